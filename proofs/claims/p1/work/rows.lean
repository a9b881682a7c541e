section
/-! Pure numbers: safe primes by trial division, the class's search and the reference's. -/
def sp_prim (n : Nat) : Prop := 2 ≤ n ∧ ∀ d : Nat, 2 ≤ d → d * d ≤ n → ¬ n % d = 0
def sp_odd (n : Nat) : Prop := ∀ d : Nat, 3 ≤ d → d % 2 = 1 → d * d ≤ n → ¬ n % d = 0
def sp_safe (n : Nat) : Prop := sp_prim n ∧ n % 2 = 1 ∧ sp_prim ((n - 1) / 2)
def sp_least (x k : Nat) : Prop := x ≤ k ∧ sp_safe k ∧ ∀ m : Nat, x ≤ m → m < k → ¬ sp_safe m
theorem sp_uniq {x a b : Nat} (ha : sp_least x a) (hb : sp_least x b) : a = b := by
  rcases Nat.lt_trichotomy a b with h | h | h
  · exact absurd ha.2.1 (hb.2.2 a ha.1 h)
  · exact h
  · exact absurd hb.2.1 (ha.2.2 b hb.1 h)
theorem sp_even {n d : Nat} (h : n % d = 0) (hd : d % 2 = 0) : n % 2 = 0 := by
  have h1 : d ∣ n := Nat.dvd_of_mod_eq_zero h
  have h2 : 2 ∣ d := Nat.dvd_of_mod_eq_zero hd
  exact Nat.mod_eq_zero_of_dvd (Nat.dvd_trans h2 h1)
theorem sp_prim_of_odd {n : Nat} (h2 : 2 ≤ n) (ho : n % 2 = 1) (h : sp_odd n) : sp_prim n := by
  refine ⟨h2, fun d hd hdd hm => ?_⟩
  rcases Nat.mod_two_eq_zero_or_one d with e | e
  · have := sp_even hm e
    omega
  · exact h d (by omega) e hdd hm
theorem sp_odd_of_prim {n : Nat} (h : sp_prim n) : sp_odd n := fun d hd _ hdd => h.2 d (by omega) hdd
theorem sp_not3 {n : Nat} (h : sp_prim n) (hn : 4 ≤ n) : ¬ n % 3 = 0 := by
  by_cases h9 : 9 ≤ n
  · exact h.2 3 (by omega) (by omega)
  · intro h3
    have e6 : n = 6 := by omega
    subst e6
    exact h.2 2 (by omega) (by omega) (by omega)
theorem sp_not2 {n : Nat} (h : sp_prim n) (hn : 4 ≤ n) : n % 2 = 1 := by
  have := h.2 2 (by omega) (by omega)
  omega
theorem sp_iff {n : Nat} (h : 11 ≤ n) : sp_safe n ↔ (n % 12 = 11 ∧ sp_odd (n / 2) ∧ sp_odd n) := by
  constructor
  · rintro ⟨h1, h2, h3⟩
    have e : (n - 1) / 2 = n / 2 := by omega
    rw [e] at h3
    have q2 := sp_not2 h3 (by omega)
    have q3 := sp_not3 h3 (by omega)
    have n3 := sp_not3 h1 (by omega)
    have e1 : n / 2 % 3 = 2 := by omega
    have e2 : n / 2 % 6 = 5 := by omega
    have e3 : n = 2 * (n / 2) + 1 := by omega
    exact ⟨by omega, sp_odd_of_prim h3, sp_odd_of_prim h1⟩
  · rintro ⟨h1, h2, h3⟩
    have e : (n - 1) / 2 = n / 2 := by omega
    refine ⟨sp_prim_of_odd (by omega) (by omega) h3, by omega, ?_⟩
    rw [e]
    exact sp_prim_of_odd (by omega) (by omega) h2
theorem sp_chk {n B : Nat} (h2 : 2 ≤ n) (hB : n < B * B) (h : (List.range B).all (fun d => decide (d < 2) || decide (¬ n % d = 0)) = true) : sp_prim n := by
  refine ⟨h2, fun d hd hdd => ?_⟩
  have hlt : d < B := by
    rcases Nat.lt_or_ge d B with q | q
    · exact q
    · have := Nat.mul_le_mul q q
      omega
  have := List.all_eq_true.mp h d (List.mem_range.mpr hlt)
  simp only [Bool.or_eq_true, decide_eq_true_eq] at this
  rcases this with q | q
  · omega
  · exact q
theorem sp_top : sp_safe 999959 := ⟨sp_chk (B := 1000) (by omega) (by omega) (by decide +kernel), by omega, sp_chk (B := 708) (by omega) (by omega) (by decide +kernel)⟩
/-- taken into lo .. hi -/
def wi (x lo hi : Int32) : Int32 := if lo < (if x < hi then x else hi) then (if x < hi then x else hi) else lo
/-- a * b modulo q -/
def tm (q a b : Int32) : Int32 := (a.toInt64 * b.toInt64 - a.toInt64 * b.toInt64 / q.toInt64 * q.toInt64).toInt32
/-- one step of a digest -/
def dg (d x : Int64) : Int64 := (d ^^^ x) * 1099511628211
/-- a power by squaring -/
def pw (q : Int32) : Nat → Nat → Int32 → Int32 → Int32
  | 0, _, r, _ => r
  | f + 1, n, r, b => if n = 0 then r else pw q f (n / 2) (if n % 2 = 1 then tm q r b else r) (tm q b b)
theorem tm_ne {q : Int32} (h : 0 < q) : ¬ q.toInt64 = 0 := by
  intro e
  have h1 := congrArg Int64.toInt e
  rw [Int32.toInt_toInt64] at h1
  have h2 := Int32.lt_iff_toInt_lt.mp h
  have h3 : (0 : Int64).toInt = 0 := rfl
  have h4 : (0 : Int32).toInt = 0 := rfl
  omega
theorem nI_ne0z {z : Int32} {k : Nat} (hz : z = nI k) (h0 : 0 < k) (h : k < 2 ^ 31) : ¬ z = 0 := by rw [hz]; exact nI_ne0 h0 h
theorem op_div {n z : Int32} {n0 k : Nat} (hn : n = nI n0) (hN : n0 < 1000000) (hz : z = nI k) (h1 : 3 ≤ k) (h3 : k ≤ 1003) : n / z = nI (n0 / k) ∧ n - n / z * z = nI (n0 % k) := by
  subst hn; subst hz
  exact ⟨pk_div (by omega) (by omega) (by omega), pk_rem (by omega) (by omega) (by omega)⟩
theorem op_lt {n z : Int32} {n0 k : Nat} (hn : n = nI n0) (hN : n0 < 1000000) (hz : z = nI k) (h1 : 3 ≤ k) (h3 : k ≤ 1003) : n / z < z ↔ n0 < k * k := by
  have hd : n0 / k ≤ n0 := Nat.div_le_self _ _
  rw [(op_div hn hN hz h1 h3).1, hz, nI_ltI (by omega) (by omega)]
  exact Nat.div_lt_iff_lt_mul (by omega)
theorem op_yes {n z : Int32} {n0 k : Nat} (hn : n = nI n0) (hN : n0 < 1000000) (hz : z = nI k) (h1 : 3 ≤ k) (h3 : k ≤ 1003) (h4 : ∀ j : Nat, 3 ≤ j → j % 2 = 1 → j < k → ¬ n0 % j = 0) (c : n / z < z) : sp_odd n0 := by
  have hlt := (op_lt hn hN hz h1 h3).mp c
  intro d hd ho hdd
  refine h4 d hd ho ?_
  rcases Nat.lt_or_ge d k with q | q
  · exact q
  · have := Nat.mul_le_mul q q
    omega
theorem op_rem {n z : Int32} {n0 k : Nat} (hn : n = nI n0) (hN : n0 < 1000000) (hz : z = nI k) (h1 : 3 ≤ k) (h3 : k ≤ 1003) : n - n / z * z = 0 ↔ n0 % k = 0 := by
  have hm : n0 % k < k := Nat.mod_lt _ (by omega)
  rw [(op_div hn hN hz h1 h3).2, ← nI_0]
  exact nI_eq (by omega) (by omega)
theorem op_no {n z : Int32} {n0 k : Nat} (hn : n = nI n0) (hN : n0 < 1000000) (hz : z = nI k) (h1 : 3 ≤ k) (h2 : k % 2 = 1) (h3 : k ≤ 1003) (c : ¬ n / z < z) (c2 : n - n / z * z = 0) : ¬ sp_odd n0 := by
  rw [op_lt hn hN hz h1 h3] at c
  rw [op_rem hn hN hz h1 h3] at c2
  exact fun h => h k h1 h2 (by omega) c2
theorem op_next {n z : Int32} {n0 k : Nat} (hn : n = nI n0) (hN : n0 < 1000000) (hz : z = nI k) (h1 : 3 ≤ k) (h2 : k % 2 = 1) (h3 : k ≤ 1003) (h4 : ∀ j : Nat, 3 ≤ j → j % 2 = 1 → j < k → ¬ n0 % j = 0) (c : ¬ n / z < z) (c2 : ¬ n - n / z * z = 0) : k + 2 ≤ 1003 ∧ (∀ j : Nat, 3 ≤ j → j % 2 = 1 → j < k + 2 → ¬ n0 % j = 0) := by
  rw [op_lt hn hN hz h1 h3] at c
  rw [op_rem hn hN hz h1 h3] at c2
  refine ⟨?_, fun j a b d => ?_⟩
  · rcases Nat.lt_or_ge k 1000 with q | q
    · omega
    · have := Nat.mul_le_mul q q
      omega
  · rcases Nat.lt_or_ge j k with q | q
    · exact h4 j a b q
    · have e : j = k := by omega
      rw [e]; exact c2
theorem sf_half {z : Int32} {k : Nat} (hz : z = nI k) (h3 : k ≤ 999959) : z / 2 = nI (k / 2) := by
  rw [hz]; exact pk_div (a := k) (d := 2) (by omega) (by omega) (by omega)
theorem sf_start {n z : Int32} {n0 : Nat} (hn : n = nI n0) (h11 : 11 ≤ n0) (hN : n0 ≤ 999959) (hz : z = n + 11 - (n - n / 12 * 12)) : ∃ k : Nat, z = nI k ∧ n0 ≤ k ∧ k % 12 = 11 ∧ k ≤ 999959 ∧ ∀ j : Nat, n0 ≤ j → j < k → ¬ sp_safe j := by
  refine ⟨n0 + 11 - n0 % 12, ?_, by omega, by omega, by omega, fun j a b h => ?_⟩
  · rw [hz, hn, show (nI n0 - nI n0 / 12 * 12 : Int32) = nI (n0 % 12) from pk_rem (a := n0) (d := 12) (by omega) (by omega) (by omega), show (nI n0 + 11 : Int32) = nI (n0 + 11) from nI_add n0 11, pk_sub (by omega)]
  · have := ((sp_iff (by omega)).mp h).1
    omega
theorem sf_c13 {z : Int32} {k : Nat} (hz : z = nI k) (h3 : k ≤ 999959) : (999959 : Int32) ≤ z ↔ 999959 ≤ k := by
  rw [hz, show (999959 : Int32) = nI 999959 from rfl]
  exact nI_leI (by omega) (by omega)
theorem sf_yes {z r1 r2 : Int32} {n0 k : Nat} (hz : z = nI k) (h11 : 11 ≤ n0) (h1 : n0 ≤ k) (h2 : k % 12 = 11) (h3 : k ≤ 999959) (h4 : ∀ j : Nat, n0 ≤ j → j < k → ¬ sp_safe j) (a1 : (r1 = 1 ∧ sp_odd (k / 2)) ∨ (r1 = 0 ∧ ¬ sp_odd (k / 2))) (b1 : ¬ r1 = 0) (a2 : (r2 = 1 ∧ sp_odd k) ∨ (r2 = 0 ∧ ¬ sp_odd k)) (b2 : ¬ r2 = 0) : ∃ k' : Nat, k' ≤ 999959 ∧ z = nI k' ∧ sp_least n0 k' := by
  refine ⟨k, h3, hz, h1, (sp_iff (by omega)).mpr ⟨h2, ?_, ?_⟩, h4⟩
  · rcases a1 with q | q
    · exact q.2
    · exact absurd q.1 b1
  · rcases a2 with q | q
    · exact q.2
    · exact absurd q.1 b2
theorem sf_not1 {r1 : Int32} {n0 k : Nat} (h11 : 11 ≤ n0) (h1 : n0 ≤ k) (_ : k % 12 = 11) (a1 : (r1 = 1 ∧ sp_odd (k / 2)) ∨ (r1 = 0 ∧ ¬ sp_odd (k / 2))) (b1 : r1 = 0) : ¬ sp_safe k := by
  intro h
  have g := ((sp_iff (by omega)).mp h).2.1
  rcases a1 with q | q
  · rw [b1] at q; exact absurd q.1 (by decide)
  · exact q.2 g
theorem sf_not2 {r1 r2 : Int32} {n0 k : Nat} (h11 : 11 ≤ n0) (h1 : n0 ≤ k) (_ : k % 12 = 11) (_ : (r1 = 1 ∧ sp_odd (k / 2)) ∨ (r1 = 0 ∧ ¬ sp_odd (k / 2))) (_ : ¬ r1 = 0) (a2 : (r2 = 1 ∧ sp_odd k) ∨ (r2 = 0 ∧ ¬ sp_odd k)) (b2 : r2 = 0) : ¬ sp_safe k := by
  intro h
  have g := ((sp_iff (by omega)).mp h).2.2
  rcases a2 with q | q
  · rw [b2] at q; exact absurd q.1 (by decide)
  · exact q.2 g
theorem sf_next {z : Int32} {n0 k : Nat} (hz : z = nI k) (h11 : 11 ≤ n0) (h1 : n0 ≤ k) (h2 : k % 12 = 11) (h3 : k ≤ 999959) (h4 : ∀ j : Nat, n0 ≤ j → j < k → ¬ sp_safe j) (c : ¬ (999959 : Int32) ≤ z) (hn : ¬ sp_safe k) : k + 12 ≤ 999959 ∧ ∀ j : Nat, n0 ≤ j → j < k + 12 → ¬ sp_safe j := by
  rw [sf_c13 hz h3] at c
  refine ⟨by omega, fun j a b => ?_⟩
  rcases Nat.lt_or_ge j k with q | q
  · exact h4 j a q
  · by_cases e : j = k
    · rw [e]; exact hn
    · intro h
      have := ((sp_iff (by omega)).mp h).1
      omega
theorem sf_end {z : Int32} {n0 k : Nat} (hz : z = nI k) (h1 : n0 ≤ k) (h3 : k ≤ 999959) (h4 : ∀ j : Nat, n0 ≤ j → j < k → ¬ sp_safe j) (c : (999959 : Int32) ≤ z) : ∃ k' : Nat, k' ≤ 999959 ∧ (999959 : Int32) = nI k' ∧ sp_least n0 k' := by
  rw [sf_c13 hz h3] at c
  have e : k = 999959 := by omega
  subst e
  exact ⟨999959, by omega, rfl, h1, sp_top, h4⟩
theorem pw_end {q z r b R : Int32} {f n : Nat} (hz : z = nI n) (h3 : n < 2 ^ 31) (c : z ≤ 0) (hw : pw q (f + 1) n r b = R) : r = R := by
  rw [hz, ← nI_0, nI_leI h3 (by omega)] at c
  rw [← hw, pw, if_pos (by omega)]
theorem pw_step {q z r b R : Int32} {f n : Nat} (hz : z = nI n) (h2 : n < 2 ^ f) (h3 : n < 2 ^ 31) (c : ¬ z ≤ 0) (hw : pw q (f + 1) n r b = R) : (z &&& 1 = 1 ↔ n % 2 = 1) ∧ z >>> ((1 : Int32) &&& 31) = nI (n / 2) ∧ 0 < f ∧ n / 2 < 2 ^ (f - 1) ∧ pw q f (n / 2) (if n % 2 = 1 then tm q r b else r) (tm q b b) = R := by
  have hn : ¬ n = 0 := by
    intro e
    apply c
    rw [hz, e]
    decide
  have hf : 0 < f := by
    rcases Nat.eq_zero_or_pos f with e | e
    · rw [e] at h2; simp at h2; omega
    · exact e
  have h5 : n / 2 < 2 ^ (f - 1) := by
    obtain ⟨g, rfl⟩ : ∃ g, f = g + 1 := ⟨f - 1, by omega⟩
    rw [Nat.pow_succ] at h2
    simp
    omega
  refine ⟨?_, ?_, hf, h5, ?_⟩
  · rw [hz, show (nI n &&& 1 : Int32) = nI (n % 2) from pk_andN (n := n) (by omega) (m := 1) 1 rfl, show (1 : Int32) = nI 1 from rfl]
    exact nI_eq (by omega) (by omega)
  · rw [hz]
    exact pk_shrN h3 ((1 : Int32) &&& 31) 1 (by decide)
  · rw [pw, if_neg hn] at hw
    exact hw
theorem pw_odd {q z r b R : Int32} {f n : Nat} (hz : z = nI n) (h2 : n < 2 ^ (f + 1 - 1)) (h3 : n < 2 ^ 31) (c : ¬ z ≤ 0) (c2 : z &&& 1 = 1) (hw : pw q (f + 1) n r b = R) : z >>> ((1 : Int32) &&& 31) = nI (n / 2) ∧ 0 < f ∧ n / 2 < 2 ^ (f - 1) ∧ pw q f (n / 2) (tm q r b) (tm q b b) = R := by
  obtain ⟨g1, g2, g3, g4, g5⟩ := pw_step hz h2 h3 c hw
  rw [if_pos (g1.mp c2)] at g5
  exact ⟨g2, g3, g4, g5⟩
theorem pw_even {q z r b R : Int32} {f n : Nat} (hz : z = nI n) (h2 : n < 2 ^ (f + 1 - 1)) (h3 : n < 2 ^ 31) (c : ¬ z ≤ 0) (c2 : ¬ z &&& 1 = 1) (hw : pw q (f + 1) n r b = R) : z >>> ((1 : Int32) &&& 31) = nI (n / 2) ∧ 0 < f ∧ n / 2 < 2 ^ (f - 1) ∧ pw q f (n / 2) r (tm q b b) = R := by
  obtain ⟨g1, g2, g3, g4, g5⟩ := pw_step hz h2 h3 c hw
  rw [if_neg (fun h => c2 (g1.mpr h))] at g5
  exact ⟨g2, g3, g4, g5⟩
end
section
/-! Contracts that only read; contracts that write and keep the order of the cells; arrays of a class that is known. -/
abbrev tyS (cA : Nat → ClassId) : List (ClassId × FieldType) := [(cA 0, .int), (cA 1, .boolean), (cA 2, .long), (cA 3, .object "MixElection$Pairs"), (cA 4, .array .int)]
/-- what the tables say of the arrays of arrays, and of the arrays of Pairs -/
def xK (cA : Nat → ClassId) (U : State) : Prop := (∃ kA : Class, U.vm.classes[cA 4]? = some kA ∧ kA.kind = .array (cA 0) (.array .int)) ∧ va_AO "MixElection$Pairs" U
theorem xK.moved {cA : Nat → ClassId} {u U : State} (hvm : u.vm.Alike U.vm) (h : xK cA u) : xK cA U := by
  obtain ⟨⟨kA, h1, h2⟩, h3⟩ := h
  obtain ⟨k2, h4, h5⟩ := hvm.2.2 _ _ h1
  exact ⟨⟨k2, h4, by rw [h5]; exact h2⟩, h3.moved hvm⟩
def rq_p (post : Int32 → Prop) : Array Value → State → Outcome → State → Prop := fun _ st o t => ∃ r : Int32, o = .returned (some (.int r)) ∧ post r ∧ t.heap = st.heap
def rq_x (v : Option Value) : Array Value → State → Outcome → State → Prop := fun _ st o t => o = .returned v ∧ t.heap = st.heap
def wA (ws : va_W) : Nat → Prop := fun q => q ∈ ws.map Prod.fst
def wq_x (cl : List vw_C) (D : va_G) (w1 : va_W) (v : Option Value) (A : Nat → Prop) : Array Value → State → Outcome → State → Prop := fun _ st o t => o = .returned v ∧ va_P D cl w1 t.heap ∧ va_F A st t
abbrev rPc (cl : List vw_C) (D : va_G) (cA : Nat → ClassId) (W0 : va_W) (av : List Value) : Array Value → State → Prop := va_Pc av (fun U => va_P D cl W0 U.heap ∧ va_K D cl (tyS cA) U)
abbrev wPc (cl : List vw_C) (D : va_G) (cA : Nat → ClassId) (W0 : va_W) (av : List Value) : Array Value → State → Prop := va_Pc av (fun U => va_P D cl W0 U.heap ∧ va_K D cl (tyS cA) U ∧ va_D (fun _ => True) W0)
abbrev iPc (cl : List vw_C) (D : va_G) (cA : Nat → ClassId) (sz : Nat) (W0 : va_W) (av : List Value) : Array Value → State → Prop := va_Pc av (fun U => U.heap.size = sz ∧ va_P D cl W0 U.heap ∧ va_K D cl (tyS cA) U ∧ va_D (fun _ => True) W0 ∧ xK cA U)
theorem in_blind {cl : List vw_C} {D : va_G} {cA : Nat → ClassId} {sz : Nat} {W0 : va_W} {av : List Value} : FrameBlind (iPc cl D cA sz W0 av) := fun a U g mk q => ⟨q.1, q.2.1, q.2.2.1, va_K.moved (u := U) (U := U.calling g mk a) (Vm.Alike.refl U.vm) q.2.2.2.1, q.2.2.2.2.1, xK.moved (u := U) (U := U.calling g mk a) (Vm.Alike.refl U.vm) q.2.2.2.2.2⟩
theorem rq_blind {cl : List vw_C} {D : va_G} {cA : Nat → ClassId} {W0 : va_W} {av : List Value} : FrameBlind (rPc cl D cA W0 av) := fun a U g mk q => ⟨q.1, q.2.1, va_K.moved (u := U) (U := U.calling g mk a) (Vm.Alike.refl U.vm) q.2.2⟩
theorem wq_blind {cl : List vw_C} {D : va_G} {cA : Nat → ClassId} {W0 : va_W} {av : List Value} : FrameBlind (wPc cl D cA W0 av) := fun a U g mk q => ⟨q.1, q.2.1, va_K.moved (u := U) (U := U.calling g mk a) (Vm.Alike.refl U.vm) q.2.2.1, q.2.2.2⟩
section RQ
variable {p : Program} {l : Launch} {e : Env} {R : Room} {s : State} {m : MethodId} {args : Array Value} {below : List Frame} {meth : Method} {c : Code} {H : Heap} {locs : List Loc} {cells slots : Nat} {Q : State → Prop}
variable {pc : Nat} {ls : Array Slot} {rest st0 : List Value} {a : Array Value} {A0 A1 : Nat → Prop} {H0 : Heap} {mc ms : Nat} {D : va_G} {cA : Nat → ClassId} {cl : List vw_C}
theorem rq_callp {post : Int32 → Prop} (hr : va_Run p l e R s m args below meth c H locs cells slots 0 0 (F0 m pc ls st0) rest (rq_p post a) (fun _ => False))
    (kk : ∀ r : Int32, post r → W p l e R s m args below meth c H locs cells slots Q (F0 m (pc + 3) ls (.int r :: rest))) : W p l e R s m args below meth c H locs cells slots Q (F0 m pc ls st0) := by
  intro T hT X
  obtain ⟨v, st₀, t, T', L, h0, X', hL, e1, e2, ⟨k, hv, hp, hh⟩, st⟩ := hr T hT X
  cases hv
  obtain ⟨t2, a1, b1⟩ := kk k hp T' (by rw [e1, hh, h0]) (Stand.forget X' (fun q h => (hL q h).elim))
  exact ⟨t2, st t2 a1, b1⟩
theorem rq_call1 {v : Value} (hr : va_Run p l e R s m args below meth c H locs cells slots 0 0 (F0 m pc ls st0) rest (rq_x (some v) a) (fun _ => False))
    (kk : W p l e R s m args below meth c H locs cells slots Q (F0 m (pc + 3) ls (v :: rest))) : W p l e R s m args below meth c H locs cells slots Q (F0 m pc ls st0) := by
  intro T hT X
  obtain ⟨v, st₀, t, T', L, h0, X', hL, e1, e2, ⟨hv, hh⟩, st⟩ := hr T hT X
  cases hv
  obtain ⟨t2, a1, b1⟩ := kk T' (by rw [e1, hh, h0]) (Stand.forget X' (fun q h => (hL q h).elim))
  exact ⟨t2, st t2 a1, b1⟩
theorem rq_call0 (hr : va_Run p l e R s m args below meth c H locs cells slots 0 0 (F0 m pc ls st0) rest (rq_x none a) (fun _ => False))
    (kk : W p l e R s m args below meth c H locs cells slots Q (F0 m (pc + 3) ls rest)) : W p l e R s m args below meth c H locs cells slots Q (F0 m pc ls st0) := by
  intro T hT X
  obtain ⟨v, st₀, t, T', L, h0, X', hL, e1, e2, ⟨hv, hh⟩, st⟩ := hr T hT X
  cases hv
  obtain ⟨t2, a1, b1⟩ := kk T' (by rw [e1, hh, h0]) (Stand.forget X' (fun q h => (hL q h).elim))
  exact ⟨t2, st t2 a1, b1⟩
theorem wq_S {L : List Loc} {t T' : State} (hS : va_S A0 H0 H locs) (hA : ∀ q, A1 q → A0 q) (hz : H.size ≤ t.heap.size) (hk : ∀ q : Nat, q < H.size → ¬ A1 q → t.heap[q]? = H[q]?) (hL : ∀ q ∈ L, A1 q.base) (e1 : T'.heap = t.heap) : va_S A0 H0 T'.heap (locs ++ L) := by
  refine ⟨Nat.le_trans hS.1 (by rw [e1]; exact hz), fun q h1 h2 => by rw [e1, hk q (Nat.lt_of_lt_of_le h1 hS.1) (fun z => h2 (hA q z))]; exact hS.2.1 q h1 h2, fun q hq => ?_⟩
  rcases List.mem_append.mp hq with h | h
  · exact hS.2.2 q h
  · exact hA _ (hL q h)
theorem wq_join {ws wc w1 ws' : va_W} {H1 : Heap} (hP : va_P D cl ws H) (hD : va_D A0 ws) (isC isR : List Nat) (hC : isC.map (fun i => ws[i]?) = wc.map some) (hC1 : isC.map (fun i => ws'[i]?) = w1.map some) (hR : isR.map (fun i => ws'[i]?) = isR.map (fun i => ws[i]?)) (had : ws'.map Prod.fst = ws.map Prod.fst) (hw : w1.map Prod.fst = wc.map Prod.fst)
    (hall : (List.range ws'.length).all (fun k => isC.contains k || (isR.contains k && !isC.contains k)) = true)
    (hk : ∀ q : Nat, q < H.size → ¬ wA wc q → H1[q]? = H[q]?) (hP1 : va_P D cl w1 H1) : va_P D cl ws' H1 ∧ va_D A0 ws' := by
  have at' : ∀ {w v : va_W} {is : List Nat}, is.map (fun i => w[i]?) = v.map some → ∀ (k : Nat) (q : Nat × va_E), v[k]? = some q → ∃ i, is[k]? = some i ∧ w[i]? = some q := by
    intro w v is hs k q hq
    have h1 : (is.map (fun i => w[i]?))[k]? = some (some q) := by rw [hs, List.getElem?_map, hq]; rfl
    rw [List.getElem?_map] at h1
    cases hi : is[k]? with
    | none => rw [hi] at h1; cases h1
    | some i => rw [hi] at h1; exact ⟨i, rfl, Option.some.inj h1⟩
  have ad : ∀ (k : Nat) (q : Nat × va_E), ws'[k]? = some q → ∃ q', ws[k]? = some q' ∧ q'.1 = q.1 := by
    intro k q hq
    have h1 : (ws'.map Prod.fst)[k]? = some q.1 := by rw [List.getElem?_map, hq]; rfl
    rw [had, List.getElem?_map] at h1
    cases hi : ws[k]? with
    | none => rw [hi] at h1; cases h1
    | some q' => rw [hi] at h1; exact ⟨q', rfl, Option.some.inj h1⟩
  refine ⟨fun k q hq => ?_, fun i j x y hi hj hxy => ?_, fun k q hq => ?_⟩
  · have hlt : k < ws'.length := (List.getElem?_eq_some_iff.mp hq).1
    have hc := List.all_eq_true.mp hall k (List.mem_range.mpr hlt)
    simp only [Bool.or_eq_true, Bool.and_eq_true, List.contains_iff_mem, Bool.not_eq_true', decide_eq_false_iff_not] at hc
    rcases hc with hc | ⟨hc, hn⟩
    · obtain ⟨j, hj⟩ := List.getElem?_of_mem hc
      have h2 : (isC.map (fun i => ws'[i]?))[j]? = some (some q) := by rw [List.getElem?_map, hj]; exact congrArg some hq
      rw [hC1, List.getElem?_map] at h2
      cases hw1 : w1[j]? with
      | none => rw [hw1] at h2; cases h2
      | some z =>
        rw [hw1] at h2
        have hz : z = q := Option.some.inj (Option.some.inj h2)
        rw [hz] at hw1
        exact hP1 j q hw1
    · obtain ⟨j, hj⟩ := List.getElem?_of_mem hc
      have h2 : (isR.map (fun i => ws'[i]?))[j]? = some (some q) := by rw [List.getElem?_map, hj]; exact congrArg some hq
      rw [hR, List.getElem?_map, hj] at h2
      have hwk : ws[k]? = some q := Option.some.inj h2
      have hat := hP k q hwk
      refine hat.kept (hk q.1 hat.lt (fun hm => ?_))
      obtain ⟨z, hz, hze⟩ := List.mem_map.mp hm
      obtain ⟨j2, hj2⟩ := List.getElem?_of_mem hz
      obtain ⟨i2, h5, h6⟩ := at' hC j2 z hj2
      have he := hD.1 k i2 q z hwk h6 hze.symm
      rw [he] at hn
      have : isC.contains i2 = true := List.contains_iff_mem.mpr (List.mem_of_getElem? h5)
      rw [this] at hn
      cases hn
  · obtain ⟨x', hx1, hx2⟩ := ad i x hi
    obtain ⟨y', hy1, hy2⟩ := ad j y hj
    exact hD.1 i j x' y' hx1 hy1 (by rw [hx2, hy2, hxy])
  · obtain ⟨q', h1, h2⟩ := ad k q hq
    rw [← h2]
    exact hD.2 k q' h1
theorem wq_call1 {ws wc w1 ws' : va_W} {v : Value} (hr : va_Run p l e R s m args below meth c H locs cells slots 0 0 (F0 m pc ls st0) rest (wq_x cl D w1 (some v) (wA wc) a) (wA wc)) (hP : va_P D cl ws H) (hD : va_D A0 ws) (hS : va_S A0 H0 H locs) (isC isR : List Nat) (hC : isC.map (fun i => ws[i]?) = wc.map some) (hC1 : isC.map (fun i => ws'[i]?) = w1.map some) (hR : isR.map (fun i => ws'[i]?) = isR.map (fun i => ws[i]?)) (had : ws'.map Prod.fst = ws.map Prod.fst) (hw : w1.map Prod.fst = wc.map Prod.fst)
    (hall : (List.range ws'.length).all (fun k => isC.contains k || (isR.contains k && !isC.contains k)) = true)
    (kk : ∀ (H : Heap) (locs : List Loc), va_P D cl ws' H → va_D A0 ws' → va_S A0 H0 H locs → W p l e R s m args below meth c H locs cells slots Q (F0 m (pc + 3) ls (v :: rest))) : W p l e R s m args below meth c H locs cells slots Q (F0 m pc ls st0) := by
  intro T hT X
  obtain ⟨v, st₀, t, T', L, h0, X', hL, e1, e2, ⟨hv, hp1, hz, hk⟩, st⟩ := hr T hT X
  cases hv
  rw [h0] at hz hk
  have hin : ∀ q, wA wc q → A0 q := fun q hm => by
    obtain ⟨z, hz, hze⟩ := List.mem_map.mp hm
    obtain ⟨j, hj⟩ := List.getElem?_of_mem hz
    have h1 : (isC.map (fun i => ws[i]?))[j]? = some (some z) := by rw [hC, List.getElem?_map, hj]; rfl
    rw [List.getElem?_map] at h1
    cases hi : isC[j]? with
    | none => rw [hi] at h1; cases h1
    | some i => rw [hi] at h1; rw [← hze]; exact hD.2 i z (Option.some.inj h1)
  obtain ⟨g1, g2⟩ := wq_join (ws' := ws') hP hD isC isR hC hC1 hR had hw hall (H1 := T'.heap) (fun q h1 h2 => by rw [e1]; exact hk q h1 h2) (by rw [e1]; exact hp1)
  obtain ⟨t2, a1, b1⟩ := kk T'.heap (locs ++ L) g1 g2 (wq_S hS hin hz hk hL e1) T' rfl X'
  exact ⟨t2, st t2 a1, b1⟩
theorem wq_call0 {ws wc w1 ws' : va_W} (hr : va_Run p l e R s m args below meth c H locs cells slots 0 0 (F0 m pc ls st0) rest (wq_x cl D w1 none (wA wc) a) (wA wc)) (hP : va_P D cl ws H) (hD : va_D A0 ws) (hS : va_S A0 H0 H locs) (isC isR : List Nat) (hC : isC.map (fun i => ws[i]?) = wc.map some) (hC1 : isC.map (fun i => ws'[i]?) = w1.map some) (hR : isR.map (fun i => ws'[i]?) = isR.map (fun i => ws[i]?)) (had : ws'.map Prod.fst = ws.map Prod.fst) (hw : w1.map Prod.fst = wc.map Prod.fst)
    (hall : (List.range ws'.length).all (fun k => isC.contains k || (isR.contains k && !isC.contains k)) = true)
    (kk : ∀ (H : Heap) (locs : List Loc), va_P D cl ws' H → va_D A0 ws' → va_S A0 H0 H locs → W p l e R s m args below meth c H locs cells slots Q (F0 m (pc + 3) ls rest)) : W p l e R s m args below meth c H locs cells slots Q (F0 m pc ls st0) := by
  intro T hT X
  obtain ⟨v, st₀, t, T', L, h0, X', hL, e1, e2, ⟨hv, hp1, hz, hk⟩, st⟩ := hr T hT X
  cases hv
  rw [h0] at hz hk
  have hin : ∀ q, wA wc q → A0 q := fun q hm => by
    obtain ⟨z, hz, hze⟩ := List.mem_map.mp hm
    obtain ⟨j, hj⟩ := List.getElem?_of_mem hz
    have h1 : (isC.map (fun i => ws[i]?))[j]? = some (some z) := by rw [hC, List.getElem?_map, hj]; rfl
    rw [List.getElem?_map] at h1
    cases hi : isC[j]? with
    | none => rw [hi] at h1; cases h1
    | some i => rw [hi] at h1; rw [← hze]; exact hD.2 i z (Option.some.inj h1)
  obtain ⟨g1, g2⟩ := wq_join (ws' := ws') hP hD isC isR hC hC1 hR had hw hall (H1 := T'.heap) (fun q h1 h2 => by rw [e1]; exact hk q h1 h2) (by rw [e1]; exact hp1)
  obtain ⟨t2, a1, b1⟩ := kk T'.heap (locs ++ L) g1 g2 (wq_S hS hin hz hk hL e1) T' rfl X'
  exact ⟨t2, st t2 a1, b1⟩
variable {y : MethodName} {bytes cc : ByteArray} {maxL nL n index : Nat} {ret : Option FieldType} {ws : List Cond} {rm : Room} {Qc : Array Value → State → Outcome → State → Prop} {free : Addr → Prop} {Ts : List Cond} {own C : String} {b : Addr} {As : List Value} {g : JFrame} {W0 ws0 : va_W}
/-- a call of a method that only reads: of an object -/
theorem rn_V (S : CallFix p m c cc nL s args Ts own) (hM : Met l y ws rm (rPc cl D cA W0 (.ref b :: As)) Qc mc ms free) {ci : Nat} {q : vw_C} {fs : List Value} (hc : cl[ci]? = some q) (cw : CallW R s args own q.1 index y bytes maxL ret ws rm mc ms n) (hK : va_K D cl (tyS cA) s) (hP : va_P D cl ws0 H) (is : List Nat) (hs : is.filterMap (fun i => ws0[i]?) = W0) (he : W0[0]? = some (b, .inr (ci, fs)))
    (hn : As.length = n) (hsize : ls.size = nL) (hstack : st0 = As.reverse ++ .ref b :: rest) (hW : (rest.map fun v => v.category).sum ≤ 8) (hdg : decode cc pc = .ok (.invokevirtual index, 3)) (hf : cells + mc ≤ R.cells ∧ slots + ms ≤ R.slots) :
    va_Run p l e R s m args below meth c H locs cells slots mc ms (F0 m pc ls st0) rest (Qc (Value.ref b :: As).toArray) free :=
  have hPc := hP.sub is hs
  va_runV S hM cw ⟨rq_blind, va_recv hK hPc hc he, fun U hU hW => ⟨rfl, by rw [hU]; exact hPc, va_K.moved hW.alike hK⟩⟩ rfl hn hsize hstack (lv_room hW) hdg hf
theorem rn_S (S : CallFix p m c cc nL s args Ts own) (hM : Met l y ws rm (rPc cl D cA W0 As) Qc mc ms free) (cw : CallB R s args own index y bytes maxL ret ws rm mc ms n ∧ (Cond.static y).before args s = true) (hK : va_K D cl (tyS cA) s) (hP : va_P D cl ws0 H) (is : List Nat) (hs : is.filterMap (fun i => ws0[i]?) = W0)
    (hn : As.length = n) (hsize : ls.size = nL) (hstack : st0 = As.reverse ++ rest) (hW : (rest.map fun v => v.category).sum ≤ 8) (hdg : decode cc pc = .ok (.invokestatic index, 3)) (hf : cells + mc ≤ R.cells ∧ slots + ms ≤ R.slots) :
    va_Run p l e R s m args below meth c H locs cells slots mc ms (F0 m pc ls st0) rest (Qc As.toArray) free :=
  have hPc := hP.sub is hs
  va_runS S hM cw ⟨rq_blind, fun U hU hW => ⟨rfl, by rw [hU]; exact hPc, va_K.moved hW.alike hK⟩⟩ rfl hn hsize hstack (lv_room hW) hdg hf
/-- a call of a method that writes -/
theorem wn_V (S : CallFix p m c cc nL s args Ts own) (hM : Met l y ws rm (wPc cl D cA W0 (.ref b :: As)) Qc mc ms free) {ci : Nat} {q : vw_C} {fs : List Value} (hc : cl[ci]? = some q) (cw : CallW R s args own q.1 index y bytes maxL ret ws rm mc ms n) (hK : va_K D cl (tyS cA) s) (hP : va_P D cl ws0 H) (hD : va_D A0 ws0) (is : List Nat) (hs : is.filterMap (fun i => ws0[i]?) = W0) (hnd : va_nd is = true) (hs2 : is.map (fun i => ws0[i]?) = W0.map some) (he : W0[0]? = some (b, .inr (ci, fs)))
    (hn : As.length = n) (hsize : ls.size = nL) (hstack : st0 = As.reverse ++ .ref b :: rest) (hW : (rest.map fun v => v.category).sum ≤ 8) (hdg : decode cc pc = .ok (.invokevirtual index, 3)) (hf : cells + mc ≤ R.cells ∧ slots + ms ≤ R.slots) :
    va_Run p l e R s m args below meth c H locs cells slots mc ms (F0 m pc ls st0) rest (Qc (Value.ref b :: As).toArray) free :=
  have hPc := hP.sub is hs
  va_runV S hM cw ⟨wq_blind, va_recv hK hPc hc he, fun U hU hW => ⟨rfl, by rw [hU]; exact hPc, va_K.moved hW.alike hK, (hD.sub is hnd hs2).weaken (fun _ _ _ _ => trivial)⟩⟩ rfl hn hsize hstack (lv_room hW) hdg hf
theorem wn_S (S : CallFix p m c cc nL s args Ts own) (hM : Met l y ws rm (wPc cl D cA W0 As) Qc mc ms free) (cw : CallB R s args own index y bytes maxL ret ws rm mc ms n ∧ (Cond.static y).before args s = true) (hK : va_K D cl (tyS cA) s) (hP : va_P D cl ws0 H) (hD : va_D A0 ws0) (is : List Nat) (hs : is.filterMap (fun i => ws0[i]?) = W0) (hnd : va_nd is = true) (hs2 : is.map (fun i => ws0[i]?) = W0.map some)
    (hn : As.length = n) (hsize : ls.size = nL) (hstack : st0 = As.reverse ++ rest) (hW : (rest.map fun v => v.category).sum ≤ 8) (hdg : decode cc pc = .ok (.invokestatic index, 3)) (hf : cells + mc ≤ R.cells ∧ slots + ms ≤ R.slots) :
    va_Run p l e R s m args below meth c H locs cells slots mc ms (F0 m pc ls st0) rest (Qc As.toArray) free :=
  have hPc := hP.sub is hs
  va_runS S hM cw ⟨wq_blind, fun U hU hW => ⟨rfl, by rw [hU]; exact hPc, va_K.moved hW.alike hK, (hD.sub is hnd hs2).weaken (fun _ _ _ _ => trivial)⟩⟩ rfl hn hsize hstack (lv_room hW) hdg hf
theorem va_RA_inj {U : State} {a b : ClassId} {ty : FieldType} (h1 : va_RA U a ty) (h2 : va_RA U b ty) : a = b := by
  cases ty with
  | object C =>
    obtain ⟨_, _, _, _, _, h3⟩ := h1
    obtain ⟨_, _, _, _, _, h4⟩ := h2
    exact Option.some.inj (h3.symm.trans h4)
  | _ => exact Option.some.inj (Eq.trans (Eq.symm h1) h2)
theorem wn_I (S : CallFix p m c cc nL s args Ts own) (hM : Met l y ws rm (wPc cl D cA W0 (.ref b :: As)) Qc mc ms free) (cw : CallB R s args own index y bytes maxL none ws rm mc ms n ∧ y.name = "<init>" ∧ (Cond.instanceMethod y).before args s = true) (hK : va_K D cl (tyS cA) s) (hP : va_P D cl ws0 H) (hD : va_D A0 ws0) (is : List Nat) (hs : is.filterMap (fun i => ws0[i]?) = W0) (hnd : va_nd is = true) (hs2 : is.map (fun i => ws0[i]?) = W0.map some)
    (hn : As.length = n) (hsize : ls.size = nL) (hstack : st0 = As.reverse ++ .ref b :: rest) (hW : (rest.map fun v => v.category).sum ≤ 8) (hdg : decode cc pc = .ok (.invokespecial index, 3)) (hf : cells + mc ≤ R.cells ∧ slots + ms ≤ R.slots) :
    va_Run p l e R s m args below meth c H locs cells slots mc ms (F0 m pc ls st0) rest (Qc (Value.ref b :: As).toArray) free :=
  have hPc := hP.sub is hs
  va_runI S hM cw ⟨wq_blind, fun U hU hW => ⟨rfl, by rw [hU]; exact hPc, va_K.moved hW.alike hK, (hD.sub is hnd hs2).weaken (fun _ _ _ _ => trivial)⟩⟩ rfl hn hsize hstack (lv_room hW) hdg hf
/-- newarray of a class that is known already -/
theorem ka_newa {D : va_G} {cl : List vw_C} {A : Nat → Prop} {tys : List (ClassId × FieldType)} {ws : va_W} (hexec : p.tables.exec = Jvm.exec) (hb : c.code = cc) {atype : ArrayType} (harr : (Cond.arrayClass (newarray.typeOf atype)).before args s = true) {ty : FieldType} (hty : newarray.typeOf atype = ty) (hK : va_K D cl tys s) (hP : va_P D cl ws H) (hD : va_D A ws) (hS : va_S A H0 H locs) (hA : ∀ q, H0.size ≤ q → A q) (t0 : Nat) {cA : ClassId} (ht : tys[t0]? = some (cA, ty))
    {n : Int32} {N' : Nat} {a0 : vp_A} (ha : ∀ cA : ClassId, vp_cell cA a0 = arrV cA N' (fun _ => defaultValue ty)) (hn : ¬ n < 0) (hN : n.toNatClampNeg = N') (hbytes : N' * componentBytes ty ≤ 536870912) (hcells : cells + 1 ≤ R.cells) (hslots : slots + N' ≤ R.slots) (hdg : decode cc pc = .ok (.newarray atype, 2))
    (kk : ∀ (q : Nat) (H1 : Heap), va_P D cl (ws ++ [(q, .inl (cA, a0))]) H1 → va_D A (ws ++ [(q, .inl (cA, a0))]) → va_S A H0 H1 locs →
      W p l e R s m args below meth c H1 locs (cells + 1) (slots + N') Q (F0 m (pc + 2) ls (.ref q :: rest))) : W p l e R s m args below meth c H locs cells slots Q (F0 m pc ls (.int n :: rest)) := by
  refine va_newa hexec hb harr hty hK hP hD hS hA ha hn hN hbytes hcells hslots hdg (fun q cA' H1 hK' hP' hD' hS' => ?_)
  have e1 := (hK'.2 tys.length (cA', ty) (by simp)).2
  have e2 := (hK.2 t0 _ ht).2
  have e3 : cA' = cA := va_RA_inj e1 e2
  subst e3
  exact kk q H1 hP' hD' hS'
/-- anewarray of a class that is known already -/
theorem ka_newq {D : va_G} {cl : List vw_C} {A : Nat → Prop} {tys : List (ClassId × FieldType)} {ws : va_W} (hexec : p.tables.exec = Jvm.exec) (hb : c.code = cc) {own C : String} {index : Nat} (hown : s.vm.findClass own = some m.cls) (hclink : (Cond.classLink own index C).before args s = true) (hover : va_AO C s) (hK : va_K D cl tys s) (hP : va_P D cl ws H) (hD : va_D A ws) (hS : va_S A H0 H locs) (hA : ∀ q, H0.size ≤ q → A q) (t0 : Nat) {cA : ClassId} (ht : tys[t0]? = some (cA, .object C))
    {n : Int32} {N' : Nat} (hn : ¬ n < 0) (hN : n.toNatClampNeg = N') (hbytes : N' * 4 ≤ 536870912) (hcells : cells + 1 ≤ R.cells) (hslots : slots + N' ≤ R.slots) (hdg : decode cc pc = .ok (.anewarray index, 3))
    (kk : ∀ (q : Nat) (H1 : Heap), va_P D cl (ws ++ [(q, .inl (cA, N', .inr (.inr (.inr (.inr (fun _ => none))))))]) H1 → va_D A (ws ++ [(q, .inl (cA, N', .inr (.inr (.inr (.inr (fun _ => none))))))]) → va_S A H0 H1 locs →
      W p l e R s m args below meth c H1 locs (cells + 1) (slots + N') Q (F0 m (pc + 3) ls (.ref q :: rest))) : W p l e R s m args below meth c H locs cells slots Q (F0 m pc ls (.int n :: rest)) := by
  refine va_newq hexec hb hown hclink hover hK hP hD hS hA hn hN hbytes hcells hslots hdg (fun q cA' H1 hK' hP' hD' hS' => ?_)
  have e1 := (hK'.2 tys.length (cA', .object C) (by simp)).2
  have e2 := (hK.2 t0 _ ht).2
  have e3 : cA' = cA := va_RA_inj e1 e2
  subst e3
  exact kk q H1 hP' hD' hS'
/-- two worlds whose cells hold the same -/
theorem va_P.conv {D : va_G} {cl : List vw_C} {ws ws' : va_W} {H : Heap} (h : va_P D cl ws H) (hl : ∀ (k : Nat) (q : Nat × va_E), ws'[k]? = some q → ∃ q' : Nat × va_E, ws[k]? = some q' ∧ (va_at D cl q' H → va_at D cl q H)) : va_P D cl ws' H := by
  intro k q hq
  obtain ⟨q', h1, h2⟩ := hl k q hq
  exact h2 (h k q' h1)
end RQ
end
section
-- ===== PART A: goes FIRST, ahead of the names: the tables' words, and 'selects' of the private methods out of them =====
/-- a private method of a class that the tables say can be made, by its rows of tables_1 -/
def lw_okq (q : MethodName × Nat) : Prop := (q.1.cls ≠ "java/lang/invoke/MethodHandle" ∧ q.1.cls ≠ "java/lang/invoke/VarHandle") ∧ Cond.instantiable q.1.cls q.2 ∈ tables_1 ∧ Cond.privateMethod q.1 ∈ tables_1 ∧ Cond.instanceMethod q.1 ∈ tables_1
theorem lw_p0 : lw_okq (⟨"MixElection$Board", "has", "(I)Z"⟩, 6) := ⟨⟨by decide +kernel, by decide +kernel⟩, List.mem_of_getElem? (i := 97) (by decide +kernel), List.mem_of_getElem? (i := 295) (by decide +kernel), List.mem_of_getElem? (i := 296) (by decide +kernel)⟩
theorem lw_p1 : lw_okq (⟨"MixElection", "mayCast", "(I)Z"⟩, 20) := ⟨⟨by decide +kernel, by decide +kernel⟩, List.mem_of_getElem? (i := 13) (by decide +kernel), List.mem_of_getElem? (i := 311) (by decide +kernel), List.mem_of_getElem? (i := 312) (by decide +kernel)⟩
theorem lw_p2 : lw_okq (⟨"MixElection", "isCandidate", "(I)Z"⟩, 20) := ⟨⟨by decide +kernel, by decide +kernel⟩, List.mem_of_getElem? (i := 13) (by decide +kernel), List.mem_of_getElem? (i := 319) (by decide +kernel), List.mem_of_getElem? (i := 320) (by decide +kernel)⟩
theorem lw_p3 : lw_okq (⟨"MixElection", "post", "(III)J"⟩, 20) := ⟨⟨by decide +kernel, by decide +kernel⟩, List.mem_of_getElem? (i := 13) (by decide +kernel), List.mem_of_getElem? (i := 341) (by decide +kernel), List.mem_of_getElem? (i := 342) (by decide +kernel)⟩
theorem lw_p4 : lw_okq (⟨"MixElection$Group", "holds", "(I)Z"⟩, 3) := ⟨⟨by decide +kernel, by decide +kernel⟩, List.mem_of_getElem? (i := 21) (by decide +kernel), List.mem_of_getElem? (i := 357) (by decide +kernel), List.mem_of_getElem? (i := 358) (by decide +kernel)⟩
theorem lw_p5 : lw_okq (⟨"MixElection", "gatherBallots", "()V"⟩, 20) := ⟨⟨by decide +kernel, by decide +kernel⟩, List.mem_of_getElem? (i := 13) (by decide +kernel), List.mem_of_getElem? (i := 365) (by decide +kernel), List.mem_of_getElem? (i := 366) (by decide +kernel)⟩
theorem lw_p6 : lw_okq (⟨"MixElection", "isBallot", "(I)Z"⟩, 20) := ⟨⟨by decide +kernel, by decide +kernel⟩, List.mem_of_getElem? (i := 13) (by decide +kernel), List.mem_of_getElem? (i := 394) (by decide +kernel), List.mem_of_getElem? (i := 395) (by decide +kernel)⟩
theorem lw_p7 : lw_okq (⟨"MixElection", "mayShuffle", "()Z"⟩, 20) := ⟨⟨by decide +kernel, by decide +kernel⟩, List.mem_of_getElem? (i := 13) (by decide +kernel), List.mem_of_getElem? (i := 419) (by decide +kernel), List.mem_of_getElem? (i := 420) (by decide +kernel)⟩
theorem lw_p8 : lw_okq (⟨"MixElection", "listOf", "(I)LMixElection$Pairs;"⟩, 20) := ⟨⟨by decide +kernel, by decide +kernel⟩, List.mem_of_getElem? (i := 13) (by decide +kernel), List.mem_of_getElem? (i := 439) (by decide +kernel), List.mem_of_getElem? (i := 440) (by decide +kernel)⟩
theorem lw_p9 : lw_okq (⟨"MixElection", "giveOut", "(LMixElection$Pairs;LMixElection$Pairs;LMixElection$Moves;)V"⟩, 20) := ⟨⟨by decide +kernel, by decide +kernel⟩, List.mem_of_getElem? (i := 13) (by decide +kernel), List.mem_of_getElem? (i := 443) (by decide +kernel), List.mem_of_getElem? (i := 444) (by decide +kernel)⟩
theorem lw_p10 : lw_okq (⟨"MixElection", "showShadow", "()Z"⟩, 20) := ⟨⟨by decide +kernel, by decide +kernel⟩, List.mem_of_getElem? (i := 13) (by decide +kernel), List.mem_of_getElem? (i := 479) (by decide +kernel), List.mem_of_getElem? (i := 480) (by decide +kernel)⟩
theorem lw_p11 : lw_okq (⟨"MixElection", "showMix", "()Z"⟩, 20) := ⟨⟨by decide +kernel, by decide +kernel⟩, List.mem_of_getElem? (i := 13) (by decide +kernel), List.mem_of_getElem? (i := 492) (by decide +kernel), List.mem_of_getElem? (i := 493) (by decide +kernel)⟩
theorem lw_p12 : lw_okq (⟨"MixElection$Trustees", "isTrustee", "(I)Z"⟩, 8) := ⟨⟨by decide +kernel, by decide +kernel⟩, List.mem_of_getElem? (i := 59) (by decide +kernel), List.mem_of_getElem? (i := 510) (by decide +kernel), List.mem_of_getElem? (i := 511) (by decide +kernel)⟩
theorem lw_p13 : lw_okq (⟨"MixElection$Trustees", "shareOf", "(I)I"⟩, 8) := ⟨⟨by decide +kernel, by decide +kernel⟩, List.mem_of_getElem? (i := 59) (by decide +kernel), List.mem_of_getElem? (i := 519) (by decide +kernel), List.mem_of_getElem? (i := 520) (by decide +kernel)⟩
theorem lw_p14 : lw_okq (⟨"MixElection$Trustees", "gave", "(I)Z"⟩, 8) := ⟨⟨by decide +kernel, by decide +kernel⟩, List.mem_of_getElem? (i := 59) (by decide +kernel), List.mem_of_getElem? (i := 537) (by decide +kernel), List.mem_of_getElem? (i := 538) (by decide +kernel)⟩
theorem lw_p15 : lw_okq (⟨"MixElection", "countBallots", "()V"⟩, 20) := ⟨⟨by decide +kernel, by decide +kernel⟩, List.mem_of_getElem? (i := 13) (by decide +kernel), List.mem_of_getElem? (i := 550) (by decide +kernel), List.mem_of_getElem? (i := 551) (by decide +kernel)⟩
def lw_privs_1 : List (MethodName × Nat) := [(⟨"MixElection$Board", "has", "(I)Z"⟩, 6), (⟨"MixElection", "mayCast", "(I)Z"⟩, 20), (⟨"MixElection", "isCandidate", "(I)Z"⟩, 20), (⟨"MixElection", "post", "(III)J"⟩, 20), (⟨"MixElection$Group", "holds", "(I)Z"⟩, 3), (⟨"MixElection", "gatherBallots", "()V"⟩, 20), (⟨"MixElection", "isBallot", "(I)Z"⟩, 20), (⟨"MixElection", "mayShuffle", "()Z"⟩, 20), (⟨"MixElection", "listOf", "(I)LMixElection$Pairs;"⟩, 20), (⟨"MixElection", "giveOut", "(LMixElection$Pairs;LMixElection$Pairs;LMixElection$Moves;)V"⟩, 20), (⟨"MixElection", "showShadow", "()Z"⟩, 20), (⟨"MixElection", "showMix", "()Z"⟩, 20), (⟨"MixElection$Trustees", "isTrustee", "(I)Z"⟩, 8), (⟨"MixElection$Trustees", "shareOf", "(I)I"⟩, 8), (⟨"MixElection$Trustees", "gave", "(I)Z"⟩, 8), (⟨"MixElection", "countBallots", "()V"⟩, 20)]
theorem lw_r1 : ∀ q ∈ lw_privs_1, lw_okq q := List.forall_mem_cons.mpr ⟨lw_p0, List.forall_mem_cons.mpr ⟨lw_p1, List.forall_mem_cons.mpr ⟨lw_p2, List.forall_mem_cons.mpr ⟨lw_p3, List.forall_mem_cons.mpr ⟨lw_p4, List.forall_mem_cons.mpr ⟨lw_p5, List.forall_mem_cons.mpr ⟨lw_p6, List.forall_mem_cons.mpr ⟨lw_p7, List.forall_mem_cons.mpr ⟨lw_p8, List.forall_mem_cons.mpr ⟨lw_p9, List.forall_mem_cons.mpr ⟨lw_p10, List.forall_mem_cons.mpr ⟨lw_p11, List.forall_mem_cons.mpr ⟨lw_p12, List.forall_mem_cons.mpr ⟨lw_p13, List.forall_mem_cons.mpr ⟨lw_p14, List.forall_mem_cons.mpr ⟨lw_p15, fun _ h => absurd h List.not_mem_nil⟩⟩⟩⟩⟩⟩⟩⟩⟩⟩⟩⟩⟩⟩⟩⟩
theorem lw_p16 : lw_okq (⟨"MixElection$Trustees", "lastNeededGiver", "()I"⟩, 8) := ⟨⟨by decide +kernel, by decide +kernel⟩, List.mem_of_getElem? (i := 59) (by decide +kernel), List.mem_of_getElem? (i := 558) (by decide +kernel), List.mem_of_getElem? (i := 559) (by decide +kernel)⟩
theorem lw_p17 : lw_okq (⟨"MixElection$Trustees", "weightOf", "(II)I"⟩, 8) := ⟨⟨by decide +kernel, by decide +kernel⟩, List.mem_of_getElem? (i := 59) (by decide +kernel), List.mem_of_getElem? (i := 562) (by decide +kernel), List.mem_of_getElem? (i := 563) (by decide +kernel)⟩
theorem lw_p18 : lw_okq (⟨"MixElection", "candidateOf", "(I)I"⟩, 20) := ⟨⟨by decide +kernel, by decide +kernel⟩, List.mem_of_getElem? (i := 13) (by decide +kernel), List.mem_of_getElem? (i := 581) (by decide +kernel), List.mem_of_getElem? (i := 582) (by decide +kernel)⟩
theorem lw_p19 : lw_okq (⟨"MixElection", "digestOfCounts", "()J"⟩, 20) := ⟨⟨by decide +kernel, by decide +kernel⟩, List.mem_of_getElem? (i := 13) (by decide +kernel), List.mem_of_getElem? (i := 589) (by decide +kernel), List.mem_of_getElem? (i := 590) (by decide +kernel)⟩
theorem lw_p20 : lw_okq (⟨"MixElection", "aboutStaging", "()I"⟩, 20) := ⟨⟨by decide +kernel, by decide +kernel⟩, List.mem_of_getElem? (i := 13) (by decide +kernel), List.mem_of_getElem? (i := 603) (by decide +kernel), List.mem_of_getElem? (i := 604) (by decide +kernel)⟩
theorem lw_p21 : lw_okq (⟨"MixElectionModel", "empty", "()V"⟩, 44) := ⟨⟨by decide +kernel, by decide +kernel⟩, List.mem_of_getElem? (i := 644) (by decide +kernel), List.mem_of_getElem? (i := 657) (by decide +kernel), List.mem_of_getElem? (i := 658) (by decide +kernel)⟩
theorem lw_p22 : lw_okq (⟨"MixElectionModel", "isExponent", "(I)Z"⟩, 44) := ⟨⟨by decide +kernel, by decide +kernel⟩, List.mem_of_getElem? (i := 644) (by decide +kernel), List.mem_of_getElem? (i := 801) (by decide +kernel), List.mem_of_getElem? (i := 802) (by decide +kernel)⟩
theorem lw_p23 : lw_okq (⟨"MixElectionModel", "power", "(II)I"⟩, 44) := ⟨⟨by decide +kernel, by decide +kernel⟩, List.mem_of_getElem? (i := 644) (by decide +kernel), List.mem_of_getElem? (i := 809) (by decide +kernel), List.mem_of_getElem? (i := 810) (by decide +kernel)⟩
theorem lw_p24 : lw_okq (⟨"MixElectionModel", "times", "(II)I"⟩, 44) := ⟨⟨by decide +kernel, by decide +kernel⟩, List.mem_of_getElem? (i := 644) (by decide +kernel), List.mem_of_getElem? (i := 813) (by decide +kernel), List.mem_of_getElem? (i := 814) (by decide +kernel)⟩
theorem lw_p25 : lw_okq (⟨"MixElectionModel", "enter", "(IJJJ)J"⟩, 44) := ⟨⟨by decide +kernel, by decide +kernel⟩, List.mem_of_getElem? (i := 644) (by decide +kernel), List.mem_of_getElem? (i := 817) (by decide +kernel), List.mem_of_getElem? (i := 818) (by decide +kernel)⟩
theorem lw_p26 : lw_okq (⟨"MixElectionModel", "mayCast", "(I)Z"⟩, 44) := ⟨⟨by decide +kernel, by decide +kernel⟩, List.mem_of_getElem? (i := 644) (by decide +kernel), List.mem_of_getElem? (i := 834) (by decide +kernel), List.mem_of_getElem? (i := 835) (by decide +kernel)⟩
theorem lw_p27 : lw_okq (⟨"MixElectionModel", "mark", "(I)I"⟩, 44) := ⟨⟨by decide +kernel, by decide +kernel⟩, List.mem_of_getElem? (i := 644) (by decide +kernel), List.mem_of_getElem? (i := 838) (by decide +kernel), List.mem_of_getElem? (i := 839) (by decide +kernel)⟩
theorem lw_p28 : lw_okq (⟨"MixElectionModel", "casts", "(III)J"⟩, 44) := ⟨⟨by decide +kernel, by decide +kernel⟩, List.mem_of_getElem? (i := 644) (by decide +kernel), List.mem_of_getElem? (i := 842) (by decide +kernel), List.mem_of_getElem? (i := 843) (by decide +kernel)⟩
theorem lw_p29 : lw_okq (⟨"MixElectionModel", "isOfGroup", "(I)Z"⟩, 44) := ⟨⟨by decide +kernel, by decide +kernel⟩, List.mem_of_getElem? (i := 644) (by decide +kernel), List.mem_of_getElem? (i := 850) (by decide +kernel), List.mem_of_getElem? (i := 851) (by decide +kernel)⟩
theorem lw_p30 : lw_okq (⟨"MixElectionModel", "mayStage", "()Z"⟩, 44) := ⟨⟨by decide +kernel, by decide +kernel⟩, List.mem_of_getElem? (i := 644) (by decide +kernel), List.mem_of_getElem? (i := 873) (by decide +kernel), List.mem_of_getElem? (i := 874) (by decide +kernel)⟩
theorem lw_p31 : lw_okq (⟨"MixElectionModel", "isWhole", "()Z"⟩, 44) := ⟨⟨by decide +kernel, by decide +kernel⟩, List.mem_of_getElem? (i := 644) (by decide +kernel), List.mem_of_getElem? (i := 877) (by decide +kernel), List.mem_of_getElem? (i := 878) (by decide +kernel)⟩
def lw_privs_2 : List (MethodName × Nat) := [(⟨"MixElection$Trustees", "lastNeededGiver", "()I"⟩, 8), (⟨"MixElection$Trustees", "weightOf", "(II)I"⟩, 8), (⟨"MixElection", "candidateOf", "(I)I"⟩, 20), (⟨"MixElection", "digestOfCounts", "()J"⟩, 20), (⟨"MixElection", "aboutStaging", "()I"⟩, 20), (⟨"MixElectionModel", "empty", "()V"⟩, 44), (⟨"MixElectionModel", "isExponent", "(I)Z"⟩, 44), (⟨"MixElectionModel", "power", "(II)I"⟩, 44), (⟨"MixElectionModel", "times", "(II)I"⟩, 44), (⟨"MixElectionModel", "enter", "(IJJJ)J"⟩, 44), (⟨"MixElectionModel", "mayCast", "(I)Z"⟩, 44), (⟨"MixElectionModel", "mark", "(I)I"⟩, 44), (⟨"MixElectionModel", "casts", "(III)J"⟩, 44), (⟨"MixElectionModel", "isOfGroup", "(I)Z"⟩, 44), (⟨"MixElectionModel", "mayStage", "()Z"⟩, 44), (⟨"MixElectionModel", "isWhole", "()Z"⟩, 44)]
theorem lw_r2 : ∀ q ∈ lw_privs_2, lw_okq q := List.forall_mem_cons.mpr ⟨lw_p16, List.forall_mem_cons.mpr ⟨lw_p17, List.forall_mem_cons.mpr ⟨lw_p18, List.forall_mem_cons.mpr ⟨lw_p19, List.forall_mem_cons.mpr ⟨lw_p20, List.forall_mem_cons.mpr ⟨lw_p21, List.forall_mem_cons.mpr ⟨lw_p22, List.forall_mem_cons.mpr ⟨lw_p23, List.forall_mem_cons.mpr ⟨lw_p24, List.forall_mem_cons.mpr ⟨lw_p25, List.forall_mem_cons.mpr ⟨lw_p26, List.forall_mem_cons.mpr ⟨lw_p27, List.forall_mem_cons.mpr ⟨lw_p28, List.forall_mem_cons.mpr ⟨lw_p29, List.forall_mem_cons.mpr ⟨lw_p30, List.forall_mem_cons.mpr ⟨lw_p31, fun _ h => absurd h List.not_mem_nil⟩⟩⟩⟩⟩⟩⟩⟩⟩⟩⟩⟩⟩⟩⟩⟩
theorem lw_p32 : lw_okq (⟨"MixElectionModel", "anewA", "(III)I"⟩, 44) := ⟨⟨by decide +kernel, by decide +kernel⟩, List.mem_of_getElem? (i := 644) (by decide +kernel), List.mem_of_getElem? (i := 881) (by decide +kernel), List.mem_of_getElem? (i := 882) (by decide +kernel)⟩
theorem lw_p33 : lw_okq (⟨"MixElectionModel", "anewB", "(III)I"⟩, 44) := ⟨⟨by decide +kernel, by decide +kernel⟩, List.mem_of_getElem? (i := 644) (by decide +kernel), List.mem_of_getElem? (i := 885) (by decide +kernel), List.mem_of_getElem? (i := 886) (by decide +kernel)⟩
theorem lw_p34 : lw_okq (⟨"MixElectionModel", "shareOf", "(I)I"⟩, 44) := ⟨⟨by decide +kernel, by decide +kernel⟩, List.mem_of_getElem? (i := 644) (by decide +kernel), List.mem_of_getElem? (i := 901) (by decide +kernel), List.mem_of_getElem? (i := 902) (by decide +kernel)⟩
theorem lw_p35 : lw_okq (⟨"MixElectionModel", "weight", "(II)I"⟩, 44) := ⟨⟨by decide +kernel, by decide +kernel⟩, List.mem_of_getElem? (i := 644) (by decide +kernel), List.mem_of_getElem? (i := 909) (by decide +kernel), List.mem_of_getElem? (i := 910) (by decide +kernel)⟩
def lw_privs_3 : List (MethodName × Nat) := [(⟨"MixElectionModel", "anewA", "(III)I"⟩, 44), (⟨"MixElectionModel", "anewB", "(III)I"⟩, 44), (⟨"MixElectionModel", "shareOf", "(I)I"⟩, 44), (⟨"MixElectionModel", "weight", "(II)I"⟩, 44)]
theorem lw_r3 : ∀ q ∈ lw_privs_3, lw_okq q := List.forall_mem_cons.mpr ⟨lw_p32, List.forall_mem_cons.mpr ⟨lw_p33, List.forall_mem_cons.mpr ⟨lw_p34, List.forall_mem_cons.mpr ⟨lw_p35, fun _ h => absurd h List.not_mem_nil⟩⟩⟩⟩
def lw_privs : List (MethodName × Nat) := lw_privs_1 ++ (lw_privs_2 ++ (lw_privs_3))
def lw_tbl : List Cond := k2_sels lw_privs ++ tables_1
theorem lw_privs_ok : ∀ q ∈ lw_privs, lw_okq q := by
  show ∀ q ∈ lw_privs_1 ++ (lw_privs_2 ++ (lw_privs_3)), lw_okq q
  exact List.forall_mem_append.mpr ⟨lw_r1, List.forall_mem_append.mpr ⟨lw_r2, lw_r3⟩⟩
-- ===== end of PART A; then your names; then what follows =====
end
section
/-! ===== BEGIN words of one list among another's, by their places ===== -/
theorem goodIn_r {big : List Cond} (ws : List Cond) (ps : List Nat) (hp : ws = ps.filterMap (fun i => big[i]?)) (h : ws.all goodWord = true) : GoodIn big ws := by
  intro w hw
  have h1 := List.all_eq_true.mp h w hw
  rw [hp] at hw
  obtain ⟨i, -, hi⟩ := List.mem_filterMap.mp hw
  have hm : w ∈ big := by first | exact List.mem_of_getElem? hi | exact List.getElem?_mem hi
  exact ⟨hm, good_of_word h1⟩
theorem goodIn_app {big a b : List Cond} (ha : GoodIn big a) (hb : GoodIn big b) : GoodIn big (a ++ b) := fun w h => (List.mem_append.mp h).elim (ha w) (hb w)
theorem goodIn_ca {big a b : List Cond} {c : Cond} (ha : GoodIn big (c :: a)) (hb : GoodIn big b) : GoodIn big (c :: (a ++ b)) := fun w h => (List.mem_cons.mp h).elim (fun e => ha w (List.mem_cons.mpr (Or.inl e))) (fun h => (List.mem_append.mp h).elim (fun h => ha w (List.mem_cons.mpr (Or.inr h))) (hb w))
theorem goodIn_sub {big ws : List Cond} (hm : ∀ w ∈ ws, w ∈ big) (h : ws.all goodWord = true) : GoodIn big ws := fun w hw => ⟨hm w hw, good_of_word (List.all_eq_true.mp h w hw)⟩
/-! ===== END ===== -/


/-! ===== BEGIN printed: names, fields, word lists, decode rows ===== -/
def RX0 : String := "MixElection$Board"
def TX0 : u_T := fun k => match k with
  | 0 => ("MixElection$Board", "kinds", "[I", true)
  | 1 => ("MixElection$Board", "xs", "[I", true)
  | 2 => ("MixElection$Board", "ys", "[I", true)
  | 3 => ("MixElection$Board", "zs", "[J", true)
  | 4 => ("MixElection$Board", "chains", "[J", true)
  | _ => ("MixElection$Board", "size", "I", false)
def tyX0 : Nat → FieldType := fun k => match k with
  | 0 => .array .int
  | 1 => .array .int
  | 2 => .array .int
  | 3 => .array .long
  | 4 => .array .long
  | _ => .int
abbrev wsX00 : List Cond := u_ws RX0 TX0 6
theorem nmX0 : ∀ a, a < 6 → ∀ b, b < 6 → a ≠ b → (TX0 a).2.1 ≠ (TX0 b).2.1 := by decide +kernel
theorem tyX0_ok : ∀ k, k < 6 → parseFieldDescriptor (TX0 k).2.2.1 = some (tyX0 k) := by decide +kernel
abbrev cX0_init : ByteArray := prog_2_method_1_code
def yX0_init : MethodName := ⟨RX0, "<init>", "()V"⟩
abbrev cX0_size : ByteArray := prog_2_method_2_code
def yX0_size : MethodName := ⟨RX0, "size", "()I"⟩
abbrev cX0_add : ByteArray := prog_2_method_3_code
def yX0_add : MethodName := ⟨RX0, "add", "(IIIJ)J"⟩
abbrev cX0_has : ByteArray := prog_2_method_4_code
def yX0_has : MethodName := ⟨RX0, "has", "(I)Z"⟩
abbrev cX0_field : ByteArray := prog_2_method_5_code
def yX0_field : MethodName := ⟨RX0, "field", "(II)J"⟩
abbrev cX0_chainOf : ByteArray := prog_2_method_6_code
def yX0_chainOf : MethodName := ⟨RX0, "chainOf", "(I)J"⟩
def RX1 : String := "MixElection$Group"
def TX1 : u_T := fun k => match k with
  | 0 => ("MixElection$Group", "prime", "I", true)
  | 1 => ("MixElection$Group", "half", "I", true)
  | _ => ("MixElection$Group", "told", "I", false)
def tyX1 : Nat → FieldType := fun k => match k with
  | 0 => .int
  | 1 => .int
  | _ => .int
abbrev wsX10 : List Cond := u_ws RX1 TX1 3
theorem nmX1 : ∀ a, a < 3 → ∀ b, b < 3 → a ≠ b → (TX1 a).2.1 ≠ (TX1 b).2.1 := by decide +kernel
theorem tyX1_ok : ∀ k, k < 3 → parseFieldDescriptor (TX1 k).2.2.1 = some (tyX1 k) := by decide +kernel
abbrev cX1_init : ByteArray := prog_3_method_1_code
def yX1_init : MethodName := ⟨RX1, "<init>", "(I)V"⟩
abbrev cX1_modulus : ByteArray := prog_3_method_2_code
def yX1_modulus : MethodName := ⟨RX1, "modulus", "()I"⟩
abbrev cX1_order : ByteArray := prog_3_method_3_code
def yX1_order : MethodName := ⟨RX1, "order", "()I"⟩
abbrev cX1_publicKey : ByteArray := prog_3_method_4_code
def yX1_publicKey : MethodName := ⟨RX1, "publicKey", "()I"⟩
abbrev cX1_tellKey : ByteArray := prog_3_method_5_code
def yX1_tellKey : MethodName := ⟨RX1, "tellKey", "(I)V"⟩
abbrev cX1_isExponent : ByteArray := prog_3_method_6_code
def yX1_isExponent : MethodName := ⟨RX1, "isExponent", "(I)Z"⟩
abbrev cX1_holdsPair : ByteArray := prog_3_method_7_code
def yX1_holdsPair : MethodName := ⟨RX1, "holdsPair", "(II)Z"⟩
abbrev cX1_holds : ByteArray := prog_3_method_8_code
def yX1_holds : MethodName := ⟨RX1, "holds", "(I)Z"⟩
abbrev cX1_raised : ByteArray := prog_3_method_9_code
def yX1_raised : MethodName := ⟨RX1, "raised", "(II)I"⟩
abbrev cX1_multiplied : ByteArray := prog_3_method_10_code
def yX1_multiplied : MethodName := ⟨RX1, "multiplied", "(II)I"⟩
abbrev cX1_divided : ByteArray := prog_3_method_11_code
def yX1_divided : MethodName := ⟨RX1, "divided", "(II)I"⟩
abbrev cX1_markOf : ByteArray := prog_3_method_12_code
def yX1_markOf : MethodName := ⟨RX1, "markOf", "(I)I"⟩
abbrev cX1_renewedFirst : ByteArray := prog_3_method_13_code
def yX1_renewedFirst : MethodName := ⟨RX1, "renewedFirst", "(II)I"⟩
abbrev cX1_renewedSecond : ByteArray := prog_3_method_14_code
def yX1_renewedSecond : MethodName := ⟨RX1, "renewedSecond", "(II)I"⟩
def RX2 : String := "MixElection$Moves"
def TX2 : u_T := fun k => match k with
  | 0 => ("MixElection$Moves", "targets", "[I", true)
  | _ => ("MixElection$Moves", "exponents", "[I", true)
def tyX2 : Nat → FieldType := fun k => match k with
  | 0 => .array .int
  | _ => .array .int
abbrev wsX20 : List Cond := u_ws RX2 TX2 2
theorem nmX2 : ∀ a, a < 2 → ∀ b, b < 2 → a ≠ b → (TX2 a).2.1 ≠ (TX2 b).2.1 := by decide +kernel
theorem tyX2_ok : ∀ k, k < 2 → parseFieldDescriptor (TX2 k).2.2.1 = some (tyX2 k) := by decide +kernel
abbrev cX2_init : ByteArray := prog_4_method_1_code
def yX2_init : MethodName := ⟨RX2, "<init>", "()V"⟩
abbrev cX2_clear : ByteArray := prog_4_method_2_code
def yX2_clear : MethodName := ⟨RX2, "clear", "()V"⟩
abbrev cX2_set : ByteArray := prog_4_method_3_code
def yX2_set : MethodName := ⟨RX2, "set", "(III)V"⟩
abbrev cX2_target : ByteArray := prog_4_method_4_code
def yX2_target : MethodName := ⟨RX2, "target", "(I)I"⟩
abbrev cX2_exponent : ByteArray := prog_4_method_5_code
def yX2_exponent : MethodName := ⟨RX2, "exponent", "(I)I"⟩
abbrev cX2_copyFrom : ByteArray := prog_4_method_6_code
def yX2_copyFrom : MethodName := ⟨RX2, "copyFrom", "(LMixElection$Moves;)V"⟩
abbrev cX2_isWhole : ByteArray := prog_4_method_7_code
def yX2_isWhole : MethodName := ⟨RX2, "isWhole", "(I)Z"⟩
abbrev cX2_lead : ByteArray := prog_4_method_8_code
def yX2_lead : MethodName := ⟨RX2, "lead", "(LMixElection$Group;LMixElection$Pairs;LMixElection$Pairs;I)Z"⟩
def RX3 : String := "MixElection$Numbers"
def TX3 : u_T := fun k => match k with
  | _ => ("", "", "", false)
def tyX3 : Nat → FieldType := fun k => match k with
  | _ => .int
abbrev wsX30 : List Cond := u_ws RX3 TX3 0
theorem nmX3 : ∀ a, a < 0 → ∀ b, b < 0 → a ≠ b → (TX3 a).2.1 ≠ (TX3 b).2.1 := by decide +kernel
theorem tyX3_ok : ∀ k, k < 0 → parseFieldDescriptor (TX3 k).2.2.1 = some (tyX3 k) := by decide +kernel
abbrev cX3_within : ByteArray := prog_5_method_2_code
def yX3_within : MethodName := ⟨RX3, "within", "(III)I"⟩
abbrev cX3_safePrimeFrom : ByteArray := prog_5_method_3_code
def yX3_safePrimeFrom : MethodName := ⟨RX3, "safePrimeFrom", "(I)I"⟩
abbrev cX3_isOddPrime : ByteArray := prog_5_method_4_code
def yX3_isOddPrime : MethodName := ⟨RX3, "isOddPrime", "(I)Z"⟩
abbrev cX3_times : ByteArray := prog_5_method_5_code
def yX3_times : MethodName := ⟨RX3, "times", "(III)I"⟩
abbrev cX3_plus : ByteArray := prog_5_method_6_code
def yX3_plus : MethodName := ⟨RX3, "plus", "(III)I"⟩
abbrev cX3_minus : ByteArray := prog_5_method_7_code
def yX3_minus : MethodName := ⟨RX3, "minus", "(III)I"⟩
abbrev cX3_power : ByteArray := prog_5_method_8_code
def yX3_power : MethodName := ⟨RX3, "power", "(III)I"⟩
abbrev cX3_inverse : ByteArray := prog_5_method_9_code
def yX3_inverse : MethodName := ⟨RX3, "inverse", "(II)I"⟩
abbrev cX3_digested : ByteArray := prog_5_method_10_code
def yX3_digested : MethodName := ⟨RX3, "digested", "(JJ)J"⟩
def RX4 : String := "MixElection$Pairs"
def TX4 : u_T := fun k => match k with
  | 0 => ("MixElection$Pairs", "firsts", "[I", true)
  | _ => ("MixElection$Pairs", "seconds", "[I", true)
def tyX4 : Nat → FieldType := fun k => match k with
  | 0 => .array .int
  | _ => .array .int
abbrev wsX40 : List Cond := u_ws RX4 TX4 2
theorem nmX4 : ∀ a, a < 2 → ∀ b, b < 2 → a ≠ b → (TX4 a).2.1 ≠ (TX4 b).2.1 := by decide +kernel
theorem tyX4_ok : ∀ k, k < 2 → parseFieldDescriptor (TX4 k).2.2.1 = some (tyX4 k) := by decide +kernel
abbrev cX4_init : ByteArray := prog_6_method_1_code
def yX4_init : MethodName := ⟨RX4, "<init>", "()V"⟩
abbrev cX4_clear : ByteArray := prog_6_method_2_code
def yX4_clear : MethodName := ⟨RX4, "clear", "()V"⟩
abbrev cX4_put : ByteArray := prog_6_method_3_code
def yX4_put : MethodName := ⟨RX4, "put", "(III)V"⟩
abbrev cX4_first : ByteArray := prog_6_method_4_code
def yX4_first : MethodName := ⟨RX4, "first", "(I)I"⟩
abbrev cX4_second : ByteArray := prog_6_method_5_code
def yX4_second : MethodName := ⟨RX4, "second", "(I)I"⟩
abbrev cX4_part : ByteArray := prog_6_method_6_code
def yX4_part : MethodName := ⟨RX4, "part", "(II)I"⟩
abbrev cX4_digest : ByteArray := prog_6_method_7_code
def yX4_digest : MethodName := ⟨RX4, "digest", "(I)J"⟩
def RX5 : String := "MixElection$Staging"
def TX5 : u_T := fun k => match k with
  | 0 => ("MixElection$Staging", "moves", "LMixElection$Moves;", true)
  | _ => ("MixElection$Staging", "forged", "LMixElection$Pairs;", true)
def tyX5 : Nat → FieldType := fun k => match k with
  | 0 => .object "MixElection$Moves"
  | _ => .object "MixElection$Pairs"
abbrev wsX50 : List Cond := u_ws RX5 TX5 2
theorem nmX5 : ∀ a, a < 2 → ∀ b, b < 2 → a ≠ b → (TX5 a).2.1 ≠ (TX5 b).2.1 := by decide +kernel
theorem tyX5_ok : ∀ k, k < 2 → parseFieldDescriptor (TX5 k).2.2.1 = some (tyX5 k) := by decide +kernel
abbrev cX5_init : ByteArray := prog_7_method_1_code
def yX5_init : MethodName := ⟨RX5, "<init>", "()V"⟩
abbrev cX5_clear : ByteArray := prog_7_method_2_code
def yX5_clear : MethodName := ⟨RX5, "clear", "()V"⟩
abbrev cX5_move : ByteArray := prog_7_method_3_code
def yX5_move : MethodName := ⟨RX5, "move", "(III)V"⟩
abbrev cX5_putForged : ByteArray := prog_7_method_4_code
def yX5_putForged : MethodName := ⟨RX5, "putForged", "(III)V"⟩
abbrev cX5_isWhole : ByteArray := prog_7_method_5_code
def yX5_isWhole : MethodName := ⟨RX5, "isWhole", "(I)Z"⟩
abbrev cX5_copyMovesTo : ByteArray := prog_7_method_6_code
def yX5_copyMovesTo : MethodName := ⟨RX5, "copyMovesTo", "(LMixElection$Moves;)V"⟩
abbrev cX5_shuffle : ByteArray := prog_7_method_7_code
def yX5_shuffle : MethodName := ⟨RX5, "shuffle", "(LMixElection$Group;LMixElection$Pairs;LMixElection$Pairs;I)V"⟩
def RX6 : String := "MixElection$Trustees"
def TX6 : u_T := fun k => match k with
  | 0 => ("MixElection$Trustees", "group", "LMixElection$Group;", true)
  | 1 => ("MixElection$Trustees", "size", "I", true)
  | 2 => ("MixElection$Trustees", "threshold", "I", true)
  | 3 => ("MixElection$Trustees", "coefficients", "[I", true)
  | 4 => ("MixElection$Trustees", "hasGiven", "[Z", true)
  | 5 => ("MixElection$Trustees", "gifts", "[[I", true)
  | 6 => ("MixElection$Trustees", "weights", "[I", true)
  | _ => ("MixElection$Trustees", "givers", "I", false)
def tyX6 : Nat → FieldType := fun k => match k with
  | 0 => .object "MixElection$Group"
  | 1 => .int
  | 2 => .int
  | 3 => .array .int
  | 4 => .array .boolean
  | 5 => .array (.array .int)
  | 6 => .array .int
  | _ => .int
abbrev wsX60 : List Cond := u_ws RX6 TX6 8
theorem nmX6 : ∀ a, a < 8 → ∀ b, b < 8 → a ≠ b → (TX6 a).2.1 ≠ (TX6 b).2.1 := by decide +kernel
theorem tyX6_ok : ∀ k, k < 8 → parseFieldDescriptor (TX6 k).2.2.1 = some (tyX6 k) := by decide +kernel
abbrev cX6_init : ByteArray := prog_8_method_1_code
def yX6_init : MethodName := ⟨RX6, "<init>", "(LMixElection$Group;II)V"⟩
abbrev cX6_size : ByteArray := prog_8_method_2_code
def yX6_size : MethodName := ⟨RX6, "size", "()I"⟩
abbrev cX6_needed : ByteArray := prog_8_method_3_code
def yX6_needed : MethodName := ⟨RX6, "needed", "()I"⟩
abbrev cX6_givers : ByteArray := prog_8_method_4_code
def yX6_givers : MethodName := ⟨RX6, "givers", "()I"⟩
abbrev cX6_areEnough : ByteArray := prog_8_method_5_code
def yX6_areEnough : MethodName := ⟨RX6, "areEnough", "()Z"⟩
abbrev cX6_secretKey : ByteArray := prog_8_method_6_code
def yX6_secretKey : MethodName := ⟨RX6, "secretKey", "()I"⟩
abbrev cX6_setCoefficient : ByteArray := prog_8_method_7_code
def yX6_setCoefficient : MethodName := ⟨RX6, "setCoefficient", "(II)Z"⟩
abbrev cX6_isTrustee : ByteArray := prog_8_method_8_code
def yX6_isTrustee : MethodName := ⟨RX6, "isTrustee", "(I)Z"⟩
abbrev cX6_mayGive : ByteArray := prog_8_method_9_code
def yX6_mayGive : MethodName := ⟨RX6, "mayGive", "(I)Z"⟩
abbrev cX6_gave : ByteArray := prog_8_method_10_code
def yX6_gave : MethodName := ⟨RX6, "gave", "(I)Z"⟩
abbrev cX6_give : ByteArray := prog_8_method_11_code
def yX6_give : MethodName := ⟨RX6, "give", "(ILMixElection$Pairs;I)V"⟩
abbrev cX6_shareOf : ByteArray := prog_8_method_12_code
def yX6_shareOf : MethodName := ⟨RX6, "shareOf", "(I)I"⟩
abbrev cX6_gift : ByteArray := prog_8_method_13_code
def yX6_gift : MethodName := ⟨RX6, "gift", "(II)I"⟩
abbrev cX6_digest : ByteArray := prog_8_method_14_code
def yX6_digest : MethodName := ⟨RX6, "digest", "(II)J"⟩
abbrev cX6_weighFirstGivers : ByteArray := prog_8_method_15_code
def yX6_weighFirstGivers : MethodName := ⟨RX6, "weighFirstGivers", "()V"⟩
abbrev cX6_lastNeededGiver : ByteArray := prog_8_method_16_code
def yX6_lastNeededGiver : MethodName := ⟨RX6, "lastNeededGiver", "()I"⟩
abbrev cX6_weightOf : ByteArray := prog_8_method_17_code
def yX6_weightOf : MethodName := ⟨RX6, "weightOf", "(II)I"⟩
abbrev cX6_joinedGift : ByteArray := prog_8_method_18_code
def yX6_joinedGift : MethodName := ⟨RX6, "joinedGift", "(I)I"⟩
def RX7 : String := "MixElection"
def TX7 : u_T := fun k => match k with
  | 0 => ("MixElection", "group", "LMixElection$Group;", true)
  | 1 => ("MixElection", "trustees", "LMixElection$Trustees;", true)
  | 2 => ("MixElection", "board", "LMixElection$Board;", true)
  | 3 => ("MixElection", "candidates", "I", true)
  | 4 => ("MixElection", "lastBallots", "LMixElection$Pairs;", true)
  | 5 => ("MixElection", "lists", "[LMixElection$Pairs;", true)
  | 6 => ("MixElection", "latestShadow", "LMixElection$Pairs;", true)
  | 7 => ("MixElection", "staging", "LMixElection$Staging;", true)
  | 8 => ("MixElection", "mixMoves", "LMixElection$Moves;", true)
  | 9 => ("MixElection", "shadowMoves", "LMixElection$Moves;", true)
  | 10 => ("MixElection", "shownMoves", "LMixElection$Moves;", true)
  | 11 => ("MixElection", "counts", "[I", true)
  | 12 => ("MixElection", "stage", "I", false)
  | 13 => ("MixElection", "voters", "I", false)
  | 14 => ("MixElection", "ballots", "I", false)
  | 15 => ("MixElection", "mixes", "I", false)
  | 16 => ("MixElection", "mixesWithRounds", "I", false)
  | 17 => ("MixElection", "rounds", "I", false)
  | 18 => ("MixElection", "rejectedRounds", "I", false)
  | _ => ("MixElection", "coinIsDue", "Z", false)
def tyX7 : Nat → FieldType := fun k => match k with
  | 0 => .object "MixElection$Group"
  | 1 => .object "MixElection$Trustees"
  | 2 => .object "MixElection$Board"
  | 3 => .int
  | 4 => .object "MixElection$Pairs"
  | 5 => .array (.object "MixElection$Pairs")
  | 6 => .object "MixElection$Pairs"
  | 7 => .object "MixElection$Staging"
  | 8 => .object "MixElection$Moves"
  | 9 => .object "MixElection$Moves"
  | 10 => .object "MixElection$Moves"
  | 11 => .array .int
  | 12 => .int
  | 13 => .int
  | 14 => .int
  | 15 => .int
  | 16 => .int
  | 17 => .int
  | 18 => .int
  | _ => .boolean
abbrev wsX70 : List Cond := u_ws RX7 TX7 20
theorem nmX7 : ∀ a, a < 20 → ∀ b, b < 20 → a ≠ b → (TX7 a).2.1 ≠ (TX7 b).2.1 := by decide +kernel
theorem tyX7_ok : ∀ k, k < 20 → parseFieldDescriptor (TX7 k).2.2.1 = some (tyX7 k) := by decide +kernel
abbrev cX7_init : ByteArray := prog_1_method_1_code
def yX7_init : MethodName := ⟨RX7, "<init>", "(IIII)V"⟩
abbrev cX7_secret : ByteArray := prog_1_method_2_code
def yX7_secret : MethodName := ⟨RX7, "secret", "(II)Z"⟩
abbrev cX7_key : ByteArray := prog_1_method_3_code
def yX7_key : MethodName := ⟨RX7, "key", "()I"⟩
abbrev cX7_voter : ByteArray := prog_1_method_4_code
def yX7_voter : MethodName := ⟨RX7, "voter", "()I"⟩
abbrev cX7_cast : ByteArray := prog_1_method_5_code
def yX7_cast : MethodName := ⟨RX7, "cast", "(III)J"⟩
abbrev cX7_castPair : ByteArray := prog_1_method_6_code
def yX7_castPair : MethodName := ⟨RX7, "castPair", "(III)J"⟩
abbrev cX7_close : ByteArray := prog_1_method_7_code
def yX7_close : MethodName := ⟨RX7, "close", "()I"⟩
abbrev cX7_place : ByteArray := prog_1_method_8_code
def yX7_place : MethodName := ⟨RX7, "place", "(III)Z"⟩
abbrev cX7_forge : ByteArray := prog_1_method_9_code
def yX7_forge : MethodName := ⟨RX7, "forge", "(III)Z"⟩
abbrev cX7_mix : ByteArray := prog_1_method_10_code
def yX7_mix : MethodName := ⟨RX7, "mix", "()I"⟩
abbrev cX7_shadow : ByteArray := prog_1_method_11_code
def yX7_shadow : MethodName := ⟨RX7, "shadow", "()I"⟩
abbrev cX7_coin : ByteArray := prog_1_method_12_code
def yX7_coin : MethodName := ⟨RX7, "coin", "(I)I"⟩
abbrev cX7_share : ByteArray := prog_1_method_13_code
def yX7_share : MethodName := ⟨RX7, "share", "(I)I"⟩
abbrev cX7_tally : ByteArray := prog_1_method_14_code
def yX7_tally : MethodName := ⟨RX7, "tally", "()I"⟩
abbrev cX7_count : ByteArray := prog_1_method_15_code
def yX7_count : MethodName := ⟨RX7, "count", "(I)I"⟩
abbrev cX7_about : ByteArray := prog_1_method_16_code
def yX7_about : MethodName := ⟨RX7, "about", "(I)I"⟩
abbrev cX7_list : ByteArray := prog_1_method_17_code
def yX7_list : MethodName := ⟨RX7, "list", "(III)I"⟩
abbrev cX7_shadowOf : ByteArray := prog_1_method_18_code
def yX7_shadowOf : MethodName := ⟨RX7, "shadowOf", "(II)I"⟩
abbrev cX7_shown : ByteArray := prog_1_method_19_code
def yX7_shown : MethodName := ⟨RX7, "shown", "(II)I"⟩
abbrev cX7_given : ByteArray := prog_1_method_20_code
def yX7_given : MethodName := ⟨RX7, "given", "(II)I"⟩
abbrev cX7_entry : ByteArray := prog_1_method_21_code
def yX7_entry : MethodName := ⟨RX7, "entry", "(II)J"⟩
abbrev cX7_chain : ByteArray := prog_1_method_22_code
def yX7_chain : MethodName := ⟨RX7, "chain", "(I)J"⟩
abbrev cX7_isCandidate : ByteArray := prog_1_method_23_code
def yX7_isCandidate : MethodName := ⟨RX7, "isCandidate", "(I)Z"⟩
abbrev cX7_isBallot : ByteArray := prog_1_method_24_code
def yX7_isBallot : MethodName := ⟨RX7, "isBallot", "(I)Z"⟩
abbrev cX7_listOf : ByteArray := prog_1_method_25_code
def yX7_listOf : MethodName := ⟨RX7, "listOf", "(I)LMixElection$Pairs;"⟩
abbrev cX7_mayCast : ByteArray := prog_1_method_26_code
def yX7_mayCast : MethodName := ⟨RX7, "mayCast", "(I)Z"⟩
abbrev cX7_post : ByteArray := prog_1_method_27_code
def yX7_post : MethodName := ⟨RX7, "post", "(III)J"⟩
abbrev cX7_gatherBallots : ByteArray := prog_1_method_28_code
def yX7_gatherBallots : MethodName := ⟨RX7, "gatherBallots", "()V"⟩
abbrev cX7_aboutStaging : ByteArray := prog_1_method_29_code
def yX7_aboutStaging : MethodName := ⟨RX7, "aboutStaging", "()I"⟩
abbrev cX7_mayShuffle : ByteArray := prog_1_method_30_code
def yX7_mayShuffle : MethodName := ⟨RX7, "mayShuffle", "()Z"⟩
abbrev cX7_giveOut : ByteArray := prog_1_method_31_code
def yX7_giveOut : MethodName := ⟨RX7, "giveOut", "(LMixElection$Pairs;LMixElection$Pairs;LMixElection$Moves;)V"⟩
abbrev cX7_showShadow : ByteArray := prog_1_method_32_code
def yX7_showShadow : MethodName := ⟨RX7, "showShadow", "()Z"⟩
abbrev cX7_showMix : ByteArray := prog_1_method_33_code
def yX7_showMix : MethodName := ⟨RX7, "showMix", "()Z"⟩
abbrev cX7_countBallots : ByteArray := prog_1_method_34_code
def yX7_countBallots : MethodName := ⟨RX7, "countBallots", "()V"⟩
abbrev cX7_candidateOf : ByteArray := prog_1_method_35_code
def yX7_candidateOf : MethodName := ⟨RX7, "candidateOf", "(I)I"⟩
abbrev cX7_digestOfCounts : ByteArray := prog_1_method_36_code
def yX7_digestOfCounts : MethodName := ⟨RX7, "digestOfCounts", "()J"⟩
def RX8 : String := "MixElectionModel"
def TX8 : u_T := fun k => match k with
  | 0 => ("MixElectionModel", "p", "I", true)
  | 1 => ("MixElectionModel", "q", "I", true)
  | 2 => ("MixElectionModel", "candidates", "I", true)
  | 3 => ("MixElectionModel", "trustees", "I", true)
  | 4 => ("MixElectionModel", "threshold", "I", true)
  | 5 => ("MixElectionModel", "secret", "[I", true)
  | 6 => ("MixElectionModel", "stage", "I", false)
  | 7 => ("MixElectionModel", "h", "I", false)
  | 8 => ("MixElectionModel", "voters", "I", false)
  | 9 => ("MixElectionModel", "hasCast", "[Z", true)
  | 10 => ("MixElectionModel", "castA", "[I", true)
  | 11 => ("MixElectionModel", "castB", "[I", true)
  | 12 => ("MixElectionModel", "many", "I", false)
  | 13 => ("MixElectionModel", "listA", "[I", true)
  | 14 => ("MixElectionModel", "listB", "[I", true)
  | 15 => ("MixElectionModel", "shadowA", "[I", true)
  | 16 => ("MixElectionModel", "shadowB", "[I", true)
  | 17 => ("MixElectionModel", "hasShadow", "Z", false)
  | 18 => ("MixElectionModel", "to", "[I", true)
  | 19 => ("MixElectionModel", "by", "[I", true)
  | 20 => ("MixElectionModel", "forgedA", "[I", true)
  | 21 => ("MixElectionModel", "forgedB", "[I", true)
  | 22 => ("MixElectionModel", "mixTo", "[I", true)
  | 23 => ("MixElectionModel", "mixBy", "[I", true)
  | 24 => ("MixElectionModel", "shadowTo", "[I", true)
  | 25 => ("MixElectionModel", "shadowBy", "[I", true)
  | 26 => ("MixElectionModel", "mixes", "I", false)
  | 27 => ("MixElectionModel", "rounds", "I", false)
  | 28 => ("MixElectionModel", "isDue", "Z", false)
  | 29 => ("MixElectionModel", "rejected", "I", false)
  | 30 => ("MixElectionModel", "unproved", "I", false)
  | 31 => ("MixElectionModel", "hasShown", "Z", false)
  | 32 => ("MixElectionModel", "shownTo", "[I", true)
  | 33 => ("MixElectionModel", "shownBy", "[I", true)
  | 34 => ("MixElectionModel", "hasGiven", "[Z", true)
  | 35 => ("MixElectionModel", "given", "[I", true)
  | 36 => ("MixElectionModel", "shares", "I", false)
  | 37 => ("MixElectionModel", "count", "[I", true)
  | 38 => ("MixElectionModel", "entries", "I", false)
  | 39 => ("MixElectionModel", "entryKind", "[I", true)
  | 40 => ("MixElectionModel", "entryX", "[J", true)
  | 41 => ("MixElectionModel", "entryY", "[J", true)
  | 42 => ("MixElectionModel", "entryZ", "[J", true)
  | _ => ("MixElectionModel", "chain", "[J", true)
def tyX8 : Nat → FieldType := fun k => match k with
  | 0 => .int
  | 1 => .int
  | 2 => .int
  | 3 => .int
  | 4 => .int
  | 5 => .array .int
  | 6 => .int
  | 7 => .int
  | 8 => .int
  | 9 => .array .boolean
  | 10 => .array .int
  | 11 => .array .int
  | 12 => .int
  | 13 => .array .int
  | 14 => .array .int
  | 15 => .array .int
  | 16 => .array .int
  | 17 => .boolean
  | 18 => .array .int
  | 19 => .array .int
  | 20 => .array .int
  | 21 => .array .int
  | 22 => .array .int
  | 23 => .array .int
  | 24 => .array .int
  | 25 => .array .int
  | 26 => .int
  | 27 => .int
  | 28 => .boolean
  | 29 => .int
  | 30 => .int
  | 31 => .boolean
  | 32 => .array .int
  | 33 => .array .int
  | 34 => .array .boolean
  | 35 => .array .int
  | 36 => .int
  | 37 => .array .int
  | 38 => .int
  | 39 => .array .int
  | 40 => .array .long
  | 41 => .array .long
  | 42 => .array .long
  | _ => .array .long
abbrev wsX80 : List Cond := u_ws RX8 TX8 44
theorem nmX8 : ∀ a, a < 44 → ∀ b, b < 44 → a ≠ b → (TX8 a).2.1 ≠ (TX8 b).2.1 := by decide +kernel
theorem tyX8_ok : ∀ k, k < 44 → parseFieldDescriptor (TX8 k).2.2.1 = some (tyX8 k) := by decide +kernel
abbrev cX8_within : ByteArray := prog_10_method_1_code
def yX8_within : MethodName := ⟨RX8, "within", "(III)I"⟩
abbrev cX8_isPrime : ByteArray := prog_10_method_2_code
def yX8_isPrime : MethodName := ⟨RX8, "isPrime", "(I)Z"⟩
abbrev cX8_init : ByteArray := prog_10_method_3_code
def yX8_init : MethodName := ⟨RX8, "<init>", "(IIII)V"⟩
abbrev cX8_in : ByteArray := prog_10_method_4_code
def yX8_in : MethodName := ⟨RX8, "in", "(III)Z"⟩
abbrev cX8_times : ByteArray := prog_10_method_5_code
def yX8_times : MethodName := ⟨RX8, "times", "(II)I"⟩
abbrev cX8_power : ByteArray := prog_10_method_6_code
def yX8_power : MethodName := ⟨RX8, "power", "(II)I"⟩
abbrev cX8_isOfGroup : ByteArray := prog_10_method_7_code
def yX8_isOfGroup : MethodName := ⟨RX8, "isOfGroup", "(I)Z"⟩
abbrev cX8_isExponent : ByteArray := prog_10_method_8_code
def yX8_isExponent : MethodName := ⟨RX8, "isExponent", "(I)Z"⟩
abbrev cX8_mark : ByteArray := prog_10_method_9_code
def yX8_mark : MethodName := ⟨RX8, "mark", "(I)I"⟩
abbrev cX8_shareOf : ByteArray := prog_10_method_10_code
def yX8_shareOf : MethodName := ⟨RX8, "shareOf", "(I)I"⟩
abbrev cX8_on : ByteArray := prog_10_method_11_code
def yX8_on : MethodName := ⟨RX8, "on", "(JJ)J"⟩
abbrev cX8_digest : ByteArray := prog_10_method_12_code
def yX8_digest : MethodName := ⟨RX8, "digest", "([I[III)J"⟩
abbrev cX8_enter : ByteArray := prog_10_method_13_code
def yX8_enter : MethodName := ⟨RX8, "enter", "(IJJJ)J"⟩
abbrev cX8_secret : ByteArray := prog_10_method_14_code
def yX8_secret : MethodName := ⟨RX8, "secret", "(II)Z"⟩
abbrev cX8_key : ByteArray := prog_10_method_15_code
def yX8_key : MethodName := ⟨RX8, "key", "()I"⟩
abbrev cX8_voter : ByteArray := prog_10_method_16_code
def yX8_voter : MethodName := ⟨RX8, "voter", "()I"⟩
abbrev cX8_mayCast : ByteArray := prog_10_method_17_code
def yX8_mayCast : MethodName := ⟨RX8, "mayCast", "(I)Z"⟩
abbrev cX8_casts : ByteArray := prog_10_method_18_code
def yX8_casts : MethodName := ⟨RX8, "casts", "(III)J"⟩
abbrev cX8_cast : ByteArray := prog_10_method_19_code
def yX8_cast : MethodName := ⟨RX8, "cast", "(III)J"⟩
abbrev cX8_castPair : ByteArray := prog_10_method_20_code
def yX8_castPair : MethodName := ⟨RX8, "castPair", "(III)J"⟩
abbrev cX8_close : ByteArray := prog_10_method_21_code
def yX8_close : MethodName := ⟨RX8, "close", "()I"⟩
abbrev cX8_empty : ByteArray := prog_10_method_22_code
def yX8_empty : MethodName := ⟨RX8, "empty", "()V"⟩
abbrev cX8_place : ByteArray := prog_10_method_23_code
def yX8_place : MethodName := ⟨RX8, "place", "(III)Z"⟩
abbrev cX8_forge : ByteArray := prog_10_method_24_code
def yX8_forge : MethodName := ⟨RX8, "forge", "(III)Z"⟩
abbrev cX8_isWhole : ByteArray := prog_10_method_25_code
def yX8_isWhole : MethodName := ⟨RX8, "isWhole", "()Z"⟩
abbrev cX8_anewA : ByteArray := prog_10_method_26_code
def yX8_anewA : MethodName := ⟨RX8, "anewA", "(III)I"⟩
abbrev cX8_anewB : ByteArray := prog_10_method_27_code
def yX8_anewB : MethodName := ⟨RX8, "anewB", "(III)I"⟩
abbrev cX8_mayStage : ByteArray := prog_10_method_28_code
def yX8_mayStage : MethodName := ⟨RX8, "mayStage", "()Z"⟩
abbrev cX8_mix : ByteArray := prog_10_method_29_code
def yX8_mix : MethodName := ⟨RX8, "mix", "()I"⟩
abbrev cX8_shadow : ByteArray := prog_10_method_30_code
def yX8_shadow : MethodName := ⟨RX8, "shadow", "()I"⟩
abbrev cX8_coin : ByteArray := prog_10_method_31_code
def yX8_coin : MethodName := ⟨RX8, "coin", "(I)I"⟩
abbrev cX8_share : ByteArray := prog_10_method_32_code
def yX8_share : MethodName := ⟨RX8, "share", "(I)I"⟩
abbrev cX8_weight : ByteArray := prog_10_method_33_code
def yX8_weight : MethodName := ⟨RX8, "weight", "(II)I"⟩
abbrev cX8_tally : ByteArray := prog_10_method_34_code
def yX8_tally : MethodName := ⟨RX8, "tally", "()I"⟩
abbrev cX8_count : ByteArray := prog_10_method_35_code
def yX8_count : MethodName := ⟨RX8, "count", "(I)I"⟩
abbrev cX8_about : ByteArray := prog_10_method_36_code
def yX8_about : MethodName := ⟨RX8, "about", "(I)I"⟩
abbrev cX8_list : ByteArray := prog_10_method_37_code
def yX8_list : MethodName := ⟨RX8, "list", "(III)I"⟩
abbrev cX8_shadowOf : ByteArray := prog_10_method_38_code
def yX8_shadowOf : MethodName := ⟨RX8, "shadowOf", "(II)I"⟩
abbrev cX8_shown : ByteArray := prog_10_method_39_code
def yX8_shown : MethodName := ⟨RX8, "shown", "(II)I"⟩
abbrev cX8_given : ByteArray := prog_10_method_40_code
def yX8_given : MethodName := ⟨RX8, "given", "(II)I"⟩
abbrev cX8_entry : ByteArray := prog_10_method_41_code
def yX8_entry : MethodName := ⟨RX8, "entry", "(II)J"⟩
abbrev cX8_chain : ByteArray := prog_10_method_42_code
def yX8_chain : MethodName := ⟨RX8, "chain", "(I)J"⟩
def RJ9 : String := "java/lang/Math"
def TJ9 : u_T := fun k => match k with
  | _ => ("", "", "", false)
def tyJ9 : Nat → FieldType := fun k => match k with
  | _ => .int
abbrev wsJ90 : List Cond := u_ws RJ9 TJ9 0
theorem nmJ9 : ∀ a, a < 0 → ∀ b, b < 0 → a ≠ b → (TJ9 a).2.1 ≠ (TJ9 b).2.1 := by decide +kernel
theorem tyJ9_ok : ∀ k, k < 0 → parseFieldDescriptor (TJ9 k).2.2.1 = some (tyJ9 k) := by decide +kernel
abbrev cJ9_max_7cf53 : ByteArray := prog_11_method_65_code
def yJ9_max_7cf53 : MethodName := ⟨RJ9, "max", "(II)I"⟩
abbrev cJ9_min_7cf53 : ByteArray := prog_11_method_69_code
def yJ9_min_7cf53 : MethodName := ⟨RJ9, "min", "(II)I"⟩
def RJ7 : String := "java/util/Arrays"
def TJ7 : u_T := fun k => match k with
  | _ => ("", "", "", false)
def tyJ7 : Nat → FieldType := fun k => match k with
  | _ => .int
abbrev wsJ70 : List Cond := u_ws RJ7 TJ7 0
theorem nmJ7 : ∀ a, a < 0 → ∀ b, b < 0 → a ≠ b → (TJ7 a).2.1 ≠ (TJ7 b).2.1 := by decide +kernel
theorem tyJ7_ok : ∀ k, k < 0 → parseFieldDescriptor (TJ7 k).2.2.1 = some (tyJ7 k) := by decide +kernel
abbrev cJ7_fill_53178 : ByteArray := prog_12_method_103_code
def yJ7_fill_53178 : MethodName := ⟨RJ7, "fill", "([II)V"⟩
def RL : String := "MixElectionLaw"
abbrev cL_cell : ByteArray := method_2_code
def yL_cell : MethodName := ⟨RL, "cell", "([II)I"⟩
abbrev cL_law : ByteArray := code
def yL_law : MethodName := ⟨RL, "law", "([I)Z"⟩
def wsX0_init : List Cond := .code yX0_init cX0_init 1 none :: ([.methodLink RX0 3 objectInit, .instanceMethod objectInit, .code objectInit ⟨#[0xb1]⟩ 1 none, .arrayClass .int, .fieldLink RX0 9 "MixElection$Board" "kinds" "[I", .fieldLink RX0 15 "MixElection$Board" "xs" "[I", .fieldLink RX0 18 "MixElection$Board" "ys" "[I", .arrayClass .long, .fieldLink RX0 21 "MixElection$Board" "zs" "[J", .fieldLink RX0 25 "MixElection$Board" "chains" "[J"] ++ wsX00)
def wsX0_size : List Cond := .code yX0_size cX0_size 1 (some .int) :: ([.fieldLink RX0 28 "MixElection$Board" "size" "I"] ++ wsX00)
def wsX0_has : List Cond := .code yX0_has cX0_has 2 (some .boolean) :: ([.fieldLink RX0 28 "MixElection$Board" "size" "I"] ++ wsX00)
def wsX0_chainOf : List Cond := .code yX0_chainOf cX0_chainOf 2 (some .long) :: ([.constantLong RX0 46 (-3750763034362895579), .fieldLink RX0 25 "MixElection$Board" "chains" "[J", .methodLink RX0 42 yX0_has, .instanceMethod yX0_has, .selects RX0 yX0_has yX0_has, .initialized RX0, .code yX0_has cX0_has 2 (some .boolean), .fieldLink RX0 28 "MixElection$Board" "size" "I"] ++ wsX00)
def wsX3_digested : List Cond := .code yX3_digested cX3_digested 4 (some .long) :: ([.constantLong RX3 32 (1099511628211)])
def wsX0_add : List Cond := .code yX0_add cX0_add 8 (some .long) :: ([.fieldLink RX0 28 "MixElection$Board" "size" "I", .fieldLink RX0 9 "MixElection$Board" "kinds" "[I", .fieldLink RX0 15 "MixElection$Board" "xs" "[I", .fieldLink RX0 18 "MixElection$Board" "ys" "[I", .fieldLink RX0 21 "MixElection$Board" "zs" "[J", .fieldLink RX0 25 "MixElection$Board" "chains" "[J", .methodLink RX0 32 yX0_chainOf, .instanceMethod yX0_chainOf, .selects RX0 yX0_chainOf yX0_chainOf, .initialized RX0, .code yX0_chainOf cX0_chainOf 2 (some .long), .constantLong RX0 46 (-3750763034362895579), .methodLink RX0 42 yX0_has, .instanceMethod yX0_has, .selects RX0 yX0_has yX0_has, .code yX0_has cX0_has 2 (some .boolean), .methodLink RX0 36 yX3_digested, .static yX3_digested, .initialized RX3, .code yX3_digested cX3_digested 4 (some .long), .constantLong RX3 32 (1099511628211)] ++ wsX00)
def wsX0_field : List Cond := .code yX0_field cX0_field 3 (some .long) :: ([.fieldLink RX0 9 "MixElection$Board" "kinds" "[I", .fieldLink RX0 15 "MixElection$Board" "xs" "[I", .fieldLink RX0 18 "MixElection$Board" "ys" "[I", .fieldLink RX0 21 "MixElection$Board" "zs" "[J", .methodLink RX0 42 yX0_has, .instanceMethod yX0_has, .selects RX0 yX0_has yX0_has, .initialized RX0, .code yX0_has cX0_has 2 (some .boolean), .fieldLink RX0 28 "MixElection$Board" "size" "I"] ++ wsX00)
def wsX1_init : List Cond := .code yX1_init cX1_init 2 none :: ([.methodLink RX1 3 objectInit, .instanceMethod objectInit, .code objectInit ⟨#[0xb1]⟩ 1 none, .fieldLink RX1 9 "MixElection$Group" "prime" "I", .fieldLink RX1 15 "MixElection$Group" "half" "I"] ++ wsX10)
def wsX1_modulus : List Cond := .code yX1_modulus cX1_modulus 1 (some .int) :: ([.fieldLink RX1 9 "MixElection$Group" "prime" "I"] ++ wsX10)
def wsX1_order : List Cond := .code yX1_order cX1_order 1 (some .int) :: ([.fieldLink RX1 15 "MixElection$Group" "half" "I"] ++ wsX10)
def wsX1_publicKey : List Cond := .code yX1_publicKey cX1_publicKey 1 (some .int) :: ([.fieldLink RX1 18 "MixElection$Group" "told" "I"] ++ wsX10)
def wsX3_times : List Cond := .code yX3_times cX3_times 3 (some .int) :: ([])
def wsX3_power : List Cond := .code yX3_power cX3_power 6 (some .int) :: ([.methodLink RX3 25 yX3_times, .static yX3_times, .initialized RX3, .code yX3_times cX3_times 3 (some .int)])
def wsX1_raised : List Cond := .code yX1_raised cX1_raised 3 (some .int) :: ([.fieldLink RX1 9 "MixElection$Group" "prime" "I", .methodLink RX1 29 yX3_power, .static yX3_power, .initialized RX3, .code yX3_power cX3_power 6 (some .int), .methodLink RX3 25 yX3_times, .static yX3_times, .code yX3_times cX3_times 3 (some .int)] ++ wsX10)
def wsX1_tellKey : List Cond := .code yX1_tellKey cX1_tellKey 2 none :: ([.fieldLink RX1 18 "MixElection$Group" "told" "I", .methodLink RX1 21 yX1_raised, .instanceMethod yX1_raised, .selects RX1 yX1_raised yX1_raised, .initialized RX1, .code yX1_raised cX1_raised 3 (some .int), .fieldLink RX1 9 "MixElection$Group" "prime" "I", .methodLink RX1 29 yX3_power, .static yX3_power, .initialized RX3, .code yX3_power cX3_power 6 (some .int), .methodLink RX3 25 yX3_times, .static yX3_times, .code yX3_times cX3_times 3 (some .int)] ++ wsX10)
def wsX1_isExponent : List Cond := .code yX1_isExponent cX1_isExponent 2 (some .boolean) :: ([.fieldLink RX1 15 "MixElection$Group" "half" "I"] ++ wsX10)
def wsX1_holds : List Cond := .code yX1_holds cX1_holds 2 (some .boolean) :: ([.fieldLink RX1 9 "MixElection$Group" "prime" "I", .fieldLink RX1 15 "MixElection$Group" "half" "I", .methodLink RX1 21 yX1_raised, .instanceMethod yX1_raised, .selects RX1 yX1_raised yX1_raised, .initialized RX1, .code yX1_raised cX1_raised 3 (some .int), .methodLink RX1 29 yX3_power, .static yX3_power, .initialized RX3, .code yX3_power cX3_power 6 (some .int), .methodLink RX3 25 yX3_times, .static yX3_times, .code yX3_times cX3_times 3 (some .int)] ++ wsX10)
def wsX1_holdsPair : List Cond := .code yX1_holdsPair cX1_holdsPair 3 (some .boolean) :: ([.methodLink RX1 25 yX1_holds, .instanceMethod yX1_holds, .selects RX1 yX1_holds yX1_holds, .initialized RX1, .code yX1_holds cX1_holds 2 (some .boolean), .fieldLink RX1 9 "MixElection$Group" "prime" "I", .fieldLink RX1 15 "MixElection$Group" "half" "I", .methodLink RX1 21 yX1_raised, .instanceMethod yX1_raised, .selects RX1 yX1_raised yX1_raised, .code yX1_raised cX1_raised 3 (some .int), .methodLink RX1 29 yX3_power, .static yX3_power, .initialized RX3, .code yX3_power cX3_power 6 (some .int), .methodLink RX3 25 yX3_times, .static yX3_times, .code yX3_times cX3_times 3 (some .int)] ++ wsX10)
def wsX1_multiplied : List Cond := .code yX1_multiplied cX1_multiplied 3 (some .int) :: ([.fieldLink RX1 9 "MixElection$Group" "prime" "I", .methodLink RX1 35 yX3_times, .static yX3_times, .initialized RX3, .code yX3_times cX3_times 3 (some .int)] ++ wsX10)
def wsX3_inverse : List Cond := .code yX3_inverse cX3_inverse 2 (some .int) :: ([.methodLink RX3 29 yX3_power, .static yX3_power, .initialized RX3, .code yX3_power cX3_power 6 (some .int), .methodLink RX3 25 yX3_times, .static yX3_times, .code yX3_times cX3_times 3 (some .int)])
def wsX1_divided : List Cond := .code yX1_divided cX1_divided 3 (some .int) :: ([.fieldLink RX1 9 "MixElection$Group" "prime" "I", .methodLink RX1 38 yX3_inverse, .static yX3_inverse, .initialized RX3, .code yX3_inverse cX3_inverse 2 (some .int), .methodLink RX3 29 yX3_power, .static yX3_power, .code yX3_power cX3_power 6 (some .int), .methodLink RX3 25 yX3_times, .static yX3_times, .code yX3_times cX3_times 3 (some .int), .methodLink RX1 41 yX1_multiplied, .instanceMethod yX1_multiplied, .selects RX1 yX1_multiplied yX1_multiplied, .initialized RX1, .code yX1_multiplied cX1_multiplied 3 (some .int), .methodLink RX1 35 yX3_times] ++ wsX10)
def wsX1_markOf : List Cond := .code yX1_markOf cX1_markOf 2 (some .int) :: ([.methodLink RX1 21 yX1_raised, .instanceMethod yX1_raised, .selects RX1 yX1_raised yX1_raised, .initialized RX1, .code yX1_raised cX1_raised 3 (some .int), .fieldLink RX1 9 "MixElection$Group" "prime" "I", .methodLink RX1 29 yX3_power, .static yX3_power, .initialized RX3, .code yX3_power cX3_power 6 (some .int), .methodLink RX3 25 yX3_times, .static yX3_times, .code yX3_times cX3_times 3 (some .int)] ++ wsX10)
def wsX1_renewedFirst : List Cond := .code yX1_renewedFirst cX1_renewedFirst 3 (some .int) :: ([.methodLink RX1 21 yX1_raised, .instanceMethod yX1_raised, .selects RX1 yX1_raised yX1_raised, .initialized RX1, .code yX1_raised cX1_raised 3 (some .int), .fieldLink RX1 9 "MixElection$Group" "prime" "I", .methodLink RX1 29 yX3_power, .static yX3_power, .initialized RX3, .code yX3_power cX3_power 6 (some .int), .methodLink RX3 25 yX3_times, .static yX3_times, .code yX3_times cX3_times 3 (some .int), .methodLink RX1 41 yX1_multiplied, .instanceMethod yX1_multiplied, .selects RX1 yX1_multiplied yX1_multiplied, .code yX1_multiplied cX1_multiplied 3 (some .int), .methodLink RX1 35 yX3_times] ++ wsX10)
def wsX1_renewedSecond : List Cond := .code yX1_renewedSecond cX1_renewedSecond 3 (some .int) :: ([.fieldLink RX1 18 "MixElection$Group" "told" "I", .methodLink RX1 21 yX1_raised, .instanceMethod yX1_raised, .selects RX1 yX1_raised yX1_raised, .initialized RX1, .code yX1_raised cX1_raised 3 (some .int), .fieldLink RX1 9 "MixElection$Group" "prime" "I", .methodLink RX1 29 yX3_power, .static yX3_power, .initialized RX3, .code yX3_power cX3_power 6 (some .int), .methodLink RX3 25 yX3_times, .static yX3_times, .code yX3_times cX3_times 3 (some .int), .methodLink RX1 41 yX1_multiplied, .instanceMethod yX1_multiplied, .selects RX1 yX1_multiplied yX1_multiplied, .code yX1_multiplied cX1_multiplied 3 (some .int), .methodLink RX1 35 yX3_times] ++ wsX10)
def wsJ7_fill_53178 : List Cond := .code yJ7_fill_53178 cJ7_fill_53178 4 none :: ([])
def wsX2_clear : List Cond := .code yX2_clear cX2_clear 1 none :: ([.fieldLink RX2 9 "MixElection$Moves" "targets" "[I", .fieldLink RX2 15 "MixElection$Moves" "exponents" "[I", .methodLink RX2 21 yJ7_fill_53178, .static yJ7_fill_53178, .initialized RJ7, .code yJ7_fill_53178 cJ7_fill_53178 4 none] ++ wsX20)
def wsX2_init : List Cond := .code yX2_init cX2_init 1 none :: ([.methodLink RX2 3 objectInit, .instanceMethod objectInit, .code objectInit ⟨#[0xb1]⟩ 1 none, .arrayClass .int, .fieldLink RX2 9 "MixElection$Moves" "targets" "[I", .fieldLink RX2 15 "MixElection$Moves" "exponents" "[I", .methodLink RX2 18 yX2_clear, .instanceMethod yX2_clear, .selects RX2 yX2_clear yX2_clear, .initialized RX2, .code yX2_clear cX2_clear 1 none, .methodLink RX2 21 yJ7_fill_53178, .static yJ7_fill_53178, .initialized RJ7, .code yJ7_fill_53178 cJ7_fill_53178 4 none] ++ wsX20)
def wsX2_set : List Cond := .code yX2_set cX2_set 4 none :: ([.fieldLink RX2 9 "MixElection$Moves" "targets" "[I", .fieldLink RX2 15 "MixElection$Moves" "exponents" "[I"] ++ wsX20)
def wsX2_target : List Cond := .code yX2_target cX2_target 2 (some .int) :: ([.fieldLink RX2 9 "MixElection$Moves" "targets" "[I"] ++ wsX20)
def wsX2_exponent : List Cond := .code yX2_exponent cX2_exponent 2 (some .int) :: ([.fieldLink RX2 15 "MixElection$Moves" "exponents" "[I"] ++ wsX20)
def wsX2_copyFrom : List Cond := .code yX2_copyFrom cX2_copyFrom 3 none :: ([.methodLink RX2 27 yX2_target, .instanceMethod yX2_target, .selects RX2 yX2_target yX2_target, .initialized RX2, .code yX2_target cX2_target 2 (some .int), .fieldLink RX2 9 "MixElection$Moves" "targets" "[I", .methodLink RX2 31 yX2_exponent, .instanceMethod yX2_exponent, .selects RX2 yX2_exponent yX2_exponent, .code yX2_exponent cX2_exponent 2 (some .int), .fieldLink RX2 15 "MixElection$Moves" "exponents" "[I", .methodLink RX2 34 yX2_set, .instanceMethod yX2_set, .selects RX2 yX2_set yX2_set, .code yX2_set cX2_set 4 none] ++ wsX20)
def wsX2_isWhole : List Cond := .code yX2_isWhole cX2_isWhole 7 (some .boolean) :: ([.methodLink RX2 27 yX2_target, .instanceMethod yX2_target, .selects RX2 yX2_target yX2_target, .initialized RX2, .code yX2_target cX2_target 2 (some .int), .fieldLink RX2 9 "MixElection$Moves" "targets" "[I"] ++ wsX20)
def wsX4_first : List Cond := .code yX4_first cX4_first 2 (some .int) :: ([.fieldLink RX4 9 "MixElection$Pairs" "firsts" "[I"] ++ wsX40)
def wsX4_second : List Cond := .code yX4_second cX4_second 2 (some .int) :: ([.fieldLink RX4 15 "MixElection$Pairs" "seconds" "[I"] ++ wsX40)
def wsX2_lead_r1 : List Cond := [Cond.methodLink RX2 31 yX2_exponent, Cond.instanceMethod yX2_exponent, Cond.selects RX2 yX2_exponent yX2_exponent, Cond.initialized RX2, Cond.code yX2_exponent cX2_exponent 2 (some .int), Cond.fieldLink RX2 15 "MixElection$Moves" "exponents" "[I", Cond.methodLink RX2 27 yX2_target, Cond.instanceMethod yX2_target, Cond.selects RX2 yX2_target yX2_target, Cond.code yX2_target cX2_target 2 (some .int), Cond.fieldLink RX2 9 "MixElection$Moves" "targets" "[I", Cond.methodLink RX2 38 yX4_first, Cond.instanceMethod yX4_first, Cond.selects RX4 yX4_first yX4_first, Cond.initialized RX4, Cond.code yX4_first cX4_first 2 (some .int), Cond.fieldLink RX4 9 "MixElection$Pairs" "firsts" "[I", Cond.methodLink RX2 43 yX1_renewedFirst, Cond.instanceMethod yX1_renewedFirst, Cond.selects RX1 yX1_renewedFirst yX1_renewedFirst, Cond.initialized RX1, Cond.code yX1_renewedFirst cX1_renewedFirst 3 (some .int), Cond.methodLink RX1 21 yX1_raised, Cond.instanceMethod yX1_raised]
def wsX2_lead_r2 : List Cond := [Cond.selects RX1 yX1_raised yX1_raised, Cond.code yX1_raised cX1_raised 3 (some .int), Cond.fieldLink RX1 9 "MixElection$Group" "prime" "I", Cond.methodLink RX1 29 yX3_power, Cond.static yX3_power, Cond.initialized RX3, Cond.code yX3_power cX3_power 6 (some .int), Cond.methodLink RX3 25 yX3_times, Cond.static yX3_times, Cond.code yX3_times cX3_times 3 (some .int), Cond.methodLink RX1 41 yX1_multiplied, Cond.instanceMethod yX1_multiplied, Cond.selects RX1 yX1_multiplied yX1_multiplied, Cond.code yX1_multiplied cX1_multiplied 3 (some .int), Cond.methodLink RX1 35 yX3_times, Cond.methodLink RX2 49 yX4_second, Cond.instanceMethod yX4_second, Cond.selects RX4 yX4_second yX4_second, Cond.code yX4_second cX4_second 2 (some .int), Cond.fieldLink RX4 15 "MixElection$Pairs" "seconds" "[I", Cond.methodLink RX2 52 yX1_renewedSecond, Cond.instanceMethod yX1_renewedSecond, Cond.selects RX1 yX1_renewedSecond yX1_renewedSecond, Cond.code yX1_renewedSecond cX1_renewedSecond 3 (some .int)]
def wsX2_lead_r3 : List Cond := [Cond.fieldLink RX1 18 "MixElection$Group" "told" "I"]
def wsX2_lead : List Cond := .code yX2_lead cX2_lead 8 (some .boolean) :: ((wsX2_lead_r1 ++ (wsX2_lead_r2 ++ wsX2_lead_r3)) ++ wsX20 ++ wsX40 ++ wsX10)
def wsX3_within : List Cond := .code yX3_within cX3_within 3 (some .int) :: ([.methodLink RX3 9 Lib.Math.min.name, .static Lib.Math.min.name, .initialized "java/lang/Math", .code Lib.Math.min.name Lib.Math.min.code 2 (some .int), .methodLink RX3 15 Lib.Math.max.name, .static Lib.Math.max.name, .code Lib.Math.max.name Lib.Math.max.code 2 (some .int)])
def wsX3_isOddPrime : List Cond := .code yX3_isOddPrime cX3_isOddPrime 2 (some .boolean) :: ([])
def wsX3_safePrimeFrom : List Cond := .code yX3_safePrimeFrom cX3_safePrimeFrom 2 (some .int) :: ([.constant RX3 18 (999959), .methodLink RX3 19 yX3_isOddPrime, .static yX3_isOddPrime, .initialized RX3, .code yX3_isOddPrime cX3_isOddPrime 2 (some .boolean)])
def wsX3_plus : List Cond := .code yX3_plus cX3_plus 3 (some .int) :: ([])
def wsX3_minus : List Cond := .code yX3_minus cX3_minus 3 (some .int) :: ([])
def wsX4_clear : List Cond := .code yX4_clear cX4_clear 1 none :: ([.fieldLink RX4 9 "MixElection$Pairs" "firsts" "[I", .fieldLink RX4 15 "MixElection$Pairs" "seconds" "[I", .methodLink RX4 21 yJ7_fill_53178, .static yJ7_fill_53178, .initialized RJ7, .code yJ7_fill_53178 cJ7_fill_53178 4 none] ++ wsX40)
def wsX4_init : List Cond := .code yX4_init cX4_init 1 none :: ([.methodLink RX4 3 objectInit, .instanceMethod objectInit, .code objectInit ⟨#[0xb1]⟩ 1 none, .arrayClass .int, .fieldLink RX4 9 "MixElection$Pairs" "firsts" "[I", .fieldLink RX4 15 "MixElection$Pairs" "seconds" "[I", .methodLink RX4 18 yX4_clear, .instanceMethod yX4_clear, .selects RX4 yX4_clear yX4_clear, .initialized RX4, .code yX4_clear cX4_clear 1 none, .methodLink RX4 21 yJ7_fill_53178, .static yJ7_fill_53178, .initialized RJ7, .code yJ7_fill_53178 cJ7_fill_53178 4 none] ++ wsX40)
def wsX4_put : List Cond := .code yX4_put cX4_put 4 none :: ([.fieldLink RX4 9 "MixElection$Pairs" "firsts" "[I", .fieldLink RX4 15 "MixElection$Pairs" "seconds" "[I"] ++ wsX40)
def wsX4_part : List Cond := .code yX4_part cX4_part 3 (some .int) :: ([.methodLink RX4 27 yX4_first, .instanceMethod yX4_first, .selects RX4 yX4_first yX4_first, .initialized RX4, .code yX4_first cX4_first 2 (some .int), .fieldLink RX4 9 "MixElection$Pairs" "firsts" "[I", .methodLink RX4 31 yX4_second, .instanceMethod yX4_second, .selects RX4 yX4_second yX4_second, .code yX4_second cX4_second 2 (some .int), .fieldLink RX4 15 "MixElection$Pairs" "seconds" "[I"] ++ wsX40)
def wsX4_digest : List Cond := .code yX4_digest cX4_digest 5 (some .long) :: ([.methodLink RX4 27 yX4_first, .instanceMethod yX4_first, .selects RX4 yX4_first yX4_first, .initialized RX4, .code yX4_first cX4_first 2 (some .int), .fieldLink RX4 9 "MixElection$Pairs" "firsts" "[I", .methodLink RX4 34 yX3_digested, .static yX3_digested, .initialized RX3, .code yX3_digested cX3_digested 4 (some .long), .constantLong RX3 32 (1099511628211), .methodLink RX4 31 yX4_second, .instanceMethod yX4_second, .selects RX4 yX4_second yX4_second, .code yX4_second cX4_second 2 (some .int), .fieldLink RX4 15 "MixElection$Pairs" "seconds" "[I"] ++ wsX40)
def wsX5_init_r1 : List Cond := [Cond.methodLink RX5 3 objectInit, Cond.instanceMethod objectInit, Cond.code objectInit ⟨#[0xb1]⟩ 1 none, Cond.classLink RX5 9 RX2, Cond.instantiable RX2 2, Cond.initialized RX2, Cond.fieldLink RX5 12 "MixElection$Staging" "moves" "LMixElection$Moves;", Cond.classLink RX5 18 RX4, Cond.instantiable RX4 2, Cond.initialized RX4, Cond.fieldLink RX5 21 "MixElection$Staging" "forged" "LMixElection$Pairs;", Cond.methodLink RX5 11 yX2_init, Cond.instanceMethod yX2_init, Cond.code yX2_init cX2_init 1 none, Cond.methodLink RX2 3 objectInit, Cond.arrayClass .int, Cond.fieldLink RX2 9 "MixElection$Moves" "targets" "[I", Cond.fieldLink RX2 15 "MixElection$Moves" "exponents" "[I", Cond.methodLink RX2 18 yX2_clear, Cond.instanceMethod yX2_clear, Cond.selects RX2 yX2_clear yX2_clear, Cond.code yX2_clear cX2_clear 1 none, Cond.methodLink RX2 21 yJ7_fill_53178, Cond.static yJ7_fill_53178]
def wsX5_init_r2 : List Cond := [Cond.initialized RJ7, Cond.code yJ7_fill_53178 cJ7_fill_53178 4 none, Cond.methodLink RX5 20 yX4_init, Cond.instanceMethod yX4_init, Cond.code yX4_init cX4_init 1 none, Cond.methodLink RX4 3 objectInit, Cond.fieldLink RX4 9 "MixElection$Pairs" "firsts" "[I", Cond.fieldLink RX4 15 "MixElection$Pairs" "seconds" "[I", Cond.methodLink RX4 18 yX4_clear, Cond.instanceMethod yX4_clear, Cond.selects RX4 yX4_clear yX4_clear, Cond.code yX4_clear cX4_clear 1 none, Cond.methodLink RX4 21 yJ7_fill_53178]
def wsX5_init : List Cond := .code yX5_init cX5_init 1 none :: ((wsX5_init_r1 ++ wsX5_init_r2) ++ wsX20 ++ wsX50 ++ wsX40)
def wsX5_clear : List Cond := .code yX5_clear cX5_clear 1 none :: ([.fieldLink RX5 12 "MixElection$Staging" "moves" "LMixElection$Moves;", .fieldLink RX5 21 "MixElection$Staging" "forged" "LMixElection$Pairs;", .methodLink RX5 25 yX2_clear, .instanceMethod yX2_clear, .selects RX2 yX2_clear yX2_clear, .initialized RX2, .code yX2_clear cX2_clear 1 none, .fieldLink RX2 9 "MixElection$Moves" "targets" "[I", .fieldLink RX2 15 "MixElection$Moves" "exponents" "[I", .methodLink RX2 21 yJ7_fill_53178, .static yJ7_fill_53178, .initialized RJ7, .code yJ7_fill_53178 cJ7_fill_53178 4 none, .methodLink RX5 28 yX4_clear, .instanceMethod yX4_clear, .selects RX4 yX4_clear yX4_clear, .initialized RX4, .code yX4_clear cX4_clear 1 none, .fieldLink RX4 9 "MixElection$Pairs" "firsts" "[I", .fieldLink RX4 15 "MixElection$Pairs" "seconds" "[I", .methodLink RX4 21 yJ7_fill_53178] ++ wsX50 ++ wsX20 ++ wsX40)
def wsX5_move : List Cond := .code yX5_move cX5_move 4 none :: ([.fieldLink RX5 12 "MixElection$Staging" "moves" "LMixElection$Moves;", .methodLink RX5 29 yX2_set, .instanceMethod yX2_set, .selects RX2 yX2_set yX2_set, .initialized RX2, .code yX2_set cX2_set 4 none, .fieldLink RX2 9 "MixElection$Moves" "targets" "[I", .fieldLink RX2 15 "MixElection$Moves" "exponents" "[I"] ++ wsX50 ++ wsX20)
def wsX5_putForged : List Cond := .code yX5_putForged cX5_putForged 4 none :: ([.fieldLink RX5 21 "MixElection$Staging" "forged" "LMixElection$Pairs;", .methodLink RX5 33 yX4_put, .instanceMethod yX4_put, .selects RX4 yX4_put yX4_put, .initialized RX4, .code yX4_put cX4_put 4 none, .fieldLink RX4 9 "MixElection$Pairs" "firsts" "[I", .fieldLink RX4 15 "MixElection$Pairs" "seconds" "[I"] ++ wsX50 ++ wsX40)
def wsX5_isWhole : List Cond := .code yX5_isWhole cX5_isWhole 2 (some .boolean) :: ([.fieldLink RX5 12 "MixElection$Staging" "moves" "LMixElection$Moves;", .methodLink RX5 36 yX2_isWhole, .instanceMethod yX2_isWhole, .selects RX2 yX2_isWhole yX2_isWhole, .initialized RX2, .code yX2_isWhole cX2_isWhole 7 (some .boolean), .methodLink RX2 27 yX2_target, .instanceMethod yX2_target, .selects RX2 yX2_target yX2_target, .code yX2_target cX2_target 2 (some .int), .fieldLink RX2 9 "MixElection$Moves" "targets" "[I"] ++ wsX50 ++ wsX20)
def wsX5_copyMovesTo : List Cond := .code yX5_copyMovesTo cX5_copyMovesTo 2 none :: ([.fieldLink RX5 12 "MixElection$Staging" "moves" "LMixElection$Moves;", .methodLink RX5 40 yX2_copyFrom, .instanceMethod yX2_copyFrom, .selects RX2 yX2_copyFrom yX2_copyFrom, .initialized RX2, .code yX2_copyFrom cX2_copyFrom 3 none, .methodLink RX2 27 yX2_target, .instanceMethod yX2_target, .selects RX2 yX2_target yX2_target, .code yX2_target cX2_target 2 (some .int), .fieldLink RX2 9 "MixElection$Moves" "targets" "[I", .methodLink RX2 31 yX2_exponent, .instanceMethod yX2_exponent, .selects RX2 yX2_exponent yX2_exponent, .code yX2_exponent cX2_exponent 2 (some .int), .fieldLink RX2 15 "MixElection$Moves" "exponents" "[I", .methodLink RX2 34 yX2_set, .instanceMethod yX2_set, .selects RX2 yX2_set yX2_set, .code yX2_set cX2_set 4 none] ++ wsX50 ++ wsX20)
def wsX5_shuffle_r1 : List Cond := [Cond.fieldLink RX5 12 "MixElection$Staging" "moves" "LMixElection$Moves;", Cond.fieldLink RX5 21 "MixElection$Staging" "forged" "LMixElection$Pairs;", Cond.methodLink RX5 44 yX2_exponent, Cond.instanceMethod yX2_exponent, Cond.selects RX2 yX2_exponent yX2_exponent, Cond.initialized RX2, Cond.code yX2_exponent cX2_exponent 2 (some .int), Cond.fieldLink RX2 15 "MixElection$Moves" "exponents" "[I", Cond.methodLink RX5 48 yX2_target, Cond.instanceMethod yX2_target, Cond.selects RX2 yX2_target yX2_target, Cond.code yX2_target cX2_target 2 (some .int), Cond.fieldLink RX2 9 "MixElection$Moves" "targets" "[I", Cond.methodLink RX5 51 yX4_first, Cond.instanceMethod yX4_first, Cond.selects RX4 yX4_first yX4_first, Cond.initialized RX4, Cond.code yX4_first cX4_first 2 (some .int), Cond.fieldLink RX4 9 "MixElection$Pairs" "firsts" "[I", Cond.methodLink RX5 54 yX4_second, Cond.instanceMethod yX4_second, Cond.selects RX4 yX4_second yX4_second, Cond.code yX4_second cX4_second 2 (some .int), Cond.fieldLink RX4 15 "MixElection$Pairs" "seconds" "[I"]
def wsX5_shuffle_r2 : List Cond := [Cond.methodLink RX5 33 yX4_put, Cond.instanceMethod yX4_put, Cond.selects RX4 yX4_put yX4_put, Cond.code yX4_put cX4_put 4 none, Cond.methodLink RX5 57 yX1_renewedFirst, Cond.instanceMethod yX1_renewedFirst, Cond.selects RX1 yX1_renewedFirst yX1_renewedFirst, Cond.initialized RX1, Cond.code yX1_renewedFirst cX1_renewedFirst 3 (some .int), Cond.methodLink RX1 21 yX1_raised, Cond.instanceMethod yX1_raised, Cond.selects RX1 yX1_raised yX1_raised, Cond.code yX1_raised cX1_raised 3 (some .int), Cond.fieldLink RX1 9 "MixElection$Group" "prime" "I", Cond.methodLink RX1 29 yX3_power, Cond.static yX3_power, Cond.initialized RX3, Cond.code yX3_power cX3_power 6 (some .int), Cond.methodLink RX3 25 yX3_times, Cond.static yX3_times, Cond.code yX3_times cX3_times 3 (some .int), Cond.methodLink RX1 41 yX1_multiplied, Cond.instanceMethod yX1_multiplied, Cond.selects RX1 yX1_multiplied yX1_multiplied]
def wsX5_shuffle_r3 : List Cond := [Cond.code yX1_multiplied cX1_multiplied 3 (some .int), Cond.methodLink RX1 35 yX3_times, Cond.methodLink RX5 63 yX1_renewedSecond, Cond.instanceMethod yX1_renewedSecond, Cond.selects RX1 yX1_renewedSecond yX1_renewedSecond, Cond.code yX1_renewedSecond cX1_renewedSecond 3 (some .int), Cond.fieldLink RX1 18 "MixElection$Group" "told" "I"]
def wsX5_shuffle : List Cond := .code yX5_shuffle cX5_shuffle 8 none :: ((wsX5_shuffle_r1 ++ (wsX5_shuffle_r2 ++ wsX5_shuffle_r3)) ++ wsX50 ++ wsX20 ++ wsX40 ++ wsX10)
def wsX6_init_r1 : List Cond := [Cond.methodLink RX6 3 objectInit, Cond.instanceMethod objectInit, Cond.code objectInit ⟨#[0xb1]⟩ 1 none, Cond.fieldLink RX6 9 "MixElection$Trustees" "group" "LMixElection$Group;", Cond.methodLink RX6 21 Lib.Math.min.name, Cond.static Lib.Math.min.name, Cond.initialized "java/lang/Math", Cond.code Lib.Math.min.name Lib.Math.min.code 2 (some .int), Cond.fieldLink RX6 33 "MixElection$Trustees" "size" "I", Cond.fieldLink RX6 37 "MixElection$Trustees" "threshold" "I", Cond.arrayClass .int, Cond.fieldLink RX6 40 "MixElection$Trustees" "coefficients" "[I", Cond.arrayClass .boolean, Cond.fieldLink RX6 44 "MixElection$Trustees" "hasGiven" "[Z", Cond.classLink RX6 48 "[[I", Cond.fieldLink RX6 50 "MixElection$Trustees" "gifts" "[[I", Cond.fieldLink RX6 53 "MixElection$Trustees" "weights" "[I", Cond.methodLink RX6 15 yX1_order, Cond.instanceMethod yX1_order, Cond.selects RX1 yX1_order yX1_order, Cond.initialized RX1, Cond.code yX1_order cX1_order 1 (some .int), Cond.fieldLink RX1 15 "MixElection$Group" "half" "I", Cond.methodLink RX6 27 yX3_within]
def wsX6_init_r2 : List Cond := [Cond.static yX3_within, Cond.initialized RX3, Cond.code yX3_within cX3_within 3 (some .int), Cond.methodLink RX3 9 Lib.Math.min.name, Cond.methodLink RX3 15 Lib.Math.max.name, Cond.static Lib.Math.max.name, Cond.code Lib.Math.max.name Lib.Math.max.code 2 (some .int)]
def wsX6_init : List Cond := .code yX6_init cX6_init 4 none :: ((wsX6_init_r1 ++ wsX6_init_r2) ++ wsX60 ++ wsX10)
def wsX6_size : List Cond := .code yX6_size cX6_size 1 (some .int) :: ([.fieldLink RX6 33 "MixElection$Trustees" "size" "I"] ++ wsX60)
def wsX6_needed : List Cond := .code yX6_needed cX6_needed 1 (some .int) :: ([.fieldLink RX6 37 "MixElection$Trustees" "threshold" "I"] ++ wsX60)
def wsX6_givers : List Cond := .code yX6_givers cX6_givers 1 (some .int) :: ([.fieldLink RX6 56 "MixElection$Trustees" "givers" "I"] ++ wsX60)
def wsX6_areEnough : List Cond := .code yX6_areEnough cX6_areEnough 1 (some .boolean) :: ([.fieldLink RX6 56 "MixElection$Trustees" "givers" "I", .fieldLink RX6 37 "MixElection$Trustees" "threshold" "I"] ++ wsX60)
def wsX6_secretKey : List Cond := .code yX6_secretKey cX6_secretKey 1 (some .int) :: ([.fieldLink RX6 40 "MixElection$Trustees" "coefficients" "[I"] ++ wsX60)
def wsX6_setCoefficient : List Cond := .code yX6_setCoefficient cX6_setCoefficient 3 (some .boolean) :: ([.fieldLink RX6 37 "MixElection$Trustees" "threshold" "I", .fieldLink RX6 9 "MixElection$Trustees" "group" "LMixElection$Group;", .fieldLink RX6 40 "MixElection$Trustees" "coefficients" "[I", .methodLink RX6 59 yX1_isExponent, .instanceMethod yX1_isExponent, .selects RX1 yX1_isExponent yX1_isExponent, .initialized RX1, .code yX1_isExponent cX1_isExponent 2 (some .boolean), .fieldLink RX1 15 "MixElection$Group" "half" "I"] ++ wsX60 ++ wsX10)
def wsX6_isTrustee : List Cond := .code yX6_isTrustee cX6_isTrustee 2 (some .boolean) :: ([.fieldLink RX6 33 "MixElection$Trustees" "size" "I"] ++ wsX60)
def wsX6_mayGive : List Cond := .code yX6_mayGive cX6_mayGive 2 (some .boolean) :: ([.fieldLink RX6 44 "MixElection$Trustees" "hasGiven" "[Z", .methodLink RX6 63 yX6_isTrustee, .instanceMethod yX6_isTrustee, .selects RX6 yX6_isTrustee yX6_isTrustee, .initialized RX6, .code yX6_isTrustee cX6_isTrustee 2 (some .boolean), .fieldLink RX6 33 "MixElection$Trustees" "size" "I"] ++ wsX60)
def wsX6_gave : List Cond := .code yX6_gave cX6_gave 2 (some .boolean) :: ([.fieldLink RX6 44 "MixElection$Trustees" "hasGiven" "[Z", .methodLink RX6 63 yX6_isTrustee, .instanceMethod yX6_isTrustee, .selects RX6 yX6_isTrustee yX6_isTrustee, .initialized RX6, .code yX6_isTrustee cX6_isTrustee 2 (some .boolean), .fieldLink RX6 33 "MixElection$Trustees" "size" "I"] ++ wsX60)
def wsX6_shareOf : List Cond := .code yX6_shareOf cX6_shareOf 4 (some .int) :: ([.fieldLink RX6 37 "MixElection$Trustees" "threshold" "I", .fieldLink RX6 9 "MixElection$Trustees" "group" "LMixElection$Group;", .fieldLink RX6 40 "MixElection$Trustees" "coefficients" "[I", .methodLink RX6 15 yX1_order, .instanceMethod yX1_order, .selects RX1 yX1_order yX1_order, .initialized RX1, .code yX1_order cX1_order 1 (some .int), .fieldLink RX1 15 "MixElection$Group" "half" "I", .methodLink RX6 81 yX3_times, .static yX3_times, .initialized RX3, .code yX3_times cX3_times 3 (some .int), .methodLink RX6 84 yX3_plus, .static yX3_plus, .code yX3_plus cX3_plus 3 (some .int)] ++ wsX60 ++ wsX10)
def wsX6_give_r1 : List Cond := [Cond.fieldLink RX6 50 "MixElection$Trustees" "gifts" "[[I", Cond.fieldLink RX6 9 "MixElection$Trustees" "group" "LMixElection$Group;", Cond.fieldLink RX6 44 "MixElection$Trustees" "hasGiven" "[Z", Cond.fieldLink RX6 56 "MixElection$Trustees" "givers" "I", Cond.methodLink RX6 66 yX6_mayGive, Cond.instanceMethod yX6_mayGive, Cond.selects RX6 yX6_mayGive yX6_mayGive, Cond.initialized RX6, Cond.code yX6_mayGive cX6_mayGive 2 (some .boolean), Cond.methodLink RX6 63 yX6_isTrustee, Cond.instanceMethod yX6_isTrustee, Cond.selects RX6 yX6_isTrustee yX6_isTrustee, Cond.code yX6_isTrustee cX6_isTrustee 2 (some .boolean), Cond.fieldLink RX6 33 "MixElection$Trustees" "size" "I", Cond.methodLink RX6 69 yX6_shareOf, Cond.instanceMethod yX6_shareOf, Cond.selects RX6 yX6_shareOf yX6_shareOf, Cond.code yX6_shareOf cX6_shareOf 4 (some .int), Cond.fieldLink RX6 37 "MixElection$Trustees" "threshold" "I", Cond.fieldLink RX6 40 "MixElection$Trustees" "coefficients" "[I", Cond.methodLink RX6 15 yX1_order, Cond.instanceMethod yX1_order, Cond.selects RX1 yX1_order yX1_order, Cond.initialized RX1]
def wsX6_give_r2 : List Cond := [Cond.code yX1_order cX1_order 1 (some .int), Cond.fieldLink RX1 15 "MixElection$Group" "half" "I", Cond.methodLink RX6 81 yX3_times, Cond.static yX3_times, Cond.initialized RX3, Cond.code yX3_times cX3_times 3 (some .int), Cond.methodLink RX6 84 yX3_plus, Cond.static yX3_plus, Cond.code yX3_plus cX3_plus 3 (some .int), Cond.methodLink RX6 73 yX4_first, Cond.instanceMethod yX4_first, Cond.selects RX4 yX4_first yX4_first, Cond.initialized RX4, Cond.code yX4_first cX4_first 2 (some .int), Cond.fieldLink RX4 9 "MixElection$Pairs" "firsts" "[I", Cond.methodLink RX6 78 yX1_raised, Cond.instanceMethod yX1_raised, Cond.selects RX1 yX1_raised yX1_raised, Cond.code yX1_raised cX1_raised 3 (some .int), Cond.fieldLink RX1 9 "MixElection$Group" "prime" "I", Cond.methodLink RX1 29 yX3_power, Cond.static yX3_power, Cond.code yX3_power cX3_power 6 (some .int), Cond.methodLink RX3 25 yX3_times]
def wsX6_give : List Cond := .code yX6_give cX6_give 6 none :: ((wsX6_give_r1 ++ wsX6_give_r2) ++ wsX60 ++ wsX10 ++ wsX40)
def wsX6_gift : List Cond := .code yX6_gift cX6_gift 3 (some .int) :: ([.fieldLink RX6 50 "MixElection$Trustees" "gifts" "[[I", .methodLink RX6 87 yX6_gave, .instanceMethod yX6_gave, .selects RX6 yX6_gave yX6_gave, .initialized RX6, .code yX6_gave cX6_gave 2 (some .boolean), .fieldLink RX6 44 "MixElection$Trustees" "hasGiven" "[Z", .methodLink RX6 63 yX6_isTrustee, .instanceMethod yX6_isTrustee, .selects RX6 yX6_isTrustee yX6_isTrustee, .code yX6_isTrustee cX6_isTrustee 2 (some .boolean), .fieldLink RX6 33 "MixElection$Trustees" "size" "I"] ++ wsX60)
def wsX6_digest : List Cond := .code yX6_digest cX6_digest 6 (some .long) :: ([.methodLink RX6 90 yX6_gift, .instanceMethod yX6_gift, .selects RX6 yX6_gift yX6_gift, .initialized RX6, .code yX6_gift cX6_gift 3 (some .int), .fieldLink RX6 50 "MixElection$Trustees" "gifts" "[[I", .methodLink RX6 87 yX6_gave, .instanceMethod yX6_gave, .selects RX6 yX6_gave yX6_gave, .code yX6_gave cX6_gave 2 (some .boolean), .fieldLink RX6 44 "MixElection$Trustees" "hasGiven" "[Z", .methodLink RX6 63 yX6_isTrustee, .instanceMethod yX6_isTrustee, .selects RX6 yX6_isTrustee yX6_isTrustee, .code yX6_isTrustee cX6_isTrustee 2 (some .boolean), .fieldLink RX6 33 "MixElection$Trustees" "size" "I", .methodLink RX6 93 yX3_digested, .static yX3_digested, .initialized RX3, .code yX3_digested cX3_digested 4 (some .long), .constantLong RX3 32 (1099511628211)] ++ wsX60)
def wsX6_lastNeededGiver : List Cond := .code yX6_lastNeededGiver cX6_lastNeededGiver 3 (some .int) :: ([.fieldLink RX6 33 "MixElection$Trustees" "size" "I", .fieldLink RX6 37 "MixElection$Trustees" "threshold" "I", .methodLink RX6 87 yX6_gave, .instanceMethod yX6_gave, .selects RX6 yX6_gave yX6_gave, .initialized RX6, .code yX6_gave cX6_gave 2 (some .boolean), .fieldLink RX6 44 "MixElection$Trustees" "hasGiven" "[Z", .methodLink RX6 63 yX6_isTrustee, .instanceMethod yX6_isTrustee, .selects RX6 yX6_isTrustee yX6_isTrustee, .code yX6_isTrustee cX6_isTrustee 2 (some .boolean)] ++ wsX60)
def wsX6_weightOf_r1 : List Cond := [Cond.fieldLink RX6 9 "MixElection$Trustees" "group" "LMixElection$Group;", Cond.methodLink RX6 15 yX1_order, Cond.instanceMethod yX1_order, Cond.selects RX1 yX1_order yX1_order, Cond.initialized RX1, Cond.code yX1_order cX1_order 1 (some .int), Cond.fieldLink RX1 15 "MixElection$Group" "half" "I", Cond.methodLink RX6 87 yX6_gave, Cond.instanceMethod yX6_gave, Cond.selects RX6 yX6_gave yX6_gave, Cond.initialized RX6, Cond.code yX6_gave cX6_gave 2 (some .boolean), Cond.fieldLink RX6 44 "MixElection$Trustees" "hasGiven" "[Z", Cond.methodLink RX6 63 yX6_isTrustee, Cond.instanceMethod yX6_isTrustee, Cond.selects RX6 yX6_isTrustee yX6_isTrustee, Cond.code yX6_isTrustee cX6_isTrustee 2 (some .boolean), Cond.fieldLink RX6 33 "MixElection$Trustees" "size" "I", Cond.methodLink RX6 81 yX3_times, Cond.static yX3_times, Cond.initialized RX3, Cond.code yX3_times cX3_times 3 (some .int), Cond.methodLink RX6 103 yX3_minus, Cond.static yX3_minus]
def wsX6_weightOf_r2 : List Cond := [Cond.code yX3_minus cX3_minus 3 (some .int), Cond.methodLink RX6 106 yX3_inverse, Cond.static yX3_inverse, Cond.code yX3_inverse cX3_inverse 2 (some .int), Cond.methodLink RX3 29 yX3_power, Cond.static yX3_power, Cond.code yX3_power cX3_power 6 (some .int), Cond.methodLink RX3 25 yX3_times]
def wsX6_weightOf : List Cond := .code yX6_weightOf cX6_weightOf 7 (some .int) :: ((wsX6_weightOf_r1 ++ wsX6_weightOf_r2) ++ wsX60 ++ wsX10)
def wsX6_weighFirstGivers_r1 : List Cond := [Cond.fieldLink RX6 33 "MixElection$Trustees" "size" "I", Cond.fieldLink RX6 53 "MixElection$Trustees" "weights" "[I", Cond.methodLink RX6 97 yX6_lastNeededGiver, Cond.instanceMethod yX6_lastNeededGiver, Cond.selects RX6 yX6_lastNeededGiver yX6_lastNeededGiver, Cond.initialized RX6, Cond.code yX6_lastNeededGiver cX6_lastNeededGiver 3 (some .int), Cond.fieldLink RX6 37 "MixElection$Trustees" "threshold" "I", Cond.methodLink RX6 87 yX6_gave, Cond.instanceMethod yX6_gave, Cond.selects RX6 yX6_gave yX6_gave, Cond.code yX6_gave cX6_gave 2 (some .boolean), Cond.fieldLink RX6 44 "MixElection$Trustees" "hasGiven" "[Z", Cond.methodLink RX6 63 yX6_isTrustee, Cond.instanceMethod yX6_isTrustee, Cond.selects RX6 yX6_isTrustee yX6_isTrustee, Cond.code yX6_isTrustee cX6_isTrustee 2 (some .boolean), Cond.methodLink RX6 100 yX6_weightOf, Cond.instanceMethod yX6_weightOf, Cond.selects RX6 yX6_weightOf yX6_weightOf, Cond.code yX6_weightOf cX6_weightOf 7 (some .int), Cond.fieldLink RX6 9 "MixElection$Trustees" "group" "LMixElection$Group;", Cond.methodLink RX6 15 yX1_order, Cond.instanceMethod yX1_order]
def wsX6_weighFirstGivers_r2 : List Cond := [Cond.selects RX1 yX1_order yX1_order, Cond.initialized RX1, Cond.code yX1_order cX1_order 1 (some .int), Cond.fieldLink RX1 15 "MixElection$Group" "half" "I", Cond.methodLink RX6 81 yX3_times, Cond.static yX3_times, Cond.initialized RX3, Cond.code yX3_times cX3_times 3 (some .int), Cond.methodLink RX6 103 yX3_minus, Cond.static yX3_minus, Cond.code yX3_minus cX3_minus 3 (some .int), Cond.methodLink RX6 106 yX3_inverse, Cond.static yX3_inverse, Cond.code yX3_inverse cX3_inverse 2 (some .int), Cond.methodLink RX3 29 yX3_power, Cond.static yX3_power, Cond.code yX3_power cX3_power 6 (some .int), Cond.methodLink RX3 25 yX3_times]
def wsX6_weighFirstGivers : List Cond := .code yX6_weighFirstGivers cX6_weighFirstGivers 3 none :: ((wsX6_weighFirstGivers_r1 ++ wsX6_weighFirstGivers_r2) ++ wsX60 ++ wsX10)
def wsX6_joinedGift_r1 : List Cond := [Cond.fieldLink RX6 33 "MixElection$Trustees" "size" "I", Cond.fieldLink RX6 53 "MixElection$Trustees" "weights" "[I", Cond.fieldLink RX6 9 "MixElection$Trustees" "group" "LMixElection$Group;", Cond.methodLink RX6 90 yX6_gift, Cond.instanceMethod yX6_gift, Cond.selects RX6 yX6_gift yX6_gift, Cond.initialized RX6, Cond.code yX6_gift cX6_gift 3 (some .int), Cond.fieldLink RX6 50 "MixElection$Trustees" "gifts" "[[I", Cond.methodLink RX6 87 yX6_gave, Cond.instanceMethod yX6_gave, Cond.selects RX6 yX6_gave yX6_gave, Cond.code yX6_gave cX6_gave 2 (some .boolean), Cond.fieldLink RX6 44 "MixElection$Trustees" "hasGiven" "[Z", Cond.methodLink RX6 63 yX6_isTrustee, Cond.instanceMethod yX6_isTrustee, Cond.selects RX6 yX6_isTrustee yX6_isTrustee, Cond.code yX6_isTrustee cX6_isTrustee 2 (some .boolean), Cond.methodLink RX6 78 yX1_raised, Cond.instanceMethod yX1_raised, Cond.selects RX1 yX1_raised yX1_raised, Cond.initialized RX1, Cond.code yX1_raised cX1_raised 3 (some .int), Cond.fieldLink RX1 9 "MixElection$Group" "prime" "I"]
def wsX6_joinedGift_r2 : List Cond := [Cond.methodLink RX1 29 yX3_power, Cond.static yX3_power, Cond.initialized RX3, Cond.code yX3_power cX3_power 6 (some .int), Cond.methodLink RX3 25 yX3_times, Cond.static yX3_times, Cond.code yX3_times cX3_times 3 (some .int), Cond.methodLink RX6 109 yX1_multiplied, Cond.instanceMethod yX1_multiplied, Cond.selects RX1 yX1_multiplied yX1_multiplied, Cond.code yX1_multiplied cX1_multiplied 3 (some .int), Cond.methodLink RX1 35 yX3_times]
def wsX6_joinedGift : List Cond := .code yX6_joinedGift cX6_joinedGift 4 (some .int) :: ((wsX6_joinedGift_r1 ++ wsX6_joinedGift_r2) ++ wsX60 ++ wsX10)
def wsX7_init_r1 : List Cond := [Cond.methodLink RX7 1 objectInit, Cond.instanceMethod objectInit, Cond.code objectInit ⟨#[0xb1]⟩ 1 none, Cond.classLink RX7 7 RX1, Cond.instantiable RX1 3, Cond.initialized RX1, Cond.constant RX7 11 (999959), Cond.fieldLink RX7 25 "MixElection" "group" "LMixElection$Group;", Cond.methodLink RX7 33 Lib.Math.min.name, Cond.static Lib.Math.min.name, Cond.initialized "java/lang/Math", Cond.code Lib.Math.min.name Lib.Math.min.code 2 (some .int), Cond.fieldLink RX7 39 "MixElection" "candidates" "I", Cond.classLink RX7 43 RX6, Cond.instantiable RX6 8, Cond.initialized RX6, Cond.fieldLink RX7 48 "MixElection" "trustees" "LMixElection$Trustees;", Cond.classLink RX7 52 RX0, Cond.instantiable RX0 6, Cond.initialized RX0, Cond.fieldLink RX7 55 "MixElection" "board" "LMixElection$Board;", Cond.classLink RX7 59 RX4, Cond.instantiable RX4 2, Cond.initialized RX4]
def wsX7_init_r2 : List Cond := [Cond.fieldLink RX7 62 "MixElection" "lastBallots" "LMixElection$Pairs;", Cond.fieldLink RX7 66 "MixElection" "lists" "[LMixElection$Pairs;", Cond.fieldLink RX7 70 "MixElection" "latestShadow" "LMixElection$Pairs;", Cond.classLink RX7 73 RX5, Cond.instantiable RX5 2, Cond.initialized RX5, Cond.fieldLink RX7 76 "MixElection" "staging" "LMixElection$Staging;", Cond.classLink RX7 80 RX2, Cond.instantiable RX2 2, Cond.initialized RX2, Cond.fieldLink RX7 83 "MixElection" "mixMoves" "LMixElection$Moves;", Cond.fieldLink RX7 87 "MixElection" "shadowMoves" "LMixElection$Moves;", Cond.fieldLink RX7 90 "MixElection" "shownMoves" "LMixElection$Moves;", Cond.arrayClass .int, Cond.fieldLink RX7 93 "MixElection" "counts" "[I", Cond.fieldLink RX7 97 "MixElection" "stage" "I", Cond.methodLink RX7 12 yX3_within, Cond.static yX3_within, Cond.initialized RX3, Cond.code yX3_within cX3_within 3 (some .int), Cond.methodLink RX3 9 Lib.Math.min.name, Cond.methodLink RX3 15 Lib.Math.max.name, Cond.static Lib.Math.max.name, Cond.code Lib.Math.max.name Lib.Math.max.code 2 (some .int)]
def wsX7_init_r3 : List Cond := [Cond.methodLink RX7 18 yX3_safePrimeFrom, Cond.static yX3_safePrimeFrom, Cond.code yX3_safePrimeFrom cX3_safePrimeFrom 2 (some .int), Cond.constant RX3 18 (999959), Cond.methodLink RX3 19 yX3_isOddPrime, Cond.static yX3_isOddPrime, Cond.code yX3_isOddPrime cX3_isOddPrime 2 (some .boolean), Cond.methodLink RX7 22 yX1_init, Cond.instanceMethod yX1_init, Cond.code yX1_init cX1_init 2 none, Cond.methodLink RX1 3 objectInit, Cond.fieldLink RX1 9 "MixElection$Group" "prime" "I", Cond.fieldLink RX1 15 "MixElection$Group" "half" "I", Cond.methodLink RX7 29 yX1_order, Cond.instanceMethod yX1_order, Cond.selects RX1 yX1_order yX1_order, Cond.code yX1_order cX1_order 1 (some .int), Cond.methodLink RX7 45 yX6_init, Cond.instanceMethod yX6_init, Cond.code yX6_init cX6_init 4 none, Cond.methodLink RX6 3 objectInit, Cond.fieldLink RX6 9 "MixElection$Trustees" "group" "LMixElection$Group;", Cond.methodLink RX6 21 Lib.Math.min.name, Cond.fieldLink RX6 33 "MixElection$Trustees" "size" "I"]
def wsX7_init_r4 : List Cond := [Cond.fieldLink RX6 37 "MixElection$Trustees" "threshold" "I", Cond.fieldLink RX6 40 "MixElection$Trustees" "coefficients" "[I", Cond.arrayClass .boolean, Cond.fieldLink RX6 44 "MixElection$Trustees" "hasGiven" "[Z", Cond.classLink RX6 48 "[[I", Cond.fieldLink RX6 50 "MixElection$Trustees" "gifts" "[[I", Cond.fieldLink RX6 53 "MixElection$Trustees" "weights" "[I", Cond.methodLink RX6 15 yX1_order, Cond.methodLink RX6 27 yX3_within, Cond.methodLink RX7 54 yX0_init, Cond.instanceMethod yX0_init, Cond.code yX0_init cX0_init 1 none, Cond.methodLink RX0 3 objectInit, Cond.fieldLink RX0 9 "MixElection$Board" "kinds" "[I", Cond.fieldLink RX0 15 "MixElection$Board" "xs" "[I", Cond.fieldLink RX0 18 "MixElection$Board" "ys" "[I", Cond.arrayClass .long, Cond.fieldLink RX0 21 "MixElection$Board" "zs" "[J", Cond.fieldLink RX0 25 "MixElection$Board" "chains" "[J", Cond.methodLink RX7 61 yX4_init, Cond.instanceMethod yX4_init, Cond.code yX4_init cX4_init 1 none, Cond.methodLink RX4 3 objectInit, Cond.fieldLink RX4 9 "MixElection$Pairs" "firsts" "[I"]
def wsX7_init_r5 : List Cond := [Cond.fieldLink RX4 15 "MixElection$Pairs" "seconds" "[I", Cond.methodLink RX4 18 yX4_clear, Cond.instanceMethod yX4_clear, Cond.selects RX4 yX4_clear yX4_clear, Cond.code yX4_clear cX4_clear 1 none, Cond.methodLink RX4 21 yJ7_fill_53178, Cond.static yJ7_fill_53178, Cond.initialized RJ7, Cond.code yJ7_fill_53178 cJ7_fill_53178 4 none, Cond.methodLink RX7 75 yX5_init, Cond.instanceMethod yX5_init, Cond.code yX5_init cX5_init 1 none, Cond.methodLink RX5 3 objectInit, Cond.classLink RX5 9 RX2, Cond.fieldLink RX5 12 "MixElection$Staging" "moves" "LMixElection$Moves;", Cond.classLink RX5 18 RX4, Cond.fieldLink RX5 21 "MixElection$Staging" "forged" "LMixElection$Pairs;", Cond.methodLink RX5 11 yX2_init, Cond.instanceMethod yX2_init, Cond.code yX2_init cX2_init 1 none, Cond.methodLink RX2 3 objectInit, Cond.fieldLink RX2 9 "MixElection$Moves" "targets" "[I", Cond.fieldLink RX2 15 "MixElection$Moves" "exponents" "[I", Cond.methodLink RX2 18 yX2_clear]
def wsX7_init_r6 : List Cond := [Cond.instanceMethod yX2_clear, Cond.selects RX2 yX2_clear yX2_clear, Cond.code yX2_clear cX2_clear 1 none, Cond.methodLink RX2 21 yJ7_fill_53178, Cond.methodLink RX5 20 yX4_init, Cond.methodLink RX7 82 yX2_init]
def wsX7_init : List Cond := .code yX7_init cX7_init 6 none :: ((wsX7_init_r1 ++ (wsX7_init_r2 ++ (wsX7_init_r3 ++ (wsX7_init_r4 ++ (wsX7_init_r5 ++ wsX7_init_r6))))) ++ wsX10 ++ wsX70 ++ wsX60 ++ wsX00 ++ wsX40 ++ wsX50 ++ wsX20)
def wsX7_secret : List Cond := .code yX7_secret cX7_secret 3 (some .boolean) :: ([.fieldLink RX7 97 "MixElection" "stage" "I", .fieldLink RX7 48 "MixElection" "trustees" "LMixElection$Trustees;", .methodLink RX7 100 yX6_setCoefficient, .instanceMethod yX6_setCoefficient, .selects RX6 yX6_setCoefficient yX6_setCoefficient, .initialized RX6, .code yX6_setCoefficient cX6_setCoefficient 3 (some .boolean), .fieldLink RX6 37 "MixElection$Trustees" "threshold" "I", .fieldLink RX6 9 "MixElection$Trustees" "group" "LMixElection$Group;", .fieldLink RX6 40 "MixElection$Trustees" "coefficients" "[I", .methodLink RX6 59 yX1_isExponent, .instanceMethod yX1_isExponent, .selects RX1 yX1_isExponent yX1_isExponent, .initialized RX1, .code yX1_isExponent cX1_isExponent 2 (some .boolean), .fieldLink RX1 15 "MixElection$Group" "half" "I"] ++ wsX70 ++ wsX60 ++ wsX10)
def wsX7_key_r1 : List Cond := [Cond.fieldLink RX7 97 "MixElection" "stage" "I", Cond.fieldLink RX7 25 "MixElection" "group" "LMixElection$Group;", Cond.fieldLink RX7 48 "MixElection" "trustees" "LMixElection$Trustees;", Cond.fieldLink RX7 55 "MixElection" "board" "LMixElection$Board;", Cond.methodLink RX7 104 yX6_secretKey, Cond.instanceMethod yX6_secretKey, Cond.selects RX6 yX6_secretKey yX6_secretKey, Cond.initialized RX6, Cond.code yX6_secretKey cX6_secretKey 1 (some .int), Cond.fieldLink RX6 40 "MixElection$Trustees" "coefficients" "[I", Cond.methodLink RX7 107 yX1_tellKey, Cond.instanceMethod yX1_tellKey, Cond.selects RX1 yX1_tellKey yX1_tellKey, Cond.initialized RX1, Cond.code yX1_tellKey cX1_tellKey 2 none, Cond.fieldLink RX1 18 "MixElection$Group" "told" "I", Cond.methodLink RX1 21 yX1_raised, Cond.instanceMethod yX1_raised, Cond.selects RX1 yX1_raised yX1_raised, Cond.code yX1_raised cX1_raised 3 (some .int), Cond.fieldLink RX1 9 "MixElection$Group" "prime" "I", Cond.methodLink RX1 29 yX3_power, Cond.static yX3_power, Cond.initialized RX3]
def wsX7_key_r2 : List Cond := [Cond.code yX3_power cX3_power 6 (some .int), Cond.methodLink RX3 25 yX3_times, Cond.static yX3_times, Cond.code yX3_times cX3_times 3 (some .int), Cond.methodLink RX7 110 yX1_publicKey, Cond.instanceMethod yX1_publicKey, Cond.selects RX1 yX1_publicKey yX1_publicKey, Cond.code yX1_publicKey cX1_publicKey 1 (some .int), Cond.methodLink RX7 113 yX6_size, Cond.instanceMethod yX6_size, Cond.selects RX6 yX6_size yX6_size, Cond.code yX6_size cX6_size 1 (some .int), Cond.fieldLink RX6 33 "MixElection$Trustees" "size" "I", Cond.methodLink RX7 116 yX6_needed, Cond.instanceMethod yX6_needed, Cond.selects RX6 yX6_needed yX6_needed, Cond.code yX6_needed cX6_needed 1 (some .int), Cond.fieldLink RX6 37 "MixElection$Trustees" "threshold" "I", Cond.methodLink RX7 119 yX0_add, Cond.instanceMethod yX0_add, Cond.selects RX0 yX0_add yX0_add, Cond.initialized RX0, Cond.code yX0_add cX0_add 8 (some .long), Cond.fieldLink RX0 28 "MixElection$Board" "size" "I"]
def wsX7_key_r3 : List Cond := [Cond.fieldLink RX0 9 "MixElection$Board" "kinds" "[I", Cond.fieldLink RX0 15 "MixElection$Board" "xs" "[I", Cond.fieldLink RX0 18 "MixElection$Board" "ys" "[I", Cond.fieldLink RX0 21 "MixElection$Board" "zs" "[J", Cond.fieldLink RX0 25 "MixElection$Board" "chains" "[J", Cond.methodLink RX0 32 yX0_chainOf, Cond.instanceMethod yX0_chainOf, Cond.selects RX0 yX0_chainOf yX0_chainOf, Cond.code yX0_chainOf cX0_chainOf 2 (some .long), Cond.constantLong RX0 46 (-3750763034362895579), Cond.methodLink RX0 42 yX0_has, Cond.instanceMethod yX0_has, Cond.selects RX0 yX0_has yX0_has, Cond.code yX0_has cX0_has 2 (some .boolean), Cond.methodLink RX0 36 yX3_digested, Cond.static yX3_digested, Cond.code yX3_digested cX3_digested 4 (some .long), Cond.constantLong RX3 32 (1099511628211)]
def wsX7_key : List Cond := .code yX7_key cX7_key 1 (some .int) :: ((wsX7_key_r1 ++ (wsX7_key_r2 ++ wsX7_key_r3)) ++ wsX70 ++ wsX60 ++ wsX10 ++ wsX00)
def wsX7_voter : List Cond := .code yX7_voter cX7_voter 1 (some .int) :: ([.fieldLink RX7 97 "MixElection" "stage" "I", .fieldLink RX7 123 "MixElection" "voters" "I"] ++ wsX70)
def wsX7_mayCast : List Cond := .code yX7_mayCast cX7_mayCast 2 (some .boolean) :: ([.fieldLink RX7 97 "MixElection" "stage" "I", .fieldLink RX7 123 "MixElection" "voters" "I", .fieldLink RX7 55 "MixElection" "board" "LMixElection$Board;", .methodLink RX7 238 yX0_size, .instanceMethod yX0_size, .selects RX0 yX0_size yX0_size, .initialized RX0, .code yX0_size cX0_size 1 (some .int), .fieldLink RX0 28 "MixElection$Board" "size" "I"] ++ wsX70 ++ wsX00)
def wsX7_isCandidate : List Cond := .code yX7_isCandidate cX7_isCandidate 2 (some .boolean) :: ([.fieldLink RX7 39 "MixElection" "candidates" "I"] ++ wsX70)
def wsX7_post_r1 : List Cond := [Cond.fieldLink RX7 62 "MixElection" "lastBallots" "LMixElection$Pairs;", Cond.fieldLink RX7 55 "MixElection" "board" "LMixElection$Board;", Cond.methodLink RX7 260 yX4_put, Cond.instanceMethod yX4_put, Cond.selects RX4 yX4_put yX4_put, Cond.initialized RX4, Cond.code yX4_put cX4_put 4 none, Cond.fieldLink RX4 9 "MixElection$Pairs" "firsts" "[I", Cond.fieldLink RX4 15 "MixElection$Pairs" "seconds" "[I", Cond.methodLink RX7 119 yX0_add, Cond.instanceMethod yX0_add, Cond.selects RX0 yX0_add yX0_add, Cond.initialized RX0, Cond.code yX0_add cX0_add 8 (some .long), Cond.fieldLink RX0 28 "MixElection$Board" "size" "I", Cond.fieldLink RX0 9 "MixElection$Board" "kinds" "[I", Cond.fieldLink RX0 15 "MixElection$Board" "xs" "[I", Cond.fieldLink RX0 18 "MixElection$Board" "ys" "[I", Cond.fieldLink RX0 21 "MixElection$Board" "zs" "[J", Cond.fieldLink RX0 25 "MixElection$Board" "chains" "[J", Cond.methodLink RX0 32 yX0_chainOf, Cond.instanceMethod yX0_chainOf, Cond.selects RX0 yX0_chainOf yX0_chainOf, Cond.code yX0_chainOf cX0_chainOf 2 (some .long)]
def wsX7_post_r2 : List Cond := [Cond.constantLong RX0 46 (-3750763034362895579), Cond.methodLink RX0 42 yX0_has, Cond.instanceMethod yX0_has, Cond.selects RX0 yX0_has yX0_has, Cond.code yX0_has cX0_has 2 (some .boolean), Cond.methodLink RX0 36 yX3_digested, Cond.static yX3_digested, Cond.initialized RX3, Cond.code yX3_digested cX3_digested 4 (some .long), Cond.constantLong RX3 32 (1099511628211)]
def wsX7_post : List Cond := .code yX7_post cX7_post 4 (some .long) :: ((wsX7_post_r1 ++ wsX7_post_r2) ++ wsX70 ++ wsX40 ++ wsX00)
def wsX7_cast_r1 : List Cond := [Cond.fieldLink RX7 25 "MixElection" "group" "LMixElection$Group;", Cond.methodLink RX7 126 yX7_mayCast, Cond.instanceMethod yX7_mayCast, Cond.selects RX7 yX7_mayCast yX7_mayCast, Cond.initialized RX7, Cond.code yX7_mayCast cX7_mayCast 2 (some .boolean), Cond.fieldLink RX7 97 "MixElection" "stage" "I", Cond.fieldLink RX7 123 "MixElection" "voters" "I", Cond.fieldLink RX7 55 "MixElection" "board" "LMixElection$Board;", Cond.methodLink RX7 238 yX0_size, Cond.instanceMethod yX0_size, Cond.selects RX0 yX0_size yX0_size, Cond.initialized RX0, Cond.code yX0_size cX0_size 1 (some .int), Cond.fieldLink RX0 28 "MixElection$Board" "size" "I", Cond.methodLink RX7 130 yX7_isCandidate, Cond.instanceMethod yX7_isCandidate, Cond.selects RX7 yX7_isCandidate yX7_isCandidate, Cond.code yX7_isCandidate cX7_isCandidate 2 (some .boolean), Cond.fieldLink RX7 39 "MixElection" "candidates" "I", Cond.methodLink RX7 133 yX1_isExponent, Cond.instanceMethod yX1_isExponent, Cond.selects RX1 yX1_isExponent yX1_isExponent, Cond.initialized RX1]
def wsX7_cast_r2 : List Cond := [Cond.code yX1_isExponent cX1_isExponent 2 (some .boolean), Cond.fieldLink RX1 15 "MixElection$Group" "half" "I", Cond.methodLink RX7 136 yX1_renewedFirst, Cond.instanceMethod yX1_renewedFirst, Cond.selects RX1 yX1_renewedFirst yX1_renewedFirst, Cond.code yX1_renewedFirst cX1_renewedFirst 3 (some .int), Cond.methodLink RX1 21 yX1_raised, Cond.instanceMethod yX1_raised, Cond.selects RX1 yX1_raised yX1_raised, Cond.code yX1_raised cX1_raised 3 (some .int), Cond.fieldLink RX1 9 "MixElection$Group" "prime" "I", Cond.methodLink RX1 29 yX3_power, Cond.static yX3_power, Cond.initialized RX3, Cond.code yX3_power cX3_power 6 (some .int), Cond.methodLink RX3 25 yX3_times, Cond.static yX3_times, Cond.code yX3_times cX3_times 3 (some .int), Cond.methodLink RX1 41 yX1_multiplied, Cond.instanceMethod yX1_multiplied, Cond.selects RX1 yX1_multiplied yX1_multiplied, Cond.code yX1_multiplied cX1_multiplied 3 (some .int), Cond.methodLink RX1 35 yX3_times, Cond.methodLink RX7 139 yX1_markOf]
def wsX7_cast_r3 : List Cond := [Cond.instanceMethod yX1_markOf, Cond.selects RX1 yX1_markOf yX1_markOf, Cond.code yX1_markOf cX1_markOf 2 (some .int), Cond.methodLink RX7 142 yX1_renewedSecond, Cond.instanceMethod yX1_renewedSecond, Cond.selects RX1 yX1_renewedSecond yX1_renewedSecond, Cond.code yX1_renewedSecond cX1_renewedSecond 3 (some .int), Cond.fieldLink RX1 18 "MixElection$Group" "told" "I", Cond.methodLink RX7 145 yX7_post, Cond.instanceMethod yX7_post, Cond.selects RX7 yX7_post yX7_post, Cond.code yX7_post cX7_post 4 (some .long), Cond.fieldLink RX7 62 "MixElection" "lastBallots" "LMixElection$Pairs;", Cond.methodLink RX7 260 yX4_put, Cond.instanceMethod yX4_put, Cond.selects RX4 yX4_put yX4_put, Cond.initialized RX4, Cond.code yX4_put cX4_put 4 none, Cond.fieldLink RX4 9 "MixElection$Pairs" "firsts" "[I", Cond.fieldLink RX4 15 "MixElection$Pairs" "seconds" "[I", Cond.methodLink RX7 119 yX0_add, Cond.instanceMethod yX0_add, Cond.selects RX0 yX0_add yX0_add, Cond.code yX0_add cX0_add 8 (some .long)]
def wsX7_cast_r4 : List Cond := [Cond.fieldLink RX0 9 "MixElection$Board" "kinds" "[I", Cond.fieldLink RX0 15 "MixElection$Board" "xs" "[I", Cond.fieldLink RX0 18 "MixElection$Board" "ys" "[I", Cond.fieldLink RX0 21 "MixElection$Board" "zs" "[J", Cond.fieldLink RX0 25 "MixElection$Board" "chains" "[J", Cond.methodLink RX0 32 yX0_chainOf, Cond.instanceMethod yX0_chainOf, Cond.selects RX0 yX0_chainOf yX0_chainOf, Cond.code yX0_chainOf cX0_chainOf 2 (some .long), Cond.constantLong RX0 46 (-3750763034362895579), Cond.methodLink RX0 42 yX0_has, Cond.instanceMethod yX0_has, Cond.selects RX0 yX0_has yX0_has, Cond.code yX0_has cX0_has 2 (some .boolean), Cond.methodLink RX0 36 yX3_digested, Cond.static yX3_digested, Cond.code yX3_digested cX3_digested 4 (some .long), Cond.constantLong RX3 32 (1099511628211)]
def wsX7_cast : List Cond := .code yX7_cast cX7_cast 4 (some .long) :: ((wsX7_cast_r1 ++ (wsX7_cast_r2 ++ (wsX7_cast_r3 ++ wsX7_cast_r4))) ++ wsX70 ++ wsX00 ++ wsX10 ++ wsX40)
def wsX7_castPair_r1 : List Cond := [Cond.fieldLink RX7 25 "MixElection" "group" "LMixElection$Group;", Cond.methodLink RX7 126 yX7_mayCast, Cond.instanceMethod yX7_mayCast, Cond.selects RX7 yX7_mayCast yX7_mayCast, Cond.initialized RX7, Cond.code yX7_mayCast cX7_mayCast 2 (some .boolean), Cond.fieldLink RX7 97 "MixElection" "stage" "I", Cond.fieldLink RX7 123 "MixElection" "voters" "I", Cond.fieldLink RX7 55 "MixElection" "board" "LMixElection$Board;", Cond.methodLink RX7 238 yX0_size, Cond.instanceMethod yX0_size, Cond.selects RX0 yX0_size yX0_size, Cond.initialized RX0, Cond.code yX0_size cX0_size 1 (some .int), Cond.fieldLink RX0 28 "MixElection$Board" "size" "I", Cond.methodLink RX7 149 yX1_holdsPair, Cond.instanceMethod yX1_holdsPair, Cond.selects RX1 yX1_holdsPair yX1_holdsPair, Cond.initialized RX1, Cond.code yX1_holdsPair cX1_holdsPair 3 (some .boolean), Cond.methodLink RX1 25 yX1_holds, Cond.instanceMethod yX1_holds, Cond.selects RX1 yX1_holds yX1_holds, Cond.code yX1_holds cX1_holds 2 (some .boolean)]
def wsX7_castPair_r2 : List Cond := [Cond.fieldLink RX1 9 "MixElection$Group" "prime" "I", Cond.fieldLink RX1 15 "MixElection$Group" "half" "I", Cond.methodLink RX1 21 yX1_raised, Cond.instanceMethod yX1_raised, Cond.selects RX1 yX1_raised yX1_raised, Cond.code yX1_raised cX1_raised 3 (some .int), Cond.methodLink RX1 29 yX3_power, Cond.static yX3_power, Cond.initialized RX3, Cond.code yX3_power cX3_power 6 (some .int), Cond.methodLink RX3 25 yX3_times, Cond.static yX3_times, Cond.code yX3_times cX3_times 3 (some .int), Cond.methodLink RX7 145 yX7_post, Cond.instanceMethod yX7_post, Cond.selects RX7 yX7_post yX7_post, Cond.code yX7_post cX7_post 4 (some .long), Cond.fieldLink RX7 62 "MixElection" "lastBallots" "LMixElection$Pairs;", Cond.methodLink RX7 260 yX4_put, Cond.instanceMethod yX4_put, Cond.selects RX4 yX4_put yX4_put, Cond.initialized RX4, Cond.code yX4_put cX4_put 4 none, Cond.fieldLink RX4 9 "MixElection$Pairs" "firsts" "[I"]
def wsX7_castPair_r3 : List Cond := [Cond.fieldLink RX4 15 "MixElection$Pairs" "seconds" "[I", Cond.methodLink RX7 119 yX0_add, Cond.instanceMethod yX0_add, Cond.selects RX0 yX0_add yX0_add, Cond.code yX0_add cX0_add 8 (some .long), Cond.fieldLink RX0 9 "MixElection$Board" "kinds" "[I", Cond.fieldLink RX0 15 "MixElection$Board" "xs" "[I", Cond.fieldLink RX0 18 "MixElection$Board" "ys" "[I", Cond.fieldLink RX0 21 "MixElection$Board" "zs" "[J", Cond.fieldLink RX0 25 "MixElection$Board" "chains" "[J", Cond.methodLink RX0 32 yX0_chainOf, Cond.instanceMethod yX0_chainOf, Cond.selects RX0 yX0_chainOf yX0_chainOf, Cond.code yX0_chainOf cX0_chainOf 2 (some .long), Cond.constantLong RX0 46 (-3750763034362895579), Cond.methodLink RX0 42 yX0_has, Cond.instanceMethod yX0_has, Cond.selects RX0 yX0_has yX0_has, Cond.code yX0_has cX0_has 2 (some .boolean), Cond.methodLink RX0 36 yX3_digested, Cond.static yX3_digested, Cond.code yX3_digested cX3_digested 4 (some .long), Cond.constantLong RX3 32 (1099511628211)]
def wsX7_castPair : List Cond := .code yX7_castPair cX7_castPair 4 (some .long) :: ((wsX7_castPair_r1 ++ (wsX7_castPair_r2 ++ wsX7_castPair_r3)) ++ wsX70 ++ wsX00 ++ wsX10 ++ wsX40)
def wsX7_gatherBallots : List Cond := .code yX7_gatherBallots cX7_gatherBallots 2 none :: ([.fieldLink RX7 123 "MixElection" "voters" "I", .fieldLink RX7 62 "MixElection" "lastBallots" "LMixElection$Pairs;", .fieldLink RX7 66 "MixElection" "lists" "[LMixElection$Pairs;", .fieldLink RX7 158 "MixElection" "ballots" "I", .methodLink RX7 263 yX4_first, .instanceMethod yX4_first, .selects RX4 yX4_first yX4_first, .initialized RX4, .code yX4_first cX4_first 2 (some .int), .fieldLink RX4 9 "MixElection$Pairs" "firsts" "[I", .methodLink RX7 266 yX4_second, .instanceMethod yX4_second, .selects RX4 yX4_second yX4_second, .code yX4_second cX4_second 2 (some .int), .fieldLink RX4 15 "MixElection$Pairs" "seconds" "[I", .methodLink RX7 260 yX4_put, .instanceMethod yX4_put, .selects RX4 yX4_put yX4_put, .code yX4_put cX4_put 4 none] ++ wsX70 ++ wsX40)
def wsX7_close_r1 : List Cond := [Cond.fieldLink RX7 97 "MixElection" "stage" "I", Cond.fieldLink RX7 76 "MixElection" "staging" "LMixElection$Staging;", Cond.fieldLink RX7 55 "MixElection" "board" "LMixElection$Board;", Cond.fieldLink RX7 158 "MixElection" "ballots" "I", Cond.fieldLink RX7 66 "MixElection" "lists" "[LMixElection$Pairs;", Cond.methodLink RX7 152 yX7_gatherBallots, Cond.instanceMethod yX7_gatherBallots, Cond.selects RX7 yX7_gatherBallots yX7_gatherBallots, Cond.initialized RX7, Cond.code yX7_gatherBallots cX7_gatherBallots 2 none, Cond.fieldLink RX7 123 "MixElection" "voters" "I", Cond.fieldLink RX7 62 "MixElection" "lastBallots" "LMixElection$Pairs;", Cond.methodLink RX7 263 yX4_first, Cond.instanceMethod yX4_first, Cond.selects RX4 yX4_first yX4_first, Cond.initialized RX4, Cond.code yX4_first cX4_first 2 (some .int), Cond.fieldLink RX4 9 "MixElection$Pairs" "firsts" "[I", Cond.methodLink RX7 266 yX4_second, Cond.instanceMethod yX4_second, Cond.selects RX4 yX4_second yX4_second, Cond.code yX4_second cX4_second 2 (some .int), Cond.fieldLink RX4 15 "MixElection$Pairs" "seconds" "[I", Cond.methodLink RX7 260 yX4_put]
def wsX7_close_r2 : List Cond := [Cond.instanceMethod yX4_put, Cond.selects RX4 yX4_put yX4_put, Cond.code yX4_put cX4_put 4 none, Cond.methodLink RX7 155 yX5_clear, Cond.instanceMethod yX5_clear, Cond.selects RX5 yX5_clear yX5_clear, Cond.initialized RX5, Cond.code yX5_clear cX5_clear 1 none, Cond.fieldLink RX5 12 "MixElection$Staging" "moves" "LMixElection$Moves;", Cond.fieldLink RX5 21 "MixElection$Staging" "forged" "LMixElection$Pairs;", Cond.methodLink RX5 25 yX2_clear, Cond.instanceMethod yX2_clear, Cond.selects RX2 yX2_clear yX2_clear, Cond.initialized RX2, Cond.code yX2_clear cX2_clear 1 none, Cond.fieldLink RX2 9 "MixElection$Moves" "targets" "[I", Cond.fieldLink RX2 15 "MixElection$Moves" "exponents" "[I", Cond.methodLink RX2 21 yJ7_fill_53178, Cond.static yJ7_fill_53178, Cond.initialized RJ7, Cond.code yJ7_fill_53178 cJ7_fill_53178 4 none, Cond.methodLink RX5 28 yX4_clear, Cond.instanceMethod yX4_clear, Cond.selects RX4 yX4_clear yX4_clear]
def wsX7_close_r3 : List Cond := [Cond.code yX4_clear cX4_clear 1 none, Cond.methodLink RX4 21 yJ7_fill_53178, Cond.methodLink RX7 161 yX4_digest, Cond.instanceMethod yX4_digest, Cond.selects RX4 yX4_digest yX4_digest, Cond.code yX4_digest cX4_digest 5 (some .long), Cond.methodLink RX4 27 yX4_first, Cond.methodLink RX4 34 yX3_digested, Cond.static yX3_digested, Cond.initialized RX3, Cond.code yX3_digested cX3_digested 4 (some .long), Cond.constantLong RX3 32 (1099511628211), Cond.methodLink RX4 31 yX4_second, Cond.methodLink RX7 119 yX0_add, Cond.instanceMethod yX0_add, Cond.selects RX0 yX0_add yX0_add, Cond.initialized RX0, Cond.code yX0_add cX0_add 8 (some .long), Cond.fieldLink RX0 28 "MixElection$Board" "size" "I", Cond.fieldLink RX0 9 "MixElection$Board" "kinds" "[I", Cond.fieldLink RX0 15 "MixElection$Board" "xs" "[I", Cond.fieldLink RX0 18 "MixElection$Board" "ys" "[I", Cond.fieldLink RX0 21 "MixElection$Board" "zs" "[J", Cond.fieldLink RX0 25 "MixElection$Board" "chains" "[J"]
def wsX7_close_r4 : List Cond := [Cond.methodLink RX0 32 yX0_chainOf, Cond.instanceMethod yX0_chainOf, Cond.selects RX0 yX0_chainOf yX0_chainOf, Cond.code yX0_chainOf cX0_chainOf 2 (some .long), Cond.constantLong RX0 46 (-3750763034362895579), Cond.methodLink RX0 42 yX0_has, Cond.instanceMethod yX0_has, Cond.selects RX0 yX0_has yX0_has, Cond.code yX0_has cX0_has 2 (some .boolean), Cond.methodLink RX0 36 yX3_digested]
def wsX7_close : List Cond := .code yX7_close cX7_close 1 (some .int) :: ((wsX7_close_r1 ++ (wsX7_close_r2 ++ (wsX7_close_r3 ++ wsX7_close_r4))) ++ wsX70 ++ wsX40 ++ wsX50 ++ wsX20 ++ wsX00)
def wsX7_isBallot : List Cond := .code yX7_isBallot cX7_isBallot 2 (some .boolean) :: ([.fieldLink RX7 158 "MixElection" "ballots" "I"] ++ wsX70)
def wsX7_place_r1 : List Cond := [Cond.fieldLink RX7 97 "MixElection" "stage" "I", Cond.fieldLink RX7 25 "MixElection" "group" "LMixElection$Group;", Cond.fieldLink RX7 76 "MixElection" "staging" "LMixElection$Staging;", Cond.methodLink RX7 165 yX7_isBallot, Cond.instanceMethod yX7_isBallot, Cond.selects RX7 yX7_isBallot yX7_isBallot, Cond.initialized RX7, Cond.code yX7_isBallot cX7_isBallot 2 (some .boolean), Cond.fieldLink RX7 158 "MixElection" "ballots" "I", Cond.methodLink RX7 133 yX1_isExponent, Cond.instanceMethod yX1_isExponent, Cond.selects RX1 yX1_isExponent yX1_isExponent, Cond.initialized RX1, Cond.code yX1_isExponent cX1_isExponent 2 (some .boolean), Cond.fieldLink RX1 15 "MixElection$Group" "half" "I", Cond.methodLink RX7 168 yX5_move, Cond.instanceMethod yX5_move, Cond.selects RX5 yX5_move yX5_move, Cond.initialized RX5, Cond.code yX5_move cX5_move 4 none, Cond.fieldLink RX5 12 "MixElection$Staging" "moves" "LMixElection$Moves;", Cond.methodLink RX5 29 yX2_set, Cond.instanceMethod yX2_set, Cond.selects RX2 yX2_set yX2_set]
def wsX7_place_r2 : List Cond := [Cond.initialized RX2, Cond.code yX2_set cX2_set 4 none, Cond.fieldLink RX2 9 "MixElection$Moves" "targets" "[I", Cond.fieldLink RX2 15 "MixElection$Moves" "exponents" "[I"]
def wsX7_place : List Cond := .code yX7_place cX7_place 4 (some .boolean) :: ((wsX7_place_r1 ++ wsX7_place_r2) ++ wsX70 ++ wsX10 ++ wsX50 ++ wsX20)
def wsX7_forge_r1 : List Cond := [Cond.fieldLink RX7 97 "MixElection" "stage" "I", Cond.fieldLink RX7 25 "MixElection" "group" "LMixElection$Group;", Cond.fieldLink RX7 76 "MixElection" "staging" "LMixElection$Staging;", Cond.methodLink RX7 165 yX7_isBallot, Cond.instanceMethod yX7_isBallot, Cond.selects RX7 yX7_isBallot yX7_isBallot, Cond.initialized RX7, Cond.code yX7_isBallot cX7_isBallot 2 (some .boolean), Cond.fieldLink RX7 158 "MixElection" "ballots" "I", Cond.methodLink RX7 149 yX1_holdsPair, Cond.instanceMethod yX1_holdsPair, Cond.selects RX1 yX1_holdsPair yX1_holdsPair, Cond.initialized RX1, Cond.code yX1_holdsPair cX1_holdsPair 3 (some .boolean), Cond.methodLink RX1 25 yX1_holds, Cond.instanceMethod yX1_holds, Cond.selects RX1 yX1_holds yX1_holds, Cond.code yX1_holds cX1_holds 2 (some .boolean), Cond.fieldLink RX1 9 "MixElection$Group" "prime" "I", Cond.fieldLink RX1 15 "MixElection$Group" "half" "I", Cond.methodLink RX1 21 yX1_raised, Cond.instanceMethod yX1_raised, Cond.selects RX1 yX1_raised yX1_raised, Cond.code yX1_raised cX1_raised 3 (some .int)]
def wsX7_forge_r2 : List Cond := [Cond.methodLink RX1 29 yX3_power, Cond.static yX3_power, Cond.initialized RX3, Cond.code yX3_power cX3_power 6 (some .int), Cond.methodLink RX3 25 yX3_times, Cond.static yX3_times, Cond.code yX3_times cX3_times 3 (some .int), Cond.methodLink RX7 172 yX5_putForged, Cond.instanceMethod yX5_putForged, Cond.selects RX5 yX5_putForged yX5_putForged, Cond.initialized RX5, Cond.code yX5_putForged cX5_putForged 4 none, Cond.fieldLink RX5 21 "MixElection$Staging" "forged" "LMixElection$Pairs;", Cond.methodLink RX5 33 yX4_put, Cond.instanceMethod yX4_put, Cond.selects RX4 yX4_put yX4_put, Cond.initialized RX4, Cond.code yX4_put cX4_put 4 none, Cond.fieldLink RX4 9 "MixElection$Pairs" "firsts" "[I", Cond.fieldLink RX4 15 "MixElection$Pairs" "seconds" "[I"]
def wsX7_forge : List Cond := .code yX7_forge cX7_forge 4 (some .boolean) :: ((wsX7_forge_r1 ++ wsX7_forge_r2) ++ wsX70 ++ wsX10 ++ wsX50 ++ wsX40)
def wsX7_mayShuffle_r1 : List Cond := [Cond.fieldLink RX7 97 "MixElection" "stage" "I", Cond.fieldLink RX7 196 "MixElection" "coinIsDue" "Z", Cond.fieldLink RX7 48 "MixElection" "trustees" "LMixElection$Trustees;", Cond.fieldLink RX7 76 "MixElection" "staging" "LMixElection$Staging;", Cond.fieldLink RX7 158 "MixElection" "ballots" "I", Cond.methodLink RX7 219 yX6_givers, Cond.instanceMethod yX6_givers, Cond.selects RX6 yX6_givers yX6_givers, Cond.initialized RX6, Cond.code yX6_givers cX6_givers 1 (some .int), Cond.fieldLink RX6 56 "MixElection$Trustees" "givers" "I", Cond.methodLink RX7 269 yX5_isWhole, Cond.instanceMethod yX5_isWhole, Cond.selects RX5 yX5_isWhole yX5_isWhole, Cond.initialized RX5, Cond.code yX5_isWhole cX5_isWhole 2 (some .boolean), Cond.fieldLink RX5 12 "MixElection$Staging" "moves" "LMixElection$Moves;", Cond.methodLink RX5 36 yX2_isWhole, Cond.instanceMethod yX2_isWhole, Cond.selects RX2 yX2_isWhole yX2_isWhole, Cond.initialized RX2, Cond.code yX2_isWhole cX2_isWhole 7 (some .boolean), Cond.methodLink RX2 27 yX2_target, Cond.instanceMethod yX2_target]
def wsX7_mayShuffle_r2 : List Cond := [Cond.selects RX2 yX2_target yX2_target, Cond.code yX2_target cX2_target 2 (some .int), Cond.fieldLink RX2 9 "MixElection$Moves" "targets" "[I"]
def wsX7_mayShuffle : List Cond := .code yX7_mayShuffle cX7_mayShuffle 1 (some .boolean) :: ((wsX7_mayShuffle_r1 ++ wsX7_mayShuffle_r2) ++ wsX70 ++ wsX60 ++ wsX50 ++ wsX20)
def wsX7_listOf : List Cond := .code yX7_listOf cX7_listOf 2 (some (.object "MixElection$Pairs")) :: ([.fieldLink RX7 66 "MixElection" "lists" "[LMixElection$Pairs;"] ++ wsX70)
def wsX7_giveOut_r1 : List Cond := [Cond.fieldLink RX7 76 "MixElection" "staging" "LMixElection$Staging;", Cond.fieldLink RX7 25 "MixElection" "group" "LMixElection$Group;", Cond.fieldLink RX7 158 "MixElection" "ballots" "I", Cond.fieldLink RX7 90 "MixElection" "shownMoves" "LMixElection$Moves;", Cond.methodLink RX7 272 yX5_shuffle, Cond.instanceMethod yX5_shuffle, Cond.selects RX5 yX5_shuffle yX5_shuffle, Cond.initialized RX5, Cond.code yX5_shuffle cX5_shuffle 8 none, Cond.fieldLink RX5 12 "MixElection$Staging" "moves" "LMixElection$Moves;", Cond.fieldLink RX5 21 "MixElection$Staging" "forged" "LMixElection$Pairs;", Cond.methodLink RX5 44 yX2_exponent, Cond.instanceMethod yX2_exponent, Cond.selects RX2 yX2_exponent yX2_exponent, Cond.initialized RX2, Cond.code yX2_exponent cX2_exponent 2 (some .int), Cond.fieldLink RX2 15 "MixElection$Moves" "exponents" "[I", Cond.methodLink RX5 48 yX2_target, Cond.instanceMethod yX2_target, Cond.selects RX2 yX2_target yX2_target, Cond.code yX2_target cX2_target 2 (some .int), Cond.fieldLink RX2 9 "MixElection$Moves" "targets" "[I", Cond.methodLink RX5 51 yX4_first, Cond.instanceMethod yX4_first]
def wsX7_giveOut_r2 : List Cond := [Cond.selects RX4 yX4_first yX4_first, Cond.initialized RX4, Cond.code yX4_first cX4_first 2 (some .int), Cond.fieldLink RX4 9 "MixElection$Pairs" "firsts" "[I", Cond.methodLink RX5 54 yX4_second, Cond.instanceMethod yX4_second, Cond.selects RX4 yX4_second yX4_second, Cond.code yX4_second cX4_second 2 (some .int), Cond.fieldLink RX4 15 "MixElection$Pairs" "seconds" "[I", Cond.methodLink RX5 33 yX4_put, Cond.instanceMethod yX4_put, Cond.selects RX4 yX4_put yX4_put, Cond.code yX4_put cX4_put 4 none, Cond.methodLink RX5 57 yX1_renewedFirst, Cond.instanceMethod yX1_renewedFirst, Cond.selects RX1 yX1_renewedFirst yX1_renewedFirst, Cond.initialized RX1, Cond.code yX1_renewedFirst cX1_renewedFirst 3 (some .int), Cond.methodLink RX1 21 yX1_raised, Cond.instanceMethod yX1_raised, Cond.selects RX1 yX1_raised yX1_raised, Cond.code yX1_raised cX1_raised 3 (some .int), Cond.fieldLink RX1 9 "MixElection$Group" "prime" "I", Cond.methodLink RX1 29 yX3_power]
def wsX7_giveOut_r3 : List Cond := [Cond.static yX3_power, Cond.initialized RX3, Cond.code yX3_power cX3_power 6 (some .int), Cond.methodLink RX3 25 yX3_times, Cond.static yX3_times, Cond.code yX3_times cX3_times 3 (some .int), Cond.methodLink RX1 41 yX1_multiplied, Cond.instanceMethod yX1_multiplied, Cond.selects RX1 yX1_multiplied yX1_multiplied, Cond.code yX1_multiplied cX1_multiplied 3 (some .int), Cond.methodLink RX1 35 yX3_times, Cond.methodLink RX5 63 yX1_renewedSecond, Cond.instanceMethod yX1_renewedSecond, Cond.selects RX1 yX1_renewedSecond yX1_renewedSecond, Cond.code yX1_renewedSecond cX1_renewedSecond 3 (some .int), Cond.fieldLink RX1 18 "MixElection$Group" "told" "I", Cond.methodLink RX7 276 yX5_copyMovesTo, Cond.instanceMethod yX5_copyMovesTo, Cond.selects RX5 yX5_copyMovesTo yX5_copyMovesTo, Cond.code yX5_copyMovesTo cX5_copyMovesTo 2 none, Cond.methodLink RX5 40 yX2_copyFrom, Cond.instanceMethod yX2_copyFrom, Cond.selects RX2 yX2_copyFrom yX2_copyFrom, Cond.code yX2_copyFrom cX2_copyFrom 3 none]
def wsX7_giveOut_r4 : List Cond := [Cond.methodLink RX2 27 yX2_target, Cond.methodLink RX2 31 yX2_exponent, Cond.methodLink RX2 34 yX2_set, Cond.instanceMethod yX2_set, Cond.selects RX2 yX2_set yX2_set, Cond.code yX2_set cX2_set 4 none, Cond.methodLink RX7 155 yX5_clear, Cond.instanceMethod yX5_clear, Cond.selects RX5 yX5_clear yX5_clear, Cond.code yX5_clear cX5_clear 1 none, Cond.methodLink RX5 25 yX2_clear, Cond.instanceMethod yX2_clear, Cond.selects RX2 yX2_clear yX2_clear, Cond.code yX2_clear cX2_clear 1 none, Cond.methodLink RX2 21 yJ7_fill_53178, Cond.static yJ7_fill_53178, Cond.initialized RJ7, Cond.code yJ7_fill_53178 cJ7_fill_53178 4 none, Cond.methodLink RX5 28 yX4_clear, Cond.instanceMethod yX4_clear, Cond.selects RX4 yX4_clear yX4_clear, Cond.code yX4_clear cX4_clear 1 none, Cond.methodLink RX4 21 yJ7_fill_53178, Cond.methodLink RX7 280 yX2_clear]
def wsX7_giveOut : List Cond := .code yX7_giveOut cX7_giveOut 4 none :: ((wsX7_giveOut_r1 ++ (wsX7_giveOut_r2 ++ (wsX7_giveOut_r3 ++ wsX7_giveOut_r4))) ++ wsX70 ++ wsX50 ++ wsX20 ++ wsX40 ++ wsX10)
def wsX7_mix_r1 : List Cond := [Cond.fieldLink RX7 179 "MixElection" "mixes" "I", Cond.fieldLink RX7 83 "MixElection" "mixMoves" "LMixElection$Moves;", Cond.fieldLink RX7 190 "MixElection" "rounds" "I", Cond.fieldLink RX7 55 "MixElection" "board" "LMixElection$Board;", Cond.fieldLink RX7 158 "MixElection" "ballots" "I", Cond.methodLink RX7 175 yX7_mayShuffle, Cond.instanceMethod yX7_mayShuffle, Cond.selects RX7 yX7_mayShuffle yX7_mayShuffle, Cond.initialized RX7, Cond.code yX7_mayShuffle cX7_mayShuffle 1 (some .boolean), Cond.fieldLink RX7 97 "MixElection" "stage" "I", Cond.fieldLink RX7 196 "MixElection" "coinIsDue" "Z", Cond.fieldLink RX7 48 "MixElection" "trustees" "LMixElection$Trustees;", Cond.fieldLink RX7 76 "MixElection" "staging" "LMixElection$Staging;", Cond.methodLink RX7 219 yX6_givers, Cond.instanceMethod yX6_givers, Cond.selects RX6 yX6_givers yX6_givers, Cond.initialized RX6, Cond.code yX6_givers cX6_givers 1 (some .int), Cond.fieldLink RX6 56 "MixElection$Trustees" "givers" "I", Cond.methodLink RX7 269 yX5_isWhole, Cond.instanceMethod yX5_isWhole, Cond.selects RX5 yX5_isWhole yX5_isWhole, Cond.initialized RX5]
def wsX7_mix_r2 : List Cond := [Cond.code yX5_isWhole cX5_isWhole 2 (some .boolean), Cond.fieldLink RX5 12 "MixElection$Staging" "moves" "LMixElection$Moves;", Cond.methodLink RX5 36 yX2_isWhole, Cond.instanceMethod yX2_isWhole, Cond.selects RX2 yX2_isWhole yX2_isWhole, Cond.initialized RX2, Cond.code yX2_isWhole cX2_isWhole 7 (some .boolean), Cond.methodLink RX2 27 yX2_target, Cond.instanceMethod yX2_target, Cond.selects RX2 yX2_target yX2_target, Cond.code yX2_target cX2_target 2 (some .int), Cond.fieldLink RX2 9 "MixElection$Moves" "targets" "[I", Cond.methodLink RX7 182 yX7_listOf, Cond.instanceMethod yX7_listOf, Cond.selects RX7 yX7_listOf yX7_listOf, Cond.code yX7_listOf cX7_listOf 2 (some (.object "MixElection$Pairs")), Cond.fieldLink RX7 66 "MixElection" "lists" "[LMixElection$Pairs;", Cond.methodLink RX7 186 yX7_giveOut, Cond.instanceMethod yX7_giveOut, Cond.selects RX7 yX7_giveOut yX7_giveOut, Cond.code yX7_giveOut cX7_giveOut 4 none, Cond.fieldLink RX7 25 "MixElection" "group" "LMixElection$Group;", Cond.fieldLink RX7 90 "MixElection" "shownMoves" "LMixElection$Moves;", Cond.methodLink RX7 272 yX5_shuffle]
def wsX7_mix_r3 : List Cond := [Cond.instanceMethod yX5_shuffle, Cond.selects RX5 yX5_shuffle yX5_shuffle, Cond.code yX5_shuffle cX5_shuffle 8 none, Cond.fieldLink RX5 21 "MixElection$Staging" "forged" "LMixElection$Pairs;", Cond.methodLink RX5 44 yX2_exponent, Cond.instanceMethod yX2_exponent, Cond.selects RX2 yX2_exponent yX2_exponent, Cond.code yX2_exponent cX2_exponent 2 (some .int), Cond.fieldLink RX2 15 "MixElection$Moves" "exponents" "[I", Cond.methodLink RX5 48 yX2_target, Cond.methodLink RX5 51 yX4_first, Cond.instanceMethod yX4_first, Cond.selects RX4 yX4_first yX4_first, Cond.initialized RX4, Cond.code yX4_first cX4_first 2 (some .int), Cond.fieldLink RX4 9 "MixElection$Pairs" "firsts" "[I", Cond.methodLink RX5 54 yX4_second, Cond.instanceMethod yX4_second, Cond.selects RX4 yX4_second yX4_second, Cond.code yX4_second cX4_second 2 (some .int), Cond.fieldLink RX4 15 "MixElection$Pairs" "seconds" "[I", Cond.methodLink RX5 33 yX4_put, Cond.instanceMethod yX4_put, Cond.selects RX4 yX4_put yX4_put]
def wsX7_mix_r4 : List Cond := [Cond.code yX4_put cX4_put 4 none, Cond.methodLink RX5 57 yX1_renewedFirst, Cond.instanceMethod yX1_renewedFirst, Cond.selects RX1 yX1_renewedFirst yX1_renewedFirst, Cond.initialized RX1, Cond.code yX1_renewedFirst cX1_renewedFirst 3 (some .int), Cond.methodLink RX1 21 yX1_raised, Cond.instanceMethod yX1_raised, Cond.selects RX1 yX1_raised yX1_raised, Cond.code yX1_raised cX1_raised 3 (some .int), Cond.fieldLink RX1 9 "MixElection$Group" "prime" "I", Cond.methodLink RX1 29 yX3_power, Cond.static yX3_power, Cond.initialized RX3, Cond.code yX3_power cX3_power 6 (some .int), Cond.methodLink RX3 25 yX3_times, Cond.static yX3_times, Cond.code yX3_times cX3_times 3 (some .int), Cond.methodLink RX1 41 yX1_multiplied, Cond.instanceMethod yX1_multiplied, Cond.selects RX1 yX1_multiplied yX1_multiplied, Cond.code yX1_multiplied cX1_multiplied 3 (some .int), Cond.methodLink RX1 35 yX3_times, Cond.methodLink RX5 63 yX1_renewedSecond]
def wsX7_mix_r5 : List Cond := [Cond.instanceMethod yX1_renewedSecond, Cond.selects RX1 yX1_renewedSecond yX1_renewedSecond, Cond.code yX1_renewedSecond cX1_renewedSecond 3 (some .int), Cond.fieldLink RX1 18 "MixElection$Group" "told" "I", Cond.methodLink RX7 276 yX5_copyMovesTo, Cond.instanceMethod yX5_copyMovesTo, Cond.selects RX5 yX5_copyMovesTo yX5_copyMovesTo, Cond.code yX5_copyMovesTo cX5_copyMovesTo 2 none, Cond.methodLink RX5 40 yX2_copyFrom, Cond.instanceMethod yX2_copyFrom, Cond.selects RX2 yX2_copyFrom yX2_copyFrom, Cond.code yX2_copyFrom cX2_copyFrom 3 none, Cond.methodLink RX2 31 yX2_exponent, Cond.methodLink RX2 34 yX2_set, Cond.instanceMethod yX2_set, Cond.selects RX2 yX2_set yX2_set, Cond.code yX2_set cX2_set 4 none, Cond.methodLink RX7 155 yX5_clear, Cond.instanceMethod yX5_clear, Cond.selects RX5 yX5_clear yX5_clear, Cond.code yX5_clear cX5_clear 1 none, Cond.methodLink RX5 25 yX2_clear, Cond.instanceMethod yX2_clear, Cond.selects RX2 yX2_clear yX2_clear]
def wsX7_mix_r6 : List Cond := [Cond.code yX2_clear cX2_clear 1 none, Cond.methodLink RX2 21 yJ7_fill_53178, Cond.static yJ7_fill_53178, Cond.initialized RJ7, Cond.code yJ7_fill_53178 cJ7_fill_53178 4 none, Cond.methodLink RX5 28 yX4_clear, Cond.instanceMethod yX4_clear, Cond.selects RX4 yX4_clear yX4_clear, Cond.code yX4_clear cX4_clear 1 none, Cond.methodLink RX4 21 yJ7_fill_53178, Cond.methodLink RX7 280 yX2_clear, Cond.methodLink RX7 161 yX4_digest, Cond.instanceMethod yX4_digest, Cond.selects RX4 yX4_digest yX4_digest, Cond.code yX4_digest cX4_digest 5 (some .long), Cond.methodLink RX4 27 yX4_first, Cond.methodLink RX4 34 yX3_digested, Cond.static yX3_digested, Cond.code yX3_digested cX3_digested 4 (some .long), Cond.constantLong RX3 32 (1099511628211), Cond.methodLink RX4 31 yX4_second, Cond.methodLink RX7 119 yX0_add, Cond.instanceMethod yX0_add, Cond.selects RX0 yX0_add yX0_add]
def wsX7_mix_r7 : List Cond := [Cond.initialized RX0, Cond.code yX0_add cX0_add 8 (some .long), Cond.fieldLink RX0 28 "MixElection$Board" "size" "I", Cond.fieldLink RX0 9 "MixElection$Board" "kinds" "[I", Cond.fieldLink RX0 15 "MixElection$Board" "xs" "[I", Cond.fieldLink RX0 18 "MixElection$Board" "ys" "[I", Cond.fieldLink RX0 21 "MixElection$Board" "zs" "[J", Cond.fieldLink RX0 25 "MixElection$Board" "chains" "[J", Cond.methodLink RX0 32 yX0_chainOf, Cond.instanceMethod yX0_chainOf, Cond.selects RX0 yX0_chainOf yX0_chainOf, Cond.code yX0_chainOf cX0_chainOf 2 (some .long), Cond.constantLong RX0 46 (-3750763034362895579), Cond.methodLink RX0 42 yX0_has, Cond.instanceMethod yX0_has, Cond.selects RX0 yX0_has yX0_has, Cond.code yX0_has cX0_has 2 (some .boolean), Cond.methodLink RX0 36 yX3_digested]
def wsX7_mix : List Cond := .code yX7_mix cX7_mix 1 (some .int) :: ((wsX7_mix_r1 ++ (wsX7_mix_r2 ++ (wsX7_mix_r3 ++ (wsX7_mix_r4 ++ (wsX7_mix_r5 ++ (wsX7_mix_r6 ++ wsX7_mix_r7)))))) ++ wsX70 ++ wsX60 ++ wsX50 ++ wsX20 ++ wsX40 ++ wsX10 ++ wsX00)
def wsX7_shadow_r1 : List Cond := [Cond.fieldLink RX7 179 "MixElection" "mixes" "I", Cond.fieldLink RX7 190 "MixElection" "rounds" "I", Cond.fieldLink RX7 70 "MixElection" "latestShadow" "LMixElection$Pairs;", Cond.fieldLink RX7 87 "MixElection" "shadowMoves" "LMixElection$Moves;", Cond.fieldLink RX7 193 "MixElection" "mixesWithRounds" "I", Cond.fieldLink RX7 196 "MixElection" "coinIsDue" "Z", Cond.fieldLink RX7 55 "MixElection" "board" "LMixElection$Board;", Cond.fieldLink RX7 158 "MixElection" "ballots" "I", Cond.methodLink RX7 175 yX7_mayShuffle, Cond.instanceMethod yX7_mayShuffle, Cond.selects RX7 yX7_mayShuffle yX7_mayShuffle, Cond.initialized RX7, Cond.code yX7_mayShuffle cX7_mayShuffle 1 (some .boolean), Cond.fieldLink RX7 97 "MixElection" "stage" "I", Cond.fieldLink RX7 48 "MixElection" "trustees" "LMixElection$Trustees;", Cond.fieldLink RX7 76 "MixElection" "staging" "LMixElection$Staging;", Cond.methodLink RX7 219 yX6_givers, Cond.instanceMethod yX6_givers, Cond.selects RX6 yX6_givers yX6_givers, Cond.initialized RX6, Cond.code yX6_givers cX6_givers 1 (some .int), Cond.fieldLink RX6 56 "MixElection$Trustees" "givers" "I", Cond.methodLink RX7 269 yX5_isWhole, Cond.instanceMethod yX5_isWhole]
def wsX7_shadow_r2 : List Cond := [Cond.selects RX5 yX5_isWhole yX5_isWhole, Cond.initialized RX5, Cond.code yX5_isWhole cX5_isWhole 2 (some .boolean), Cond.fieldLink RX5 12 "MixElection$Staging" "moves" "LMixElection$Moves;", Cond.methodLink RX5 36 yX2_isWhole, Cond.instanceMethod yX2_isWhole, Cond.selects RX2 yX2_isWhole yX2_isWhole, Cond.initialized RX2, Cond.code yX2_isWhole cX2_isWhole 7 (some .boolean), Cond.methodLink RX2 27 yX2_target, Cond.instanceMethod yX2_target, Cond.selects RX2 yX2_target yX2_target, Cond.code yX2_target cX2_target 2 (some .int), Cond.fieldLink RX2 9 "MixElection$Moves" "targets" "[I", Cond.methodLink RX7 182 yX7_listOf, Cond.instanceMethod yX7_listOf, Cond.selects RX7 yX7_listOf yX7_listOf, Cond.code yX7_listOf cX7_listOf 2 (some (.object "MixElection$Pairs")), Cond.fieldLink RX7 66 "MixElection" "lists" "[LMixElection$Pairs;", Cond.methodLink RX7 186 yX7_giveOut, Cond.instanceMethod yX7_giveOut, Cond.selects RX7 yX7_giveOut yX7_giveOut, Cond.code yX7_giveOut cX7_giveOut 4 none, Cond.fieldLink RX7 25 "MixElection" "group" "LMixElection$Group;"]
def wsX7_shadow_r3 : List Cond := [Cond.fieldLink RX7 90 "MixElection" "shownMoves" "LMixElection$Moves;", Cond.methodLink RX7 272 yX5_shuffle, Cond.instanceMethod yX5_shuffle, Cond.selects RX5 yX5_shuffle yX5_shuffle, Cond.code yX5_shuffle cX5_shuffle 8 none, Cond.fieldLink RX5 21 "MixElection$Staging" "forged" "LMixElection$Pairs;", Cond.methodLink RX5 44 yX2_exponent, Cond.instanceMethod yX2_exponent, Cond.selects RX2 yX2_exponent yX2_exponent, Cond.code yX2_exponent cX2_exponent 2 (some .int), Cond.fieldLink RX2 15 "MixElection$Moves" "exponents" "[I", Cond.methodLink RX5 48 yX2_target, Cond.methodLink RX5 51 yX4_first, Cond.instanceMethod yX4_first, Cond.selects RX4 yX4_first yX4_first, Cond.initialized RX4, Cond.code yX4_first cX4_first 2 (some .int), Cond.fieldLink RX4 9 "MixElection$Pairs" "firsts" "[I", Cond.methodLink RX5 54 yX4_second, Cond.instanceMethod yX4_second, Cond.selects RX4 yX4_second yX4_second, Cond.code yX4_second cX4_second 2 (some .int), Cond.fieldLink RX4 15 "MixElection$Pairs" "seconds" "[I", Cond.methodLink RX5 33 yX4_put]
def wsX7_shadow_r4 : List Cond := [Cond.instanceMethod yX4_put, Cond.selects RX4 yX4_put yX4_put, Cond.code yX4_put cX4_put 4 none, Cond.methodLink RX5 57 yX1_renewedFirst, Cond.instanceMethod yX1_renewedFirst, Cond.selects RX1 yX1_renewedFirst yX1_renewedFirst, Cond.initialized RX1, Cond.code yX1_renewedFirst cX1_renewedFirst 3 (some .int), Cond.methodLink RX1 21 yX1_raised, Cond.instanceMethod yX1_raised, Cond.selects RX1 yX1_raised yX1_raised, Cond.code yX1_raised cX1_raised 3 (some .int), Cond.fieldLink RX1 9 "MixElection$Group" "prime" "I", Cond.methodLink RX1 29 yX3_power, Cond.static yX3_power, Cond.initialized RX3, Cond.code yX3_power cX3_power 6 (some .int), Cond.methodLink RX3 25 yX3_times, Cond.static yX3_times, Cond.code yX3_times cX3_times 3 (some .int), Cond.methodLink RX1 41 yX1_multiplied, Cond.instanceMethod yX1_multiplied, Cond.selects RX1 yX1_multiplied yX1_multiplied, Cond.code yX1_multiplied cX1_multiplied 3 (some .int)]
def wsX7_shadow_r5 : List Cond := [Cond.methodLink RX1 35 yX3_times, Cond.methodLink RX5 63 yX1_renewedSecond, Cond.instanceMethod yX1_renewedSecond, Cond.selects RX1 yX1_renewedSecond yX1_renewedSecond, Cond.code yX1_renewedSecond cX1_renewedSecond 3 (some .int), Cond.fieldLink RX1 18 "MixElection$Group" "told" "I", Cond.methodLink RX7 276 yX5_copyMovesTo, Cond.instanceMethod yX5_copyMovesTo, Cond.selects RX5 yX5_copyMovesTo yX5_copyMovesTo, Cond.code yX5_copyMovesTo cX5_copyMovesTo 2 none, Cond.methodLink RX5 40 yX2_copyFrom, Cond.instanceMethod yX2_copyFrom, Cond.selects RX2 yX2_copyFrom yX2_copyFrom, Cond.code yX2_copyFrom cX2_copyFrom 3 none, Cond.methodLink RX2 31 yX2_exponent, Cond.methodLink RX2 34 yX2_set, Cond.instanceMethod yX2_set, Cond.selects RX2 yX2_set yX2_set, Cond.code yX2_set cX2_set 4 none, Cond.methodLink RX7 155 yX5_clear, Cond.instanceMethod yX5_clear, Cond.selects RX5 yX5_clear yX5_clear, Cond.code yX5_clear cX5_clear 1 none, Cond.methodLink RX5 25 yX2_clear]
def wsX7_shadow_r6 : List Cond := [Cond.instanceMethod yX2_clear, Cond.selects RX2 yX2_clear yX2_clear, Cond.code yX2_clear cX2_clear 1 none, Cond.methodLink RX2 21 yJ7_fill_53178, Cond.static yJ7_fill_53178, Cond.initialized RJ7, Cond.code yJ7_fill_53178 cJ7_fill_53178 4 none, Cond.methodLink RX5 28 yX4_clear, Cond.instanceMethod yX4_clear, Cond.selects RX4 yX4_clear yX4_clear, Cond.code yX4_clear cX4_clear 1 none, Cond.methodLink RX4 21 yJ7_fill_53178, Cond.methodLink RX7 280 yX2_clear, Cond.methodLink RX7 161 yX4_digest, Cond.instanceMethod yX4_digest, Cond.selects RX4 yX4_digest yX4_digest, Cond.code yX4_digest cX4_digest 5 (some .long), Cond.methodLink RX4 27 yX4_first, Cond.methodLink RX4 34 yX3_digested, Cond.static yX3_digested, Cond.code yX3_digested cX3_digested 4 (some .long), Cond.constantLong RX3 32 (1099511628211), Cond.methodLink RX4 31 yX4_second, Cond.methodLink RX7 119 yX0_add]
def wsX7_shadow_r7 : List Cond := [Cond.instanceMethod yX0_add, Cond.selects RX0 yX0_add yX0_add, Cond.initialized RX0, Cond.code yX0_add cX0_add 8 (some .long), Cond.fieldLink RX0 28 "MixElection$Board" "size" "I", Cond.fieldLink RX0 9 "MixElection$Board" "kinds" "[I", Cond.fieldLink RX0 15 "MixElection$Board" "xs" "[I", Cond.fieldLink RX0 18 "MixElection$Board" "ys" "[I", Cond.fieldLink RX0 21 "MixElection$Board" "zs" "[J", Cond.fieldLink RX0 25 "MixElection$Board" "chains" "[J", Cond.methodLink RX0 32 yX0_chainOf, Cond.instanceMethod yX0_chainOf, Cond.selects RX0 yX0_chainOf yX0_chainOf, Cond.code yX0_chainOf cX0_chainOf 2 (some .long), Cond.constantLong RX0 46 (-3750763034362895579), Cond.methodLink RX0 42 yX0_has, Cond.instanceMethod yX0_has, Cond.selects RX0 yX0_has yX0_has, Cond.code yX0_has cX0_has 2 (some .boolean), Cond.methodLink RX0 36 yX3_digested]
def wsX7_shadow : List Cond := .code yX7_shadow cX7_shadow 1 (some .int) :: ((wsX7_shadow_r1 ++ (wsX7_shadow_r2 ++ (wsX7_shadow_r3 ++ (wsX7_shadow_r4 ++ (wsX7_shadow_r5 ++ (wsX7_shadow_r6 ++ wsX7_shadow_r7)))))) ++ wsX70 ++ wsX60 ++ wsX50 ++ wsX20 ++ wsX40 ++ wsX10 ++ wsX00)
def wsX7_showShadow_r1 : List Cond := [Cond.fieldLink RX7 90 "MixElection" "shownMoves" "LMixElection$Moves;", Cond.fieldLink RX7 87 "MixElection" "shadowMoves" "LMixElection$Moves;", Cond.fieldLink RX7 25 "MixElection" "group" "LMixElection$Group;", Cond.fieldLink RX7 179 "MixElection" "mixes" "I", Cond.fieldLink RX7 70 "MixElection" "latestShadow" "LMixElection$Pairs;", Cond.fieldLink RX7 158 "MixElection" "ballots" "I", Cond.methodLink RX7 281 yX2_copyFrom, Cond.instanceMethod yX2_copyFrom, Cond.selects RX2 yX2_copyFrom yX2_copyFrom, Cond.initialized RX2, Cond.code yX2_copyFrom cX2_copyFrom 3 none, Cond.methodLink RX2 27 yX2_target, Cond.instanceMethod yX2_target, Cond.selects RX2 yX2_target yX2_target, Cond.code yX2_target cX2_target 2 (some .int), Cond.fieldLink RX2 9 "MixElection$Moves" "targets" "[I", Cond.methodLink RX2 31 yX2_exponent, Cond.instanceMethod yX2_exponent, Cond.selects RX2 yX2_exponent yX2_exponent, Cond.code yX2_exponent cX2_exponent 2 (some .int), Cond.fieldLink RX2 15 "MixElection$Moves" "exponents" "[I", Cond.methodLink RX2 34 yX2_set, Cond.instanceMethod yX2_set, Cond.selects RX2 yX2_set yX2_set]
def wsX7_showShadow_r2 : List Cond := [Cond.code yX2_set cX2_set 4 none, Cond.methodLink RX7 182 yX7_listOf, Cond.instanceMethod yX7_listOf, Cond.selects RX7 yX7_listOf yX7_listOf, Cond.initialized RX7, Cond.code yX7_listOf cX7_listOf 2 (some (.object "MixElection$Pairs")), Cond.fieldLink RX7 66 "MixElection" "lists" "[LMixElection$Pairs;", Cond.methodLink RX7 284 yX2_lead, Cond.instanceMethod yX2_lead, Cond.selects RX2 yX2_lead yX2_lead, Cond.code yX2_lead cX2_lead 8 (some .boolean), Cond.methodLink RX2 38 yX4_first, Cond.instanceMethod yX4_first, Cond.selects RX4 yX4_first yX4_first, Cond.initialized RX4, Cond.code yX4_first cX4_first 2 (some .int), Cond.fieldLink RX4 9 "MixElection$Pairs" "firsts" "[I", Cond.methodLink RX2 43 yX1_renewedFirst, Cond.instanceMethod yX1_renewedFirst, Cond.selects RX1 yX1_renewedFirst yX1_renewedFirst, Cond.initialized RX1, Cond.code yX1_renewedFirst cX1_renewedFirst 3 (some .int), Cond.methodLink RX1 21 yX1_raised, Cond.instanceMethod yX1_raised]
def wsX7_showShadow_r3 : List Cond := [Cond.selects RX1 yX1_raised yX1_raised, Cond.code yX1_raised cX1_raised 3 (some .int), Cond.fieldLink RX1 9 "MixElection$Group" "prime" "I", Cond.methodLink RX1 29 yX3_power, Cond.static yX3_power, Cond.initialized RX3, Cond.code yX3_power cX3_power 6 (some .int), Cond.methodLink RX3 25 yX3_times, Cond.static yX3_times, Cond.code yX3_times cX3_times 3 (some .int), Cond.methodLink RX1 41 yX1_multiplied, Cond.instanceMethod yX1_multiplied, Cond.selects RX1 yX1_multiplied yX1_multiplied, Cond.code yX1_multiplied cX1_multiplied 3 (some .int), Cond.methodLink RX1 35 yX3_times, Cond.methodLink RX2 49 yX4_second, Cond.instanceMethod yX4_second, Cond.selects RX4 yX4_second yX4_second, Cond.code yX4_second cX4_second 2 (some .int), Cond.fieldLink RX4 15 "MixElection$Pairs" "seconds" "[I", Cond.methodLink RX2 52 yX1_renewedSecond, Cond.instanceMethod yX1_renewedSecond, Cond.selects RX1 yX1_renewedSecond yX1_renewedSecond, Cond.code yX1_renewedSecond cX1_renewedSecond 3 (some .int)]
def wsX7_showShadow_r4 : List Cond := [Cond.fieldLink RX1 18 "MixElection$Group" "told" "I"]
def wsX7_showShadow : List Cond := .code yX7_showShadow cX7_showShadow 1 (some .boolean) :: ((wsX7_showShadow_r1 ++ (wsX7_showShadow_r2 ++ (wsX7_showShadow_r3 ++ wsX7_showShadow_r4))) ++ wsX70 ++ wsX20 ++ wsX40 ++ wsX10)
def wsX7_showMix_r1 : List Cond := [Cond.fieldLink RX7 158 "MixElection" "ballots" "I", Cond.fieldLink RX7 83 "MixElection" "mixMoves" "LMixElection$Moves;", Cond.fieldLink RX7 87 "MixElection" "shadowMoves" "LMixElection$Moves;", Cond.fieldLink RX7 25 "MixElection" "group" "LMixElection$Group;", Cond.fieldLink RX7 90 "MixElection" "shownMoves" "LMixElection$Moves;", Cond.fieldLink RX7 70 "MixElection" "latestShadow" "LMixElection$Pairs;", Cond.fieldLink RX7 179 "MixElection" "mixes" "I", Cond.methodLink RX7 248 yX2_exponent, Cond.instanceMethod yX2_exponent, Cond.selects RX2 yX2_exponent yX2_exponent, Cond.initialized RX2, Cond.code yX2_exponent cX2_exponent 2 (some .int), Cond.fieldLink RX2 15 "MixElection$Moves" "exponents" "[I", Cond.methodLink RX7 29 yX1_order, Cond.instanceMethod yX1_order, Cond.selects RX1 yX1_order yX1_order, Cond.initialized RX1, Cond.code yX1_order cX1_order 1 (some .int), Cond.fieldLink RX1 15 "MixElection$Group" "half" "I", Cond.methodLink RX7 288 yX3_minus, Cond.static yX3_minus, Cond.initialized RX3, Cond.code yX3_minus cX3_minus 3 (some .int), Cond.methodLink RX7 245 yX2_target]
def wsX7_showMix_r2 : List Cond := [Cond.instanceMethod yX2_target, Cond.selects RX2 yX2_target yX2_target, Cond.code yX2_target cX2_target 2 (some .int), Cond.fieldLink RX2 9 "MixElection$Moves" "targets" "[I", Cond.methodLink RX7 291 yX2_set, Cond.instanceMethod yX2_set, Cond.selects RX2 yX2_set yX2_set, Cond.code yX2_set cX2_set 4 none, Cond.methodLink RX7 182 yX7_listOf, Cond.instanceMethod yX7_listOf, Cond.selects RX7 yX7_listOf yX7_listOf, Cond.initialized RX7, Cond.code yX7_listOf cX7_listOf 2 (some (.object "MixElection$Pairs")), Cond.fieldLink RX7 66 "MixElection" "lists" "[LMixElection$Pairs;", Cond.methodLink RX7 284 yX2_lead, Cond.instanceMethod yX2_lead, Cond.selects RX2 yX2_lead yX2_lead, Cond.code yX2_lead cX2_lead 8 (some .boolean), Cond.methodLink RX2 31 yX2_exponent, Cond.methodLink RX2 27 yX2_target, Cond.methodLink RX2 38 yX4_first, Cond.instanceMethod yX4_first, Cond.selects RX4 yX4_first yX4_first, Cond.initialized RX4]
def wsX7_showMix_r3 : List Cond := [Cond.code yX4_first cX4_first 2 (some .int), Cond.fieldLink RX4 9 "MixElection$Pairs" "firsts" "[I", Cond.methodLink RX2 43 yX1_renewedFirst, Cond.instanceMethod yX1_renewedFirst, Cond.selects RX1 yX1_renewedFirst yX1_renewedFirst, Cond.code yX1_renewedFirst cX1_renewedFirst 3 (some .int), Cond.methodLink RX1 21 yX1_raised, Cond.instanceMethod yX1_raised, Cond.selects RX1 yX1_raised yX1_raised, Cond.code yX1_raised cX1_raised 3 (some .int), Cond.fieldLink RX1 9 "MixElection$Group" "prime" "I", Cond.methodLink RX1 29 yX3_power, Cond.static yX3_power, Cond.code yX3_power cX3_power 6 (some .int), Cond.methodLink RX3 25 yX3_times, Cond.static yX3_times, Cond.code yX3_times cX3_times 3 (some .int), Cond.methodLink RX1 41 yX1_multiplied, Cond.instanceMethod yX1_multiplied, Cond.selects RX1 yX1_multiplied yX1_multiplied, Cond.code yX1_multiplied cX1_multiplied 3 (some .int), Cond.methodLink RX1 35 yX3_times, Cond.methodLink RX2 49 yX4_second, Cond.instanceMethod yX4_second]
def wsX7_showMix_r4 : List Cond := [Cond.selects RX4 yX4_second yX4_second, Cond.code yX4_second cX4_second 2 (some .int), Cond.fieldLink RX4 15 "MixElection$Pairs" "seconds" "[I", Cond.methodLink RX2 52 yX1_renewedSecond, Cond.instanceMethod yX1_renewedSecond, Cond.selects RX1 yX1_renewedSecond yX1_renewedSecond, Cond.code yX1_renewedSecond cX1_renewedSecond 3 (some .int), Cond.fieldLink RX1 18 "MixElection$Group" "told" "I"]
def wsX7_showMix : List Cond := .code yX7_showMix cX7_showMix 3 (some .boolean) :: ((wsX7_showMix_r1 ++ (wsX7_showMix_r2 ++ (wsX7_showMix_r3 ++ wsX7_showMix_r4))) ++ wsX70 ++ wsX20 ++ wsX10 ++ wsX40)
def wsX7_coin_r1 : List Cond := [Cond.fieldLink RX7 196 "MixElection" "coinIsDue" "Z", Cond.fieldLink RX7 206 "MixElection" "rejectedRounds" "I", Cond.fieldLink RX7 55 "MixElection" "board" "LMixElection$Board;", Cond.fieldLink RX7 190 "MixElection" "rounds" "I", Cond.methodLink RX7 200 yX7_showShadow, Cond.instanceMethod yX7_showShadow, Cond.selects RX7 yX7_showShadow yX7_showShadow, Cond.initialized RX7, Cond.code yX7_showShadow cX7_showShadow 1 (some .boolean), Cond.fieldLink RX7 90 "MixElection" "shownMoves" "LMixElection$Moves;", Cond.fieldLink RX7 87 "MixElection" "shadowMoves" "LMixElection$Moves;", Cond.fieldLink RX7 25 "MixElection" "group" "LMixElection$Group;", Cond.fieldLink RX7 179 "MixElection" "mixes" "I", Cond.fieldLink RX7 70 "MixElection" "latestShadow" "LMixElection$Pairs;", Cond.fieldLink RX7 158 "MixElection" "ballots" "I", Cond.methodLink RX7 281 yX2_copyFrom, Cond.instanceMethod yX2_copyFrom, Cond.selects RX2 yX2_copyFrom yX2_copyFrom, Cond.initialized RX2, Cond.code yX2_copyFrom cX2_copyFrom 3 none, Cond.methodLink RX2 27 yX2_target, Cond.instanceMethod yX2_target, Cond.selects RX2 yX2_target yX2_target, Cond.code yX2_target cX2_target 2 (some .int)]
def wsX7_coin_r2 : List Cond := [Cond.fieldLink RX2 9 "MixElection$Moves" "targets" "[I", Cond.methodLink RX2 31 yX2_exponent, Cond.instanceMethod yX2_exponent, Cond.selects RX2 yX2_exponent yX2_exponent, Cond.code yX2_exponent cX2_exponent 2 (some .int), Cond.fieldLink RX2 15 "MixElection$Moves" "exponents" "[I", Cond.methodLink RX2 34 yX2_set, Cond.instanceMethod yX2_set, Cond.selects RX2 yX2_set yX2_set, Cond.code yX2_set cX2_set 4 none, Cond.methodLink RX7 182 yX7_listOf, Cond.instanceMethod yX7_listOf, Cond.selects RX7 yX7_listOf yX7_listOf, Cond.code yX7_listOf cX7_listOf 2 (some (.object "MixElection$Pairs")), Cond.fieldLink RX7 66 "MixElection" "lists" "[LMixElection$Pairs;", Cond.methodLink RX7 284 yX2_lead, Cond.instanceMethod yX2_lead, Cond.selects RX2 yX2_lead yX2_lead, Cond.code yX2_lead cX2_lead 8 (some .boolean), Cond.methodLink RX2 38 yX4_first, Cond.instanceMethod yX4_first, Cond.selects RX4 yX4_first yX4_first, Cond.initialized RX4, Cond.code yX4_first cX4_first 2 (some .int)]
def wsX7_coin_r3 : List Cond := [Cond.fieldLink RX4 9 "MixElection$Pairs" "firsts" "[I", Cond.methodLink RX2 43 yX1_renewedFirst, Cond.instanceMethod yX1_renewedFirst, Cond.selects RX1 yX1_renewedFirst yX1_renewedFirst, Cond.initialized RX1, Cond.code yX1_renewedFirst cX1_renewedFirst 3 (some .int), Cond.methodLink RX1 21 yX1_raised, Cond.instanceMethod yX1_raised, Cond.selects RX1 yX1_raised yX1_raised, Cond.code yX1_raised cX1_raised 3 (some .int), Cond.fieldLink RX1 9 "MixElection$Group" "prime" "I", Cond.methodLink RX1 29 yX3_power, Cond.static yX3_power, Cond.initialized RX3, Cond.code yX3_power cX3_power 6 (some .int), Cond.methodLink RX3 25 yX3_times, Cond.static yX3_times, Cond.code yX3_times cX3_times 3 (some .int), Cond.methodLink RX1 41 yX1_multiplied, Cond.instanceMethod yX1_multiplied, Cond.selects RX1 yX1_multiplied yX1_multiplied, Cond.code yX1_multiplied cX1_multiplied 3 (some .int), Cond.methodLink RX1 35 yX3_times, Cond.methodLink RX2 49 yX4_second]
def wsX7_coin_r4 : List Cond := [Cond.instanceMethod yX4_second, Cond.selects RX4 yX4_second yX4_second, Cond.code yX4_second cX4_second 2 (some .int), Cond.fieldLink RX4 15 "MixElection$Pairs" "seconds" "[I", Cond.methodLink RX2 52 yX1_renewedSecond, Cond.instanceMethod yX1_renewedSecond, Cond.selects RX1 yX1_renewedSecond yX1_renewedSecond, Cond.code yX1_renewedSecond cX1_renewedSecond 3 (some .int), Cond.fieldLink RX1 18 "MixElection$Group" "told" "I", Cond.methodLink RX7 203 yX7_showMix, Cond.instanceMethod yX7_showMix, Cond.selects RX7 yX7_showMix yX7_showMix, Cond.code yX7_showMix cX7_showMix 3 (some .boolean), Cond.fieldLink RX7 83 "MixElection" "mixMoves" "LMixElection$Moves;", Cond.methodLink RX7 248 yX2_exponent, Cond.methodLink RX7 29 yX1_order, Cond.instanceMethod yX1_order, Cond.selects RX1 yX1_order yX1_order, Cond.code yX1_order cX1_order 1 (some .int), Cond.fieldLink RX1 15 "MixElection$Group" "half" "I", Cond.methodLink RX7 288 yX3_minus, Cond.static yX3_minus, Cond.code yX3_minus cX3_minus 3 (some .int), Cond.methodLink RX7 245 yX2_target]
def wsX7_coin_r5 : List Cond := [Cond.methodLink RX7 291 yX2_set, Cond.methodLink RX7 119 yX0_add, Cond.instanceMethod yX0_add, Cond.selects RX0 yX0_add yX0_add, Cond.initialized RX0, Cond.code yX0_add cX0_add 8 (some .long), Cond.fieldLink RX0 28 "MixElection$Board" "size" "I", Cond.fieldLink RX0 9 "MixElection$Board" "kinds" "[I", Cond.fieldLink RX0 15 "MixElection$Board" "xs" "[I", Cond.fieldLink RX0 18 "MixElection$Board" "ys" "[I", Cond.fieldLink RX0 21 "MixElection$Board" "zs" "[J", Cond.fieldLink RX0 25 "MixElection$Board" "chains" "[J", Cond.methodLink RX0 32 yX0_chainOf, Cond.instanceMethod yX0_chainOf, Cond.selects RX0 yX0_chainOf yX0_chainOf, Cond.code yX0_chainOf cX0_chainOf 2 (some .long), Cond.constantLong RX0 46 (-3750763034362895579), Cond.methodLink RX0 42 yX0_has, Cond.instanceMethod yX0_has, Cond.selects RX0 yX0_has yX0_has, Cond.code yX0_has cX0_has 2 (some .boolean), Cond.methodLink RX0 36 yX3_digested, Cond.static yX3_digested, Cond.code yX3_digested cX3_digested 4 (some .long)]
def wsX7_coin_r6 : List Cond := [Cond.constantLong RX3 32 (1099511628211)]
def wsX7_coin : List Cond := .code yX7_coin cX7_coin 3 (some .int) :: ((wsX7_coin_r1 ++ (wsX7_coin_r2 ++ (wsX7_coin_r3 ++ (wsX7_coin_r4 ++ (wsX7_coin_r5 ++ wsX7_coin_r6))))) ++ wsX70 ++ wsX20 ++ wsX40 ++ wsX10 ++ wsX00)
def wsX7_share_r1 : List Cond := [Cond.fieldLink RX7 97 "MixElection" "stage" "I", Cond.fieldLink RX7 179 "MixElection" "mixes" "I", Cond.fieldLink RX7 196 "MixElection" "coinIsDue" "Z", Cond.fieldLink RX7 48 "MixElection" "trustees" "LMixElection$Trustees;", Cond.fieldLink RX7 158 "MixElection" "ballots" "I", Cond.fieldLink RX7 55 "MixElection" "board" "LMixElection$Board;", Cond.methodLink RX7 209 yX6_mayGive, Cond.instanceMethod yX6_mayGive, Cond.selects RX6 yX6_mayGive yX6_mayGive, Cond.initialized RX6, Cond.code yX6_mayGive cX6_mayGive 2 (some .boolean), Cond.fieldLink RX6 44 "MixElection$Trustees" "hasGiven" "[Z", Cond.methodLink RX6 63 yX6_isTrustee, Cond.instanceMethod yX6_isTrustee, Cond.selects RX6 yX6_isTrustee yX6_isTrustee, Cond.code yX6_isTrustee cX6_isTrustee 2 (some .boolean), Cond.fieldLink RX6 33 "MixElection$Trustees" "size" "I", Cond.methodLink RX7 182 yX7_listOf, Cond.instanceMethod yX7_listOf, Cond.selects RX7 yX7_listOf yX7_listOf, Cond.initialized RX7, Cond.code yX7_listOf cX7_listOf 2 (some (.object "MixElection$Pairs")), Cond.fieldLink RX7 66 "MixElection" "lists" "[LMixElection$Pairs;", Cond.methodLink RX7 212 yX6_give]
def wsX7_share_r2 : List Cond := [Cond.instanceMethod yX6_give, Cond.selects RX6 yX6_give yX6_give, Cond.code yX6_give cX6_give 6 none, Cond.fieldLink RX6 50 "MixElection$Trustees" "gifts" "[[I", Cond.fieldLink RX6 9 "MixElection$Trustees" "group" "LMixElection$Group;", Cond.fieldLink RX6 56 "MixElection$Trustees" "givers" "I", Cond.methodLink RX6 66 yX6_mayGive, Cond.methodLink RX6 69 yX6_shareOf, Cond.instanceMethod yX6_shareOf, Cond.selects RX6 yX6_shareOf yX6_shareOf, Cond.code yX6_shareOf cX6_shareOf 4 (some .int), Cond.fieldLink RX6 37 "MixElection$Trustees" "threshold" "I", Cond.fieldLink RX6 40 "MixElection$Trustees" "coefficients" "[I", Cond.methodLink RX6 15 yX1_order, Cond.instanceMethod yX1_order, Cond.selects RX1 yX1_order yX1_order, Cond.initialized RX1, Cond.code yX1_order cX1_order 1 (some .int), Cond.fieldLink RX1 15 "MixElection$Group" "half" "I", Cond.methodLink RX6 81 yX3_times, Cond.static yX3_times, Cond.initialized RX3, Cond.code yX3_times cX3_times 3 (some .int), Cond.methodLink RX6 84 yX3_plus]
def wsX7_share_r3 : List Cond := [Cond.static yX3_plus, Cond.code yX3_plus cX3_plus 3 (some .int), Cond.methodLink RX6 73 yX4_first, Cond.instanceMethod yX4_first, Cond.selects RX4 yX4_first yX4_first, Cond.initialized RX4, Cond.code yX4_first cX4_first 2 (some .int), Cond.fieldLink RX4 9 "MixElection$Pairs" "firsts" "[I", Cond.methodLink RX6 78 yX1_raised, Cond.instanceMethod yX1_raised, Cond.selects RX1 yX1_raised yX1_raised, Cond.code yX1_raised cX1_raised 3 (some .int), Cond.fieldLink RX1 9 "MixElection$Group" "prime" "I", Cond.methodLink RX1 29 yX3_power, Cond.static yX3_power, Cond.code yX3_power cX3_power 6 (some .int), Cond.methodLink RX3 25 yX3_times, Cond.methodLink RX7 216 yX6_digest, Cond.instanceMethod yX6_digest, Cond.selects RX6 yX6_digest yX6_digest, Cond.code yX6_digest cX6_digest 6 (some .long), Cond.methodLink RX6 90 yX6_gift, Cond.instanceMethod yX6_gift, Cond.selects RX6 yX6_gift yX6_gift]
def wsX7_share_r4 : List Cond := [Cond.code yX6_gift cX6_gift 3 (some .int), Cond.methodLink RX6 87 yX6_gave, Cond.instanceMethod yX6_gave, Cond.selects RX6 yX6_gave yX6_gave, Cond.code yX6_gave cX6_gave 2 (some .boolean), Cond.methodLink RX6 93 yX3_digested, Cond.static yX3_digested, Cond.code yX3_digested cX3_digested 4 (some .long), Cond.constantLong RX3 32 (1099511628211), Cond.methodLink RX7 119 yX0_add, Cond.instanceMethod yX0_add, Cond.selects RX0 yX0_add yX0_add, Cond.initialized RX0, Cond.code yX0_add cX0_add 8 (some .long), Cond.fieldLink RX0 28 "MixElection$Board" "size" "I", Cond.fieldLink RX0 9 "MixElection$Board" "kinds" "[I", Cond.fieldLink RX0 15 "MixElection$Board" "xs" "[I", Cond.fieldLink RX0 18 "MixElection$Board" "ys" "[I", Cond.fieldLink RX0 21 "MixElection$Board" "zs" "[J", Cond.fieldLink RX0 25 "MixElection$Board" "chains" "[J", Cond.methodLink RX0 32 yX0_chainOf, Cond.instanceMethod yX0_chainOf, Cond.selects RX0 yX0_chainOf yX0_chainOf, Cond.code yX0_chainOf cX0_chainOf 2 (some .long)]
def wsX7_share_r5 : List Cond := [Cond.constantLong RX0 46 (-3750763034362895579), Cond.methodLink RX0 42 yX0_has, Cond.instanceMethod yX0_has, Cond.selects RX0 yX0_has yX0_has, Cond.code yX0_has cX0_has 2 (some .boolean), Cond.methodLink RX0 36 yX3_digested, Cond.methodLink RX7 219 yX6_givers, Cond.instanceMethod yX6_givers, Cond.selects RX6 yX6_givers yX6_givers, Cond.code yX6_givers cX6_givers 1 (some .int)]
def wsX7_share : List Cond := .code yX7_share cX7_share 2 (some .int) :: ((wsX7_share_r1 ++ (wsX7_share_r2 ++ (wsX7_share_r3 ++ (wsX7_share_r4 ++ wsX7_share_r5)))) ++ wsX70 ++ wsX60 ++ wsX10 ++ wsX40 ++ wsX00)
def wsX7_candidateOf : List Cond := .code yX7_candidateOf cX7_candidateOf 3 (some .int) :: ([.fieldLink RX7 39 "MixElection" "candidates" "I", .fieldLink RX7 25 "MixElection" "group" "LMixElection$Group;", .methodLink RX7 139 yX1_markOf, .instanceMethod yX1_markOf, .selects RX1 yX1_markOf yX1_markOf, .initialized RX1, .code yX1_markOf cX1_markOf 2 (some .int), .methodLink RX1 21 yX1_raised, .instanceMethod yX1_raised, .selects RX1 yX1_raised yX1_raised, .code yX1_raised cX1_raised 3 (some .int), .fieldLink RX1 9 "MixElection$Group" "prime" "I", .methodLink RX1 29 yX3_power, .static yX3_power, .initialized RX3, .code yX3_power cX3_power 6 (some .int), .methodLink RX3 25 yX3_times, .static yX3_times, .code yX3_times cX3_times 3 (some .int)] ++ wsX70 ++ wsX10)
def wsX7_countBallots_r1 : List Cond := [Cond.fieldLink RX7 48 "MixElection" "trustees" "LMixElection$Trustees;", Cond.fieldLink RX7 158 "MixElection" "ballots" "I", Cond.fieldLink RX7 25 "MixElection" "group" "LMixElection$Group;", Cond.fieldLink RX7 179 "MixElection" "mixes" "I", Cond.fieldLink RX7 93 "MixElection" "counts" "[I", Cond.methodLink RX7 294 yX6_weighFirstGivers, Cond.instanceMethod yX6_weighFirstGivers, Cond.selects RX6 yX6_weighFirstGivers yX6_weighFirstGivers, Cond.initialized RX6, Cond.code yX6_weighFirstGivers cX6_weighFirstGivers 3 none, Cond.fieldLink RX6 33 "MixElection$Trustees" "size" "I", Cond.fieldLink RX6 53 "MixElection$Trustees" "weights" "[I", Cond.methodLink RX6 97 yX6_lastNeededGiver, Cond.instanceMethod yX6_lastNeededGiver, Cond.selects RX6 yX6_lastNeededGiver yX6_lastNeededGiver, Cond.code yX6_lastNeededGiver cX6_lastNeededGiver 3 (some .int), Cond.fieldLink RX6 37 "MixElection$Trustees" "threshold" "I", Cond.methodLink RX6 87 yX6_gave, Cond.instanceMethod yX6_gave, Cond.selects RX6 yX6_gave yX6_gave, Cond.code yX6_gave cX6_gave 2 (some .boolean), Cond.fieldLink RX6 44 "MixElection$Trustees" "hasGiven" "[Z", Cond.methodLink RX6 63 yX6_isTrustee, Cond.instanceMethod yX6_isTrustee]
def wsX7_countBallots_r2 : List Cond := [Cond.selects RX6 yX6_isTrustee yX6_isTrustee, Cond.code yX6_isTrustee cX6_isTrustee 2 (some .boolean), Cond.methodLink RX6 100 yX6_weightOf, Cond.instanceMethod yX6_weightOf, Cond.selects RX6 yX6_weightOf yX6_weightOf, Cond.code yX6_weightOf cX6_weightOf 7 (some .int), Cond.fieldLink RX6 9 "MixElection$Trustees" "group" "LMixElection$Group;", Cond.methodLink RX6 15 yX1_order, Cond.instanceMethod yX1_order, Cond.selects RX1 yX1_order yX1_order, Cond.initialized RX1, Cond.code yX1_order cX1_order 1 (some .int), Cond.fieldLink RX1 15 "MixElection$Group" "half" "I", Cond.methodLink RX6 81 yX3_times, Cond.static yX3_times, Cond.initialized RX3, Cond.code yX3_times cX3_times 3 (some .int), Cond.methodLink RX6 103 yX3_minus, Cond.static yX3_minus, Cond.code yX3_minus cX3_minus 3 (some .int), Cond.methodLink RX6 106 yX3_inverse, Cond.static yX3_inverse, Cond.code yX3_inverse cX3_inverse 2 (some .int), Cond.methodLink RX3 29 yX3_power]
def wsX7_countBallots_r3 : List Cond := [Cond.static yX3_power, Cond.code yX3_power cX3_power 6 (some .int), Cond.methodLink RX3 25 yX3_times, Cond.methodLink RX7 182 yX7_listOf, Cond.instanceMethod yX7_listOf, Cond.selects RX7 yX7_listOf yX7_listOf, Cond.initialized RX7, Cond.code yX7_listOf cX7_listOf 2 (some (.object "MixElection$Pairs")), Cond.fieldLink RX7 66 "MixElection" "lists" "[LMixElection$Pairs;", Cond.methodLink RX7 266 yX4_second, Cond.instanceMethod yX4_second, Cond.selects RX4 yX4_second yX4_second, Cond.initialized RX4, Cond.code yX4_second cX4_second 2 (some .int), Cond.fieldLink RX4 15 "MixElection$Pairs" "seconds" "[I", Cond.methodLink RX7 297 yX6_joinedGift, Cond.instanceMethod yX6_joinedGift, Cond.selects RX6 yX6_joinedGift yX6_joinedGift, Cond.code yX6_joinedGift cX6_joinedGift 4 (some .int), Cond.methodLink RX6 90 yX6_gift, Cond.instanceMethod yX6_gift, Cond.selects RX6 yX6_gift yX6_gift, Cond.code yX6_gift cX6_gift 3 (some .int), Cond.fieldLink RX6 50 "MixElection$Trustees" "gifts" "[[I"]
def wsX7_countBallots_r4 : List Cond := [Cond.methodLink RX6 78 yX1_raised, Cond.instanceMethod yX1_raised, Cond.selects RX1 yX1_raised yX1_raised, Cond.code yX1_raised cX1_raised 3 (some .int), Cond.fieldLink RX1 9 "MixElection$Group" "prime" "I", Cond.methodLink RX1 29 yX3_power, Cond.methodLink RX6 109 yX1_multiplied, Cond.instanceMethod yX1_multiplied, Cond.selects RX1 yX1_multiplied yX1_multiplied, Cond.code yX1_multiplied cX1_multiplied 3 (some .int), Cond.methodLink RX1 35 yX3_times, Cond.methodLink RX7 300 yX1_divided, Cond.instanceMethod yX1_divided, Cond.selects RX1 yX1_divided yX1_divided, Cond.code yX1_divided cX1_divided 3 (some .int), Cond.methodLink RX1 38 yX3_inverse, Cond.methodLink RX1 41 yX1_multiplied, Cond.methodLink RX7 303 yX7_candidateOf, Cond.instanceMethod yX7_candidateOf, Cond.selects RX7 yX7_candidateOf yX7_candidateOf, Cond.code yX7_candidateOf cX7_candidateOf 3 (some .int), Cond.fieldLink RX7 39 "MixElection" "candidates" "I", Cond.methodLink RX7 139 yX1_markOf, Cond.instanceMethod yX1_markOf]
def wsX7_countBallots_r5 : List Cond := [Cond.selects RX1 yX1_markOf yX1_markOf, Cond.code yX1_markOf cX1_markOf 2 (some .int), Cond.methodLink RX1 21 yX1_raised]
def wsX7_countBallots : List Cond := .code yX7_countBallots cX7_countBallots 3 none :: ((wsX7_countBallots_r1 ++ (wsX7_countBallots_r2 ++ (wsX7_countBallots_r3 ++ (wsX7_countBallots_r4 ++ wsX7_countBallots_r5)))) ++ wsX70 ++ wsX60 ++ wsX10 ++ wsX40)
def wsX7_count : List Cond := .code yX7_count cX7_count 2 (some .int) :: ([.fieldLink RX7 97 "MixElection" "stage" "I", .fieldLink RX7 93 "MixElection" "counts" "[I"] ++ wsX70)
def wsX7_digestOfCounts : List Cond := .code yX7_digestOfCounts cX7_digestOfCounts 4 (some .long) :: ([.fieldLink RX7 39 "MixElection" "candidates" "I", .methodLink RX7 228 yX7_count, .instanceMethod yX7_count, .selects RX7 yX7_count yX7_count, .initialized RX7, .code yX7_count cX7_count 2 (some .int), .fieldLink RX7 97 "MixElection" "stage" "I", .fieldLink RX7 93 "MixElection" "counts" "[I", .methodLink RX7 306 yX3_digested, .static yX3_digested, .initialized RX3, .code yX3_digested cX3_digested 4 (some .long), .constantLong RX3 32 (1099511628211)] ++ wsX70)
def wsX7_tally_r1 : List Cond := [Cond.fieldLink RX7 97 "MixElection" "stage" "I", Cond.fieldLink RX7 206 "MixElection" "rejectedRounds" "I", Cond.fieldLink RX7 193 "MixElection" "mixesWithRounds" "I", Cond.fieldLink RX7 179 "MixElection" "mixes" "I", Cond.fieldLink RX7 48 "MixElection" "trustees" "LMixElection$Trustees;", Cond.fieldLink RX7 39 "MixElection" "candidates" "I", Cond.fieldLink RX7 55 "MixElection" "board" "LMixElection$Board;", Cond.fieldLink RX7 158 "MixElection" "ballots" "I", Cond.methodLink RX7 222 yX6_areEnough, Cond.instanceMethod yX6_areEnough, Cond.selects RX6 yX6_areEnough yX6_areEnough, Cond.initialized RX6, Cond.code yX6_areEnough cX6_areEnough 1 (some .boolean), Cond.fieldLink RX6 56 "MixElection$Trustees" "givers" "I", Cond.fieldLink RX6 37 "MixElection$Trustees" "threshold" "I", Cond.methodLink RX7 225 yX7_countBallots, Cond.instanceMethod yX7_countBallots, Cond.selects RX7 yX7_countBallots yX7_countBallots, Cond.initialized RX7, Cond.code yX7_countBallots cX7_countBallots 3 none, Cond.fieldLink RX7 25 "MixElection" "group" "LMixElection$Group;", Cond.fieldLink RX7 93 "MixElection" "counts" "[I", Cond.methodLink RX7 294 yX6_weighFirstGivers, Cond.instanceMethod yX6_weighFirstGivers]
def wsX7_tally_r2 : List Cond := [Cond.selects RX6 yX6_weighFirstGivers yX6_weighFirstGivers, Cond.code yX6_weighFirstGivers cX6_weighFirstGivers 3 none, Cond.fieldLink RX6 33 "MixElection$Trustees" "size" "I", Cond.fieldLink RX6 53 "MixElection$Trustees" "weights" "[I", Cond.methodLink RX6 97 yX6_lastNeededGiver, Cond.instanceMethod yX6_lastNeededGiver, Cond.selects RX6 yX6_lastNeededGiver yX6_lastNeededGiver, Cond.code yX6_lastNeededGiver cX6_lastNeededGiver 3 (some .int), Cond.methodLink RX6 87 yX6_gave, Cond.instanceMethod yX6_gave, Cond.selects RX6 yX6_gave yX6_gave, Cond.code yX6_gave cX6_gave 2 (some .boolean), Cond.fieldLink RX6 44 "MixElection$Trustees" "hasGiven" "[Z", Cond.methodLink RX6 63 yX6_isTrustee, Cond.instanceMethod yX6_isTrustee, Cond.selects RX6 yX6_isTrustee yX6_isTrustee, Cond.code yX6_isTrustee cX6_isTrustee 2 (some .boolean), Cond.methodLink RX6 100 yX6_weightOf, Cond.instanceMethod yX6_weightOf, Cond.selects RX6 yX6_weightOf yX6_weightOf, Cond.code yX6_weightOf cX6_weightOf 7 (some .int), Cond.fieldLink RX6 9 "MixElection$Trustees" "group" "LMixElection$Group;", Cond.methodLink RX6 15 yX1_order, Cond.instanceMethod yX1_order]
def wsX7_tally_r3 : List Cond := [Cond.selects RX1 yX1_order yX1_order, Cond.initialized RX1, Cond.code yX1_order cX1_order 1 (some .int), Cond.fieldLink RX1 15 "MixElection$Group" "half" "I", Cond.methodLink RX6 81 yX3_times, Cond.static yX3_times, Cond.initialized RX3, Cond.code yX3_times cX3_times 3 (some .int), Cond.methodLink RX6 103 yX3_minus, Cond.static yX3_minus, Cond.code yX3_minus cX3_minus 3 (some .int), Cond.methodLink RX6 106 yX3_inverse, Cond.static yX3_inverse, Cond.code yX3_inverse cX3_inverse 2 (some .int), Cond.methodLink RX3 29 yX3_power, Cond.static yX3_power, Cond.code yX3_power cX3_power 6 (some .int), Cond.methodLink RX3 25 yX3_times, Cond.methodLink RX7 182 yX7_listOf, Cond.instanceMethod yX7_listOf, Cond.selects RX7 yX7_listOf yX7_listOf, Cond.code yX7_listOf cX7_listOf 2 (some (.object "MixElection$Pairs")), Cond.fieldLink RX7 66 "MixElection" "lists" "[LMixElection$Pairs;", Cond.methodLink RX7 266 yX4_second]
def wsX7_tally_r4 : List Cond := [Cond.instanceMethod yX4_second, Cond.selects RX4 yX4_second yX4_second, Cond.initialized RX4, Cond.code yX4_second cX4_second 2 (some .int), Cond.fieldLink RX4 15 "MixElection$Pairs" "seconds" "[I", Cond.methodLink RX7 297 yX6_joinedGift, Cond.instanceMethod yX6_joinedGift, Cond.selects RX6 yX6_joinedGift yX6_joinedGift, Cond.code yX6_joinedGift cX6_joinedGift 4 (some .int), Cond.methodLink RX6 90 yX6_gift, Cond.instanceMethod yX6_gift, Cond.selects RX6 yX6_gift yX6_gift, Cond.code yX6_gift cX6_gift 3 (some .int), Cond.fieldLink RX6 50 "MixElection$Trustees" "gifts" "[[I", Cond.methodLink RX6 78 yX1_raised, Cond.instanceMethod yX1_raised, Cond.selects RX1 yX1_raised yX1_raised, Cond.code yX1_raised cX1_raised 3 (some .int), Cond.fieldLink RX1 9 "MixElection$Group" "prime" "I", Cond.methodLink RX1 29 yX3_power, Cond.methodLink RX6 109 yX1_multiplied, Cond.instanceMethod yX1_multiplied, Cond.selects RX1 yX1_multiplied yX1_multiplied, Cond.code yX1_multiplied cX1_multiplied 3 (some .int)]
def wsX7_tally_r5 : List Cond := [Cond.methodLink RX1 35 yX3_times, Cond.methodLink RX7 300 yX1_divided, Cond.instanceMethod yX1_divided, Cond.selects RX1 yX1_divided yX1_divided, Cond.code yX1_divided cX1_divided 3 (some .int), Cond.methodLink RX1 38 yX3_inverse, Cond.methodLink RX1 41 yX1_multiplied, Cond.methodLink RX7 303 yX7_candidateOf, Cond.instanceMethod yX7_candidateOf, Cond.selects RX7 yX7_candidateOf yX7_candidateOf, Cond.code yX7_candidateOf cX7_candidateOf 3 (some .int), Cond.methodLink RX7 139 yX1_markOf, Cond.instanceMethod yX1_markOf, Cond.selects RX1 yX1_markOf yX1_markOf, Cond.code yX1_markOf cX1_markOf 2 (some .int), Cond.methodLink RX1 21 yX1_raised, Cond.methodLink RX7 228 yX7_count, Cond.instanceMethod yX7_count, Cond.selects RX7 yX7_count yX7_count, Cond.code yX7_count cX7_count 2 (some .int), Cond.methodLink RX7 231 yX7_digestOfCounts, Cond.instanceMethod yX7_digestOfCounts, Cond.selects RX7 yX7_digestOfCounts yX7_digestOfCounts, Cond.code yX7_digestOfCounts cX7_digestOfCounts 4 (some .long)]
def wsX7_tally_r6 : List Cond := [Cond.methodLink RX7 306 yX3_digested, Cond.static yX3_digested, Cond.code yX3_digested cX3_digested 4 (some .long), Cond.constantLong RX3 32 (1099511628211), Cond.methodLink RX7 119 yX0_add, Cond.instanceMethod yX0_add, Cond.selects RX0 yX0_add yX0_add, Cond.initialized RX0, Cond.code yX0_add cX0_add 8 (some .long), Cond.fieldLink RX0 28 "MixElection$Board" "size" "I", Cond.fieldLink RX0 9 "MixElection$Board" "kinds" "[I", Cond.fieldLink RX0 15 "MixElection$Board" "xs" "[I", Cond.fieldLink RX0 18 "MixElection$Board" "ys" "[I", Cond.fieldLink RX0 21 "MixElection$Board" "zs" "[J", Cond.fieldLink RX0 25 "MixElection$Board" "chains" "[J", Cond.methodLink RX0 32 yX0_chainOf, Cond.instanceMethod yX0_chainOf, Cond.selects RX0 yX0_chainOf yX0_chainOf, Cond.code yX0_chainOf cX0_chainOf 2 (some .long), Cond.constantLong RX0 46 (-3750763034362895579), Cond.methodLink RX0 42 yX0_has, Cond.instanceMethod yX0_has, Cond.selects RX0 yX0_has yX0_has, Cond.code yX0_has cX0_has 2 (some .boolean)]
def wsX7_tally_r7 : List Cond := [Cond.methodLink RX0 36 yX3_digested]
def wsX7_tally : List Cond := .code yX7_tally cX7_tally 2 (some .int) :: ((wsX7_tally_r1 ++ (wsX7_tally_r2 ++ (wsX7_tally_r3 ++ (wsX7_tally_r4 ++ (wsX7_tally_r5 ++ (wsX7_tally_r6 ++ wsX7_tally_r7)))))) ++ wsX70 ++ wsX60 ++ wsX10 ++ wsX40 ++ wsX00)
def wsX7_aboutStaging : List Cond := .code yX7_aboutStaging cX7_aboutStaging 1 (some .int) :: ([.fieldLink RX7 97 "MixElection" "stage" "I", .fieldLink RX7 76 "MixElection" "staging" "LMixElection$Staging;", .fieldLink RX7 158 "MixElection" "ballots" "I", .methodLink RX7 269 yX5_isWhole, .instanceMethod yX5_isWhole, .selects RX5 yX5_isWhole yX5_isWhole, .initialized RX5, .code yX5_isWhole cX5_isWhole 2 (some .boolean), .fieldLink RX5 12 "MixElection$Staging" "moves" "LMixElection$Moves;", .methodLink RX5 36 yX2_isWhole, .instanceMethod yX2_isWhole, .selects RX2 yX2_isWhole yX2_isWhole, .initialized RX2, .code yX2_isWhole cX2_isWhole 7 (some .boolean), .methodLink RX2 27 yX2_target, .instanceMethod yX2_target, .selects RX2 yX2_target yX2_target, .code yX2_target cX2_target 2 (some .int), .fieldLink RX2 9 "MixElection$Moves" "targets" "[I"] ++ wsX70 ++ wsX50 ++ wsX20)
def wsX7_about_r1 : List Cond := [Cond.fieldLink RX7 25 "MixElection" "group" "LMixElection$Group;", Cond.fieldLink RX7 39 "MixElection" "candidates" "I", Cond.fieldLink RX7 48 "MixElection" "trustees" "LMixElection$Trustees;", Cond.fieldLink RX7 123 "MixElection" "voters" "I", Cond.fieldLink RX7 97 "MixElection" "stage" "I", Cond.fieldLink RX7 55 "MixElection" "board" "LMixElection$Board;", Cond.fieldLink RX7 158 "MixElection" "ballots" "I", Cond.fieldLink RX7 179 "MixElection" "mixes" "I", Cond.fieldLink RX7 190 "MixElection" "rounds" "I", Cond.fieldLink RX7 206 "MixElection" "rejectedRounds" "I", Cond.fieldLink RX7 196 "MixElection" "coinIsDue" "Z", Cond.methodLink RX7 235 yX1_modulus, Cond.instanceMethod yX1_modulus, Cond.selects RX1 yX1_modulus yX1_modulus, Cond.initialized RX1, Cond.code yX1_modulus cX1_modulus 1 (some .int), Cond.fieldLink RX1 9 "MixElection$Group" "prime" "I", Cond.methodLink RX7 29 yX1_order, Cond.instanceMethod yX1_order, Cond.selects RX1 yX1_order yX1_order, Cond.code yX1_order cX1_order 1 (some .int), Cond.fieldLink RX1 15 "MixElection$Group" "half" "I", Cond.methodLink RX7 110 yX1_publicKey, Cond.instanceMethod yX1_publicKey]
def wsX7_about_r2 : List Cond := [Cond.selects RX1 yX1_publicKey yX1_publicKey, Cond.code yX1_publicKey cX1_publicKey 1 (some .int), Cond.fieldLink RX1 18 "MixElection$Group" "told" "I", Cond.methodLink RX7 113 yX6_size, Cond.instanceMethod yX6_size, Cond.selects RX6 yX6_size yX6_size, Cond.initialized RX6, Cond.code yX6_size cX6_size 1 (some .int), Cond.fieldLink RX6 33 "MixElection$Trustees" "size" "I", Cond.methodLink RX7 116 yX6_needed, Cond.instanceMethod yX6_needed, Cond.selects RX6 yX6_needed yX6_needed, Cond.code yX6_needed cX6_needed 1 (some .int), Cond.fieldLink RX6 37 "MixElection$Trustees" "threshold" "I", Cond.methodLink RX7 238 yX0_size, Cond.instanceMethod yX0_size, Cond.selects RX0 yX0_size yX0_size, Cond.initialized RX0, Cond.code yX0_size cX0_size 1 (some .int), Cond.fieldLink RX0 28 "MixElection$Board" "size" "I", Cond.methodLink RX7 219 yX6_givers, Cond.instanceMethod yX6_givers, Cond.selects RX6 yX6_givers yX6_givers, Cond.code yX6_givers cX6_givers 1 (some .int)]
def wsX7_about_r3 : List Cond := [Cond.fieldLink RX6 56 "MixElection$Trustees" "givers" "I", Cond.methodLink RX7 239 yX7_aboutStaging, Cond.instanceMethod yX7_aboutStaging, Cond.selects RX7 yX7_aboutStaging yX7_aboutStaging, Cond.initialized RX7, Cond.code yX7_aboutStaging cX7_aboutStaging 1 (some .int), Cond.fieldLink RX7 76 "MixElection" "staging" "LMixElection$Staging;", Cond.methodLink RX7 269 yX5_isWhole, Cond.instanceMethod yX5_isWhole, Cond.selects RX5 yX5_isWhole yX5_isWhole, Cond.initialized RX5, Cond.code yX5_isWhole cX5_isWhole 2 (some .boolean), Cond.fieldLink RX5 12 "MixElection$Staging" "moves" "LMixElection$Moves;", Cond.methodLink RX5 36 yX2_isWhole, Cond.instanceMethod yX2_isWhole, Cond.selects RX2 yX2_isWhole yX2_isWhole, Cond.initialized RX2, Cond.code yX2_isWhole cX2_isWhole 7 (some .boolean), Cond.methodLink RX2 27 yX2_target, Cond.instanceMethod yX2_target, Cond.selects RX2 yX2_target yX2_target, Cond.code yX2_target cX2_target 2 (some .int), Cond.fieldLink RX2 9 "MixElection$Moves" "targets" "[I"]
def wsX7_about : List Cond := .code yX7_about cX7_about 2 (some .int) :: ((wsX7_about_r1 ++ (wsX7_about_r2 ++ wsX7_about_r3)) ++ wsX70 ++ wsX10 ++ wsX60 ++ wsX00 ++ wsX50 ++ wsX20)
def wsX7_list_r1 : List Cond := [Cond.fieldLink RX7 179 "MixElection" "mixes" "I", Cond.methodLink RX7 165 yX7_isBallot, Cond.instanceMethod yX7_isBallot, Cond.selects RX7 yX7_isBallot yX7_isBallot, Cond.initialized RX7, Cond.code yX7_isBallot cX7_isBallot 2 (some .boolean), Cond.fieldLink RX7 158 "MixElection" "ballots" "I", Cond.methodLink RX7 182 yX7_listOf, Cond.instanceMethod yX7_listOf, Cond.selects RX7 yX7_listOf yX7_listOf, Cond.code yX7_listOf cX7_listOf 2 (some (.object "MixElection$Pairs")), Cond.fieldLink RX7 66 "MixElection" "lists" "[LMixElection$Pairs;", Cond.methodLink RX7 242 yX4_part, Cond.instanceMethod yX4_part, Cond.selects RX4 yX4_part yX4_part, Cond.initialized RX4, Cond.code yX4_part cX4_part 3 (some .int), Cond.methodLink RX4 27 yX4_first, Cond.instanceMethod yX4_first, Cond.selects RX4 yX4_first yX4_first, Cond.code yX4_first cX4_first 2 (some .int), Cond.fieldLink RX4 9 "MixElection$Pairs" "firsts" "[I", Cond.methodLink RX4 31 yX4_second, Cond.instanceMethod yX4_second]
def wsX7_list_r2 : List Cond := [Cond.selects RX4 yX4_second yX4_second, Cond.code yX4_second cX4_second 2 (some .int), Cond.fieldLink RX4 15 "MixElection$Pairs" "seconds" "[I"]
def wsX7_list : List Cond := .code yX7_list cX7_list 4 (some .int) :: ((wsX7_list_r1 ++ wsX7_list_r2) ++ wsX70 ++ wsX40)
def wsX7_shadowOf : List Cond := .code yX7_shadowOf cX7_shadowOf 3 (some .int) :: ([.fieldLink RX7 70 "MixElection" "latestShadow" "LMixElection$Pairs;", .methodLink RX7 165 yX7_isBallot, .instanceMethod yX7_isBallot, .selects RX7 yX7_isBallot yX7_isBallot, .initialized RX7, .code yX7_isBallot cX7_isBallot 2 (some .boolean), .fieldLink RX7 158 "MixElection" "ballots" "I", .methodLink RX7 242 yX4_part, .instanceMethod yX4_part, .selects RX4 yX4_part yX4_part, .initialized RX4, .code yX4_part cX4_part 3 (some .int), .methodLink RX4 27 yX4_first, .instanceMethod yX4_first, .selects RX4 yX4_first yX4_first, .code yX4_first cX4_first 2 (some .int), .fieldLink RX4 9 "MixElection$Pairs" "firsts" "[I", .methodLink RX4 31 yX4_second, .instanceMethod yX4_second, .selects RX4 yX4_second yX4_second, .code yX4_second cX4_second 2 (some .int), .fieldLink RX4 15 "MixElection$Pairs" "seconds" "[I"] ++ wsX70 ++ wsX40)
def wsX7_shown : List Cond := .code yX7_shown cX7_shown 3 (some .int) :: ([.fieldLink RX7 90 "MixElection" "shownMoves" "LMixElection$Moves;", .methodLink RX7 165 yX7_isBallot, .instanceMethod yX7_isBallot, .selects RX7 yX7_isBallot yX7_isBallot, .initialized RX7, .code yX7_isBallot cX7_isBallot 2 (some .boolean), .fieldLink RX7 158 "MixElection" "ballots" "I", .methodLink RX7 245 yX2_target, .instanceMethod yX2_target, .selects RX2 yX2_target yX2_target, .initialized RX2, .code yX2_target cX2_target 2 (some .int), .fieldLink RX2 9 "MixElection$Moves" "targets" "[I", .methodLink RX7 248 yX2_exponent, .instanceMethod yX2_exponent, .selects RX2 yX2_exponent yX2_exponent, .code yX2_exponent cX2_exponent 2 (some .int), .fieldLink RX2 15 "MixElection$Moves" "exponents" "[I"] ++ wsX70 ++ wsX20)
def wsX7_given : List Cond := .code yX7_given cX7_given 3 (some .int) :: ([.fieldLink RX7 48 "MixElection" "trustees" "LMixElection$Trustees;", .methodLink RX7 165 yX7_isBallot, .instanceMethod yX7_isBallot, .selects RX7 yX7_isBallot yX7_isBallot, .initialized RX7, .code yX7_isBallot cX7_isBallot 2 (some .boolean), .fieldLink RX7 158 "MixElection" "ballots" "I", .methodLink RX7 251 yX6_gift, .instanceMethod yX6_gift, .selects RX6 yX6_gift yX6_gift, .initialized RX6, .code yX6_gift cX6_gift 3 (some .int), .fieldLink RX6 50 "MixElection$Trustees" "gifts" "[[I", .methodLink RX6 87 yX6_gave, .instanceMethod yX6_gave, .selects RX6 yX6_gave yX6_gave, .code yX6_gave cX6_gave 2 (some .boolean), .fieldLink RX6 44 "MixElection$Trustees" "hasGiven" "[Z", .methodLink RX6 63 yX6_isTrustee, .instanceMethod yX6_isTrustee, .selects RX6 yX6_isTrustee yX6_isTrustee, .code yX6_isTrustee cX6_isTrustee 2 (some .boolean), .fieldLink RX6 33 "MixElection$Trustees" "size" "I"] ++ wsX70 ++ wsX60)
def wsX7_entry : List Cond := .code yX7_entry cX7_entry 3 (some .long) :: ([.fieldLink RX7 55 "MixElection" "board" "LMixElection$Board;", .methodLink RX7 254 yX0_field, .instanceMethod yX0_field, .selects RX0 yX0_field yX0_field, .initialized RX0, .code yX0_field cX0_field 3 (some .long), .fieldLink RX0 9 "MixElection$Board" "kinds" "[I", .fieldLink RX0 15 "MixElection$Board" "xs" "[I", .fieldLink RX0 18 "MixElection$Board" "ys" "[I", .fieldLink RX0 21 "MixElection$Board" "zs" "[J", .methodLink RX0 42 yX0_has, .instanceMethod yX0_has, .selects RX0 yX0_has yX0_has, .code yX0_has cX0_has 2 (some .boolean), .fieldLink RX0 28 "MixElection$Board" "size" "I"] ++ wsX70 ++ wsX00)
def wsX7_chain : List Cond := .code yX7_chain cX7_chain 2 (some .long) :: ([.fieldLink RX7 55 "MixElection" "board" "LMixElection$Board;", .methodLink RX7 257 yX0_chainOf, .instanceMethod yX0_chainOf, .selects RX0 yX0_chainOf yX0_chainOf, .initialized RX0, .code yX0_chainOf cX0_chainOf 2 (some .long), .constantLong RX0 46 (-3750763034362895579), .fieldLink RX0 25 "MixElection$Board" "chains" "[J", .methodLink RX0 42 yX0_has, .instanceMethod yX0_has, .selects RX0 yX0_has yX0_has, .code yX0_has cX0_has 2 (some .boolean), .fieldLink RX0 28 "MixElection$Board" "size" "I"] ++ wsX70 ++ wsX00)
def wsX8_within : List Cond := .code yX8_within cX8_within 3 (some .int) :: ([])
def wsX8_isPrime : List Cond := .code yX8_isPrime cX8_isPrime 3 (some .boolean) :: ([])
def wsX8_empty : List Cond := .code yX8_empty cX8_empty 2 none :: ([.fieldLink RX8 35 "MixElectionModel" "to" "[I", .fieldLink RX8 38 "MixElectionModel" "by" "[I", .fieldLink RX8 41 "MixElectionModel" "forgedA" "[I", .fieldLink RX8 44 "MixElectionModel" "forgedB" "[I"] ++ wsX80)
def wsX8_init_r1 : List Cond := [Cond.methodLink RX8 1 objectInit, Cond.instanceMethod objectInit, Cond.code objectInit ⟨#[0xb1]⟩ 1 none, Cond.arrayClass .int, Cond.fieldLink RX8 7 "MixElectionModel" "secret" "[I", Cond.arrayClass .boolean, Cond.fieldLink RX8 13 "MixElectionModel" "hasCast" "[Z", Cond.fieldLink RX8 17 "MixElectionModel" "castA" "[I", Cond.fieldLink RX8 20 "MixElectionModel" "castB" "[I", Cond.fieldLink RX8 23 "MixElectionModel" "listA" "[I", Cond.fieldLink RX8 26 "MixElectionModel" "listB" "[I", Cond.fieldLink RX8 29 "MixElectionModel" "shadowA" "[I", Cond.fieldLink RX8 32 "MixElectionModel" "shadowB" "[I", Cond.fieldLink RX8 35 "MixElectionModel" "to" "[I", Cond.fieldLink RX8 38 "MixElectionModel" "by" "[I", Cond.fieldLink RX8 41 "MixElectionModel" "forgedA" "[I", Cond.fieldLink RX8 44 "MixElectionModel" "forgedB" "[I", Cond.fieldLink RX8 47 "MixElectionModel" "mixTo" "[I", Cond.fieldLink RX8 50 "MixElectionModel" "mixBy" "[I", Cond.fieldLink RX8 53 "MixElectionModel" "shadowTo" "[I", Cond.fieldLink RX8 56 "MixElectionModel" "shadowBy" "[I", Cond.fieldLink RX8 59 "MixElectionModel" "shownTo" "[I", Cond.fieldLink RX8 62 "MixElectionModel" "shownBy" "[I", Cond.fieldLink RX8 65 "MixElectionModel" "hasGiven" "[Z"]
def wsX8_init_r2 : List Cond := [Cond.fieldLink RX8 68 "MixElectionModel" "given" "[I", Cond.fieldLink RX8 71 "MixElectionModel" "count" "[I", Cond.fieldLink RX8 74 "MixElectionModel" "entryKind" "[I", Cond.arrayClass .long, Cond.fieldLink RX8 77 "MixElectionModel" "entryX" "[J", Cond.fieldLink RX8 81 "MixElectionModel" "entryY" "[J", Cond.fieldLink RX8 84 "MixElectionModel" "entryZ" "[J", Cond.fieldLink RX8 87 "MixElectionModel" "chain" "[J", Cond.constant RX8 90 (999959), Cond.fieldLink RX8 99 "MixElectionModel" "p" "I", Cond.fieldLink RX8 103 "MixElectionModel" "q" "I", Cond.fieldLink RX8 106 "MixElectionModel" "candidates" "I", Cond.fieldLink RX8 109 "MixElectionModel" "trustees" "I", Cond.fieldLink RX8 112 "MixElectionModel" "threshold" "I", Cond.methodLink RX8 91 yX8_within, Cond.static yX8_within, Cond.initialized RX8, Cond.code yX8_within cX8_within 3 (some .int), Cond.methodLink RX8 95 yX8_isPrime, Cond.static yX8_isPrime, Cond.code yX8_isPrime cX8_isPrime 3 (some .boolean), Cond.methodLink RX8 115 yX8_empty, Cond.instanceMethod yX8_empty, Cond.selects RX8 yX8_empty yX8_empty]
def wsX8_init_r3 : List Cond := [Cond.code yX8_empty cX8_empty 2 none]
def wsX8_init : List Cond := .code yX8_init cX8_init 6 none :: ((wsX8_init_r1 ++ (wsX8_init_r2 ++ wsX8_init_r3)) ++ wsX80)
def wsX8_in : List Cond := .code yX8_in cX8_in 3 (some .boolean) :: ([])
def wsX8_times : List Cond := .code yX8_times cX8_times 3 (some .int) :: ([.fieldLink RX8 99 "MixElectionModel" "p" "I"] ++ wsX80)
def wsX8_power : List Cond := .code yX8_power cX8_power 6 (some .int) :: ([.methodLink RX8 118 yX8_times, .instanceMethod yX8_times, .selects RX8 yX8_times yX8_times, .initialized RX8, .code yX8_times cX8_times 3 (some .int), .fieldLink RX8 99 "MixElectionModel" "p" "I"] ++ wsX80)
def wsX8_isOfGroup : List Cond := .code yX8_isOfGroup cX8_isOfGroup 2 (some .boolean) :: ([.fieldLink RX8 99 "MixElectionModel" "p" "I", .fieldLink RX8 103 "MixElectionModel" "q" "I", .methodLink RX8 122 yX8_in, .static yX8_in, .initialized RX8, .code yX8_in cX8_in 3 (some .boolean), .methodLink RX8 126 yX8_power, .instanceMethod yX8_power, .selects RX8 yX8_power yX8_power, .code yX8_power cX8_power 6 (some .int), .methodLink RX8 118 yX8_times, .instanceMethod yX8_times, .selects RX8 yX8_times yX8_times, .code yX8_times cX8_times 3 (some .int)] ++ wsX80)
def wsX8_isExponent : List Cond := .code yX8_isExponent cX8_isExponent 2 (some .boolean) :: ([.fieldLink RX8 103 "MixElectionModel" "q" "I", .methodLink RX8 122 yX8_in, .static yX8_in, .initialized RX8, .code yX8_in cX8_in 3 (some .boolean)] ++ wsX80)
def wsX8_mark : List Cond := .code yX8_mark cX8_mark 2 (some .int) :: ([.methodLink RX8 126 yX8_power, .instanceMethod yX8_power, .selects RX8 yX8_power yX8_power, .initialized RX8, .code yX8_power cX8_power 6 (some .int), .methodLink RX8 118 yX8_times, .instanceMethod yX8_times, .selects RX8 yX8_times yX8_times, .code yX8_times cX8_times 3 (some .int), .fieldLink RX8 99 "MixElectionModel" "p" "I"] ++ wsX80)
def wsX8_shareOf : List Cond := .code yX8_shareOf cX8_shareOf 5 (some .int) :: ([.fieldLink RX8 112 "MixElectionModel" "threshold" "I", .fieldLink RX8 7 "MixElectionModel" "secret" "[I", .fieldLink RX8 103 "MixElectionModel" "q" "I"] ++ wsX80)
def wsX8_on : List Cond := .code yX8_on cX8_on 4 (some .long) :: ([.constantLong RX8 129 (1099511628211)])
def wsX8_digest : List Cond := .code yX8_digest cX8_digest 7 (some .long) :: ([.methodLink RX8 131 yX8_on, .static yX8_on, .initialized RX8, .code yX8_on cX8_on 4 (some .long), .constantLong RX8 129 (1099511628211)])
def wsX8_enter : List Cond := .code yX8_enter cX8_enter 10 (some .long) :: ([.fieldLink RX8 74 "MixElectionModel" "entryKind" "[I", .fieldLink RX8 135 "MixElectionModel" "entries" "I", .fieldLink RX8 77 "MixElectionModel" "entryX" "[J", .fieldLink RX8 81 "MixElectionModel" "entryY" "[J", .fieldLink RX8 84 "MixElectionModel" "entryZ" "[J", .constantLong RX8 138 (-3750763034362895579), .fieldLink RX8 87 "MixElectionModel" "chain" "[J", .methodLink RX8 131 yX8_on, .static yX8_on, .initialized RX8, .code yX8_on cX8_on 4 (some .long), .constantLong RX8 129 (1099511628211)] ++ wsX80)
def wsX8_secret : List Cond := .code yX8_secret cX8_secret 3 (some .boolean) :: ([.fieldLink RX8 140 "MixElectionModel" "stage" "I", .fieldLink RX8 112 "MixElectionModel" "threshold" "I", .fieldLink RX8 7 "MixElectionModel" "secret" "[I", .methodLink RX8 122 yX8_in, .static yX8_in, .initialized RX8, .code yX8_in cX8_in 3 (some .boolean), .methodLink RX8 143 yX8_isExponent, .instanceMethod yX8_isExponent, .selects RX8 yX8_isExponent yX8_isExponent, .code yX8_isExponent cX8_isExponent 2 (some .boolean), .fieldLink RX8 103 "MixElectionModel" "q" "I"] ++ wsX80)
def wsX8_key_r1 : List Cond := [Cond.fieldLink RX8 140 "MixElectionModel" "stage" "I", Cond.fieldLink RX8 7 "MixElectionModel" "secret" "[I", Cond.fieldLink RX8 146 "MixElectionModel" "h" "I", Cond.fieldLink RX8 109 "MixElectionModel" "trustees" "I", Cond.fieldLink RX8 112 "MixElectionModel" "threshold" "I", Cond.methodLink RX8 126 yX8_power, Cond.instanceMethod yX8_power, Cond.selects RX8 yX8_power yX8_power, Cond.initialized RX8, Cond.code yX8_power cX8_power 6 (some .int), Cond.methodLink RX8 118 yX8_times, Cond.instanceMethod yX8_times, Cond.selects RX8 yX8_times yX8_times, Cond.code yX8_times cX8_times 3 (some .int), Cond.fieldLink RX8 99 "MixElectionModel" "p" "I", Cond.methodLink RX8 149 yX8_enter, Cond.instanceMethod yX8_enter, Cond.selects RX8 yX8_enter yX8_enter, Cond.code yX8_enter cX8_enter 10 (some .long), Cond.fieldLink RX8 74 "MixElectionModel" "entryKind" "[I", Cond.fieldLink RX8 135 "MixElectionModel" "entries" "I", Cond.fieldLink RX8 77 "MixElectionModel" "entryX" "[J", Cond.fieldLink RX8 81 "MixElectionModel" "entryY" "[J", Cond.fieldLink RX8 84 "MixElectionModel" "entryZ" "[J"]
def wsX8_key_r2 : List Cond := [Cond.constantLong RX8 138 (-3750763034362895579), Cond.fieldLink RX8 87 "MixElectionModel" "chain" "[J", Cond.methodLink RX8 131 yX8_on, Cond.static yX8_on, Cond.code yX8_on cX8_on 4 (some .long), Cond.constantLong RX8 129 (1099511628211)]
def wsX8_key : List Cond := .code yX8_key cX8_key 3 (some .int) :: ((wsX8_key_r1 ++ wsX8_key_r2) ++ wsX80)
def wsX8_voter : List Cond := .code yX8_voter cX8_voter 1 (some .int) :: ([.fieldLink RX8 153 "MixElectionModel" "voters" "I", .fieldLink RX8 140 "MixElectionModel" "stage" "I"] ++ wsX80)
def wsX8_mayCast : List Cond := .code yX8_mayCast cX8_mayCast 2 (some .boolean) :: ([.fieldLink RX8 140 "MixElectionModel" "stage" "I", .fieldLink RX8 153 "MixElectionModel" "voters" "I", .fieldLink RX8 135 "MixElectionModel" "entries" "I", .methodLink RX8 122 yX8_in, .static yX8_in, .initialized RX8, .code yX8_in cX8_in 3 (some .boolean)] ++ wsX80)
def wsX8_casts : List Cond := .code yX8_casts cX8_casts 4 (some .long) :: ([.fieldLink RX8 13 "MixElectionModel" "hasCast" "[Z", .fieldLink RX8 17 "MixElectionModel" "castA" "[I", .fieldLink RX8 20 "MixElectionModel" "castB" "[I", .methodLink RX8 149 yX8_enter, .instanceMethod yX8_enter, .selects RX8 yX8_enter yX8_enter, .initialized RX8, .code yX8_enter cX8_enter 10 (some .long), .fieldLink RX8 74 "MixElectionModel" "entryKind" "[I", .fieldLink RX8 135 "MixElectionModel" "entries" "I", .fieldLink RX8 77 "MixElectionModel" "entryX" "[J", .fieldLink RX8 81 "MixElectionModel" "entryY" "[J", .fieldLink RX8 84 "MixElectionModel" "entryZ" "[J", .constantLong RX8 138 (-3750763034362895579), .fieldLink RX8 87 "MixElectionModel" "chain" "[J", .methodLink RX8 131 yX8_on, .static yX8_on, .code yX8_on cX8_on 4 (some .long), .constantLong RX8 129 (1099511628211)] ++ wsX80)
def wsX8_cast_r1 : List Cond := [Cond.fieldLink RX8 106 "MixElectionModel" "candidates" "I", Cond.fieldLink RX8 146 "MixElectionModel" "h" "I", Cond.methodLink RX8 156 yX8_mayCast, Cond.instanceMethod yX8_mayCast, Cond.selects RX8 yX8_mayCast yX8_mayCast, Cond.initialized RX8, Cond.code yX8_mayCast cX8_mayCast 2 (some .boolean), Cond.fieldLink RX8 140 "MixElectionModel" "stage" "I", Cond.fieldLink RX8 153 "MixElectionModel" "voters" "I", Cond.fieldLink RX8 135 "MixElectionModel" "entries" "I", Cond.methodLink RX8 122 yX8_in, Cond.static yX8_in, Cond.code yX8_in cX8_in 3 (some .boolean), Cond.methodLink RX8 143 yX8_isExponent, Cond.instanceMethod yX8_isExponent, Cond.selects RX8 yX8_isExponent yX8_isExponent, Cond.code yX8_isExponent cX8_isExponent 2 (some .boolean), Cond.fieldLink RX8 103 "MixElectionModel" "q" "I", Cond.methodLink RX8 126 yX8_power, Cond.instanceMethod yX8_power, Cond.selects RX8 yX8_power yX8_power, Cond.code yX8_power cX8_power 6 (some .int), Cond.methodLink RX8 118 yX8_times, Cond.instanceMethod yX8_times]
def wsX8_cast_r2 : List Cond := [Cond.selects RX8 yX8_times yX8_times, Cond.code yX8_times cX8_times 3 (some .int), Cond.fieldLink RX8 99 "MixElectionModel" "p" "I", Cond.methodLink RX8 159 yX8_mark, Cond.instanceMethod yX8_mark, Cond.selects RX8 yX8_mark yX8_mark, Cond.code yX8_mark cX8_mark 2 (some .int), Cond.methodLink RX8 163 yX8_casts, Cond.instanceMethod yX8_casts, Cond.selects RX8 yX8_casts yX8_casts, Cond.code yX8_casts cX8_casts 4 (some .long), Cond.fieldLink RX8 13 "MixElectionModel" "hasCast" "[Z", Cond.fieldLink RX8 17 "MixElectionModel" "castA" "[I", Cond.fieldLink RX8 20 "MixElectionModel" "castB" "[I", Cond.methodLink RX8 149 yX8_enter, Cond.instanceMethod yX8_enter, Cond.selects RX8 yX8_enter yX8_enter, Cond.code yX8_enter cX8_enter 10 (some .long), Cond.fieldLink RX8 74 "MixElectionModel" "entryKind" "[I", Cond.fieldLink RX8 77 "MixElectionModel" "entryX" "[J", Cond.fieldLink RX8 81 "MixElectionModel" "entryY" "[J", Cond.fieldLink RX8 84 "MixElectionModel" "entryZ" "[J", Cond.constantLong RX8 138 (-3750763034362895579), Cond.fieldLink RX8 87 "MixElectionModel" "chain" "[J"]
def wsX8_cast_r3 : List Cond := [Cond.methodLink RX8 131 yX8_on, Cond.static yX8_on, Cond.code yX8_on cX8_on 4 (some .long), Cond.constantLong RX8 129 (1099511628211)]
def wsX8_cast : List Cond := .code yX8_cast cX8_cast 4 (some .long) :: ((wsX8_cast_r1 ++ (wsX8_cast_r2 ++ wsX8_cast_r3)) ++ wsX80)
def wsX8_castPair_r1 : List Cond := [Cond.methodLink RX8 156 yX8_mayCast, Cond.instanceMethod yX8_mayCast, Cond.selects RX8 yX8_mayCast yX8_mayCast, Cond.initialized RX8, Cond.code yX8_mayCast cX8_mayCast 2 (some .boolean), Cond.fieldLink RX8 140 "MixElectionModel" "stage" "I", Cond.fieldLink RX8 153 "MixElectionModel" "voters" "I", Cond.fieldLink RX8 135 "MixElectionModel" "entries" "I", Cond.methodLink RX8 122 yX8_in, Cond.static yX8_in, Cond.code yX8_in cX8_in 3 (some .boolean), Cond.methodLink RX8 167 yX8_isOfGroup, Cond.instanceMethod yX8_isOfGroup, Cond.selects RX8 yX8_isOfGroup yX8_isOfGroup, Cond.code yX8_isOfGroup cX8_isOfGroup 2 (some .boolean), Cond.fieldLink RX8 99 "MixElectionModel" "p" "I", Cond.fieldLink RX8 103 "MixElectionModel" "q" "I", Cond.methodLink RX8 126 yX8_power, Cond.instanceMethod yX8_power, Cond.selects RX8 yX8_power yX8_power, Cond.code yX8_power cX8_power 6 (some .int), Cond.methodLink RX8 118 yX8_times, Cond.instanceMethod yX8_times, Cond.selects RX8 yX8_times yX8_times]
def wsX8_castPair_r2 : List Cond := [Cond.code yX8_times cX8_times 3 (some .int), Cond.methodLink RX8 163 yX8_casts, Cond.instanceMethod yX8_casts, Cond.selects RX8 yX8_casts yX8_casts, Cond.code yX8_casts cX8_casts 4 (some .long), Cond.fieldLink RX8 13 "MixElectionModel" "hasCast" "[Z", Cond.fieldLink RX8 17 "MixElectionModel" "castA" "[I", Cond.fieldLink RX8 20 "MixElectionModel" "castB" "[I", Cond.methodLink RX8 149 yX8_enter, Cond.instanceMethod yX8_enter, Cond.selects RX8 yX8_enter yX8_enter, Cond.code yX8_enter cX8_enter 10 (some .long), Cond.fieldLink RX8 74 "MixElectionModel" "entryKind" "[I", Cond.fieldLink RX8 77 "MixElectionModel" "entryX" "[J", Cond.fieldLink RX8 81 "MixElectionModel" "entryY" "[J", Cond.fieldLink RX8 84 "MixElectionModel" "entryZ" "[J", Cond.constantLong RX8 138 (-3750763034362895579), Cond.fieldLink RX8 87 "MixElectionModel" "chain" "[J", Cond.methodLink RX8 131 yX8_on, Cond.static yX8_on, Cond.code yX8_on cX8_on 4 (some .long), Cond.constantLong RX8 129 (1099511628211)]
def wsX8_castPair : List Cond := .code yX8_castPair cX8_castPair 4 (some .long) :: ((wsX8_castPair_r1 ++ wsX8_castPair_r2) ++ wsX80)
def wsX8_close_r1 : List Cond := [Cond.fieldLink RX8 140 "MixElectionModel" "stage" "I", Cond.fieldLink RX8 170 "MixElectionModel" "many" "I", Cond.fieldLink RX8 153 "MixElectionModel" "voters" "I", Cond.fieldLink RX8 13 "MixElectionModel" "hasCast" "[Z", Cond.fieldLink RX8 23 "MixElectionModel" "listA" "[I", Cond.fieldLink RX8 17 "MixElectionModel" "castA" "[I", Cond.fieldLink RX8 26 "MixElectionModel" "listB" "[I", Cond.fieldLink RX8 20 "MixElectionModel" "castB" "[I", Cond.methodLink RX8 115 yX8_empty, Cond.instanceMethod yX8_empty, Cond.selects RX8 yX8_empty yX8_empty, Cond.initialized RX8, Cond.code yX8_empty cX8_empty 2 none, Cond.fieldLink RX8 35 "MixElectionModel" "to" "[I", Cond.fieldLink RX8 38 "MixElectionModel" "by" "[I", Cond.fieldLink RX8 41 "MixElectionModel" "forgedA" "[I", Cond.fieldLink RX8 44 "MixElectionModel" "forgedB" "[I", Cond.methodLink RX8 173 yX8_digest, Cond.static yX8_digest, Cond.code yX8_digest cX8_digest 7 (some .long), Cond.methodLink RX8 131 yX8_on, Cond.static yX8_on, Cond.code yX8_on cX8_on 4 (some .long), Cond.constantLong RX8 129 (1099511628211)]
def wsX8_close_r2 : List Cond := [Cond.methodLink RX8 149 yX8_enter, Cond.instanceMethod yX8_enter, Cond.selects RX8 yX8_enter yX8_enter, Cond.code yX8_enter cX8_enter 10 (some .long), Cond.fieldLink RX8 74 "MixElectionModel" "entryKind" "[I", Cond.fieldLink RX8 135 "MixElectionModel" "entries" "I", Cond.fieldLink RX8 77 "MixElectionModel" "entryX" "[J", Cond.fieldLink RX8 81 "MixElectionModel" "entryY" "[J", Cond.fieldLink RX8 84 "MixElectionModel" "entryZ" "[J", Cond.constantLong RX8 138 (-3750763034362895579), Cond.fieldLink RX8 87 "MixElectionModel" "chain" "[J"]
def wsX8_close : List Cond := .code yX8_close cX8_close 3 (some .int) :: ((wsX8_close_r1 ++ wsX8_close_r2) ++ wsX80)
def wsX8_place : List Cond := .code yX8_place cX8_place 4 (some .boolean) :: ([.fieldLink RX8 140 "MixElectionModel" "stage" "I", .fieldLink RX8 170 "MixElectionModel" "many" "I", .fieldLink RX8 35 "MixElectionModel" "to" "[I", .fieldLink RX8 38 "MixElectionModel" "by" "[I", .methodLink RX8 122 yX8_in, .static yX8_in, .initialized RX8, .code yX8_in cX8_in 3 (some .boolean), .methodLink RX8 143 yX8_isExponent, .instanceMethod yX8_isExponent, .selects RX8 yX8_isExponent yX8_isExponent, .code yX8_isExponent cX8_isExponent 2 (some .boolean), .fieldLink RX8 103 "MixElectionModel" "q" "I"] ++ wsX80)
def wsX8_forge : List Cond := .code yX8_forge cX8_forge 4 (some .boolean) :: ([.fieldLink RX8 140 "MixElectionModel" "stage" "I", .fieldLink RX8 170 "MixElectionModel" "many" "I", .fieldLink RX8 41 "MixElectionModel" "forgedA" "[I", .fieldLink RX8 44 "MixElectionModel" "forgedB" "[I", .methodLink RX8 122 yX8_in, .static yX8_in, .initialized RX8, .code yX8_in cX8_in 3 (some .boolean), .methodLink RX8 167 yX8_isOfGroup, .instanceMethod yX8_isOfGroup, .selects RX8 yX8_isOfGroup yX8_isOfGroup, .code yX8_isOfGroup cX8_isOfGroup 2 (some .boolean), .fieldLink RX8 99 "MixElectionModel" "p" "I", .fieldLink RX8 103 "MixElectionModel" "q" "I", .methodLink RX8 126 yX8_power, .instanceMethod yX8_power, .selects RX8 yX8_power yX8_power, .code yX8_power cX8_power 6 (some .int), .methodLink RX8 118 yX8_times, .instanceMethod yX8_times, .selects RX8 yX8_times yX8_times, .code yX8_times cX8_times 3 (some .int)] ++ wsX80)
def wsX8_isWhole : List Cond := .code yX8_isWhole cX8_isWhole 3 (some .boolean) :: ([.fieldLink RX8 170 "MixElectionModel" "many" "I", .fieldLink RX8 35 "MixElectionModel" "to" "[I"] ++ wsX80)
def wsX8_anewA : List Cond := .code yX8_anewA cX8_anewA 4 (some .int) :: ([.fieldLink RX8 23 "MixElectionModel" "listA" "[I", .methodLink RX8 126 yX8_power, .instanceMethod yX8_power, .selects RX8 yX8_power yX8_power, .initialized RX8, .code yX8_power cX8_power 6 (some .int), .methodLink RX8 118 yX8_times, .instanceMethod yX8_times, .selects RX8 yX8_times yX8_times, .code yX8_times cX8_times 3 (some .int), .fieldLink RX8 99 "MixElectionModel" "p" "I"] ++ wsX80)
def wsX8_anewB : List Cond := .code yX8_anewB cX8_anewB 4 (some .int) :: ([.fieldLink RX8 26 "MixElectionModel" "listB" "[I", .fieldLink RX8 146 "MixElectionModel" "h" "I", .methodLink RX8 126 yX8_power, .instanceMethod yX8_power, .selects RX8 yX8_power yX8_power, .initialized RX8, .code yX8_power cX8_power 6 (some .int), .methodLink RX8 118 yX8_times, .instanceMethod yX8_times, .selects RX8 yX8_times yX8_times, .code yX8_times cX8_times 3 (some .int), .fieldLink RX8 99 "MixElectionModel" "p" "I"] ++ wsX80)
def wsX8_mayStage : List Cond := .code yX8_mayStage cX8_mayStage 1 (some .boolean) :: ([.fieldLink RX8 140 "MixElectionModel" "stage" "I", .fieldLink RX8 181 "MixElectionModel" "isDue" "Z", .fieldLink RX8 185 "MixElectionModel" "shares" "I", .methodLink RX8 177 yX8_isWhole, .instanceMethod yX8_isWhole, .selects RX8 yX8_isWhole yX8_isWhole, .initialized RX8, .code yX8_isWhole cX8_isWhole 3 (some .boolean), .fieldLink RX8 170 "MixElectionModel" "many" "I", .fieldLink RX8 35 "MixElectionModel" "to" "[I"] ++ wsX80)
def wsX8_mix_r1 : List Cond := [Cond.fieldLink RX8 191 "MixElectionModel" "mixes" "I", Cond.fieldLink RX8 170 "MixElectionModel" "many" "I", Cond.fieldLink RX8 35 "MixElectionModel" "to" "[I", Cond.fieldLink RX8 41 "MixElectionModel" "forgedA" "[I", Cond.fieldLink RX8 23 "MixElectionModel" "listA" "[I", Cond.fieldLink RX8 38 "MixElectionModel" "by" "[I", Cond.fieldLink RX8 26 "MixElectionModel" "listB" "[I", Cond.fieldLink RX8 44 "MixElectionModel" "forgedB" "[I", Cond.fieldLink RX8 47 "MixElectionModel" "mixTo" "[I", Cond.fieldLink RX8 50 "MixElectionModel" "mixBy" "[I", Cond.fieldLink RX8 200 "MixElectionModel" "unproved" "I", Cond.fieldLink RX8 203 "MixElectionModel" "rounds" "I", Cond.fieldLink RX8 206 "MixElectionModel" "hasShadow" "Z", Cond.fieldLink RX8 209 "MixElectionModel" "hasShown" "Z", Cond.methodLink RX8 188 yX8_mayStage, Cond.instanceMethod yX8_mayStage, Cond.selects RX8 yX8_mayStage yX8_mayStage, Cond.initialized RX8, Cond.code yX8_mayStage cX8_mayStage 1 (some .boolean), Cond.fieldLink RX8 140 "MixElectionModel" "stage" "I", Cond.fieldLink RX8 181 "MixElectionModel" "isDue" "Z", Cond.fieldLink RX8 185 "MixElectionModel" "shares" "I", Cond.methodLink RX8 177 yX8_isWhole, Cond.instanceMethod yX8_isWhole]
def wsX8_mix_r2 : List Cond := [Cond.selects RX8 yX8_isWhole yX8_isWhole, Cond.code yX8_isWhole cX8_isWhole 3 (some .boolean), Cond.methodLink RX8 194 yX8_anewA, Cond.instanceMethod yX8_anewA, Cond.selects RX8 yX8_anewA yX8_anewA, Cond.code yX8_anewA cX8_anewA 4 (some .int), Cond.methodLink RX8 126 yX8_power, Cond.instanceMethod yX8_power, Cond.selects RX8 yX8_power yX8_power, Cond.code yX8_power cX8_power 6 (some .int), Cond.methodLink RX8 118 yX8_times, Cond.instanceMethod yX8_times, Cond.selects RX8 yX8_times yX8_times, Cond.code yX8_times cX8_times 3 (some .int), Cond.fieldLink RX8 99 "MixElectionModel" "p" "I", Cond.methodLink RX8 197 yX8_anewB, Cond.instanceMethod yX8_anewB, Cond.selects RX8 yX8_anewB yX8_anewB, Cond.code yX8_anewB cX8_anewB 4 (some .int), Cond.fieldLink RX8 146 "MixElectionModel" "h" "I", Cond.methodLink RX8 115 yX8_empty, Cond.instanceMethod yX8_empty, Cond.selects RX8 yX8_empty yX8_empty, Cond.code yX8_empty cX8_empty 2 none]
def wsX8_mix_r3 : List Cond := [Cond.methodLink RX8 173 yX8_digest, Cond.static yX8_digest, Cond.code yX8_digest cX8_digest 7 (some .long), Cond.methodLink RX8 131 yX8_on, Cond.static yX8_on, Cond.code yX8_on cX8_on 4 (some .long), Cond.constantLong RX8 129 (1099511628211), Cond.methodLink RX8 149 yX8_enter, Cond.instanceMethod yX8_enter, Cond.selects RX8 yX8_enter yX8_enter, Cond.code yX8_enter cX8_enter 10 (some .long), Cond.fieldLink RX8 74 "MixElectionModel" "entryKind" "[I", Cond.fieldLink RX8 135 "MixElectionModel" "entries" "I", Cond.fieldLink RX8 77 "MixElectionModel" "entryX" "[J", Cond.fieldLink RX8 81 "MixElectionModel" "entryY" "[J", Cond.fieldLink RX8 84 "MixElectionModel" "entryZ" "[J", Cond.constantLong RX8 138 (-3750763034362895579), Cond.fieldLink RX8 87 "MixElectionModel" "chain" "[J"]
def wsX8_mix : List Cond := .code yX8_mix cX8_mix 4 (some .int) :: ((wsX8_mix_r1 ++ (wsX8_mix_r2 ++ wsX8_mix_r3)) ++ wsX80)
def wsX8_shadow_r1 : List Cond := [Cond.fieldLink RX8 191 "MixElectionModel" "mixes" "I", Cond.fieldLink RX8 203 "MixElectionModel" "rounds" "I", Cond.fieldLink RX8 170 "MixElectionModel" "many" "I", Cond.fieldLink RX8 35 "MixElectionModel" "to" "[I", Cond.fieldLink RX8 41 "MixElectionModel" "forgedA" "[I", Cond.fieldLink RX8 29 "MixElectionModel" "shadowA" "[I", Cond.fieldLink RX8 38 "MixElectionModel" "by" "[I", Cond.fieldLink RX8 32 "MixElectionModel" "shadowB" "[I", Cond.fieldLink RX8 44 "MixElectionModel" "forgedB" "[I", Cond.fieldLink RX8 53 "MixElectionModel" "shadowTo" "[I", Cond.fieldLink RX8 56 "MixElectionModel" "shadowBy" "[I", Cond.fieldLink RX8 181 "MixElectionModel" "isDue" "Z", Cond.fieldLink RX8 206 "MixElectionModel" "hasShadow" "Z", Cond.fieldLink RX8 209 "MixElectionModel" "hasShown" "Z", Cond.methodLink RX8 188 yX8_mayStage, Cond.instanceMethod yX8_mayStage, Cond.selects RX8 yX8_mayStage yX8_mayStage, Cond.initialized RX8, Cond.code yX8_mayStage cX8_mayStage 1 (some .boolean), Cond.fieldLink RX8 140 "MixElectionModel" "stage" "I", Cond.fieldLink RX8 185 "MixElectionModel" "shares" "I", Cond.methodLink RX8 177 yX8_isWhole, Cond.instanceMethod yX8_isWhole, Cond.selects RX8 yX8_isWhole yX8_isWhole]
def wsX8_shadow_r2 : List Cond := [Cond.code yX8_isWhole cX8_isWhole 3 (some .boolean), Cond.methodLink RX8 194 yX8_anewA, Cond.instanceMethod yX8_anewA, Cond.selects RX8 yX8_anewA yX8_anewA, Cond.code yX8_anewA cX8_anewA 4 (some .int), Cond.fieldLink RX8 23 "MixElectionModel" "listA" "[I", Cond.methodLink RX8 126 yX8_power, Cond.instanceMethod yX8_power, Cond.selects RX8 yX8_power yX8_power, Cond.code yX8_power cX8_power 6 (some .int), Cond.methodLink RX8 118 yX8_times, Cond.instanceMethod yX8_times, Cond.selects RX8 yX8_times yX8_times, Cond.code yX8_times cX8_times 3 (some .int), Cond.fieldLink RX8 99 "MixElectionModel" "p" "I", Cond.methodLink RX8 197 yX8_anewB, Cond.instanceMethod yX8_anewB, Cond.selects RX8 yX8_anewB yX8_anewB, Cond.code yX8_anewB cX8_anewB 4 (some .int), Cond.fieldLink RX8 26 "MixElectionModel" "listB" "[I", Cond.fieldLink RX8 146 "MixElectionModel" "h" "I", Cond.methodLink RX8 115 yX8_empty, Cond.instanceMethod yX8_empty, Cond.selects RX8 yX8_empty yX8_empty]
def wsX8_shadow_r3 : List Cond := [Cond.code yX8_empty cX8_empty 2 none, Cond.methodLink RX8 173 yX8_digest, Cond.static yX8_digest, Cond.code yX8_digest cX8_digest 7 (some .long), Cond.methodLink RX8 131 yX8_on, Cond.static yX8_on, Cond.code yX8_on cX8_on 4 (some .long), Cond.constantLong RX8 129 (1099511628211), Cond.methodLink RX8 149 yX8_enter, Cond.instanceMethod yX8_enter, Cond.selects RX8 yX8_enter yX8_enter, Cond.code yX8_enter cX8_enter 10 (some .long), Cond.fieldLink RX8 74 "MixElectionModel" "entryKind" "[I", Cond.fieldLink RX8 135 "MixElectionModel" "entries" "I", Cond.fieldLink RX8 77 "MixElectionModel" "entryX" "[J", Cond.fieldLink RX8 81 "MixElectionModel" "entryY" "[J", Cond.fieldLink RX8 84 "MixElectionModel" "entryZ" "[J", Cond.constantLong RX8 138 (-3750763034362895579), Cond.fieldLink RX8 87 "MixElectionModel" "chain" "[J"]
def wsX8_shadow : List Cond := .code yX8_shadow cX8_shadow 4 (some .int) :: ((wsX8_shadow_r1 ++ (wsX8_shadow_r2 ++ wsX8_shadow_r3)) ++ wsX80)
def wsX8_coin_r1 : List Cond := [Cond.fieldLink RX8 181 "MixElectionModel" "isDue" "Z", Cond.fieldLink RX8 170 "MixElectionModel" "many" "I", Cond.fieldLink RX8 53 "MixElectionModel" "shadowTo" "[I", Cond.fieldLink RX8 59 "MixElectionModel" "shownTo" "[I", Cond.fieldLink RX8 62 "MixElectionModel" "shownBy" "[I", Cond.fieldLink RX8 56 "MixElectionModel" "shadowBy" "[I", Cond.fieldLink RX8 29 "MixElectionModel" "shadowA" "[I", Cond.fieldLink RX8 191 "MixElectionModel" "mixes" "I", Cond.fieldLink RX8 32 "MixElectionModel" "shadowB" "[I", Cond.fieldLink RX8 50 "MixElectionModel" "mixBy" "[I", Cond.fieldLink RX8 103 "MixElectionModel" "q" "I", Cond.fieldLink RX8 47 "MixElectionModel" "mixTo" "[I", Cond.fieldLink RX8 23 "MixElectionModel" "listA" "[I", Cond.fieldLink RX8 26 "MixElectionModel" "listB" "[I", Cond.fieldLink RX8 146 "MixElectionModel" "h" "I", Cond.fieldLink RX8 209 "MixElectionModel" "hasShown" "Z", Cond.fieldLink RX8 212 "MixElectionModel" "rejected" "I", Cond.fieldLink RX8 203 "MixElectionModel" "rounds" "I", Cond.methodLink RX8 122 yX8_in, Cond.static yX8_in, Cond.initialized RX8, Cond.code yX8_in cX8_in 3 (some .boolean), Cond.methodLink RX8 194 yX8_anewA, Cond.instanceMethod yX8_anewA]
def wsX8_coin_r2 : List Cond := [Cond.selects RX8 yX8_anewA yX8_anewA, Cond.code yX8_anewA cX8_anewA 4 (some .int), Cond.methodLink RX8 126 yX8_power, Cond.instanceMethod yX8_power, Cond.selects RX8 yX8_power yX8_power, Cond.code yX8_power cX8_power 6 (some .int), Cond.methodLink RX8 118 yX8_times, Cond.instanceMethod yX8_times, Cond.selects RX8 yX8_times yX8_times, Cond.code yX8_times cX8_times 3 (some .int), Cond.fieldLink RX8 99 "MixElectionModel" "p" "I", Cond.methodLink RX8 197 yX8_anewB, Cond.instanceMethod yX8_anewB, Cond.selects RX8 yX8_anewB yX8_anewB, Cond.code yX8_anewB cX8_anewB 4 (some .int), Cond.methodLink RX8 149 yX8_enter, Cond.instanceMethod yX8_enter, Cond.selects RX8 yX8_enter yX8_enter, Cond.code yX8_enter cX8_enter 10 (some .long), Cond.fieldLink RX8 74 "MixElectionModel" "entryKind" "[I", Cond.fieldLink RX8 135 "MixElectionModel" "entries" "I", Cond.fieldLink RX8 77 "MixElectionModel" "entryX" "[J", Cond.fieldLink RX8 81 "MixElectionModel" "entryY" "[J", Cond.fieldLink RX8 84 "MixElectionModel" "entryZ" "[J"]
def wsX8_coin_r3 : List Cond := [Cond.constantLong RX8 138 (-3750763034362895579), Cond.fieldLink RX8 87 "MixElectionModel" "chain" "[J", Cond.methodLink RX8 131 yX8_on, Cond.static yX8_on, Cond.code yX8_on cX8_on 4 (some .long), Cond.constantLong RX8 129 (1099511628211)]
def wsX8_coin : List Cond := .code yX8_coin cX8_coin 7 (some .int) :: ((wsX8_coin_r1 ++ (wsX8_coin_r2 ++ wsX8_coin_r3)) ++ wsX80)
def wsX8_share_r1 : List Cond := [Cond.fieldLink RX8 140 "MixElectionModel" "stage" "I", Cond.fieldLink RX8 109 "MixElectionModel" "trustees" "I", Cond.fieldLink RX8 65 "MixElectionModel" "hasGiven" "[Z", Cond.fieldLink RX8 191 "MixElectionModel" "mixes" "I", Cond.fieldLink RX8 181 "MixElectionModel" "isDue" "Z", Cond.fieldLink RX8 170 "MixElectionModel" "many" "I", Cond.fieldLink RX8 68 "MixElectionModel" "given" "[I", Cond.fieldLink RX8 23 "MixElectionModel" "listA" "[I", Cond.fieldLink RX8 185 "MixElectionModel" "shares" "I", Cond.methodLink RX8 122 yX8_in, Cond.static yX8_in, Cond.initialized RX8, Cond.code yX8_in cX8_in 3 (some .boolean), Cond.methodLink RX8 215 yX8_shareOf, Cond.instanceMethod yX8_shareOf, Cond.selects RX8 yX8_shareOf yX8_shareOf, Cond.code yX8_shareOf cX8_shareOf 5 (some .int), Cond.fieldLink RX8 112 "MixElectionModel" "threshold" "I", Cond.fieldLink RX8 7 "MixElectionModel" "secret" "[I", Cond.fieldLink RX8 103 "MixElectionModel" "q" "I", Cond.methodLink RX8 126 yX8_power, Cond.instanceMethod yX8_power, Cond.selects RX8 yX8_power yX8_power, Cond.code yX8_power cX8_power 6 (some .int)]
def wsX8_share_r2 : List Cond := [Cond.methodLink RX8 118 yX8_times, Cond.instanceMethod yX8_times, Cond.selects RX8 yX8_times yX8_times, Cond.code yX8_times cX8_times 3 (some .int), Cond.fieldLink RX8 99 "MixElectionModel" "p" "I", Cond.methodLink RX8 131 yX8_on, Cond.static yX8_on, Cond.code yX8_on cX8_on 4 (some .long), Cond.constantLong RX8 129 (1099511628211), Cond.methodLink RX8 149 yX8_enter, Cond.instanceMethod yX8_enter, Cond.selects RX8 yX8_enter yX8_enter, Cond.code yX8_enter cX8_enter 10 (some .long), Cond.fieldLink RX8 74 "MixElectionModel" "entryKind" "[I", Cond.fieldLink RX8 135 "MixElectionModel" "entries" "I", Cond.fieldLink RX8 77 "MixElectionModel" "entryX" "[J", Cond.fieldLink RX8 81 "MixElectionModel" "entryY" "[J", Cond.fieldLink RX8 84 "MixElectionModel" "entryZ" "[J", Cond.constantLong RX8 138 (-3750763034362895579), Cond.fieldLink RX8 87 "MixElectionModel" "chain" "[J"]
def wsX8_share : List Cond := .code yX8_share cX8_share 7 (some .int) :: ((wsX8_share_r1 ++ wsX8_share_r2) ++ wsX80)
def wsX8_weight : List Cond := .code yX8_weight cX8_weight 12 (some .int) :: ([.fieldLink RX8 65 "MixElectionModel" "hasGiven" "[Z", .fieldLink RX8 103 "MixElectionModel" "q" "I"] ++ wsX80)
def wsX8_tally_r1 : List Cond := [Cond.fieldLink RX8 140 "MixElectionModel" "stage" "I", Cond.fieldLink RX8 212 "MixElectionModel" "rejected" "I", Cond.fieldLink RX8 191 "MixElectionModel" "mixes" "I", Cond.fieldLink RX8 203 "MixElectionModel" "rounds" "I", Cond.fieldLink RX8 200 "MixElectionModel" "unproved" "I", Cond.fieldLink RX8 185 "MixElectionModel" "shares" "I", Cond.fieldLink RX8 112 "MixElectionModel" "threshold" "I", Cond.fieldLink RX8 65 "MixElectionModel" "hasGiven" "[Z", Cond.fieldLink RX8 170 "MixElectionModel" "many" "I", Cond.fieldLink RX8 68 "MixElectionModel" "given" "[I", Cond.fieldLink RX8 26 "MixElectionModel" "listB" "[I", Cond.fieldLink RX8 99 "MixElectionModel" "p" "I", Cond.fieldLink RX8 106 "MixElectionModel" "candidates" "I", Cond.fieldLink RX8 71 "MixElectionModel" "count" "[I", Cond.methodLink RX8 218 yX8_weight, Cond.instanceMethod yX8_weight, Cond.selects RX8 yX8_weight yX8_weight, Cond.initialized RX8, Cond.code yX8_weight cX8_weight 12 (some .int), Cond.fieldLink RX8 103 "MixElectionModel" "q" "I", Cond.methodLink RX8 126 yX8_power, Cond.instanceMethod yX8_power, Cond.selects RX8 yX8_power yX8_power, Cond.code yX8_power cX8_power 6 (some .int)]
def wsX8_tally_r2 : List Cond := [Cond.methodLink RX8 118 yX8_times, Cond.instanceMethod yX8_times, Cond.selects RX8 yX8_times yX8_times, Cond.code yX8_times cX8_times 3 (some .int), Cond.methodLink RX8 159 yX8_mark, Cond.instanceMethod yX8_mark, Cond.selects RX8 yX8_mark yX8_mark, Cond.code yX8_mark cX8_mark 2 (some .int), Cond.methodLink RX8 131 yX8_on, Cond.static yX8_on, Cond.code yX8_on cX8_on 4 (some .long), Cond.constantLong RX8 129 (1099511628211), Cond.methodLink RX8 149 yX8_enter, Cond.instanceMethod yX8_enter, Cond.selects RX8 yX8_enter yX8_enter, Cond.code yX8_enter cX8_enter 10 (some .long), Cond.fieldLink RX8 74 "MixElectionModel" "entryKind" "[I", Cond.fieldLink RX8 135 "MixElectionModel" "entries" "I", Cond.fieldLink RX8 77 "MixElectionModel" "entryX" "[J", Cond.fieldLink RX8 81 "MixElectionModel" "entryY" "[J", Cond.fieldLink RX8 84 "MixElectionModel" "entryZ" "[J", Cond.constantLong RX8 138 (-3750763034362895579), Cond.fieldLink RX8 87 "MixElectionModel" "chain" "[J"]
def wsX8_tally : List Cond := .code yX8_tally cX8_tally 8 (some .int) :: ((wsX8_tally_r1 ++ wsX8_tally_r2) ++ wsX80)
def wsX8_count : List Cond := .code yX8_count cX8_count 2 (some .int) :: ([.fieldLink RX8 140 "MixElectionModel" "stage" "I", .fieldLink RX8 106 "MixElectionModel" "candidates" "I", .fieldLink RX8 71 "MixElectionModel" "count" "[I", .methodLink RX8 122 yX8_in, .static yX8_in, .initialized RX8, .code yX8_in cX8_in 3 (some .boolean)] ++ wsX80)
def wsX8_about : List Cond := .code yX8_about cX8_about 2 (some .int) :: ([.fieldLink RX8 99 "MixElectionModel" "p" "I", .fieldLink RX8 103 "MixElectionModel" "q" "I", .fieldLink RX8 146 "MixElectionModel" "h" "I", .fieldLink RX8 106 "MixElectionModel" "candidates" "I", .fieldLink RX8 109 "MixElectionModel" "trustees" "I", .fieldLink RX8 112 "MixElectionModel" "threshold" "I", .fieldLink RX8 153 "MixElectionModel" "voters" "I", .fieldLink RX8 140 "MixElectionModel" "stage" "I", .fieldLink RX8 135 "MixElectionModel" "entries" "I", .fieldLink RX8 170 "MixElectionModel" "many" "I", .fieldLink RX8 191 "MixElectionModel" "mixes" "I", .fieldLink RX8 203 "MixElectionModel" "rounds" "I", .fieldLink RX8 212 "MixElectionModel" "rejected" "I", .fieldLink RX8 185 "MixElectionModel" "shares" "I", .fieldLink RX8 181 "MixElectionModel" "isDue" "Z", .methodLink RX8 177 yX8_isWhole, .instanceMethod yX8_isWhole, .selects RX8 yX8_isWhole yX8_isWhole, .initialized RX8, .code yX8_isWhole cX8_isWhole 3 (some .boolean), .fieldLink RX8 35 "MixElectionModel" "to" "[I"] ++ wsX80)
def wsX8_list : List Cond := .code yX8_list cX8_list 4 (some .int) :: ([.fieldLink RX8 140 "MixElectionModel" "stage" "I", .fieldLink RX8 191 "MixElectionModel" "mixes" "I", .fieldLink RX8 170 "MixElectionModel" "many" "I", .fieldLink RX8 23 "MixElectionModel" "listA" "[I", .fieldLink RX8 26 "MixElectionModel" "listB" "[I", .methodLink RX8 122 yX8_in, .static yX8_in, .initialized RX8, .code yX8_in cX8_in 3 (some .boolean)] ++ wsX80)
def wsX8_shadowOf : List Cond := .code yX8_shadowOf cX8_shadowOf 3 (some .int) :: ([.fieldLink RX8 206 "MixElectionModel" "hasShadow" "Z", .fieldLink RX8 170 "MixElectionModel" "many" "I", .fieldLink RX8 29 "MixElectionModel" "shadowA" "[I", .fieldLink RX8 32 "MixElectionModel" "shadowB" "[I", .methodLink RX8 122 yX8_in, .static yX8_in, .initialized RX8, .code yX8_in cX8_in 3 (some .boolean)] ++ wsX80)
def wsX8_shown : List Cond := .code yX8_shown cX8_shown 3 (some .int) :: ([.fieldLink RX8 209 "MixElectionModel" "hasShown" "Z", .fieldLink RX8 170 "MixElectionModel" "many" "I", .fieldLink RX8 59 "MixElectionModel" "shownTo" "[I", .fieldLink RX8 62 "MixElectionModel" "shownBy" "[I", .methodLink RX8 122 yX8_in, .static yX8_in, .initialized RX8, .code yX8_in cX8_in 3 (some .boolean)] ++ wsX80)
def wsX8_given : List Cond := .code yX8_given cX8_given 3 (some .int) :: ([.fieldLink RX8 109 "MixElectionModel" "trustees" "I", .fieldLink RX8 65 "MixElectionModel" "hasGiven" "[Z", .fieldLink RX8 170 "MixElectionModel" "many" "I", .fieldLink RX8 68 "MixElectionModel" "given" "[I", .methodLink RX8 122 yX8_in, .static yX8_in, .initialized RX8, .code yX8_in cX8_in 3 (some .boolean)] ++ wsX80)
def wsX8_entry : List Cond := .code yX8_entry cX8_entry 3 (some .long) :: ([.fieldLink RX8 135 "MixElectionModel" "entries" "I", .fieldLink RX8 74 "MixElectionModel" "entryKind" "[I", .fieldLink RX8 77 "MixElectionModel" "entryX" "[J", .fieldLink RX8 81 "MixElectionModel" "entryY" "[J", .fieldLink RX8 84 "MixElectionModel" "entryZ" "[J", .methodLink RX8 122 yX8_in, .static yX8_in, .initialized RX8, .code yX8_in cX8_in 3 (some .boolean)] ++ wsX80)
def wsX8_chain : List Cond := .code yX8_chain cX8_chain 2 (some .long) :: ([.constantLong RX8 138 (-3750763034362895579), .fieldLink RX8 135 "MixElectionModel" "entries" "I", .fieldLink RX8 87 "MixElectionModel" "chain" "[J", .methodLink RX8 122 yX8_in, .static yX8_in, .initialized RX8, .code yX8_in cX8_in 3 (some .boolean)] ++ wsX80)
def wsJ9_max_7cf53 : List Cond := .code yJ9_max_7cf53 cJ9_max_7cf53 2 (some .int) :: ([])
def wsJ9_min_7cf53 : List Cond := .code yJ9_min_7cf53 cJ9_min_7cf53 2 (some .int) :: ([])
def wsL_cell : List Cond := .code yL_cell cL_cell 2 (some .int) :: ([])
def wsL_law_r1 : List Cond := [Cond.classLink RL 7 RX7, Cond.instantiable RX7 20, Cond.initialized RX7, Cond.classLink RL 18 RX8, Cond.instantiable RX8 44, Cond.initialized RX8, Cond.methodLink RL 9 yL_cell, Cond.static yL_cell, Cond.initialized RL, Cond.code yL_cell cL_cell 2 (some .int), Cond.methodLink RL 15 yX7_init, Cond.instanceMethod yX7_init, Cond.code yX7_init cX7_init 6 none, Cond.methodLink RX7 1 objectInit, Cond.instanceMethod objectInit, Cond.code objectInit ⟨#[0xb1]⟩ 1 none, Cond.classLink RX7 7 RX1, Cond.instantiable RX1 3, Cond.initialized RX1, Cond.constant RX7 11 (999959), Cond.fieldLink RX7 25 "MixElection" "group" "LMixElection$Group;", Cond.methodLink RX7 33 Lib.Math.min.name, Cond.static Lib.Math.min.name, Cond.initialized "java/lang/Math"]
def wsL_law_r2 : List Cond := [Cond.code Lib.Math.min.name Lib.Math.min.code 2 (some .int), Cond.fieldLink RX7 39 "MixElection" "candidates" "I", Cond.classLink RX7 43 RX6, Cond.instantiable RX6 8, Cond.initialized RX6, Cond.fieldLink RX7 48 "MixElection" "trustees" "LMixElection$Trustees;", Cond.classLink RX7 52 RX0, Cond.instantiable RX0 6, Cond.initialized RX0, Cond.fieldLink RX7 55 "MixElection" "board" "LMixElection$Board;", Cond.classLink RX7 59 RX4, Cond.instantiable RX4 2, Cond.initialized RX4, Cond.fieldLink RX7 62 "MixElection" "lastBallots" "LMixElection$Pairs;", Cond.fieldLink RX7 66 "MixElection" "lists" "[LMixElection$Pairs;", Cond.fieldLink RX7 70 "MixElection" "latestShadow" "LMixElection$Pairs;", Cond.classLink RX7 73 RX5, Cond.instantiable RX5 2, Cond.initialized RX5, Cond.fieldLink RX7 76 "MixElection" "staging" "LMixElection$Staging;", Cond.classLink RX7 80 RX2, Cond.instantiable RX2 2, Cond.initialized RX2, Cond.fieldLink RX7 83 "MixElection" "mixMoves" "LMixElection$Moves;"]
def wsL_law_r3 : List Cond := [Cond.fieldLink RX7 87 "MixElection" "shadowMoves" "LMixElection$Moves;", Cond.fieldLink RX7 90 "MixElection" "shownMoves" "LMixElection$Moves;", Cond.arrayClass .int, Cond.fieldLink RX7 93 "MixElection" "counts" "[I", Cond.fieldLink RX7 97 "MixElection" "stage" "I", Cond.methodLink RX7 12 yX3_within, Cond.static yX3_within, Cond.initialized RX3, Cond.code yX3_within cX3_within 3 (some .int), Cond.methodLink RX3 9 Lib.Math.min.name, Cond.methodLink RX3 15 Lib.Math.max.name, Cond.static Lib.Math.max.name, Cond.code Lib.Math.max.name Lib.Math.max.code 2 (some .int), Cond.methodLink RX7 18 yX3_safePrimeFrom, Cond.static yX3_safePrimeFrom, Cond.code yX3_safePrimeFrom cX3_safePrimeFrom 2 (some .int), Cond.constant RX3 18 (999959), Cond.methodLink RX3 19 yX3_isOddPrime, Cond.static yX3_isOddPrime, Cond.code yX3_isOddPrime cX3_isOddPrime 2 (some .boolean), Cond.methodLink RX7 22 yX1_init, Cond.instanceMethod yX1_init, Cond.code yX1_init cX1_init 2 none, Cond.methodLink RX1 3 objectInit]
def wsL_law_r4 : List Cond := [Cond.fieldLink RX1 9 "MixElection$Group" "prime" "I", Cond.fieldLink RX1 15 "MixElection$Group" "half" "I", Cond.methodLink RX7 29 yX1_order, Cond.instanceMethod yX1_order, Cond.selects RX1 yX1_order yX1_order, Cond.code yX1_order cX1_order 1 (some .int), Cond.methodLink RX7 45 yX6_init, Cond.instanceMethod yX6_init, Cond.code yX6_init cX6_init 4 none, Cond.methodLink RX6 3 objectInit, Cond.fieldLink RX6 9 "MixElection$Trustees" "group" "LMixElection$Group;", Cond.methodLink RX6 21 Lib.Math.min.name, Cond.fieldLink RX6 33 "MixElection$Trustees" "size" "I", Cond.fieldLink RX6 37 "MixElection$Trustees" "threshold" "I", Cond.fieldLink RX6 40 "MixElection$Trustees" "coefficients" "[I", Cond.arrayClass .boolean, Cond.fieldLink RX6 44 "MixElection$Trustees" "hasGiven" "[Z", Cond.classLink RX6 48 "[[I", Cond.fieldLink RX6 50 "MixElection$Trustees" "gifts" "[[I", Cond.fieldLink RX6 53 "MixElection$Trustees" "weights" "[I", Cond.methodLink RX6 15 yX1_order, Cond.methodLink RX6 27 yX3_within, Cond.methodLink RX7 54 yX0_init, Cond.instanceMethod yX0_init]
def wsL_law_r5 : List Cond := [Cond.code yX0_init cX0_init 1 none, Cond.methodLink RX0 3 objectInit, Cond.fieldLink RX0 9 "MixElection$Board" "kinds" "[I", Cond.fieldLink RX0 15 "MixElection$Board" "xs" "[I", Cond.fieldLink RX0 18 "MixElection$Board" "ys" "[I", Cond.arrayClass .long, Cond.fieldLink RX0 21 "MixElection$Board" "zs" "[J", Cond.fieldLink RX0 25 "MixElection$Board" "chains" "[J", Cond.methodLink RX7 61 yX4_init, Cond.instanceMethod yX4_init, Cond.code yX4_init cX4_init 1 none, Cond.methodLink RX4 3 objectInit, Cond.fieldLink RX4 9 "MixElection$Pairs" "firsts" "[I", Cond.fieldLink RX4 15 "MixElection$Pairs" "seconds" "[I", Cond.methodLink RX4 18 yX4_clear, Cond.instanceMethod yX4_clear, Cond.selects RX4 yX4_clear yX4_clear, Cond.code yX4_clear cX4_clear 1 none, Cond.methodLink RX4 21 yJ7_fill_53178, Cond.static yJ7_fill_53178, Cond.initialized RJ7, Cond.code yJ7_fill_53178 cJ7_fill_53178 4 none, Cond.methodLink RX7 75 yX5_init, Cond.instanceMethod yX5_init]
def wsL_law_r6 : List Cond := [Cond.code yX5_init cX5_init 1 none, Cond.methodLink RX5 3 objectInit, Cond.classLink RX5 9 RX2, Cond.fieldLink RX5 12 "MixElection$Staging" "moves" "LMixElection$Moves;", Cond.classLink RX5 18 RX4, Cond.fieldLink RX5 21 "MixElection$Staging" "forged" "LMixElection$Pairs;", Cond.methodLink RX5 11 yX2_init, Cond.instanceMethod yX2_init, Cond.code yX2_init cX2_init 1 none, Cond.methodLink RX2 3 objectInit, Cond.fieldLink RX2 9 "MixElection$Moves" "targets" "[I", Cond.fieldLink RX2 15 "MixElection$Moves" "exponents" "[I", Cond.methodLink RX2 18 yX2_clear, Cond.instanceMethod yX2_clear, Cond.selects RX2 yX2_clear yX2_clear, Cond.code yX2_clear cX2_clear 1 none, Cond.methodLink RX2 21 yJ7_fill_53178, Cond.methodLink RX5 20 yX4_init, Cond.methodLink RX7 82 yX2_init, Cond.methodLink RL 20 yX8_init, Cond.instanceMethod yX8_init, Cond.code yX8_init cX8_init 6 none, Cond.methodLink RX8 1 objectInit, Cond.fieldLink RX8 7 "MixElectionModel" "secret" "[I"]
def wsL_law_r7 : List Cond := [Cond.fieldLink RX8 13 "MixElectionModel" "hasCast" "[Z", Cond.fieldLink RX8 17 "MixElectionModel" "castA" "[I", Cond.fieldLink RX8 20 "MixElectionModel" "castB" "[I", Cond.fieldLink RX8 23 "MixElectionModel" "listA" "[I", Cond.fieldLink RX8 26 "MixElectionModel" "listB" "[I", Cond.fieldLink RX8 29 "MixElectionModel" "shadowA" "[I", Cond.fieldLink RX8 32 "MixElectionModel" "shadowB" "[I", Cond.fieldLink RX8 35 "MixElectionModel" "to" "[I", Cond.fieldLink RX8 38 "MixElectionModel" "by" "[I", Cond.fieldLink RX8 41 "MixElectionModel" "forgedA" "[I", Cond.fieldLink RX8 44 "MixElectionModel" "forgedB" "[I", Cond.fieldLink RX8 47 "MixElectionModel" "mixTo" "[I", Cond.fieldLink RX8 50 "MixElectionModel" "mixBy" "[I", Cond.fieldLink RX8 53 "MixElectionModel" "shadowTo" "[I", Cond.fieldLink RX8 56 "MixElectionModel" "shadowBy" "[I", Cond.fieldLink RX8 59 "MixElectionModel" "shownTo" "[I", Cond.fieldLink RX8 62 "MixElectionModel" "shownBy" "[I", Cond.fieldLink RX8 65 "MixElectionModel" "hasGiven" "[Z", Cond.fieldLink RX8 68 "MixElectionModel" "given" "[I", Cond.fieldLink RX8 71 "MixElectionModel" "count" "[I", Cond.fieldLink RX8 74 "MixElectionModel" "entryKind" "[I", Cond.fieldLink RX8 77 "MixElectionModel" "entryX" "[J", Cond.fieldLink RX8 81 "MixElectionModel" "entryY" "[J", Cond.fieldLink RX8 84 "MixElectionModel" "entryZ" "[J"]
def wsL_law_r8 : List Cond := [Cond.fieldLink RX8 87 "MixElectionModel" "chain" "[J", Cond.constant RX8 90 (999959), Cond.fieldLink RX8 99 "MixElectionModel" "p" "I", Cond.fieldLink RX8 103 "MixElectionModel" "q" "I", Cond.fieldLink RX8 106 "MixElectionModel" "candidates" "I", Cond.fieldLink RX8 109 "MixElectionModel" "trustees" "I", Cond.fieldLink RX8 112 "MixElectionModel" "threshold" "I", Cond.methodLink RX8 91 yX8_within, Cond.static yX8_within, Cond.code yX8_within cX8_within 3 (some .int), Cond.methodLink RX8 95 yX8_isPrime, Cond.static yX8_isPrime, Cond.code yX8_isPrime cX8_isPrime 3 (some .boolean), Cond.methodLink RX8 115 yX8_empty, Cond.instanceMethod yX8_empty, Cond.selects RX8 yX8_empty yX8_empty, Cond.code yX8_empty cX8_empty 2 none, Cond.methodLink RL 21 yX7_secret, Cond.instanceMethod yX7_secret, Cond.selects RX7 yX7_secret yX7_secret, Cond.code yX7_secret cX7_secret 3 (some .boolean), Cond.methodLink RX7 100 yX6_setCoefficient, Cond.instanceMethod yX6_setCoefficient, Cond.selects RX6 yX6_setCoefficient yX6_setCoefficient]
def wsL_law_r9 : List Cond := [Cond.code yX6_setCoefficient cX6_setCoefficient 3 (some .boolean), Cond.methodLink RX6 59 yX1_isExponent, Cond.instanceMethod yX1_isExponent, Cond.selects RX1 yX1_isExponent yX1_isExponent, Cond.code yX1_isExponent cX1_isExponent 2 (some .boolean), Cond.methodLink RL 25 yX8_secret, Cond.instanceMethod yX8_secret, Cond.selects RX8 yX8_secret yX8_secret, Cond.code yX8_secret cX8_secret 3 (some .boolean), Cond.fieldLink RX8 140 "MixElectionModel" "stage" "I", Cond.methodLink RX8 122 yX8_in, Cond.static yX8_in, Cond.code yX8_in cX8_in 3 (some .boolean), Cond.methodLink RX8 143 yX8_isExponent, Cond.instanceMethod yX8_isExponent, Cond.selects RX8 yX8_isExponent yX8_isExponent, Cond.code yX8_isExponent cX8_isExponent 2 (some .boolean), Cond.methodLink RL 26 yX7_key, Cond.instanceMethod yX7_key, Cond.selects RX7 yX7_key yX7_key, Cond.code yX7_key cX7_key 1 (some .int), Cond.methodLink RX7 104 yX6_secretKey, Cond.instanceMethod yX6_secretKey, Cond.selects RX6 yX6_secretKey yX6_secretKey]
def wsL_law_r10 : List Cond := [Cond.code yX6_secretKey cX6_secretKey 1 (some .int), Cond.methodLink RX7 107 yX1_tellKey, Cond.instanceMethod yX1_tellKey, Cond.selects RX1 yX1_tellKey yX1_tellKey, Cond.code yX1_tellKey cX1_tellKey 2 none, Cond.fieldLink RX1 18 "MixElection$Group" "told" "I", Cond.methodLink RX1 21 yX1_raised, Cond.instanceMethod yX1_raised, Cond.selects RX1 yX1_raised yX1_raised, Cond.code yX1_raised cX1_raised 3 (some .int), Cond.methodLink RX1 29 yX3_power, Cond.static yX3_power, Cond.code yX3_power cX3_power 6 (some .int), Cond.methodLink RX3 25 yX3_times, Cond.static yX3_times, Cond.code yX3_times cX3_times 3 (some .int), Cond.methodLink RX7 110 yX1_publicKey, Cond.instanceMethod yX1_publicKey, Cond.selects RX1 yX1_publicKey yX1_publicKey, Cond.code yX1_publicKey cX1_publicKey 1 (some .int), Cond.methodLink RX7 113 yX6_size, Cond.instanceMethod yX6_size, Cond.selects RX6 yX6_size yX6_size, Cond.code yX6_size cX6_size 1 (some .int)]
def wsL_law_r11 : List Cond := [Cond.methodLink RX7 116 yX6_needed, Cond.instanceMethod yX6_needed, Cond.selects RX6 yX6_needed yX6_needed, Cond.code yX6_needed cX6_needed 1 (some .int), Cond.methodLink RX7 119 yX0_add, Cond.instanceMethod yX0_add, Cond.selects RX0 yX0_add yX0_add, Cond.code yX0_add cX0_add 8 (some .long), Cond.fieldLink RX0 28 "MixElection$Board" "size" "I", Cond.methodLink RX0 32 yX0_chainOf, Cond.instanceMethod yX0_chainOf, Cond.selects RX0 yX0_chainOf yX0_chainOf, Cond.code yX0_chainOf cX0_chainOf 2 (some .long), Cond.constantLong RX0 46 (-3750763034362895579), Cond.methodLink RX0 42 yX0_has, Cond.instanceMethod yX0_has, Cond.selects RX0 yX0_has yX0_has, Cond.code yX0_has cX0_has 2 (some .boolean), Cond.methodLink RX0 36 yX3_digested, Cond.static yX3_digested, Cond.code yX3_digested cX3_digested 4 (some .long), Cond.constantLong RX3 32 (1099511628211), Cond.methodLink RL 30 yX8_key, Cond.instanceMethod yX8_key]
def wsL_law_r12 : List Cond := [Cond.selects RX8 yX8_key yX8_key, Cond.code yX8_key cX8_key 3 (some .int), Cond.fieldLink RX8 146 "MixElectionModel" "h" "I", Cond.methodLink RX8 126 yX8_power, Cond.instanceMethod yX8_power, Cond.selects RX8 yX8_power yX8_power, Cond.code yX8_power cX8_power 6 (some .int), Cond.methodLink RX8 118 yX8_times, Cond.instanceMethod yX8_times, Cond.selects RX8 yX8_times yX8_times, Cond.code yX8_times cX8_times 3 (some .int), Cond.methodLink RX8 149 yX8_enter, Cond.instanceMethod yX8_enter, Cond.selects RX8 yX8_enter yX8_enter, Cond.code yX8_enter cX8_enter 10 (some .long), Cond.fieldLink RX8 135 "MixElectionModel" "entries" "I", Cond.constantLong RX8 138 (-3750763034362895579), Cond.methodLink RX8 131 yX8_on, Cond.static yX8_on, Cond.code yX8_on cX8_on 4 (some .long), Cond.constantLong RX8 129 (1099511628211), Cond.methodLink RL 31 yX7_voter, Cond.instanceMethod yX7_voter, Cond.selects RX7 yX7_voter yX7_voter]
def wsL_law_r13 : List Cond := [Cond.code yX7_voter cX7_voter 1 (some .int), Cond.fieldLink RX7 123 "MixElection" "voters" "I", Cond.methodLink RL 34 yX8_voter, Cond.instanceMethod yX8_voter, Cond.selects RX8 yX8_voter yX8_voter, Cond.code yX8_voter cX8_voter 1 (some .int), Cond.fieldLink RX8 153 "MixElectionModel" "voters" "I", Cond.methodLink RL 35 yX7_cast, Cond.instanceMethod yX7_cast, Cond.selects RX7 yX7_cast yX7_cast, Cond.code yX7_cast cX7_cast 4 (some .long), Cond.methodLink RX7 126 yX7_mayCast, Cond.instanceMethod yX7_mayCast, Cond.selects RX7 yX7_mayCast yX7_mayCast, Cond.code yX7_mayCast cX7_mayCast 2 (some .boolean), Cond.methodLink RX7 238 yX0_size, Cond.instanceMethod yX0_size, Cond.selects RX0 yX0_size yX0_size, Cond.code yX0_size cX0_size 1 (some .int), Cond.methodLink RX7 130 yX7_isCandidate, Cond.instanceMethod yX7_isCandidate, Cond.selects RX7 yX7_isCandidate yX7_isCandidate, Cond.code yX7_isCandidate cX7_isCandidate 2 (some .boolean), Cond.methodLink RX7 133 yX1_isExponent]
def wsL_law_r14 : List Cond := [Cond.methodLink RX7 136 yX1_renewedFirst, Cond.instanceMethod yX1_renewedFirst, Cond.selects RX1 yX1_renewedFirst yX1_renewedFirst, Cond.code yX1_renewedFirst cX1_renewedFirst 3 (some .int), Cond.methodLink RX1 41 yX1_multiplied, Cond.instanceMethod yX1_multiplied, Cond.selects RX1 yX1_multiplied yX1_multiplied, Cond.code yX1_multiplied cX1_multiplied 3 (some .int), Cond.methodLink RX1 35 yX3_times, Cond.methodLink RX7 139 yX1_markOf, Cond.instanceMethod yX1_markOf, Cond.selects RX1 yX1_markOf yX1_markOf, Cond.code yX1_markOf cX1_markOf 2 (some .int), Cond.methodLink RX7 142 yX1_renewedSecond, Cond.instanceMethod yX1_renewedSecond, Cond.selects RX1 yX1_renewedSecond yX1_renewedSecond, Cond.code yX1_renewedSecond cX1_renewedSecond 3 (some .int), Cond.methodLink RX7 145 yX7_post, Cond.instanceMethod yX7_post, Cond.selects RX7 yX7_post yX7_post, Cond.code yX7_post cX7_post 4 (some .long), Cond.methodLink RX7 260 yX4_put, Cond.instanceMethod yX4_put, Cond.selects RX4 yX4_put yX4_put]
def wsL_law_r15 : List Cond := [Cond.code yX4_put cX4_put 4 none, Cond.methodLink RL 39 yX8_cast, Cond.instanceMethod yX8_cast, Cond.selects RX8 yX8_cast yX8_cast, Cond.code yX8_cast cX8_cast 4 (some .long), Cond.methodLink RX8 156 yX8_mayCast, Cond.instanceMethod yX8_mayCast, Cond.selects RX8 yX8_mayCast yX8_mayCast, Cond.code yX8_mayCast cX8_mayCast 2 (some .boolean), Cond.methodLink RX8 159 yX8_mark, Cond.instanceMethod yX8_mark, Cond.selects RX8 yX8_mark yX8_mark, Cond.code yX8_mark cX8_mark 2 (some .int), Cond.methodLink RX8 163 yX8_casts, Cond.instanceMethod yX8_casts, Cond.selects RX8 yX8_casts yX8_casts, Cond.code yX8_casts cX8_casts 4 (some .long), Cond.methodLink RL 40 yX7_castPair, Cond.instanceMethod yX7_castPair, Cond.selects RX7 yX7_castPair yX7_castPair, Cond.code yX7_castPair cX7_castPair 4 (some .long), Cond.methodLink RX7 149 yX1_holdsPair, Cond.instanceMethod yX1_holdsPair, Cond.selects RX1 yX1_holdsPair yX1_holdsPair]
def wsL_law_r16 : List Cond := [Cond.code yX1_holdsPair cX1_holdsPair 3 (some .boolean), Cond.methodLink RX1 25 yX1_holds, Cond.instanceMethod yX1_holds, Cond.selects RX1 yX1_holds yX1_holds, Cond.code yX1_holds cX1_holds 2 (some .boolean), Cond.methodLink RL 43 yX8_castPair, Cond.instanceMethod yX8_castPair, Cond.selects RX8 yX8_castPair yX8_castPair, Cond.code yX8_castPair cX8_castPair 4 (some .long), Cond.methodLink RX8 167 yX8_isOfGroup, Cond.instanceMethod yX8_isOfGroup, Cond.selects RX8 yX8_isOfGroup yX8_isOfGroup, Cond.code yX8_isOfGroup cX8_isOfGroup 2 (some .boolean), Cond.methodLink RL 44 yX7_close, Cond.instanceMethod yX7_close, Cond.selects RX7 yX7_close yX7_close, Cond.code yX7_close cX7_close 1 (some .int), Cond.fieldLink RX7 158 "MixElection" "ballots" "I", Cond.methodLink RX7 152 yX7_gatherBallots, Cond.instanceMethod yX7_gatherBallots, Cond.selects RX7 yX7_gatherBallots yX7_gatherBallots, Cond.code yX7_gatherBallots cX7_gatherBallots 2 none, Cond.methodLink RX7 263 yX4_first, Cond.instanceMethod yX4_first]
def wsL_law_r17 : List Cond := [Cond.selects RX4 yX4_first yX4_first, Cond.code yX4_first cX4_first 2 (some .int), Cond.methodLink RX7 266 yX4_second, Cond.instanceMethod yX4_second, Cond.selects RX4 yX4_second yX4_second, Cond.code yX4_second cX4_second 2 (some .int), Cond.methodLink RX7 155 yX5_clear, Cond.instanceMethod yX5_clear, Cond.selects RX5 yX5_clear yX5_clear, Cond.code yX5_clear cX5_clear 1 none, Cond.methodLink RX5 25 yX2_clear, Cond.methodLink RX5 28 yX4_clear, Cond.methodLink RX7 161 yX4_digest, Cond.instanceMethod yX4_digest, Cond.selects RX4 yX4_digest yX4_digest, Cond.code yX4_digest cX4_digest 5 (some .long), Cond.methodLink RX4 27 yX4_first, Cond.methodLink RX4 34 yX3_digested, Cond.methodLink RX4 31 yX4_second, Cond.methodLink RL 47 yX8_close, Cond.instanceMethod yX8_close, Cond.selects RX8 yX8_close yX8_close, Cond.code yX8_close cX8_close 3 (some .int), Cond.fieldLink RX8 170 "MixElectionModel" "many" "I"]
def wsL_law_r18 : List Cond := [Cond.methodLink RX8 173 yX8_digest, Cond.static yX8_digest, Cond.code yX8_digest cX8_digest 7 (some .long), Cond.methodLink RL 48 yX7_place, Cond.instanceMethod yX7_place, Cond.selects RX7 yX7_place yX7_place, Cond.code yX7_place cX7_place 4 (some .boolean), Cond.methodLink RX7 165 yX7_isBallot, Cond.instanceMethod yX7_isBallot, Cond.selects RX7 yX7_isBallot yX7_isBallot, Cond.code yX7_isBallot cX7_isBallot 2 (some .boolean), Cond.methodLink RX7 168 yX5_move, Cond.instanceMethod yX5_move, Cond.selects RX5 yX5_move yX5_move, Cond.code yX5_move cX5_move 4 none, Cond.methodLink RX5 29 yX2_set, Cond.instanceMethod yX2_set, Cond.selects RX2 yX2_set yX2_set, Cond.code yX2_set cX2_set 4 none, Cond.methodLink RL 52 yX8_place, Cond.instanceMethod yX8_place, Cond.selects RX8 yX8_place yX8_place, Cond.code yX8_place cX8_place 4 (some .boolean), Cond.methodLink RL 53 yX7_forge]
def wsL_law_r19 : List Cond := [Cond.instanceMethod yX7_forge, Cond.selects RX7 yX7_forge yX7_forge, Cond.code yX7_forge cX7_forge 4 (some .boolean), Cond.methodLink RX7 172 yX5_putForged, Cond.instanceMethod yX5_putForged, Cond.selects RX5 yX5_putForged yX5_putForged, Cond.code yX5_putForged cX5_putForged 4 none, Cond.methodLink RX5 33 yX4_put, Cond.methodLink RL 56 yX8_forge, Cond.instanceMethod yX8_forge, Cond.selects RX8 yX8_forge yX8_forge, Cond.code yX8_forge cX8_forge 4 (some .boolean), Cond.methodLink RL 57 yX7_mix, Cond.instanceMethod yX7_mix, Cond.selects RX7 yX7_mix yX7_mix, Cond.code yX7_mix cX7_mix 1 (some .int), Cond.fieldLink RX7 179 "MixElection" "mixes" "I", Cond.fieldLink RX7 190 "MixElection" "rounds" "I", Cond.methodLink RX7 175 yX7_mayShuffle, Cond.instanceMethod yX7_mayShuffle, Cond.selects RX7 yX7_mayShuffle yX7_mayShuffle, Cond.code yX7_mayShuffle cX7_mayShuffle 1 (some .boolean), Cond.fieldLink RX7 196 "MixElection" "coinIsDue" "Z", Cond.methodLink RX7 219 yX6_givers]
def wsL_law_r20 : List Cond := [Cond.instanceMethod yX6_givers, Cond.selects RX6 yX6_givers yX6_givers, Cond.code yX6_givers cX6_givers 1 (some .int), Cond.fieldLink RX6 56 "MixElection$Trustees" "givers" "I", Cond.methodLink RX7 269 yX5_isWhole, Cond.instanceMethod yX5_isWhole, Cond.selects RX5 yX5_isWhole yX5_isWhole, Cond.code yX5_isWhole cX5_isWhole 2 (some .boolean), Cond.methodLink RX5 36 yX2_isWhole, Cond.instanceMethod yX2_isWhole, Cond.selects RX2 yX2_isWhole yX2_isWhole, Cond.code yX2_isWhole cX2_isWhole 7 (some .boolean), Cond.methodLink RX2 27 yX2_target, Cond.instanceMethod yX2_target, Cond.selects RX2 yX2_target yX2_target, Cond.code yX2_target cX2_target 2 (some .int), Cond.methodLink RX7 182 yX7_listOf, Cond.instanceMethod yX7_listOf, Cond.selects RX7 yX7_listOf yX7_listOf, Cond.code yX7_listOf cX7_listOf 2 (some (.object "MixElection$Pairs")), Cond.methodLink RX7 186 yX7_giveOut, Cond.instanceMethod yX7_giveOut, Cond.selects RX7 yX7_giveOut yX7_giveOut, Cond.code yX7_giveOut cX7_giveOut 4 none]
def wsL_law_r21 : List Cond := [Cond.methodLink RX7 272 yX5_shuffle, Cond.instanceMethod yX5_shuffle, Cond.selects RX5 yX5_shuffle yX5_shuffle, Cond.code yX5_shuffle cX5_shuffle 8 none, Cond.methodLink RX5 44 yX2_exponent, Cond.instanceMethod yX2_exponent, Cond.selects RX2 yX2_exponent yX2_exponent, Cond.code yX2_exponent cX2_exponent 2 (some .int), Cond.methodLink RX5 48 yX2_target, Cond.methodLink RX5 51 yX4_first, Cond.methodLink RX5 54 yX4_second, Cond.methodLink RX5 57 yX1_renewedFirst, Cond.methodLink RX5 63 yX1_renewedSecond, Cond.methodLink RX7 276 yX5_copyMovesTo, Cond.instanceMethod yX5_copyMovesTo, Cond.selects RX5 yX5_copyMovesTo yX5_copyMovesTo, Cond.code yX5_copyMovesTo cX5_copyMovesTo 2 none, Cond.methodLink RX5 40 yX2_copyFrom, Cond.instanceMethod yX2_copyFrom, Cond.selects RX2 yX2_copyFrom yX2_copyFrom, Cond.code yX2_copyFrom cX2_copyFrom 3 none, Cond.methodLink RX2 31 yX2_exponent, Cond.methodLink RX2 34 yX2_set, Cond.methodLink RX7 280 yX2_clear]
def wsL_law_r22 : List Cond := [Cond.methodLink RL 60 yX8_mix, Cond.instanceMethod yX8_mix, Cond.selects RX8 yX8_mix yX8_mix, Cond.code yX8_mix cX8_mix 4 (some .int), Cond.fieldLink RX8 191 "MixElectionModel" "mixes" "I", Cond.fieldLink RX8 200 "MixElectionModel" "unproved" "I", Cond.fieldLink RX8 203 "MixElectionModel" "rounds" "I", Cond.fieldLink RX8 206 "MixElectionModel" "hasShadow" "Z", Cond.fieldLink RX8 209 "MixElectionModel" "hasShown" "Z", Cond.methodLink RX8 188 yX8_mayStage, Cond.instanceMethod yX8_mayStage, Cond.selects RX8 yX8_mayStage yX8_mayStage, Cond.code yX8_mayStage cX8_mayStage 1 (some .boolean), Cond.fieldLink RX8 181 "MixElectionModel" "isDue" "Z", Cond.fieldLink RX8 185 "MixElectionModel" "shares" "I", Cond.methodLink RX8 177 yX8_isWhole, Cond.instanceMethod yX8_isWhole, Cond.selects RX8 yX8_isWhole yX8_isWhole, Cond.code yX8_isWhole cX8_isWhole 3 (some .boolean), Cond.methodLink RX8 194 yX8_anewA, Cond.instanceMethod yX8_anewA, Cond.selects RX8 yX8_anewA yX8_anewA, Cond.code yX8_anewA cX8_anewA 4 (some .int), Cond.methodLink RX8 197 yX8_anewB]
def wsL_law_r23 : List Cond := [Cond.instanceMethod yX8_anewB, Cond.selects RX8 yX8_anewB yX8_anewB, Cond.code yX8_anewB cX8_anewB 4 (some .int), Cond.methodLink RL 61 yX7_shadow, Cond.instanceMethod yX7_shadow, Cond.selects RX7 yX7_shadow yX7_shadow, Cond.code yX7_shadow cX7_shadow 1 (some .int), Cond.fieldLink RX7 193 "MixElection" "mixesWithRounds" "I", Cond.methodLink RL 64 yX8_shadow, Cond.instanceMethod yX8_shadow, Cond.selects RX8 yX8_shadow yX8_shadow, Cond.code yX8_shadow cX8_shadow 4 (some .int), Cond.methodLink RL 65 yX7_coin, Cond.instanceMethod yX7_coin, Cond.selects RX7 yX7_coin yX7_coin, Cond.code yX7_coin cX7_coin 3 (some .int), Cond.fieldLink RX7 206 "MixElection" "rejectedRounds" "I", Cond.methodLink RX7 200 yX7_showShadow, Cond.instanceMethod yX7_showShadow, Cond.selects RX7 yX7_showShadow yX7_showShadow, Cond.code yX7_showShadow cX7_showShadow 1 (some .boolean), Cond.methodLink RX7 281 yX2_copyFrom, Cond.methodLink RX7 284 yX2_lead, Cond.instanceMethod yX2_lead]
def wsL_law_r24 : List Cond := [Cond.selects RX2 yX2_lead yX2_lead, Cond.code yX2_lead cX2_lead 8 (some .boolean), Cond.methodLink RX2 38 yX4_first, Cond.methodLink RX2 43 yX1_renewedFirst, Cond.methodLink RX2 49 yX4_second, Cond.methodLink RX2 52 yX1_renewedSecond, Cond.methodLink RX7 203 yX7_showMix, Cond.instanceMethod yX7_showMix, Cond.selects RX7 yX7_showMix yX7_showMix, Cond.code yX7_showMix cX7_showMix 3 (some .boolean), Cond.methodLink RX7 248 yX2_exponent, Cond.methodLink RX7 288 yX3_minus, Cond.static yX3_minus, Cond.code yX3_minus cX3_minus 3 (some .int), Cond.methodLink RX7 245 yX2_target, Cond.methodLink RX7 291 yX2_set, Cond.methodLink RL 69 yX8_coin, Cond.instanceMethod yX8_coin, Cond.selects RX8 yX8_coin yX8_coin, Cond.code yX8_coin cX8_coin 7 (some .int), Cond.fieldLink RX8 212 "MixElectionModel" "rejected" "I", Cond.methodLink RL 70 yX7_share, Cond.instanceMethod yX7_share, Cond.selects RX7 yX7_share yX7_share]
def wsL_law_r25 : List Cond := [Cond.code yX7_share cX7_share 2 (some .int), Cond.methodLink RX7 209 yX6_mayGive, Cond.instanceMethod yX6_mayGive, Cond.selects RX6 yX6_mayGive yX6_mayGive, Cond.code yX6_mayGive cX6_mayGive 2 (some .boolean), Cond.methodLink RX6 63 yX6_isTrustee, Cond.instanceMethod yX6_isTrustee, Cond.selects RX6 yX6_isTrustee yX6_isTrustee, Cond.code yX6_isTrustee cX6_isTrustee 2 (some .boolean), Cond.methodLink RX7 212 yX6_give, Cond.instanceMethod yX6_give, Cond.selects RX6 yX6_give yX6_give, Cond.code yX6_give cX6_give 6 none, Cond.methodLink RX6 66 yX6_mayGive, Cond.methodLink RX6 69 yX6_shareOf, Cond.instanceMethod yX6_shareOf, Cond.selects RX6 yX6_shareOf yX6_shareOf, Cond.code yX6_shareOf cX6_shareOf 4 (some .int), Cond.methodLink RX6 81 yX3_times, Cond.methodLink RX6 84 yX3_plus, Cond.static yX3_plus, Cond.code yX3_plus cX3_plus 3 (some .int), Cond.methodLink RX6 73 yX4_first, Cond.methodLink RX6 78 yX1_raised]
def wsL_law_r26 : List Cond := [Cond.methodLink RX7 216 yX6_digest, Cond.instanceMethod yX6_digest, Cond.selects RX6 yX6_digest yX6_digest, Cond.code yX6_digest cX6_digest 6 (some .long), Cond.methodLink RX6 90 yX6_gift, Cond.instanceMethod yX6_gift, Cond.selects RX6 yX6_gift yX6_gift, Cond.code yX6_gift cX6_gift 3 (some .int), Cond.methodLink RX6 87 yX6_gave, Cond.instanceMethod yX6_gave, Cond.selects RX6 yX6_gave yX6_gave, Cond.code yX6_gave cX6_gave 2 (some .boolean), Cond.methodLink RX6 93 yX3_digested, Cond.methodLink RL 73 yX8_share, Cond.instanceMethod yX8_share, Cond.selects RX8 yX8_share yX8_share, Cond.code yX8_share cX8_share 7 (some .int), Cond.methodLink RX8 215 yX8_shareOf, Cond.instanceMethod yX8_shareOf, Cond.selects RX8 yX8_shareOf yX8_shareOf, Cond.code yX8_shareOf cX8_shareOf 5 (some .int), Cond.methodLink RL 74 yX7_tally, Cond.instanceMethod yX7_tally, Cond.selects RX7 yX7_tally yX7_tally]
def wsL_law_r27 : List Cond := [Cond.code yX7_tally cX7_tally 2 (some .int), Cond.methodLink RX7 222 yX6_areEnough, Cond.instanceMethod yX6_areEnough, Cond.selects RX6 yX6_areEnough yX6_areEnough, Cond.code yX6_areEnough cX6_areEnough 1 (some .boolean), Cond.methodLink RX7 225 yX7_countBallots, Cond.instanceMethod yX7_countBallots, Cond.selects RX7 yX7_countBallots yX7_countBallots, Cond.code yX7_countBallots cX7_countBallots 3 none, Cond.methodLink RX7 294 yX6_weighFirstGivers, Cond.instanceMethod yX6_weighFirstGivers, Cond.selects RX6 yX6_weighFirstGivers yX6_weighFirstGivers, Cond.code yX6_weighFirstGivers cX6_weighFirstGivers 3 none, Cond.methodLink RX6 97 yX6_lastNeededGiver, Cond.instanceMethod yX6_lastNeededGiver, Cond.selects RX6 yX6_lastNeededGiver yX6_lastNeededGiver, Cond.code yX6_lastNeededGiver cX6_lastNeededGiver 3 (some .int), Cond.methodLink RX6 100 yX6_weightOf, Cond.instanceMethod yX6_weightOf, Cond.selects RX6 yX6_weightOf yX6_weightOf, Cond.code yX6_weightOf cX6_weightOf 7 (some .int), Cond.methodLink RX6 103 yX3_minus, Cond.methodLink RX6 106 yX3_inverse, Cond.static yX3_inverse]
def wsL_law_r28 : List Cond := [Cond.code yX3_inverse cX3_inverse 2 (some .int), Cond.methodLink RX3 29 yX3_power, Cond.methodLink RX7 297 yX6_joinedGift, Cond.instanceMethod yX6_joinedGift, Cond.selects RX6 yX6_joinedGift yX6_joinedGift, Cond.code yX6_joinedGift cX6_joinedGift 4 (some .int), Cond.methodLink RX6 109 yX1_multiplied, Cond.methodLink RX7 300 yX1_divided, Cond.instanceMethod yX1_divided, Cond.selects RX1 yX1_divided yX1_divided, Cond.code yX1_divided cX1_divided 3 (some .int), Cond.methodLink RX1 38 yX3_inverse, Cond.methodLink RX7 303 yX7_candidateOf, Cond.instanceMethod yX7_candidateOf, Cond.selects RX7 yX7_candidateOf yX7_candidateOf, Cond.code yX7_candidateOf cX7_candidateOf 3 (some .int), Cond.methodLink RX7 228 yX7_count, Cond.instanceMethod yX7_count, Cond.selects RX7 yX7_count yX7_count, Cond.code yX7_count cX7_count 2 (some .int), Cond.methodLink RX7 231 yX7_digestOfCounts, Cond.instanceMethod yX7_digestOfCounts, Cond.selects RX7 yX7_digestOfCounts yX7_digestOfCounts, Cond.code yX7_digestOfCounts cX7_digestOfCounts 4 (some .long)]
def wsL_law_r29 : List Cond := [Cond.methodLink RX7 306 yX3_digested, Cond.methodLink RL 77 yX8_tally, Cond.instanceMethod yX8_tally, Cond.selects RX8 yX8_tally yX8_tally, Cond.code yX8_tally cX8_tally 8 (some .int), Cond.methodLink RX8 218 yX8_weight, Cond.instanceMethod yX8_weight, Cond.selects RX8 yX8_weight yX8_weight, Cond.code yX8_weight cX8_weight 12 (some .int), Cond.methodLink RL 78 yX7_count, Cond.methodLink RL 81 yX8_count, Cond.instanceMethod yX8_count, Cond.selects RX8 yX8_count yX8_count, Cond.code yX8_count cX8_count 2 (some .int), Cond.methodLink RL 82 yX7_about, Cond.instanceMethod yX7_about, Cond.selects RX7 yX7_about yX7_about, Cond.code yX7_about cX7_about 2 (some .int), Cond.methodLink RX7 235 yX1_modulus, Cond.instanceMethod yX1_modulus, Cond.selects RX1 yX1_modulus yX1_modulus, Cond.code yX1_modulus cX1_modulus 1 (some .int), Cond.methodLink RX7 239 yX7_aboutStaging, Cond.instanceMethod yX7_aboutStaging]
def wsL_law_r30 : List Cond := [Cond.selects RX7 yX7_aboutStaging yX7_aboutStaging, Cond.code yX7_aboutStaging cX7_aboutStaging 1 (some .int), Cond.methodLink RL 85 yX8_about, Cond.instanceMethod yX8_about, Cond.selects RX8 yX8_about yX8_about, Cond.code yX8_about cX8_about 2 (some .int), Cond.methodLink RL 86 yX7_list, Cond.instanceMethod yX7_list, Cond.selects RX7 yX7_list yX7_list, Cond.code yX7_list cX7_list 4 (some .int), Cond.methodLink RX7 242 yX4_part, Cond.instanceMethod yX4_part, Cond.selects RX4 yX4_part yX4_part, Cond.code yX4_part cX4_part 3 (some .int), Cond.methodLink RL 90 yX8_list, Cond.instanceMethod yX8_list, Cond.selects RX8 yX8_list yX8_list, Cond.code yX8_list cX8_list 4 (some .int), Cond.methodLink RL 91 yX7_shadowOf, Cond.instanceMethod yX7_shadowOf, Cond.selects RX7 yX7_shadowOf yX7_shadowOf, Cond.code yX7_shadowOf cX7_shadowOf 3 (some .int), Cond.methodLink RL 95 yX8_shadowOf, Cond.instanceMethod yX8_shadowOf]
def wsL_law_r31 : List Cond := [Cond.selects RX8 yX8_shadowOf yX8_shadowOf, Cond.code yX8_shadowOf cX8_shadowOf 3 (some .int), Cond.methodLink RL 96 yX7_shown, Cond.instanceMethod yX7_shown, Cond.selects RX7 yX7_shown yX7_shown, Cond.code yX7_shown cX7_shown 3 (some .int), Cond.methodLink RL 99 yX8_shown, Cond.instanceMethod yX8_shown, Cond.selects RX8 yX8_shown yX8_shown, Cond.code yX8_shown cX8_shown 3 (some .int), Cond.methodLink RL 100 yX7_given, Cond.instanceMethod yX7_given, Cond.selects RX7 yX7_given yX7_given, Cond.code yX7_given cX7_given 3 (some .int), Cond.methodLink RX7 251 yX6_gift, Cond.methodLink RL 103 yX8_given, Cond.instanceMethod yX8_given, Cond.selects RX8 yX8_given yX8_given, Cond.code yX8_given cX8_given 3 (some .int), Cond.methodLink RL 104 yX7_entry, Cond.instanceMethod yX7_entry, Cond.selects RX7 yX7_entry yX7_entry, Cond.code yX7_entry cX7_entry 3 (some .long), Cond.methodLink RX7 254 yX0_field]
def wsL_law_r32 : List Cond := [Cond.instanceMethod yX0_field, Cond.selects RX0 yX0_field yX0_field, Cond.code yX0_field cX0_field 3 (some .long), Cond.methodLink RL 108 yX8_entry, Cond.instanceMethod yX8_entry, Cond.selects RX8 yX8_entry yX8_entry, Cond.code yX8_entry cX8_entry 3 (some .long), Cond.methodLink RL 109 yX7_chain, Cond.instanceMethod yX7_chain, Cond.selects RX7 yX7_chain yX7_chain, Cond.code yX7_chain cX7_chain 2 (some .long), Cond.methodLink RX7 257 yX0_chainOf, Cond.methodLink RL 113 yX8_chain, Cond.instanceMethod yX8_chain, Cond.selects RX8 yX8_chain yX8_chain, Cond.code yX8_chain cX8_chain 2 (some .long)]
def wsL_law : List Cond := (wsL_law_r1 ++ (wsL_law_r2 ++ (wsL_law_r3 ++ (wsL_law_r4 ++ (wsL_law_r5 ++ (wsL_law_r6 ++ (wsL_law_r7 ++ (wsL_law_r8 ++ (wsL_law_r9 ++ (wsL_law_r10 ++ (wsL_law_r11 ++ (wsL_law_r12 ++ (wsL_law_r13 ++ (wsL_law_r14 ++ (wsL_law_r15 ++ (wsL_law_r16 ++ (wsL_law_r17 ++ (wsL_law_r18 ++ (wsL_law_r19 ++ (wsL_law_r20 ++ (wsL_law_r21 ++ (wsL_law_r22 ++ (wsL_law_r23 ++ (wsL_law_r24 ++ (wsL_law_r25 ++ (wsL_law_r26 ++ (wsL_law_r27 ++ (wsL_law_r28 ++ (wsL_law_r29 ++ (wsL_law_r30 ++ (wsL_law_r31 ++ wsL_law_r32))))))))))))))))))))))))))))))) ++ wsX70 ++ wsX80 ++ wsX10 ++ wsX60 ++ wsX00 ++ wsX40 ++ wsX50 ++ wsX20 ++ ([] : List Cond)
abbrev vwCl : List vw_C := [(RX0, TX0, 6), (RX1, TX1, 3), (RX2, TX2, 2), (RX4, TX4, 2), (RX5, TX5, 2), (RX6, TX6, 8), (RX7, TX7, 20), (RX8, TX8, 44)]
end
section
theorem dX3_within_0 : decode cX3_within 0 = .ok (.iload_n 1, 1) := by decide +kernel
theorem dX3_within_1 : decode cX3_within 1 = .ok (.iload_n 2, 1) := by decide +kernel
theorem dX3_within_2 : decode cX3_within 2 = .ok (.iload_n 0, 1) := by decide +kernel
theorem dX3_within_3 : decode cX3_within 3 = .ok (.invokestatic 9, 3) := by decide +kernel
theorem dX3_within_6 : decode cX3_within 6 = .ok (.invokestatic 15, 3) := by decide +kernel
theorem dX3_within_9 : decode cX3_within 9 = .ok (.ireturn, 1) := by decide +kernel
set_option maxRecDepth 20000 in
theorem ggX3_safePrimeFrom_X3_isOddPrime : GoodIn wsX3_safePrimeFrom wsX3_isOddPrime := goodIn_r _ [5] (by decide +kernel) (by decide +kernel)
set_option maxRecDepth 20000 in
theorem gX3_safePrimeFrom_X3_isOddPrime : GoodIn wsX3_safePrimeFrom (va_wsS RX3 19 yX3_isOddPrime wsX3_isOddPrime) := goodIn_app (goodIn_of _ (by decide +kernel)) ggX3_safePrimeFrom_X3_isOddPrime
theorem dX3_safePrimeFrom_0 : decode cX3_safePrimeFrom 0 = .ok (.iload_n 0, 1) := by decide +kernel
theorem dX3_safePrimeFrom_1 : decode cX3_safePrimeFrom 1 = .ok (.bipush 11, 2) := by decide +kernel
theorem dX3_safePrimeFrom_3 : decode cX3_safePrimeFrom 3 = .ok (.iadd, 1) := by decide +kernel
theorem dX3_safePrimeFrom_4 : decode cX3_safePrimeFrom 4 = .ok (.iload_n 0, 1) := by decide +kernel
theorem dX3_safePrimeFrom_5 : decode cX3_safePrimeFrom 5 = .ok (.bipush 12, 2) := by decide +kernel
theorem dX3_safePrimeFrom_7 : decode cX3_safePrimeFrom 7 = .ok (.irem, 1) := by decide +kernel
theorem dX3_safePrimeFrom_8 : decode cX3_safePrimeFrom 8 = .ok (.isub, 1) := by decide +kernel
theorem dX3_safePrimeFrom_9 : decode cX3_safePrimeFrom 9 = .ok (.istore_n 1, 1) := by decide +kernel
theorem dX3_safePrimeFrom_10 : decode cX3_safePrimeFrom 10 = .ok (.iload_n 1, 1) := by decide +kernel
theorem dX3_safePrimeFrom_11 : decode cX3_safePrimeFrom 11 = .ok (.ldc 18, 2) := by decide +kernel
theorem dX3_safePrimeFrom_13 : decode cX3_safePrimeFrom 13 = .ok (.if_icmp .ge 27, 3) := by decide +kernel
theorem dX3_safePrimeFrom_16 : decode cX3_safePrimeFrom 16 = .ok (.iload_n 1, 1) := by decide +kernel
theorem dX3_safePrimeFrom_17 : decode cX3_safePrimeFrom 17 = .ok (.iconst 2, 1) := by decide +kernel
theorem dX3_safePrimeFrom_18 : decode cX3_safePrimeFrom 18 = .ok (.idiv, 1) := by decide +kernel
theorem dX3_safePrimeFrom_19 : decode cX3_safePrimeFrom 19 = .ok (.invokestatic 19, 3) := by decide +kernel
theorem dX3_safePrimeFrom_22 : decode cX3_safePrimeFrom 22 = .ok (.ifCond .eq 12, 3) := by decide +kernel
theorem dX3_safePrimeFrom_25 : decode cX3_safePrimeFrom 25 = .ok (.iload_n 1, 1) := by decide +kernel
theorem dX3_safePrimeFrom_26 : decode cX3_safePrimeFrom 26 = .ok (.invokestatic 19, 3) := by decide +kernel
theorem dX3_safePrimeFrom_29 : decode cX3_safePrimeFrom 29 = .ok (.ifCond .eq 5, 3) := by decide +kernel
theorem dX3_safePrimeFrom_32 : decode cX3_safePrimeFrom 32 = .ok (.iload_n 1, 1) := by decide +kernel
theorem dX3_safePrimeFrom_33 : decode cX3_safePrimeFrom 33 = .ok (.ireturn, 1) := by decide +kernel
theorem dX3_safePrimeFrom_34 : decode cX3_safePrimeFrom 34 = .ok (.iinc 1 12, 3) := by decide +kernel
theorem dX3_safePrimeFrom_37 : decode cX3_safePrimeFrom 37 = .ok (.goto (-27), 3) := by decide +kernel
theorem dX3_safePrimeFrom_40 : decode cX3_safePrimeFrom 40 = .ok (.ldc 18, 2) := by decide +kernel
theorem dX3_safePrimeFrom_42 : decode cX3_safePrimeFrom 42 = .ok (.ireturn, 1) := by decide +kernel
theorem dX3_isOddPrime_0 : decode cX3_isOddPrime 0 = .ok (.iconst 3, 1) := by decide +kernel
theorem dX3_isOddPrime_1 : decode cX3_isOddPrime 1 = .ok (.istore_n 1, 1) := by decide +kernel
theorem dX3_isOddPrime_2 : decode cX3_isOddPrime 2 = .ok (.iload_n 1, 1) := by decide +kernel
theorem dX3_isOddPrime_3 : decode cX3_isOddPrime 3 = .ok (.iload_n 0, 1) := by decide +kernel
theorem dX3_isOddPrime_4 : decode cX3_isOddPrime 4 = .ok (.iload_n 1, 1) := by decide +kernel
theorem dX3_isOddPrime_5 : decode cX3_isOddPrime 5 = .ok (.idiv, 1) := by decide +kernel
theorem dX3_isOddPrime_6 : decode cX3_isOddPrime 6 = .ok (.if_icmp .gt 17, 3) := by decide +kernel
theorem dX3_isOddPrime_9 : decode cX3_isOddPrime 9 = .ok (.iload_n 0, 1) := by decide +kernel
theorem dX3_isOddPrime_10 : decode cX3_isOddPrime 10 = .ok (.iload_n 1, 1) := by decide +kernel
theorem dX3_isOddPrime_11 : decode cX3_isOddPrime 11 = .ok (.irem, 1) := by decide +kernel
theorem dX3_isOddPrime_12 : decode cX3_isOddPrime 12 = .ok (.ifCond .ne 5, 3) := by decide +kernel
theorem dX3_isOddPrime_15 : decode cX3_isOddPrime 15 = .ok (.iconst 0, 1) := by decide +kernel
theorem dX3_isOddPrime_16 : decode cX3_isOddPrime 16 = .ok (.ireturn, 1) := by decide +kernel
theorem dX3_isOddPrime_17 : decode cX3_isOddPrime 17 = .ok (.iinc 1 2, 3) := by decide +kernel
theorem dX3_isOddPrime_20 : decode cX3_isOddPrime 20 = .ok (.goto (-18), 3) := by decide +kernel
theorem dX3_isOddPrime_23 : decode cX3_isOddPrime 23 = .ok (.iconst 1, 1) := by decide +kernel
theorem dX3_isOddPrime_24 : decode cX3_isOddPrime 24 = .ok (.ireturn, 1) := by decide +kernel
theorem dX3_times_0 : decode cX3_times 0 = .ok (.iload_n 2, 1) := by decide +kernel
theorem dX3_times_1 : decode cX3_times 1 = .ok (.ifCond .le 15, 3) := by decide +kernel
theorem dX3_times_4 : decode cX3_times 4 = .ok (.iload_n 0, 1) := by decide +kernel
theorem dX3_times_5 : decode cX3_times 5 = .ok (.i2l, 1) := by decide +kernel
theorem dX3_times_6 : decode cX3_times 6 = .ok (.iload_n 1, 1) := by decide +kernel
theorem dX3_times_7 : decode cX3_times 7 = .ok (.i2l, 1) := by decide +kernel
theorem dX3_times_8 : decode cX3_times 8 = .ok (.lmul, 1) := by decide +kernel
theorem dX3_times_9 : decode cX3_times 9 = .ok (.iload_n 2, 1) := by decide +kernel
theorem dX3_times_10 : decode cX3_times 10 = .ok (.i2l, 1) := by decide +kernel
theorem dX3_times_11 : decode cX3_times 11 = .ok (.lrem, 1) := by decide +kernel
theorem dX3_times_12 : decode cX3_times 12 = .ok (.l2i, 1) := by decide +kernel
theorem dX3_times_13 : decode cX3_times 13 = .ok (.goto 4, 3) := by decide +kernel
theorem dX3_times_17 : decode cX3_times 17 = .ok (.ireturn, 1) := by decide +kernel
set_option maxRecDepth 20000 in
theorem ggX3_power_X3_times : GoodIn wsX3_power wsX3_times := goodIn_r _ [4] (by decide +kernel) (by decide +kernel)
set_option maxRecDepth 20000 in
theorem gX3_power_X3_times : GoodIn wsX3_power (va_wsS RX3 25 yX3_times wsX3_times) := goodIn_app (goodIn_of _ (by decide +kernel)) ggX3_power_X3_times
theorem dX3_power_0 : decode cX3_power 0 = .ok (.iconst 1, 1) := by decide +kernel
theorem dX3_power_1 : decode cX3_power 1 = .ok (.istore_n 3, 1) := by decide +kernel
theorem dX3_power_2 : decode cX3_power 2 = .ok (.iload_n 0, 1) := by decide +kernel
theorem dX3_power_3 : decode cX3_power 3 = .ok (.istore 4, 2) := by decide +kernel
theorem dX3_power_5 : decode cX3_power 5 = .ok (.iload_n 1, 1) := by decide +kernel
theorem dX3_power_6 : decode cX3_power 6 = .ok (.istore 5, 2) := by decide +kernel
theorem dX3_power_8 : decode cX3_power 8 = .ok (.iload 5, 2) := by decide +kernel
theorem dX3_power_10 : decode cX3_power 10 = .ok (.ifCond .le 38, 3) := by decide +kernel
theorem dX3_power_13 : decode cX3_power 13 = .ok (.iload 5, 2) := by decide +kernel
theorem dX3_power_15 : decode cX3_power 15 = .ok (.iconst 1, 1) := by decide +kernel
theorem dX3_power_16 : decode cX3_power 16 = .ok (.iand, 1) := by decide +kernel
theorem dX3_power_17 : decode cX3_power 17 = .ok (.iconst 1, 1) := by decide +kernel
theorem dX3_power_18 : decode cX3_power 18 = .ok (.if_icmp .ne 11, 3) := by decide +kernel
theorem dX3_power_21 : decode cX3_power 21 = .ok (.iload_n 3, 1) := by decide +kernel
theorem dX3_power_22 : decode cX3_power 22 = .ok (.iload 4, 2) := by decide +kernel
theorem dX3_power_24 : decode cX3_power 24 = .ok (.iload_n 2, 1) := by decide +kernel
theorem dX3_power_25 : decode cX3_power 25 = .ok (.invokestatic 25, 3) := by decide +kernel
theorem dX3_power_28 : decode cX3_power 28 = .ok (.istore_n 3, 1) := by decide +kernel
theorem dX3_power_29 : decode cX3_power 29 = .ok (.iload 4, 2) := by decide +kernel
theorem dX3_power_31 : decode cX3_power 31 = .ok (.iload 4, 2) := by decide +kernel
theorem dX3_power_33 : decode cX3_power 33 = .ok (.iload_n 2, 1) := by decide +kernel
theorem dX3_power_34 : decode cX3_power 34 = .ok (.invokestatic 25, 3) := by decide +kernel
theorem dX3_power_37 : decode cX3_power 37 = .ok (.istore 4, 2) := by decide +kernel
theorem dX3_power_39 : decode cX3_power 39 = .ok (.iload 5, 2) := by decide +kernel
theorem dX3_power_41 : decode cX3_power 41 = .ok (.iconst 1, 1) := by decide +kernel
theorem dX3_power_42 : decode cX3_power 42 = .ok (.ishr, 1) := by decide +kernel
theorem dX3_power_43 : decode cX3_power 43 = .ok (.istore 5, 2) := by decide +kernel
theorem dX3_power_45 : decode cX3_power 45 = .ok (.goto (-37), 3) := by decide +kernel
theorem dX3_power_48 : decode cX3_power 48 = .ok (.iload_n 3, 1) := by decide +kernel
theorem dX3_power_49 : decode cX3_power 49 = .ok (.ireturn, 1) := by decide +kernel
theorem dX3_digested_0 : decode cX3_digested 0 = .ok (.lload_n 0, 1) := by decide +kernel
theorem dX3_digested_1 : decode cX3_digested 1 = .ok (.lload_n 2, 1) := by decide +kernel
theorem dX3_digested_2 : decode cX3_digested 2 = .ok (.lxor, 1) := by decide +kernel
theorem dX3_digested_3 : decode cX3_digested 3 = .ok (.ldc2_w 32, 3) := by decide +kernel
theorem dX3_digested_6 : decode cX3_digested 6 = .ok (.lmul, 1) := by decide +kernel
theorem dX3_digested_7 : decode cX3_digested 7 = .ok (.lreturn, 1) := by decide +kernel
set_option maxHeartbeats 4000000 in
set_option maxRecDepth 100000 in
/-- within: taken into lo .. hi -/
theorem c_X3_within (l : Launch) (D : va_G) (cA : Nat → ClassId) (x : Int32) (lo : Int32) (hi : Int32) : Met l yX3_within wsX3_within ({ frames := 1, cells := 0, slots := 0, locals := 30 }) (rPc vwCl D cA [] [.int x, .int lo, .int hi]) (rq_x (some (.int (wi x lo hi)))) 0 0 (fun _ => False) := by
  refine Met.ofW (cc := cX3_within) (maxL := 3) (ret := (some .int)) (by decide) rfl ?_
  intro p e s m args below meth c s₁ B hml hv
  obtain ⟨rfl, hP, hK⟩ := hv
  have hx := B.exec
  have hb := B.bytes
  have hr := B.returns
  have hts := atoms_spec (ws := wsX3_within) B.pre
  have hown : s.vm.findClass RX3 = some m.cls := findClass_of_methodNamed B.named
  have hlocks := B.notSynchronized
  have hl := lv_entry ([.int x, .int lo, .int hi]) (n := 3) (Nat.le_of_ble_eq_true rfl)
  rw [lg_entry_eq]
  generalize (lg_sl ([.int x, .int lo, .int hi]) ++ List.replicate (3 - (lg_sl ([.int x, .int lo, .int hi])).length) Slot.unset).toArray = ls at hl ⊢
  have hl : lv_has ls 3 [(0, .int x), (1, .int lo), (2, .int hi)] := hl
  refine lv_iload_n hx hb dX3_within_0 rfl (lv_at hl 1 rfl) ?_
  refine lv_iload_n hx hb dX3_within_1 rfl (lv_at hl 2 rfl) ?_
  refine lv_iload_n hx hb dX3_within_2 rfl (lv_at hl 0 rfl) ?_
  refine va_mmin hx hb (hml.trans hl.1.symm) hown (hts (.methodLink RX3 9 Lib.Math.min.name) (by decide +kernel)) (hts (.static Lib.Math.min.name) (by decide +kernel)) (hts (.initialized "java/lang/Math") (by decide +kernel)) (hts (.code Lib.Math.min.name Lib.Math.min.code 2 (some .int)) (by decide +kernel)) (Nat.le_of_ble_eq_true rfl) (Nat.le_of_ble_eq_true rfl) (Nat.le_of_ble_eq_true rfl) (Nat.le_of_ble_eq_true rfl) dX3_within_3 ?_
  refine va_mmax hx hb (hml.trans hl.1.symm) hown (hts (.methodLink RX3 15 Lib.Math.max.name) (by decide +kernel)) (hts (.static Lib.Math.max.name) (by decide +kernel)) (hts (.initialized "java/lang/Math") (by decide +kernel)) (hts (.code Lib.Math.max.name Lib.Math.max.code 2 (some .int)) (by decide +kernel)) (Nat.le_of_ble_eq_true rfl) (Nat.le_of_ble_eq_true rfl) (Nat.le_of_ble_eq_true rfl) (Nat.le_of_ble_eq_true rfl) dX3_within_6 ?_
  exact W.iret (v := (if lo < (if x < hi then x else hi) then (if x < hi then x else hi) else lo)) hx hb hr (fun t ht hW => ⟨congrArg (fun z => Outcome.returned (some (Value.int z))) (rfl), ht⟩) (fun _ h => by cases h) dX3_within_9

set_option maxHeartbeats 4000000 in
set_option maxRecDepth 100000 in
theorem c_X3_times (l : Launch) (D : va_G) (cA : Nat → ClassId) (a : Int32) (b : Int32) (q : Int32) (hq : 0 < q) : Met l yX3_times wsX3_times ({ frames := 0, cells := 0, slots := 0, locals := 0 }) (rPc vwCl D cA [] [.int a, .int b, .int q]) (rq_x (some (.int (tm q a b)))) 0 0 (fun _ => False) := by
  refine Met.ofW (cc := cX3_times) (maxL := 3) (ret := (some .int)) (by decide) rfl ?_
  intro p e s m args below meth c s₁ B hml hv
  obtain ⟨rfl, hP, hK⟩ := hv
  have hx := B.exec
  have hb := B.bytes
  have hr := B.returns
  have hts := atoms_spec (ws := wsX3_times) B.pre
  have hown : s.vm.findClass RX3 = some m.cls := findClass_of_methodNamed B.named
  have hlocks := B.notSynchronized
  have hl := lv_entry ([.int a, .int b, .int q]) (n := 3) (Nat.le_of_ble_eq_true rfl)
  rw [lg_entry_eq]
  generalize (lg_sl ([.int a, .int b, .int q]) ++ List.replicate (3 - (lg_sl ([.int a, .int b, .int q])).length) Slot.unset).toArray = ls at hl ⊢
  have hl : lv_has ls 3 [(0, .int a), (1, .int b), (2, .int q)] := hl
  refine lv_iload_n hx hb dX3_times_0 rfl (lv_at hl 2 rfl) ?_
  refine lv_if_le (tgt := 16) hx hb dX3_times_1 (by decide) (fun c_1 => ?_) (fun c_1 => ?_)
  · exact absurd c_1 (Int32.not_le.mpr hq)
  · skip
    refine lv_iload_n hx hb dX3_times_4 rfl (lv_at hl 0 rfl) ?_
    refine lv_i2l hx hb dX3_times_5 rfl ?_
    refine lv_iload_n hx hb dX3_times_6 rfl (lv_at hl 1 rfl) ?_
    refine lv_i2l hx hb dX3_times_7 rfl ?_
    refine lv_lmul hx hb dX3_times_8 ?_
    refine lv_iload_n hx hb dX3_times_9 rfl (lv_at hl 2 rfl) ?_
    refine lv_i2l hx hb dX3_times_10 rfl ?_
    refine lv_lrem hx hb dX3_times_11 (tm_ne hq) ?_
    refine lv_l2i hx hb dX3_times_12 rfl ?_
    refine lv_goto (tgt := 17) hx hb dX3_times_13 (by decide) ?_
    exact W.iret (v := ((a.toInt64 * b.toInt64) - (a.toInt64 * b.toInt64) / q.toInt64 * q.toInt64).toInt32) hx hb hr (fun t ht hW => ⟨congrArg (fun z => Outcome.returned (some (Value.int z))) (rfl), ht⟩) (fun _ h => by cases h) dX3_times_17

set_option maxHeartbeats 4000000 in
set_option maxRecDepth 100000 in
theorem c_X3_digested (l : Launch) (D : va_G) (cA : Nat → ClassId) (d : Int64) (x : Int64) : Met l yX3_digested wsX3_digested ({ frames := 0, cells := 0, slots := 0, locals := 0 }) (rPc vwCl D cA [] [.long d, .long x]) (rq_x (some (.long (dg d x)))) 0 0 (fun _ => False) := by
  refine Met.ofW (cc := cX3_digested) (maxL := 4) (ret := (some .long)) (by decide) rfl ?_
  intro p e s m args below meth c s₁ B hml hv
  obtain ⟨rfl, hP, hK⟩ := hv
  have hx := B.exec
  have hb := B.bytes
  have hr := B.returns
  have hts := atoms_spec (ws := wsX3_digested) B.pre
  have hown : s.vm.findClass RX3 = some m.cls := findClass_of_methodNamed B.named
  have hlocks := B.notSynchronized
  have hl := lv_entry ([.long d, .long x]) (n := 4) (Nat.le_of_ble_eq_true rfl)
  rw [lg_entry_eq]
  generalize (lg_sl ([.long d, .long x]) ++ List.replicate (4 - (lg_sl ([.long d, .long x])).length) Slot.unset).toArray = ls at hl ⊢
  have hl : lv_has ls 4 [(0, .long d), (2, .long x)] := hl
  refine lv_lload_n hx hb dX3_digested_0 rfl (lv_at hl 0 rfl) ?_
  refine lv_lload_n hx hb dX3_digested_1 rfl (lv_at hl 1 rfl) ?_
  refine lv_lxor hx hb dX3_digested_2 ?_
  refine lv_ldc2 (v := (1099511628211)) hx hb hown (hts (.constantLong RX3 32 (1099511628211)) (by decide +kernel)) dX3_digested_3 ?_
  refine lv_lmul hx hb dX3_digested_6 ?_
  exact W.lret (v := ((d ^^^ x) * (1099511628211))) hx hb hr (fun t ht hW => ⟨congrArg (fun z => Outcome.returned (some (Value.long z))) (rfl), ht⟩) (fun _ h => by cases h) dX3_digested_7

set_option maxHeartbeats 4000000 in
set_option maxRecDepth 100000 in
theorem c_X3_isOddPrime (l : Launch) (D : va_G) (cA : Nat → ClassId) (n : Int32) (n0 : Nat) (hn : n = nI n0) (hN : n0 < 1000000) : Met l yX3_isOddPrime wsX3_isOddPrime ({ frames := 0, cells := 0, slots := 0, locals := 0 }) (rPc vwCl D cA [] [.int n]) (rq_p (fun r => (r = 1 ∧ sp_odd n0) ∨ (r = 0 ∧ ¬ sp_odd n0))) 0 0 (fun _ => False) := by
  refine Met.ofW (cc := cX3_isOddPrime) (maxL := 2) (ret := (some .boolean)) (by decide) rfl ?_
  intro p e s m args below meth c s₁ B hml hv
  obtain ⟨rfl, hP, hK⟩ := hv
  have hx := B.exec
  have hb := B.bytes
  have hr := B.returns
  have hts := atoms_spec (ws := wsX3_isOddPrime) B.pre
  have hown : s.vm.findClass RX3 = some m.cls := findClass_of_methodNamed B.named
  have hlocks := B.notSynchronized
  have hl := lv_entry ([.int n]) (n := 2) (Nat.le_of_ble_eq_true rfl)
  rw [lg_entry_eq]
  generalize (lg_sl ([.int n]) ++ List.replicate (2 - (lg_sl ([.int n])).length) Slot.unset).toArray = ls at hl ⊢
  have hl : lv_has ls 2 [(0, .int n)] := hl
  refine lv_iconst (v := 3) hx hb dX3_isOddPrime_0 (by decide) ?_
  refine lv_istore_n (lv' := [(1, .int 3), (0, .int n)]) hx hb dX3_isOddPrime_1 rfl hl (by decide) rfl (fun ls hl => ?_)
  have loop2 : ∀ (f k : Nat) (z : Int32), z = nI k → 2000 ≤ k + f → 3 ≤ k → k % 2 = 1 → k ≤ 1003 → (∀ j : Nat, 3 ≤ j → j % 2 = 1 → j < k → ¬ n0 % j = 0) → ∀ ls : Array Slot, lv_has ls 2 [(0, .int n), (1, .int z)] → W p l e (headSpec wsX3_isOddPrime ({ frames := 0, cells := 0, slots := 0, locals := 0 })).room s m [.int n].toArray below meth c s.heap [] 0 0 (MQ below (rq_p (fun r => (r = 1 ∧ sp_odd n0) ∨ (r = 0 ∧ ¬ sp_odd n0))) [.int n].toArray s 0 0 (fun _ => False)) (F0 m 2 ls []) := by
    intro f
    induction f with
    | zero =>
      intro k z hz h0 h1 h2 h3
      omega
    | succ f ih =>
      intro k z hz h0 h1 h2 h3 h4 ls hl
      refine lv_iload_n hx hb dX3_isOddPrime_2 rfl (lv_at hl 1 rfl) ?_
      refine lv_iload_n hx hb dX3_isOddPrime_3 rfl (lv_at hl 0 rfl) ?_
      refine lv_iload_n hx hb dX3_isOddPrime_4 rfl (lv_at hl 1 rfl) ?_
      refine lv_idiv hx hb dX3_isOddPrime_5 (nI_ne0z hz (by omega) (by omega)) ?_
      refine lv_icmp_gt (tgt := 23) hx hb dX3_isOddPrime_6 (by decide) (fun c_6 => ?_) (fun c_6 => ?_)
      · skip
        refine lv_iconst (v := 1) hx hb dX3_isOddPrime_23 (by decide) ?_
        exact W.zret (v := 1) hx hb hr rfl (fun t ht hW => ⟨1, rfl, Or.inl ⟨rfl, op_yes hn hN hz h1 h3 h4 c_6⟩, ht⟩) (fun _ h => by cases h) dX3_isOddPrime_24
      · skip
        refine lv_iload_n hx hb dX3_isOddPrime_9 rfl (lv_at hl 0 rfl) ?_
        refine lv_iload_n hx hb dX3_isOddPrime_10 rfl (lv_at hl 1 rfl) ?_
        refine lv_irem hx hb dX3_isOddPrime_11 (nI_ne0z hz (by omega) (by omega)) ?_
        refine lv_if_ne (tgt := 17) hx hb dX3_isOddPrime_12 (by decide) (fun c_12 => ?_) (fun c_12 => ?_)
        · skip
          refine lv_iinc (v := (z + 2)) (lv' := [(1, .int (z + 2)), (0, .int n)]) hx hb dX3_isOddPrime_17 hl (k := 1) rfl rfl (by decide) rfl (fun ls hl => ?_)
          refine lv_goto (tgt := 2) hx hb dX3_isOddPrime_20 (by decide) ?_
          obtain ⟨g1, g2⟩ := op_next hn hN hz h1 h2 h3 h4 c_6 c_12
          exact ih (k + 2) (z + 2) (by rw [hz]; exact nI_add k 2) (by omega) (by omega) (by omega) g1 g2 ls (lv_sub hl [1, 0] rfl)
        · skip
          refine lv_iconst (v := 0) hx hb dX3_isOddPrime_15 (by decide) ?_
          exact W.zret (v := 0) hx hb hr rfl (fun t ht hW => ⟨0, rfl, Or.inr ⟨rfl, op_no hn hN hz h1 h2 h3 c_6 c_12⟩, ht⟩) (fun _ h => by cases h) dX3_isOddPrime_16
  exact loop2 2000 3 3 rfl (by omega) (by omega) (by omega) (by omega) (fun j a b c => by omega) ls (lv_sub hl [1, 0] rfl)

set_option maxHeartbeats 4000000 in
set_option maxRecDepth 100000 in
theorem c_X3_safePrimeFrom (l : Launch) (D : va_G) (cA : Nat → ClassId) (n : Int32) (n0 : Nat) (hn : n = nI n0) (h11 : 11 ≤ n0) (hN : n0 ≤ 999959) : Met l yX3_safePrimeFrom wsX3_safePrimeFrom ({ frames := 1, cells := 0, slots := 0, locals := 21 }) (rPc vwCl D cA [] [.int n]) (rq_p (fun r => ∃ k : Nat, k ≤ 999959 ∧ r = nI k ∧ sp_least n0 k)) 0 0 (fun _ => False) := by
  refine Met.ofW (cc := cX3_safePrimeFrom) (maxL := 2) (ret := (some .int)) (by decide) rfl ?_
  intro p e s m args below meth c s₁ B hml hv
  obtain ⟨rfl, hP, hK⟩ := hv
  have hx := B.exec
  have hb := B.bytes
  have hr := B.returns
  have hts := atoms_spec (ws := wsX3_safePrimeFrom) B.pre
  have hown : s.vm.findClass RX3 = some m.cls := findClass_of_methodNamed B.named
  have hlocks := B.notSynchronized
  have hl := lv_entry ([.int n]) (n := 2) (Nat.le_of_ble_eq_true rfl)
  rw [lg_entry_eq]
  generalize (lg_sl ([.int n]) ++ List.replicate (2 - (lg_sl ([.int n])).length) Slot.unset).toArray = ls at hl ⊢
  have hl : lv_has ls 2 [(0, .int n)] := hl
  refine lv_iload_n hx hb dX3_safePrimeFrom_0 rfl (lv_at hl 0 rfl) ?_
  refine lv_bipush (v := 11) hx hb dX3_safePrimeFrom_1 (by decide) ?_
  refine lv_iadd hx hb dX3_safePrimeFrom_3 ?_
  refine lv_iload_n hx hb dX3_safePrimeFrom_4 rfl (lv_at hl 0 rfl) ?_
  refine lv_bipush (v := 12) hx hb dX3_safePrimeFrom_5 (by decide) ?_
  refine lv_irem hx hb dX3_safePrimeFrom_7 (by decide) ?_
  refine lv_isub hx hb dX3_safePrimeFrom_8 ?_
  refine lv_topi (fun z0 e_z0 => ?_)
  refine lv_istore_n (lv' := [(1, .int z0), (0, .int n)]) hx hb dX3_safePrimeFrom_9 rfl hl (by decide) rfl (fun ls hl => ?_)
  have loop10 : ∀ (f k : Nat) (z : Int32), z = nI k → 1100000 ≤ k + f → n0 ≤ k → k % 12 = 11 → k ≤ 999959 → (∀ j : Nat, n0 ≤ j → j < k → ¬ sp_safe j) → ∀ ls : Array Slot, lv_has ls 2 [(0, .int n), (1, .int z)] → W p l e (headSpec wsX3_safePrimeFrom ({ frames := 1, cells := 0, slots := 0, locals := 21 })).room s m [.int n].toArray below meth c s.heap [] 0 0 (MQ below (rq_p (fun r => ∃ k : Nat, k ≤ 999959 ∧ r = nI k ∧ sp_least n0 k)) [.int n].toArray s 0 0 (fun _ => False)) (F0 m 10 ls []) := by
    intro f
    induction f with
    | zero =>
      intro k z hz h0 h1 h2 h3
      omega
    | succ f ih =>
      intro k z hz h0 h1 h2 h3 h4 ls hl
      refine lv_iload_n hx hb dX3_safePrimeFrom_10 rfl (lv_at hl 1 rfl) ?_
      refine lv_ldc (v := (999959)) hx hb hown (hts (.constant RX3 18 (999959)) (by decide +kernel)) dX3_safePrimeFrom_11 ?_
      refine lv_icmp_ge (tgt := 40) hx hb dX3_safePrimeFrom_13 (by decide) (fun c_13 => ?_) (fun c_13 => ?_)
      · skip
        refine lv_ldc (v := (999959)) hx hb hown (hts (.constant RX3 18 (999959)) (by decide +kernel)) dX3_safePrimeFrom_40 ?_
        exact W.iret (v := (999959)) hx hb hr (fun t ht hW => ⟨(999959), rfl, sf_end hz h1 h3 h4 c_13, ht⟩) (fun _ h => by cases h) dX3_safePrimeFrom_42
      · skip
        refine lv_iload_n hx hb dX3_safePrimeFrom_16 rfl (lv_at hl 1 rfl) ?_
        refine lv_iconst (v := 2) hx hb dX3_safePrimeFrom_17 (by decide) ?_
        refine lv_idiv hx hb dX3_safePrimeFrom_18 (by decide) ?_
        refine rq_callp (rn_S (As := [.int (z / 2)]) (rest := []) ⟨hx, hb, hml, hown, hts⟩ (c_X3_isOddPrime l D cA (z / 2) (k / 2) (sf_half hz h3) (by omega)) (va_cwS 1 hts gX3_safePrimeFrom_X3_isOddPrime rfl rfl rfl (by decide +kernel) ⟨Nat.le_of_ble_eq_true rfl, Nat.le_of_ble_eq_true rfl⟩) hK hP [] rfl rfl hl.1 rfl (Nat.le_of_ble_eq_true rfl) dX3_safePrimeFrom_19 ⟨Nat.le_of_ble_eq_true rfl, Nat.le_of_ble_eq_true rfl⟩) (fun r_1 h_r_1 => ?_)
        refine lv_if_eq (tgt := 34) hx hb dX3_safePrimeFrom_22 (by decide) (fun c_22 => ?_) (fun c_22 => ?_)
        · skip
          refine lv_iinc (v := (z + 12)) (lv' := [(1, .int (z + 12)), (0, .int n)]) hx hb dX3_safePrimeFrom_34 hl (k := 1) rfl rfl (by decide) rfl (fun ls hl => ?_)
          refine lv_goto (tgt := 10) hx hb dX3_safePrimeFrom_37 (by decide) ?_
          obtain ⟨g1, g2⟩ := sf_next hz h11 h1 h2 h3 h4 c_13 (sf_not1 h11 h1 h2 h_r_1 c_22)
          exact ih (k + 12) (z + 12) (by rw [hz]; exact nI_add k 12) (by omega) (by omega) (by omega) g1 g2 ls (lv_sub hl [1, 0] rfl)
        · skip
          refine lv_iload_n hx hb dX3_safePrimeFrom_25 rfl (lv_at hl 1 rfl) ?_
          refine rq_callp (rn_S (As := [.int z]) (rest := []) ⟨hx, hb, hml, hown, hts⟩ (c_X3_isOddPrime l D cA z k hz (by omega)) (va_cwS 1 hts gX3_safePrimeFrom_X3_isOddPrime rfl rfl rfl (by decide +kernel) ⟨Nat.le_of_ble_eq_true rfl, Nat.le_of_ble_eq_true rfl⟩) hK hP [] rfl rfl hl.1 rfl (Nat.le_of_ble_eq_true rfl) dX3_safePrimeFrom_26 ⟨Nat.le_of_ble_eq_true rfl, Nat.le_of_ble_eq_true rfl⟩) (fun r_2 h_r_2 => ?_)
          refine lv_if_eq (tgt := 34) hx hb dX3_safePrimeFrom_29 (by decide) (fun c_29 => ?_) (fun c_29 => ?_)
          · skip
            refine lv_iinc (v := (z + 12)) (lv' := [(1, .int (z + 12)), (0, .int n)]) hx hb dX3_safePrimeFrom_34 hl (k := 1) rfl rfl (by decide) rfl (fun ls hl => ?_)
            refine lv_goto (tgt := 10) hx hb dX3_safePrimeFrom_37 (by decide) ?_
            obtain ⟨g1, g2⟩ := sf_next hz h11 h1 h2 h3 h4 c_13 (sf_not2 h11 h1 h2 h_r_1 c_22 h_r_2 c_29)
            exact ih (k + 12) (z + 12) (by rw [hz]; exact nI_add k 12) (by omega) (by omega) (by omega) g1 g2 ls (lv_sub hl [1, 0] rfl)
          · skip
            refine lv_iload_n hx hb dX3_safePrimeFrom_32 rfl (lv_at hl 1 rfl) ?_
            exact W.iret (v := z) hx hb hr (fun t ht hW => ⟨z, rfl, sf_yes hz h11 h1 h2 h3 h4 h_r_1 c_22 h_r_2 c_29, ht⟩) (fun _ h => by cases h) dX3_safePrimeFrom_33
  obtain ⟨k, g1, g2, g3, g4, g5⟩ := sf_start hn h11 hN e_z0
  exact loop10 1100000 k z0 g1 (by omega) g2 g3 g4 g5 ls (lv_sub hl [1, 0] rfl)

set_option maxHeartbeats 4000000 in
set_option maxRecDepth 100000 in
theorem c_X3_power (l : Launch) (D : va_G) (cA : Nat → ClassId) (a : Int32) (x : Int32) (q : Int32) (x0 : Nat) (hx0 : x = nI x0) (hX : x0 < 2 ^ 31) (hq : 0 < q) : Met l yX3_power wsX3_power ({ frames := 1, cells := 0, slots := 0, locals := 22 }) (rPc vwCl D cA [] [.int a, .int x, .int q]) (rq_x (some (.int (pw q 32 x0 1 a)))) 0 0 (fun _ => False) := by
  refine Met.ofW (cc := cX3_power) (maxL := 6) (ret := (some .int)) (by decide) rfl ?_
  intro p e s m args below meth c s₁ B hml hv
  obtain ⟨rfl, hP, hK⟩ := hv
  have hx := B.exec
  have hb := B.bytes
  have hr := B.returns
  have hts := atoms_spec (ws := wsX3_power) B.pre
  have hown : s.vm.findClass RX3 = some m.cls := findClass_of_methodNamed B.named
  have hlocks := B.notSynchronized
  have hl := lv_entry ([.int a, .int x, .int q]) (n := 6) (Nat.le_of_ble_eq_true rfl)
  rw [lg_entry_eq]
  generalize (lg_sl ([.int a, .int x, .int q]) ++ List.replicate (6 - (lg_sl ([.int a, .int x, .int q])).length) Slot.unset).toArray = ls at hl ⊢
  have hl : lv_has ls 6 [(0, .int a), (1, .int x), (2, .int q)] := hl
  refine lv_iconst (v := 1) hx hb dX3_power_0 (by decide) ?_
  refine lv_istore_n (lv' := [(3, .int 1), (0, .int a), (1, .int x), (2, .int q)]) hx hb dX3_power_1 rfl hl (by decide) rfl (fun ls hl => ?_)
  refine lv_iload_n hx hb dX3_power_2 rfl (lv_at hl 1 rfl) ?_
  refine lv_istore (lv' := [(4, .int a), (3, .int 1), (0, .int a), (1, .int x), (2, .int q)]) hx hb dX3_power_3 hl (by decide) rfl (fun ls hl => ?_)
  refine lv_iload_n hx hb dX3_power_5 rfl (lv_at hl 3 rfl) ?_
  refine lv_istore (lv' := [(5, .int x), (4, .int a), (3, .int 1), (0, .int a), (1, .int x), (2, .int q)]) hx hb dX3_power_6 hl (by decide) rfl (fun ls hl => ?_)
  have loop8 : ∀ (f n : Nat) (z r b : Int32), z = nI n → 0 < f → n < 2 ^ (f - 1) → n < 2 ^ 31 → pw q f n r b = pw q 32 x0 1 a → ∀ ls : Array Slot, lv_has ls 6 [(0, .int a), (1, .int x), (2, .int q), (3, .int r), (4, .int b), (5, .int z)] → W p l e (headSpec wsX3_power ({ frames := 1, cells := 0, slots := 0, locals := 22 })).room s m [.int a, .int x, .int q].toArray below meth c s.heap [] 0 0 (MQ below (rq_x (some (.int (pw q 32 x0 1 a)))) [.int a, .int x, .int q].toArray s 0 0 (fun _ => False)) (F0 m 8 ls []) := by
    intro f
    induction f with
    | zero =>
      intro n z r b hz h1
      omega
    | succ f ih =>
      intro n z r b hz h1 h2 h3 hw ls hl
      refine lv_iload hx hb dX3_power_8 (lv_at hl 5 rfl) ?_
      refine lv_if_le (tgt := 48) hx hb dX3_power_10 (by decide) (fun c_10 => ?_) (fun c_10 => ?_)
      · skip
        refine lv_iload_n hx hb dX3_power_48 rfl (lv_at hl 3 rfl) ?_
        exact W.iret (v := r) hx hb hr (fun t ht hW => ⟨congrArg (fun z => Outcome.returned (some (Value.int z))) (pw_end hz h3 c_10 hw), ht⟩) (fun _ h => by cases h) dX3_power_49
      · skip
        refine lv_iload hx hb dX3_power_13 (lv_at hl 5 rfl) ?_
        refine lv_iconst (v := 1) hx hb dX3_power_15 (by decide) ?_
        refine lv_iand hx hb dX3_power_16 ?_
        refine lv_iconst (v := 1) hx hb dX3_power_17 (by decide) ?_
        refine lv_icmp_ne (tgt := 29) hx hb dX3_power_18 (by decide) (fun c_18 => ?_) (fun c_18 => ?_)
        · skip
          refine lv_iload hx hb dX3_power_29 (lv_at hl 4 rfl) ?_
          refine lv_iload hx hb dX3_power_31 (lv_at hl 4 rfl) ?_
          refine lv_iload_n hx hb dX3_power_33 rfl (lv_at hl 2 rfl) ?_
          refine rq_call1 (v := .int (tm q b b)) (rn_S (As := [.int b, .int b, .int q]) (rest := []) ⟨hx, hb, hml, hown, hts⟩ (c_X3_times l D cA b b q (by assumption)) (va_cwS 3 hts gX3_power_X3_times rfl rfl rfl (by decide +kernel) ⟨Nat.le_of_ble_eq_true rfl, Nat.le_of_ble_eq_true rfl⟩) hK hP [] rfl rfl hl.1 rfl (Nat.le_of_ble_eq_true rfl) dX3_power_34 ⟨Nat.le_of_ble_eq_true rfl, Nat.le_of_ble_eq_true rfl⟩) ?_
          refine lv_istore (lv' := [(4, .int (tm q b b)), (0, .int a), (1, .int x), (2, .int q), (3, .int r), (5, .int z)]) hx hb dX3_power_37 hl (by decide) rfl (fun ls hl => ?_)
          refine lv_iload hx hb dX3_power_39 (lv_at hl 5 rfl) ?_
          refine lv_iconst (v := 1) hx hb dX3_power_41 (by decide) ?_
          refine lv_ishr hx hb dX3_power_42 ?_
          refine lv_istore (lv' := [(5, .int (z >>> (1 &&& 31))), (4, .int (tm q b b)), (0, .int a), (1, .int x), (2, .int q), (3, .int r)]) hx hb dX3_power_43 hl (by decide) rfl (fun ls hl => ?_)
          refine lv_goto (tgt := 8) hx hb dX3_power_45 (by decide) ?_
          obtain ⟨g1, g2, g3, g4⟩ := pw_even hz h2 h3 c_10 c_18 hw
          exact ih (n / 2) _ _ _ g1 g2 g3 (by omega) g4 ls (lv_sub hl [2, 3, 4, 5, 1, 0] rfl)
        · skip
          refine lv_iload_n hx hb dX3_power_21 rfl (lv_at hl 3 rfl) ?_
          refine lv_iload hx hb dX3_power_22 (lv_at hl 4 rfl) ?_
          refine lv_iload_n hx hb dX3_power_24 rfl (lv_at hl 2 rfl) ?_
          refine rq_call1 (v := .int (tm q r b)) (rn_S (As := [.int r, .int b, .int q]) (rest := []) ⟨hx, hb, hml, hown, hts⟩ (c_X3_times l D cA r b q (by assumption)) (va_cwS 3 hts gX3_power_X3_times rfl rfl rfl (by decide +kernel) ⟨Nat.le_of_ble_eq_true rfl, Nat.le_of_ble_eq_true rfl⟩) hK hP [] rfl rfl hl.1 rfl (Nat.le_of_ble_eq_true rfl) dX3_power_25 ⟨Nat.le_of_ble_eq_true rfl, Nat.le_of_ble_eq_true rfl⟩) ?_
          refine lv_istore_n (lv' := [(3, .int (tm q r b)), (0, .int a), (1, .int x), (2, .int q), (4, .int b), (5, .int z)]) hx hb dX3_power_28 rfl hl (by decide) rfl (fun ls hl => ?_)
          refine lv_iload hx hb dX3_power_29 (lv_at hl 4 rfl) ?_
          refine lv_iload hx hb dX3_power_31 (lv_at hl 4 rfl) ?_
          refine lv_iload_n hx hb dX3_power_33 rfl (lv_at hl 3 rfl) ?_
          refine rq_call1 (v := .int (tm q b b)) (rn_S (As := [.int b, .int b, .int q]) (rest := []) ⟨hx, hb, hml, hown, hts⟩ (c_X3_times l D cA b b q (by assumption)) (va_cwS 3 hts gX3_power_X3_times rfl rfl rfl (by decide +kernel) ⟨Nat.le_of_ble_eq_true rfl, Nat.le_of_ble_eq_true rfl⟩) hK hP [] rfl rfl hl.1 rfl (Nat.le_of_ble_eq_true rfl) dX3_power_34 ⟨Nat.le_of_ble_eq_true rfl, Nat.le_of_ble_eq_true rfl⟩) ?_
          refine lv_istore (lv' := [(4, .int (tm q b b)), (3, .int (tm q r b)), (0, .int a), (1, .int x), (2, .int q), (5, .int z)]) hx hb dX3_power_37 hl (by decide) rfl (fun ls hl => ?_)
          refine lv_iload hx hb dX3_power_39 (lv_at hl 5 rfl) ?_
          refine lv_iconst (v := 1) hx hb dX3_power_41 (by decide) ?_
          refine lv_ishr hx hb dX3_power_42 ?_
          refine lv_istore (lv' := [(5, .int (z >>> (1 &&& 31))), (4, .int (tm q b b)), (3, .int (tm q r b)), (0, .int a), (1, .int x), (2, .int q)]) hx hb dX3_power_43 hl (by decide) rfl (fun ls hl => ?_)
          refine lv_goto (tgt := 8) hx hb dX3_power_45 (by decide) ?_
          obtain ⟨g1, g2, g3, g4⟩ := pw_odd hz h2 h3 c_10 c_18 hw
          exact ih (n / 2) _ _ _ g1 g2 g3 (by omega) g4 ls (lv_sub hl [3, 4, 5, 2, 1, 0] rfl)
  exact loop8 32 x0 x 1 a hx0 (by omega) hX hX rfl ls (lv_sub hl [3, 4, 5, 2, 1, 0] rfl)
end
section
set_option maxRecDepth 20000 in
theorem ggX2_clear_J7_fill_53178 : GoodIn wsX2_clear wsJ7_fill_53178 := goodIn_r _ [6] (by decide +kernel) (by decide +kernel)
set_option maxRecDepth 20000 in
theorem gX2_clear_J7_fill_53178 : GoodIn wsX2_clear (va_wsS RX2 21 yJ7_fill_53178 wsJ7_fill_53178) := goodIn_app (goodIn_of _ (by decide +kernel)) ggX2_clear_J7_fill_53178
theorem dX2_clear_0 : decode cX2_clear 0 = .ok (.aload_n 0, 1) := by decide +kernel
theorem dX2_clear_1 : decode cX2_clear 1 = .ok (.getfield 9, 3) := by decide +kernel
theorem dX2_clear_4 : decode cX2_clear 4 = .ok (.iconst (-1), 1) := by decide +kernel
theorem dX2_clear_5 : decode cX2_clear 5 = .ok (.invokestatic 21, 3) := by decide +kernel
theorem dX2_clear_8 : decode cX2_clear 8 = .ok (.aload_n 0, 1) := by decide +kernel
theorem dX2_clear_9 : decode cX2_clear 9 = .ok (.getfield 15, 3) := by decide +kernel
theorem dX2_clear_12 : decode cX2_clear 12 = .ok (.iconst (-1), 1) := by decide +kernel
theorem dX2_clear_13 : decode cX2_clear 13 = .ok (.invokestatic 21, 3) := by decide +kernel
theorem dX2_clear_16 : decode cX2_clear 16 = .ok (.return_, 1) := by decide +kernel
set_option maxRecDepth 20000 in
theorem ggX4_clear_J7_fill_53178 : GoodIn wsX4_clear wsJ7_fill_53178 := goodIn_r _ [6] (by decide +kernel) (by decide +kernel)
set_option maxRecDepth 20000 in
theorem gX4_clear_J7_fill_53178 : GoodIn wsX4_clear (va_wsS RX4 21 yJ7_fill_53178 wsJ7_fill_53178) := goodIn_app (goodIn_of _ (by decide +kernel)) ggX4_clear_J7_fill_53178
theorem dX4_clear_0 : decode cX4_clear 0 = .ok (.aload_n 0, 1) := by decide +kernel
theorem dX4_clear_1 : decode cX4_clear 1 = .ok (.getfield 9, 3) := by decide +kernel
theorem dX4_clear_4 : decode cX4_clear 4 = .ok (.iconst (-1), 1) := by decide +kernel
theorem dX4_clear_5 : decode cX4_clear 5 = .ok (.invokestatic 21, 3) := by decide +kernel
theorem dX4_clear_8 : decode cX4_clear 8 = .ok (.aload_n 0, 1) := by decide +kernel
theorem dX4_clear_9 : decode cX4_clear 9 = .ok (.getfield 15, 3) := by decide +kernel
theorem dX4_clear_12 : decode cX4_clear 12 = .ok (.iconst (-1), 1) := by decide +kernel
theorem dX4_clear_13 : decode cX4_clear 13 = .ok (.invokestatic 21, 3) := by decide +kernel
theorem dX4_clear_16 : decode cX4_clear 16 = .ok (.return_, 1) := by decide +kernel
theorem dJ7_fill_53178_0 : decode cJ7_fill_53178 0 = .ok (.iconst 0, 1) := by decide +kernel
theorem dJ7_fill_53178_1 : decode cJ7_fill_53178 1 = .ok (.istore_n 2, 1) := by decide +kernel
theorem dJ7_fill_53178_2 : decode cJ7_fill_53178 2 = .ok (.aload_n 0, 1) := by decide +kernel
theorem dJ7_fill_53178_3 : decode cJ7_fill_53178 3 = .ok (.arraylength, 1) := by decide +kernel
theorem dJ7_fill_53178_4 : decode cJ7_fill_53178 4 = .ok (.istore_n 3, 1) := by decide +kernel
theorem dJ7_fill_53178_5 : decode cJ7_fill_53178 5 = .ok (.iload_n 2, 1) := by decide +kernel
theorem dJ7_fill_53178_6 : decode cJ7_fill_53178 6 = .ok (.iload_n 3, 1) := by decide +kernel
theorem dJ7_fill_53178_7 : decode cJ7_fill_53178 7 = .ok (.if_icmp .ge 13, 3) := by decide +kernel
theorem dJ7_fill_53178_10 : decode cJ7_fill_53178 10 = .ok (.aload_n 0, 1) := by decide +kernel
theorem dJ7_fill_53178_11 : decode cJ7_fill_53178 11 = .ok (.iload_n 2, 1) := by decide +kernel
theorem dJ7_fill_53178_12 : decode cJ7_fill_53178 12 = .ok (.iload_n 1, 1) := by decide +kernel
theorem dJ7_fill_53178_13 : decode cJ7_fill_53178 13 = .ok (.iastore, 1) := by decide +kernel
theorem dJ7_fill_53178_14 : decode cJ7_fill_53178 14 = .ok (.iinc 2 1, 3) := by decide +kernel
theorem dJ7_fill_53178_17 : decode cJ7_fill_53178 17 = .ok (.goto (-12), 3) := by decide +kernel
theorem dJ7_fill_53178_20 : decode cJ7_fill_53178 20 = .ok (.return_, 1) := by decide +kernel
theorem fl_c {z : Int32} {k n : Nat} (hz : z = nI k) (hn : n < 2 ^ 31) (h2 : k ≤ n) : Int32.ofNat n ≤ z ↔ n ≤ k := by
  rw [hz]; exact nI_leI (a := n) (b := k) hn (by omega)
theorem fl_lt {z : Int32} {k n : Nat} (hz : z = nI k) (hn : n < 2 ^ 31) (h2 : k ≤ n) (c : ¬ Int32.ofNat n ≤ z) : k + 1 ≤ n := by
  rw [fl_c hz hn h2] at c; omega
theorem fl_in {z : Int32} {k n : Nat} (hz : z = nI k) (hn : n < 2 ^ 31) (h2 : k ≤ n) (c : ¬ Int32.ofNat n ≤ z) : vp_in z n := by
  rw [hz]; exact vp_in_nI (fl_lt hz hn h2 c) hn
theorem fl_step {z v : Int32} {k n : Nat} {g : Nat → Int32} (hz : z = nI k) (hn : n < 2 ^ 31) (h2 : k ≤ n) (h3 : ∀ j : Nat, j < k → g j = v) (_ : ¬ Int32.ofNat n ≤ z) : ∀ j : Nat, j < k + 1 → upd g z.toNatClampNeg v j = v := by
  intro j hj
  rw [hz, nI_clamp (by omega)]
  unfold upd
  split
  · rfl
  · exact h3 j (by omega)
theorem fl_all {z v : Int32} {k n : Nat} {g : Nat → Int32} (hz : z = nI k) (hn : n < 2 ^ 31) (h2 : k ≤ n) (h3 : ∀ j : Nat, j < k → g j = v) (c : Int32.ofNat n ≤ z) : ∀ j : Nat, j < n → g j = v := by
  rw [fl_c hz hn h2] at c
  intro j hj
  exact h3 j (by omega)
theorem fl_cell {cA : ClassId} {n : Nat} {f g : Nat → Int32} (h : ∀ j : Nat, j < n → f j = g j) : vp_cell cA (n, .inl f) = vp_cell cA (n, .inl g) := by
  rw [vp_cell_i, vp_cell_i]
  unfold arrV
  congr 1
  apply Array.ext
  · simp
  · intro i h1 h2
    simp at h1 ⊢
    exact h i h1
theorem fl_P {D : va_G} {cA : ClassId} {a n : Nat} {g : Nat → Int32} {v : Int32} {H : Heap} (hP : va_P D vwCl [(a, .inl (cA, n, .inl g))] H) (h : ∀ j : Nat, j < n → g j = v) : va_P D vwCl [(a, .inl (cA, n, .inl (fun _ => v)))] H := by
  refine hP.conv (fun k q hq => ⟨(a, .inl (cA, n, .inl g)), ?_, ?_⟩)
  · have hk : k < 1 := (List.getElem?_eq_some_iff.mp hq).1
    rw [show k = 0 by omega]; rfl
  · have hk : k < 1 := (List.getElem?_eq_some_iff.mp hq).1
    rw [show k = 0 by omega] at hq
    cases hq
    intro h1
    show H[a]? = some (vp_cell cA (n, .inl (fun _ => v)))
    rw [← fl_cell (f := g) (g := fun _ => v) h]
    exact h1
set_option maxHeartbeats 4000000 in
set_option maxRecDepth 100000 in
theorem c_fill (l : Launch) (D : va_G) (cA : Nat → ClassId) (a : Nat) (v : Int32) (n : Nat) (g0 : Nat → Int32) (hn : n < 2 ^ 31) : Met l yJ7_fill_53178 wsJ7_fill_53178 ({ frames := 0, cells := 0, slots := 0, locals := 0 }) (wPc vwCl D cA [(a, .inl (cA 0, n, .inl g0))] [.ref a, .int v]) (wq_x vwCl D [(a, .inl (cA 0, n, .inl (fun _ => v)))] none (wA [(a, .inl (cA 0, n, .inl g0))])) 0 0 (wA [(a, .inl (cA 0, n, .inl g0))]) := by
  refine Met.ofW (cc := cJ7_fill_53178) (maxL := 4) (ret := none) (by decide) rfl ?_
  intro p e s m args below meth c s₁ B hml hv
  obtain ⟨rfl, hP, hK, hD0⟩ := hv
  have hx := B.exec
  have hb := B.bytes
  have hr := B.returns
  have hts := atoms_spec (ws := wsJ7_fill_53178) B.pre
  have hown : s.vm.findClass RJ7 = some m.cls := findClass_of_methodNamed B.named
  have hlocks := B.notSynchronized
  have hD : va_D (wA [(a, .inl (cA 0, n, .inl g0))]) [(a, .inl (cA 0, n, .inl g0))] := ⟨hD0.1, fun k q h => List.mem_map.mpr ⟨q, List.mem_of_getElem? h, rfl⟩⟩
  have hS : va_S (wA [(a, .inl (cA 0, n, .inl g0))]) s.heap s.heap [] := va_S.rf
  generalize hAe : wA [(a, .inl (cA 0, n, .inl g0))] = A at hD hS ⊢
  have hP : va_P D vwCl [(a, .inl (cA 0, n, .inl g0))] s.heap := hP
  have hl := lv_entry ([.ref a, .int v]) (n := 4) (Nat.le_of_ble_eq_true rfl)
  rw [lg_entry_eq]
  generalize (lg_sl ([.ref a, .int v]) ++ List.replicate (4 - (lg_sl ([.ref a, .int v])).length) Slot.unset).toArray = ls at hl ⊢
  have hl : lv_has ls 4 [(0, .ref a), (1, .int v)] := hl
  refine lv_iconst (v := 0) hx hb dJ7_fill_53178_0 (by decide) ?_
  refine lv_istore_n (lv' := [(2, .int 0), (0, .ref a), (1, .int v)]) hx hb dJ7_fill_53178_1 rfl hl (by decide) rfl (fun ls hl => ?_)
  refine lv_aload_n hx hb dJ7_fill_53178_2 rfl (lv_at hl 1 rfl) ?_
  refine va_alen (v := (Int32.ofNat n)) hx hb hK hP 0 0 rfl rfl rfl dJ7_fill_53178_3 ?_
  refine lv_istore_n (lv' := [(3, .int (Int32.ofNat n)), (2, .int 0), (0, .ref a), (1, .int v)]) hx hb dJ7_fill_53178_4 rfl hl (by decide) rfl (fun ls hl => ?_)
  have loop5 : ∀ (f k : Nat) (z : Int32) (g : Nat → Int32), z = nI k → n + 1 ≤ k + f → k ≤ n → (∀ j : Nat, j < k → g j = v) → ∀ (H : Heap) (locs : List Loc), va_P D vwCl [(a, .inl (cA 0, n, .inl g))] H → va_D A [(a, .inl (cA 0, n, .inl g))] → va_S A s.heap H locs → ∀ ls : Array Slot, lv_has ls 4 [(0, .ref a), (1, .int v), (2, .int z), (3, .int (Int32.ofNat n))] → W p l e (headSpec wsJ7_fill_53178 ({ frames := 0, cells := 0, slots := 0, locals := 0 })).room s m [.ref a, .int v].toArray below meth c H locs 0 0 (MQ below (wq_x vwCl D [(a, .inl (cA 0, n, .inl (fun _ => v)))] none A) [.ref a, .int v].toArray s 0 0 A) (F0 m 5 ls []) := by
    intro f
    induction f with
    | zero =>
      intro k z g hz h1 h2
      omega
    | succ f ih =>
      intro k z g hz h1 h2 h3 H locs hP hD hS ls hl
      refine lv_iload_n hx hb dJ7_fill_53178_5 rfl (lv_at hl 2 rfl) ?_
      refine lv_iload_n hx hb dJ7_fill_53178_6 rfl (lv_at hl 3 rfl) ?_
      refine lv_icmp_ge (tgt := 20) hx hb dJ7_fill_53178_7 (by decide) (fun c_7 => ?_) (fun c_7 => ?_)
      · skip
        have hP9 : va_P D vwCl [(a, .inl (cA 0, n, .inl (fun _ => v)))] H := fl_P hP (fl_all hz hn h2 h3 c_7)
        exact W.vret hx hb hr (fun t ht hW => ⟨rfl, by rw [ht]; exact hP9, hS.F ht⟩) hS.2.2 dJ7_fill_53178_20
      · skip
        refine lv_aload_n hx hb dJ7_fill_53178_10 rfl (lv_at hl 0 rfl) ?_
        refine lv_iload_n hx hb dJ7_fill_53178_11 rfl (lv_at hl 2 rfl) ?_
        refine lv_iload_n hx hb dJ7_fill_53178_12 rfl (lv_at hl 1 rfl) ?_
        refine va_iast hx hb hK hP hD hS 0 0 rfl rfl (fl_in hz hn h2 c_7) dJ7_fill_53178_13 (fun H locs hP hD hS => ?_)
        have hP : va_P D vwCl [(a, .inl (cA 0, n, .inl (upd g z.toNatClampNeg v)))] H := hP
        have hD : va_D A [(a, .inl (cA 0, n, .inl (upd g z.toNatClampNeg v)))] := hD
        refine lv_iinc (v := (z + 1)) (lv' := [(2, .int (z + 1)), (0, .ref a), (1, .int v), (3, .int (Int32.ofNat n))]) hx hb dJ7_fill_53178_14 hl (k := 2) rfl rfl (by decide) rfl (fun ls hl => ?_)
        refine lv_goto (tgt := 5) hx hb dJ7_fill_53178_17 (by decide) ?_
        exact ih (k + 1) (z + 1) _ (by rw [hz]; exact nI_1 k) (by omega) (fl_lt hz hn h2 c_7) (fl_step hz hn h2 h3 c_7) _ _ hP hD hS ls (lv_sub hl [1, 2, 0, 3] rfl)
  exact loop5 (n + 1) 0 0 g0 rfl (by omega) (by omega) (fun j h => by omega) _ _ hP hD hS ls (lv_sub hl [2, 3, 1, 0] rfl)

set_option maxHeartbeats 4000000 in
set_option maxRecDepth 100000 in
theorem c_X4_clear (l : Launch) (D : va_G) (cA : Nat → ClassId) (h0 : Nat) (a : Nat) (b : Nat) (f : Nat → Int32) (g : Nat → Int32) : Met l yX4_clear wsX4_clear ({ frames := 1, cells := 0, slots := 0, locals := 23 }) (wPc vwCl D cA [(h0, .inr (3, [.ref a, .ref b])), (a, .inl (cA 0, 40, .inl f)), (b, .inl (cA 0, 40, .inl g))] [.ref h0]) (wq_x vwCl D [(h0, .inr (3, [.ref a, .ref b])), (a, .inl (cA 0, 40, .inl (fun _ => -1))), (b, .inl (cA 0, 40, .inl (fun _ => -1)))] none (wA [(h0, .inr (3, [.ref a, .ref b])), (a, .inl (cA 0, 40, .inl f)), (b, .inl (cA 0, 40, .inl g))])) 0 0 (wA [(h0, .inr (3, [.ref a, .ref b])), (a, .inl (cA 0, 40, .inl f)), (b, .inl (cA 0, 40, .inl g))]) := by
  refine Met.ofW (cc := cX4_clear) (maxL := 1) (ret := none) (by decide) rfl ?_
  intro p e s m args below meth c s₁ B hml hv
  obtain ⟨rfl, hP, hK, hD0⟩ := hv
  have hx := B.exec
  have hb := B.bytes
  have hr := B.returns
  have hts := atoms_spec (ws := wsX4_clear) B.pre
  have hown : s.vm.findClass RX4 = some m.cls := findClass_of_methodNamed B.named
  have hlocks := B.notSynchronized
  have hin_X4 : ∀ w ∈ wsX40, w ∈ wsX4_clear := fun w h => List.mem_cons_of_mem _ (List.mem_append_right _ h)
  have w_RX4_9 := hts (.fieldLink RX4 9 "MixElection$Pairs" "firsts" "[I") (by decide +kernel)
  have w_RX4_15 := hts (.fieldLink RX4 15 "MixElection$Pairs" "seconds" "[I") (by decide +kernel)
  have hD : va_D (wA [(h0, .inr (3, [.ref a, .ref b])), (a, .inl (cA 0, 40, .inl f)), (b, .inl (cA 0, 40, .inl g))]) [(h0, .inr (3, [.ref a, .ref b])), (a, .inl (cA 0, 40, .inl f)), (b, .inl (cA 0, 40, .inl g))] := ⟨hD0.1, fun k q h => List.mem_map.mpr ⟨q, List.mem_of_getElem? h, rfl⟩⟩
  have hS : va_S (wA [(h0, .inr (3, [.ref a, .ref b])), (a, .inl (cA 0, 40, .inl f)), (b, .inl (cA 0, 40, .inl g))]) s.heap s.heap [] := va_S.rf
  generalize hAe : wA [(h0, .inr (3, [.ref a, .ref b])), (a, .inl (cA 0, 40, .inl f)), (b, .inl (cA 0, 40, .inl g))] = A at hD hS ⊢
  have hP : va_P D vwCl [(h0, .inr (3, [.ref a, .ref b])), (a, .inl (cA 0, 40, .inl f)), (b, .inl (cA 0, 40, .inl g))] s.heap := hP
  have hl := lv_entry ([.ref h0]) (n := 1) (Nat.le_of_ble_eq_true rfl)
  rw [lg_entry_eq]
  generalize (lg_sl ([.ref h0]) ++ List.replicate (1 - (lg_sl ([.ref h0])).length) Slot.unset).toArray = ls at hl ⊢
  have hl : lv_has ls 1 [(0, .ref h0)] := hl
  refine lv_aload_n hx hb dX4_clear_0 rfl (lv_at hl 0 rfl) ?_
  refine va_get (D := D) (ci := 3) (v := .ref a) (C := RX4) (T := TX4) (N := 2) hx hb hts hin_X4 hown hK hP 0 rfl rfl 0 (by decide) (w_RX4_9) (fun _ h9 => h9) rfl dX4_clear_1 ?_
  refine lv_iconst (v := (-1)) hx hb dX4_clear_4 (by decide) ?_
  refine wq_call0 (wc := [(a, .inl (cA 0, 40, .inl f))]) (w1 := [(a, .inl (cA 0, 40, .inl (fun _ => (-1))))]) (ws' := [(h0, .inr (3, [.ref a, .ref b])), (a, .inl (cA 0, 40, .inl (fun _ => (-1)))), (b, .inl (cA 0, 40, .inl g))]) (wn_S (As := [.ref a, .int (-1)]) (rest := []) ⟨hx, hb, hml, hown, hts⟩ (c_fill l D cA a (-1) 40 f (by decide)) (va_cwS 2 hts gX4_clear_J7_fill_53178 rfl rfl rfl (by decide +kernel) ⟨Nat.le_of_ble_eq_true rfl, Nat.le_of_ble_eq_true rfl⟩) hK hP hD [1] rfl (by decide) rfl rfl hl.1 rfl (Nat.le_of_ble_eq_true rfl) dX4_clear_5 ⟨Nat.le_of_ble_eq_true rfl, Nat.le_of_ble_eq_true rfl⟩) hP hD hS [1] [0, 2] rfl rfl rfl rfl rfl rfl (fun H locs hP hD hS => ?_)
  refine lv_aload_n hx hb dX4_clear_8 rfl (lv_at hl 0 rfl) ?_
  refine va_get (D := D) (ci := 3) (v := .ref b) (C := RX4) (T := TX4) (N := 2) hx hb hts hin_X4 hown hK hP 0 rfl rfl 1 (by decide) (w_RX4_15) (fun _ h9 => h9) rfl dX4_clear_9 ?_
  refine lv_iconst (v := (-1)) hx hb dX4_clear_12 (by decide) ?_
  refine wq_call0 (wc := [(b, .inl (cA 0, 40, .inl g))]) (w1 := [(b, .inl (cA 0, 40, .inl (fun _ => (-1))))]) (ws' := [(h0, .inr (3, [.ref a, .ref b])), (a, .inl (cA 0, 40, .inl (fun _ => (-1)))), (b, .inl (cA 0, 40, .inl (fun _ => (-1))))]) (wn_S (As := [.ref b, .int (-1)]) (rest := []) ⟨hx, hb, hml, hown, hts⟩ (c_fill l D cA b (-1) 40 g (by decide)) (va_cwS 2 hts gX4_clear_J7_fill_53178 rfl rfl rfl (by decide +kernel) ⟨Nat.le_of_ble_eq_true rfl, Nat.le_of_ble_eq_true rfl⟩) hK hP hD [2] rfl (by decide) rfl rfl hl.1 rfl (Nat.le_of_ble_eq_true rfl) dX4_clear_13 ⟨Nat.le_of_ble_eq_true rfl, Nat.le_of_ble_eq_true rfl⟩) hP hD hS [2] [0, 1] rfl rfl rfl rfl rfl rfl (fun H locs hP hD hS => ?_)
  have hP9 : va_P D vwCl [(h0, .inr (3, [.ref a, .ref b])), (a, .inl (cA 0, 40, .inl (fun _ => -1))), (b, .inl (cA 0, 40, .inl (fun _ => -1)))] H := hP
  exact W.vret hx hb hr (fun t ht hW => ⟨rfl, by rw [ht]; exact hP9, hS.F ht⟩) hS.2.2 dX4_clear_16

set_option maxHeartbeats 4000000 in
set_option maxRecDepth 100000 in
theorem c_X2_clear (l : Launch) (D : va_G) (cA : Nat → ClassId) (h0 : Nat) (a : Nat) (b : Nat) (f : Nat → Int32) (g : Nat → Int32) : Met l yX2_clear wsX2_clear ({ frames := 1, cells := 0, slots := 0, locals := 23 }) (wPc vwCl D cA [(h0, .inr (2, [.ref a, .ref b])), (a, .inl (cA 0, 40, .inl f)), (b, .inl (cA 0, 40, .inl g))] [.ref h0]) (wq_x vwCl D [(h0, .inr (2, [.ref a, .ref b])), (a, .inl (cA 0, 40, .inl (fun _ => -1))), (b, .inl (cA 0, 40, .inl (fun _ => -1)))] none (wA [(h0, .inr (2, [.ref a, .ref b])), (a, .inl (cA 0, 40, .inl f)), (b, .inl (cA 0, 40, .inl g))])) 0 0 (wA [(h0, .inr (2, [.ref a, .ref b])), (a, .inl (cA 0, 40, .inl f)), (b, .inl (cA 0, 40, .inl g))]) := by
  refine Met.ofW (cc := cX2_clear) (maxL := 1) (ret := none) (by decide) rfl ?_
  intro p e s m args below meth c s₁ B hml hv
  obtain ⟨rfl, hP, hK, hD0⟩ := hv
  have hx := B.exec
  have hb := B.bytes
  have hr := B.returns
  have hts := atoms_spec (ws := wsX2_clear) B.pre
  have hown : s.vm.findClass RX2 = some m.cls := findClass_of_methodNamed B.named
  have hlocks := B.notSynchronized
  have hin_X2 : ∀ w ∈ wsX20, w ∈ wsX2_clear := fun w h => List.mem_cons_of_mem _ (List.mem_append_right _ h)
  have w_RX2_9 := hts (.fieldLink RX2 9 "MixElection$Moves" "targets" "[I") (by decide +kernel)
  have w_RX2_15 := hts (.fieldLink RX2 15 "MixElection$Moves" "exponents" "[I") (by decide +kernel)
  have hD : va_D (wA [(h0, .inr (2, [.ref a, .ref b])), (a, .inl (cA 0, 40, .inl f)), (b, .inl (cA 0, 40, .inl g))]) [(h0, .inr (2, [.ref a, .ref b])), (a, .inl (cA 0, 40, .inl f)), (b, .inl (cA 0, 40, .inl g))] := ⟨hD0.1, fun k q h => List.mem_map.mpr ⟨q, List.mem_of_getElem? h, rfl⟩⟩
  have hS : va_S (wA [(h0, .inr (2, [.ref a, .ref b])), (a, .inl (cA 0, 40, .inl f)), (b, .inl (cA 0, 40, .inl g))]) s.heap s.heap [] := va_S.rf
  generalize hAe : wA [(h0, .inr (2, [.ref a, .ref b])), (a, .inl (cA 0, 40, .inl f)), (b, .inl (cA 0, 40, .inl g))] = A at hD hS ⊢
  have hP : va_P D vwCl [(h0, .inr (2, [.ref a, .ref b])), (a, .inl (cA 0, 40, .inl f)), (b, .inl (cA 0, 40, .inl g))] s.heap := hP
  have hl := lv_entry ([.ref h0]) (n := 1) (Nat.le_of_ble_eq_true rfl)
  rw [lg_entry_eq]
  generalize (lg_sl ([.ref h0]) ++ List.replicate (1 - (lg_sl ([.ref h0])).length) Slot.unset).toArray = ls at hl ⊢
  have hl : lv_has ls 1 [(0, .ref h0)] := hl
  refine lv_aload_n hx hb dX2_clear_0 rfl (lv_at hl 0 rfl) ?_
  refine va_get (D := D) (ci := 2) (v := .ref a) (C := RX2) (T := TX2) (N := 2) hx hb hts hin_X2 hown hK hP 0 rfl rfl 0 (by decide) (w_RX2_9) (fun _ h9 => h9) rfl dX2_clear_1 ?_
  refine lv_iconst (v := (-1)) hx hb dX2_clear_4 (by decide) ?_
  refine wq_call0 (wc := [(a, .inl (cA 0, 40, .inl f))]) (w1 := [(a, .inl (cA 0, 40, .inl (fun _ => (-1))))]) (ws' := [(h0, .inr (2, [.ref a, .ref b])), (a, .inl (cA 0, 40, .inl (fun _ => (-1)))), (b, .inl (cA 0, 40, .inl g))]) (wn_S (As := [.ref a, .int (-1)]) (rest := []) ⟨hx, hb, hml, hown, hts⟩ (c_fill l D cA a (-1) 40 f (by decide)) (va_cwS 2 hts gX2_clear_J7_fill_53178 rfl rfl rfl (by decide +kernel) ⟨Nat.le_of_ble_eq_true rfl, Nat.le_of_ble_eq_true rfl⟩) hK hP hD [1] rfl (by decide) rfl rfl hl.1 rfl (Nat.le_of_ble_eq_true rfl) dX2_clear_5 ⟨Nat.le_of_ble_eq_true rfl, Nat.le_of_ble_eq_true rfl⟩) hP hD hS [1] [0, 2] rfl rfl rfl rfl rfl rfl (fun H locs hP hD hS => ?_)
  refine lv_aload_n hx hb dX2_clear_8 rfl (lv_at hl 0 rfl) ?_
  refine va_get (D := D) (ci := 2) (v := .ref b) (C := RX2) (T := TX2) (N := 2) hx hb hts hin_X2 hown hK hP 0 rfl rfl 1 (by decide) (w_RX2_15) (fun _ h9 => h9) rfl dX2_clear_9 ?_
  refine lv_iconst (v := (-1)) hx hb dX2_clear_12 (by decide) ?_
  refine wq_call0 (wc := [(b, .inl (cA 0, 40, .inl g))]) (w1 := [(b, .inl (cA 0, 40, .inl (fun _ => (-1))))]) (ws' := [(h0, .inr (2, [.ref a, .ref b])), (a, .inl (cA 0, 40, .inl (fun _ => (-1)))), (b, .inl (cA 0, 40, .inl (fun _ => (-1))))]) (wn_S (As := [.ref b, .int (-1)]) (rest := []) ⟨hx, hb, hml, hown, hts⟩ (c_fill l D cA b (-1) 40 g (by decide)) (va_cwS 2 hts gX2_clear_J7_fill_53178 rfl rfl rfl (by decide +kernel) ⟨Nat.le_of_ble_eq_true rfl, Nat.le_of_ble_eq_true rfl⟩) hK hP hD [2] rfl (by decide) rfl rfl hl.1 rfl (Nat.le_of_ble_eq_true rfl) dX2_clear_13 ⟨Nat.le_of_ble_eq_true rfl, Nat.le_of_ble_eq_true rfl⟩) hP hD hS [2] [0, 1] rfl rfl rfl rfl rfl rfl (fun H locs hP hD hS => ?_)
  have hP9 : va_P D vwCl [(h0, .inr (2, [.ref a, .ref b])), (a, .inl (cA 0, 40, .inl (fun _ => -1))), (b, .inl (cA 0, 40, .inl (fun _ => -1)))] H := hP
  exact W.vret hx hb hr (fun t ht hW => ⟨rfl, by rw [ht]; exact hP9, hS.F ht⟩) hS.2.2 dX2_clear_16
end
section
set_option maxRecDepth 20000 in
theorem ggX2_init_X2_clear : GoodIn wsX2_init wsX2_clear := goodIn_r _ [11, 5, 6, 12, 13, 14, 15, 16, 17] (by decide +kernel) (by decide +kernel)
set_option maxRecDepth 20000 in
theorem gX2_init_X2_clear : GoodIn wsX2_init (wsV RX2 18 RX2 yX2_clear wsX2_clear) := goodIn_app (goodIn_of _ (by decide +kernel)) ggX2_init_X2_clear
theorem dX2_init_0 : decode cX2_init 0 = .ok (.aload_n 0, 1) := by decide +kernel
theorem dX2_init_1 : decode cX2_init 1 = .ok (.invokespecial 3, 3) := by decide +kernel
theorem dX2_init_4 : decode cX2_init 4 = .ok (.aload_n 0, 1) := by decide +kernel
theorem dX2_init_5 : decode cX2_init 5 = .ok (.bipush 40, 2) := by decide +kernel
theorem dX2_init_7 : decode cX2_init 7 = .ok (.newarray .int, 2) := by decide +kernel
theorem dX2_init_9 : decode cX2_init 9 = .ok (.putfield 9, 3) := by decide +kernel
theorem dX2_init_12 : decode cX2_init 12 = .ok (.aload_n 0, 1) := by decide +kernel
theorem dX2_init_13 : decode cX2_init 13 = .ok (.bipush 40, 2) := by decide +kernel
theorem dX2_init_15 : decode cX2_init 15 = .ok (.newarray .int, 2) := by decide +kernel
theorem dX2_init_17 : decode cX2_init 17 = .ok (.putfield 15, 3) := by decide +kernel
theorem dX2_init_20 : decode cX2_init 20 = .ok (.aload_n 0, 1) := by decide +kernel
theorem dX2_init_21 : decode cX2_init 21 = .ok (.invokevirtual 18, 3) := by decide +kernel
theorem dX2_init_24 : decode cX2_init 24 = .ok (.return_, 1) := by decide +kernel
set_option maxRecDepth 20000 in
theorem ggX4_init_X4_clear : GoodIn wsX4_init wsX4_clear := goodIn_r _ [11, 5, 6, 12, 13, 14, 15, 16, 17] (by decide +kernel) (by decide +kernel)
set_option maxRecDepth 20000 in
theorem gX4_init_X4_clear : GoodIn wsX4_init (wsV RX4 18 RX4 yX4_clear wsX4_clear) := goodIn_app (goodIn_of _ (by decide +kernel)) ggX4_init_X4_clear
theorem dX4_init_0 : decode cX4_init 0 = .ok (.aload_n 0, 1) := by decide +kernel
theorem dX4_init_1 : decode cX4_init 1 = .ok (.invokespecial 3, 3) := by decide +kernel
theorem dX4_init_4 : decode cX4_init 4 = .ok (.aload_n 0, 1) := by decide +kernel
theorem dX4_init_5 : decode cX4_init 5 = .ok (.bipush 40, 2) := by decide +kernel
theorem dX4_init_7 : decode cX4_init 7 = .ok (.newarray .int, 2) := by decide +kernel
theorem dX4_init_9 : decode cX4_init 9 = .ok (.putfield 9, 3) := by decide +kernel
theorem dX4_init_12 : decode cX4_init 12 = .ok (.aload_n 0, 1) := by decide +kernel
theorem dX4_init_13 : decode cX4_init 13 = .ok (.bipush 40, 2) := by decide +kernel
theorem dX4_init_15 : decode cX4_init 15 = .ok (.newarray .int, 2) := by decide +kernel
theorem dX4_init_17 : decode cX4_init 17 = .ok (.putfield 15, 3) := by decide +kernel
theorem dX4_init_20 : decode cX4_init 20 = .ok (.aload_n 0, 1) := by decide +kernel
theorem dX4_init_21 : decode cX4_init 21 = .ok (.invokevirtual 18, 3) := by decide +kernel
theorem dX4_init_24 : decode cX4_init 24 = .ok (.return_, 1) := by decide +kernel
set_option maxHeartbeats 4000000 in
set_option maxRecDepth 100000 in
theorem c_X4_init (l : Launch) (D : va_G) (cA : Nat → ClassId) (h0 : Nat) (sz : Nat) : Met l yX4_init wsX4_init ({ frames := 2, cells := 2, slots := 80, locals := 43 }) (iPc vwCl D cA sz [(h0, .inr (3, [.null, .null]))] [.ref h0]) (va_Qv (fun _ : Nat × Nat => True) (fun (u : Nat × Nat) (t : State) => va_P D vwCl [(h0, .inr (3, [.ref u.1, .ref u.2])), (u.1, .inl (cA 0, 40, .inl (fun _ => -1))), (u.2, .inl (cA 0, 40, .inl (fun _ => -1)))] t.heap ∧ va_K D vwCl (tyS cA) t ∧ va_D (va_A [(h0, .inr (3, [.null, .null]))] sz) [(h0, .inr (3, [.ref u.1, .ref u.2])), (u.1, .inl (cA 0, 40, .inl (fun _ => -1))), (u.2, .inl (cA 0, 40, .inl (fun _ => -1)))]) (va_A [(h0, .inr (3, [.null, .null]))] sz)) 2 80 (va_A [(h0, .inr (3, [.null, .null]))] sz) := by
  refine Met.ofW (cc := cX4_init) (maxL := 1) (ret := none) (by decide) rfl ?_
  intro p e s m args below meth c s₁ B hml hv
  obtain ⟨rfl, hsz, hP, hK, hD0, hX⟩ := hv
  have hx := B.exec
  have hb := B.bytes
  have hr := B.returns
  have hts := atoms_spec (ws := wsX4_init) B.pre
  have hown : s.vm.findClass RX4 = some m.cls := findClass_of_methodNamed B.named
  have hlocks := B.notSynchronized
  have hin : meth.name = "<init>" := (name_of_methodNamed B.named B.method).1
  have hin_X4 : ∀ w ∈ wsX40, w ∈ wsX4_init := fun w h => List.mem_cons_of_mem _ (List.mem_append_right _ h)
  have w_RX4_9 := hts (.fieldLink RX4 9 "MixElection$Pairs" "firsts" "[I") (by decide +kernel)
  have w_RX4_15 := hts (.fieldLink RX4 15 "MixElection$Pairs" "seconds" "[I") (by decide +kernel)
  subst hsz
  have hD := hD0.self (sz := s.heap.size)
  generalize hAe : va_A [(h0, .inr (3, [.null, .null]))] s.heap.size = A at hD ⊢
  have hA : ∀ q : Nat, s.heap.size ≤ q → A q := fun q h => by rw [← hAe]; exact Or.inr h
  have hS : va_S A s.heap s.heap [] := va_S.rf
  have hP : va_P D vwCl [(h0, .inr (3, [.null, .null]))] s.heap := hP
  have hl := lv_entry ([.ref h0]) (n := 1) (Nat.le_of_ble_eq_true rfl)
  rw [lg_entry_eq]
  generalize (lg_sl ([.ref h0]) ++ List.replicate (1 - (lg_sl ([.ref h0])).length) Slot.unset).toArray = ls at hl ⊢
  have hl : lv_has ls 1 [(0, .ref h0)] := hl
  refine lv_aload_n hx hb dX4_init_0 rfl (lv_at hl 0 rfl) ?_
  refine W.objInit hx hb hown (hts (.methodLink RX4 3 objectInit) (by decide +kernel)) (hts (.instanceMethod objectInit) (by decide +kernel)) (hts (.code objectInit ⟨#[0xb1]⟩ 1 none) (by decide +kernel)) rfl (by rw [hml]; exact hl.1) rfl dX4_init_1 (Nat.le_of_ble_eq_true rfl) (Nat.le_of_ble_eq_true rfl) ?_
  refine W.eq (g2 := F0 m 4 ls []) rfl ?_
  refine lv_aload_n hx hb dX4_init_4 rfl (lv_at hl 0 rfl) ?_
  refine lv_bipush (v := 40) hx hb dX4_init_5 (by decide) ?_
  refine ka_newa (atype := .int) (ty := .int) (N' := 40) (n := 40) (a0 := (40, .inl (fun _ => 0))) hx hb (hts (.arrayClass .int) (by decide +kernel)) rfl hK hP hD hS hA 0 rfl (fun _ => rfl) (by decide) rfl (by decide) (Nat.le_of_ble_eq_true rfl) (Nat.le_of_ble_eq_true rfl) dX4_init_7 (fun q7 H hP hD hS => ?_)
  refine W.widen (k := 1) (n := 40) (by omega) (by omega) ?_
  have hP : va_P D vwCl [(h0, .inr (3, [.null, .null])), (q7, .inl (cA 0, 40, .inl (fun _ => 0)))] H := hP
  have hD : va_D A [(h0, .inr (3, [.null, .null])), (q7, .inl (cA 0, 40, .inl (fun _ => 0)))] := hD
  refine va_putF (D := D) (ci := 3) (v := .ref q7) (ty := (.array .int)) (C := RX4) (T := TX4) (N := 2) hx hb hts hin_X4 tyX4 tyX4_ok nmX4 hown hK hP hD hS 0 rfl rfl 0 (by decide) (w_RX4_9) (fun _ h9 => h9) rfl hin rfl (by decide +kernel) rfl rfl (Nat.le_of_ble_eq_true rfl) dX4_init_9 (fun H locs hP hD hS => ?_)
  have hP : va_P D vwCl [(h0, .inr (3, [.ref q7, .null])), (q7, .inl (cA 0, 40, .inl (fun _ => 0)))] H := hP
  have hD : va_D A [(h0, .inr (3, [.ref q7, .null])), (q7, .inl (cA 0, 40, .inl (fun _ => 0)))] := hD
  refine lv_aload_n hx hb dX4_init_12 rfl (lv_at hl 0 rfl) ?_
  refine lv_bipush (v := 40) hx hb dX4_init_13 (by decide) ?_
  refine ka_newa (atype := .int) (ty := .int) (N' := 40) (n := 40) (a0 := (40, .inl (fun _ => 0))) hx hb (hts (.arrayClass .int) (by decide +kernel)) rfl hK hP hD hS hA 0 rfl (fun _ => rfl) (by decide) rfl (by decide) (Nat.le_of_ble_eq_true rfl) (Nat.le_of_ble_eq_true rfl) dX4_init_15 (fun q15 H hP hD hS => ?_)
  refine W.widen (k := 2) (n := 80) (by omega) (by omega) ?_
  have hP : va_P D vwCl [(h0, .inr (3, [.ref q7, .null])), (q7, .inl (cA 0, 40, .inl (fun _ => 0))), (q15, .inl (cA 0, 40, .inl (fun _ => 0)))] H := hP
  have hD : va_D A [(h0, .inr (3, [.ref q7, .null])), (q7, .inl (cA 0, 40, .inl (fun _ => 0))), (q15, .inl (cA 0, 40, .inl (fun _ => 0)))] := hD
  refine va_putF (D := D) (ci := 3) (v := .ref q15) (ty := (.array .int)) (C := RX4) (T := TX4) (N := 2) hx hb hts hin_X4 tyX4 tyX4_ok nmX4 hown hK hP hD hS 0 rfl rfl 1 (by decide) (w_RX4_15) (fun _ h9 => h9) rfl hin rfl (by decide +kernel) rfl rfl (Nat.le_of_ble_eq_true rfl) dX4_init_17 (fun H locs hP hD hS => ?_)
  have hP : va_P D vwCl [(h0, .inr (3, [.ref q7, .ref q15])), (q7, .inl (cA 0, 40, .inl (fun _ => 0))), (q15, .inl (cA 0, 40, .inl (fun _ => 0)))] H := hP
  have hD : va_D A [(h0, .inr (3, [.ref q7, .ref q15])), (q7, .inl (cA 0, 40, .inl (fun _ => 0))), (q15, .inl (cA 0, 40, .inl (fun _ => 0)))] := hD
  refine lv_aload_n hx hb dX4_init_20 rfl (lv_at hl 0 rfl) ?_
  refine wq_call0 (wc := [(h0, .inr (3, [.ref q7, .ref q15])), (q7, .inl (cA 0, 40, .inl (fun _ => 0))), (q15, .inl (cA 0, 40, .inl (fun _ => 0)))]) (w1 := [(h0, .inr (3, [.ref q7, .ref q15])), (q7, .inl (cA 0, 40, .inl (fun _ => -1))), (q15, .inl (cA 0, 40, .inl (fun _ => -1)))]) (ws' := [(h0, .inr (3, [.ref q7, .ref q15])), (q7, .inl (cA 0, 40, .inl (fun _ => -1))), (q15, .inl (cA 0, 40, .inl (fun _ => -1)))]) (wn_V (As := []) (rest := []) (ci := 3) (fs := [.ref q7, .ref q15]) ⟨hx, hb, hml, hown, hts⟩ (c_X4_clear l D cA h0 q7 q15 (fun _ => 0) (fun _ => 0)) rfl (cwV 0 hts gX4_init_X4_clear rfl rfl rfl (by decide +kernel) ⟨Nat.le_of_ble_eq_true rfl, Nat.le_of_ble_eq_true rfl⟩) hK hP hD [0, 1, 2] rfl (by decide) rfl rfl rfl hl.1 rfl (Nat.le_of_ble_eq_true rfl) dX4_init_21 ⟨Nat.le_of_ble_eq_true rfl, Nat.le_of_ble_eq_true rfl⟩) hP hD hS [0, 1, 2] [] rfl rfl rfl rfl rfl rfl (fun H locs hP hD hS => ?_)
  refine W.widen (k := 2) (n := 80) (by omega) (by omega) ?_
  have hP9 := hP.sub (ws' := [(h0, .inr (3, [.ref q7, .ref q15])), (q7, .inl (cA 0, 40, .inl (fun _ => -1))), (q15, .inl (cA 0, 40, .inl (fun _ => -1)))]) [0, 1, 2] rfl
  have hD9 := hD.sub (ws' := [(h0, .inr (3, [.ref q7, .ref q15])), (q7, .inl (cA 0, 40, .inl (fun _ => -1))), (q15, .inl (cA 0, 40, .inl (fun _ => -1)))]) [0, 1, 2] (by decide) rfl
  exact W.vret hx hb hr (fun t ht hW => ⟨⟨(q7, q15), rfl, trivial, by rw [ht]; exact hP9, va_K.moved hW.alike hK, hD9⟩, hS.F ht⟩) hS.2.2 dX4_init_24

set_option maxHeartbeats 4000000 in
set_option maxRecDepth 100000 in
theorem c_X2_init (l : Launch) (D : va_G) (cA : Nat → ClassId) (h0 : Nat) (sz : Nat) : Met l yX2_init wsX2_init ({ frames := 2, cells := 2, slots := 80, locals := 43 }) (iPc vwCl D cA sz [(h0, .inr (2, [.null, .null]))] [.ref h0]) (va_Qv (fun _ : Nat × Nat => True) (fun (u : Nat × Nat) (t : State) => va_P D vwCl [(h0, .inr (2, [.ref u.1, .ref u.2])), (u.1, .inl (cA 0, 40, .inl (fun _ => -1))), (u.2, .inl (cA 0, 40, .inl (fun _ => -1)))] t.heap ∧ va_K D vwCl (tyS cA) t ∧ va_D (va_A [(h0, .inr (2, [.null, .null]))] sz) [(h0, .inr (2, [.ref u.1, .ref u.2])), (u.1, .inl (cA 0, 40, .inl (fun _ => -1))), (u.2, .inl (cA 0, 40, .inl (fun _ => -1)))]) (va_A [(h0, .inr (2, [.null, .null]))] sz)) 2 80 (va_A [(h0, .inr (2, [.null, .null]))] sz) := by
  refine Met.ofW (cc := cX2_init) (maxL := 1) (ret := none) (by decide) rfl ?_
  intro p e s m args below meth c s₁ B hml hv
  obtain ⟨rfl, hsz, hP, hK, hD0, hX⟩ := hv
  have hx := B.exec
  have hb := B.bytes
  have hr := B.returns
  have hts := atoms_spec (ws := wsX2_init) B.pre
  have hown : s.vm.findClass RX2 = some m.cls := findClass_of_methodNamed B.named
  have hlocks := B.notSynchronized
  have hin : meth.name = "<init>" := (name_of_methodNamed B.named B.method).1
  have hin_X2 : ∀ w ∈ wsX20, w ∈ wsX2_init := fun w h => List.mem_cons_of_mem _ (List.mem_append_right _ h)
  have w_RX2_9 := hts (.fieldLink RX2 9 "MixElection$Moves" "targets" "[I") (by decide +kernel)
  have w_RX2_15 := hts (.fieldLink RX2 15 "MixElection$Moves" "exponents" "[I") (by decide +kernel)
  subst hsz
  have hD := hD0.self (sz := s.heap.size)
  generalize hAe : va_A [(h0, .inr (2, [.null, .null]))] s.heap.size = A at hD ⊢
  have hA : ∀ q : Nat, s.heap.size ≤ q → A q := fun q h => by rw [← hAe]; exact Or.inr h
  have hS : va_S A s.heap s.heap [] := va_S.rf
  have hP : va_P D vwCl [(h0, .inr (2, [.null, .null]))] s.heap := hP
  have hl := lv_entry ([.ref h0]) (n := 1) (Nat.le_of_ble_eq_true rfl)
  rw [lg_entry_eq]
  generalize (lg_sl ([.ref h0]) ++ List.replicate (1 - (lg_sl ([.ref h0])).length) Slot.unset).toArray = ls at hl ⊢
  have hl : lv_has ls 1 [(0, .ref h0)] := hl
  refine lv_aload_n hx hb dX2_init_0 rfl (lv_at hl 0 rfl) ?_
  refine W.objInit hx hb hown (hts (.methodLink RX2 3 objectInit) (by decide +kernel)) (hts (.instanceMethod objectInit) (by decide +kernel)) (hts (.code objectInit ⟨#[0xb1]⟩ 1 none) (by decide +kernel)) rfl (by rw [hml]; exact hl.1) rfl dX2_init_1 (Nat.le_of_ble_eq_true rfl) (Nat.le_of_ble_eq_true rfl) ?_
  refine W.eq (g2 := F0 m 4 ls []) rfl ?_
  refine lv_aload_n hx hb dX2_init_4 rfl (lv_at hl 0 rfl) ?_
  refine lv_bipush (v := 40) hx hb dX2_init_5 (by decide) ?_
  refine ka_newa (atype := .int) (ty := .int) (N' := 40) (n := 40) (a0 := (40, .inl (fun _ => 0))) hx hb (hts (.arrayClass .int) (by decide +kernel)) rfl hK hP hD hS hA 0 rfl (fun _ => rfl) (by decide) rfl (by decide) (Nat.le_of_ble_eq_true rfl) (Nat.le_of_ble_eq_true rfl) dX2_init_7 (fun q7 H hP hD hS => ?_)
  refine W.widen (k := 1) (n := 40) (by omega) (by omega) ?_
  have hP : va_P D vwCl [(h0, .inr (2, [.null, .null])), (q7, .inl (cA 0, 40, .inl (fun _ => 0)))] H := hP
  have hD : va_D A [(h0, .inr (2, [.null, .null])), (q7, .inl (cA 0, 40, .inl (fun _ => 0)))] := hD
  refine va_putF (D := D) (ci := 2) (v := .ref q7) (ty := (.array .int)) (C := RX2) (T := TX2) (N := 2) hx hb hts hin_X2 tyX2 tyX2_ok nmX2 hown hK hP hD hS 0 rfl rfl 0 (by decide) (w_RX2_9) (fun _ h9 => h9) rfl hin rfl (by decide +kernel) rfl rfl (Nat.le_of_ble_eq_true rfl) dX2_init_9 (fun H locs hP hD hS => ?_)
  have hP : va_P D vwCl [(h0, .inr (2, [.ref q7, .null])), (q7, .inl (cA 0, 40, .inl (fun _ => 0)))] H := hP
  have hD : va_D A [(h0, .inr (2, [.ref q7, .null])), (q7, .inl (cA 0, 40, .inl (fun _ => 0)))] := hD
  refine lv_aload_n hx hb dX2_init_12 rfl (lv_at hl 0 rfl) ?_
  refine lv_bipush (v := 40) hx hb dX2_init_13 (by decide) ?_
  refine ka_newa (atype := .int) (ty := .int) (N' := 40) (n := 40) (a0 := (40, .inl (fun _ => 0))) hx hb (hts (.arrayClass .int) (by decide +kernel)) rfl hK hP hD hS hA 0 rfl (fun _ => rfl) (by decide) rfl (by decide) (Nat.le_of_ble_eq_true rfl) (Nat.le_of_ble_eq_true rfl) dX2_init_15 (fun q15 H hP hD hS => ?_)
  refine W.widen (k := 2) (n := 80) (by omega) (by omega) ?_
  have hP : va_P D vwCl [(h0, .inr (2, [.ref q7, .null])), (q7, .inl (cA 0, 40, .inl (fun _ => 0))), (q15, .inl (cA 0, 40, .inl (fun _ => 0)))] H := hP
  have hD : va_D A [(h0, .inr (2, [.ref q7, .null])), (q7, .inl (cA 0, 40, .inl (fun _ => 0))), (q15, .inl (cA 0, 40, .inl (fun _ => 0)))] := hD
  refine va_putF (D := D) (ci := 2) (v := .ref q15) (ty := (.array .int)) (C := RX2) (T := TX2) (N := 2) hx hb hts hin_X2 tyX2 tyX2_ok nmX2 hown hK hP hD hS 0 rfl rfl 1 (by decide) (w_RX2_15) (fun _ h9 => h9) rfl hin rfl (by decide +kernel) rfl rfl (Nat.le_of_ble_eq_true rfl) dX2_init_17 (fun H locs hP hD hS => ?_)
  have hP : va_P D vwCl [(h0, .inr (2, [.ref q7, .ref q15])), (q7, .inl (cA 0, 40, .inl (fun _ => 0))), (q15, .inl (cA 0, 40, .inl (fun _ => 0)))] H := hP
  have hD : va_D A [(h0, .inr (2, [.ref q7, .ref q15])), (q7, .inl (cA 0, 40, .inl (fun _ => 0))), (q15, .inl (cA 0, 40, .inl (fun _ => 0)))] := hD
  refine lv_aload_n hx hb dX2_init_20 rfl (lv_at hl 0 rfl) ?_
  refine wq_call0 (wc := [(h0, .inr (2, [.ref q7, .ref q15])), (q7, .inl (cA 0, 40, .inl (fun _ => 0))), (q15, .inl (cA 0, 40, .inl (fun _ => 0)))]) (w1 := [(h0, .inr (2, [.ref q7, .ref q15])), (q7, .inl (cA 0, 40, .inl (fun _ => -1))), (q15, .inl (cA 0, 40, .inl (fun _ => -1)))]) (ws' := [(h0, .inr (2, [.ref q7, .ref q15])), (q7, .inl (cA 0, 40, .inl (fun _ => -1))), (q15, .inl (cA 0, 40, .inl (fun _ => -1)))]) (wn_V (As := []) (rest := []) (ci := 2) (fs := [.ref q7, .ref q15]) ⟨hx, hb, hml, hown, hts⟩ (c_X2_clear l D cA h0 q7 q15 (fun _ => 0) (fun _ => 0)) rfl (cwV 0 hts gX2_init_X2_clear rfl rfl rfl (by decide +kernel) ⟨Nat.le_of_ble_eq_true rfl, Nat.le_of_ble_eq_true rfl⟩) hK hP hD [0, 1, 2] rfl (by decide) rfl rfl rfl hl.1 rfl (Nat.le_of_ble_eq_true rfl) dX2_init_21 ⟨Nat.le_of_ble_eq_true rfl, Nat.le_of_ble_eq_true rfl⟩) hP hD hS [0, 1, 2] [] rfl rfl rfl rfl rfl rfl (fun H locs hP hD hS => ?_)
  refine W.widen (k := 2) (n := 80) (by omega) (by omega) ?_
  have hP9 := hP.sub (ws' := [(h0, .inr (2, [.ref q7, .ref q15])), (q7, .inl (cA 0, 40, .inl (fun _ => -1))), (q15, .inl (cA 0, 40, .inl (fun _ => -1)))]) [0, 1, 2] rfl
  have hD9 := hD.sub (ws' := [(h0, .inr (2, [.ref q7, .ref q15])), (q7, .inl (cA 0, 40, .inl (fun _ => -1))), (q15, .inl (cA 0, 40, .inl (fun _ => -1)))]) [0, 1, 2] (by decide) rfl
  exact W.vret hx hb hr (fun t ht hW => ⟨⟨(q7, q15), rfl, trivial, by rw [ht]; exact hP9, va_K.moved hW.alike hK, hD9⟩, hS.F ht⟩) hS.2.2 dX2_init_24
end
section
/-! new int[n][m]: that it comes to its end, and that what was there stays. -/
def mu_O (c : ClassId) (N h0 : Nat) : Nat → Cell
  | 0 => { cls := c, slots := Array.replicate N .null, vm := .none }
  | i + 1 => (mu_O c N h0 i).setSlot i (.ref (h0 + 1 + i))
def mu_F (s : State) (c comp : ClassId) (N M : Nat) : Nat → State
  | 0 => s.pushCell (mu_O c N s.heap.size 0)
  | i + 1 => ((mu_F s c comp N M i).pushCell { cls := comp, slots := Array.replicate M (.int 0), vm := .none }).setCell s.heap.size (mu_O c N s.heap.size (i + 1))
theorem mu_Of (c : ClassId) (N h0 : Nat) : ∀ i : Nat, (mu_O c N h0 i).cls = c ∧ (mu_O c N h0 i).vm = .none ∧ (mu_O c N h0 i).slots.size = N
  | 0 => ⟨rfl, rfl, by simp [mu_O]⟩
  | i + 1 => by
    have h := mu_Of c N h0 i
    simp [mu_O, Cell.setSlot, h]
theorem mu_Ff (s : State) (c comp : ClassId) (N M : Nat) : ∀ i : Nat, (mu_F s c comp N M i).heap.size = s.heap.size + 1 + i ∧ (mu_F s c comp N M i).heap[s.heap.size]? = some (mu_O c N s.heap.size i) ∧ (mu_F s c comp N M i).vm = s.vm ∧ ∀ a : Nat, a < s.heap.size → (mu_F s c comp N M i).heap[a]? = s.heap[a]?
  | 0 => ⟨by simp [mu_F], by simp [mu_F], rfl, fun a h => State.heap_pushCell_of_lt _ _ h⟩
  | i + 1 => by
    obtain ⟨h1, h2, h3, h4⟩ := mu_Ff s c comp N M i
    have hlt : s.heap.size < (mu_F s c comp N M i).heap.size := by omega
    have hb : ((mu_F s c comp N M i).pushCell { cls := comp, slots := Array.replicate M (.int 0), vm := .none }).heap[s.heap.size]? = some (mu_O c N s.heap.size i) := by
      rw [State.heap_pushCell_of_lt (h := hlt)]; exact h2
    refine ⟨?_, State.heap_setCell_self hb, h3, fun a ha => ?_⟩
    · simp [mu_F, State.setCell, h1]; omega
    · show (((mu_F s c comp N M i).pushCell _).setCell s.heap.size _).heap[a]? = _
      have hla : a < (mu_F s c comp N M i).heap.size := by omega
      rw [State.heap_setCell_other (Nat.ne_of_gt ha), State.heap_pushCell_of_lt (h := hla)]
      exact h4 a ha
theorem mu_Ft (s : State) (f : JFrame) (c comp : ClassId) (N M : Nat) : ∀ i : Nat, mu_F (s.setTop f) c comp N M i = (mu_F s c comp N M i).setTop f
  | 0 => rfl
  | i + 1 => by simp only [mu_F, mu_Ft s f c comp N M i, State.heap_setTop, State.pushCell_setTop, State.setCell_setTop]
section MU
variable {p : Program} {l : Launch} {e : Env} {R : Room} {s : State} {m : MethodId} {args : Array Value} {below : List Frame} {meth : Method} {c : Code} {T : State} {locs : List Loc} {cells slots : Nat}
theorem mu_S (X : Stand p l e R s m args below meth c T locs cells slots) (cG comp : ClassId) (N M : Nat) : ∀ i : Nat, ∃ L : List Loc, (∀ q ∈ L, q.base = T.heap.size) ∧ Stand p l e R s m args below meth c (mu_F T cG comp N M i) (locs ++ L) (cells + 1 + i) (slots + N + i * M)
  | 0 => by
    have h := X.pushed (mu_O cG N T.heap.size 0)
    rw [(mu_Of cG N T.heap.size 0).2.2] at h
    exact ⟨[], (fun q h => by cases h), by simpa [mu_F] using h⟩
  | i + 1 => by
    obtain ⟨L, hL, Xi⟩ := mu_S X cG comp N M i
    obtain ⟨h1, h2, h3, h4⟩ := mu_Ff T cG comp N M i
    have hlt : T.heap.size < (mu_F T cG comp N M i).heap.size := by omega
    have hb : ((mu_F T cG comp N M i).pushCell { cls := comp, slots := Array.replicate M (.int 0), vm := .none }).heap[T.heap.size]? = some (mu_O cG N T.heap.size i) := by
      rw [State.heap_pushCell_of_lt (h := hlt)]; exact h2
    have h := (Xi.pushed { cls := comp, slots := Array.replicate M (.int 0), vm := .none }).stored hb i (.ref (T.heap.size + 1 + i))
    refine ⟨L ++ [⟨T.heap.size, i⟩], fun q hq => ?_, ?_⟩
    · rcases List.mem_append.mp hq with hq | hq
      · exact hL q hq
      · rw [List.mem_singleton.mp hq]
    · rw [← List.append_assoc, show cells + 1 + (i + 1) = cells + 1 + i + 1 from rfl, show slots + N + (i + 1) * M = slots + N + i * M + M by rw [Nat.succ_mul]; omega]
      simpa [mu_F, mu_O] using h
variable {E : CtlPost} {d : Bool} {acts : List Action} {u : State}
theorem mu_wp1 {comp cc : ClassId} {kc : Class} {k : Int32} (hkc : u.vm.classes[comp]? = some kc) (hkind : kc.kind = .array cc .int) (hk : ¬ k < 0) (hl : ¬ k.toNatClampNeg > e.platform.arrayLengthLimit) (hh : ¬ k.toNatClampNeg * 4 > e.platform.maxHeapBytes) (h1 : u.heap.size < e.platform.maxCells) (h2 : u.slotsUsed + k.toNatClampNeg ≤ e.platform.maxSlots)
    {Q : Addr → Pre} (hq : ∀ acts', Q u.heap.size d acts' (u.pushCell { cls := comp, slots := Array.replicate k.toNatClampNeg (.int 0), vm := .none })) : wp (Jvm.Op.multianewarray.make comp [k]) Q E e d acts u := by
  rw [Jvm.Op.multianewarray.make]
  simp only [wp_bind', W.ite, hk, if_false, wp_pure', W.theClass, hkc, hkind, Option.some.injEq, exists_eq_left']
  exact W.newArray_of hkc hkind hl hh h1 h2 rfl hq
theorem mu_wp2 (X : Stand p l e R s m args below meth c T locs cells slots) {g : JFrame} {cG comp cc : ClassId} {kG kc : Class} {n k : Int32} (hkG : T.vm.classes[cG]? = some kG) (hkindG : kG.kind = .array comp (.array .int)) (hkc : T.vm.classes[comp]? = some kc) (hkind : kc.kind = .array cc .int) (hn : ¬ n < 0) (hk : ¬ k < 0) (b1 : n.toNatClampNeg ≤ 100) (b2 : k.toNatClampNeg ≤ 100)
    (hcells : cells + 1 + n.toNatClampNeg ≤ R.cells) (hslots : slots + n.toNatClampNeg + n.toNatClampNeg * k.toNatClampNeg ≤ R.slots)
    {Q : Addr → Pre} (hq : ∀ d' acts', Q T.heap.size d' acts' ((mu_F T cG comp n.toNatClampNeg k.toNatClampNeg n.toNatClampNeg).setTop g)) : wp (Jvm.Op.multianewarray.make cG [n, k]) Q E e d acts (T.setTop g) := by
  have hl : ∀ z : Nat, z ≤ 100 → ¬ z > e.platform.arrayLengthLimit := fun z hz => by rw [Launch.admits_arrayLengthLimit X.admits]; omega
  have hh : ∀ z : Nat, z ≤ 100 → ¬ z * 4 > e.platform.maxHeapBytes := fun z hz => by rw [Launch.admits_maxHeapBytes X.admits]; omega
  have hfind : ([k].find? (· < 0)) = none := by simp [hk]
  have hmul : ∀ i : Nat, i + 1 ≤ n.toNatClampNeg → i * k.toNatClampNeg + k.toNatClampNeg ≤ n.toNatClampNeg * k.toNatClampNeg := fun i hi => by
    have := Nat.mul_le_mul_right k.toNatClampNeg hi
    rw [Nat.succ_mul] at this; exact this
  have z0 := Nat.zero_le (n.toNatClampNeg * k.toNatClampNeg)
  obtain ⟨r1, r2⟩ := X.roomAbove (cells := cells) (slots := slots) (show cells + 1 ≤ R.cells by omega) (show slots + n.toNatClampNeg ≤ R.slots by omega)
  rw [Jvm.Op.multianewarray.make]
  simp only [wp_bind', W.ite, hn, if_false, wp_pure', W.theClass, State.vm_setTop, hkG, hkindG, Option.some.injEq, exists_eq_left']
  refine W.newArray_of (k := kG) hkG hkindG (hl _ b1) (hh _ b1) (by show T.heap.size < _; omega) (by show T.slotsUsed + _ ≤ _; omega) rfl (fun acts' => ?_)
  simp only [hfind]
  rw [ite_self, wp_bind', Std.Legacy.Range.forIn_eq_forIn_range']
  have hsz : ([:n.toNatClampNeg] : Std.Legacy.Range).size = n.toNatClampNeg := by simp [Std.Legacy.Range.size]
  rw [hsz]
  show wp (forIn (List.range' 0 n.toNatClampNeg 1) PUnit.unit _) _ E e _ _ ((mu_F T cG comp n.toNatClampNeg k.toNatClampNeg 0).setTop g)
  refine wp_forIn_inv (fun rest s' => ∃ i, i ≤ n.toNatClampNeg ∧ rest = List.range' i (n.toNatClampNeg - i) ∧ s' = (mu_F T cG comp n.toNatClampNeg k.toNatClampNeg i).setTop g) _ _ ⟨0, Nat.zero_le _, rfl, rfl⟩ ?_ ?_
  · rintro x rest s' d' acts' Q' ⟨i, hi, hr, rfl⟩ hnext
    have hlt : i < n.toNatClampNeg := by
      rcases Nat.lt_or_ge i n.toNatClampNeg with h | h
      · exact h
      · rw [show n.toNatClampNeg - i = 0 by omega] at hr; simp at hr
    rw [show n.toNatClampNeg - i = (n.toNatClampNeg - (i + 1)) + 1 by omega, List.range'_succ] at hr
    obtain ⟨rfl, rfl⟩ : x = i ∧ rest = List.range' (i + 1) (n.toNatClampNeg - (i + 1)) := ⟨(List.cons.inj hr).1, (List.cons.inj hr).2⟩
    obtain ⟨h1, h2, h3, h4⟩ := mu_Ff T cG comp n.toNatClampNeg k.toNatClampNeg x
    obtain ⟨o1, o2, o3⟩ := mu_Of cG n.toNatClampNeg T.heap.size x
    obtain ⟨L, hL, Xi⟩ := mu_S X cG comp n.toNatClampNeg k.toNatClampNeg x
    have hm := hmul x hlt
    obtain ⟨q1, q2⟩ := Xi.roomAbove (show cells + 1 + x + 1 ≤ R.cells by omega) (show slots + n.toNatClampNeg + x * k.toNatClampNeg + k.toNatClampNeg ≤ R.slots by omega)
    simp only [wp_bind']
    refine mu_wp1 (u := (mu_F T cG comp n.toNatClampNeg k.toNatClampNeg x).setTop g) (by show (mu_F _ _ _ _ _ _).vm.classes[comp]? = _; rw [h3]; exact hkc) hkind hk (hl _ b2) (hh _ b2) (by show (mu_F _ _ _ _ _ _).heap.size < _; omega) (by show (mu_F _ _ _ _ _ _).slotsUsed + _ ≤ _; omega) (fun acts2 => ?_)
    have hlt0 : T.heap.size < (mu_F T cG comp n.toNatClampNeg k.toNatClampNeg x).heap.size := by omega
    simp only [wp_bind', W.writeLoc, wp_pure']
    refine ⟨mu_O cG n.toNatClampNeg T.heap.size x, ?_, by rw [o2]; simp, by rw [o3]; exact hlt, ?_, hnext _ _ _ ⟨x + 1, hlt, rfl, ?_⟩⟩
    · show ((mu_F T cG comp n.toNatClampNeg k.toNatClampNeg x).pushCell _).heap[T.heap.size]? = _
      rw [State.heap_pushCell_of_lt (h := hlt0)]; exact h2
    · rw [o1, o2]
      simp [State.fitsSlot, State.slotType?, h3, hkG, hkindG, fits]
    · show (((mu_F T cG comp n.toNatClampNeg k.toNatClampNeg x).pushCell _).setCell T.heap.size _).setTop g = _
      rw [State.heap_setTop, h1]
      rfl
  · rintro s' d' acts' ⟨i, hi, hr, rfl⟩
    have hiN : i = n.toNatClampNeg := by
      rcases Nat.lt_or_ge i n.toNatClampNeg with h | h
      · rw [show n.toNatClampNeg - i = (n.toNatClampNeg - (i + 1)) + 1 by omega, List.range'_succ] at hr; cases hr
      · omega
    subst hiN
    simp only [wp_pure']
    exact hq _ _
end MU
section MW
variable {p : Program} {l : Launch} {e : Env} {R : Room} {s : State} {m : MethodId} {args : Array Value} {below : List Frame} {meth : Method} {c : Code} {H : Heap} {locs : List Loc} {cells slots : Nat} {Q : State → Prop}
variable {cc : ByteArray} {pc : Nat} {ls : Array Slot} {rest : List Value} {D : va_G} {cl : List vw_C} {A : Nat → Prop} {ws : va_W} {H0 : Heap} {cA : Nat → ClassId}
theorem mu_row (hexec : p.tables.exec = Jvm.exec) (hb : c.code = cc) {own : String} {index : Nat} (hown : s.vm.findClass own = some m.cls) (hclink : (Cond.classLink own index "[[I").before args s = true) (hX : xK cA s) (hK : va_K D cl (tyS cA) s) (hP : va_P D cl ws H) (hD : va_D A ws) (hS : va_S A H0 H locs) (hA : ∀ q, H0.size ≤ q → A q)
    {n k : Int32} {N M : Nat} (hn : ¬ n < 0) (hN : n.toNatClampNeg = N) (hk : ¬ k < 0) (hM : k.toNatClampNeg = M) (b1 : N ≤ 100) (b2 : M ≤ 100) (hcells : cells + 1 + N ≤ R.cells) (hslots : slots + N + N * M ≤ R.slots) (hdg : decode cc pc = .ok (.multianewarray index 2, 4))
    (kk : ∀ (q : Nat) (H1 : Heap) (locs1 : List Loc), va_P D cl ws H1 → va_D A ws → va_S A H0 H1 locs1 → W p l e R s m args below meth c H1 locs1 (cells + 1 + N) (slots + N + N * M) Q (F0 m (pc + 4) ls (.ref q :: rest))) : W p l e R s m args below meth c H locs cells slots Q (F0 m pc ls (.int k :: .int n :: rest)) := by
  subst hN; subst hM; subst hb
  intro T hT X
  obtain ⟨kG, hkG, hkindG⟩ := hX.1
  obtain ⟨-, kI, hkI, cI, hkindI⟩ := (hK.2 0 _ rfl).1 0 (fun _ => .null)
  have fG : s.vm.findClass ("[" ++ (FieldType.array .int).toString) = some (cA 4) := (hK.2 4 _ rfl).2
  have hpl : e.platform.magicAccessors = ({} : Platform).magicAccessors := by rw [X.admits.platform]
  obtain ⟨c0, hfc0, hcl⟩ := Cond.classLink_spec hown hclink e.platform hpl
  have es : ("[" ++ (FieldType.array .int).toString) = "[[I" := by decide
  rw [es] at fG
  have ec : c0 = cA 4 := Option.some.inj (hfc0.symm.trans fG)
  subst ec
  obtain ⟨hg₁, hwarm₁, hready₁⟩ := State.classEntry (e := e) X.warmed hcl
  generalize T.vm.noted m.cls index (.cls (cA 4)) = vm₁ at hg₁ hwarm₁ hready₁
  have hal : s.vm.Alike vm₁ := hwarm₁.alike
  obtain ⟨kG₁, hkG₁, heG⟩ := hal.2.2 _ _ hkG
  obtain ⟨kI₁, hkI₁, heI⟩ := hal.2.2 _ _ hkI
  have hkindG₁ : kG₁.kind = .array (cA 0) (.array .int) := by rw [heG]; exact hkindG
  have hkindI₁ : kI₁.kind = .array cI .int := by rw [heI]; exact hkindI
  have X₁ := X.noted hwarm₁
  obtain ⟨L, hL, XF⟩ := mu_S X₁ (cA 4) (cA 0) n.toNatClampNeg k.toNatClampNeg n.toNatClampNeg
  obtain ⟨h1, h2, h3, h4⟩ := mu_Ff (T.setVm vm₁) (cA 4) (cA 0) n.toNatClampNeg k.toNatClampNeg n.toNatClampNeg
  have h5 : (T.setVm vm₁).heap = H := hT
  rw [h5] at h1 h4 hL
  have hP1 := hP.kept (H1 := (mu_F (T.setVm vm₁) (cA 4) (cA 0) n.toNatClampNeg k.toNatClampNeg n.toNatClampNeg).heap) (fun k q hq => h4 q.1 ((hP k q hq).lt))
  obtain ⟨t, a1, a2⟩ := kk H.size _ (locs ++ L) hP1 hD ⟨Nat.le_trans hS.1 (by omega), fun q g1 g2 => (h4 q (Nat.lt_of_lt_of_le g1 hS.1)).trans (hS.2.1 q g1 g2), fun q hq => by
    rcases List.mem_append.mp hq with h | h
    · exact hS.2.2 q h
    · rw [hL q h]; exact hA _ hS.1⟩ _ rfl XF
  refine ⟨t, ?_, a2⟩
  jvm_step X.here [hexec, hdg]
  simp only [Jvm.Op.multianewarray.sem, wp_bind', W.resolveClassAt_links (State.method?_setTop (F0 m pc ls (.int k :: .int n :: rest)) X.here.top) hg₁]
  rw [W.popN, if_neg (by decide)]
  refine ⟨_, State.topJava?_setTop' (s := T.setVm vm₁) (F0 m pc ls (.int k :: .int n :: rest)) X.here.top, [.int n, .int k], rest, rfl, rfl, ?_⟩
  simp only [List.mapM_cons, List.mapM_nil, wp_bind', wp_pure']
  have eS : ((T.setTop (F0 m pc ls (.int k :: .int n :: rest))).setVm vm₁).setTop (F0 m pc ls rest) = (T.setVm vm₁).setTop (F0 m pc ls rest) := by
    show ((T.setVm vm₁).setTop _).setTop _ = _
    rw [State.setTop_setTop]
  rw [eS]
  refine mu_wp2 X₁ (kG := kG₁) (kc := kI₁) (comp := cA 0) (cc := cI) hkG₁ hkindG₁ hkI₁ hkindI₁ hn hk b1 b2 hcells hslots (fun d' acts' => ?_)
  simp only [wp_bind', W.mark, W.pushRef, State.topJava?_setTop' _ XF.here.top, Option.some.injEq, exists_eq_left', State.setTop_setTop, State.heap_setTop]
  intro acts
  simp [jvm, XF.here.top]
  rw [hT]
  exact a1
end MW
end
section
theorem dX1_init_0 : decode cX1_init 0 = .ok (.aload_n 0, 1) := by decide +kernel
theorem dX1_init_1 : decode cX1_init 1 = .ok (.invokespecial 3, 3) := by decide +kernel
theorem dX1_init_4 : decode cX1_init 4 = .ok (.aload_n 0, 1) := by decide +kernel
theorem dX1_init_5 : decode cX1_init 5 = .ok (.iload_n 1, 1) := by decide +kernel
theorem dX1_init_6 : decode cX1_init 6 = .ok (.putfield 9, 3) := by decide +kernel
theorem dX1_init_9 : decode cX1_init 9 = .ok (.aload_n 0, 1) := by decide +kernel
theorem dX1_init_10 : decode cX1_init 10 = .ok (.iload_n 1, 1) := by decide +kernel
theorem dX1_init_11 : decode cX1_init 11 = .ok (.iconst 1, 1) := by decide +kernel
theorem dX1_init_12 : decode cX1_init 12 = .ok (.isub, 1) := by decide +kernel
theorem dX1_init_13 : decode cX1_init 13 = .ok (.iconst 2, 1) := by decide +kernel
theorem dX1_init_14 : decode cX1_init 14 = .ok (.idiv, 1) := by decide +kernel
theorem dX1_init_15 : decode cX1_init 15 = .ok (.putfield 15, 3) := by decide +kernel
theorem dX1_init_18 : decode cX1_init 18 = .ok (.return_, 1) := by decide +kernel
theorem dX1_modulus_0 : decode cX1_modulus 0 = .ok (.aload_n 0, 1) := by decide +kernel
theorem dX1_modulus_1 : decode cX1_modulus 1 = .ok (.getfield 9, 3) := by decide +kernel
theorem dX1_modulus_4 : decode cX1_modulus 4 = .ok (.ireturn, 1) := by decide +kernel
theorem dX1_order_0 : decode cX1_order 0 = .ok (.aload_n 0, 1) := by decide +kernel
theorem dX1_order_1 : decode cX1_order 1 = .ok (.getfield 15, 3) := by decide +kernel
theorem dX1_order_4 : decode cX1_order 4 = .ok (.ireturn, 1) := by decide +kernel
theorem dX1_publicKey_0 : decode cX1_publicKey 0 = .ok (.aload_n 0, 1) := by decide +kernel
theorem dX1_publicKey_1 : decode cX1_publicKey 1 = .ok (.getfield 18, 3) := by decide +kernel
theorem dX1_publicKey_4 : decode cX1_publicKey 4 = .ok (.ireturn, 1) := by decide +kernel
set_option maxRecDepth 20000 in
theorem ggX1_tellKey_X1_raised : GoodIn wsX1_tellKey wsX1_raised := goodIn_r _ [6, 7, 8, 9, 10, 11, 12, 13, 14, 15, 16, 17] (by decide +kernel) (by decide +kernel)
set_option maxRecDepth 20000 in
theorem gX1_tellKey_X1_raised : GoodIn wsX1_tellKey (wsV RX1 21 RX1 yX1_raised wsX1_raised) := goodIn_app (goodIn_of _ (by decide +kernel)) ggX1_tellKey_X1_raised
theorem dX1_tellKey_0 : decode cX1_tellKey 0 = .ok (.aload_n 0, 1) := by decide +kernel
theorem dX1_tellKey_1 : decode cX1_tellKey 1 = .ok (.aload_n 0, 1) := by decide +kernel
theorem dX1_tellKey_2 : decode cX1_tellKey 2 = .ok (.iconst 4, 1) := by decide +kernel
theorem dX1_tellKey_3 : decode cX1_tellKey 3 = .ok (.iload_n 1, 1) := by decide +kernel
theorem dX1_tellKey_4 : decode cX1_tellKey 4 = .ok (.invokevirtual 21, 3) := by decide +kernel
theorem dX1_tellKey_7 : decode cX1_tellKey 7 = .ok (.putfield 18, 3) := by decide +kernel
theorem dX1_tellKey_10 : decode cX1_tellKey 10 = .ok (.return_, 1) := by decide +kernel
theorem dX1_isExponent_0 : decode cX1_isExponent 0 = .ok (.iload_n 1, 1) := by decide +kernel
theorem dX1_isExponent_1 : decode cX1_isExponent 1 = .ok (.ifCond .lt 15, 3) := by decide +kernel
theorem dX1_isExponent_4 : decode cX1_isExponent 4 = .ok (.iload_n 1, 1) := by decide +kernel
theorem dX1_isExponent_5 : decode cX1_isExponent 5 = .ok (.aload_n 0, 1) := by decide +kernel
theorem dX1_isExponent_6 : decode cX1_isExponent 6 = .ok (.getfield 15, 3) := by decide +kernel
theorem dX1_isExponent_9 : decode cX1_isExponent 9 = .ok (.if_icmp .ge 7, 3) := by decide +kernel
theorem dX1_isExponent_12 : decode cX1_isExponent 12 = .ok (.iconst 1, 1) := by decide +kernel
theorem dX1_isExponent_13 : decode cX1_isExponent 13 = .ok (.goto 4, 3) := by decide +kernel
theorem dX1_isExponent_16 : decode cX1_isExponent 16 = .ok (.iconst 0, 1) := by decide +kernel
theorem dX1_isExponent_17 : decode cX1_isExponent 17 = .ok (.ireturn, 1) := by decide +kernel
set_option maxRecDepth 20000 in
theorem ggX1_raised_X3_power : GoodIn wsX1_raised wsX3_power := goodIn_r _ [5, 6, 7, 4, 8] (by decide +kernel) (by decide +kernel)
set_option maxRecDepth 20000 in
theorem gX1_raised_X3_power : GoodIn wsX1_raised (va_wsS RX1 29 yX3_power wsX3_power) := goodIn_app (goodIn_of _ (by decide +kernel)) ggX1_raised_X3_power
theorem dX1_raised_0 : decode cX1_raised 0 = .ok (.iload_n 1, 1) := by decide +kernel
theorem dX1_raised_1 : decode cX1_raised 1 = .ok (.iload_n 2, 1) := by decide +kernel
theorem dX1_raised_2 : decode cX1_raised 2 = .ok (.aload_n 0, 1) := by decide +kernel
theorem dX1_raised_3 : decode cX1_raised 3 = .ok (.getfield 9, 3) := by decide +kernel
theorem dX1_raised_6 : decode cX1_raised 6 = .ok (.invokestatic 29, 3) := by decide +kernel
theorem dX1_raised_9 : decode cX1_raised 9 = .ok (.ireturn, 1) := by decide +kernel
def bI (P : Prop) [Decidable P] : Int32 := if P then 1 else 0
theorem bI_t {P : Prop} [Decidable P] (h : P) : (1 : Int32) = bI P := (if_pos h).symm
theorem bI_f {P : Prop} [Decidable P] (h : ¬ P) : (0 : Int32) = bI P := (if_neg h).symm
theorem bI_1 {P : Prop} [Decidable P] (h : ¬ bI P = 0) : P := Decidable.byContradiction (fun q => h (bI_f q).symm)
theorem bI_0 {P : Prop} [Decidable P] (h : bI P = 0) : ¬ P := fun q => by rw [← bI_t q] at h; exact absurd h (by decide)
set_option maxHeartbeats 4000000 in
set_option maxRecDepth 100000 in
theorem c_X1_modulus (l : Launch) (D : va_G) (cA : Nat → ClassId) (g : Nat) (gp : Int32) (gq : Int32) (gh : Int32) : Met l yX1_modulus wsX1_modulus ({ frames := 0, cells := 0, slots := 0, locals := 0 }) (rPc vwCl D cA [(g, .inr (1, [.int gp, .int gq, .int gh]))] [.ref g]) (rq_x (some (.int gp))) 0 0 (fun _ => False) := by
  refine Met.ofW (cc := cX1_modulus) (maxL := 1) (ret := (some .int)) (by decide) rfl ?_
  intro p e s m args below meth c s₁ B hml hv
  obtain ⟨rfl, hP, hK⟩ := hv
  have hx := B.exec
  have hb := B.bytes
  have hr := B.returns
  have hts := atoms_spec (ws := wsX1_modulus) B.pre
  have hown : s.vm.findClass RX1 = some m.cls := findClass_of_methodNamed B.named
  have hlocks := B.notSynchronized
  have hin_X1 : ∀ w ∈ wsX10, w ∈ wsX1_modulus := fun w h => List.mem_cons_of_mem _ (List.mem_append_right _ h)
  have w_RX1_9 := hts (.fieldLink RX1 9 "MixElection$Group" "prime" "I") (by decide +kernel)
  have hl := lv_entry ([.ref g]) (n := 1) (Nat.le_of_ble_eq_true rfl)
  rw [lg_entry_eq]
  generalize (lg_sl ([.ref g]) ++ List.replicate (1 - (lg_sl ([.ref g])).length) Slot.unset).toArray = ls at hl ⊢
  have hl : lv_has ls 1 [(0, .ref g)] := hl
  refine lv_aload_n hx hb dX1_modulus_0 rfl (lv_at hl 0 rfl) ?_
  refine va_get (D := D) (ci := 1) (v := .int gp) (C := RX1) (T := TX1) (N := 3) hx hb hts hin_X1 hown hK hP 0 rfl rfl 0 (by decide) (w_RX1_9) (fun _ h9 => h9) rfl dX1_modulus_1 ?_
  exact W.iret (v := gp) hx hb hr (fun t ht hW => ⟨congrArg (fun z => Outcome.returned (some (Value.int z))) (rfl), ht⟩) (fun _ h => by cases h) dX1_modulus_4

set_option maxHeartbeats 4000000 in
set_option maxRecDepth 100000 in
theorem c_X1_order (l : Launch) (D : va_G) (cA : Nat → ClassId) (g : Nat) (gp : Int32) (gq : Int32) (gh : Int32) : Met l yX1_order wsX1_order ({ frames := 0, cells := 0, slots := 0, locals := 0 }) (rPc vwCl D cA [(g, .inr (1, [.int gp, .int gq, .int gh]))] [.ref g]) (rq_x (some (.int gq))) 0 0 (fun _ => False) := by
  refine Met.ofW (cc := cX1_order) (maxL := 1) (ret := (some .int)) (by decide) rfl ?_
  intro p e s m args below meth c s₁ B hml hv
  obtain ⟨rfl, hP, hK⟩ := hv
  have hx := B.exec
  have hb := B.bytes
  have hr := B.returns
  have hts := atoms_spec (ws := wsX1_order) B.pre
  have hown : s.vm.findClass RX1 = some m.cls := findClass_of_methodNamed B.named
  have hlocks := B.notSynchronized
  have hin_X1 : ∀ w ∈ wsX10, w ∈ wsX1_order := fun w h => List.mem_cons_of_mem _ (List.mem_append_right _ h)
  have w_RX1_15 := hts (.fieldLink RX1 15 "MixElection$Group" "half" "I") (by decide +kernel)
  have hl := lv_entry ([.ref g]) (n := 1) (Nat.le_of_ble_eq_true rfl)
  rw [lg_entry_eq]
  generalize (lg_sl ([.ref g]) ++ List.replicate (1 - (lg_sl ([.ref g])).length) Slot.unset).toArray = ls at hl ⊢
  have hl : lv_has ls 1 [(0, .ref g)] := hl
  refine lv_aload_n hx hb dX1_order_0 rfl (lv_at hl 0 rfl) ?_
  refine va_get (D := D) (ci := 1) (v := .int gq) (C := RX1) (T := TX1) (N := 3) hx hb hts hin_X1 hown hK hP 0 rfl rfl 1 (by decide) (w_RX1_15) (fun _ h9 => h9) rfl dX1_order_1 ?_
  exact W.iret (v := gq) hx hb hr (fun t ht hW => ⟨congrArg (fun z => Outcome.returned (some (Value.int z))) (rfl), ht⟩) (fun _ h => by cases h) dX1_order_4

set_option maxHeartbeats 4000000 in
set_option maxRecDepth 100000 in
theorem c_X1_publicKey (l : Launch) (D : va_G) (cA : Nat → ClassId) (g : Nat) (gp : Int32) (gq : Int32) (gh : Int32) : Met l yX1_publicKey wsX1_publicKey ({ frames := 0, cells := 0, slots := 0, locals := 0 }) (rPc vwCl D cA [(g, .inr (1, [.int gp, .int gq, .int gh]))] [.ref g]) (rq_x (some (.int gh))) 0 0 (fun _ => False) := by
  refine Met.ofW (cc := cX1_publicKey) (maxL := 1) (ret := (some .int)) (by decide) rfl ?_
  intro p e s m args below meth c s₁ B hml hv
  obtain ⟨rfl, hP, hK⟩ := hv
  have hx := B.exec
  have hb := B.bytes
  have hr := B.returns
  have hts := atoms_spec (ws := wsX1_publicKey) B.pre
  have hown : s.vm.findClass RX1 = some m.cls := findClass_of_methodNamed B.named
  have hlocks := B.notSynchronized
  have hin_X1 : ∀ w ∈ wsX10, w ∈ wsX1_publicKey := fun w h => List.mem_cons_of_mem _ (List.mem_append_right _ h)
  have w_RX1_18 := hts (.fieldLink RX1 18 "MixElection$Group" "told" "I") (by decide +kernel)
  have hl := lv_entry ([.ref g]) (n := 1) (Nat.le_of_ble_eq_true rfl)
  rw [lg_entry_eq]
  generalize (lg_sl ([.ref g]) ++ List.replicate (1 - (lg_sl ([.ref g])).length) Slot.unset).toArray = ls at hl ⊢
  have hl : lv_has ls 1 [(0, .ref g)] := hl
  refine lv_aload_n hx hb dX1_publicKey_0 rfl (lv_at hl 0 rfl) ?_
  refine va_get (D := D) (ci := 1) (v := .int gh) (C := RX1) (T := TX1) (N := 3) hx hb hts hin_X1 hown hK hP 0 rfl rfl 2 (by decide) (w_RX1_18) (fun _ h9 => h9) rfl dX1_publicKey_1 ?_
  exact W.iret (v := gh) hx hb hr (fun t ht hW => ⟨congrArg (fun z => Outcome.returned (some (Value.int z))) (rfl), ht⟩) (fun _ h => by cases h) dX1_publicKey_4

set_option maxHeartbeats 4000000 in
set_option maxRecDepth 100000 in
theorem c_X1_init (l : Launch) (D : va_G) (cA : Nat → ClassId) (g : Nat) (gp : Int32) (gq : Int32) (hq : (gp - 1) / 2 = gq) : Met l yX1_init wsX1_init ({ frames := 1, cells := 0, slots := 0, locals := 20 }) (wPc vwCl D cA [(g, .inr (1, [.int 0, .int 0, .int 0]))] [.ref g, .int gp]) (wq_x vwCl D [(g, .inr (1, [.int gp, .int gq, .int 0]))] none (wA [(g, .inr (1, [.int 0, .int 0, .int 0]))])) 0 0 (wA [(g, .inr (1, [.int 0, .int 0, .int 0]))]) := by
  refine Met.ofW (cc := cX1_init) (maxL := 2) (ret := none) (by decide) rfl ?_
  intro p e s m args below meth c s₁ B hml hv
  obtain ⟨rfl, hP, hK, hD0⟩ := hv
  have hx := B.exec
  have hb := B.bytes
  have hr := B.returns
  have hts := atoms_spec (ws := wsX1_init) B.pre
  have hown : s.vm.findClass RX1 = some m.cls := findClass_of_methodNamed B.named
  have hlocks := B.notSynchronized
  have hin : meth.name = "<init>" := (name_of_methodNamed B.named B.method).1
  have hin_X1 : ∀ w ∈ wsX10, w ∈ wsX1_init := fun w h => List.mem_cons_of_mem _ (List.mem_append_right _ h)
  have w_RX1_9 := hts (.fieldLink RX1 9 "MixElection$Group" "prime" "I") (by decide +kernel)
  have w_RX1_15 := hts (.fieldLink RX1 15 "MixElection$Group" "half" "I") (by decide +kernel)
  have hD : va_D (wA [(g, .inr (1, [.int 0, .int 0, .int 0]))]) [(g, .inr (1, [.int 0, .int 0, .int 0]))] := ⟨hD0.1, fun k q h => List.mem_map.mpr ⟨q, List.mem_of_getElem? h, rfl⟩⟩
  have hS : va_S (wA [(g, .inr (1, [.int 0, .int 0, .int 0]))]) s.heap s.heap [] := va_S.rf
  generalize hAe : wA [(g, .inr (1, [.int 0, .int 0, .int 0]))] = A at hD hS ⊢
  have hP : va_P D vwCl [(g, .inr (1, [.int 0, .int 0, .int 0]))] s.heap := hP
  have hl := lv_entry ([.ref g, .int gp]) (n := 2) (Nat.le_of_ble_eq_true rfl)
  rw [lg_entry_eq]
  generalize (lg_sl ([.ref g, .int gp]) ++ List.replicate (2 - (lg_sl ([.ref g, .int gp])).length) Slot.unset).toArray = ls at hl ⊢
  have hl : lv_has ls 2 [(0, .ref g), (1, .int gp)] := hl
  refine lv_aload_n hx hb dX1_init_0 rfl (lv_at hl 0 rfl) ?_
  refine W.objInit hx hb hown (hts (.methodLink RX1 3 objectInit) (by decide +kernel)) (hts (.instanceMethod objectInit) (by decide +kernel)) (hts (.code objectInit ⟨#[0xb1]⟩ 1 none) (by decide +kernel)) rfl (by rw [hml]; exact hl.1) rfl dX1_init_1 (Nat.le_of_ble_eq_true rfl) (Nat.le_of_ble_eq_true rfl) ?_
  refine W.eq (g2 := F0 m 4 ls []) rfl ?_
  refine lv_aload_n hx hb dX1_init_4 rfl (lv_at hl 0 rfl) ?_
  refine lv_iload_n hx hb dX1_init_5 rfl (lv_at hl 1 rfl) ?_
  refine va_putF (D := D) (ci := 1) (v := .int gp) (ty := .int) (C := RX1) (T := TX1) (N := 3) hx hb hts hin_X1 tyX1 tyX1_ok nmX1 hown hK hP hD hS 0 rfl rfl 0 (by decide) (w_RX1_9) (fun _ h9 => h9) rfl hin rfl (by decide +kernel) rfl rfl (Nat.le_of_ble_eq_true rfl) dX1_init_6 (fun H locs hP hD hS => ?_)
  have hP : va_P D vwCl [(g, .inr (1, [.int gp, .int 0, .int 0]))] H := hP
  have hD : va_D A [(g, .inr (1, [.int gp, .int 0, .int 0]))] := hD
  refine lv_aload_n hx hb dX1_init_9 rfl (lv_at hl 0 rfl) ?_
  refine lv_iload_n hx hb dX1_init_10 rfl (lv_at hl 1 rfl) ?_
  refine lv_iconst (v := 1) hx hb dX1_init_11 (by decide) ?_
  refine lv_isub hx hb dX1_init_12 ?_
  refine lv_iconst (v := 2) hx hb dX1_init_13 (by decide) ?_
  refine lv_idiv hx hb dX1_init_14 (by decide) ?_
  rw [hq]
  refine va_putF (D := D) (ci := 1) (v := .int gq) (ty := .int) (C := RX1) (T := TX1) (N := 3) hx hb hts hin_X1 tyX1 tyX1_ok nmX1 hown hK hP hD hS 0 rfl rfl 1 (by decide) (w_RX1_15) (fun _ h9 => h9) rfl hin rfl (by decide +kernel) rfl rfl (Nat.le_of_ble_eq_true rfl) dX1_init_15 (fun H locs hP hD hS => ?_)
  have hP : va_P D vwCl [(g, .inr (1, [.int gp, .int gq, .int 0]))] H := hP
  have hD : va_D A [(g, .inr (1, [.int gp, .int gq, .int 0]))] := hD
  have hP9 : va_P D vwCl [(g, .inr (1, [.int gp, .int gq, .int 0]))] H := hP
  exact W.vret hx hb hr (fun t ht hW => ⟨rfl, by rw [ht]; exact hP9, hS.F ht⟩) hS.2.2 dX1_init_18

set_option maxHeartbeats 4000000 in
set_option maxRecDepth 100000 in
theorem c_X1_isExponent (l : Launch) (D : va_G) (cA : Nat → ClassId) (g : Nat) (gp : Int32) (gq : Int32) (gh : Int32) (v : Int32) : Met l yX1_isExponent wsX1_isExponent ({ frames := 0, cells := 0, slots := 0, locals := 0 }) (rPc vwCl D cA [(g, .inr (1, [.int gp, .int gq, .int gh]))] [.ref g, .int v]) (rq_x (some (.int (bI (0 ≤ v ∧ v < gq))))) 0 0 (fun _ => False) := by
  refine Met.ofW (cc := cX1_isExponent) (maxL := 2) (ret := (some .boolean)) (by decide) rfl ?_
  intro p e s m args below meth c s₁ B hml hv
  obtain ⟨rfl, hP, hK⟩ := hv
  have hx := B.exec
  have hb := B.bytes
  have hr := B.returns
  have hts := atoms_spec (ws := wsX1_isExponent) B.pre
  have hown : s.vm.findClass RX1 = some m.cls := findClass_of_methodNamed B.named
  have hlocks := B.notSynchronized
  have hin_X1 : ∀ w ∈ wsX10, w ∈ wsX1_isExponent := fun w h => List.mem_cons_of_mem _ (List.mem_append_right _ h)
  have w_RX1_15 := hts (.fieldLink RX1 15 "MixElection$Group" "half" "I") (by decide +kernel)
  have hl := lv_entry ([.ref g, .int v]) (n := 2) (Nat.le_of_ble_eq_true rfl)
  rw [lg_entry_eq]
  generalize (lg_sl ([.ref g, .int v]) ++ List.replicate (2 - (lg_sl ([.ref g, .int v])).length) Slot.unset).toArray = ls at hl ⊢
  have hl : lv_has ls 2 [(0, .ref g), (1, .int v)] := hl
  refine lv_iload_n hx hb dX1_isExponent_0 rfl (lv_at hl 1 rfl) ?_
  refine lv_if_lt (tgt := 16) hx hb dX1_isExponent_1 (by decide) (fun c_1 => ?_) (fun c_1 => ?_)
  · skip
    refine lv_iconst (v := 0) hx hb dX1_isExponent_16 (by decide) ?_
    exact W.zret (v := 0) hx hb hr rfl (fun t ht hW => ⟨congrArg (fun z => Outcome.returned (some (Value.int z))) (bI_f (fun h => absurd c_1 (Int32.not_lt.mpr h.1))), ht⟩) (fun _ h => by cases h) dX1_isExponent_17
  · skip
    refine lv_iload_n hx hb dX1_isExponent_4 rfl (lv_at hl 1 rfl) ?_
    refine lv_aload_n hx hb dX1_isExponent_5 rfl (lv_at hl 0 rfl) ?_
    refine va_get (D := D) (ci := 1) (v := .int gq) (C := RX1) (T := TX1) (N := 3) hx hb hts hin_X1 hown hK hP 0 rfl rfl 1 (by decide) (w_RX1_15) (fun _ h9 => h9) rfl dX1_isExponent_6 ?_
    refine lv_icmp_ge (tgt := 16) hx hb dX1_isExponent_9 (by decide) (fun c_9 => ?_) (fun c_9 => ?_)
    · skip
      refine lv_iconst (v := 0) hx hb dX1_isExponent_16 (by decide) ?_
      exact W.zret (v := 0) hx hb hr rfl (fun t ht hW => ⟨congrArg (fun z => Outcome.returned (some (Value.int z))) (bI_f (fun h => absurd h.2 (Int32.not_lt.mpr c_9))), ht⟩) (fun _ h => by cases h) dX1_isExponent_17
    · skip
      refine lv_iconst (v := 1) hx hb dX1_isExponent_12 (by decide) ?_
      refine lv_goto (tgt := 17) hx hb dX1_isExponent_13 (by decide) ?_
      exact W.zret (v := 1) hx hb hr rfl (fun t ht hW => ⟨congrArg (fun z => Outcome.returned (some (Value.int z))) (bI_t ⟨Int32.not_lt.mp c_1, Int32.not_le.mp c_9⟩), ht⟩) (fun _ h => by cases h) dX1_isExponent_17

set_option maxHeartbeats 4000000 in
set_option maxRecDepth 100000 in
theorem c_X1_raised (l : Launch) (D : va_G) (cA : Nat → ClassId) (g : Nat) (gp : Int32) (gq : Int32) (gh : Int32) (a : Int32) (x : Int32) (x0 : Nat) (hx0 : x = nI x0) (hX : x0 < 2 ^ 31) (hq : 0 < gp) : Met l yX1_raised wsX1_raised ({ frames := 2, cells := 0, slots := 0, locals := 47 }) (rPc vwCl D cA [(g, .inr (1, [.int gp, .int gq, .int gh]))] [.ref g, .int a, .int x]) (rq_x (some (.int (pw gp 32 x0 1 a)))) 0 0 (fun _ => False) := by
  refine Met.ofW (cc := cX1_raised) (maxL := 3) (ret := (some .int)) (by decide) rfl ?_
  intro p e s m args below meth c s₁ B hml hv
  obtain ⟨rfl, hP, hK⟩ := hv
  have hx := B.exec
  have hb := B.bytes
  have hr := B.returns
  have hts := atoms_spec (ws := wsX1_raised) B.pre
  have hown : s.vm.findClass RX1 = some m.cls := findClass_of_methodNamed B.named
  have hlocks := B.notSynchronized
  have hin_X1 : ∀ w ∈ wsX10, w ∈ wsX1_raised := fun w h => List.mem_cons_of_mem _ (List.mem_append_right _ h)
  have w_RX1_9 := hts (.fieldLink RX1 9 "MixElection$Group" "prime" "I") (by decide +kernel)
  have hl := lv_entry ([.ref g, .int a, .int x]) (n := 3) (Nat.le_of_ble_eq_true rfl)
  rw [lg_entry_eq]
  generalize (lg_sl ([.ref g, .int a, .int x]) ++ List.replicate (3 - (lg_sl ([.ref g, .int a, .int x])).length) Slot.unset).toArray = ls at hl ⊢
  have hl : lv_has ls 3 [(0, .ref g), (1, .int a), (2, .int x)] := hl
  refine lv_iload_n hx hb dX1_raised_0 rfl (lv_at hl 1 rfl) ?_
  refine lv_iload_n hx hb dX1_raised_1 rfl (lv_at hl 2 rfl) ?_
  refine lv_aload_n hx hb dX1_raised_2 rfl (lv_at hl 0 rfl) ?_
  refine va_get (D := D) (ci := 1) (v := .int gp) (C := RX1) (T := TX1) (N := 3) hx hb hts hin_X1 hown hK hP 0 rfl rfl 0 (by decide) (w_RX1_9) (fun _ h9 => h9) rfl dX1_raised_3 ?_
  refine rq_call1 (v := .int (pw gp 32 x0 1 a)) (rn_S (As := [.int a, .int x, .int gp]) (rest := []) ⟨hx, hb, hml, hown, hts⟩ (c_X3_power l D cA a x gp x0 hx0 hX hq) (va_cwS 3 hts gX1_raised_X3_power rfl rfl rfl (by decide +kernel) ⟨Nat.le_of_ble_eq_true rfl, Nat.le_of_ble_eq_true rfl⟩) hK hP [] rfl rfl hl.1 rfl (Nat.le_of_ble_eq_true rfl) dX1_raised_6 ⟨Nat.le_of_ble_eq_true rfl, Nat.le_of_ble_eq_true rfl⟩) ?_
  exact W.iret (v := (pw gp 32 x0 1 a)) hx hb hr (fun t ht hW => ⟨congrArg (fun z => Outcome.returned (some (Value.int z))) (rfl), ht⟩) (fun _ h => by cases h) dX1_raised_9

set_option maxHeartbeats 4000000 in
set_option maxRecDepth 100000 in
theorem c_X1_tellKey (l : Launch) (D : va_G) (cA : Nat → ClassId) (g : Nat) (gp : Int32) (gq : Int32) (gh : Int32) (x : Int32) (x0 : Nat) (hx0 : x = nI x0) (hX : x0 < 2 ^ 31) (hq : 0 < gp) : Met l yX1_tellKey wsX1_tellKey ({ frames := 3, cells := 0, slots := 0, locals := 69 }) (wPc vwCl D cA [(g, .inr (1, [.int gp, .int gq, .int gh]))] [.ref g, .int x]) (wq_x vwCl D [(g, .inr (1, [.int gp, .int gq, .int (pw gp 32 x0 1 4)]))] none (wA [(g, .inr (1, [.int gp, .int gq, .int gh]))])) 0 0 (wA [(g, .inr (1, [.int gp, .int gq, .int gh]))]) := by
  refine Met.ofW (cc := cX1_tellKey) (maxL := 2) (ret := none) (by decide) rfl ?_
  intro p e s m args below meth c s₁ B hml hv
  obtain ⟨rfl, hP, hK, hD0⟩ := hv
  have hx := B.exec
  have hb := B.bytes
  have hr := B.returns
  have hts := atoms_spec (ws := wsX1_tellKey) B.pre
  have hown : s.vm.findClass RX1 = some m.cls := findClass_of_methodNamed B.named
  have hlocks := B.notSynchronized
  have hin_X1 : ∀ w ∈ wsX10, w ∈ wsX1_tellKey := fun w h => List.mem_cons_of_mem _ (List.mem_append_right _ h)
  have w_RX1_18 := hts (.fieldLink RX1 18 "MixElection$Group" "told" "I") (by decide +kernel)
  have hD : va_D (wA [(g, .inr (1, [.int gp, .int gq, .int gh]))]) [(g, .inr (1, [.int gp, .int gq, .int gh]))] := ⟨hD0.1, fun k q h => List.mem_map.mpr ⟨q, List.mem_of_getElem? h, rfl⟩⟩
  have hS : va_S (wA [(g, .inr (1, [.int gp, .int gq, .int gh]))]) s.heap s.heap [] := va_S.rf
  generalize hAe : wA [(g, .inr (1, [.int gp, .int gq, .int gh]))] = A at hD hS ⊢
  have hP : va_P D vwCl [(g, .inr (1, [.int gp, .int gq, .int gh]))] s.heap := hP
  have hl := lv_entry ([.ref g, .int x]) (n := 2) (Nat.le_of_ble_eq_true rfl)
  rw [lg_entry_eq]
  generalize (lg_sl ([.ref g, .int x]) ++ List.replicate (2 - (lg_sl ([.ref g, .int x])).length) Slot.unset).toArray = ls at hl ⊢
  have hl : lv_has ls 2 [(0, .ref g), (1, .int x)] := hl
  refine lv_aload_n hx hb dX1_tellKey_0 rfl (lv_at hl 0 rfl) ?_
  refine lv_aload_n hx hb dX1_tellKey_1 rfl (lv_at hl 0 rfl) ?_
  refine lv_iconst (v := 4) hx hb dX1_tellKey_2 (by decide) ?_
  refine lv_iload_n hx hb dX1_tellKey_3 rfl (lv_at hl 1 rfl) ?_
  refine rq_call1 (v := .int (pw gp 32 x0 1 4)) (rn_V (As := [.int 4, .int x]) (rest := [.ref g]) (ci := 1) (fs := [.int gp, .int gq, .int gh]) ⟨hx, hb, hml, hown, hts⟩ (c_X1_raised l D cA g gp gq gh 4 x x0 hx0 hX hq) rfl (cwV 2 hts gX1_tellKey_X1_raised rfl rfl rfl (by decide +kernel) ⟨Nat.le_of_ble_eq_true rfl, Nat.le_of_ble_eq_true rfl⟩) hK hP [0] rfl rfl rfl hl.1 rfl (Nat.le_of_ble_eq_true rfl) dX1_tellKey_4 ⟨Nat.le_of_ble_eq_true rfl, Nat.le_of_ble_eq_true rfl⟩) ?_
  refine va_put (D := D) (ci := 1) (v := .int (pw gp 32 x0 1 4)) (ty := .int) (C := RX1) (T := TX1) (N := 3) hx hb hts hin_X1 tyX1 tyX1_ok nmX1 hown hK hP hD hS 0 rfl rfl 2 (by decide) (w_RX1_18) (fun _ h9 => h9) rfl (by decide +kernel) rfl rfl (Nat.le_of_ble_eq_true rfl) dX1_tellKey_7 (fun H locs hP hD hS => ?_)
  have hP : va_P D vwCl [(g, .inr (1, [.int gp, .int gq, .int (pw gp 32 x0 1 4)]))] H := hP
  have hD : va_D A [(g, .inr (1, [.int gp, .int gq, .int (pw gp 32 x0 1 4)]))] := hD
  have hP9 : va_P D vwCl [(g, .inr (1, [.int gp, .int gq, .int (pw gp 32 x0 1 4)]))] H := hP
  exact W.vret hx hb hr (fun t ht hW => ⟨rfl, by rw [ht]; exact hP9, hS.F ht⟩) hS.2.2 dX1_tellKey_10
end
section
theorem dX0_init_0 : decode cX0_init 0 = .ok (.aload_n 0, 1) := by decide +kernel
theorem dX0_init_1 : decode cX0_init 1 = .ok (.invokespecial 3, 3) := by decide +kernel
theorem dX0_init_4 : decode cX0_init 4 = .ok (.aload_n 0, 1) := by decide +kernel
theorem dX0_init_5 : decode cX0_init 5 = .ok (.sipush 600, 3) := by decide +kernel
theorem dX0_init_8 : decode cX0_init 8 = .ok (.newarray .int, 2) := by decide +kernel
theorem dX0_init_10 : decode cX0_init 10 = .ok (.putfield 9, 3) := by decide +kernel
theorem dX0_init_13 : decode cX0_init 13 = .ok (.aload_n 0, 1) := by decide +kernel
theorem dX0_init_14 : decode cX0_init 14 = .ok (.sipush 600, 3) := by decide +kernel
theorem dX0_init_17 : decode cX0_init 17 = .ok (.newarray .int, 2) := by decide +kernel
theorem dX0_init_19 : decode cX0_init 19 = .ok (.putfield 15, 3) := by decide +kernel
theorem dX0_init_22 : decode cX0_init 22 = .ok (.aload_n 0, 1) := by decide +kernel
theorem dX0_init_23 : decode cX0_init 23 = .ok (.sipush 600, 3) := by decide +kernel
theorem dX0_init_26 : decode cX0_init 26 = .ok (.newarray .int, 2) := by decide +kernel
theorem dX0_init_28 : decode cX0_init 28 = .ok (.putfield 18, 3) := by decide +kernel
theorem dX0_init_31 : decode cX0_init 31 = .ok (.aload_n 0, 1) := by decide +kernel
theorem dX0_init_32 : decode cX0_init 32 = .ok (.sipush 600, 3) := by decide +kernel
theorem dX0_init_35 : decode cX0_init 35 = .ok (.newarray .long, 2) := by decide +kernel
theorem dX0_init_37 : decode cX0_init 37 = .ok (.putfield 21, 3) := by decide +kernel
theorem dX0_init_40 : decode cX0_init 40 = .ok (.aload_n 0, 1) := by decide +kernel
theorem dX0_init_41 : decode cX0_init 41 = .ok (.sipush 600, 3) := by decide +kernel
theorem dX0_init_44 : decode cX0_init 44 = .ok (.newarray .long, 2) := by decide +kernel
theorem dX0_init_46 : decode cX0_init 46 = .ok (.putfield 25, 3) := by decide +kernel
theorem dX0_init_49 : decode cX0_init 49 = .ok (.return_, 1) := by decide +kernel
theorem dX0_size_0 : decode cX0_size 0 = .ok (.aload_n 0, 1) := by decide +kernel
theorem dX0_size_1 : decode cX0_size 1 = .ok (.getfield 28, 3) := by decide +kernel
theorem dX0_size_4 : decode cX0_size 4 = .ok (.ireturn, 1) := by decide +kernel
set_option maxRecDepth 20000 in
theorem ggX0_add_X0_chainOf : GoodIn wsX0_add wsX0_chainOf := goodIn_r _ [11, 12, 6, 13, 14, 15, 10, 16, 1, 22, 23, 24, 25, 26, 27] (by decide +kernel) (by decide +kernel)
set_option maxRecDepth 20000 in
theorem gX0_add_X0_chainOf : GoodIn wsX0_add (wsV RX0 32 RX0 yX0_chainOf wsX0_chainOf) := goodIn_app (goodIn_of _ (by decide +kernel)) ggX0_add_X0_chainOf
set_option maxRecDepth 20000 in
theorem ggX0_add_X3_digested : GoodIn wsX0_add wsX3_digested := goodIn_r _ [20, 21] (by decide +kernel) (by decide +kernel)
set_option maxRecDepth 20000 in
theorem gX0_add_X3_digested : GoodIn wsX0_add (va_wsS RX0 36 yX3_digested wsX3_digested) := goodIn_app (goodIn_of _ (by decide +kernel)) ggX0_add_X3_digested
theorem dX0_add_0 : decode cX0_add 0 = .ok (.aload_n 0, 1) := by decide +kernel
theorem dX0_add_1 : decode cX0_add 1 = .ok (.getfield 28, 3) := by decide +kernel
theorem dX0_add_4 : decode cX0_add 4 = .ok (.sipush 600, 3) := by decide +kernel
theorem dX0_add_7 : decode cX0_add 7 = .ok (.if_icmp .lt 5, 3) := by decide +kernel
theorem dX0_add_12 : decode cX0_add 12 = .ok (.aload_n 0, 1) := by decide +kernel
theorem dX0_add_13 : decode cX0_add 13 = .ok (.aload_n 0, 1) := by decide +kernel
theorem dX0_add_14 : decode cX0_add 14 = .ok (.getfield 28, 3) := by decide +kernel
theorem dX0_add_17 : decode cX0_add 17 = .ok (.iconst 1, 1) := by decide +kernel
theorem dX0_add_18 : decode cX0_add 18 = .ok (.isub, 1) := by decide +kernel
theorem dX0_add_19 : decode cX0_add 19 = .ok (.invokevirtual 32, 3) := by decide +kernel
theorem dX0_add_22 : decode cX0_add 22 = .ok (.lstore 6, 2) := by decide +kernel
theorem dX0_add_24 : decode cX0_add 24 = .ok (.lload 6, 2) := by decide +kernel
theorem dX0_add_26 : decode cX0_add 26 = .ok (.iload_n 1, 1) := by decide +kernel
theorem dX0_add_27 : decode cX0_add 27 = .ok (.i2l, 1) := by decide +kernel
theorem dX0_add_28 : decode cX0_add 28 = .ok (.invokestatic 36, 3) := by decide +kernel
theorem dX0_add_31 : decode cX0_add 31 = .ok (.lstore 6, 2) := by decide +kernel
theorem dX0_add_33 : decode cX0_add 33 = .ok (.lload 6, 2) := by decide +kernel
theorem dX0_add_35 : decode cX0_add 35 = .ok (.iload_n 2, 1) := by decide +kernel
theorem dX0_add_36 : decode cX0_add 36 = .ok (.i2l, 1) := by decide +kernel
theorem dX0_add_37 : decode cX0_add 37 = .ok (.invokestatic 36, 3) := by decide +kernel
theorem dX0_add_40 : decode cX0_add 40 = .ok (.lstore 6, 2) := by decide +kernel
theorem dX0_add_42 : decode cX0_add 42 = .ok (.lload 6, 2) := by decide +kernel
theorem dX0_add_44 : decode cX0_add 44 = .ok (.iload_n 3, 1) := by decide +kernel
theorem dX0_add_45 : decode cX0_add 45 = .ok (.i2l, 1) := by decide +kernel
theorem dX0_add_46 : decode cX0_add 46 = .ok (.invokestatic 36, 3) := by decide +kernel
theorem dX0_add_49 : decode cX0_add 49 = .ok (.lstore 6, 2) := by decide +kernel
theorem dX0_add_51 : decode cX0_add 51 = .ok (.lload 6, 2) := by decide +kernel
theorem dX0_add_53 : decode cX0_add 53 = .ok (.lload 4, 2) := by decide +kernel
theorem dX0_add_55 : decode cX0_add 55 = .ok (.invokestatic 36, 3) := by decide +kernel
theorem dX0_add_58 : decode cX0_add 58 = .ok (.lstore 6, 2) := by decide +kernel
theorem dX0_add_60 : decode cX0_add 60 = .ok (.aload_n 0, 1) := by decide +kernel
theorem dX0_add_61 : decode cX0_add 61 = .ok (.getfield 9, 3) := by decide +kernel
theorem dX0_add_64 : decode cX0_add 64 = .ok (.aload_n 0, 1) := by decide +kernel
theorem dX0_add_65 : decode cX0_add 65 = .ok (.getfield 28, 3) := by decide +kernel
theorem dX0_add_68 : decode cX0_add 68 = .ok (.iload_n 1, 1) := by decide +kernel
theorem dX0_add_69 : decode cX0_add 69 = .ok (.iastore, 1) := by decide +kernel
theorem dX0_add_70 : decode cX0_add 70 = .ok (.aload_n 0, 1) := by decide +kernel
theorem dX0_add_71 : decode cX0_add 71 = .ok (.getfield 15, 3) := by decide +kernel
theorem dX0_add_74 : decode cX0_add 74 = .ok (.aload_n 0, 1) := by decide +kernel
theorem dX0_add_75 : decode cX0_add 75 = .ok (.getfield 28, 3) := by decide +kernel
theorem dX0_add_78 : decode cX0_add 78 = .ok (.iload_n 2, 1) := by decide +kernel
theorem dX0_add_79 : decode cX0_add 79 = .ok (.iastore, 1) := by decide +kernel
theorem dX0_add_80 : decode cX0_add 80 = .ok (.aload_n 0, 1) := by decide +kernel
theorem dX0_add_81 : decode cX0_add 81 = .ok (.getfield 18, 3) := by decide +kernel
theorem dX0_add_84 : decode cX0_add 84 = .ok (.aload_n 0, 1) := by decide +kernel
theorem dX0_add_85 : decode cX0_add 85 = .ok (.getfield 28, 3) := by decide +kernel
theorem dX0_add_88 : decode cX0_add 88 = .ok (.iload_n 3, 1) := by decide +kernel
theorem dX0_add_89 : decode cX0_add 89 = .ok (.iastore, 1) := by decide +kernel
theorem dX0_add_90 : decode cX0_add 90 = .ok (.aload_n 0, 1) := by decide +kernel
theorem dX0_add_91 : decode cX0_add 91 = .ok (.getfield 21, 3) := by decide +kernel
theorem dX0_add_94 : decode cX0_add 94 = .ok (.aload_n 0, 1) := by decide +kernel
theorem dX0_add_95 : decode cX0_add 95 = .ok (.getfield 28, 3) := by decide +kernel
theorem dX0_add_98 : decode cX0_add 98 = .ok (.lload 4, 2) := by decide +kernel
theorem dX0_add_100 : decode cX0_add 100 = .ok (.lastore, 1) := by decide +kernel
theorem dX0_add_101 : decode cX0_add 101 = .ok (.aload_n 0, 1) := by decide +kernel
theorem dX0_add_102 : decode cX0_add 102 = .ok (.getfield 25, 3) := by decide +kernel
theorem dX0_add_105 : decode cX0_add 105 = .ok (.aload_n 0, 1) := by decide +kernel
theorem dX0_add_106 : decode cX0_add 106 = .ok (.getfield 28, 3) := by decide +kernel
theorem dX0_add_109 : decode cX0_add 109 = .ok (.lload 6, 2) := by decide +kernel
theorem dX0_add_111 : decode cX0_add 111 = .ok (.lastore, 1) := by decide +kernel
theorem dX0_add_112 : decode cX0_add 112 = .ok (.aload_n 0, 1) := by decide +kernel
theorem dX0_add_113 : decode cX0_add 113 = .ok (.dup, 1) := by decide +kernel
theorem dX0_add_114 : decode cX0_add 114 = .ok (.getfield 28, 3) := by decide +kernel
theorem dX0_add_117 : decode cX0_add 117 = .ok (.iconst 1, 1) := by decide +kernel
theorem dX0_add_118 : decode cX0_add 118 = .ok (.iadd, 1) := by decide +kernel
theorem dX0_add_119 : decode cX0_add 119 = .ok (.putfield 28, 3) := by decide +kernel
theorem dX0_add_122 : decode cX0_add 122 = .ok (.lload 6, 2) := by decide +kernel
theorem dX0_add_124 : decode cX0_add 124 = .ok (.lreturn, 1) := by decide +kernel
theorem dX0_has_0 : decode cX0_has 0 = .ok (.iload_n 1, 1) := by decide +kernel
theorem dX0_has_1 : decode cX0_has 1 = .ok (.ifCond .lt 15, 3) := by decide +kernel
theorem dX0_has_4 : decode cX0_has 4 = .ok (.iload_n 1, 1) := by decide +kernel
theorem dX0_has_5 : decode cX0_has 5 = .ok (.aload_n 0, 1) := by decide +kernel
theorem dX0_has_6 : decode cX0_has 6 = .ok (.getfield 28, 3) := by decide +kernel
theorem dX0_has_9 : decode cX0_has 9 = .ok (.if_icmp .ge 7, 3) := by decide +kernel
theorem dX0_has_12 : decode cX0_has 12 = .ok (.iconst 1, 1) := by decide +kernel
theorem dX0_has_13 : decode cX0_has 13 = .ok (.goto 4, 3) := by decide +kernel
theorem dX0_has_16 : decode cX0_has 16 = .ok (.iconst 0, 1) := by decide +kernel
theorem dX0_has_17 : decode cX0_has 17 = .ok (.ireturn, 1) := by decide +kernel
set_option maxRecDepth 20000 in
theorem ggX0_field_X0_has : GoodIn wsX0_field wsX0_has := goodIn_r _ [9, 10, 11, 12, 13, 14, 15, 16] (by decide +kernel) (by decide +kernel)
set_option maxRecDepth 20000 in
theorem gX0_field_X0_has : GoodIn wsX0_field (wsV RX0 42 RX0 yX0_has wsX0_has) := goodIn_app (goodIn_of _ (by decide +kernel)) ggX0_field_X0_has
theorem dX0_field_0 : decode cX0_field 0 = .ok (.aload_n 0, 1) := by decide +kernel
theorem dX0_field_1 : decode cX0_field 1 = .ok (.iload_n 1, 1) := by decide +kernel
theorem dX0_field_2 : decode cX0_field 2 = .ok (.invokevirtual 42, 3) := by decide +kernel
theorem dX0_field_5 : decode cX0_field 5 = .ok (.ifCond .ne 5, 3) := by decide +kernel
theorem dX0_field_8 : decode cX0_field 8 = .ok (.lconst 0, 1) := by decide +kernel
theorem dX0_field_9 : decode cX0_field 9 = .ok (.lreturn, 1) := by decide +kernel
set_option maxRecDepth 20000 in
theorem ggX0_chainOf_X0_has : GoodIn wsX0_chainOf wsX0_has := goodIn_r _ [7, 8, 9, 10, 11, 12, 13, 14] (by decide +kernel) (by decide +kernel)
set_option maxRecDepth 20000 in
theorem gX0_chainOf_X0_has : GoodIn wsX0_chainOf (wsV RX0 42 RX0 yX0_has wsX0_has) := goodIn_app (goodIn_of _ (by decide +kernel)) ggX0_chainOf_X0_has
theorem dX0_chainOf_0 : decode cX0_chainOf 0 = .ok (.iload_n 1, 1) := by decide +kernel
theorem dX0_chainOf_1 : decode cX0_chainOf 1 = .ok (.iconst (-1), 1) := by decide +kernel
theorem dX0_chainOf_2 : decode cX0_chainOf 2 = .ok (.if_icmp .ne 7, 3) := by decide +kernel
theorem dX0_chainOf_5 : decode cX0_chainOf 5 = .ok (.ldc2_w 46, 3) := by decide +kernel
theorem dX0_chainOf_8 : decode cX0_chainOf 8 = .ok (.lreturn, 1) := by decide +kernel
theorem dX0_chainOf_9 : decode cX0_chainOf 9 = .ok (.aload_n 0, 1) := by decide +kernel
theorem dX0_chainOf_10 : decode cX0_chainOf 10 = .ok (.iload_n 1, 1) := by decide +kernel
theorem dX0_chainOf_11 : decode cX0_chainOf 11 = .ok (.invokevirtual 42, 3) := by decide +kernel
theorem dX0_chainOf_14 : decode cX0_chainOf 14 = .ok (.ifCond .eq 12, 3) := by decide +kernel
theorem dX0_chainOf_17 : decode cX0_chainOf 17 = .ok (.aload_n 0, 1) := by decide +kernel
theorem dX0_chainOf_18 : decode cX0_chainOf 18 = .ok (.getfield 25, 3) := by decide +kernel
theorem dX0_chainOf_21 : decode cX0_chainOf 21 = .ok (.iload_n 1, 1) := by decide +kernel
theorem dX0_chainOf_22 : decode cX0_chainOf 22 = .ok (.laload, 1) := by decide +kernel
theorem dX0_chainOf_23 : decode cX0_chainOf 23 = .ok (.goto 4, 3) := by decide +kernel
theorem dX0_chainOf_26 : decode cX0_chainOf 26 = .ok (.lconst 0, 1) := by decide +kernel
theorem dX0_chainOf_27 : decode cX0_chainOf 27 = .ok (.lreturn, 1) := by decide +kernel
def cho (cf : Nat → Int64) (n i : Int32) : Int64 := if i = -1 then -3750763034362895579 else if 0 ≤ i ∧ i < n then cf i.toNatClampNeg else 0
theorem ix_in {i n : Int32} {n0 N : Nat} (h : 0 ≤ i ∧ i < n) (hn : n = nI n0) (h6 : n0 ≤ N) (hN : N < 2 ^ 31 := by decide) : vp_in i N := by
  rw [vp_in_iff]
  have h1 := Int32.le_iff_toInt_le.mp h.1
  have h2 := Int32.lt_iff_toInt_lt.mp h.2
  rw [hn, nI_toInt (by omega)] at h2
  have h3 : (0 : Int32).toInt = 0 := rfl
  omega
theorem ad_in {n : Int32} {n0 : Nat} (hn : n = nI n0) (h6 : n0 < 600) : vp_in n 600 := by rw [hn]; exact vp_in_nI h6 (by decide)
theorem ad_lt {n : Int32} {n0 : Nat} (hn : n = nI n0) (h6 : n0 < 600) : n < 600 := by rw [hn]; exact nI_lt (b := 600) h6 (by decide)
set_option maxHeartbeats 4000000 in
set_option maxRecDepth 100000 in
theorem c_X0_size (l : Launch) (D : va_G) (cA : Nat → ClassId) (b : Nat) (ka : Nat) (xa : Nat) (ya : Nat) (za : Nat) (ca : Nat) (n : Int32) : Met l yX0_size wsX0_size ({ frames := 0, cells := 0, slots := 0, locals := 0 }) (rPc vwCl D cA [(b, .inr (0, [.ref ka, .ref xa, .ref ya, .ref za, .ref ca, .int n]))] [.ref b]) (rq_x (some (.int n))) 0 0 (fun _ => False) := by
  refine Met.ofW (cc := cX0_size) (maxL := 1) (ret := (some .int)) (by decide) rfl ?_
  intro p e s m args below meth c s₁ B hml hv
  obtain ⟨rfl, hP, hK⟩ := hv
  have hx := B.exec
  have hb := B.bytes
  have hr := B.returns
  have hts := atoms_spec (ws := wsX0_size) B.pre
  have hown : s.vm.findClass RX0 = some m.cls := findClass_of_methodNamed B.named
  have hlocks := B.notSynchronized
  have hin_X0 : ∀ w ∈ wsX00, w ∈ wsX0_size := fun w h => List.mem_cons_of_mem _ (List.mem_append_right _ h)
  have w_RX0_28 := hts (.fieldLink RX0 28 "MixElection$Board" "size" "I") (by decide +kernel)
  have hl := lv_entry ([.ref b]) (n := 1) (Nat.le_of_ble_eq_true rfl)
  rw [lg_entry_eq]
  generalize (lg_sl ([.ref b]) ++ List.replicate (1 - (lg_sl ([.ref b])).length) Slot.unset).toArray = ls at hl ⊢
  have hl : lv_has ls 1 [(0, .ref b)] := hl
  refine lv_aload_n hx hb dX0_size_0 rfl (lv_at hl 0 rfl) ?_
  refine va_get (D := D) (ci := 0) (v := .int n) (C := RX0) (T := TX0) (N := 6) hx hb hts hin_X0 hown hK hP 0 rfl rfl 5 (by decide) (w_RX0_28) (fun _ h9 => h9) rfl dX0_size_1 ?_
  exact W.iret (v := n) hx hb hr (fun t ht hW => ⟨congrArg (fun z => Outcome.returned (some (Value.int z))) (rfl), ht⟩) (fun _ h => by cases h) dX0_size_4

set_option maxHeartbeats 4000000 in
set_option maxRecDepth 100000 in
theorem c_X0_has (l : Launch) (D : va_G) (cA : Nat → ClassId) (b : Nat) (ka : Nat) (xa : Nat) (ya : Nat) (za : Nat) (ca : Nat) (n : Int32) (i : Int32) : Met l yX0_has wsX0_has ({ frames := 0, cells := 0, slots := 0, locals := 0 }) (rPc vwCl D cA [(b, .inr (0, [.ref ka, .ref xa, .ref ya, .ref za, .ref ca, .int n]))] [.ref b, .int i]) (rq_x (some (.int (bI (0 ≤ i ∧ i < n))))) 0 0 (fun _ => False) := by
  refine Met.ofW (cc := cX0_has) (maxL := 2) (ret := (some .boolean)) (by decide) rfl ?_
  intro p e s m args below meth c s₁ B hml hv
  obtain ⟨rfl, hP, hK⟩ := hv
  have hx := B.exec
  have hb := B.bytes
  have hr := B.returns
  have hts := atoms_spec (ws := wsX0_has) B.pre
  have hown : s.vm.findClass RX0 = some m.cls := findClass_of_methodNamed B.named
  have hlocks := B.notSynchronized
  have hin_X0 : ∀ w ∈ wsX00, w ∈ wsX0_has := fun w h => List.mem_cons_of_mem _ (List.mem_append_right _ h)
  have w_RX0_28 := hts (.fieldLink RX0 28 "MixElection$Board" "size" "I") (by decide +kernel)
  have hl := lv_entry ([.ref b, .int i]) (n := 2) (Nat.le_of_ble_eq_true rfl)
  rw [lg_entry_eq]
  generalize (lg_sl ([.ref b, .int i]) ++ List.replicate (2 - (lg_sl ([.ref b, .int i])).length) Slot.unset).toArray = ls at hl ⊢
  have hl : lv_has ls 2 [(0, .ref b), (1, .int i)] := hl
  refine lv_iload_n hx hb dX0_has_0 rfl (lv_at hl 1 rfl) ?_
  refine lv_if_lt (tgt := 16) hx hb dX0_has_1 (by decide) (fun c_1 => ?_) (fun c_1 => ?_)
  · skip
    refine lv_iconst (v := 0) hx hb dX0_has_16 (by decide) ?_
    exact W.zret (v := 0) hx hb hr rfl (fun t ht hW => ⟨congrArg (fun z => Outcome.returned (some (Value.int z))) (bI_f (fun h => absurd c_1 (Int32.not_lt.mpr h.1))), ht⟩) (fun _ h => by cases h) dX0_has_17
  · skip
    refine lv_iload_n hx hb dX0_has_4 rfl (lv_at hl 1 rfl) ?_
    refine lv_aload_n hx hb dX0_has_5 rfl (lv_at hl 0 rfl) ?_
    refine va_get (D := D) (ci := 0) (v := .int n) (C := RX0) (T := TX0) (N := 6) hx hb hts hin_X0 hown hK hP 0 rfl rfl 5 (by decide) (w_RX0_28) (fun _ h9 => h9) rfl dX0_has_6 ?_
    refine lv_icmp_ge (tgt := 16) hx hb dX0_has_9 (by decide) (fun c_9 => ?_) (fun c_9 => ?_)
    · skip
      refine lv_iconst (v := 0) hx hb dX0_has_16 (by decide) ?_
      exact W.zret (v := 0) hx hb hr rfl (fun t ht hW => ⟨congrArg (fun z => Outcome.returned (some (Value.int z))) (bI_f (fun h => absurd h.2 (Int32.not_lt.mpr c_9))), ht⟩) (fun _ h => by cases h) dX0_has_17
    · skip
      refine lv_iconst (v := 1) hx hb dX0_has_12 (by decide) ?_
      refine lv_goto (tgt := 17) hx hb dX0_has_13 (by decide) ?_
      exact W.zret (v := 1) hx hb hr rfl (fun t ht hW => ⟨congrArg (fun z => Outcome.returned (some (Value.int z))) (bI_t ⟨Int32.not_lt.mp c_1, Int32.not_le.mp c_9⟩), ht⟩) (fun _ h => by cases h) dX0_has_17

set_option maxHeartbeats 4000000 in
set_option maxRecDepth 100000 in
theorem c_X0_chainOf (l : Launch) (D : va_G) (cA : Nat → ClassId) (b : Nat) (ka : Nat) (xa : Nat) (ya : Nat) (za : Nat) (ca : Nat) (n : Int32) (i : Int32) (cf : Nat → Int64) (n0 : Nat) (hn : n = nI n0) (h6 : n0 ≤ 600) : Met l yX0_chainOf wsX0_chainOf ({ frames := 1, cells := 0, slots := 0, locals := 21 }) (rPc vwCl D cA [(b, .inr (0, [.ref ka, .ref xa, .ref ya, .ref za, .ref ca, .int n])), (ca, .inl (cA 2, 600, .inr (.inl cf)))] [.ref b, .int i]) (rq_x (some (.long (cho cf n i)))) 0 0 (fun _ => False) := by
  refine Met.ofW (cc := cX0_chainOf) (maxL := 2) (ret := (some .long)) (by decide) rfl ?_
  intro p e s m args below meth c s₁ B hml hv
  obtain ⟨rfl, hP, hK⟩ := hv
  have hx := B.exec
  have hb := B.bytes
  have hr := B.returns
  have hts := atoms_spec (ws := wsX0_chainOf) B.pre
  have hown : s.vm.findClass RX0 = some m.cls := findClass_of_methodNamed B.named
  have hlocks := B.notSynchronized
  have hin_X0 : ∀ w ∈ wsX00, w ∈ wsX0_chainOf := fun w h => List.mem_cons_of_mem _ (List.mem_append_right _ h)
  have w_RX0_25 := hts (.fieldLink RX0 25 "MixElection$Board" "chains" "[J") (by decide +kernel)
  have hl := lv_entry ([.ref b, .int i]) (n := 2) (Nat.le_of_ble_eq_true rfl)
  rw [lg_entry_eq]
  generalize (lg_sl ([.ref b, .int i]) ++ List.replicate (2 - (lg_sl ([.ref b, .int i])).length) Slot.unset).toArray = ls at hl ⊢
  have hl : lv_has ls 2 [(0, .ref b), (1, .int i)] := hl
  refine lv_iload_n hx hb dX0_chainOf_0 rfl (lv_at hl 1 rfl) ?_
  refine lv_iconst (v := (-1)) hx hb dX0_chainOf_1 (by decide) ?_
  refine lv_icmp_ne (tgt := 9) hx hb dX0_chainOf_2 (by decide) (fun c_2 => ?_) (fun c_2 => ?_)
  · skip
    refine lv_aload_n hx hb dX0_chainOf_9 rfl (lv_at hl 0 rfl) ?_
    refine lv_iload_n hx hb dX0_chainOf_10 rfl (lv_at hl 1 rfl) ?_
    refine rq_call1 (v := .int (bI (0 ≤ i ∧ i < n))) (rn_V (As := [.int i]) (rest := []) (ci := 0) (fs := [.ref ka, .ref xa, .ref ya, .ref za, .ref ca, .int n]) ⟨hx, hb, hml, hown, hts⟩ (c_X0_has l D cA b ka xa ya za ca n i) rfl (cwV 1 hts gX0_chainOf_X0_has rfl rfl rfl (by decide +kernel) ⟨Nat.le_of_ble_eq_true rfl, Nat.le_of_ble_eq_true rfl⟩) hK hP [0] rfl rfl rfl hl.1 rfl (Nat.le_of_ble_eq_true rfl) dX0_chainOf_11 ⟨Nat.le_of_ble_eq_true rfl, Nat.le_of_ble_eq_true rfl⟩) ?_
    refine lv_if_eq (tgt := 26) hx hb dX0_chainOf_14 (by decide) (fun c_14 => ?_) (fun c_14 => ?_)
    · skip
      refine lv_lconst (v := 0) hx hb dX0_chainOf_26 (by decide) ?_
      exact W.lret (v := 0) hx hb hr (fun t ht hW => ⟨congrArg (fun z => Outcome.returned (some (Value.long z))) ((by rw [cho, if_neg c_2, if_neg (bI_0 c_14)])), ht⟩) (fun _ h => by cases h) dX0_chainOf_27
    · skip
      refine lv_aload_n hx hb dX0_chainOf_17 rfl (lv_at hl 0 rfl) ?_
      refine va_get (D := D) (ci := 0) (v := .ref ca) (C := RX0) (T := TX0) (N := 6) hx hb hts hin_X0 hown hK hP 0 rfl rfl 4 (by decide) (w_RX0_25) (fun _ h9 => h9) rfl dX0_chainOf_18 ?_
      refine lv_iload_n hx hb dX0_chainOf_21 rfl (lv_at hl 1 rfl) ?_
      refine va_lald hx hb hK hP 1 2 rfl rfl (ix_in (bI_1 c_14) hn h6) dX0_chainOf_22 ?_
      refine lv_goto (tgt := 27) hx hb dX0_chainOf_23 (by decide) ?_
      exact W.lret (v := (cf i.toNatClampNeg)) hx hb hr (fun t ht hW => ⟨congrArg (fun z => Outcome.returned (some (Value.long z))) ((by rw [cho, if_neg c_2, if_pos (bI_1 c_14)])), ht⟩) (fun _ h => by cases h) dX0_chainOf_27
  · skip
    refine lv_ldc2 (v := (-3750763034362895579)) hx hb hown (hts (.constantLong RX0 46 (-3750763034362895579)) (by decide +kernel)) dX0_chainOf_5 ?_
    exact W.lret (v := (-3750763034362895579)) hx hb hr (fun t ht hW => ⟨congrArg (fun z => Outcome.returned (some (Value.long z))) ((by rw [cho, if_pos c_2])), ht⟩) (fun _ h => by cases h) dX0_chainOf_8

set_option maxHeartbeats 4000000 in
set_option maxRecDepth 100000 in
theorem c_X0_field_no (l : Launch) (D : va_G) (cA : Nat → ClassId) (b : Nat) (ka : Nat) (xa : Nat) (ya : Nat) (za : Nat) (ca : Nat) (n : Int32) (i : Int32) (w : Int32) (hi : ¬ (0 ≤ i ∧ i < n)) : Met l yX0_field wsX0_field ({ frames := 1, cells := 0, slots := 0, locals := 21 }) (rPc vwCl D cA [(b, .inr (0, [.ref ka, .ref xa, .ref ya, .ref za, .ref ca, .int n]))] [.ref b, .int i, .int w]) (rq_x (some (.long 0))) 0 0 (fun _ => False) := by
  refine Met.ofW (cc := cX0_field) (maxL := 3) (ret := (some .long)) (by decide) rfl ?_
  intro p e s m args below meth c s₁ B hml hv
  obtain ⟨rfl, hP, hK⟩ := hv
  have hx := B.exec
  have hb := B.bytes
  have hr := B.returns
  have hts := atoms_spec (ws := wsX0_field) B.pre
  have hown : s.vm.findClass RX0 = some m.cls := findClass_of_methodNamed B.named
  have hlocks := B.notSynchronized
  have hl := lv_entry ([.ref b, .int i, .int w]) (n := 3) (Nat.le_of_ble_eq_true rfl)
  rw [lg_entry_eq]
  generalize (lg_sl ([.ref b, .int i, .int w]) ++ List.replicate (3 - (lg_sl ([.ref b, .int i, .int w])).length) Slot.unset).toArray = ls at hl ⊢
  have hl : lv_has ls 3 [(0, .ref b), (1, .int i), (2, .int w)] := hl
  refine lv_aload_n hx hb dX0_field_0 rfl (lv_at hl 0 rfl) ?_
  refine lv_iload_n hx hb dX0_field_1 rfl (lv_at hl 1 rfl) ?_
  refine rq_call1 (v := .int (bI (0 ≤ i ∧ i < n))) (rn_V (As := [.int i]) (rest := []) (ci := 0) (fs := [.ref ka, .ref xa, .ref ya, .ref za, .ref ca, .int n]) ⟨hx, hb, hml, hown, hts⟩ (c_X0_has l D cA b ka xa ya za ca n i) rfl (cwV 1 hts gX0_field_X0_has rfl rfl rfl (by decide +kernel) ⟨Nat.le_of_ble_eq_true rfl, Nat.le_of_ble_eq_true rfl⟩) hK hP [0] rfl rfl rfl hl.1 rfl (Nat.le_of_ble_eq_true rfl) dX0_field_2 ⟨Nat.le_of_ble_eq_true rfl, Nat.le_of_ble_eq_true rfl⟩) ?_
  refine lv_if_ne (tgt := 10) hx hb dX0_field_5 (by decide) (fun c_5 => ?_) (fun c_5 => ?_)
  · exact absurd (bI_f hi).symm c_5
  · skip
    refine lv_lconst (v := 0) hx hb dX0_field_8 (by decide) ?_
    exact W.lret (v := 0) hx hb hr (fun t ht hW => ⟨congrArg (fun z => Outcome.returned (some (Value.long z))) (rfl), ht⟩) (fun _ h => by cases h) dX0_field_9

set_option maxHeartbeats 4000000 in
set_option maxRecDepth 100000 in
theorem c_X0_add (l : Launch) (D : va_G) (cA : Nat → ClassId) (b : Nat) (ka : Nat) (xa : Nat) (ya : Nat) (za : Nat) (ca : Nat) (n : Int32) (kf : Nat → Int32) (xf : Nat → Int32) (yf : Nat → Int32) (zf : Nat → Int64) (cf : Nat → Int64) (kd : Int32) (x : Int32) (y : Int32) (z : Int64) (n0 : Nat) (hn : n = nI n0) (h6 : n0 < 600) : Met l yX0_add wsX0_add ({ frames := 2, cells := 0, slots := 0, locals := 42 }) (wPc vwCl D cA [(b, .inr (0, [.ref ka, .ref xa, .ref ya, .ref za, .ref ca, .int n])), (ka, .inl (cA 0, 600, .inl kf)), (xa, .inl (cA 0, 600, .inl xf)), (ya, .inl (cA 0, 600, .inl yf)), (za, .inl (cA 2, 600, .inr (.inl zf))), (ca, .inl (cA 2, 600, .inr (.inl cf)))] [.ref b, .int kd, .int x, .int y, .long z]) (wq_x vwCl D [(b, .inr (0, [.ref ka, .ref xa, .ref ya, .ref za, .ref ca, .int (n + 1)])), (ka, .inl (cA 0, 600, .inl (upd kf n.toNatClampNeg kd))), (xa, .inl (cA 0, 600, .inl (upd xf n.toNatClampNeg x))), (ya, .inl (cA 0, 600, .inl (upd yf n.toNatClampNeg y))), (za, .inl (cA 2, 600, .inr (.inl (vp_updL zf n.toNatClampNeg z)))), (ca, .inl (cA 2, 600, .inr (.inl (vp_updL cf n.toNatClampNeg (dg (dg (dg (dg (cho cf n (n - 1)) (kd.toInt64)) (x.toInt64)) (y.toInt64)) z)))))] (some (.long (dg (dg (dg (dg (cho cf n (n - 1)) (kd.toInt64)) (x.toInt64)) (y.toInt64)) z))) (wA [(b, .inr (0, [.ref ka, .ref xa, .ref ya, .ref za, .ref ca, .int n])), (ka, .inl (cA 0, 600, .inl kf)), (xa, .inl (cA 0, 600, .inl xf)), (ya, .inl (cA 0, 600, .inl yf)), (za, .inl (cA 2, 600, .inr (.inl zf))), (ca, .inl (cA 2, 600, .inr (.inl cf)))])) 0 0 (wA [(b, .inr (0, [.ref ka, .ref xa, .ref ya, .ref za, .ref ca, .int n])), (ka, .inl (cA 0, 600, .inl kf)), (xa, .inl (cA 0, 600, .inl xf)), (ya, .inl (cA 0, 600, .inl yf)), (za, .inl (cA 2, 600, .inr (.inl zf))), (ca, .inl (cA 2, 600, .inr (.inl cf)))]) := by
  refine Met.ofW (cc := cX0_add) (maxL := 8) (ret := (some .long)) (by decide) rfl ?_
  intro p e s m args below meth c s₁ B hml hv
  obtain ⟨rfl, hP, hK, hD0⟩ := hv
  have hx := B.exec
  have hb := B.bytes
  have hr := B.returns
  have hts := atoms_spec (ws := wsX0_add) B.pre
  have hown : s.vm.findClass RX0 = some m.cls := findClass_of_methodNamed B.named
  have hlocks := B.notSynchronized
  have hin_X0 : ∀ w ∈ wsX00, w ∈ wsX0_add := fun w h => List.mem_cons_of_mem _ (List.mem_append_right _ h)
  have w_RX0_28 := hts (.fieldLink RX0 28 "MixElection$Board" "size" "I") (by decide +kernel)
  have w_RX0_9 := hts (.fieldLink RX0 9 "MixElection$Board" "kinds" "[I") (by decide +kernel)
  have w_RX0_15 := hts (.fieldLink RX0 15 "MixElection$Board" "xs" "[I") (by decide +kernel)
  have w_RX0_18 := hts (.fieldLink RX0 18 "MixElection$Board" "ys" "[I") (by decide +kernel)
  have w_RX0_21 := hts (.fieldLink RX0 21 "MixElection$Board" "zs" "[J") (by decide +kernel)
  have w_RX0_25 := hts (.fieldLink RX0 25 "MixElection$Board" "chains" "[J") (by decide +kernel)
  have hD : va_D (wA [(b, .inr (0, [.ref ka, .ref xa, .ref ya, .ref za, .ref ca, .int n])), (ka, .inl (cA 0, 600, .inl kf)), (xa, .inl (cA 0, 600, .inl xf)), (ya, .inl (cA 0, 600, .inl yf)), (za, .inl (cA 2, 600, .inr (.inl zf))), (ca, .inl (cA 2, 600, .inr (.inl cf)))]) [(b, .inr (0, [.ref ka, .ref xa, .ref ya, .ref za, .ref ca, .int n])), (ka, .inl (cA 0, 600, .inl kf)), (xa, .inl (cA 0, 600, .inl xf)), (ya, .inl (cA 0, 600, .inl yf)), (za, .inl (cA 2, 600, .inr (.inl zf))), (ca, .inl (cA 2, 600, .inr (.inl cf)))] := ⟨hD0.1, fun k q h => List.mem_map.mpr ⟨q, List.mem_of_getElem? h, rfl⟩⟩
  have hS : va_S (wA [(b, .inr (0, [.ref ka, .ref xa, .ref ya, .ref za, .ref ca, .int n])), (ka, .inl (cA 0, 600, .inl kf)), (xa, .inl (cA 0, 600, .inl xf)), (ya, .inl (cA 0, 600, .inl yf)), (za, .inl (cA 2, 600, .inr (.inl zf))), (ca, .inl (cA 2, 600, .inr (.inl cf)))]) s.heap s.heap [] := va_S.rf
  generalize hAe : wA [(b, .inr (0, [.ref ka, .ref xa, .ref ya, .ref za, .ref ca, .int n])), (ka, .inl (cA 0, 600, .inl kf)), (xa, .inl (cA 0, 600, .inl xf)), (ya, .inl (cA 0, 600, .inl yf)), (za, .inl (cA 2, 600, .inr (.inl zf))), (ca, .inl (cA 2, 600, .inr (.inl cf)))] = A at hD hS ⊢
  have hP : va_P D vwCl [(b, .inr (0, [.ref ka, .ref xa, .ref ya, .ref za, .ref ca, .int n])), (ka, .inl (cA 0, 600, .inl kf)), (xa, .inl (cA 0, 600, .inl xf)), (ya, .inl (cA 0, 600, .inl yf)), (za, .inl (cA 2, 600, .inr (.inl zf))), (ca, .inl (cA 2, 600, .inr (.inl cf)))] s.heap := hP
  have hl := lv_entry ([.ref b, .int kd, .int x, .int y, .long z]) (n := 8) (Nat.le_of_ble_eq_true rfl)
  rw [lg_entry_eq]
  generalize (lg_sl ([.ref b, .int kd, .int x, .int y, .long z]) ++ List.replicate (8 - (lg_sl ([.ref b, .int kd, .int x, .int y, .long z])).length) Slot.unset).toArray = ls at hl ⊢
  have hl : lv_has ls 8 [(0, .ref b), (1, .int kd), (2, .int x), (3, .int y), (4, .long z)] := hl
  refine lv_aload_n hx hb dX0_add_0 rfl (lv_at hl 0 rfl) ?_
  refine va_get (D := D) (ci := 0) (v := .int n) (C := RX0) (T := TX0) (N := 6) hx hb hts hin_X0 hown hK hP 0 rfl rfl 5 (by decide) (w_RX0_28) (fun _ h9 => h9) rfl dX0_add_1 ?_
  refine lv_sipush (v := 600) hx hb dX0_add_4 (by decide) ?_
  refine lv_icmp_lt (tgt := 12) hx hb dX0_add_7 (by decide) (fun c_7 => ?_) (fun c_7 => ?_)
  · skip
    refine lv_aload_n hx hb dX0_add_12 rfl (lv_at hl 0 rfl) ?_
    refine lv_aload_n hx hb dX0_add_13 rfl (lv_at hl 0 rfl) ?_
    refine va_get (D := D) (ci := 0) (v := .int n) (C := RX0) (T := TX0) (N := 6) hx hb hts hin_X0 hown hK hP 0 rfl rfl 5 (by decide) (w_RX0_28) (fun _ h9 => h9) rfl dX0_add_14 ?_
    refine lv_iconst (v := 1) hx hb dX0_add_17 (by decide) ?_
    refine lv_isub hx hb dX0_add_18 ?_
    refine rq_call1 (v := .long (cho cf n (n - 1))) (rn_V (As := [.int (n - 1)]) (rest := []) (ci := 0) (fs := [.ref ka, .ref xa, .ref ya, .ref za, .ref ca, .int n]) ⟨hx, hb, hml, hown, hts⟩ (c_X0_chainOf l D cA b ka xa ya za ca n (n - 1) cf n0 hn (by omega)) rfl (cwV 1 hts gX0_add_X0_chainOf rfl rfl rfl (by decide +kernel) ⟨Nat.le_of_ble_eq_true rfl, Nat.le_of_ble_eq_true rfl⟩) hK hP [0, 5] rfl rfl rfl hl.1 rfl (Nat.le_of_ble_eq_true rfl) dX0_add_19 ⟨Nat.le_of_ble_eq_true rfl, Nat.le_of_ble_eq_true rfl⟩) ?_
    refine lv_lstore (lv' := [(6, .long (cho cf n (n - 1))), (0, .ref b), (1, .int kd), (2, .int x), (3, .int y), (4, .long z)]) hx hb dX0_add_22 hl (by decide) rfl (fun ls hl => ?_)
    refine lv_lload hx hb dX0_add_24 (lv_at hl 0 rfl) ?_
    refine lv_iload_n hx hb dX0_add_26 rfl (lv_at hl 2 rfl) ?_
    refine lv_i2l hx hb dX0_add_27 rfl ?_
    refine rq_call1 (v := .long (dg (cho cf n (n - 1)) kd.toInt64)) (rn_S (As := [.long (cho cf n (n - 1)), .long kd.toInt64]) (rest := []) ⟨hx, hb, hml, hown, hts⟩ (c_X3_digested l D cA (cho cf n (n - 1)) kd.toInt64) (va_cwS 2 hts gX0_add_X3_digested rfl rfl rfl (by decide +kernel) ⟨Nat.le_of_ble_eq_true rfl, Nat.le_of_ble_eq_true rfl⟩) hK hP [] rfl rfl hl.1 rfl (Nat.le_of_ble_eq_true rfl) dX0_add_28 ⟨Nat.le_of_ble_eq_true rfl, Nat.le_of_ble_eq_true rfl⟩) ?_
    refine lv_lstore (lv' := [(6, .long (dg (cho cf n (n - 1)) kd.toInt64)), (0, .ref b), (1, .int kd), (2, .int x), (3, .int y), (4, .long z)]) hx hb dX0_add_31 hl (by decide) rfl (fun ls hl => ?_)
    refine lv_lload hx hb dX0_add_33 (lv_at hl 0 rfl) ?_
    refine lv_iload_n hx hb dX0_add_35 rfl (lv_at hl 3 rfl) ?_
    refine lv_i2l hx hb dX0_add_36 rfl ?_
    refine rq_call1 (v := .long (dg (dg (cho cf n (n - 1)) kd.toInt64) x.toInt64)) (rn_S (As := [.long (dg (cho cf n (n - 1)) kd.toInt64), .long x.toInt64]) (rest := []) ⟨hx, hb, hml, hown, hts⟩ (c_X3_digested l D cA (dg (cho cf n (n - 1)) kd.toInt64) x.toInt64) (va_cwS 2 hts gX0_add_X3_digested rfl rfl rfl (by decide +kernel) ⟨Nat.le_of_ble_eq_true rfl, Nat.le_of_ble_eq_true rfl⟩) hK hP [] rfl rfl hl.1 rfl (Nat.le_of_ble_eq_true rfl) dX0_add_37 ⟨Nat.le_of_ble_eq_true rfl, Nat.le_of_ble_eq_true rfl⟩) ?_
    refine lv_lstore (lv' := [(6, .long (dg (dg (cho cf n (n - 1)) kd.toInt64) x.toInt64)), (0, .ref b), (1, .int kd), (2, .int x), (3, .int y), (4, .long z)]) hx hb dX0_add_40 hl (by decide) rfl (fun ls hl => ?_)
    refine lv_lload hx hb dX0_add_42 (lv_at hl 0 rfl) ?_
    refine lv_iload_n hx hb dX0_add_44 rfl (lv_at hl 4 rfl) ?_
    refine lv_i2l hx hb dX0_add_45 rfl ?_
    refine rq_call1 (v := .long (dg (dg (dg (cho cf n (n - 1)) kd.toInt64) x.toInt64) y.toInt64)) (rn_S (As := [.long (dg (dg (cho cf n (n - 1)) kd.toInt64) x.toInt64), .long y.toInt64]) (rest := []) ⟨hx, hb, hml, hown, hts⟩ (c_X3_digested l D cA (dg (dg (cho cf n (n - 1)) kd.toInt64) x.toInt64) y.toInt64) (va_cwS 2 hts gX0_add_X3_digested rfl rfl rfl (by decide +kernel) ⟨Nat.le_of_ble_eq_true rfl, Nat.le_of_ble_eq_true rfl⟩) hK hP [] rfl rfl hl.1 rfl (Nat.le_of_ble_eq_true rfl) dX0_add_46 ⟨Nat.le_of_ble_eq_true rfl, Nat.le_of_ble_eq_true rfl⟩) ?_
    refine lv_lstore (lv' := [(6, .long (dg (dg (dg (cho cf n (n - 1)) kd.toInt64) x.toInt64) y.toInt64)), (0, .ref b), (1, .int kd), (2, .int x), (3, .int y), (4, .long z)]) hx hb dX0_add_49 hl (by decide) rfl (fun ls hl => ?_)
    refine lv_lload hx hb dX0_add_51 (lv_at hl 0 rfl) ?_
    refine lv_lload hx hb dX0_add_53 (lv_at hl 5 rfl) ?_
    refine rq_call1 (v := .long (dg (dg (dg (dg (cho cf n (n - 1)) kd.toInt64) x.toInt64) y.toInt64) z)) (rn_S (As := [.long (dg (dg (dg (cho cf n (n - 1)) kd.toInt64) x.toInt64) y.toInt64), .long z]) (rest := []) ⟨hx, hb, hml, hown, hts⟩ (c_X3_digested l D cA (dg (dg (dg (cho cf n (n - 1)) kd.toInt64) x.toInt64) y.toInt64) z) (va_cwS 2 hts gX0_add_X3_digested rfl rfl rfl (by decide +kernel) ⟨Nat.le_of_ble_eq_true rfl, Nat.le_of_ble_eq_true rfl⟩) hK hP [] rfl rfl hl.1 rfl (Nat.le_of_ble_eq_true rfl) dX0_add_55 ⟨Nat.le_of_ble_eq_true rfl, Nat.le_of_ble_eq_true rfl⟩) ?_
    refine lv_lstore (lv' := [(6, .long (dg (dg (dg (dg (cho cf n (n - 1)) kd.toInt64) x.toInt64) y.toInt64) z)), (0, .ref b), (1, .int kd), (2, .int x), (3, .int y), (4, .long z)]) hx hb dX0_add_58 hl (by decide) rfl (fun ls hl => ?_)
    refine lv_aload_n hx hb dX0_add_60 rfl (lv_at hl 1 rfl) ?_
    refine va_get (D := D) (ci := 0) (v := .ref ka) (C := RX0) (T := TX0) (N := 6) hx hb hts hin_X0 hown hK hP 0 rfl rfl 0 (by decide) (w_RX0_9) (fun _ h9 => h9) rfl dX0_add_61 ?_
    refine lv_aload_n hx hb dX0_add_64 rfl (lv_at hl 1 rfl) ?_
    refine va_get (D := D) (ci := 0) (v := .int n) (C := RX0) (T := TX0) (N := 6) hx hb hts hin_X0 hown hK hP 0 rfl rfl 5 (by decide) (w_RX0_28) (fun _ h9 => h9) rfl dX0_add_65 ?_
    refine lv_iload_n hx hb dX0_add_68 rfl (lv_at hl 2 rfl) ?_
    refine va_iast hx hb hK hP hD hS 1 0 rfl rfl (ad_in hn h6) dX0_add_69 (fun H locs hP hD hS => ?_)
    have hP : va_P D vwCl [(b, .inr (0, [.ref ka, .ref xa, .ref ya, .ref za, .ref ca, .int n])), (ka, .inl (cA 0, 600, .inl (upd kf n.toNatClampNeg kd))), (xa, .inl (cA 0, 600, .inl xf)), (ya, .inl (cA 0, 600, .inl yf)), (za, .inl (cA 2, 600, .inr (.inl zf))), (ca, .inl (cA 2, 600, .inr (.inl cf)))] H := hP
    have hD : va_D A [(b, .inr (0, [.ref ka, .ref xa, .ref ya, .ref za, .ref ca, .int n])), (ka, .inl (cA 0, 600, .inl (upd kf n.toNatClampNeg kd))), (xa, .inl (cA 0, 600, .inl xf)), (ya, .inl (cA 0, 600, .inl yf)), (za, .inl (cA 2, 600, .inr (.inl zf))), (ca, .inl (cA 2, 600, .inr (.inl cf)))] := hD
    refine lv_aload_n hx hb dX0_add_70 rfl (lv_at hl 1 rfl) ?_
    refine va_get (D := D) (ci := 0) (v := .ref xa) (C := RX0) (T := TX0) (N := 6) hx hb hts hin_X0 hown hK hP 0 rfl rfl 1 (by decide) (w_RX0_15) (fun _ h9 => h9) rfl dX0_add_71 ?_
    refine lv_aload_n hx hb dX0_add_74 rfl (lv_at hl 1 rfl) ?_
    refine va_get (D := D) (ci := 0) (v := .int n) (C := RX0) (T := TX0) (N := 6) hx hb hts hin_X0 hown hK hP 0 rfl rfl 5 (by decide) (w_RX0_28) (fun _ h9 => h9) rfl dX0_add_75 ?_
    refine lv_iload_n hx hb dX0_add_78 rfl (lv_at hl 3 rfl) ?_
    refine va_iast hx hb hK hP hD hS 2 0 rfl rfl (ad_in hn h6) dX0_add_79 (fun H locs hP hD hS => ?_)
    have hP : va_P D vwCl [(b, .inr (0, [.ref ka, .ref xa, .ref ya, .ref za, .ref ca, .int n])), (ka, .inl (cA 0, 600, .inl (upd kf n.toNatClampNeg kd))), (xa, .inl (cA 0, 600, .inl (upd xf n.toNatClampNeg x))), (ya, .inl (cA 0, 600, .inl yf)), (za, .inl (cA 2, 600, .inr (.inl zf))), (ca, .inl (cA 2, 600, .inr (.inl cf)))] H := hP
    have hD : va_D A [(b, .inr (0, [.ref ka, .ref xa, .ref ya, .ref za, .ref ca, .int n])), (ka, .inl (cA 0, 600, .inl (upd kf n.toNatClampNeg kd))), (xa, .inl (cA 0, 600, .inl (upd xf n.toNatClampNeg x))), (ya, .inl (cA 0, 600, .inl yf)), (za, .inl (cA 2, 600, .inr (.inl zf))), (ca, .inl (cA 2, 600, .inr (.inl cf)))] := hD
    refine lv_aload_n hx hb dX0_add_80 rfl (lv_at hl 1 rfl) ?_
    refine va_get (D := D) (ci := 0) (v := .ref ya) (C := RX0) (T := TX0) (N := 6) hx hb hts hin_X0 hown hK hP 0 rfl rfl 2 (by decide) (w_RX0_18) (fun _ h9 => h9) rfl dX0_add_81 ?_
    refine lv_aload_n hx hb dX0_add_84 rfl (lv_at hl 1 rfl) ?_
    refine va_get (D := D) (ci := 0) (v := .int n) (C := RX0) (T := TX0) (N := 6) hx hb hts hin_X0 hown hK hP 0 rfl rfl 5 (by decide) (w_RX0_28) (fun _ h9 => h9) rfl dX0_add_85 ?_
    refine lv_iload_n hx hb dX0_add_88 rfl (lv_at hl 4 rfl) ?_
    refine va_iast hx hb hK hP hD hS 3 0 rfl rfl (ad_in hn h6) dX0_add_89 (fun H locs hP hD hS => ?_)
    have hP : va_P D vwCl [(b, .inr (0, [.ref ka, .ref xa, .ref ya, .ref za, .ref ca, .int n])), (ka, .inl (cA 0, 600, .inl (upd kf n.toNatClampNeg kd))), (xa, .inl (cA 0, 600, .inl (upd xf n.toNatClampNeg x))), (ya, .inl (cA 0, 600, .inl (upd yf n.toNatClampNeg y))), (za, .inl (cA 2, 600, .inr (.inl zf))), (ca, .inl (cA 2, 600, .inr (.inl cf)))] H := hP
    have hD : va_D A [(b, .inr (0, [.ref ka, .ref xa, .ref ya, .ref za, .ref ca, .int n])), (ka, .inl (cA 0, 600, .inl (upd kf n.toNatClampNeg kd))), (xa, .inl (cA 0, 600, .inl (upd xf n.toNatClampNeg x))), (ya, .inl (cA 0, 600, .inl (upd yf n.toNatClampNeg y))), (za, .inl (cA 2, 600, .inr (.inl zf))), (ca, .inl (cA 2, 600, .inr (.inl cf)))] := hD
    refine lv_aload_n hx hb dX0_add_90 rfl (lv_at hl 1 rfl) ?_
    refine va_get (D := D) (ci := 0) (v := .ref za) (C := RX0) (T := TX0) (N := 6) hx hb hts hin_X0 hown hK hP 0 rfl rfl 3 (by decide) (w_RX0_21) (fun _ h9 => h9) rfl dX0_add_91 ?_
    refine lv_aload_n hx hb dX0_add_94 rfl (lv_at hl 1 rfl) ?_
    refine va_get (D := D) (ci := 0) (v := .int n) (C := RX0) (T := TX0) (N := 6) hx hb hts hin_X0 hown hK hP 0 rfl rfl 5 (by decide) (w_RX0_28) (fun _ h9 => h9) rfl dX0_add_95 ?_
    refine lv_lload hx hb dX0_add_98 (lv_at hl 5 rfl) ?_
    refine va_last hx hb hK hP hD hS 4 2 rfl rfl (ad_in hn h6) dX0_add_100 (fun H locs hP hD hS => ?_)
    have hP : va_P D vwCl [(b, .inr (0, [.ref ka, .ref xa, .ref ya, .ref za, .ref ca, .int n])), (ka, .inl (cA 0, 600, .inl (upd kf n.toNatClampNeg kd))), (xa, .inl (cA 0, 600, .inl (upd xf n.toNatClampNeg x))), (ya, .inl (cA 0, 600, .inl (upd yf n.toNatClampNeg y))), (za, .inl (cA 2, 600, .inr (.inl (vp_updL zf n.toNatClampNeg z)))), (ca, .inl (cA 2, 600, .inr (.inl cf)))] H := hP
    have hD : va_D A [(b, .inr (0, [.ref ka, .ref xa, .ref ya, .ref za, .ref ca, .int n])), (ka, .inl (cA 0, 600, .inl (upd kf n.toNatClampNeg kd))), (xa, .inl (cA 0, 600, .inl (upd xf n.toNatClampNeg x))), (ya, .inl (cA 0, 600, .inl (upd yf n.toNatClampNeg y))), (za, .inl (cA 2, 600, .inr (.inl (vp_updL zf n.toNatClampNeg z)))), (ca, .inl (cA 2, 600, .inr (.inl cf)))] := hD
    refine lv_aload_n hx hb dX0_add_101 rfl (lv_at hl 1 rfl) ?_
    refine va_get (D := D) (ci := 0) (v := .ref ca) (C := RX0) (T := TX0) (N := 6) hx hb hts hin_X0 hown hK hP 0 rfl rfl 4 (by decide) (w_RX0_25) (fun _ h9 => h9) rfl dX0_add_102 ?_
    refine lv_aload_n hx hb dX0_add_105 rfl (lv_at hl 1 rfl) ?_
    refine va_get (D := D) (ci := 0) (v := .int n) (C := RX0) (T := TX0) (N := 6) hx hb hts hin_X0 hown hK hP 0 rfl rfl 5 (by decide) (w_RX0_28) (fun _ h9 => h9) rfl dX0_add_106 ?_
    refine lv_lload hx hb dX0_add_109 (lv_at hl 0 rfl) ?_
    refine va_last hx hb hK hP hD hS 5 2 rfl rfl (ad_in hn h6) dX0_add_111 (fun H locs hP hD hS => ?_)
    have hP : va_P D vwCl [(b, .inr (0, [.ref ka, .ref xa, .ref ya, .ref za, .ref ca, .int n])), (ka, .inl (cA 0, 600, .inl (upd kf n.toNatClampNeg kd))), (xa, .inl (cA 0, 600, .inl (upd xf n.toNatClampNeg x))), (ya, .inl (cA 0, 600, .inl (upd yf n.toNatClampNeg y))), (za, .inl (cA 2, 600, .inr (.inl (vp_updL zf n.toNatClampNeg z)))), (ca, .inl (cA 2, 600, .inr (.inl (vp_updL cf n.toNatClampNeg (dg (dg (dg (dg (cho cf n (n - 1)) kd.toInt64) x.toInt64) y.toInt64) z)))))] H := hP
    have hD : va_D A [(b, .inr (0, [.ref ka, .ref xa, .ref ya, .ref za, .ref ca, .int n])), (ka, .inl (cA 0, 600, .inl (upd kf n.toNatClampNeg kd))), (xa, .inl (cA 0, 600, .inl (upd xf n.toNatClampNeg x))), (ya, .inl (cA 0, 600, .inl (upd yf n.toNatClampNeg y))), (za, .inl (cA 2, 600, .inr (.inl (vp_updL zf n.toNatClampNeg z)))), (ca, .inl (cA 2, 600, .inr (.inl (vp_updL cf n.toNatClampNeg (dg (dg (dg (dg (cho cf n (n - 1)) kd.toInt64) x.toInt64) y.toInt64) z)))))] := hD
    refine lv_aload_n hx hb dX0_add_112 rfl (lv_at hl 1 rfl) ?_
    refine lv_dup hx hb dX0_add_113 rfl ?_
    refine va_get (D := D) (ci := 0) (v := .int n) (C := RX0) (T := TX0) (N := 6) hx hb hts hin_X0 hown hK hP 0 rfl rfl 5 (by decide) (w_RX0_28) (fun _ h9 => h9) rfl dX0_add_114 ?_
    refine lv_iconst (v := 1) hx hb dX0_add_117 (by decide) ?_
    refine lv_iadd hx hb dX0_add_118 ?_
    refine va_put (D := D) (ci := 0) (v := .int (n + 1)) (ty := .int) (C := RX0) (T := TX0) (N := 6) hx hb hts hin_X0 tyX0 tyX0_ok nmX0 hown hK hP hD hS 0 rfl rfl 5 (by decide) (w_RX0_28) (fun _ h9 => h9) rfl (by decide +kernel) rfl rfl (Nat.le_of_ble_eq_true rfl) dX0_add_119 (fun H locs hP hD hS => ?_)
    have hP : va_P D vwCl [(b, .inr (0, [.ref ka, .ref xa, .ref ya, .ref za, .ref ca, .int (n + 1)])), (ka, .inl (cA 0, 600, .inl (upd kf n.toNatClampNeg kd))), (xa, .inl (cA 0, 600, .inl (upd xf n.toNatClampNeg x))), (ya, .inl (cA 0, 600, .inl (upd yf n.toNatClampNeg y))), (za, .inl (cA 2, 600, .inr (.inl (vp_updL zf n.toNatClampNeg z)))), (ca, .inl (cA 2, 600, .inr (.inl (vp_updL cf n.toNatClampNeg (dg (dg (dg (dg (cho cf n (n - 1)) kd.toInt64) x.toInt64) y.toInt64) z)))))] H := hP
    have hD : va_D A [(b, .inr (0, [.ref ka, .ref xa, .ref ya, .ref za, .ref ca, .int (n + 1)])), (ka, .inl (cA 0, 600, .inl (upd kf n.toNatClampNeg kd))), (xa, .inl (cA 0, 600, .inl (upd xf n.toNatClampNeg x))), (ya, .inl (cA 0, 600, .inl (upd yf n.toNatClampNeg y))), (za, .inl (cA 2, 600, .inr (.inl (vp_updL zf n.toNatClampNeg z)))), (ca, .inl (cA 2, 600, .inr (.inl (vp_updL cf n.toNatClampNeg (dg (dg (dg (dg (cho cf n (n - 1)) kd.toInt64) x.toInt64) y.toInt64) z)))))] := hD
    refine lv_lload hx hb dX0_add_122 (lv_at hl 0 rfl) ?_
    have hP9 : va_P D vwCl [(b, .inr (0, [.ref ka, .ref xa, .ref ya, .ref za, .ref ca, .int (n + 1)])), (ka, .inl (cA 0, 600, .inl (upd kf n.toNatClampNeg kd))), (xa, .inl (cA 0, 600, .inl (upd xf n.toNatClampNeg x))), (ya, .inl (cA 0, 600, .inl (upd yf n.toNatClampNeg y))), (za, .inl (cA 2, 600, .inr (.inl (vp_updL zf n.toNatClampNeg z)))), (ca, .inl (cA 2, 600, .inr (.inl (vp_updL cf n.toNatClampNeg (dg (dg (dg (dg (cho cf n (n - 1)) (kd.toInt64)) (x.toInt64)) (y.toInt64)) z)))))] H := hP
    exact W.lret (v := (dg (dg (dg (dg (cho cf n (n - 1)) kd.toInt64) x.toInt64) y.toInt64) z)) hx hb hr (fun t ht hW => ⟨congrArg (fun z => Outcome.returned (some (Value.long z))) (rfl), by rw [ht]; exact hP9, hS.F ht⟩) hS.2.2 dX0_add_124
  · exact absurd (ad_lt hn h6) c_7

set_option maxHeartbeats 4000000 in
set_option maxRecDepth 100000 in
theorem c_X0_init (l : Launch) (D : va_G) (cA : Nat → ClassId) (b : Nat) (sz : Nat) : Met l yX0_init wsX0_init ({ frames := 1, cells := 5, slots := 3000, locals := 20 }) (iPc vwCl D cA sz [(b, .inr (0, [.null, .null, .null, .null, .null, .int 0]))] [.ref b]) (va_Qv (fun _ : Nat → Nat => True) (fun (u : Nat → Nat) (t : State) => va_P D vwCl [(b, .inr (0, [.ref (u 0), .ref (u 1), .ref (u 2), .ref (u 3), .ref (u 4), .int 0])), ((u 0), .inl (cA 0, 600, .inl (fun _ => 0))), ((u 1), .inl (cA 0, 600, .inl (fun _ => 0))), ((u 2), .inl (cA 0, 600, .inl (fun _ => 0))), ((u 3), .inl (cA 2, 600, .inr (.inl (fun _ => 0)))), ((u 4), .inl (cA 2, 600, .inr (.inl (fun _ => 0))))] t.heap ∧ va_K D vwCl (tyS cA) t ∧ va_D (va_A [(b, .inr (0, [.null, .null, .null, .null, .null, .int 0]))] sz) [(b, .inr (0, [.ref (u 0), .ref (u 1), .ref (u 2), .ref (u 3), .ref (u 4), .int 0])), ((u 0), .inl (cA 0, 600, .inl (fun _ => 0))), ((u 1), .inl (cA 0, 600, .inl (fun _ => 0))), ((u 2), .inl (cA 0, 600, .inl (fun _ => 0))), ((u 3), .inl (cA 2, 600, .inr (.inl (fun _ => 0)))), ((u 4), .inl (cA 2, 600, .inr (.inl (fun _ => 0))))]) (va_A [(b, .inr (0, [.null, .null, .null, .null, .null, .int 0]))] sz)) 5 3000 (va_A [(b, .inr (0, [.null, .null, .null, .null, .null, .int 0]))] sz) := by
  refine Met.ofW (cc := cX0_init) (maxL := 1) (ret := none) (by decide) rfl ?_
  intro p e s m args below meth c s₁ B hml hv
  obtain ⟨rfl, hsz, hP, hK, hD0, hX⟩ := hv
  have hx := B.exec
  have hb := B.bytes
  have hr := B.returns
  have hts := atoms_spec (ws := wsX0_init) B.pre
  have hown : s.vm.findClass RX0 = some m.cls := findClass_of_methodNamed B.named
  have hlocks := B.notSynchronized
  have hin : meth.name = "<init>" := (name_of_methodNamed B.named B.method).1
  have hin_X0 : ∀ w ∈ wsX00, w ∈ wsX0_init := fun w h => List.mem_cons_of_mem _ (List.mem_append_right _ h)
  have w_RX0_9 := hts (.fieldLink RX0 9 "MixElection$Board" "kinds" "[I") (by decide +kernel)
  have w_RX0_15 := hts (.fieldLink RX0 15 "MixElection$Board" "xs" "[I") (by decide +kernel)
  have w_RX0_18 := hts (.fieldLink RX0 18 "MixElection$Board" "ys" "[I") (by decide +kernel)
  have w_RX0_21 := hts (.fieldLink RX0 21 "MixElection$Board" "zs" "[J") (by decide +kernel)
  have w_RX0_25 := hts (.fieldLink RX0 25 "MixElection$Board" "chains" "[J") (by decide +kernel)
  subst hsz
  have hD := hD0.self (sz := s.heap.size)
  generalize hAe : va_A [(b, .inr (0, [.null, .null, .null, .null, .null, .int 0]))] s.heap.size = A at hD ⊢
  have hA : ∀ q : Nat, s.heap.size ≤ q → A q := fun q h => by rw [← hAe]; exact Or.inr h
  have hS : va_S A s.heap s.heap [] := va_S.rf
  have hP : va_P D vwCl [(b, .inr (0, [.null, .null, .null, .null, .null, .int 0]))] s.heap := hP
  have hl := lv_entry ([.ref b]) (n := 1) (Nat.le_of_ble_eq_true rfl)
  rw [lg_entry_eq]
  generalize (lg_sl ([.ref b]) ++ List.replicate (1 - (lg_sl ([.ref b])).length) Slot.unset).toArray = ls at hl ⊢
  have hl : lv_has ls 1 [(0, .ref b)] := hl
  refine lv_aload_n hx hb dX0_init_0 rfl (lv_at hl 0 rfl) ?_
  refine W.objInit hx hb hown (hts (.methodLink RX0 3 objectInit) (by decide +kernel)) (hts (.instanceMethod objectInit) (by decide +kernel)) (hts (.code objectInit ⟨#[0xb1]⟩ 1 none) (by decide +kernel)) rfl (by rw [hml]; exact hl.1) rfl dX0_init_1 (Nat.le_of_ble_eq_true rfl) (Nat.le_of_ble_eq_true rfl) ?_
  refine W.eq (g2 := F0 m 4 ls []) rfl ?_
  refine lv_aload_n hx hb dX0_init_4 rfl (lv_at hl 0 rfl) ?_
  refine lv_sipush (v := 600) hx hb dX0_init_5 (by decide) ?_
  refine ka_newa (atype := .int) (ty := .int) (N' := 600) (n := 600) (a0 := (600, .inl (fun _ => 0))) hx hb (hts (.arrayClass .int) (by decide +kernel)) rfl hK hP hD hS hA 0 rfl (fun _ => rfl) (by decide) rfl (by decide) (Nat.le_of_ble_eq_true rfl) (Nat.le_of_ble_eq_true rfl) dX0_init_8 (fun q8 H hP hD hS => ?_)
  refine W.widen (k := 1) (n := 600) (by omega) (by omega) ?_
  have hP : va_P D vwCl [(b, .inr (0, [.null, .null, .null, .null, .null, .int 0])), (q8, .inl (cA 0, 600, .inl (fun _ => 0)))] H := hP
  have hD : va_D A [(b, .inr (0, [.null, .null, .null, .null, .null, .int 0])), (q8, .inl (cA 0, 600, .inl (fun _ => 0)))] := hD
  refine va_putF (D := D) (ci := 0) (v := .ref q8) (ty := (.array .int)) (C := RX0) (T := TX0) (N := 6) hx hb hts hin_X0 tyX0 tyX0_ok nmX0 hown hK hP hD hS 0 rfl rfl 0 (by decide) (w_RX0_9) (fun _ h9 => h9) rfl hin rfl (by decide +kernel) rfl rfl (Nat.le_of_ble_eq_true rfl) dX0_init_10 (fun H locs hP hD hS => ?_)
  have hP : va_P D vwCl [(b, .inr (0, [.ref q8, .null, .null, .null, .null, .int 0])), (q8, .inl (cA 0, 600, .inl (fun _ => 0)))] H := hP
  have hD : va_D A [(b, .inr (0, [.ref q8, .null, .null, .null, .null, .int 0])), (q8, .inl (cA 0, 600, .inl (fun _ => 0)))] := hD
  refine lv_aload_n hx hb dX0_init_13 rfl (lv_at hl 0 rfl) ?_
  refine lv_sipush (v := 600) hx hb dX0_init_14 (by decide) ?_
  refine ka_newa (atype := .int) (ty := .int) (N' := 600) (n := 600) (a0 := (600, .inl (fun _ => 0))) hx hb (hts (.arrayClass .int) (by decide +kernel)) rfl hK hP hD hS hA 0 rfl (fun _ => rfl) (by decide) rfl (by decide) (Nat.le_of_ble_eq_true rfl) (Nat.le_of_ble_eq_true rfl) dX0_init_17 (fun q17 H hP hD hS => ?_)
  refine W.widen (k := 2) (n := 1200) (by omega) (by omega) ?_
  have hP : va_P D vwCl [(b, .inr (0, [.ref q8, .null, .null, .null, .null, .int 0])), (q8, .inl (cA 0, 600, .inl (fun _ => 0))), (q17, .inl (cA 0, 600, .inl (fun _ => 0)))] H := hP
  have hD : va_D A [(b, .inr (0, [.ref q8, .null, .null, .null, .null, .int 0])), (q8, .inl (cA 0, 600, .inl (fun _ => 0))), (q17, .inl (cA 0, 600, .inl (fun _ => 0)))] := hD
  refine va_putF (D := D) (ci := 0) (v := .ref q17) (ty := (.array .int)) (C := RX0) (T := TX0) (N := 6) hx hb hts hin_X0 tyX0 tyX0_ok nmX0 hown hK hP hD hS 0 rfl rfl 1 (by decide) (w_RX0_15) (fun _ h9 => h9) rfl hin rfl (by decide +kernel) rfl rfl (Nat.le_of_ble_eq_true rfl) dX0_init_19 (fun H locs hP hD hS => ?_)
  have hP : va_P D vwCl [(b, .inr (0, [.ref q8, .ref q17, .null, .null, .null, .int 0])), (q8, .inl (cA 0, 600, .inl (fun _ => 0))), (q17, .inl (cA 0, 600, .inl (fun _ => 0)))] H := hP
  have hD : va_D A [(b, .inr (0, [.ref q8, .ref q17, .null, .null, .null, .int 0])), (q8, .inl (cA 0, 600, .inl (fun _ => 0))), (q17, .inl (cA 0, 600, .inl (fun _ => 0)))] := hD
  refine lv_aload_n hx hb dX0_init_22 rfl (lv_at hl 0 rfl) ?_
  refine lv_sipush (v := 600) hx hb dX0_init_23 (by decide) ?_
  refine ka_newa (atype := .int) (ty := .int) (N' := 600) (n := 600) (a0 := (600, .inl (fun _ => 0))) hx hb (hts (.arrayClass .int) (by decide +kernel)) rfl hK hP hD hS hA 0 rfl (fun _ => rfl) (by decide) rfl (by decide) (Nat.le_of_ble_eq_true rfl) (Nat.le_of_ble_eq_true rfl) dX0_init_26 (fun q26 H hP hD hS => ?_)
  refine W.widen (k := 3) (n := 1800) (by omega) (by omega) ?_
  have hP : va_P D vwCl [(b, .inr (0, [.ref q8, .ref q17, .null, .null, .null, .int 0])), (q8, .inl (cA 0, 600, .inl (fun _ => 0))), (q17, .inl (cA 0, 600, .inl (fun _ => 0))), (q26, .inl (cA 0, 600, .inl (fun _ => 0)))] H := hP
  have hD : va_D A [(b, .inr (0, [.ref q8, .ref q17, .null, .null, .null, .int 0])), (q8, .inl (cA 0, 600, .inl (fun _ => 0))), (q17, .inl (cA 0, 600, .inl (fun _ => 0))), (q26, .inl (cA 0, 600, .inl (fun _ => 0)))] := hD
  refine va_putF (D := D) (ci := 0) (v := .ref q26) (ty := (.array .int)) (C := RX0) (T := TX0) (N := 6) hx hb hts hin_X0 tyX0 tyX0_ok nmX0 hown hK hP hD hS 0 rfl rfl 2 (by decide) (w_RX0_18) (fun _ h9 => h9) rfl hin rfl (by decide +kernel) rfl rfl (Nat.le_of_ble_eq_true rfl) dX0_init_28 (fun H locs hP hD hS => ?_)
  have hP : va_P D vwCl [(b, .inr (0, [.ref q8, .ref q17, .ref q26, .null, .null, .int 0])), (q8, .inl (cA 0, 600, .inl (fun _ => 0))), (q17, .inl (cA 0, 600, .inl (fun _ => 0))), (q26, .inl (cA 0, 600, .inl (fun _ => 0)))] H := hP
  have hD : va_D A [(b, .inr (0, [.ref q8, .ref q17, .ref q26, .null, .null, .int 0])), (q8, .inl (cA 0, 600, .inl (fun _ => 0))), (q17, .inl (cA 0, 600, .inl (fun _ => 0))), (q26, .inl (cA 0, 600, .inl (fun _ => 0)))] := hD
  refine lv_aload_n hx hb dX0_init_31 rfl (lv_at hl 0 rfl) ?_
  refine lv_sipush (v := 600) hx hb dX0_init_32 (by decide) ?_
  refine ka_newa (atype := .long) (ty := .long) (N' := 600) (n := 600) (a0 := (600, .inr (.inl (fun _ => 0)))) hx hb (hts (.arrayClass .long) (by decide +kernel)) rfl hK hP hD hS hA 2 rfl (fun _ => rfl) (by decide) rfl (by decide) (Nat.le_of_ble_eq_true rfl) (Nat.le_of_ble_eq_true rfl) dX0_init_35 (fun q35 H hP hD hS => ?_)
  refine W.widen (k := 4) (n := 2400) (by omega) (by omega) ?_
  have hP : va_P D vwCl [(b, .inr (0, [.ref q8, .ref q17, .ref q26, .null, .null, .int 0])), (q8, .inl (cA 0, 600, .inl (fun _ => 0))), (q17, .inl (cA 0, 600, .inl (fun _ => 0))), (q26, .inl (cA 0, 600, .inl (fun _ => 0))), (q35, .inl (cA 2, 600, .inr (.inl (fun _ => 0))))] H := hP
  have hD : va_D A [(b, .inr (0, [.ref q8, .ref q17, .ref q26, .null, .null, .int 0])), (q8, .inl (cA 0, 600, .inl (fun _ => 0))), (q17, .inl (cA 0, 600, .inl (fun _ => 0))), (q26, .inl (cA 0, 600, .inl (fun _ => 0))), (q35, .inl (cA 2, 600, .inr (.inl (fun _ => 0))))] := hD
  refine va_putF (D := D) (ci := 0) (v := .ref q35) (ty := (.array .long)) (C := RX0) (T := TX0) (N := 6) hx hb hts hin_X0 tyX0 tyX0_ok nmX0 hown hK hP hD hS 0 rfl rfl 3 (by decide) (w_RX0_21) (fun _ h9 => h9) rfl hin rfl (by decide +kernel) rfl rfl (Nat.le_of_ble_eq_true rfl) dX0_init_37 (fun H locs hP hD hS => ?_)
  have hP : va_P D vwCl [(b, .inr (0, [.ref q8, .ref q17, .ref q26, .ref q35, .null, .int 0])), (q8, .inl (cA 0, 600, .inl (fun _ => 0))), (q17, .inl (cA 0, 600, .inl (fun _ => 0))), (q26, .inl (cA 0, 600, .inl (fun _ => 0))), (q35, .inl (cA 2, 600, .inr (.inl (fun _ => 0))))] H := hP
  have hD : va_D A [(b, .inr (0, [.ref q8, .ref q17, .ref q26, .ref q35, .null, .int 0])), (q8, .inl (cA 0, 600, .inl (fun _ => 0))), (q17, .inl (cA 0, 600, .inl (fun _ => 0))), (q26, .inl (cA 0, 600, .inl (fun _ => 0))), (q35, .inl (cA 2, 600, .inr (.inl (fun _ => 0))))] := hD
  refine lv_aload_n hx hb dX0_init_40 rfl (lv_at hl 0 rfl) ?_
  refine lv_sipush (v := 600) hx hb dX0_init_41 (by decide) ?_
  refine ka_newa (atype := .long) (ty := .long) (N' := 600) (n := 600) (a0 := (600, .inr (.inl (fun _ => 0)))) hx hb (hts (.arrayClass .long) (by decide +kernel)) rfl hK hP hD hS hA 2 rfl (fun _ => rfl) (by decide) rfl (by decide) (Nat.le_of_ble_eq_true rfl) (Nat.le_of_ble_eq_true rfl) dX0_init_44 (fun q44 H hP hD hS => ?_)
  refine W.widen (k := 5) (n := 3000) (by omega) (by omega) ?_
  have hP : va_P D vwCl [(b, .inr (0, [.ref q8, .ref q17, .ref q26, .ref q35, .null, .int 0])), (q8, .inl (cA 0, 600, .inl (fun _ => 0))), (q17, .inl (cA 0, 600, .inl (fun _ => 0))), (q26, .inl (cA 0, 600, .inl (fun _ => 0))), (q35, .inl (cA 2, 600, .inr (.inl (fun _ => 0)))), (q44, .inl (cA 2, 600, .inr (.inl (fun _ => 0))))] H := hP
  have hD : va_D A [(b, .inr (0, [.ref q8, .ref q17, .ref q26, .ref q35, .null, .int 0])), (q8, .inl (cA 0, 600, .inl (fun _ => 0))), (q17, .inl (cA 0, 600, .inl (fun _ => 0))), (q26, .inl (cA 0, 600, .inl (fun _ => 0))), (q35, .inl (cA 2, 600, .inr (.inl (fun _ => 0)))), (q44, .inl (cA 2, 600, .inr (.inl (fun _ => 0))))] := hD
  refine va_putF (D := D) (ci := 0) (v := .ref q44) (ty := (.array .long)) (C := RX0) (T := TX0) (N := 6) hx hb hts hin_X0 tyX0 tyX0_ok nmX0 hown hK hP hD hS 0 rfl rfl 4 (by decide) (w_RX0_25) (fun _ h9 => h9) rfl hin rfl (by decide +kernel) rfl rfl (Nat.le_of_ble_eq_true rfl) dX0_init_46 (fun H locs hP hD hS => ?_)
  have hP : va_P D vwCl [(b, .inr (0, [.ref q8, .ref q17, .ref q26, .ref q35, .ref q44, .int 0])), (q8, .inl (cA 0, 600, .inl (fun _ => 0))), (q17, .inl (cA 0, 600, .inl (fun _ => 0))), (q26, .inl (cA 0, 600, .inl (fun _ => 0))), (q35, .inl (cA 2, 600, .inr (.inl (fun _ => 0)))), (q44, .inl (cA 2, 600, .inr (.inl (fun _ => 0))))] H := hP
  have hD : va_D A [(b, .inr (0, [.ref q8, .ref q17, .ref q26, .ref q35, .ref q44, .int 0])), (q8, .inl (cA 0, 600, .inl (fun _ => 0))), (q17, .inl (cA 0, 600, .inl (fun _ => 0))), (q26, .inl (cA 0, 600, .inl (fun _ => 0))), (q35, .inl (cA 2, 600, .inr (.inl (fun _ => 0)))), (q44, .inl (cA 2, 600, .inr (.inl (fun _ => 0))))] := hD
  refine W.widen (k := 5) (n := 3000) (by omega) (by omega) ?_
  have hP9 := hP.sub (ws' := [(b, .inr (0, [.ref q8, .ref q17, .ref q26, .ref q35, .ref q44, .int 0])), (q8, .inl (cA 0, 600, .inl (fun _ => 0))), (q17, .inl (cA 0, 600, .inl (fun _ => 0))), (q26, .inl (cA 0, 600, .inl (fun _ => 0))), (q35, .inl (cA 2, 600, .inr (.inl (fun _ => 0)))), (q44, .inl (cA 2, 600, .inr (.inl (fun _ => 0))))]) [0, 1, 2, 3, 4, 5] rfl
  have hD9 := hD.sub (ws' := [(b, .inr (0, [.ref q8, .ref q17, .ref q26, .ref q35, .ref q44, .int 0])), (q8, .inl (cA 0, 600, .inl (fun _ => 0))), (q17, .inl (cA 0, 600, .inl (fun _ => 0))), (q26, .inl (cA 0, 600, .inl (fun _ => 0))), (q35, .inl (cA 2, 600, .inr (.inl (fun _ => 0)))), (q44, .inl (cA 2, 600, .inr (.inl (fun _ => 0))))]) [0, 1, 2, 3, 4, 5] (by decide) rfl
  exact W.vret hx hb hr (fun t ht hW => ⟨⟨(fun i => [q8, q17, q26, q35, q44].getD i 0), rfl, trivial, by rw [ht]; exact hP9, va_K.moved hW.alike hK, hD9⟩, hS.F ht⟩) hS.2.2 dX0_init_49
end
section
set_option maxRecDepth 20000 in
theorem ggX5_init_X2_init : GoodIn wsX5_init wsX2_init := goodIn_r _ [14, 15, 2, 3, 16, 17, 18, 19, 20, 21, 6, 22, 23, 24, 25, 26, 38, 39] (by decide +kernel) (by decide +kernel)
set_option maxRecDepth 20000 in
theorem gX5_init_X2_init : GoodIn wsX5_init (wsX2_init) := ggX5_init_X2_init
set_option maxRecDepth 20000 in
theorem ggX5_init_X4_init : GoodIn wsX5_init wsX4_init := goodIn_r _ [29, 30, 2, 3, 16, 31, 32, 33, 34, 35, 10, 36, 37, 24, 25, 26, 42, 43] (by decide +kernel) (by decide +kernel)
set_option maxRecDepth 20000 in
theorem gX5_init_X4_init : GoodIn wsX5_init (wsX4_init) := ggX5_init_X4_init
theorem dX5_init_0 : decode cX5_init 0 = .ok (.aload_n 0, 1) := by decide +kernel
theorem dX5_init_1 : decode cX5_init 1 = .ok (.invokespecial 3, 3) := by decide +kernel
theorem dX5_init_4 : decode cX5_init 4 = .ok (.aload_n 0, 1) := by decide +kernel
theorem dX5_init_5 : decode cX5_init 5 = .ok (.new 9, 3) := by decide +kernel
theorem dX5_init_8 : decode cX5_init 8 = .ok (.dup, 1) := by decide +kernel
theorem dX5_init_9 : decode cX5_init 9 = .ok (.invokespecial 11, 3) := by decide +kernel
theorem dX5_init_12 : decode cX5_init 12 = .ok (.putfield 12, 3) := by decide +kernel
theorem dX5_init_15 : decode cX5_init 15 = .ok (.aload_n 0, 1) := by decide +kernel
theorem dX5_init_16 : decode cX5_init 16 = .ok (.new 18, 3) := by decide +kernel
theorem dX5_init_19 : decode cX5_init 19 = .ok (.dup, 1) := by decide +kernel
theorem dX5_init_20 : decode cX5_init 20 = .ok (.invokespecial 20, 3) := by decide +kernel
theorem dX5_init_23 : decode cX5_init 23 = .ok (.putfield 21, 3) := by decide +kernel
theorem dX5_init_26 : decode cX5_init 26 = .ok (.return_, 1) := by decide +kernel
set_option maxRecDepth 20000 in
theorem ggX6_init_X1_order : GoodIn wsX6_init wsX1_order := goodIn_r _ [22, 23, 40, 41, 42] (by decide +kernel) (by decide +kernel)
set_option maxRecDepth 20000 in
theorem gX6_init_X1_order : GoodIn wsX6_init (wsV RX6 15 RX1 yX1_order wsX1_order) := goodIn_app (goodIn_of _ (by decide +kernel)) ggX6_init_X1_order
set_option maxRecDepth 20000 in
theorem ggX6_init_X3_within : GoodIn wsX6_init wsX3_within := goodIn_r _ [27, 28, 6, 7, 8, 29, 30, 31] (by decide +kernel) (by decide +kernel)
set_option maxRecDepth 20000 in
theorem gX6_init_X3_within : GoodIn wsX6_init (va_wsS RX6 27 yX3_within wsX3_within) := goodIn_app (goodIn_of _ (by decide +kernel)) ggX6_init_X3_within
theorem dX6_init_0 : decode cX6_init 0 = .ok (.aload_n 0, 1) := by decide +kernel
theorem dX6_init_1 : decode cX6_init 1 = .ok (.invokespecial 3, 3) := by decide +kernel
theorem dX6_init_4 : decode cX6_init 4 = .ok (.aload_n 0, 1) := by decide +kernel
theorem dX6_init_5 : decode cX6_init 5 = .ok (.aload_n 1, 1) := by decide +kernel
theorem dX6_init_6 : decode cX6_init 6 = .ok (.putfield 9, 3) := by decide +kernel
theorem dX6_init_9 : decode cX6_init 9 = .ok (.aload_n 0, 1) := by decide +kernel
theorem dX6_init_10 : decode cX6_init 10 = .ok (.iload_n 2, 1) := by decide +kernel
theorem dX6_init_11 : decode cX6_init 11 = .ok (.iconst 1, 1) := by decide +kernel
theorem dX6_init_12 : decode cX6_init 12 = .ok (.iconst 5, 1) := by decide +kernel
theorem dX6_init_13 : decode cX6_init 13 = .ok (.aload_n 1, 1) := by decide +kernel
theorem dX6_init_14 : decode cX6_init 14 = .ok (.invokevirtual 15, 3) := by decide +kernel
theorem dX6_init_17 : decode cX6_init 17 = .ok (.iconst 1, 1) := by decide +kernel
theorem dX6_init_18 : decode cX6_init 18 = .ok (.isub, 1) := by decide +kernel
theorem dX6_init_19 : decode cX6_init 19 = .ok (.invokestatic 21, 3) := by decide +kernel
theorem dX6_init_22 : decode cX6_init 22 = .ok (.invokestatic 27, 3) := by decide +kernel
theorem dX6_init_25 : decode cX6_init 25 = .ok (.putfield 33, 3) := by decide +kernel
theorem dX6_init_28 : decode cX6_init 28 = .ok (.aload_n 0, 1) := by decide +kernel
theorem dX6_init_29 : decode cX6_init 29 = .ok (.iload_n 3, 1) := by decide +kernel
theorem dX6_init_30 : decode cX6_init 30 = .ok (.iconst 1, 1) := by decide +kernel
theorem dX6_init_31 : decode cX6_init 31 = .ok (.aload_n 0, 1) := by decide +kernel
theorem dX6_init_32 : decode cX6_init 32 = .ok (.getfield 33, 3) := by decide +kernel
theorem dX6_init_35 : decode cX6_init 35 = .ok (.invokestatic 27, 3) := by decide +kernel
theorem dX6_init_38 : decode cX6_init 38 = .ok (.putfield 37, 3) := by decide +kernel
theorem dX6_init_41 : decode cX6_init 41 = .ok (.aload_n 0, 1) := by decide +kernel
theorem dX6_init_42 : decode cX6_init 42 = .ok (.aload_n 0, 1) := by decide +kernel
theorem dX6_init_43 : decode cX6_init 43 = .ok (.getfield 37, 3) := by decide +kernel
theorem dX6_init_46 : decode cX6_init 46 = .ok (.newarray .int, 2) := by decide +kernel
theorem dX6_init_48 : decode cX6_init 48 = .ok (.putfield 40, 3) := by decide +kernel
theorem dX6_init_51 : decode cX6_init 51 = .ok (.aload_n 0, 1) := by decide +kernel
theorem dX6_init_52 : decode cX6_init 52 = .ok (.getfield 40, 3) := by decide +kernel
theorem dX6_init_55 : decode cX6_init 55 = .ok (.iconst 0, 1) := by decide +kernel
theorem dX6_init_56 : decode cX6_init 56 = .ok (.iconst 1, 1) := by decide +kernel
theorem dX6_init_57 : decode cX6_init 57 = .ok (.iastore, 1) := by decide +kernel
theorem dX6_init_58 : decode cX6_init 58 = .ok (.aload_n 0, 1) := by decide +kernel
theorem dX6_init_59 : decode cX6_init 59 = .ok (.aload_n 0, 1) := by decide +kernel
theorem dX6_init_60 : decode cX6_init 60 = .ok (.getfield 33, 3) := by decide +kernel
theorem dX6_init_63 : decode cX6_init 63 = .ok (.iconst 1, 1) := by decide +kernel
theorem dX6_init_64 : decode cX6_init 64 = .ok (.iadd, 1) := by decide +kernel
theorem dX6_init_65 : decode cX6_init 65 = .ok (.newarray .boolean, 2) := by decide +kernel
theorem dX6_init_67 : decode cX6_init 67 = .ok (.putfield 44, 3) := by decide +kernel
theorem dX6_init_70 : decode cX6_init 70 = .ok (.aload_n 0, 1) := by decide +kernel
theorem dX6_init_71 : decode cX6_init 71 = .ok (.aload_n 0, 1) := by decide +kernel
theorem dX6_init_72 : decode cX6_init 72 = .ok (.getfield 33, 3) := by decide +kernel
theorem dX6_init_75 : decode cX6_init 75 = .ok (.iconst 1, 1) := by decide +kernel
theorem dX6_init_76 : decode cX6_init 76 = .ok (.iadd, 1) := by decide +kernel
theorem dX6_init_77 : decode cX6_init 77 = .ok (.bipush 40, 2) := by decide +kernel
theorem dX6_init_79 : decode cX6_init 79 = .ok (.multianewarray 48 2, 4) := by decide +kernel
theorem dX6_init_83 : decode cX6_init 83 = .ok (.putfield 50, 3) := by decide +kernel
theorem dX6_init_86 : decode cX6_init 86 = .ok (.aload_n 0, 1) := by decide +kernel
theorem dX6_init_87 : decode cX6_init 87 = .ok (.aload_n 0, 1) := by decide +kernel
theorem dX6_init_88 : decode cX6_init 88 = .ok (.getfield 33, 3) := by decide +kernel
theorem dX6_init_91 : decode cX6_init 91 = .ok (.iconst 1, 1) := by decide +kernel
theorem dX6_init_92 : decode cX6_init 92 = .ok (.iadd, 1) := by decide +kernel
theorem dX6_init_93 : decode cX6_init 93 = .ok (.newarray .int, 2) := by decide +kernel
theorem dX6_init_95 : decode cX6_init 95 = .ok (.putfield 53, 3) := by decide +kernel
theorem dX6_init_98 : decode cX6_init 98 = .ok (.return_, 1) := by decide +kernel
set_option maxHeartbeats 4000000 in
set_option maxRecDepth 100000 in
theorem c_X5_init (l : Launch) (D : va_G) (cA : Nat → ClassId) (h0 : Nat) (sz : Nat) : Met l yX5_init wsX5_init ({ frames := 3, cells := 6, slots := 164, locals := 63 }) (iPc vwCl D cA sz [(h0, .inr (4, [.null, .null]))] [.ref h0]) (va_Qv (fun _ : Nat → Nat => True) (fun (u : Nat → Nat) (t : State) => va_P D vwCl [(h0, .inr (4, [.ref (u 0), .ref (u 1)]))] t.heap ∧ va_K D vwCl (tyS cA) t ∧ va_D (va_A [(h0, .inr (4, [.null, .null]))] sz) [(h0, .inr (4, [.ref (u 0), .ref (u 1)]))]) (va_A [(h0, .inr (4, [.null, .null]))] sz)) 6 164 (va_A [(h0, .inr (4, [.null, .null]))] sz) := by
  refine Met.ofW (cc := cX5_init) (maxL := 1) (ret := none) (by decide) rfl ?_
  intro p e s m args below meth c s₁ B hml hv
  obtain ⟨rfl, hsz, hP, hK, hD0, hX⟩ := hv
  have hx := B.exec
  have hb := B.bytes
  have hr := B.returns
  have hts := atoms_spec (ws := wsX5_init) B.pre
  have hown : s.vm.findClass RX5 = some m.cls := findClass_of_methodNamed B.named
  have hlocks := B.notSynchronized
  have hin : meth.name = "<init>" := (name_of_methodNamed B.named B.method).1
  have hin_X2 : ∀ w ∈ wsX20, w ∈ wsX5_init := fun w h => List.mem_cons_of_mem _ (List.mem_append_left _ (List.mem_append_left _ (List.mem_append_right _ h)))
  have hin_X5 : ∀ w ∈ wsX50, w ∈ wsX5_init := fun w h => List.mem_cons_of_mem _ (List.mem_append_left _ (List.mem_append_right _ h))
  have hin_X4 : ∀ w ∈ wsX40, w ∈ wsX5_init := fun w h => List.mem_cons_of_mem _ (List.mem_append_right _ h)
  have w_RX5_12 := hts (.fieldLink RX5 12 "MixElection$Staging" "moves" "LMixElection$Moves;") (by decide +kernel)
  have w_RX5_21 := hts (.fieldLink RX5 21 "MixElection$Staging" "forged" "LMixElection$Pairs;") (by decide +kernel)
  subst hsz
  have hD := hD0.self (sz := s.heap.size)
  generalize hAe : va_A [(h0, .inr (4, [.null, .null]))] s.heap.size = A at hD ⊢
  have hA : ∀ q : Nat, s.heap.size ≤ q → A q := fun q h => by rw [← hAe]; exact Or.inr h
  have hS : va_S A s.heap s.heap [] := va_S.rf
  have hP : va_P D vwCl [(h0, .inr (4, [.null, .null]))] s.heap := hP
  have hl := lv_entry ([.ref h0]) (n := 1) (Nat.le_of_ble_eq_true rfl)
  rw [lg_entry_eq]
  generalize (lg_sl ([.ref h0]) ++ List.replicate (1 - (lg_sl ([.ref h0])).length) Slot.unset).toArray = ls at hl ⊢
  have hl : lv_has ls 1 [(0, .ref h0)] := hl
  refine lv_aload_n hx hb dX5_init_0 rfl (lv_at hl 0 rfl) ?_
  refine W.objInit hx hb hown (hts (.methodLink RX5 3 objectInit) (by decide +kernel)) (hts (.instanceMethod objectInit) (by decide +kernel)) (hts (.code objectInit ⟨#[0xb1]⟩ 1 none) (by decide +kernel)) rfl (by rw [hml]; exact hl.1) rfl dX5_init_1 (Nat.le_of_ble_eq_true rfl) (Nat.le_of_ble_eq_true rfl) ?_
  refine W.eq (g2 := F0 m 4 ls []) rfl ?_
  refine lv_aload_n hx hb dX5_init_4 rfl (lv_at hl 0 rfl) ?_
  refine va_new (ci := 2) (fs := [.null, .null]) (C := RX2) (T := TX2) (N := 2) hx hb hts hin_X2 tyX2 tyX2_ok hown (hts (.classLink RX5 9 RX2) (by decide +kernel)) (hts (.instantiable RX2 2) (by decide +kernel)) (hts (.initialized RX2) (by decide +kernel)) hK hP hD hS hA rfl (fun j hj => by rcases (show j = 0 ∨ j = 1 by omega) with rfl | rfl <;> rfl) (Nat.le_of_ble_eq_true rfl) (Nat.le_of_ble_eq_true rfl) dX5_init_5 (fun q5 H hP hD hS => ?_)
  refine W.widen (k := 1) (n := 2) (by omega) (by omega) ?_
  have hP : va_P D vwCl [(h0, .inr (4, [.null, .null])), (q5, .inr (2, [.null, .null]))] H := hP
  have hD : va_D A [(h0, .inr (4, [.null, .null])), (q5, .inr (2, [.null, .null]))] := hD
  refine lv_dup hx hb dX5_init_8 rfl ?_
  have hPc := hP.sub (ws' := [(q5, .inr (2, [.null, .null]))]) [1] rfl
  have hDc := hD.sub (ws' := [(q5, .inr (2, [.null, .null]))]) [1] (by decide) rfl
  have hFc := va_free (wc := [(q5, .inr (2, [.null, .null]))]) hD hS hA [1] rfl
  refine va_callv (va_runI (As := []) (rest := [.ref q5, .ref h0]) ⟨hx, hb, hml, hown, hts⟩ (c_X2_init l D cA q5 H.size) (cwI 0 hts gX5_init_X2_init rfl rfl rfl (hts (.initialized RX2) (by decide +kernel)) (hts (.methodLink RX5 11 yX2_init) (by decide +kernel)) (hts (.instanceMethod yX2_init) (by decide +kernel)) rfl (by decide +kernel) ⟨Nat.le_of_ble_eq_true rfl, Nat.le_of_ble_eq_true rfl⟩) ⟨in_blind, fun U hU hW => ⟨rfl, by rw [hU], by rw [hU]; exact hPc, va_K.moved hW.alike hK, hDc.weaken (fun _ _ _ _ => trivial), hX.moved hW.alike⟩⟩ rfl rfl hl.1 rfl (lv_room (Nat.le_of_ble_eq_true rfl)) dX5_init_9 ⟨Nat.le_of_ble_eq_true rfl, Nat.le_of_ble_eq_true rfl⟩) hS (fun q _ h => hFc q h) hFc (fun u t H1 locs ht hvm hw hB hz1 hk1 hS => ?_)
  obtain ⟨a_9, b_9⟩ := u
  obtain ⟨hP1, hK1, hD1⟩ := hB
  rw [ht] at hP1
  obtain _ := hw
  obtain ⟨hP, hD⟩ := va_join (wr := [(h0, .inr (4, [.null, .null]))]) (w1 := [(q5, .inr (2, [.ref a_9, .ref b_9])), (a_9, .inl (cA 0, 40, .inl (fun _ => -1))), (b_9, .inl (cA 0, 40, .inl (fun _ => -1)))]) hP hD [1] [0] rfl rfl (by decide) (by decide) hk1 hFc hP1 hD1
  generalize H1 = H at hP hS ⊢
  have hP : va_P D vwCl [(h0, .inr (4, [.null, .null])), (q5, .inr (2, [.ref a_9, .ref b_9])), (a_9, .inl (cA 0, 40, .inl (fun _ => -1))), (b_9, .inl (cA 0, 40, .inl (fun _ => -1)))] H := hP
  have hD : va_D A [(h0, .inr (4, [.null, .null])), (q5, .inr (2, [.ref a_9, .ref b_9])), (a_9, .inl (cA 0, 40, .inl (fun _ => -1))), (b_9, .inl (cA 0, 40, .inl (fun _ => -1)))] := hD
  refine W.widen (k := 3) (n := 82) (by omega) (by omega) ?_
  refine va_putF (D := D) (ci := 4) (v := .ref q5) (ty := (.object "MixElection$Moves")) (C := RX5) (T := TX5) (N := 2) hx hb hts hin_X5 tyX5 tyX5_ok nmX5 hown hK hP hD hS 0 rfl rfl 0 (by decide) (w_RX5_12) (fun _ h9 => h9) rfl hin rfl (by decide +kernel) rfl rfl (Nat.le_of_ble_eq_true rfl) dX5_init_12 (fun H locs hP hD hS => ?_)
  have hP : va_P D vwCl [(h0, .inr (4, [.ref q5, .null])), (q5, .inr (2, [.ref a_9, .ref b_9])), (a_9, .inl (cA 0, 40, .inl (fun _ => -1))), (b_9, .inl (cA 0, 40, .inl (fun _ => -1)))] H := hP
  have hD : va_D A [(h0, .inr (4, [.ref q5, .null])), (q5, .inr (2, [.ref a_9, .ref b_9])), (a_9, .inl (cA 0, 40, .inl (fun _ => -1))), (b_9, .inl (cA 0, 40, .inl (fun _ => -1)))] := hD
  refine lv_aload_n hx hb dX5_init_15 rfl (lv_at hl 0 rfl) ?_
  refine va_new (ci := 3) (fs := [.null, .null]) (C := RX4) (T := TX4) (N := 2) hx hb hts hin_X4 tyX4 tyX4_ok hown (hts (.classLink RX5 18 RX4) (by decide +kernel)) (hts (.instantiable RX4 2) (by decide +kernel)) (hts (.initialized RX4) (by decide +kernel)) hK hP hD hS hA rfl (fun j hj => by rcases (show j = 0 ∨ j = 1 by omega) with rfl | rfl <;> rfl) (Nat.le_of_ble_eq_true rfl) (Nat.le_of_ble_eq_true rfl) dX5_init_16 (fun q16 H hP hD hS => ?_)
  refine W.widen (k := 4) (n := 84) (by omega) (by omega) ?_
  have hP : va_P D vwCl [(h0, .inr (4, [.ref q5, .null])), (q5, .inr (2, [.ref a_9, .ref b_9])), (a_9, .inl (cA 0, 40, .inl (fun _ => -1))), (b_9, .inl (cA 0, 40, .inl (fun _ => -1))), (q16, .inr (3, [.null, .null]))] H := hP
  have hD : va_D A [(h0, .inr (4, [.ref q5, .null])), (q5, .inr (2, [.ref a_9, .ref b_9])), (a_9, .inl (cA 0, 40, .inl (fun _ => -1))), (b_9, .inl (cA 0, 40, .inl (fun _ => -1))), (q16, .inr (3, [.null, .null]))] := hD
  refine lv_dup hx hb dX5_init_19 rfl ?_
  have hPc := hP.sub (ws' := [(q16, .inr (3, [.null, .null]))]) [4] rfl
  have hDc := hD.sub (ws' := [(q16, .inr (3, [.null, .null]))]) [4] (by decide) rfl
  have hFc := va_free (wc := [(q16, .inr (3, [.null, .null]))]) hD hS hA [4] rfl
  refine va_callv (va_runI (As := []) (rest := [.ref q16, .ref h0]) ⟨hx, hb, hml, hown, hts⟩ (c_X4_init l D cA q16 H.size) (cwI 0 hts gX5_init_X4_init rfl rfl rfl (hts (.initialized RX4) (by decide +kernel)) (hts (.methodLink RX5 20 yX4_init) (by decide +kernel)) (hts (.instanceMethod yX4_init) (by decide +kernel)) rfl (by decide +kernel) ⟨Nat.le_of_ble_eq_true rfl, Nat.le_of_ble_eq_true rfl⟩) ⟨in_blind, fun U hU hW => ⟨rfl, by rw [hU], by rw [hU]; exact hPc, va_K.moved hW.alike hK, hDc.weaken (fun _ _ _ _ => trivial), hX.moved hW.alike⟩⟩ rfl rfl hl.1 rfl (lv_room (Nat.le_of_ble_eq_true rfl)) dX5_init_20 ⟨Nat.le_of_ble_eq_true rfl, Nat.le_of_ble_eq_true rfl⟩) hS (fun q _ h => hFc q h) hFc (fun u t H1 locs ht hvm hw hB hz1 hk1 hS => ?_)
  obtain ⟨a_20, b_20⟩ := u
  obtain ⟨hP1, hK1, hD1⟩ := hB
  rw [ht] at hP1
  obtain _ := hw
  obtain ⟨hP, hD⟩ := va_join (wr := [(h0, .inr (4, [.ref q5, .null])), (q5, .inr (2, [.ref a_9, .ref b_9])), (a_9, .inl (cA 0, 40, .inl (fun _ => -1))), (b_9, .inl (cA 0, 40, .inl (fun _ => -1)))]) (w1 := [(q16, .inr (3, [.ref a_20, .ref b_20])), (a_20, .inl (cA 0, 40, .inl (fun _ => -1))), (b_20, .inl (cA 0, 40, .inl (fun _ => -1)))]) hP hD [4] [0, 1, 2, 3] rfl rfl (by decide) (by decide) hk1 hFc hP1 hD1
  generalize H1 = H at hP hS ⊢
  have hP : va_P D vwCl [(h0, .inr (4, [.ref q5, .null])), (q5, .inr (2, [.ref a_9, .ref b_9])), (a_9, .inl (cA 0, 40, .inl (fun _ => -1))), (b_9, .inl (cA 0, 40, .inl (fun _ => -1))), (q16, .inr (3, [.ref a_20, .ref b_20])), (a_20, .inl (cA 0, 40, .inl (fun _ => -1))), (b_20, .inl (cA 0, 40, .inl (fun _ => -1)))] H := hP
  have hD : va_D A [(h0, .inr (4, [.ref q5, .null])), (q5, .inr (2, [.ref a_9, .ref b_9])), (a_9, .inl (cA 0, 40, .inl (fun _ => -1))), (b_9, .inl (cA 0, 40, .inl (fun _ => -1))), (q16, .inr (3, [.ref a_20, .ref b_20])), (a_20, .inl (cA 0, 40, .inl (fun _ => -1))), (b_20, .inl (cA 0, 40, .inl (fun _ => -1)))] := hD
  refine W.widen (k := 6) (n := 164) (by omega) (by omega) ?_
  refine va_putF (D := D) (ci := 4) (v := .ref q16) (ty := (.object "MixElection$Pairs")) (C := RX5) (T := TX5) (N := 2) hx hb hts hin_X5 tyX5 tyX5_ok nmX5 hown hK hP hD hS 0 rfl rfl 1 (by decide) (w_RX5_21) (fun _ h9 => h9) rfl hin rfl (by decide +kernel) rfl rfl (Nat.le_of_ble_eq_true rfl) dX5_init_23 (fun H locs hP hD hS => ?_)
  have hP : va_P D vwCl [(h0, .inr (4, [.ref q5, .ref q16])), (q5, .inr (2, [.ref a_9, .ref b_9])), (a_9, .inl (cA 0, 40, .inl (fun _ => -1))), (b_9, .inl (cA 0, 40, .inl (fun _ => -1))), (q16, .inr (3, [.ref a_20, .ref b_20])), (a_20, .inl (cA 0, 40, .inl (fun _ => -1))), (b_20, .inl (cA 0, 40, .inl (fun _ => -1)))] H := hP
  have hD : va_D A [(h0, .inr (4, [.ref q5, .ref q16])), (q5, .inr (2, [.ref a_9, .ref b_9])), (a_9, .inl (cA 0, 40, .inl (fun _ => -1))), (b_9, .inl (cA 0, 40, .inl (fun _ => -1))), (q16, .inr (3, [.ref a_20, .ref b_20])), (a_20, .inl (cA 0, 40, .inl (fun _ => -1))), (b_20, .inl (cA 0, 40, .inl (fun _ => -1)))] := hD
  refine W.widen (k := 6) (n := 164) (by omega) (by omega) ?_
  have hP9 := hP.sub (ws' := [(h0, .inr (4, [.ref q5, .ref q16]))]) [0] rfl
  have hD9 := hD.sub (ws' := [(h0, .inr (4, [.ref q5, .ref q16]))]) [0] (by decide) rfl
  exact W.vret hx hb hr (fun t ht hW => ⟨⟨(fun i => [q5, q16].getD i 0), rfl, trivial, by rw [ht]; exact hP9, va_K.moved hW.alike hK, hD9⟩, hS.F ht⟩) hS.2.2 dX5_init_26

set_option maxHeartbeats 4000000 in
set_option maxRecDepth 100000 in
theorem c_X6_init (l : Launch) (D : va_G) (cA : Nat → ClassId) (h0 : Nat) (g : Nat) (gp : Int32) (gq : Int32) (gh : Int32) (tr : Int32) (th : Int32) (t0 : Nat) (k0 : Nat) (hT : wi tr 1 (if gq - 1 < 5 then gq - 1 else 5) = nI t0) (ht : 1 ≤ t0 ∧ t0 ≤ 5) (hK0 : wi th 1 (nI t0) = nI k0) (hk : 1 ≤ k0 ∧ k0 ≤ t0) (sz : Nat) : Met l yX6_init wsX6_init ({ frames := 2, cells := 10, slots := 263, locals := 52 }) (iPc vwCl D cA sz [(h0, .inr (5, [.null, .int 0, .int 0, .null, .null, .null, .null, .int 0])), (g, .inr (1, [.int gp, .int gq, .int gh]))] [.ref h0, .ref g, .int tr, .int th]) (va_Qv (fun _ : Nat → Nat => True) (fun (u : Nat → Nat) (t : State) => va_P D vwCl [(h0, .inr (5, [.ref g, .int (nI t0), .int (nI k0), .ref (u 0), .ref (u 1), .ref (u 2), .ref (u 3), .int 0])), (g, .inr (1, [.int gp, .int gq, .int gh])), ((u 0), .inl (cA 0, k0, .inl (upd (fun _ => 0) (0 : Int32).toNatClampNeg 1)))] t.heap ∧ va_K D vwCl (tyS cA) t ∧ va_D (va_A [(h0, .inr (5, [.null, .int 0, .int 0, .null, .null, .null, .null, .int 0])), (g, .inr (1, [.int gp, .int gq, .int gh]))] sz) [(h0, .inr (5, [.ref g, .int (nI t0), .int (nI k0), .ref (u 0), .ref (u 1), .ref (u 2), .ref (u 3), .int 0])), (g, .inr (1, [.int gp, .int gq, .int gh])), ((u 0), .inl (cA 0, k0, .inl (upd (fun _ => 0) (0 : Int32).toNatClampNeg 1)))]) (va_A [(h0, .inr (5, [.null, .int 0, .int 0, .null, .null, .null, .null, .int 0])), (g, .inr (1, [.int gp, .int gq, .int gh]))] sz)) 10 263 (va_A [(h0, .inr (5, [.null, .int 0, .int 0, .null, .null, .null, .null, .int 0])), (g, .inr (1, [.int gp, .int gq, .int gh]))] sz) := by
  refine Met.ofW (cc := cX6_init) (maxL := 4) (ret := none) (by decide) rfl ?_
  intro p e s m args below meth c s₁ B hml hv
  obtain ⟨rfl, hsz, hP, hK, hD0, hX⟩ := hv
  have hx := B.exec
  have hb := B.bytes
  have hr := B.returns
  have hts := atoms_spec (ws := wsX6_init) B.pre
  have hown : s.vm.findClass RX6 = some m.cls := findClass_of_methodNamed B.named
  have hlocks := B.notSynchronized
  have hin : meth.name = "<init>" := (name_of_methodNamed B.named B.method).1
  have hin_X6 : ∀ w ∈ wsX60, w ∈ wsX6_init := fun w h => List.mem_cons_of_mem _ (List.mem_append_left _ (List.mem_append_right _ h))
  have w_RX6_9 := hts (.fieldLink RX6 9 "MixElection$Trustees" "group" "LMixElection$Group;") (by decide +kernel)
  have w_RX6_33 := hts (.fieldLink RX6 33 "MixElection$Trustees" "size" "I") (by decide +kernel)
  have w_RX6_37 := hts (.fieldLink RX6 37 "MixElection$Trustees" "threshold" "I") (by decide +kernel)
  have w_RX6_40 := hts (.fieldLink RX6 40 "MixElection$Trustees" "coefficients" "[I") (by decide +kernel)
  have w_RX6_44 := hts (.fieldLink RX6 44 "MixElection$Trustees" "hasGiven" "[Z") (by decide +kernel)
  have w_RX6_50 := hts (.fieldLink RX6 50 "MixElection$Trustees" "gifts" "[[I") (by decide +kernel)
  have w_RX6_53 := hts (.fieldLink RX6 53 "MixElection$Trustees" "weights" "[I") (by decide +kernel)
  subst hsz
  have hD := hD0.self (sz := s.heap.size)
  generalize hAe : va_A [(h0, .inr (5, [.null, .int 0, .int 0, .null, .null, .null, .null, .int 0])), (g, .inr (1, [.int gp, .int gq, .int gh]))] s.heap.size = A at hD ⊢
  have hA : ∀ q : Nat, s.heap.size ≤ q → A q := fun q h => by rw [← hAe]; exact Or.inr h
  have hS : va_S A s.heap s.heap [] := va_S.rf
  have hP : va_P D vwCl [(h0, .inr (5, [.null, .int 0, .int 0, .null, .null, .null, .null, .int 0])), (g, .inr (1, [.int gp, .int gq, .int gh]))] s.heap := hP
  have hl := lv_entry ([.ref h0, .ref g, .int tr, .int th]) (n := 4) (Nat.le_of_ble_eq_true rfl)
  rw [lg_entry_eq]
  generalize (lg_sl ([.ref h0, .ref g, .int tr, .int th]) ++ List.replicate (4 - (lg_sl ([.ref h0, .ref g, .int tr, .int th])).length) Slot.unset).toArray = ls at hl ⊢
  have hl : lv_has ls 4 [(0, .ref h0), (1, .ref g), (2, .int tr), (3, .int th)] := hl
  refine lv_aload_n hx hb dX6_init_0 rfl (lv_at hl 0 rfl) ?_
  refine W.objInit hx hb hown (hts (.methodLink RX6 3 objectInit) (by decide +kernel)) (hts (.instanceMethod objectInit) (by decide +kernel)) (hts (.code objectInit ⟨#[0xb1]⟩ 1 none) (by decide +kernel)) rfl (by rw [hml]; exact hl.1) rfl dX6_init_1 (Nat.le_of_ble_eq_true rfl) (Nat.le_of_ble_eq_true rfl) ?_
  refine W.eq (g2 := F0 m 4 ls []) rfl ?_
  refine lv_aload_n hx hb dX6_init_4 rfl (lv_at hl 0 rfl) ?_
  refine lv_aload_n hx hb dX6_init_5 rfl (lv_at hl 1 rfl) ?_
  refine va_putF (D := D) (ci := 5) (v := .ref g) (ty := (.object "MixElection$Group")) (C := RX6) (T := TX6) (N := 8) hx hb hts hin_X6 tyX6 tyX6_ok nmX6 hown hK hP hD hS 0 rfl rfl 0 (by decide) (w_RX6_9) (fun _ h9 => h9) rfl hin rfl (by decide +kernel) rfl rfl (Nat.le_of_ble_eq_true rfl) dX6_init_6 (fun H locs hP hD hS => ?_)
  have hP : va_P D vwCl [(h0, .inr (5, [.ref g, .int 0, .int 0, .null, .null, .null, .null, .int 0])), (g, .inr (1, [.int gp, .int gq, .int gh]))] H := hP
  have hD : va_D A [(h0, .inr (5, [.ref g, .int 0, .int 0, .null, .null, .null, .null, .int 0])), (g, .inr (1, [.int gp, .int gq, .int gh]))] := hD
  refine lv_aload_n hx hb dX6_init_9 rfl (lv_at hl 0 rfl) ?_
  refine lv_iload_n hx hb dX6_init_10 rfl (lv_at hl 2 rfl) ?_
  refine lv_iconst (v := 1) hx hb dX6_init_11 (by decide) ?_
  refine lv_iconst (v := 5) hx hb dX6_init_12 (by decide) ?_
  refine lv_aload_n hx hb dX6_init_13 rfl (lv_at hl 1 rfl) ?_
  refine rq_call1 (v := .int gq) (rn_V (As := []) (rest := [.int 5, .int 1, .int tr, .ref h0]) (ci := 1) (fs := [.int gp, .int gq, .int gh]) ⟨hx, hb, hml, hown, hts⟩ (c_X1_order l D cA g gp gq gh) rfl (cwV 0 hts gX6_init_X1_order rfl rfl rfl (by decide +kernel) ⟨Nat.le_of_ble_eq_true rfl, Nat.le_of_ble_eq_true rfl⟩) hK hP [1] rfl rfl rfl hl.1 rfl (Nat.le_of_ble_eq_true rfl) dX6_init_14 ⟨Nat.le_of_ble_eq_true rfl, Nat.le_of_ble_eq_true rfl⟩) ?_
  refine lv_iconst (v := 1) hx hb dX6_init_17 (by decide) ?_
  refine lv_isub hx hb dX6_init_18 ?_
  refine va_mmin hx hb (hml.trans hl.1.symm) hown (hts (.methodLink RX6 21 Lib.Math.min.name) (by decide +kernel)) (hts (.static Lib.Math.min.name) (by decide +kernel)) (hts (.initialized "java/lang/Math") (by decide +kernel)) (hts (.code Lib.Math.min.name Lib.Math.min.code 2 (some .int)) (by decide +kernel)) (Nat.le_of_ble_eq_true rfl) (Nat.le_of_ble_eq_true rfl) (Nat.le_of_ble_eq_true rfl) (Nat.le_of_ble_eq_true rfl) dX6_init_19 ?_
  refine rq_call1 (v := .int (wi tr 1 (if (gq - 1) < 5 then (gq - 1) else 5))) (rn_S (As := [.int tr, .int 1, .int (if (gq - 1) < 5 then (gq - 1) else 5)]) (rest := [.ref h0]) ⟨hx, hb, hml, hown, hts⟩ (c_X3_within l D cA tr 1 (if (gq - 1) < 5 then (gq - 1) else 5)) (va_cwS 3 hts gX6_init_X3_within rfl rfl rfl (by decide +kernel) ⟨Nat.le_of_ble_eq_true rfl, Nat.le_of_ble_eq_true rfl⟩) hK hP [] rfl rfl hl.1 rfl (Nat.le_of_ble_eq_true rfl) dX6_init_22 ⟨Nat.le_of_ble_eq_true rfl, Nat.le_of_ble_eq_true rfl⟩) ?_
  rw [hT]
  refine va_putF (D := D) (ci := 5) (v := .int (nI t0)) (ty := .int) (C := RX6) (T := TX6) (N := 8) hx hb hts hin_X6 tyX6 tyX6_ok nmX6 hown hK hP hD hS 0 rfl rfl 1 (by decide) (w_RX6_33) (fun _ h9 => h9) rfl hin rfl (by decide +kernel) rfl rfl (Nat.le_of_ble_eq_true rfl) dX6_init_25 (fun H locs hP hD hS => ?_)
  have hP : va_P D vwCl [(h0, .inr (5, [.ref g, .int (nI t0), .int 0, .null, .null, .null, .null, .int 0])), (g, .inr (1, [.int gp, .int gq, .int gh]))] H := hP
  have hD : va_D A [(h0, .inr (5, [.ref g, .int (nI t0), .int 0, .null, .null, .null, .null, .int 0])), (g, .inr (1, [.int gp, .int gq, .int gh]))] := hD
  refine lv_aload_n hx hb dX6_init_28 rfl (lv_at hl 0 rfl) ?_
  refine lv_iload_n hx hb dX6_init_29 rfl (lv_at hl 3 rfl) ?_
  refine lv_iconst (v := 1) hx hb dX6_init_30 (by decide) ?_
  refine lv_aload_n hx hb dX6_init_31 rfl (lv_at hl 0 rfl) ?_
  refine va_get (D := D) (ci := 5) (v := .int (nI t0)) (C := RX6) (T := TX6) (N := 8) hx hb hts hin_X6 hown hK hP 0 rfl rfl 1 (by decide) (w_RX6_33) (fun _ h9 => h9) rfl dX6_init_32 ?_
  refine rq_call1 (v := .int (wi th 1 (nI t0))) (rn_S (As := [.int th, .int 1, .int (nI t0)]) (rest := [.ref h0]) ⟨hx, hb, hml, hown, hts⟩ (c_X3_within l D cA th 1 (nI t0)) (va_cwS 3 hts gX6_init_X3_within rfl rfl rfl (by decide +kernel) ⟨Nat.le_of_ble_eq_true rfl, Nat.le_of_ble_eq_true rfl⟩) hK hP [] rfl rfl hl.1 rfl (Nat.le_of_ble_eq_true rfl) dX6_init_35 ⟨Nat.le_of_ble_eq_true rfl, Nat.le_of_ble_eq_true rfl⟩) ?_
  rw [hK0]
  refine va_putF (D := D) (ci := 5) (v := .int (nI k0)) (ty := .int) (C := RX6) (T := TX6) (N := 8) hx hb hts hin_X6 tyX6 tyX6_ok nmX6 hown hK hP hD hS 0 rfl rfl 2 (by decide) (w_RX6_37) (fun _ h9 => h9) rfl hin rfl (by decide +kernel) rfl rfl (Nat.le_of_ble_eq_true rfl) dX6_init_38 (fun H locs hP hD hS => ?_)
  have hP : va_P D vwCl [(h0, .inr (5, [.ref g, .int (nI t0), .int (nI k0), .null, .null, .null, .null, .int 0])), (g, .inr (1, [.int gp, .int gq, .int gh]))] H := hP
  have hD : va_D A [(h0, .inr (5, [.ref g, .int (nI t0), .int (nI k0), .null, .null, .null, .null, .int 0])), (g, .inr (1, [.int gp, .int gq, .int gh]))] := hD
  refine lv_aload_n hx hb dX6_init_41 rfl (lv_at hl 0 rfl) ?_
  refine lv_aload_n hx hb dX6_init_42 rfl (lv_at hl 0 rfl) ?_
  refine va_get (D := D) (ci := 5) (v := .int (nI k0)) (C := RX6) (T := TX6) (N := 8) hx hb hts hin_X6 hown hK hP 0 rfl rfl 2 (by decide) (w_RX6_37) (fun _ h9 => h9) rfl dX6_init_43 ?_
  refine ka_newa (atype := .int) (ty := .int) (N' := k0) (n := (nI k0)) (a0 := (k0, .inl (fun _ => 0))) hx hb (hts (.arrayClass .int) (by decide +kernel)) rfl hK hP hD hS hA 0 rfl (fun _ => rfl) (nI_pos (by omega)) (nI_clamp (by omega)) (by show k0 * 4 ≤ 536870912; omega) (Nat.le_of_ble_eq_true rfl) (Nat.le_trans (show 0 + k0 ≤ 5 by omega) (Nat.le_of_ble_eq_true rfl)) dX6_init_46 (fun q46 H hP hD hS => ?_)
  refine W.widen (k := 1) (n := 5) (by omega) (by omega) ?_
  have hP : va_P D vwCl [(h0, .inr (5, [.ref g, .int (nI t0), .int (nI k0), .null, .null, .null, .null, .int 0])), (g, .inr (1, [.int gp, .int gq, .int gh])), (q46, .inl (cA 0, k0, .inl (fun _ => 0)))] H := hP
  have hD : va_D A [(h0, .inr (5, [.ref g, .int (nI t0), .int (nI k0), .null, .null, .null, .null, .int 0])), (g, .inr (1, [.int gp, .int gq, .int gh])), (q46, .inl (cA 0, k0, .inl (fun _ => 0)))] := hD
  refine va_putF (D := D) (ci := 5) (v := .ref q46) (ty := (.array .int)) (C := RX6) (T := TX6) (N := 8) hx hb hts hin_X6 tyX6 tyX6_ok nmX6 hown hK hP hD hS 0 rfl rfl 3 (by decide) (w_RX6_40) (fun _ h9 => h9) rfl hin rfl (by decide +kernel) rfl rfl (Nat.le_of_ble_eq_true rfl) dX6_init_48 (fun H locs hP hD hS => ?_)
  have hP : va_P D vwCl [(h0, .inr (5, [.ref g, .int (nI t0), .int (nI k0), .ref q46, .null, .null, .null, .int 0])), (g, .inr (1, [.int gp, .int gq, .int gh])), (q46, .inl (cA 0, k0, .inl (fun _ => 0)))] H := hP
  have hD : va_D A [(h0, .inr (5, [.ref g, .int (nI t0), .int (nI k0), .ref q46, .null, .null, .null, .int 0])), (g, .inr (1, [.int gp, .int gq, .int gh])), (q46, .inl (cA 0, k0, .inl (fun _ => 0)))] := hD
  refine lv_aload_n hx hb dX6_init_51 rfl (lv_at hl 0 rfl) ?_
  refine va_get (D := D) (ci := 5) (v := .ref q46) (C := RX6) (T := TX6) (N := 8) hx hb hts hin_X6 hown hK hP 0 rfl rfl 3 (by decide) (w_RX6_40) (fun _ h9 => h9) rfl dX6_init_52 ?_
  refine lv_iconst (v := 0) hx hb dX6_init_55 (by decide) ?_
  refine lv_iconst (v := 1) hx hb dX6_init_56 (by decide) ?_
  refine va_iast hx hb hK hP hD hS 2 0 rfl rfl (vp_in_nI (n := 0) (by omega) (by omega)) dX6_init_57 (fun H locs hP hD hS => ?_)
  have hP : va_P D vwCl [(h0, .inr (5, [.ref g, .int (nI t0), .int (nI k0), .ref q46, .null, .null, .null, .int 0])), (g, .inr (1, [.int gp, .int gq, .int gh])), (q46, .inl (cA 0, k0, .inl (upd (fun _ => 0) (0 : Int32).toNatClampNeg 1)))] H := hP
  have hD : va_D A [(h0, .inr (5, [.ref g, .int (nI t0), .int (nI k0), .ref q46, .null, .null, .null, .int 0])), (g, .inr (1, [.int gp, .int gq, .int gh])), (q46, .inl (cA 0, k0, .inl (upd (fun _ => 0) (0 : Int32).toNatClampNeg 1)))] := hD
  refine lv_aload_n hx hb dX6_init_58 rfl (lv_at hl 0 rfl) ?_
  refine lv_aload_n hx hb dX6_init_59 rfl (lv_at hl 0 rfl) ?_
  refine va_get (D := D) (ci := 5) (v := .int (nI t0)) (C := RX6) (T := TX6) (N := 8) hx hb hts hin_X6 hown hK hP 0 rfl rfl 1 (by decide) (w_RX6_33) (fun _ h9 => h9) rfl dX6_init_60 ?_
  refine lv_iconst (v := 1) hx hb dX6_init_63 (by decide) ?_
  refine lv_iadd hx hb dX6_init_64 ?_
  refine ka_newa (atype := .boolean) (ty := .boolean) (N' := (t0 + 1)) (n := ((nI t0) + 1)) (a0 := ((t0 + 1), .inl (fun _ => 0))) hx hb (hts (.arrayClass .boolean) (by decide +kernel)) rfl hK hP hD hS hA 1 rfl (fun _ => rfl) (by rw [nI_1]; exact nI_pos (by omega)) (by rw [nI_1]; exact nI_clamp (by omega)) (by show (t0 + 1) * 1 ≤ 536870912; omega) (Nat.le_of_ble_eq_true rfl) (Nat.le_trans (show 5 + (t0 + 1) ≤ 11 by omega) (Nat.le_of_ble_eq_true rfl)) dX6_init_65 (fun q65 H hP hD hS => ?_)
  refine W.widen (k := 2) (n := 11) (by omega) (by omega) ?_
  have hP : va_P D vwCl [(h0, .inr (5, [.ref g, .int (nI t0), .int (nI k0), .ref q46, .null, .null, .null, .int 0])), (g, .inr (1, [.int gp, .int gq, .int gh])), (q46, .inl (cA 0, k0, .inl (upd (fun _ => 0) (0 : Int32).toNatClampNeg 1))), (q65, .inl (cA 1, (t0 + 1), .inl (fun _ => 0)))] H := hP
  have hD : va_D A [(h0, .inr (5, [.ref g, .int (nI t0), .int (nI k0), .ref q46, .null, .null, .null, .int 0])), (g, .inr (1, [.int gp, .int gq, .int gh])), (q46, .inl (cA 0, k0, .inl (upd (fun _ => 0) (0 : Int32).toNatClampNeg 1))), (q65, .inl (cA 1, (t0 + 1), .inl (fun _ => 0)))] := hD
  refine va_putF (D := D) (ci := 5) (v := .ref q65) (ty := (.array .boolean)) (C := RX6) (T := TX6) (N := 8) hx hb hts hin_X6 tyX6 tyX6_ok nmX6 hown hK hP hD hS 0 rfl rfl 4 (by decide) (w_RX6_44) (fun _ h9 => h9) rfl hin rfl (by decide +kernel) rfl rfl (Nat.le_of_ble_eq_true rfl) dX6_init_67 (fun H locs hP hD hS => ?_)
  have hP : va_P D vwCl [(h0, .inr (5, [.ref g, .int (nI t0), .int (nI k0), .ref q46, .ref q65, .null, .null, .int 0])), (g, .inr (1, [.int gp, .int gq, .int gh])), (q46, .inl (cA 0, k0, .inl (upd (fun _ => 0) (0 : Int32).toNatClampNeg 1))), (q65, .inl (cA 1, (t0 + 1), .inl (fun _ => 0)))] H := hP
  have hD : va_D A [(h0, .inr (5, [.ref g, .int (nI t0), .int (nI k0), .ref q46, .ref q65, .null, .null, .int 0])), (g, .inr (1, [.int gp, .int gq, .int gh])), (q46, .inl (cA 0, k0, .inl (upd (fun _ => 0) (0 : Int32).toNatClampNeg 1))), (q65, .inl (cA 1, (t0 + 1), .inl (fun _ => 0)))] := hD
  refine lv_aload_n hx hb dX6_init_70 rfl (lv_at hl 0 rfl) ?_
  refine lv_aload_n hx hb dX6_init_71 rfl (lv_at hl 0 rfl) ?_
  refine va_get (D := D) (ci := 5) (v := .int (nI t0)) (C := RX6) (T := TX6) (N := 8) hx hb hts hin_X6 hown hK hP 0 rfl rfl 1 (by decide) (w_RX6_33) (fun _ h9 => h9) rfl dX6_init_72 ?_
  refine lv_iconst (v := 1) hx hb dX6_init_75 (by decide) ?_
  refine lv_iadd hx hb dX6_init_76 ?_
  refine lv_bipush (v := 40) hx hb dX6_init_77 (by decide) ?_
  refine mu_row (n := ((nI t0) + 1)) (k := 40) (N := (t0 + 1)) (M := 40) hx hb hown (hts (.classLink RX6 48 "[[I") (by decide +kernel)) hX hK hP hD hS hA (by rw [nI_1]; exact nI_pos (by omega)) (by rw [nI_1]; exact nI_clamp (by omega)) (by decide) rfl (by omega) (by decide) (Nat.le_trans (show 2 + 1 + (t0 + 1) ≤ 9 by omega) (Nat.le_of_ble_eq_true rfl)) (Nat.le_trans (show 11 + (t0 + 1) + (t0 + 1) * 40 ≤ 257 by omega) (Nat.le_of_ble_eq_true rfl)) dX6_init_79 (fun q79 H locs hP hD hS => ?_)
  refine W.widen (k := 9) (n := 257) (by omega) (by omega) ?_
  refine va_putF (D := D) (ci := 5) (v := .ref q79) (ty := (.array (.array .int))) (C := RX6) (T := TX6) (N := 8) hx hb hts hin_X6 tyX6 tyX6_ok nmX6 hown hK hP hD hS 0 rfl rfl 5 (by decide) (w_RX6_50) (fun _ h9 => h9) rfl hin rfl (by decide +kernel) rfl rfl (Nat.le_of_ble_eq_true rfl) dX6_init_83 (fun H locs hP hD hS => ?_)
  have hP : va_P D vwCl [(h0, .inr (5, [.ref g, .int (nI t0), .int (nI k0), .ref q46, .ref q65, .ref q79, .null, .int 0])), (g, .inr (1, [.int gp, .int gq, .int gh])), (q46, .inl (cA 0, k0, .inl (upd (fun _ => 0) (0 : Int32).toNatClampNeg 1))), (q65, .inl (cA 1, (t0 + 1), .inl (fun _ => 0)))] H := hP
  have hD : va_D A [(h0, .inr (5, [.ref g, .int (nI t0), .int (nI k0), .ref q46, .ref q65, .ref q79, .null, .int 0])), (g, .inr (1, [.int gp, .int gq, .int gh])), (q46, .inl (cA 0, k0, .inl (upd (fun _ => 0) (0 : Int32).toNatClampNeg 1))), (q65, .inl (cA 1, (t0 + 1), .inl (fun _ => 0)))] := hD
  refine lv_aload_n hx hb dX6_init_86 rfl (lv_at hl 0 rfl) ?_
  refine lv_aload_n hx hb dX6_init_87 rfl (lv_at hl 0 rfl) ?_
  refine va_get (D := D) (ci := 5) (v := .int (nI t0)) (C := RX6) (T := TX6) (N := 8) hx hb hts hin_X6 hown hK hP 0 rfl rfl 1 (by decide) (w_RX6_33) (fun _ h9 => h9) rfl dX6_init_88 ?_
  refine lv_iconst (v := 1) hx hb dX6_init_91 (by decide) ?_
  refine lv_iadd hx hb dX6_init_92 ?_
  refine ka_newa (atype := .int) (ty := .int) (N' := (t0 + 1)) (n := ((nI t0) + 1)) (a0 := ((t0 + 1), .inl (fun _ => 0))) hx hb (hts (.arrayClass .int) (by decide +kernel)) rfl hK hP hD hS hA 0 rfl (fun _ => rfl) (by rw [nI_1]; exact nI_pos (by omega)) (by rw [nI_1]; exact nI_clamp (by omega)) (by show (t0 + 1) * 4 ≤ 536870912; omega) (Nat.le_of_ble_eq_true rfl) (Nat.le_trans (show 257 + (t0 + 1) ≤ 263 by omega) (Nat.le_of_ble_eq_true rfl)) dX6_init_93 (fun q93 H hP hD hS => ?_)
  refine W.widen (k := 10) (n := 263) (by omega) (by omega) ?_
  have hP : va_P D vwCl [(h0, .inr (5, [.ref g, .int (nI t0), .int (nI k0), .ref q46, .ref q65, .ref q79, .null, .int 0])), (g, .inr (1, [.int gp, .int gq, .int gh])), (q46, .inl (cA 0, k0, .inl (upd (fun _ => 0) (0 : Int32).toNatClampNeg 1))), (q65, .inl (cA 1, (t0 + 1), .inl (fun _ => 0))), (q93, .inl (cA 0, (t0 + 1), .inl (fun _ => 0)))] H := hP
  have hD : va_D A [(h0, .inr (5, [.ref g, .int (nI t0), .int (nI k0), .ref q46, .ref q65, .ref q79, .null, .int 0])), (g, .inr (1, [.int gp, .int gq, .int gh])), (q46, .inl (cA 0, k0, .inl (upd (fun _ => 0) (0 : Int32).toNatClampNeg 1))), (q65, .inl (cA 1, (t0 + 1), .inl (fun _ => 0))), (q93, .inl (cA 0, (t0 + 1), .inl (fun _ => 0)))] := hD
  refine va_putF (D := D) (ci := 5) (v := .ref q93) (ty := (.array .int)) (C := RX6) (T := TX6) (N := 8) hx hb hts hin_X6 tyX6 tyX6_ok nmX6 hown hK hP hD hS 0 rfl rfl 6 (by decide) (w_RX6_53) (fun _ h9 => h9) rfl hin rfl (by decide +kernel) rfl rfl (Nat.le_of_ble_eq_true rfl) dX6_init_95 (fun H locs hP hD hS => ?_)
  have hP : va_P D vwCl [(h0, .inr (5, [.ref g, .int (nI t0), .int (nI k0), .ref q46, .ref q65, .ref q79, .ref q93, .int 0])), (g, .inr (1, [.int gp, .int gq, .int gh])), (q46, .inl (cA 0, k0, .inl (upd (fun _ => 0) (0 : Int32).toNatClampNeg 1))), (q65, .inl (cA 1, (t0 + 1), .inl (fun _ => 0))), (q93, .inl (cA 0, (t0 + 1), .inl (fun _ => 0)))] H := hP
  have hD : va_D A [(h0, .inr (5, [.ref g, .int (nI t0), .int (nI k0), .ref q46, .ref q65, .ref q79, .ref q93, .int 0])), (g, .inr (1, [.int gp, .int gq, .int gh])), (q46, .inl (cA 0, k0, .inl (upd (fun _ => 0) (0 : Int32).toNatClampNeg 1))), (q65, .inl (cA 1, (t0 + 1), .inl (fun _ => 0))), (q93, .inl (cA 0, (t0 + 1), .inl (fun _ => 0)))] := hD
  refine W.widen (k := 10) (n := 263) (by omega) (by omega) ?_
  have hP9 := hP.sub (ws' := [(h0, .inr (5, [.ref g, .int (nI t0), .int (nI k0), .ref q46, .ref q65, .ref q79, .ref q93, .int 0])), (g, .inr (1, [.int gp, .int gq, .int gh])), (q46, .inl (cA 0, k0, .inl (upd (fun _ => 0) (0 : Int32).toNatClampNeg 1)))]) [0, 1, 2] rfl
  have hD9 := hD.sub (ws' := [(h0, .inr (5, [.ref g, .int (nI t0), .int (nI k0), .ref q46, .ref q65, .ref q79, .ref q93, .int 0])), (g, .inr (1, [.int gp, .int gq, .int gh])), (q46, .inl (cA 0, k0, .inl (upd (fun _ => 0) (0 : Int32).toNatClampNeg 1)))]) [0, 1, 2] (by decide) rfl
  exact W.vret hx hb hr (fun t ht hW => ⟨⟨(fun i => [q46, q65, q79, q93].getD i 0), rfl, trivial, by rw [ht]; exact hP9, va_K.moved hW.alike hK, hD9⟩, hS.F ht⟩) hS.2.2 dX6_init_98
end
section
set_option maxRecDepth 20000 in
theorem ggX7_init_X3_within : GoodIn wsX7_init wsX3_within := goodIn_r _ [44, 45, 10, 11, 12, 46, 47, 48] (by decide +kernel) (by decide +kernel)
set_option maxRecDepth 20000 in
theorem gX7_init_X3_within : GoodIn wsX7_init (va_wsS RX7 12 yX3_within wsX3_within) := goodIn_app (goodIn_of _ (by decide +kernel)) ggX7_init_X3_within
set_option maxRecDepth 20000 in
theorem ggX7_init_X3_safePrimeFrom : GoodIn wsX7_init wsX3_safePrimeFrom := goodIn_r _ [51, 52, 53, 54, 43, 55] (by decide +kernel) (by decide +kernel)
set_option maxRecDepth 20000 in
theorem gX7_init_X3_safePrimeFrom : GoodIn wsX7_init (va_wsS RX7 18 yX3_safePrimeFrom wsX3_safePrimeFrom) := goodIn_app (goodIn_of _ (by decide +kernel)) ggX7_init_X3_safePrimeFrom
set_option maxRecDepth 20000 in
theorem ggX7_init_X1_init : GoodIn wsX7_init wsX1_init := goodIn_r _ [58, 59, 2, 3, 60, 61, 127, 128, 129] (by decide +kernel) (by decide +kernel)
set_option maxRecDepth 20000 in
theorem gX7_init_X1_init : GoodIn wsX7_init (wsX1_init) := ggX7_init_X1_init
set_option maxRecDepth 20000 in
theorem ggX7_init_X1_order : GoodIn wsX7_init wsX1_order := goodIn_r _ [65, 61, 127, 128, 129] (by decide +kernel) (by decide +kernel)
set_option maxRecDepth 20000 in
theorem gX7_init_X1_order : GoodIn wsX7_init (wsV RX7 29 RX1 yX1_order wsX1_order) := goodIn_app (goodIn_of _ (by decide +kernel)) ggX7_init_X1_order
set_option maxRecDepth 20000 in
theorem ggX7_init_X6_init : GoodIn wsX7_init wsX6_init := goodIn_r _ [68, 69, 2, 3, 70, 71, 10, 11, 12, 72, 73, 38, 74, 75, 76, 77, 78, 79, 80, 63, 64, 6, 65, 61, 81, 42, 43, 44, 45, 46, 47, 48, 150, 151, 152, 153, 154, 155, 156, 157, 127, 128, 129] (by decide +kernel) (by decide +kernel)
set_option maxRecDepth 20000 in
theorem gX7_init_X6_init : GoodIn wsX7_init (wsX6_init) := ggX7_init_X6_init
set_option maxRecDepth 20000 in
theorem ggX7_init_X0_init : GoodIn wsX7_init wsX0_init := goodIn_r _ [84, 85, 2, 3, 38, 86, 87, 88, 89, 90, 91, 158, 159, 160, 161, 162, 163] (by decide +kernel) (by decide +kernel)
set_option maxRecDepth 20000 in
theorem gX7_init_X0_init : GoodIn wsX7_init (wsX0_init) := ggX7_init_X0_init
set_option maxRecDepth 20000 in
theorem ggX7_init_X4_init : GoodIn wsX7_init wsX4_init := goodIn_r _ [94, 95, 2, 3, 38, 96, 97, 98, 99, 100, 24, 101, 102, 103, 104, 105, 164, 165] (by decide +kernel) (by decide +kernel)
set_option maxRecDepth 20000 in
theorem gX7_init_X4_init : GoodIn wsX7_init (wsX4_init) := ggX7_init_X4_init
set_option maxRecDepth 20000 in
theorem ggX7_init_X5_init : GoodIn wsX7_init wsX5_init := goodIn_r _ [108, 109, 2, 3, 110, 33, 34, 111, 112, 23, 24, 113, 114, 115, 116, 117, 38, 118, 119, 120, 121, 122, 123, 124, 103, 104, 105, 125, 93, 94, 95, 96, 97, 98, 99, 100, 101, 102, 168, 169, 166, 167, 164, 165] (by decide +kernel) (by decide +kernel)
set_option maxRecDepth 20000 in
theorem gX7_init_X5_init : GoodIn wsX7_init (wsX5_init) := ggX7_init_X5_init
set_option maxRecDepth 20000 in
theorem ggX7_init_X2_init : GoodIn wsX7_init wsX2_init := goodIn_r _ [116, 117, 2, 3, 38, 118, 119, 120, 121, 122, 34, 123, 124, 103, 104, 105, 168, 169] (by decide +kernel) (by decide +kernel)
set_option maxRecDepth 20000 in
theorem gX7_init_X2_init : GoodIn wsX7_init (wsX2_init) := ggX7_init_X2_init
theorem dX7_init_0 : decode cX7_init 0 = .ok (.aload_n 0, 1) := by decide +kernel
theorem dX7_init_1 : decode cX7_init 1 = .ok (.invokespecial 1, 3) := by decide +kernel
theorem dX7_init_4 : decode cX7_init 4 = .ok (.aload_n 0, 1) := by decide +kernel
theorem dX7_init_5 : decode cX7_init 5 = .ok (.new 7, 3) := by decide +kernel
theorem dX7_init_8 : decode cX7_init 8 = .ok (.dup, 1) := by decide +kernel
theorem dX7_init_9 : decode cX7_init 9 = .ok (.iload_n 1, 1) := by decide +kernel
theorem dX7_init_10 : decode cX7_init 10 = .ok (.bipush 11, 2) := by decide +kernel
theorem dX7_init_12 : decode cX7_init 12 = .ok (.ldc 11, 2) := by decide +kernel
theorem dX7_init_14 : decode cX7_init 14 = .ok (.invokestatic 12, 3) := by decide +kernel
theorem dX7_init_17 : decode cX7_init 17 = .ok (.invokestatic 18, 3) := by decide +kernel
theorem dX7_init_20 : decode cX7_init 20 = .ok (.invokespecial 22, 3) := by decide +kernel
theorem dX7_init_23 : decode cX7_init 23 = .ok (.putfield 25, 3) := by decide +kernel
theorem dX7_init_26 : decode cX7_init 26 = .ok (.aload_n 0, 1) := by decide +kernel
theorem dX7_init_27 : decode cX7_init 27 = .ok (.iload_n 2, 1) := by decide +kernel
theorem dX7_init_28 : decode cX7_init 28 = .ok (.iconst 1, 1) := by decide +kernel
theorem dX7_init_29 : decode cX7_init 29 = .ok (.bipush 10, 2) := by decide +kernel
theorem dX7_init_31 : decode cX7_init 31 = .ok (.aload_n 0, 1) := by decide +kernel
theorem dX7_init_32 : decode cX7_init 32 = .ok (.getfield 25, 3) := by decide +kernel
theorem dX7_init_35 : decode cX7_init 35 = .ok (.invokevirtual 29, 3) := by decide +kernel
theorem dX7_init_38 : decode cX7_init 38 = .ok (.iconst 2, 1) := by decide +kernel
theorem dX7_init_39 : decode cX7_init 39 = .ok (.isub, 1) := by decide +kernel
theorem dX7_init_40 : decode cX7_init 40 = .ok (.invokestatic 33, 3) := by decide +kernel
theorem dX7_init_43 : decode cX7_init 43 = .ok (.invokestatic 12, 3) := by decide +kernel
theorem dX7_init_46 : decode cX7_init 46 = .ok (.putfield 39, 3) := by decide +kernel
theorem dX7_init_49 : decode cX7_init 49 = .ok (.aload_n 0, 1) := by decide +kernel
theorem dX7_init_50 : decode cX7_init 50 = .ok (.new 43, 3) := by decide +kernel
theorem dX7_init_53 : decode cX7_init 53 = .ok (.dup, 1) := by decide +kernel
theorem dX7_init_54 : decode cX7_init 54 = .ok (.aload_n 0, 1) := by decide +kernel
theorem dX7_init_55 : decode cX7_init 55 = .ok (.getfield 25, 3) := by decide +kernel
theorem dX7_init_58 : decode cX7_init 58 = .ok (.iload_n 3, 1) := by decide +kernel
theorem dX7_init_59 : decode cX7_init 59 = .ok (.iload 4, 2) := by decide +kernel
theorem dX7_init_61 : decode cX7_init 61 = .ok (.invokespecial 45, 3) := by decide +kernel
theorem dX7_init_64 : decode cX7_init 64 = .ok (.putfield 48, 3) := by decide +kernel
theorem dX7_init_67 : decode cX7_init 67 = .ok (.aload_n 0, 1) := by decide +kernel
theorem dX7_init_68 : decode cX7_init 68 = .ok (.new 52, 3) := by decide +kernel
theorem dX7_init_71 : decode cX7_init 71 = .ok (.dup, 1) := by decide +kernel
theorem dX7_init_72 : decode cX7_init 72 = .ok (.invokespecial 54, 3) := by decide +kernel
theorem dX7_init_75 : decode cX7_init 75 = .ok (.putfield 55, 3) := by decide +kernel
theorem dX7_init_78 : decode cX7_init 78 = .ok (.aload_n 0, 1) := by decide +kernel
theorem dX7_init_79 : decode cX7_init 79 = .ok (.new 59, 3) := by decide +kernel
theorem dX7_init_82 : decode cX7_init 82 = .ok (.dup, 1) := by decide +kernel
theorem dX7_init_83 : decode cX7_init 83 = .ok (.invokespecial 61, 3) := by decide +kernel
theorem dX7_init_86 : decode cX7_init 86 = .ok (.putfield 62, 3) := by decide +kernel
theorem dX7_init_89 : decode cX7_init 89 = .ok (.aload_n 0, 1) := by decide +kernel
theorem dX7_init_90 : decode cX7_init 90 = .ok (.iconst 5, 1) := by decide +kernel
theorem dX7_init_91 : decode cX7_init 91 = .ok (.anewarray 59, 3) := by decide +kernel
theorem dX7_init_94 : decode cX7_init 94 = .ok (.putfield 66, 3) := by decide +kernel
theorem dX7_init_97 : decode cX7_init 97 = .ok (.iconst 0, 1) := by decide +kernel
theorem dX7_init_98 : decode cX7_init 98 = .ok (.istore 5, 2) := by decide +kernel
theorem dX7_init_100 : decode cX7_init 100 = .ok (.iload 5, 2) := by decide +kernel
theorem dX7_init_102 : decode cX7_init 102 = .ok (.aload_n 0, 1) := by decide +kernel
theorem dX7_init_103 : decode cX7_init 103 = .ok (.getfield 66, 3) := by decide +kernel
theorem dX7_init_106 : decode cX7_init 106 = .ok (.arraylength, 1) := by decide +kernel
theorem dX7_init_107 : decode cX7_init 107 = .ok (.if_icmp .ge 23, 3) := by decide +kernel
theorem dX7_init_110 : decode cX7_init 110 = .ok (.aload_n 0, 1) := by decide +kernel
theorem dX7_init_111 : decode cX7_init 111 = .ok (.getfield 66, 3) := by decide +kernel
theorem dX7_init_114 : decode cX7_init 114 = .ok (.iload 5, 2) := by decide +kernel
theorem dX7_init_116 : decode cX7_init 116 = .ok (.new 59, 3) := by decide +kernel
theorem dX7_init_119 : decode cX7_init 119 = .ok (.dup, 1) := by decide +kernel
theorem dX7_init_120 : decode cX7_init 120 = .ok (.invokespecial 61, 3) := by decide +kernel
theorem dX7_init_123 : decode cX7_init 123 = .ok (.aastore, 1) := by decide +kernel
theorem dX7_init_124 : decode cX7_init 124 = .ok (.iinc 5 1, 3) := by decide +kernel
theorem dX7_init_127 : decode cX7_init 127 = .ok (.goto (-27), 3) := by decide +kernel
theorem dX7_init_130 : decode cX7_init 130 = .ok (.aload_n 0, 1) := by decide +kernel
theorem dX7_init_131 : decode cX7_init 131 = .ok (.new 59, 3) := by decide +kernel
theorem dX7_init_134 : decode cX7_init 134 = .ok (.dup, 1) := by decide +kernel
theorem dX7_init_135 : decode cX7_init 135 = .ok (.invokespecial 61, 3) := by decide +kernel
theorem dX7_init_138 : decode cX7_init 138 = .ok (.putfield 70, 3) := by decide +kernel
theorem dX7_init_141 : decode cX7_init 141 = .ok (.aload_n 0, 1) := by decide +kernel
theorem dX7_init_142 : decode cX7_init 142 = .ok (.new 73, 3) := by decide +kernel
theorem dX7_init_145 : decode cX7_init 145 = .ok (.dup, 1) := by decide +kernel
theorem dX7_init_146 : decode cX7_init 146 = .ok (.invokespecial 75, 3) := by decide +kernel
theorem dX7_init_149 : decode cX7_init 149 = .ok (.putfield 76, 3) := by decide +kernel
theorem dX7_init_152 : decode cX7_init 152 = .ok (.aload_n 0, 1) := by decide +kernel
theorem dX7_init_153 : decode cX7_init 153 = .ok (.new 80, 3) := by decide +kernel
theorem dX7_init_156 : decode cX7_init 156 = .ok (.dup, 1) := by decide +kernel
theorem dX7_init_157 : decode cX7_init 157 = .ok (.invokespecial 82, 3) := by decide +kernel
theorem dX7_init_160 : decode cX7_init 160 = .ok (.putfield 83, 3) := by decide +kernel
theorem dX7_init_163 : decode cX7_init 163 = .ok (.aload_n 0, 1) := by decide +kernel
theorem dX7_init_164 : decode cX7_init 164 = .ok (.new 80, 3) := by decide +kernel
theorem dX7_init_167 : decode cX7_init 167 = .ok (.dup, 1) := by decide +kernel
theorem dX7_init_168 : decode cX7_init 168 = .ok (.invokespecial 82, 3) := by decide +kernel
theorem dX7_init_171 : decode cX7_init 171 = .ok (.putfield 87, 3) := by decide +kernel
theorem dX7_init_174 : decode cX7_init 174 = .ok (.aload_n 0, 1) := by decide +kernel
theorem dX7_init_175 : decode cX7_init 175 = .ok (.new 80, 3) := by decide +kernel
theorem dX7_init_178 : decode cX7_init 178 = .ok (.dup, 1) := by decide +kernel
theorem dX7_init_179 : decode cX7_init 179 = .ok (.invokespecial 82, 3) := by decide +kernel
theorem dX7_init_182 : decode cX7_init 182 = .ok (.putfield 90, 3) := by decide +kernel
theorem dX7_init_185 : decode cX7_init 185 = .ok (.aload_n 0, 1) := by decide +kernel
theorem dX7_init_186 : decode cX7_init 186 = .ok (.aload_n 0, 1) := by decide +kernel
theorem dX7_init_187 : decode cX7_init 187 = .ok (.getfield 39, 3) := by decide +kernel
theorem dX7_init_190 : decode cX7_init 190 = .ok (.iconst 1, 1) := by decide +kernel
theorem dX7_init_191 : decode cX7_init 191 = .ok (.iadd, 1) := by decide +kernel
theorem dX7_init_192 : decode cX7_init 192 = .ok (.newarray .int, 2) := by decide +kernel
theorem dX7_init_194 : decode cX7_init 194 = .ok (.putfield 93, 3) := by decide +kernel
theorem dX7_init_197 : decode cX7_init 197 = .ok (.aload_n 0, 1) := by decide +kernel
theorem dX7_init_198 : decode cX7_init 198 = .ok (.iconst 0, 1) := by decide +kernel
theorem dX7_init_199 : decode cX7_init 199 = .ok (.putfield 97, 3) := by decide +kernel
theorem dX7_init_202 : decode cX7_init 202 = .ok (.return_, 1) := by decide +kernel
theorem sp_val {r : Int32} {n0 p0 : Nat} (h : ∃ k : Nat, k ≤ 999959 ∧ r = nI k ∧ sp_least n0 k) (hp : sp_least n0 p0) : r = nI p0 := by
  obtain ⟨k, _, h1, h2⟩ := h
  rw [h1, sp_uniq h2 hp]
theorem gq_half {p0 q0 : Nat} (hq : p0 = 2 * q0 + 1) (hp9 : p0 ≤ 999959) : (nI p0 - 1) / 2 = nI q0 := by
  rw [show (nI p0 - 1 : Int32) = nI (p0 - 1) from pk_sub (a := p0) (b := 1) (by omega), show (nI (p0 - 1) / 2 : Int32) = nI ((p0 - 1) / 2) from pk_div (a := p0 - 1) (d := 2) (by omega) (by omega) (by omega)]
  congr 1
  omega
set_option maxHeartbeats 4000000 in
set_option maxRecDepth 100000 in
theorem c_X7_init (l : Launch) (D : va_G) (cA : Nat → ClassId) (h0 : Nat) (pr : Int32) (cn : Int32) (tr : Int32) (th : Int32) (n0 : Nat) (p0 : Nat) (q0 : Nat) (c0 : Nat) (t0 : Nat) (k0 : Nat) (hN : wi pr 11 999959 = nI n0) (hC : wi cn 1 (if nI q0 - 2 < 10 then nI q0 - 2 else 10) = nI c0) (hT : wi tr 1 (if nI q0 - 1 < 5 then nI q0 - 1 else 5) = nI t0) (hK0 : wi th 1 (nI t0) = nI k0) (hn : 11 ≤ n0 ∧ n0 ≤ 999959) (hp : sp_least n0 p0) (hq : p0 = 2 * q0 + 1) (hp9 : p0 ≤ 999959) (hc : 1 ≤ c0 ∧ c0 ≤ 10) (ht : 1 ≤ t0 ∧ t0 ≤ 5) (hk : 1 ≤ k0 ∧ k0 ≤ t0) (sz : Nat) : Met l yX7_init wsX7_init ({ frames := 4, cells := 57, slots := 4282, locals := 83 }) (iPc vwCl D cA sz [(h0, .inr (6, [.null, .null, .null, .int 0, .null, .null, .null, .null, .null, .null, .null, .null, .int 0, .int 0, .int 0, .int 0, .int 0, .int 0, .int 0, .int 0]))] [.ref h0, .int pr, .int cn, .int tr, .int th]) (va_Qv (fun _ : Nat → Nat => True) (fun (u : Nat → Nat) (t : State) => va_P D vwCl [(h0, .inr (6, [.ref (u 0), .ref (u 1), .ref (u 2), .int (nI c0), .ref (u 3), .ref (u 4), .ref (u 5), .ref (u 6), .ref (u 7), .ref (u 8), .ref (u 9), .ref (u 10), .int 0, .int 0, .int 0, .int 0, .int 0, .int 0, .int 0, .int 0])), (u 0, .inr (1, [.int (nI p0), .int (nI q0), .int 0])), (u 1, .inr (5, [.ref (u 0), .int (nI t0), .int (nI k0), .ref (u 11), .ref (u 12), .ref (u 13), .ref (u 14), .int 0])), ((u 11), .inl (cA 0, k0, .inl (upd (fun _ => 0) (0 : Int32).toNatClampNeg 1))), (u 2, .inr (0, [.ref (u 15), .ref (u 16), .ref (u 17), .ref (u 18), .ref (u 19), .int 0])), ((u 15), .inl (cA 0, 600, .inl (fun _ => 0))), ((u 16), .inl (cA 0, 600, .inl (fun _ => 0))), ((u 17), .inl (cA 0, 600, .inl (fun _ => 0))), ((u 18), .inl (cA 2, 600, .inr (.inl (fun _ => 0)))), ((u 19), .inl (cA 2, 600, .inr (.inl (fun _ => 0))))] t.heap ∧ va_K D vwCl (tyS cA) t ∧ va_D (va_A [(h0, .inr (6, [.null, .null, .null, .int 0, .null, .null, .null, .null, .null, .null, .null, .null, .int 0, .int 0, .int 0, .int 0, .int 0, .int 0, .int 0, .int 0]))] sz) [(h0, .inr (6, [.ref (u 0), .ref (u 1), .ref (u 2), .int (nI c0), .ref (u 3), .ref (u 4), .ref (u 5), .ref (u 6), .ref (u 7), .ref (u 8), .ref (u 9), .ref (u 10), .int 0, .int 0, .int 0, .int 0, .int 0, .int 0, .int 0, .int 0])), (u 0, .inr (1, [.int (nI p0), .int (nI q0), .int 0])), (u 1, .inr (5, [.ref (u 0), .int (nI t0), .int (nI k0), .ref (u 11), .ref (u 12), .ref (u 13), .ref (u 14), .int 0])), ((u 11), .inl (cA 0, k0, .inl (upd (fun _ => 0) (0 : Int32).toNatClampNeg 1))), (u 2, .inr (0, [.ref (u 15), .ref (u 16), .ref (u 17), .ref (u 18), .ref (u 19), .int 0])), ((u 15), .inl (cA 0, 600, .inl (fun _ => 0))), ((u 16), .inl (cA 0, 600, .inl (fun _ => 0))), ((u 17), .inl (cA 0, 600, .inl (fun _ => 0))), ((u 18), .inl (cA 2, 600, .inr (.inl (fun _ => 0)))), ((u 19), .inl (cA 2, 600, .inr (.inl (fun _ => 0))))]) (va_A [(h0, .inr (6, [.null, .null, .null, .int 0, .null, .null, .null, .null, .null, .null, .null, .null, .int 0, .int 0, .int 0, .int 0, .int 0, .int 0, .int 0, .int 0]))] sz)) 57 4282 (va_A [(h0, .inr (6, [.null, .null, .null, .int 0, .null, .null, .null, .null, .null, .null, .null, .null, .int 0, .int 0, .int 0, .int 0, .int 0, .int 0, .int 0, .int 0]))] sz) := by
  refine Met.ofW (cc := cX7_init) (maxL := 6) (ret := none) (by decide) rfl ?_
  intro p e s m args below meth c s₁ B hml hv
  obtain ⟨rfl, hsz, hP, hK, hD0, hX⟩ := hv
  have hx := B.exec
  have hb := B.bytes
  have hr := B.returns
  have hts := atoms_spec (ws := wsX7_init) B.pre
  have hown : s.vm.findClass RX7 = some m.cls := findClass_of_methodNamed B.named
  have hlocks := B.notSynchronized
  have hin : meth.name = "<init>" := (name_of_methodNamed B.named B.method).1
  have hin_X1 : ∀ w ∈ wsX10, w ∈ wsX7_init := fun w h => List.mem_cons_of_mem _ (List.mem_append_left _ (List.mem_append_left _ (List.mem_append_left _ (List.mem_append_left _ (List.mem_append_left _ (List.mem_append_left _ (List.mem_append_right _ h)))))))
  have hin_X7 : ∀ w ∈ wsX70, w ∈ wsX7_init := fun w h => List.mem_cons_of_mem _ (List.mem_append_left _ (List.mem_append_left _ (List.mem_append_left _ (List.mem_append_left _ (List.mem_append_left _ (List.mem_append_right _ h))))))
  have hin_X6 : ∀ w ∈ wsX60, w ∈ wsX7_init := fun w h => List.mem_cons_of_mem _ (List.mem_append_left _ (List.mem_append_left _ (List.mem_append_left _ (List.mem_append_left _ (List.mem_append_right _ h)))))
  have hin_X0 : ∀ w ∈ wsX00, w ∈ wsX7_init := fun w h => List.mem_cons_of_mem _ (List.mem_append_left _ (List.mem_append_left _ (List.mem_append_left _ (List.mem_append_right _ h))))
  have hin_X4 : ∀ w ∈ wsX40, w ∈ wsX7_init := fun w h => List.mem_cons_of_mem _ (List.mem_append_left _ (List.mem_append_left _ (List.mem_append_right _ h)))
  have hin_X5 : ∀ w ∈ wsX50, w ∈ wsX7_init := fun w h => List.mem_cons_of_mem _ (List.mem_append_left _ (List.mem_append_right _ h))
  have hin_X2 : ∀ w ∈ wsX20, w ∈ wsX7_init := fun w h => List.mem_cons_of_mem _ (List.mem_append_right _ h)
  have w_RX7_25 := hts (.fieldLink RX7 25 "MixElection" "group" "LMixElection$Group;") (by decide +kernel)
  have w_RX7_39 := hts (.fieldLink RX7 39 "MixElection" "candidates" "I") (by decide +kernel)
  have w_RX7_48 := hts (.fieldLink RX7 48 "MixElection" "trustees" "LMixElection$Trustees;") (by decide +kernel)
  have w_RX7_55 := hts (.fieldLink RX7 55 "MixElection" "board" "LMixElection$Board;") (by decide +kernel)
  have w_RX7_62 := hts (.fieldLink RX7 62 "MixElection" "lastBallots" "LMixElection$Pairs;") (by decide +kernel)
  have w_RX7_66 := hts (.fieldLink RX7 66 "MixElection" "lists" "[LMixElection$Pairs;") (by decide +kernel)
  have w_RX7_70 := hts (.fieldLink RX7 70 "MixElection" "latestShadow" "LMixElection$Pairs;") (by decide +kernel)
  have w_RX7_76 := hts (.fieldLink RX7 76 "MixElection" "staging" "LMixElection$Staging;") (by decide +kernel)
  have w_RX7_83 := hts (.fieldLink RX7 83 "MixElection" "mixMoves" "LMixElection$Moves;") (by decide +kernel)
  have w_RX7_87 := hts (.fieldLink RX7 87 "MixElection" "shadowMoves" "LMixElection$Moves;") (by decide +kernel)
  have w_RX7_90 := hts (.fieldLink RX7 90 "MixElection" "shownMoves" "LMixElection$Moves;") (by decide +kernel)
  have w_RX7_93 := hts (.fieldLink RX7 93 "MixElection" "counts" "[I") (by decide +kernel)
  have w_RX7_97 := hts (.fieldLink RX7 97 "MixElection" "stage" "I") (by decide +kernel)
  subst hsz
  have hD := hD0.self (sz := s.heap.size)
  generalize hAe : va_A [(h0, .inr (6, [.null, .null, .null, .int 0, .null, .null, .null, .null, .null, .null, .null, .null, .int 0, .int 0, .int 0, .int 0, .int 0, .int 0, .int 0, .int 0]))] s.heap.size = A at hD ⊢
  have hA : ∀ q : Nat, s.heap.size ≤ q → A q := fun q h => by rw [← hAe]; exact Or.inr h
  have hS : va_S A s.heap s.heap [] := va_S.rf
  have hP : va_P D vwCl [(h0, .inr (6, [.null, .null, .null, .int 0, .null, .null, .null, .null, .null, .null, .null, .null, .int 0, .int 0, .int 0, .int 0, .int 0, .int 0, .int 0, .int 0]))] s.heap := hP
  have hl := lv_entry ([.ref h0, .int pr, .int cn, .int tr, .int th]) (n := 6) (Nat.le_of_ble_eq_true rfl)
  rw [lg_entry_eq]
  generalize (lg_sl ([.ref h0, .int pr, .int cn, .int tr, .int th]) ++ List.replicate (6 - (lg_sl ([.ref h0, .int pr, .int cn, .int tr, .int th])).length) Slot.unset).toArray = ls at hl ⊢
  have hl : lv_has ls 6 [(0, .ref h0), (1, .int pr), (2, .int cn), (3, .int tr), (4, .int th)] := hl
  refine lv_aload_n hx hb dX7_init_0 rfl (lv_at hl 0 rfl) ?_
  refine W.objInit hx hb hown (hts (.methodLink RX7 1 objectInit) (by decide +kernel)) (hts (.instanceMethod objectInit) (by decide +kernel)) (hts (.code objectInit ⟨#[0xb1]⟩ 1 none) (by decide +kernel)) rfl (by rw [hml]; exact hl.1) rfl dX7_init_1 (Nat.le_of_ble_eq_true rfl) (Nat.le_of_ble_eq_true rfl) ?_
  refine W.eq (g2 := F0 m 4 ls []) rfl ?_
  refine lv_aload_n hx hb dX7_init_4 rfl (lv_at hl 0 rfl) ?_
  refine va_new (ci := 1) (fs := [.int 0, .int 0, .int 0]) (C := RX1) (T := TX1) (N := 3) hx hb hts hin_X1 tyX1 tyX1_ok hown (hts (.classLink RX7 7 RX1) (by decide +kernel)) (hts (.instantiable RX1 3) (by decide +kernel)) (hts (.initialized RX1) (by decide +kernel)) hK hP hD hS hA rfl (fun j hj => by rcases (show j = 0 ∨ j = 1 ∨ j = 2 by omega) with rfl | rfl | rfl <;> rfl) (Nat.le_of_ble_eq_true rfl) (Nat.le_of_ble_eq_true rfl) dX7_init_5 (fun q_1 H hP hD hS => ?_)
  refine W.widen (k := 1) (n := 3) (by omega) (by omega) ?_
  have hP : va_P D vwCl [(h0, .inr (6, [.null, .null, .null, .int 0, .null, .null, .null, .null, .null, .null, .null, .null, .int 0, .int 0, .int 0, .int 0, .int 0, .int 0, .int 0, .int 0])), (q_1, .inr (1, [.int 0, .int 0, .int 0]))] H := hP
  have hD : va_D A [(h0, .inr (6, [.null, .null, .null, .int 0, .null, .null, .null, .null, .null, .null, .null, .null, .int 0, .int 0, .int 0, .int 0, .int 0, .int 0, .int 0, .int 0])), (q_1, .inr (1, [.int 0, .int 0, .int 0]))] := hD
  refine lv_dup hx hb dX7_init_8 rfl ?_
  refine lv_iload_n hx hb dX7_init_9 rfl (lv_at hl 1 rfl) ?_
  refine lv_bipush (v := 11) hx hb dX7_init_10 (by decide) ?_
  refine lv_ldc (v := (999959)) hx hb hown (hts (.constant RX7 11 (999959)) (by decide +kernel)) dX7_init_12 ?_
  refine rq_call1 (v := .int (wi pr 11 (999959))) (rn_S (As := [.int pr, .int 11, .int (999959)]) (rest := [.ref q_1, .ref q_1, .ref h0]) ⟨hx, hb, hml, hown, hts⟩ (c_X3_within l D cA pr 11 (999959)) (va_cwS 3 hts gX7_init_X3_within rfl rfl rfl (by decide +kernel) ⟨Nat.le_of_ble_eq_true rfl, Nat.le_of_ble_eq_true rfl⟩) hK hP [] rfl rfl hl.1 rfl (Nat.le_of_ble_eq_true rfl) dX7_init_14 ⟨Nat.le_of_ble_eq_true rfl, Nat.le_of_ble_eq_true rfl⟩) ?_
  refine rq_callp (rn_S (As := [.int (wi pr 11 (999959))]) (rest := [.ref q_1, .ref q_1, .ref h0]) ⟨hx, hb, hml, hown, hts⟩ (c_X3_safePrimeFrom l D cA (wi pr 11 (999959)) n0 hN hn.1 hn.2) (va_cwS 1 hts gX7_init_X3_safePrimeFrom rfl rfl rfl (by decide +kernel) ⟨Nat.le_of_ble_eq_true rfl, Nat.le_of_ble_eq_true rfl⟩) hK hP [] rfl rfl hl.1 rfl (Nat.le_of_ble_eq_true rfl) dX7_init_17 ⟨Nat.le_of_ble_eq_true rfl, Nat.le_of_ble_eq_true rfl⟩) (fun r_2 h_r_2 => ?_)
  rw [sp_val h_r_2 hp]
  refine wq_call0 (wc := [(q_1, .inr (1, [.int 0, .int 0, .int 0]))]) (w1 := [(q_1, .inr (1, [.int (nI p0), .int (nI q0), .int 0]))]) (ws' := [(h0, .inr (6, [.null, .null, .null, .int 0, .null, .null, .null, .null, .null, .null, .null, .null, .int 0, .int 0, .int 0, .int 0, .int 0, .int 0, .int 0, .int 0])), (q_1, .inr (1, [.int (nI p0), .int (nI q0), .int 0]))]) (wn_I (As := [.int (nI p0)]) (rest := [.ref q_1, .ref h0]) ⟨hx, hb, hml, hown, hts⟩ (c_X1_init l D cA q_1 (nI p0) (nI q0) (gq_half hq hp9)) (cwI 1 hts gX7_init_X1_init rfl rfl rfl (hts (.initialized RX1) (by decide +kernel)) (hts (.methodLink RX7 22 yX1_init) (by decide +kernel)) (hts (.instanceMethod yX1_init) (by decide +kernel)) rfl (by decide +kernel) ⟨Nat.le_of_ble_eq_true rfl, Nat.le_of_ble_eq_true rfl⟩) hK hP hD [1] rfl (by decide) rfl rfl hl.1 rfl (Nat.le_of_ble_eq_true rfl) dX7_init_20 ⟨Nat.le_of_ble_eq_true rfl, Nat.le_of_ble_eq_true rfl⟩) hP hD hS [1] [0] rfl rfl rfl rfl rfl rfl (fun H locs hP hD hS => ?_)
  refine va_putF (D := D) (ci := 6) (v := .ref q_1) (ty := (.object "MixElection$Group")) (C := RX7) (T := TX7) (N := 20) hx hb hts hin_X7 tyX7 tyX7_ok nmX7 hown hK hP hD hS 0 rfl rfl 0 (by decide) (w_RX7_25) (fun _ h9 => h9) rfl hin rfl (by decide +kernel) rfl rfl (Nat.le_of_ble_eq_true rfl) dX7_init_23 (fun H locs hP hD hS => ?_)
  have hP : va_P D vwCl [(h0, .inr (6, [.ref q_1, .null, .null, .int 0, .null, .null, .null, .null, .null, .null, .null, .null, .int 0, .int 0, .int 0, .int 0, .int 0, .int 0, .int 0, .int 0])), (q_1, .inr (1, [.int (nI p0), .int (nI q0), .int 0]))] H := hP
  have hD : va_D A [(h0, .inr (6, [.ref q_1, .null, .null, .int 0, .null, .null, .null, .null, .null, .null, .null, .null, .int 0, .int 0, .int 0, .int 0, .int 0, .int 0, .int 0, .int 0])), (q_1, .inr (1, [.int (nI p0), .int (nI q0), .int 0]))] := hD
  refine lv_aload_n hx hb dX7_init_26 rfl (lv_at hl 0 rfl) ?_
  refine lv_iload_n hx hb dX7_init_27 rfl (lv_at hl 2 rfl) ?_
  refine lv_iconst (v := 1) hx hb dX7_init_28 (by decide) ?_
  refine lv_bipush (v := 10) hx hb dX7_init_29 (by decide) ?_
  refine lv_aload_n hx hb dX7_init_31 rfl (lv_at hl 0 rfl) ?_
  refine va_get (D := D) (ci := 6) (v := .ref q_1) (C := RX7) (T := TX7) (N := 20) hx hb hts hin_X7 hown hK hP 0 rfl rfl 0 (by decide) (w_RX7_25) (fun _ h9 => h9) rfl dX7_init_32 ?_
  refine rq_call1 (v := .int (nI q0)) (rn_V (As := []) (rest := [.int 10, .int 1, .int cn, .ref h0]) (ci := 1) (fs := [.int (nI p0), .int (nI q0), .int 0]) ⟨hx, hb, hml, hown, hts⟩ (c_X1_order l D cA q_1 (nI p0) (nI q0) 0) rfl (cwV 0 hts gX7_init_X1_order rfl rfl rfl (by decide +kernel) ⟨Nat.le_of_ble_eq_true rfl, Nat.le_of_ble_eq_true rfl⟩) hK hP [1] rfl rfl rfl hl.1 rfl (Nat.le_of_ble_eq_true rfl) dX7_init_35 ⟨Nat.le_of_ble_eq_true rfl, Nat.le_of_ble_eq_true rfl⟩) ?_
  refine lv_iconst (v := 2) hx hb dX7_init_38 (by decide) ?_
  refine lv_isub hx hb dX7_init_39 ?_
  refine va_mmin hx hb (hml.trans hl.1.symm) hown (hts (.methodLink RX7 33 Lib.Math.min.name) (by decide +kernel)) (hts (.static Lib.Math.min.name) (by decide +kernel)) (hts (.initialized "java/lang/Math") (by decide +kernel)) (hts (.code Lib.Math.min.name Lib.Math.min.code 2 (some .int)) (by decide +kernel)) (Nat.le_of_ble_eq_true rfl) (Nat.le_of_ble_eq_true rfl) (Nat.le_of_ble_eq_true rfl) (Nat.le_of_ble_eq_true rfl) dX7_init_40 ?_
  refine rq_call1 (v := .int (wi cn 1 (if ((nI q0) - 2) < 10 then ((nI q0) - 2) else 10))) (rn_S (As := [.int cn, .int 1, .int (if ((nI q0) - 2) < 10 then ((nI q0) - 2) else 10)]) (rest := [.ref h0]) ⟨hx, hb, hml, hown, hts⟩ (c_X3_within l D cA cn 1 (if ((nI q0) - 2) < 10 then ((nI q0) - 2) else 10)) (va_cwS 3 hts gX7_init_X3_within rfl rfl rfl (by decide +kernel) ⟨Nat.le_of_ble_eq_true rfl, Nat.le_of_ble_eq_true rfl⟩) hK hP [] rfl rfl hl.1 rfl (Nat.le_of_ble_eq_true rfl) dX7_init_43 ⟨Nat.le_of_ble_eq_true rfl, Nat.le_of_ble_eq_true rfl⟩) ?_
  rw [hC]
  refine va_putF (D := D) (ci := 6) (v := .int (nI c0)) (ty := .int) (C := RX7) (T := TX7) (N := 20) hx hb hts hin_X7 tyX7 tyX7_ok nmX7 hown hK hP hD hS 0 rfl rfl 3 (by decide) (w_RX7_39) (fun _ h9 => h9) rfl hin rfl (by decide +kernel) rfl rfl (Nat.le_of_ble_eq_true rfl) dX7_init_46 (fun H locs hP hD hS => ?_)
  have hP : va_P D vwCl [(h0, .inr (6, [.ref q_1, .null, .null, .int (nI c0), .null, .null, .null, .null, .null, .null, .null, .null, .int 0, .int 0, .int 0, .int 0, .int 0, .int 0, .int 0, .int 0])), (q_1, .inr (1, [.int (nI p0), .int (nI q0), .int 0]))] H := hP
  have hD : va_D A [(h0, .inr (6, [.ref q_1, .null, .null, .int (nI c0), .null, .null, .null, .null, .null, .null, .null, .null, .int 0, .int 0, .int 0, .int 0, .int 0, .int 0, .int 0, .int 0])), (q_1, .inr (1, [.int (nI p0), .int (nI q0), .int 0]))] := hD
  refine lv_aload_n hx hb dX7_init_49 rfl (lv_at hl 0 rfl) ?_
  refine va_new (ci := 5) (fs := [.null, .int 0, .int 0, .null, .null, .null, .null, .int 0]) (C := RX6) (T := TX6) (N := 8) hx hb hts hin_X6 tyX6 tyX6_ok hown (hts (.classLink RX7 43 RX6) (by decide +kernel)) (hts (.instantiable RX6 8) (by decide +kernel)) (hts (.initialized RX6) (by decide +kernel)) hK hP hD hS hA rfl (fun j hj => by rcases (show j = 0 ∨ j = 1 ∨ j = 2 ∨ j = 3 ∨ j = 4 ∨ j = 5 ∨ j = 6 ∨ j = 7 by omega) with rfl | rfl | rfl | rfl | rfl | rfl | rfl | rfl <;> rfl) (Nat.le_of_ble_eq_true rfl) (Nat.le_of_ble_eq_true rfl) dX7_init_50 (fun q_3 H hP hD hS => ?_)
  refine W.widen (k := 2) (n := 11) (by omega) (by omega) ?_
  have hP : va_P D vwCl [(h0, .inr (6, [.ref q_1, .null, .null, .int (nI c0), .null, .null, .null, .null, .null, .null, .null, .null, .int 0, .int 0, .int 0, .int 0, .int 0, .int 0, .int 0, .int 0])), (q_1, .inr (1, [.int (nI p0), .int (nI q0), .int 0])), (q_3, .inr (5, [.null, .int 0, .int 0, .null, .null, .null, .null, .int 0]))] H := hP
  have hD : va_D A [(h0, .inr (6, [.ref q_1, .null, .null, .int (nI c0), .null, .null, .null, .null, .null, .null, .null, .null, .int 0, .int 0, .int 0, .int 0, .int 0, .int 0, .int 0, .int 0])), (q_1, .inr (1, [.int (nI p0), .int (nI q0), .int 0])), (q_3, .inr (5, [.null, .int 0, .int 0, .null, .null, .null, .null, .int 0]))] := hD
  refine lv_dup hx hb dX7_init_53 rfl ?_
  refine lv_aload_n hx hb dX7_init_54 rfl (lv_at hl 0 rfl) ?_
  refine va_get (D := D) (ci := 6) (v := .ref q_1) (C := RX7) (T := TX7) (N := 20) hx hb hts hin_X7 hown hK hP 0 rfl rfl 0 (by decide) (w_RX7_25) (fun _ h9 => h9) rfl dX7_init_55 ?_
  refine lv_iload_n hx hb dX7_init_58 rfl (lv_at hl 3 rfl) ?_
  refine lv_iload hx hb dX7_init_59 (lv_at hl 4 rfl) ?_
  have hPc := hP.sub (ws' := [(q_3, .inr (5, [.null, .int 0, .int 0, .null, .null, .null, .null, .int 0])), (q_1, .inr (1, [.int (nI p0), .int (nI q0), .int 0]))]) [2, 1] rfl
  have hDc := hD.sub (ws' := [(q_3, .inr (5, [.null, .int 0, .int 0, .null, .null, .null, .null, .int 0])), (q_1, .inr (1, [.int (nI p0), .int (nI q0), .int 0]))]) [2, 1] (by decide) rfl
  have hFc := va_free (wc := [(q_3, .inr (5, [.null, .int 0, .int 0, .null, .null, .null, .null, .int 0])), (q_1, .inr (1, [.int (nI p0), .int (nI q0), .int 0]))]) hD hS hA [2, 1] rfl
  refine va_callv (va_runI (As := [.ref q_1, .int tr, .int th]) (rest := [.ref q_3, .ref h0]) ⟨hx, hb, hml, hown, hts⟩ (c_X6_init l D cA q_3 q_1 (nI p0) (nI q0) 0 tr th t0 k0 (by assumption) (by assumption) (by assumption) (by assumption) H.size) (cwI 3 hts gX7_init_X6_init rfl rfl rfl (hts (.initialized RX6) (by decide +kernel)) (hts (.methodLink RX7 45 yX6_init) (by decide +kernel)) (hts (.instanceMethod yX6_init) (by decide +kernel)) rfl (by decide +kernel) ⟨Nat.le_of_ble_eq_true rfl, Nat.le_of_ble_eq_true rfl⟩) ⟨in_blind, fun U hU hW => ⟨rfl, by rw [hU], by rw [hU]; exact hPc, va_K.moved hW.alike hK, hDc.weaken (fun _ _ _ _ => trivial), hX.moved hW.alike⟩⟩ rfl rfl hl.1 rfl (lv_room (Nat.le_of_ble_eq_true rfl)) dX7_init_61 ⟨Nat.le_of_ble_eq_true rfl, Nat.le_of_ble_eq_true rfl⟩) hS (fun q _ h => hFc q h) hFc (fun u_i_4 t H1 locs ht hvm hw hB hz1 hk1 hS => ?_)
  obtain ⟨hP1, hK1, hD1⟩ := hB
  rw [ht] at hP1
  obtain _ := hw
  obtain ⟨hP, hD⟩ := va_join (wr := [(h0, .inr (6, [.ref q_1, .null, .null, .int (nI c0), .null, .null, .null, .null, .null, .null, .null, .null, .int 0, .int 0, .int 0, .int 0, .int 0, .int 0, .int 0, .int 0]))]) (w1 := [(q_3, .inr (5, [.ref q_1, .int (nI t0), .int (nI k0), .ref (u_i_4 0), .ref (u_i_4 1), .ref (u_i_4 2), .ref (u_i_4 3), .int 0])), (q_1, .inr (1, [.int (nI p0), .int (nI q0), .int 0])), ((u_i_4 0), .inl (cA 0, k0, .inl (upd (fun _ => 0) (0 : Int32).toNatClampNeg 1)))]) hP hD [2, 1] [0] rfl rfl (by decide) (by decide) hk1 hFc hP1 hD1
  generalize H1 = H at hP hS ⊢
  have hP : va_P D vwCl [(h0, .inr (6, [.ref q_1, .null, .null, .int (nI c0), .null, .null, .null, .null, .null, .null, .null, .null, .int 0, .int 0, .int 0, .int 0, .int 0, .int 0, .int 0, .int 0])), (q_3, .inr (5, [.ref q_1, .int (nI t0), .int (nI k0), .ref (u_i_4 0), .ref (u_i_4 1), .ref (u_i_4 2), .ref (u_i_4 3), .int 0])), (q_1, .inr (1, [.int (nI p0), .int (nI q0), .int 0])), ((u_i_4 0), .inl (cA 0, k0, .inl (upd (fun _ => 0) (0 : Int32).toNatClampNeg 1)))] H := hP
  have hD : va_D A [(h0, .inr (6, [.ref q_1, .null, .null, .int (nI c0), .null, .null, .null, .null, .null, .null, .null, .null, .int 0, .int 0, .int 0, .int 0, .int 0, .int 0, .int 0, .int 0])), (q_3, .inr (5, [.ref q_1, .int (nI t0), .int (nI k0), .ref (u_i_4 0), .ref (u_i_4 1), .ref (u_i_4 2), .ref (u_i_4 3), .int 0])), (q_1, .inr (1, [.int (nI p0), .int (nI q0), .int 0])), ((u_i_4 0), .inl (cA 0, k0, .inl (upd (fun _ => 0) (0 : Int32).toNatClampNeg 1)))] := hD
  refine W.widen (k := 12) (n := 274) (by omega) (by omega) ?_
  refine va_putF (D := D) (ci := 6) (v := .ref q_3) (ty := (.object "MixElection$Trustees")) (C := RX7) (T := TX7) (N := 20) hx hb hts hin_X7 tyX7 tyX7_ok nmX7 hown hK hP hD hS 0 rfl rfl 1 (by decide) (w_RX7_48) (fun _ h9 => h9) rfl hin rfl (by decide +kernel) rfl rfl (Nat.le_of_ble_eq_true rfl) dX7_init_64 (fun H locs hP hD hS => ?_)
  have hP : va_P D vwCl [(h0, .inr (6, [.ref q_1, .ref q_3, .null, .int (nI c0), .null, .null, .null, .null, .null, .null, .null, .null, .int 0, .int 0, .int 0, .int 0, .int 0, .int 0, .int 0, .int 0])), (q_3, .inr (5, [.ref q_1, .int (nI t0), .int (nI k0), .ref (u_i_4 0), .ref (u_i_4 1), .ref (u_i_4 2), .ref (u_i_4 3), .int 0])), (q_1, .inr (1, [.int (nI p0), .int (nI q0), .int 0])), ((u_i_4 0), .inl (cA 0, k0, .inl (upd (fun _ => 0) (0 : Int32).toNatClampNeg 1)))] H := hP
  have hD : va_D A [(h0, .inr (6, [.ref q_1, .ref q_3, .null, .int (nI c0), .null, .null, .null, .null, .null, .null, .null, .null, .int 0, .int 0, .int 0, .int 0, .int 0, .int 0, .int 0, .int 0])), (q_3, .inr (5, [.ref q_1, .int (nI t0), .int (nI k0), .ref (u_i_4 0), .ref (u_i_4 1), .ref (u_i_4 2), .ref (u_i_4 3), .int 0])), (q_1, .inr (1, [.int (nI p0), .int (nI q0), .int 0])), ((u_i_4 0), .inl (cA 0, k0, .inl (upd (fun _ => 0) (0 : Int32).toNatClampNeg 1)))] := hD
  refine lv_aload_n hx hb dX7_init_67 rfl (lv_at hl 0 rfl) ?_
  refine va_new (ci := 0) (fs := [.null, .null, .null, .null, .null, .int 0]) (C := RX0) (T := TX0) (N := 6) hx hb hts hin_X0 tyX0 tyX0_ok hown (hts (.classLink RX7 52 RX0) (by decide +kernel)) (hts (.instantiable RX0 6) (by decide +kernel)) (hts (.initialized RX0) (by decide +kernel)) hK hP hD hS hA rfl (fun j hj => by rcases (show j = 0 ∨ j = 1 ∨ j = 2 ∨ j = 3 ∨ j = 4 ∨ j = 5 by omega) with rfl | rfl | rfl | rfl | rfl | rfl <;> rfl) (Nat.le_of_ble_eq_true rfl) (Nat.le_of_ble_eq_true rfl) dX7_init_68 (fun q_5 H hP hD hS => ?_)
  refine W.widen (k := 13) (n := 280) (by omega) (by omega) ?_
  have hP : va_P D vwCl [(h0, .inr (6, [.ref q_1, .ref q_3, .null, .int (nI c0), .null, .null, .null, .null, .null, .null, .null, .null, .int 0, .int 0, .int 0, .int 0, .int 0, .int 0, .int 0, .int 0])), (q_3, .inr (5, [.ref q_1, .int (nI t0), .int (nI k0), .ref (u_i_4 0), .ref (u_i_4 1), .ref (u_i_4 2), .ref (u_i_4 3), .int 0])), (q_1, .inr (1, [.int (nI p0), .int (nI q0), .int 0])), ((u_i_4 0), .inl (cA 0, k0, .inl (upd (fun _ => 0) (0 : Int32).toNatClampNeg 1))), (q_5, .inr (0, [.null, .null, .null, .null, .null, .int 0]))] H := hP
  have hD : va_D A [(h0, .inr (6, [.ref q_1, .ref q_3, .null, .int (nI c0), .null, .null, .null, .null, .null, .null, .null, .null, .int 0, .int 0, .int 0, .int 0, .int 0, .int 0, .int 0, .int 0])), (q_3, .inr (5, [.ref q_1, .int (nI t0), .int (nI k0), .ref (u_i_4 0), .ref (u_i_4 1), .ref (u_i_4 2), .ref (u_i_4 3), .int 0])), (q_1, .inr (1, [.int (nI p0), .int (nI q0), .int 0])), ((u_i_4 0), .inl (cA 0, k0, .inl (upd (fun _ => 0) (0 : Int32).toNatClampNeg 1))), (q_5, .inr (0, [.null, .null, .null, .null, .null, .int 0]))] := hD
  refine lv_dup hx hb dX7_init_71 rfl ?_
  have hPc := hP.sub (ws' := [(q_5, .inr (0, [.null, .null, .null, .null, .null, .int 0]))]) [4] rfl
  have hDc := hD.sub (ws' := [(q_5, .inr (0, [.null, .null, .null, .null, .null, .int 0]))]) [4] (by decide) rfl
  have hFc := va_free (wc := [(q_5, .inr (0, [.null, .null, .null, .null, .null, .int 0]))]) hD hS hA [4] rfl
  refine va_callv (va_runI (As := []) (rest := [.ref q_5, .ref h0]) ⟨hx, hb, hml, hown, hts⟩ (c_X0_init l D cA q_5 H.size) (cwI 0 hts gX7_init_X0_init rfl rfl rfl (hts (.initialized RX0) (by decide +kernel)) (hts (.methodLink RX7 54 yX0_init) (by decide +kernel)) (hts (.instanceMethod yX0_init) (by decide +kernel)) rfl (by decide +kernel) ⟨Nat.le_of_ble_eq_true rfl, Nat.le_of_ble_eq_true rfl⟩) ⟨in_blind, fun U hU hW => ⟨rfl, by rw [hU], by rw [hU]; exact hPc, va_K.moved hW.alike hK, hDc.weaken (fun _ _ _ _ => trivial), hX.moved hW.alike⟩⟩ rfl rfl hl.1 rfl (lv_room (Nat.le_of_ble_eq_true rfl)) dX7_init_72 ⟨Nat.le_of_ble_eq_true rfl, Nat.le_of_ble_eq_true rfl⟩) hS (fun q _ h => hFc q h) hFc (fun u_i_6 t H1 locs ht hvm hw hB hz1 hk1 hS => ?_)
  obtain ⟨hP1, hK1, hD1⟩ := hB
  rw [ht] at hP1
  obtain _ := hw
  obtain ⟨hP, hD⟩ := va_join (wr := [(h0, .inr (6, [.ref q_1, .ref q_3, .null, .int (nI c0), .null, .null, .null, .null, .null, .null, .null, .null, .int 0, .int 0, .int 0, .int 0, .int 0, .int 0, .int 0, .int 0])), (q_3, .inr (5, [.ref q_1, .int (nI t0), .int (nI k0), .ref (u_i_4 0), .ref (u_i_4 1), .ref (u_i_4 2), .ref (u_i_4 3), .int 0])), (q_1, .inr (1, [.int (nI p0), .int (nI q0), .int 0])), ((u_i_4 0), .inl (cA 0, k0, .inl (upd (fun _ => 0) (0 : Int32).toNatClampNeg 1)))]) (w1 := [(q_5, .inr (0, [.ref (u_i_6 0), .ref (u_i_6 1), .ref (u_i_6 2), .ref (u_i_6 3), .ref (u_i_6 4), .int 0])), ((u_i_6 0), .inl (cA 0, 600, .inl (fun _ => 0))), ((u_i_6 1), .inl (cA 0, 600, .inl (fun _ => 0))), ((u_i_6 2), .inl (cA 0, 600, .inl (fun _ => 0))), ((u_i_6 3), .inl (cA 2, 600, .inr (.inl (fun _ => 0)))), ((u_i_6 4), .inl (cA 2, 600, .inr (.inl (fun _ => 0))))]) hP hD [4] [0, 1, 2, 3] rfl rfl (by decide) (by decide) hk1 hFc hP1 hD1
  generalize H1 = H at hP hS ⊢
  have hP : va_P D vwCl [(h0, .inr (6, [.ref q_1, .ref q_3, .null, .int (nI c0), .null, .null, .null, .null, .null, .null, .null, .null, .int 0, .int 0, .int 0, .int 0, .int 0, .int 0, .int 0, .int 0])), (q_3, .inr (5, [.ref q_1, .int (nI t0), .int (nI k0), .ref (u_i_4 0), .ref (u_i_4 1), .ref (u_i_4 2), .ref (u_i_4 3), .int 0])), (q_1, .inr (1, [.int (nI p0), .int (nI q0), .int 0])), ((u_i_4 0), .inl (cA 0, k0, .inl (upd (fun _ => 0) (0 : Int32).toNatClampNeg 1))), (q_5, .inr (0, [.ref (u_i_6 0), .ref (u_i_6 1), .ref (u_i_6 2), .ref (u_i_6 3), .ref (u_i_6 4), .int 0])), ((u_i_6 0), .inl (cA 0, 600, .inl (fun _ => 0))), ((u_i_6 1), .inl (cA 0, 600, .inl (fun _ => 0))), ((u_i_6 2), .inl (cA 0, 600, .inl (fun _ => 0))), ((u_i_6 3), .inl (cA 2, 600, .inr (.inl (fun _ => 0)))), ((u_i_6 4), .inl (cA 2, 600, .inr (.inl (fun _ => 0))))] H := hP
  have hD : va_D A [(h0, .inr (6, [.ref q_1, .ref q_3, .null, .int (nI c0), .null, .null, .null, .null, .null, .null, .null, .null, .int 0, .int 0, .int 0, .int 0, .int 0, .int 0, .int 0, .int 0])), (q_3, .inr (5, [.ref q_1, .int (nI t0), .int (nI k0), .ref (u_i_4 0), .ref (u_i_4 1), .ref (u_i_4 2), .ref (u_i_4 3), .int 0])), (q_1, .inr (1, [.int (nI p0), .int (nI q0), .int 0])), ((u_i_4 0), .inl (cA 0, k0, .inl (upd (fun _ => 0) (0 : Int32).toNatClampNeg 1))), (q_5, .inr (0, [.ref (u_i_6 0), .ref (u_i_6 1), .ref (u_i_6 2), .ref (u_i_6 3), .ref (u_i_6 4), .int 0])), ((u_i_6 0), .inl (cA 0, 600, .inl (fun _ => 0))), ((u_i_6 1), .inl (cA 0, 600, .inl (fun _ => 0))), ((u_i_6 2), .inl (cA 0, 600, .inl (fun _ => 0))), ((u_i_6 3), .inl (cA 2, 600, .inr (.inl (fun _ => 0)))), ((u_i_6 4), .inl (cA 2, 600, .inr (.inl (fun _ => 0))))] := hD
  refine W.widen (k := 18) (n := 3280) (by omega) (by omega) ?_
  refine va_putF (D := D) (ci := 6) (v := .ref q_5) (ty := (.object "MixElection$Board")) (C := RX7) (T := TX7) (N := 20) hx hb hts hin_X7 tyX7 tyX7_ok nmX7 hown hK hP hD hS 0 rfl rfl 2 (by decide) (w_RX7_55) (fun _ h9 => h9) rfl hin rfl (by decide +kernel) rfl rfl (Nat.le_of_ble_eq_true rfl) dX7_init_75 (fun H locs hP hD hS => ?_)
  have hP : va_P D vwCl [(h0, .inr (6, [.ref q_1, .ref q_3, .ref q_5, .int (nI c0), .null, .null, .null, .null, .null, .null, .null, .null, .int 0, .int 0, .int 0, .int 0, .int 0, .int 0, .int 0, .int 0])), (q_3, .inr (5, [.ref q_1, .int (nI t0), .int (nI k0), .ref (u_i_4 0), .ref (u_i_4 1), .ref (u_i_4 2), .ref (u_i_4 3), .int 0])), (q_1, .inr (1, [.int (nI p0), .int (nI q0), .int 0])), ((u_i_4 0), .inl (cA 0, k0, .inl (upd (fun _ => 0) (0 : Int32).toNatClampNeg 1))), (q_5, .inr (0, [.ref (u_i_6 0), .ref (u_i_6 1), .ref (u_i_6 2), .ref (u_i_6 3), .ref (u_i_6 4), .int 0])), ((u_i_6 0), .inl (cA 0, 600, .inl (fun _ => 0))), ((u_i_6 1), .inl (cA 0, 600, .inl (fun _ => 0))), ((u_i_6 2), .inl (cA 0, 600, .inl (fun _ => 0))), ((u_i_6 3), .inl (cA 2, 600, .inr (.inl (fun _ => 0)))), ((u_i_6 4), .inl (cA 2, 600, .inr (.inl (fun _ => 0))))] H := hP
  have hD : va_D A [(h0, .inr (6, [.ref q_1, .ref q_3, .ref q_5, .int (nI c0), .null, .null, .null, .null, .null, .null, .null, .null, .int 0, .int 0, .int 0, .int 0, .int 0, .int 0, .int 0, .int 0])), (q_3, .inr (5, [.ref q_1, .int (nI t0), .int (nI k0), .ref (u_i_4 0), .ref (u_i_4 1), .ref (u_i_4 2), .ref (u_i_4 3), .int 0])), (q_1, .inr (1, [.int (nI p0), .int (nI q0), .int 0])), ((u_i_4 0), .inl (cA 0, k0, .inl (upd (fun _ => 0) (0 : Int32).toNatClampNeg 1))), (q_5, .inr (0, [.ref (u_i_6 0), .ref (u_i_6 1), .ref (u_i_6 2), .ref (u_i_6 3), .ref (u_i_6 4), .int 0])), ((u_i_6 0), .inl (cA 0, 600, .inl (fun _ => 0))), ((u_i_6 1), .inl (cA 0, 600, .inl (fun _ => 0))), ((u_i_6 2), .inl (cA 0, 600, .inl (fun _ => 0))), ((u_i_6 3), .inl (cA 2, 600, .inr (.inl (fun _ => 0)))), ((u_i_6 4), .inl (cA 2, 600, .inr (.inl (fun _ => 0))))] := hD
  refine lv_aload_n hx hb dX7_init_78 rfl (lv_at hl 0 rfl) ?_
  refine va_new (ci := 3) (fs := [.null, .null]) (C := RX4) (T := TX4) (N := 2) hx hb hts hin_X4 tyX4 tyX4_ok hown (hts (.classLink RX7 59 RX4) (by decide +kernel)) (hts (.instantiable RX4 2) (by decide +kernel)) (hts (.initialized RX4) (by decide +kernel)) hK hP hD hS hA rfl (fun j hj => by rcases (show j = 0 ∨ j = 1 by omega) with rfl | rfl <;> rfl) (Nat.le_of_ble_eq_true rfl) (Nat.le_of_ble_eq_true rfl) dX7_init_79 (fun q_7 H hP hD hS => ?_)
  refine W.widen (k := 19) (n := 3282) (by omega) (by omega) ?_
  have hP : va_P D vwCl [(h0, .inr (6, [.ref q_1, .ref q_3, .ref q_5, .int (nI c0), .null, .null, .null, .null, .null, .null, .null, .null, .int 0, .int 0, .int 0, .int 0, .int 0, .int 0, .int 0, .int 0])), (q_3, .inr (5, [.ref q_1, .int (nI t0), .int (nI k0), .ref (u_i_4 0), .ref (u_i_4 1), .ref (u_i_4 2), .ref (u_i_4 3), .int 0])), (q_1, .inr (1, [.int (nI p0), .int (nI q0), .int 0])), ((u_i_4 0), .inl (cA 0, k0, .inl (upd (fun _ => 0) (0 : Int32).toNatClampNeg 1))), (q_5, .inr (0, [.ref (u_i_6 0), .ref (u_i_6 1), .ref (u_i_6 2), .ref (u_i_6 3), .ref (u_i_6 4), .int 0])), ((u_i_6 0), .inl (cA 0, 600, .inl (fun _ => 0))), ((u_i_6 1), .inl (cA 0, 600, .inl (fun _ => 0))), ((u_i_6 2), .inl (cA 0, 600, .inl (fun _ => 0))), ((u_i_6 3), .inl (cA 2, 600, .inr (.inl (fun _ => 0)))), ((u_i_6 4), .inl (cA 2, 600, .inr (.inl (fun _ => 0)))), (q_7, .inr (3, [.null, .null]))] H := hP
  have hD : va_D A [(h0, .inr (6, [.ref q_1, .ref q_3, .ref q_5, .int (nI c0), .null, .null, .null, .null, .null, .null, .null, .null, .int 0, .int 0, .int 0, .int 0, .int 0, .int 0, .int 0, .int 0])), (q_3, .inr (5, [.ref q_1, .int (nI t0), .int (nI k0), .ref (u_i_4 0), .ref (u_i_4 1), .ref (u_i_4 2), .ref (u_i_4 3), .int 0])), (q_1, .inr (1, [.int (nI p0), .int (nI q0), .int 0])), ((u_i_4 0), .inl (cA 0, k0, .inl (upd (fun _ => 0) (0 : Int32).toNatClampNeg 1))), (q_5, .inr (0, [.ref (u_i_6 0), .ref (u_i_6 1), .ref (u_i_6 2), .ref (u_i_6 3), .ref (u_i_6 4), .int 0])), ((u_i_6 0), .inl (cA 0, 600, .inl (fun _ => 0))), ((u_i_6 1), .inl (cA 0, 600, .inl (fun _ => 0))), ((u_i_6 2), .inl (cA 0, 600, .inl (fun _ => 0))), ((u_i_6 3), .inl (cA 2, 600, .inr (.inl (fun _ => 0)))), ((u_i_6 4), .inl (cA 2, 600, .inr (.inl (fun _ => 0)))), (q_7, .inr (3, [.null, .null]))] := hD
  refine lv_dup hx hb dX7_init_82 rfl ?_
  have hPc := hP.sub (ws' := [(q_7, .inr (3, [.null, .null]))]) [10] rfl
  have hDc := hD.sub (ws' := [(q_7, .inr (3, [.null, .null]))]) [10] (by decide) rfl
  have hFc := va_free (wc := [(q_7, .inr (3, [.null, .null]))]) hD hS hA [10] rfl
  refine va_callv (va_runI (As := []) (rest := [.ref q_7, .ref h0]) ⟨hx, hb, hml, hown, hts⟩ (c_X4_init l D cA q_7 H.size) (cwI 0 hts gX7_init_X4_init rfl rfl rfl (hts (.initialized RX4) (by decide +kernel)) (hts (.methodLink RX7 61 yX4_init) (by decide +kernel)) (hts (.instanceMethod yX4_init) (by decide +kernel)) rfl (by decide +kernel) ⟨Nat.le_of_ble_eq_true rfl, Nat.le_of_ble_eq_true rfl⟩) ⟨in_blind, fun U hU hW => ⟨rfl, by rw [hU], by rw [hU]; exact hPc, va_K.moved hW.alike hK, hDc.weaken (fun _ _ _ _ => trivial), hX.moved hW.alike⟩⟩ rfl rfl hl.1 rfl (lv_room (Nat.le_of_ble_eq_true rfl)) dX7_init_83 ⟨Nat.le_of_ble_eq_true rfl, Nat.le_of_ble_eq_true rfl⟩) hS (fun q _ h => hFc q h) hFc (fun u t H1 locs ht hvm hw hB hz1 hk1 hS => ?_)
  obtain ⟨a_i_8, b_i_8⟩ := u
  obtain ⟨hP1, hK1, hD1⟩ := hB
  rw [ht] at hP1
  obtain _ := hw
  obtain ⟨hP, hD⟩ := va_join (wr := [(h0, .inr (6, [.ref q_1, .ref q_3, .ref q_5, .int (nI c0), .null, .null, .null, .null, .null, .null, .null, .null, .int 0, .int 0, .int 0, .int 0, .int 0, .int 0, .int 0, .int 0])), (q_3, .inr (5, [.ref q_1, .int (nI t0), .int (nI k0), .ref (u_i_4 0), .ref (u_i_4 1), .ref (u_i_4 2), .ref (u_i_4 3), .int 0])), (q_1, .inr (1, [.int (nI p0), .int (nI q0), .int 0])), ((u_i_4 0), .inl (cA 0, k0, .inl (upd (fun _ => 0) (0 : Int32).toNatClampNeg 1))), (q_5, .inr (0, [.ref (u_i_6 0), .ref (u_i_6 1), .ref (u_i_6 2), .ref (u_i_6 3), .ref (u_i_6 4), .int 0])), ((u_i_6 0), .inl (cA 0, 600, .inl (fun _ => 0))), ((u_i_6 1), .inl (cA 0, 600, .inl (fun _ => 0))), ((u_i_6 2), .inl (cA 0, 600, .inl (fun _ => 0))), ((u_i_6 3), .inl (cA 2, 600, .inr (.inl (fun _ => 0)))), ((u_i_6 4), .inl (cA 2, 600, .inr (.inl (fun _ => 0))))]) (w1 := [(q_7, .inr (3, [.ref a_i_8, .ref b_i_8])), (a_i_8, .inl (cA 0, 40, .inl (fun _ => -1))), (b_i_8, .inl (cA 0, 40, .inl (fun _ => -1)))]) hP hD [10] [0, 1, 2, 3, 4, 5, 6, 7, 8, 9] rfl rfl (by decide) (by decide) hk1 hFc hP1 hD1
  generalize H1 = H at hP hS ⊢
  have hP : va_P D vwCl [(h0, .inr (6, [.ref q_1, .ref q_3, .ref q_5, .int (nI c0), .null, .null, .null, .null, .null, .null, .null, .null, .int 0, .int 0, .int 0, .int 0, .int 0, .int 0, .int 0, .int 0])), (q_3, .inr (5, [.ref q_1, .int (nI t0), .int (nI k0), .ref (u_i_4 0), .ref (u_i_4 1), .ref (u_i_4 2), .ref (u_i_4 3), .int 0])), (q_1, .inr (1, [.int (nI p0), .int (nI q0), .int 0])), ((u_i_4 0), .inl (cA 0, k0, .inl (upd (fun _ => 0) (0 : Int32).toNatClampNeg 1))), (q_5, .inr (0, [.ref (u_i_6 0), .ref (u_i_6 1), .ref (u_i_6 2), .ref (u_i_6 3), .ref (u_i_6 4), .int 0])), ((u_i_6 0), .inl (cA 0, 600, .inl (fun _ => 0))), ((u_i_6 1), .inl (cA 0, 600, .inl (fun _ => 0))), ((u_i_6 2), .inl (cA 0, 600, .inl (fun _ => 0))), ((u_i_6 3), .inl (cA 2, 600, .inr (.inl (fun _ => 0)))), ((u_i_6 4), .inl (cA 2, 600, .inr (.inl (fun _ => 0)))), (q_7, .inr (3, [.ref a_i_8, .ref b_i_8])), (a_i_8, .inl (cA 0, 40, .inl (fun _ => -1))), (b_i_8, .inl (cA 0, 40, .inl (fun _ => -1)))] H := hP
  have hD : va_D A [(h0, .inr (6, [.ref q_1, .ref q_3, .ref q_5, .int (nI c0), .null, .null, .null, .null, .null, .null, .null, .null, .int 0, .int 0, .int 0, .int 0, .int 0, .int 0, .int 0, .int 0])), (q_3, .inr (5, [.ref q_1, .int (nI t0), .int (nI k0), .ref (u_i_4 0), .ref (u_i_4 1), .ref (u_i_4 2), .ref (u_i_4 3), .int 0])), (q_1, .inr (1, [.int (nI p0), .int (nI q0), .int 0])), ((u_i_4 0), .inl (cA 0, k0, .inl (upd (fun _ => 0) (0 : Int32).toNatClampNeg 1))), (q_5, .inr (0, [.ref (u_i_6 0), .ref (u_i_6 1), .ref (u_i_6 2), .ref (u_i_6 3), .ref (u_i_6 4), .int 0])), ((u_i_6 0), .inl (cA 0, 600, .inl (fun _ => 0))), ((u_i_6 1), .inl (cA 0, 600, .inl (fun _ => 0))), ((u_i_6 2), .inl (cA 0, 600, .inl (fun _ => 0))), ((u_i_6 3), .inl (cA 2, 600, .inr (.inl (fun _ => 0)))), ((u_i_6 4), .inl (cA 2, 600, .inr (.inl (fun _ => 0)))), (q_7, .inr (3, [.ref a_i_8, .ref b_i_8])), (a_i_8, .inl (cA 0, 40, .inl (fun _ => -1))), (b_i_8, .inl (cA 0, 40, .inl (fun _ => -1)))] := hD
  refine W.widen (k := 21) (n := 3362) (by omega) (by omega) ?_
  refine va_putF (D := D) (ci := 6) (v := .ref q_7) (ty := (.object "MixElection$Pairs")) (C := RX7) (T := TX7) (N := 20) hx hb hts hin_X7 tyX7 tyX7_ok nmX7 hown hK hP hD hS 0 rfl rfl 4 (by decide) (w_RX7_62) (fun _ h9 => h9) rfl hin rfl (by decide +kernel) rfl rfl (Nat.le_of_ble_eq_true rfl) dX7_init_86 (fun H locs hP hD hS => ?_)
  have hP : va_P D vwCl [(h0, .inr (6, [.ref q_1, .ref q_3, .ref q_5, .int (nI c0), .ref q_7, .null, .null, .null, .null, .null, .null, .null, .int 0, .int 0, .int 0, .int 0, .int 0, .int 0, .int 0, .int 0])), (q_3, .inr (5, [.ref q_1, .int (nI t0), .int (nI k0), .ref (u_i_4 0), .ref (u_i_4 1), .ref (u_i_4 2), .ref (u_i_4 3), .int 0])), (q_1, .inr (1, [.int (nI p0), .int (nI q0), .int 0])), ((u_i_4 0), .inl (cA 0, k0, .inl (upd (fun _ => 0) (0 : Int32).toNatClampNeg 1))), (q_5, .inr (0, [.ref (u_i_6 0), .ref (u_i_6 1), .ref (u_i_6 2), .ref (u_i_6 3), .ref (u_i_6 4), .int 0])), ((u_i_6 0), .inl (cA 0, 600, .inl (fun _ => 0))), ((u_i_6 1), .inl (cA 0, 600, .inl (fun _ => 0))), ((u_i_6 2), .inl (cA 0, 600, .inl (fun _ => 0))), ((u_i_6 3), .inl (cA 2, 600, .inr (.inl (fun _ => 0)))), ((u_i_6 4), .inl (cA 2, 600, .inr (.inl (fun _ => 0)))), (q_7, .inr (3, [.ref a_i_8, .ref b_i_8])), (a_i_8, .inl (cA 0, 40, .inl (fun _ => -1))), (b_i_8, .inl (cA 0, 40, .inl (fun _ => -1)))] H := hP
  have hD : va_D A [(h0, .inr (6, [.ref q_1, .ref q_3, .ref q_5, .int (nI c0), .ref q_7, .null, .null, .null, .null, .null, .null, .null, .int 0, .int 0, .int 0, .int 0, .int 0, .int 0, .int 0, .int 0])), (q_3, .inr (5, [.ref q_1, .int (nI t0), .int (nI k0), .ref (u_i_4 0), .ref (u_i_4 1), .ref (u_i_4 2), .ref (u_i_4 3), .int 0])), (q_1, .inr (1, [.int (nI p0), .int (nI q0), .int 0])), ((u_i_4 0), .inl (cA 0, k0, .inl (upd (fun _ => 0) (0 : Int32).toNatClampNeg 1))), (q_5, .inr (0, [.ref (u_i_6 0), .ref (u_i_6 1), .ref (u_i_6 2), .ref (u_i_6 3), .ref (u_i_6 4), .int 0])), ((u_i_6 0), .inl (cA 0, 600, .inl (fun _ => 0))), ((u_i_6 1), .inl (cA 0, 600, .inl (fun _ => 0))), ((u_i_6 2), .inl (cA 0, 600, .inl (fun _ => 0))), ((u_i_6 3), .inl (cA 2, 600, .inr (.inl (fun _ => 0)))), ((u_i_6 4), .inl (cA 2, 600, .inr (.inl (fun _ => 0)))), (q_7, .inr (3, [.ref a_i_8, .ref b_i_8])), (a_i_8, .inl (cA 0, 40, .inl (fun _ => -1))), (b_i_8, .inl (cA 0, 40, .inl (fun _ => -1)))] := hD
  have hP := hP.sub (ws' := [(h0, .inr (6, [.ref q_1, .ref q_3, .ref q_5, .int (nI c0), .ref q_7, .null, .null, .null, .null, .null, .null, .null, .int 0, .int 0, .int 0, .int 0, .int 0, .int 0, .int 0, .int 0])), (q_3, .inr (5, [.ref q_1, .int (nI t0), .int (nI k0), .ref (u_i_4 0), .ref (u_i_4 1), .ref (u_i_4 2), .ref (u_i_4 3), .int 0])), (q_1, .inr (1, [.int (nI p0), .int (nI q0), .int 0])), ((u_i_4 0), .inl (cA 0, k0, .inl (upd (fun _ => 0) (0 : Int32).toNatClampNeg 1))), (q_5, .inr (0, [.ref (u_i_6 0), .ref (u_i_6 1), .ref (u_i_6 2), .ref (u_i_6 3), .ref (u_i_6 4), .int 0])), ((u_i_6 0), .inl (cA 0, 600, .inl (fun _ => 0))), ((u_i_6 1), .inl (cA 0, 600, .inl (fun _ => 0))), ((u_i_6 2), .inl (cA 0, 600, .inl (fun _ => 0))), ((u_i_6 3), .inl (cA 2, 600, .inr (.inl (fun _ => 0)))), ((u_i_6 4), .inl (cA 2, 600, .inr (.inl (fun _ => 0))))]) [0, 1, 2, 3, 4, 5, 6, 7, 8, 9] rfl
  have hD := hD.sub (ws' := [(h0, .inr (6, [.ref q_1, .ref q_3, .ref q_5, .int (nI c0), .ref q_7, .null, .null, .null, .null, .null, .null, .null, .int 0, .int 0, .int 0, .int 0, .int 0, .int 0, .int 0, .int 0])), (q_3, .inr (5, [.ref q_1, .int (nI t0), .int (nI k0), .ref (u_i_4 0), .ref (u_i_4 1), .ref (u_i_4 2), .ref (u_i_4 3), .int 0])), (q_1, .inr (1, [.int (nI p0), .int (nI q0), .int 0])), ((u_i_4 0), .inl (cA 0, k0, .inl (upd (fun _ => 0) (0 : Int32).toNatClampNeg 1))), (q_5, .inr (0, [.ref (u_i_6 0), .ref (u_i_6 1), .ref (u_i_6 2), .ref (u_i_6 3), .ref (u_i_6 4), .int 0])), ((u_i_6 0), .inl (cA 0, 600, .inl (fun _ => 0))), ((u_i_6 1), .inl (cA 0, 600, .inl (fun _ => 0))), ((u_i_6 2), .inl (cA 0, 600, .inl (fun _ => 0))), ((u_i_6 3), .inl (cA 2, 600, .inr (.inl (fun _ => 0)))), ((u_i_6 4), .inl (cA 2, 600, .inr (.inl (fun _ => 0))))]) [0, 1, 2, 3, 4, 5, 6, 7, 8, 9] (by decide) rfl
  refine lv_aload_n hx hb dX7_init_89 rfl (lv_at hl 0 rfl) ?_
  refine lv_iconst (v := 5) hx hb dX7_init_90 (by decide) ?_
  refine ka_newq (C := "MixElection$Pairs") (N' := 5) (n := 5) hx hb hown (hts (.classLink RX7 59 "MixElection$Pairs") (by decide +kernel)) hX.2 hK hP hD hS hA 3 rfl (by decide) rfl (by decide) (Nat.le_of_ble_eq_true rfl) (Nat.le_of_ble_eq_true rfl) dX7_init_91 (fun q_9 H hP hD hS => ?_)
  refine W.widen (k := 22) (n := 3367) (by omega) (by omega) ?_
  have hP : va_P D vwCl [(h0, .inr (6, [.ref q_1, .ref q_3, .ref q_5, .int (nI c0), .ref q_7, .null, .null, .null, .null, .null, .null, .null, .int 0, .int 0, .int 0, .int 0, .int 0, .int 0, .int 0, .int 0])), (q_3, .inr (5, [.ref q_1, .int (nI t0), .int (nI k0), .ref (u_i_4 0), .ref (u_i_4 1), .ref (u_i_4 2), .ref (u_i_4 3), .int 0])), (q_1, .inr (1, [.int (nI p0), .int (nI q0), .int 0])), ((u_i_4 0), .inl (cA 0, k0, .inl (upd (fun _ => 0) (0 : Int32).toNatClampNeg 1))), (q_5, .inr (0, [.ref (u_i_6 0), .ref (u_i_6 1), .ref (u_i_6 2), .ref (u_i_6 3), .ref (u_i_6 4), .int 0])), ((u_i_6 0), .inl (cA 0, 600, .inl (fun _ => 0))), ((u_i_6 1), .inl (cA 0, 600, .inl (fun _ => 0))), ((u_i_6 2), .inl (cA 0, 600, .inl (fun _ => 0))), ((u_i_6 3), .inl (cA 2, 600, .inr (.inl (fun _ => 0)))), ((u_i_6 4), .inl (cA 2, 600, .inr (.inl (fun _ => 0)))), (q_9, .inl (cA 3, 5, .inr (.inr (.inr (.inr (fun _ => none))))))] H := hP
  have hD : va_D A [(h0, .inr (6, [.ref q_1, .ref q_3, .ref q_5, .int (nI c0), .ref q_7, .null, .null, .null, .null, .null, .null, .null, .int 0, .int 0, .int 0, .int 0, .int 0, .int 0, .int 0, .int 0])), (q_3, .inr (5, [.ref q_1, .int (nI t0), .int (nI k0), .ref (u_i_4 0), .ref (u_i_4 1), .ref (u_i_4 2), .ref (u_i_4 3), .int 0])), (q_1, .inr (1, [.int (nI p0), .int (nI q0), .int 0])), ((u_i_4 0), .inl (cA 0, k0, .inl (upd (fun _ => 0) (0 : Int32).toNatClampNeg 1))), (q_5, .inr (0, [.ref (u_i_6 0), .ref (u_i_6 1), .ref (u_i_6 2), .ref (u_i_6 3), .ref (u_i_6 4), .int 0])), ((u_i_6 0), .inl (cA 0, 600, .inl (fun _ => 0))), ((u_i_6 1), .inl (cA 0, 600, .inl (fun _ => 0))), ((u_i_6 2), .inl (cA 0, 600, .inl (fun _ => 0))), ((u_i_6 3), .inl (cA 2, 600, .inr (.inl (fun _ => 0)))), ((u_i_6 4), .inl (cA 2, 600, .inr (.inl (fun _ => 0)))), (q_9, .inl (cA 3, 5, .inr (.inr (.inr (.inr (fun _ => none))))))] := hD
  refine va_putF (D := D) (ci := 6) (v := .ref q_9) (ty := (.array (.object "MixElection$Pairs"))) (C := RX7) (T := TX7) (N := 20) hx hb hts hin_X7 tyX7 tyX7_ok nmX7 hown hK hP hD hS 0 rfl rfl 5 (by decide) (w_RX7_66) (fun _ h9 => h9) rfl hin rfl (by decide +kernel) rfl rfl (Nat.le_of_ble_eq_true rfl) dX7_init_94 (fun H locs hP hD hS => ?_)
  have hP : va_P D vwCl [(h0, .inr (6, [.ref q_1, .ref q_3, .ref q_5, .int (nI c0), .ref q_7, .ref q_9, .null, .null, .null, .null, .null, .null, .int 0, .int 0, .int 0, .int 0, .int 0, .int 0, .int 0, .int 0])), (q_3, .inr (5, [.ref q_1, .int (nI t0), .int (nI k0), .ref (u_i_4 0), .ref (u_i_4 1), .ref (u_i_4 2), .ref (u_i_4 3), .int 0])), (q_1, .inr (1, [.int (nI p0), .int (nI q0), .int 0])), ((u_i_4 0), .inl (cA 0, k0, .inl (upd (fun _ => 0) (0 : Int32).toNatClampNeg 1))), (q_5, .inr (0, [.ref (u_i_6 0), .ref (u_i_6 1), .ref (u_i_6 2), .ref (u_i_6 3), .ref (u_i_6 4), .int 0])), ((u_i_6 0), .inl (cA 0, 600, .inl (fun _ => 0))), ((u_i_6 1), .inl (cA 0, 600, .inl (fun _ => 0))), ((u_i_6 2), .inl (cA 0, 600, .inl (fun _ => 0))), ((u_i_6 3), .inl (cA 2, 600, .inr (.inl (fun _ => 0)))), ((u_i_6 4), .inl (cA 2, 600, .inr (.inl (fun _ => 0)))), (q_9, .inl (cA 3, 5, .inr (.inr (.inr (.inr (fun _ => none))))))] H := hP
  have hD : va_D A [(h0, .inr (6, [.ref q_1, .ref q_3, .ref q_5, .int (nI c0), .ref q_7, .ref q_9, .null, .null, .null, .null, .null, .null, .int 0, .int 0, .int 0, .int 0, .int 0, .int 0, .int 0, .int 0])), (q_3, .inr (5, [.ref q_1, .int (nI t0), .int (nI k0), .ref (u_i_4 0), .ref (u_i_4 1), .ref (u_i_4 2), .ref (u_i_4 3), .int 0])), (q_1, .inr (1, [.int (nI p0), .int (nI q0), .int 0])), ((u_i_4 0), .inl (cA 0, k0, .inl (upd (fun _ => 0) (0 : Int32).toNatClampNeg 1))), (q_5, .inr (0, [.ref (u_i_6 0), .ref (u_i_6 1), .ref (u_i_6 2), .ref (u_i_6 3), .ref (u_i_6 4), .int 0])), ((u_i_6 0), .inl (cA 0, 600, .inl (fun _ => 0))), ((u_i_6 1), .inl (cA 0, 600, .inl (fun _ => 0))), ((u_i_6 2), .inl (cA 0, 600, .inl (fun _ => 0))), ((u_i_6 3), .inl (cA 2, 600, .inr (.inl (fun _ => 0)))), ((u_i_6 4), .inl (cA 2, 600, .inr (.inl (fun _ => 0)))), (q_9, .inl (cA 3, 5, .inr (.inr (.inr (.inr (fun _ => none))))))] := hD
  refine lv_iconst (v := 0) hx hb dX7_init_97 (by decide) ?_
  refine lv_istore (lv' := [(5, .int 0), (0, .ref h0), (1, .int pr), (2, .int cn), (3, .int tr), (4, .int th)]) hx hb dX7_init_98 hl (by decide) rfl (fun ls hl => ?_)
  refine lv_iload hx hb dX7_init_100 (lv_at hl 0 rfl) ?_
  refine lv_aload_n hx hb dX7_init_102 rfl (lv_at hl 1 rfl) ?_
  refine va_get (D := D) (ci := 6) (v := .ref q_9) (C := RX7) (T := TX7) (N := 20) hx hb hts hin_X7 hown hK hP 0 rfl rfl 5 (by decide) (w_RX7_66) (fun _ h9 => h9) rfl dX7_init_103 ?_
  refine va_alen (v := 5) hx hb hK hP 10 3 rfl rfl rfl dX7_init_106 ?_
  refine lv_icmp_ge (tgt := 130) hx hb dX7_init_107 (by decide) (fun c_107 => ?_) (fun c_107 => ?_)
  · exact absurd c_107 (by decide)
  · skip
    refine lv_aload_n hx hb dX7_init_110 rfl (lv_at hl 1 rfl) ?_
    refine va_get (D := D) (ci := 6) (v := .ref q_9) (C := RX7) (T := TX7) (N := 20) hx hb hts hin_X7 hown hK hP 0 rfl rfl 5 (by decide) (w_RX7_66) (fun _ h9 => h9) rfl dX7_init_111 ?_
    refine lv_iload hx hb dX7_init_114 (lv_at hl 0 rfl) ?_
    refine va_new (ci := 3) (fs := [.null, .null]) (C := RX4) (T := TX4) (N := 2) hx hb hts hin_X4 tyX4 tyX4_ok hown (hts (.classLink RX7 59 RX4) (by decide +kernel)) (hts (.instantiable RX4 2) (by decide +kernel)) (hts (.initialized RX4) (by decide +kernel)) hK hP hD hS hA rfl (fun j hj => by rcases (show j = 0 ∨ j = 1 by omega) with rfl | rfl <;> rfl) (Nat.le_of_ble_eq_true rfl) (Nat.le_of_ble_eq_true rfl) dX7_init_116 (fun q_10 H hP hD hS => ?_)
    refine W.widen (k := 23) (n := 3369) (by omega) (by omega) ?_
    have hP : va_P D vwCl [(h0, .inr (6, [.ref q_1, .ref q_3, .ref q_5, .int (nI c0), .ref q_7, .ref q_9, .null, .null, .null, .null, .null, .null, .int 0, .int 0, .int 0, .int 0, .int 0, .int 0, .int 0, .int 0])), (q_3, .inr (5, [.ref q_1, .int (nI t0), .int (nI k0), .ref (u_i_4 0), .ref (u_i_4 1), .ref (u_i_4 2), .ref (u_i_4 3), .int 0])), (q_1, .inr (1, [.int (nI p0), .int (nI q0), .int 0])), ((u_i_4 0), .inl (cA 0, k0, .inl (upd (fun _ => 0) (0 : Int32).toNatClampNeg 1))), (q_5, .inr (0, [.ref (u_i_6 0), .ref (u_i_6 1), .ref (u_i_6 2), .ref (u_i_6 3), .ref (u_i_6 4), .int 0])), ((u_i_6 0), .inl (cA 0, 600, .inl (fun _ => 0))), ((u_i_6 1), .inl (cA 0, 600, .inl (fun _ => 0))), ((u_i_6 2), .inl (cA 0, 600, .inl (fun _ => 0))), ((u_i_6 3), .inl (cA 2, 600, .inr (.inl (fun _ => 0)))), ((u_i_6 4), .inl (cA 2, 600, .inr (.inl (fun _ => 0)))), (q_9, .inl (cA 3, 5, .inr (.inr (.inr (.inr (fun _ => none)))))), (q_10, .inr (3, [.null, .null]))] H := hP
    have hD : va_D A [(h0, .inr (6, [.ref q_1, .ref q_3, .ref q_5, .int (nI c0), .ref q_7, .ref q_9, .null, .null, .null, .null, .null, .null, .int 0, .int 0, .int 0, .int 0, .int 0, .int 0, .int 0, .int 0])), (q_3, .inr (5, [.ref q_1, .int (nI t0), .int (nI k0), .ref (u_i_4 0), .ref (u_i_4 1), .ref (u_i_4 2), .ref (u_i_4 3), .int 0])), (q_1, .inr (1, [.int (nI p0), .int (nI q0), .int 0])), ((u_i_4 0), .inl (cA 0, k0, .inl (upd (fun _ => 0) (0 : Int32).toNatClampNeg 1))), (q_5, .inr (0, [.ref (u_i_6 0), .ref (u_i_6 1), .ref (u_i_6 2), .ref (u_i_6 3), .ref (u_i_6 4), .int 0])), ((u_i_6 0), .inl (cA 0, 600, .inl (fun _ => 0))), ((u_i_6 1), .inl (cA 0, 600, .inl (fun _ => 0))), ((u_i_6 2), .inl (cA 0, 600, .inl (fun _ => 0))), ((u_i_6 3), .inl (cA 2, 600, .inr (.inl (fun _ => 0)))), ((u_i_6 4), .inl (cA 2, 600, .inr (.inl (fun _ => 0)))), (q_9, .inl (cA 3, 5, .inr (.inr (.inr (.inr (fun _ => none)))))), (q_10, .inr (3, [.null, .null]))] := hD
    refine lv_dup hx hb dX7_init_119 rfl ?_
    have hPc := hP.sub (ws' := [(q_10, .inr (3, [.null, .null]))]) [11] rfl
    have hDc := hD.sub (ws' := [(q_10, .inr (3, [.null, .null]))]) [11] (by decide) rfl
    have hFc := va_free (wc := [(q_10, .inr (3, [.null, .null]))]) hD hS hA [11] rfl
    refine va_callv (va_runI (As := []) (rest := [.ref q_10, .int 0, .ref q_9]) ⟨hx, hb, hml, hown, hts⟩ (c_X4_init l D cA q_10 H.size) (cwI 0 hts gX7_init_X4_init rfl rfl rfl (hts (.initialized RX4) (by decide +kernel)) (hts (.methodLink RX7 61 yX4_init) (by decide +kernel)) (hts (.instanceMethod yX4_init) (by decide +kernel)) rfl (by decide +kernel) ⟨Nat.le_of_ble_eq_true rfl, Nat.le_of_ble_eq_true rfl⟩) ⟨in_blind, fun U hU hW => ⟨rfl, by rw [hU], by rw [hU]; exact hPc, va_K.moved hW.alike hK, hDc.weaken (fun _ _ _ _ => trivial), hX.moved hW.alike⟩⟩ rfl rfl hl.1 rfl (lv_room (Nat.le_of_ble_eq_true rfl)) dX7_init_120 ⟨Nat.le_of_ble_eq_true rfl, Nat.le_of_ble_eq_true rfl⟩) hS (fun q _ h => hFc q h) hFc (fun u t H1 locs ht hvm hw hB hz1 hk1 hS => ?_)
    obtain ⟨a_i_11, b_i_11⟩ := u
    obtain ⟨hP1, hK1, hD1⟩ := hB
    rw [ht] at hP1
    obtain _ := hw
    obtain ⟨hP, hD⟩ := va_join (wr := [(h0, .inr (6, [.ref q_1, .ref q_3, .ref q_5, .int (nI c0), .ref q_7, .ref q_9, .null, .null, .null, .null, .null, .null, .int 0, .int 0, .int 0, .int 0, .int 0, .int 0, .int 0, .int 0])), (q_3, .inr (5, [.ref q_1, .int (nI t0), .int (nI k0), .ref (u_i_4 0), .ref (u_i_4 1), .ref (u_i_4 2), .ref (u_i_4 3), .int 0])), (q_1, .inr (1, [.int (nI p0), .int (nI q0), .int 0])), ((u_i_4 0), .inl (cA 0, k0, .inl (upd (fun _ => 0) (0 : Int32).toNatClampNeg 1))), (q_5, .inr (0, [.ref (u_i_6 0), .ref (u_i_6 1), .ref (u_i_6 2), .ref (u_i_6 3), .ref (u_i_6 4), .int 0])), ((u_i_6 0), .inl (cA 0, 600, .inl (fun _ => 0))), ((u_i_6 1), .inl (cA 0, 600, .inl (fun _ => 0))), ((u_i_6 2), .inl (cA 0, 600, .inl (fun _ => 0))), ((u_i_6 3), .inl (cA 2, 600, .inr (.inl (fun _ => 0)))), ((u_i_6 4), .inl (cA 2, 600, .inr (.inl (fun _ => 0)))), (q_9, .inl (cA 3, 5, .inr (.inr (.inr (.inr (fun _ => none))))))]) (w1 := [(q_10, .inr (3, [.ref a_i_11, .ref b_i_11])), (a_i_11, .inl (cA 0, 40, .inl (fun _ => -1))), (b_i_11, .inl (cA 0, 40, .inl (fun _ => -1)))]) hP hD [11] [0, 1, 2, 3, 4, 5, 6, 7, 8, 9, 10] rfl rfl (by decide) (by decide) hk1 hFc hP1 hD1
    generalize H1 = H at hP hS ⊢
    have hP : va_P D vwCl [(h0, .inr (6, [.ref q_1, .ref q_3, .ref q_5, .int (nI c0), .ref q_7, .ref q_9, .null, .null, .null, .null, .null, .null, .int 0, .int 0, .int 0, .int 0, .int 0, .int 0, .int 0, .int 0])), (q_3, .inr (5, [.ref q_1, .int (nI t0), .int (nI k0), .ref (u_i_4 0), .ref (u_i_4 1), .ref (u_i_4 2), .ref (u_i_4 3), .int 0])), (q_1, .inr (1, [.int (nI p0), .int (nI q0), .int 0])), ((u_i_4 0), .inl (cA 0, k0, .inl (upd (fun _ => 0) (0 : Int32).toNatClampNeg 1))), (q_5, .inr (0, [.ref (u_i_6 0), .ref (u_i_6 1), .ref (u_i_6 2), .ref (u_i_6 3), .ref (u_i_6 4), .int 0])), ((u_i_6 0), .inl (cA 0, 600, .inl (fun _ => 0))), ((u_i_6 1), .inl (cA 0, 600, .inl (fun _ => 0))), ((u_i_6 2), .inl (cA 0, 600, .inl (fun _ => 0))), ((u_i_6 3), .inl (cA 2, 600, .inr (.inl (fun _ => 0)))), ((u_i_6 4), .inl (cA 2, 600, .inr (.inl (fun _ => 0)))), (q_9, .inl (cA 3, 5, .inr (.inr (.inr (.inr (fun _ => none)))))), (q_10, .inr (3, [.ref a_i_11, .ref b_i_11])), (a_i_11, .inl (cA 0, 40, .inl (fun _ => -1))), (b_i_11, .inl (cA 0, 40, .inl (fun _ => -1)))] H := hP
    have hD : va_D A [(h0, .inr (6, [.ref q_1, .ref q_3, .ref q_5, .int (nI c0), .ref q_7, .ref q_9, .null, .null, .null, .null, .null, .null, .int 0, .int 0, .int 0, .int 0, .int 0, .int 0, .int 0, .int 0])), (q_3, .inr (5, [.ref q_1, .int (nI t0), .int (nI k0), .ref (u_i_4 0), .ref (u_i_4 1), .ref (u_i_4 2), .ref (u_i_4 3), .int 0])), (q_1, .inr (1, [.int (nI p0), .int (nI q0), .int 0])), ((u_i_4 0), .inl (cA 0, k0, .inl (upd (fun _ => 0) (0 : Int32).toNatClampNeg 1))), (q_5, .inr (0, [.ref (u_i_6 0), .ref (u_i_6 1), .ref (u_i_6 2), .ref (u_i_6 3), .ref (u_i_6 4), .int 0])), ((u_i_6 0), .inl (cA 0, 600, .inl (fun _ => 0))), ((u_i_6 1), .inl (cA 0, 600, .inl (fun _ => 0))), ((u_i_6 2), .inl (cA 0, 600, .inl (fun _ => 0))), ((u_i_6 3), .inl (cA 2, 600, .inr (.inl (fun _ => 0)))), ((u_i_6 4), .inl (cA 2, 600, .inr (.inl (fun _ => 0)))), (q_9, .inl (cA 3, 5, .inr (.inr (.inr (.inr (fun _ => none)))))), (q_10, .inr (3, [.ref a_i_11, .ref b_i_11])), (a_i_11, .inl (cA 0, 40, .inl (fun _ => -1))), (b_i_11, .inl (cA 0, 40, .inl (fun _ => -1)))] := hD
    refine W.widen (k := 25) (n := 3449) (by omega) (by omega) ?_
    refine va_astq (r := (RX4, TX4, 2)) hx hb hK hP hD hS 10 3 11 3 rfl rfl rfl rfl (vp_in_nI (n := 0) (by decide) (by decide)) dX7_init_123 (fun H locs hP hD hS => ?_)
    have hP : va_P D vwCl [(h0, .inr (6, [.ref q_1, .ref q_3, .ref q_5, .int (nI c0), .ref q_7, .ref q_9, .null, .null, .null, .null, .null, .null, .int 0, .int 0, .int 0, .int 0, .int 0, .int 0, .int 0, .int 0])), (q_3, .inr (5, [.ref q_1, .int (nI t0), .int (nI k0), .ref (u_i_4 0), .ref (u_i_4 1), .ref (u_i_4 2), .ref (u_i_4 3), .int 0])), (q_1, .inr (1, [.int (nI p0), .int (nI q0), .int 0])), ((u_i_4 0), .inl (cA 0, k0, .inl (upd (fun _ => 0) (0 : Int32).toNatClampNeg 1))), (q_5, .inr (0, [.ref (u_i_6 0), .ref (u_i_6 1), .ref (u_i_6 2), .ref (u_i_6 3), .ref (u_i_6 4), .int 0])), ((u_i_6 0), .inl (cA 0, 600, .inl (fun _ => 0))), ((u_i_6 1), .inl (cA 0, 600, .inl (fun _ => 0))), ((u_i_6 2), .inl (cA 0, 600, .inl (fun _ => 0))), ((u_i_6 3), .inl (cA 2, 600, .inr (.inl (fun _ => 0)))), ((u_i_6 4), .inl (cA 2, 600, .inr (.inl (fun _ => 0)))), (q_9, .inl (cA 3, 5, .inr (.inr (.inr (.inr (va_up (fun _ => none) (0 : Int32).toNatClampNeg (some q_10))))))), (q_10, .inr (3, [.ref a_i_11, .ref b_i_11])), (a_i_11, .inl (cA 0, 40, .inl (fun _ => -1))), (b_i_11, .inl (cA 0, 40, .inl (fun _ => -1)))] H := hP
    have hD : va_D A [(h0, .inr (6, [.ref q_1, .ref q_3, .ref q_5, .int (nI c0), .ref q_7, .ref q_9, .null, .null, .null, .null, .null, .null, .int 0, .int 0, .int 0, .int 0, .int 0, .int 0, .int 0, .int 0])), (q_3, .inr (5, [.ref q_1, .int (nI t0), .int (nI k0), .ref (u_i_4 0), .ref (u_i_4 1), .ref (u_i_4 2), .ref (u_i_4 3), .int 0])), (q_1, .inr (1, [.int (nI p0), .int (nI q0), .int 0])), ((u_i_4 0), .inl (cA 0, k0, .inl (upd (fun _ => 0) (0 : Int32).toNatClampNeg 1))), (q_5, .inr (0, [.ref (u_i_6 0), .ref (u_i_6 1), .ref (u_i_6 2), .ref (u_i_6 3), .ref (u_i_6 4), .int 0])), ((u_i_6 0), .inl (cA 0, 600, .inl (fun _ => 0))), ((u_i_6 1), .inl (cA 0, 600, .inl (fun _ => 0))), ((u_i_6 2), .inl (cA 0, 600, .inl (fun _ => 0))), ((u_i_6 3), .inl (cA 2, 600, .inr (.inl (fun _ => 0)))), ((u_i_6 4), .inl (cA 2, 600, .inr (.inl (fun _ => 0)))), (q_9, .inl (cA 3, 5, .inr (.inr (.inr (.inr (va_up (fun _ => none) (0 : Int32).toNatClampNeg (some q_10))))))), (q_10, .inr (3, [.ref a_i_11, .ref b_i_11])), (a_i_11, .inl (cA 0, 40, .inl (fun _ => -1))), (b_i_11, .inl (cA 0, 40, .inl (fun _ => -1)))] := hD
    have hP := hP.sub (ws' := [(h0, .inr (6, [.ref q_1, .ref q_3, .ref q_5, .int (nI c0), .ref q_7, .ref q_9, .null, .null, .null, .null, .null, .null, .int 0, .int 0, .int 0, .int 0, .int 0, .int 0, .int 0, .int 0])), (q_3, .inr (5, [.ref q_1, .int (nI t0), .int (nI k0), .ref (u_i_4 0), .ref (u_i_4 1), .ref (u_i_4 2), .ref (u_i_4 3), .int 0])), (q_1, .inr (1, [.int (nI p0), .int (nI q0), .int 0])), ((u_i_4 0), .inl (cA 0, k0, .inl (upd (fun _ => 0) (0 : Int32).toNatClampNeg 1))), (q_5, .inr (0, [.ref (u_i_6 0), .ref (u_i_6 1), .ref (u_i_6 2), .ref (u_i_6 3), .ref (u_i_6 4), .int 0])), ((u_i_6 0), .inl (cA 0, 600, .inl (fun _ => 0))), ((u_i_6 1), .inl (cA 0, 600, .inl (fun _ => 0))), ((u_i_6 2), .inl (cA 0, 600, .inl (fun _ => 0))), ((u_i_6 3), .inl (cA 2, 600, .inr (.inl (fun _ => 0)))), ((u_i_6 4), .inl (cA 2, 600, .inr (.inl (fun _ => 0)))), (q_9, .inl (cA 3, 5, .inr (.inr (.inr (.inr (va_up (fun _ => none) (0 : Int32).toNatClampNeg (some q_10)))))))]) [0, 1, 2, 3, 4, 5, 6, 7, 8, 9, 10] rfl
    have hD := hD.sub (ws' := [(h0, .inr (6, [.ref q_1, .ref q_3, .ref q_5, .int (nI c0), .ref q_7, .ref q_9, .null, .null, .null, .null, .null, .null, .int 0, .int 0, .int 0, .int 0, .int 0, .int 0, .int 0, .int 0])), (q_3, .inr (5, [.ref q_1, .int (nI t0), .int (nI k0), .ref (u_i_4 0), .ref (u_i_4 1), .ref (u_i_4 2), .ref (u_i_4 3), .int 0])), (q_1, .inr (1, [.int (nI p0), .int (nI q0), .int 0])), ((u_i_4 0), .inl (cA 0, k0, .inl (upd (fun _ => 0) (0 : Int32).toNatClampNeg 1))), (q_5, .inr (0, [.ref (u_i_6 0), .ref (u_i_6 1), .ref (u_i_6 2), .ref (u_i_6 3), .ref (u_i_6 4), .int 0])), ((u_i_6 0), .inl (cA 0, 600, .inl (fun _ => 0))), ((u_i_6 1), .inl (cA 0, 600, .inl (fun _ => 0))), ((u_i_6 2), .inl (cA 0, 600, .inl (fun _ => 0))), ((u_i_6 3), .inl (cA 2, 600, .inr (.inl (fun _ => 0)))), ((u_i_6 4), .inl (cA 2, 600, .inr (.inl (fun _ => 0)))), (q_9, .inl (cA 3, 5, .inr (.inr (.inr (.inr (va_up (fun _ => none) (0 : Int32).toNatClampNeg (some q_10)))))))]) [0, 1, 2, 3, 4, 5, 6, 7, 8, 9, 10] (by decide) rfl
    refine lv_iinc (v := 1) (lv' := [(5, .int 1), (0, .ref h0), (1, .int pr), (2, .int cn), (3, .int tr), (4, .int th)]) hx hb dX7_init_124 hl (k := 0) rfl (by decide) (by decide) rfl (fun ls hl => ?_)
    refine lv_goto (tgt := 100) hx hb dX7_init_127 (by decide) ?_
    refine lv_iload hx hb dX7_init_100 (lv_at hl 0 rfl) ?_
    refine lv_aload_n hx hb dX7_init_102 rfl (lv_at hl 1 rfl) ?_
    refine va_get (D := D) (ci := 6) (v := .ref q_9) (C := RX7) (T := TX7) (N := 20) hx hb hts hin_X7 hown hK hP 0 rfl rfl 5 (by decide) (w_RX7_66) (fun _ h9 => h9) rfl dX7_init_103 ?_
    refine va_alen (v := 5) hx hb hK hP 10 3 rfl rfl rfl dX7_init_106 ?_
    refine lv_icmp_ge (tgt := 130) hx hb dX7_init_107 (by decide) (fun c_107 => ?_) (fun c_107 => ?_)
    · exact absurd c_107 (by decide)
    · skip
      refine lv_aload_n hx hb dX7_init_110 rfl (lv_at hl 1 rfl) ?_
      refine va_get (D := D) (ci := 6) (v := .ref q_9) (C := RX7) (T := TX7) (N := 20) hx hb hts hin_X7 hown hK hP 0 rfl rfl 5 (by decide) (w_RX7_66) (fun _ h9 => h9) rfl dX7_init_111 ?_
      refine lv_iload hx hb dX7_init_114 (lv_at hl 0 rfl) ?_
      refine va_new (ci := 3) (fs := [.null, .null]) (C := RX4) (T := TX4) (N := 2) hx hb hts hin_X4 tyX4 tyX4_ok hown (hts (.classLink RX7 59 RX4) (by decide +kernel)) (hts (.instantiable RX4 2) (by decide +kernel)) (hts (.initialized RX4) (by decide +kernel)) hK hP hD hS hA rfl (fun j hj => by rcases (show j = 0 ∨ j = 1 by omega) with rfl | rfl <;> rfl) (Nat.le_of_ble_eq_true rfl) (Nat.le_of_ble_eq_true rfl) dX7_init_116 (fun q_12 H hP hD hS => ?_)
      refine W.widen (k := 26) (n := 3451) (by omega) (by omega) ?_
      have hP : va_P D vwCl [(h0, .inr (6, [.ref q_1, .ref q_3, .ref q_5, .int (nI c0), .ref q_7, .ref q_9, .null, .null, .null, .null, .null, .null, .int 0, .int 0, .int 0, .int 0, .int 0, .int 0, .int 0, .int 0])), (q_3, .inr (5, [.ref q_1, .int (nI t0), .int (nI k0), .ref (u_i_4 0), .ref (u_i_4 1), .ref (u_i_4 2), .ref (u_i_4 3), .int 0])), (q_1, .inr (1, [.int (nI p0), .int (nI q0), .int 0])), ((u_i_4 0), .inl (cA 0, k0, .inl (upd (fun _ => 0) (0 : Int32).toNatClampNeg 1))), (q_5, .inr (0, [.ref (u_i_6 0), .ref (u_i_6 1), .ref (u_i_6 2), .ref (u_i_6 3), .ref (u_i_6 4), .int 0])), ((u_i_6 0), .inl (cA 0, 600, .inl (fun _ => 0))), ((u_i_6 1), .inl (cA 0, 600, .inl (fun _ => 0))), ((u_i_6 2), .inl (cA 0, 600, .inl (fun _ => 0))), ((u_i_6 3), .inl (cA 2, 600, .inr (.inl (fun _ => 0)))), ((u_i_6 4), .inl (cA 2, 600, .inr (.inl (fun _ => 0)))), (q_9, .inl (cA 3, 5, .inr (.inr (.inr (.inr (va_up (fun _ => none) (0 : Int32).toNatClampNeg (some q_10))))))), (q_12, .inr (3, [.null, .null]))] H := hP
      have hD : va_D A [(h0, .inr (6, [.ref q_1, .ref q_3, .ref q_5, .int (nI c0), .ref q_7, .ref q_9, .null, .null, .null, .null, .null, .null, .int 0, .int 0, .int 0, .int 0, .int 0, .int 0, .int 0, .int 0])), (q_3, .inr (5, [.ref q_1, .int (nI t0), .int (nI k0), .ref (u_i_4 0), .ref (u_i_4 1), .ref (u_i_4 2), .ref (u_i_4 3), .int 0])), (q_1, .inr (1, [.int (nI p0), .int (nI q0), .int 0])), ((u_i_4 0), .inl (cA 0, k0, .inl (upd (fun _ => 0) (0 : Int32).toNatClampNeg 1))), (q_5, .inr (0, [.ref (u_i_6 0), .ref (u_i_6 1), .ref (u_i_6 2), .ref (u_i_6 3), .ref (u_i_6 4), .int 0])), ((u_i_6 0), .inl (cA 0, 600, .inl (fun _ => 0))), ((u_i_6 1), .inl (cA 0, 600, .inl (fun _ => 0))), ((u_i_6 2), .inl (cA 0, 600, .inl (fun _ => 0))), ((u_i_6 3), .inl (cA 2, 600, .inr (.inl (fun _ => 0)))), ((u_i_6 4), .inl (cA 2, 600, .inr (.inl (fun _ => 0)))), (q_9, .inl (cA 3, 5, .inr (.inr (.inr (.inr (va_up (fun _ => none) (0 : Int32).toNatClampNeg (some q_10))))))), (q_12, .inr (3, [.null, .null]))] := hD
      refine lv_dup hx hb dX7_init_119 rfl ?_
      have hPc := hP.sub (ws' := [(q_12, .inr (3, [.null, .null]))]) [11] rfl
      have hDc := hD.sub (ws' := [(q_12, .inr (3, [.null, .null]))]) [11] (by decide) rfl
      have hFc := va_free (wc := [(q_12, .inr (3, [.null, .null]))]) hD hS hA [11] rfl
      refine va_callv (va_runI (As := []) (rest := [.ref q_12, .int 1, .ref q_9]) ⟨hx, hb, hml, hown, hts⟩ (c_X4_init l D cA q_12 H.size) (cwI 0 hts gX7_init_X4_init rfl rfl rfl (hts (.initialized RX4) (by decide +kernel)) (hts (.methodLink RX7 61 yX4_init) (by decide +kernel)) (hts (.instanceMethod yX4_init) (by decide +kernel)) rfl (by decide +kernel) ⟨Nat.le_of_ble_eq_true rfl, Nat.le_of_ble_eq_true rfl⟩) ⟨in_blind, fun U hU hW => ⟨rfl, by rw [hU], by rw [hU]; exact hPc, va_K.moved hW.alike hK, hDc.weaken (fun _ _ _ _ => trivial), hX.moved hW.alike⟩⟩ rfl rfl hl.1 rfl (lv_room (Nat.le_of_ble_eq_true rfl)) dX7_init_120 ⟨Nat.le_of_ble_eq_true rfl, Nat.le_of_ble_eq_true rfl⟩) hS (fun q _ h => hFc q h) hFc (fun u t H1 locs ht hvm hw hB hz1 hk1 hS => ?_)
      obtain ⟨a_i_13, b_i_13⟩ := u
      obtain ⟨hP1, hK1, hD1⟩ := hB
      rw [ht] at hP1
      obtain _ := hw
      obtain ⟨hP, hD⟩ := va_join (wr := [(h0, .inr (6, [.ref q_1, .ref q_3, .ref q_5, .int (nI c0), .ref q_7, .ref q_9, .null, .null, .null, .null, .null, .null, .int 0, .int 0, .int 0, .int 0, .int 0, .int 0, .int 0, .int 0])), (q_3, .inr (5, [.ref q_1, .int (nI t0), .int (nI k0), .ref (u_i_4 0), .ref (u_i_4 1), .ref (u_i_4 2), .ref (u_i_4 3), .int 0])), (q_1, .inr (1, [.int (nI p0), .int (nI q0), .int 0])), ((u_i_4 0), .inl (cA 0, k0, .inl (upd (fun _ => 0) (0 : Int32).toNatClampNeg 1))), (q_5, .inr (0, [.ref (u_i_6 0), .ref (u_i_6 1), .ref (u_i_6 2), .ref (u_i_6 3), .ref (u_i_6 4), .int 0])), ((u_i_6 0), .inl (cA 0, 600, .inl (fun _ => 0))), ((u_i_6 1), .inl (cA 0, 600, .inl (fun _ => 0))), ((u_i_6 2), .inl (cA 0, 600, .inl (fun _ => 0))), ((u_i_6 3), .inl (cA 2, 600, .inr (.inl (fun _ => 0)))), ((u_i_6 4), .inl (cA 2, 600, .inr (.inl (fun _ => 0)))), (q_9, .inl (cA 3, 5, .inr (.inr (.inr (.inr (va_up (fun _ => none) (0 : Int32).toNatClampNeg (some q_10)))))))]) (w1 := [(q_12, .inr (3, [.ref a_i_13, .ref b_i_13])), (a_i_13, .inl (cA 0, 40, .inl (fun _ => -1))), (b_i_13, .inl (cA 0, 40, .inl (fun _ => -1)))]) hP hD [11] [0, 1, 2, 3, 4, 5, 6, 7, 8, 9, 10] rfl rfl (by decide) (by decide) hk1 hFc hP1 hD1
      generalize H1 = H at hP hS ⊢
      have hP : va_P D vwCl [(h0, .inr (6, [.ref q_1, .ref q_3, .ref q_5, .int (nI c0), .ref q_7, .ref q_9, .null, .null, .null, .null, .null, .null, .int 0, .int 0, .int 0, .int 0, .int 0, .int 0, .int 0, .int 0])), (q_3, .inr (5, [.ref q_1, .int (nI t0), .int (nI k0), .ref (u_i_4 0), .ref (u_i_4 1), .ref (u_i_4 2), .ref (u_i_4 3), .int 0])), (q_1, .inr (1, [.int (nI p0), .int (nI q0), .int 0])), ((u_i_4 0), .inl (cA 0, k0, .inl (upd (fun _ => 0) (0 : Int32).toNatClampNeg 1))), (q_5, .inr (0, [.ref (u_i_6 0), .ref (u_i_6 1), .ref (u_i_6 2), .ref (u_i_6 3), .ref (u_i_6 4), .int 0])), ((u_i_6 0), .inl (cA 0, 600, .inl (fun _ => 0))), ((u_i_6 1), .inl (cA 0, 600, .inl (fun _ => 0))), ((u_i_6 2), .inl (cA 0, 600, .inl (fun _ => 0))), ((u_i_6 3), .inl (cA 2, 600, .inr (.inl (fun _ => 0)))), ((u_i_6 4), .inl (cA 2, 600, .inr (.inl (fun _ => 0)))), (q_9, .inl (cA 3, 5, .inr (.inr (.inr (.inr (va_up (fun _ => none) (0 : Int32).toNatClampNeg (some q_10))))))), (q_12, .inr (3, [.ref a_i_13, .ref b_i_13])), (a_i_13, .inl (cA 0, 40, .inl (fun _ => -1))), (b_i_13, .inl (cA 0, 40, .inl (fun _ => -1)))] H := hP
      have hD : va_D A [(h0, .inr (6, [.ref q_1, .ref q_3, .ref q_5, .int (nI c0), .ref q_7, .ref q_9, .null, .null, .null, .null, .null, .null, .int 0, .int 0, .int 0, .int 0, .int 0, .int 0, .int 0, .int 0])), (q_3, .inr (5, [.ref q_1, .int (nI t0), .int (nI k0), .ref (u_i_4 0), .ref (u_i_4 1), .ref (u_i_4 2), .ref (u_i_4 3), .int 0])), (q_1, .inr (1, [.int (nI p0), .int (nI q0), .int 0])), ((u_i_4 0), .inl (cA 0, k0, .inl (upd (fun _ => 0) (0 : Int32).toNatClampNeg 1))), (q_5, .inr (0, [.ref (u_i_6 0), .ref (u_i_6 1), .ref (u_i_6 2), .ref (u_i_6 3), .ref (u_i_6 4), .int 0])), ((u_i_6 0), .inl (cA 0, 600, .inl (fun _ => 0))), ((u_i_6 1), .inl (cA 0, 600, .inl (fun _ => 0))), ((u_i_6 2), .inl (cA 0, 600, .inl (fun _ => 0))), ((u_i_6 3), .inl (cA 2, 600, .inr (.inl (fun _ => 0)))), ((u_i_6 4), .inl (cA 2, 600, .inr (.inl (fun _ => 0)))), (q_9, .inl (cA 3, 5, .inr (.inr (.inr (.inr (va_up (fun _ => none) (0 : Int32).toNatClampNeg (some q_10))))))), (q_12, .inr (3, [.ref a_i_13, .ref b_i_13])), (a_i_13, .inl (cA 0, 40, .inl (fun _ => -1))), (b_i_13, .inl (cA 0, 40, .inl (fun _ => -1)))] := hD
      refine W.widen (k := 28) (n := 3531) (by omega) (by omega) ?_
      refine va_astq (r := (RX4, TX4, 2)) hx hb hK hP hD hS 10 3 11 3 rfl rfl rfl rfl (vp_in_nI (n := 1) (by decide) (by decide)) dX7_init_123 (fun H locs hP hD hS => ?_)
      have hP : va_P D vwCl [(h0, .inr (6, [.ref q_1, .ref q_3, .ref q_5, .int (nI c0), .ref q_7, .ref q_9, .null, .null, .null, .null, .null, .null, .int 0, .int 0, .int 0, .int 0, .int 0, .int 0, .int 0, .int 0])), (q_3, .inr (5, [.ref q_1, .int (nI t0), .int (nI k0), .ref (u_i_4 0), .ref (u_i_4 1), .ref (u_i_4 2), .ref (u_i_4 3), .int 0])), (q_1, .inr (1, [.int (nI p0), .int (nI q0), .int 0])), ((u_i_4 0), .inl (cA 0, k0, .inl (upd (fun _ => 0) (0 : Int32).toNatClampNeg 1))), (q_5, .inr (0, [.ref (u_i_6 0), .ref (u_i_6 1), .ref (u_i_6 2), .ref (u_i_6 3), .ref (u_i_6 4), .int 0])), ((u_i_6 0), .inl (cA 0, 600, .inl (fun _ => 0))), ((u_i_6 1), .inl (cA 0, 600, .inl (fun _ => 0))), ((u_i_6 2), .inl (cA 0, 600, .inl (fun _ => 0))), ((u_i_6 3), .inl (cA 2, 600, .inr (.inl (fun _ => 0)))), ((u_i_6 4), .inl (cA 2, 600, .inr (.inl (fun _ => 0)))), (q_9, .inl (cA 3, 5, .inr (.inr (.inr (.inr (va_up (va_up (fun _ => none) (0 : Int32).toNatClampNeg (some q_10)) (1 : Int32).toNatClampNeg (some q_12))))))), (q_12, .inr (3, [.ref a_i_13, .ref b_i_13])), (a_i_13, .inl (cA 0, 40, .inl (fun _ => -1))), (b_i_13, .inl (cA 0, 40, .inl (fun _ => -1)))] H := hP
      have hD : va_D A [(h0, .inr (6, [.ref q_1, .ref q_3, .ref q_5, .int (nI c0), .ref q_7, .ref q_9, .null, .null, .null, .null, .null, .null, .int 0, .int 0, .int 0, .int 0, .int 0, .int 0, .int 0, .int 0])), (q_3, .inr (5, [.ref q_1, .int (nI t0), .int (nI k0), .ref (u_i_4 0), .ref (u_i_4 1), .ref (u_i_4 2), .ref (u_i_4 3), .int 0])), (q_1, .inr (1, [.int (nI p0), .int (nI q0), .int 0])), ((u_i_4 0), .inl (cA 0, k0, .inl (upd (fun _ => 0) (0 : Int32).toNatClampNeg 1))), (q_5, .inr (0, [.ref (u_i_6 0), .ref (u_i_6 1), .ref (u_i_6 2), .ref (u_i_6 3), .ref (u_i_6 4), .int 0])), ((u_i_6 0), .inl (cA 0, 600, .inl (fun _ => 0))), ((u_i_6 1), .inl (cA 0, 600, .inl (fun _ => 0))), ((u_i_6 2), .inl (cA 0, 600, .inl (fun _ => 0))), ((u_i_6 3), .inl (cA 2, 600, .inr (.inl (fun _ => 0)))), ((u_i_6 4), .inl (cA 2, 600, .inr (.inl (fun _ => 0)))), (q_9, .inl (cA 3, 5, .inr (.inr (.inr (.inr (va_up (va_up (fun _ => none) (0 : Int32).toNatClampNeg (some q_10)) (1 : Int32).toNatClampNeg (some q_12))))))), (q_12, .inr (3, [.ref a_i_13, .ref b_i_13])), (a_i_13, .inl (cA 0, 40, .inl (fun _ => -1))), (b_i_13, .inl (cA 0, 40, .inl (fun _ => -1)))] := hD
      have hP := hP.sub (ws' := [(h0, .inr (6, [.ref q_1, .ref q_3, .ref q_5, .int (nI c0), .ref q_7, .ref q_9, .null, .null, .null, .null, .null, .null, .int 0, .int 0, .int 0, .int 0, .int 0, .int 0, .int 0, .int 0])), (q_3, .inr (5, [.ref q_1, .int (nI t0), .int (nI k0), .ref (u_i_4 0), .ref (u_i_4 1), .ref (u_i_4 2), .ref (u_i_4 3), .int 0])), (q_1, .inr (1, [.int (nI p0), .int (nI q0), .int 0])), ((u_i_4 0), .inl (cA 0, k0, .inl (upd (fun _ => 0) (0 : Int32).toNatClampNeg 1))), (q_5, .inr (0, [.ref (u_i_6 0), .ref (u_i_6 1), .ref (u_i_6 2), .ref (u_i_6 3), .ref (u_i_6 4), .int 0])), ((u_i_6 0), .inl (cA 0, 600, .inl (fun _ => 0))), ((u_i_6 1), .inl (cA 0, 600, .inl (fun _ => 0))), ((u_i_6 2), .inl (cA 0, 600, .inl (fun _ => 0))), ((u_i_6 3), .inl (cA 2, 600, .inr (.inl (fun _ => 0)))), ((u_i_6 4), .inl (cA 2, 600, .inr (.inl (fun _ => 0)))), (q_9, .inl (cA 3, 5, .inr (.inr (.inr (.inr (va_up (va_up (fun _ => none) (0 : Int32).toNatClampNeg (some q_10)) (1 : Int32).toNatClampNeg (some q_12)))))))]) [0, 1, 2, 3, 4, 5, 6, 7, 8, 9, 10] rfl
      have hD := hD.sub (ws' := [(h0, .inr (6, [.ref q_1, .ref q_3, .ref q_5, .int (nI c0), .ref q_7, .ref q_9, .null, .null, .null, .null, .null, .null, .int 0, .int 0, .int 0, .int 0, .int 0, .int 0, .int 0, .int 0])), (q_3, .inr (5, [.ref q_1, .int (nI t0), .int (nI k0), .ref (u_i_4 0), .ref (u_i_4 1), .ref (u_i_4 2), .ref (u_i_4 3), .int 0])), (q_1, .inr (1, [.int (nI p0), .int (nI q0), .int 0])), ((u_i_4 0), .inl (cA 0, k0, .inl (upd (fun _ => 0) (0 : Int32).toNatClampNeg 1))), (q_5, .inr (0, [.ref (u_i_6 0), .ref (u_i_6 1), .ref (u_i_6 2), .ref (u_i_6 3), .ref (u_i_6 4), .int 0])), ((u_i_6 0), .inl (cA 0, 600, .inl (fun _ => 0))), ((u_i_6 1), .inl (cA 0, 600, .inl (fun _ => 0))), ((u_i_6 2), .inl (cA 0, 600, .inl (fun _ => 0))), ((u_i_6 3), .inl (cA 2, 600, .inr (.inl (fun _ => 0)))), ((u_i_6 4), .inl (cA 2, 600, .inr (.inl (fun _ => 0)))), (q_9, .inl (cA 3, 5, .inr (.inr (.inr (.inr (va_up (va_up (fun _ => none) (0 : Int32).toNatClampNeg (some q_10)) (1 : Int32).toNatClampNeg (some q_12)))))))]) [0, 1, 2, 3, 4, 5, 6, 7, 8, 9, 10] (by decide) rfl
      refine lv_iinc (v := 2) (lv' := [(5, .int 2), (0, .ref h0), (1, .int pr), (2, .int cn), (3, .int tr), (4, .int th)]) hx hb dX7_init_124 hl (k := 0) rfl (by decide) (by decide) rfl (fun ls hl => ?_)
      refine lv_goto (tgt := 100) hx hb dX7_init_127 (by decide) ?_
      refine lv_iload hx hb dX7_init_100 (lv_at hl 0 rfl) ?_
      refine lv_aload_n hx hb dX7_init_102 rfl (lv_at hl 1 rfl) ?_
      refine va_get (D := D) (ci := 6) (v := .ref q_9) (C := RX7) (T := TX7) (N := 20) hx hb hts hin_X7 hown hK hP 0 rfl rfl 5 (by decide) (w_RX7_66) (fun _ h9 => h9) rfl dX7_init_103 ?_
      refine va_alen (v := 5) hx hb hK hP 10 3 rfl rfl rfl dX7_init_106 ?_
      refine lv_icmp_ge (tgt := 130) hx hb dX7_init_107 (by decide) (fun c_107 => ?_) (fun c_107 => ?_)
      · exact absurd c_107 (by decide)
      · skip
        refine lv_aload_n hx hb dX7_init_110 rfl (lv_at hl 1 rfl) ?_
        refine va_get (D := D) (ci := 6) (v := .ref q_9) (C := RX7) (T := TX7) (N := 20) hx hb hts hin_X7 hown hK hP 0 rfl rfl 5 (by decide) (w_RX7_66) (fun _ h9 => h9) rfl dX7_init_111 ?_
        refine lv_iload hx hb dX7_init_114 (lv_at hl 0 rfl) ?_
        refine va_new (ci := 3) (fs := [.null, .null]) (C := RX4) (T := TX4) (N := 2) hx hb hts hin_X4 tyX4 tyX4_ok hown (hts (.classLink RX7 59 RX4) (by decide +kernel)) (hts (.instantiable RX4 2) (by decide +kernel)) (hts (.initialized RX4) (by decide +kernel)) hK hP hD hS hA rfl (fun j hj => by rcases (show j = 0 ∨ j = 1 by omega) with rfl | rfl <;> rfl) (Nat.le_of_ble_eq_true rfl) (Nat.le_of_ble_eq_true rfl) dX7_init_116 (fun q_14 H hP hD hS => ?_)
        refine W.widen (k := 29) (n := 3533) (by omega) (by omega) ?_
        have hP : va_P D vwCl [(h0, .inr (6, [.ref q_1, .ref q_3, .ref q_5, .int (nI c0), .ref q_7, .ref q_9, .null, .null, .null, .null, .null, .null, .int 0, .int 0, .int 0, .int 0, .int 0, .int 0, .int 0, .int 0])), (q_3, .inr (5, [.ref q_1, .int (nI t0), .int (nI k0), .ref (u_i_4 0), .ref (u_i_4 1), .ref (u_i_4 2), .ref (u_i_4 3), .int 0])), (q_1, .inr (1, [.int (nI p0), .int (nI q0), .int 0])), ((u_i_4 0), .inl (cA 0, k0, .inl (upd (fun _ => 0) (0 : Int32).toNatClampNeg 1))), (q_5, .inr (0, [.ref (u_i_6 0), .ref (u_i_6 1), .ref (u_i_6 2), .ref (u_i_6 3), .ref (u_i_6 4), .int 0])), ((u_i_6 0), .inl (cA 0, 600, .inl (fun _ => 0))), ((u_i_6 1), .inl (cA 0, 600, .inl (fun _ => 0))), ((u_i_6 2), .inl (cA 0, 600, .inl (fun _ => 0))), ((u_i_6 3), .inl (cA 2, 600, .inr (.inl (fun _ => 0)))), ((u_i_6 4), .inl (cA 2, 600, .inr (.inl (fun _ => 0)))), (q_9, .inl (cA 3, 5, .inr (.inr (.inr (.inr (va_up (va_up (fun _ => none) (0 : Int32).toNatClampNeg (some q_10)) (1 : Int32).toNatClampNeg (some q_12))))))), (q_14, .inr (3, [.null, .null]))] H := hP
        have hD : va_D A [(h0, .inr (6, [.ref q_1, .ref q_3, .ref q_5, .int (nI c0), .ref q_7, .ref q_9, .null, .null, .null, .null, .null, .null, .int 0, .int 0, .int 0, .int 0, .int 0, .int 0, .int 0, .int 0])), (q_3, .inr (5, [.ref q_1, .int (nI t0), .int (nI k0), .ref (u_i_4 0), .ref (u_i_4 1), .ref (u_i_4 2), .ref (u_i_4 3), .int 0])), (q_1, .inr (1, [.int (nI p0), .int (nI q0), .int 0])), ((u_i_4 0), .inl (cA 0, k0, .inl (upd (fun _ => 0) (0 : Int32).toNatClampNeg 1))), (q_5, .inr (0, [.ref (u_i_6 0), .ref (u_i_6 1), .ref (u_i_6 2), .ref (u_i_6 3), .ref (u_i_6 4), .int 0])), ((u_i_6 0), .inl (cA 0, 600, .inl (fun _ => 0))), ((u_i_6 1), .inl (cA 0, 600, .inl (fun _ => 0))), ((u_i_6 2), .inl (cA 0, 600, .inl (fun _ => 0))), ((u_i_6 3), .inl (cA 2, 600, .inr (.inl (fun _ => 0)))), ((u_i_6 4), .inl (cA 2, 600, .inr (.inl (fun _ => 0)))), (q_9, .inl (cA 3, 5, .inr (.inr (.inr (.inr (va_up (va_up (fun _ => none) (0 : Int32).toNatClampNeg (some q_10)) (1 : Int32).toNatClampNeg (some q_12))))))), (q_14, .inr (3, [.null, .null]))] := hD
        refine lv_dup hx hb dX7_init_119 rfl ?_
        have hPc := hP.sub (ws' := [(q_14, .inr (3, [.null, .null]))]) [11] rfl
        have hDc := hD.sub (ws' := [(q_14, .inr (3, [.null, .null]))]) [11] (by decide) rfl
        have hFc := va_free (wc := [(q_14, .inr (3, [.null, .null]))]) hD hS hA [11] rfl
        refine va_callv (va_runI (As := []) (rest := [.ref q_14, .int 2, .ref q_9]) ⟨hx, hb, hml, hown, hts⟩ (c_X4_init l D cA q_14 H.size) (cwI 0 hts gX7_init_X4_init rfl rfl rfl (hts (.initialized RX4) (by decide +kernel)) (hts (.methodLink RX7 61 yX4_init) (by decide +kernel)) (hts (.instanceMethod yX4_init) (by decide +kernel)) rfl (by decide +kernel) ⟨Nat.le_of_ble_eq_true rfl, Nat.le_of_ble_eq_true rfl⟩) ⟨in_blind, fun U hU hW => ⟨rfl, by rw [hU], by rw [hU]; exact hPc, va_K.moved hW.alike hK, hDc.weaken (fun _ _ _ _ => trivial), hX.moved hW.alike⟩⟩ rfl rfl hl.1 rfl (lv_room (Nat.le_of_ble_eq_true rfl)) dX7_init_120 ⟨Nat.le_of_ble_eq_true rfl, Nat.le_of_ble_eq_true rfl⟩) hS (fun q _ h => hFc q h) hFc (fun u t H1 locs ht hvm hw hB hz1 hk1 hS => ?_)
        obtain ⟨a_i_15, b_i_15⟩ := u
        obtain ⟨hP1, hK1, hD1⟩ := hB
        rw [ht] at hP1
        obtain _ := hw
        obtain ⟨hP, hD⟩ := va_join (wr := [(h0, .inr (6, [.ref q_1, .ref q_3, .ref q_5, .int (nI c0), .ref q_7, .ref q_9, .null, .null, .null, .null, .null, .null, .int 0, .int 0, .int 0, .int 0, .int 0, .int 0, .int 0, .int 0])), (q_3, .inr (5, [.ref q_1, .int (nI t0), .int (nI k0), .ref (u_i_4 0), .ref (u_i_4 1), .ref (u_i_4 2), .ref (u_i_4 3), .int 0])), (q_1, .inr (1, [.int (nI p0), .int (nI q0), .int 0])), ((u_i_4 0), .inl (cA 0, k0, .inl (upd (fun _ => 0) (0 : Int32).toNatClampNeg 1))), (q_5, .inr (0, [.ref (u_i_6 0), .ref (u_i_6 1), .ref (u_i_6 2), .ref (u_i_6 3), .ref (u_i_6 4), .int 0])), ((u_i_6 0), .inl (cA 0, 600, .inl (fun _ => 0))), ((u_i_6 1), .inl (cA 0, 600, .inl (fun _ => 0))), ((u_i_6 2), .inl (cA 0, 600, .inl (fun _ => 0))), ((u_i_6 3), .inl (cA 2, 600, .inr (.inl (fun _ => 0)))), ((u_i_6 4), .inl (cA 2, 600, .inr (.inl (fun _ => 0)))), (q_9, .inl (cA 3, 5, .inr (.inr (.inr (.inr (va_up (va_up (fun _ => none) (0 : Int32).toNatClampNeg (some q_10)) (1 : Int32).toNatClampNeg (some q_12)))))))]) (w1 := [(q_14, .inr (3, [.ref a_i_15, .ref b_i_15])), (a_i_15, .inl (cA 0, 40, .inl (fun _ => -1))), (b_i_15, .inl (cA 0, 40, .inl (fun _ => -1)))]) hP hD [11] [0, 1, 2, 3, 4, 5, 6, 7, 8, 9, 10] rfl rfl (by decide) (by decide) hk1 hFc hP1 hD1
        generalize H1 = H at hP hS ⊢
        have hP : va_P D vwCl [(h0, .inr (6, [.ref q_1, .ref q_3, .ref q_5, .int (nI c0), .ref q_7, .ref q_9, .null, .null, .null, .null, .null, .null, .int 0, .int 0, .int 0, .int 0, .int 0, .int 0, .int 0, .int 0])), (q_3, .inr (5, [.ref q_1, .int (nI t0), .int (nI k0), .ref (u_i_4 0), .ref (u_i_4 1), .ref (u_i_4 2), .ref (u_i_4 3), .int 0])), (q_1, .inr (1, [.int (nI p0), .int (nI q0), .int 0])), ((u_i_4 0), .inl (cA 0, k0, .inl (upd (fun _ => 0) (0 : Int32).toNatClampNeg 1))), (q_5, .inr (0, [.ref (u_i_6 0), .ref (u_i_6 1), .ref (u_i_6 2), .ref (u_i_6 3), .ref (u_i_6 4), .int 0])), ((u_i_6 0), .inl (cA 0, 600, .inl (fun _ => 0))), ((u_i_6 1), .inl (cA 0, 600, .inl (fun _ => 0))), ((u_i_6 2), .inl (cA 0, 600, .inl (fun _ => 0))), ((u_i_6 3), .inl (cA 2, 600, .inr (.inl (fun _ => 0)))), ((u_i_6 4), .inl (cA 2, 600, .inr (.inl (fun _ => 0)))), (q_9, .inl (cA 3, 5, .inr (.inr (.inr (.inr (va_up (va_up (fun _ => none) (0 : Int32).toNatClampNeg (some q_10)) (1 : Int32).toNatClampNeg (some q_12))))))), (q_14, .inr (3, [.ref a_i_15, .ref b_i_15])), (a_i_15, .inl (cA 0, 40, .inl (fun _ => -1))), (b_i_15, .inl (cA 0, 40, .inl (fun _ => -1)))] H := hP
        have hD : va_D A [(h0, .inr (6, [.ref q_1, .ref q_3, .ref q_5, .int (nI c0), .ref q_7, .ref q_9, .null, .null, .null, .null, .null, .null, .int 0, .int 0, .int 0, .int 0, .int 0, .int 0, .int 0, .int 0])), (q_3, .inr (5, [.ref q_1, .int (nI t0), .int (nI k0), .ref (u_i_4 0), .ref (u_i_4 1), .ref (u_i_4 2), .ref (u_i_4 3), .int 0])), (q_1, .inr (1, [.int (nI p0), .int (nI q0), .int 0])), ((u_i_4 0), .inl (cA 0, k0, .inl (upd (fun _ => 0) (0 : Int32).toNatClampNeg 1))), (q_5, .inr (0, [.ref (u_i_6 0), .ref (u_i_6 1), .ref (u_i_6 2), .ref (u_i_6 3), .ref (u_i_6 4), .int 0])), ((u_i_6 0), .inl (cA 0, 600, .inl (fun _ => 0))), ((u_i_6 1), .inl (cA 0, 600, .inl (fun _ => 0))), ((u_i_6 2), .inl (cA 0, 600, .inl (fun _ => 0))), ((u_i_6 3), .inl (cA 2, 600, .inr (.inl (fun _ => 0)))), ((u_i_6 4), .inl (cA 2, 600, .inr (.inl (fun _ => 0)))), (q_9, .inl (cA 3, 5, .inr (.inr (.inr (.inr (va_up (va_up (fun _ => none) (0 : Int32).toNatClampNeg (some q_10)) (1 : Int32).toNatClampNeg (some q_12))))))), (q_14, .inr (3, [.ref a_i_15, .ref b_i_15])), (a_i_15, .inl (cA 0, 40, .inl (fun _ => -1))), (b_i_15, .inl (cA 0, 40, .inl (fun _ => -1)))] := hD
        refine W.widen (k := 31) (n := 3613) (by omega) (by omega) ?_
        refine va_astq (r := (RX4, TX4, 2)) hx hb hK hP hD hS 10 3 11 3 rfl rfl rfl rfl (vp_in_nI (n := 2) (by decide) (by decide)) dX7_init_123 (fun H locs hP hD hS => ?_)
        have hP : va_P D vwCl [(h0, .inr (6, [.ref q_1, .ref q_3, .ref q_5, .int (nI c0), .ref q_7, .ref q_9, .null, .null, .null, .null, .null, .null, .int 0, .int 0, .int 0, .int 0, .int 0, .int 0, .int 0, .int 0])), (q_3, .inr (5, [.ref q_1, .int (nI t0), .int (nI k0), .ref (u_i_4 0), .ref (u_i_4 1), .ref (u_i_4 2), .ref (u_i_4 3), .int 0])), (q_1, .inr (1, [.int (nI p0), .int (nI q0), .int 0])), ((u_i_4 0), .inl (cA 0, k0, .inl (upd (fun _ => 0) (0 : Int32).toNatClampNeg 1))), (q_5, .inr (0, [.ref (u_i_6 0), .ref (u_i_6 1), .ref (u_i_6 2), .ref (u_i_6 3), .ref (u_i_6 4), .int 0])), ((u_i_6 0), .inl (cA 0, 600, .inl (fun _ => 0))), ((u_i_6 1), .inl (cA 0, 600, .inl (fun _ => 0))), ((u_i_6 2), .inl (cA 0, 600, .inl (fun _ => 0))), ((u_i_6 3), .inl (cA 2, 600, .inr (.inl (fun _ => 0)))), ((u_i_6 4), .inl (cA 2, 600, .inr (.inl (fun _ => 0)))), (q_9, .inl (cA 3, 5, .inr (.inr (.inr (.inr (va_up (va_up (va_up (fun _ => none) (0 : Int32).toNatClampNeg (some q_10)) (1 : Int32).toNatClampNeg (some q_12)) (2 : Int32).toNatClampNeg (some q_14))))))), (q_14, .inr (3, [.ref a_i_15, .ref b_i_15])), (a_i_15, .inl (cA 0, 40, .inl (fun _ => -1))), (b_i_15, .inl (cA 0, 40, .inl (fun _ => -1)))] H := hP
        have hD : va_D A [(h0, .inr (6, [.ref q_1, .ref q_3, .ref q_5, .int (nI c0), .ref q_7, .ref q_9, .null, .null, .null, .null, .null, .null, .int 0, .int 0, .int 0, .int 0, .int 0, .int 0, .int 0, .int 0])), (q_3, .inr (5, [.ref q_1, .int (nI t0), .int (nI k0), .ref (u_i_4 0), .ref (u_i_4 1), .ref (u_i_4 2), .ref (u_i_4 3), .int 0])), (q_1, .inr (1, [.int (nI p0), .int (nI q0), .int 0])), ((u_i_4 0), .inl (cA 0, k0, .inl (upd (fun _ => 0) (0 : Int32).toNatClampNeg 1))), (q_5, .inr (0, [.ref (u_i_6 0), .ref (u_i_6 1), .ref (u_i_6 2), .ref (u_i_6 3), .ref (u_i_6 4), .int 0])), ((u_i_6 0), .inl (cA 0, 600, .inl (fun _ => 0))), ((u_i_6 1), .inl (cA 0, 600, .inl (fun _ => 0))), ((u_i_6 2), .inl (cA 0, 600, .inl (fun _ => 0))), ((u_i_6 3), .inl (cA 2, 600, .inr (.inl (fun _ => 0)))), ((u_i_6 4), .inl (cA 2, 600, .inr (.inl (fun _ => 0)))), (q_9, .inl (cA 3, 5, .inr (.inr (.inr (.inr (va_up (va_up (va_up (fun _ => none) (0 : Int32).toNatClampNeg (some q_10)) (1 : Int32).toNatClampNeg (some q_12)) (2 : Int32).toNatClampNeg (some q_14))))))), (q_14, .inr (3, [.ref a_i_15, .ref b_i_15])), (a_i_15, .inl (cA 0, 40, .inl (fun _ => -1))), (b_i_15, .inl (cA 0, 40, .inl (fun _ => -1)))] := hD
        have hP := hP.sub (ws' := [(h0, .inr (6, [.ref q_1, .ref q_3, .ref q_5, .int (nI c0), .ref q_7, .ref q_9, .null, .null, .null, .null, .null, .null, .int 0, .int 0, .int 0, .int 0, .int 0, .int 0, .int 0, .int 0])), (q_3, .inr (5, [.ref q_1, .int (nI t0), .int (nI k0), .ref (u_i_4 0), .ref (u_i_4 1), .ref (u_i_4 2), .ref (u_i_4 3), .int 0])), (q_1, .inr (1, [.int (nI p0), .int (nI q0), .int 0])), ((u_i_4 0), .inl (cA 0, k0, .inl (upd (fun _ => 0) (0 : Int32).toNatClampNeg 1))), (q_5, .inr (0, [.ref (u_i_6 0), .ref (u_i_6 1), .ref (u_i_6 2), .ref (u_i_6 3), .ref (u_i_6 4), .int 0])), ((u_i_6 0), .inl (cA 0, 600, .inl (fun _ => 0))), ((u_i_6 1), .inl (cA 0, 600, .inl (fun _ => 0))), ((u_i_6 2), .inl (cA 0, 600, .inl (fun _ => 0))), ((u_i_6 3), .inl (cA 2, 600, .inr (.inl (fun _ => 0)))), ((u_i_6 4), .inl (cA 2, 600, .inr (.inl (fun _ => 0)))), (q_9, .inl (cA 3, 5, .inr (.inr (.inr (.inr (va_up (va_up (va_up (fun _ => none) (0 : Int32).toNatClampNeg (some q_10)) (1 : Int32).toNatClampNeg (some q_12)) (2 : Int32).toNatClampNeg (some q_14)))))))]) [0, 1, 2, 3, 4, 5, 6, 7, 8, 9, 10] rfl
        have hD := hD.sub (ws' := [(h0, .inr (6, [.ref q_1, .ref q_3, .ref q_5, .int (nI c0), .ref q_7, .ref q_9, .null, .null, .null, .null, .null, .null, .int 0, .int 0, .int 0, .int 0, .int 0, .int 0, .int 0, .int 0])), (q_3, .inr (5, [.ref q_1, .int (nI t0), .int (nI k0), .ref (u_i_4 0), .ref (u_i_4 1), .ref (u_i_4 2), .ref (u_i_4 3), .int 0])), (q_1, .inr (1, [.int (nI p0), .int (nI q0), .int 0])), ((u_i_4 0), .inl (cA 0, k0, .inl (upd (fun _ => 0) (0 : Int32).toNatClampNeg 1))), (q_5, .inr (0, [.ref (u_i_6 0), .ref (u_i_6 1), .ref (u_i_6 2), .ref (u_i_6 3), .ref (u_i_6 4), .int 0])), ((u_i_6 0), .inl (cA 0, 600, .inl (fun _ => 0))), ((u_i_6 1), .inl (cA 0, 600, .inl (fun _ => 0))), ((u_i_6 2), .inl (cA 0, 600, .inl (fun _ => 0))), ((u_i_6 3), .inl (cA 2, 600, .inr (.inl (fun _ => 0)))), ((u_i_6 4), .inl (cA 2, 600, .inr (.inl (fun _ => 0)))), (q_9, .inl (cA 3, 5, .inr (.inr (.inr (.inr (va_up (va_up (va_up (fun _ => none) (0 : Int32).toNatClampNeg (some q_10)) (1 : Int32).toNatClampNeg (some q_12)) (2 : Int32).toNatClampNeg (some q_14)))))))]) [0, 1, 2, 3, 4, 5, 6, 7, 8, 9, 10] (by decide) rfl
        refine lv_iinc (v := 3) (lv' := [(5, .int 3), (0, .ref h0), (1, .int pr), (2, .int cn), (3, .int tr), (4, .int th)]) hx hb dX7_init_124 hl (k := 0) rfl (by decide) (by decide) rfl (fun ls hl => ?_)
        refine lv_goto (tgt := 100) hx hb dX7_init_127 (by decide) ?_
        refine lv_iload hx hb dX7_init_100 (lv_at hl 0 rfl) ?_
        refine lv_aload_n hx hb dX7_init_102 rfl (lv_at hl 1 rfl) ?_
        refine va_get (D := D) (ci := 6) (v := .ref q_9) (C := RX7) (T := TX7) (N := 20) hx hb hts hin_X7 hown hK hP 0 rfl rfl 5 (by decide) (w_RX7_66) (fun _ h9 => h9) rfl dX7_init_103 ?_
        refine va_alen (v := 5) hx hb hK hP 10 3 rfl rfl rfl dX7_init_106 ?_
        refine lv_icmp_ge (tgt := 130) hx hb dX7_init_107 (by decide) (fun c_107 => ?_) (fun c_107 => ?_)
        · exact absurd c_107 (by decide)
        · skip
          refine lv_aload_n hx hb dX7_init_110 rfl (lv_at hl 1 rfl) ?_
          refine va_get (D := D) (ci := 6) (v := .ref q_9) (C := RX7) (T := TX7) (N := 20) hx hb hts hin_X7 hown hK hP 0 rfl rfl 5 (by decide) (w_RX7_66) (fun _ h9 => h9) rfl dX7_init_111 ?_
          refine lv_iload hx hb dX7_init_114 (lv_at hl 0 rfl) ?_
          refine va_new (ci := 3) (fs := [.null, .null]) (C := RX4) (T := TX4) (N := 2) hx hb hts hin_X4 tyX4 tyX4_ok hown (hts (.classLink RX7 59 RX4) (by decide +kernel)) (hts (.instantiable RX4 2) (by decide +kernel)) (hts (.initialized RX4) (by decide +kernel)) hK hP hD hS hA rfl (fun j hj => by rcases (show j = 0 ∨ j = 1 by omega) with rfl | rfl <;> rfl) (Nat.le_of_ble_eq_true rfl) (Nat.le_of_ble_eq_true rfl) dX7_init_116 (fun q_16 H hP hD hS => ?_)
          refine W.widen (k := 32) (n := 3615) (by omega) (by omega) ?_
          have hP : va_P D vwCl [(h0, .inr (6, [.ref q_1, .ref q_3, .ref q_5, .int (nI c0), .ref q_7, .ref q_9, .null, .null, .null, .null, .null, .null, .int 0, .int 0, .int 0, .int 0, .int 0, .int 0, .int 0, .int 0])), (q_3, .inr (5, [.ref q_1, .int (nI t0), .int (nI k0), .ref (u_i_4 0), .ref (u_i_4 1), .ref (u_i_4 2), .ref (u_i_4 3), .int 0])), (q_1, .inr (1, [.int (nI p0), .int (nI q0), .int 0])), ((u_i_4 0), .inl (cA 0, k0, .inl (upd (fun _ => 0) (0 : Int32).toNatClampNeg 1))), (q_5, .inr (0, [.ref (u_i_6 0), .ref (u_i_6 1), .ref (u_i_6 2), .ref (u_i_6 3), .ref (u_i_6 4), .int 0])), ((u_i_6 0), .inl (cA 0, 600, .inl (fun _ => 0))), ((u_i_6 1), .inl (cA 0, 600, .inl (fun _ => 0))), ((u_i_6 2), .inl (cA 0, 600, .inl (fun _ => 0))), ((u_i_6 3), .inl (cA 2, 600, .inr (.inl (fun _ => 0)))), ((u_i_6 4), .inl (cA 2, 600, .inr (.inl (fun _ => 0)))), (q_9, .inl (cA 3, 5, .inr (.inr (.inr (.inr (va_up (va_up (va_up (fun _ => none) (0 : Int32).toNatClampNeg (some q_10)) (1 : Int32).toNatClampNeg (some q_12)) (2 : Int32).toNatClampNeg (some q_14))))))), (q_16, .inr (3, [.null, .null]))] H := hP
          have hD : va_D A [(h0, .inr (6, [.ref q_1, .ref q_3, .ref q_5, .int (nI c0), .ref q_7, .ref q_9, .null, .null, .null, .null, .null, .null, .int 0, .int 0, .int 0, .int 0, .int 0, .int 0, .int 0, .int 0])), (q_3, .inr (5, [.ref q_1, .int (nI t0), .int (nI k0), .ref (u_i_4 0), .ref (u_i_4 1), .ref (u_i_4 2), .ref (u_i_4 3), .int 0])), (q_1, .inr (1, [.int (nI p0), .int (nI q0), .int 0])), ((u_i_4 0), .inl (cA 0, k0, .inl (upd (fun _ => 0) (0 : Int32).toNatClampNeg 1))), (q_5, .inr (0, [.ref (u_i_6 0), .ref (u_i_6 1), .ref (u_i_6 2), .ref (u_i_6 3), .ref (u_i_6 4), .int 0])), ((u_i_6 0), .inl (cA 0, 600, .inl (fun _ => 0))), ((u_i_6 1), .inl (cA 0, 600, .inl (fun _ => 0))), ((u_i_6 2), .inl (cA 0, 600, .inl (fun _ => 0))), ((u_i_6 3), .inl (cA 2, 600, .inr (.inl (fun _ => 0)))), ((u_i_6 4), .inl (cA 2, 600, .inr (.inl (fun _ => 0)))), (q_9, .inl (cA 3, 5, .inr (.inr (.inr (.inr (va_up (va_up (va_up (fun _ => none) (0 : Int32).toNatClampNeg (some q_10)) (1 : Int32).toNatClampNeg (some q_12)) (2 : Int32).toNatClampNeg (some q_14))))))), (q_16, .inr (3, [.null, .null]))] := hD
          refine lv_dup hx hb dX7_init_119 rfl ?_
          have hPc := hP.sub (ws' := [(q_16, .inr (3, [.null, .null]))]) [11] rfl
          have hDc := hD.sub (ws' := [(q_16, .inr (3, [.null, .null]))]) [11] (by decide) rfl
          have hFc := va_free (wc := [(q_16, .inr (3, [.null, .null]))]) hD hS hA [11] rfl
          refine va_callv (va_runI (As := []) (rest := [.ref q_16, .int 3, .ref q_9]) ⟨hx, hb, hml, hown, hts⟩ (c_X4_init l D cA q_16 H.size) (cwI 0 hts gX7_init_X4_init rfl rfl rfl (hts (.initialized RX4) (by decide +kernel)) (hts (.methodLink RX7 61 yX4_init) (by decide +kernel)) (hts (.instanceMethod yX4_init) (by decide +kernel)) rfl (by decide +kernel) ⟨Nat.le_of_ble_eq_true rfl, Nat.le_of_ble_eq_true rfl⟩) ⟨in_blind, fun U hU hW => ⟨rfl, by rw [hU], by rw [hU]; exact hPc, va_K.moved hW.alike hK, hDc.weaken (fun _ _ _ _ => trivial), hX.moved hW.alike⟩⟩ rfl rfl hl.1 rfl (lv_room (Nat.le_of_ble_eq_true rfl)) dX7_init_120 ⟨Nat.le_of_ble_eq_true rfl, Nat.le_of_ble_eq_true rfl⟩) hS (fun q _ h => hFc q h) hFc (fun u t H1 locs ht hvm hw hB hz1 hk1 hS => ?_)
          obtain ⟨a_i_17, b_i_17⟩ := u
          obtain ⟨hP1, hK1, hD1⟩ := hB
          rw [ht] at hP1
          obtain _ := hw
          obtain ⟨hP, hD⟩ := va_join (wr := [(h0, .inr (6, [.ref q_1, .ref q_3, .ref q_5, .int (nI c0), .ref q_7, .ref q_9, .null, .null, .null, .null, .null, .null, .int 0, .int 0, .int 0, .int 0, .int 0, .int 0, .int 0, .int 0])), (q_3, .inr (5, [.ref q_1, .int (nI t0), .int (nI k0), .ref (u_i_4 0), .ref (u_i_4 1), .ref (u_i_4 2), .ref (u_i_4 3), .int 0])), (q_1, .inr (1, [.int (nI p0), .int (nI q0), .int 0])), ((u_i_4 0), .inl (cA 0, k0, .inl (upd (fun _ => 0) (0 : Int32).toNatClampNeg 1))), (q_5, .inr (0, [.ref (u_i_6 0), .ref (u_i_6 1), .ref (u_i_6 2), .ref (u_i_6 3), .ref (u_i_6 4), .int 0])), ((u_i_6 0), .inl (cA 0, 600, .inl (fun _ => 0))), ((u_i_6 1), .inl (cA 0, 600, .inl (fun _ => 0))), ((u_i_6 2), .inl (cA 0, 600, .inl (fun _ => 0))), ((u_i_6 3), .inl (cA 2, 600, .inr (.inl (fun _ => 0)))), ((u_i_6 4), .inl (cA 2, 600, .inr (.inl (fun _ => 0)))), (q_9, .inl (cA 3, 5, .inr (.inr (.inr (.inr (va_up (va_up (va_up (fun _ => none) (0 : Int32).toNatClampNeg (some q_10)) (1 : Int32).toNatClampNeg (some q_12)) (2 : Int32).toNatClampNeg (some q_14)))))))]) (w1 := [(q_16, .inr (3, [.ref a_i_17, .ref b_i_17])), (a_i_17, .inl (cA 0, 40, .inl (fun _ => -1))), (b_i_17, .inl (cA 0, 40, .inl (fun _ => -1)))]) hP hD [11] [0, 1, 2, 3, 4, 5, 6, 7, 8, 9, 10] rfl rfl (by decide) (by decide) hk1 hFc hP1 hD1
          generalize H1 = H at hP hS ⊢
          have hP : va_P D vwCl [(h0, .inr (6, [.ref q_1, .ref q_3, .ref q_5, .int (nI c0), .ref q_7, .ref q_9, .null, .null, .null, .null, .null, .null, .int 0, .int 0, .int 0, .int 0, .int 0, .int 0, .int 0, .int 0])), (q_3, .inr (5, [.ref q_1, .int (nI t0), .int (nI k0), .ref (u_i_4 0), .ref (u_i_4 1), .ref (u_i_4 2), .ref (u_i_4 3), .int 0])), (q_1, .inr (1, [.int (nI p0), .int (nI q0), .int 0])), ((u_i_4 0), .inl (cA 0, k0, .inl (upd (fun _ => 0) (0 : Int32).toNatClampNeg 1))), (q_5, .inr (0, [.ref (u_i_6 0), .ref (u_i_6 1), .ref (u_i_6 2), .ref (u_i_6 3), .ref (u_i_6 4), .int 0])), ((u_i_6 0), .inl (cA 0, 600, .inl (fun _ => 0))), ((u_i_6 1), .inl (cA 0, 600, .inl (fun _ => 0))), ((u_i_6 2), .inl (cA 0, 600, .inl (fun _ => 0))), ((u_i_6 3), .inl (cA 2, 600, .inr (.inl (fun _ => 0)))), ((u_i_6 4), .inl (cA 2, 600, .inr (.inl (fun _ => 0)))), (q_9, .inl (cA 3, 5, .inr (.inr (.inr (.inr (va_up (va_up (va_up (fun _ => none) (0 : Int32).toNatClampNeg (some q_10)) (1 : Int32).toNatClampNeg (some q_12)) (2 : Int32).toNatClampNeg (some q_14))))))), (q_16, .inr (3, [.ref a_i_17, .ref b_i_17])), (a_i_17, .inl (cA 0, 40, .inl (fun _ => -1))), (b_i_17, .inl (cA 0, 40, .inl (fun _ => -1)))] H := hP
          have hD : va_D A [(h0, .inr (6, [.ref q_1, .ref q_3, .ref q_5, .int (nI c0), .ref q_7, .ref q_9, .null, .null, .null, .null, .null, .null, .int 0, .int 0, .int 0, .int 0, .int 0, .int 0, .int 0, .int 0])), (q_3, .inr (5, [.ref q_1, .int (nI t0), .int (nI k0), .ref (u_i_4 0), .ref (u_i_4 1), .ref (u_i_4 2), .ref (u_i_4 3), .int 0])), (q_1, .inr (1, [.int (nI p0), .int (nI q0), .int 0])), ((u_i_4 0), .inl (cA 0, k0, .inl (upd (fun _ => 0) (0 : Int32).toNatClampNeg 1))), (q_5, .inr (0, [.ref (u_i_6 0), .ref (u_i_6 1), .ref (u_i_6 2), .ref (u_i_6 3), .ref (u_i_6 4), .int 0])), ((u_i_6 0), .inl (cA 0, 600, .inl (fun _ => 0))), ((u_i_6 1), .inl (cA 0, 600, .inl (fun _ => 0))), ((u_i_6 2), .inl (cA 0, 600, .inl (fun _ => 0))), ((u_i_6 3), .inl (cA 2, 600, .inr (.inl (fun _ => 0)))), ((u_i_6 4), .inl (cA 2, 600, .inr (.inl (fun _ => 0)))), (q_9, .inl (cA 3, 5, .inr (.inr (.inr (.inr (va_up (va_up (va_up (fun _ => none) (0 : Int32).toNatClampNeg (some q_10)) (1 : Int32).toNatClampNeg (some q_12)) (2 : Int32).toNatClampNeg (some q_14))))))), (q_16, .inr (3, [.ref a_i_17, .ref b_i_17])), (a_i_17, .inl (cA 0, 40, .inl (fun _ => -1))), (b_i_17, .inl (cA 0, 40, .inl (fun _ => -1)))] := hD
          refine W.widen (k := 34) (n := 3695) (by omega) (by omega) ?_
          refine va_astq (r := (RX4, TX4, 2)) hx hb hK hP hD hS 10 3 11 3 rfl rfl rfl rfl (vp_in_nI (n := 3) (by decide) (by decide)) dX7_init_123 (fun H locs hP hD hS => ?_)
          have hP : va_P D vwCl [(h0, .inr (6, [.ref q_1, .ref q_3, .ref q_5, .int (nI c0), .ref q_7, .ref q_9, .null, .null, .null, .null, .null, .null, .int 0, .int 0, .int 0, .int 0, .int 0, .int 0, .int 0, .int 0])), (q_3, .inr (5, [.ref q_1, .int (nI t0), .int (nI k0), .ref (u_i_4 0), .ref (u_i_4 1), .ref (u_i_4 2), .ref (u_i_4 3), .int 0])), (q_1, .inr (1, [.int (nI p0), .int (nI q0), .int 0])), ((u_i_4 0), .inl (cA 0, k0, .inl (upd (fun _ => 0) (0 : Int32).toNatClampNeg 1))), (q_5, .inr (0, [.ref (u_i_6 0), .ref (u_i_6 1), .ref (u_i_6 2), .ref (u_i_6 3), .ref (u_i_6 4), .int 0])), ((u_i_6 0), .inl (cA 0, 600, .inl (fun _ => 0))), ((u_i_6 1), .inl (cA 0, 600, .inl (fun _ => 0))), ((u_i_6 2), .inl (cA 0, 600, .inl (fun _ => 0))), ((u_i_6 3), .inl (cA 2, 600, .inr (.inl (fun _ => 0)))), ((u_i_6 4), .inl (cA 2, 600, .inr (.inl (fun _ => 0)))), (q_9, .inl (cA 3, 5, .inr (.inr (.inr (.inr (va_up (va_up (va_up (va_up (fun _ => none) (0 : Int32).toNatClampNeg (some q_10)) (1 : Int32).toNatClampNeg (some q_12)) (2 : Int32).toNatClampNeg (some q_14)) (3 : Int32).toNatClampNeg (some q_16))))))), (q_16, .inr (3, [.ref a_i_17, .ref b_i_17])), (a_i_17, .inl (cA 0, 40, .inl (fun _ => -1))), (b_i_17, .inl (cA 0, 40, .inl (fun _ => -1)))] H := hP
          have hD : va_D A [(h0, .inr (6, [.ref q_1, .ref q_3, .ref q_5, .int (nI c0), .ref q_7, .ref q_9, .null, .null, .null, .null, .null, .null, .int 0, .int 0, .int 0, .int 0, .int 0, .int 0, .int 0, .int 0])), (q_3, .inr (5, [.ref q_1, .int (nI t0), .int (nI k0), .ref (u_i_4 0), .ref (u_i_4 1), .ref (u_i_4 2), .ref (u_i_4 3), .int 0])), (q_1, .inr (1, [.int (nI p0), .int (nI q0), .int 0])), ((u_i_4 0), .inl (cA 0, k0, .inl (upd (fun _ => 0) (0 : Int32).toNatClampNeg 1))), (q_5, .inr (0, [.ref (u_i_6 0), .ref (u_i_6 1), .ref (u_i_6 2), .ref (u_i_6 3), .ref (u_i_6 4), .int 0])), ((u_i_6 0), .inl (cA 0, 600, .inl (fun _ => 0))), ((u_i_6 1), .inl (cA 0, 600, .inl (fun _ => 0))), ((u_i_6 2), .inl (cA 0, 600, .inl (fun _ => 0))), ((u_i_6 3), .inl (cA 2, 600, .inr (.inl (fun _ => 0)))), ((u_i_6 4), .inl (cA 2, 600, .inr (.inl (fun _ => 0)))), (q_9, .inl (cA 3, 5, .inr (.inr (.inr (.inr (va_up (va_up (va_up (va_up (fun _ => none) (0 : Int32).toNatClampNeg (some q_10)) (1 : Int32).toNatClampNeg (some q_12)) (2 : Int32).toNatClampNeg (some q_14)) (3 : Int32).toNatClampNeg (some q_16))))))), (q_16, .inr (3, [.ref a_i_17, .ref b_i_17])), (a_i_17, .inl (cA 0, 40, .inl (fun _ => -1))), (b_i_17, .inl (cA 0, 40, .inl (fun _ => -1)))] := hD
          have hP := hP.sub (ws' := [(h0, .inr (6, [.ref q_1, .ref q_3, .ref q_5, .int (nI c0), .ref q_7, .ref q_9, .null, .null, .null, .null, .null, .null, .int 0, .int 0, .int 0, .int 0, .int 0, .int 0, .int 0, .int 0])), (q_3, .inr (5, [.ref q_1, .int (nI t0), .int (nI k0), .ref (u_i_4 0), .ref (u_i_4 1), .ref (u_i_4 2), .ref (u_i_4 3), .int 0])), (q_1, .inr (1, [.int (nI p0), .int (nI q0), .int 0])), ((u_i_4 0), .inl (cA 0, k0, .inl (upd (fun _ => 0) (0 : Int32).toNatClampNeg 1))), (q_5, .inr (0, [.ref (u_i_6 0), .ref (u_i_6 1), .ref (u_i_6 2), .ref (u_i_6 3), .ref (u_i_6 4), .int 0])), ((u_i_6 0), .inl (cA 0, 600, .inl (fun _ => 0))), ((u_i_6 1), .inl (cA 0, 600, .inl (fun _ => 0))), ((u_i_6 2), .inl (cA 0, 600, .inl (fun _ => 0))), ((u_i_6 3), .inl (cA 2, 600, .inr (.inl (fun _ => 0)))), ((u_i_6 4), .inl (cA 2, 600, .inr (.inl (fun _ => 0)))), (q_9, .inl (cA 3, 5, .inr (.inr (.inr (.inr (va_up (va_up (va_up (va_up (fun _ => none) (0 : Int32).toNatClampNeg (some q_10)) (1 : Int32).toNatClampNeg (some q_12)) (2 : Int32).toNatClampNeg (some q_14)) (3 : Int32).toNatClampNeg (some q_16)))))))]) [0, 1, 2, 3, 4, 5, 6, 7, 8, 9, 10] rfl
          have hD := hD.sub (ws' := [(h0, .inr (6, [.ref q_1, .ref q_3, .ref q_5, .int (nI c0), .ref q_7, .ref q_9, .null, .null, .null, .null, .null, .null, .int 0, .int 0, .int 0, .int 0, .int 0, .int 0, .int 0, .int 0])), (q_3, .inr (5, [.ref q_1, .int (nI t0), .int (nI k0), .ref (u_i_4 0), .ref (u_i_4 1), .ref (u_i_4 2), .ref (u_i_4 3), .int 0])), (q_1, .inr (1, [.int (nI p0), .int (nI q0), .int 0])), ((u_i_4 0), .inl (cA 0, k0, .inl (upd (fun _ => 0) (0 : Int32).toNatClampNeg 1))), (q_5, .inr (0, [.ref (u_i_6 0), .ref (u_i_6 1), .ref (u_i_6 2), .ref (u_i_6 3), .ref (u_i_6 4), .int 0])), ((u_i_6 0), .inl (cA 0, 600, .inl (fun _ => 0))), ((u_i_6 1), .inl (cA 0, 600, .inl (fun _ => 0))), ((u_i_6 2), .inl (cA 0, 600, .inl (fun _ => 0))), ((u_i_6 3), .inl (cA 2, 600, .inr (.inl (fun _ => 0)))), ((u_i_6 4), .inl (cA 2, 600, .inr (.inl (fun _ => 0)))), (q_9, .inl (cA 3, 5, .inr (.inr (.inr (.inr (va_up (va_up (va_up (va_up (fun _ => none) (0 : Int32).toNatClampNeg (some q_10)) (1 : Int32).toNatClampNeg (some q_12)) (2 : Int32).toNatClampNeg (some q_14)) (3 : Int32).toNatClampNeg (some q_16)))))))]) [0, 1, 2, 3, 4, 5, 6, 7, 8, 9, 10] (by decide) rfl
          refine lv_iinc (v := 4) (lv' := [(5, .int 4), (0, .ref h0), (1, .int pr), (2, .int cn), (3, .int tr), (4, .int th)]) hx hb dX7_init_124 hl (k := 0) rfl (by decide) (by decide) rfl (fun ls hl => ?_)
          refine lv_goto (tgt := 100) hx hb dX7_init_127 (by decide) ?_
          refine lv_iload hx hb dX7_init_100 (lv_at hl 0 rfl) ?_
          refine lv_aload_n hx hb dX7_init_102 rfl (lv_at hl 1 rfl) ?_
          refine va_get (D := D) (ci := 6) (v := .ref q_9) (C := RX7) (T := TX7) (N := 20) hx hb hts hin_X7 hown hK hP 0 rfl rfl 5 (by decide) (w_RX7_66) (fun _ h9 => h9) rfl dX7_init_103 ?_
          refine va_alen (v := 5) hx hb hK hP 10 3 rfl rfl rfl dX7_init_106 ?_
          refine lv_icmp_ge (tgt := 130) hx hb dX7_init_107 (by decide) (fun c_107 => ?_) (fun c_107 => ?_)
          · exact absurd c_107 (by decide)
          · skip
            refine lv_aload_n hx hb dX7_init_110 rfl (lv_at hl 1 rfl) ?_
            refine va_get (D := D) (ci := 6) (v := .ref q_9) (C := RX7) (T := TX7) (N := 20) hx hb hts hin_X7 hown hK hP 0 rfl rfl 5 (by decide) (w_RX7_66) (fun _ h9 => h9) rfl dX7_init_111 ?_
            refine lv_iload hx hb dX7_init_114 (lv_at hl 0 rfl) ?_
            refine va_new (ci := 3) (fs := [.null, .null]) (C := RX4) (T := TX4) (N := 2) hx hb hts hin_X4 tyX4 tyX4_ok hown (hts (.classLink RX7 59 RX4) (by decide +kernel)) (hts (.instantiable RX4 2) (by decide +kernel)) (hts (.initialized RX4) (by decide +kernel)) hK hP hD hS hA rfl (fun j hj => by rcases (show j = 0 ∨ j = 1 by omega) with rfl | rfl <;> rfl) (Nat.le_of_ble_eq_true rfl) (Nat.le_of_ble_eq_true rfl) dX7_init_116 (fun q_18 H hP hD hS => ?_)
            refine W.widen (k := 35) (n := 3697) (by omega) (by omega) ?_
            have hP : va_P D vwCl [(h0, .inr (6, [.ref q_1, .ref q_3, .ref q_5, .int (nI c0), .ref q_7, .ref q_9, .null, .null, .null, .null, .null, .null, .int 0, .int 0, .int 0, .int 0, .int 0, .int 0, .int 0, .int 0])), (q_3, .inr (5, [.ref q_1, .int (nI t0), .int (nI k0), .ref (u_i_4 0), .ref (u_i_4 1), .ref (u_i_4 2), .ref (u_i_4 3), .int 0])), (q_1, .inr (1, [.int (nI p0), .int (nI q0), .int 0])), ((u_i_4 0), .inl (cA 0, k0, .inl (upd (fun _ => 0) (0 : Int32).toNatClampNeg 1))), (q_5, .inr (0, [.ref (u_i_6 0), .ref (u_i_6 1), .ref (u_i_6 2), .ref (u_i_6 3), .ref (u_i_6 4), .int 0])), ((u_i_6 0), .inl (cA 0, 600, .inl (fun _ => 0))), ((u_i_6 1), .inl (cA 0, 600, .inl (fun _ => 0))), ((u_i_6 2), .inl (cA 0, 600, .inl (fun _ => 0))), ((u_i_6 3), .inl (cA 2, 600, .inr (.inl (fun _ => 0)))), ((u_i_6 4), .inl (cA 2, 600, .inr (.inl (fun _ => 0)))), (q_9, .inl (cA 3, 5, .inr (.inr (.inr (.inr (va_up (va_up (va_up (va_up (fun _ => none) (0 : Int32).toNatClampNeg (some q_10)) (1 : Int32).toNatClampNeg (some q_12)) (2 : Int32).toNatClampNeg (some q_14)) (3 : Int32).toNatClampNeg (some q_16))))))), (q_18, .inr (3, [.null, .null]))] H := hP
            have hD : va_D A [(h0, .inr (6, [.ref q_1, .ref q_3, .ref q_5, .int (nI c0), .ref q_7, .ref q_9, .null, .null, .null, .null, .null, .null, .int 0, .int 0, .int 0, .int 0, .int 0, .int 0, .int 0, .int 0])), (q_3, .inr (5, [.ref q_1, .int (nI t0), .int (nI k0), .ref (u_i_4 0), .ref (u_i_4 1), .ref (u_i_4 2), .ref (u_i_4 3), .int 0])), (q_1, .inr (1, [.int (nI p0), .int (nI q0), .int 0])), ((u_i_4 0), .inl (cA 0, k0, .inl (upd (fun _ => 0) (0 : Int32).toNatClampNeg 1))), (q_5, .inr (0, [.ref (u_i_6 0), .ref (u_i_6 1), .ref (u_i_6 2), .ref (u_i_6 3), .ref (u_i_6 4), .int 0])), ((u_i_6 0), .inl (cA 0, 600, .inl (fun _ => 0))), ((u_i_6 1), .inl (cA 0, 600, .inl (fun _ => 0))), ((u_i_6 2), .inl (cA 0, 600, .inl (fun _ => 0))), ((u_i_6 3), .inl (cA 2, 600, .inr (.inl (fun _ => 0)))), ((u_i_6 4), .inl (cA 2, 600, .inr (.inl (fun _ => 0)))), (q_9, .inl (cA 3, 5, .inr (.inr (.inr (.inr (va_up (va_up (va_up (va_up (fun _ => none) (0 : Int32).toNatClampNeg (some q_10)) (1 : Int32).toNatClampNeg (some q_12)) (2 : Int32).toNatClampNeg (some q_14)) (3 : Int32).toNatClampNeg (some q_16))))))), (q_18, .inr (3, [.null, .null]))] := hD
            refine lv_dup hx hb dX7_init_119 rfl ?_
            have hPc := hP.sub (ws' := [(q_18, .inr (3, [.null, .null]))]) [11] rfl
            have hDc := hD.sub (ws' := [(q_18, .inr (3, [.null, .null]))]) [11] (by decide) rfl
            have hFc := va_free (wc := [(q_18, .inr (3, [.null, .null]))]) hD hS hA [11] rfl
            refine va_callv (va_runI (As := []) (rest := [.ref q_18, .int 4, .ref q_9]) ⟨hx, hb, hml, hown, hts⟩ (c_X4_init l D cA q_18 H.size) (cwI 0 hts gX7_init_X4_init rfl rfl rfl (hts (.initialized RX4) (by decide +kernel)) (hts (.methodLink RX7 61 yX4_init) (by decide +kernel)) (hts (.instanceMethod yX4_init) (by decide +kernel)) rfl (by decide +kernel) ⟨Nat.le_of_ble_eq_true rfl, Nat.le_of_ble_eq_true rfl⟩) ⟨in_blind, fun U hU hW => ⟨rfl, by rw [hU], by rw [hU]; exact hPc, va_K.moved hW.alike hK, hDc.weaken (fun _ _ _ _ => trivial), hX.moved hW.alike⟩⟩ rfl rfl hl.1 rfl (lv_room (Nat.le_of_ble_eq_true rfl)) dX7_init_120 ⟨Nat.le_of_ble_eq_true rfl, Nat.le_of_ble_eq_true rfl⟩) hS (fun q _ h => hFc q h) hFc (fun u t H1 locs ht hvm hw hB hz1 hk1 hS => ?_)
            obtain ⟨a_i_19, b_i_19⟩ := u
            obtain ⟨hP1, hK1, hD1⟩ := hB
            rw [ht] at hP1
            obtain _ := hw
            obtain ⟨hP, hD⟩ := va_join (wr := [(h0, .inr (6, [.ref q_1, .ref q_3, .ref q_5, .int (nI c0), .ref q_7, .ref q_9, .null, .null, .null, .null, .null, .null, .int 0, .int 0, .int 0, .int 0, .int 0, .int 0, .int 0, .int 0])), (q_3, .inr (5, [.ref q_1, .int (nI t0), .int (nI k0), .ref (u_i_4 0), .ref (u_i_4 1), .ref (u_i_4 2), .ref (u_i_4 3), .int 0])), (q_1, .inr (1, [.int (nI p0), .int (nI q0), .int 0])), ((u_i_4 0), .inl (cA 0, k0, .inl (upd (fun _ => 0) (0 : Int32).toNatClampNeg 1))), (q_5, .inr (0, [.ref (u_i_6 0), .ref (u_i_6 1), .ref (u_i_6 2), .ref (u_i_6 3), .ref (u_i_6 4), .int 0])), ((u_i_6 0), .inl (cA 0, 600, .inl (fun _ => 0))), ((u_i_6 1), .inl (cA 0, 600, .inl (fun _ => 0))), ((u_i_6 2), .inl (cA 0, 600, .inl (fun _ => 0))), ((u_i_6 3), .inl (cA 2, 600, .inr (.inl (fun _ => 0)))), ((u_i_6 4), .inl (cA 2, 600, .inr (.inl (fun _ => 0)))), (q_9, .inl (cA 3, 5, .inr (.inr (.inr (.inr (va_up (va_up (va_up (va_up (fun _ => none) (0 : Int32).toNatClampNeg (some q_10)) (1 : Int32).toNatClampNeg (some q_12)) (2 : Int32).toNatClampNeg (some q_14)) (3 : Int32).toNatClampNeg (some q_16)))))))]) (w1 := [(q_18, .inr (3, [.ref a_i_19, .ref b_i_19])), (a_i_19, .inl (cA 0, 40, .inl (fun _ => -1))), (b_i_19, .inl (cA 0, 40, .inl (fun _ => -1)))]) hP hD [11] [0, 1, 2, 3, 4, 5, 6, 7, 8, 9, 10] rfl rfl (by decide) (by decide) hk1 hFc hP1 hD1
            generalize H1 = H at hP hS ⊢
            have hP : va_P D vwCl [(h0, .inr (6, [.ref q_1, .ref q_3, .ref q_5, .int (nI c0), .ref q_7, .ref q_9, .null, .null, .null, .null, .null, .null, .int 0, .int 0, .int 0, .int 0, .int 0, .int 0, .int 0, .int 0])), (q_3, .inr (5, [.ref q_1, .int (nI t0), .int (nI k0), .ref (u_i_4 0), .ref (u_i_4 1), .ref (u_i_4 2), .ref (u_i_4 3), .int 0])), (q_1, .inr (1, [.int (nI p0), .int (nI q0), .int 0])), ((u_i_4 0), .inl (cA 0, k0, .inl (upd (fun _ => 0) (0 : Int32).toNatClampNeg 1))), (q_5, .inr (0, [.ref (u_i_6 0), .ref (u_i_6 1), .ref (u_i_6 2), .ref (u_i_6 3), .ref (u_i_6 4), .int 0])), ((u_i_6 0), .inl (cA 0, 600, .inl (fun _ => 0))), ((u_i_6 1), .inl (cA 0, 600, .inl (fun _ => 0))), ((u_i_6 2), .inl (cA 0, 600, .inl (fun _ => 0))), ((u_i_6 3), .inl (cA 2, 600, .inr (.inl (fun _ => 0)))), ((u_i_6 4), .inl (cA 2, 600, .inr (.inl (fun _ => 0)))), (q_9, .inl (cA 3, 5, .inr (.inr (.inr (.inr (va_up (va_up (va_up (va_up (fun _ => none) (0 : Int32).toNatClampNeg (some q_10)) (1 : Int32).toNatClampNeg (some q_12)) (2 : Int32).toNatClampNeg (some q_14)) (3 : Int32).toNatClampNeg (some q_16))))))), (q_18, .inr (3, [.ref a_i_19, .ref b_i_19])), (a_i_19, .inl (cA 0, 40, .inl (fun _ => -1))), (b_i_19, .inl (cA 0, 40, .inl (fun _ => -1)))] H := hP
            have hD : va_D A [(h0, .inr (6, [.ref q_1, .ref q_3, .ref q_5, .int (nI c0), .ref q_7, .ref q_9, .null, .null, .null, .null, .null, .null, .int 0, .int 0, .int 0, .int 0, .int 0, .int 0, .int 0, .int 0])), (q_3, .inr (5, [.ref q_1, .int (nI t0), .int (nI k0), .ref (u_i_4 0), .ref (u_i_4 1), .ref (u_i_4 2), .ref (u_i_4 3), .int 0])), (q_1, .inr (1, [.int (nI p0), .int (nI q0), .int 0])), ((u_i_4 0), .inl (cA 0, k0, .inl (upd (fun _ => 0) (0 : Int32).toNatClampNeg 1))), (q_5, .inr (0, [.ref (u_i_6 0), .ref (u_i_6 1), .ref (u_i_6 2), .ref (u_i_6 3), .ref (u_i_6 4), .int 0])), ((u_i_6 0), .inl (cA 0, 600, .inl (fun _ => 0))), ((u_i_6 1), .inl (cA 0, 600, .inl (fun _ => 0))), ((u_i_6 2), .inl (cA 0, 600, .inl (fun _ => 0))), ((u_i_6 3), .inl (cA 2, 600, .inr (.inl (fun _ => 0)))), ((u_i_6 4), .inl (cA 2, 600, .inr (.inl (fun _ => 0)))), (q_9, .inl (cA 3, 5, .inr (.inr (.inr (.inr (va_up (va_up (va_up (va_up (fun _ => none) (0 : Int32).toNatClampNeg (some q_10)) (1 : Int32).toNatClampNeg (some q_12)) (2 : Int32).toNatClampNeg (some q_14)) (3 : Int32).toNatClampNeg (some q_16))))))), (q_18, .inr (3, [.ref a_i_19, .ref b_i_19])), (a_i_19, .inl (cA 0, 40, .inl (fun _ => -1))), (b_i_19, .inl (cA 0, 40, .inl (fun _ => -1)))] := hD
            refine W.widen (k := 37) (n := 3777) (by omega) (by omega) ?_
            refine va_astq (r := (RX4, TX4, 2)) hx hb hK hP hD hS 10 3 11 3 rfl rfl rfl rfl (vp_in_nI (n := 4) (by decide) (by decide)) dX7_init_123 (fun H locs hP hD hS => ?_)
            have hP : va_P D vwCl [(h0, .inr (6, [.ref q_1, .ref q_3, .ref q_5, .int (nI c0), .ref q_7, .ref q_9, .null, .null, .null, .null, .null, .null, .int 0, .int 0, .int 0, .int 0, .int 0, .int 0, .int 0, .int 0])), (q_3, .inr (5, [.ref q_1, .int (nI t0), .int (nI k0), .ref (u_i_4 0), .ref (u_i_4 1), .ref (u_i_4 2), .ref (u_i_4 3), .int 0])), (q_1, .inr (1, [.int (nI p0), .int (nI q0), .int 0])), ((u_i_4 0), .inl (cA 0, k0, .inl (upd (fun _ => 0) (0 : Int32).toNatClampNeg 1))), (q_5, .inr (0, [.ref (u_i_6 0), .ref (u_i_6 1), .ref (u_i_6 2), .ref (u_i_6 3), .ref (u_i_6 4), .int 0])), ((u_i_6 0), .inl (cA 0, 600, .inl (fun _ => 0))), ((u_i_6 1), .inl (cA 0, 600, .inl (fun _ => 0))), ((u_i_6 2), .inl (cA 0, 600, .inl (fun _ => 0))), ((u_i_6 3), .inl (cA 2, 600, .inr (.inl (fun _ => 0)))), ((u_i_6 4), .inl (cA 2, 600, .inr (.inl (fun _ => 0)))), (q_9, .inl (cA 3, 5, .inr (.inr (.inr (.inr (va_up (va_up (va_up (va_up (va_up (fun _ => none) (0 : Int32).toNatClampNeg (some q_10)) (1 : Int32).toNatClampNeg (some q_12)) (2 : Int32).toNatClampNeg (some q_14)) (3 : Int32).toNatClampNeg (some q_16)) (4 : Int32).toNatClampNeg (some q_18))))))), (q_18, .inr (3, [.ref a_i_19, .ref b_i_19])), (a_i_19, .inl (cA 0, 40, .inl (fun _ => -1))), (b_i_19, .inl (cA 0, 40, .inl (fun _ => -1)))] H := hP
            have hD : va_D A [(h0, .inr (6, [.ref q_1, .ref q_3, .ref q_5, .int (nI c0), .ref q_7, .ref q_9, .null, .null, .null, .null, .null, .null, .int 0, .int 0, .int 0, .int 0, .int 0, .int 0, .int 0, .int 0])), (q_3, .inr (5, [.ref q_1, .int (nI t0), .int (nI k0), .ref (u_i_4 0), .ref (u_i_4 1), .ref (u_i_4 2), .ref (u_i_4 3), .int 0])), (q_1, .inr (1, [.int (nI p0), .int (nI q0), .int 0])), ((u_i_4 0), .inl (cA 0, k0, .inl (upd (fun _ => 0) (0 : Int32).toNatClampNeg 1))), (q_5, .inr (0, [.ref (u_i_6 0), .ref (u_i_6 1), .ref (u_i_6 2), .ref (u_i_6 3), .ref (u_i_6 4), .int 0])), ((u_i_6 0), .inl (cA 0, 600, .inl (fun _ => 0))), ((u_i_6 1), .inl (cA 0, 600, .inl (fun _ => 0))), ((u_i_6 2), .inl (cA 0, 600, .inl (fun _ => 0))), ((u_i_6 3), .inl (cA 2, 600, .inr (.inl (fun _ => 0)))), ((u_i_6 4), .inl (cA 2, 600, .inr (.inl (fun _ => 0)))), (q_9, .inl (cA 3, 5, .inr (.inr (.inr (.inr (va_up (va_up (va_up (va_up (va_up (fun _ => none) (0 : Int32).toNatClampNeg (some q_10)) (1 : Int32).toNatClampNeg (some q_12)) (2 : Int32).toNatClampNeg (some q_14)) (3 : Int32).toNatClampNeg (some q_16)) (4 : Int32).toNatClampNeg (some q_18))))))), (q_18, .inr (3, [.ref a_i_19, .ref b_i_19])), (a_i_19, .inl (cA 0, 40, .inl (fun _ => -1))), (b_i_19, .inl (cA 0, 40, .inl (fun _ => -1)))] := hD
            have hP := hP.sub (ws' := [(h0, .inr (6, [.ref q_1, .ref q_3, .ref q_5, .int (nI c0), .ref q_7, .ref q_9, .null, .null, .null, .null, .null, .null, .int 0, .int 0, .int 0, .int 0, .int 0, .int 0, .int 0, .int 0])), (q_3, .inr (5, [.ref q_1, .int (nI t0), .int (nI k0), .ref (u_i_4 0), .ref (u_i_4 1), .ref (u_i_4 2), .ref (u_i_4 3), .int 0])), (q_1, .inr (1, [.int (nI p0), .int (nI q0), .int 0])), ((u_i_4 0), .inl (cA 0, k0, .inl (upd (fun _ => 0) (0 : Int32).toNatClampNeg 1))), (q_5, .inr (0, [.ref (u_i_6 0), .ref (u_i_6 1), .ref (u_i_6 2), .ref (u_i_6 3), .ref (u_i_6 4), .int 0])), ((u_i_6 0), .inl (cA 0, 600, .inl (fun _ => 0))), ((u_i_6 1), .inl (cA 0, 600, .inl (fun _ => 0))), ((u_i_6 2), .inl (cA 0, 600, .inl (fun _ => 0))), ((u_i_6 3), .inl (cA 2, 600, .inr (.inl (fun _ => 0)))), ((u_i_6 4), .inl (cA 2, 600, .inr (.inl (fun _ => 0)))), (q_9, .inl (cA 3, 5, .inr (.inr (.inr (.inr (va_up (va_up (va_up (va_up (va_up (fun _ => none) (0 : Int32).toNatClampNeg (some q_10)) (1 : Int32).toNatClampNeg (some q_12)) (2 : Int32).toNatClampNeg (some q_14)) (3 : Int32).toNatClampNeg (some q_16)) (4 : Int32).toNatClampNeg (some q_18)))))))]) [0, 1, 2, 3, 4, 5, 6, 7, 8, 9, 10] rfl
            have hD := hD.sub (ws' := [(h0, .inr (6, [.ref q_1, .ref q_3, .ref q_5, .int (nI c0), .ref q_7, .ref q_9, .null, .null, .null, .null, .null, .null, .int 0, .int 0, .int 0, .int 0, .int 0, .int 0, .int 0, .int 0])), (q_3, .inr (5, [.ref q_1, .int (nI t0), .int (nI k0), .ref (u_i_4 0), .ref (u_i_4 1), .ref (u_i_4 2), .ref (u_i_4 3), .int 0])), (q_1, .inr (1, [.int (nI p0), .int (nI q0), .int 0])), ((u_i_4 0), .inl (cA 0, k0, .inl (upd (fun _ => 0) (0 : Int32).toNatClampNeg 1))), (q_5, .inr (0, [.ref (u_i_6 0), .ref (u_i_6 1), .ref (u_i_6 2), .ref (u_i_6 3), .ref (u_i_6 4), .int 0])), ((u_i_6 0), .inl (cA 0, 600, .inl (fun _ => 0))), ((u_i_6 1), .inl (cA 0, 600, .inl (fun _ => 0))), ((u_i_6 2), .inl (cA 0, 600, .inl (fun _ => 0))), ((u_i_6 3), .inl (cA 2, 600, .inr (.inl (fun _ => 0)))), ((u_i_6 4), .inl (cA 2, 600, .inr (.inl (fun _ => 0)))), (q_9, .inl (cA 3, 5, .inr (.inr (.inr (.inr (va_up (va_up (va_up (va_up (va_up (fun _ => none) (0 : Int32).toNatClampNeg (some q_10)) (1 : Int32).toNatClampNeg (some q_12)) (2 : Int32).toNatClampNeg (some q_14)) (3 : Int32).toNatClampNeg (some q_16)) (4 : Int32).toNatClampNeg (some q_18)))))))]) [0, 1, 2, 3, 4, 5, 6, 7, 8, 9, 10] (by decide) rfl
            refine lv_iinc (v := 5) (lv' := [(5, .int 5), (0, .ref h0), (1, .int pr), (2, .int cn), (3, .int tr), (4, .int th)]) hx hb dX7_init_124 hl (k := 0) rfl (by decide) (by decide) rfl (fun ls hl => ?_)
            refine lv_goto (tgt := 100) hx hb dX7_init_127 (by decide) ?_
            refine lv_iload hx hb dX7_init_100 (lv_at hl 0 rfl) ?_
            refine lv_aload_n hx hb dX7_init_102 rfl (lv_at hl 1 rfl) ?_
            refine va_get (D := D) (ci := 6) (v := .ref q_9) (C := RX7) (T := TX7) (N := 20) hx hb hts hin_X7 hown hK hP 0 rfl rfl 5 (by decide) (w_RX7_66) (fun _ h9 => h9) rfl dX7_init_103 ?_
            refine va_alen (v := 5) hx hb hK hP 10 3 rfl rfl rfl dX7_init_106 ?_
            refine lv_icmp_ge (tgt := 130) hx hb dX7_init_107 (by decide) (fun c_107 => ?_) (fun c_107 => ?_)
            · skip
              refine lv_aload_n hx hb dX7_init_130 rfl (lv_at hl 1 rfl) ?_
              refine va_new (ci := 3) (fs := [.null, .null]) (C := RX4) (T := TX4) (N := 2) hx hb hts hin_X4 tyX4 tyX4_ok hown (hts (.classLink RX7 59 RX4) (by decide +kernel)) (hts (.instantiable RX4 2) (by decide +kernel)) (hts (.initialized RX4) (by decide +kernel)) hK hP hD hS hA rfl (fun j hj => by rcases (show j = 0 ∨ j = 1 by omega) with rfl | rfl <;> rfl) (Nat.le_of_ble_eq_true rfl) (Nat.le_of_ble_eq_true rfl) dX7_init_131 (fun q_20 H hP hD hS => ?_)
              refine W.widen (k := 38) (n := 3779) (by omega) (by omega) ?_
              have hP : va_P D vwCl [(h0, .inr (6, [.ref q_1, .ref q_3, .ref q_5, .int (nI c0), .ref q_7, .ref q_9, .null, .null, .null, .null, .null, .null, .int 0, .int 0, .int 0, .int 0, .int 0, .int 0, .int 0, .int 0])), (q_3, .inr (5, [.ref q_1, .int (nI t0), .int (nI k0), .ref (u_i_4 0), .ref (u_i_4 1), .ref (u_i_4 2), .ref (u_i_4 3), .int 0])), (q_1, .inr (1, [.int (nI p0), .int (nI q0), .int 0])), ((u_i_4 0), .inl (cA 0, k0, .inl (upd (fun _ => 0) (0 : Int32).toNatClampNeg 1))), (q_5, .inr (0, [.ref (u_i_6 0), .ref (u_i_6 1), .ref (u_i_6 2), .ref (u_i_6 3), .ref (u_i_6 4), .int 0])), ((u_i_6 0), .inl (cA 0, 600, .inl (fun _ => 0))), ((u_i_6 1), .inl (cA 0, 600, .inl (fun _ => 0))), ((u_i_6 2), .inl (cA 0, 600, .inl (fun _ => 0))), ((u_i_6 3), .inl (cA 2, 600, .inr (.inl (fun _ => 0)))), ((u_i_6 4), .inl (cA 2, 600, .inr (.inl (fun _ => 0)))), (q_9, .inl (cA 3, 5, .inr (.inr (.inr (.inr (va_up (va_up (va_up (va_up (va_up (fun _ => none) (0 : Int32).toNatClampNeg (some q_10)) (1 : Int32).toNatClampNeg (some q_12)) (2 : Int32).toNatClampNeg (some q_14)) (3 : Int32).toNatClampNeg (some q_16)) (4 : Int32).toNatClampNeg (some q_18))))))), (q_20, .inr (3, [.null, .null]))] H := hP
              have hD : va_D A [(h0, .inr (6, [.ref q_1, .ref q_3, .ref q_5, .int (nI c0), .ref q_7, .ref q_9, .null, .null, .null, .null, .null, .null, .int 0, .int 0, .int 0, .int 0, .int 0, .int 0, .int 0, .int 0])), (q_3, .inr (5, [.ref q_1, .int (nI t0), .int (nI k0), .ref (u_i_4 0), .ref (u_i_4 1), .ref (u_i_4 2), .ref (u_i_4 3), .int 0])), (q_1, .inr (1, [.int (nI p0), .int (nI q0), .int 0])), ((u_i_4 0), .inl (cA 0, k0, .inl (upd (fun _ => 0) (0 : Int32).toNatClampNeg 1))), (q_5, .inr (0, [.ref (u_i_6 0), .ref (u_i_6 1), .ref (u_i_6 2), .ref (u_i_6 3), .ref (u_i_6 4), .int 0])), ((u_i_6 0), .inl (cA 0, 600, .inl (fun _ => 0))), ((u_i_6 1), .inl (cA 0, 600, .inl (fun _ => 0))), ((u_i_6 2), .inl (cA 0, 600, .inl (fun _ => 0))), ((u_i_6 3), .inl (cA 2, 600, .inr (.inl (fun _ => 0)))), ((u_i_6 4), .inl (cA 2, 600, .inr (.inl (fun _ => 0)))), (q_9, .inl (cA 3, 5, .inr (.inr (.inr (.inr (va_up (va_up (va_up (va_up (va_up (fun _ => none) (0 : Int32).toNatClampNeg (some q_10)) (1 : Int32).toNatClampNeg (some q_12)) (2 : Int32).toNatClampNeg (some q_14)) (3 : Int32).toNatClampNeg (some q_16)) (4 : Int32).toNatClampNeg (some q_18))))))), (q_20, .inr (3, [.null, .null]))] := hD
              refine lv_dup hx hb dX7_init_134 rfl ?_
              have hPc := hP.sub (ws' := [(q_20, .inr (3, [.null, .null]))]) [11] rfl
              have hDc := hD.sub (ws' := [(q_20, .inr (3, [.null, .null]))]) [11] (by decide) rfl
              have hFc := va_free (wc := [(q_20, .inr (3, [.null, .null]))]) hD hS hA [11] rfl
              refine va_callv (va_runI (As := []) (rest := [.ref q_20, .ref h0]) ⟨hx, hb, hml, hown, hts⟩ (c_X4_init l D cA q_20 H.size) (cwI 0 hts gX7_init_X4_init rfl rfl rfl (hts (.initialized RX4) (by decide +kernel)) (hts (.methodLink RX7 61 yX4_init) (by decide +kernel)) (hts (.instanceMethod yX4_init) (by decide +kernel)) rfl (by decide +kernel) ⟨Nat.le_of_ble_eq_true rfl, Nat.le_of_ble_eq_true rfl⟩) ⟨in_blind, fun U hU hW => ⟨rfl, by rw [hU], by rw [hU]; exact hPc, va_K.moved hW.alike hK, hDc.weaken (fun _ _ _ _ => trivial), hX.moved hW.alike⟩⟩ rfl rfl hl.1 rfl (lv_room (Nat.le_of_ble_eq_true rfl)) dX7_init_135 ⟨Nat.le_of_ble_eq_true rfl, Nat.le_of_ble_eq_true rfl⟩) hS (fun q _ h => hFc q h) hFc (fun u t H1 locs ht hvm hw hB hz1 hk1 hS => ?_)
              obtain ⟨a_i_21, b_i_21⟩ := u
              obtain ⟨hP1, hK1, hD1⟩ := hB
              rw [ht] at hP1
              obtain _ := hw
              obtain ⟨hP, hD⟩ := va_join (wr := [(h0, .inr (6, [.ref q_1, .ref q_3, .ref q_5, .int (nI c0), .ref q_7, .ref q_9, .null, .null, .null, .null, .null, .null, .int 0, .int 0, .int 0, .int 0, .int 0, .int 0, .int 0, .int 0])), (q_3, .inr (5, [.ref q_1, .int (nI t0), .int (nI k0), .ref (u_i_4 0), .ref (u_i_4 1), .ref (u_i_4 2), .ref (u_i_4 3), .int 0])), (q_1, .inr (1, [.int (nI p0), .int (nI q0), .int 0])), ((u_i_4 0), .inl (cA 0, k0, .inl (upd (fun _ => 0) (0 : Int32).toNatClampNeg 1))), (q_5, .inr (0, [.ref (u_i_6 0), .ref (u_i_6 1), .ref (u_i_6 2), .ref (u_i_6 3), .ref (u_i_6 4), .int 0])), ((u_i_6 0), .inl (cA 0, 600, .inl (fun _ => 0))), ((u_i_6 1), .inl (cA 0, 600, .inl (fun _ => 0))), ((u_i_6 2), .inl (cA 0, 600, .inl (fun _ => 0))), ((u_i_6 3), .inl (cA 2, 600, .inr (.inl (fun _ => 0)))), ((u_i_6 4), .inl (cA 2, 600, .inr (.inl (fun _ => 0)))), (q_9, .inl (cA 3, 5, .inr (.inr (.inr (.inr (va_up (va_up (va_up (va_up (va_up (fun _ => none) (0 : Int32).toNatClampNeg (some q_10)) (1 : Int32).toNatClampNeg (some q_12)) (2 : Int32).toNatClampNeg (some q_14)) (3 : Int32).toNatClampNeg (some q_16)) (4 : Int32).toNatClampNeg (some q_18)))))))]) (w1 := [(q_20, .inr (3, [.ref a_i_21, .ref b_i_21])), (a_i_21, .inl (cA 0, 40, .inl (fun _ => -1))), (b_i_21, .inl (cA 0, 40, .inl (fun _ => -1)))]) hP hD [11] [0, 1, 2, 3, 4, 5, 6, 7, 8, 9, 10] rfl rfl (by decide) (by decide) hk1 hFc hP1 hD1
              generalize H1 = H at hP hS ⊢
              have hP : va_P D vwCl [(h0, .inr (6, [.ref q_1, .ref q_3, .ref q_5, .int (nI c0), .ref q_7, .ref q_9, .null, .null, .null, .null, .null, .null, .int 0, .int 0, .int 0, .int 0, .int 0, .int 0, .int 0, .int 0])), (q_3, .inr (5, [.ref q_1, .int (nI t0), .int (nI k0), .ref (u_i_4 0), .ref (u_i_4 1), .ref (u_i_4 2), .ref (u_i_4 3), .int 0])), (q_1, .inr (1, [.int (nI p0), .int (nI q0), .int 0])), ((u_i_4 0), .inl (cA 0, k0, .inl (upd (fun _ => 0) (0 : Int32).toNatClampNeg 1))), (q_5, .inr (0, [.ref (u_i_6 0), .ref (u_i_6 1), .ref (u_i_6 2), .ref (u_i_6 3), .ref (u_i_6 4), .int 0])), ((u_i_6 0), .inl (cA 0, 600, .inl (fun _ => 0))), ((u_i_6 1), .inl (cA 0, 600, .inl (fun _ => 0))), ((u_i_6 2), .inl (cA 0, 600, .inl (fun _ => 0))), ((u_i_6 3), .inl (cA 2, 600, .inr (.inl (fun _ => 0)))), ((u_i_6 4), .inl (cA 2, 600, .inr (.inl (fun _ => 0)))), (q_9, .inl (cA 3, 5, .inr (.inr (.inr (.inr (va_up (va_up (va_up (va_up (va_up (fun _ => none) (0 : Int32).toNatClampNeg (some q_10)) (1 : Int32).toNatClampNeg (some q_12)) (2 : Int32).toNatClampNeg (some q_14)) (3 : Int32).toNatClampNeg (some q_16)) (4 : Int32).toNatClampNeg (some q_18))))))), (q_20, .inr (3, [.ref a_i_21, .ref b_i_21])), (a_i_21, .inl (cA 0, 40, .inl (fun _ => -1))), (b_i_21, .inl (cA 0, 40, .inl (fun _ => -1)))] H := hP
              have hD : va_D A [(h0, .inr (6, [.ref q_1, .ref q_3, .ref q_5, .int (nI c0), .ref q_7, .ref q_9, .null, .null, .null, .null, .null, .null, .int 0, .int 0, .int 0, .int 0, .int 0, .int 0, .int 0, .int 0])), (q_3, .inr (5, [.ref q_1, .int (nI t0), .int (nI k0), .ref (u_i_4 0), .ref (u_i_4 1), .ref (u_i_4 2), .ref (u_i_4 3), .int 0])), (q_1, .inr (1, [.int (nI p0), .int (nI q0), .int 0])), ((u_i_4 0), .inl (cA 0, k0, .inl (upd (fun _ => 0) (0 : Int32).toNatClampNeg 1))), (q_5, .inr (0, [.ref (u_i_6 0), .ref (u_i_6 1), .ref (u_i_6 2), .ref (u_i_6 3), .ref (u_i_6 4), .int 0])), ((u_i_6 0), .inl (cA 0, 600, .inl (fun _ => 0))), ((u_i_6 1), .inl (cA 0, 600, .inl (fun _ => 0))), ((u_i_6 2), .inl (cA 0, 600, .inl (fun _ => 0))), ((u_i_6 3), .inl (cA 2, 600, .inr (.inl (fun _ => 0)))), ((u_i_6 4), .inl (cA 2, 600, .inr (.inl (fun _ => 0)))), (q_9, .inl (cA 3, 5, .inr (.inr (.inr (.inr (va_up (va_up (va_up (va_up (va_up (fun _ => none) (0 : Int32).toNatClampNeg (some q_10)) (1 : Int32).toNatClampNeg (some q_12)) (2 : Int32).toNatClampNeg (some q_14)) (3 : Int32).toNatClampNeg (some q_16)) (4 : Int32).toNatClampNeg (some q_18))))))), (q_20, .inr (3, [.ref a_i_21, .ref b_i_21])), (a_i_21, .inl (cA 0, 40, .inl (fun _ => -1))), (b_i_21, .inl (cA 0, 40, .inl (fun _ => -1)))] := hD
              refine W.widen (k := 40) (n := 3859) (by omega) (by omega) ?_
              refine va_putF (D := D) (ci := 6) (v := .ref q_20) (ty := (.object "MixElection$Pairs")) (C := RX7) (T := TX7) (N := 20) hx hb hts hin_X7 tyX7 tyX7_ok nmX7 hown hK hP hD hS 0 rfl rfl 6 (by decide) (w_RX7_70) (fun _ h9 => h9) rfl hin rfl (by decide +kernel) rfl rfl (Nat.le_of_ble_eq_true rfl) dX7_init_138 (fun H locs hP hD hS => ?_)
              have hP : va_P D vwCl [(h0, .inr (6, [.ref q_1, .ref q_3, .ref q_5, .int (nI c0), .ref q_7, .ref q_9, .ref q_20, .null, .null, .null, .null, .null, .int 0, .int 0, .int 0, .int 0, .int 0, .int 0, .int 0, .int 0])), (q_3, .inr (5, [.ref q_1, .int (nI t0), .int (nI k0), .ref (u_i_4 0), .ref (u_i_4 1), .ref (u_i_4 2), .ref (u_i_4 3), .int 0])), (q_1, .inr (1, [.int (nI p0), .int (nI q0), .int 0])), ((u_i_4 0), .inl (cA 0, k0, .inl (upd (fun _ => 0) (0 : Int32).toNatClampNeg 1))), (q_5, .inr (0, [.ref (u_i_6 0), .ref (u_i_6 1), .ref (u_i_6 2), .ref (u_i_6 3), .ref (u_i_6 4), .int 0])), ((u_i_6 0), .inl (cA 0, 600, .inl (fun _ => 0))), ((u_i_6 1), .inl (cA 0, 600, .inl (fun _ => 0))), ((u_i_6 2), .inl (cA 0, 600, .inl (fun _ => 0))), ((u_i_6 3), .inl (cA 2, 600, .inr (.inl (fun _ => 0)))), ((u_i_6 4), .inl (cA 2, 600, .inr (.inl (fun _ => 0)))), (q_9, .inl (cA 3, 5, .inr (.inr (.inr (.inr (va_up (va_up (va_up (va_up (va_up (fun _ => none) (0 : Int32).toNatClampNeg (some q_10)) (1 : Int32).toNatClampNeg (some q_12)) (2 : Int32).toNatClampNeg (some q_14)) (3 : Int32).toNatClampNeg (some q_16)) (4 : Int32).toNatClampNeg (some q_18))))))), (q_20, .inr (3, [.ref a_i_21, .ref b_i_21])), (a_i_21, .inl (cA 0, 40, .inl (fun _ => -1))), (b_i_21, .inl (cA 0, 40, .inl (fun _ => -1)))] H := hP
              have hD : va_D A [(h0, .inr (6, [.ref q_1, .ref q_3, .ref q_5, .int (nI c0), .ref q_7, .ref q_9, .ref q_20, .null, .null, .null, .null, .null, .int 0, .int 0, .int 0, .int 0, .int 0, .int 0, .int 0, .int 0])), (q_3, .inr (5, [.ref q_1, .int (nI t0), .int (nI k0), .ref (u_i_4 0), .ref (u_i_4 1), .ref (u_i_4 2), .ref (u_i_4 3), .int 0])), (q_1, .inr (1, [.int (nI p0), .int (nI q0), .int 0])), ((u_i_4 0), .inl (cA 0, k0, .inl (upd (fun _ => 0) (0 : Int32).toNatClampNeg 1))), (q_5, .inr (0, [.ref (u_i_6 0), .ref (u_i_6 1), .ref (u_i_6 2), .ref (u_i_6 3), .ref (u_i_6 4), .int 0])), ((u_i_6 0), .inl (cA 0, 600, .inl (fun _ => 0))), ((u_i_6 1), .inl (cA 0, 600, .inl (fun _ => 0))), ((u_i_6 2), .inl (cA 0, 600, .inl (fun _ => 0))), ((u_i_6 3), .inl (cA 2, 600, .inr (.inl (fun _ => 0)))), ((u_i_6 4), .inl (cA 2, 600, .inr (.inl (fun _ => 0)))), (q_9, .inl (cA 3, 5, .inr (.inr (.inr (.inr (va_up (va_up (va_up (va_up (va_up (fun _ => none) (0 : Int32).toNatClampNeg (some q_10)) (1 : Int32).toNatClampNeg (some q_12)) (2 : Int32).toNatClampNeg (some q_14)) (3 : Int32).toNatClampNeg (some q_16)) (4 : Int32).toNatClampNeg (some q_18))))))), (q_20, .inr (3, [.ref a_i_21, .ref b_i_21])), (a_i_21, .inl (cA 0, 40, .inl (fun _ => -1))), (b_i_21, .inl (cA 0, 40, .inl (fun _ => -1)))] := hD
              have hP := hP.sub (ws' := [(h0, .inr (6, [.ref q_1, .ref q_3, .ref q_5, .int (nI c0), .ref q_7, .ref q_9, .ref q_20, .null, .null, .null, .null, .null, .int 0, .int 0, .int 0, .int 0, .int 0, .int 0, .int 0, .int 0])), (q_3, .inr (5, [.ref q_1, .int (nI t0), .int (nI k0), .ref (u_i_4 0), .ref (u_i_4 1), .ref (u_i_4 2), .ref (u_i_4 3), .int 0])), (q_1, .inr (1, [.int (nI p0), .int (nI q0), .int 0])), ((u_i_4 0), .inl (cA 0, k0, .inl (upd (fun _ => 0) (0 : Int32).toNatClampNeg 1))), (q_5, .inr (0, [.ref (u_i_6 0), .ref (u_i_6 1), .ref (u_i_6 2), .ref (u_i_6 3), .ref (u_i_6 4), .int 0])), ((u_i_6 0), .inl (cA 0, 600, .inl (fun _ => 0))), ((u_i_6 1), .inl (cA 0, 600, .inl (fun _ => 0))), ((u_i_6 2), .inl (cA 0, 600, .inl (fun _ => 0))), ((u_i_6 3), .inl (cA 2, 600, .inr (.inl (fun _ => 0)))), ((u_i_6 4), .inl (cA 2, 600, .inr (.inl (fun _ => 0)))), (q_9, .inl (cA 3, 5, .inr (.inr (.inr (.inr (va_up (va_up (va_up (va_up (va_up (fun _ => none) (0 : Int32).toNatClampNeg (some q_10)) (1 : Int32).toNatClampNeg (some q_12)) (2 : Int32).toNatClampNeg (some q_14)) (3 : Int32).toNatClampNeg (some q_16)) (4 : Int32).toNatClampNeg (some q_18)))))))]) [0, 1, 2, 3, 4, 5, 6, 7, 8, 9, 10] rfl
              have hD := hD.sub (ws' := [(h0, .inr (6, [.ref q_1, .ref q_3, .ref q_5, .int (nI c0), .ref q_7, .ref q_9, .ref q_20, .null, .null, .null, .null, .null, .int 0, .int 0, .int 0, .int 0, .int 0, .int 0, .int 0, .int 0])), (q_3, .inr (5, [.ref q_1, .int (nI t0), .int (nI k0), .ref (u_i_4 0), .ref (u_i_4 1), .ref (u_i_4 2), .ref (u_i_4 3), .int 0])), (q_1, .inr (1, [.int (nI p0), .int (nI q0), .int 0])), ((u_i_4 0), .inl (cA 0, k0, .inl (upd (fun _ => 0) (0 : Int32).toNatClampNeg 1))), (q_5, .inr (0, [.ref (u_i_6 0), .ref (u_i_6 1), .ref (u_i_6 2), .ref (u_i_6 3), .ref (u_i_6 4), .int 0])), ((u_i_6 0), .inl (cA 0, 600, .inl (fun _ => 0))), ((u_i_6 1), .inl (cA 0, 600, .inl (fun _ => 0))), ((u_i_6 2), .inl (cA 0, 600, .inl (fun _ => 0))), ((u_i_6 3), .inl (cA 2, 600, .inr (.inl (fun _ => 0)))), ((u_i_6 4), .inl (cA 2, 600, .inr (.inl (fun _ => 0)))), (q_9, .inl (cA 3, 5, .inr (.inr (.inr (.inr (va_up (va_up (va_up (va_up (va_up (fun _ => none) (0 : Int32).toNatClampNeg (some q_10)) (1 : Int32).toNatClampNeg (some q_12)) (2 : Int32).toNatClampNeg (some q_14)) (3 : Int32).toNatClampNeg (some q_16)) (4 : Int32).toNatClampNeg (some q_18)))))))]) [0, 1, 2, 3, 4, 5, 6, 7, 8, 9, 10] (by decide) rfl
              refine lv_aload_n hx hb dX7_init_141 rfl (lv_at hl 1 rfl) ?_
              refine va_new (ci := 4) (fs := [.null, .null]) (C := RX5) (T := TX5) (N := 2) hx hb hts hin_X5 tyX5 tyX5_ok hown (hts (.classLink RX7 73 RX5) (by decide +kernel)) (hts (.instantiable RX5 2) (by decide +kernel)) (hts (.initialized RX5) (by decide +kernel)) hK hP hD hS hA rfl (fun j hj => by rcases (show j = 0 ∨ j = 1 by omega) with rfl | rfl <;> rfl) (Nat.le_of_ble_eq_true rfl) (Nat.le_of_ble_eq_true rfl) dX7_init_142 (fun q_22 H hP hD hS => ?_)
              refine W.widen (k := 41) (n := 3861) (by omega) (by omega) ?_
              have hP : va_P D vwCl [(h0, .inr (6, [.ref q_1, .ref q_3, .ref q_5, .int (nI c0), .ref q_7, .ref q_9, .ref q_20, .null, .null, .null, .null, .null, .int 0, .int 0, .int 0, .int 0, .int 0, .int 0, .int 0, .int 0])), (q_3, .inr (5, [.ref q_1, .int (nI t0), .int (nI k0), .ref (u_i_4 0), .ref (u_i_4 1), .ref (u_i_4 2), .ref (u_i_4 3), .int 0])), (q_1, .inr (1, [.int (nI p0), .int (nI q0), .int 0])), ((u_i_4 0), .inl (cA 0, k0, .inl (upd (fun _ => 0) (0 : Int32).toNatClampNeg 1))), (q_5, .inr (0, [.ref (u_i_6 0), .ref (u_i_6 1), .ref (u_i_6 2), .ref (u_i_6 3), .ref (u_i_6 4), .int 0])), ((u_i_6 0), .inl (cA 0, 600, .inl (fun _ => 0))), ((u_i_6 1), .inl (cA 0, 600, .inl (fun _ => 0))), ((u_i_6 2), .inl (cA 0, 600, .inl (fun _ => 0))), ((u_i_6 3), .inl (cA 2, 600, .inr (.inl (fun _ => 0)))), ((u_i_6 4), .inl (cA 2, 600, .inr (.inl (fun _ => 0)))), (q_9, .inl (cA 3, 5, .inr (.inr (.inr (.inr (va_up (va_up (va_up (va_up (va_up (fun _ => none) (0 : Int32).toNatClampNeg (some q_10)) (1 : Int32).toNatClampNeg (some q_12)) (2 : Int32).toNatClampNeg (some q_14)) (3 : Int32).toNatClampNeg (some q_16)) (4 : Int32).toNatClampNeg (some q_18))))))), (q_22, .inr (4, [.null, .null]))] H := hP
              have hD : va_D A [(h0, .inr (6, [.ref q_1, .ref q_3, .ref q_5, .int (nI c0), .ref q_7, .ref q_9, .ref q_20, .null, .null, .null, .null, .null, .int 0, .int 0, .int 0, .int 0, .int 0, .int 0, .int 0, .int 0])), (q_3, .inr (5, [.ref q_1, .int (nI t0), .int (nI k0), .ref (u_i_4 0), .ref (u_i_4 1), .ref (u_i_4 2), .ref (u_i_4 3), .int 0])), (q_1, .inr (1, [.int (nI p0), .int (nI q0), .int 0])), ((u_i_4 0), .inl (cA 0, k0, .inl (upd (fun _ => 0) (0 : Int32).toNatClampNeg 1))), (q_5, .inr (0, [.ref (u_i_6 0), .ref (u_i_6 1), .ref (u_i_6 2), .ref (u_i_6 3), .ref (u_i_6 4), .int 0])), ((u_i_6 0), .inl (cA 0, 600, .inl (fun _ => 0))), ((u_i_6 1), .inl (cA 0, 600, .inl (fun _ => 0))), ((u_i_6 2), .inl (cA 0, 600, .inl (fun _ => 0))), ((u_i_6 3), .inl (cA 2, 600, .inr (.inl (fun _ => 0)))), ((u_i_6 4), .inl (cA 2, 600, .inr (.inl (fun _ => 0)))), (q_9, .inl (cA 3, 5, .inr (.inr (.inr (.inr (va_up (va_up (va_up (va_up (va_up (fun _ => none) (0 : Int32).toNatClampNeg (some q_10)) (1 : Int32).toNatClampNeg (some q_12)) (2 : Int32).toNatClampNeg (some q_14)) (3 : Int32).toNatClampNeg (some q_16)) (4 : Int32).toNatClampNeg (some q_18))))))), (q_22, .inr (4, [.null, .null]))] := hD
              refine lv_dup hx hb dX7_init_145 rfl ?_
              have hPc := hP.sub (ws' := [(q_22, .inr (4, [.null, .null]))]) [11] rfl
              have hDc := hD.sub (ws' := [(q_22, .inr (4, [.null, .null]))]) [11] (by decide) rfl
              have hFc := va_free (wc := [(q_22, .inr (4, [.null, .null]))]) hD hS hA [11] rfl
              refine va_callv (va_runI (As := []) (rest := [.ref q_22, .ref h0]) ⟨hx, hb, hml, hown, hts⟩ (c_X5_init l D cA q_22 H.size) (cwI 0 hts gX7_init_X5_init rfl rfl rfl (hts (.initialized RX5) (by decide +kernel)) (hts (.methodLink RX7 75 yX5_init) (by decide +kernel)) (hts (.instanceMethod yX5_init) (by decide +kernel)) rfl (by decide +kernel) ⟨Nat.le_of_ble_eq_true rfl, Nat.le_of_ble_eq_true rfl⟩) ⟨in_blind, fun U hU hW => ⟨rfl, by rw [hU], by rw [hU]; exact hPc, va_K.moved hW.alike hK, hDc.weaken (fun _ _ _ _ => trivial), hX.moved hW.alike⟩⟩ rfl rfl hl.1 rfl (lv_room (Nat.le_of_ble_eq_true rfl)) dX7_init_146 ⟨Nat.le_of_ble_eq_true rfl, Nat.le_of_ble_eq_true rfl⟩) hS (fun q _ h => hFc q h) hFc (fun u_i_23 t H1 locs ht hvm hw hB hz1 hk1 hS => ?_)
              obtain ⟨hP1, hK1, hD1⟩ := hB
              rw [ht] at hP1
              obtain _ := hw
              obtain ⟨hP, hD⟩ := va_join (wr := [(h0, .inr (6, [.ref q_1, .ref q_3, .ref q_5, .int (nI c0), .ref q_7, .ref q_9, .ref q_20, .null, .null, .null, .null, .null, .int 0, .int 0, .int 0, .int 0, .int 0, .int 0, .int 0, .int 0])), (q_3, .inr (5, [.ref q_1, .int (nI t0), .int (nI k0), .ref (u_i_4 0), .ref (u_i_4 1), .ref (u_i_4 2), .ref (u_i_4 3), .int 0])), (q_1, .inr (1, [.int (nI p0), .int (nI q0), .int 0])), ((u_i_4 0), .inl (cA 0, k0, .inl (upd (fun _ => 0) (0 : Int32).toNatClampNeg 1))), (q_5, .inr (0, [.ref (u_i_6 0), .ref (u_i_6 1), .ref (u_i_6 2), .ref (u_i_6 3), .ref (u_i_6 4), .int 0])), ((u_i_6 0), .inl (cA 0, 600, .inl (fun _ => 0))), ((u_i_6 1), .inl (cA 0, 600, .inl (fun _ => 0))), ((u_i_6 2), .inl (cA 0, 600, .inl (fun _ => 0))), ((u_i_6 3), .inl (cA 2, 600, .inr (.inl (fun _ => 0)))), ((u_i_6 4), .inl (cA 2, 600, .inr (.inl (fun _ => 0)))), (q_9, .inl (cA 3, 5, .inr (.inr (.inr (.inr (va_up (va_up (va_up (va_up (va_up (fun _ => none) (0 : Int32).toNatClampNeg (some q_10)) (1 : Int32).toNatClampNeg (some q_12)) (2 : Int32).toNatClampNeg (some q_14)) (3 : Int32).toNatClampNeg (some q_16)) (4 : Int32).toNatClampNeg (some q_18)))))))]) (w1 := [(q_22, .inr (4, [.ref (u_i_23 0), .ref (u_i_23 1)]))]) hP hD [11] [0, 1, 2, 3, 4, 5, 6, 7, 8, 9, 10] rfl rfl (by decide) (by decide) hk1 hFc hP1 hD1
              generalize H1 = H at hP hS ⊢
              have hP : va_P D vwCl [(h0, .inr (6, [.ref q_1, .ref q_3, .ref q_5, .int (nI c0), .ref q_7, .ref q_9, .ref q_20, .null, .null, .null, .null, .null, .int 0, .int 0, .int 0, .int 0, .int 0, .int 0, .int 0, .int 0])), (q_3, .inr (5, [.ref q_1, .int (nI t0), .int (nI k0), .ref (u_i_4 0), .ref (u_i_4 1), .ref (u_i_4 2), .ref (u_i_4 3), .int 0])), (q_1, .inr (1, [.int (nI p0), .int (nI q0), .int 0])), ((u_i_4 0), .inl (cA 0, k0, .inl (upd (fun _ => 0) (0 : Int32).toNatClampNeg 1))), (q_5, .inr (0, [.ref (u_i_6 0), .ref (u_i_6 1), .ref (u_i_6 2), .ref (u_i_6 3), .ref (u_i_6 4), .int 0])), ((u_i_6 0), .inl (cA 0, 600, .inl (fun _ => 0))), ((u_i_6 1), .inl (cA 0, 600, .inl (fun _ => 0))), ((u_i_6 2), .inl (cA 0, 600, .inl (fun _ => 0))), ((u_i_6 3), .inl (cA 2, 600, .inr (.inl (fun _ => 0)))), ((u_i_6 4), .inl (cA 2, 600, .inr (.inl (fun _ => 0)))), (q_9, .inl (cA 3, 5, .inr (.inr (.inr (.inr (va_up (va_up (va_up (va_up (va_up (fun _ => none) (0 : Int32).toNatClampNeg (some q_10)) (1 : Int32).toNatClampNeg (some q_12)) (2 : Int32).toNatClampNeg (some q_14)) (3 : Int32).toNatClampNeg (some q_16)) (4 : Int32).toNatClampNeg (some q_18))))))), (q_22, .inr (4, [.ref (u_i_23 0), .ref (u_i_23 1)]))] H := hP
              have hD : va_D A [(h0, .inr (6, [.ref q_1, .ref q_3, .ref q_5, .int (nI c0), .ref q_7, .ref q_9, .ref q_20, .null, .null, .null, .null, .null, .int 0, .int 0, .int 0, .int 0, .int 0, .int 0, .int 0, .int 0])), (q_3, .inr (5, [.ref q_1, .int (nI t0), .int (nI k0), .ref (u_i_4 0), .ref (u_i_4 1), .ref (u_i_4 2), .ref (u_i_4 3), .int 0])), (q_1, .inr (1, [.int (nI p0), .int (nI q0), .int 0])), ((u_i_4 0), .inl (cA 0, k0, .inl (upd (fun _ => 0) (0 : Int32).toNatClampNeg 1))), (q_5, .inr (0, [.ref (u_i_6 0), .ref (u_i_6 1), .ref (u_i_6 2), .ref (u_i_6 3), .ref (u_i_6 4), .int 0])), ((u_i_6 0), .inl (cA 0, 600, .inl (fun _ => 0))), ((u_i_6 1), .inl (cA 0, 600, .inl (fun _ => 0))), ((u_i_6 2), .inl (cA 0, 600, .inl (fun _ => 0))), ((u_i_6 3), .inl (cA 2, 600, .inr (.inl (fun _ => 0)))), ((u_i_6 4), .inl (cA 2, 600, .inr (.inl (fun _ => 0)))), (q_9, .inl (cA 3, 5, .inr (.inr (.inr (.inr (va_up (va_up (va_up (va_up (va_up (fun _ => none) (0 : Int32).toNatClampNeg (some q_10)) (1 : Int32).toNatClampNeg (some q_12)) (2 : Int32).toNatClampNeg (some q_14)) (3 : Int32).toNatClampNeg (some q_16)) (4 : Int32).toNatClampNeg (some q_18))))))), (q_22, .inr (4, [.ref (u_i_23 0), .ref (u_i_23 1)]))] := hD
              refine W.widen (k := 47) (n := 4025) (by omega) (by omega) ?_
              refine va_putF (D := D) (ci := 6) (v := .ref q_22) (ty := (.object "MixElection$Staging")) (C := RX7) (T := TX7) (N := 20) hx hb hts hin_X7 tyX7 tyX7_ok nmX7 hown hK hP hD hS 0 rfl rfl 7 (by decide) (w_RX7_76) (fun _ h9 => h9) rfl hin rfl (by decide +kernel) rfl rfl (Nat.le_of_ble_eq_true rfl) dX7_init_149 (fun H locs hP hD hS => ?_)
              have hP : va_P D vwCl [(h0, .inr (6, [.ref q_1, .ref q_3, .ref q_5, .int (nI c0), .ref q_7, .ref q_9, .ref q_20, .ref q_22, .null, .null, .null, .null, .int 0, .int 0, .int 0, .int 0, .int 0, .int 0, .int 0, .int 0])), (q_3, .inr (5, [.ref q_1, .int (nI t0), .int (nI k0), .ref (u_i_4 0), .ref (u_i_4 1), .ref (u_i_4 2), .ref (u_i_4 3), .int 0])), (q_1, .inr (1, [.int (nI p0), .int (nI q0), .int 0])), ((u_i_4 0), .inl (cA 0, k0, .inl (upd (fun _ => 0) (0 : Int32).toNatClampNeg 1))), (q_5, .inr (0, [.ref (u_i_6 0), .ref (u_i_6 1), .ref (u_i_6 2), .ref (u_i_6 3), .ref (u_i_6 4), .int 0])), ((u_i_6 0), .inl (cA 0, 600, .inl (fun _ => 0))), ((u_i_6 1), .inl (cA 0, 600, .inl (fun _ => 0))), ((u_i_6 2), .inl (cA 0, 600, .inl (fun _ => 0))), ((u_i_6 3), .inl (cA 2, 600, .inr (.inl (fun _ => 0)))), ((u_i_6 4), .inl (cA 2, 600, .inr (.inl (fun _ => 0)))), (q_9, .inl (cA 3, 5, .inr (.inr (.inr (.inr (va_up (va_up (va_up (va_up (va_up (fun _ => none) (0 : Int32).toNatClampNeg (some q_10)) (1 : Int32).toNatClampNeg (some q_12)) (2 : Int32).toNatClampNeg (some q_14)) (3 : Int32).toNatClampNeg (some q_16)) (4 : Int32).toNatClampNeg (some q_18))))))), (q_22, .inr (4, [.ref (u_i_23 0), .ref (u_i_23 1)]))] H := hP
              have hD : va_D A [(h0, .inr (6, [.ref q_1, .ref q_3, .ref q_5, .int (nI c0), .ref q_7, .ref q_9, .ref q_20, .ref q_22, .null, .null, .null, .null, .int 0, .int 0, .int 0, .int 0, .int 0, .int 0, .int 0, .int 0])), (q_3, .inr (5, [.ref q_1, .int (nI t0), .int (nI k0), .ref (u_i_4 0), .ref (u_i_4 1), .ref (u_i_4 2), .ref (u_i_4 3), .int 0])), (q_1, .inr (1, [.int (nI p0), .int (nI q0), .int 0])), ((u_i_4 0), .inl (cA 0, k0, .inl (upd (fun _ => 0) (0 : Int32).toNatClampNeg 1))), (q_5, .inr (0, [.ref (u_i_6 0), .ref (u_i_6 1), .ref (u_i_6 2), .ref (u_i_6 3), .ref (u_i_6 4), .int 0])), ((u_i_6 0), .inl (cA 0, 600, .inl (fun _ => 0))), ((u_i_6 1), .inl (cA 0, 600, .inl (fun _ => 0))), ((u_i_6 2), .inl (cA 0, 600, .inl (fun _ => 0))), ((u_i_6 3), .inl (cA 2, 600, .inr (.inl (fun _ => 0)))), ((u_i_6 4), .inl (cA 2, 600, .inr (.inl (fun _ => 0)))), (q_9, .inl (cA 3, 5, .inr (.inr (.inr (.inr (va_up (va_up (va_up (va_up (va_up (fun _ => none) (0 : Int32).toNatClampNeg (some q_10)) (1 : Int32).toNatClampNeg (some q_12)) (2 : Int32).toNatClampNeg (some q_14)) (3 : Int32).toNatClampNeg (some q_16)) (4 : Int32).toNatClampNeg (some q_18))))))), (q_22, .inr (4, [.ref (u_i_23 0), .ref (u_i_23 1)]))] := hD
              have hP := hP.sub (ws' := [(h0, .inr (6, [.ref q_1, .ref q_3, .ref q_5, .int (nI c0), .ref q_7, .ref q_9, .ref q_20, .ref q_22, .null, .null, .null, .null, .int 0, .int 0, .int 0, .int 0, .int 0, .int 0, .int 0, .int 0])), (q_3, .inr (5, [.ref q_1, .int (nI t0), .int (nI k0), .ref (u_i_4 0), .ref (u_i_4 1), .ref (u_i_4 2), .ref (u_i_4 3), .int 0])), (q_1, .inr (1, [.int (nI p0), .int (nI q0), .int 0])), ((u_i_4 0), .inl (cA 0, k0, .inl (upd (fun _ => 0) (0 : Int32).toNatClampNeg 1))), (q_5, .inr (0, [.ref (u_i_6 0), .ref (u_i_6 1), .ref (u_i_6 2), .ref (u_i_6 3), .ref (u_i_6 4), .int 0])), ((u_i_6 0), .inl (cA 0, 600, .inl (fun _ => 0))), ((u_i_6 1), .inl (cA 0, 600, .inl (fun _ => 0))), ((u_i_6 2), .inl (cA 0, 600, .inl (fun _ => 0))), ((u_i_6 3), .inl (cA 2, 600, .inr (.inl (fun _ => 0)))), ((u_i_6 4), .inl (cA 2, 600, .inr (.inl (fun _ => 0)))), (q_9, .inl (cA 3, 5, .inr (.inr (.inr (.inr (va_up (va_up (va_up (va_up (va_up (fun _ => none) (0 : Int32).toNatClampNeg (some q_10)) (1 : Int32).toNatClampNeg (some q_12)) (2 : Int32).toNatClampNeg (some q_14)) (3 : Int32).toNatClampNeg (some q_16)) (4 : Int32).toNatClampNeg (some q_18)))))))]) [0, 1, 2, 3, 4, 5, 6, 7, 8, 9, 10] rfl
              have hD := hD.sub (ws' := [(h0, .inr (6, [.ref q_1, .ref q_3, .ref q_5, .int (nI c0), .ref q_7, .ref q_9, .ref q_20, .ref q_22, .null, .null, .null, .null, .int 0, .int 0, .int 0, .int 0, .int 0, .int 0, .int 0, .int 0])), (q_3, .inr (5, [.ref q_1, .int (nI t0), .int (nI k0), .ref (u_i_4 0), .ref (u_i_4 1), .ref (u_i_4 2), .ref (u_i_4 3), .int 0])), (q_1, .inr (1, [.int (nI p0), .int (nI q0), .int 0])), ((u_i_4 0), .inl (cA 0, k0, .inl (upd (fun _ => 0) (0 : Int32).toNatClampNeg 1))), (q_5, .inr (0, [.ref (u_i_6 0), .ref (u_i_6 1), .ref (u_i_6 2), .ref (u_i_6 3), .ref (u_i_6 4), .int 0])), ((u_i_6 0), .inl (cA 0, 600, .inl (fun _ => 0))), ((u_i_6 1), .inl (cA 0, 600, .inl (fun _ => 0))), ((u_i_6 2), .inl (cA 0, 600, .inl (fun _ => 0))), ((u_i_6 3), .inl (cA 2, 600, .inr (.inl (fun _ => 0)))), ((u_i_6 4), .inl (cA 2, 600, .inr (.inl (fun _ => 0)))), (q_9, .inl (cA 3, 5, .inr (.inr (.inr (.inr (va_up (va_up (va_up (va_up (va_up (fun _ => none) (0 : Int32).toNatClampNeg (some q_10)) (1 : Int32).toNatClampNeg (some q_12)) (2 : Int32).toNatClampNeg (some q_14)) (3 : Int32).toNatClampNeg (some q_16)) (4 : Int32).toNatClampNeg (some q_18)))))))]) [0, 1, 2, 3, 4, 5, 6, 7, 8, 9, 10] (by decide) rfl
              refine lv_aload_n hx hb dX7_init_152 rfl (lv_at hl 1 rfl) ?_
              refine va_new (ci := 2) (fs := [.null, .null]) (C := RX2) (T := TX2) (N := 2) hx hb hts hin_X2 tyX2 tyX2_ok hown (hts (.classLink RX7 80 RX2) (by decide +kernel)) (hts (.instantiable RX2 2) (by decide +kernel)) (hts (.initialized RX2) (by decide +kernel)) hK hP hD hS hA rfl (fun j hj => by rcases (show j = 0 ∨ j = 1 by omega) with rfl | rfl <;> rfl) (Nat.le_of_ble_eq_true rfl) (Nat.le_of_ble_eq_true rfl) dX7_init_153 (fun q_24 H hP hD hS => ?_)
              refine W.widen (k := 48) (n := 4027) (by omega) (by omega) ?_
              have hP : va_P D vwCl [(h0, .inr (6, [.ref q_1, .ref q_3, .ref q_5, .int (nI c0), .ref q_7, .ref q_9, .ref q_20, .ref q_22, .null, .null, .null, .null, .int 0, .int 0, .int 0, .int 0, .int 0, .int 0, .int 0, .int 0])), (q_3, .inr (5, [.ref q_1, .int (nI t0), .int (nI k0), .ref (u_i_4 0), .ref (u_i_4 1), .ref (u_i_4 2), .ref (u_i_4 3), .int 0])), (q_1, .inr (1, [.int (nI p0), .int (nI q0), .int 0])), ((u_i_4 0), .inl (cA 0, k0, .inl (upd (fun _ => 0) (0 : Int32).toNatClampNeg 1))), (q_5, .inr (0, [.ref (u_i_6 0), .ref (u_i_6 1), .ref (u_i_6 2), .ref (u_i_6 3), .ref (u_i_6 4), .int 0])), ((u_i_6 0), .inl (cA 0, 600, .inl (fun _ => 0))), ((u_i_6 1), .inl (cA 0, 600, .inl (fun _ => 0))), ((u_i_6 2), .inl (cA 0, 600, .inl (fun _ => 0))), ((u_i_6 3), .inl (cA 2, 600, .inr (.inl (fun _ => 0)))), ((u_i_6 4), .inl (cA 2, 600, .inr (.inl (fun _ => 0)))), (q_9, .inl (cA 3, 5, .inr (.inr (.inr (.inr (va_up (va_up (va_up (va_up (va_up (fun _ => none) (0 : Int32).toNatClampNeg (some q_10)) (1 : Int32).toNatClampNeg (some q_12)) (2 : Int32).toNatClampNeg (some q_14)) (3 : Int32).toNatClampNeg (some q_16)) (4 : Int32).toNatClampNeg (some q_18))))))), (q_24, .inr (2, [.null, .null]))] H := hP
              have hD : va_D A [(h0, .inr (6, [.ref q_1, .ref q_3, .ref q_5, .int (nI c0), .ref q_7, .ref q_9, .ref q_20, .ref q_22, .null, .null, .null, .null, .int 0, .int 0, .int 0, .int 0, .int 0, .int 0, .int 0, .int 0])), (q_3, .inr (5, [.ref q_1, .int (nI t0), .int (nI k0), .ref (u_i_4 0), .ref (u_i_4 1), .ref (u_i_4 2), .ref (u_i_4 3), .int 0])), (q_1, .inr (1, [.int (nI p0), .int (nI q0), .int 0])), ((u_i_4 0), .inl (cA 0, k0, .inl (upd (fun _ => 0) (0 : Int32).toNatClampNeg 1))), (q_5, .inr (0, [.ref (u_i_6 0), .ref (u_i_6 1), .ref (u_i_6 2), .ref (u_i_6 3), .ref (u_i_6 4), .int 0])), ((u_i_6 0), .inl (cA 0, 600, .inl (fun _ => 0))), ((u_i_6 1), .inl (cA 0, 600, .inl (fun _ => 0))), ((u_i_6 2), .inl (cA 0, 600, .inl (fun _ => 0))), ((u_i_6 3), .inl (cA 2, 600, .inr (.inl (fun _ => 0)))), ((u_i_6 4), .inl (cA 2, 600, .inr (.inl (fun _ => 0)))), (q_9, .inl (cA 3, 5, .inr (.inr (.inr (.inr (va_up (va_up (va_up (va_up (va_up (fun _ => none) (0 : Int32).toNatClampNeg (some q_10)) (1 : Int32).toNatClampNeg (some q_12)) (2 : Int32).toNatClampNeg (some q_14)) (3 : Int32).toNatClampNeg (some q_16)) (4 : Int32).toNatClampNeg (some q_18))))))), (q_24, .inr (2, [.null, .null]))] := hD
              refine lv_dup hx hb dX7_init_156 rfl ?_
              have hPc := hP.sub (ws' := [(q_24, .inr (2, [.null, .null]))]) [11] rfl
              have hDc := hD.sub (ws' := [(q_24, .inr (2, [.null, .null]))]) [11] (by decide) rfl
              have hFc := va_free (wc := [(q_24, .inr (2, [.null, .null]))]) hD hS hA [11] rfl
              refine va_callv (va_runI (As := []) (rest := [.ref q_24, .ref h0]) ⟨hx, hb, hml, hown, hts⟩ (c_X2_init l D cA q_24 H.size) (cwI 0 hts gX7_init_X2_init rfl rfl rfl (hts (.initialized RX2) (by decide +kernel)) (hts (.methodLink RX7 82 yX2_init) (by decide +kernel)) (hts (.instanceMethod yX2_init) (by decide +kernel)) rfl (by decide +kernel) ⟨Nat.le_of_ble_eq_true rfl, Nat.le_of_ble_eq_true rfl⟩) ⟨in_blind, fun U hU hW => ⟨rfl, by rw [hU], by rw [hU]; exact hPc, va_K.moved hW.alike hK, hDc.weaken (fun _ _ _ _ => trivial), hX.moved hW.alike⟩⟩ rfl rfl hl.1 rfl (lv_room (Nat.le_of_ble_eq_true rfl)) dX7_init_157 ⟨Nat.le_of_ble_eq_true rfl, Nat.le_of_ble_eq_true rfl⟩) hS (fun q _ h => hFc q h) hFc (fun u t H1 locs ht hvm hw hB hz1 hk1 hS => ?_)
              obtain ⟨a_i_25, b_i_25⟩ := u
              obtain ⟨hP1, hK1, hD1⟩ := hB
              rw [ht] at hP1
              obtain _ := hw
              obtain ⟨hP, hD⟩ := va_join (wr := [(h0, .inr (6, [.ref q_1, .ref q_3, .ref q_5, .int (nI c0), .ref q_7, .ref q_9, .ref q_20, .ref q_22, .null, .null, .null, .null, .int 0, .int 0, .int 0, .int 0, .int 0, .int 0, .int 0, .int 0])), (q_3, .inr (5, [.ref q_1, .int (nI t0), .int (nI k0), .ref (u_i_4 0), .ref (u_i_4 1), .ref (u_i_4 2), .ref (u_i_4 3), .int 0])), (q_1, .inr (1, [.int (nI p0), .int (nI q0), .int 0])), ((u_i_4 0), .inl (cA 0, k0, .inl (upd (fun _ => 0) (0 : Int32).toNatClampNeg 1))), (q_5, .inr (0, [.ref (u_i_6 0), .ref (u_i_6 1), .ref (u_i_6 2), .ref (u_i_6 3), .ref (u_i_6 4), .int 0])), ((u_i_6 0), .inl (cA 0, 600, .inl (fun _ => 0))), ((u_i_6 1), .inl (cA 0, 600, .inl (fun _ => 0))), ((u_i_6 2), .inl (cA 0, 600, .inl (fun _ => 0))), ((u_i_6 3), .inl (cA 2, 600, .inr (.inl (fun _ => 0)))), ((u_i_6 4), .inl (cA 2, 600, .inr (.inl (fun _ => 0)))), (q_9, .inl (cA 3, 5, .inr (.inr (.inr (.inr (va_up (va_up (va_up (va_up (va_up (fun _ => none) (0 : Int32).toNatClampNeg (some q_10)) (1 : Int32).toNatClampNeg (some q_12)) (2 : Int32).toNatClampNeg (some q_14)) (3 : Int32).toNatClampNeg (some q_16)) (4 : Int32).toNatClampNeg (some q_18)))))))]) (w1 := [(q_24, .inr (2, [.ref a_i_25, .ref b_i_25])), (a_i_25, .inl (cA 0, 40, .inl (fun _ => -1))), (b_i_25, .inl (cA 0, 40, .inl (fun _ => -1)))]) hP hD [11] [0, 1, 2, 3, 4, 5, 6, 7, 8, 9, 10] rfl rfl (by decide) (by decide) hk1 hFc hP1 hD1
              generalize H1 = H at hP hS ⊢
              have hP : va_P D vwCl [(h0, .inr (6, [.ref q_1, .ref q_3, .ref q_5, .int (nI c0), .ref q_7, .ref q_9, .ref q_20, .ref q_22, .null, .null, .null, .null, .int 0, .int 0, .int 0, .int 0, .int 0, .int 0, .int 0, .int 0])), (q_3, .inr (5, [.ref q_1, .int (nI t0), .int (nI k0), .ref (u_i_4 0), .ref (u_i_4 1), .ref (u_i_4 2), .ref (u_i_4 3), .int 0])), (q_1, .inr (1, [.int (nI p0), .int (nI q0), .int 0])), ((u_i_4 0), .inl (cA 0, k0, .inl (upd (fun _ => 0) (0 : Int32).toNatClampNeg 1))), (q_5, .inr (0, [.ref (u_i_6 0), .ref (u_i_6 1), .ref (u_i_6 2), .ref (u_i_6 3), .ref (u_i_6 4), .int 0])), ((u_i_6 0), .inl (cA 0, 600, .inl (fun _ => 0))), ((u_i_6 1), .inl (cA 0, 600, .inl (fun _ => 0))), ((u_i_6 2), .inl (cA 0, 600, .inl (fun _ => 0))), ((u_i_6 3), .inl (cA 2, 600, .inr (.inl (fun _ => 0)))), ((u_i_6 4), .inl (cA 2, 600, .inr (.inl (fun _ => 0)))), (q_9, .inl (cA 3, 5, .inr (.inr (.inr (.inr (va_up (va_up (va_up (va_up (va_up (fun _ => none) (0 : Int32).toNatClampNeg (some q_10)) (1 : Int32).toNatClampNeg (some q_12)) (2 : Int32).toNatClampNeg (some q_14)) (3 : Int32).toNatClampNeg (some q_16)) (4 : Int32).toNatClampNeg (some q_18))))))), (q_24, .inr (2, [.ref a_i_25, .ref b_i_25])), (a_i_25, .inl (cA 0, 40, .inl (fun _ => -1))), (b_i_25, .inl (cA 0, 40, .inl (fun _ => -1)))] H := hP
              have hD : va_D A [(h0, .inr (6, [.ref q_1, .ref q_3, .ref q_5, .int (nI c0), .ref q_7, .ref q_9, .ref q_20, .ref q_22, .null, .null, .null, .null, .int 0, .int 0, .int 0, .int 0, .int 0, .int 0, .int 0, .int 0])), (q_3, .inr (5, [.ref q_1, .int (nI t0), .int (nI k0), .ref (u_i_4 0), .ref (u_i_4 1), .ref (u_i_4 2), .ref (u_i_4 3), .int 0])), (q_1, .inr (1, [.int (nI p0), .int (nI q0), .int 0])), ((u_i_4 0), .inl (cA 0, k0, .inl (upd (fun _ => 0) (0 : Int32).toNatClampNeg 1))), (q_5, .inr (0, [.ref (u_i_6 0), .ref (u_i_6 1), .ref (u_i_6 2), .ref (u_i_6 3), .ref (u_i_6 4), .int 0])), ((u_i_6 0), .inl (cA 0, 600, .inl (fun _ => 0))), ((u_i_6 1), .inl (cA 0, 600, .inl (fun _ => 0))), ((u_i_6 2), .inl (cA 0, 600, .inl (fun _ => 0))), ((u_i_6 3), .inl (cA 2, 600, .inr (.inl (fun _ => 0)))), ((u_i_6 4), .inl (cA 2, 600, .inr (.inl (fun _ => 0)))), (q_9, .inl (cA 3, 5, .inr (.inr (.inr (.inr (va_up (va_up (va_up (va_up (va_up (fun _ => none) (0 : Int32).toNatClampNeg (some q_10)) (1 : Int32).toNatClampNeg (some q_12)) (2 : Int32).toNatClampNeg (some q_14)) (3 : Int32).toNatClampNeg (some q_16)) (4 : Int32).toNatClampNeg (some q_18))))))), (q_24, .inr (2, [.ref a_i_25, .ref b_i_25])), (a_i_25, .inl (cA 0, 40, .inl (fun _ => -1))), (b_i_25, .inl (cA 0, 40, .inl (fun _ => -1)))] := hD
              refine W.widen (k := 50) (n := 4107) (by omega) (by omega) ?_
              refine va_putF (D := D) (ci := 6) (v := .ref q_24) (ty := (.object "MixElection$Moves")) (C := RX7) (T := TX7) (N := 20) hx hb hts hin_X7 tyX7 tyX7_ok nmX7 hown hK hP hD hS 0 rfl rfl 8 (by decide) (w_RX7_83) (fun _ h9 => h9) rfl hin rfl (by decide +kernel) rfl rfl (Nat.le_of_ble_eq_true rfl) dX7_init_160 (fun H locs hP hD hS => ?_)
              have hP : va_P D vwCl [(h0, .inr (6, [.ref q_1, .ref q_3, .ref q_5, .int (nI c0), .ref q_7, .ref q_9, .ref q_20, .ref q_22, .ref q_24, .null, .null, .null, .int 0, .int 0, .int 0, .int 0, .int 0, .int 0, .int 0, .int 0])), (q_3, .inr (5, [.ref q_1, .int (nI t0), .int (nI k0), .ref (u_i_4 0), .ref (u_i_4 1), .ref (u_i_4 2), .ref (u_i_4 3), .int 0])), (q_1, .inr (1, [.int (nI p0), .int (nI q0), .int 0])), ((u_i_4 0), .inl (cA 0, k0, .inl (upd (fun _ => 0) (0 : Int32).toNatClampNeg 1))), (q_5, .inr (0, [.ref (u_i_6 0), .ref (u_i_6 1), .ref (u_i_6 2), .ref (u_i_6 3), .ref (u_i_6 4), .int 0])), ((u_i_6 0), .inl (cA 0, 600, .inl (fun _ => 0))), ((u_i_6 1), .inl (cA 0, 600, .inl (fun _ => 0))), ((u_i_6 2), .inl (cA 0, 600, .inl (fun _ => 0))), ((u_i_6 3), .inl (cA 2, 600, .inr (.inl (fun _ => 0)))), ((u_i_6 4), .inl (cA 2, 600, .inr (.inl (fun _ => 0)))), (q_9, .inl (cA 3, 5, .inr (.inr (.inr (.inr (va_up (va_up (va_up (va_up (va_up (fun _ => none) (0 : Int32).toNatClampNeg (some q_10)) (1 : Int32).toNatClampNeg (some q_12)) (2 : Int32).toNatClampNeg (some q_14)) (3 : Int32).toNatClampNeg (some q_16)) (4 : Int32).toNatClampNeg (some q_18))))))), (q_24, .inr (2, [.ref a_i_25, .ref b_i_25])), (a_i_25, .inl (cA 0, 40, .inl (fun _ => -1))), (b_i_25, .inl (cA 0, 40, .inl (fun _ => -1)))] H := hP
              have hD : va_D A [(h0, .inr (6, [.ref q_1, .ref q_3, .ref q_5, .int (nI c0), .ref q_7, .ref q_9, .ref q_20, .ref q_22, .ref q_24, .null, .null, .null, .int 0, .int 0, .int 0, .int 0, .int 0, .int 0, .int 0, .int 0])), (q_3, .inr (5, [.ref q_1, .int (nI t0), .int (nI k0), .ref (u_i_4 0), .ref (u_i_4 1), .ref (u_i_4 2), .ref (u_i_4 3), .int 0])), (q_1, .inr (1, [.int (nI p0), .int (nI q0), .int 0])), ((u_i_4 0), .inl (cA 0, k0, .inl (upd (fun _ => 0) (0 : Int32).toNatClampNeg 1))), (q_5, .inr (0, [.ref (u_i_6 0), .ref (u_i_6 1), .ref (u_i_6 2), .ref (u_i_6 3), .ref (u_i_6 4), .int 0])), ((u_i_6 0), .inl (cA 0, 600, .inl (fun _ => 0))), ((u_i_6 1), .inl (cA 0, 600, .inl (fun _ => 0))), ((u_i_6 2), .inl (cA 0, 600, .inl (fun _ => 0))), ((u_i_6 3), .inl (cA 2, 600, .inr (.inl (fun _ => 0)))), ((u_i_6 4), .inl (cA 2, 600, .inr (.inl (fun _ => 0)))), (q_9, .inl (cA 3, 5, .inr (.inr (.inr (.inr (va_up (va_up (va_up (va_up (va_up (fun _ => none) (0 : Int32).toNatClampNeg (some q_10)) (1 : Int32).toNatClampNeg (some q_12)) (2 : Int32).toNatClampNeg (some q_14)) (3 : Int32).toNatClampNeg (some q_16)) (4 : Int32).toNatClampNeg (some q_18))))))), (q_24, .inr (2, [.ref a_i_25, .ref b_i_25])), (a_i_25, .inl (cA 0, 40, .inl (fun _ => -1))), (b_i_25, .inl (cA 0, 40, .inl (fun _ => -1)))] := hD
              have hP := hP.sub (ws' := [(h0, .inr (6, [.ref q_1, .ref q_3, .ref q_5, .int (nI c0), .ref q_7, .ref q_9, .ref q_20, .ref q_22, .ref q_24, .null, .null, .null, .int 0, .int 0, .int 0, .int 0, .int 0, .int 0, .int 0, .int 0])), (q_3, .inr (5, [.ref q_1, .int (nI t0), .int (nI k0), .ref (u_i_4 0), .ref (u_i_4 1), .ref (u_i_4 2), .ref (u_i_4 3), .int 0])), (q_1, .inr (1, [.int (nI p0), .int (nI q0), .int 0])), ((u_i_4 0), .inl (cA 0, k0, .inl (upd (fun _ => 0) (0 : Int32).toNatClampNeg 1))), (q_5, .inr (0, [.ref (u_i_6 0), .ref (u_i_6 1), .ref (u_i_6 2), .ref (u_i_6 3), .ref (u_i_6 4), .int 0])), ((u_i_6 0), .inl (cA 0, 600, .inl (fun _ => 0))), ((u_i_6 1), .inl (cA 0, 600, .inl (fun _ => 0))), ((u_i_6 2), .inl (cA 0, 600, .inl (fun _ => 0))), ((u_i_6 3), .inl (cA 2, 600, .inr (.inl (fun _ => 0)))), ((u_i_6 4), .inl (cA 2, 600, .inr (.inl (fun _ => 0)))), (q_9, .inl (cA 3, 5, .inr (.inr (.inr (.inr (va_up (va_up (va_up (va_up (va_up (fun _ => none) (0 : Int32).toNatClampNeg (some q_10)) (1 : Int32).toNatClampNeg (some q_12)) (2 : Int32).toNatClampNeg (some q_14)) (3 : Int32).toNatClampNeg (some q_16)) (4 : Int32).toNatClampNeg (some q_18)))))))]) [0, 1, 2, 3, 4, 5, 6, 7, 8, 9, 10] rfl
              have hD := hD.sub (ws' := [(h0, .inr (6, [.ref q_1, .ref q_3, .ref q_5, .int (nI c0), .ref q_7, .ref q_9, .ref q_20, .ref q_22, .ref q_24, .null, .null, .null, .int 0, .int 0, .int 0, .int 0, .int 0, .int 0, .int 0, .int 0])), (q_3, .inr (5, [.ref q_1, .int (nI t0), .int (nI k0), .ref (u_i_4 0), .ref (u_i_4 1), .ref (u_i_4 2), .ref (u_i_4 3), .int 0])), (q_1, .inr (1, [.int (nI p0), .int (nI q0), .int 0])), ((u_i_4 0), .inl (cA 0, k0, .inl (upd (fun _ => 0) (0 : Int32).toNatClampNeg 1))), (q_5, .inr (0, [.ref (u_i_6 0), .ref (u_i_6 1), .ref (u_i_6 2), .ref (u_i_6 3), .ref (u_i_6 4), .int 0])), ((u_i_6 0), .inl (cA 0, 600, .inl (fun _ => 0))), ((u_i_6 1), .inl (cA 0, 600, .inl (fun _ => 0))), ((u_i_6 2), .inl (cA 0, 600, .inl (fun _ => 0))), ((u_i_6 3), .inl (cA 2, 600, .inr (.inl (fun _ => 0)))), ((u_i_6 4), .inl (cA 2, 600, .inr (.inl (fun _ => 0)))), (q_9, .inl (cA 3, 5, .inr (.inr (.inr (.inr (va_up (va_up (va_up (va_up (va_up (fun _ => none) (0 : Int32).toNatClampNeg (some q_10)) (1 : Int32).toNatClampNeg (some q_12)) (2 : Int32).toNatClampNeg (some q_14)) (3 : Int32).toNatClampNeg (some q_16)) (4 : Int32).toNatClampNeg (some q_18)))))))]) [0, 1, 2, 3, 4, 5, 6, 7, 8, 9, 10] (by decide) rfl
              refine lv_aload_n hx hb dX7_init_163 rfl (lv_at hl 1 rfl) ?_
              refine va_new (ci := 2) (fs := [.null, .null]) (C := RX2) (T := TX2) (N := 2) hx hb hts hin_X2 tyX2 tyX2_ok hown (hts (.classLink RX7 80 RX2) (by decide +kernel)) (hts (.instantiable RX2 2) (by decide +kernel)) (hts (.initialized RX2) (by decide +kernel)) hK hP hD hS hA rfl (fun j hj => by rcases (show j = 0 ∨ j = 1 by omega) with rfl | rfl <;> rfl) (Nat.le_of_ble_eq_true rfl) (Nat.le_of_ble_eq_true rfl) dX7_init_164 (fun q_26 H hP hD hS => ?_)
              refine W.widen (k := 51) (n := 4109) (by omega) (by omega) ?_
              have hP : va_P D vwCl [(h0, .inr (6, [.ref q_1, .ref q_3, .ref q_5, .int (nI c0), .ref q_7, .ref q_9, .ref q_20, .ref q_22, .ref q_24, .null, .null, .null, .int 0, .int 0, .int 0, .int 0, .int 0, .int 0, .int 0, .int 0])), (q_3, .inr (5, [.ref q_1, .int (nI t0), .int (nI k0), .ref (u_i_4 0), .ref (u_i_4 1), .ref (u_i_4 2), .ref (u_i_4 3), .int 0])), (q_1, .inr (1, [.int (nI p0), .int (nI q0), .int 0])), ((u_i_4 0), .inl (cA 0, k0, .inl (upd (fun _ => 0) (0 : Int32).toNatClampNeg 1))), (q_5, .inr (0, [.ref (u_i_6 0), .ref (u_i_6 1), .ref (u_i_6 2), .ref (u_i_6 3), .ref (u_i_6 4), .int 0])), ((u_i_6 0), .inl (cA 0, 600, .inl (fun _ => 0))), ((u_i_6 1), .inl (cA 0, 600, .inl (fun _ => 0))), ((u_i_6 2), .inl (cA 0, 600, .inl (fun _ => 0))), ((u_i_6 3), .inl (cA 2, 600, .inr (.inl (fun _ => 0)))), ((u_i_6 4), .inl (cA 2, 600, .inr (.inl (fun _ => 0)))), (q_9, .inl (cA 3, 5, .inr (.inr (.inr (.inr (va_up (va_up (va_up (va_up (va_up (fun _ => none) (0 : Int32).toNatClampNeg (some q_10)) (1 : Int32).toNatClampNeg (some q_12)) (2 : Int32).toNatClampNeg (some q_14)) (3 : Int32).toNatClampNeg (some q_16)) (4 : Int32).toNatClampNeg (some q_18))))))), (q_26, .inr (2, [.null, .null]))] H := hP
              have hD : va_D A [(h0, .inr (6, [.ref q_1, .ref q_3, .ref q_5, .int (nI c0), .ref q_7, .ref q_9, .ref q_20, .ref q_22, .ref q_24, .null, .null, .null, .int 0, .int 0, .int 0, .int 0, .int 0, .int 0, .int 0, .int 0])), (q_3, .inr (5, [.ref q_1, .int (nI t0), .int (nI k0), .ref (u_i_4 0), .ref (u_i_4 1), .ref (u_i_4 2), .ref (u_i_4 3), .int 0])), (q_1, .inr (1, [.int (nI p0), .int (nI q0), .int 0])), ((u_i_4 0), .inl (cA 0, k0, .inl (upd (fun _ => 0) (0 : Int32).toNatClampNeg 1))), (q_5, .inr (0, [.ref (u_i_6 0), .ref (u_i_6 1), .ref (u_i_6 2), .ref (u_i_6 3), .ref (u_i_6 4), .int 0])), ((u_i_6 0), .inl (cA 0, 600, .inl (fun _ => 0))), ((u_i_6 1), .inl (cA 0, 600, .inl (fun _ => 0))), ((u_i_6 2), .inl (cA 0, 600, .inl (fun _ => 0))), ((u_i_6 3), .inl (cA 2, 600, .inr (.inl (fun _ => 0)))), ((u_i_6 4), .inl (cA 2, 600, .inr (.inl (fun _ => 0)))), (q_9, .inl (cA 3, 5, .inr (.inr (.inr (.inr (va_up (va_up (va_up (va_up (va_up (fun _ => none) (0 : Int32).toNatClampNeg (some q_10)) (1 : Int32).toNatClampNeg (some q_12)) (2 : Int32).toNatClampNeg (some q_14)) (3 : Int32).toNatClampNeg (some q_16)) (4 : Int32).toNatClampNeg (some q_18))))))), (q_26, .inr (2, [.null, .null]))] := hD
              refine lv_dup hx hb dX7_init_167 rfl ?_
              have hPc := hP.sub (ws' := [(q_26, .inr (2, [.null, .null]))]) [11] rfl
              have hDc := hD.sub (ws' := [(q_26, .inr (2, [.null, .null]))]) [11] (by decide) rfl
              have hFc := va_free (wc := [(q_26, .inr (2, [.null, .null]))]) hD hS hA [11] rfl
              refine va_callv (va_runI (As := []) (rest := [.ref q_26, .ref h0]) ⟨hx, hb, hml, hown, hts⟩ (c_X2_init l D cA q_26 H.size) (cwI 0 hts gX7_init_X2_init rfl rfl rfl (hts (.initialized RX2) (by decide +kernel)) (hts (.methodLink RX7 82 yX2_init) (by decide +kernel)) (hts (.instanceMethod yX2_init) (by decide +kernel)) rfl (by decide +kernel) ⟨Nat.le_of_ble_eq_true rfl, Nat.le_of_ble_eq_true rfl⟩) ⟨in_blind, fun U hU hW => ⟨rfl, by rw [hU], by rw [hU]; exact hPc, va_K.moved hW.alike hK, hDc.weaken (fun _ _ _ _ => trivial), hX.moved hW.alike⟩⟩ rfl rfl hl.1 rfl (lv_room (Nat.le_of_ble_eq_true rfl)) dX7_init_168 ⟨Nat.le_of_ble_eq_true rfl, Nat.le_of_ble_eq_true rfl⟩) hS (fun q _ h => hFc q h) hFc (fun u t H1 locs ht hvm hw hB hz1 hk1 hS => ?_)
              obtain ⟨a_i_27, b_i_27⟩ := u
              obtain ⟨hP1, hK1, hD1⟩ := hB
              rw [ht] at hP1
              obtain _ := hw
              obtain ⟨hP, hD⟩ := va_join (wr := [(h0, .inr (6, [.ref q_1, .ref q_3, .ref q_5, .int (nI c0), .ref q_7, .ref q_9, .ref q_20, .ref q_22, .ref q_24, .null, .null, .null, .int 0, .int 0, .int 0, .int 0, .int 0, .int 0, .int 0, .int 0])), (q_3, .inr (5, [.ref q_1, .int (nI t0), .int (nI k0), .ref (u_i_4 0), .ref (u_i_4 1), .ref (u_i_4 2), .ref (u_i_4 3), .int 0])), (q_1, .inr (1, [.int (nI p0), .int (nI q0), .int 0])), ((u_i_4 0), .inl (cA 0, k0, .inl (upd (fun _ => 0) (0 : Int32).toNatClampNeg 1))), (q_5, .inr (0, [.ref (u_i_6 0), .ref (u_i_6 1), .ref (u_i_6 2), .ref (u_i_6 3), .ref (u_i_6 4), .int 0])), ((u_i_6 0), .inl (cA 0, 600, .inl (fun _ => 0))), ((u_i_6 1), .inl (cA 0, 600, .inl (fun _ => 0))), ((u_i_6 2), .inl (cA 0, 600, .inl (fun _ => 0))), ((u_i_6 3), .inl (cA 2, 600, .inr (.inl (fun _ => 0)))), ((u_i_6 4), .inl (cA 2, 600, .inr (.inl (fun _ => 0)))), (q_9, .inl (cA 3, 5, .inr (.inr (.inr (.inr (va_up (va_up (va_up (va_up (va_up (fun _ => none) (0 : Int32).toNatClampNeg (some q_10)) (1 : Int32).toNatClampNeg (some q_12)) (2 : Int32).toNatClampNeg (some q_14)) (3 : Int32).toNatClampNeg (some q_16)) (4 : Int32).toNatClampNeg (some q_18)))))))]) (w1 := [(q_26, .inr (2, [.ref a_i_27, .ref b_i_27])), (a_i_27, .inl (cA 0, 40, .inl (fun _ => -1))), (b_i_27, .inl (cA 0, 40, .inl (fun _ => -1)))]) hP hD [11] [0, 1, 2, 3, 4, 5, 6, 7, 8, 9, 10] rfl rfl (by decide) (by decide) hk1 hFc hP1 hD1
              generalize H1 = H at hP hS ⊢
              have hP : va_P D vwCl [(h0, .inr (6, [.ref q_1, .ref q_3, .ref q_5, .int (nI c0), .ref q_7, .ref q_9, .ref q_20, .ref q_22, .ref q_24, .null, .null, .null, .int 0, .int 0, .int 0, .int 0, .int 0, .int 0, .int 0, .int 0])), (q_3, .inr (5, [.ref q_1, .int (nI t0), .int (nI k0), .ref (u_i_4 0), .ref (u_i_4 1), .ref (u_i_4 2), .ref (u_i_4 3), .int 0])), (q_1, .inr (1, [.int (nI p0), .int (nI q0), .int 0])), ((u_i_4 0), .inl (cA 0, k0, .inl (upd (fun _ => 0) (0 : Int32).toNatClampNeg 1))), (q_5, .inr (0, [.ref (u_i_6 0), .ref (u_i_6 1), .ref (u_i_6 2), .ref (u_i_6 3), .ref (u_i_6 4), .int 0])), ((u_i_6 0), .inl (cA 0, 600, .inl (fun _ => 0))), ((u_i_6 1), .inl (cA 0, 600, .inl (fun _ => 0))), ((u_i_6 2), .inl (cA 0, 600, .inl (fun _ => 0))), ((u_i_6 3), .inl (cA 2, 600, .inr (.inl (fun _ => 0)))), ((u_i_6 4), .inl (cA 2, 600, .inr (.inl (fun _ => 0)))), (q_9, .inl (cA 3, 5, .inr (.inr (.inr (.inr (va_up (va_up (va_up (va_up (va_up (fun _ => none) (0 : Int32).toNatClampNeg (some q_10)) (1 : Int32).toNatClampNeg (some q_12)) (2 : Int32).toNatClampNeg (some q_14)) (3 : Int32).toNatClampNeg (some q_16)) (4 : Int32).toNatClampNeg (some q_18))))))), (q_26, .inr (2, [.ref a_i_27, .ref b_i_27])), (a_i_27, .inl (cA 0, 40, .inl (fun _ => -1))), (b_i_27, .inl (cA 0, 40, .inl (fun _ => -1)))] H := hP
              have hD : va_D A [(h0, .inr (6, [.ref q_1, .ref q_3, .ref q_5, .int (nI c0), .ref q_7, .ref q_9, .ref q_20, .ref q_22, .ref q_24, .null, .null, .null, .int 0, .int 0, .int 0, .int 0, .int 0, .int 0, .int 0, .int 0])), (q_3, .inr (5, [.ref q_1, .int (nI t0), .int (nI k0), .ref (u_i_4 0), .ref (u_i_4 1), .ref (u_i_4 2), .ref (u_i_4 3), .int 0])), (q_1, .inr (1, [.int (nI p0), .int (nI q0), .int 0])), ((u_i_4 0), .inl (cA 0, k0, .inl (upd (fun _ => 0) (0 : Int32).toNatClampNeg 1))), (q_5, .inr (0, [.ref (u_i_6 0), .ref (u_i_6 1), .ref (u_i_6 2), .ref (u_i_6 3), .ref (u_i_6 4), .int 0])), ((u_i_6 0), .inl (cA 0, 600, .inl (fun _ => 0))), ((u_i_6 1), .inl (cA 0, 600, .inl (fun _ => 0))), ((u_i_6 2), .inl (cA 0, 600, .inl (fun _ => 0))), ((u_i_6 3), .inl (cA 2, 600, .inr (.inl (fun _ => 0)))), ((u_i_6 4), .inl (cA 2, 600, .inr (.inl (fun _ => 0)))), (q_9, .inl (cA 3, 5, .inr (.inr (.inr (.inr (va_up (va_up (va_up (va_up (va_up (fun _ => none) (0 : Int32).toNatClampNeg (some q_10)) (1 : Int32).toNatClampNeg (some q_12)) (2 : Int32).toNatClampNeg (some q_14)) (3 : Int32).toNatClampNeg (some q_16)) (4 : Int32).toNatClampNeg (some q_18))))))), (q_26, .inr (2, [.ref a_i_27, .ref b_i_27])), (a_i_27, .inl (cA 0, 40, .inl (fun _ => -1))), (b_i_27, .inl (cA 0, 40, .inl (fun _ => -1)))] := hD
              refine W.widen (k := 53) (n := 4189) (by omega) (by omega) ?_
              refine va_putF (D := D) (ci := 6) (v := .ref q_26) (ty := (.object "MixElection$Moves")) (C := RX7) (T := TX7) (N := 20) hx hb hts hin_X7 tyX7 tyX7_ok nmX7 hown hK hP hD hS 0 rfl rfl 9 (by decide) (w_RX7_87) (fun _ h9 => h9) rfl hin rfl (by decide +kernel) rfl rfl (Nat.le_of_ble_eq_true rfl) dX7_init_171 (fun H locs hP hD hS => ?_)
              have hP : va_P D vwCl [(h0, .inr (6, [.ref q_1, .ref q_3, .ref q_5, .int (nI c0), .ref q_7, .ref q_9, .ref q_20, .ref q_22, .ref q_24, .ref q_26, .null, .null, .int 0, .int 0, .int 0, .int 0, .int 0, .int 0, .int 0, .int 0])), (q_3, .inr (5, [.ref q_1, .int (nI t0), .int (nI k0), .ref (u_i_4 0), .ref (u_i_4 1), .ref (u_i_4 2), .ref (u_i_4 3), .int 0])), (q_1, .inr (1, [.int (nI p0), .int (nI q0), .int 0])), ((u_i_4 0), .inl (cA 0, k0, .inl (upd (fun _ => 0) (0 : Int32).toNatClampNeg 1))), (q_5, .inr (0, [.ref (u_i_6 0), .ref (u_i_6 1), .ref (u_i_6 2), .ref (u_i_6 3), .ref (u_i_6 4), .int 0])), ((u_i_6 0), .inl (cA 0, 600, .inl (fun _ => 0))), ((u_i_6 1), .inl (cA 0, 600, .inl (fun _ => 0))), ((u_i_6 2), .inl (cA 0, 600, .inl (fun _ => 0))), ((u_i_6 3), .inl (cA 2, 600, .inr (.inl (fun _ => 0)))), ((u_i_6 4), .inl (cA 2, 600, .inr (.inl (fun _ => 0)))), (q_9, .inl (cA 3, 5, .inr (.inr (.inr (.inr (va_up (va_up (va_up (va_up (va_up (fun _ => none) (0 : Int32).toNatClampNeg (some q_10)) (1 : Int32).toNatClampNeg (some q_12)) (2 : Int32).toNatClampNeg (some q_14)) (3 : Int32).toNatClampNeg (some q_16)) (4 : Int32).toNatClampNeg (some q_18))))))), (q_26, .inr (2, [.ref a_i_27, .ref b_i_27])), (a_i_27, .inl (cA 0, 40, .inl (fun _ => -1))), (b_i_27, .inl (cA 0, 40, .inl (fun _ => -1)))] H := hP
              have hD : va_D A [(h0, .inr (6, [.ref q_1, .ref q_3, .ref q_5, .int (nI c0), .ref q_7, .ref q_9, .ref q_20, .ref q_22, .ref q_24, .ref q_26, .null, .null, .int 0, .int 0, .int 0, .int 0, .int 0, .int 0, .int 0, .int 0])), (q_3, .inr (5, [.ref q_1, .int (nI t0), .int (nI k0), .ref (u_i_4 0), .ref (u_i_4 1), .ref (u_i_4 2), .ref (u_i_4 3), .int 0])), (q_1, .inr (1, [.int (nI p0), .int (nI q0), .int 0])), ((u_i_4 0), .inl (cA 0, k0, .inl (upd (fun _ => 0) (0 : Int32).toNatClampNeg 1))), (q_5, .inr (0, [.ref (u_i_6 0), .ref (u_i_6 1), .ref (u_i_6 2), .ref (u_i_6 3), .ref (u_i_6 4), .int 0])), ((u_i_6 0), .inl (cA 0, 600, .inl (fun _ => 0))), ((u_i_6 1), .inl (cA 0, 600, .inl (fun _ => 0))), ((u_i_6 2), .inl (cA 0, 600, .inl (fun _ => 0))), ((u_i_6 3), .inl (cA 2, 600, .inr (.inl (fun _ => 0)))), ((u_i_6 4), .inl (cA 2, 600, .inr (.inl (fun _ => 0)))), (q_9, .inl (cA 3, 5, .inr (.inr (.inr (.inr (va_up (va_up (va_up (va_up (va_up (fun _ => none) (0 : Int32).toNatClampNeg (some q_10)) (1 : Int32).toNatClampNeg (some q_12)) (2 : Int32).toNatClampNeg (some q_14)) (3 : Int32).toNatClampNeg (some q_16)) (4 : Int32).toNatClampNeg (some q_18))))))), (q_26, .inr (2, [.ref a_i_27, .ref b_i_27])), (a_i_27, .inl (cA 0, 40, .inl (fun _ => -1))), (b_i_27, .inl (cA 0, 40, .inl (fun _ => -1)))] := hD
              have hP := hP.sub (ws' := [(h0, .inr (6, [.ref q_1, .ref q_3, .ref q_5, .int (nI c0), .ref q_7, .ref q_9, .ref q_20, .ref q_22, .ref q_24, .ref q_26, .null, .null, .int 0, .int 0, .int 0, .int 0, .int 0, .int 0, .int 0, .int 0])), (q_3, .inr (5, [.ref q_1, .int (nI t0), .int (nI k0), .ref (u_i_4 0), .ref (u_i_4 1), .ref (u_i_4 2), .ref (u_i_4 3), .int 0])), (q_1, .inr (1, [.int (nI p0), .int (nI q0), .int 0])), ((u_i_4 0), .inl (cA 0, k0, .inl (upd (fun _ => 0) (0 : Int32).toNatClampNeg 1))), (q_5, .inr (0, [.ref (u_i_6 0), .ref (u_i_6 1), .ref (u_i_6 2), .ref (u_i_6 3), .ref (u_i_6 4), .int 0])), ((u_i_6 0), .inl (cA 0, 600, .inl (fun _ => 0))), ((u_i_6 1), .inl (cA 0, 600, .inl (fun _ => 0))), ((u_i_6 2), .inl (cA 0, 600, .inl (fun _ => 0))), ((u_i_6 3), .inl (cA 2, 600, .inr (.inl (fun _ => 0)))), ((u_i_6 4), .inl (cA 2, 600, .inr (.inl (fun _ => 0)))), (q_9, .inl (cA 3, 5, .inr (.inr (.inr (.inr (va_up (va_up (va_up (va_up (va_up (fun _ => none) (0 : Int32).toNatClampNeg (some q_10)) (1 : Int32).toNatClampNeg (some q_12)) (2 : Int32).toNatClampNeg (some q_14)) (3 : Int32).toNatClampNeg (some q_16)) (4 : Int32).toNatClampNeg (some q_18)))))))]) [0, 1, 2, 3, 4, 5, 6, 7, 8, 9, 10] rfl
              have hD := hD.sub (ws' := [(h0, .inr (6, [.ref q_1, .ref q_3, .ref q_5, .int (nI c0), .ref q_7, .ref q_9, .ref q_20, .ref q_22, .ref q_24, .ref q_26, .null, .null, .int 0, .int 0, .int 0, .int 0, .int 0, .int 0, .int 0, .int 0])), (q_3, .inr (5, [.ref q_1, .int (nI t0), .int (nI k0), .ref (u_i_4 0), .ref (u_i_4 1), .ref (u_i_4 2), .ref (u_i_4 3), .int 0])), (q_1, .inr (1, [.int (nI p0), .int (nI q0), .int 0])), ((u_i_4 0), .inl (cA 0, k0, .inl (upd (fun _ => 0) (0 : Int32).toNatClampNeg 1))), (q_5, .inr (0, [.ref (u_i_6 0), .ref (u_i_6 1), .ref (u_i_6 2), .ref (u_i_6 3), .ref (u_i_6 4), .int 0])), ((u_i_6 0), .inl (cA 0, 600, .inl (fun _ => 0))), ((u_i_6 1), .inl (cA 0, 600, .inl (fun _ => 0))), ((u_i_6 2), .inl (cA 0, 600, .inl (fun _ => 0))), ((u_i_6 3), .inl (cA 2, 600, .inr (.inl (fun _ => 0)))), ((u_i_6 4), .inl (cA 2, 600, .inr (.inl (fun _ => 0)))), (q_9, .inl (cA 3, 5, .inr (.inr (.inr (.inr (va_up (va_up (va_up (va_up (va_up (fun _ => none) (0 : Int32).toNatClampNeg (some q_10)) (1 : Int32).toNatClampNeg (some q_12)) (2 : Int32).toNatClampNeg (some q_14)) (3 : Int32).toNatClampNeg (some q_16)) (4 : Int32).toNatClampNeg (some q_18)))))))]) [0, 1, 2, 3, 4, 5, 6, 7, 8, 9, 10] (by decide) rfl
              refine lv_aload_n hx hb dX7_init_174 rfl (lv_at hl 1 rfl) ?_
              refine va_new (ci := 2) (fs := [.null, .null]) (C := RX2) (T := TX2) (N := 2) hx hb hts hin_X2 tyX2 tyX2_ok hown (hts (.classLink RX7 80 RX2) (by decide +kernel)) (hts (.instantiable RX2 2) (by decide +kernel)) (hts (.initialized RX2) (by decide +kernel)) hK hP hD hS hA rfl (fun j hj => by rcases (show j = 0 ∨ j = 1 by omega) with rfl | rfl <;> rfl) (Nat.le_of_ble_eq_true rfl) (Nat.le_of_ble_eq_true rfl) dX7_init_175 (fun q_28 H hP hD hS => ?_)
              refine W.widen (k := 54) (n := 4191) (by omega) (by omega) ?_
              have hP : va_P D vwCl [(h0, .inr (6, [.ref q_1, .ref q_3, .ref q_5, .int (nI c0), .ref q_7, .ref q_9, .ref q_20, .ref q_22, .ref q_24, .ref q_26, .null, .null, .int 0, .int 0, .int 0, .int 0, .int 0, .int 0, .int 0, .int 0])), (q_3, .inr (5, [.ref q_1, .int (nI t0), .int (nI k0), .ref (u_i_4 0), .ref (u_i_4 1), .ref (u_i_4 2), .ref (u_i_4 3), .int 0])), (q_1, .inr (1, [.int (nI p0), .int (nI q0), .int 0])), ((u_i_4 0), .inl (cA 0, k0, .inl (upd (fun _ => 0) (0 : Int32).toNatClampNeg 1))), (q_5, .inr (0, [.ref (u_i_6 0), .ref (u_i_6 1), .ref (u_i_6 2), .ref (u_i_6 3), .ref (u_i_6 4), .int 0])), ((u_i_6 0), .inl (cA 0, 600, .inl (fun _ => 0))), ((u_i_6 1), .inl (cA 0, 600, .inl (fun _ => 0))), ((u_i_6 2), .inl (cA 0, 600, .inl (fun _ => 0))), ((u_i_6 3), .inl (cA 2, 600, .inr (.inl (fun _ => 0)))), ((u_i_6 4), .inl (cA 2, 600, .inr (.inl (fun _ => 0)))), (q_9, .inl (cA 3, 5, .inr (.inr (.inr (.inr (va_up (va_up (va_up (va_up (va_up (fun _ => none) (0 : Int32).toNatClampNeg (some q_10)) (1 : Int32).toNatClampNeg (some q_12)) (2 : Int32).toNatClampNeg (some q_14)) (3 : Int32).toNatClampNeg (some q_16)) (4 : Int32).toNatClampNeg (some q_18))))))), (q_28, .inr (2, [.null, .null]))] H := hP
              have hD : va_D A [(h0, .inr (6, [.ref q_1, .ref q_3, .ref q_5, .int (nI c0), .ref q_7, .ref q_9, .ref q_20, .ref q_22, .ref q_24, .ref q_26, .null, .null, .int 0, .int 0, .int 0, .int 0, .int 0, .int 0, .int 0, .int 0])), (q_3, .inr (5, [.ref q_1, .int (nI t0), .int (nI k0), .ref (u_i_4 0), .ref (u_i_4 1), .ref (u_i_4 2), .ref (u_i_4 3), .int 0])), (q_1, .inr (1, [.int (nI p0), .int (nI q0), .int 0])), ((u_i_4 0), .inl (cA 0, k0, .inl (upd (fun _ => 0) (0 : Int32).toNatClampNeg 1))), (q_5, .inr (0, [.ref (u_i_6 0), .ref (u_i_6 1), .ref (u_i_6 2), .ref (u_i_6 3), .ref (u_i_6 4), .int 0])), ((u_i_6 0), .inl (cA 0, 600, .inl (fun _ => 0))), ((u_i_6 1), .inl (cA 0, 600, .inl (fun _ => 0))), ((u_i_6 2), .inl (cA 0, 600, .inl (fun _ => 0))), ((u_i_6 3), .inl (cA 2, 600, .inr (.inl (fun _ => 0)))), ((u_i_6 4), .inl (cA 2, 600, .inr (.inl (fun _ => 0)))), (q_9, .inl (cA 3, 5, .inr (.inr (.inr (.inr (va_up (va_up (va_up (va_up (va_up (fun _ => none) (0 : Int32).toNatClampNeg (some q_10)) (1 : Int32).toNatClampNeg (some q_12)) (2 : Int32).toNatClampNeg (some q_14)) (3 : Int32).toNatClampNeg (some q_16)) (4 : Int32).toNatClampNeg (some q_18))))))), (q_28, .inr (2, [.null, .null]))] := hD
              refine lv_dup hx hb dX7_init_178 rfl ?_
              have hPc := hP.sub (ws' := [(q_28, .inr (2, [.null, .null]))]) [11] rfl
              have hDc := hD.sub (ws' := [(q_28, .inr (2, [.null, .null]))]) [11] (by decide) rfl
              have hFc := va_free (wc := [(q_28, .inr (2, [.null, .null]))]) hD hS hA [11] rfl
              refine va_callv (va_runI (As := []) (rest := [.ref q_28, .ref h0]) ⟨hx, hb, hml, hown, hts⟩ (c_X2_init l D cA q_28 H.size) (cwI 0 hts gX7_init_X2_init rfl rfl rfl (hts (.initialized RX2) (by decide +kernel)) (hts (.methodLink RX7 82 yX2_init) (by decide +kernel)) (hts (.instanceMethod yX2_init) (by decide +kernel)) rfl (by decide +kernel) ⟨Nat.le_of_ble_eq_true rfl, Nat.le_of_ble_eq_true rfl⟩) ⟨in_blind, fun U hU hW => ⟨rfl, by rw [hU], by rw [hU]; exact hPc, va_K.moved hW.alike hK, hDc.weaken (fun _ _ _ _ => trivial), hX.moved hW.alike⟩⟩ rfl rfl hl.1 rfl (lv_room (Nat.le_of_ble_eq_true rfl)) dX7_init_179 ⟨Nat.le_of_ble_eq_true rfl, Nat.le_of_ble_eq_true rfl⟩) hS (fun q _ h => hFc q h) hFc (fun u t H1 locs ht hvm hw hB hz1 hk1 hS => ?_)
              obtain ⟨a_i_29, b_i_29⟩ := u
              obtain ⟨hP1, hK1, hD1⟩ := hB
              rw [ht] at hP1
              obtain _ := hw
              obtain ⟨hP, hD⟩ := va_join (wr := [(h0, .inr (6, [.ref q_1, .ref q_3, .ref q_5, .int (nI c0), .ref q_7, .ref q_9, .ref q_20, .ref q_22, .ref q_24, .ref q_26, .null, .null, .int 0, .int 0, .int 0, .int 0, .int 0, .int 0, .int 0, .int 0])), (q_3, .inr (5, [.ref q_1, .int (nI t0), .int (nI k0), .ref (u_i_4 0), .ref (u_i_4 1), .ref (u_i_4 2), .ref (u_i_4 3), .int 0])), (q_1, .inr (1, [.int (nI p0), .int (nI q0), .int 0])), ((u_i_4 0), .inl (cA 0, k0, .inl (upd (fun _ => 0) (0 : Int32).toNatClampNeg 1))), (q_5, .inr (0, [.ref (u_i_6 0), .ref (u_i_6 1), .ref (u_i_6 2), .ref (u_i_6 3), .ref (u_i_6 4), .int 0])), ((u_i_6 0), .inl (cA 0, 600, .inl (fun _ => 0))), ((u_i_6 1), .inl (cA 0, 600, .inl (fun _ => 0))), ((u_i_6 2), .inl (cA 0, 600, .inl (fun _ => 0))), ((u_i_6 3), .inl (cA 2, 600, .inr (.inl (fun _ => 0)))), ((u_i_6 4), .inl (cA 2, 600, .inr (.inl (fun _ => 0)))), (q_9, .inl (cA 3, 5, .inr (.inr (.inr (.inr (va_up (va_up (va_up (va_up (va_up (fun _ => none) (0 : Int32).toNatClampNeg (some q_10)) (1 : Int32).toNatClampNeg (some q_12)) (2 : Int32).toNatClampNeg (some q_14)) (3 : Int32).toNatClampNeg (some q_16)) (4 : Int32).toNatClampNeg (some q_18)))))))]) (w1 := [(q_28, .inr (2, [.ref a_i_29, .ref b_i_29])), (a_i_29, .inl (cA 0, 40, .inl (fun _ => -1))), (b_i_29, .inl (cA 0, 40, .inl (fun _ => -1)))]) hP hD [11] [0, 1, 2, 3, 4, 5, 6, 7, 8, 9, 10] rfl rfl (by decide) (by decide) hk1 hFc hP1 hD1
              generalize H1 = H at hP hS ⊢
              have hP : va_P D vwCl [(h0, .inr (6, [.ref q_1, .ref q_3, .ref q_5, .int (nI c0), .ref q_7, .ref q_9, .ref q_20, .ref q_22, .ref q_24, .ref q_26, .null, .null, .int 0, .int 0, .int 0, .int 0, .int 0, .int 0, .int 0, .int 0])), (q_3, .inr (5, [.ref q_1, .int (nI t0), .int (nI k0), .ref (u_i_4 0), .ref (u_i_4 1), .ref (u_i_4 2), .ref (u_i_4 3), .int 0])), (q_1, .inr (1, [.int (nI p0), .int (nI q0), .int 0])), ((u_i_4 0), .inl (cA 0, k0, .inl (upd (fun _ => 0) (0 : Int32).toNatClampNeg 1))), (q_5, .inr (0, [.ref (u_i_6 0), .ref (u_i_6 1), .ref (u_i_6 2), .ref (u_i_6 3), .ref (u_i_6 4), .int 0])), ((u_i_6 0), .inl (cA 0, 600, .inl (fun _ => 0))), ((u_i_6 1), .inl (cA 0, 600, .inl (fun _ => 0))), ((u_i_6 2), .inl (cA 0, 600, .inl (fun _ => 0))), ((u_i_6 3), .inl (cA 2, 600, .inr (.inl (fun _ => 0)))), ((u_i_6 4), .inl (cA 2, 600, .inr (.inl (fun _ => 0)))), (q_9, .inl (cA 3, 5, .inr (.inr (.inr (.inr (va_up (va_up (va_up (va_up (va_up (fun _ => none) (0 : Int32).toNatClampNeg (some q_10)) (1 : Int32).toNatClampNeg (some q_12)) (2 : Int32).toNatClampNeg (some q_14)) (3 : Int32).toNatClampNeg (some q_16)) (4 : Int32).toNatClampNeg (some q_18))))))), (q_28, .inr (2, [.ref a_i_29, .ref b_i_29])), (a_i_29, .inl (cA 0, 40, .inl (fun _ => -1))), (b_i_29, .inl (cA 0, 40, .inl (fun _ => -1)))] H := hP
              have hD : va_D A [(h0, .inr (6, [.ref q_1, .ref q_3, .ref q_5, .int (nI c0), .ref q_7, .ref q_9, .ref q_20, .ref q_22, .ref q_24, .ref q_26, .null, .null, .int 0, .int 0, .int 0, .int 0, .int 0, .int 0, .int 0, .int 0])), (q_3, .inr (5, [.ref q_1, .int (nI t0), .int (nI k0), .ref (u_i_4 0), .ref (u_i_4 1), .ref (u_i_4 2), .ref (u_i_4 3), .int 0])), (q_1, .inr (1, [.int (nI p0), .int (nI q0), .int 0])), ((u_i_4 0), .inl (cA 0, k0, .inl (upd (fun _ => 0) (0 : Int32).toNatClampNeg 1))), (q_5, .inr (0, [.ref (u_i_6 0), .ref (u_i_6 1), .ref (u_i_6 2), .ref (u_i_6 3), .ref (u_i_6 4), .int 0])), ((u_i_6 0), .inl (cA 0, 600, .inl (fun _ => 0))), ((u_i_6 1), .inl (cA 0, 600, .inl (fun _ => 0))), ((u_i_6 2), .inl (cA 0, 600, .inl (fun _ => 0))), ((u_i_6 3), .inl (cA 2, 600, .inr (.inl (fun _ => 0)))), ((u_i_6 4), .inl (cA 2, 600, .inr (.inl (fun _ => 0)))), (q_9, .inl (cA 3, 5, .inr (.inr (.inr (.inr (va_up (va_up (va_up (va_up (va_up (fun _ => none) (0 : Int32).toNatClampNeg (some q_10)) (1 : Int32).toNatClampNeg (some q_12)) (2 : Int32).toNatClampNeg (some q_14)) (3 : Int32).toNatClampNeg (some q_16)) (4 : Int32).toNatClampNeg (some q_18))))))), (q_28, .inr (2, [.ref a_i_29, .ref b_i_29])), (a_i_29, .inl (cA 0, 40, .inl (fun _ => -1))), (b_i_29, .inl (cA 0, 40, .inl (fun _ => -1)))] := hD
              refine W.widen (k := 56) (n := 4271) (by omega) (by omega) ?_
              refine va_putF (D := D) (ci := 6) (v := .ref q_28) (ty := (.object "MixElection$Moves")) (C := RX7) (T := TX7) (N := 20) hx hb hts hin_X7 tyX7 tyX7_ok nmX7 hown hK hP hD hS 0 rfl rfl 10 (by decide) (w_RX7_90) (fun _ h9 => h9) rfl hin rfl (by decide +kernel) rfl rfl (Nat.le_of_ble_eq_true rfl) dX7_init_182 (fun H locs hP hD hS => ?_)
              have hP : va_P D vwCl [(h0, .inr (6, [.ref q_1, .ref q_3, .ref q_5, .int (nI c0), .ref q_7, .ref q_9, .ref q_20, .ref q_22, .ref q_24, .ref q_26, .ref q_28, .null, .int 0, .int 0, .int 0, .int 0, .int 0, .int 0, .int 0, .int 0])), (q_3, .inr (5, [.ref q_1, .int (nI t0), .int (nI k0), .ref (u_i_4 0), .ref (u_i_4 1), .ref (u_i_4 2), .ref (u_i_4 3), .int 0])), (q_1, .inr (1, [.int (nI p0), .int (nI q0), .int 0])), ((u_i_4 0), .inl (cA 0, k0, .inl (upd (fun _ => 0) (0 : Int32).toNatClampNeg 1))), (q_5, .inr (0, [.ref (u_i_6 0), .ref (u_i_6 1), .ref (u_i_6 2), .ref (u_i_6 3), .ref (u_i_6 4), .int 0])), ((u_i_6 0), .inl (cA 0, 600, .inl (fun _ => 0))), ((u_i_6 1), .inl (cA 0, 600, .inl (fun _ => 0))), ((u_i_6 2), .inl (cA 0, 600, .inl (fun _ => 0))), ((u_i_6 3), .inl (cA 2, 600, .inr (.inl (fun _ => 0)))), ((u_i_6 4), .inl (cA 2, 600, .inr (.inl (fun _ => 0)))), (q_9, .inl (cA 3, 5, .inr (.inr (.inr (.inr (va_up (va_up (va_up (va_up (va_up (fun _ => none) (0 : Int32).toNatClampNeg (some q_10)) (1 : Int32).toNatClampNeg (some q_12)) (2 : Int32).toNatClampNeg (some q_14)) (3 : Int32).toNatClampNeg (some q_16)) (4 : Int32).toNatClampNeg (some q_18))))))), (q_28, .inr (2, [.ref a_i_29, .ref b_i_29])), (a_i_29, .inl (cA 0, 40, .inl (fun _ => -1))), (b_i_29, .inl (cA 0, 40, .inl (fun _ => -1)))] H := hP
              have hD : va_D A [(h0, .inr (6, [.ref q_1, .ref q_3, .ref q_5, .int (nI c0), .ref q_7, .ref q_9, .ref q_20, .ref q_22, .ref q_24, .ref q_26, .ref q_28, .null, .int 0, .int 0, .int 0, .int 0, .int 0, .int 0, .int 0, .int 0])), (q_3, .inr (5, [.ref q_1, .int (nI t0), .int (nI k0), .ref (u_i_4 0), .ref (u_i_4 1), .ref (u_i_4 2), .ref (u_i_4 3), .int 0])), (q_1, .inr (1, [.int (nI p0), .int (nI q0), .int 0])), ((u_i_4 0), .inl (cA 0, k0, .inl (upd (fun _ => 0) (0 : Int32).toNatClampNeg 1))), (q_5, .inr (0, [.ref (u_i_6 0), .ref (u_i_6 1), .ref (u_i_6 2), .ref (u_i_6 3), .ref (u_i_6 4), .int 0])), ((u_i_6 0), .inl (cA 0, 600, .inl (fun _ => 0))), ((u_i_6 1), .inl (cA 0, 600, .inl (fun _ => 0))), ((u_i_6 2), .inl (cA 0, 600, .inl (fun _ => 0))), ((u_i_6 3), .inl (cA 2, 600, .inr (.inl (fun _ => 0)))), ((u_i_6 4), .inl (cA 2, 600, .inr (.inl (fun _ => 0)))), (q_9, .inl (cA 3, 5, .inr (.inr (.inr (.inr (va_up (va_up (va_up (va_up (va_up (fun _ => none) (0 : Int32).toNatClampNeg (some q_10)) (1 : Int32).toNatClampNeg (some q_12)) (2 : Int32).toNatClampNeg (some q_14)) (3 : Int32).toNatClampNeg (some q_16)) (4 : Int32).toNatClampNeg (some q_18))))))), (q_28, .inr (2, [.ref a_i_29, .ref b_i_29])), (a_i_29, .inl (cA 0, 40, .inl (fun _ => -1))), (b_i_29, .inl (cA 0, 40, .inl (fun _ => -1)))] := hD
              have hP := hP.sub (ws' := [(h0, .inr (6, [.ref q_1, .ref q_3, .ref q_5, .int (nI c0), .ref q_7, .ref q_9, .ref q_20, .ref q_22, .ref q_24, .ref q_26, .ref q_28, .null, .int 0, .int 0, .int 0, .int 0, .int 0, .int 0, .int 0, .int 0])), (q_3, .inr (5, [.ref q_1, .int (nI t0), .int (nI k0), .ref (u_i_4 0), .ref (u_i_4 1), .ref (u_i_4 2), .ref (u_i_4 3), .int 0])), (q_1, .inr (1, [.int (nI p0), .int (nI q0), .int 0])), ((u_i_4 0), .inl (cA 0, k0, .inl (upd (fun _ => 0) (0 : Int32).toNatClampNeg 1))), (q_5, .inr (0, [.ref (u_i_6 0), .ref (u_i_6 1), .ref (u_i_6 2), .ref (u_i_6 3), .ref (u_i_6 4), .int 0])), ((u_i_6 0), .inl (cA 0, 600, .inl (fun _ => 0))), ((u_i_6 1), .inl (cA 0, 600, .inl (fun _ => 0))), ((u_i_6 2), .inl (cA 0, 600, .inl (fun _ => 0))), ((u_i_6 3), .inl (cA 2, 600, .inr (.inl (fun _ => 0)))), ((u_i_6 4), .inl (cA 2, 600, .inr (.inl (fun _ => 0)))), (q_9, .inl (cA 3, 5, .inr (.inr (.inr (.inr (va_up (va_up (va_up (va_up (va_up (fun _ => none) (0 : Int32).toNatClampNeg (some q_10)) (1 : Int32).toNatClampNeg (some q_12)) (2 : Int32).toNatClampNeg (some q_14)) (3 : Int32).toNatClampNeg (some q_16)) (4 : Int32).toNatClampNeg (some q_18)))))))]) [0, 1, 2, 3, 4, 5, 6, 7, 8, 9, 10] rfl
              have hD := hD.sub (ws' := [(h0, .inr (6, [.ref q_1, .ref q_3, .ref q_5, .int (nI c0), .ref q_7, .ref q_9, .ref q_20, .ref q_22, .ref q_24, .ref q_26, .ref q_28, .null, .int 0, .int 0, .int 0, .int 0, .int 0, .int 0, .int 0, .int 0])), (q_3, .inr (5, [.ref q_1, .int (nI t0), .int (nI k0), .ref (u_i_4 0), .ref (u_i_4 1), .ref (u_i_4 2), .ref (u_i_4 3), .int 0])), (q_1, .inr (1, [.int (nI p0), .int (nI q0), .int 0])), ((u_i_4 0), .inl (cA 0, k0, .inl (upd (fun _ => 0) (0 : Int32).toNatClampNeg 1))), (q_5, .inr (0, [.ref (u_i_6 0), .ref (u_i_6 1), .ref (u_i_6 2), .ref (u_i_6 3), .ref (u_i_6 4), .int 0])), ((u_i_6 0), .inl (cA 0, 600, .inl (fun _ => 0))), ((u_i_6 1), .inl (cA 0, 600, .inl (fun _ => 0))), ((u_i_6 2), .inl (cA 0, 600, .inl (fun _ => 0))), ((u_i_6 3), .inl (cA 2, 600, .inr (.inl (fun _ => 0)))), ((u_i_6 4), .inl (cA 2, 600, .inr (.inl (fun _ => 0)))), (q_9, .inl (cA 3, 5, .inr (.inr (.inr (.inr (va_up (va_up (va_up (va_up (va_up (fun _ => none) (0 : Int32).toNatClampNeg (some q_10)) (1 : Int32).toNatClampNeg (some q_12)) (2 : Int32).toNatClampNeg (some q_14)) (3 : Int32).toNatClampNeg (some q_16)) (4 : Int32).toNatClampNeg (some q_18)))))))]) [0, 1, 2, 3, 4, 5, 6, 7, 8, 9, 10] (by decide) rfl
              refine lv_aload_n hx hb dX7_init_185 rfl (lv_at hl 1 rfl) ?_
              refine lv_aload_n hx hb dX7_init_186 rfl (lv_at hl 1 rfl) ?_
              refine va_get (D := D) (ci := 6) (v := .int (nI c0)) (C := RX7) (T := TX7) (N := 20) hx hb hts hin_X7 hown hK hP 0 rfl rfl 3 (by decide) (w_RX7_39) (fun _ h9 => h9) rfl dX7_init_187 ?_
              refine lv_iconst (v := 1) hx hb dX7_init_190 (by decide) ?_
              refine lv_iadd hx hb dX7_init_191 ?_
              refine ka_newa (atype := .int) (ty := .int) (N' := (c0 + 1)) (n := ((nI c0) + 1)) (a0 := ((c0 + 1), .inl (fun _ => 0))) hx hb (hts (.arrayClass .int) (by decide +kernel)) rfl hK hP hD hS hA 0 rfl (fun _ => rfl) (by rw [nI_1]; exact nI_pos (by omega)) (by rw [nI_1]; exact nI_clamp (by omega)) (by show (c0 + 1) * 4 ≤ 536870912; omega) (Nat.le_of_ble_eq_true rfl) (Nat.le_trans (show 4271 + (c0 + 1) ≤ 4282 by omega) (Nat.le_of_ble_eq_true rfl)) dX7_init_192 (fun q_30 H hP hD hS => ?_)
              refine W.widen (k := 57) (n := 4282) (by omega) (by omega) ?_
              have hP : va_P D vwCl [(h0, .inr (6, [.ref q_1, .ref q_3, .ref q_5, .int (nI c0), .ref q_7, .ref q_9, .ref q_20, .ref q_22, .ref q_24, .ref q_26, .ref q_28, .null, .int 0, .int 0, .int 0, .int 0, .int 0, .int 0, .int 0, .int 0])), (q_3, .inr (5, [.ref q_1, .int (nI t0), .int (nI k0), .ref (u_i_4 0), .ref (u_i_4 1), .ref (u_i_4 2), .ref (u_i_4 3), .int 0])), (q_1, .inr (1, [.int (nI p0), .int (nI q0), .int 0])), ((u_i_4 0), .inl (cA 0, k0, .inl (upd (fun _ => 0) (0 : Int32).toNatClampNeg 1))), (q_5, .inr (0, [.ref (u_i_6 0), .ref (u_i_6 1), .ref (u_i_6 2), .ref (u_i_6 3), .ref (u_i_6 4), .int 0])), ((u_i_6 0), .inl (cA 0, 600, .inl (fun _ => 0))), ((u_i_6 1), .inl (cA 0, 600, .inl (fun _ => 0))), ((u_i_6 2), .inl (cA 0, 600, .inl (fun _ => 0))), ((u_i_6 3), .inl (cA 2, 600, .inr (.inl (fun _ => 0)))), ((u_i_6 4), .inl (cA 2, 600, .inr (.inl (fun _ => 0)))), (q_9, .inl (cA 3, 5, .inr (.inr (.inr (.inr (va_up (va_up (va_up (va_up (va_up (fun _ => none) (0 : Int32).toNatClampNeg (some q_10)) (1 : Int32).toNatClampNeg (some q_12)) (2 : Int32).toNatClampNeg (some q_14)) (3 : Int32).toNatClampNeg (some q_16)) (4 : Int32).toNatClampNeg (some q_18))))))), (q_30, .inl (cA 0, (c0 + 1), .inl (fun _ => 0)))] H := hP
              have hD : va_D A [(h0, .inr (6, [.ref q_1, .ref q_3, .ref q_5, .int (nI c0), .ref q_7, .ref q_9, .ref q_20, .ref q_22, .ref q_24, .ref q_26, .ref q_28, .null, .int 0, .int 0, .int 0, .int 0, .int 0, .int 0, .int 0, .int 0])), (q_3, .inr (5, [.ref q_1, .int (nI t0), .int (nI k0), .ref (u_i_4 0), .ref (u_i_4 1), .ref (u_i_4 2), .ref (u_i_4 3), .int 0])), (q_1, .inr (1, [.int (nI p0), .int (nI q0), .int 0])), ((u_i_4 0), .inl (cA 0, k0, .inl (upd (fun _ => 0) (0 : Int32).toNatClampNeg 1))), (q_5, .inr (0, [.ref (u_i_6 0), .ref (u_i_6 1), .ref (u_i_6 2), .ref (u_i_6 3), .ref (u_i_6 4), .int 0])), ((u_i_6 0), .inl (cA 0, 600, .inl (fun _ => 0))), ((u_i_6 1), .inl (cA 0, 600, .inl (fun _ => 0))), ((u_i_6 2), .inl (cA 0, 600, .inl (fun _ => 0))), ((u_i_6 3), .inl (cA 2, 600, .inr (.inl (fun _ => 0)))), ((u_i_6 4), .inl (cA 2, 600, .inr (.inl (fun _ => 0)))), (q_9, .inl (cA 3, 5, .inr (.inr (.inr (.inr (va_up (va_up (va_up (va_up (va_up (fun _ => none) (0 : Int32).toNatClampNeg (some q_10)) (1 : Int32).toNatClampNeg (some q_12)) (2 : Int32).toNatClampNeg (some q_14)) (3 : Int32).toNatClampNeg (some q_16)) (4 : Int32).toNatClampNeg (some q_18))))))), (q_30, .inl (cA 0, (c0 + 1), .inl (fun _ => 0)))] := hD
              refine va_putF (D := D) (ci := 6) (v := .ref q_30) (ty := (.array .int)) (C := RX7) (T := TX7) (N := 20) hx hb hts hin_X7 tyX7 tyX7_ok nmX7 hown hK hP hD hS 0 rfl rfl 11 (by decide) (w_RX7_93) (fun _ h9 => h9) rfl hin rfl (by decide +kernel) rfl rfl (Nat.le_of_ble_eq_true rfl) dX7_init_194 (fun H locs hP hD hS => ?_)
              have hP : va_P D vwCl [(h0, .inr (6, [.ref q_1, .ref q_3, .ref q_5, .int (nI c0), .ref q_7, .ref q_9, .ref q_20, .ref q_22, .ref q_24, .ref q_26, .ref q_28, .ref q_30, .int 0, .int 0, .int 0, .int 0, .int 0, .int 0, .int 0, .int 0])), (q_3, .inr (5, [.ref q_1, .int (nI t0), .int (nI k0), .ref (u_i_4 0), .ref (u_i_4 1), .ref (u_i_4 2), .ref (u_i_4 3), .int 0])), (q_1, .inr (1, [.int (nI p0), .int (nI q0), .int 0])), ((u_i_4 0), .inl (cA 0, k0, .inl (upd (fun _ => 0) (0 : Int32).toNatClampNeg 1))), (q_5, .inr (0, [.ref (u_i_6 0), .ref (u_i_6 1), .ref (u_i_6 2), .ref (u_i_6 3), .ref (u_i_6 4), .int 0])), ((u_i_6 0), .inl (cA 0, 600, .inl (fun _ => 0))), ((u_i_6 1), .inl (cA 0, 600, .inl (fun _ => 0))), ((u_i_6 2), .inl (cA 0, 600, .inl (fun _ => 0))), ((u_i_6 3), .inl (cA 2, 600, .inr (.inl (fun _ => 0)))), ((u_i_6 4), .inl (cA 2, 600, .inr (.inl (fun _ => 0)))), (q_9, .inl (cA 3, 5, .inr (.inr (.inr (.inr (va_up (va_up (va_up (va_up (va_up (fun _ => none) (0 : Int32).toNatClampNeg (some q_10)) (1 : Int32).toNatClampNeg (some q_12)) (2 : Int32).toNatClampNeg (some q_14)) (3 : Int32).toNatClampNeg (some q_16)) (4 : Int32).toNatClampNeg (some q_18))))))), (q_30, .inl (cA 0, (c0 + 1), .inl (fun _ => 0)))] H := hP
              have hD : va_D A [(h0, .inr (6, [.ref q_1, .ref q_3, .ref q_5, .int (nI c0), .ref q_7, .ref q_9, .ref q_20, .ref q_22, .ref q_24, .ref q_26, .ref q_28, .ref q_30, .int 0, .int 0, .int 0, .int 0, .int 0, .int 0, .int 0, .int 0])), (q_3, .inr (5, [.ref q_1, .int (nI t0), .int (nI k0), .ref (u_i_4 0), .ref (u_i_4 1), .ref (u_i_4 2), .ref (u_i_4 3), .int 0])), (q_1, .inr (1, [.int (nI p0), .int (nI q0), .int 0])), ((u_i_4 0), .inl (cA 0, k0, .inl (upd (fun _ => 0) (0 : Int32).toNatClampNeg 1))), (q_5, .inr (0, [.ref (u_i_6 0), .ref (u_i_6 1), .ref (u_i_6 2), .ref (u_i_6 3), .ref (u_i_6 4), .int 0])), ((u_i_6 0), .inl (cA 0, 600, .inl (fun _ => 0))), ((u_i_6 1), .inl (cA 0, 600, .inl (fun _ => 0))), ((u_i_6 2), .inl (cA 0, 600, .inl (fun _ => 0))), ((u_i_6 3), .inl (cA 2, 600, .inr (.inl (fun _ => 0)))), ((u_i_6 4), .inl (cA 2, 600, .inr (.inl (fun _ => 0)))), (q_9, .inl (cA 3, 5, .inr (.inr (.inr (.inr (va_up (va_up (va_up (va_up (va_up (fun _ => none) (0 : Int32).toNatClampNeg (some q_10)) (1 : Int32).toNatClampNeg (some q_12)) (2 : Int32).toNatClampNeg (some q_14)) (3 : Int32).toNatClampNeg (some q_16)) (4 : Int32).toNatClampNeg (some q_18))))))), (q_30, .inl (cA 0, (c0 + 1), .inl (fun _ => 0)))] := hD
              refine lv_aload_n hx hb dX7_init_197 rfl (lv_at hl 1 rfl) ?_
              refine lv_iconst (v := 0) hx hb dX7_init_198 (by decide) ?_
              refine va_put (D := D) (ci := 6) (v := .int 0) (ty := .int) (C := RX7) (T := TX7) (N := 20) hx hb hts hin_X7 tyX7 tyX7_ok nmX7 hown hK hP hD hS 0 rfl rfl 12 (by decide) (w_RX7_97) (fun _ h9 => h9) rfl (by decide +kernel) rfl rfl (Nat.le_of_ble_eq_true rfl) dX7_init_199 (fun H locs hP hD hS => ?_)
              have hP : va_P D vwCl [(h0, .inr (6, [.ref q_1, .ref q_3, .ref q_5, .int (nI c0), .ref q_7, .ref q_9, .ref q_20, .ref q_22, .ref q_24, .ref q_26, .ref q_28, .ref q_30, .int 0, .int 0, .int 0, .int 0, .int 0, .int 0, .int 0, .int 0])), (q_3, .inr (5, [.ref q_1, .int (nI t0), .int (nI k0), .ref (u_i_4 0), .ref (u_i_4 1), .ref (u_i_4 2), .ref (u_i_4 3), .int 0])), (q_1, .inr (1, [.int (nI p0), .int (nI q0), .int 0])), ((u_i_4 0), .inl (cA 0, k0, .inl (upd (fun _ => 0) (0 : Int32).toNatClampNeg 1))), (q_5, .inr (0, [.ref (u_i_6 0), .ref (u_i_6 1), .ref (u_i_6 2), .ref (u_i_6 3), .ref (u_i_6 4), .int 0])), ((u_i_6 0), .inl (cA 0, 600, .inl (fun _ => 0))), ((u_i_6 1), .inl (cA 0, 600, .inl (fun _ => 0))), ((u_i_6 2), .inl (cA 0, 600, .inl (fun _ => 0))), ((u_i_6 3), .inl (cA 2, 600, .inr (.inl (fun _ => 0)))), ((u_i_6 4), .inl (cA 2, 600, .inr (.inl (fun _ => 0)))), (q_9, .inl (cA 3, 5, .inr (.inr (.inr (.inr (va_up (va_up (va_up (va_up (va_up (fun _ => none) (0 : Int32).toNatClampNeg (some q_10)) (1 : Int32).toNatClampNeg (some q_12)) (2 : Int32).toNatClampNeg (some q_14)) (3 : Int32).toNatClampNeg (some q_16)) (4 : Int32).toNatClampNeg (some q_18))))))), (q_30, .inl (cA 0, (c0 + 1), .inl (fun _ => 0)))] H := hP
              have hD : va_D A [(h0, .inr (6, [.ref q_1, .ref q_3, .ref q_5, .int (nI c0), .ref q_7, .ref q_9, .ref q_20, .ref q_22, .ref q_24, .ref q_26, .ref q_28, .ref q_30, .int 0, .int 0, .int 0, .int 0, .int 0, .int 0, .int 0, .int 0])), (q_3, .inr (5, [.ref q_1, .int (nI t0), .int (nI k0), .ref (u_i_4 0), .ref (u_i_4 1), .ref (u_i_4 2), .ref (u_i_4 3), .int 0])), (q_1, .inr (1, [.int (nI p0), .int (nI q0), .int 0])), ((u_i_4 0), .inl (cA 0, k0, .inl (upd (fun _ => 0) (0 : Int32).toNatClampNeg 1))), (q_5, .inr (0, [.ref (u_i_6 0), .ref (u_i_6 1), .ref (u_i_6 2), .ref (u_i_6 3), .ref (u_i_6 4), .int 0])), ((u_i_6 0), .inl (cA 0, 600, .inl (fun _ => 0))), ((u_i_6 1), .inl (cA 0, 600, .inl (fun _ => 0))), ((u_i_6 2), .inl (cA 0, 600, .inl (fun _ => 0))), ((u_i_6 3), .inl (cA 2, 600, .inr (.inl (fun _ => 0)))), ((u_i_6 4), .inl (cA 2, 600, .inr (.inl (fun _ => 0)))), (q_9, .inl (cA 3, 5, .inr (.inr (.inr (.inr (va_up (va_up (va_up (va_up (va_up (fun _ => none) (0 : Int32).toNatClampNeg (some q_10)) (1 : Int32).toNatClampNeg (some q_12)) (2 : Int32).toNatClampNeg (some q_14)) (3 : Int32).toNatClampNeg (some q_16)) (4 : Int32).toNatClampNeg (some q_18))))))), (q_30, .inl (cA 0, (c0 + 1), .inl (fun _ => 0)))] := hD
              refine W.widen (k := 57) (n := 4282) (by omega) (by omega) ?_
              have hP9 := hP.sub (ws' := [(h0, .inr (6, [.ref q_1, .ref q_3, .ref q_5, .int (nI c0), .ref q_7, .ref q_9, .ref q_20, .ref q_22, .ref q_24, .ref q_26, .ref q_28, .ref q_30, .int 0, .int 0, .int 0, .int 0, .int 0, .int 0, .int 0, .int 0])), (q_1, .inr (1, [.int (nI p0), .int (nI q0), .int 0])), (q_3, .inr (5, [.ref q_1, .int (nI t0), .int (nI k0), .ref (u_i_4 0), .ref (u_i_4 1), .ref (u_i_4 2), .ref (u_i_4 3), .int 0])), ((u_i_4 0), .inl (cA 0, k0, .inl (upd (fun _ => 0) (0 : Int32).toNatClampNeg 1))), (q_5, .inr (0, [.ref (u_i_6 0), .ref (u_i_6 1), .ref (u_i_6 2), .ref (u_i_6 3), .ref (u_i_6 4), .int 0])), ((u_i_6 0), .inl (cA 0, 600, .inl (fun _ => 0))), ((u_i_6 1), .inl (cA 0, 600, .inl (fun _ => 0))), ((u_i_6 2), .inl (cA 0, 600, .inl (fun _ => 0))), ((u_i_6 3), .inl (cA 2, 600, .inr (.inl (fun _ => 0)))), ((u_i_6 4), .inl (cA 2, 600, .inr (.inl (fun _ => 0))))]) [0, 2, 1, 3, 4, 5, 6, 7, 8, 9] rfl
              have hD9 := hD.sub (ws' := [(h0, .inr (6, [.ref q_1, .ref q_3, .ref q_5, .int (nI c0), .ref q_7, .ref q_9, .ref q_20, .ref q_22, .ref q_24, .ref q_26, .ref q_28, .ref q_30, .int 0, .int 0, .int 0, .int 0, .int 0, .int 0, .int 0, .int 0])), (q_1, .inr (1, [.int (nI p0), .int (nI q0), .int 0])), (q_3, .inr (5, [.ref q_1, .int (nI t0), .int (nI k0), .ref (u_i_4 0), .ref (u_i_4 1), .ref (u_i_4 2), .ref (u_i_4 3), .int 0])), ((u_i_4 0), .inl (cA 0, k0, .inl (upd (fun _ => 0) (0 : Int32).toNatClampNeg 1))), (q_5, .inr (0, [.ref (u_i_6 0), .ref (u_i_6 1), .ref (u_i_6 2), .ref (u_i_6 3), .ref (u_i_6 4), .int 0])), ((u_i_6 0), .inl (cA 0, 600, .inl (fun _ => 0))), ((u_i_6 1), .inl (cA 0, 600, .inl (fun _ => 0))), ((u_i_6 2), .inl (cA 0, 600, .inl (fun _ => 0))), ((u_i_6 3), .inl (cA 2, 600, .inr (.inl (fun _ => 0)))), ((u_i_6 4), .inl (cA 2, 600, .inr (.inl (fun _ => 0))))]) [0, 2, 1, 3, 4, 5, 6, 7, 8, 9] (by decide) rfl
              exact W.vret hx hb hr (fun t ht hW => ⟨⟨(fun i => [q_1, q_3, q_5, q_7, q_9, q_20, q_22, q_24, q_26, q_28, q_30, (u_i_4 0), (u_i_4 1), (u_i_4 2), (u_i_4 3), (u_i_6 0), (u_i_6 1), (u_i_6 2), (u_i_6 3), (u_i_6 4)].getD i 0), rfl, trivial, by rw [ht]; exact hP9, va_K.moved hW.alike hK, hD9⟩, hS.F ht⟩) hS.2.2 dX7_init_202
            · exact absurd (by decide) c_107
end
section
theorem dX8_within_0 : decode cX8_within 0 = .ok (.iload_n 0, 1) := by decide +kernel
theorem dX8_within_1 : decode cX8_within 1 = .ok (.iload_n 1, 1) := by decide +kernel
theorem dX8_within_2 : decode cX8_within 2 = .ok (.if_icmp .ge 7, 3) := by decide +kernel
theorem dX8_within_5 : decode cX8_within 5 = .ok (.iload_n 1, 1) := by decide +kernel
theorem dX8_within_6 : decode cX8_within 6 = .ok (.goto 13, 3) := by decide +kernel
theorem dX8_within_9 : decode cX8_within 9 = .ok (.iload_n 0, 1) := by decide +kernel
theorem dX8_within_10 : decode cX8_within 10 = .ok (.iload_n 2, 1) := by decide +kernel
theorem dX8_within_11 : decode cX8_within 11 = .ok (.if_icmp .le 7, 3) := by decide +kernel
theorem dX8_within_14 : decode cX8_within 14 = .ok (.iload_n 2, 1) := by decide +kernel
theorem dX8_within_15 : decode cX8_within 15 = .ok (.goto 4, 3) := by decide +kernel
theorem dX8_within_18 : decode cX8_within 18 = .ok (.iload_n 0, 1) := by decide +kernel
theorem dX8_within_19 : decode cX8_within 19 = .ok (.ireturn, 1) := by decide +kernel
theorem dX8_isPrime_0 : decode cX8_isPrime 0 = .ok (.iload_n 0, 1) := by decide +kernel
theorem dX8_isPrime_1 : decode cX8_isPrime 1 = .ok (.iconst 1, 1) := by decide +kernel
theorem dX8_isPrime_2 : decode cX8_isPrime 2 = .ok (.if_icmp .le 7, 3) := by decide +kernel
theorem dX8_isPrime_5 : decode cX8_isPrime 5 = .ok (.iconst 1, 1) := by decide +kernel
theorem dX8_isPrime_6 : decode cX8_isPrime 6 = .ok (.goto 4, 3) := by decide +kernel
theorem dX8_isPrime_9 : decode cX8_isPrime 9 = .ok (.iconst 0, 1) := by decide +kernel
theorem dX8_isPrime_10 : decode cX8_isPrime 10 = .ok (.istore_n 1, 1) := by decide +kernel
theorem dX8_isPrime_11 : decode cX8_isPrime 11 = .ok (.iconst 2, 1) := by decide +kernel
theorem dX8_isPrime_12 : decode cX8_isPrime 12 = .ok (.istore_n 2, 1) := by decide +kernel
theorem dX8_isPrime_13 : decode cX8_isPrime 13 = .ok (.iload_n 2, 1) := by decide +kernel
theorem dX8_isPrime_14 : decode cX8_isPrime 14 = .ok (.i2l, 1) := by decide +kernel
theorem dX8_isPrime_15 : decode cX8_isPrime 15 = .ok (.iload_n 2, 1) := by decide +kernel
theorem dX8_isPrime_16 : decode cX8_isPrime 16 = .ok (.i2l, 1) := by decide +kernel
theorem dX8_isPrime_17 : decode cX8_isPrime 17 = .ok (.lmul, 1) := by decide +kernel
theorem dX8_isPrime_18 : decode cX8_isPrime 18 = .ok (.iload_n 0, 1) := by decide +kernel
theorem dX8_isPrime_19 : decode cX8_isPrime 19 = .ok (.i2l, 1) := by decide +kernel
theorem dX8_isPrime_20 : decode cX8_isPrime 20 = .ok (.lcmp, 1) := by decide +kernel
theorem dX8_isPrime_21 : decode cX8_isPrime 21 = .ok (.ifCond .gt 25, 3) := by decide +kernel
theorem dX8_isPrime_24 : decode cX8_isPrime 24 = .ok (.iload_n 1, 1) := by decide +kernel
theorem dX8_isPrime_25 : decode cX8_isPrime 25 = .ok (.ifCond .eq 21, 3) := by decide +kernel
theorem dX8_isPrime_28 : decode cX8_isPrime 28 = .ok (.iload_n 0, 1) := by decide +kernel
theorem dX8_isPrime_29 : decode cX8_isPrime 29 = .ok (.iload_n 2, 1) := by decide +kernel
theorem dX8_isPrime_30 : decode cX8_isPrime 30 = .ok (.irem, 1) := by decide +kernel
theorem dX8_isPrime_31 : decode cX8_isPrime 31 = .ok (.ifCond .eq 7, 3) := by decide +kernel
theorem dX8_isPrime_34 : decode cX8_isPrime 34 = .ok (.iconst 1, 1) := by decide +kernel
theorem dX8_isPrime_35 : decode cX8_isPrime 35 = .ok (.goto 4, 3) := by decide +kernel
theorem dX8_isPrime_38 : decode cX8_isPrime 38 = .ok (.iconst 0, 1) := by decide +kernel
theorem dX8_isPrime_39 : decode cX8_isPrime 39 = .ok (.istore_n 1, 1) := by decide +kernel
theorem dX8_isPrime_40 : decode cX8_isPrime 40 = .ok (.iinc 2 1, 3) := by decide +kernel
theorem dX8_isPrime_43 : decode cX8_isPrime 43 = .ok (.goto (-30), 3) := by decide +kernel
theorem dX8_isPrime_46 : decode cX8_isPrime 46 = .ok (.iload_n 1, 1) := by decide +kernel
theorem dX8_isPrime_47 : decode cX8_isPrime 47 = .ok (.ireturn, 1) := by decide +kernel
theorem dX8_in_0 : decode cX8_in 0 = .ok (.iload_n 0, 1) := by decide +kernel
theorem dX8_in_1 : decode cX8_in 1 = .ok (.iload_n 1, 1) := by decide +kernel
theorem dX8_in_2 : decode cX8_in 2 = .ok (.if_icmp .lt 12, 3) := by decide +kernel
theorem dX8_in_5 : decode cX8_in 5 = .ok (.iload_n 0, 1) := by decide +kernel
theorem dX8_in_6 : decode cX8_in 6 = .ok (.iload_n 2, 1) := by decide +kernel
theorem dX8_in_7 : decode cX8_in 7 = .ok (.if_icmp .gt 7, 3) := by decide +kernel
theorem dX8_in_10 : decode cX8_in 10 = .ok (.iconst 1, 1) := by decide +kernel
theorem dX8_in_11 : decode cX8_in 11 = .ok (.goto 4, 3) := by decide +kernel
theorem dX8_in_14 : decode cX8_in 14 = .ok (.iconst 0, 1) := by decide +kernel
theorem dX8_in_15 : decode cX8_in 15 = .ok (.ireturn, 1) := by decide +kernel
theorem dX8_empty_0 : decode cX8_empty 0 = .ok (.iconst 0, 1) := by decide +kernel
theorem dX8_empty_1 : decode cX8_empty 1 = .ok (.istore_n 1, 1) := by decide +kernel
theorem dX8_empty_2 : decode cX8_empty 2 = .ok (.iload_n 1, 1) := by decide +kernel
theorem dX8_empty_3 : decode cX8_empty 3 = .ok (.bipush 40, 2) := by decide +kernel
theorem dX8_empty_5 : decode cX8_empty 5 = .ok (.if_icmp .ge 37, 3) := by decide +kernel
theorem dX8_empty_8 : decode cX8_empty 8 = .ok (.aload_n 0, 1) := by decide +kernel
theorem dX8_empty_9 : decode cX8_empty 9 = .ok (.getfield 35, 3) := by decide +kernel
theorem dX8_empty_12 : decode cX8_empty 12 = .ok (.iload_n 1, 1) := by decide +kernel
theorem dX8_empty_13 : decode cX8_empty 13 = .ok (.iconst (-1), 1) := by decide +kernel
theorem dX8_empty_14 : decode cX8_empty 14 = .ok (.iastore, 1) := by decide +kernel
theorem dX8_empty_15 : decode cX8_empty 15 = .ok (.aload_n 0, 1) := by decide +kernel
theorem dX8_empty_16 : decode cX8_empty 16 = .ok (.getfield 38, 3) := by decide +kernel
theorem dX8_empty_19 : decode cX8_empty 19 = .ok (.iload_n 1, 1) := by decide +kernel
theorem dX8_empty_20 : decode cX8_empty 20 = .ok (.iconst 0, 1) := by decide +kernel
theorem dX8_empty_21 : decode cX8_empty 21 = .ok (.iastore, 1) := by decide +kernel
theorem dX8_empty_22 : decode cX8_empty 22 = .ok (.aload_n 0, 1) := by decide +kernel
theorem dX8_empty_23 : decode cX8_empty 23 = .ok (.getfield 41, 3) := by decide +kernel
theorem dX8_empty_26 : decode cX8_empty 26 = .ok (.iload_n 1, 1) := by decide +kernel
theorem dX8_empty_27 : decode cX8_empty 27 = .ok (.iconst (-1), 1) := by decide +kernel
theorem dX8_empty_28 : decode cX8_empty 28 = .ok (.iastore, 1) := by decide +kernel
theorem dX8_empty_29 : decode cX8_empty 29 = .ok (.aload_n 0, 1) := by decide +kernel
theorem dX8_empty_30 : decode cX8_empty 30 = .ok (.getfield 44, 3) := by decide +kernel
theorem dX8_empty_33 : decode cX8_empty 33 = .ok (.iload_n 1, 1) := by decide +kernel
theorem dX8_empty_34 : decode cX8_empty 34 = .ok (.iconst (-1), 1) := by decide +kernel
theorem dX8_empty_35 : decode cX8_empty 35 = .ok (.iastore, 1) := by decide +kernel
theorem dX8_empty_36 : decode cX8_empty 36 = .ok (.iinc 1 1, 3) := by decide +kernel
theorem dX8_empty_39 : decode cX8_empty 39 = .ok (.goto (-37), 3) := by decide +kernel
theorem dX8_empty_42 : decode cX8_empty 42 = .ok (.return_, 1) := by decide +kernel
/-- taken into lo .. hi, as the reference does -/
def wj (x lo hi : Int32) : Int32 := if lo ≤ x then (if x ≤ hi then x else hi) else lo
theorem va_P.arr {D : va_G} {cl : List vw_C} {ws : va_W} {H : Heap} {a n : Nat} {cA : ClassId} {g g' : Nat → Int32} (hP : va_P D cl ws H) (k : Nat) (hk : ws[k]? = some (a, .inl (cA, n, .inl g))) (h : ∀ j : Nat, j < n → g j = g' j) : va_P D cl (ws.set k (a, .inl (cA, n, .inl g'))) H := by
  intro i q hq
  by_cases e : i = k
  · subst e
    have hl : i < ws.length := (List.getElem?_eq_some_iff.mp hk).1
    rw [List.getElem?_set_self hl] at hq
    cases hq
    show H[a]? = some (vp_cell cA (n, .inl g'))
    rw [← fl_cell (f := g) (g := g') h]
    exact hP i _ hk
  · rw [List.getElem?_set_ne (fun x => e x.symm)] at hq
    exact hP i q hq
theorem ip_nar {w : Int32} {A B : Prop} (h : (w = 1 ∧ A) ∨ (w = 0 ∧ B)) : narrow .boolean (.int w) = .int w := by
  rcases h with ⟨rfl, _⟩ | ⟨rfl, _⟩ <;> rfl
theorem ip_sq {n z : Int32} {n0 k : Nat} (hn : n = nI n0) (hN : n0 < 1000000) (hz : z = nI k) (h2 : k ≤ 1002) : 0 < lg_cmp (z.toInt64 * z.toInt64) n.toInt64 ↔ n0 < k * k := by
  have hb : k * k ≤ 1002 * 1002 := Nat.mul_le_mul h2 h2
  rw [lg_cmp_gt, hn, hz, nI_l (by omega), nI_l (by omega), lN_mul]
  exact lN_lt (by omega) (by omega)
theorem ip_rem {n z : Int32} {n0 k : Nat} (hn : n = nI n0) (hN : n0 < 1000000) (hz : z = nI k) (h1 : 2 ≤ k) (h2 : k ≤ 1002) : n - n / z * z = 0 ↔ n0 % k = 0 := by
  have hm : n0 % k < k := Nat.mod_lt _ (by omega)
  rw [hn, hz, pk_rem (by omega) (by omega) (by omega), ← nI_0]
  exact nI_eq (by omega) (by omega)
theorem ip_end1 {n z w : Int32} {n0 k : Nat} (hn : n = nI n0) (hN : n0 < 1000000) (hz : z = nI k) (h1 : 2 ≤ k) (h2 : k ≤ 1002) (h4 : (w = 1 ∧ 2 ≤ n0 ∧ ∀ j : Nat, 2 ≤ j → j < k → ¬ n0 % j = 0) ∨ (w = 0 ∧ ¬ sp_prim n0)) (c : 0 < lg_cmp (z.toInt64 * z.toInt64) n.toInt64) : (w = 1 ∧ sp_prim n0) ∨ (w = 0 ∧ ¬ sp_prim n0) := by
  rw [ip_sq hn hN hz h2] at c
  rcases h4 with ⟨e, h5, h6⟩ | h
  · refine Or.inl ⟨e, h5, fun d hd hdd => h6 d hd ?_⟩
    rcases Nat.lt_or_ge d k with q | q
    · exact q
    · have := Nat.mul_le_mul q q
      omega
  · exact Or.inr h
theorem ip_end2 {w : Int32} {n0 k : Nat} (h4 : (w = 1 ∧ 2 ≤ n0 ∧ ∀ j : Nat, 2 ≤ j → j < k → ¬ n0 % j = 0) ∨ (w = 0 ∧ ¬ sp_prim n0)) (c : w = 0) : (w = 1 ∧ sp_prim n0) ∨ (w = 0 ∧ ¬ sp_prim n0) := by
  rcases h4 with ⟨e, _⟩ | h
  · rw [e] at c; exact absurd c (by decide)
  · exact Or.inr h
theorem ip_start1 {n : Int32} {n0 : Nat} (hn : n = nI n0) (hN : n0 < 1000000) (c : ¬ n ≤ 1) : ((1 : Int32) = 1 ∧ 2 ≤ n0 ∧ ∀ j : Nat, 2 ≤ j → j < 2 → ¬ n0 % j = 0) ∨ ((1 : Int32) = 0 ∧ ¬ sp_prim n0) := by
  refine Or.inl ⟨rfl, ?_, fun j a b => by omega⟩
  rw [hn, show (1 : Int32) = nI 1 from rfl, nI_leI (by omega) (by omega)] at c
  omega
theorem ip_start0 {n : Int32} {n0 : Nat} (hn : n = nI n0) (hN : n0 < 1000000) (c : n ≤ 1) : ((0 : Int32) = 1 ∧ 2 ≤ n0 ∧ ∀ j : Nat, 2 ≤ j → j < 2 → ¬ n0 % j = 0) ∨ ((0 : Int32) = 0 ∧ ¬ sp_prim n0) := by
  refine Or.inr ⟨rfl, fun h => ?_⟩
  rw [hn, show (1 : Int32) = nI 1 from rfl, nI_leI (by omega) (by omega)] at c
  have := h.1
  omega
theorem ip_k {n z : Int32} {n0 k : Nat} (hn : n = nI n0) (hN : n0 < 1000000) (hz : z = nI k) (h2 : k ≤ 1002) (c : ¬ 0 < lg_cmp (z.toInt64 * z.toInt64) n.toInt64) : k * k ≤ n0 ∧ k + 1 ≤ 1002 := by
  rw [ip_sq hn hN hz h2] at c
  refine ⟨by omega, ?_⟩
  rcases Nat.lt_or_ge k 1000 with q | q
  · omega
  · have := Nat.mul_le_mul q q
    omega
theorem ip_next0 {n z w : Int32} {n0 k : Nat} (hn : n = nI n0) (hN : n0 < 1000000) (hz : z = nI k) (h1 : 2 ≤ k) (h2 : k ≤ 1002) (_ : (w = 1 ∧ 2 ≤ n0 ∧ ∀ j : Nat, 2 ≤ j → j < k → ¬ n0 % j = 0) ∨ (w = 0 ∧ ¬ sp_prim n0)) (c : ¬ 0 < lg_cmp (z.toInt64 * z.toInt64) n.toInt64) (_ : ¬ w = 0) (c3 : n - n / z * z = 0) : k + 1 ≤ 1002 ∧ (((0 : Int32) = 1 ∧ 2 ≤ n0 ∧ ∀ j : Nat, 2 ≤ j → j < k + 1 → ¬ n0 % j = 0) ∨ ((0 : Int32) = 0 ∧ ¬ sp_prim n0)) := by
  rw [ip_rem hn hN hz h1 h2] at c3
  obtain ⟨g1, g2⟩ := ip_k hn hN hz h2 c
  exact ⟨g2, Or.inr ⟨rfl, fun h => h.2 k h1 g1 c3⟩⟩
theorem ip_next1 {n z w : Int32} {n0 k : Nat} (hn : n = nI n0) (hN : n0 < 1000000) (hz : z = nI k) (h1 : 2 ≤ k) (h2 : k ≤ 1002) (h4 : (w = 1 ∧ 2 ≤ n0 ∧ ∀ j : Nat, 2 ≤ j → j < k → ¬ n0 % j = 0) ∨ (w = 0 ∧ ¬ sp_prim n0)) (c : ¬ 0 < lg_cmp (z.toInt64 * z.toInt64) n.toInt64) (c2 : ¬ w = 0) (c3 : ¬ n - n / z * z = 0) : k + 1 ≤ 1002 ∧ (((1 : Int32) = 1 ∧ 2 ≤ n0 ∧ ∀ j : Nat, 2 ≤ j → j < k + 1 → ¬ n0 % j = 0) ∨ ((1 : Int32) = 0 ∧ ¬ sp_prim n0)) := by
  rw [ip_rem hn hN hz h1 h2] at c3
  obtain ⟨g1, g2⟩ := ip_k hn hN hz h2 c
  rcases h4 with ⟨e, h5, h6⟩ | h
  · refine ⟨g2, Or.inl ⟨rfl, h5, fun j a b => ?_⟩⟩
    rcases Nat.lt_or_ge j k with q | q
    · exact h6 j a q
    · rw [show j = k by omega]; exact c3
  · exact absurd h.1 c2
theorem em_c {z : Int32} {k : Nat} (hz : z = nI k) (h2 : k ≤ 40) : (40 : Int32) ≤ z ↔ 40 ≤ k := by
  rw [hz]; exact nI_leI (a := 40) (by omega) (by omega)
theorem em_lt {z : Int32} {k : Nat} (hz : z = nI k) (h2 : k ≤ 40) (c : ¬ (40 : Int32) ≤ z) : k + 1 ≤ 40 := by
  rw [em_c hz h2] at c; omega
theorem em_in {z : Int32} {k : Nat} (hz : z = nI k) (h2 : k ≤ 40) (c : ¬ (40 : Int32) ≤ z) : vp_in z 40 := by
  rw [hz]; exact vp_in_nI (em_lt hz h2 c) (by omega)
theorem em_step {z v : Int32} {k : Nat} {g : Nat → Int32} (hz : z = nI k) (h2 : k ≤ 40) (h3 : ∀ j : Nat, j < k → g j = v) : ∀ j : Nat, j < k + 1 → upd g z.toNatClampNeg v j = v := by
  intro j hj
  rw [hz, nI_clamp (by omega)]
  unfold upd
  split
  · rfl
  · exact h3 j (by omega)
theorem em_all {z v : Int32} {k : Nat} {g : Nat → Int32} (hz : z = nI k) (h2 : k ≤ 40) (h3 : ∀ j : Nat, j < k → g j = v) (c : (40 : Int32) ≤ z) : ∀ j : Nat, j < 40 → g j = (fun _ => v) j := by
  rw [em_c hz h2] at c
  intro j hj
  exact h3 j (by omega)
set_option maxHeartbeats 4000000 in
set_option maxRecDepth 100000 in
theorem c_X8_within (l : Launch) (D : va_G) (cA : Nat → ClassId) (x : Int32) (lo : Int32) (hi : Int32) : Met l yX8_within wsX8_within ({ frames := 0, cells := 0, slots := 0, locals := 0 }) (rPc vwCl D cA [] [.int x, .int lo, .int hi]) (rq_x (some (.int (wj x lo hi)))) 0 0 (fun _ => False) := by
  refine Met.ofW (cc := cX8_within) (maxL := 3) (ret := (some .int)) (by decide) rfl ?_
  intro p e s m args below meth c s₁ B hml hv
  obtain ⟨rfl, hP, hK⟩ := hv
  have hx := B.exec
  have hb := B.bytes
  have hr := B.returns
  have hts := atoms_spec (ws := wsX8_within) B.pre
  have hown : s.vm.findClass RX8 = some m.cls := findClass_of_methodNamed B.named
  have hlocks := B.notSynchronized
  have hl := lv_entry ([.int x, .int lo, .int hi]) (n := 3) (Nat.le_of_ble_eq_true rfl)
  rw [lg_entry_eq]
  generalize (lg_sl ([.int x, .int lo, .int hi]) ++ List.replicate (3 - (lg_sl ([.int x, .int lo, .int hi])).length) Slot.unset).toArray = ls at hl ⊢
  have hl : lv_has ls 3 [(0, .int x), (1, .int lo), (2, .int hi)] := hl
  refine lv_iload_n hx hb dX8_within_0 rfl (lv_at hl 0 rfl) ?_
  refine lv_iload_n hx hb dX8_within_1 rfl (lv_at hl 1 rfl) ?_
  refine lv_icmp_ge (tgt := 9) hx hb dX8_within_2 (by decide) (fun c_2 => ?_) (fun c_2 => ?_)
  · skip
    refine lv_iload_n hx hb dX8_within_9 rfl (lv_at hl 0 rfl) ?_
    refine lv_iload_n hx hb dX8_within_10 rfl (lv_at hl 2 rfl) ?_
    refine lv_icmp_le (tgt := 18) hx hb dX8_within_11 (by decide) (fun c_11 => ?_) (fun c_11 => ?_)
    · skip
      refine lv_iload_n hx hb dX8_within_18 rfl (lv_at hl 0 rfl) ?_
      exact W.iret (v := x) hx hb hr (fun t ht hW => ⟨congrArg (fun z => Outcome.returned (some (Value.int z))) ((by rw [wj, if_pos c_2, if_pos c_11])), ht⟩) (fun _ h => by cases h) dX8_within_19
    · skip
      refine lv_iload_n hx hb dX8_within_14 rfl (lv_at hl 2 rfl) ?_
      refine lv_goto (tgt := 19) hx hb dX8_within_15 (by decide) ?_
      exact W.iret (v := hi) hx hb hr (fun t ht hW => ⟨congrArg (fun z => Outcome.returned (some (Value.int z))) ((by rw [wj, if_pos c_2, if_neg c_11])), ht⟩) (fun _ h => by cases h) dX8_within_19
  · skip
    refine lv_iload_n hx hb dX8_within_5 rfl (lv_at hl 1 rfl) ?_
    refine lv_goto (tgt := 19) hx hb dX8_within_6 (by decide) ?_
    exact W.iret (v := lo) hx hb hr (fun t ht hW => ⟨congrArg (fun z => Outcome.returned (some (Value.int z))) ((by rw [wj, if_neg c_2])), ht⟩) (fun _ h => by cases h) dX8_within_19

set_option maxHeartbeats 4000000 in
set_option maxRecDepth 100000 in
theorem c_X8_in (l : Launch) (D : va_G) (cA : Nat → ClassId) (x : Int32) (lo : Int32) (hi : Int32) : Met l yX8_in wsX8_in ({ frames := 0, cells := 0, slots := 0, locals := 0 }) (rPc vwCl D cA [] [.int x, .int lo, .int hi]) (rq_x (some (.int (bI (lo ≤ x ∧ x ≤ hi))))) 0 0 (fun _ => False) := by
  refine Met.ofW (cc := cX8_in) (maxL := 3) (ret := (some .boolean)) (by decide) rfl ?_
  intro p e s m args below meth c s₁ B hml hv
  obtain ⟨rfl, hP, hK⟩ := hv
  have hx := B.exec
  have hb := B.bytes
  have hr := B.returns
  have hts := atoms_spec (ws := wsX8_in) B.pre
  have hown : s.vm.findClass RX8 = some m.cls := findClass_of_methodNamed B.named
  have hlocks := B.notSynchronized
  have hl := lv_entry ([.int x, .int lo, .int hi]) (n := 3) (Nat.le_of_ble_eq_true rfl)
  rw [lg_entry_eq]
  generalize (lg_sl ([.int x, .int lo, .int hi]) ++ List.replicate (3 - (lg_sl ([.int x, .int lo, .int hi])).length) Slot.unset).toArray = ls at hl ⊢
  have hl : lv_has ls 3 [(0, .int x), (1, .int lo), (2, .int hi)] := hl
  refine lv_iload_n hx hb dX8_in_0 rfl (lv_at hl 0 rfl) ?_
  refine lv_iload_n hx hb dX8_in_1 rfl (lv_at hl 1 rfl) ?_
  refine lv_icmp_lt (tgt := 14) hx hb dX8_in_2 (by decide) (fun c_2 => ?_) (fun c_2 => ?_)
  · skip
    refine lv_iconst (v := 0) hx hb dX8_in_14 (by decide) ?_
    exact W.zret (v := 0) hx hb hr rfl (fun t ht hW => ⟨congrArg (fun z => Outcome.returned (some (Value.int z))) (bI_f (fun h => absurd c_2 (Int32.not_lt.mpr h.1))), ht⟩) (fun _ h => by cases h) dX8_in_15
  · skip
    refine lv_iload_n hx hb dX8_in_5 rfl (lv_at hl 0 rfl) ?_
    refine lv_iload_n hx hb dX8_in_6 rfl (lv_at hl 2 rfl) ?_
    refine lv_icmp_gt (tgt := 14) hx hb dX8_in_7 (by decide) (fun c_7 => ?_) (fun c_7 => ?_)
    · skip
      refine lv_iconst (v := 0) hx hb dX8_in_14 (by decide) ?_
      exact W.zret (v := 0) hx hb hr rfl (fun t ht hW => ⟨congrArg (fun z => Outcome.returned (some (Value.int z))) (bI_f (fun h => absurd c_7 (Int32.not_lt.mpr h.2))), ht⟩) (fun _ h => by cases h) dX8_in_15
    · skip
      refine lv_iconst (v := 1) hx hb dX8_in_10 (by decide) ?_
      refine lv_goto (tgt := 15) hx hb dX8_in_11 (by decide) ?_
      exact W.zret (v := 1) hx hb hr rfl (fun t ht hW => ⟨congrArg (fun z => Outcome.returned (some (Value.int z))) (bI_t ⟨Int32.not_lt.mp c_2, Int32.not_lt.mp c_7⟩), ht⟩) (fun _ h => by cases h) dX8_in_15

set_option maxHeartbeats 4000000 in
set_option maxRecDepth 100000 in
theorem c_X8_isPrime (l : Launch) (D : va_G) (cA : Nat → ClassId) (n : Int32) (n0 : Nat) (hn : n = nI n0) (hN : n0 < 1000000) : Met l yX8_isPrime wsX8_isPrime ({ frames := 0, cells := 0, slots := 0, locals := 0 }) (rPc vwCl D cA [] [.int n]) (rq_p (fun r => (r = 1 ∧ sp_prim n0) ∨ (r = 0 ∧ ¬ sp_prim n0))) 0 0 (fun _ => False) := by
  refine Met.ofW (cc := cX8_isPrime) (maxL := 3) (ret := (some .boolean)) (by decide) rfl ?_
  intro p e s m args below meth c s₁ B hml hv
  obtain ⟨rfl, hP, hK⟩ := hv
  have hx := B.exec
  have hb := B.bytes
  have hr := B.returns
  have hts := atoms_spec (ws := wsX8_isPrime) B.pre
  have hown : s.vm.findClass RX8 = some m.cls := findClass_of_methodNamed B.named
  have hlocks := B.notSynchronized
  have hl := lv_entry ([.int n]) (n := 3) (Nat.le_of_ble_eq_true rfl)
  rw [lg_entry_eq]
  generalize (lg_sl ([.int n]) ++ List.replicate (3 - (lg_sl ([.int n])).length) Slot.unset).toArray = ls at hl ⊢
  have hl : lv_has ls 3 [(0, .int n)] := hl
  refine lv_iload_n hx hb dX8_isPrime_0 rfl (lv_at hl 0 rfl) ?_
  refine lv_iconst (v := 1) hx hb dX8_isPrime_1 (by decide) ?_
  refine lv_icmp_le (tgt := 9) hx hb dX8_isPrime_2 (by decide) (fun c_2 => ?_) (fun c_2 => ?_)
  · skip
    refine lv_iconst (v := 0) hx hb dX8_isPrime_9 (by decide) ?_
    refine lv_istore_n (lv' := [(1, .int 0), (0, .int n)]) hx hb dX8_isPrime_10 rfl hl (by decide) rfl (fun ls hl => ?_)
    refine lv_iconst (v := 2) hx hb dX8_isPrime_11 (by decide) ?_
    refine lv_istore_n (lv' := [(2, .int 2), (1, .int 0), (0, .int n)]) hx hb dX8_isPrime_12 rfl hl (by decide) rfl (fun ls hl => ?_)
    have loop13 : ∀ (f k : Nat) (z w : Int32), z = nI k → 2000 ≤ k + f → 2 ≤ k → k ≤ 1002 → ((w = 1 ∧ 2 ≤ n0 ∧ ∀ j : Nat, 2 ≤ j → j < k → ¬ n0 % j = 0) ∨ (w = 0 ∧ ¬ sp_prim n0)) → ∀ ls : Array Slot, lv_has ls 3 [(0, .int n), (1, .int w), (2, .int z)] → W p l e (headSpec wsX8_isPrime ({ frames := 0, cells := 0, slots := 0, locals := 0 })).room s m [.int n].toArray below meth c s.heap [] 0 0 (MQ below (rq_p (fun r => (r = 1 ∧ sp_prim n0) ∨ (r = 0 ∧ ¬ sp_prim n0))) [.int n].toArray s 0 0 (fun _ => False)) (F0 m 13 ls []) := by
      intro f
      induction f with
      | zero =>
        intro k z w hz h0 h1 h2
        omega
      | succ f ih =>
        intro k z w hz h0 h1 h2 h4 ls hl
        refine lv_iload_n hx hb dX8_isPrime_13 rfl (lv_at hl 2 rfl) ?_
        refine lv_i2l hx hb dX8_isPrime_14 rfl ?_
        refine lv_iload_n hx hb dX8_isPrime_15 rfl (lv_at hl 2 rfl) ?_
        refine lv_i2l hx hb dX8_isPrime_16 rfl ?_
        refine lv_lmul hx hb dX8_isPrime_17 ?_
        refine lv_iload_n hx hb dX8_isPrime_18 rfl (lv_at hl 0 rfl) ?_
        refine lv_i2l hx hb dX8_isPrime_19 rfl ?_
        refine W.lcmp hx hb dX8_isPrime_20 ?_
        refine lv_if_gt (tgt := 46) hx hb dX8_isPrime_21 (by decide) (fun c_21 => ?_) (fun c_21 => ?_)
        · skip
          refine lv_iload_n hx hb dX8_isPrime_46 rfl (lv_at hl 1 rfl) ?_
          exact W.zret (v := w) hx hb hr (ip_nar h4) (fun t ht hW => ⟨w, rfl, ip_end1 hn hN hz h1 h2 h4 c_21, ht⟩) (fun _ h => by cases h) dX8_isPrime_47
        · skip
          refine lv_iload_n hx hb dX8_isPrime_24 rfl (lv_at hl 1 rfl) ?_
          refine lv_if_eq (tgt := 46) hx hb dX8_isPrime_25 (by decide) (fun c_25 => ?_) (fun c_25 => ?_)
          · skip
            refine lv_iload_n hx hb dX8_isPrime_46 rfl (lv_at hl 1 rfl) ?_
            exact W.zret (v := w) hx hb hr (ip_nar h4) (fun t ht hW => ⟨w, rfl, ip_end2 h4 c_25, ht⟩) (fun _ h => by cases h) dX8_isPrime_47
          · skip
            refine lv_iload_n hx hb dX8_isPrime_28 rfl (lv_at hl 0 rfl) ?_
            refine lv_iload_n hx hb dX8_isPrime_29 rfl (lv_at hl 2 rfl) ?_
            refine lv_irem hx hb dX8_isPrime_30 (nI_ne0z hz (by omega) (by omega)) ?_
            refine lv_if_eq (tgt := 38) hx hb dX8_isPrime_31 (by decide) (fun c_31 => ?_) (fun c_31 => ?_)
            · skip
              refine lv_iconst (v := 0) hx hb dX8_isPrime_38 (by decide) ?_
              refine lv_istore_n (lv' := [(1, .int 0), (0, .int n), (2, .int z)]) hx hb dX8_isPrime_39 rfl hl (by decide) rfl (fun ls hl => ?_)
              refine lv_iinc (v := (z + 1)) (lv' := [(2, .int (z + 1)), (1, .int 0), (0, .int n)]) hx hb dX8_isPrime_40 hl (k := 2) rfl rfl (by decide) rfl (fun ls hl => ?_)
              refine lv_goto (tgt := 13) hx hb dX8_isPrime_43 (by decide) ?_
              obtain ⟨g1, g2⟩ := ip_next0 hn hN hz h1 h2 h4 c_21 c_25 c_31
              exact ih (k + 1) (z + 1) _ (by rw [hz]; exact nI_1 k) (by omega) (by omega) g1 g2 ls (lv_sub hl [2, 1, 0] rfl)
            · skip
              refine lv_iconst (v := 1) hx hb dX8_isPrime_34 (by decide) ?_
              refine lv_goto (tgt := 39) hx hb dX8_isPrime_35 (by decide) ?_
              refine lv_istore_n (lv' := [(1, .int 1), (0, .int n), (2, .int z)]) hx hb dX8_isPrime_39 rfl hl (by decide) rfl (fun ls hl => ?_)
              refine lv_iinc (v := (z + 1)) (lv' := [(2, .int (z + 1)), (1, .int 1), (0, .int n)]) hx hb dX8_isPrime_40 hl (k := 2) rfl rfl (by decide) rfl (fun ls hl => ?_)
              refine lv_goto (tgt := 13) hx hb dX8_isPrime_43 (by decide) ?_
              obtain ⟨g1, g2⟩ := ip_next1 hn hN hz h1 h2 h4 c_21 c_25 c_31
              exact ih (k + 1) (z + 1) _ (by rw [hz]; exact nI_1 k) (by omega) (by omega) g1 g2 ls (lv_sub hl [2, 1, 0] rfl)
    exact loop13 2000 2 2 0 rfl (by omega) (by omega) (by omega) (ip_start0 hn hN c_2) ls (lv_sub hl [2, 1, 0] rfl)
  · skip
    refine lv_iconst (v := 1) hx hb dX8_isPrime_5 (by decide) ?_
    refine lv_goto (tgt := 10) hx hb dX8_isPrime_6 (by decide) ?_
    refine lv_istore_n (lv' := [(1, .int 1), (0, .int n)]) hx hb dX8_isPrime_10 rfl hl (by decide) rfl (fun ls hl => ?_)
    refine lv_iconst (v := 2) hx hb dX8_isPrime_11 (by decide) ?_
    refine lv_istore_n (lv' := [(2, .int 2), (1, .int 1), (0, .int n)]) hx hb dX8_isPrime_12 rfl hl (by decide) rfl (fun ls hl => ?_)
    have loop13 : ∀ (f k : Nat) (z w : Int32), z = nI k → 2000 ≤ k + f → 2 ≤ k → k ≤ 1002 → ((w = 1 ∧ 2 ≤ n0 ∧ ∀ j : Nat, 2 ≤ j → j < k → ¬ n0 % j = 0) ∨ (w = 0 ∧ ¬ sp_prim n0)) → ∀ ls : Array Slot, lv_has ls 3 [(0, .int n), (1, .int w), (2, .int z)] → W p l e (headSpec wsX8_isPrime ({ frames := 0, cells := 0, slots := 0, locals := 0 })).room s m [.int n].toArray below meth c s.heap [] 0 0 (MQ below (rq_p (fun r => (r = 1 ∧ sp_prim n0) ∨ (r = 0 ∧ ¬ sp_prim n0))) [.int n].toArray s 0 0 (fun _ => False)) (F0 m 13 ls []) := by
      intro f
      induction f with
      | zero =>
        intro k z w hz h0 h1 h2
        omega
      | succ f ih =>
        intro k z w hz h0 h1 h2 h4 ls hl
        refine lv_iload_n hx hb dX8_isPrime_13 rfl (lv_at hl 2 rfl) ?_
        refine lv_i2l hx hb dX8_isPrime_14 rfl ?_
        refine lv_iload_n hx hb dX8_isPrime_15 rfl (lv_at hl 2 rfl) ?_
        refine lv_i2l hx hb dX8_isPrime_16 rfl ?_
        refine lv_lmul hx hb dX8_isPrime_17 ?_
        refine lv_iload_n hx hb dX8_isPrime_18 rfl (lv_at hl 0 rfl) ?_
        refine lv_i2l hx hb dX8_isPrime_19 rfl ?_
        refine W.lcmp hx hb dX8_isPrime_20 ?_
        refine lv_if_gt (tgt := 46) hx hb dX8_isPrime_21 (by decide) (fun c_21 => ?_) (fun c_21 => ?_)
        · skip
          refine lv_iload_n hx hb dX8_isPrime_46 rfl (lv_at hl 1 rfl) ?_
          exact W.zret (v := w) hx hb hr (ip_nar h4) (fun t ht hW => ⟨w, rfl, ip_end1 hn hN hz h1 h2 h4 c_21, ht⟩) (fun _ h => by cases h) dX8_isPrime_47
        · skip
          refine lv_iload_n hx hb dX8_isPrime_24 rfl (lv_at hl 1 rfl) ?_
          refine lv_if_eq (tgt := 46) hx hb dX8_isPrime_25 (by decide) (fun c_25 => ?_) (fun c_25 => ?_)
          · skip
            refine lv_iload_n hx hb dX8_isPrime_46 rfl (lv_at hl 1 rfl) ?_
            exact W.zret (v := w) hx hb hr (ip_nar h4) (fun t ht hW => ⟨w, rfl, ip_end2 h4 c_25, ht⟩) (fun _ h => by cases h) dX8_isPrime_47
          · skip
            refine lv_iload_n hx hb dX8_isPrime_28 rfl (lv_at hl 0 rfl) ?_
            refine lv_iload_n hx hb dX8_isPrime_29 rfl (lv_at hl 2 rfl) ?_
            refine lv_irem hx hb dX8_isPrime_30 (nI_ne0z hz (by omega) (by omega)) ?_
            refine lv_if_eq (tgt := 38) hx hb dX8_isPrime_31 (by decide) (fun c_31 => ?_) (fun c_31 => ?_)
            · skip
              refine lv_iconst (v := 0) hx hb dX8_isPrime_38 (by decide) ?_
              refine lv_istore_n (lv' := [(1, .int 0), (0, .int n), (2, .int z)]) hx hb dX8_isPrime_39 rfl hl (by decide) rfl (fun ls hl => ?_)
              refine lv_iinc (v := (z + 1)) (lv' := [(2, .int (z + 1)), (1, .int 0), (0, .int n)]) hx hb dX8_isPrime_40 hl (k := 2) rfl rfl (by decide) rfl (fun ls hl => ?_)
              refine lv_goto (tgt := 13) hx hb dX8_isPrime_43 (by decide) ?_
              obtain ⟨g1, g2⟩ := ip_next0 hn hN hz h1 h2 h4 c_21 c_25 c_31
              exact ih (k + 1) (z + 1) _ (by rw [hz]; exact nI_1 k) (by omega) (by omega) g1 g2 ls (lv_sub hl [2, 1, 0] rfl)
            · skip
              refine lv_iconst (v := 1) hx hb dX8_isPrime_34 (by decide) ?_
              refine lv_goto (tgt := 39) hx hb dX8_isPrime_35 (by decide) ?_
              refine lv_istore_n (lv' := [(1, .int 1), (0, .int n), (2, .int z)]) hx hb dX8_isPrime_39 rfl hl (by decide) rfl (fun ls hl => ?_)
              refine lv_iinc (v := (z + 1)) (lv' := [(2, .int (z + 1)), (1, .int 1), (0, .int n)]) hx hb dX8_isPrime_40 hl (k := 2) rfl rfl (by decide) rfl (fun ls hl => ?_)
              refine lv_goto (tgt := 13) hx hb dX8_isPrime_43 (by decide) ?_
              obtain ⟨g1, g2⟩ := ip_next1 hn hN hz h1 h2 h4 c_21 c_25 c_31
              exact ih (k + 1) (z + 1) _ (by rw [hz]; exact nI_1 k) (by omega) (by omega) g1 g2 ls (lv_sub hl [2, 1, 0] rfl)
    exact loop13 2000 2 2 1 rfl (by omega) (by omega) (by omega) (ip_start1 hn hN c_2) ls (lv_sub hl [2, 1, 0] rfl)

set_option maxHeartbeats 4000000 in
set_option maxRecDepth 100000 in
theorem c_X8_empty (l : Launch) (D : va_G) (cA : Nat → ClassId) (h0 : Nat) (m0 : Int32) (m1 : Int32) (m2 : Int32) (m3 : Int32) (m4 : Int32) (m5 : Nat) (m6 : Int32) (m7 : Int32) (m8 : Int32) (m9 : Nat) (m10 : Nat) (m11 : Nat) (m12 : Int32) (m13 : Nat) (m14 : Nat) (m15 : Nat) (m16 : Nat) (m17 : Int32) (m18 : Nat) (m19 : Nat) (m20 : Nat) (m21 : Nat) (m22 : Nat) (m23 : Nat) (m24 : Nat) (m25 : Nat) (m26 : Int32) (m27 : Int32) (m28 : Int32) (m29 : Int32) (m30 : Int32) (m31 : Int32) (m32 : Nat) (m33 : Nat) (m34 : Nat) (m35 : Nat) (m36 : Int32) (m37 : Nat) (m38 : Int32) (m39 : Nat) (m40 : Nat) (m41 : Nat) (m42 : Nat) (m43 : Nat) (ga : Nat → Int32) (gb : Nat → Int32) (gc : Nat → Int32) (gd : Nat → Int32) : Met l yX8_empty wsX8_empty ({ frames := 0, cells := 0, slots := 0, locals := 0 }) (wPc vwCl D cA [(h0, .inr (7, [.int m0, .int m1, .int m2, .int m3, .int m4, .ref m5, .int m6, .int m7, .int m8, .ref m9, .ref m10, .ref m11, .int m12, .ref m13, .ref m14, .ref m15, .ref m16, .int m17, .ref m18, .ref m19, .ref m20, .ref m21, .ref m22, .ref m23, .ref m24, .ref m25, .int m26, .int m27, .int m28, .int m29, .int m30, .int m31, .ref m32, .ref m33, .ref m34, .ref m35, .int m36, .ref m37, .int m38, .ref m39, .ref m40, .ref m41, .ref m42, .ref m43])), (m18, .inl (cA 0, 40, .inl ga)), (m19, .inl (cA 0, 40, .inl gb)), (m20, .inl (cA 0, 40, .inl gc)), (m21, .inl (cA 0, 40, .inl gd))] [.ref h0]) (wq_x vwCl D [(h0, .inr (7, [.int m0, .int m1, .int m2, .int m3, .int m4, .ref m5, .int m6, .int m7, .int m8, .ref m9, .ref m10, .ref m11, .int m12, .ref m13, .ref m14, .ref m15, .ref m16, .int m17, .ref m18, .ref m19, .ref m20, .ref m21, .ref m22, .ref m23, .ref m24, .ref m25, .int m26, .int m27, .int m28, .int m29, .int m30, .int m31, .ref m32, .ref m33, .ref m34, .ref m35, .int m36, .ref m37, .int m38, .ref m39, .ref m40, .ref m41, .ref m42, .ref m43])), (m18, .inl (cA 0, 40, .inl (fun _ => -1))), (m19, .inl (cA 0, 40, .inl (fun _ => 0))), (m20, .inl (cA 0, 40, .inl (fun _ => -1))), (m21, .inl (cA 0, 40, .inl (fun _ => -1)))] none (wA [(h0, .inr (7, [.int m0, .int m1, .int m2, .int m3, .int m4, .ref m5, .int m6, .int m7, .int m8, .ref m9, .ref m10, .ref m11, .int m12, .ref m13, .ref m14, .ref m15, .ref m16, .int m17, .ref m18, .ref m19, .ref m20, .ref m21, .ref m22, .ref m23, .ref m24, .ref m25, .int m26, .int m27, .int m28, .int m29, .int m30, .int m31, .ref m32, .ref m33, .ref m34, .ref m35, .int m36, .ref m37, .int m38, .ref m39, .ref m40, .ref m41, .ref m42, .ref m43])), (m18, .inl (cA 0, 40, .inl ga)), (m19, .inl (cA 0, 40, .inl gb)), (m20, .inl (cA 0, 40, .inl gc)), (m21, .inl (cA 0, 40, .inl gd))])) 0 0 (wA [(h0, .inr (7, [.int m0, .int m1, .int m2, .int m3, .int m4, .ref m5, .int m6, .int m7, .int m8, .ref m9, .ref m10, .ref m11, .int m12, .ref m13, .ref m14, .ref m15, .ref m16, .int m17, .ref m18, .ref m19, .ref m20, .ref m21, .ref m22, .ref m23, .ref m24, .ref m25, .int m26, .int m27, .int m28, .int m29, .int m30, .int m31, .ref m32, .ref m33, .ref m34, .ref m35, .int m36, .ref m37, .int m38, .ref m39, .ref m40, .ref m41, .ref m42, .ref m43])), (m18, .inl (cA 0, 40, .inl ga)), (m19, .inl (cA 0, 40, .inl gb)), (m20, .inl (cA 0, 40, .inl gc)), (m21, .inl (cA 0, 40, .inl gd))]) := by
  refine Met.ofW (cc := cX8_empty) (maxL := 2) (ret := none) (by decide) rfl ?_
  intro p e s m args below meth c s₁ B hml hv
  obtain ⟨rfl, hP, hK, hD0⟩ := hv
  have hx := B.exec
  have hb := B.bytes
  have hr := B.returns
  have hts := atoms_spec (ws := wsX8_empty) B.pre
  have hown : s.vm.findClass RX8 = some m.cls := findClass_of_methodNamed B.named
  have hlocks := B.notSynchronized
  have hin_X8 : ∀ w ∈ wsX80, w ∈ wsX8_empty := fun w h => List.mem_cons_of_mem _ (List.mem_append_right _ h)
  have w_RX8_35 := hts (.fieldLink RX8 35 "MixElectionModel" "to" "[I") (by decide +kernel)
  have w_RX8_38 := hts (.fieldLink RX8 38 "MixElectionModel" "by" "[I") (by decide +kernel)
  have w_RX8_41 := hts (.fieldLink RX8 41 "MixElectionModel" "forgedA" "[I") (by decide +kernel)
  have w_RX8_44 := hts (.fieldLink RX8 44 "MixElectionModel" "forgedB" "[I") (by decide +kernel)
  have hD : va_D (wA [(h0, .inr (7, [.int m0, .int m1, .int m2, .int m3, .int m4, .ref m5, .int m6, .int m7, .int m8, .ref m9, .ref m10, .ref m11, .int m12, .ref m13, .ref m14, .ref m15, .ref m16, .int m17, .ref m18, .ref m19, .ref m20, .ref m21, .ref m22, .ref m23, .ref m24, .ref m25, .int m26, .int m27, .int m28, .int m29, .int m30, .int m31, .ref m32, .ref m33, .ref m34, .ref m35, .int m36, .ref m37, .int m38, .ref m39, .ref m40, .ref m41, .ref m42, .ref m43])), (m18, .inl (cA 0, 40, .inl ga)), (m19, .inl (cA 0, 40, .inl gb)), (m20, .inl (cA 0, 40, .inl gc)), (m21, .inl (cA 0, 40, .inl gd))]) [(h0, .inr (7, [.int m0, .int m1, .int m2, .int m3, .int m4, .ref m5, .int m6, .int m7, .int m8, .ref m9, .ref m10, .ref m11, .int m12, .ref m13, .ref m14, .ref m15, .ref m16, .int m17, .ref m18, .ref m19, .ref m20, .ref m21, .ref m22, .ref m23, .ref m24, .ref m25, .int m26, .int m27, .int m28, .int m29, .int m30, .int m31, .ref m32, .ref m33, .ref m34, .ref m35, .int m36, .ref m37, .int m38, .ref m39, .ref m40, .ref m41, .ref m42, .ref m43])), (m18, .inl (cA 0, 40, .inl ga)), (m19, .inl (cA 0, 40, .inl gb)), (m20, .inl (cA 0, 40, .inl gc)), (m21, .inl (cA 0, 40, .inl gd))] := ⟨hD0.1, fun k q h => List.mem_map.mpr ⟨q, List.mem_of_getElem? h, rfl⟩⟩
  have hS : va_S (wA [(h0, .inr (7, [.int m0, .int m1, .int m2, .int m3, .int m4, .ref m5, .int m6, .int m7, .int m8, .ref m9, .ref m10, .ref m11, .int m12, .ref m13, .ref m14, .ref m15, .ref m16, .int m17, .ref m18, .ref m19, .ref m20, .ref m21, .ref m22, .ref m23, .ref m24, .ref m25, .int m26, .int m27, .int m28, .int m29, .int m30, .int m31, .ref m32, .ref m33, .ref m34, .ref m35, .int m36, .ref m37, .int m38, .ref m39, .ref m40, .ref m41, .ref m42, .ref m43])), (m18, .inl (cA 0, 40, .inl ga)), (m19, .inl (cA 0, 40, .inl gb)), (m20, .inl (cA 0, 40, .inl gc)), (m21, .inl (cA 0, 40, .inl gd))]) s.heap s.heap [] := va_S.rf
  generalize hAe : wA [(h0, .inr (7, [.int m0, .int m1, .int m2, .int m3, .int m4, .ref m5, .int m6, .int m7, .int m8, .ref m9, .ref m10, .ref m11, .int m12, .ref m13, .ref m14, .ref m15, .ref m16, .int m17, .ref m18, .ref m19, .ref m20, .ref m21, .ref m22, .ref m23, .ref m24, .ref m25, .int m26, .int m27, .int m28, .int m29, .int m30, .int m31, .ref m32, .ref m33, .ref m34, .ref m35, .int m36, .ref m37, .int m38, .ref m39, .ref m40, .ref m41, .ref m42, .ref m43])), (m18, .inl (cA 0, 40, .inl ga)), (m19, .inl (cA 0, 40, .inl gb)), (m20, .inl (cA 0, 40, .inl gc)), (m21, .inl (cA 0, 40, .inl gd))] = A at hD hS ⊢
  have hP : va_P D vwCl [(h0, .inr (7, [.int m0, .int m1, .int m2, .int m3, .int m4, .ref m5, .int m6, .int m7, .int m8, .ref m9, .ref m10, .ref m11, .int m12, .ref m13, .ref m14, .ref m15, .ref m16, .int m17, .ref m18, .ref m19, .ref m20, .ref m21, .ref m22, .ref m23, .ref m24, .ref m25, .int m26, .int m27, .int m28, .int m29, .int m30, .int m31, .ref m32, .ref m33, .ref m34, .ref m35, .int m36, .ref m37, .int m38, .ref m39, .ref m40, .ref m41, .ref m42, .ref m43])), (m18, .inl (cA 0, 40, .inl ga)), (m19, .inl (cA 0, 40, .inl gb)), (m20, .inl (cA 0, 40, .inl gc)), (m21, .inl (cA 0, 40, .inl gd))] s.heap := hP
  have hl := lv_entry ([.ref h0]) (n := 2) (Nat.le_of_ble_eq_true rfl)
  rw [lg_entry_eq]
  generalize (lg_sl ([.ref h0]) ++ List.replicate (2 - (lg_sl ([.ref h0])).length) Slot.unset).toArray = ls at hl ⊢
  have hl : lv_has ls 2 [(0, .ref h0)] := hl
  refine lv_iconst (v := 0) hx hb dX8_empty_0 (by decide) ?_
  refine lv_istore_n (lv' := [(1, .int 0), (0, .ref h0)]) hx hb dX8_empty_1 rfl hl (by decide) rfl (fun ls hl => ?_)
  have loop2 : ∀ (f k : Nat) (z : Int32) (f1 f2 f3 f4 : Nat → Int32), z = nI k → 41 ≤ k + f → k ≤ 40 → (∀ j : Nat, j < k → f1 j = -1) → (∀ j : Nat, j < k → f2 j = 0) → (∀ j : Nat, j < k → f3 j = -1) → (∀ j : Nat, j < k → f4 j = -1) → ∀ (H : Heap) (locs : List Loc), va_P D vwCl [(h0, .inr (7, [.int m0, .int m1, .int m2, .int m3, .int m4, .ref m5, .int m6, .int m7, .int m8, .ref m9, .ref m10, .ref m11, .int m12, .ref m13, .ref m14, .ref m15, .ref m16, .int m17, .ref m18, .ref m19, .ref m20, .ref m21, .ref m22, .ref m23, .ref m24, .ref m25, .int m26, .int m27, .int m28, .int m29, .int m30, .int m31, .ref m32, .ref m33, .ref m34, .ref m35, .int m36, .ref m37, .int m38, .ref m39, .ref m40, .ref m41, .ref m42, .ref m43])), (m18, .inl (cA 0, 40, .inl f1)), (m19, .inl (cA 0, 40, .inl f2)), (m20, .inl (cA 0, 40, .inl f3)), (m21, .inl (cA 0, 40, .inl f4))] H → va_D A [(h0, .inr (7, [.int m0, .int m1, .int m2, .int m3, .int m4, .ref m5, .int m6, .int m7, .int m8, .ref m9, .ref m10, .ref m11, .int m12, .ref m13, .ref m14, .ref m15, .ref m16, .int m17, .ref m18, .ref m19, .ref m20, .ref m21, .ref m22, .ref m23, .ref m24, .ref m25, .int m26, .int m27, .int m28, .int m29, .int m30, .int m31, .ref m32, .ref m33, .ref m34, .ref m35, .int m36, .ref m37, .int m38, .ref m39, .ref m40, .ref m41, .ref m42, .ref m43])), (m18, .inl (cA 0, 40, .inl f1)), (m19, .inl (cA 0, 40, .inl f2)), (m20, .inl (cA 0, 40, .inl f3)), (m21, .inl (cA 0, 40, .inl f4))] → va_S A s.heap H locs → ∀ ls : Array Slot, lv_has ls 2 [(0, .ref h0), (1, .int z)] → W p l e (headSpec wsX8_empty ({ frames := 0, cells := 0, slots := 0, locals := 0 })).room s m [.ref h0].toArray below meth c H locs 0 0 (MQ below (wq_x vwCl D [(h0, .inr (7, [.int m0, .int m1, .int m2, .int m3, .int m4, .ref m5, .int m6, .int m7, .int m8, .ref m9, .ref m10, .ref m11, .int m12, .ref m13, .ref m14, .ref m15, .ref m16, .int m17, .ref m18, .ref m19, .ref m20, .ref m21, .ref m22, .ref m23, .ref m24, .ref m25, .int m26, .int m27, .int m28, .int m29, .int m30, .int m31, .ref m32, .ref m33, .ref m34, .ref m35, .int m36, .ref m37, .int m38, .ref m39, .ref m40, .ref m41, .ref m42, .ref m43])), (m18, .inl (cA 0, 40, .inl (fun _ => -1))), (m19, .inl (cA 0, 40, .inl (fun _ => 0))), (m20, .inl (cA 0, 40, .inl (fun _ => -1))), (m21, .inl (cA 0, 40, .inl (fun _ => -1)))] none A) [.ref h0].toArray s 0 0 A) (F0 m 2 ls []) := by
    intro f
    induction f with
    | zero =>
      intro k z f1 f2 f3 f4 hz h1 h2
      omega
    | succ f ih =>
      intro k z f1 f2 f3 f4 hz h1 h2 h3 h4 h5 h6 H locs hP hD hS ls hl
      refine lv_iload_n hx hb dX8_empty_2 rfl (lv_at hl 1 rfl) ?_
      refine lv_bipush (v := 40) hx hb dX8_empty_3 (by decide) ?_
      refine lv_icmp_ge (tgt := 42) hx hb dX8_empty_5 (by decide) (fun c_5 => ?_) (fun c_5 => ?_)
      · skip
        have hP9 : va_P D vwCl [(h0, .inr (7, [.int m0, .int m1, .int m2, .int m3, .int m4, .ref m5, .int m6, .int m7, .int m8, .ref m9, .ref m10, .ref m11, .int m12, .ref m13, .ref m14, .ref m15, .ref m16, .int m17, .ref m18, .ref m19, .ref m20, .ref m21, .ref m22, .ref m23, .ref m24, .ref m25, .int m26, .int m27, .int m28, .int m29, .int m30, .int m31, .ref m32, .ref m33, .ref m34, .ref m35, .int m36, .ref m37, .int m38, .ref m39, .ref m40, .ref m41, .ref m42, .ref m43])), (m18, .inl (cA 0, 40, .inl (fun _ => -1))), (m19, .inl (cA 0, 40, .inl (fun _ => 0))), (m20, .inl (cA 0, 40, .inl (fun _ => -1))), (m21, .inl (cA 0, 40, .inl (fun _ => -1)))] H := (((hP.arr 1 rfl (em_all hz h2 h3 c_5)).arr 2 rfl (em_all hz h2 h4 c_5)).arr 3 rfl (em_all hz h2 h5 c_5)).arr 4 rfl (em_all hz h2 h6 c_5)
        exact W.vret hx hb hr (fun t ht hW => ⟨rfl, by rw [ht]; exact hP9, hS.F ht⟩) hS.2.2 dX8_empty_42
      · skip
        refine lv_aload_n hx hb dX8_empty_8 rfl (lv_at hl 0 rfl) ?_
        refine va_get (D := D) (ci := 7) (v := .ref m18) (C := RX8) (T := TX8) (N := 44) hx hb hts hin_X8 hown hK hP 0 rfl rfl 18 (by decide) (w_RX8_35) (fun _ h9 => h9) rfl dX8_empty_9 ?_
        refine lv_iload_n hx hb dX8_empty_12 rfl (lv_at hl 1 rfl) ?_
        refine lv_iconst (v := (-1)) hx hb dX8_empty_13 (by decide) ?_
        refine va_iast hx hb hK hP hD hS 1 0 rfl rfl (em_in hz h2 c_5) dX8_empty_14 (fun H locs hP hD hS => ?_)
        have hP : va_P D vwCl [(h0, .inr (7, [.int m0, .int m1, .int m2, .int m3, .int m4, .ref m5, .int m6, .int m7, .int m8, .ref m9, .ref m10, .ref m11, .int m12, .ref m13, .ref m14, .ref m15, .ref m16, .int m17, .ref m18, .ref m19, .ref m20, .ref m21, .ref m22, .ref m23, .ref m24, .ref m25, .int m26, .int m27, .int m28, .int m29, .int m30, .int m31, .ref m32, .ref m33, .ref m34, .ref m35, .int m36, .ref m37, .int m38, .ref m39, .ref m40, .ref m41, .ref m42, .ref m43])), (m18, .inl (cA 0, 40, .inl (upd f1 z.toNatClampNeg (-1)))), (m19, .inl (cA 0, 40, .inl f2)), (m20, .inl (cA 0, 40, .inl f3)), (m21, .inl (cA 0, 40, .inl f4))] H := hP
        have hD : va_D A [(h0, .inr (7, [.int m0, .int m1, .int m2, .int m3, .int m4, .ref m5, .int m6, .int m7, .int m8, .ref m9, .ref m10, .ref m11, .int m12, .ref m13, .ref m14, .ref m15, .ref m16, .int m17, .ref m18, .ref m19, .ref m20, .ref m21, .ref m22, .ref m23, .ref m24, .ref m25, .int m26, .int m27, .int m28, .int m29, .int m30, .int m31, .ref m32, .ref m33, .ref m34, .ref m35, .int m36, .ref m37, .int m38, .ref m39, .ref m40, .ref m41, .ref m42, .ref m43])), (m18, .inl (cA 0, 40, .inl (upd f1 z.toNatClampNeg (-1)))), (m19, .inl (cA 0, 40, .inl f2)), (m20, .inl (cA 0, 40, .inl f3)), (m21, .inl (cA 0, 40, .inl f4))] := hD
        refine lv_aload_n hx hb dX8_empty_15 rfl (lv_at hl 0 rfl) ?_
        refine va_get (D := D) (ci := 7) (v := .ref m19) (C := RX8) (T := TX8) (N := 44) hx hb hts hin_X8 hown hK hP 0 rfl rfl 19 (by decide) (w_RX8_38) (fun _ h9 => h9) rfl dX8_empty_16 ?_
        refine lv_iload_n hx hb dX8_empty_19 rfl (lv_at hl 1 rfl) ?_
        refine lv_iconst (v := 0) hx hb dX8_empty_20 (by decide) ?_
        refine va_iast hx hb hK hP hD hS 2 0 rfl rfl (em_in hz h2 c_5) dX8_empty_21 (fun H locs hP hD hS => ?_)
        have hP : va_P D vwCl [(h0, .inr (7, [.int m0, .int m1, .int m2, .int m3, .int m4, .ref m5, .int m6, .int m7, .int m8, .ref m9, .ref m10, .ref m11, .int m12, .ref m13, .ref m14, .ref m15, .ref m16, .int m17, .ref m18, .ref m19, .ref m20, .ref m21, .ref m22, .ref m23, .ref m24, .ref m25, .int m26, .int m27, .int m28, .int m29, .int m30, .int m31, .ref m32, .ref m33, .ref m34, .ref m35, .int m36, .ref m37, .int m38, .ref m39, .ref m40, .ref m41, .ref m42, .ref m43])), (m18, .inl (cA 0, 40, .inl (upd f1 z.toNatClampNeg (-1)))), (m19, .inl (cA 0, 40, .inl (upd f2 z.toNatClampNeg 0))), (m20, .inl (cA 0, 40, .inl f3)), (m21, .inl (cA 0, 40, .inl f4))] H := hP
        have hD : va_D A [(h0, .inr (7, [.int m0, .int m1, .int m2, .int m3, .int m4, .ref m5, .int m6, .int m7, .int m8, .ref m9, .ref m10, .ref m11, .int m12, .ref m13, .ref m14, .ref m15, .ref m16, .int m17, .ref m18, .ref m19, .ref m20, .ref m21, .ref m22, .ref m23, .ref m24, .ref m25, .int m26, .int m27, .int m28, .int m29, .int m30, .int m31, .ref m32, .ref m33, .ref m34, .ref m35, .int m36, .ref m37, .int m38, .ref m39, .ref m40, .ref m41, .ref m42, .ref m43])), (m18, .inl (cA 0, 40, .inl (upd f1 z.toNatClampNeg (-1)))), (m19, .inl (cA 0, 40, .inl (upd f2 z.toNatClampNeg 0))), (m20, .inl (cA 0, 40, .inl f3)), (m21, .inl (cA 0, 40, .inl f4))] := hD
        refine lv_aload_n hx hb dX8_empty_22 rfl (lv_at hl 0 rfl) ?_
        refine va_get (D := D) (ci := 7) (v := .ref m20) (C := RX8) (T := TX8) (N := 44) hx hb hts hin_X8 hown hK hP 0 rfl rfl 20 (by decide) (w_RX8_41) (fun _ h9 => h9) rfl dX8_empty_23 ?_
        refine lv_iload_n hx hb dX8_empty_26 rfl (lv_at hl 1 rfl) ?_
        refine lv_iconst (v := (-1)) hx hb dX8_empty_27 (by decide) ?_
        refine va_iast hx hb hK hP hD hS 3 0 rfl rfl (em_in hz h2 c_5) dX8_empty_28 (fun H locs hP hD hS => ?_)
        have hP : va_P D vwCl [(h0, .inr (7, [.int m0, .int m1, .int m2, .int m3, .int m4, .ref m5, .int m6, .int m7, .int m8, .ref m9, .ref m10, .ref m11, .int m12, .ref m13, .ref m14, .ref m15, .ref m16, .int m17, .ref m18, .ref m19, .ref m20, .ref m21, .ref m22, .ref m23, .ref m24, .ref m25, .int m26, .int m27, .int m28, .int m29, .int m30, .int m31, .ref m32, .ref m33, .ref m34, .ref m35, .int m36, .ref m37, .int m38, .ref m39, .ref m40, .ref m41, .ref m42, .ref m43])), (m18, .inl (cA 0, 40, .inl (upd f1 z.toNatClampNeg (-1)))), (m19, .inl (cA 0, 40, .inl (upd f2 z.toNatClampNeg 0))), (m20, .inl (cA 0, 40, .inl (upd f3 z.toNatClampNeg (-1)))), (m21, .inl (cA 0, 40, .inl f4))] H := hP
        have hD : va_D A [(h0, .inr (7, [.int m0, .int m1, .int m2, .int m3, .int m4, .ref m5, .int m6, .int m7, .int m8, .ref m9, .ref m10, .ref m11, .int m12, .ref m13, .ref m14, .ref m15, .ref m16, .int m17, .ref m18, .ref m19, .ref m20, .ref m21, .ref m22, .ref m23, .ref m24, .ref m25, .int m26, .int m27, .int m28, .int m29, .int m30, .int m31, .ref m32, .ref m33, .ref m34, .ref m35, .int m36, .ref m37, .int m38, .ref m39, .ref m40, .ref m41, .ref m42, .ref m43])), (m18, .inl (cA 0, 40, .inl (upd f1 z.toNatClampNeg (-1)))), (m19, .inl (cA 0, 40, .inl (upd f2 z.toNatClampNeg 0))), (m20, .inl (cA 0, 40, .inl (upd f3 z.toNatClampNeg (-1)))), (m21, .inl (cA 0, 40, .inl f4))] := hD
        refine lv_aload_n hx hb dX8_empty_29 rfl (lv_at hl 0 rfl) ?_
        refine va_get (D := D) (ci := 7) (v := .ref m21) (C := RX8) (T := TX8) (N := 44) hx hb hts hin_X8 hown hK hP 0 rfl rfl 21 (by decide) (w_RX8_44) (fun _ h9 => h9) rfl dX8_empty_30 ?_
        refine lv_iload_n hx hb dX8_empty_33 rfl (lv_at hl 1 rfl) ?_
        refine lv_iconst (v := (-1)) hx hb dX8_empty_34 (by decide) ?_
        refine va_iast hx hb hK hP hD hS 4 0 rfl rfl (em_in hz h2 c_5) dX8_empty_35 (fun H locs hP hD hS => ?_)
        have hP : va_P D vwCl [(h0, .inr (7, [.int m0, .int m1, .int m2, .int m3, .int m4, .ref m5, .int m6, .int m7, .int m8, .ref m9, .ref m10, .ref m11, .int m12, .ref m13, .ref m14, .ref m15, .ref m16, .int m17, .ref m18, .ref m19, .ref m20, .ref m21, .ref m22, .ref m23, .ref m24, .ref m25, .int m26, .int m27, .int m28, .int m29, .int m30, .int m31, .ref m32, .ref m33, .ref m34, .ref m35, .int m36, .ref m37, .int m38, .ref m39, .ref m40, .ref m41, .ref m42, .ref m43])), (m18, .inl (cA 0, 40, .inl (upd f1 z.toNatClampNeg (-1)))), (m19, .inl (cA 0, 40, .inl (upd f2 z.toNatClampNeg 0))), (m20, .inl (cA 0, 40, .inl (upd f3 z.toNatClampNeg (-1)))), (m21, .inl (cA 0, 40, .inl (upd f4 z.toNatClampNeg (-1))))] H := hP
        have hD : va_D A [(h0, .inr (7, [.int m0, .int m1, .int m2, .int m3, .int m4, .ref m5, .int m6, .int m7, .int m8, .ref m9, .ref m10, .ref m11, .int m12, .ref m13, .ref m14, .ref m15, .ref m16, .int m17, .ref m18, .ref m19, .ref m20, .ref m21, .ref m22, .ref m23, .ref m24, .ref m25, .int m26, .int m27, .int m28, .int m29, .int m30, .int m31, .ref m32, .ref m33, .ref m34, .ref m35, .int m36, .ref m37, .int m38, .ref m39, .ref m40, .ref m41, .ref m42, .ref m43])), (m18, .inl (cA 0, 40, .inl (upd f1 z.toNatClampNeg (-1)))), (m19, .inl (cA 0, 40, .inl (upd f2 z.toNatClampNeg 0))), (m20, .inl (cA 0, 40, .inl (upd f3 z.toNatClampNeg (-1)))), (m21, .inl (cA 0, 40, .inl (upd f4 z.toNatClampNeg (-1))))] := hD
        refine lv_iinc (v := (z + 1)) (lv' := [(1, .int (z + 1)), (0, .ref h0)]) hx hb dX8_empty_36 hl (k := 1) rfl rfl (by decide) rfl (fun ls hl => ?_)
        refine lv_goto (tgt := 2) hx hb dX8_empty_39 (by decide) ?_
        exact ih (k + 1) (z + 1) _ _ _ _ (by rw [hz]; exact nI_1 k) (by omega) (em_lt hz h2 c_5) (em_step hz h2 h3) (em_step hz h2 h4) (em_step hz h2 h5) (em_step hz h2 h6) _ _ hP hD hS ls (lv_sub hl [1, 0] rfl)
  exact loop2 41 0 0 ga gb gc gd rfl (by omega) (by omega) (fun j h => by omega) (fun j h => by omega) (fun j h => by omega) (fun j h => by omega) _ _ hP hD hS ls (lv_sub hl [1, 0] rfl)
end
section
set_option maxRecDepth 20000 in
theorem ggX8_init_X8_within : GoodIn wsX8_init wsX8_within := goodIn_r _ [42] (by decide +kernel) (by decide +kernel)
set_option maxRecDepth 20000 in
theorem gX8_init_X8_within : GoodIn wsX8_init (va_wsS RX8 91 yX8_within wsX8_within) := goodIn_app (goodIn_of _ (by decide +kernel)) ggX8_init_X8_within
set_option maxRecDepth 20000 in
theorem ggX8_init_X8_isPrime : GoodIn wsX8_init wsX8_isPrime := goodIn_r _ [45] (by decide +kernel) (by decide +kernel)
set_option maxRecDepth 20000 in
theorem gX8_init_X8_isPrime : GoodIn wsX8_init (va_wsS RX8 95 yX8_isPrime wsX8_isPrime) := goodIn_app (goodIn_of _ (by decide +kernel)) ggX8_init_X8_isPrime
set_option maxRecDepth 20000 in
theorem ggX8_init_X8_empty : GoodIn wsX8_init wsX8_empty := goodIn_r _ [49, 14, 15, 16, 17, 50, 51, 52, 53, 54, 55, 56, 57, 58, 59, 60, 61, 62, 63, 64, 65, 66, 67, 68, 69, 70, 71, 72, 73, 74, 75, 76, 77, 78, 79, 80, 81, 82, 83, 84, 85, 86, 87, 88, 89, 90, 91, 92, 93] (by decide +kernel) (by decide +kernel)
set_option maxRecDepth 20000 in
theorem gX8_init_X8_empty : GoodIn wsX8_init (wsV RX8 115 RX8 yX8_empty wsX8_empty) := goodIn_app (goodIn_of _ (by decide +kernel)) ggX8_init_X8_empty
theorem dX8_init_0 : decode cX8_init 0 = .ok (.aload_n 0, 1) := by decide +kernel
theorem dX8_init_1 : decode cX8_init 1 = .ok (.invokespecial 1, 3) := by decide +kernel
theorem dX8_init_4 : decode cX8_init 4 = .ok (.aload_n 0, 1) := by decide +kernel
theorem dX8_init_5 : decode cX8_init 5 = .ok (.iconst 5, 1) := by decide +kernel
theorem dX8_init_6 : decode cX8_init 6 = .ok (.newarray .int, 2) := by decide +kernel
theorem dX8_init_8 : decode cX8_init 8 = .ok (.putfield 7, 3) := by decide +kernel
theorem dX8_init_11 : decode cX8_init 11 = .ok (.aload_n 0, 1) := by decide +kernel
theorem dX8_init_12 : decode cX8_init 12 = .ok (.bipush 40, 2) := by decide +kernel
theorem dX8_init_14 : decode cX8_init 14 = .ok (.newarray .boolean, 2) := by decide +kernel
theorem dX8_init_16 : decode cX8_init 16 = .ok (.putfield 13, 3) := by decide +kernel
theorem dX8_init_19 : decode cX8_init 19 = .ok (.aload_n 0, 1) := by decide +kernel
theorem dX8_init_20 : decode cX8_init 20 = .ok (.bipush 40, 2) := by decide +kernel
theorem dX8_init_22 : decode cX8_init 22 = .ok (.newarray .int, 2) := by decide +kernel
theorem dX8_init_24 : decode cX8_init 24 = .ok (.putfield 17, 3) := by decide +kernel
theorem dX8_init_27 : decode cX8_init 27 = .ok (.aload_n 0, 1) := by decide +kernel
theorem dX8_init_28 : decode cX8_init 28 = .ok (.bipush 40, 2) := by decide +kernel
theorem dX8_init_30 : decode cX8_init 30 = .ok (.newarray .int, 2) := by decide +kernel
theorem dX8_init_32 : decode cX8_init 32 = .ok (.putfield 20, 3) := by decide +kernel
theorem dX8_init_35 : decode cX8_init 35 = .ok (.aload_n 0, 1) := by decide +kernel
theorem dX8_init_36 : decode cX8_init 36 = .ok (.sipush 200, 3) := by decide +kernel
theorem dX8_init_39 : decode cX8_init 39 = .ok (.newarray .int, 2) := by decide +kernel
theorem dX8_init_41 : decode cX8_init 41 = .ok (.putfield 23, 3) := by decide +kernel
theorem dX8_init_44 : decode cX8_init 44 = .ok (.aload_n 0, 1) := by decide +kernel
theorem dX8_init_45 : decode cX8_init 45 = .ok (.sipush 200, 3) := by decide +kernel
theorem dX8_init_48 : decode cX8_init 48 = .ok (.newarray .int, 2) := by decide +kernel
theorem dX8_init_50 : decode cX8_init 50 = .ok (.putfield 26, 3) := by decide +kernel
theorem dX8_init_53 : decode cX8_init 53 = .ok (.aload_n 0, 1) := by decide +kernel
theorem dX8_init_54 : decode cX8_init 54 = .ok (.bipush 40, 2) := by decide +kernel
theorem dX8_init_56 : decode cX8_init 56 = .ok (.newarray .int, 2) := by decide +kernel
theorem dX8_init_58 : decode cX8_init 58 = .ok (.putfield 29, 3) := by decide +kernel
theorem dX8_init_61 : decode cX8_init 61 = .ok (.aload_n 0, 1) := by decide +kernel
theorem dX8_init_62 : decode cX8_init 62 = .ok (.bipush 40, 2) := by decide +kernel
theorem dX8_init_64 : decode cX8_init 64 = .ok (.newarray .int, 2) := by decide +kernel
theorem dX8_init_66 : decode cX8_init 66 = .ok (.putfield 32, 3) := by decide +kernel
theorem dX8_init_69 : decode cX8_init 69 = .ok (.aload_n 0, 1) := by decide +kernel
theorem dX8_init_70 : decode cX8_init 70 = .ok (.bipush 40, 2) := by decide +kernel
theorem dX8_init_72 : decode cX8_init 72 = .ok (.newarray .int, 2) := by decide +kernel
theorem dX8_init_74 : decode cX8_init 74 = .ok (.putfield 35, 3) := by decide +kernel
theorem dX8_init_77 : decode cX8_init 77 = .ok (.aload_n 0, 1) := by decide +kernel
theorem dX8_init_78 : decode cX8_init 78 = .ok (.bipush 40, 2) := by decide +kernel
theorem dX8_init_80 : decode cX8_init 80 = .ok (.newarray .int, 2) := by decide +kernel
theorem dX8_init_82 : decode cX8_init 82 = .ok (.putfield 38, 3) := by decide +kernel
theorem dX8_init_85 : decode cX8_init 85 = .ok (.aload_n 0, 1) := by decide +kernel
theorem dX8_init_86 : decode cX8_init 86 = .ok (.bipush 40, 2) := by decide +kernel
theorem dX8_init_88 : decode cX8_init 88 = .ok (.newarray .int, 2) := by decide +kernel
theorem dX8_init_90 : decode cX8_init 90 = .ok (.putfield 41, 3) := by decide +kernel
theorem dX8_init_93 : decode cX8_init 93 = .ok (.aload_n 0, 1) := by decide +kernel
theorem dX8_init_94 : decode cX8_init 94 = .ok (.bipush 40, 2) := by decide +kernel
theorem dX8_init_96 : decode cX8_init 96 = .ok (.newarray .int, 2) := by decide +kernel
theorem dX8_init_98 : decode cX8_init 98 = .ok (.putfield 44, 3) := by decide +kernel
theorem dX8_init_101 : decode cX8_init 101 = .ok (.aload_n 0, 1) := by decide +kernel
theorem dX8_init_102 : decode cX8_init 102 = .ok (.bipush 40, 2) := by decide +kernel
theorem dX8_init_104 : decode cX8_init 104 = .ok (.newarray .int, 2) := by decide +kernel
theorem dX8_init_106 : decode cX8_init 106 = .ok (.putfield 47, 3) := by decide +kernel
theorem dX8_init_109 : decode cX8_init 109 = .ok (.aload_n 0, 1) := by decide +kernel
theorem dX8_init_110 : decode cX8_init 110 = .ok (.bipush 40, 2) := by decide +kernel
theorem dX8_init_112 : decode cX8_init 112 = .ok (.newarray .int, 2) := by decide +kernel
theorem dX8_init_114 : decode cX8_init 114 = .ok (.putfield 50, 3) := by decide +kernel
theorem dX8_init_117 : decode cX8_init 117 = .ok (.aload_n 0, 1) := by decide +kernel
theorem dX8_init_118 : decode cX8_init 118 = .ok (.bipush 40, 2) := by decide +kernel
theorem dX8_init_120 : decode cX8_init 120 = .ok (.newarray .int, 2) := by decide +kernel
theorem dX8_init_122 : decode cX8_init 122 = .ok (.putfield 53, 3) := by decide +kernel
theorem dX8_init_125 : decode cX8_init 125 = .ok (.aload_n 0, 1) := by decide +kernel
theorem dX8_init_126 : decode cX8_init 126 = .ok (.bipush 40, 2) := by decide +kernel
theorem dX8_init_128 : decode cX8_init 128 = .ok (.newarray .int, 2) := by decide +kernel
theorem dX8_init_130 : decode cX8_init 130 = .ok (.putfield 56, 3) := by decide +kernel
theorem dX8_init_133 : decode cX8_init 133 = .ok (.aload_n 0, 1) := by decide +kernel
theorem dX8_init_134 : decode cX8_init 134 = .ok (.bipush 40, 2) := by decide +kernel
theorem dX8_init_136 : decode cX8_init 136 = .ok (.newarray .int, 2) := by decide +kernel
theorem dX8_init_138 : decode cX8_init 138 = .ok (.putfield 59, 3) := by decide +kernel
theorem dX8_init_141 : decode cX8_init 141 = .ok (.aload_n 0, 1) := by decide +kernel
theorem dX8_init_142 : decode cX8_init 142 = .ok (.bipush 40, 2) := by decide +kernel
theorem dX8_init_144 : decode cX8_init 144 = .ok (.newarray .int, 2) := by decide +kernel
theorem dX8_init_146 : decode cX8_init 146 = .ok (.putfield 62, 3) := by decide +kernel
theorem dX8_init_149 : decode cX8_init 149 = .ok (.aload_n 0, 1) := by decide +kernel
theorem dX8_init_150 : decode cX8_init 150 = .ok (.bipush 6, 2) := by decide +kernel
theorem dX8_init_152 : decode cX8_init 152 = .ok (.newarray .boolean, 2) := by decide +kernel
theorem dX8_init_154 : decode cX8_init 154 = .ok (.putfield 65, 3) := by decide +kernel
theorem dX8_init_157 : decode cX8_init 157 = .ok (.aload_n 0, 1) := by decide +kernel
theorem dX8_init_158 : decode cX8_init 158 = .ok (.sipush 240, 3) := by decide +kernel
theorem dX8_init_161 : decode cX8_init 161 = .ok (.newarray .int, 2) := by decide +kernel
theorem dX8_init_163 : decode cX8_init 163 = .ok (.putfield 68, 3) := by decide +kernel
theorem dX8_init_166 : decode cX8_init 166 = .ok (.aload_n 0, 1) := by decide +kernel
theorem dX8_init_167 : decode cX8_init 167 = .ok (.bipush 11, 2) := by decide +kernel
theorem dX8_init_169 : decode cX8_init 169 = .ok (.newarray .int, 2) := by decide +kernel
theorem dX8_init_171 : decode cX8_init 171 = .ok (.putfield 71, 3) := by decide +kernel
theorem dX8_init_174 : decode cX8_init 174 = .ok (.aload_n 0, 1) := by decide +kernel
theorem dX8_init_175 : decode cX8_init 175 = .ok (.sipush 600, 3) := by decide +kernel
theorem dX8_init_178 : decode cX8_init 178 = .ok (.newarray .int, 2) := by decide +kernel
theorem dX8_init_180 : decode cX8_init 180 = .ok (.putfield 74, 3) := by decide +kernel
theorem dX8_init_183 : decode cX8_init 183 = .ok (.aload_n 0, 1) := by decide +kernel
theorem dX8_init_184 : decode cX8_init 184 = .ok (.sipush 600, 3) := by decide +kernel
theorem dX8_init_187 : decode cX8_init 187 = .ok (.newarray .long, 2) := by decide +kernel
theorem dX8_init_189 : decode cX8_init 189 = .ok (.putfield 77, 3) := by decide +kernel
theorem dX8_init_192 : decode cX8_init 192 = .ok (.aload_n 0, 1) := by decide +kernel
theorem dX8_init_193 : decode cX8_init 193 = .ok (.sipush 600, 3) := by decide +kernel
theorem dX8_init_196 : decode cX8_init 196 = .ok (.newarray .long, 2) := by decide +kernel
theorem dX8_init_198 : decode cX8_init 198 = .ok (.putfield 81, 3) := by decide +kernel
theorem dX8_init_201 : decode cX8_init 201 = .ok (.aload_n 0, 1) := by decide +kernel
theorem dX8_init_202 : decode cX8_init 202 = .ok (.sipush 600, 3) := by decide +kernel
theorem dX8_init_205 : decode cX8_init 205 = .ok (.newarray .long, 2) := by decide +kernel
theorem dX8_init_207 : decode cX8_init 207 = .ok (.putfield 84, 3) := by decide +kernel
theorem dX8_init_210 : decode cX8_init 210 = .ok (.aload_n 0, 1) := by decide +kernel
theorem dX8_init_211 : decode cX8_init 211 = .ok (.sipush 600, 3) := by decide +kernel
theorem dX8_init_214 : decode cX8_init 214 = .ok (.newarray .long, 2) := by decide +kernel
theorem dX8_init_216 : decode cX8_init 216 = .ok (.putfield 87, 3) := by decide +kernel
theorem dX8_init_219 : decode cX8_init 219 = .ok (.iload_n 1, 1) := by decide +kernel
theorem dX8_init_220 : decode cX8_init 220 = .ok (.bipush 11, 2) := by decide +kernel
theorem dX8_init_222 : decode cX8_init 222 = .ok (.ldc 90, 2) := by decide +kernel
theorem dX8_init_224 : decode cX8_init 224 = .ok (.invokestatic 91, 3) := by decide +kernel
theorem dX8_init_227 : decode cX8_init 227 = .ok (.istore 5, 2) := by decide +kernel
theorem dX8_init_229 : decode cX8_init 229 = .ok (.iload 5, 2) := by decide +kernel
theorem dX8_init_231 : decode cX8_init 231 = .ok (.invokestatic 95, 3) := by decide +kernel
theorem dX8_init_234 : decode cX8_init 234 = .ok (.ifCond .eq 22, 3) := by decide +kernel
theorem dX8_init_237 : decode cX8_init 237 = .ok (.iload 5, 2) := by decide +kernel
theorem dX8_init_239 : decode cX8_init 239 = .ok (.iconst 2, 1) := by decide +kernel
theorem dX8_init_240 : decode cX8_init 240 = .ok (.irem, 1) := by decide +kernel
theorem dX8_init_241 : decode cX8_init 241 = .ok (.ifCond .eq 15, 3) := by decide +kernel
theorem dX8_init_244 : decode cX8_init 244 = .ok (.iload 5, 2) := by decide +kernel
theorem dX8_init_246 : decode cX8_init 246 = .ok (.iconst 1, 1) := by decide +kernel
theorem dX8_init_247 : decode cX8_init 247 = .ok (.isub, 1) := by decide +kernel
theorem dX8_init_248 : decode cX8_init 248 = .ok (.iconst 2, 1) := by decide +kernel
theorem dX8_init_249 : decode cX8_init 249 = .ok (.idiv, 1) := by decide +kernel
theorem dX8_init_250 : decode cX8_init 250 = .ok (.invokestatic 95, 3) := by decide +kernel
theorem dX8_init_253 : decode cX8_init 253 = .ok (.ifCond .ne 9, 3) := by decide +kernel
theorem dX8_init_256 : decode cX8_init 256 = .ok (.iinc 5 1, 3) := by decide +kernel
theorem dX8_init_259 : decode cX8_init 259 = .ok (.goto (-30), 3) := by decide +kernel
theorem dX8_init_262 : decode cX8_init 262 = .ok (.aload_n 0, 1) := by decide +kernel
theorem dX8_init_263 : decode cX8_init 263 = .ok (.iload 5, 2) := by decide +kernel
theorem dX8_init_265 : decode cX8_init 265 = .ok (.putfield 99, 3) := by decide +kernel
theorem dX8_init_268 : decode cX8_init 268 = .ok (.aload_n 0, 1) := by decide +kernel
theorem dX8_init_269 : decode cX8_init 269 = .ok (.iload 5, 2) := by decide +kernel
theorem dX8_init_271 : decode cX8_init 271 = .ok (.iconst 1, 1) := by decide +kernel
theorem dX8_init_272 : decode cX8_init 272 = .ok (.isub, 1) := by decide +kernel
theorem dX8_init_273 : decode cX8_init 273 = .ok (.iconst 2, 1) := by decide +kernel
theorem dX8_init_274 : decode cX8_init 274 = .ok (.idiv, 1) := by decide +kernel
theorem dX8_init_275 : decode cX8_init 275 = .ok (.putfield 103, 3) := by decide +kernel
theorem dX8_init_278 : decode cX8_init 278 = .ok (.aload_n 0, 1) := by decide +kernel
theorem dX8_init_279 : decode cX8_init 279 = .ok (.iload_n 2, 1) := by decide +kernel
theorem dX8_init_280 : decode cX8_init 280 = .ok (.iconst 1, 1) := by decide +kernel
theorem dX8_init_281 : decode cX8_init 281 = .ok (.bipush 10, 2) := by decide +kernel
theorem dX8_init_283 : decode cX8_init 283 = .ok (.invokestatic 91, 3) := by decide +kernel
theorem dX8_init_286 : decode cX8_init 286 = .ok (.iconst 1, 1) := by decide +kernel
theorem dX8_init_287 : decode cX8_init 287 = .ok (.aload_n 0, 1) := by decide +kernel
theorem dX8_init_288 : decode cX8_init 288 = .ok (.getfield 103, 3) := by decide +kernel
theorem dX8_init_291 : decode cX8_init 291 = .ok (.iconst 2, 1) := by decide +kernel
theorem dX8_init_292 : decode cX8_init 292 = .ok (.isub, 1) := by decide +kernel
theorem dX8_init_293 : decode cX8_init 293 = .ok (.invokestatic 91, 3) := by decide +kernel
theorem dX8_init_296 : decode cX8_init 296 = .ok (.putfield 106, 3) := by decide +kernel
theorem dX8_init_299 : decode cX8_init 299 = .ok (.aload_n 0, 1) := by decide +kernel
theorem dX8_init_300 : decode cX8_init 300 = .ok (.iload_n 3, 1) := by decide +kernel
theorem dX8_init_301 : decode cX8_init 301 = .ok (.iconst 1, 1) := by decide +kernel
theorem dX8_init_302 : decode cX8_init 302 = .ok (.iconst 5, 1) := by decide +kernel
theorem dX8_init_303 : decode cX8_init 303 = .ok (.invokestatic 91, 3) := by decide +kernel
theorem dX8_init_306 : decode cX8_init 306 = .ok (.iconst 1, 1) := by decide +kernel
theorem dX8_init_307 : decode cX8_init 307 = .ok (.aload_n 0, 1) := by decide +kernel
theorem dX8_init_308 : decode cX8_init 308 = .ok (.getfield 103, 3) := by decide +kernel
theorem dX8_init_311 : decode cX8_init 311 = .ok (.iconst 1, 1) := by decide +kernel
theorem dX8_init_312 : decode cX8_init 312 = .ok (.isub, 1) := by decide +kernel
theorem dX8_init_313 : decode cX8_init 313 = .ok (.invokestatic 91, 3) := by decide +kernel
theorem dX8_init_316 : decode cX8_init 316 = .ok (.putfield 109, 3) := by decide +kernel
theorem dX8_init_319 : decode cX8_init 319 = .ok (.aload_n 0, 1) := by decide +kernel
theorem dX8_init_320 : decode cX8_init 320 = .ok (.iload 4, 2) := by decide +kernel
theorem dX8_init_322 : decode cX8_init 322 = .ok (.iconst 1, 1) := by decide +kernel
theorem dX8_init_323 : decode cX8_init 323 = .ok (.aload_n 0, 1) := by decide +kernel
theorem dX8_init_324 : decode cX8_init 324 = .ok (.getfield 109, 3) := by decide +kernel
theorem dX8_init_327 : decode cX8_init 327 = .ok (.invokestatic 91, 3) := by decide +kernel
theorem dX8_init_330 : decode cX8_init 330 = .ok (.putfield 112, 3) := by decide +kernel
theorem dX8_init_333 : decode cX8_init 333 = .ok (.aload_n 0, 1) := by decide +kernel
theorem dX8_init_334 : decode cX8_init 334 = .ok (.getfield 7, 3) := by decide +kernel
theorem dX8_init_337 : decode cX8_init 337 = .ok (.iconst 0, 1) := by decide +kernel
theorem dX8_init_338 : decode cX8_init 338 = .ok (.iconst 1, 1) := by decide +kernel
theorem dX8_init_339 : decode cX8_init 339 = .ok (.iastore, 1) := by decide +kernel
theorem dX8_init_340 : decode cX8_init 340 = .ok (.aload_n 0, 1) := by decide +kernel
theorem dX8_init_341 : decode cX8_init 341 = .ok (.invokevirtual 115, 3) := by decide +kernel
theorem dX8_init_344 : decode cX8_init 344 = .ok (.return_, 1) := by decide +kernel
theorem mi_half {z : Int32} {k : Nat} (hz : z = nI k) (h1 : 1 ≤ k) (h2 : k ≤ 999959) : (z - 1) / 2 = nI ((k - 1) / 2) := by
  rw [hz, show (nI k - 1 : Int32) = nI (k - 1) from pk_sub (a := k) (b := 1) h1]
  exact pk_div (a := k - 1) (d := 2) (by omega) (by omega) (by omega)
theorem mi_par {z : Int32} {k : Nat} (hz : z = nI k) (h2 : k ≤ 999959) : z - z / 2 * 2 = 0 ↔ k % 2 = 0 := by
  rw [hz, show (nI k - nI k / 2 * 2 : Int32) = nI (k % 2) from pk_rem (a := k) (d := 2) (by omega) (by omega) (by omega), ← nI_0]
  exact nI_eq (by omega) (by omega)
theorem mi_lt {n0 p0 k : Nat} (hp : sp_least n0 p0) (_ : n0 ≤ k) (h2 : k ≤ p0) (hn : ¬ sp_safe k) : k + 1 ≤ p0 := by
  rcases Nat.lt_or_ge k p0 with q | q
  · exact q
  · have e : k = p0 := by omega
    rw [e] at hn
    exact absurd hp.2.1 hn
theorem mi_no1 {r : Int32} {k : Nat} (h : (r = 1 ∧ sp_prim k) ∨ (r = 0 ∧ ¬ sp_prim k)) (c : r = 0) : ¬ sp_safe k := by
  rcases h with q | q
  · rw [c] at q; exact absurd q.1 (by decide)
  · exact fun g => q.2 g.1
theorem mi_no2 {z : Int32} {k : Nat} (hz : z = nI k) (h2 : k ≤ 999959) (c : z - z / 2 * 2 = 0) : ¬ sp_safe k := by
  rw [mi_par hz h2] at c
  intro g
  have := g.2.1
  omega
theorem mi_no3 {r : Int32} {k : Nat} (h : (r = 1 ∧ sp_prim ((k - 1) / 2)) ∨ (r = 0 ∧ ¬ sp_prim ((k - 1) / 2))) (c : r = 0) : ¬ sp_safe k := by
  rcases h with q | q
  · rw [c] at q; exact absurd q.1 (by decide)
  · exact fun g => q.2 g.2.2
theorem mi_yes {z r1 r2 : Int32} {n0 p0 k : Nat} (hz : z = nI k) (hp : sp_least n0 p0) (h1 : n0 ≤ k) (h2 : k ≤ p0) (h9 : k ≤ 999959) (a1 : (r1 = 1 ∧ sp_prim k) ∨ (r1 = 0 ∧ ¬ sp_prim k)) (c1 : ¬ r1 = 0) (c2 : ¬ z - z / 2 * 2 = 0) (a2 : (r2 = 1 ∧ sp_prim ((k - 1) / 2)) ∨ (r2 = 0 ∧ ¬ sp_prim ((k - 1) / 2))) (c3 : ¬ r2 = 0) : z = nI p0 := by
  rw [mi_par hz h9] at c2
  have g1 : sp_prim k := by
    rcases a1 with q | q
    · exact q.2
    · exact absurd q.1 c1
  have g2 : sp_prim ((k - 1) / 2) := by
    rcases a2 with q | q
    · exact q.2
    · exact absurd q.1 c3
  have hs : sp_safe k := ⟨g1, by omega, g2⟩
  rcases Nat.lt_or_ge k p0 with q | q
  · exact absurd hs (hp.2.2 k h1 q)
  · rw [hz, show k = p0 by omega]
set_option maxHeartbeats 4000000 in
set_option maxRecDepth 100000 in
theorem c_X8_init (l : Launch) (D : va_G) (cA : Nat → ClassId) (h0 : Nat) (pr : Int32) (cn : Int32) (tr : Int32) (th : Int32) (n0 : Nat) (p0 : Nat) (q0 : Nat) (c0 : Nat) (t0 : Nat) (k0 : Nat) (hN8 : wj pr 11 999959 = nI n0) (hC8 : wj (wj cn 1 10) 1 (nI q0 - 2) = nI c0) (hT8 : wj (wj tr 1 5) 1 (nI q0 - 1) = nI t0) (hK8 : wj th 1 (nI t0) = nI k0) (hn : 11 ≤ n0 ∧ n0 ≤ 999959) (hp : sp_least n0 p0) (hq : p0 = 2 * q0 + 1) (hp9 : p0 ≤ 999959) (hc : 1 ≤ c0 ∧ c0 ≤ 10) (ht : 1 ≤ t0 ∧ t0 ≤ 5) (hk : 1 ≤ k0 ∧ k0 ≤ t0) (sz : Nat) : Met l yX8_init wsX8_init ({ frames := 1, cells := 26, slots := 4262, locals := 22 }) (iPc vwCl D cA sz [(h0, .inr (7, [.int 0, .int 0, .int 0, .int 0, .int 0, .null, .int 0, .int 0, .int 0, .null, .null, .null, .int 0, .null, .null, .null, .null, .int 0, .null, .null, .null, .null, .null, .null, .null, .null, .int 0, .int 0, .int 0, .int 0, .int 0, .int 0, .null, .null, .null, .null, .int 0, .null, .int 0, .null, .null, .null, .null, .null]))] [.ref h0, .int pr, .int cn, .int tr, .int th]) (va_Qv (fun _ : Nat → Nat => True) (fun (u : Nat → Nat) (t : State) => va_P D vwCl [(h0, .inr (7, [.int (nI p0), .int (nI q0), .int (nI c0), .int (nI t0), .int (nI k0), .ref (u 0), .int 0, .int 0, .int 0, .ref (u 1), .ref (u 2), .ref (u 3), .int 0, .ref (u 4), .ref (u 5), .ref (u 6), .ref (u 7), .int 0, .ref (u 8), .ref (u 9), .ref (u 10), .ref (u 11), .ref (u 12), .ref (u 13), .ref (u 14), .ref (u 15), .int 0, .int 0, .int 0, .int 0, .int 0, .int 0, .ref (u 16), .ref (u 17), .ref (u 18), .ref (u 19), .int 0, .ref (u 20), .int 0, .ref (u 21), .ref (u 22), .ref (u 23), .ref (u 24), .ref (u 25)])), ((u 0), .inl (cA 0, 5, .inl (upd (fun _ => 0) (0 : Int32).toNatClampNeg 1))), ((u 21), .inl (cA 0, 600, .inl (fun _ => 0))), ((u 22), .inl (cA 2, 600, .inr (.inl (fun _ => 0)))), ((u 23), .inl (cA 2, 600, .inr (.inl (fun _ => 0)))), ((u 24), .inl (cA 2, 600, .inr (.inl (fun _ => 0)))), ((u 25), .inl (cA 2, 600, .inr (.inl (fun _ => 0))))] t.heap ∧ va_K D vwCl (tyS cA) t ∧ va_D (va_A [(h0, .inr (7, [.int 0, .int 0, .int 0, .int 0, .int 0, .null, .int 0, .int 0, .int 0, .null, .null, .null, .int 0, .null, .null, .null, .null, .int 0, .null, .null, .null, .null, .null, .null, .null, .null, .int 0, .int 0, .int 0, .int 0, .int 0, .int 0, .null, .null, .null, .null, .int 0, .null, .int 0, .null, .null, .null, .null, .null]))] sz) [(h0, .inr (7, [.int (nI p0), .int (nI q0), .int (nI c0), .int (nI t0), .int (nI k0), .ref (u 0), .int 0, .int 0, .int 0, .ref (u 1), .ref (u 2), .ref (u 3), .int 0, .ref (u 4), .ref (u 5), .ref (u 6), .ref (u 7), .int 0, .ref (u 8), .ref (u 9), .ref (u 10), .ref (u 11), .ref (u 12), .ref (u 13), .ref (u 14), .ref (u 15), .int 0, .int 0, .int 0, .int 0, .int 0, .int 0, .ref (u 16), .ref (u 17), .ref (u 18), .ref (u 19), .int 0, .ref (u 20), .int 0, .ref (u 21), .ref (u 22), .ref (u 23), .ref (u 24), .ref (u 25)])), ((u 0), .inl (cA 0, 5, .inl (upd (fun _ => 0) (0 : Int32).toNatClampNeg 1))), ((u 21), .inl (cA 0, 600, .inl (fun _ => 0))), ((u 22), .inl (cA 2, 600, .inr (.inl (fun _ => 0)))), ((u 23), .inl (cA 2, 600, .inr (.inl (fun _ => 0)))), ((u 24), .inl (cA 2, 600, .inr (.inl (fun _ => 0)))), ((u 25), .inl (cA 2, 600, .inr (.inl (fun _ => 0))))]) (va_A [(h0, .inr (7, [.int 0, .int 0, .int 0, .int 0, .int 0, .null, .int 0, .int 0, .int 0, .null, .null, .null, .int 0, .null, .null, .null, .null, .int 0, .null, .null, .null, .null, .null, .null, .null, .null, .int 0, .int 0, .int 0, .int 0, .int 0, .int 0, .null, .null, .null, .null, .int 0, .null, .int 0, .null, .null, .null, .null, .null]))] sz)) 26 4262 (va_A [(h0, .inr (7, [.int 0, .int 0, .int 0, .int 0, .int 0, .null, .int 0, .int 0, .int 0, .null, .null, .null, .int 0, .null, .null, .null, .null, .int 0, .null, .null, .null, .null, .null, .null, .null, .null, .int 0, .int 0, .int 0, .int 0, .int 0, .int 0, .null, .null, .null, .null, .int 0, .null, .int 0, .null, .null, .null, .null, .null]))] sz) := by
  refine Met.ofW (cc := cX8_init) (maxL := 6) (ret := none) (by decide) rfl ?_
  intro p e s m args below meth c s₁ B hml hv
  obtain ⟨rfl, hsz, hP, hK, hD0, hX⟩ := hv
  have hx := B.exec
  have hb := B.bytes
  have hr := B.returns
  have hts := atoms_spec (ws := wsX8_init) B.pre
  have hown : s.vm.findClass RX8 = some m.cls := findClass_of_methodNamed B.named
  have hlocks := B.notSynchronized
  have hin : meth.name = "<init>" := (name_of_methodNamed B.named B.method).1
  have hin_X8 : ∀ w ∈ wsX80, w ∈ wsX8_init := fun w h => List.mem_cons_of_mem _ (List.mem_append_right _ h)
  have w_RX8_7 := hts (.fieldLink RX8 7 "MixElectionModel" "secret" "[I") (by decide +kernel)
  have w_RX8_13 := hts (.fieldLink RX8 13 "MixElectionModel" "hasCast" "[Z") (by decide +kernel)
  have w_RX8_17 := hts (.fieldLink RX8 17 "MixElectionModel" "castA" "[I") (by decide +kernel)
  have w_RX8_20 := hts (.fieldLink RX8 20 "MixElectionModel" "castB" "[I") (by decide +kernel)
  have w_RX8_23 := hts (.fieldLink RX8 23 "MixElectionModel" "listA" "[I") (by decide +kernel)
  have w_RX8_26 := hts (.fieldLink RX8 26 "MixElectionModel" "listB" "[I") (by decide +kernel)
  have w_RX8_29 := hts (.fieldLink RX8 29 "MixElectionModel" "shadowA" "[I") (by decide +kernel)
  have w_RX8_32 := hts (.fieldLink RX8 32 "MixElectionModel" "shadowB" "[I") (by decide +kernel)
  have w_RX8_35 := hts (.fieldLink RX8 35 "MixElectionModel" "to" "[I") (by decide +kernel)
  have w_RX8_38 := hts (.fieldLink RX8 38 "MixElectionModel" "by" "[I") (by decide +kernel)
  have w_RX8_41 := hts (.fieldLink RX8 41 "MixElectionModel" "forgedA" "[I") (by decide +kernel)
  have w_RX8_44 := hts (.fieldLink RX8 44 "MixElectionModel" "forgedB" "[I") (by decide +kernel)
  have w_RX8_47 := hts (.fieldLink RX8 47 "MixElectionModel" "mixTo" "[I") (by decide +kernel)
  have w_RX8_50 := hts (.fieldLink RX8 50 "MixElectionModel" "mixBy" "[I") (by decide +kernel)
  have w_RX8_53 := hts (.fieldLink RX8 53 "MixElectionModel" "shadowTo" "[I") (by decide +kernel)
  have w_RX8_56 := hts (.fieldLink RX8 56 "MixElectionModel" "shadowBy" "[I") (by decide +kernel)
  have w_RX8_59 := hts (.fieldLink RX8 59 "MixElectionModel" "shownTo" "[I") (by decide +kernel)
  have w_RX8_62 := hts (.fieldLink RX8 62 "MixElectionModel" "shownBy" "[I") (by decide +kernel)
  have w_RX8_65 := hts (.fieldLink RX8 65 "MixElectionModel" "hasGiven" "[Z") (by decide +kernel)
  have w_RX8_68 := hts (.fieldLink RX8 68 "MixElectionModel" "given" "[I") (by decide +kernel)
  have w_RX8_71 := hts (.fieldLink RX8 71 "MixElectionModel" "count" "[I") (by decide +kernel)
  have w_RX8_74 := hts (.fieldLink RX8 74 "MixElectionModel" "entryKind" "[I") (by decide +kernel)
  have w_RX8_77 := hts (.fieldLink RX8 77 "MixElectionModel" "entryX" "[J") (by decide +kernel)
  have w_RX8_81 := hts (.fieldLink RX8 81 "MixElectionModel" "entryY" "[J") (by decide +kernel)
  have w_RX8_84 := hts (.fieldLink RX8 84 "MixElectionModel" "entryZ" "[J") (by decide +kernel)
  have w_RX8_87 := hts (.fieldLink RX8 87 "MixElectionModel" "chain" "[J") (by decide +kernel)
  have w_RX8_99 := hts (.fieldLink RX8 99 "MixElectionModel" "p" "I") (by decide +kernel)
  have w_RX8_103 := hts (.fieldLink RX8 103 "MixElectionModel" "q" "I") (by decide +kernel)
  have w_RX8_106 := hts (.fieldLink RX8 106 "MixElectionModel" "candidates" "I") (by decide +kernel)
  have w_RX8_109 := hts (.fieldLink RX8 109 "MixElectionModel" "trustees" "I") (by decide +kernel)
  have w_RX8_112 := hts (.fieldLink RX8 112 "MixElectionModel" "threshold" "I") (by decide +kernel)
  subst hsz
  have hD := hD0.self (sz := s.heap.size)
  generalize hAe : va_A [(h0, .inr (7, [.int 0, .int 0, .int 0, .int 0, .int 0, .null, .int 0, .int 0, .int 0, .null, .null, .null, .int 0, .null, .null, .null, .null, .int 0, .null, .null, .null, .null, .null, .null, .null, .null, .int 0, .int 0, .int 0, .int 0, .int 0, .int 0, .null, .null, .null, .null, .int 0, .null, .int 0, .null, .null, .null, .null, .null]))] s.heap.size = A at hD ⊢
  have hA : ∀ q : Nat, s.heap.size ≤ q → A q := fun q h => by rw [← hAe]; exact Or.inr h
  have hS : va_S A s.heap s.heap [] := va_S.rf
  have hP : va_P D vwCl [(h0, .inr (7, [.int 0, .int 0, .int 0, .int 0, .int 0, .null, .int 0, .int 0, .int 0, .null, .null, .null, .int 0, .null, .null, .null, .null, .int 0, .null, .null, .null, .null, .null, .null, .null, .null, .int 0, .int 0, .int 0, .int 0, .int 0, .int 0, .null, .null, .null, .null, .int 0, .null, .int 0, .null, .null, .null, .null, .null]))] s.heap := hP
  have hl := lv_entry ([.ref h0, .int pr, .int cn, .int tr, .int th]) (n := 6) (Nat.le_of_ble_eq_true rfl)
  rw [lg_entry_eq]
  generalize (lg_sl ([.ref h0, .int pr, .int cn, .int tr, .int th]) ++ List.replicate (6 - (lg_sl ([.ref h0, .int pr, .int cn, .int tr, .int th])).length) Slot.unset).toArray = ls at hl ⊢
  have hl : lv_has ls 6 [(0, .ref h0), (1, .int pr), (2, .int cn), (3, .int tr), (4, .int th)] := hl
  refine lv_aload_n hx hb dX8_init_0 rfl (lv_at hl 0 rfl) ?_
  refine W.objInit hx hb hown (hts (.methodLink RX8 1 objectInit) (by decide +kernel)) (hts (.instanceMethod objectInit) (by decide +kernel)) (hts (.code objectInit ⟨#[0xb1]⟩ 1 none) (by decide +kernel)) rfl (by rw [hml]; exact hl.1) rfl dX8_init_1 (Nat.le_of_ble_eq_true rfl) (Nat.le_of_ble_eq_true rfl) ?_
  refine W.eq (g2 := F0 m 4 ls []) rfl ?_
  refine lv_aload_n hx hb dX8_init_4 rfl (lv_at hl 0 rfl) ?_
  refine lv_iconst (v := 5) hx hb dX8_init_5 (by decide) ?_
  refine ka_newa (atype := .int) (ty := .int) (N' := 5) (n := 5) (a0 := (5, .inl (fun _ => 0))) hx hb (hts (.arrayClass .int) (by decide +kernel)) rfl hK hP hD hS hA 0 rfl (fun _ => rfl) (by decide) rfl (by decide) (Nat.le_of_ble_eq_true rfl) (Nat.le_of_ble_eq_true rfl) dX8_init_6 (fun q6 H hP hD hS => ?_)
  refine W.widen (k := 1) (n := 5) (by omega) (by omega) ?_
  have hP : va_P D vwCl [(h0, .inr (7, [.int 0, .int 0, .int 0, .int 0, .int 0, .null, .int 0, .int 0, .int 0, .null, .null, .null, .int 0, .null, .null, .null, .null, .int 0, .null, .null, .null, .null, .null, .null, .null, .null, .int 0, .int 0, .int 0, .int 0, .int 0, .int 0, .null, .null, .null, .null, .int 0, .null, .int 0, .null, .null, .null, .null, .null])), (q6, .inl (cA 0, 5, .inl (fun _ => 0)))] H := hP
  have hD : va_D A [(h0, .inr (7, [.int 0, .int 0, .int 0, .int 0, .int 0, .null, .int 0, .int 0, .int 0, .null, .null, .null, .int 0, .null, .null, .null, .null, .int 0, .null, .null, .null, .null, .null, .null, .null, .null, .int 0, .int 0, .int 0, .int 0, .int 0, .int 0, .null, .null, .null, .null, .int 0, .null, .int 0, .null, .null, .null, .null, .null])), (q6, .inl (cA 0, 5, .inl (fun _ => 0)))] := hD
  refine va_putF (D := D) (ci := 7) (v := .ref q6) (ty := (.array .int)) (C := RX8) (T := TX8) (N := 44) hx hb hts hin_X8 tyX8 tyX8_ok nmX8 hown hK hP hD hS 0 rfl rfl 5 (by decide) (w_RX8_7) (fun _ h9 => h9) rfl hin rfl (by decide +kernel) rfl rfl (Nat.le_of_ble_eq_true rfl) dX8_init_8 (fun H locs hP hD hS => ?_)
  have hP : va_P D vwCl [(h0, .inr (7, [.int 0, .int 0, .int 0, .int 0, .int 0, .ref q6, .int 0, .int 0, .int 0, .null, .null, .null, .int 0, .null, .null, .null, .null, .int 0, .null, .null, .null, .null, .null, .null, .null, .null, .int 0, .int 0, .int 0, .int 0, .int 0, .int 0, .null, .null, .null, .null, .int 0, .null, .int 0, .null, .null, .null, .null, .null])), (q6, .inl (cA 0, 5, .inl (fun _ => 0)))] H := hP
  have hD : va_D A [(h0, .inr (7, [.int 0, .int 0, .int 0, .int 0, .int 0, .ref q6, .int 0, .int 0, .int 0, .null, .null, .null, .int 0, .null, .null, .null, .null, .int 0, .null, .null, .null, .null, .null, .null, .null, .null, .int 0, .int 0, .int 0, .int 0, .int 0, .int 0, .null, .null, .null, .null, .int 0, .null, .int 0, .null, .null, .null, .null, .null])), (q6, .inl (cA 0, 5, .inl (fun _ => 0)))] := hD
  refine lv_aload_n hx hb dX8_init_11 rfl (lv_at hl 0 rfl) ?_
  refine lv_bipush (v := 40) hx hb dX8_init_12 (by decide) ?_
  refine ka_newa (atype := .boolean) (ty := .boolean) (N' := 40) (n := 40) (a0 := (40, .inl (fun _ => 0))) hx hb (hts (.arrayClass .boolean) (by decide +kernel)) rfl hK hP hD hS hA 1 rfl (fun _ => rfl) (by decide) rfl (by decide) (Nat.le_of_ble_eq_true rfl) (Nat.le_of_ble_eq_true rfl) dX8_init_14 (fun q14 H hP hD hS => ?_)
  refine W.widen (k := 2) (n := 45) (by omega) (by omega) ?_
  have hP : va_P D vwCl [(h0, .inr (7, [.int 0, .int 0, .int 0, .int 0, .int 0, .ref q6, .int 0, .int 0, .int 0, .null, .null, .null, .int 0, .null, .null, .null, .null, .int 0, .null, .null, .null, .null, .null, .null, .null, .null, .int 0, .int 0, .int 0, .int 0, .int 0, .int 0, .null, .null, .null, .null, .int 0, .null, .int 0, .null, .null, .null, .null, .null])), (q6, .inl (cA 0, 5, .inl (fun _ => 0))), (q14, .inl (cA 1, 40, .inl (fun _ => 0)))] H := hP
  have hD : va_D A [(h0, .inr (7, [.int 0, .int 0, .int 0, .int 0, .int 0, .ref q6, .int 0, .int 0, .int 0, .null, .null, .null, .int 0, .null, .null, .null, .null, .int 0, .null, .null, .null, .null, .null, .null, .null, .null, .int 0, .int 0, .int 0, .int 0, .int 0, .int 0, .null, .null, .null, .null, .int 0, .null, .int 0, .null, .null, .null, .null, .null])), (q6, .inl (cA 0, 5, .inl (fun _ => 0))), (q14, .inl (cA 1, 40, .inl (fun _ => 0)))] := hD
  refine va_putF (D := D) (ci := 7) (v := .ref q14) (ty := (.array .boolean)) (C := RX8) (T := TX8) (N := 44) hx hb hts hin_X8 tyX8 tyX8_ok nmX8 hown hK hP hD hS 0 rfl rfl 9 (by decide) (w_RX8_13) (fun _ h9 => h9) rfl hin rfl (by decide +kernel) rfl rfl (Nat.le_of_ble_eq_true rfl) dX8_init_16 (fun H locs hP hD hS => ?_)
  have hP : va_P D vwCl [(h0, .inr (7, [.int 0, .int 0, .int 0, .int 0, .int 0, .ref q6, .int 0, .int 0, .int 0, .ref q14, .null, .null, .int 0, .null, .null, .null, .null, .int 0, .null, .null, .null, .null, .null, .null, .null, .null, .int 0, .int 0, .int 0, .int 0, .int 0, .int 0, .null, .null, .null, .null, .int 0, .null, .int 0, .null, .null, .null, .null, .null])), (q6, .inl (cA 0, 5, .inl (fun _ => 0))), (q14, .inl (cA 1, 40, .inl (fun _ => 0)))] H := hP
  have hD : va_D A [(h0, .inr (7, [.int 0, .int 0, .int 0, .int 0, .int 0, .ref q6, .int 0, .int 0, .int 0, .ref q14, .null, .null, .int 0, .null, .null, .null, .null, .int 0, .null, .null, .null, .null, .null, .null, .null, .null, .int 0, .int 0, .int 0, .int 0, .int 0, .int 0, .null, .null, .null, .null, .int 0, .null, .int 0, .null, .null, .null, .null, .null])), (q6, .inl (cA 0, 5, .inl (fun _ => 0))), (q14, .inl (cA 1, 40, .inl (fun _ => 0)))] := hD
  have hP := hP.sub (ws' := [(h0, .inr (7, [.int 0, .int 0, .int 0, .int 0, .int 0, .ref q6, .int 0, .int 0, .int 0, .ref q14, .null, .null, .int 0, .null, .null, .null, .null, .int 0, .null, .null, .null, .null, .null, .null, .null, .null, .int 0, .int 0, .int 0, .int 0, .int 0, .int 0, .null, .null, .null, .null, .int 0, .null, .int 0, .null, .null, .null, .null, .null])), (q6, .inl (cA 0, 5, .inl (fun _ => 0)))]) [0, 1] rfl
  have hD := hD.sub (ws' := [(h0, .inr (7, [.int 0, .int 0, .int 0, .int 0, .int 0, .ref q6, .int 0, .int 0, .int 0, .ref q14, .null, .null, .int 0, .null, .null, .null, .null, .int 0, .null, .null, .null, .null, .null, .null, .null, .null, .int 0, .int 0, .int 0, .int 0, .int 0, .int 0, .null, .null, .null, .null, .int 0, .null, .int 0, .null, .null, .null, .null, .null])), (q6, .inl (cA 0, 5, .inl (fun _ => 0)))]) [0, 1] (by decide) rfl
  refine lv_aload_n hx hb dX8_init_19 rfl (lv_at hl 0 rfl) ?_
  refine lv_bipush (v := 40) hx hb dX8_init_20 (by decide) ?_
  refine ka_newa (atype := .int) (ty := .int) (N' := 40) (n := 40) (a0 := (40, .inl (fun _ => 0))) hx hb (hts (.arrayClass .int) (by decide +kernel)) rfl hK hP hD hS hA 0 rfl (fun _ => rfl) (by decide) rfl (by decide) (Nat.le_of_ble_eq_true rfl) (Nat.le_of_ble_eq_true rfl) dX8_init_22 (fun q22 H hP hD hS => ?_)
  refine W.widen (k := 3) (n := 85) (by omega) (by omega) ?_
  have hP : va_P D vwCl [(h0, .inr (7, [.int 0, .int 0, .int 0, .int 0, .int 0, .ref q6, .int 0, .int 0, .int 0, .ref q14, .null, .null, .int 0, .null, .null, .null, .null, .int 0, .null, .null, .null, .null, .null, .null, .null, .null, .int 0, .int 0, .int 0, .int 0, .int 0, .int 0, .null, .null, .null, .null, .int 0, .null, .int 0, .null, .null, .null, .null, .null])), (q6, .inl (cA 0, 5, .inl (fun _ => 0))), (q22, .inl (cA 0, 40, .inl (fun _ => 0)))] H := hP
  have hD : va_D A [(h0, .inr (7, [.int 0, .int 0, .int 0, .int 0, .int 0, .ref q6, .int 0, .int 0, .int 0, .ref q14, .null, .null, .int 0, .null, .null, .null, .null, .int 0, .null, .null, .null, .null, .null, .null, .null, .null, .int 0, .int 0, .int 0, .int 0, .int 0, .int 0, .null, .null, .null, .null, .int 0, .null, .int 0, .null, .null, .null, .null, .null])), (q6, .inl (cA 0, 5, .inl (fun _ => 0))), (q22, .inl (cA 0, 40, .inl (fun _ => 0)))] := hD
  refine va_putF (D := D) (ci := 7) (v := .ref q22) (ty := (.array .int)) (C := RX8) (T := TX8) (N := 44) hx hb hts hin_X8 tyX8 tyX8_ok nmX8 hown hK hP hD hS 0 rfl rfl 10 (by decide) (w_RX8_17) (fun _ h9 => h9) rfl hin rfl (by decide +kernel) rfl rfl (Nat.le_of_ble_eq_true rfl) dX8_init_24 (fun H locs hP hD hS => ?_)
  have hP : va_P D vwCl [(h0, .inr (7, [.int 0, .int 0, .int 0, .int 0, .int 0, .ref q6, .int 0, .int 0, .int 0, .ref q14, .ref q22, .null, .int 0, .null, .null, .null, .null, .int 0, .null, .null, .null, .null, .null, .null, .null, .null, .int 0, .int 0, .int 0, .int 0, .int 0, .int 0, .null, .null, .null, .null, .int 0, .null, .int 0, .null, .null, .null, .null, .null])), (q6, .inl (cA 0, 5, .inl (fun _ => 0))), (q22, .inl (cA 0, 40, .inl (fun _ => 0)))] H := hP
  have hD : va_D A [(h0, .inr (7, [.int 0, .int 0, .int 0, .int 0, .int 0, .ref q6, .int 0, .int 0, .int 0, .ref q14, .ref q22, .null, .int 0, .null, .null, .null, .null, .int 0, .null, .null, .null, .null, .null, .null, .null, .null, .int 0, .int 0, .int 0, .int 0, .int 0, .int 0, .null, .null, .null, .null, .int 0, .null, .int 0, .null, .null, .null, .null, .null])), (q6, .inl (cA 0, 5, .inl (fun _ => 0))), (q22, .inl (cA 0, 40, .inl (fun _ => 0)))] := hD
  have hP := hP.sub (ws' := [(h0, .inr (7, [.int 0, .int 0, .int 0, .int 0, .int 0, .ref q6, .int 0, .int 0, .int 0, .ref q14, .ref q22, .null, .int 0, .null, .null, .null, .null, .int 0, .null, .null, .null, .null, .null, .null, .null, .null, .int 0, .int 0, .int 0, .int 0, .int 0, .int 0, .null, .null, .null, .null, .int 0, .null, .int 0, .null, .null, .null, .null, .null])), (q6, .inl (cA 0, 5, .inl (fun _ => 0)))]) [0, 1] rfl
  have hD := hD.sub (ws' := [(h0, .inr (7, [.int 0, .int 0, .int 0, .int 0, .int 0, .ref q6, .int 0, .int 0, .int 0, .ref q14, .ref q22, .null, .int 0, .null, .null, .null, .null, .int 0, .null, .null, .null, .null, .null, .null, .null, .null, .int 0, .int 0, .int 0, .int 0, .int 0, .int 0, .null, .null, .null, .null, .int 0, .null, .int 0, .null, .null, .null, .null, .null])), (q6, .inl (cA 0, 5, .inl (fun _ => 0)))]) [0, 1] (by decide) rfl
  refine lv_aload_n hx hb dX8_init_27 rfl (lv_at hl 0 rfl) ?_
  refine lv_bipush (v := 40) hx hb dX8_init_28 (by decide) ?_
  refine ka_newa (atype := .int) (ty := .int) (N' := 40) (n := 40) (a0 := (40, .inl (fun _ => 0))) hx hb (hts (.arrayClass .int) (by decide +kernel)) rfl hK hP hD hS hA 0 rfl (fun _ => rfl) (by decide) rfl (by decide) (Nat.le_of_ble_eq_true rfl) (Nat.le_of_ble_eq_true rfl) dX8_init_30 (fun q30 H hP hD hS => ?_)
  refine W.widen (k := 4) (n := 125) (by omega) (by omega) ?_
  have hP : va_P D vwCl [(h0, .inr (7, [.int 0, .int 0, .int 0, .int 0, .int 0, .ref q6, .int 0, .int 0, .int 0, .ref q14, .ref q22, .null, .int 0, .null, .null, .null, .null, .int 0, .null, .null, .null, .null, .null, .null, .null, .null, .int 0, .int 0, .int 0, .int 0, .int 0, .int 0, .null, .null, .null, .null, .int 0, .null, .int 0, .null, .null, .null, .null, .null])), (q6, .inl (cA 0, 5, .inl (fun _ => 0))), (q30, .inl (cA 0, 40, .inl (fun _ => 0)))] H := hP
  have hD : va_D A [(h0, .inr (7, [.int 0, .int 0, .int 0, .int 0, .int 0, .ref q6, .int 0, .int 0, .int 0, .ref q14, .ref q22, .null, .int 0, .null, .null, .null, .null, .int 0, .null, .null, .null, .null, .null, .null, .null, .null, .int 0, .int 0, .int 0, .int 0, .int 0, .int 0, .null, .null, .null, .null, .int 0, .null, .int 0, .null, .null, .null, .null, .null])), (q6, .inl (cA 0, 5, .inl (fun _ => 0))), (q30, .inl (cA 0, 40, .inl (fun _ => 0)))] := hD
  refine va_putF (D := D) (ci := 7) (v := .ref q30) (ty := (.array .int)) (C := RX8) (T := TX8) (N := 44) hx hb hts hin_X8 tyX8 tyX8_ok nmX8 hown hK hP hD hS 0 rfl rfl 11 (by decide) (w_RX8_20) (fun _ h9 => h9) rfl hin rfl (by decide +kernel) rfl rfl (Nat.le_of_ble_eq_true rfl) dX8_init_32 (fun H locs hP hD hS => ?_)
  have hP : va_P D vwCl [(h0, .inr (7, [.int 0, .int 0, .int 0, .int 0, .int 0, .ref q6, .int 0, .int 0, .int 0, .ref q14, .ref q22, .ref q30, .int 0, .null, .null, .null, .null, .int 0, .null, .null, .null, .null, .null, .null, .null, .null, .int 0, .int 0, .int 0, .int 0, .int 0, .int 0, .null, .null, .null, .null, .int 0, .null, .int 0, .null, .null, .null, .null, .null])), (q6, .inl (cA 0, 5, .inl (fun _ => 0))), (q30, .inl (cA 0, 40, .inl (fun _ => 0)))] H := hP
  have hD : va_D A [(h0, .inr (7, [.int 0, .int 0, .int 0, .int 0, .int 0, .ref q6, .int 0, .int 0, .int 0, .ref q14, .ref q22, .ref q30, .int 0, .null, .null, .null, .null, .int 0, .null, .null, .null, .null, .null, .null, .null, .null, .int 0, .int 0, .int 0, .int 0, .int 0, .int 0, .null, .null, .null, .null, .int 0, .null, .int 0, .null, .null, .null, .null, .null])), (q6, .inl (cA 0, 5, .inl (fun _ => 0))), (q30, .inl (cA 0, 40, .inl (fun _ => 0)))] := hD
  have hP := hP.sub (ws' := [(h0, .inr (7, [.int 0, .int 0, .int 0, .int 0, .int 0, .ref q6, .int 0, .int 0, .int 0, .ref q14, .ref q22, .ref q30, .int 0, .null, .null, .null, .null, .int 0, .null, .null, .null, .null, .null, .null, .null, .null, .int 0, .int 0, .int 0, .int 0, .int 0, .int 0, .null, .null, .null, .null, .int 0, .null, .int 0, .null, .null, .null, .null, .null])), (q6, .inl (cA 0, 5, .inl (fun _ => 0)))]) [0, 1] rfl
  have hD := hD.sub (ws' := [(h0, .inr (7, [.int 0, .int 0, .int 0, .int 0, .int 0, .ref q6, .int 0, .int 0, .int 0, .ref q14, .ref q22, .ref q30, .int 0, .null, .null, .null, .null, .int 0, .null, .null, .null, .null, .null, .null, .null, .null, .int 0, .int 0, .int 0, .int 0, .int 0, .int 0, .null, .null, .null, .null, .int 0, .null, .int 0, .null, .null, .null, .null, .null])), (q6, .inl (cA 0, 5, .inl (fun _ => 0)))]) [0, 1] (by decide) rfl
  refine lv_aload_n hx hb dX8_init_35 rfl (lv_at hl 0 rfl) ?_
  refine lv_sipush (v := 200) hx hb dX8_init_36 (by decide) ?_
  refine ka_newa (atype := .int) (ty := .int) (N' := 200) (n := 200) (a0 := (200, .inl (fun _ => 0))) hx hb (hts (.arrayClass .int) (by decide +kernel)) rfl hK hP hD hS hA 0 rfl (fun _ => rfl) (by decide) rfl (by decide) (Nat.le_of_ble_eq_true rfl) (Nat.le_of_ble_eq_true rfl) dX8_init_39 (fun q39 H hP hD hS => ?_)
  refine W.widen (k := 5) (n := 325) (by omega) (by omega) ?_
  have hP : va_P D vwCl [(h0, .inr (7, [.int 0, .int 0, .int 0, .int 0, .int 0, .ref q6, .int 0, .int 0, .int 0, .ref q14, .ref q22, .ref q30, .int 0, .null, .null, .null, .null, .int 0, .null, .null, .null, .null, .null, .null, .null, .null, .int 0, .int 0, .int 0, .int 0, .int 0, .int 0, .null, .null, .null, .null, .int 0, .null, .int 0, .null, .null, .null, .null, .null])), (q6, .inl (cA 0, 5, .inl (fun _ => 0))), (q39, .inl (cA 0, 200, .inl (fun _ => 0)))] H := hP
  have hD : va_D A [(h0, .inr (7, [.int 0, .int 0, .int 0, .int 0, .int 0, .ref q6, .int 0, .int 0, .int 0, .ref q14, .ref q22, .ref q30, .int 0, .null, .null, .null, .null, .int 0, .null, .null, .null, .null, .null, .null, .null, .null, .int 0, .int 0, .int 0, .int 0, .int 0, .int 0, .null, .null, .null, .null, .int 0, .null, .int 0, .null, .null, .null, .null, .null])), (q6, .inl (cA 0, 5, .inl (fun _ => 0))), (q39, .inl (cA 0, 200, .inl (fun _ => 0)))] := hD
  refine va_putF (D := D) (ci := 7) (v := .ref q39) (ty := (.array .int)) (C := RX8) (T := TX8) (N := 44) hx hb hts hin_X8 tyX8 tyX8_ok nmX8 hown hK hP hD hS 0 rfl rfl 13 (by decide) (w_RX8_23) (fun _ h9 => h9) rfl hin rfl (by decide +kernel) rfl rfl (Nat.le_of_ble_eq_true rfl) dX8_init_41 (fun H locs hP hD hS => ?_)
  have hP : va_P D vwCl [(h0, .inr (7, [.int 0, .int 0, .int 0, .int 0, .int 0, .ref q6, .int 0, .int 0, .int 0, .ref q14, .ref q22, .ref q30, .int 0, .ref q39, .null, .null, .null, .int 0, .null, .null, .null, .null, .null, .null, .null, .null, .int 0, .int 0, .int 0, .int 0, .int 0, .int 0, .null, .null, .null, .null, .int 0, .null, .int 0, .null, .null, .null, .null, .null])), (q6, .inl (cA 0, 5, .inl (fun _ => 0))), (q39, .inl (cA 0, 200, .inl (fun _ => 0)))] H := hP
  have hD : va_D A [(h0, .inr (7, [.int 0, .int 0, .int 0, .int 0, .int 0, .ref q6, .int 0, .int 0, .int 0, .ref q14, .ref q22, .ref q30, .int 0, .ref q39, .null, .null, .null, .int 0, .null, .null, .null, .null, .null, .null, .null, .null, .int 0, .int 0, .int 0, .int 0, .int 0, .int 0, .null, .null, .null, .null, .int 0, .null, .int 0, .null, .null, .null, .null, .null])), (q6, .inl (cA 0, 5, .inl (fun _ => 0))), (q39, .inl (cA 0, 200, .inl (fun _ => 0)))] := hD
  have hP := hP.sub (ws' := [(h0, .inr (7, [.int 0, .int 0, .int 0, .int 0, .int 0, .ref q6, .int 0, .int 0, .int 0, .ref q14, .ref q22, .ref q30, .int 0, .ref q39, .null, .null, .null, .int 0, .null, .null, .null, .null, .null, .null, .null, .null, .int 0, .int 0, .int 0, .int 0, .int 0, .int 0, .null, .null, .null, .null, .int 0, .null, .int 0, .null, .null, .null, .null, .null])), (q6, .inl (cA 0, 5, .inl (fun _ => 0)))]) [0, 1] rfl
  have hD := hD.sub (ws' := [(h0, .inr (7, [.int 0, .int 0, .int 0, .int 0, .int 0, .ref q6, .int 0, .int 0, .int 0, .ref q14, .ref q22, .ref q30, .int 0, .ref q39, .null, .null, .null, .int 0, .null, .null, .null, .null, .null, .null, .null, .null, .int 0, .int 0, .int 0, .int 0, .int 0, .int 0, .null, .null, .null, .null, .int 0, .null, .int 0, .null, .null, .null, .null, .null])), (q6, .inl (cA 0, 5, .inl (fun _ => 0)))]) [0, 1] (by decide) rfl
  refine lv_aload_n hx hb dX8_init_44 rfl (lv_at hl 0 rfl) ?_
  refine lv_sipush (v := 200) hx hb dX8_init_45 (by decide) ?_
  refine ka_newa (atype := .int) (ty := .int) (N' := 200) (n := 200) (a0 := (200, .inl (fun _ => 0))) hx hb (hts (.arrayClass .int) (by decide +kernel)) rfl hK hP hD hS hA 0 rfl (fun _ => rfl) (by decide) rfl (by decide) (Nat.le_of_ble_eq_true rfl) (Nat.le_of_ble_eq_true rfl) dX8_init_48 (fun q48 H hP hD hS => ?_)
  refine W.widen (k := 6) (n := 525) (by omega) (by omega) ?_
  have hP : va_P D vwCl [(h0, .inr (7, [.int 0, .int 0, .int 0, .int 0, .int 0, .ref q6, .int 0, .int 0, .int 0, .ref q14, .ref q22, .ref q30, .int 0, .ref q39, .null, .null, .null, .int 0, .null, .null, .null, .null, .null, .null, .null, .null, .int 0, .int 0, .int 0, .int 0, .int 0, .int 0, .null, .null, .null, .null, .int 0, .null, .int 0, .null, .null, .null, .null, .null])), (q6, .inl (cA 0, 5, .inl (fun _ => 0))), (q48, .inl (cA 0, 200, .inl (fun _ => 0)))] H := hP
  have hD : va_D A [(h0, .inr (7, [.int 0, .int 0, .int 0, .int 0, .int 0, .ref q6, .int 0, .int 0, .int 0, .ref q14, .ref q22, .ref q30, .int 0, .ref q39, .null, .null, .null, .int 0, .null, .null, .null, .null, .null, .null, .null, .null, .int 0, .int 0, .int 0, .int 0, .int 0, .int 0, .null, .null, .null, .null, .int 0, .null, .int 0, .null, .null, .null, .null, .null])), (q6, .inl (cA 0, 5, .inl (fun _ => 0))), (q48, .inl (cA 0, 200, .inl (fun _ => 0)))] := hD
  refine va_putF (D := D) (ci := 7) (v := .ref q48) (ty := (.array .int)) (C := RX8) (T := TX8) (N := 44) hx hb hts hin_X8 tyX8 tyX8_ok nmX8 hown hK hP hD hS 0 rfl rfl 14 (by decide) (w_RX8_26) (fun _ h9 => h9) rfl hin rfl (by decide +kernel) rfl rfl (Nat.le_of_ble_eq_true rfl) dX8_init_50 (fun H locs hP hD hS => ?_)
  have hP : va_P D vwCl [(h0, .inr (7, [.int 0, .int 0, .int 0, .int 0, .int 0, .ref q6, .int 0, .int 0, .int 0, .ref q14, .ref q22, .ref q30, .int 0, .ref q39, .ref q48, .null, .null, .int 0, .null, .null, .null, .null, .null, .null, .null, .null, .int 0, .int 0, .int 0, .int 0, .int 0, .int 0, .null, .null, .null, .null, .int 0, .null, .int 0, .null, .null, .null, .null, .null])), (q6, .inl (cA 0, 5, .inl (fun _ => 0))), (q48, .inl (cA 0, 200, .inl (fun _ => 0)))] H := hP
  have hD : va_D A [(h0, .inr (7, [.int 0, .int 0, .int 0, .int 0, .int 0, .ref q6, .int 0, .int 0, .int 0, .ref q14, .ref q22, .ref q30, .int 0, .ref q39, .ref q48, .null, .null, .int 0, .null, .null, .null, .null, .null, .null, .null, .null, .int 0, .int 0, .int 0, .int 0, .int 0, .int 0, .null, .null, .null, .null, .int 0, .null, .int 0, .null, .null, .null, .null, .null])), (q6, .inl (cA 0, 5, .inl (fun _ => 0))), (q48, .inl (cA 0, 200, .inl (fun _ => 0)))] := hD
  have hP := hP.sub (ws' := [(h0, .inr (7, [.int 0, .int 0, .int 0, .int 0, .int 0, .ref q6, .int 0, .int 0, .int 0, .ref q14, .ref q22, .ref q30, .int 0, .ref q39, .ref q48, .null, .null, .int 0, .null, .null, .null, .null, .null, .null, .null, .null, .int 0, .int 0, .int 0, .int 0, .int 0, .int 0, .null, .null, .null, .null, .int 0, .null, .int 0, .null, .null, .null, .null, .null])), (q6, .inl (cA 0, 5, .inl (fun _ => 0)))]) [0, 1] rfl
  have hD := hD.sub (ws' := [(h0, .inr (7, [.int 0, .int 0, .int 0, .int 0, .int 0, .ref q6, .int 0, .int 0, .int 0, .ref q14, .ref q22, .ref q30, .int 0, .ref q39, .ref q48, .null, .null, .int 0, .null, .null, .null, .null, .null, .null, .null, .null, .int 0, .int 0, .int 0, .int 0, .int 0, .int 0, .null, .null, .null, .null, .int 0, .null, .int 0, .null, .null, .null, .null, .null])), (q6, .inl (cA 0, 5, .inl (fun _ => 0)))]) [0, 1] (by decide) rfl
  refine lv_aload_n hx hb dX8_init_53 rfl (lv_at hl 0 rfl) ?_
  refine lv_bipush (v := 40) hx hb dX8_init_54 (by decide) ?_
  refine ka_newa (atype := .int) (ty := .int) (N' := 40) (n := 40) (a0 := (40, .inl (fun _ => 0))) hx hb (hts (.arrayClass .int) (by decide +kernel)) rfl hK hP hD hS hA 0 rfl (fun _ => rfl) (by decide) rfl (by decide) (Nat.le_of_ble_eq_true rfl) (Nat.le_of_ble_eq_true rfl) dX8_init_56 (fun q56 H hP hD hS => ?_)
  refine W.widen (k := 7) (n := 565) (by omega) (by omega) ?_
  have hP : va_P D vwCl [(h0, .inr (7, [.int 0, .int 0, .int 0, .int 0, .int 0, .ref q6, .int 0, .int 0, .int 0, .ref q14, .ref q22, .ref q30, .int 0, .ref q39, .ref q48, .null, .null, .int 0, .null, .null, .null, .null, .null, .null, .null, .null, .int 0, .int 0, .int 0, .int 0, .int 0, .int 0, .null, .null, .null, .null, .int 0, .null, .int 0, .null, .null, .null, .null, .null])), (q6, .inl (cA 0, 5, .inl (fun _ => 0))), (q56, .inl (cA 0, 40, .inl (fun _ => 0)))] H := hP
  have hD : va_D A [(h0, .inr (7, [.int 0, .int 0, .int 0, .int 0, .int 0, .ref q6, .int 0, .int 0, .int 0, .ref q14, .ref q22, .ref q30, .int 0, .ref q39, .ref q48, .null, .null, .int 0, .null, .null, .null, .null, .null, .null, .null, .null, .int 0, .int 0, .int 0, .int 0, .int 0, .int 0, .null, .null, .null, .null, .int 0, .null, .int 0, .null, .null, .null, .null, .null])), (q6, .inl (cA 0, 5, .inl (fun _ => 0))), (q56, .inl (cA 0, 40, .inl (fun _ => 0)))] := hD
  refine va_putF (D := D) (ci := 7) (v := .ref q56) (ty := (.array .int)) (C := RX8) (T := TX8) (N := 44) hx hb hts hin_X8 tyX8 tyX8_ok nmX8 hown hK hP hD hS 0 rfl rfl 15 (by decide) (w_RX8_29) (fun _ h9 => h9) rfl hin rfl (by decide +kernel) rfl rfl (Nat.le_of_ble_eq_true rfl) dX8_init_58 (fun H locs hP hD hS => ?_)
  have hP : va_P D vwCl [(h0, .inr (7, [.int 0, .int 0, .int 0, .int 0, .int 0, .ref q6, .int 0, .int 0, .int 0, .ref q14, .ref q22, .ref q30, .int 0, .ref q39, .ref q48, .ref q56, .null, .int 0, .null, .null, .null, .null, .null, .null, .null, .null, .int 0, .int 0, .int 0, .int 0, .int 0, .int 0, .null, .null, .null, .null, .int 0, .null, .int 0, .null, .null, .null, .null, .null])), (q6, .inl (cA 0, 5, .inl (fun _ => 0))), (q56, .inl (cA 0, 40, .inl (fun _ => 0)))] H := hP
  have hD : va_D A [(h0, .inr (7, [.int 0, .int 0, .int 0, .int 0, .int 0, .ref q6, .int 0, .int 0, .int 0, .ref q14, .ref q22, .ref q30, .int 0, .ref q39, .ref q48, .ref q56, .null, .int 0, .null, .null, .null, .null, .null, .null, .null, .null, .int 0, .int 0, .int 0, .int 0, .int 0, .int 0, .null, .null, .null, .null, .int 0, .null, .int 0, .null, .null, .null, .null, .null])), (q6, .inl (cA 0, 5, .inl (fun _ => 0))), (q56, .inl (cA 0, 40, .inl (fun _ => 0)))] := hD
  have hP := hP.sub (ws' := [(h0, .inr (7, [.int 0, .int 0, .int 0, .int 0, .int 0, .ref q6, .int 0, .int 0, .int 0, .ref q14, .ref q22, .ref q30, .int 0, .ref q39, .ref q48, .ref q56, .null, .int 0, .null, .null, .null, .null, .null, .null, .null, .null, .int 0, .int 0, .int 0, .int 0, .int 0, .int 0, .null, .null, .null, .null, .int 0, .null, .int 0, .null, .null, .null, .null, .null])), (q6, .inl (cA 0, 5, .inl (fun _ => 0)))]) [0, 1] rfl
  have hD := hD.sub (ws' := [(h0, .inr (7, [.int 0, .int 0, .int 0, .int 0, .int 0, .ref q6, .int 0, .int 0, .int 0, .ref q14, .ref q22, .ref q30, .int 0, .ref q39, .ref q48, .ref q56, .null, .int 0, .null, .null, .null, .null, .null, .null, .null, .null, .int 0, .int 0, .int 0, .int 0, .int 0, .int 0, .null, .null, .null, .null, .int 0, .null, .int 0, .null, .null, .null, .null, .null])), (q6, .inl (cA 0, 5, .inl (fun _ => 0)))]) [0, 1] (by decide) rfl
  refine lv_aload_n hx hb dX8_init_61 rfl (lv_at hl 0 rfl) ?_
  refine lv_bipush (v := 40) hx hb dX8_init_62 (by decide) ?_
  refine ka_newa (atype := .int) (ty := .int) (N' := 40) (n := 40) (a0 := (40, .inl (fun _ => 0))) hx hb (hts (.arrayClass .int) (by decide +kernel)) rfl hK hP hD hS hA 0 rfl (fun _ => rfl) (by decide) rfl (by decide) (Nat.le_of_ble_eq_true rfl) (Nat.le_of_ble_eq_true rfl) dX8_init_64 (fun q64 H hP hD hS => ?_)
  refine W.widen (k := 8) (n := 605) (by omega) (by omega) ?_
  have hP : va_P D vwCl [(h0, .inr (7, [.int 0, .int 0, .int 0, .int 0, .int 0, .ref q6, .int 0, .int 0, .int 0, .ref q14, .ref q22, .ref q30, .int 0, .ref q39, .ref q48, .ref q56, .null, .int 0, .null, .null, .null, .null, .null, .null, .null, .null, .int 0, .int 0, .int 0, .int 0, .int 0, .int 0, .null, .null, .null, .null, .int 0, .null, .int 0, .null, .null, .null, .null, .null])), (q6, .inl (cA 0, 5, .inl (fun _ => 0))), (q64, .inl (cA 0, 40, .inl (fun _ => 0)))] H := hP
  have hD : va_D A [(h0, .inr (7, [.int 0, .int 0, .int 0, .int 0, .int 0, .ref q6, .int 0, .int 0, .int 0, .ref q14, .ref q22, .ref q30, .int 0, .ref q39, .ref q48, .ref q56, .null, .int 0, .null, .null, .null, .null, .null, .null, .null, .null, .int 0, .int 0, .int 0, .int 0, .int 0, .int 0, .null, .null, .null, .null, .int 0, .null, .int 0, .null, .null, .null, .null, .null])), (q6, .inl (cA 0, 5, .inl (fun _ => 0))), (q64, .inl (cA 0, 40, .inl (fun _ => 0)))] := hD
  refine va_putF (D := D) (ci := 7) (v := .ref q64) (ty := (.array .int)) (C := RX8) (T := TX8) (N := 44) hx hb hts hin_X8 tyX8 tyX8_ok nmX8 hown hK hP hD hS 0 rfl rfl 16 (by decide) (w_RX8_32) (fun _ h9 => h9) rfl hin rfl (by decide +kernel) rfl rfl (Nat.le_of_ble_eq_true rfl) dX8_init_66 (fun H locs hP hD hS => ?_)
  have hP : va_P D vwCl [(h0, .inr (7, [.int 0, .int 0, .int 0, .int 0, .int 0, .ref q6, .int 0, .int 0, .int 0, .ref q14, .ref q22, .ref q30, .int 0, .ref q39, .ref q48, .ref q56, .ref q64, .int 0, .null, .null, .null, .null, .null, .null, .null, .null, .int 0, .int 0, .int 0, .int 0, .int 0, .int 0, .null, .null, .null, .null, .int 0, .null, .int 0, .null, .null, .null, .null, .null])), (q6, .inl (cA 0, 5, .inl (fun _ => 0))), (q64, .inl (cA 0, 40, .inl (fun _ => 0)))] H := hP
  have hD : va_D A [(h0, .inr (7, [.int 0, .int 0, .int 0, .int 0, .int 0, .ref q6, .int 0, .int 0, .int 0, .ref q14, .ref q22, .ref q30, .int 0, .ref q39, .ref q48, .ref q56, .ref q64, .int 0, .null, .null, .null, .null, .null, .null, .null, .null, .int 0, .int 0, .int 0, .int 0, .int 0, .int 0, .null, .null, .null, .null, .int 0, .null, .int 0, .null, .null, .null, .null, .null])), (q6, .inl (cA 0, 5, .inl (fun _ => 0))), (q64, .inl (cA 0, 40, .inl (fun _ => 0)))] := hD
  have hP := hP.sub (ws' := [(h0, .inr (7, [.int 0, .int 0, .int 0, .int 0, .int 0, .ref q6, .int 0, .int 0, .int 0, .ref q14, .ref q22, .ref q30, .int 0, .ref q39, .ref q48, .ref q56, .ref q64, .int 0, .null, .null, .null, .null, .null, .null, .null, .null, .int 0, .int 0, .int 0, .int 0, .int 0, .int 0, .null, .null, .null, .null, .int 0, .null, .int 0, .null, .null, .null, .null, .null])), (q6, .inl (cA 0, 5, .inl (fun _ => 0)))]) [0, 1] rfl
  have hD := hD.sub (ws' := [(h0, .inr (7, [.int 0, .int 0, .int 0, .int 0, .int 0, .ref q6, .int 0, .int 0, .int 0, .ref q14, .ref q22, .ref q30, .int 0, .ref q39, .ref q48, .ref q56, .ref q64, .int 0, .null, .null, .null, .null, .null, .null, .null, .null, .int 0, .int 0, .int 0, .int 0, .int 0, .int 0, .null, .null, .null, .null, .int 0, .null, .int 0, .null, .null, .null, .null, .null])), (q6, .inl (cA 0, 5, .inl (fun _ => 0)))]) [0, 1] (by decide) rfl
  refine lv_aload_n hx hb dX8_init_69 rfl (lv_at hl 0 rfl) ?_
  refine lv_bipush (v := 40) hx hb dX8_init_70 (by decide) ?_
  refine ka_newa (atype := .int) (ty := .int) (N' := 40) (n := 40) (a0 := (40, .inl (fun _ => 0))) hx hb (hts (.arrayClass .int) (by decide +kernel)) rfl hK hP hD hS hA 0 rfl (fun _ => rfl) (by decide) rfl (by decide) (Nat.le_of_ble_eq_true rfl) (Nat.le_of_ble_eq_true rfl) dX8_init_72 (fun q72 H hP hD hS => ?_)
  refine W.widen (k := 9) (n := 645) (by omega) (by omega) ?_
  have hP : va_P D vwCl [(h0, .inr (7, [.int 0, .int 0, .int 0, .int 0, .int 0, .ref q6, .int 0, .int 0, .int 0, .ref q14, .ref q22, .ref q30, .int 0, .ref q39, .ref q48, .ref q56, .ref q64, .int 0, .null, .null, .null, .null, .null, .null, .null, .null, .int 0, .int 0, .int 0, .int 0, .int 0, .int 0, .null, .null, .null, .null, .int 0, .null, .int 0, .null, .null, .null, .null, .null])), (q6, .inl (cA 0, 5, .inl (fun _ => 0))), (q72, .inl (cA 0, 40, .inl (fun _ => 0)))] H := hP
  have hD : va_D A [(h0, .inr (7, [.int 0, .int 0, .int 0, .int 0, .int 0, .ref q6, .int 0, .int 0, .int 0, .ref q14, .ref q22, .ref q30, .int 0, .ref q39, .ref q48, .ref q56, .ref q64, .int 0, .null, .null, .null, .null, .null, .null, .null, .null, .int 0, .int 0, .int 0, .int 0, .int 0, .int 0, .null, .null, .null, .null, .int 0, .null, .int 0, .null, .null, .null, .null, .null])), (q6, .inl (cA 0, 5, .inl (fun _ => 0))), (q72, .inl (cA 0, 40, .inl (fun _ => 0)))] := hD
  refine va_putF (D := D) (ci := 7) (v := .ref q72) (ty := (.array .int)) (C := RX8) (T := TX8) (N := 44) hx hb hts hin_X8 tyX8 tyX8_ok nmX8 hown hK hP hD hS 0 rfl rfl 18 (by decide) (w_RX8_35) (fun _ h9 => h9) rfl hin rfl (by decide +kernel) rfl rfl (Nat.le_of_ble_eq_true rfl) dX8_init_74 (fun H locs hP hD hS => ?_)
  have hP : va_P D vwCl [(h0, .inr (7, [.int 0, .int 0, .int 0, .int 0, .int 0, .ref q6, .int 0, .int 0, .int 0, .ref q14, .ref q22, .ref q30, .int 0, .ref q39, .ref q48, .ref q56, .ref q64, .int 0, .ref q72, .null, .null, .null, .null, .null, .null, .null, .int 0, .int 0, .int 0, .int 0, .int 0, .int 0, .null, .null, .null, .null, .int 0, .null, .int 0, .null, .null, .null, .null, .null])), (q6, .inl (cA 0, 5, .inl (fun _ => 0))), (q72, .inl (cA 0, 40, .inl (fun _ => 0)))] H := hP
  have hD : va_D A [(h0, .inr (7, [.int 0, .int 0, .int 0, .int 0, .int 0, .ref q6, .int 0, .int 0, .int 0, .ref q14, .ref q22, .ref q30, .int 0, .ref q39, .ref q48, .ref q56, .ref q64, .int 0, .ref q72, .null, .null, .null, .null, .null, .null, .null, .int 0, .int 0, .int 0, .int 0, .int 0, .int 0, .null, .null, .null, .null, .int 0, .null, .int 0, .null, .null, .null, .null, .null])), (q6, .inl (cA 0, 5, .inl (fun _ => 0))), (q72, .inl (cA 0, 40, .inl (fun _ => 0)))] := hD
  refine lv_aload_n hx hb dX8_init_77 rfl (lv_at hl 0 rfl) ?_
  refine lv_bipush (v := 40) hx hb dX8_init_78 (by decide) ?_
  refine ka_newa (atype := .int) (ty := .int) (N' := 40) (n := 40) (a0 := (40, .inl (fun _ => 0))) hx hb (hts (.arrayClass .int) (by decide +kernel)) rfl hK hP hD hS hA 0 rfl (fun _ => rfl) (by decide) rfl (by decide) (Nat.le_of_ble_eq_true rfl) (Nat.le_of_ble_eq_true rfl) dX8_init_80 (fun q80 H hP hD hS => ?_)
  refine W.widen (k := 10) (n := 685) (by omega) (by omega) ?_
  have hP : va_P D vwCl [(h0, .inr (7, [.int 0, .int 0, .int 0, .int 0, .int 0, .ref q6, .int 0, .int 0, .int 0, .ref q14, .ref q22, .ref q30, .int 0, .ref q39, .ref q48, .ref q56, .ref q64, .int 0, .ref q72, .null, .null, .null, .null, .null, .null, .null, .int 0, .int 0, .int 0, .int 0, .int 0, .int 0, .null, .null, .null, .null, .int 0, .null, .int 0, .null, .null, .null, .null, .null])), (q6, .inl (cA 0, 5, .inl (fun _ => 0))), (q72, .inl (cA 0, 40, .inl (fun _ => 0))), (q80, .inl (cA 0, 40, .inl (fun _ => 0)))] H := hP
  have hD : va_D A [(h0, .inr (7, [.int 0, .int 0, .int 0, .int 0, .int 0, .ref q6, .int 0, .int 0, .int 0, .ref q14, .ref q22, .ref q30, .int 0, .ref q39, .ref q48, .ref q56, .ref q64, .int 0, .ref q72, .null, .null, .null, .null, .null, .null, .null, .int 0, .int 0, .int 0, .int 0, .int 0, .int 0, .null, .null, .null, .null, .int 0, .null, .int 0, .null, .null, .null, .null, .null])), (q6, .inl (cA 0, 5, .inl (fun _ => 0))), (q72, .inl (cA 0, 40, .inl (fun _ => 0))), (q80, .inl (cA 0, 40, .inl (fun _ => 0)))] := hD
  refine va_putF (D := D) (ci := 7) (v := .ref q80) (ty := (.array .int)) (C := RX8) (T := TX8) (N := 44) hx hb hts hin_X8 tyX8 tyX8_ok nmX8 hown hK hP hD hS 0 rfl rfl 19 (by decide) (w_RX8_38) (fun _ h9 => h9) rfl hin rfl (by decide +kernel) rfl rfl (Nat.le_of_ble_eq_true rfl) dX8_init_82 (fun H locs hP hD hS => ?_)
  have hP : va_P D vwCl [(h0, .inr (7, [.int 0, .int 0, .int 0, .int 0, .int 0, .ref q6, .int 0, .int 0, .int 0, .ref q14, .ref q22, .ref q30, .int 0, .ref q39, .ref q48, .ref q56, .ref q64, .int 0, .ref q72, .ref q80, .null, .null, .null, .null, .null, .null, .int 0, .int 0, .int 0, .int 0, .int 0, .int 0, .null, .null, .null, .null, .int 0, .null, .int 0, .null, .null, .null, .null, .null])), (q6, .inl (cA 0, 5, .inl (fun _ => 0))), (q72, .inl (cA 0, 40, .inl (fun _ => 0))), (q80, .inl (cA 0, 40, .inl (fun _ => 0)))] H := hP
  have hD : va_D A [(h0, .inr (7, [.int 0, .int 0, .int 0, .int 0, .int 0, .ref q6, .int 0, .int 0, .int 0, .ref q14, .ref q22, .ref q30, .int 0, .ref q39, .ref q48, .ref q56, .ref q64, .int 0, .ref q72, .ref q80, .null, .null, .null, .null, .null, .null, .int 0, .int 0, .int 0, .int 0, .int 0, .int 0, .null, .null, .null, .null, .int 0, .null, .int 0, .null, .null, .null, .null, .null])), (q6, .inl (cA 0, 5, .inl (fun _ => 0))), (q72, .inl (cA 0, 40, .inl (fun _ => 0))), (q80, .inl (cA 0, 40, .inl (fun _ => 0)))] := hD
  refine lv_aload_n hx hb dX8_init_85 rfl (lv_at hl 0 rfl) ?_
  refine lv_bipush (v := 40) hx hb dX8_init_86 (by decide) ?_
  refine ka_newa (atype := .int) (ty := .int) (N' := 40) (n := 40) (a0 := (40, .inl (fun _ => 0))) hx hb (hts (.arrayClass .int) (by decide +kernel)) rfl hK hP hD hS hA 0 rfl (fun _ => rfl) (by decide) rfl (by decide) (Nat.le_of_ble_eq_true rfl) (Nat.le_of_ble_eq_true rfl) dX8_init_88 (fun q88 H hP hD hS => ?_)
  refine W.widen (k := 11) (n := 725) (by omega) (by omega) ?_
  have hP : va_P D vwCl [(h0, .inr (7, [.int 0, .int 0, .int 0, .int 0, .int 0, .ref q6, .int 0, .int 0, .int 0, .ref q14, .ref q22, .ref q30, .int 0, .ref q39, .ref q48, .ref q56, .ref q64, .int 0, .ref q72, .ref q80, .null, .null, .null, .null, .null, .null, .int 0, .int 0, .int 0, .int 0, .int 0, .int 0, .null, .null, .null, .null, .int 0, .null, .int 0, .null, .null, .null, .null, .null])), (q6, .inl (cA 0, 5, .inl (fun _ => 0))), (q72, .inl (cA 0, 40, .inl (fun _ => 0))), (q80, .inl (cA 0, 40, .inl (fun _ => 0))), (q88, .inl (cA 0, 40, .inl (fun _ => 0)))] H := hP
  have hD : va_D A [(h0, .inr (7, [.int 0, .int 0, .int 0, .int 0, .int 0, .ref q6, .int 0, .int 0, .int 0, .ref q14, .ref q22, .ref q30, .int 0, .ref q39, .ref q48, .ref q56, .ref q64, .int 0, .ref q72, .ref q80, .null, .null, .null, .null, .null, .null, .int 0, .int 0, .int 0, .int 0, .int 0, .int 0, .null, .null, .null, .null, .int 0, .null, .int 0, .null, .null, .null, .null, .null])), (q6, .inl (cA 0, 5, .inl (fun _ => 0))), (q72, .inl (cA 0, 40, .inl (fun _ => 0))), (q80, .inl (cA 0, 40, .inl (fun _ => 0))), (q88, .inl (cA 0, 40, .inl (fun _ => 0)))] := hD
  refine va_putF (D := D) (ci := 7) (v := .ref q88) (ty := (.array .int)) (C := RX8) (T := TX8) (N := 44) hx hb hts hin_X8 tyX8 tyX8_ok nmX8 hown hK hP hD hS 0 rfl rfl 20 (by decide) (w_RX8_41) (fun _ h9 => h9) rfl hin rfl (by decide +kernel) rfl rfl (Nat.le_of_ble_eq_true rfl) dX8_init_90 (fun H locs hP hD hS => ?_)
  have hP : va_P D vwCl [(h0, .inr (7, [.int 0, .int 0, .int 0, .int 0, .int 0, .ref q6, .int 0, .int 0, .int 0, .ref q14, .ref q22, .ref q30, .int 0, .ref q39, .ref q48, .ref q56, .ref q64, .int 0, .ref q72, .ref q80, .ref q88, .null, .null, .null, .null, .null, .int 0, .int 0, .int 0, .int 0, .int 0, .int 0, .null, .null, .null, .null, .int 0, .null, .int 0, .null, .null, .null, .null, .null])), (q6, .inl (cA 0, 5, .inl (fun _ => 0))), (q72, .inl (cA 0, 40, .inl (fun _ => 0))), (q80, .inl (cA 0, 40, .inl (fun _ => 0))), (q88, .inl (cA 0, 40, .inl (fun _ => 0)))] H := hP
  have hD : va_D A [(h0, .inr (7, [.int 0, .int 0, .int 0, .int 0, .int 0, .ref q6, .int 0, .int 0, .int 0, .ref q14, .ref q22, .ref q30, .int 0, .ref q39, .ref q48, .ref q56, .ref q64, .int 0, .ref q72, .ref q80, .ref q88, .null, .null, .null, .null, .null, .int 0, .int 0, .int 0, .int 0, .int 0, .int 0, .null, .null, .null, .null, .int 0, .null, .int 0, .null, .null, .null, .null, .null])), (q6, .inl (cA 0, 5, .inl (fun _ => 0))), (q72, .inl (cA 0, 40, .inl (fun _ => 0))), (q80, .inl (cA 0, 40, .inl (fun _ => 0))), (q88, .inl (cA 0, 40, .inl (fun _ => 0)))] := hD
  refine lv_aload_n hx hb dX8_init_93 rfl (lv_at hl 0 rfl) ?_
  refine lv_bipush (v := 40) hx hb dX8_init_94 (by decide) ?_
  refine ka_newa (atype := .int) (ty := .int) (N' := 40) (n := 40) (a0 := (40, .inl (fun _ => 0))) hx hb (hts (.arrayClass .int) (by decide +kernel)) rfl hK hP hD hS hA 0 rfl (fun _ => rfl) (by decide) rfl (by decide) (Nat.le_of_ble_eq_true rfl) (Nat.le_of_ble_eq_true rfl) dX8_init_96 (fun q96 H hP hD hS => ?_)
  refine W.widen (k := 12) (n := 765) (by omega) (by omega) ?_
  have hP : va_P D vwCl [(h0, .inr (7, [.int 0, .int 0, .int 0, .int 0, .int 0, .ref q6, .int 0, .int 0, .int 0, .ref q14, .ref q22, .ref q30, .int 0, .ref q39, .ref q48, .ref q56, .ref q64, .int 0, .ref q72, .ref q80, .ref q88, .null, .null, .null, .null, .null, .int 0, .int 0, .int 0, .int 0, .int 0, .int 0, .null, .null, .null, .null, .int 0, .null, .int 0, .null, .null, .null, .null, .null])), (q6, .inl (cA 0, 5, .inl (fun _ => 0))), (q72, .inl (cA 0, 40, .inl (fun _ => 0))), (q80, .inl (cA 0, 40, .inl (fun _ => 0))), (q88, .inl (cA 0, 40, .inl (fun _ => 0))), (q96, .inl (cA 0, 40, .inl (fun _ => 0)))] H := hP
  have hD : va_D A [(h0, .inr (7, [.int 0, .int 0, .int 0, .int 0, .int 0, .ref q6, .int 0, .int 0, .int 0, .ref q14, .ref q22, .ref q30, .int 0, .ref q39, .ref q48, .ref q56, .ref q64, .int 0, .ref q72, .ref q80, .ref q88, .null, .null, .null, .null, .null, .int 0, .int 0, .int 0, .int 0, .int 0, .int 0, .null, .null, .null, .null, .int 0, .null, .int 0, .null, .null, .null, .null, .null])), (q6, .inl (cA 0, 5, .inl (fun _ => 0))), (q72, .inl (cA 0, 40, .inl (fun _ => 0))), (q80, .inl (cA 0, 40, .inl (fun _ => 0))), (q88, .inl (cA 0, 40, .inl (fun _ => 0))), (q96, .inl (cA 0, 40, .inl (fun _ => 0)))] := hD
  refine va_putF (D := D) (ci := 7) (v := .ref q96) (ty := (.array .int)) (C := RX8) (T := TX8) (N := 44) hx hb hts hin_X8 tyX8 tyX8_ok nmX8 hown hK hP hD hS 0 rfl rfl 21 (by decide) (w_RX8_44) (fun _ h9 => h9) rfl hin rfl (by decide +kernel) rfl rfl (Nat.le_of_ble_eq_true rfl) dX8_init_98 (fun H locs hP hD hS => ?_)
  have hP : va_P D vwCl [(h0, .inr (7, [.int 0, .int 0, .int 0, .int 0, .int 0, .ref q6, .int 0, .int 0, .int 0, .ref q14, .ref q22, .ref q30, .int 0, .ref q39, .ref q48, .ref q56, .ref q64, .int 0, .ref q72, .ref q80, .ref q88, .ref q96, .null, .null, .null, .null, .int 0, .int 0, .int 0, .int 0, .int 0, .int 0, .null, .null, .null, .null, .int 0, .null, .int 0, .null, .null, .null, .null, .null])), (q6, .inl (cA 0, 5, .inl (fun _ => 0))), (q72, .inl (cA 0, 40, .inl (fun _ => 0))), (q80, .inl (cA 0, 40, .inl (fun _ => 0))), (q88, .inl (cA 0, 40, .inl (fun _ => 0))), (q96, .inl (cA 0, 40, .inl (fun _ => 0)))] H := hP
  have hD : va_D A [(h0, .inr (7, [.int 0, .int 0, .int 0, .int 0, .int 0, .ref q6, .int 0, .int 0, .int 0, .ref q14, .ref q22, .ref q30, .int 0, .ref q39, .ref q48, .ref q56, .ref q64, .int 0, .ref q72, .ref q80, .ref q88, .ref q96, .null, .null, .null, .null, .int 0, .int 0, .int 0, .int 0, .int 0, .int 0, .null, .null, .null, .null, .int 0, .null, .int 0, .null, .null, .null, .null, .null])), (q6, .inl (cA 0, 5, .inl (fun _ => 0))), (q72, .inl (cA 0, 40, .inl (fun _ => 0))), (q80, .inl (cA 0, 40, .inl (fun _ => 0))), (q88, .inl (cA 0, 40, .inl (fun _ => 0))), (q96, .inl (cA 0, 40, .inl (fun _ => 0)))] := hD
  refine lv_aload_n hx hb dX8_init_101 rfl (lv_at hl 0 rfl) ?_
  refine lv_bipush (v := 40) hx hb dX8_init_102 (by decide) ?_
  refine ka_newa (atype := .int) (ty := .int) (N' := 40) (n := 40) (a0 := (40, .inl (fun _ => 0))) hx hb (hts (.arrayClass .int) (by decide +kernel)) rfl hK hP hD hS hA 0 rfl (fun _ => rfl) (by decide) rfl (by decide) (Nat.le_of_ble_eq_true rfl) (Nat.le_of_ble_eq_true rfl) dX8_init_104 (fun q104 H hP hD hS => ?_)
  refine W.widen (k := 13) (n := 805) (by omega) (by omega) ?_
  have hP : va_P D vwCl [(h0, .inr (7, [.int 0, .int 0, .int 0, .int 0, .int 0, .ref q6, .int 0, .int 0, .int 0, .ref q14, .ref q22, .ref q30, .int 0, .ref q39, .ref q48, .ref q56, .ref q64, .int 0, .ref q72, .ref q80, .ref q88, .ref q96, .null, .null, .null, .null, .int 0, .int 0, .int 0, .int 0, .int 0, .int 0, .null, .null, .null, .null, .int 0, .null, .int 0, .null, .null, .null, .null, .null])), (q6, .inl (cA 0, 5, .inl (fun _ => 0))), (q72, .inl (cA 0, 40, .inl (fun _ => 0))), (q80, .inl (cA 0, 40, .inl (fun _ => 0))), (q88, .inl (cA 0, 40, .inl (fun _ => 0))), (q96, .inl (cA 0, 40, .inl (fun _ => 0))), (q104, .inl (cA 0, 40, .inl (fun _ => 0)))] H := hP
  have hD : va_D A [(h0, .inr (7, [.int 0, .int 0, .int 0, .int 0, .int 0, .ref q6, .int 0, .int 0, .int 0, .ref q14, .ref q22, .ref q30, .int 0, .ref q39, .ref q48, .ref q56, .ref q64, .int 0, .ref q72, .ref q80, .ref q88, .ref q96, .null, .null, .null, .null, .int 0, .int 0, .int 0, .int 0, .int 0, .int 0, .null, .null, .null, .null, .int 0, .null, .int 0, .null, .null, .null, .null, .null])), (q6, .inl (cA 0, 5, .inl (fun _ => 0))), (q72, .inl (cA 0, 40, .inl (fun _ => 0))), (q80, .inl (cA 0, 40, .inl (fun _ => 0))), (q88, .inl (cA 0, 40, .inl (fun _ => 0))), (q96, .inl (cA 0, 40, .inl (fun _ => 0))), (q104, .inl (cA 0, 40, .inl (fun _ => 0)))] := hD
  refine va_putF (D := D) (ci := 7) (v := .ref q104) (ty := (.array .int)) (C := RX8) (T := TX8) (N := 44) hx hb hts hin_X8 tyX8 tyX8_ok nmX8 hown hK hP hD hS 0 rfl rfl 22 (by decide) (w_RX8_47) (fun _ h9 => h9) rfl hin rfl (by decide +kernel) rfl rfl (Nat.le_of_ble_eq_true rfl) dX8_init_106 (fun H locs hP hD hS => ?_)
  have hP : va_P D vwCl [(h0, .inr (7, [.int 0, .int 0, .int 0, .int 0, .int 0, .ref q6, .int 0, .int 0, .int 0, .ref q14, .ref q22, .ref q30, .int 0, .ref q39, .ref q48, .ref q56, .ref q64, .int 0, .ref q72, .ref q80, .ref q88, .ref q96, .ref q104, .null, .null, .null, .int 0, .int 0, .int 0, .int 0, .int 0, .int 0, .null, .null, .null, .null, .int 0, .null, .int 0, .null, .null, .null, .null, .null])), (q6, .inl (cA 0, 5, .inl (fun _ => 0))), (q72, .inl (cA 0, 40, .inl (fun _ => 0))), (q80, .inl (cA 0, 40, .inl (fun _ => 0))), (q88, .inl (cA 0, 40, .inl (fun _ => 0))), (q96, .inl (cA 0, 40, .inl (fun _ => 0))), (q104, .inl (cA 0, 40, .inl (fun _ => 0)))] H := hP
  have hD : va_D A [(h0, .inr (7, [.int 0, .int 0, .int 0, .int 0, .int 0, .ref q6, .int 0, .int 0, .int 0, .ref q14, .ref q22, .ref q30, .int 0, .ref q39, .ref q48, .ref q56, .ref q64, .int 0, .ref q72, .ref q80, .ref q88, .ref q96, .ref q104, .null, .null, .null, .int 0, .int 0, .int 0, .int 0, .int 0, .int 0, .null, .null, .null, .null, .int 0, .null, .int 0, .null, .null, .null, .null, .null])), (q6, .inl (cA 0, 5, .inl (fun _ => 0))), (q72, .inl (cA 0, 40, .inl (fun _ => 0))), (q80, .inl (cA 0, 40, .inl (fun _ => 0))), (q88, .inl (cA 0, 40, .inl (fun _ => 0))), (q96, .inl (cA 0, 40, .inl (fun _ => 0))), (q104, .inl (cA 0, 40, .inl (fun _ => 0)))] := hD
  have hP := hP.sub (ws' := [(h0, .inr (7, [.int 0, .int 0, .int 0, .int 0, .int 0, .ref q6, .int 0, .int 0, .int 0, .ref q14, .ref q22, .ref q30, .int 0, .ref q39, .ref q48, .ref q56, .ref q64, .int 0, .ref q72, .ref q80, .ref q88, .ref q96, .ref q104, .null, .null, .null, .int 0, .int 0, .int 0, .int 0, .int 0, .int 0, .null, .null, .null, .null, .int 0, .null, .int 0, .null, .null, .null, .null, .null])), (q6, .inl (cA 0, 5, .inl (fun _ => 0))), (q72, .inl (cA 0, 40, .inl (fun _ => 0))), (q80, .inl (cA 0, 40, .inl (fun _ => 0))), (q88, .inl (cA 0, 40, .inl (fun _ => 0))), (q96, .inl (cA 0, 40, .inl (fun _ => 0)))]) [0, 1, 2, 3, 4, 5] rfl
  have hD := hD.sub (ws' := [(h0, .inr (7, [.int 0, .int 0, .int 0, .int 0, .int 0, .ref q6, .int 0, .int 0, .int 0, .ref q14, .ref q22, .ref q30, .int 0, .ref q39, .ref q48, .ref q56, .ref q64, .int 0, .ref q72, .ref q80, .ref q88, .ref q96, .ref q104, .null, .null, .null, .int 0, .int 0, .int 0, .int 0, .int 0, .int 0, .null, .null, .null, .null, .int 0, .null, .int 0, .null, .null, .null, .null, .null])), (q6, .inl (cA 0, 5, .inl (fun _ => 0))), (q72, .inl (cA 0, 40, .inl (fun _ => 0))), (q80, .inl (cA 0, 40, .inl (fun _ => 0))), (q88, .inl (cA 0, 40, .inl (fun _ => 0))), (q96, .inl (cA 0, 40, .inl (fun _ => 0)))]) [0, 1, 2, 3, 4, 5] (by decide) rfl
  refine lv_aload_n hx hb dX8_init_109 rfl (lv_at hl 0 rfl) ?_
  refine lv_bipush (v := 40) hx hb dX8_init_110 (by decide) ?_
  refine ka_newa (atype := .int) (ty := .int) (N' := 40) (n := 40) (a0 := (40, .inl (fun _ => 0))) hx hb (hts (.arrayClass .int) (by decide +kernel)) rfl hK hP hD hS hA 0 rfl (fun _ => rfl) (by decide) rfl (by decide) (Nat.le_of_ble_eq_true rfl) (Nat.le_of_ble_eq_true rfl) dX8_init_112 (fun q112 H hP hD hS => ?_)
  refine W.widen (k := 14) (n := 845) (by omega) (by omega) ?_
  have hP : va_P D vwCl [(h0, .inr (7, [.int 0, .int 0, .int 0, .int 0, .int 0, .ref q6, .int 0, .int 0, .int 0, .ref q14, .ref q22, .ref q30, .int 0, .ref q39, .ref q48, .ref q56, .ref q64, .int 0, .ref q72, .ref q80, .ref q88, .ref q96, .ref q104, .null, .null, .null, .int 0, .int 0, .int 0, .int 0, .int 0, .int 0, .null, .null, .null, .null, .int 0, .null, .int 0, .null, .null, .null, .null, .null])), (q6, .inl (cA 0, 5, .inl (fun _ => 0))), (q72, .inl (cA 0, 40, .inl (fun _ => 0))), (q80, .inl (cA 0, 40, .inl (fun _ => 0))), (q88, .inl (cA 0, 40, .inl (fun _ => 0))), (q96, .inl (cA 0, 40, .inl (fun _ => 0))), (q112, .inl (cA 0, 40, .inl (fun _ => 0)))] H := hP
  have hD : va_D A [(h0, .inr (7, [.int 0, .int 0, .int 0, .int 0, .int 0, .ref q6, .int 0, .int 0, .int 0, .ref q14, .ref q22, .ref q30, .int 0, .ref q39, .ref q48, .ref q56, .ref q64, .int 0, .ref q72, .ref q80, .ref q88, .ref q96, .ref q104, .null, .null, .null, .int 0, .int 0, .int 0, .int 0, .int 0, .int 0, .null, .null, .null, .null, .int 0, .null, .int 0, .null, .null, .null, .null, .null])), (q6, .inl (cA 0, 5, .inl (fun _ => 0))), (q72, .inl (cA 0, 40, .inl (fun _ => 0))), (q80, .inl (cA 0, 40, .inl (fun _ => 0))), (q88, .inl (cA 0, 40, .inl (fun _ => 0))), (q96, .inl (cA 0, 40, .inl (fun _ => 0))), (q112, .inl (cA 0, 40, .inl (fun _ => 0)))] := hD
  refine va_putF (D := D) (ci := 7) (v := .ref q112) (ty := (.array .int)) (C := RX8) (T := TX8) (N := 44) hx hb hts hin_X8 tyX8 tyX8_ok nmX8 hown hK hP hD hS 0 rfl rfl 23 (by decide) (w_RX8_50) (fun _ h9 => h9) rfl hin rfl (by decide +kernel) rfl rfl (Nat.le_of_ble_eq_true rfl) dX8_init_114 (fun H locs hP hD hS => ?_)
  have hP : va_P D vwCl [(h0, .inr (7, [.int 0, .int 0, .int 0, .int 0, .int 0, .ref q6, .int 0, .int 0, .int 0, .ref q14, .ref q22, .ref q30, .int 0, .ref q39, .ref q48, .ref q56, .ref q64, .int 0, .ref q72, .ref q80, .ref q88, .ref q96, .ref q104, .ref q112, .null, .null, .int 0, .int 0, .int 0, .int 0, .int 0, .int 0, .null, .null, .null, .null, .int 0, .null, .int 0, .null, .null, .null, .null, .null])), (q6, .inl (cA 0, 5, .inl (fun _ => 0))), (q72, .inl (cA 0, 40, .inl (fun _ => 0))), (q80, .inl (cA 0, 40, .inl (fun _ => 0))), (q88, .inl (cA 0, 40, .inl (fun _ => 0))), (q96, .inl (cA 0, 40, .inl (fun _ => 0))), (q112, .inl (cA 0, 40, .inl (fun _ => 0)))] H := hP
  have hD : va_D A [(h0, .inr (7, [.int 0, .int 0, .int 0, .int 0, .int 0, .ref q6, .int 0, .int 0, .int 0, .ref q14, .ref q22, .ref q30, .int 0, .ref q39, .ref q48, .ref q56, .ref q64, .int 0, .ref q72, .ref q80, .ref q88, .ref q96, .ref q104, .ref q112, .null, .null, .int 0, .int 0, .int 0, .int 0, .int 0, .int 0, .null, .null, .null, .null, .int 0, .null, .int 0, .null, .null, .null, .null, .null])), (q6, .inl (cA 0, 5, .inl (fun _ => 0))), (q72, .inl (cA 0, 40, .inl (fun _ => 0))), (q80, .inl (cA 0, 40, .inl (fun _ => 0))), (q88, .inl (cA 0, 40, .inl (fun _ => 0))), (q96, .inl (cA 0, 40, .inl (fun _ => 0))), (q112, .inl (cA 0, 40, .inl (fun _ => 0)))] := hD
  have hP := hP.sub (ws' := [(h0, .inr (7, [.int 0, .int 0, .int 0, .int 0, .int 0, .ref q6, .int 0, .int 0, .int 0, .ref q14, .ref q22, .ref q30, .int 0, .ref q39, .ref q48, .ref q56, .ref q64, .int 0, .ref q72, .ref q80, .ref q88, .ref q96, .ref q104, .ref q112, .null, .null, .int 0, .int 0, .int 0, .int 0, .int 0, .int 0, .null, .null, .null, .null, .int 0, .null, .int 0, .null, .null, .null, .null, .null])), (q6, .inl (cA 0, 5, .inl (fun _ => 0))), (q72, .inl (cA 0, 40, .inl (fun _ => 0))), (q80, .inl (cA 0, 40, .inl (fun _ => 0))), (q88, .inl (cA 0, 40, .inl (fun _ => 0))), (q96, .inl (cA 0, 40, .inl (fun _ => 0)))]) [0, 1, 2, 3, 4, 5] rfl
  have hD := hD.sub (ws' := [(h0, .inr (7, [.int 0, .int 0, .int 0, .int 0, .int 0, .ref q6, .int 0, .int 0, .int 0, .ref q14, .ref q22, .ref q30, .int 0, .ref q39, .ref q48, .ref q56, .ref q64, .int 0, .ref q72, .ref q80, .ref q88, .ref q96, .ref q104, .ref q112, .null, .null, .int 0, .int 0, .int 0, .int 0, .int 0, .int 0, .null, .null, .null, .null, .int 0, .null, .int 0, .null, .null, .null, .null, .null])), (q6, .inl (cA 0, 5, .inl (fun _ => 0))), (q72, .inl (cA 0, 40, .inl (fun _ => 0))), (q80, .inl (cA 0, 40, .inl (fun _ => 0))), (q88, .inl (cA 0, 40, .inl (fun _ => 0))), (q96, .inl (cA 0, 40, .inl (fun _ => 0)))]) [0, 1, 2, 3, 4, 5] (by decide) rfl
  refine lv_aload_n hx hb dX8_init_117 rfl (lv_at hl 0 rfl) ?_
  refine lv_bipush (v := 40) hx hb dX8_init_118 (by decide) ?_
  refine ka_newa (atype := .int) (ty := .int) (N' := 40) (n := 40) (a0 := (40, .inl (fun _ => 0))) hx hb (hts (.arrayClass .int) (by decide +kernel)) rfl hK hP hD hS hA 0 rfl (fun _ => rfl) (by decide) rfl (by decide) (Nat.le_of_ble_eq_true rfl) (Nat.le_of_ble_eq_true rfl) dX8_init_120 (fun q120 H hP hD hS => ?_)
  refine W.widen (k := 15) (n := 885) (by omega) (by omega) ?_
  have hP : va_P D vwCl [(h0, .inr (7, [.int 0, .int 0, .int 0, .int 0, .int 0, .ref q6, .int 0, .int 0, .int 0, .ref q14, .ref q22, .ref q30, .int 0, .ref q39, .ref q48, .ref q56, .ref q64, .int 0, .ref q72, .ref q80, .ref q88, .ref q96, .ref q104, .ref q112, .null, .null, .int 0, .int 0, .int 0, .int 0, .int 0, .int 0, .null, .null, .null, .null, .int 0, .null, .int 0, .null, .null, .null, .null, .null])), (q6, .inl (cA 0, 5, .inl (fun _ => 0))), (q72, .inl (cA 0, 40, .inl (fun _ => 0))), (q80, .inl (cA 0, 40, .inl (fun _ => 0))), (q88, .inl (cA 0, 40, .inl (fun _ => 0))), (q96, .inl (cA 0, 40, .inl (fun _ => 0))), (q120, .inl (cA 0, 40, .inl (fun _ => 0)))] H := hP
  have hD : va_D A [(h0, .inr (7, [.int 0, .int 0, .int 0, .int 0, .int 0, .ref q6, .int 0, .int 0, .int 0, .ref q14, .ref q22, .ref q30, .int 0, .ref q39, .ref q48, .ref q56, .ref q64, .int 0, .ref q72, .ref q80, .ref q88, .ref q96, .ref q104, .ref q112, .null, .null, .int 0, .int 0, .int 0, .int 0, .int 0, .int 0, .null, .null, .null, .null, .int 0, .null, .int 0, .null, .null, .null, .null, .null])), (q6, .inl (cA 0, 5, .inl (fun _ => 0))), (q72, .inl (cA 0, 40, .inl (fun _ => 0))), (q80, .inl (cA 0, 40, .inl (fun _ => 0))), (q88, .inl (cA 0, 40, .inl (fun _ => 0))), (q96, .inl (cA 0, 40, .inl (fun _ => 0))), (q120, .inl (cA 0, 40, .inl (fun _ => 0)))] := hD
  refine va_putF (D := D) (ci := 7) (v := .ref q120) (ty := (.array .int)) (C := RX8) (T := TX8) (N := 44) hx hb hts hin_X8 tyX8 tyX8_ok nmX8 hown hK hP hD hS 0 rfl rfl 24 (by decide) (w_RX8_53) (fun _ h9 => h9) rfl hin rfl (by decide +kernel) rfl rfl (Nat.le_of_ble_eq_true rfl) dX8_init_122 (fun H locs hP hD hS => ?_)
  have hP : va_P D vwCl [(h0, .inr (7, [.int 0, .int 0, .int 0, .int 0, .int 0, .ref q6, .int 0, .int 0, .int 0, .ref q14, .ref q22, .ref q30, .int 0, .ref q39, .ref q48, .ref q56, .ref q64, .int 0, .ref q72, .ref q80, .ref q88, .ref q96, .ref q104, .ref q112, .ref q120, .null, .int 0, .int 0, .int 0, .int 0, .int 0, .int 0, .null, .null, .null, .null, .int 0, .null, .int 0, .null, .null, .null, .null, .null])), (q6, .inl (cA 0, 5, .inl (fun _ => 0))), (q72, .inl (cA 0, 40, .inl (fun _ => 0))), (q80, .inl (cA 0, 40, .inl (fun _ => 0))), (q88, .inl (cA 0, 40, .inl (fun _ => 0))), (q96, .inl (cA 0, 40, .inl (fun _ => 0))), (q120, .inl (cA 0, 40, .inl (fun _ => 0)))] H := hP
  have hD : va_D A [(h0, .inr (7, [.int 0, .int 0, .int 0, .int 0, .int 0, .ref q6, .int 0, .int 0, .int 0, .ref q14, .ref q22, .ref q30, .int 0, .ref q39, .ref q48, .ref q56, .ref q64, .int 0, .ref q72, .ref q80, .ref q88, .ref q96, .ref q104, .ref q112, .ref q120, .null, .int 0, .int 0, .int 0, .int 0, .int 0, .int 0, .null, .null, .null, .null, .int 0, .null, .int 0, .null, .null, .null, .null, .null])), (q6, .inl (cA 0, 5, .inl (fun _ => 0))), (q72, .inl (cA 0, 40, .inl (fun _ => 0))), (q80, .inl (cA 0, 40, .inl (fun _ => 0))), (q88, .inl (cA 0, 40, .inl (fun _ => 0))), (q96, .inl (cA 0, 40, .inl (fun _ => 0))), (q120, .inl (cA 0, 40, .inl (fun _ => 0)))] := hD
  have hP := hP.sub (ws' := [(h0, .inr (7, [.int 0, .int 0, .int 0, .int 0, .int 0, .ref q6, .int 0, .int 0, .int 0, .ref q14, .ref q22, .ref q30, .int 0, .ref q39, .ref q48, .ref q56, .ref q64, .int 0, .ref q72, .ref q80, .ref q88, .ref q96, .ref q104, .ref q112, .ref q120, .null, .int 0, .int 0, .int 0, .int 0, .int 0, .int 0, .null, .null, .null, .null, .int 0, .null, .int 0, .null, .null, .null, .null, .null])), (q6, .inl (cA 0, 5, .inl (fun _ => 0))), (q72, .inl (cA 0, 40, .inl (fun _ => 0))), (q80, .inl (cA 0, 40, .inl (fun _ => 0))), (q88, .inl (cA 0, 40, .inl (fun _ => 0))), (q96, .inl (cA 0, 40, .inl (fun _ => 0)))]) [0, 1, 2, 3, 4, 5] rfl
  have hD := hD.sub (ws' := [(h0, .inr (7, [.int 0, .int 0, .int 0, .int 0, .int 0, .ref q6, .int 0, .int 0, .int 0, .ref q14, .ref q22, .ref q30, .int 0, .ref q39, .ref q48, .ref q56, .ref q64, .int 0, .ref q72, .ref q80, .ref q88, .ref q96, .ref q104, .ref q112, .ref q120, .null, .int 0, .int 0, .int 0, .int 0, .int 0, .int 0, .null, .null, .null, .null, .int 0, .null, .int 0, .null, .null, .null, .null, .null])), (q6, .inl (cA 0, 5, .inl (fun _ => 0))), (q72, .inl (cA 0, 40, .inl (fun _ => 0))), (q80, .inl (cA 0, 40, .inl (fun _ => 0))), (q88, .inl (cA 0, 40, .inl (fun _ => 0))), (q96, .inl (cA 0, 40, .inl (fun _ => 0)))]) [0, 1, 2, 3, 4, 5] (by decide) rfl
  refine lv_aload_n hx hb dX8_init_125 rfl (lv_at hl 0 rfl) ?_
  refine lv_bipush (v := 40) hx hb dX8_init_126 (by decide) ?_
  refine ka_newa (atype := .int) (ty := .int) (N' := 40) (n := 40) (a0 := (40, .inl (fun _ => 0))) hx hb (hts (.arrayClass .int) (by decide +kernel)) rfl hK hP hD hS hA 0 rfl (fun _ => rfl) (by decide) rfl (by decide) (Nat.le_of_ble_eq_true rfl) (Nat.le_of_ble_eq_true rfl) dX8_init_128 (fun q128 H hP hD hS => ?_)
  refine W.widen (k := 16) (n := 925) (by omega) (by omega) ?_
  have hP : va_P D vwCl [(h0, .inr (7, [.int 0, .int 0, .int 0, .int 0, .int 0, .ref q6, .int 0, .int 0, .int 0, .ref q14, .ref q22, .ref q30, .int 0, .ref q39, .ref q48, .ref q56, .ref q64, .int 0, .ref q72, .ref q80, .ref q88, .ref q96, .ref q104, .ref q112, .ref q120, .null, .int 0, .int 0, .int 0, .int 0, .int 0, .int 0, .null, .null, .null, .null, .int 0, .null, .int 0, .null, .null, .null, .null, .null])), (q6, .inl (cA 0, 5, .inl (fun _ => 0))), (q72, .inl (cA 0, 40, .inl (fun _ => 0))), (q80, .inl (cA 0, 40, .inl (fun _ => 0))), (q88, .inl (cA 0, 40, .inl (fun _ => 0))), (q96, .inl (cA 0, 40, .inl (fun _ => 0))), (q128, .inl (cA 0, 40, .inl (fun _ => 0)))] H := hP
  have hD : va_D A [(h0, .inr (7, [.int 0, .int 0, .int 0, .int 0, .int 0, .ref q6, .int 0, .int 0, .int 0, .ref q14, .ref q22, .ref q30, .int 0, .ref q39, .ref q48, .ref q56, .ref q64, .int 0, .ref q72, .ref q80, .ref q88, .ref q96, .ref q104, .ref q112, .ref q120, .null, .int 0, .int 0, .int 0, .int 0, .int 0, .int 0, .null, .null, .null, .null, .int 0, .null, .int 0, .null, .null, .null, .null, .null])), (q6, .inl (cA 0, 5, .inl (fun _ => 0))), (q72, .inl (cA 0, 40, .inl (fun _ => 0))), (q80, .inl (cA 0, 40, .inl (fun _ => 0))), (q88, .inl (cA 0, 40, .inl (fun _ => 0))), (q96, .inl (cA 0, 40, .inl (fun _ => 0))), (q128, .inl (cA 0, 40, .inl (fun _ => 0)))] := hD
  refine va_putF (D := D) (ci := 7) (v := .ref q128) (ty := (.array .int)) (C := RX8) (T := TX8) (N := 44) hx hb hts hin_X8 tyX8 tyX8_ok nmX8 hown hK hP hD hS 0 rfl rfl 25 (by decide) (w_RX8_56) (fun _ h9 => h9) rfl hin rfl (by decide +kernel) rfl rfl (Nat.le_of_ble_eq_true rfl) dX8_init_130 (fun H locs hP hD hS => ?_)
  have hP : va_P D vwCl [(h0, .inr (7, [.int 0, .int 0, .int 0, .int 0, .int 0, .ref q6, .int 0, .int 0, .int 0, .ref q14, .ref q22, .ref q30, .int 0, .ref q39, .ref q48, .ref q56, .ref q64, .int 0, .ref q72, .ref q80, .ref q88, .ref q96, .ref q104, .ref q112, .ref q120, .ref q128, .int 0, .int 0, .int 0, .int 0, .int 0, .int 0, .null, .null, .null, .null, .int 0, .null, .int 0, .null, .null, .null, .null, .null])), (q6, .inl (cA 0, 5, .inl (fun _ => 0))), (q72, .inl (cA 0, 40, .inl (fun _ => 0))), (q80, .inl (cA 0, 40, .inl (fun _ => 0))), (q88, .inl (cA 0, 40, .inl (fun _ => 0))), (q96, .inl (cA 0, 40, .inl (fun _ => 0))), (q128, .inl (cA 0, 40, .inl (fun _ => 0)))] H := hP
  have hD : va_D A [(h0, .inr (7, [.int 0, .int 0, .int 0, .int 0, .int 0, .ref q6, .int 0, .int 0, .int 0, .ref q14, .ref q22, .ref q30, .int 0, .ref q39, .ref q48, .ref q56, .ref q64, .int 0, .ref q72, .ref q80, .ref q88, .ref q96, .ref q104, .ref q112, .ref q120, .ref q128, .int 0, .int 0, .int 0, .int 0, .int 0, .int 0, .null, .null, .null, .null, .int 0, .null, .int 0, .null, .null, .null, .null, .null])), (q6, .inl (cA 0, 5, .inl (fun _ => 0))), (q72, .inl (cA 0, 40, .inl (fun _ => 0))), (q80, .inl (cA 0, 40, .inl (fun _ => 0))), (q88, .inl (cA 0, 40, .inl (fun _ => 0))), (q96, .inl (cA 0, 40, .inl (fun _ => 0))), (q128, .inl (cA 0, 40, .inl (fun _ => 0)))] := hD
  have hP := hP.sub (ws' := [(h0, .inr (7, [.int 0, .int 0, .int 0, .int 0, .int 0, .ref q6, .int 0, .int 0, .int 0, .ref q14, .ref q22, .ref q30, .int 0, .ref q39, .ref q48, .ref q56, .ref q64, .int 0, .ref q72, .ref q80, .ref q88, .ref q96, .ref q104, .ref q112, .ref q120, .ref q128, .int 0, .int 0, .int 0, .int 0, .int 0, .int 0, .null, .null, .null, .null, .int 0, .null, .int 0, .null, .null, .null, .null, .null])), (q6, .inl (cA 0, 5, .inl (fun _ => 0))), (q72, .inl (cA 0, 40, .inl (fun _ => 0))), (q80, .inl (cA 0, 40, .inl (fun _ => 0))), (q88, .inl (cA 0, 40, .inl (fun _ => 0))), (q96, .inl (cA 0, 40, .inl (fun _ => 0)))]) [0, 1, 2, 3, 4, 5] rfl
  have hD := hD.sub (ws' := [(h0, .inr (7, [.int 0, .int 0, .int 0, .int 0, .int 0, .ref q6, .int 0, .int 0, .int 0, .ref q14, .ref q22, .ref q30, .int 0, .ref q39, .ref q48, .ref q56, .ref q64, .int 0, .ref q72, .ref q80, .ref q88, .ref q96, .ref q104, .ref q112, .ref q120, .ref q128, .int 0, .int 0, .int 0, .int 0, .int 0, .int 0, .null, .null, .null, .null, .int 0, .null, .int 0, .null, .null, .null, .null, .null])), (q6, .inl (cA 0, 5, .inl (fun _ => 0))), (q72, .inl (cA 0, 40, .inl (fun _ => 0))), (q80, .inl (cA 0, 40, .inl (fun _ => 0))), (q88, .inl (cA 0, 40, .inl (fun _ => 0))), (q96, .inl (cA 0, 40, .inl (fun _ => 0)))]) [0, 1, 2, 3, 4, 5] (by decide) rfl
  refine lv_aload_n hx hb dX8_init_133 rfl (lv_at hl 0 rfl) ?_
  refine lv_bipush (v := 40) hx hb dX8_init_134 (by decide) ?_
  refine ka_newa (atype := .int) (ty := .int) (N' := 40) (n := 40) (a0 := (40, .inl (fun _ => 0))) hx hb (hts (.arrayClass .int) (by decide +kernel)) rfl hK hP hD hS hA 0 rfl (fun _ => rfl) (by decide) rfl (by decide) (Nat.le_of_ble_eq_true rfl) (Nat.le_of_ble_eq_true rfl) dX8_init_136 (fun q136 H hP hD hS => ?_)
  refine W.widen (k := 17) (n := 965) (by omega) (by omega) ?_
  have hP : va_P D vwCl [(h0, .inr (7, [.int 0, .int 0, .int 0, .int 0, .int 0, .ref q6, .int 0, .int 0, .int 0, .ref q14, .ref q22, .ref q30, .int 0, .ref q39, .ref q48, .ref q56, .ref q64, .int 0, .ref q72, .ref q80, .ref q88, .ref q96, .ref q104, .ref q112, .ref q120, .ref q128, .int 0, .int 0, .int 0, .int 0, .int 0, .int 0, .null, .null, .null, .null, .int 0, .null, .int 0, .null, .null, .null, .null, .null])), (q6, .inl (cA 0, 5, .inl (fun _ => 0))), (q72, .inl (cA 0, 40, .inl (fun _ => 0))), (q80, .inl (cA 0, 40, .inl (fun _ => 0))), (q88, .inl (cA 0, 40, .inl (fun _ => 0))), (q96, .inl (cA 0, 40, .inl (fun _ => 0))), (q136, .inl (cA 0, 40, .inl (fun _ => 0)))] H := hP
  have hD : va_D A [(h0, .inr (7, [.int 0, .int 0, .int 0, .int 0, .int 0, .ref q6, .int 0, .int 0, .int 0, .ref q14, .ref q22, .ref q30, .int 0, .ref q39, .ref q48, .ref q56, .ref q64, .int 0, .ref q72, .ref q80, .ref q88, .ref q96, .ref q104, .ref q112, .ref q120, .ref q128, .int 0, .int 0, .int 0, .int 0, .int 0, .int 0, .null, .null, .null, .null, .int 0, .null, .int 0, .null, .null, .null, .null, .null])), (q6, .inl (cA 0, 5, .inl (fun _ => 0))), (q72, .inl (cA 0, 40, .inl (fun _ => 0))), (q80, .inl (cA 0, 40, .inl (fun _ => 0))), (q88, .inl (cA 0, 40, .inl (fun _ => 0))), (q96, .inl (cA 0, 40, .inl (fun _ => 0))), (q136, .inl (cA 0, 40, .inl (fun _ => 0)))] := hD
  refine va_putF (D := D) (ci := 7) (v := .ref q136) (ty := (.array .int)) (C := RX8) (T := TX8) (N := 44) hx hb hts hin_X8 tyX8 tyX8_ok nmX8 hown hK hP hD hS 0 rfl rfl 32 (by decide) (w_RX8_59) (fun _ h9 => h9) rfl hin rfl (by decide +kernel) rfl rfl (Nat.le_of_ble_eq_true rfl) dX8_init_138 (fun H locs hP hD hS => ?_)
  have hP : va_P D vwCl [(h0, .inr (7, [.int 0, .int 0, .int 0, .int 0, .int 0, .ref q6, .int 0, .int 0, .int 0, .ref q14, .ref q22, .ref q30, .int 0, .ref q39, .ref q48, .ref q56, .ref q64, .int 0, .ref q72, .ref q80, .ref q88, .ref q96, .ref q104, .ref q112, .ref q120, .ref q128, .int 0, .int 0, .int 0, .int 0, .int 0, .int 0, .ref q136, .null, .null, .null, .int 0, .null, .int 0, .null, .null, .null, .null, .null])), (q6, .inl (cA 0, 5, .inl (fun _ => 0))), (q72, .inl (cA 0, 40, .inl (fun _ => 0))), (q80, .inl (cA 0, 40, .inl (fun _ => 0))), (q88, .inl (cA 0, 40, .inl (fun _ => 0))), (q96, .inl (cA 0, 40, .inl (fun _ => 0))), (q136, .inl (cA 0, 40, .inl (fun _ => 0)))] H := hP
  have hD : va_D A [(h0, .inr (7, [.int 0, .int 0, .int 0, .int 0, .int 0, .ref q6, .int 0, .int 0, .int 0, .ref q14, .ref q22, .ref q30, .int 0, .ref q39, .ref q48, .ref q56, .ref q64, .int 0, .ref q72, .ref q80, .ref q88, .ref q96, .ref q104, .ref q112, .ref q120, .ref q128, .int 0, .int 0, .int 0, .int 0, .int 0, .int 0, .ref q136, .null, .null, .null, .int 0, .null, .int 0, .null, .null, .null, .null, .null])), (q6, .inl (cA 0, 5, .inl (fun _ => 0))), (q72, .inl (cA 0, 40, .inl (fun _ => 0))), (q80, .inl (cA 0, 40, .inl (fun _ => 0))), (q88, .inl (cA 0, 40, .inl (fun _ => 0))), (q96, .inl (cA 0, 40, .inl (fun _ => 0))), (q136, .inl (cA 0, 40, .inl (fun _ => 0)))] := hD
  have hP := hP.sub (ws' := [(h0, .inr (7, [.int 0, .int 0, .int 0, .int 0, .int 0, .ref q6, .int 0, .int 0, .int 0, .ref q14, .ref q22, .ref q30, .int 0, .ref q39, .ref q48, .ref q56, .ref q64, .int 0, .ref q72, .ref q80, .ref q88, .ref q96, .ref q104, .ref q112, .ref q120, .ref q128, .int 0, .int 0, .int 0, .int 0, .int 0, .int 0, .ref q136, .null, .null, .null, .int 0, .null, .int 0, .null, .null, .null, .null, .null])), (q6, .inl (cA 0, 5, .inl (fun _ => 0))), (q72, .inl (cA 0, 40, .inl (fun _ => 0))), (q80, .inl (cA 0, 40, .inl (fun _ => 0))), (q88, .inl (cA 0, 40, .inl (fun _ => 0))), (q96, .inl (cA 0, 40, .inl (fun _ => 0)))]) [0, 1, 2, 3, 4, 5] rfl
  have hD := hD.sub (ws' := [(h0, .inr (7, [.int 0, .int 0, .int 0, .int 0, .int 0, .ref q6, .int 0, .int 0, .int 0, .ref q14, .ref q22, .ref q30, .int 0, .ref q39, .ref q48, .ref q56, .ref q64, .int 0, .ref q72, .ref q80, .ref q88, .ref q96, .ref q104, .ref q112, .ref q120, .ref q128, .int 0, .int 0, .int 0, .int 0, .int 0, .int 0, .ref q136, .null, .null, .null, .int 0, .null, .int 0, .null, .null, .null, .null, .null])), (q6, .inl (cA 0, 5, .inl (fun _ => 0))), (q72, .inl (cA 0, 40, .inl (fun _ => 0))), (q80, .inl (cA 0, 40, .inl (fun _ => 0))), (q88, .inl (cA 0, 40, .inl (fun _ => 0))), (q96, .inl (cA 0, 40, .inl (fun _ => 0)))]) [0, 1, 2, 3, 4, 5] (by decide) rfl
  refine lv_aload_n hx hb dX8_init_141 rfl (lv_at hl 0 rfl) ?_
  refine lv_bipush (v := 40) hx hb dX8_init_142 (by decide) ?_
  refine ka_newa (atype := .int) (ty := .int) (N' := 40) (n := 40) (a0 := (40, .inl (fun _ => 0))) hx hb (hts (.arrayClass .int) (by decide +kernel)) rfl hK hP hD hS hA 0 rfl (fun _ => rfl) (by decide) rfl (by decide) (Nat.le_of_ble_eq_true rfl) (Nat.le_of_ble_eq_true rfl) dX8_init_144 (fun q144 H hP hD hS => ?_)
  refine W.widen (k := 18) (n := 1005) (by omega) (by omega) ?_
  have hP : va_P D vwCl [(h0, .inr (7, [.int 0, .int 0, .int 0, .int 0, .int 0, .ref q6, .int 0, .int 0, .int 0, .ref q14, .ref q22, .ref q30, .int 0, .ref q39, .ref q48, .ref q56, .ref q64, .int 0, .ref q72, .ref q80, .ref q88, .ref q96, .ref q104, .ref q112, .ref q120, .ref q128, .int 0, .int 0, .int 0, .int 0, .int 0, .int 0, .ref q136, .null, .null, .null, .int 0, .null, .int 0, .null, .null, .null, .null, .null])), (q6, .inl (cA 0, 5, .inl (fun _ => 0))), (q72, .inl (cA 0, 40, .inl (fun _ => 0))), (q80, .inl (cA 0, 40, .inl (fun _ => 0))), (q88, .inl (cA 0, 40, .inl (fun _ => 0))), (q96, .inl (cA 0, 40, .inl (fun _ => 0))), (q144, .inl (cA 0, 40, .inl (fun _ => 0)))] H := hP
  have hD : va_D A [(h0, .inr (7, [.int 0, .int 0, .int 0, .int 0, .int 0, .ref q6, .int 0, .int 0, .int 0, .ref q14, .ref q22, .ref q30, .int 0, .ref q39, .ref q48, .ref q56, .ref q64, .int 0, .ref q72, .ref q80, .ref q88, .ref q96, .ref q104, .ref q112, .ref q120, .ref q128, .int 0, .int 0, .int 0, .int 0, .int 0, .int 0, .ref q136, .null, .null, .null, .int 0, .null, .int 0, .null, .null, .null, .null, .null])), (q6, .inl (cA 0, 5, .inl (fun _ => 0))), (q72, .inl (cA 0, 40, .inl (fun _ => 0))), (q80, .inl (cA 0, 40, .inl (fun _ => 0))), (q88, .inl (cA 0, 40, .inl (fun _ => 0))), (q96, .inl (cA 0, 40, .inl (fun _ => 0))), (q144, .inl (cA 0, 40, .inl (fun _ => 0)))] := hD
  refine va_putF (D := D) (ci := 7) (v := .ref q144) (ty := (.array .int)) (C := RX8) (T := TX8) (N := 44) hx hb hts hin_X8 tyX8 tyX8_ok nmX8 hown hK hP hD hS 0 rfl rfl 33 (by decide) (w_RX8_62) (fun _ h9 => h9) rfl hin rfl (by decide +kernel) rfl rfl (Nat.le_of_ble_eq_true rfl) dX8_init_146 (fun H locs hP hD hS => ?_)
  have hP : va_P D vwCl [(h0, .inr (7, [.int 0, .int 0, .int 0, .int 0, .int 0, .ref q6, .int 0, .int 0, .int 0, .ref q14, .ref q22, .ref q30, .int 0, .ref q39, .ref q48, .ref q56, .ref q64, .int 0, .ref q72, .ref q80, .ref q88, .ref q96, .ref q104, .ref q112, .ref q120, .ref q128, .int 0, .int 0, .int 0, .int 0, .int 0, .int 0, .ref q136, .ref q144, .null, .null, .int 0, .null, .int 0, .null, .null, .null, .null, .null])), (q6, .inl (cA 0, 5, .inl (fun _ => 0))), (q72, .inl (cA 0, 40, .inl (fun _ => 0))), (q80, .inl (cA 0, 40, .inl (fun _ => 0))), (q88, .inl (cA 0, 40, .inl (fun _ => 0))), (q96, .inl (cA 0, 40, .inl (fun _ => 0))), (q144, .inl (cA 0, 40, .inl (fun _ => 0)))] H := hP
  have hD : va_D A [(h0, .inr (7, [.int 0, .int 0, .int 0, .int 0, .int 0, .ref q6, .int 0, .int 0, .int 0, .ref q14, .ref q22, .ref q30, .int 0, .ref q39, .ref q48, .ref q56, .ref q64, .int 0, .ref q72, .ref q80, .ref q88, .ref q96, .ref q104, .ref q112, .ref q120, .ref q128, .int 0, .int 0, .int 0, .int 0, .int 0, .int 0, .ref q136, .ref q144, .null, .null, .int 0, .null, .int 0, .null, .null, .null, .null, .null])), (q6, .inl (cA 0, 5, .inl (fun _ => 0))), (q72, .inl (cA 0, 40, .inl (fun _ => 0))), (q80, .inl (cA 0, 40, .inl (fun _ => 0))), (q88, .inl (cA 0, 40, .inl (fun _ => 0))), (q96, .inl (cA 0, 40, .inl (fun _ => 0))), (q144, .inl (cA 0, 40, .inl (fun _ => 0)))] := hD
  have hP := hP.sub (ws' := [(h0, .inr (7, [.int 0, .int 0, .int 0, .int 0, .int 0, .ref q6, .int 0, .int 0, .int 0, .ref q14, .ref q22, .ref q30, .int 0, .ref q39, .ref q48, .ref q56, .ref q64, .int 0, .ref q72, .ref q80, .ref q88, .ref q96, .ref q104, .ref q112, .ref q120, .ref q128, .int 0, .int 0, .int 0, .int 0, .int 0, .int 0, .ref q136, .ref q144, .null, .null, .int 0, .null, .int 0, .null, .null, .null, .null, .null])), (q6, .inl (cA 0, 5, .inl (fun _ => 0))), (q72, .inl (cA 0, 40, .inl (fun _ => 0))), (q80, .inl (cA 0, 40, .inl (fun _ => 0))), (q88, .inl (cA 0, 40, .inl (fun _ => 0))), (q96, .inl (cA 0, 40, .inl (fun _ => 0)))]) [0, 1, 2, 3, 4, 5] rfl
  have hD := hD.sub (ws' := [(h0, .inr (7, [.int 0, .int 0, .int 0, .int 0, .int 0, .ref q6, .int 0, .int 0, .int 0, .ref q14, .ref q22, .ref q30, .int 0, .ref q39, .ref q48, .ref q56, .ref q64, .int 0, .ref q72, .ref q80, .ref q88, .ref q96, .ref q104, .ref q112, .ref q120, .ref q128, .int 0, .int 0, .int 0, .int 0, .int 0, .int 0, .ref q136, .ref q144, .null, .null, .int 0, .null, .int 0, .null, .null, .null, .null, .null])), (q6, .inl (cA 0, 5, .inl (fun _ => 0))), (q72, .inl (cA 0, 40, .inl (fun _ => 0))), (q80, .inl (cA 0, 40, .inl (fun _ => 0))), (q88, .inl (cA 0, 40, .inl (fun _ => 0))), (q96, .inl (cA 0, 40, .inl (fun _ => 0)))]) [0, 1, 2, 3, 4, 5] (by decide) rfl
  refine lv_aload_n hx hb dX8_init_149 rfl (lv_at hl 0 rfl) ?_
  refine lv_bipush (v := 6) hx hb dX8_init_150 (by decide) ?_
  refine ka_newa (atype := .boolean) (ty := .boolean) (N' := 6) (n := 6) (a0 := (6, .inl (fun _ => 0))) hx hb (hts (.arrayClass .boolean) (by decide +kernel)) rfl hK hP hD hS hA 1 rfl (fun _ => rfl) (by decide) rfl (by decide) (Nat.le_of_ble_eq_true rfl) (Nat.le_of_ble_eq_true rfl) dX8_init_152 (fun q152 H hP hD hS => ?_)
  refine W.widen (k := 19) (n := 1011) (by omega) (by omega) ?_
  have hP : va_P D vwCl [(h0, .inr (7, [.int 0, .int 0, .int 0, .int 0, .int 0, .ref q6, .int 0, .int 0, .int 0, .ref q14, .ref q22, .ref q30, .int 0, .ref q39, .ref q48, .ref q56, .ref q64, .int 0, .ref q72, .ref q80, .ref q88, .ref q96, .ref q104, .ref q112, .ref q120, .ref q128, .int 0, .int 0, .int 0, .int 0, .int 0, .int 0, .ref q136, .ref q144, .null, .null, .int 0, .null, .int 0, .null, .null, .null, .null, .null])), (q6, .inl (cA 0, 5, .inl (fun _ => 0))), (q72, .inl (cA 0, 40, .inl (fun _ => 0))), (q80, .inl (cA 0, 40, .inl (fun _ => 0))), (q88, .inl (cA 0, 40, .inl (fun _ => 0))), (q96, .inl (cA 0, 40, .inl (fun _ => 0))), (q152, .inl (cA 1, 6, .inl (fun _ => 0)))] H := hP
  have hD : va_D A [(h0, .inr (7, [.int 0, .int 0, .int 0, .int 0, .int 0, .ref q6, .int 0, .int 0, .int 0, .ref q14, .ref q22, .ref q30, .int 0, .ref q39, .ref q48, .ref q56, .ref q64, .int 0, .ref q72, .ref q80, .ref q88, .ref q96, .ref q104, .ref q112, .ref q120, .ref q128, .int 0, .int 0, .int 0, .int 0, .int 0, .int 0, .ref q136, .ref q144, .null, .null, .int 0, .null, .int 0, .null, .null, .null, .null, .null])), (q6, .inl (cA 0, 5, .inl (fun _ => 0))), (q72, .inl (cA 0, 40, .inl (fun _ => 0))), (q80, .inl (cA 0, 40, .inl (fun _ => 0))), (q88, .inl (cA 0, 40, .inl (fun _ => 0))), (q96, .inl (cA 0, 40, .inl (fun _ => 0))), (q152, .inl (cA 1, 6, .inl (fun _ => 0)))] := hD
  refine va_putF (D := D) (ci := 7) (v := .ref q152) (ty := (.array .boolean)) (C := RX8) (T := TX8) (N := 44) hx hb hts hin_X8 tyX8 tyX8_ok nmX8 hown hK hP hD hS 0 rfl rfl 34 (by decide) (w_RX8_65) (fun _ h9 => h9) rfl hin rfl (by decide +kernel) rfl rfl (Nat.le_of_ble_eq_true rfl) dX8_init_154 (fun H locs hP hD hS => ?_)
  have hP : va_P D vwCl [(h0, .inr (7, [.int 0, .int 0, .int 0, .int 0, .int 0, .ref q6, .int 0, .int 0, .int 0, .ref q14, .ref q22, .ref q30, .int 0, .ref q39, .ref q48, .ref q56, .ref q64, .int 0, .ref q72, .ref q80, .ref q88, .ref q96, .ref q104, .ref q112, .ref q120, .ref q128, .int 0, .int 0, .int 0, .int 0, .int 0, .int 0, .ref q136, .ref q144, .ref q152, .null, .int 0, .null, .int 0, .null, .null, .null, .null, .null])), (q6, .inl (cA 0, 5, .inl (fun _ => 0))), (q72, .inl (cA 0, 40, .inl (fun _ => 0))), (q80, .inl (cA 0, 40, .inl (fun _ => 0))), (q88, .inl (cA 0, 40, .inl (fun _ => 0))), (q96, .inl (cA 0, 40, .inl (fun _ => 0))), (q152, .inl (cA 1, 6, .inl (fun _ => 0)))] H := hP
  have hD : va_D A [(h0, .inr (7, [.int 0, .int 0, .int 0, .int 0, .int 0, .ref q6, .int 0, .int 0, .int 0, .ref q14, .ref q22, .ref q30, .int 0, .ref q39, .ref q48, .ref q56, .ref q64, .int 0, .ref q72, .ref q80, .ref q88, .ref q96, .ref q104, .ref q112, .ref q120, .ref q128, .int 0, .int 0, .int 0, .int 0, .int 0, .int 0, .ref q136, .ref q144, .ref q152, .null, .int 0, .null, .int 0, .null, .null, .null, .null, .null])), (q6, .inl (cA 0, 5, .inl (fun _ => 0))), (q72, .inl (cA 0, 40, .inl (fun _ => 0))), (q80, .inl (cA 0, 40, .inl (fun _ => 0))), (q88, .inl (cA 0, 40, .inl (fun _ => 0))), (q96, .inl (cA 0, 40, .inl (fun _ => 0))), (q152, .inl (cA 1, 6, .inl (fun _ => 0)))] := hD
  have hP := hP.sub (ws' := [(h0, .inr (7, [.int 0, .int 0, .int 0, .int 0, .int 0, .ref q6, .int 0, .int 0, .int 0, .ref q14, .ref q22, .ref q30, .int 0, .ref q39, .ref q48, .ref q56, .ref q64, .int 0, .ref q72, .ref q80, .ref q88, .ref q96, .ref q104, .ref q112, .ref q120, .ref q128, .int 0, .int 0, .int 0, .int 0, .int 0, .int 0, .ref q136, .ref q144, .ref q152, .null, .int 0, .null, .int 0, .null, .null, .null, .null, .null])), (q6, .inl (cA 0, 5, .inl (fun _ => 0))), (q72, .inl (cA 0, 40, .inl (fun _ => 0))), (q80, .inl (cA 0, 40, .inl (fun _ => 0))), (q88, .inl (cA 0, 40, .inl (fun _ => 0))), (q96, .inl (cA 0, 40, .inl (fun _ => 0)))]) [0, 1, 2, 3, 4, 5] rfl
  have hD := hD.sub (ws' := [(h0, .inr (7, [.int 0, .int 0, .int 0, .int 0, .int 0, .ref q6, .int 0, .int 0, .int 0, .ref q14, .ref q22, .ref q30, .int 0, .ref q39, .ref q48, .ref q56, .ref q64, .int 0, .ref q72, .ref q80, .ref q88, .ref q96, .ref q104, .ref q112, .ref q120, .ref q128, .int 0, .int 0, .int 0, .int 0, .int 0, .int 0, .ref q136, .ref q144, .ref q152, .null, .int 0, .null, .int 0, .null, .null, .null, .null, .null])), (q6, .inl (cA 0, 5, .inl (fun _ => 0))), (q72, .inl (cA 0, 40, .inl (fun _ => 0))), (q80, .inl (cA 0, 40, .inl (fun _ => 0))), (q88, .inl (cA 0, 40, .inl (fun _ => 0))), (q96, .inl (cA 0, 40, .inl (fun _ => 0)))]) [0, 1, 2, 3, 4, 5] (by decide) rfl
  refine lv_aload_n hx hb dX8_init_157 rfl (lv_at hl 0 rfl) ?_
  refine lv_sipush (v := 240) hx hb dX8_init_158 (by decide) ?_
  refine ka_newa (atype := .int) (ty := .int) (N' := 240) (n := 240) (a0 := (240, .inl (fun _ => 0))) hx hb (hts (.arrayClass .int) (by decide +kernel)) rfl hK hP hD hS hA 0 rfl (fun _ => rfl) (by decide) rfl (by decide) (Nat.le_of_ble_eq_true rfl) (Nat.le_of_ble_eq_true rfl) dX8_init_161 (fun q161 H hP hD hS => ?_)
  refine W.widen (k := 20) (n := 1251) (by omega) (by omega) ?_
  have hP : va_P D vwCl [(h0, .inr (7, [.int 0, .int 0, .int 0, .int 0, .int 0, .ref q6, .int 0, .int 0, .int 0, .ref q14, .ref q22, .ref q30, .int 0, .ref q39, .ref q48, .ref q56, .ref q64, .int 0, .ref q72, .ref q80, .ref q88, .ref q96, .ref q104, .ref q112, .ref q120, .ref q128, .int 0, .int 0, .int 0, .int 0, .int 0, .int 0, .ref q136, .ref q144, .ref q152, .null, .int 0, .null, .int 0, .null, .null, .null, .null, .null])), (q6, .inl (cA 0, 5, .inl (fun _ => 0))), (q72, .inl (cA 0, 40, .inl (fun _ => 0))), (q80, .inl (cA 0, 40, .inl (fun _ => 0))), (q88, .inl (cA 0, 40, .inl (fun _ => 0))), (q96, .inl (cA 0, 40, .inl (fun _ => 0))), (q161, .inl (cA 0, 240, .inl (fun _ => 0)))] H := hP
  have hD : va_D A [(h0, .inr (7, [.int 0, .int 0, .int 0, .int 0, .int 0, .ref q6, .int 0, .int 0, .int 0, .ref q14, .ref q22, .ref q30, .int 0, .ref q39, .ref q48, .ref q56, .ref q64, .int 0, .ref q72, .ref q80, .ref q88, .ref q96, .ref q104, .ref q112, .ref q120, .ref q128, .int 0, .int 0, .int 0, .int 0, .int 0, .int 0, .ref q136, .ref q144, .ref q152, .null, .int 0, .null, .int 0, .null, .null, .null, .null, .null])), (q6, .inl (cA 0, 5, .inl (fun _ => 0))), (q72, .inl (cA 0, 40, .inl (fun _ => 0))), (q80, .inl (cA 0, 40, .inl (fun _ => 0))), (q88, .inl (cA 0, 40, .inl (fun _ => 0))), (q96, .inl (cA 0, 40, .inl (fun _ => 0))), (q161, .inl (cA 0, 240, .inl (fun _ => 0)))] := hD
  refine va_putF (D := D) (ci := 7) (v := .ref q161) (ty := (.array .int)) (C := RX8) (T := TX8) (N := 44) hx hb hts hin_X8 tyX8 tyX8_ok nmX8 hown hK hP hD hS 0 rfl rfl 35 (by decide) (w_RX8_68) (fun _ h9 => h9) rfl hin rfl (by decide +kernel) rfl rfl (Nat.le_of_ble_eq_true rfl) dX8_init_163 (fun H locs hP hD hS => ?_)
  have hP : va_P D vwCl [(h0, .inr (7, [.int 0, .int 0, .int 0, .int 0, .int 0, .ref q6, .int 0, .int 0, .int 0, .ref q14, .ref q22, .ref q30, .int 0, .ref q39, .ref q48, .ref q56, .ref q64, .int 0, .ref q72, .ref q80, .ref q88, .ref q96, .ref q104, .ref q112, .ref q120, .ref q128, .int 0, .int 0, .int 0, .int 0, .int 0, .int 0, .ref q136, .ref q144, .ref q152, .ref q161, .int 0, .null, .int 0, .null, .null, .null, .null, .null])), (q6, .inl (cA 0, 5, .inl (fun _ => 0))), (q72, .inl (cA 0, 40, .inl (fun _ => 0))), (q80, .inl (cA 0, 40, .inl (fun _ => 0))), (q88, .inl (cA 0, 40, .inl (fun _ => 0))), (q96, .inl (cA 0, 40, .inl (fun _ => 0))), (q161, .inl (cA 0, 240, .inl (fun _ => 0)))] H := hP
  have hD : va_D A [(h0, .inr (7, [.int 0, .int 0, .int 0, .int 0, .int 0, .ref q6, .int 0, .int 0, .int 0, .ref q14, .ref q22, .ref q30, .int 0, .ref q39, .ref q48, .ref q56, .ref q64, .int 0, .ref q72, .ref q80, .ref q88, .ref q96, .ref q104, .ref q112, .ref q120, .ref q128, .int 0, .int 0, .int 0, .int 0, .int 0, .int 0, .ref q136, .ref q144, .ref q152, .ref q161, .int 0, .null, .int 0, .null, .null, .null, .null, .null])), (q6, .inl (cA 0, 5, .inl (fun _ => 0))), (q72, .inl (cA 0, 40, .inl (fun _ => 0))), (q80, .inl (cA 0, 40, .inl (fun _ => 0))), (q88, .inl (cA 0, 40, .inl (fun _ => 0))), (q96, .inl (cA 0, 40, .inl (fun _ => 0))), (q161, .inl (cA 0, 240, .inl (fun _ => 0)))] := hD
  have hP := hP.sub (ws' := [(h0, .inr (7, [.int 0, .int 0, .int 0, .int 0, .int 0, .ref q6, .int 0, .int 0, .int 0, .ref q14, .ref q22, .ref q30, .int 0, .ref q39, .ref q48, .ref q56, .ref q64, .int 0, .ref q72, .ref q80, .ref q88, .ref q96, .ref q104, .ref q112, .ref q120, .ref q128, .int 0, .int 0, .int 0, .int 0, .int 0, .int 0, .ref q136, .ref q144, .ref q152, .ref q161, .int 0, .null, .int 0, .null, .null, .null, .null, .null])), (q6, .inl (cA 0, 5, .inl (fun _ => 0))), (q72, .inl (cA 0, 40, .inl (fun _ => 0))), (q80, .inl (cA 0, 40, .inl (fun _ => 0))), (q88, .inl (cA 0, 40, .inl (fun _ => 0))), (q96, .inl (cA 0, 40, .inl (fun _ => 0)))]) [0, 1, 2, 3, 4, 5] rfl
  have hD := hD.sub (ws' := [(h0, .inr (7, [.int 0, .int 0, .int 0, .int 0, .int 0, .ref q6, .int 0, .int 0, .int 0, .ref q14, .ref q22, .ref q30, .int 0, .ref q39, .ref q48, .ref q56, .ref q64, .int 0, .ref q72, .ref q80, .ref q88, .ref q96, .ref q104, .ref q112, .ref q120, .ref q128, .int 0, .int 0, .int 0, .int 0, .int 0, .int 0, .ref q136, .ref q144, .ref q152, .ref q161, .int 0, .null, .int 0, .null, .null, .null, .null, .null])), (q6, .inl (cA 0, 5, .inl (fun _ => 0))), (q72, .inl (cA 0, 40, .inl (fun _ => 0))), (q80, .inl (cA 0, 40, .inl (fun _ => 0))), (q88, .inl (cA 0, 40, .inl (fun _ => 0))), (q96, .inl (cA 0, 40, .inl (fun _ => 0)))]) [0, 1, 2, 3, 4, 5] (by decide) rfl
  refine lv_aload_n hx hb dX8_init_166 rfl (lv_at hl 0 rfl) ?_
  refine lv_bipush (v := 11) hx hb dX8_init_167 (by decide) ?_
  refine ka_newa (atype := .int) (ty := .int) (N' := 11) (n := 11) (a0 := (11, .inl (fun _ => 0))) hx hb (hts (.arrayClass .int) (by decide +kernel)) rfl hK hP hD hS hA 0 rfl (fun _ => rfl) (by decide) rfl (by decide) (Nat.le_of_ble_eq_true rfl) (Nat.le_of_ble_eq_true rfl) dX8_init_169 (fun q169 H hP hD hS => ?_)
  refine W.widen (k := 21) (n := 1262) (by omega) (by omega) ?_
  have hP : va_P D vwCl [(h0, .inr (7, [.int 0, .int 0, .int 0, .int 0, .int 0, .ref q6, .int 0, .int 0, .int 0, .ref q14, .ref q22, .ref q30, .int 0, .ref q39, .ref q48, .ref q56, .ref q64, .int 0, .ref q72, .ref q80, .ref q88, .ref q96, .ref q104, .ref q112, .ref q120, .ref q128, .int 0, .int 0, .int 0, .int 0, .int 0, .int 0, .ref q136, .ref q144, .ref q152, .ref q161, .int 0, .null, .int 0, .null, .null, .null, .null, .null])), (q6, .inl (cA 0, 5, .inl (fun _ => 0))), (q72, .inl (cA 0, 40, .inl (fun _ => 0))), (q80, .inl (cA 0, 40, .inl (fun _ => 0))), (q88, .inl (cA 0, 40, .inl (fun _ => 0))), (q96, .inl (cA 0, 40, .inl (fun _ => 0))), (q169, .inl (cA 0, 11, .inl (fun _ => 0)))] H := hP
  have hD : va_D A [(h0, .inr (7, [.int 0, .int 0, .int 0, .int 0, .int 0, .ref q6, .int 0, .int 0, .int 0, .ref q14, .ref q22, .ref q30, .int 0, .ref q39, .ref q48, .ref q56, .ref q64, .int 0, .ref q72, .ref q80, .ref q88, .ref q96, .ref q104, .ref q112, .ref q120, .ref q128, .int 0, .int 0, .int 0, .int 0, .int 0, .int 0, .ref q136, .ref q144, .ref q152, .ref q161, .int 0, .null, .int 0, .null, .null, .null, .null, .null])), (q6, .inl (cA 0, 5, .inl (fun _ => 0))), (q72, .inl (cA 0, 40, .inl (fun _ => 0))), (q80, .inl (cA 0, 40, .inl (fun _ => 0))), (q88, .inl (cA 0, 40, .inl (fun _ => 0))), (q96, .inl (cA 0, 40, .inl (fun _ => 0))), (q169, .inl (cA 0, 11, .inl (fun _ => 0)))] := hD
  refine va_putF (D := D) (ci := 7) (v := .ref q169) (ty := (.array .int)) (C := RX8) (T := TX8) (N := 44) hx hb hts hin_X8 tyX8 tyX8_ok nmX8 hown hK hP hD hS 0 rfl rfl 37 (by decide) (w_RX8_71) (fun _ h9 => h9) rfl hin rfl (by decide +kernel) rfl rfl (Nat.le_of_ble_eq_true rfl) dX8_init_171 (fun H locs hP hD hS => ?_)
  have hP : va_P D vwCl [(h0, .inr (7, [.int 0, .int 0, .int 0, .int 0, .int 0, .ref q6, .int 0, .int 0, .int 0, .ref q14, .ref q22, .ref q30, .int 0, .ref q39, .ref q48, .ref q56, .ref q64, .int 0, .ref q72, .ref q80, .ref q88, .ref q96, .ref q104, .ref q112, .ref q120, .ref q128, .int 0, .int 0, .int 0, .int 0, .int 0, .int 0, .ref q136, .ref q144, .ref q152, .ref q161, .int 0, .ref q169, .int 0, .null, .null, .null, .null, .null])), (q6, .inl (cA 0, 5, .inl (fun _ => 0))), (q72, .inl (cA 0, 40, .inl (fun _ => 0))), (q80, .inl (cA 0, 40, .inl (fun _ => 0))), (q88, .inl (cA 0, 40, .inl (fun _ => 0))), (q96, .inl (cA 0, 40, .inl (fun _ => 0))), (q169, .inl (cA 0, 11, .inl (fun _ => 0)))] H := hP
  have hD : va_D A [(h0, .inr (7, [.int 0, .int 0, .int 0, .int 0, .int 0, .ref q6, .int 0, .int 0, .int 0, .ref q14, .ref q22, .ref q30, .int 0, .ref q39, .ref q48, .ref q56, .ref q64, .int 0, .ref q72, .ref q80, .ref q88, .ref q96, .ref q104, .ref q112, .ref q120, .ref q128, .int 0, .int 0, .int 0, .int 0, .int 0, .int 0, .ref q136, .ref q144, .ref q152, .ref q161, .int 0, .ref q169, .int 0, .null, .null, .null, .null, .null])), (q6, .inl (cA 0, 5, .inl (fun _ => 0))), (q72, .inl (cA 0, 40, .inl (fun _ => 0))), (q80, .inl (cA 0, 40, .inl (fun _ => 0))), (q88, .inl (cA 0, 40, .inl (fun _ => 0))), (q96, .inl (cA 0, 40, .inl (fun _ => 0))), (q169, .inl (cA 0, 11, .inl (fun _ => 0)))] := hD
  have hP := hP.sub (ws' := [(h0, .inr (7, [.int 0, .int 0, .int 0, .int 0, .int 0, .ref q6, .int 0, .int 0, .int 0, .ref q14, .ref q22, .ref q30, .int 0, .ref q39, .ref q48, .ref q56, .ref q64, .int 0, .ref q72, .ref q80, .ref q88, .ref q96, .ref q104, .ref q112, .ref q120, .ref q128, .int 0, .int 0, .int 0, .int 0, .int 0, .int 0, .ref q136, .ref q144, .ref q152, .ref q161, .int 0, .ref q169, .int 0, .null, .null, .null, .null, .null])), (q6, .inl (cA 0, 5, .inl (fun _ => 0))), (q72, .inl (cA 0, 40, .inl (fun _ => 0))), (q80, .inl (cA 0, 40, .inl (fun _ => 0))), (q88, .inl (cA 0, 40, .inl (fun _ => 0))), (q96, .inl (cA 0, 40, .inl (fun _ => 0)))]) [0, 1, 2, 3, 4, 5] rfl
  have hD := hD.sub (ws' := [(h0, .inr (7, [.int 0, .int 0, .int 0, .int 0, .int 0, .ref q6, .int 0, .int 0, .int 0, .ref q14, .ref q22, .ref q30, .int 0, .ref q39, .ref q48, .ref q56, .ref q64, .int 0, .ref q72, .ref q80, .ref q88, .ref q96, .ref q104, .ref q112, .ref q120, .ref q128, .int 0, .int 0, .int 0, .int 0, .int 0, .int 0, .ref q136, .ref q144, .ref q152, .ref q161, .int 0, .ref q169, .int 0, .null, .null, .null, .null, .null])), (q6, .inl (cA 0, 5, .inl (fun _ => 0))), (q72, .inl (cA 0, 40, .inl (fun _ => 0))), (q80, .inl (cA 0, 40, .inl (fun _ => 0))), (q88, .inl (cA 0, 40, .inl (fun _ => 0))), (q96, .inl (cA 0, 40, .inl (fun _ => 0)))]) [0, 1, 2, 3, 4, 5] (by decide) rfl
  refine lv_aload_n hx hb dX8_init_174 rfl (lv_at hl 0 rfl) ?_
  refine lv_sipush (v := 600) hx hb dX8_init_175 (by decide) ?_
  refine ka_newa (atype := .int) (ty := .int) (N' := 600) (n := 600) (a0 := (600, .inl (fun _ => 0))) hx hb (hts (.arrayClass .int) (by decide +kernel)) rfl hK hP hD hS hA 0 rfl (fun _ => rfl) (by decide) rfl (by decide) (Nat.le_of_ble_eq_true rfl) (Nat.le_of_ble_eq_true rfl) dX8_init_178 (fun q178 H hP hD hS => ?_)
  refine W.widen (k := 22) (n := 1862) (by omega) (by omega) ?_
  have hP : va_P D vwCl [(h0, .inr (7, [.int 0, .int 0, .int 0, .int 0, .int 0, .ref q6, .int 0, .int 0, .int 0, .ref q14, .ref q22, .ref q30, .int 0, .ref q39, .ref q48, .ref q56, .ref q64, .int 0, .ref q72, .ref q80, .ref q88, .ref q96, .ref q104, .ref q112, .ref q120, .ref q128, .int 0, .int 0, .int 0, .int 0, .int 0, .int 0, .ref q136, .ref q144, .ref q152, .ref q161, .int 0, .ref q169, .int 0, .null, .null, .null, .null, .null])), (q6, .inl (cA 0, 5, .inl (fun _ => 0))), (q72, .inl (cA 0, 40, .inl (fun _ => 0))), (q80, .inl (cA 0, 40, .inl (fun _ => 0))), (q88, .inl (cA 0, 40, .inl (fun _ => 0))), (q96, .inl (cA 0, 40, .inl (fun _ => 0))), (q178, .inl (cA 0, 600, .inl (fun _ => 0)))] H := hP
  have hD : va_D A [(h0, .inr (7, [.int 0, .int 0, .int 0, .int 0, .int 0, .ref q6, .int 0, .int 0, .int 0, .ref q14, .ref q22, .ref q30, .int 0, .ref q39, .ref q48, .ref q56, .ref q64, .int 0, .ref q72, .ref q80, .ref q88, .ref q96, .ref q104, .ref q112, .ref q120, .ref q128, .int 0, .int 0, .int 0, .int 0, .int 0, .int 0, .ref q136, .ref q144, .ref q152, .ref q161, .int 0, .ref q169, .int 0, .null, .null, .null, .null, .null])), (q6, .inl (cA 0, 5, .inl (fun _ => 0))), (q72, .inl (cA 0, 40, .inl (fun _ => 0))), (q80, .inl (cA 0, 40, .inl (fun _ => 0))), (q88, .inl (cA 0, 40, .inl (fun _ => 0))), (q96, .inl (cA 0, 40, .inl (fun _ => 0))), (q178, .inl (cA 0, 600, .inl (fun _ => 0)))] := hD
  refine va_putF (D := D) (ci := 7) (v := .ref q178) (ty := (.array .int)) (C := RX8) (T := TX8) (N := 44) hx hb hts hin_X8 tyX8 tyX8_ok nmX8 hown hK hP hD hS 0 rfl rfl 39 (by decide) (w_RX8_74) (fun _ h9 => h9) rfl hin rfl (by decide +kernel) rfl rfl (Nat.le_of_ble_eq_true rfl) dX8_init_180 (fun H locs hP hD hS => ?_)
  have hP : va_P D vwCl [(h0, .inr (7, [.int 0, .int 0, .int 0, .int 0, .int 0, .ref q6, .int 0, .int 0, .int 0, .ref q14, .ref q22, .ref q30, .int 0, .ref q39, .ref q48, .ref q56, .ref q64, .int 0, .ref q72, .ref q80, .ref q88, .ref q96, .ref q104, .ref q112, .ref q120, .ref q128, .int 0, .int 0, .int 0, .int 0, .int 0, .int 0, .ref q136, .ref q144, .ref q152, .ref q161, .int 0, .ref q169, .int 0, .ref q178, .null, .null, .null, .null])), (q6, .inl (cA 0, 5, .inl (fun _ => 0))), (q72, .inl (cA 0, 40, .inl (fun _ => 0))), (q80, .inl (cA 0, 40, .inl (fun _ => 0))), (q88, .inl (cA 0, 40, .inl (fun _ => 0))), (q96, .inl (cA 0, 40, .inl (fun _ => 0))), (q178, .inl (cA 0, 600, .inl (fun _ => 0)))] H := hP
  have hD : va_D A [(h0, .inr (7, [.int 0, .int 0, .int 0, .int 0, .int 0, .ref q6, .int 0, .int 0, .int 0, .ref q14, .ref q22, .ref q30, .int 0, .ref q39, .ref q48, .ref q56, .ref q64, .int 0, .ref q72, .ref q80, .ref q88, .ref q96, .ref q104, .ref q112, .ref q120, .ref q128, .int 0, .int 0, .int 0, .int 0, .int 0, .int 0, .ref q136, .ref q144, .ref q152, .ref q161, .int 0, .ref q169, .int 0, .ref q178, .null, .null, .null, .null])), (q6, .inl (cA 0, 5, .inl (fun _ => 0))), (q72, .inl (cA 0, 40, .inl (fun _ => 0))), (q80, .inl (cA 0, 40, .inl (fun _ => 0))), (q88, .inl (cA 0, 40, .inl (fun _ => 0))), (q96, .inl (cA 0, 40, .inl (fun _ => 0))), (q178, .inl (cA 0, 600, .inl (fun _ => 0)))] := hD
  refine lv_aload_n hx hb dX8_init_183 rfl (lv_at hl 0 rfl) ?_
  refine lv_sipush (v := 600) hx hb dX8_init_184 (by decide) ?_
  refine ka_newa (atype := .long) (ty := .long) (N' := 600) (n := 600) (a0 := (600, .inr (.inl (fun _ => 0)))) hx hb (hts (.arrayClass .long) (by decide +kernel)) rfl hK hP hD hS hA 2 rfl (fun _ => rfl) (by decide) rfl (by decide) (Nat.le_of_ble_eq_true rfl) (Nat.le_of_ble_eq_true rfl) dX8_init_187 (fun q187 H hP hD hS => ?_)
  refine W.widen (k := 23) (n := 2462) (by omega) (by omega) ?_
  have hP : va_P D vwCl [(h0, .inr (7, [.int 0, .int 0, .int 0, .int 0, .int 0, .ref q6, .int 0, .int 0, .int 0, .ref q14, .ref q22, .ref q30, .int 0, .ref q39, .ref q48, .ref q56, .ref q64, .int 0, .ref q72, .ref q80, .ref q88, .ref q96, .ref q104, .ref q112, .ref q120, .ref q128, .int 0, .int 0, .int 0, .int 0, .int 0, .int 0, .ref q136, .ref q144, .ref q152, .ref q161, .int 0, .ref q169, .int 0, .ref q178, .null, .null, .null, .null])), (q6, .inl (cA 0, 5, .inl (fun _ => 0))), (q72, .inl (cA 0, 40, .inl (fun _ => 0))), (q80, .inl (cA 0, 40, .inl (fun _ => 0))), (q88, .inl (cA 0, 40, .inl (fun _ => 0))), (q96, .inl (cA 0, 40, .inl (fun _ => 0))), (q178, .inl (cA 0, 600, .inl (fun _ => 0))), (q187, .inl (cA 2, 600, .inr (.inl (fun _ => 0))))] H := hP
  have hD : va_D A [(h0, .inr (7, [.int 0, .int 0, .int 0, .int 0, .int 0, .ref q6, .int 0, .int 0, .int 0, .ref q14, .ref q22, .ref q30, .int 0, .ref q39, .ref q48, .ref q56, .ref q64, .int 0, .ref q72, .ref q80, .ref q88, .ref q96, .ref q104, .ref q112, .ref q120, .ref q128, .int 0, .int 0, .int 0, .int 0, .int 0, .int 0, .ref q136, .ref q144, .ref q152, .ref q161, .int 0, .ref q169, .int 0, .ref q178, .null, .null, .null, .null])), (q6, .inl (cA 0, 5, .inl (fun _ => 0))), (q72, .inl (cA 0, 40, .inl (fun _ => 0))), (q80, .inl (cA 0, 40, .inl (fun _ => 0))), (q88, .inl (cA 0, 40, .inl (fun _ => 0))), (q96, .inl (cA 0, 40, .inl (fun _ => 0))), (q178, .inl (cA 0, 600, .inl (fun _ => 0))), (q187, .inl (cA 2, 600, .inr (.inl (fun _ => 0))))] := hD
  refine va_putF (D := D) (ci := 7) (v := .ref q187) (ty := (.array .long)) (C := RX8) (T := TX8) (N := 44) hx hb hts hin_X8 tyX8 tyX8_ok nmX8 hown hK hP hD hS 0 rfl rfl 40 (by decide) (w_RX8_77) (fun _ h9 => h9) rfl hin rfl (by decide +kernel) rfl rfl (Nat.le_of_ble_eq_true rfl) dX8_init_189 (fun H locs hP hD hS => ?_)
  have hP : va_P D vwCl [(h0, .inr (7, [.int 0, .int 0, .int 0, .int 0, .int 0, .ref q6, .int 0, .int 0, .int 0, .ref q14, .ref q22, .ref q30, .int 0, .ref q39, .ref q48, .ref q56, .ref q64, .int 0, .ref q72, .ref q80, .ref q88, .ref q96, .ref q104, .ref q112, .ref q120, .ref q128, .int 0, .int 0, .int 0, .int 0, .int 0, .int 0, .ref q136, .ref q144, .ref q152, .ref q161, .int 0, .ref q169, .int 0, .ref q178, .ref q187, .null, .null, .null])), (q6, .inl (cA 0, 5, .inl (fun _ => 0))), (q72, .inl (cA 0, 40, .inl (fun _ => 0))), (q80, .inl (cA 0, 40, .inl (fun _ => 0))), (q88, .inl (cA 0, 40, .inl (fun _ => 0))), (q96, .inl (cA 0, 40, .inl (fun _ => 0))), (q178, .inl (cA 0, 600, .inl (fun _ => 0))), (q187, .inl (cA 2, 600, .inr (.inl (fun _ => 0))))] H := hP
  have hD : va_D A [(h0, .inr (7, [.int 0, .int 0, .int 0, .int 0, .int 0, .ref q6, .int 0, .int 0, .int 0, .ref q14, .ref q22, .ref q30, .int 0, .ref q39, .ref q48, .ref q56, .ref q64, .int 0, .ref q72, .ref q80, .ref q88, .ref q96, .ref q104, .ref q112, .ref q120, .ref q128, .int 0, .int 0, .int 0, .int 0, .int 0, .int 0, .ref q136, .ref q144, .ref q152, .ref q161, .int 0, .ref q169, .int 0, .ref q178, .ref q187, .null, .null, .null])), (q6, .inl (cA 0, 5, .inl (fun _ => 0))), (q72, .inl (cA 0, 40, .inl (fun _ => 0))), (q80, .inl (cA 0, 40, .inl (fun _ => 0))), (q88, .inl (cA 0, 40, .inl (fun _ => 0))), (q96, .inl (cA 0, 40, .inl (fun _ => 0))), (q178, .inl (cA 0, 600, .inl (fun _ => 0))), (q187, .inl (cA 2, 600, .inr (.inl (fun _ => 0))))] := hD
  refine lv_aload_n hx hb dX8_init_192 rfl (lv_at hl 0 rfl) ?_
  refine lv_sipush (v := 600) hx hb dX8_init_193 (by decide) ?_
  refine ka_newa (atype := .long) (ty := .long) (N' := 600) (n := 600) (a0 := (600, .inr (.inl (fun _ => 0)))) hx hb (hts (.arrayClass .long) (by decide +kernel)) rfl hK hP hD hS hA 2 rfl (fun _ => rfl) (by decide) rfl (by decide) (Nat.le_of_ble_eq_true rfl) (Nat.le_of_ble_eq_true rfl) dX8_init_196 (fun q196 H hP hD hS => ?_)
  refine W.widen (k := 24) (n := 3062) (by omega) (by omega) ?_
  have hP : va_P D vwCl [(h0, .inr (7, [.int 0, .int 0, .int 0, .int 0, .int 0, .ref q6, .int 0, .int 0, .int 0, .ref q14, .ref q22, .ref q30, .int 0, .ref q39, .ref q48, .ref q56, .ref q64, .int 0, .ref q72, .ref q80, .ref q88, .ref q96, .ref q104, .ref q112, .ref q120, .ref q128, .int 0, .int 0, .int 0, .int 0, .int 0, .int 0, .ref q136, .ref q144, .ref q152, .ref q161, .int 0, .ref q169, .int 0, .ref q178, .ref q187, .null, .null, .null])), (q6, .inl (cA 0, 5, .inl (fun _ => 0))), (q72, .inl (cA 0, 40, .inl (fun _ => 0))), (q80, .inl (cA 0, 40, .inl (fun _ => 0))), (q88, .inl (cA 0, 40, .inl (fun _ => 0))), (q96, .inl (cA 0, 40, .inl (fun _ => 0))), (q178, .inl (cA 0, 600, .inl (fun _ => 0))), (q187, .inl (cA 2, 600, .inr (.inl (fun _ => 0)))), (q196, .inl (cA 2, 600, .inr (.inl (fun _ => 0))))] H := hP
  have hD : va_D A [(h0, .inr (7, [.int 0, .int 0, .int 0, .int 0, .int 0, .ref q6, .int 0, .int 0, .int 0, .ref q14, .ref q22, .ref q30, .int 0, .ref q39, .ref q48, .ref q56, .ref q64, .int 0, .ref q72, .ref q80, .ref q88, .ref q96, .ref q104, .ref q112, .ref q120, .ref q128, .int 0, .int 0, .int 0, .int 0, .int 0, .int 0, .ref q136, .ref q144, .ref q152, .ref q161, .int 0, .ref q169, .int 0, .ref q178, .ref q187, .null, .null, .null])), (q6, .inl (cA 0, 5, .inl (fun _ => 0))), (q72, .inl (cA 0, 40, .inl (fun _ => 0))), (q80, .inl (cA 0, 40, .inl (fun _ => 0))), (q88, .inl (cA 0, 40, .inl (fun _ => 0))), (q96, .inl (cA 0, 40, .inl (fun _ => 0))), (q178, .inl (cA 0, 600, .inl (fun _ => 0))), (q187, .inl (cA 2, 600, .inr (.inl (fun _ => 0)))), (q196, .inl (cA 2, 600, .inr (.inl (fun _ => 0))))] := hD
  refine va_putF (D := D) (ci := 7) (v := .ref q196) (ty := (.array .long)) (C := RX8) (T := TX8) (N := 44) hx hb hts hin_X8 tyX8 tyX8_ok nmX8 hown hK hP hD hS 0 rfl rfl 41 (by decide) (w_RX8_81) (fun _ h9 => h9) rfl hin rfl (by decide +kernel) rfl rfl (Nat.le_of_ble_eq_true rfl) dX8_init_198 (fun H locs hP hD hS => ?_)
  have hP : va_P D vwCl [(h0, .inr (7, [.int 0, .int 0, .int 0, .int 0, .int 0, .ref q6, .int 0, .int 0, .int 0, .ref q14, .ref q22, .ref q30, .int 0, .ref q39, .ref q48, .ref q56, .ref q64, .int 0, .ref q72, .ref q80, .ref q88, .ref q96, .ref q104, .ref q112, .ref q120, .ref q128, .int 0, .int 0, .int 0, .int 0, .int 0, .int 0, .ref q136, .ref q144, .ref q152, .ref q161, .int 0, .ref q169, .int 0, .ref q178, .ref q187, .ref q196, .null, .null])), (q6, .inl (cA 0, 5, .inl (fun _ => 0))), (q72, .inl (cA 0, 40, .inl (fun _ => 0))), (q80, .inl (cA 0, 40, .inl (fun _ => 0))), (q88, .inl (cA 0, 40, .inl (fun _ => 0))), (q96, .inl (cA 0, 40, .inl (fun _ => 0))), (q178, .inl (cA 0, 600, .inl (fun _ => 0))), (q187, .inl (cA 2, 600, .inr (.inl (fun _ => 0)))), (q196, .inl (cA 2, 600, .inr (.inl (fun _ => 0))))] H := hP
  have hD : va_D A [(h0, .inr (7, [.int 0, .int 0, .int 0, .int 0, .int 0, .ref q6, .int 0, .int 0, .int 0, .ref q14, .ref q22, .ref q30, .int 0, .ref q39, .ref q48, .ref q56, .ref q64, .int 0, .ref q72, .ref q80, .ref q88, .ref q96, .ref q104, .ref q112, .ref q120, .ref q128, .int 0, .int 0, .int 0, .int 0, .int 0, .int 0, .ref q136, .ref q144, .ref q152, .ref q161, .int 0, .ref q169, .int 0, .ref q178, .ref q187, .ref q196, .null, .null])), (q6, .inl (cA 0, 5, .inl (fun _ => 0))), (q72, .inl (cA 0, 40, .inl (fun _ => 0))), (q80, .inl (cA 0, 40, .inl (fun _ => 0))), (q88, .inl (cA 0, 40, .inl (fun _ => 0))), (q96, .inl (cA 0, 40, .inl (fun _ => 0))), (q178, .inl (cA 0, 600, .inl (fun _ => 0))), (q187, .inl (cA 2, 600, .inr (.inl (fun _ => 0)))), (q196, .inl (cA 2, 600, .inr (.inl (fun _ => 0))))] := hD
  refine lv_aload_n hx hb dX8_init_201 rfl (lv_at hl 0 rfl) ?_
  refine lv_sipush (v := 600) hx hb dX8_init_202 (by decide) ?_
  refine ka_newa (atype := .long) (ty := .long) (N' := 600) (n := 600) (a0 := (600, .inr (.inl (fun _ => 0)))) hx hb (hts (.arrayClass .long) (by decide +kernel)) rfl hK hP hD hS hA 2 rfl (fun _ => rfl) (by decide) rfl (by decide) (Nat.le_of_ble_eq_true rfl) (Nat.le_of_ble_eq_true rfl) dX8_init_205 (fun q205 H hP hD hS => ?_)
  refine W.widen (k := 25) (n := 3662) (by omega) (by omega) ?_
  have hP : va_P D vwCl [(h0, .inr (7, [.int 0, .int 0, .int 0, .int 0, .int 0, .ref q6, .int 0, .int 0, .int 0, .ref q14, .ref q22, .ref q30, .int 0, .ref q39, .ref q48, .ref q56, .ref q64, .int 0, .ref q72, .ref q80, .ref q88, .ref q96, .ref q104, .ref q112, .ref q120, .ref q128, .int 0, .int 0, .int 0, .int 0, .int 0, .int 0, .ref q136, .ref q144, .ref q152, .ref q161, .int 0, .ref q169, .int 0, .ref q178, .ref q187, .ref q196, .null, .null])), (q6, .inl (cA 0, 5, .inl (fun _ => 0))), (q72, .inl (cA 0, 40, .inl (fun _ => 0))), (q80, .inl (cA 0, 40, .inl (fun _ => 0))), (q88, .inl (cA 0, 40, .inl (fun _ => 0))), (q96, .inl (cA 0, 40, .inl (fun _ => 0))), (q178, .inl (cA 0, 600, .inl (fun _ => 0))), (q187, .inl (cA 2, 600, .inr (.inl (fun _ => 0)))), (q196, .inl (cA 2, 600, .inr (.inl (fun _ => 0)))), (q205, .inl (cA 2, 600, .inr (.inl (fun _ => 0))))] H := hP
  have hD : va_D A [(h0, .inr (7, [.int 0, .int 0, .int 0, .int 0, .int 0, .ref q6, .int 0, .int 0, .int 0, .ref q14, .ref q22, .ref q30, .int 0, .ref q39, .ref q48, .ref q56, .ref q64, .int 0, .ref q72, .ref q80, .ref q88, .ref q96, .ref q104, .ref q112, .ref q120, .ref q128, .int 0, .int 0, .int 0, .int 0, .int 0, .int 0, .ref q136, .ref q144, .ref q152, .ref q161, .int 0, .ref q169, .int 0, .ref q178, .ref q187, .ref q196, .null, .null])), (q6, .inl (cA 0, 5, .inl (fun _ => 0))), (q72, .inl (cA 0, 40, .inl (fun _ => 0))), (q80, .inl (cA 0, 40, .inl (fun _ => 0))), (q88, .inl (cA 0, 40, .inl (fun _ => 0))), (q96, .inl (cA 0, 40, .inl (fun _ => 0))), (q178, .inl (cA 0, 600, .inl (fun _ => 0))), (q187, .inl (cA 2, 600, .inr (.inl (fun _ => 0)))), (q196, .inl (cA 2, 600, .inr (.inl (fun _ => 0)))), (q205, .inl (cA 2, 600, .inr (.inl (fun _ => 0))))] := hD
  refine va_putF (D := D) (ci := 7) (v := .ref q205) (ty := (.array .long)) (C := RX8) (T := TX8) (N := 44) hx hb hts hin_X8 tyX8 tyX8_ok nmX8 hown hK hP hD hS 0 rfl rfl 42 (by decide) (w_RX8_84) (fun _ h9 => h9) rfl hin rfl (by decide +kernel) rfl rfl (Nat.le_of_ble_eq_true rfl) dX8_init_207 (fun H locs hP hD hS => ?_)
  have hP : va_P D vwCl [(h0, .inr (7, [.int 0, .int 0, .int 0, .int 0, .int 0, .ref q6, .int 0, .int 0, .int 0, .ref q14, .ref q22, .ref q30, .int 0, .ref q39, .ref q48, .ref q56, .ref q64, .int 0, .ref q72, .ref q80, .ref q88, .ref q96, .ref q104, .ref q112, .ref q120, .ref q128, .int 0, .int 0, .int 0, .int 0, .int 0, .int 0, .ref q136, .ref q144, .ref q152, .ref q161, .int 0, .ref q169, .int 0, .ref q178, .ref q187, .ref q196, .ref q205, .null])), (q6, .inl (cA 0, 5, .inl (fun _ => 0))), (q72, .inl (cA 0, 40, .inl (fun _ => 0))), (q80, .inl (cA 0, 40, .inl (fun _ => 0))), (q88, .inl (cA 0, 40, .inl (fun _ => 0))), (q96, .inl (cA 0, 40, .inl (fun _ => 0))), (q178, .inl (cA 0, 600, .inl (fun _ => 0))), (q187, .inl (cA 2, 600, .inr (.inl (fun _ => 0)))), (q196, .inl (cA 2, 600, .inr (.inl (fun _ => 0)))), (q205, .inl (cA 2, 600, .inr (.inl (fun _ => 0))))] H := hP
  have hD : va_D A [(h0, .inr (7, [.int 0, .int 0, .int 0, .int 0, .int 0, .ref q6, .int 0, .int 0, .int 0, .ref q14, .ref q22, .ref q30, .int 0, .ref q39, .ref q48, .ref q56, .ref q64, .int 0, .ref q72, .ref q80, .ref q88, .ref q96, .ref q104, .ref q112, .ref q120, .ref q128, .int 0, .int 0, .int 0, .int 0, .int 0, .int 0, .ref q136, .ref q144, .ref q152, .ref q161, .int 0, .ref q169, .int 0, .ref q178, .ref q187, .ref q196, .ref q205, .null])), (q6, .inl (cA 0, 5, .inl (fun _ => 0))), (q72, .inl (cA 0, 40, .inl (fun _ => 0))), (q80, .inl (cA 0, 40, .inl (fun _ => 0))), (q88, .inl (cA 0, 40, .inl (fun _ => 0))), (q96, .inl (cA 0, 40, .inl (fun _ => 0))), (q178, .inl (cA 0, 600, .inl (fun _ => 0))), (q187, .inl (cA 2, 600, .inr (.inl (fun _ => 0)))), (q196, .inl (cA 2, 600, .inr (.inl (fun _ => 0)))), (q205, .inl (cA 2, 600, .inr (.inl (fun _ => 0))))] := hD
  refine lv_aload_n hx hb dX8_init_210 rfl (lv_at hl 0 rfl) ?_
  refine lv_sipush (v := 600) hx hb dX8_init_211 (by decide) ?_
  refine ka_newa (atype := .long) (ty := .long) (N' := 600) (n := 600) (a0 := (600, .inr (.inl (fun _ => 0)))) hx hb (hts (.arrayClass .long) (by decide +kernel)) rfl hK hP hD hS hA 2 rfl (fun _ => rfl) (by decide) rfl (by decide) (Nat.le_of_ble_eq_true rfl) (Nat.le_of_ble_eq_true rfl) dX8_init_214 (fun q214 H hP hD hS => ?_)
  refine W.widen (k := 26) (n := 4262) (by omega) (by omega) ?_
  have hP : va_P D vwCl [(h0, .inr (7, [.int 0, .int 0, .int 0, .int 0, .int 0, .ref q6, .int 0, .int 0, .int 0, .ref q14, .ref q22, .ref q30, .int 0, .ref q39, .ref q48, .ref q56, .ref q64, .int 0, .ref q72, .ref q80, .ref q88, .ref q96, .ref q104, .ref q112, .ref q120, .ref q128, .int 0, .int 0, .int 0, .int 0, .int 0, .int 0, .ref q136, .ref q144, .ref q152, .ref q161, .int 0, .ref q169, .int 0, .ref q178, .ref q187, .ref q196, .ref q205, .null])), (q6, .inl (cA 0, 5, .inl (fun _ => 0))), (q72, .inl (cA 0, 40, .inl (fun _ => 0))), (q80, .inl (cA 0, 40, .inl (fun _ => 0))), (q88, .inl (cA 0, 40, .inl (fun _ => 0))), (q96, .inl (cA 0, 40, .inl (fun _ => 0))), (q178, .inl (cA 0, 600, .inl (fun _ => 0))), (q187, .inl (cA 2, 600, .inr (.inl (fun _ => 0)))), (q196, .inl (cA 2, 600, .inr (.inl (fun _ => 0)))), (q205, .inl (cA 2, 600, .inr (.inl (fun _ => 0)))), (q214, .inl (cA 2, 600, .inr (.inl (fun _ => 0))))] H := hP
  have hD : va_D A [(h0, .inr (7, [.int 0, .int 0, .int 0, .int 0, .int 0, .ref q6, .int 0, .int 0, .int 0, .ref q14, .ref q22, .ref q30, .int 0, .ref q39, .ref q48, .ref q56, .ref q64, .int 0, .ref q72, .ref q80, .ref q88, .ref q96, .ref q104, .ref q112, .ref q120, .ref q128, .int 0, .int 0, .int 0, .int 0, .int 0, .int 0, .ref q136, .ref q144, .ref q152, .ref q161, .int 0, .ref q169, .int 0, .ref q178, .ref q187, .ref q196, .ref q205, .null])), (q6, .inl (cA 0, 5, .inl (fun _ => 0))), (q72, .inl (cA 0, 40, .inl (fun _ => 0))), (q80, .inl (cA 0, 40, .inl (fun _ => 0))), (q88, .inl (cA 0, 40, .inl (fun _ => 0))), (q96, .inl (cA 0, 40, .inl (fun _ => 0))), (q178, .inl (cA 0, 600, .inl (fun _ => 0))), (q187, .inl (cA 2, 600, .inr (.inl (fun _ => 0)))), (q196, .inl (cA 2, 600, .inr (.inl (fun _ => 0)))), (q205, .inl (cA 2, 600, .inr (.inl (fun _ => 0)))), (q214, .inl (cA 2, 600, .inr (.inl (fun _ => 0))))] := hD
  refine va_putF (D := D) (ci := 7) (v := .ref q214) (ty := (.array .long)) (C := RX8) (T := TX8) (N := 44) hx hb hts hin_X8 tyX8 tyX8_ok nmX8 hown hK hP hD hS 0 rfl rfl 43 (by decide) (w_RX8_87) (fun _ h9 => h9) rfl hin rfl (by decide +kernel) rfl rfl (Nat.le_of_ble_eq_true rfl) dX8_init_216 (fun H locs hP hD hS => ?_)
  have hP : va_P D vwCl [(h0, .inr (7, [.int 0, .int 0, .int 0, .int 0, .int 0, .ref q6, .int 0, .int 0, .int 0, .ref q14, .ref q22, .ref q30, .int 0, .ref q39, .ref q48, .ref q56, .ref q64, .int 0, .ref q72, .ref q80, .ref q88, .ref q96, .ref q104, .ref q112, .ref q120, .ref q128, .int 0, .int 0, .int 0, .int 0, .int 0, .int 0, .ref q136, .ref q144, .ref q152, .ref q161, .int 0, .ref q169, .int 0, .ref q178, .ref q187, .ref q196, .ref q205, .ref q214])), (q6, .inl (cA 0, 5, .inl (fun _ => 0))), (q72, .inl (cA 0, 40, .inl (fun _ => 0))), (q80, .inl (cA 0, 40, .inl (fun _ => 0))), (q88, .inl (cA 0, 40, .inl (fun _ => 0))), (q96, .inl (cA 0, 40, .inl (fun _ => 0))), (q178, .inl (cA 0, 600, .inl (fun _ => 0))), (q187, .inl (cA 2, 600, .inr (.inl (fun _ => 0)))), (q196, .inl (cA 2, 600, .inr (.inl (fun _ => 0)))), (q205, .inl (cA 2, 600, .inr (.inl (fun _ => 0)))), (q214, .inl (cA 2, 600, .inr (.inl (fun _ => 0))))] H := hP
  have hD : va_D A [(h0, .inr (7, [.int 0, .int 0, .int 0, .int 0, .int 0, .ref q6, .int 0, .int 0, .int 0, .ref q14, .ref q22, .ref q30, .int 0, .ref q39, .ref q48, .ref q56, .ref q64, .int 0, .ref q72, .ref q80, .ref q88, .ref q96, .ref q104, .ref q112, .ref q120, .ref q128, .int 0, .int 0, .int 0, .int 0, .int 0, .int 0, .ref q136, .ref q144, .ref q152, .ref q161, .int 0, .ref q169, .int 0, .ref q178, .ref q187, .ref q196, .ref q205, .ref q214])), (q6, .inl (cA 0, 5, .inl (fun _ => 0))), (q72, .inl (cA 0, 40, .inl (fun _ => 0))), (q80, .inl (cA 0, 40, .inl (fun _ => 0))), (q88, .inl (cA 0, 40, .inl (fun _ => 0))), (q96, .inl (cA 0, 40, .inl (fun _ => 0))), (q178, .inl (cA 0, 600, .inl (fun _ => 0))), (q187, .inl (cA 2, 600, .inr (.inl (fun _ => 0)))), (q196, .inl (cA 2, 600, .inr (.inl (fun _ => 0)))), (q205, .inl (cA 2, 600, .inr (.inl (fun _ => 0)))), (q214, .inl (cA 2, 600, .inr (.inl (fun _ => 0))))] := hD
  refine lv_iload_n hx hb dX8_init_219 rfl (lv_at hl 1 rfl) ?_
  refine lv_bipush (v := 11) hx hb dX8_init_220 (by decide) ?_
  refine lv_ldc (v := (999959)) hx hb hown (hts (.constant RX8 90 (999959)) (by decide +kernel)) dX8_init_222 ?_
  refine rq_call1 (v := .int (wj pr 11 (999959))) (rn_S (As := [.int pr, .int 11, .int (999959)]) (rest := []) ⟨hx, hb, hml, hown, hts⟩ (c_X8_within l D cA pr 11 (999959)) (va_cwS 3 hts gX8_init_X8_within rfl rfl rfl (by decide +kernel) ⟨Nat.le_of_ble_eq_true rfl, Nat.le_of_ble_eq_true rfl⟩) hK hP [] rfl rfl hl.1 rfl (Nat.le_of_ble_eq_true rfl) dX8_init_224 ⟨Nat.le_of_ble_eq_true rfl, Nat.le_of_ble_eq_true rfl⟩) ?_
  refine lv_istore (lv' := [(5, .int (wj pr 11 (999959))), (0, .ref h0), (1, .int pr), (2, .int cn), (3, .int tr), (4, .int th)]) hx hb dX8_init_227 hl (by decide) rfl (fun ls hl => ?_)
  have loop229 : ∀ (f k : Nat) (z : Int32), z = nI k → p0 + 1 ≤ k + f → n0 ≤ k → k ≤ p0 → ∀ ls : Array Slot, lv_has ls 6 [(0, .ref h0), (1, .int pr), (2, .int cn), (3, .int tr), (4, .int th), (5, .int z)] → W p l e (headSpec wsX8_init ({ frames := 1, cells := 26, slots := 4262, locals := 22 })).room s m [.ref h0, .int pr, .int cn, .int tr, .int th].toArray below meth c H locs 26 4262 (MQ below (va_Qv (fun _ : Nat → Nat => True) (fun (u : Nat → Nat) (t : State) => va_P D vwCl [(h0, .inr (7, [.int (nI p0), .int (nI q0), .int (nI c0), .int (nI t0), .int (nI k0), .ref (u 0), .int 0, .int 0, .int 0, .ref (u 1), .ref (u 2), .ref (u 3), .int 0, .ref (u 4), .ref (u 5), .ref (u 6), .ref (u 7), .int 0, .ref (u 8), .ref (u 9), .ref (u 10), .ref (u 11), .ref (u 12), .ref (u 13), .ref (u 14), .ref (u 15), .int 0, .int 0, .int 0, .int 0, .int 0, .int 0, .ref (u 16), .ref (u 17), .ref (u 18), .ref (u 19), .int 0, .ref (u 20), .int 0, .ref (u 21), .ref (u 22), .ref (u 23), .ref (u 24), .ref (u 25)])), ((u 0), .inl (cA 0, 5, .inl (upd (fun _ => 0) (0 : Int32).toNatClampNeg 1))), ((u 21), .inl (cA 0, 600, .inl (fun _ => 0))), ((u 22), .inl (cA 2, 600, .inr (.inl (fun _ => 0)))), ((u 23), .inl (cA 2, 600, .inr (.inl (fun _ => 0)))), ((u 24), .inl (cA 2, 600, .inr (.inl (fun _ => 0)))), ((u 25), .inl (cA 2, 600, .inr (.inl (fun _ => 0))))] t.heap ∧ va_K D vwCl (tyS cA) t ∧ va_D A [(h0, .inr (7, [.int (nI p0), .int (nI q0), .int (nI c0), .int (nI t0), .int (nI k0), .ref (u 0), .int 0, .int 0, .int 0, .ref (u 1), .ref (u 2), .ref (u 3), .int 0, .ref (u 4), .ref (u 5), .ref (u 6), .ref (u 7), .int 0, .ref (u 8), .ref (u 9), .ref (u 10), .ref (u 11), .ref (u 12), .ref (u 13), .ref (u 14), .ref (u 15), .int 0, .int 0, .int 0, .int 0, .int 0, .int 0, .ref (u 16), .ref (u 17), .ref (u 18), .ref (u 19), .int 0, .ref (u 20), .int 0, .ref (u 21), .ref (u 22), .ref (u 23), .ref (u 24), .ref (u 25)])), ((u 0), .inl (cA 0, 5, .inl (upd (fun _ => 0) (0 : Int32).toNatClampNeg 1))), ((u 21), .inl (cA 0, 600, .inl (fun _ => 0))), ((u 22), .inl (cA 2, 600, .inr (.inl (fun _ => 0)))), ((u 23), .inl (cA 2, 600, .inr (.inl (fun _ => 0)))), ((u 24), .inl (cA 2, 600, .inr (.inl (fun _ => 0)))), ((u 25), .inl (cA 2, 600, .inr (.inl (fun _ => 0))))]) A) [.ref h0, .int pr, .int cn, .int tr, .int th].toArray s 26 4262 A) (F0 m 229 ls []) := by
    intro f
    induction f with
    | zero =>
      intro k z hz hh0 h1 h2
      omega
    | succ f ih =>
      intro k z hz hh0 h1 h2 ls hl
      refine lv_iload hx hb dX8_init_229 (lv_at hl 5 rfl) ?_
      refine rq_callp (rn_S (As := [.int z]) (rest := []) ⟨hx, hb, hml, hown, hts⟩ (c_X8_isPrime l D cA z k hz (by omega)) (va_cwS 1 hts gX8_init_X8_isPrime rfl rfl rfl (by decide +kernel) ⟨Nat.le_of_ble_eq_true rfl, Nat.le_of_ble_eq_true rfl⟩) hK hP [] rfl rfl hl.1 rfl (Nat.le_of_ble_eq_true rfl) dX8_init_231 ⟨Nat.le_of_ble_eq_true rfl, Nat.le_of_ble_eq_true rfl⟩) (fun r_1 h_r_1 => ?_)
      refine lv_if_eq (tgt := 256) hx hb dX8_init_234 (by decide) (fun c_234 => ?_) (fun c_234 => ?_)
      · skip
        refine lv_iinc (v := (z + 1)) (lv' := [(5, .int (z + 1)), (0, .ref h0), (1, .int pr), (2, .int cn), (3, .int tr), (4, .int th)]) hx hb dX8_init_256 hl (k := 5) rfl rfl (by decide) rfl (fun ls hl => ?_)
        refine lv_goto (tgt := 229) hx hb dX8_init_259 (by decide) ?_
        exact ih (k + 1) (z + 1) (by rw [hz]; exact nI_1 k) (by omega) (by omega) (mi_lt hp h1 h2 (mi_no1 h_r_1 c_234)) ls (lv_sub hl [1, 2, 3, 4, 5, 0] rfl)
      · skip
        refine lv_iload hx hb dX8_init_237 (lv_at hl 5 rfl) ?_
        refine lv_iconst (v := 2) hx hb dX8_init_239 (by decide) ?_
        refine lv_irem hx hb dX8_init_240 (by decide) ?_
        refine lv_if_eq (tgt := 256) hx hb dX8_init_241 (by decide) (fun c_241 => ?_) (fun c_241 => ?_)
        · skip
          refine lv_iinc (v := (z + 1)) (lv' := [(5, .int (z + 1)), (0, .ref h0), (1, .int pr), (2, .int cn), (3, .int tr), (4, .int th)]) hx hb dX8_init_256 hl (k := 5) rfl rfl (by decide) rfl (fun ls hl => ?_)
          refine lv_goto (tgt := 229) hx hb dX8_init_259 (by decide) ?_
          exact ih (k + 1) (z + 1) (by rw [hz]; exact nI_1 k) (by omega) (by omega) (mi_lt hp h1 h2 (mi_no2 hz (by omega) c_241)) ls (lv_sub hl [1, 2, 3, 4, 5, 0] rfl)
        · skip
          refine lv_iload hx hb dX8_init_244 (lv_at hl 5 rfl) ?_
          refine lv_iconst (v := 1) hx hb dX8_init_246 (by decide) ?_
          refine lv_isub hx hb dX8_init_247 ?_
          refine lv_iconst (v := 2) hx hb dX8_init_248 (by decide) ?_
          refine lv_idiv hx hb dX8_init_249 (by decide) ?_
          refine rq_callp (rn_S (As := [.int ((z - 1) / 2)]) (rest := []) ⟨hx, hb, hml, hown, hts⟩ (c_X8_isPrime l D cA ((z - 1) / 2) ((k - 1) / 2) (mi_half hz (by omega) (by omega)) (by omega)) (va_cwS 1 hts gX8_init_X8_isPrime rfl rfl rfl (by decide +kernel) ⟨Nat.le_of_ble_eq_true rfl, Nat.le_of_ble_eq_true rfl⟩) hK hP [] rfl rfl hl.1 rfl (Nat.le_of_ble_eq_true rfl) dX8_init_250 ⟨Nat.le_of_ble_eq_true rfl, Nat.le_of_ble_eq_true rfl⟩) (fun r_2 h_r_2 => ?_)
          refine lv_if_ne (tgt := 262) hx hb dX8_init_253 (by decide) (fun c_253 => ?_) (fun c_253 => ?_)
          · skip
            have hzp : z = nI p0 := mi_yes hz hp h1 h2 (by omega) h_r_1 c_234 c_241 h_r_2 c_253
            subst hzp
            refine lv_aload_n hx hb dX8_init_262 rfl (lv_at hl 0 rfl) ?_
            refine lv_iload hx hb dX8_init_263 (lv_at hl 5 rfl) ?_
            refine va_putF (D := D) (ci := 7) (v := .int (nI p0)) (ty := .int) (C := RX8) (T := TX8) (N := 44) hx hb hts hin_X8 tyX8 tyX8_ok nmX8 hown hK hP hD hS 0 rfl rfl 0 (by decide) (w_RX8_99) (fun _ h9 => h9) rfl hin rfl (by decide +kernel) rfl rfl (Nat.le_of_ble_eq_true rfl) dX8_init_265 (fun H locs hP hD hS => ?_)
            have hP : va_P D vwCl [(h0, .inr (7, [.int (nI p0), .int 0, .int 0, .int 0, .int 0, .ref q6, .int 0, .int 0, .int 0, .ref q14, .ref q22, .ref q30, .int 0, .ref q39, .ref q48, .ref q56, .ref q64, .int 0, .ref q72, .ref q80, .ref q88, .ref q96, .ref q104, .ref q112, .ref q120, .ref q128, .int 0, .int 0, .int 0, .int 0, .int 0, .int 0, .ref q136, .ref q144, .ref q152, .ref q161, .int 0, .ref q169, .int 0, .ref q178, .ref q187, .ref q196, .ref q205, .ref q214])), (q6, .inl (cA 0, 5, .inl (fun _ => 0))), (q72, .inl (cA 0, 40, .inl (fun _ => 0))), (q80, .inl (cA 0, 40, .inl (fun _ => 0))), (q88, .inl (cA 0, 40, .inl (fun _ => 0))), (q96, .inl (cA 0, 40, .inl (fun _ => 0))), (q178, .inl (cA 0, 600, .inl (fun _ => 0))), (q187, .inl (cA 2, 600, .inr (.inl (fun _ => 0)))), (q196, .inl (cA 2, 600, .inr (.inl (fun _ => 0)))), (q205, .inl (cA 2, 600, .inr (.inl (fun _ => 0)))), (q214, .inl (cA 2, 600, .inr (.inl (fun _ => 0))))] H := hP
            have hD : va_D A [(h0, .inr (7, [.int (nI p0), .int 0, .int 0, .int 0, .int 0, .ref q6, .int 0, .int 0, .int 0, .ref q14, .ref q22, .ref q30, .int 0, .ref q39, .ref q48, .ref q56, .ref q64, .int 0, .ref q72, .ref q80, .ref q88, .ref q96, .ref q104, .ref q112, .ref q120, .ref q128, .int 0, .int 0, .int 0, .int 0, .int 0, .int 0, .ref q136, .ref q144, .ref q152, .ref q161, .int 0, .ref q169, .int 0, .ref q178, .ref q187, .ref q196, .ref q205, .ref q214])), (q6, .inl (cA 0, 5, .inl (fun _ => 0))), (q72, .inl (cA 0, 40, .inl (fun _ => 0))), (q80, .inl (cA 0, 40, .inl (fun _ => 0))), (q88, .inl (cA 0, 40, .inl (fun _ => 0))), (q96, .inl (cA 0, 40, .inl (fun _ => 0))), (q178, .inl (cA 0, 600, .inl (fun _ => 0))), (q187, .inl (cA 2, 600, .inr (.inl (fun _ => 0)))), (q196, .inl (cA 2, 600, .inr (.inl (fun _ => 0)))), (q205, .inl (cA 2, 600, .inr (.inl (fun _ => 0)))), (q214, .inl (cA 2, 600, .inr (.inl (fun _ => 0))))] := hD
            refine lv_aload_n hx hb dX8_init_268 rfl (lv_at hl 0 rfl) ?_
            refine lv_iload hx hb dX8_init_269 (lv_at hl 5 rfl) ?_
            refine lv_iconst (v := 1) hx hb dX8_init_271 (by decide) ?_
            refine lv_isub hx hb dX8_init_272 ?_
            refine lv_iconst (v := 2) hx hb dX8_init_273 (by decide) ?_
            refine lv_idiv hx hb dX8_init_274 (by decide) ?_
            rw [gq_half hq hp9]
            refine va_putF (D := D) (ci := 7) (v := .int (nI q0)) (ty := .int) (C := RX8) (T := TX8) (N := 44) hx hb hts hin_X8 tyX8 tyX8_ok nmX8 hown hK hP hD hS 0 rfl rfl 1 (by decide) (w_RX8_103) (fun _ h9 => h9) rfl hin rfl (by decide +kernel) rfl rfl (Nat.le_of_ble_eq_true rfl) dX8_init_275 (fun H locs hP hD hS => ?_)
            have hP : va_P D vwCl [(h0, .inr (7, [.int (nI p0), .int (nI q0), .int 0, .int 0, .int 0, .ref q6, .int 0, .int 0, .int 0, .ref q14, .ref q22, .ref q30, .int 0, .ref q39, .ref q48, .ref q56, .ref q64, .int 0, .ref q72, .ref q80, .ref q88, .ref q96, .ref q104, .ref q112, .ref q120, .ref q128, .int 0, .int 0, .int 0, .int 0, .int 0, .int 0, .ref q136, .ref q144, .ref q152, .ref q161, .int 0, .ref q169, .int 0, .ref q178, .ref q187, .ref q196, .ref q205, .ref q214])), (q6, .inl (cA 0, 5, .inl (fun _ => 0))), (q72, .inl (cA 0, 40, .inl (fun _ => 0))), (q80, .inl (cA 0, 40, .inl (fun _ => 0))), (q88, .inl (cA 0, 40, .inl (fun _ => 0))), (q96, .inl (cA 0, 40, .inl (fun _ => 0))), (q178, .inl (cA 0, 600, .inl (fun _ => 0))), (q187, .inl (cA 2, 600, .inr (.inl (fun _ => 0)))), (q196, .inl (cA 2, 600, .inr (.inl (fun _ => 0)))), (q205, .inl (cA 2, 600, .inr (.inl (fun _ => 0)))), (q214, .inl (cA 2, 600, .inr (.inl (fun _ => 0))))] H := hP
            have hD : va_D A [(h0, .inr (7, [.int (nI p0), .int (nI q0), .int 0, .int 0, .int 0, .ref q6, .int 0, .int 0, .int 0, .ref q14, .ref q22, .ref q30, .int 0, .ref q39, .ref q48, .ref q56, .ref q64, .int 0, .ref q72, .ref q80, .ref q88, .ref q96, .ref q104, .ref q112, .ref q120, .ref q128, .int 0, .int 0, .int 0, .int 0, .int 0, .int 0, .ref q136, .ref q144, .ref q152, .ref q161, .int 0, .ref q169, .int 0, .ref q178, .ref q187, .ref q196, .ref q205, .ref q214])), (q6, .inl (cA 0, 5, .inl (fun _ => 0))), (q72, .inl (cA 0, 40, .inl (fun _ => 0))), (q80, .inl (cA 0, 40, .inl (fun _ => 0))), (q88, .inl (cA 0, 40, .inl (fun _ => 0))), (q96, .inl (cA 0, 40, .inl (fun _ => 0))), (q178, .inl (cA 0, 600, .inl (fun _ => 0))), (q187, .inl (cA 2, 600, .inr (.inl (fun _ => 0)))), (q196, .inl (cA 2, 600, .inr (.inl (fun _ => 0)))), (q205, .inl (cA 2, 600, .inr (.inl (fun _ => 0)))), (q214, .inl (cA 2, 600, .inr (.inl (fun _ => 0))))] := hD
            refine lv_aload_n hx hb dX8_init_278 rfl (lv_at hl 0 rfl) ?_
            refine lv_iload_n hx hb dX8_init_279 rfl (lv_at hl 2 rfl) ?_
            refine lv_iconst (v := 1) hx hb dX8_init_280 (by decide) ?_
            refine lv_bipush (v := 10) hx hb dX8_init_281 (by decide) ?_
            refine rq_call1 (v := .int (wj cn 1 10)) (rn_S (As := [.int cn, .int 1, .int 10]) (rest := [.ref h0]) ⟨hx, hb, hml, hown, hts⟩ (c_X8_within l D cA cn 1 10) (va_cwS 3 hts gX8_init_X8_within rfl rfl rfl (by decide +kernel) ⟨Nat.le_of_ble_eq_true rfl, Nat.le_of_ble_eq_true rfl⟩) hK hP [] rfl rfl hl.1 rfl (Nat.le_of_ble_eq_true rfl) dX8_init_283 ⟨Nat.le_of_ble_eq_true rfl, Nat.le_of_ble_eq_true rfl⟩) ?_
            refine lv_iconst (v := 1) hx hb dX8_init_286 (by decide) ?_
            refine lv_aload_n hx hb dX8_init_287 rfl (lv_at hl 0 rfl) ?_
            refine va_get (D := D) (ci := 7) (v := .int (nI q0)) (C := RX8) (T := TX8) (N := 44) hx hb hts hin_X8 hown hK hP 0 rfl rfl 1 (by decide) (w_RX8_103) (fun _ h9 => h9) rfl dX8_init_288 ?_
            refine lv_iconst (v := 2) hx hb dX8_init_291 (by decide) ?_
            refine lv_isub hx hb dX8_init_292 ?_
            refine rq_call1 (v := .int (wj (wj cn 1 10) 1 ((nI q0) - 2))) (rn_S (As := [.int (wj cn 1 10), .int 1, .int ((nI q0) - 2)]) (rest := [.ref h0]) ⟨hx, hb, hml, hown, hts⟩ (c_X8_within l D cA (wj cn 1 10) 1 ((nI q0) - 2)) (va_cwS 3 hts gX8_init_X8_within rfl rfl rfl (by decide +kernel) ⟨Nat.le_of_ble_eq_true rfl, Nat.le_of_ble_eq_true rfl⟩) hK hP [] rfl rfl hl.1 rfl (Nat.le_of_ble_eq_true rfl) dX8_init_293 ⟨Nat.le_of_ble_eq_true rfl, Nat.le_of_ble_eq_true rfl⟩) ?_
            rw [hC8]
            refine va_putF (D := D) (ci := 7) (v := .int (nI c0)) (ty := .int) (C := RX8) (T := TX8) (N := 44) hx hb hts hin_X8 tyX8 tyX8_ok nmX8 hown hK hP hD hS 0 rfl rfl 2 (by decide) (w_RX8_106) (fun _ h9 => h9) rfl hin rfl (by decide +kernel) rfl rfl (Nat.le_of_ble_eq_true rfl) dX8_init_296 (fun H locs hP hD hS => ?_)
            have hP : va_P D vwCl [(h0, .inr (7, [.int (nI p0), .int (nI q0), .int (nI c0), .int 0, .int 0, .ref q6, .int 0, .int 0, .int 0, .ref q14, .ref q22, .ref q30, .int 0, .ref q39, .ref q48, .ref q56, .ref q64, .int 0, .ref q72, .ref q80, .ref q88, .ref q96, .ref q104, .ref q112, .ref q120, .ref q128, .int 0, .int 0, .int 0, .int 0, .int 0, .int 0, .ref q136, .ref q144, .ref q152, .ref q161, .int 0, .ref q169, .int 0, .ref q178, .ref q187, .ref q196, .ref q205, .ref q214])), (q6, .inl (cA 0, 5, .inl (fun _ => 0))), (q72, .inl (cA 0, 40, .inl (fun _ => 0))), (q80, .inl (cA 0, 40, .inl (fun _ => 0))), (q88, .inl (cA 0, 40, .inl (fun _ => 0))), (q96, .inl (cA 0, 40, .inl (fun _ => 0))), (q178, .inl (cA 0, 600, .inl (fun _ => 0))), (q187, .inl (cA 2, 600, .inr (.inl (fun _ => 0)))), (q196, .inl (cA 2, 600, .inr (.inl (fun _ => 0)))), (q205, .inl (cA 2, 600, .inr (.inl (fun _ => 0)))), (q214, .inl (cA 2, 600, .inr (.inl (fun _ => 0))))] H := hP
            have hD : va_D A [(h0, .inr (7, [.int (nI p0), .int (nI q0), .int (nI c0), .int 0, .int 0, .ref q6, .int 0, .int 0, .int 0, .ref q14, .ref q22, .ref q30, .int 0, .ref q39, .ref q48, .ref q56, .ref q64, .int 0, .ref q72, .ref q80, .ref q88, .ref q96, .ref q104, .ref q112, .ref q120, .ref q128, .int 0, .int 0, .int 0, .int 0, .int 0, .int 0, .ref q136, .ref q144, .ref q152, .ref q161, .int 0, .ref q169, .int 0, .ref q178, .ref q187, .ref q196, .ref q205, .ref q214])), (q6, .inl (cA 0, 5, .inl (fun _ => 0))), (q72, .inl (cA 0, 40, .inl (fun _ => 0))), (q80, .inl (cA 0, 40, .inl (fun _ => 0))), (q88, .inl (cA 0, 40, .inl (fun _ => 0))), (q96, .inl (cA 0, 40, .inl (fun _ => 0))), (q178, .inl (cA 0, 600, .inl (fun _ => 0))), (q187, .inl (cA 2, 600, .inr (.inl (fun _ => 0)))), (q196, .inl (cA 2, 600, .inr (.inl (fun _ => 0)))), (q205, .inl (cA 2, 600, .inr (.inl (fun _ => 0)))), (q214, .inl (cA 2, 600, .inr (.inl (fun _ => 0))))] := hD
            refine lv_aload_n hx hb dX8_init_299 rfl (lv_at hl 0 rfl) ?_
            refine lv_iload_n hx hb dX8_init_300 rfl (lv_at hl 3 rfl) ?_
            refine lv_iconst (v := 1) hx hb dX8_init_301 (by decide) ?_
            refine lv_iconst (v := 5) hx hb dX8_init_302 (by decide) ?_
            refine rq_call1 (v := .int (wj tr 1 5)) (rn_S (As := [.int tr, .int 1, .int 5]) (rest := [.ref h0]) ⟨hx, hb, hml, hown, hts⟩ (c_X8_within l D cA tr 1 5) (va_cwS 3 hts gX8_init_X8_within rfl rfl rfl (by decide +kernel) ⟨Nat.le_of_ble_eq_true rfl, Nat.le_of_ble_eq_true rfl⟩) hK hP [] rfl rfl hl.1 rfl (Nat.le_of_ble_eq_true rfl) dX8_init_303 ⟨Nat.le_of_ble_eq_true rfl, Nat.le_of_ble_eq_true rfl⟩) ?_
            refine lv_iconst (v := 1) hx hb dX8_init_306 (by decide) ?_
            refine lv_aload_n hx hb dX8_init_307 rfl (lv_at hl 0 rfl) ?_
            refine va_get (D := D) (ci := 7) (v := .int (nI q0)) (C := RX8) (T := TX8) (N := 44) hx hb hts hin_X8 hown hK hP 0 rfl rfl 1 (by decide) (w_RX8_103) (fun _ h9 => h9) rfl dX8_init_308 ?_
            refine lv_iconst (v := 1) hx hb dX8_init_311 (by decide) ?_
            refine lv_isub hx hb dX8_init_312 ?_
            refine rq_call1 (v := .int (wj (wj tr 1 5) 1 ((nI q0) - 1))) (rn_S (As := [.int (wj tr 1 5), .int 1, .int ((nI q0) - 1)]) (rest := [.ref h0]) ⟨hx, hb, hml, hown, hts⟩ (c_X8_within l D cA (wj tr 1 5) 1 ((nI q0) - 1)) (va_cwS 3 hts gX8_init_X8_within rfl rfl rfl (by decide +kernel) ⟨Nat.le_of_ble_eq_true rfl, Nat.le_of_ble_eq_true rfl⟩) hK hP [] rfl rfl hl.1 rfl (Nat.le_of_ble_eq_true rfl) dX8_init_313 ⟨Nat.le_of_ble_eq_true rfl, Nat.le_of_ble_eq_true rfl⟩) ?_
            rw [hT8]
            refine va_putF (D := D) (ci := 7) (v := .int (nI t0)) (ty := .int) (C := RX8) (T := TX8) (N := 44) hx hb hts hin_X8 tyX8 tyX8_ok nmX8 hown hK hP hD hS 0 rfl rfl 3 (by decide) (w_RX8_109) (fun _ h9 => h9) rfl hin rfl (by decide +kernel) rfl rfl (Nat.le_of_ble_eq_true rfl) dX8_init_316 (fun H locs hP hD hS => ?_)
            have hP : va_P D vwCl [(h0, .inr (7, [.int (nI p0), .int (nI q0), .int (nI c0), .int (nI t0), .int 0, .ref q6, .int 0, .int 0, .int 0, .ref q14, .ref q22, .ref q30, .int 0, .ref q39, .ref q48, .ref q56, .ref q64, .int 0, .ref q72, .ref q80, .ref q88, .ref q96, .ref q104, .ref q112, .ref q120, .ref q128, .int 0, .int 0, .int 0, .int 0, .int 0, .int 0, .ref q136, .ref q144, .ref q152, .ref q161, .int 0, .ref q169, .int 0, .ref q178, .ref q187, .ref q196, .ref q205, .ref q214])), (q6, .inl (cA 0, 5, .inl (fun _ => 0))), (q72, .inl (cA 0, 40, .inl (fun _ => 0))), (q80, .inl (cA 0, 40, .inl (fun _ => 0))), (q88, .inl (cA 0, 40, .inl (fun _ => 0))), (q96, .inl (cA 0, 40, .inl (fun _ => 0))), (q178, .inl (cA 0, 600, .inl (fun _ => 0))), (q187, .inl (cA 2, 600, .inr (.inl (fun _ => 0)))), (q196, .inl (cA 2, 600, .inr (.inl (fun _ => 0)))), (q205, .inl (cA 2, 600, .inr (.inl (fun _ => 0)))), (q214, .inl (cA 2, 600, .inr (.inl (fun _ => 0))))] H := hP
            have hD : va_D A [(h0, .inr (7, [.int (nI p0), .int (nI q0), .int (nI c0), .int (nI t0), .int 0, .ref q6, .int 0, .int 0, .int 0, .ref q14, .ref q22, .ref q30, .int 0, .ref q39, .ref q48, .ref q56, .ref q64, .int 0, .ref q72, .ref q80, .ref q88, .ref q96, .ref q104, .ref q112, .ref q120, .ref q128, .int 0, .int 0, .int 0, .int 0, .int 0, .int 0, .ref q136, .ref q144, .ref q152, .ref q161, .int 0, .ref q169, .int 0, .ref q178, .ref q187, .ref q196, .ref q205, .ref q214])), (q6, .inl (cA 0, 5, .inl (fun _ => 0))), (q72, .inl (cA 0, 40, .inl (fun _ => 0))), (q80, .inl (cA 0, 40, .inl (fun _ => 0))), (q88, .inl (cA 0, 40, .inl (fun _ => 0))), (q96, .inl (cA 0, 40, .inl (fun _ => 0))), (q178, .inl (cA 0, 600, .inl (fun _ => 0))), (q187, .inl (cA 2, 600, .inr (.inl (fun _ => 0)))), (q196, .inl (cA 2, 600, .inr (.inl (fun _ => 0)))), (q205, .inl (cA 2, 600, .inr (.inl (fun _ => 0)))), (q214, .inl (cA 2, 600, .inr (.inl (fun _ => 0))))] := hD
            refine lv_aload_n hx hb dX8_init_319 rfl (lv_at hl 0 rfl) ?_
            refine lv_iload hx hb dX8_init_320 (lv_at hl 4 rfl) ?_
            refine lv_iconst (v := 1) hx hb dX8_init_322 (by decide) ?_
            refine lv_aload_n hx hb dX8_init_323 rfl (lv_at hl 0 rfl) ?_
            refine va_get (D := D) (ci := 7) (v := .int (nI t0)) (C := RX8) (T := TX8) (N := 44) hx hb hts hin_X8 hown hK hP 0 rfl rfl 3 (by decide) (w_RX8_109) (fun _ h9 => h9) rfl dX8_init_324 ?_
            refine rq_call1 (v := .int (wj th 1 (nI t0))) (rn_S (As := [.int th, .int 1, .int (nI t0)]) (rest := [.ref h0]) ⟨hx, hb, hml, hown, hts⟩ (c_X8_within l D cA th 1 (nI t0)) (va_cwS 3 hts gX8_init_X8_within rfl rfl rfl (by decide +kernel) ⟨Nat.le_of_ble_eq_true rfl, Nat.le_of_ble_eq_true rfl⟩) hK hP [] rfl rfl hl.1 rfl (Nat.le_of_ble_eq_true rfl) dX8_init_327 ⟨Nat.le_of_ble_eq_true rfl, Nat.le_of_ble_eq_true rfl⟩) ?_
            rw [hK8]
            refine va_putF (D := D) (ci := 7) (v := .int (nI k0)) (ty := .int) (C := RX8) (T := TX8) (N := 44) hx hb hts hin_X8 tyX8 tyX8_ok nmX8 hown hK hP hD hS 0 rfl rfl 4 (by decide) (w_RX8_112) (fun _ h9 => h9) rfl hin rfl (by decide +kernel) rfl rfl (Nat.le_of_ble_eq_true rfl) dX8_init_330 (fun H locs hP hD hS => ?_)
            have hP : va_P D vwCl [(h0, .inr (7, [.int (nI p0), .int (nI q0), .int (nI c0), .int (nI t0), .int (nI k0), .ref q6, .int 0, .int 0, .int 0, .ref q14, .ref q22, .ref q30, .int 0, .ref q39, .ref q48, .ref q56, .ref q64, .int 0, .ref q72, .ref q80, .ref q88, .ref q96, .ref q104, .ref q112, .ref q120, .ref q128, .int 0, .int 0, .int 0, .int 0, .int 0, .int 0, .ref q136, .ref q144, .ref q152, .ref q161, .int 0, .ref q169, .int 0, .ref q178, .ref q187, .ref q196, .ref q205, .ref q214])), (q6, .inl (cA 0, 5, .inl (fun _ => 0))), (q72, .inl (cA 0, 40, .inl (fun _ => 0))), (q80, .inl (cA 0, 40, .inl (fun _ => 0))), (q88, .inl (cA 0, 40, .inl (fun _ => 0))), (q96, .inl (cA 0, 40, .inl (fun _ => 0))), (q178, .inl (cA 0, 600, .inl (fun _ => 0))), (q187, .inl (cA 2, 600, .inr (.inl (fun _ => 0)))), (q196, .inl (cA 2, 600, .inr (.inl (fun _ => 0)))), (q205, .inl (cA 2, 600, .inr (.inl (fun _ => 0)))), (q214, .inl (cA 2, 600, .inr (.inl (fun _ => 0))))] H := hP
            have hD : va_D A [(h0, .inr (7, [.int (nI p0), .int (nI q0), .int (nI c0), .int (nI t0), .int (nI k0), .ref q6, .int 0, .int 0, .int 0, .ref q14, .ref q22, .ref q30, .int 0, .ref q39, .ref q48, .ref q56, .ref q64, .int 0, .ref q72, .ref q80, .ref q88, .ref q96, .ref q104, .ref q112, .ref q120, .ref q128, .int 0, .int 0, .int 0, .int 0, .int 0, .int 0, .ref q136, .ref q144, .ref q152, .ref q161, .int 0, .ref q169, .int 0, .ref q178, .ref q187, .ref q196, .ref q205, .ref q214])), (q6, .inl (cA 0, 5, .inl (fun _ => 0))), (q72, .inl (cA 0, 40, .inl (fun _ => 0))), (q80, .inl (cA 0, 40, .inl (fun _ => 0))), (q88, .inl (cA 0, 40, .inl (fun _ => 0))), (q96, .inl (cA 0, 40, .inl (fun _ => 0))), (q178, .inl (cA 0, 600, .inl (fun _ => 0))), (q187, .inl (cA 2, 600, .inr (.inl (fun _ => 0)))), (q196, .inl (cA 2, 600, .inr (.inl (fun _ => 0)))), (q205, .inl (cA 2, 600, .inr (.inl (fun _ => 0)))), (q214, .inl (cA 2, 600, .inr (.inl (fun _ => 0))))] := hD
            refine lv_aload_n hx hb dX8_init_333 rfl (lv_at hl 0 rfl) ?_
            refine va_get (D := D) (ci := 7) (v := .ref q6) (C := RX8) (T := TX8) (N := 44) hx hb hts hin_X8 hown hK hP 0 rfl rfl 5 (by decide) (w_RX8_7) (fun _ h9 => h9) rfl dX8_init_334 ?_
            refine lv_iconst (v := 0) hx hb dX8_init_337 (by decide) ?_
            refine lv_iconst (v := 1) hx hb dX8_init_338 (by decide) ?_
            refine va_iast hx hb hK hP hD hS 1 0 rfl rfl (vp_in_nI (n := 0) (by decide) (by decide)) dX8_init_339 (fun H locs hP hD hS => ?_)
            have hP : va_P D vwCl [(h0, .inr (7, [.int (nI p0), .int (nI q0), .int (nI c0), .int (nI t0), .int (nI k0), .ref q6, .int 0, .int 0, .int 0, .ref q14, .ref q22, .ref q30, .int 0, .ref q39, .ref q48, .ref q56, .ref q64, .int 0, .ref q72, .ref q80, .ref q88, .ref q96, .ref q104, .ref q112, .ref q120, .ref q128, .int 0, .int 0, .int 0, .int 0, .int 0, .int 0, .ref q136, .ref q144, .ref q152, .ref q161, .int 0, .ref q169, .int 0, .ref q178, .ref q187, .ref q196, .ref q205, .ref q214])), (q6, .inl (cA 0, 5, .inl (upd (fun _ => 0) (0 : Int32).toNatClampNeg 1))), (q72, .inl (cA 0, 40, .inl (fun _ => 0))), (q80, .inl (cA 0, 40, .inl (fun _ => 0))), (q88, .inl (cA 0, 40, .inl (fun _ => 0))), (q96, .inl (cA 0, 40, .inl (fun _ => 0))), (q178, .inl (cA 0, 600, .inl (fun _ => 0))), (q187, .inl (cA 2, 600, .inr (.inl (fun _ => 0)))), (q196, .inl (cA 2, 600, .inr (.inl (fun _ => 0)))), (q205, .inl (cA 2, 600, .inr (.inl (fun _ => 0)))), (q214, .inl (cA 2, 600, .inr (.inl (fun _ => 0))))] H := hP
            have hD : va_D A [(h0, .inr (7, [.int (nI p0), .int (nI q0), .int (nI c0), .int (nI t0), .int (nI k0), .ref q6, .int 0, .int 0, .int 0, .ref q14, .ref q22, .ref q30, .int 0, .ref q39, .ref q48, .ref q56, .ref q64, .int 0, .ref q72, .ref q80, .ref q88, .ref q96, .ref q104, .ref q112, .ref q120, .ref q128, .int 0, .int 0, .int 0, .int 0, .int 0, .int 0, .ref q136, .ref q144, .ref q152, .ref q161, .int 0, .ref q169, .int 0, .ref q178, .ref q187, .ref q196, .ref q205, .ref q214])), (q6, .inl (cA 0, 5, .inl (upd (fun _ => 0) (0 : Int32).toNatClampNeg 1))), (q72, .inl (cA 0, 40, .inl (fun _ => 0))), (q80, .inl (cA 0, 40, .inl (fun _ => 0))), (q88, .inl (cA 0, 40, .inl (fun _ => 0))), (q96, .inl (cA 0, 40, .inl (fun _ => 0))), (q178, .inl (cA 0, 600, .inl (fun _ => 0))), (q187, .inl (cA 2, 600, .inr (.inl (fun _ => 0)))), (q196, .inl (cA 2, 600, .inr (.inl (fun _ => 0)))), (q205, .inl (cA 2, 600, .inr (.inl (fun _ => 0)))), (q214, .inl (cA 2, 600, .inr (.inl (fun _ => 0))))] := hD
            refine lv_aload_n hx hb dX8_init_340 rfl (lv_at hl 0 rfl) ?_
            refine wq_call0 (wc := [(h0, .inr (7, [.int (nI p0), .int (nI q0), .int (nI c0), .int (nI t0), .int (nI k0), .ref q6, .int 0, .int 0, .int 0, .ref q14, .ref q22, .ref q30, .int 0, .ref q39, .ref q48, .ref q56, .ref q64, .int 0, .ref q72, .ref q80, .ref q88, .ref q96, .ref q104, .ref q112, .ref q120, .ref q128, .int 0, .int 0, .int 0, .int 0, .int 0, .int 0, .ref q136, .ref q144, .ref q152, .ref q161, .int 0, .ref q169, .int 0, .ref q178, .ref q187, .ref q196, .ref q205, .ref q214])), (q72, .inl (cA 0, 40, .inl (fun _ => 0))), (q80, .inl (cA 0, 40, .inl (fun _ => 0))), (q88, .inl (cA 0, 40, .inl (fun _ => 0))), (q96, .inl (cA 0, 40, .inl (fun _ => 0)))]) (w1 := [(h0, .inr (7, [.int (nI p0), .int (nI q0), .int (nI c0), .int (nI t0), .int (nI k0), .ref q6, .int 0, .int 0, .int 0, .ref q14, .ref q22, .ref q30, .int 0, .ref q39, .ref q48, .ref q56, .ref q64, .int 0, .ref q72, .ref q80, .ref q88, .ref q96, .ref q104, .ref q112, .ref q120, .ref q128, .int 0, .int 0, .int 0, .int 0, .int 0, .int 0, .ref q136, .ref q144, .ref q152, .ref q161, .int 0, .ref q169, .int 0, .ref q178, .ref q187, .ref q196, .ref q205, .ref q214])), (q72, .inl (cA 0, 40, .inl (fun _ => -1))), (q80, .inl (cA 0, 40, .inl (fun _ => 0))), (q88, .inl (cA 0, 40, .inl (fun _ => -1))), (q96, .inl (cA 0, 40, .inl (fun _ => -1)))]) (ws' := [(h0, .inr (7, [.int (nI p0), .int (nI q0), .int (nI c0), .int (nI t0), .int (nI k0), .ref q6, .int 0, .int 0, .int 0, .ref q14, .ref q22, .ref q30, .int 0, .ref q39, .ref q48, .ref q56, .ref q64, .int 0, .ref q72, .ref q80, .ref q88, .ref q96, .ref q104, .ref q112, .ref q120, .ref q128, .int 0, .int 0, .int 0, .int 0, .int 0, .int 0, .ref q136, .ref q144, .ref q152, .ref q161, .int 0, .ref q169, .int 0, .ref q178, .ref q187, .ref q196, .ref q205, .ref q214])), (q6, .inl (cA 0, 5, .inl (upd (fun _ => 0) (0 : Int32).toNatClampNeg 1))), (q72, .inl (cA 0, 40, .inl (fun _ => -1))), (q80, .inl (cA 0, 40, .inl (fun _ => 0))), (q88, .inl (cA 0, 40, .inl (fun _ => -1))), (q96, .inl (cA 0, 40, .inl (fun _ => -1))), (q178, .inl (cA 0, 600, .inl (fun _ => 0))), (q187, .inl (cA 2, 600, .inr (.inl (fun _ => 0)))), (q196, .inl (cA 2, 600, .inr (.inl (fun _ => 0)))), (q205, .inl (cA 2, 600, .inr (.inl (fun _ => 0)))), (q214, .inl (cA 2, 600, .inr (.inl (fun _ => 0))))]) (wn_V (As := []) (rest := []) (ci := 7) (fs := [.int (nI p0), .int (nI q0), .int (nI c0), .int (nI t0), .int (nI k0), .ref q6, .int 0, .int 0, .int 0, .ref q14, .ref q22, .ref q30, .int 0, .ref q39, .ref q48, .ref q56, .ref q64, .int 0, .ref q72, .ref q80, .ref q88, .ref q96, .ref q104, .ref q112, .ref q120, .ref q128, .int 0, .int 0, .int 0, .int 0, .int 0, .int 0, .ref q136, .ref q144, .ref q152, .ref q161, .int 0, .ref q169, .int 0, .ref q178, .ref q187, .ref q196, .ref q205, .ref q214]) ⟨hx, hb, hml, hown, hts⟩ (c_X8_empty l D cA h0 (nI p0) (nI q0) (nI c0) (nI t0) (nI k0) q6 0 0 0 q14 q22 q30 0 q39 q48 q56 q64 0 q72 q80 q88 q96 q104 q112 q120 q128 0 0 0 0 0 0 q136 q144 q152 q161 0 q169 0 q178 q187 q196 q205 q214 (fun _ => 0) (fun _ => 0) (fun _ => 0) (fun _ => 0)) rfl (cwV 0 hts gX8_init_X8_empty rfl rfl rfl (by decide +kernel) ⟨Nat.le_of_ble_eq_true rfl, Nat.le_of_ble_eq_true rfl⟩) hK hP hD [0, 2, 3, 4, 5] rfl (by decide) rfl rfl rfl hl.1 rfl (Nat.le_of_ble_eq_true rfl) dX8_init_341 ⟨Nat.le_of_ble_eq_true rfl, Nat.le_of_ble_eq_true rfl⟩) hP hD hS [0, 2, 3, 4, 5] [1, 6, 7, 8, 9, 10] rfl rfl rfl rfl rfl rfl (fun H locs hP hD hS => ?_)
            refine W.widen (k := 26) (n := 4262) (by omega) (by omega) ?_
            have hP9 := hP.sub (ws' := [(h0, .inr (7, [.int (nI p0), .int (nI q0), .int (nI c0), .int (nI t0), .int (nI k0), .ref q6, .int 0, .int 0, .int 0, .ref q14, .ref q22, .ref q30, .int 0, .ref q39, .ref q48, .ref q56, .ref q64, .int 0, .ref q72, .ref q80, .ref q88, .ref q96, .ref q104, .ref q112, .ref q120, .ref q128, .int 0, .int 0, .int 0, .int 0, .int 0, .int 0, .ref q136, .ref q144, .ref q152, .ref q161, .int 0, .ref q169, .int 0, .ref q178, .ref q187, .ref q196, .ref q205, .ref q214])), (q6, .inl (cA 0, 5, .inl (upd (fun _ => 0) (0 : Int32).toNatClampNeg 1))), (q178, .inl (cA 0, 600, .inl (fun _ => 0))), (q187, .inl (cA 2, 600, .inr (.inl (fun _ => 0)))), (q196, .inl (cA 2, 600, .inr (.inl (fun _ => 0)))), (q205, .inl (cA 2, 600, .inr (.inl (fun _ => 0)))), (q214, .inl (cA 2, 600, .inr (.inl (fun _ => 0))))]) [0, 1, 6, 7, 8, 9, 10] rfl
            have hD9 := hD.sub (ws' := [(h0, .inr (7, [.int (nI p0), .int (nI q0), .int (nI c0), .int (nI t0), .int (nI k0), .ref q6, .int 0, .int 0, .int 0, .ref q14, .ref q22, .ref q30, .int 0, .ref q39, .ref q48, .ref q56, .ref q64, .int 0, .ref q72, .ref q80, .ref q88, .ref q96, .ref q104, .ref q112, .ref q120, .ref q128, .int 0, .int 0, .int 0, .int 0, .int 0, .int 0, .ref q136, .ref q144, .ref q152, .ref q161, .int 0, .ref q169, .int 0, .ref q178, .ref q187, .ref q196, .ref q205, .ref q214])), (q6, .inl (cA 0, 5, .inl (upd (fun _ => 0) (0 : Int32).toNatClampNeg 1))), (q178, .inl (cA 0, 600, .inl (fun _ => 0))), (q187, .inl (cA 2, 600, .inr (.inl (fun _ => 0)))), (q196, .inl (cA 2, 600, .inr (.inl (fun _ => 0)))), (q205, .inl (cA 2, 600, .inr (.inl (fun _ => 0)))), (q214, .inl (cA 2, 600, .inr (.inl (fun _ => 0))))]) [0, 1, 6, 7, 8, 9, 10] (by decide) rfl
            exact W.vret hx hb hr (fun t ht hW => ⟨⟨(fun i => [q6, q14, q22, q30, q39, q48, q56, q64, q72, q80, q88, q96, q104, q112, q120, q128, q136, q144, q152, q161, q169, q178, q187, q196, q205, q214].getD i 0), rfl, trivial, by rw [ht]; exact hP9, va_K.moved hW.alike hK, hD9⟩, hS.F ht⟩) hS.2.2 dX8_init_344
          · skip
            refine lv_iinc (v := (z + 1)) (lv' := [(5, .int (z + 1)), (0, .ref h0), (1, .int pr), (2, .int cn), (3, .int tr), (4, .int th)]) hx hb dX8_init_256 hl (k := 5) rfl rfl (by decide) rfl (fun ls hl => ?_)
            refine lv_goto (tgt := 229) hx hb dX8_init_259 (by decide) ?_
            exact ih (k + 1) (z + 1) (by rw [hz]; exact nI_1 k) (by omega) (by omega) (mi_lt hp h1 h2 (mi_no3 h_r_2 c_253)) ls (lv_sub hl [1, 2, 3, 4, 5, 0] rfl)
  exact loop229 (p0 + 1) n0 _ hN8 (by omega) (by omega) hp.1 ls (lv_sub hl [1, 2, 3, 4, 5, 0] rfl)
end
