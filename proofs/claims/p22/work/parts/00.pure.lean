/-! Pure numbers: safe primes by trial division, the class's search and the reference's. -/
def sp_prim (n : Nat) : Prop := 2 ≤ n ∧ ∀ d : Nat, 2 ≤ d → d * d ≤ n → ¬ n % d = 0
def sp_odd (n : Nat) : Prop := ∀ d : Nat, 3 ≤ d → d % 2 = 1 → d * d ≤ n → ¬ n % d = 0
def sp_safe (n : Nat) : Prop := sp_prim n ∧ n % 2 = 1 ∧ sp_prim ((n - 1) / 2)
def sp_least (x k : Nat) : Prop := x ≤ k ∧ sp_safe k ∧ ∀ m : Nat, x ≤ m → m < k → ¬ sp_safe m
theorem sp_uniq {x a b : Nat} (ha : sp_least x a) (hb : sp_least x b) : a = b := by
  rcases Nat.lt_trichotomy a b with h | h | h
  · exact absurd ha.2.1 (hb.2.2 a ha.1 h)
  · exact h
  · exact absurd hb.2.1 (ha.2.2 b hb.1 h)
theorem sp_even {n d : Nat} (h : n % d = 0) (hd : d % 2 = 0) : n % 2 = 0 := by
  have h1 : d ∣ n := Nat.dvd_of_mod_eq_zero h
  have h2 : 2 ∣ d := Nat.dvd_of_mod_eq_zero hd
  exact Nat.mod_eq_zero_of_dvd (Nat.dvd_trans h2 h1)
theorem sp_prim_of_odd {n : Nat} (h2 : 2 ≤ n) (ho : n % 2 = 1) (h : sp_odd n) : sp_prim n := by
  refine ⟨h2, fun d hd hdd hm => ?_⟩
  rcases Nat.mod_two_eq_zero_or_one d with e | e
  · have := sp_even hm e
    omega
  · exact h d (by omega) e hdd hm
theorem sp_odd_of_prim {n : Nat} (h : sp_prim n) : sp_odd n := fun d hd _ hdd => h.2 d (by omega) hdd
theorem sp_not3 {n : Nat} (h : sp_prim n) (hn : 4 ≤ n) : ¬ n % 3 = 0 := by
  by_cases h9 : 9 ≤ n
  · exact h.2 3 (by omega) (by omega)
  · intro h3
    have e6 : n = 6 := by omega
    subst e6
    exact h.2 2 (by omega) (by omega) (by omega)
theorem sp_not2 {n : Nat} (h : sp_prim n) (hn : 4 ≤ n) : n % 2 = 1 := by
  have := h.2 2 (by omega) (by omega)
  omega
theorem sp_iff {n : Nat} (h : 11 ≤ n) : sp_safe n ↔ (n % 12 = 11 ∧ sp_odd (n / 2) ∧ sp_odd n) := by
  constructor
  · rintro ⟨h1, h2, h3⟩
    have e : (n - 1) / 2 = n / 2 := by omega
    rw [e] at h3
    have q2 := sp_not2 h3 (by omega)
    have q3 := sp_not3 h3 (by omega)
    have n3 := sp_not3 h1 (by omega)
    have e1 : n / 2 % 3 = 2 := by omega
    have e2 : n / 2 % 6 = 5 := by omega
    have e3 : n = 2 * (n / 2) + 1 := by omega
    exact ⟨by omega, sp_odd_of_prim h3, sp_odd_of_prim h1⟩
  · rintro ⟨h1, h2, h3⟩
    have e : (n - 1) / 2 = n / 2 := by omega
    refine ⟨sp_prim_of_odd (by omega) (by omega) h3, by omega, ?_⟩
    rw [e]
    exact sp_prim_of_odd (by omega) (by omega) h2
theorem sp_chk {n B : Nat} (h2 : 2 ≤ n) (hB : n < B * B) (h : (List.range B).all (fun d => decide (d < 2) || decide (¬ n % d = 0)) = true) : sp_prim n := by
  refine ⟨h2, fun d hd hdd => ?_⟩
  have hlt : d < B := by
    rcases Nat.lt_or_ge d B with q | q
    · exact q
    · have := Nat.mul_le_mul q q
      omega
  have := List.all_eq_true.mp h d (List.mem_range.mpr hlt)
  simp only [Bool.or_eq_true, decide_eq_true_eq] at this
  rcases this with q | q
  · omega
  · exact q
theorem sp_top : sp_safe 999959 := ⟨sp_chk (B := 1000) (by omega) (by omega) (by decide +kernel), by omega, sp_chk (B := 708) (by omega) (by omega) (by decide +kernel)⟩
/-- taken into lo .. hi -/
def wi (x lo hi : Int32) : Int32 := if lo < (if x < hi then x else hi) then (if x < hi then x else hi) else lo
/-- a * b modulo q -/
def tm (q a b : Int32) : Int32 := (a.toInt64 * b.toInt64 - a.toInt64 * b.toInt64 / q.toInt64 * q.toInt64).toInt32
/-- one step of a digest -/
def dg (d x : Int64) : Int64 := (d ^^^ x) * 1099511628211
/-- a power by squaring -/
def pw (q : Int32) : Nat → Nat → Int32 → Int32 → Int32
  | 0, _, r, _ => r
  | f + 1, n, r, b => if n = 0 then r else pw q f (n / 2) (if n % 2 = 1 then tm q r b else r) (tm q b b)
theorem tm_ne {q : Int32} (h : 0 < q) : ¬ q.toInt64 = 0 := by
  intro e
  have h1 := congrArg Int64.toInt e
  rw [Int32.toInt_toInt64] at h1
  have h2 := Int32.lt_iff_toInt_lt.mp h
  have h3 : (0 : Int64).toInt = 0 := rfl
  have h4 : (0 : Int32).toInt = 0 := rfl
  omega
theorem nI_ne0z {z : Int32} {k : Nat} (hz : z = nI k) (h0 : 0 < k) (h : k < 2 ^ 31) : ¬ z = 0 := by rw [hz]; exact nI_ne0 h0 h
theorem op_div {n z : Int32} {n0 k : Nat} (hn : n = nI n0) (hN : n0 < 1000000) (hz : z = nI k) (h1 : 3 ≤ k) (h3 : k ≤ 1003) : n / z = nI (n0 / k) ∧ n - n / z * z = nI (n0 % k) := by
  subst hn; subst hz
  exact ⟨pk_div (by omega) (by omega) (by omega), pk_rem (by omega) (by omega) (by omega)⟩
theorem op_lt {n z : Int32} {n0 k : Nat} (hn : n = nI n0) (hN : n0 < 1000000) (hz : z = nI k) (h1 : 3 ≤ k) (h3 : k ≤ 1003) : n / z < z ↔ n0 < k * k := by
  have hd : n0 / k ≤ n0 := Nat.div_le_self _ _
  rw [(op_div hn hN hz h1 h3).1, hz, nI_ltI (by omega) (by omega)]
  exact Nat.div_lt_iff_lt_mul (by omega)
theorem op_yes {n z : Int32} {n0 k : Nat} (hn : n = nI n0) (hN : n0 < 1000000) (hz : z = nI k) (h1 : 3 ≤ k) (h3 : k ≤ 1003) (h4 : ∀ j : Nat, 3 ≤ j → j % 2 = 1 → j < k → ¬ n0 % j = 0) (c : n / z < z) : sp_odd n0 := by
  have hlt := (op_lt hn hN hz h1 h3).mp c
  intro d hd ho hdd
  refine h4 d hd ho ?_
  rcases Nat.lt_or_ge d k with q | q
  · exact q
  · have := Nat.mul_le_mul q q
    omega
theorem op_rem {n z : Int32} {n0 k : Nat} (hn : n = nI n0) (hN : n0 < 1000000) (hz : z = nI k) (h1 : 3 ≤ k) (h3 : k ≤ 1003) : n - n / z * z = 0 ↔ n0 % k = 0 := by
  have hm : n0 % k < k := Nat.mod_lt _ (by omega)
  rw [(op_div hn hN hz h1 h3).2, ← nI_0]
  exact nI_eq (by omega) (by omega)
theorem op_no {n z : Int32} {n0 k : Nat} (hn : n = nI n0) (hN : n0 < 1000000) (hz : z = nI k) (h1 : 3 ≤ k) (h2 : k % 2 = 1) (h3 : k ≤ 1003) (c : ¬ n / z < z) (c2 : n - n / z * z = 0) : ¬ sp_odd n0 := by
  rw [op_lt hn hN hz h1 h3] at c
  rw [op_rem hn hN hz h1 h3] at c2
  exact fun h => h k h1 h2 (by omega) c2
theorem op_next {n z : Int32} {n0 k : Nat} (hn : n = nI n0) (hN : n0 < 1000000) (hz : z = nI k) (h1 : 3 ≤ k) (h2 : k % 2 = 1) (h3 : k ≤ 1003) (h4 : ∀ j : Nat, 3 ≤ j → j % 2 = 1 → j < k → ¬ n0 % j = 0) (c : ¬ n / z < z) (c2 : ¬ n - n / z * z = 0) : k + 2 ≤ 1003 ∧ (∀ j : Nat, 3 ≤ j → j % 2 = 1 → j < k + 2 → ¬ n0 % j = 0) := by
  rw [op_lt hn hN hz h1 h3] at c
  rw [op_rem hn hN hz h1 h3] at c2
  refine ⟨?_, fun j a b d => ?_⟩
  · rcases Nat.lt_or_ge k 1000 with q | q
    · omega
    · have := Nat.mul_le_mul q q
      omega
  · rcases Nat.lt_or_ge j k with q | q
    · exact h4 j a b q
    · have e : j = k := by omega
      rw [e]; exact c2
theorem sf_half {z : Int32} {k : Nat} (hz : z = nI k) (h3 : k ≤ 999959) : z / 2 = nI (k / 2) := by
  rw [hz]; exact pk_div (a := k) (d := 2) (by omega) (by omega) (by omega)
theorem sf_start {n z : Int32} {n0 : Nat} (hn : n = nI n0) (h11 : 11 ≤ n0) (hN : n0 ≤ 999959) (hz : z = n + 11 - (n - n / 12 * 12)) : ∃ k : Nat, z = nI k ∧ n0 ≤ k ∧ k % 12 = 11 ∧ k ≤ 999959 ∧ ∀ j : Nat, n0 ≤ j → j < k → ¬ sp_safe j := by
  refine ⟨n0 + 11 - n0 % 12, ?_, by omega, by omega, by omega, fun j a b h => ?_⟩
  · rw [hz, hn, show (nI n0 - nI n0 / 12 * 12 : Int32) = nI (n0 % 12) from pk_rem (a := n0) (d := 12) (by omega) (by omega) (by omega), show (nI n0 + 11 : Int32) = nI (n0 + 11) from nI_add n0 11, pk_sub (by omega)]
  · have := ((sp_iff (by omega)).mp h).1
    omega
theorem sf_c13 {z : Int32} {k : Nat} (hz : z = nI k) (h3 : k ≤ 999959) : (999959 : Int32) ≤ z ↔ 999959 ≤ k := by
  rw [hz, show (999959 : Int32) = nI 999959 from rfl]
  exact nI_leI (by omega) (by omega)
theorem sf_yes {z r1 r2 : Int32} {n0 k : Nat} (hz : z = nI k) (h11 : 11 ≤ n0) (h1 : n0 ≤ k) (h2 : k % 12 = 11) (h3 : k ≤ 999959) (h4 : ∀ j : Nat, n0 ≤ j → j < k → ¬ sp_safe j) (a1 : (r1 = 1 ∧ sp_odd (k / 2)) ∨ (r1 = 0 ∧ ¬ sp_odd (k / 2))) (b1 : ¬ r1 = 0) (a2 : (r2 = 1 ∧ sp_odd k) ∨ (r2 = 0 ∧ ¬ sp_odd k)) (b2 : ¬ r2 = 0) : ∃ k' : Nat, k' ≤ 999959 ∧ z = nI k' ∧ sp_least n0 k' := by
  refine ⟨k, h3, hz, h1, (sp_iff (by omega)).mpr ⟨h2, ?_, ?_⟩, h4⟩
  · rcases a1 with q | q
    · exact q.2
    · exact absurd q.1 b1
  · rcases a2 with q | q
    · exact q.2
    · exact absurd q.1 b2
theorem sf_not1 {r1 : Int32} {n0 k : Nat} (h11 : 11 ≤ n0) (h1 : n0 ≤ k) (_ : k % 12 = 11) (a1 : (r1 = 1 ∧ sp_odd (k / 2)) ∨ (r1 = 0 ∧ ¬ sp_odd (k / 2))) (b1 : r1 = 0) : ¬ sp_safe k := by
  intro h
  have g := ((sp_iff (by omega)).mp h).2.1
  rcases a1 with q | q
  · rw [b1] at q; exact absurd q.1 (by decide)
  · exact q.2 g
theorem sf_not2 {r1 r2 : Int32} {n0 k : Nat} (h11 : 11 ≤ n0) (h1 : n0 ≤ k) (_ : k % 12 = 11) (_ : (r1 = 1 ∧ sp_odd (k / 2)) ∨ (r1 = 0 ∧ ¬ sp_odd (k / 2))) (_ : ¬ r1 = 0) (a2 : (r2 = 1 ∧ sp_odd k) ∨ (r2 = 0 ∧ ¬ sp_odd k)) (b2 : r2 = 0) : ¬ sp_safe k := by
  intro h
  have g := ((sp_iff (by omega)).mp h).2.2
  rcases a2 with q | q
  · rw [b2] at q; exact absurd q.1 (by decide)
  · exact q.2 g
theorem sf_next {z : Int32} {n0 k : Nat} (hz : z = nI k) (h11 : 11 ≤ n0) (h1 : n0 ≤ k) (h2 : k % 12 = 11) (h3 : k ≤ 999959) (h4 : ∀ j : Nat, n0 ≤ j → j < k → ¬ sp_safe j) (c : ¬ (999959 : Int32) ≤ z) (hn : ¬ sp_safe k) : k + 12 ≤ 999959 ∧ ∀ j : Nat, n0 ≤ j → j < k + 12 → ¬ sp_safe j := by
  rw [sf_c13 hz h3] at c
  refine ⟨by omega, fun j a b => ?_⟩
  rcases Nat.lt_or_ge j k with q | q
  · exact h4 j a q
  · by_cases e : j = k
    · rw [e]; exact hn
    · intro h
      have := ((sp_iff (by omega)).mp h).1
      omega
theorem sf_end {z : Int32} {n0 k : Nat} (hz : z = nI k) (h1 : n0 ≤ k) (h3 : k ≤ 999959) (h4 : ∀ j : Nat, n0 ≤ j → j < k → ¬ sp_safe j) (c : (999959 : Int32) ≤ z) : ∃ k' : Nat, k' ≤ 999959 ∧ (999959 : Int32) = nI k' ∧ sp_least n0 k' := by
  rw [sf_c13 hz h3] at c
  have e : k = 999959 := by omega
  subst e
  exact ⟨999959, by omega, rfl, h1, sp_top, h4⟩
theorem pw_end {q z r b R : Int32} {f n : Nat} (hz : z = nI n) (h3 : n < 2 ^ 31) (c : z ≤ 0) (hw : pw q (f + 1) n r b = R) : r = R := by
  rw [hz, ← nI_0, nI_leI h3 (by omega)] at c
  rw [← hw, pw, if_pos (by omega)]
theorem pw_step {q z r b R : Int32} {f n : Nat} (hz : z = nI n) (h2 : n < 2 ^ f) (h3 : n < 2 ^ 31) (c : ¬ z ≤ 0) (hw : pw q (f + 1) n r b = R) : (z &&& 1 = 1 ↔ n % 2 = 1) ∧ z >>> ((1 : Int32) &&& 31) = nI (n / 2) ∧ 0 < f ∧ n / 2 < 2 ^ (f - 1) ∧ pw q f (n / 2) (if n % 2 = 1 then tm q r b else r) (tm q b b) = R := by
  have hn : ¬ n = 0 := by
    intro e
    apply c
    rw [hz, e]
    decide
  have hf : 0 < f := by
    rcases Nat.eq_zero_or_pos f with e | e
    · rw [e] at h2; simp at h2; omega
    · exact e
  have h5 : n / 2 < 2 ^ (f - 1) := by
    obtain ⟨g, rfl⟩ : ∃ g, f = g + 1 := ⟨f - 1, by omega⟩
    rw [Nat.pow_succ] at h2
    simp
    omega
  refine ⟨?_, ?_, hf, h5, ?_⟩
  · rw [hz, show (nI n &&& 1 : Int32) = nI (n % 2) from pk_andN (n := n) (by omega) (m := 1) 1 rfl, show (1 : Int32) = nI 1 from rfl]
    exact nI_eq (by omega) (by omega)
  · rw [hz]
    exact pk_shrN h3 ((1 : Int32) &&& 31) 1 (by decide)
  · rw [pw, if_neg hn] at hw
    exact hw
theorem pw_odd {q z r b R : Int32} {f n : Nat} (hz : z = nI n) (h2 : n < 2 ^ (f + 1 - 1)) (h3 : n < 2 ^ 31) (c : ¬ z ≤ 0) (c2 : z &&& 1 = 1) (hw : pw q (f + 1) n r b = R) : z >>> ((1 : Int32) &&& 31) = nI (n / 2) ∧ 0 < f ∧ n / 2 < 2 ^ (f - 1) ∧ pw q f (n / 2) (tm q r b) (tm q b b) = R := by
  obtain ⟨g1, g2, g3, g4, g5⟩ := pw_step hz h2 h3 c hw
  rw [if_pos (g1.mp c2)] at g5
  exact ⟨g2, g3, g4, g5⟩
theorem pw_even {q z r b R : Int32} {f n : Nat} (hz : z = nI n) (h2 : n < 2 ^ (f + 1 - 1)) (h3 : n < 2 ^ 31) (c : ¬ z ≤ 0) (c2 : ¬ z &&& 1 = 1) (hw : pw q (f + 1) n r b = R) : z >>> ((1 : Int32) &&& 31) = nI (n / 2) ∧ 0 < f ∧ n / 2 < 2 ^ (f - 1) ∧ pw q f (n / 2) r (tm q b b) = R := by
  obtain ⟨g1, g2, g3, g4, g5⟩ := pw_step hz h2 h3 c hw
  rw [if_neg (fun h => c2 (g1.mpr h))] at g5
  exact ⟨g2, g3, g4, g5⟩
