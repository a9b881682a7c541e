def JJ (p0 q0 c0 t0 k0 kk v0 st0 n0 b0 mx ro rj mw un : Nat) (s : Nat → Int32) (a xA xB g : Nat → Nat → Int32) : Prop :=
  (p0 = 2 * q0 + 1 ∧ p0 ≤ 999959 ∧ 5 ≤ q0 ∧ (1 ≤ c0 ∧ c0 ≤ 10) ∧ (1 ≤ t0 ∧ t0 ≤ 5) ∧ (1 ≤ k0 ∧ k0 ≤ t0) ∧ t0 < q0) ∧
  (s 0 = nI p0) ∧
  (s 1 = nI q0) ∧
  (rng (s 0) (s 2)) ∧
  (s 3 = nI c0) ∧
  (s 4 = nI t0) ∧
  (s 5 = nI k0) ∧
  (s 6 = nI v0 ∧ v0 ≤ 40) ∧
  (s 7 = nI st0 ∧ st0 ≤ 3) ∧
  (s 8 = nI n0 ∧ n0 ≤ kk) ∧
  (s 9 = nI b0 ∧ b0 ≤ 40) ∧
  (s 10 = nI mx ∧ mx ≤ 4) ∧
  (s 11 = nI ro ∧ ro ≤ 8) ∧
  (s 12 = nI rj ∧ rj ≤ kk) ∧
  (s 13 = nI (gvc (a 1) t0)) ∧
  ((s 14 = 0 ∨ s 14 = 1)) ∧
  (s 15 = nI mw) ∧
  (s 16 = nI un) ∧
  (mx = mw + un + (if mx = 0 ∨ ¬ ro = 0 then 0 else 1)) ∧
  ((st0 < 2 → b0 = 0 ∧ mx = 0 ∧ s 18 = 0)) ∧
  ((mx = 0 → ro = 0 ∧ s 14 = 0 ∧ ∀ j : Nat, 1 ≤ j → j ≤ t0 → a 1 j = 0)) ∧
  ((st0 < 3 → ∀ c : Nat, a 2 c = 0)) ∧
  ((∀ i : Nat, i < k0 → nn (a 0 i) ∧ nt (a 0) i < q0)) ∧
  ((∀ v : Nat, v < 40 → (a 10 v = -1 ∧ a 31 v = 0) ∨ (¬ a 10 v = -1 ∧ ¬ a 31 v = 0 ∧ a 32 v = a 10 v ∧ a 33 v = a 11 v))) ∧
  ((∀ v : Nat, ¬ a 10 v = -1 → rng (s 0) (a 10 v))) ∧
  ((∀ i : Nat, a 3 i = -1 ∨ (nn (a 3 i) ∧ nt (a 3) i < b0 ∧ nn (a 12 i) ∧ nt (a 12) i < q0 ∧ a 38 i = a 12 i))) ∧
  ((∀ i : Nat, a 4 i = -1 ∨ rng (s 0) (a 4 i))) ∧
  ((∀ m : Nat, m ≤ mx → ∀ i : Nat, i < b0 → a 34 (40 * m + i) = xA m i ∧ a 35 (40 * m + i) = xB m i ∧ rng (s 0) (xA m i))) ∧
  ((1 ≤ mx → ∀ i : Nat, i < b0 → (nn (a 15 i) ∧ nt (a 15) i < b0) ∧ (nn (a 16 i) ∧ nt (a 16) i < q0) ∧ a 39 i = a 15 i ∧ a 40 i = a 16 i)) ∧
  ((¬ s 14 = 0 → whl (a 17) b0)) ∧
  ((¬ s 14 = 0 → ∀ i : Nat, i < b0 → (nn (a 17 i) ∧ nt (a 17) i < b0) ∧ (nn (a 18 i) ∧ nt (a 18) i < q0) ∧ a 41 i = a 17 i ∧ a 42 i = a 18 i ∧ a 36 i = a 13 i ∧ a 37 i = a 14 i)) ∧
  ((s 18 = 0 → ∀ i : Nat, i < 40 → a 19 i = -1 ∧ a 20 i = -1)) ∧
  ((¬ s 18 = 0 → ∀ i : Nat, i < b0 → a 43 i = a 19 i ∧ a 44 i = a 20 i)) ∧
  ((∀ j : Nat, 1 ≤ j → j ≤ t0 → ¬ a 1 j = 0 → ∀ i : Nat, i < b0 → a 45 (40 * j + i) = g j i ∧ rng (s 0) (g j i)))
theorem jj_cst {p0 q0 c0 t0 k0 kk v0 st0 n0 b0 mx ro rj mw un : Nat} {s : Nat → Int32} {a xA xB g : Nat → Nat → Int32} (h : JJ p0 q0 c0 t0 k0 kk v0 st0 n0 b0 mx ro rj mw un s a xA xB g) : p0 = 2 * q0 + 1 ∧ p0 ≤ 999959 ∧ 5 ≤ q0 ∧ (1 ≤ c0 ∧ c0 ≤ 10) ∧ (1 ≤ t0 ∧ t0 ≤ 5) ∧ (1 ≤ k0 ∧ k0 ≤ t0) ∧ t0 < q0 := h.1
theorem jj_e0 {p0 q0 c0 t0 k0 kk v0 st0 n0 b0 mx ro rj mw un : Nat} {s : Nat → Int32} {a xA xB g : Nat → Nat → Int32} (h : JJ p0 q0 c0 t0 k0 kk v0 st0 n0 b0 mx ro rj mw un s a xA xB g) : s 0 = nI p0 := h.2.1
theorem jj_e1 {p0 q0 c0 t0 k0 kk v0 st0 n0 b0 mx ro rj mw un : Nat} {s : Nat → Int32} {a xA xB g : Nat → Nat → Int32} (h : JJ p0 q0 c0 t0 k0 kk v0 st0 n0 b0 mx ro rj mw un s a xA xB g) : s 1 = nI q0 := h.2.2.1
theorem jj_e2 {p0 q0 c0 t0 k0 kk v0 st0 n0 b0 mx ro rj mw un : Nat} {s : Nat → Int32} {a xA xB g : Nat → Nat → Int32} (h : JJ p0 q0 c0 t0 k0 kk v0 st0 n0 b0 mx ro rj mw un s a xA xB g) : rng (s 0) (s 2) := h.2.2.2.1
theorem jj_e3 {p0 q0 c0 t0 k0 kk v0 st0 n0 b0 mx ro rj mw un : Nat} {s : Nat → Int32} {a xA xB g : Nat → Nat → Int32} (h : JJ p0 q0 c0 t0 k0 kk v0 st0 n0 b0 mx ro rj mw un s a xA xB g) : s 3 = nI c0 := h.2.2.2.2.1
theorem jj_e4 {p0 q0 c0 t0 k0 kk v0 st0 n0 b0 mx ro rj mw un : Nat} {s : Nat → Int32} {a xA xB g : Nat → Nat → Int32} (h : JJ p0 q0 c0 t0 k0 kk v0 st0 n0 b0 mx ro rj mw un s a xA xB g) : s 4 = nI t0 := h.2.2.2.2.2.1
theorem jj_e5 {p0 q0 c0 t0 k0 kk v0 st0 n0 b0 mx ro rj mw un : Nat} {s : Nat → Int32} {a xA xB g : Nat → Nat → Int32} (h : JJ p0 q0 c0 t0 k0 kk v0 st0 n0 b0 mx ro rj mw un s a xA xB g) : s 5 = nI k0 := h.2.2.2.2.2.2.1
theorem jj_e6 {p0 q0 c0 t0 k0 kk v0 st0 n0 b0 mx ro rj mw un : Nat} {s : Nat → Int32} {a xA xB g : Nat → Nat → Int32} (h : JJ p0 q0 c0 t0 k0 kk v0 st0 n0 b0 mx ro rj mw un s a xA xB g) : s 6 = nI v0 ∧ v0 ≤ 40 := h.2.2.2.2.2.2.2.1
theorem jj_e7 {p0 q0 c0 t0 k0 kk v0 st0 n0 b0 mx ro rj mw un : Nat} {s : Nat → Int32} {a xA xB g : Nat → Nat → Int32} (h : JJ p0 q0 c0 t0 k0 kk v0 st0 n0 b0 mx ro rj mw un s a xA xB g) : s 7 = nI st0 ∧ st0 ≤ 3 := h.2.2.2.2.2.2.2.2.1
theorem jj_e8 {p0 q0 c0 t0 k0 kk v0 st0 n0 b0 mx ro rj mw un : Nat} {s : Nat → Int32} {a xA xB g : Nat → Nat → Int32} (h : JJ p0 q0 c0 t0 k0 kk v0 st0 n0 b0 mx ro rj mw un s a xA xB g) : s 8 = nI n0 ∧ n0 ≤ kk := h.2.2.2.2.2.2.2.2.2.1
theorem jj_e9 {p0 q0 c0 t0 k0 kk v0 st0 n0 b0 mx ro rj mw un : Nat} {s : Nat → Int32} {a xA xB g : Nat → Nat → Int32} (h : JJ p0 q0 c0 t0 k0 kk v0 st0 n0 b0 mx ro rj mw un s a xA xB g) : s 9 = nI b0 ∧ b0 ≤ 40 := h.2.2.2.2.2.2.2.2.2.2.1
theorem jj_e10 {p0 q0 c0 t0 k0 kk v0 st0 n0 b0 mx ro rj mw un : Nat} {s : Nat → Int32} {a xA xB g : Nat → Nat → Int32} (h : JJ p0 q0 c0 t0 k0 kk v0 st0 n0 b0 mx ro rj mw un s a xA xB g) : s 10 = nI mx ∧ mx ≤ 4 := h.2.2.2.2.2.2.2.2.2.2.2.1
theorem jj_e11 {p0 q0 c0 t0 k0 kk v0 st0 n0 b0 mx ro rj mw un : Nat} {s : Nat → Int32} {a xA xB g : Nat → Nat → Int32} (h : JJ p0 q0 c0 t0 k0 kk v0 st0 n0 b0 mx ro rj mw un s a xA xB g) : s 11 = nI ro ∧ ro ≤ 8 := h.2.2.2.2.2.2.2.2.2.2.2.2.1
theorem jj_e12 {p0 q0 c0 t0 k0 kk v0 st0 n0 b0 mx ro rj mw un : Nat} {s : Nat → Int32} {a xA xB g : Nat → Nat → Int32} (h : JJ p0 q0 c0 t0 k0 kk v0 st0 n0 b0 mx ro rj mw un s a xA xB g) : s 12 = nI rj ∧ rj ≤ kk := h.2.2.2.2.2.2.2.2.2.2.2.2.2.1
theorem jj_e13 {p0 q0 c0 t0 k0 kk v0 st0 n0 b0 mx ro rj mw un : Nat} {s : Nat → Int32} {a xA xB g : Nat → Nat → Int32} (h : JJ p0 q0 c0 t0 k0 kk v0 st0 n0 b0 mx ro rj mw un s a xA xB g) : s 13 = nI (gvc (a 1) t0) := h.2.2.2.2.2.2.2.2.2.2.2.2.2.2.1
theorem jj_e14 {p0 q0 c0 t0 k0 kk v0 st0 n0 b0 mx ro rj mw un : Nat} {s : Nat → Int32} {a xA xB g : Nat → Nat → Int32} (h : JJ p0 q0 c0 t0 k0 kk v0 st0 n0 b0 mx ro rj mw un s a xA xB g) : (s 14 = 0 ∨ s 14 = 1) := h.2.2.2.2.2.2.2.2.2.2.2.2.2.2.2.1
theorem jj_e15 {p0 q0 c0 t0 k0 kk v0 st0 n0 b0 mx ro rj mw un : Nat} {s : Nat → Int32} {a xA xB g : Nat → Nat → Int32} (h : JJ p0 q0 c0 t0 k0 kk v0 st0 n0 b0 mx ro rj mw un s a xA xB g) : s 15 = nI mw := h.2.2.2.2.2.2.2.2.2.2.2.2.2.2.2.2.1
theorem jj_e16 {p0 q0 c0 t0 k0 kk v0 st0 n0 b0 mx ro rj mw un : Nat} {s : Nat → Int32} {a xA xB g : Nat → Nat → Int32} (h : JJ p0 q0 c0 t0 k0 kk v0 st0 n0 b0 mx ro rj mw un s a xA xB g) : s 16 = nI un := h.2.2.2.2.2.2.2.2.2.2.2.2.2.2.2.2.2.1
theorem jj_pr {p0 q0 c0 t0 k0 kk v0 st0 n0 b0 mx ro rj mw un : Nat} {s : Nat → Int32} {a xA xB g : Nat → Nat → Int32} (h : JJ p0 q0 c0 t0 k0 kk v0 st0 n0 b0 mx ro rj mw un s a xA xB g) : mx = mw + un + (if mx = 0 ∨ ¬ ro = 0 then 0 else 1) := h.2.2.2.2.2.2.2.2.2.2.2.2.2.2.2.2.2.2.1
theorem jj_b2 {p0 q0 c0 t0 k0 kk v0 st0 n0 b0 mx ro rj mw un : Nat} {s : Nat → Int32} {a xA xB g : Nat → Nat → Int32} (h : JJ p0 q0 c0 t0 k0 kk v0 st0 n0 b0 mx ro rj mw un s a xA xB g) : (st0 < 2 → b0 = 0 ∧ mx = 0 ∧ s 18 = 0) := h.2.2.2.2.2.2.2.2.2.2.2.2.2.2.2.2.2.2.2.1
theorem jj_m0 {p0 q0 c0 t0 k0 kk v0 st0 n0 b0 mx ro rj mw un : Nat} {s : Nat → Int32} {a xA xB g : Nat → Nat → Int32} (h : JJ p0 q0 c0 t0 k0 kk v0 st0 n0 b0 mx ro rj mw un s a xA xB g) : (mx = 0 → ro = 0 ∧ s 14 = 0 ∧ ∀ j : Nat, 1 ≤ j → j ≤ t0 → a 1 j = 0) := h.2.2.2.2.2.2.2.2.2.2.2.2.2.2.2.2.2.2.2.2.1
theorem jj_c3 {p0 q0 c0 t0 k0 kk v0 st0 n0 b0 mx ro rj mw un : Nat} {s : Nat → Int32} {a xA xB g : Nat → Nat → Int32} (h : JJ p0 q0 c0 t0 k0 kk v0 st0 n0 b0 mx ro rj mw un s a xA xB g) : (st0 < 3 → ∀ c : Nat, a 2 c = 0) := h.2.2.2.2.2.2.2.2.2.2.2.2.2.2.2.2.2.2.2.2.2.1
theorem jj_co {p0 q0 c0 t0 k0 kk v0 st0 n0 b0 mx ro rj mw un : Nat} {s : Nat → Int32} {a xA xB g : Nat → Nat → Int32} (h : JJ p0 q0 c0 t0 k0 kk v0 st0 n0 b0 mx ro rj mw un s a xA xB g) : (∀ i : Nat, i < k0 → nn (a 0 i) ∧ nt (a 0) i < q0) := h.2.2.2.2.2.2.2.2.2.2.2.2.2.2.2.2.2.2.2.2.2.2.1
theorem jj_ca {p0 q0 c0 t0 k0 kk v0 st0 n0 b0 mx ro rj mw un : Nat} {s : Nat → Int32} {a xA xB g : Nat → Nat → Int32} (h : JJ p0 q0 c0 t0 k0 kk v0 st0 n0 b0 mx ro rj mw un s a xA xB g) : (∀ v : Nat, v < 40 → (a 10 v = -1 ∧ a 31 v = 0) ∨ (¬ a 10 v = -1 ∧ ¬ a 31 v = 0 ∧ a 32 v = a 10 v ∧ a 33 v = a 11 v)) := h.2.2.2.2.2.2.2.2.2.2.2.2.2.2.2.2.2.2.2.2.2.2.2.1
theorem jj_cr {p0 q0 c0 t0 k0 kk v0 st0 n0 b0 mx ro rj mw un : Nat} {s : Nat → Int32} {a xA xB g : Nat → Nat → Int32} (h : JJ p0 q0 c0 t0 k0 kk v0 st0 n0 b0 mx ro rj mw un s a xA xB g) : (∀ v : Nat, ¬ a 10 v = -1 → rng (s 0) (a 10 v)) := h.2.2.2.2.2.2.2.2.2.2.2.2.2.2.2.2.2.2.2.2.2.2.2.2.1
theorem jj_sg {p0 q0 c0 t0 k0 kk v0 st0 n0 b0 mx ro rj mw un : Nat} {s : Nat → Int32} {a xA xB g : Nat → Nat → Int32} (h : JJ p0 q0 c0 t0 k0 kk v0 st0 n0 b0 mx ro rj mw un s a xA xB g) : (∀ i : Nat, a 3 i = -1 ∨ (nn (a 3 i) ∧ nt (a 3) i < b0 ∧ nn (a 12 i) ∧ nt (a 12) i < q0 ∧ a 38 i = a 12 i)) := h.2.2.2.2.2.2.2.2.2.2.2.2.2.2.2.2.2.2.2.2.2.2.2.2.2.1
theorem jj_fo {p0 q0 c0 t0 k0 kk v0 st0 n0 b0 mx ro rj mw un : Nat} {s : Nat → Int32} {a xA xB g : Nat → Nat → Int32} (h : JJ p0 q0 c0 t0 k0 kk v0 st0 n0 b0 mx ro rj mw un s a xA xB g) : (∀ i : Nat, a 4 i = -1 ∨ rng (s 0) (a 4 i)) := h.2.2.2.2.2.2.2.2.2.2.2.2.2.2.2.2.2.2.2.2.2.2.2.2.2.2.1
theorem jj_li {p0 q0 c0 t0 k0 kk v0 st0 n0 b0 mx ro rj mw un : Nat} {s : Nat → Int32} {a xA xB g : Nat → Nat → Int32} (h : JJ p0 q0 c0 t0 k0 kk v0 st0 n0 b0 mx ro rj mw un s a xA xB g) : (∀ m : Nat, m ≤ mx → ∀ i : Nat, i < b0 → a 34 (40 * m + i) = xA m i ∧ a 35 (40 * m + i) = xB m i ∧ rng (s 0) (xA m i)) := h.2.2.2.2.2.2.2.2.2.2.2.2.2.2.2.2.2.2.2.2.2.2.2.2.2.2.2.1
theorem jj_mm {p0 q0 c0 t0 k0 kk v0 st0 n0 b0 mx ro rj mw un : Nat} {s : Nat → Int32} {a xA xB g : Nat → Nat → Int32} (h : JJ p0 q0 c0 t0 k0 kk v0 st0 n0 b0 mx ro rj mw un s a xA xB g) : (1 ≤ mx → ∀ i : Nat, i < b0 → (nn (a 15 i) ∧ nt (a 15) i < b0) ∧ (nn (a 16 i) ∧ nt (a 16) i < q0) ∧ a 39 i = a 15 i ∧ a 40 i = a 16 i) := h.2.2.2.2.2.2.2.2.2.2.2.2.2.2.2.2.2.2.2.2.2.2.2.2.2.2.2.2.1
theorem jj_sw1 {p0 q0 c0 t0 k0 kk v0 st0 n0 b0 mx ro rj mw un : Nat} {s : Nat → Int32} {a xA xB g : Nat → Nat → Int32} (h : JJ p0 q0 c0 t0 k0 kk v0 st0 n0 b0 mx ro rj mw un s a xA xB g) : (¬ s 14 = 0 → whl (a 17) b0) := h.2.2.2.2.2.2.2.2.2.2.2.2.2.2.2.2.2.2.2.2.2.2.2.2.2.2.2.2.2.1
theorem jj_sd {p0 q0 c0 t0 k0 kk v0 st0 n0 b0 mx ro rj mw un : Nat} {s : Nat → Int32} {a xA xB g : Nat → Nat → Int32} (h : JJ p0 q0 c0 t0 k0 kk v0 st0 n0 b0 mx ro rj mw un s a xA xB g) : (¬ s 14 = 0 → ∀ i : Nat, i < b0 → (nn (a 17 i) ∧ nt (a 17) i < b0) ∧ (nn (a 18 i) ∧ nt (a 18) i < q0) ∧ a 41 i = a 17 i ∧ a 42 i = a 18 i ∧ a 36 i = a 13 i ∧ a 37 i = a 14 i) := h.2.2.2.2.2.2.2.2.2.2.2.2.2.2.2.2.2.2.2.2.2.2.2.2.2.2.2.2.2.2.1
theorem jj_w0 {p0 q0 c0 t0 k0 kk v0 st0 n0 b0 mx ro rj mw un : Nat} {s : Nat → Int32} {a xA xB g : Nat → Nat → Int32} (h : JJ p0 q0 c0 t0 k0 kk v0 st0 n0 b0 mx ro rj mw un s a xA xB g) : (s 18 = 0 → ∀ i : Nat, i < 40 → a 19 i = -1 ∧ a 20 i = -1) := h.2.2.2.2.2.2.2.2.2.2.2.2.2.2.2.2.2.2.2.2.2.2.2.2.2.2.2.2.2.2.2.1
theorem jj_w1 {p0 q0 c0 t0 k0 kk v0 st0 n0 b0 mx ro rj mw un : Nat} {s : Nat → Int32} {a xA xB g : Nat → Nat → Int32} (h : JJ p0 q0 c0 t0 k0 kk v0 st0 n0 b0 mx ro rj mw un s a xA xB g) : (¬ s 18 = 0 → ∀ i : Nat, i < b0 → a 43 i = a 19 i ∧ a 44 i = a 20 i) := h.2.2.2.2.2.2.2.2.2.2.2.2.2.2.2.2.2.2.2.2.2.2.2.2.2.2.2.2.2.2.2.2.1
theorem jj_gi {p0 q0 c0 t0 k0 kk v0 st0 n0 b0 mx ro rj mw un : Nat} {s : Nat → Int32} {a xA xB g : Nat → Nat → Int32} (h : JJ p0 q0 c0 t0 k0 kk v0 st0 n0 b0 mx ro rj mw un s a xA xB g) : (∀ j : Nat, 1 ≤ j → j ≤ t0 → ¬ a 1 j = 0 → ∀ i : Nat, i < b0 → a 45 (40 * j + i) = g j i ∧ rng (s 0) (g j i)) := h.2.2.2.2.2.2.2.2.2.2.2.2.2.2.2.2.2.2.2.2.2.2.2.2.2.2.2.2.2.2.2.2.2
theorem bx_g {i x : Int32} {n : Nat} (h : 0 ≤ i ∧ i < x) (hb : x = nI n) (hn : n < 2 ^ 30) : ∃ k : Nat, k < n ∧ i = nI k := by
  obtain ⟨k, hk, e⟩ := nI_of (x := i) (Int32.not_lt.mpr h.1)
  have h2 := h.2
  rw [e, hb, nI_ltI hk (by omega)] at h2
  exact ⟨k, h2, e⟩
theorem rng_of {w x : Int32} {p0 : Nat} (h : 1 ≤ w ∧ w < x) (hx : x = nI p0) (hp : p0 < 1000000) : rng x w := by
  obtain ⟨k, hk, e⟩ := bx_g (i := w) (x := x) ⟨Int32.le_trans (by decide) h.1, h.2⟩ hx (by omega)
  exact ⟨k, p0, e, hx, hk, hp⟩
theorem st_of {p0 q0 c0 t0 k0 kk v0 st0 n0 b0 mx ro rj mw un : Nat} {s : Nat → Int32} {a xA xB g : Nat → Nat → Int32} (h : JJ p0 q0 c0 t0 k0 kk v0 st0 n0 b0 mx ro rj mw un s a xA xB g) {st : Nat} (e : s 7 = nI st) (hs : st < 100) : st0 = st := by
  have h7 := jj_e7 h
  rw [h7.1] at e
  exact (nI_eq (by omega) (by omega)).mp e
theorem gar_all {g v w : Nat → Int32} {P : Int32 → Prop} : ∀ (k i : Nat), i < gcn g k → (∀ j : Nat, j < k → ¬ g j = -1 → P (v j)) → P (gar g v w k i)
  | 0, i, h, _ => by
    have : gcn g 0 = 0 := rfl
    omega
  | k + 1, i, h, hp => by
    have e1 : gcn g (k + 1) = if g k = -1 then gcn g k else gcn g k + 1 := rfl
    show P ((if g k = -1 then gar g v w k else upd (gar g v w k) (gcn g k) (v k)) i)
    by_cases c : g k = -1
    · rw [if_pos c] at e1
      rw [if_pos c]
      exact gar_all k i (by omega) (fun j hj => hp j (by omega))
    · rw [if_neg c] at e1
      rw [if_neg c]
      by_cases e : i = gcn g k
      · rw [e, pk_us]; exact hp k (by omega) c
      · rw [pk_un e]
        exact gar_all k i (by omega) (fun j hj => hp j (by omega))
theorem sg_mv {p0 q0 c0 t0 k0 kk v0 st0 n0 b0 mx ro rj mw un : Nat} {s : Nat → Int32} {a xA xB g : Nat → Nat → Int32} (h : JJ p0 q0 c0 t0 k0 kk v0 st0 n0 b0 mx ro rj mw un s a xA xB g) (hw : whl (a 3) b0) : ∀ i : Nat, i < b0 → nn (a 3 i) ∧ nt (a 3) i < b0 ∧ nn (a 12 i) ∧ nt (a 12) i < q0 ∧ a 38 i = a 12 i :=
  fun i hi => (jj_sg h i).resolve_left (hw.1 i hi)
theorem shv_r {P b : Int32} {p0 k : Nat} {ff src to ex : Nat → Int32} (hP : P = nI p0) (hp : 2 ≤ p0 ∧ p0 < 1000000) (hs : rng P (src k)) (hf : ff (nt to k) = -1 ∨ rng P (ff (nt to k))) (b0 : Nat := 4) (hb : b = nI b0 := by rfl) (hb1 : b0 < 1000000 := by omega) : rng P (shv P b ff ff src to ex k) := by
  unfold shv
  by_cases c : ff (nt to k) = -1
  · rw [if_pos c]; exact tm_r2 hs (pw_rng hP hp _ b b0 hb hb1)
  · rw [if_neg c]; exact hf.resolve_left c
theorem un_add {x y : Int32} {mx ro un : Nat} (hx : x = nI mx ∧ mx ≤ 4) (hy : y = nI ro ∧ ro ≤ 8) : nI un + (if 0 < x ∧ y = 0 then 1 else 0) = nI (un + (if 0 < mx ∧ ro = 0 then 1 else 0)) := by
  have h1 : (0 < x ∧ y = 0) ↔ (0 < mx ∧ ro = 0) := by
    rw [hx.1, hy.1, show (0 : Int32) = nI 0 from rfl, nI_ltI (by omega) (by omega), nI_eq (by omega) (by omega)]
  by_cases c : 0 < mx ∧ ro = 0
  · rw [if_pos c, if_pos (h1.mpr c)]; exact nI_1 un
  · rw [if_neg c, if_neg (fun q => c (h1.mp q)), Int32.add_zero]; rfl
theorem mw_add {y : Int32} {ro mw : Nat} (hy : y = nI ro ∧ ro ≤ 8) : nI mw + (if y = 0 then 1 else 0) = nI (mw + (if ro = 0 then 1 else 0)) := by
  have h1 : y = 0 ↔ ro = 0 := by rw [hy.1, show (0 : Int32) = nI 0 from rfl, nI_eq (by omega) (by omega)]
  by_cases c : ro = 0
  · rw [if_pos c, if_pos (h1.mpr c)]; exact nI_1 mw
  · rw [if_neg c, if_neg (fun q => c (h1.mp q)), Int32.add_zero]; rfl
theorem pr_mix {mx mw un ro : Nat} (h : mx = mw + un + (if mx = 0 ∨ ¬ ro = 0 then 0 else 1)) : mx + 1 = mw + (un + (if 0 < mx ∧ ro = 0 then 1 else 0)) + (if mx + 1 = 0 ∨ ¬ 0 = 0 then 0 else 1) := by
  rw [if_neg (c := mx + 1 = 0 ∨ ¬ 0 = 0) (by omega)]
  by_cases c : 0 < mx ∧ ro = 0
  · rw [if_pos c]; rw [if_neg (by omega)] at h; omega
  · rw [if_neg c]; rw [if_pos (by omega)] at h; omega
theorem pr_sh {mx mw un ro m1 : Nat} (hm : mx = m1 + 1) (h : mx = mw + un + (if mx = 0 ∨ ¬ ro = 0 then 0 else 1)) : mx = mw + (if ro = 0 then 1 else 0) + un + (if mx = 0 ∨ ¬ ro + 1 = 0 then 0 else 1) := by
  rw [if_pos (c := mx = 0 ∨ ¬ ro + 1 = 0) (by omega)]
  by_cases c : ro = 0
  · rw [if_pos c]; rw [if_neg (by omega)] at h; omega
  · rw [if_neg c]; rw [if_pos (by omega)] at h; omega
theorem rj_add {rj : Nat} {P : Prop} [Decidable P] : nI rj + (1 - bI P) = nI (rj + (if P then 0 else 1)) := by
  unfold bI
  by_cases c : P
  · rw [if_pos c, if_pos c]; show nI rj + (1 - 1) = _; rw [show (1 - 1 : Int32) = 0 from rfl, Int32.add_zero]; rfl
  · rw [if_neg c, if_neg c]; show nI rj + (1 - 0) = _; rw [show (1 - 0 : Int32) = 1 from rfl]; exact nI_1 rj
theorem gvc_new {gv : Nat → Int32} {j : Nat} (hj : 1 ≤ j) (h0 : gv j = 0) {x : Int32} (hx : ¬ x = 0) : ∀ k : Nat, gvc (upd gv j x) k = gvc gv k + (if j ≤ k then 1 else 0)
  | 0 => by rw [if_neg (by omega)]; rfl
  | k + 1 => by
    show (if upd gv j x (k + 1) = 0 then gvc (upd gv j x) k else gvc (upd gv j x) k + 1) = (if gv (k + 1) = 0 then gvc gv k else gvc gv k + 1) + _
    rw [gvc_new hj h0 hx k]
    by_cases e : k + 1 = j
    · rw [e, pk_us, if_neg hx, h0, if_pos rfl, if_neg (by omega), if_pos (Nat.le_refl _)]
    · rw [pk_un e]
      by_cases c : gv (k + 1) = 0
      · rw [if_pos c, if_pos c]
        by_cases d : j ≤ k
        · rw [if_pos d, if_pos (by omega)]
        · rw [if_neg d, if_neg (by omega)]
      · rw [if_neg c, if_neg c]
        by_cases d : j ≤ k
        · rw [if_pos d, if_pos (by omega)]
        · rw [if_neg d, if_neg (by omega)]
theorem gvc_upd {gv : Nat → Int32} {j : Int32} {j0 t0 : Nat} (h0 : gv j.toNatClampNeg = 0) (hj : j = nI j0) (hj1 : 1 ≤ j0 ∧ j0 ≤ t0) (ht : t0 ≤ 5) : nI (gvc gv t0) + 1 = nI (gvc (upd gv j.toNatClampNeg (vp_nar .boolean 1)) t0) := by
  have ej : j.toNatClampNeg = j0 := by rw [hj]; exact nI_clamp (by omega)
  rw [ej] at h0 ⊢
  rw [gvc_new hj1.1 h0 (by decide), if_pos hj1.2]
  exact nI_1 _
set_option maxRecDepth 20000 in
theorem J_same {p0 q0 c0 t0 k0 kk v0 st0 n0 b0 mx ro rj mw un : Nat} {s : Nat → Int32} {a xA xB g : Nat → Nat → Int32}  (h : JJ p0 q0 c0 t0 k0 kk v0 st0 n0 b0 mx ro rj mw un s a xA xB g)  : JJ p0 q0 c0 t0 k0 (kk + 1) v0 st0 n0 b0 mx ro rj mw un s a xA xB g := by
  refine ⟨h.1, h.2.1, h.2.2.1, h.2.2.2.1, h.2.2.2.2.1, h.2.2.2.2.2.1, h.2.2.2.2.2.2.1, h.2.2.2.2.2.2.2.1, h.2.2.2.2.2.2.2.2.1, ⟨(jj_e8 h).1, Nat.le_succ_of_le (jj_e8 h).2⟩, h.2.2.2.2.2.2.2.2.2.2.1, h.2.2.2.2.2.2.2.2.2.2.2.1, h.2.2.2.2.2.2.2.2.2.2.2.2.1, ⟨(jj_e12 h).1, Nat.le_succ_of_le (jj_e12 h).2⟩, h.2.2.2.2.2.2.2.2.2.2.2.2.2.2.1, h.2.2.2.2.2.2.2.2.2.2.2.2.2.2.2.1, h.2.2.2.2.2.2.2.2.2.2.2.2.2.2.2.2.1, h.2.2.2.2.2.2.2.2.2.2.2.2.2.2.2.2.2.1, h.2.2.2.2.2.2.2.2.2.2.2.2.2.2.2.2.2.2.1, h.2.2.2.2.2.2.2.2.2.2.2.2.2.2.2.2.2.2.2.1, h.2.2.2.2.2.2.2.2.2.2.2.2.2.2.2.2.2.2.2.2.1, h.2.2.2.2.2.2.2.2.2.2.2.2.2.2.2.2.2.2.2.2.2.1, h.2.2.2.2.2.2.2.2.2.2.2.2.2.2.2.2.2.2.2.2.2.2.1, h.2.2.2.2.2.2.2.2.2.2.2.2.2.2.2.2.2.2.2.2.2.2.2.1, h.2.2.2.2.2.2.2.2.2.2.2.2.2.2.2.2.2.2.2.2.2.2.2.2.1, h.2.2.2.2.2.2.2.2.2.2.2.2.2.2.2.2.2.2.2.2.2.2.2.2.2.1, h.2.2.2.2.2.2.2.2.2.2.2.2.2.2.2.2.2.2.2.2.2.2.2.2.2.2.1, h.2.2.2.2.2.2.2.2.2.2.2.2.2.2.2.2.2.2.2.2.2.2.2.2.2.2.2.1, h.2.2.2.2.2.2.2.2.2.2.2.2.2.2.2.2.2.2.2.2.2.2.2.2.2.2.2.2.1, h.2.2.2.2.2.2.2.2.2.2.2.2.2.2.2.2.2.2.2.2.2.2.2.2.2.2.2.2.2.1, h.2.2.2.2.2.2.2.2.2.2.2.2.2.2.2.2.2.2.2.2.2.2.2.2.2.2.2.2.2.2.1, h.2.2.2.2.2.2.2.2.2.2.2.2.2.2.2.2.2.2.2.2.2.2.2.2.2.2.2.2.2.2.2.1, h.2.2.2.2.2.2.2.2.2.2.2.2.2.2.2.2.2.2.2.2.2.2.2.2.2.2.2.2.2.2.2.2.1, h.2.2.2.2.2.2.2.2.2.2.2.2.2.2.2.2.2.2.2.2.2.2.2.2.2.2.2.2.2.2.2.2.2⟩

set_option maxRecDepth 20000 in
theorem J_secret {p0 q0 c0 t0 k0 kk v0 st0 n0 b0 mx ro rj mw un : Nat} {s : Nat → Int32} {a xA xB g : Nat → Nat → Int32} {i v : Int32} (h : JJ p0 q0 c0 t0 k0 kk v0 st0 n0 b0 mx ro rj mw un s a xA xB g) (hok : s 7 = 0 ∧ scC i v (s 5) (s 1)) : JJ p0 q0 c0 t0 k0 (kk + 1) v0 st0 n0 b0 mx ro rj mw un s (upr a 0 (upd (a 0) i.toNatClampNeg v)) xA xB g := by
  refine ⟨h.1, h.2.1, h.2.2.1, h.2.2.2.1, h.2.2.2.2.1, h.2.2.2.2.2.1, h.2.2.2.2.2.2.1, h.2.2.2.2.2.2.2.1, h.2.2.2.2.2.2.2.2.1, ⟨(jj_e8 h).1, Nat.le_succ_of_le (jj_e8 h).2⟩, h.2.2.2.2.2.2.2.2.2.2.1, h.2.2.2.2.2.2.2.2.2.2.2.1, h.2.2.2.2.2.2.2.2.2.2.2.2.1, ⟨(jj_e12 h).1, Nat.le_succ_of_le (jj_e12 h).2⟩, h.2.2.2.2.2.2.2.2.2.2.2.2.2.2.1, h.2.2.2.2.2.2.2.2.2.2.2.2.2.2.2.1, h.2.2.2.2.2.2.2.2.2.2.2.2.2.2.2.2.1, h.2.2.2.2.2.2.2.2.2.2.2.2.2.2.2.2.2.1, h.2.2.2.2.2.2.2.2.2.2.2.2.2.2.2.2.2.2.1, h.2.2.2.2.2.2.2.2.2.2.2.2.2.2.2.2.2.2.2.1, h.2.2.2.2.2.2.2.2.2.2.2.2.2.2.2.2.2.2.2.2.1, h.2.2.2.2.2.2.2.2.2.2.2.2.2.2.2.2.2.2.2.2.2.1, ?_, h.2.2.2.2.2.2.2.2.2.2.2.2.2.2.2.2.2.2.2.2.2.2.2.1, h.2.2.2.2.2.2.2.2.2.2.2.2.2.2.2.2.2.2.2.2.2.2.2.2.1, h.2.2.2.2.2.2.2.2.2.2.2.2.2.2.2.2.2.2.2.2.2.2.2.2.2.1, h.2.2.2.2.2.2.2.2.2.2.2.2.2.2.2.2.2.2.2.2.2.2.2.2.2.2.1, h.2.2.2.2.2.2.2.2.2.2.2.2.2.2.2.2.2.2.2.2.2.2.2.2.2.2.2.1, h.2.2.2.2.2.2.2.2.2.2.2.2.2.2.2.2.2.2.2.2.2.2.2.2.2.2.2.2.1, h.2.2.2.2.2.2.2.2.2.2.2.2.2.2.2.2.2.2.2.2.2.2.2.2.2.2.2.2.2.1, h.2.2.2.2.2.2.2.2.2.2.2.2.2.2.2.2.2.2.2.2.2.2.2.2.2.2.2.2.2.2.1, h.2.2.2.2.2.2.2.2.2.2.2.2.2.2.2.2.2.2.2.2.2.2.2.2.2.2.2.2.2.2.2.1, h.2.2.2.2.2.2.2.2.2.2.2.2.2.2.2.2.2.2.2.2.2.2.2.2.2.2.2.2.2.2.2.2.1, h.2.2.2.2.2.2.2.2.2.2.2.2.2.2.2.2.2.2.2.2.2.2.2.2.2.2.2.2.2.2.2.2.2⟩
  · intro k hk
    obtain ⟨x, hx, e⟩ := bx_g hok.2.2.2.1 (jj_e1 h) (by have := jj_cst h; omega)
    show nn (upd (a 0) i.toNatClampNeg v k) ∧ (upd (a 0) i.toNatClampNeg v k).toNatClampNeg < q0
    by_cases q : k = i.toNatClampNeg
    · rw [q, pk_us, e]; exact ⟨nn_nI (by have := jj_cst h; omega), by rw [nI_clamp (by have := jj_cst h; omega)]; exact hx⟩
    · rw [pk_un q]; exact jj_co h k hk

set_option maxRecDepth 20000 in
theorem J_key {p0 q0 c0 t0 k0 kk v0 st0 n0 b0 mx ro rj mw un : Nat} {s : Nat → Int32} {a xA xB g : Nat → Nat → Int32} {y : Int32} {n : Nat} (h : JJ p0 q0 c0 t0 k0 kk v0 st0 n0 b0 mx ro rj mw un s a xA xB g) (hok : s 7 = 0) : JJ p0 q0 c0 t0 k0 (kk + 1) v0 1 (n0 + 1) b0 mx ro rj mw un (upd (upd (upd s 7 (1)) 2 (pw (s 0) 32 n 1 4)) 8 (s 8 + 1)) (upr (upr (upr a 6 (upd (a 6) (s 8).toNatClampNeg (1))) 7 (upd (a 7) (s 8).toNatClampNeg (pw (s 0) 32 n 1 4))) 8 (upd (a 8) (s 8).toNatClampNeg (y))) xA xB g := by
  have hst := st_of h (st := 0) hok (by omega)
  have hb := jj_b2 h (by omega)
  have hc := jj_c3 h (by omega)
  refine ⟨h.1, h.2.1, h.2.2.1, pw_rng (jj_e0 h) (by have := jj_cst h; omega) n 4, h.2.2.2.2.1, h.2.2.2.2.2.1, h.2.2.2.2.2.2.1, h.2.2.2.2.2.2.2.1, ⟨rfl, by omega⟩, ⟨by show s 8 + 1 = _; rw [(jj_e8 h).1]; exact nI_1 n0, Nat.succ_le_succ (jj_e8 h).2⟩, h.2.2.2.2.2.2.2.2.2.2.1, h.2.2.2.2.2.2.2.2.2.2.2.1, h.2.2.2.2.2.2.2.2.2.2.2.2.1, ⟨(jj_e12 h).1, Nat.le_succ_of_le (jj_e12 h).2⟩, h.2.2.2.2.2.2.2.2.2.2.2.2.2.2.1, h.2.2.2.2.2.2.2.2.2.2.2.2.2.2.2.1, h.2.2.2.2.2.2.2.2.2.2.2.2.2.2.2.2.1, h.2.2.2.2.2.2.2.2.2.2.2.2.2.2.2.2.2.1, h.2.2.2.2.2.2.2.2.2.2.2.2.2.2.2.2.2.2.1, fun _ => hb, h.2.2.2.2.2.2.2.2.2.2.2.2.2.2.2.2.2.2.2.2.1, fun _ => hc, h.2.2.2.2.2.2.2.2.2.2.2.2.2.2.2.2.2.2.2.2.2.2.1, h.2.2.2.2.2.2.2.2.2.2.2.2.2.2.2.2.2.2.2.2.2.2.2.1, h.2.2.2.2.2.2.2.2.2.2.2.2.2.2.2.2.2.2.2.2.2.2.2.2.1, h.2.2.2.2.2.2.2.2.2.2.2.2.2.2.2.2.2.2.2.2.2.2.2.2.2.1, h.2.2.2.2.2.2.2.2.2.2.2.2.2.2.2.2.2.2.2.2.2.2.2.2.2.2.1, h.2.2.2.2.2.2.2.2.2.2.2.2.2.2.2.2.2.2.2.2.2.2.2.2.2.2.2.1, h.2.2.2.2.2.2.2.2.2.2.2.2.2.2.2.2.2.2.2.2.2.2.2.2.2.2.2.2.1, h.2.2.2.2.2.2.2.2.2.2.2.2.2.2.2.2.2.2.2.2.2.2.2.2.2.2.2.2.2.1, h.2.2.2.2.2.2.2.2.2.2.2.2.2.2.2.2.2.2.2.2.2.2.2.2.2.2.2.2.2.2.1, h.2.2.2.2.2.2.2.2.2.2.2.2.2.2.2.2.2.2.2.2.2.2.2.2.2.2.2.2.2.2.2.1, h.2.2.2.2.2.2.2.2.2.2.2.2.2.2.2.2.2.2.2.2.2.2.2.2.2.2.2.2.2.2.2.2.1, h.2.2.2.2.2.2.2.2.2.2.2.2.2.2.2.2.2.2.2.2.2.2.2.2.2.2.2.2.2.2.2.2.2⟩

set_option maxRecDepth 20000 in
theorem J_voter {p0 q0 c0 t0 k0 kk v0 st0 n0 b0 mx ro rj mw un : Nat} {s : Nat → Int32} {a xA xB g : Nat → Nat → Int32}  (h : JJ p0 q0 c0 t0 k0 kk v0 st0 n0 b0 mx ro rj mw un s a xA xB g) (hok : ¬ 1 < s 7 ∧ s 6 < 40) : JJ p0 q0 c0 t0 k0 (kk + 1) (v0 + 1) st0 n0 b0 mx ro rj mw un (upd s 6 (s 6 + 1)) a xA xB g := by
  refine ⟨h.1, h.2.1, h.2.2.1, h.2.2.2.1, h.2.2.2.2.1, h.2.2.2.2.2.1, h.2.2.2.2.2.2.1, ⟨by show s 6 + 1 = _; rw [(jj_e6 h).1]; exact nI_1 v0, by have := hok.2; rw [(jj_e6 h).1, show (40 : Int32) = nI 40 from rfl, nI_ltI (by have := (jj_e6 h).2; omega) (by omega)] at this; omega⟩, h.2.2.2.2.2.2.2.2.1, ⟨(jj_e8 h).1, Nat.le_succ_of_le (jj_e8 h).2⟩, h.2.2.2.2.2.2.2.2.2.2.1, h.2.2.2.2.2.2.2.2.2.2.2.1, h.2.2.2.2.2.2.2.2.2.2.2.2.1, ⟨(jj_e12 h).1, Nat.le_succ_of_le (jj_e12 h).2⟩, h.2.2.2.2.2.2.2.2.2.2.2.2.2.2.1, h.2.2.2.2.2.2.2.2.2.2.2.2.2.2.2.1, h.2.2.2.2.2.2.2.2.2.2.2.2.2.2.2.2.1, h.2.2.2.2.2.2.2.2.2.2.2.2.2.2.2.2.2.1, h.2.2.2.2.2.2.2.2.2.2.2.2.2.2.2.2.2.2.1, h.2.2.2.2.2.2.2.2.2.2.2.2.2.2.2.2.2.2.2.1, h.2.2.2.2.2.2.2.2.2.2.2.2.2.2.2.2.2.2.2.2.1, h.2.2.2.2.2.2.2.2.2.2.2.2.2.2.2.2.2.2.2.2.2.1, h.2.2.2.2.2.2.2.2.2.2.2.2.2.2.2.2.2.2.2.2.2.2.1, h.2.2.2.2.2.2.2.2.2.2.2.2.2.2.2.2.2.2.2.2.2.2.2.1, h.2.2.2.2.2.2.2.2.2.2.2.2.2.2.2.2.2.2.2.2.2.2.2.2.1, h.2.2.2.2.2.2.2.2.2.2.2.2.2.2.2.2.2.2.2.2.2.2.2.2.2.1, h.2.2.2.2.2.2.2.2.2.2.2.2.2.2.2.2.2.2.2.2.2.2.2.2.2.2.1, h.2.2.2.2.2.2.2.2.2.2.2.2.2.2.2.2.2.2.2.2.2.2.2.2.2.2.2.1, h.2.2.2.2.2.2.2.2.2.2.2.2.2.2.2.2.2.2.2.2.2.2.2.2.2.2.2.2.1, h.2.2.2.2.2.2.2.2.2.2.2.2.2.2.2.2.2.2.2.2.2.2.2.2.2.2.2.2.2.1, h.2.2.2.2.2.2.2.2.2.2.2.2.2.2.2.2.2.2.2.2.2.2.2.2.2.2.2.2.2.2.1, h.2.2.2.2.2.2.2.2.2.2.2.2.2.2.2.2.2.2.2.2.2.2.2.2.2.2.2.2.2.2.2.1, h.2.2.2.2.2.2.2.2.2.2.2.2.2.2.2.2.2.2.2.2.2.2.2.2.2.2.2.2.2.2.2.2.1, h.2.2.2.2.2.2.2.2.2.2.2.2.2.2.2.2.2.2.2.2.2.2.2.2.2.2.2.2.2.2.2.2.2⟩

set_option maxRecDepth 20000 in
theorem J_post {p0 q0 c0 t0 k0 kk v0 st0 n0 b0 mx ro rj mw un : Nat} {s : Nat → Int32} {a xA xB g : Nat → Nat → Int32} {v x y : Int32} {w0 : Nat} (h : JJ p0 q0 c0 t0 k0 kk v0 st0 n0 b0 mx ro rj mw un s a xA xB g) (hw : v = nI w0) (hw4 : w0 < 40) (hx : rng (s 0) x) : JJ p0 q0 c0 t0 k0 (kk + 1) v0 st0 (n0 + 1) b0 mx ro rj mw un (upd s 8 (s 8 + 1)) (upr (upr (upr (upr (upr (upr (upr (upr a 10 (upd (a 10) v.toNatClampNeg x)) 11 (upd (a 11) v.toNatClampNeg y)) 31 (upd (a 31) v.toNatClampNeg (vp_nar .boolean 1))) 32 (upd (a 32) v.toNatClampNeg x)) 33 (upd (a 33) v.toNatClampNeg y)) 6 (upd (a 6) (s 8).toNatClampNeg (2))) 7 (upd (a 7) (s 8).toNatClampNeg (v))) 8 (upd (a 8) (s 8).toNatClampNeg (x))) xA xB g := by
  refine ⟨h.1, h.2.1, h.2.2.1, h.2.2.2.1, h.2.2.2.2.1, h.2.2.2.2.2.1, h.2.2.2.2.2.2.1, h.2.2.2.2.2.2.2.1, h.2.2.2.2.2.2.2.2.1, ⟨by show s 8 + 1 = _; rw [(jj_e8 h).1]; exact nI_1 n0, Nat.succ_le_succ (jj_e8 h).2⟩, h.2.2.2.2.2.2.2.2.2.2.1, h.2.2.2.2.2.2.2.2.2.2.2.1, h.2.2.2.2.2.2.2.2.2.2.2.2.1, ⟨(jj_e12 h).1, Nat.le_succ_of_le (jj_e12 h).2⟩, h.2.2.2.2.2.2.2.2.2.2.2.2.2.2.1, h.2.2.2.2.2.2.2.2.2.2.2.2.2.2.2.1, h.2.2.2.2.2.2.2.2.2.2.2.2.2.2.2.2.1, h.2.2.2.2.2.2.2.2.2.2.2.2.2.2.2.2.2.1, h.2.2.2.2.2.2.2.2.2.2.2.2.2.2.2.2.2.2.1, h.2.2.2.2.2.2.2.2.2.2.2.2.2.2.2.2.2.2.2.1, h.2.2.2.2.2.2.2.2.2.2.2.2.2.2.2.2.2.2.2.2.1, h.2.2.2.2.2.2.2.2.2.2.2.2.2.2.2.2.2.2.2.2.2.1, h.2.2.2.2.2.2.2.2.2.2.2.2.2.2.2.2.2.2.2.2.2.2.1, ?_, ?_, h.2.2.2.2.2.2.2.2.2.2.2.2.2.2.2.2.2.2.2.2.2.2.2.2.2.1, h.2.2.2.2.2.2.2.2.2.2.2.2.2.2.2.2.2.2.2.2.2.2.2.2.2.2.1, h.2.2.2.2.2.2.2.2.2.2.2.2.2.2.2.2.2.2.2.2.2.2.2.2.2.2.2.1, h.2.2.2.2.2.2.2.2.2.2.2.2.2.2.2.2.2.2.2.2.2.2.2.2.2.2.2.2.1, h.2.2.2.2.2.2.2.2.2.2.2.2.2.2.2.2.2.2.2.2.2.2.2.2.2.2.2.2.2.1, h.2.2.2.2.2.2.2.2.2.2.2.2.2.2.2.2.2.2.2.2.2.2.2.2.2.2.2.2.2.2.1, h.2.2.2.2.2.2.2.2.2.2.2.2.2.2.2.2.2.2.2.2.2.2.2.2.2.2.2.2.2.2.2.1, h.2.2.2.2.2.2.2.2.2.2.2.2.2.2.2.2.2.2.2.2.2.2.2.2.2.2.2.2.2.2.2.2.1, h.2.2.2.2.2.2.2.2.2.2.2.2.2.2.2.2.2.2.2.2.2.2.2.2.2.2.2.2.2.2.2.2.2⟩
  · intro k hk
    show (upd (a 10) v.toNatClampNeg x k = -1 ∧ upd (a 31) v.toNatClampNeg (vp_nar .boolean 1) k = 0) ∨ (¬ upd (a 10) v.toNatClampNeg x k = -1 ∧ ¬ upd (a 31) v.toNatClampNeg (vp_nar .boolean 1) k = 0 ∧ upd (a 32) v.toNatClampNeg x k = upd (a 10) v.toNatClampNeg x k ∧ upd (a 33) v.toNatClampNeg y k = upd (a 11) v.toNatClampNeg y k)
    by_cases q : k = v.toNatClampNeg
    · rw [q, pk_us, pk_us, pk_us, pk_us, pk_us]
      exact Or.inr ⟨nn_ne (rng_nn hx), by decide, rfl, rfl⟩
    · rw [pk_un q, pk_un q, pk_un q, pk_un q, pk_un q]
      exact jj_ca h k hk
  · intro k hk
    show rng (s 0) (upd (a 10) v.toNatClampNeg x k)
    have hk' : ¬ upd (a 10) v.toNatClampNeg x k = -1 := hk
    by_cases q : k = v.toNatClampNeg
    · rw [q, pk_us]; exact hx
    · rw [pk_un q] at hk' ⊢; exact jj_cr h k hk'

set_option maxRecDepth 20000 in
theorem J_close {p0 q0 c0 t0 k0 kk v0 st0 n0 b0 mx ro rj mw un : Nat} {s : Nat → Int32} {a xA xB g : Nat → Nat → Int32}  (h : JJ p0 q0 c0 t0 k0 kk v0 st0 n0 b0 mx ro rj mw un s a xA xB g) (hok : s 7 = 1) : JJ p0 q0 c0 t0 k0 (kk + 1) v0 2 (n0 + 1) (gcn (a 10) v0) mx ro rj mw un (upd (upd (upd s 7 (2)) 9 (nI (gcn (a 10) v0))) 8 (s 8 + 1)) (upr (upr (upr (upr (upr (upr (upr (upr (upr (upr a 34 (gar (a 10) (a 10) (a 34) v0)) 35 (gar (a 10) (a 11) (a 35) v0)) 3 (fun _ => -1)) 12 (fun _ => -1)) 4 (fun _ => -1)) 5 (fun _ => -1)) 38 (fun _ => 0)) 6 (upd (a 6) (s 8).toNatClampNeg (3))) 7 (upd (a 7) (s 8).toNatClampNeg (nI (gcn (a 10) v0)))) 8 (upd (a 8) (s 8).toNatClampNeg (0))) (upr xA 0 (gar (a 10) (a 10) (xA 0) v0)) (upr xB 0 (gar (a 10) (a 11) (xB 0) v0)) g := by
  have hst := st_of h (st := 1) hok (by omega)
  have hb := jj_b2 h (by omega)
  have hc := jj_c3 h (by omega)
  have hmx := hb.2.1
  refine ⟨h.1, h.2.1, h.2.2.1, h.2.2.2.1, h.2.2.2.2.1, h.2.2.2.2.2.1, h.2.2.2.2.2.2.1, h.2.2.2.2.2.2.2.1, ⟨rfl, by omega⟩, ⟨by show s 8 + 1 = _; rw [(jj_e8 h).1]; exact nI_1 n0, Nat.succ_le_succ (jj_e8 h).2⟩, ⟨rfl, by have := gcn_le (a 10) v0; have := (jj_e6 h).2; omega⟩, h.2.2.2.2.2.2.2.2.2.2.2.1, h.2.2.2.2.2.2.2.2.2.2.2.2.1, ⟨(jj_e12 h).1, Nat.le_succ_of_le (jj_e12 h).2⟩, h.2.2.2.2.2.2.2.2.2.2.2.2.2.2.1, h.2.2.2.2.2.2.2.2.2.2.2.2.2.2.2.1, h.2.2.2.2.2.2.2.2.2.2.2.2.2.2.2.2.1, h.2.2.2.2.2.2.2.2.2.2.2.2.2.2.2.2.2.1, h.2.2.2.2.2.2.2.2.2.2.2.2.2.2.2.2.2.2.1, fun q => by omega, h.2.2.2.2.2.2.2.2.2.2.2.2.2.2.2.2.2.2.2.2.1, fun _ => hc, h.2.2.2.2.2.2.2.2.2.2.2.2.2.2.2.2.2.2.2.2.2.2.1, h.2.2.2.2.2.2.2.2.2.2.2.2.2.2.2.2.2.2.2.2.2.2.2.1, h.2.2.2.2.2.2.2.2.2.2.2.2.2.2.2.2.2.2.2.2.2.2.2.2.1, fun i => Or.inl rfl, fun i => Or.inl rfl, ?_, fun q => by omega, fun q => absurd (jj_m0 h hb.2.1).2.1 q, fun q => absurd (jj_m0 h hb.2.1).2.1 q, h.2.2.2.2.2.2.2.2.2.2.2.2.2.2.2.2.2.2.2.2.2.2.2.2.2.2.2.2.2.2.2.1, fun q => absurd hb.2.2 q, fun j h1 h2 h3 => absurd ((jj_m0 h hb.2.1).2.2 j h1 h2) h3⟩
  · intro m hm i hi
    have hm0 : m = 0 := by omega
    subst hm0
    show gar (a 10) (a 10) (a 34) v0 (40 * 0 + i) = gar (a 10) (a 10) (xA 0) v0 i ∧ gar (a 10) (a 11) (a 35) v0 (40 * 0 + i) = gar (a 10) (a 11) (xB 0) v0 i ∧ rng (s 0) (gar (a 10) (a 10) (xA 0) v0 i)
    rw [show 40 * 0 + i = i by omega]
    exact ⟨gar_eq v0 i hi, gar_eq v0 i hi, gar_all v0 i hi (fun w _ hw => jj_cr h w hw)⟩

set_option maxRecDepth 20000 in
theorem J_place {p0 q0 c0 t0 k0 kk v0 st0 n0 b0 mx ro rj mw un : Nat} {s : Nat → Int32} {a xA xB g : Nat → Nat → Int32} {v w r : Int32} (h : JJ p0 q0 c0 t0 k0 kk v0 st0 n0 b0 mx ro rj mw un s a xA xB g) (hok : s 7 = 2 ∧ (0 ≤ v ∧ v < s 9) ∧ (0 ≤ w ∧ w < s 9) ∧ (0 ≤ r ∧ r < s 1)) : JJ p0 q0 c0 t0 k0 (kk + 1) v0 st0 n0 b0 mx ro rj mw un s (upr (upr (upr a 3 (upd (a 3) v.toNatClampNeg w)) 12 (upd (a 12) v.toNatClampNeg r)) 38 (upd (a 38) v.toNatClampNeg r)) xA xB g := by
  refine ⟨h.1, h.2.1, h.2.2.1, h.2.2.2.1, h.2.2.2.2.1, h.2.2.2.2.2.1, h.2.2.2.2.2.2.1, h.2.2.2.2.2.2.2.1, h.2.2.2.2.2.2.2.2.1, ⟨(jj_e8 h).1, Nat.le_succ_of_le (jj_e8 h).2⟩, h.2.2.2.2.2.2.2.2.2.2.1, h.2.2.2.2.2.2.2.2.2.2.2.1, h.2.2.2.2.2.2.2.2.2.2.2.2.1, ⟨(jj_e12 h).1, Nat.le_succ_of_le (jj_e12 h).2⟩, h.2.2.2.2.2.2.2.2.2.2.2.2.2.2.1, h.2.2.2.2.2.2.2.2.2.2.2.2.2.2.2.1, h.2.2.2.2.2.2.2.2.2.2.2.2.2.2.2.2.1, h.2.2.2.2.2.2.2.2.2.2.2.2.2.2.2.2.2.1, h.2.2.2.2.2.2.2.2.2.2.2.2.2.2.2.2.2.2.1, h.2.2.2.2.2.2.2.2.2.2.2.2.2.2.2.2.2.2.2.1, h.2.2.2.2.2.2.2.2.2.2.2.2.2.2.2.2.2.2.2.2.1, h.2.2.2.2.2.2.2.2.2.2.2.2.2.2.2.2.2.2.2.2.2.1, h.2.2.2.2.2.2.2.2.2.2.2.2.2.2.2.2.2.2.2.2.2.2.1, h.2.2.2.2.2.2.2.2.2.2.2.2.2.2.2.2.2.2.2.2.2.2.2.1, h.2.2.2.2.2.2.2.2.2.2.2.2.2.2.2.2.2.2.2.2.2.2.2.2.1, ?_, h.2.2.2.2.2.2.2.2.2.2.2.2.2.2.2.2.2.2.2.2.2.2.2.2.2.2.1, h.2.2.2.2.2.2.2.2.2.2.2.2.2.2.2.2.2.2.2.2.2.2.2.2.2.2.2.1, h.2.2.2.2.2.2.2.2.2.2.2.2.2.2.2.2.2.2.2.2.2.2.2.2.2.2.2.2.1, h.2.2.2.2.2.2.2.2.2.2.2.2.2.2.2.2.2.2.2.2.2.2.2.2.2.2.2.2.2.1, h.2.2.2.2.2.2.2.2.2.2.2.2.2.2.2.2.2.2.2.2.2.2.2.2.2.2.2.2.2.2.1, h.2.2.2.2.2.2.2.2.2.2.2.2.2.2.2.2.2.2.2.2.2.2.2.2.2.2.2.2.2.2.2.1, h.2.2.2.2.2.2.2.2.2.2.2.2.2.2.2.2.2.2.2.2.2.2.2.2.2.2.2.2.2.2.2.2.1, h.2.2.2.2.2.2.2.2.2.2.2.2.2.2.2.2.2.2.2.2.2.2.2.2.2.2.2.2.2.2.2.2.2⟩
  · intro k
    show upd (a 3) v.toNatClampNeg w k = -1 ∨ (nn (upd (a 3) v.toNatClampNeg w k) ∧ (upd (a 3) v.toNatClampNeg w k).toNatClampNeg < b0 ∧ nn (upd (a 12) v.toNatClampNeg r k) ∧ (upd (a 12) v.toNatClampNeg r k).toNatClampNeg < q0 ∧ upd (a 38) v.toNatClampNeg r k = upd (a 12) v.toNatClampNeg r k)
    obtain ⟨x, hx, e⟩ := bx_g hok.2.2.1 (jj_e9 h).1 (by have := (jj_e9 h).2; omega)
    obtain ⟨y, hy, e2⟩ := bx_g hok.2.2.2 (jj_e1 h) (by have := jj_cst h; omega)
    by_cases q : k = v.toNatClampNeg
    · rw [q, pk_us, pk_us, pk_us, e, e2, nI_clamp (by have := (jj_e9 h).2; omega), nI_clamp (by have := jj_cst h; omega)]
      exact Or.inr ⟨nn_nI (by have := (jj_e9 h).2; omega), hx, nn_nI (by have := jj_cst h; omega), hy, rfl⟩
    · rw [pk_un q, pk_un q, pk_un q]; exact jj_sg h k

set_option maxRecDepth 20000 in
theorem J_forge {p0 q0 c0 t0 k0 kk v0 st0 n0 b0 mx ro rj mw un : Nat} {s : Nat → Int32} {a xA xB g : Nat → Nat → Int32} {v w r : Int32} (h : JJ p0 q0 c0 t0 k0 kk v0 st0 n0 b0 mx ro rj mw un s a xA xB g) (hx : rng (s 0) w) : JJ p0 q0 c0 t0 k0 (kk + 1) v0 st0 n0 b0 mx ro rj mw un s (upr (upr a 4 (upd (a 4) v.toNatClampNeg w)) 5 (upd (a 5) v.toNatClampNeg r)) xA xB g := by
  refine ⟨h.1, h.2.1, h.2.2.1, h.2.2.2.1, h.2.2.2.2.1, h.2.2.2.2.2.1, h.2.2.2.2.2.2.1, h.2.2.2.2.2.2.2.1, h.2.2.2.2.2.2.2.2.1, ⟨(jj_e8 h).1, Nat.le_succ_of_le (jj_e8 h).2⟩, h.2.2.2.2.2.2.2.2.2.2.1, h.2.2.2.2.2.2.2.2.2.2.2.1, h.2.2.2.2.2.2.2.2.2.2.2.2.1, ⟨(jj_e12 h).1, Nat.le_succ_of_le (jj_e12 h).2⟩, h.2.2.2.2.2.2.2.2.2.2.2.2.2.2.1, h.2.2.2.2.2.2.2.2.2.2.2.2.2.2.2.1, h.2.2.2.2.2.2.2.2.2.2.2.2.2.2.2.2.1, h.2.2.2.2.2.2.2.2.2.2.2.2.2.2.2.2.2.1, h.2.2.2.2.2.2.2.2.2.2.2.2.2.2.2.2.2.2.1, h.2.2.2.2.2.2.2.2.2.2.2.2.2.2.2.2.2.2.2.1, h.2.2.2.2.2.2.2.2.2.2.2.2.2.2.2.2.2.2.2.2.1, h.2.2.2.2.2.2.2.2.2.2.2.2.2.2.2.2.2.2.2.2.2.1, h.2.2.2.2.2.2.2.2.2.2.2.2.2.2.2.2.2.2.2.2.2.2.1, h.2.2.2.2.2.2.2.2.2.2.2.2.2.2.2.2.2.2.2.2.2.2.2.1, h.2.2.2.2.2.2.2.2.2.2.2.2.2.2.2.2.2.2.2.2.2.2.2.2.1, h.2.2.2.2.2.2.2.2.2.2.2.2.2.2.2.2.2.2.2.2.2.2.2.2.2.1, ?_, h.2.2.2.2.2.2.2.2.2.2.2.2.2.2.2.2.2.2.2.2.2.2.2.2.2.2.2.1, h.2.2.2.2.2.2.2.2.2.2.2.2.2.2.2.2.2.2.2.2.2.2.2.2.2.2.2.2.1, h.2.2.2.2.2.2.2.2.2.2.2.2.2.2.2.2.2.2.2.2.2.2.2.2.2.2.2.2.2.1, h.2.2.2.2.2.2.2.2.2.2.2.2.2.2.2.2.2.2.2.2.2.2.2.2.2.2.2.2.2.2.1, h.2.2.2.2.2.2.2.2.2.2.2.2.2.2.2.2.2.2.2.2.2.2.2.2.2.2.2.2.2.2.2.1, h.2.2.2.2.2.2.2.2.2.2.2.2.2.2.2.2.2.2.2.2.2.2.2.2.2.2.2.2.2.2.2.2.1, h.2.2.2.2.2.2.2.2.2.2.2.2.2.2.2.2.2.2.2.2.2.2.2.2.2.2.2.2.2.2.2.2.2⟩
  · intro k
    show upd (a 4) v.toNatClampNeg w k = -1 ∨ rng (s 0) (upd (a 4) v.toNatClampNeg w k)
    by_cases q : k = v.toNatClampNeg
    · rw [q, pk_us]; exact Or.inr hx
    · rw [pk_un q]; exact jj_fo h k

set_option maxRecDepth 20000 in
theorem J_mix {p0 q0 c0 t0 k0 kk v0 st0 n0 b0 mx ro rj mw un : Nat} {s : Nat → Int32} {a xA xB g : Nat → Nat → Int32}  (h : JJ p0 q0 c0 t0 k0 kk v0 st0 n0 b0 mx ro rj mw un s a xA xB g) (hst2 : s 7 = 2) (hd : s 14 = 0) (hw : whl (a 3) b0) (hm4 : mx < 4) : JJ p0 q0 c0 t0 k0 (kk + 1) v0 st0 (n0 + 1) b0 (mx + 1) 0 rj mw (un + (if 0 < mx ∧ ro = 0 then 1 else 0)) (upd (upd (upd (upd (upd (upd s 10 (s 10 + 1)) 11 (0)) 16 (s 16 + (if 0 < s 10 ∧ s 11 = 0 then 1 else 0))) 17 (0)) 18 (0)) 8 (s 8 + 1)) (upr (upr (upr (upr (upr (upr (upr (upr (upr (upr (upr (upr (upr (upr (upr (upr a 34 (scat (fun i => 40 * (mx + 1) + nt (a 3) i) (shv (s 0) 4 (a 4) (a 4) (xA mx) (a 3) (a 12)) (a 34) b0)) 35 (scat (fun i => 40 * (mx + 1) + nt (a 3) i) (shv (s 0) (s 2) (a 4) (a 5) (xB mx) (a 3) (a 12)) (a 35) b0)) 15 (a 3)) 16 (a 12)) 39 (scat (fun i => i) (a 3) (a 39) b0)) 40 (scat (fun i => i) (a 12) (a 40) b0)) 3 (fun _ => -1)) 12 (fun _ => -1)) 4 (fun _ => -1)) 5 (fun _ => -1)) 38 (fun _ => 0)) 19 (fun _ => -1)) 20 (fun _ => -1)) 6 (upd (a 6) (s 8).toNatClampNeg (4))) 7 (upd (a 7) (s 8).toNatClampNeg ((s 10 + 1)))) 8 (upd (a 8) (s 8).toNatClampNeg (0))) (upr xA (mx + 1) (scat (nt (a 3)) (shv (s 0) 4 (a 4) (a 4) (xA mx) (a 3) (a 12)) (xA (mx + 1)) b0)) (upr xB (mx + 1) (scat (nt (a 3)) (shv (s 0) (s 2) (a 4) (a 5) (xB mx) (a 3) (a 12)) (xB (mx + 1)) b0)) g := by
  have hst := st_of h (st := 2) hst2 (by omega)
  have hmv := sg_mv h hw
  have hjr : ∀ i : Nat, i < b0 → nn (a 3 i) ∧ nt (a 3) i < b0 := fun i hi => ⟨(hmv i hi).1, (hmv i hi).2.1⟩
  refine ⟨h.1, h.2.1, h.2.2.1, h.2.2.2.1, h.2.2.2.2.1, h.2.2.2.2.2.1, h.2.2.2.2.2.2.1, h.2.2.2.2.2.2.2.1, h.2.2.2.2.2.2.2.2.1, ⟨by show s 8 + 1 = _; rw [(jj_e8 h).1]; exact nI_1 n0, Nat.succ_le_succ (jj_e8 h).2⟩, h.2.2.2.2.2.2.2.2.2.2.1, ⟨by show s 10 + 1 = _; rw [(jj_e10 h).1]; exact nI_1 mx, by omega⟩, ⟨rfl, by omega⟩, ⟨(jj_e12 h).1, Nat.le_succ_of_le (jj_e12 h).2⟩, h.2.2.2.2.2.2.2.2.2.2.2.2.2.2.1, h.2.2.2.2.2.2.2.2.2.2.2.2.2.2.2.1, h.2.2.2.2.2.2.2.2.2.2.2.2.2.2.2.2.1, by show s 16 + _ = _; rw [jj_e16 h]; exact un_add (jj_e10 h) (jj_e11 h), pr_mix (jj_pr h), fun q => by omega, fun q => by omega, h.2.2.2.2.2.2.2.2.2.2.2.2.2.2.2.2.2.2.2.2.2.1, h.2.2.2.2.2.2.2.2.2.2.2.2.2.2.2.2.2.2.2.2.2.2.1, h.2.2.2.2.2.2.2.2.2.2.2.2.2.2.2.2.2.2.2.2.2.2.2.1, h.2.2.2.2.2.2.2.2.2.2.2.2.2.2.2.2.2.2.2.2.2.2.2.2.1, fun i => Or.inl rfl, fun i => Or.inl rfl, ?_, ?_, fun q => absurd hd q, fun q => absurd hd q, fun _ i _ => ⟨rfl, rfl⟩, fun q => absurd rfl q, h.2.2.2.2.2.2.2.2.2.2.2.2.2.2.2.2.2.2.2.2.2.2.2.2.2.2.2.2.2.2.2.2.2⟩
  · intro m hm i hi
    by_cases q : m = mx + 1
    · subst q
      show scat (fun i => 40 * (mx + 1) + nt (a 3) i) (shv (s 0) 4 (a 4) (a 4) (xA mx) (a 3) (a 12)) (a 34) b0 (40 * (mx + 1) + i) = upr xA (mx + 1) _ (mx + 1) i ∧ scat (fun i => 40 * (mx + 1) + nt (a 3) i) (shv (s 0) (s 2) (a 4) (a 5) (xB mx) (a 3) (a 12)) (a 35) b0 (40 * (mx + 1) + i) = upr xB (mx + 1) _ (mx + 1) i ∧ rng (s 0) (upr xA (mx + 1) _ (mx + 1) i)
      rw [upr_at, upr_at]
      refine ⟨sct_eq hw hjr i hi, sct_eq hw hjr i hi, ?_⟩
      obtain ⟨k, hk, e⟩ := whl_sur hw hjr i hi
      rw [← e, scat_in (whl_inj hw hjr) k hk]
      exact shv_r (jj_e0 h) (by have := jj_cst h; omega) ((jj_li h mx (Nat.le_refl _) k hk).2.2) (jj_fo h _)
    · obtain ⟨h1, h2, h3⟩ := jj_li h m (by omega) i hi
      have hb4 := (jj_e9 h).2
      show scat (fun i => 40 * (mx + 1) + nt (a 3) i) (shv (s 0) 4 (a 4) (a 4) (xA mx) (a 3) (a 12)) (a 34) b0 (40 * m + i) = upr xA (mx + 1) _ m i ∧ scat (fun i => 40 * (mx + 1) + nt (a 3) i) (shv (s 0) (s 2) (a 4) (a 5) (xB mx) (a 3) (a 12)) (a 35) b0 (40 * m + i) = upr xB (mx + 1) _ m i ∧ rng (s 0) (upr xA (mx + 1) _ m i)
      rw [upr_ne q, upr_ne q, scat_out b0 (fun k hk q2 => by omega), scat_out b0 (fun k hk q2 => by omega)]
      exact ⟨h1, h2, h3⟩
  · intro _ i hi
    obtain ⟨h1, h2, h3, h4, _⟩ := hmv i hi
    exact ⟨⟨h1, h2⟩, ⟨h3, h4⟩, scat_in (ix := fun i => i) (fun _ _ _ _ q => q) i hi, scat_in (ix := fun i => i) (fun _ _ _ _ q => q) i hi⟩

set_option maxRecDepth 20000 in
theorem J_shadow {p0 q0 c0 t0 k0 kk v0 st0 n0 b0 mx ro rj mw un : Nat} {s : Nat → Int32} {a xA xB g : Nat → Nat → Int32} {m1 : Nat} (h : JJ p0 q0 c0 t0 k0 kk v0 st0 n0 b0 mx ro rj mw un s a xA xB g) (hst2 : s 7 = 2) (hw : whl (a 3) b0) (hmx1 : mx = m1 + 1) (hr8 : s 11 < 8) : JJ p0 q0 c0 t0 k0 (kk + 1) v0 st0 (n0 + 1) b0 mx (ro + 1) rj (mw + (if ro = 0 then 1 else 0)) un (upd (upd (upd (upd (upd (upd s 15 (s 15 + (if s 11 = 0 then 1 else 0))) 11 (s 11 + 1)) 14 (1)) 17 (1)) 18 (0)) 8 (s 8 + 1)) (upr (upr (upr (upr (upr (upr (upr (upr (upr (upr (upr (upr (upr (upr (upr (upr (upr (upr a 13 (scat (nt (a 3)) (shv (s 0) 4 (a 4) (a 4) (xA m1) (a 3) (a 12)) (a 13) b0)) 14 (scat (nt (a 3)) (shv (s 0) (s 2) (a 4) (a 5) (xB m1) (a 3) (a 12)) (a 14) b0)) 36 (scat (nt (a 3)) (shv (s 0) 4 (a 4) (a 4) (xA m1) (a 3) (a 12)) (a 36) b0)) 37 (scat (nt (a 3)) (shv (s 0) (s 2) (a 4) (a 5) (xB m1) (a 3) (a 12)) (a 37) b0)) 17 (a 3)) 18 (a 12)) 41 (scat (fun i => i) (a 3) (a 41) b0)) 42 (scat (fun i => i) (a 12) (a 42) b0)) 3 (fun _ => -1)) 12 (fun _ => -1)) 4 (fun _ => -1)) 5 (fun _ => -1)) 38 (fun _ => 0)) 19 (fun _ => -1)) 20 (fun _ => -1)) 6 (upd (a 6) (s 8).toNatClampNeg (5))) 7 (upd (a 7) (s 8).toNatClampNeg ((s 11 + 1)))) 8 (upd (a 8) (s 8).toNatClampNeg ((s 10)))) xA xB g := by
  have hst := st_of h (st := 2) hst2 (by omega)
  have hmv := sg_mv h hw
  have hjr : ∀ i : Nat, i < b0 → nn (a 3 i) ∧ nt (a 3) i < b0 := fun i hi => ⟨(hmv i hi).1, (hmv i hi).2.1⟩
  refine ⟨h.1, h.2.1, h.2.2.1, h.2.2.2.1, h.2.2.2.2.1, h.2.2.2.2.2.1, h.2.2.2.2.2.2.1, h.2.2.2.2.2.2.2.1, h.2.2.2.2.2.2.2.2.1, ⟨by show s 8 + 1 = _; rw [(jj_e8 h).1]; exact nI_1 n0, Nat.succ_le_succ (jj_e8 h).2⟩, h.2.2.2.2.2.2.2.2.2.2.1, h.2.2.2.2.2.2.2.2.2.2.2.1, ⟨by show s 11 + 1 = _; rw [(jj_e11 h).1]; exact nI_1 ro, by have := hr8; rw [(jj_e11 h).1, show (8 : Int32) = nI 8 from rfl, nI_ltI (by have := (jj_e11 h).2; omega) (by omega)] at this; omega⟩, ⟨(jj_e12 h).1, Nat.le_succ_of_le (jj_e12 h).2⟩, h.2.2.2.2.2.2.2.2.2.2.2.2.2.2.1, Or.inr rfl, by show s 15 + _ = _; rw [jj_e15 h]; exact mw_add (jj_e11 h), h.2.2.2.2.2.2.2.2.2.2.2.2.2.2.2.2.2.1, pr_sh hmx1 (jj_pr h), fun q => by omega, fun q => by omega, h.2.2.2.2.2.2.2.2.2.2.2.2.2.2.2.2.2.2.2.2.2.1, h.2.2.2.2.2.2.2.2.2.2.2.2.2.2.2.2.2.2.2.2.2.2.1, h.2.2.2.2.2.2.2.2.2.2.2.2.2.2.2.2.2.2.2.2.2.2.2.1, h.2.2.2.2.2.2.2.2.2.2.2.2.2.2.2.2.2.2.2.2.2.2.2.2.1, fun i => Or.inl rfl, fun i => Or.inl rfl, h.2.2.2.2.2.2.2.2.2.2.2.2.2.2.2.2.2.2.2.2.2.2.2.2.2.2.2.1, h.2.2.2.2.2.2.2.2.2.2.2.2.2.2.2.2.2.2.2.2.2.2.2.2.2.2.2.2.1, fun _ => hw, ?_, fun _ i _ => ⟨rfl, rfl⟩, fun q => absurd rfl q, h.2.2.2.2.2.2.2.2.2.2.2.2.2.2.2.2.2.2.2.2.2.2.2.2.2.2.2.2.2.2.2.2.2⟩
  · intro _ i hi
    obtain ⟨h1, h2, h3, h4, _⟩ := hmv i hi
    exact ⟨⟨h1, h2⟩, ⟨h3, h4⟩, scat_in (ix := fun i => i) (fun _ _ _ _ q => q) i hi, scat_in (ix := fun i => i) (fun _ _ _ _ q => q) i hi, sct_eq0 hw hjr i hi, sct_eq0 hw hjr i hi⟩

set_option maxRecDepth 20000 in
theorem J_coin0 {p0 q0 c0 t0 k0 kk v0 st0 n0 b0 mx ro rj mw un : Nat} {s : Nat → Int32} {a xA xB g : Nat → Nat → Int32} {v : Int32} {m1 : Nat} (h : JJ p0 q0 c0 t0 k0 kk v0 st0 n0 b0 mx ro rj mw un s a xA xB g) (hd : ¬ s 14 = 0) : JJ p0 q0 c0 t0 k0 (kk + 1) v0 st0 (n0 + 1) b0 mx ro (rj + (if (∀ i : Nat, i < b0 → ldc (s 0) (s 2) (a 17) (a 18) (xA m1) (xB m1) (a 13) (a 14) i) then 0 else 1)) mw un (upd (upd (upd (upd s 14 (0)) 12 (s 12 + (1 - bI (∀ i : Nat, i < b0 → ldc (s 0) (s 2) (a 17) (a 18) (xA m1) (xB m1) (a 13) (a 14) i)))) 18 (1)) 8 (s 8 + 1)) (upr (upr (upr (upr (upr (upr (upr a 19 (a 17)) 20 (a 18)) 43 (scat (fun i => i) (a 17) (a 43) b0)) 44 (scat (fun i => i) (a 18) (a 44) b0)) 6 (upd (a 6) (s 8).toNatClampNeg (6))) 7 (upd (a 7) (s 8).toNatClampNeg ((s 11)))) 8 (upd (a 8) (s 8).toNatClampNeg (v))) xA xB g := by
  refine ⟨h.1, h.2.1, h.2.2.1, h.2.2.2.1, h.2.2.2.2.1, h.2.2.2.2.2.1, h.2.2.2.2.2.2.1, h.2.2.2.2.2.2.2.1, h.2.2.2.2.2.2.2.2.1, ⟨by show s 8 + 1 = _; rw [(jj_e8 h).1]; exact nI_1 n0, Nat.succ_le_succ (jj_e8 h).2⟩, h.2.2.2.2.2.2.2.2.2.2.1, h.2.2.2.2.2.2.2.2.2.2.2.1, h.2.2.2.2.2.2.2.2.2.2.2.2.1, ⟨by show s 12 + _ = _; rw [(jj_e12 h).1]; exact rj_add, by have := (jj_e12 h).2; split <;> omega⟩, h.2.2.2.2.2.2.2.2.2.2.2.2.2.2.1, Or.inl rfl, h.2.2.2.2.2.2.2.2.2.2.2.2.2.2.2.2.1, h.2.2.2.2.2.2.2.2.2.2.2.2.2.2.2.2.2.1, h.2.2.2.2.2.2.2.2.2.2.2.2.2.2.2.2.2.2.1, fun q => absurd (jj_m0 h (jj_b2 h q).2.1).2.1 hd, fun q => absurd (jj_m0 h q).2.1 hd, h.2.2.2.2.2.2.2.2.2.2.2.2.2.2.2.2.2.2.2.2.2.1, h.2.2.2.2.2.2.2.2.2.2.2.2.2.2.2.2.2.2.2.2.2.2.1, h.2.2.2.2.2.2.2.2.2.2.2.2.2.2.2.2.2.2.2.2.2.2.2.1, h.2.2.2.2.2.2.2.2.2.2.2.2.2.2.2.2.2.2.2.2.2.2.2.2.1, h.2.2.2.2.2.2.2.2.2.2.2.2.2.2.2.2.2.2.2.2.2.2.2.2.2.1, h.2.2.2.2.2.2.2.2.2.2.2.2.2.2.2.2.2.2.2.2.2.2.2.2.2.2.1, h.2.2.2.2.2.2.2.2.2.2.2.2.2.2.2.2.2.2.2.2.2.2.2.2.2.2.2.1, h.2.2.2.2.2.2.2.2.2.2.2.2.2.2.2.2.2.2.2.2.2.2.2.2.2.2.2.2.1, fun q => absurd rfl q, fun q => absurd rfl q, fun q => absurd (show (1 : Int32) = 0 from q) (by decide), fun _ i hi => ⟨scat_in (ix := fun i => i) (fun _ _ _ _ q => q) i hi, scat_in (ix := fun i => i) (fun _ _ _ _ q => q) i hi⟩, h.2.2.2.2.2.2.2.2.2.2.2.2.2.2.2.2.2.2.2.2.2.2.2.2.2.2.2.2.2.2.2.2.2⟩

set_option maxRecDepth 20000 in
theorem J_coin1 {p0 q0 c0 t0 k0 kk v0 st0 n0 b0 mx ro rj mw un : Nat} {s : Nat → Int32} {a xA xB g : Nat → Nat → Int32} {v : Int32} {m1 : Nat} (h : JJ p0 q0 c0 t0 k0 kk v0 st0 n0 b0 mx ro rj mw un s a xA xB g) (hd : ¬ s 14 = 0) : JJ p0 q0 c0 t0 k0 (kk + 1) v0 st0 (n0 + 1) b0 mx ro (rj + (if (∀ i : Nat, i < b0 → ldc (s 0) (s 2) (scat (nt (a 17)) (a 15) (a 19) b0) (scat (nt (a 17)) (fun i => mn (s 1) (a 16 i) (a 18 i)) (a 20) b0) (a 13) (a 14) (xA m1) (xB m1) i) then 0 else 1)) mw un (upd (upd (upd (upd s 14 (0)) 12 (s 12 + (1 - bI (∀ i : Nat, i < b0 → ldc (s 0) (s 2) (scat (nt (a 17)) (a 15) (a 19) b0) (scat (nt (a 17)) (fun i => mn (s 1) (a 16 i) (a 18 i)) (a 20) b0) (a 13) (a 14) (xA m1) (xB m1) i)))) 18 (1)) 8 (s 8 + 1)) (upr (upr (upr (upr (upr (upr (upr a 19 (scat (nt (a 17)) (a 15) (a 19) b0)) 20 (scat (nt (a 17)) (fun i => mn (s 1) (a 16 i) (a 18 i)) (a 20) b0)) 43 (scat (nt (a 17)) (a 15) (a 43) b0)) 44 (scat (nt (a 17)) (fun i => mn (s 1) (a 16 i) (a 18 i)) (a 44) b0)) 6 (upd (a 6) (s 8).toNatClampNeg (6))) 7 (upd (a 7) (s 8).toNatClampNeg ((s 11)))) 8 (upd (a 8) (s 8).toNatClampNeg (v))) xA xB g := by
  refine ⟨h.1, h.2.1, h.2.2.1, h.2.2.2.1, h.2.2.2.2.1, h.2.2.2.2.2.1, h.2.2.2.2.2.2.1, h.2.2.2.2.2.2.2.1, h.2.2.2.2.2.2.2.2.1, ⟨by show s 8 + 1 = _; rw [(jj_e8 h).1]; exact nI_1 n0, Nat.succ_le_succ (jj_e8 h).2⟩, h.2.2.2.2.2.2.2.2.2.2.1, h.2.2.2.2.2.2.2.2.2.2.2.1, h.2.2.2.2.2.2.2.2.2.2.2.2.1, ⟨by show s 12 + _ = _; rw [(jj_e12 h).1]; exact rj_add, by have := (jj_e12 h).2; split <;> omega⟩, h.2.2.2.2.2.2.2.2.2.2.2.2.2.2.1, Or.inl rfl, h.2.2.2.2.2.2.2.2.2.2.2.2.2.2.2.2.1, h.2.2.2.2.2.2.2.2.2.2.2.2.2.2.2.2.2.1, h.2.2.2.2.2.2.2.2.2.2.2.2.2.2.2.2.2.2.1, fun q => absurd (jj_m0 h (jj_b2 h q).2.1).2.1 hd, fun q => absurd (jj_m0 h q).2.1 hd, h.2.2.2.2.2.2.2.2.2.2.2.2.2.2.2.2.2.2.2.2.2.1, h.2.2.2.2.2.2.2.2.2.2.2.2.2.2.2.2.2.2.2.2.2.2.1, h.2.2.2.2.2.2.2.2.2.2.2.2.2.2.2.2.2.2.2.2.2.2.2.1, h.2.2.2.2.2.2.2.2.2.2.2.2.2.2.2.2.2.2.2.2.2.2.2.2.1, h.2.2.2.2.2.2.2.2.2.2.2.2.2.2.2.2.2.2.2.2.2.2.2.2.2.1, h.2.2.2.2.2.2.2.2.2.2.2.2.2.2.2.2.2.2.2.2.2.2.2.2.2.2.1, h.2.2.2.2.2.2.2.2.2.2.2.2.2.2.2.2.2.2.2.2.2.2.2.2.2.2.2.1, h.2.2.2.2.2.2.2.2.2.2.2.2.2.2.2.2.2.2.2.2.2.2.2.2.2.2.2.2.1, fun q => absurd rfl q, fun q => absurd rfl q, fun q => absurd (show (1 : Int32) = 0 from q) (by decide), fun _ i hi => ⟨sct_eq0 (jj_sw1 h hd) (fun i hi => (jj_sd h hd i hi).1) i hi, sct_eq0 (jj_sw1 h hd) (fun i hi => (jj_sd h hd i hi).1) i hi⟩, h.2.2.2.2.2.2.2.2.2.2.2.2.2.2.2.2.2.2.2.2.2.2.2.2.2.2.2.2.2.2.2.2.2⟩

set_option maxRecDepth 20000 in
theorem J_share {p0 q0 c0 t0 k0 kk v0 st0 n0 b0 mx ro rj mw un : Nat} {s : Nat → Int32} {a xA xB g : Nat → Nat → Int32} {j : Int32} {j0 x0 : Nat} (h : JJ p0 q0 c0 t0 k0 kk v0 st0 n0 b0 mx ro rj mw un s a xA xB g) (hj : j = nI j0) (hj1 : 1 ≤ j0 ∧ j0 ≤ t0) (hg0 : a 1 j.toNatClampNeg = 0) (hm1 : ¬ mx = 0) : JJ p0 q0 c0 t0 k0 (kk + 1) v0 st0 (n0 + 1) b0 mx ro rj mw un (upd (upd s 13 (s 13 + 1)) 8 (s 8 + 1)) (upr (upr (upr (upr (upr a 1 (upd (a 1) j.toNatClampNeg (vp_nar .boolean 1))) 45 (scat (fun i => 40 * j0 + i) (fun i => pw (s 0) 32 x0 1 (xA mx i)) (a 45) b0)) 6 (upd (a 6) (s 8).toNatClampNeg (7))) 7 (upd (a 7) (s 8).toNatClampNeg (j))) 8 (upd (a 8) (s 8).toNatClampNeg (0))) xA xB (upr g j.toNatClampNeg (scat (fun i => i) (fun i => pw (s 0) 32 x0 1 (xA mx i)) (g j.toNatClampNeg) b0)) := by
  refine ⟨h.1, h.2.1, h.2.2.1, h.2.2.2.1, h.2.2.2.2.1, h.2.2.2.2.2.1, h.2.2.2.2.2.2.1, h.2.2.2.2.2.2.2.1, h.2.2.2.2.2.2.2.2.1, ⟨by show s 8 + 1 = _; rw [(jj_e8 h).1]; exact nI_1 n0, Nat.succ_le_succ (jj_e8 h).2⟩, h.2.2.2.2.2.2.2.2.2.2.1, h.2.2.2.2.2.2.2.2.2.2.2.1, h.2.2.2.2.2.2.2.2.2.2.2.2.1, ⟨(jj_e12 h).1, Nat.le_succ_of_le (jj_e12 h).2⟩, by show s 13 + 1 = _; rw [jj_e13 h]; exact gvc_upd hg0 hj hj1 (by have := jj_cst h; omega), h.2.2.2.2.2.2.2.2.2.2.2.2.2.2.2.1, h.2.2.2.2.2.2.2.2.2.2.2.2.2.2.2.2.1, h.2.2.2.2.2.2.2.2.2.2.2.2.2.2.2.2.2.1, h.2.2.2.2.2.2.2.2.2.2.2.2.2.2.2.2.2.2.1, h.2.2.2.2.2.2.2.2.2.2.2.2.2.2.2.2.2.2.2.1, fun q => absurd q hm1, h.2.2.2.2.2.2.2.2.2.2.2.2.2.2.2.2.2.2.2.2.2.1, h.2.2.2.2.2.2.2.2.2.2.2.2.2.2.2.2.2.2.2.2.2.2.1, h.2.2.2.2.2.2.2.2.2.2.2.2.2.2.2.2.2.2.2.2.2.2.2.1, h.2.2.2.2.2.2.2.2.2.2.2.2.2.2.2.2.2.2.2.2.2.2.2.2.1, h.2.2.2.2.2.2.2.2.2.2.2.2.2.2.2.2.2.2.2.2.2.2.2.2.2.1, h.2.2.2.2.2.2.2.2.2.2.2.2.2.2.2.2.2.2.2.2.2.2.2.2.2.2.1, h.2.2.2.2.2.2.2.2.2.2.2.2.2.2.2.2.2.2.2.2.2.2.2.2.2.2.2.1, h.2.2.2.2.2.2.2.2.2.2.2.2.2.2.2.2.2.2.2.2.2.2.2.2.2.2.2.2.1, h.2.2.2.2.2.2.2.2.2.2.2.2.2.2.2.2.2.2.2.2.2.2.2.2.2.2.2.2.2.1, h.2.2.2.2.2.2.2.2.2.2.2.2.2.2.2.2.2.2.2.2.2.2.2.2.2.2.2.2.2.2.1, h.2.2.2.2.2.2.2.2.2.2.2.2.2.2.2.2.2.2.2.2.2.2.2.2.2.2.2.2.2.2.2.1, h.2.2.2.2.2.2.2.2.2.2.2.2.2.2.2.2.2.2.2.2.2.2.2.2.2.2.2.2.2.2.2.2.1, ?_⟩
  · intro k h1 h2 h3 i hi
    have hj5 : j0 < 2 ^ 31 := by have := jj_cst h; omega
    have hb4 := (jj_e9 h).2
    have ej : j.toNatClampNeg = j0 := by rw [hj]; exact nI_clamp hj5
    show scat (fun i => 40 * j0 + i) (fun i => pw (s 0) 32 x0 1 (xA mx i)) (a 45) b0 (40 * k + i) = upr g j.toNatClampNeg (scat (fun i => i) (fun i => pw (s 0) 32 x0 1 (xA mx i)) (g j.toNatClampNeg) b0) k i ∧ rng (s 0) (upr g j.toNatClampNeg (scat (fun i => i) (fun i => pw (s 0) 32 x0 1 (xA mx i)) (g j.toNatClampNeg) b0) k i)
    by_cases q : k = j0
    · subst q
      rw [ej, upr_at, scat_in (ix := fun i => 40 * k + i) (fun a b _ _ e => by omega) i hi, scat_in (ix := fun i => i) (fun _ _ _ _ e => e) i hi]
      obtain ⟨b, _, g1, _, g3, g4⟩ := (jj_li h mx (Nat.le_refl _) i hi).2.2
      exact ⟨rfl, pw_rng (jj_e0 h) (by have := jj_cst h; omega) x0 _ b g1 (by omega)⟩
    · have h3' : ¬ upd (a 1) j.toNatClampNeg (vp_nar .boolean 1) k = 0 := h3
      rw [ej, pk_un q] at h3'
      rw [ej, upr_ne q, scat_out b0 (fun c hc e => by omega)]
      exact jj_gi h k h1 h2 h3' i hi

set_option maxRecDepth 20000 in
theorem J_tally {p0 q0 c0 t0 k0 kk v0 st0 n0 b0 mx ro rj mw un : Nat} {s : Nat → Int32} {a xA xB g : Nat → Nat → Int32} {x y : Int32} {w ct : Nat → Int32} (h : JJ p0 q0 c0 t0 k0 kk v0 st0 n0 b0 mx ro rj mw un s a xA xB g) (hst2 : s 7 = 2) : JJ p0 q0 c0 t0 k0 (kk + 1) v0 3 (n0 + 1) b0 mx ro rj mw un (upd (upd s 7 (3)) 8 (s 8 + 1)) (upr (upr (upr (upr (upr a 2 (ct)) 9 (w)) 6 (upd (a 6) (s 8).toNatClampNeg (8))) 7 (upd (a 7) (s 8).toNatClampNeg (x))) 8 (upd (a 8) (s 8).toNatClampNeg (y))) xA xB g := by
  refine ⟨h.1, h.2.1, h.2.2.1, h.2.2.2.1, h.2.2.2.2.1, h.2.2.2.2.2.1, h.2.2.2.2.2.2.1, h.2.2.2.2.2.2.2.1, ⟨rfl, by omega⟩, ⟨by show s 8 + 1 = _; rw [(jj_e8 h).1]; exact nI_1 n0, Nat.succ_le_succ (jj_e8 h).2⟩, h.2.2.2.2.2.2.2.2.2.2.1, h.2.2.2.2.2.2.2.2.2.2.2.1, h.2.2.2.2.2.2.2.2.2.2.2.2.1, ⟨(jj_e12 h).1, Nat.le_succ_of_le (jj_e12 h).2⟩, h.2.2.2.2.2.2.2.2.2.2.2.2.2.2.1, h.2.2.2.2.2.2.2.2.2.2.2.2.2.2.2.1, h.2.2.2.2.2.2.2.2.2.2.2.2.2.2.2.2.1, h.2.2.2.2.2.2.2.2.2.2.2.2.2.2.2.2.2.1, h.2.2.2.2.2.2.2.2.2.2.2.2.2.2.2.2.2.2.1, fun q => by omega, h.2.2.2.2.2.2.2.2.2.2.2.2.2.2.2.2.2.2.2.2.1, fun q => by omega, h.2.2.2.2.2.2.2.2.2.2.2.2.2.2.2.2.2.2.2.2.2.2.1, h.2.2.2.2.2.2.2.2.2.2.2.2.2.2.2.2.2.2.2.2.2.2.2.1, h.2.2.2.2.2.2.2.2.2.2.2.2.2.2.2.2.2.2.2.2.2.2.2.2.1, h.2.2.2.2.2.2.2.2.2.2.2.2.2.2.2.2.2.2.2.2.2.2.2.2.2.1, h.2.2.2.2.2.2.2.2.2.2.2.2.2.2.2.2.2.2.2.2.2.2.2.2.2.2.1, h.2.2.2.2.2.2.2.2.2.2.2.2.2.2.2.2.2.2.2.2.2.2.2.2.2.2.2.1, h.2.2.2.2.2.2.2.2.2.2.2.2.2.2.2.2.2.2.2.2.2.2.2.2.2.2.2.2.1, h.2.2.2.2.2.2.2.2.2.2.2.2.2.2.2.2.2.2.2.2.2.2.2.2.2.2.2.2.2.1, h.2.2.2.2.2.2.2.2.2.2.2.2.2.2.2.2.2.2.2.2.2.2.2.2.2.2.2.2.2.2.1, h.2.2.2.2.2.2.2.2.2.2.2.2.2.2.2.2.2.2.2.2.2.2.2.2.2.2.2.2.2.2.2.1, h.2.2.2.2.2.2.2.2.2.2.2.2.2.2.2.2.2.2.2.2.2.2.2.2.2.2.2.2.2.2.2.2.1, h.2.2.2.2.2.2.2.2.2.2.2.2.2.2.2.2.2.2.2.2.2.2.2.2.2.2.2.2.2.2.2.2.2⟩

