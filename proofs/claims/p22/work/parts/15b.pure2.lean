/-! Pure words of what the class and the reference do, and the steps of their loops. -/
abbrev nt (g : Nat → Int32) (k : Nat) : Nat := (g k).toNatClampNeg
/-- x is not negative -/
abbrev nn (x : Int32) : Prop := x = nI x.toNatClampNeg
theorem nn_of {x : Int32} (h : 0 ≤ x) : nn x := by
  obtain ⟨j, hj, e⟩ := nI_of (x := x) (Int32.not_lt.mpr h)
  show x = nI x.toNatClampNeg
  rw [e, nI_clamp hj]
theorem nn_nI {n : Nat} (h : n < 2 ^ 31) : nn (nI n) := by
  show nI n = nI (nI n).toNatClampNeg
  rw [nI_clamp h]
theorem nn_lt (x : Int32) : x.toNatClampNeg < 2 ^ 31 := by
  have h := Int32.toInt_lt x
  have : x.toNatClampNeg = x.toInt.toNat := rfl
  omega
theorem nn_ne {x : Int32} (h : nn x) : ¬ x = -1 := by
  intro e
  rw [e] at h
  exact absurd h (by decide)
/-- a loop from 0 to n0 -/
theorem lp_c {n z : Int32} {n0 k : Nat} (hz : z = nI k) (hn : n = nI n0) (hN : n0 < 2 ^ 30) (h2 : k ≤ n0) : n ≤ z ↔ n0 ≤ k := by rw [hz, hn]; exact nI_leI (by omega) (by omega)
theorem lp_lt {n z : Int32} {n0 k : Nat} (hz : z = nI k) (hn : n = nI n0) (hN : n0 < 2 ^ 30) (h2 : k ≤ n0) (c : ¬ n ≤ z) : k < n0 := by rw [lp_c hz hn hN h2] at c; omega
theorem lp_end {n z : Int32} {n0 k : Nat} (hz : z = nI k) (hn : n = nI n0) (hN : n0 < 2 ^ 30) (h2 : k ≤ n0) (c : n ≤ z) : k = n0 := by rw [lp_c hz hn hN h2] at c; omega
/-- a loop from 1 to n0, n0 taken along -/
theorem lq_c {n z : Int32} {n0 k : Nat} (hz : z = nI k) (hn : n = nI n0) (hN : n0 < 2 ^ 30) (h2 : k ≤ n0 + 1) : n < z ↔ n0 < k := by rw [hz, hn]; exact nI_ltI (by omega) (by omega)
theorem lq_le {n z : Int32} {n0 k : Nat} (hz : z = nI k) (hn : n = nI n0) (hN : n0 < 2 ^ 30) (h2 : k ≤ n0 + 1) (c : ¬ n < z) : k ≤ n0 := by rw [lq_c hz hn hN h2] at c; omega
theorem lq_end {n z : Int32} {n0 k : Nat} (hz : z = nI k) (hn : n = nI n0) (hN : n0 < 2 ^ 30) (h2 : k ≤ n0 + 1) (c : n < z) : k = n0 + 1 := by rw [lq_c hz hn hN h2] at c; omega
theorem st_1 {z : Int32} {k : Nat} (hz : z = nI k) : z + 1 = nI (k + 1) := by rw [hz]; exact nI_1 k
/-- values v k put at places ix k, one behind the other -/
def scat (ix : Nat → Nat) (v w : Nat → Int32) : Nat → Nat → Int32
  | 0 => w
  | k + 1 => upd (scat ix v w k) (ix k) (v k)
theorem scat_s {ix : Nat → Nat} {v w : Nat → Int32} {k i : Nat} {x : Int32} (hi : i = ix k) (hx : x = v k) : upd (scat ix v w k) i x = scat ix v w (k + 1) := by rw [hi, hx]; rfl
theorem scat_in {ix : Nat → Nat} {v w : Nat → Int32} {n : Nat} (hinj : ∀ a b : Nat, a < n → b < n → ix a = ix b → a = b) : ∀ j : Nat, j < n → scat ix v w n (ix j) = v j := by
  induction n with
  | zero => intro j h; omega
  | succ n ih =>
    intro j hj
    show upd (scat ix v w n) (ix n) (v n) (ix j) = v j
    by_cases e : j = n
    · rw [e, pk_us]
    · rw [pk_un (fun q => e (hinj j n hj (by omega) q))]
      exact ih (fun a b ha hb => hinj a b (by omega) (by omega)) j (by omega)
theorem scat_out {ix : Nat → Nat} {v w : Nat → Int32} {x : Nat} : ∀ n : Nat, (∀ a : Nat, a < n → ¬ ix a = x) → scat ix v w n x = w x
  | 0, _ => rfl
  | n + 1, h => by
    show upd (scat ix v w n) (ix n) (v n) x = w x
    rw [pk_un (fun q => h n (by omega) q.symm)]
    exact scat_out n (fun a ha => h a (by omega))
theorem scat_all {ix : Nat → Nat} {v w : Nat → Int32} {P : Nat → Int32 → Prop} : ∀ n : Nat, (∀ x, P x (w x)) → (∀ a : Nat, a < n → P (ix a) (v a)) → ∀ x, P x (scat ix v w n x)
  | 0, h, _, x => h x
  | n + 1, h, hv, x => by
    show P x (upd (scat ix v w n) (ix n) (v n) x)
    by_cases e : x = ix n
    · rw [e, pk_us]; exact hv n (by omega)
    · rw [pk_un e]; exact scat_all n h (fun a ha => hv a (by omega)) x
/-- a staging that is whole -/
abbrev whl (g : Nat → Int32) (n : Nat) : Prop := (∀ i : Nat, i < n → ¬ g i = -1) ∧ ∀ i : Nat, i < n → ∀ k : Nat, k < i → ¬ g k = g i
theorem whl_0 (g : Nat → Int32) : whl g 0 := ⟨fun i h => by omega, fun i h => by omega⟩
theorem whl_s {g : Nat → Int32} {k : Nat} (h : whl g k) (h1 : ¬ g k = -1) (h2 : ∀ j : Nat, j < k → ¬ g j = g k) : whl g (k + 1) := by
  refine ⟨fun i hi => ?_, fun i hi j hj => ?_⟩
  · by_cases e : i = k
    · rw [e]; exact h1
    · exact h.1 i (by omega)
  · by_cases e : i = k
    · rw [e]; exact h2 j (by omega)
    · exact h.2 i (by omega) j hj
/-- the places that are taken, a bit for each -/
def bt (x : Int32) : Int64 := 1 <<< (x.toInt64 &&& 63)
def tkm (g : Nat → Int32) : Nat → Int64
  | 0 => 0
  | k + 1 => tkm g k ||| bt (g k)
theorem bt_all : ∀ a : Fin 40, ∀ b : Fin 40, (bt (nI a.val) &&& bt (nI b.val) = 0) ↔ ¬ a = b := by decide +kernel
theorem bt_ne0 : ∀ a : Fin 40, ¬ bt (nI a.val) = 0 := by decide +kernel
theorem bt_pair {a b : Nat} (ha : a < 40) (hb : b < 40) : (bt (nI a) &&& bt (nI b) = 0) ↔ ¬ a = b := by
  have := bt_all ⟨a, ha⟩ ⟨b, hb⟩
  simpa [Fin.ext_iff] using this
theorem or_and0 (x y z : Int64) : ((x ||| y) &&& z = 0) ↔ (x &&& z = 0 ∧ y &&& z = 0) := by
  have h : (x ||| y) &&& z = (x &&& z) ||| (y &&& z) := by
    apply Int64.toBitVec_inj.mp
    simp only [Int64.toBitVec_and, Int64.toBitVec_or]
    ext i hi
    simp only [BitVec.getElem_and, BitVec.getElem_or]
    cases x.toBitVec[i] <;> cases y.toBitVec[i] <;> cases z.toBitVec[i] <;> rfl
  rw [h]
  constructor
  · intro h2
    have h3 := congrArg Int64.toBitVec h2
    simp only [Int64.toBitVec_or, Int64.toBitVec_and] at h3
    have h4 : (x.toBitVec &&& z.toBitVec) = 0#64 ∧ (y.toBitVec &&& z.toBitVec) = 0#64 := by
      constructor
      · apply BitVec.eq_of_getLsbD_eq
        intro i hi
        have h5 := congrArg (fun v : BitVec 64 => v.getLsbD i) h3
        simp at h5 ⊢
        exact h5.1
      · apply BitVec.eq_of_getLsbD_eq
        intro i hi
        have h5 := congrArg (fun v : BitVec 64 => v.getLsbD i) h3
        simp at h5 ⊢
        exact h5.2
    exact ⟨Int64.toBitVec_inj.mp (by simp only [Int64.toBitVec_and]; exact h4.1), Int64.toBitVec_inj.mp (by simp only [Int64.toBitVec_and]; exact h4.2)⟩
  · rintro ⟨h2, h3⟩
    rw [h2, h3]; rfl
theorem tkm_iff {g : Nat → Int32} {t : Nat} (ht : t < 40) : ∀ k : Nat, (∀ j : Nat, j < k → nn (g j) ∧ nt g j < 40) → ((tkm g k &&& bt (nI t) = 0) ↔ ∀ j : Nat, j < k → ¬ g j = nI t)
  | 0, _ => ⟨fun _ j h => by omega, fun _ => by show (0 : Int64) &&& _ = 0; exact Int64.zero_and⟩
  | k + 1, h => by
    show ((tkm g k ||| bt (g k)) &&& bt (nI t) = 0) ↔ _
    rw [or_and0, tkm_iff ht k (fun j hj => h j (by omega))]
    obtain ⟨h1, h2⟩ := h k (by omega)
    have e : (bt (g k) &&& bt (nI t) = 0) ↔ ¬ g k = nI t := by
      rw [h1, bt_pair h2 ht, nI_eq (nn_lt _) (by omega)]
    rw [e]
    constructor
    · rintro ⟨a, b⟩ j hj
      by_cases q : j = k
      · rw [q]; exact b
      · exact a j (by omega)
    · intro a
      exact ⟨fun j hj => a j (by omega), a k (by omega)⟩
/-- what stands at a place behind a shuffle -/
def shv (P b : Int32) (ff fx src to ex : Nat → Int32) (k : Nat) : Int32 := if ff (nt to k) = -1 then tm P (src k) (pw P 32 (nt ex k) 1 b) else fx (nt to k)
/-- a place, made anew, is what stands where it goes -/
abbrev ldc (P h : Int32) (to ex sa sb da db : Nat → Int32) (k : Nat) : Prop := tm P (sa k) (pw P 32 (nt ex k) 1 4) = da (nt to k) ∧ tm P (sb k) (pw P 32 (nt ex k) 1 h) = db (nt to k)
/-- how many of the first k have a ballot -/
def gcn (g : Nat → Int32) : Nat → Nat
  | 0 => 0
  | k + 1 => if g k = -1 then gcn g k else gcn g k + 1
theorem gcn_le (g : Nat → Int32) : ∀ k : Nat, gcn g k ≤ k
  | 0 => Nat.le_refl _
  | k + 1 => by
    have := gcn_le g k
    show (if g k = -1 then gcn g k else gcn g k + 1) ≤ k + 1
    split <;> omega
/-- those that have one, one behind the other -/
def gar (g v w : Nat → Int32) : Nat → Nat → Int32
  | 0 => w
  | k + 1 => if g k = -1 then gar g v w k else upd (gar g v w k) (gcn g k) (v k)
/-- a digest of n numbers, going on from d -/
def dg1 (v : Nat → Int32) : Nat → Int64
  | 0 => 0
  | k + 1 => dg (dg1 v k) (v k).toInt64
/-- the share of trustee j: from k - 1 down to 0 -/
def shr (q j : Int32) (cf : Nat → Int32) : Nat → Int32 → Int32
  | 0, v => v
  | k + 1, v => shr q j cf k (pl q (tm q v j) (cf k))
/-- how many of the trustees 1 .. k gave -/
def gvc (gv : Nat → Int32) : Nat → Nat
  | 0 => 0
  | k + 1 => if gv (k + 1) = 0 then gvc gv k else gvc gv k + 1
theorem gvc_mono (gv : Nat → Int32) {a b : Nat} (h : a ≤ b) : gvc gv a ≤ gvc gv b := by
  induction b with
  | zero => rw [show a = 0 by omega]; exact Nat.le_refl _
  | succ b ih =>
    by_cases e : a = b + 1
    · rw [e]; exact Nat.le_refl _
    · have := ih (by omega)
      show gvc gv a ≤ (if gv (b + 1) = 0 then gvc gv b else gvc gv b + 1)
      split <;> omega
/-- Lagrange's weight of j at 0: above and below the line -/
def wup (q : Int32) (gv : Nat → Int32) (j : Nat) : Nat → Int32
  | 0 => 1
  | k + 1 => if k + 1 = j ∨ gv (k + 1) = 0 then wup q gv j k else tm q (wup q gv j k) (nI (k + 1))
def wdn (q : Int32) (gv : Nat → Int32) (j : Nat) : Nat → Int32
  | 0 => 1
  | k + 1 => if k + 1 = j ∨ gv (k + 1) = 0 then wdn q gv j k else tm q (wdn q gv j k) (mn q (nI (k + 1)) (nI j))
def wgt (q : Int32) (q0 : Nat) (gv : Nat → Int32) (la j : Nat) : Int32 := tm q (wup q gv j la) (pw q 32 (q0 - 2) 1 (wdn q gv j la))
/-- the weights of 1 .. k, as the class lays them -/
def wts (q : Int32) (q0 : Nat) (gv : Nat → Int32) (la : Nat) (w : Nat → Int32) : Nat → Nat → Int32
  | 0 => w
  | k + 1 => upd (wts q q0 gv la w k) (k + 1) (if k + 1 ≤ la ∧ ¬ gv (k + 1) = 0 then wgt q q0 gv la (k + 1) else 0)
/-- the weighed shares of 1 .. k together -/
def jgf (P : Int32) (w : Nat → Int32) (gi : Nat → Int32) : Nat → Int32
  | 0 => 1
  | k + 1 => if w (k + 1) = 0 then jgf P w gi k else tm P (jgf P w gi k) (pw P 32 (nt w (k + 1)) 1 (gi (k + 1)))
/-- the least c below n with pr c, or n -/
def cfi (pr : Nat → Bool) : Nat → Nat
  | 0 => 0
  | n + 1 => if cfi pr n < n then cfi pr n else if pr n then n else n + 1
theorem cfi_le (pr : Nat → Bool) : ∀ n : Nat, cfi pr n ≤ n
  | 0 => Nat.le_refl _
  | n + 1 => by
    show (if cfi pr n < n then cfi pr n else if pr n then n else n + 1) ≤ n + 1
    split
    · omega
    · split <;> omega
theorem cfi_no {pr : Nat → Bool} : ∀ n : Nat, (∀ j : Nat, j < n → pr j = false) → cfi pr n = n
  | 0, _ => rfl
  | n + 1, h => by
    show (if cfi pr n < n then cfi pr n else if pr n then n else n + 1) = n + 1
    rw [cfi_no n (fun j hj => h j (by omega)), if_neg (by omega), h n (by omega)]
    rfl
theorem cfi_at {pr : Nat → Bool} {k : Nat} (h : ∀ j : Nat, j < k → pr j = false) (hk : pr k = true) : ∀ n : Nat, k < n → cfi pr n = k
  | 0, h0 => by omega
  | n + 1, h0 => by
    show (if cfi pr n < n then cfi pr n else if pr n then n else n + 1) = k
    by_cases e : k = n
    · subst e
      rw [cfi_no k h, if_neg (by omega), hk]
      rfl
    · rw [cfi_at h hk n (by omega), if_pos (by omega)]
/-- how often each was found among the first k -/
def cts (ci : Nat → Nat) (w : Nat → Int32) : Nat → Nat → Int32
  | 0 => w
  | k + 1 => upd (cts ci w k) (ci k) (cts ci w k (ci k) + 1)
