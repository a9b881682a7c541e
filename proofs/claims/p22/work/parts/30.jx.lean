section WM
variable {p : Program} {l : Launch} {e : Env} {R : Room} {s : State} {m : MethodId} {args : Array Value} {below : List Frame} {meth : Method} {c : Code} {H : Heap} {locs : List Loc} {cells slots : Nat} {Q : State → Prop}
variable {pc : Nat} {ls : Array Slot} {rest st0 : List Value} {a : Array Value} {A0 : Nat → Prop} {H0 : Heap} {D : va_G} {cl : List vw_C}
theorem wt_callM1 {X cx rx X' pl : va_W} {v : Value} (hr : va_Run p l e R s m args below meth c H locs cells slots 0 0 (F0 m pc ls st0) rest (wq_x cl D rx (some v) (wA cx) a) (wA cx)) (hP : va_P D cl (X ++ pl) H) (hD : va_D A0 (X ++ pl)) (hS : va_S A0 H0 H locs) (isC isR : List Nat) (hC : isC.map (fun i => X[i]?) = cx.map some) (hC1 : isC.map (fun i => X'[i]?) = rx.map some) (hR1 : isR.map (fun i => X'[i]?) = (isR.filterMap (fun i => X[i]?)).map some) (hR2 : isR.map (fun i => X[i]?) = (isR.filterMap (fun i => X[i]?)).map some) {ads : List Nat} (ha1 : X'.map Prod.fst = ads) (ha2 : X.map Prod.fst = ads)
    (hall : (List.range X'.length).all (fun k => isC.contains k || (isR.contains k && !isC.contains k)) = true)
    (kk : ∀ (H : Heap) (locs : List Loc), va_P D cl (X' ++ pl) H → va_D A0 (X' ++ pl) → va_S A0 H0 H locs → W p l e R s m args below meth c H locs cells slots Q (F0 m (pc + 3) ls (v :: rest))) : W p l e R s m args below meth c H locs cells slots Q (F0 m pc ls st0) :=
  wt_call1 hr hP hD hS isC isR hC hC1 (hR1.trans hR2.symm) (ha1.trans ha2.symm) hall kk
theorem wu_callM1 {X cx rx X' pl pl1 : va_W} {v : Value} (hr : va_Run p l e R s m args below meth c H locs cells slots 0 0 (F0 m pc ls st0) rest (wq_x cl D (rx ++ pl1) (some v) (wA (cx ++ pl)) a) (wA (cx ++ pl))) (hP : va_P D cl (X ++ pl) H) (hD : va_D A0 (X ++ pl)) (hS : va_S A0 H0 H locs) (isC isR : List Nat) (hC : isC.map (fun i => X[i]?) = cx.map some) (hC1 : isC.map (fun i => X'[i]?) = rx.map some) (hR1 : isR.map (fun i => X'[i]?) = (isR.filterMap (fun i => X[i]?)).map some) (hR2 : isR.map (fun i => X[i]?) = (isR.filterMap (fun i => X[i]?)).map some) {ads : List Nat} (ha1 : X'.map Prod.fst = ads) (ha2 : X.map Prod.fst = ads) (hpl : pl1.map Prod.fst = pl.map Prod.fst)
    (hall : (List.range X'.length).all (fun k => isC.contains k || (isR.contains k && !isC.contains k)) = true)
    (kk : ∀ (H : Heap) (locs : List Loc), va_P D cl (X' ++ pl1) H → va_D A0 (X' ++ pl1) → va_S A0 H0 H locs → W p l e R s m args below meth c H locs cells slots Q (F0 m (pc + 3) ls (v :: rest))) : W p l e R s m args below meth c H locs cells slots Q (F0 m pc ls st0) :=
  wu_call1 hr hP hD hS isC isR hC hC1 (hR1.trans hR2.symm) (ha1.trans ha2.symm) hpl hall kk
end WM
/-- a row of longs becomes another -/
def upq (lq : Nat → Nat → Int64) (j : Nat) (w : Nat → Int64) : Nat → Nat → Int64 := fun k => if k = j then w else lq k
section JX
variable {p0 q0 c0 t0 k0 kk v0 st0 n0 b0 mx ro rj mw un : Nat} {s : Nat → Int32} {a xA xB g : Nat → Nat → Int32}
theorem sg_rg (h : JJ p0 q0 c0 t0 k0 kk v0 st0 n0 b0 mx ro rj mw un s a xA xB g) : ∀ i : Nat, i < b0 → a 3 i = -1 ∨ (nn (a 3 i) ∧ nt (a 3) i < 40) :=
  fun i _ => (jj_sg h i).imp id (fun q => ⟨q.1, Nat.lt_of_lt_of_le q.2.1 (jj_e9 h).2⟩)
theorem sg_40 (h : JJ p0 q0 c0 t0 k0 kk v0 st0 n0 b0 mx ro rj mw un s a xA xB g) (hw : whl (a 3) b0) : ∀ i : Nat, i < b0 → nn (a 3 i) ∧ nt (a 3) i < 40 ∧ nn (a 12 i) :=
  fun i hi => ⟨(sg_mv h hw i hi).1, Nat.lt_of_lt_of_le (sg_mv h hw i hi).2.1 (jj_e9 h).2, (sg_mv h hw i hi).2.2.1⟩
theorem sg_b0 (h : JJ p0 q0 c0 t0 k0 kk v0 st0 n0 b0 mx ro rj mw un s a xA xB g) (hw : whl (a 3) b0) : ∀ i : Nat, i < b0 → nn (a 3 i) ∧ nt (a 3) i < b0 ∧ nn (a 12 i) :=
  fun i hi => ⟨(sg_mv h hw i hi).1, (sg_mv h hw i hi).2.1, (sg_mv h hw i hi).2.2.1⟩
theorem li_2 (h : JJ p0 q0 c0 t0 k0 kk v0 st0 n0 b0 mx ro rj mw un s a xA xB g) {m : Nat} (hm : m ≤ mx) : ∀ i : Nat, i < b0 → a 34 (40 * m + i) = xA m i ∧ a 35 (40 * m + i) = xB m i :=
  fun i hi => ⟨(jj_li h m hm i hi).1, (jj_li h m hm i hi).2.1⟩
theorem sd_40 (h : JJ p0 q0 c0 t0 k0 kk v0 st0 n0 b0 mx ro rj mw un s a xA xB g) (hd : ¬ s 14 = 0) : ∀ i : Nat, i < b0 → nn (a 17 i) ∧ nt (a 17) i < 40 ∧ nn (a 18 i) :=
  fun i hi => ⟨(jj_sd h hd i hi).1.1, Nat.lt_of_lt_of_le (jj_sd h hd i hi).1.2 (jj_e9 h).2, (jj_sd h hd i hi).2.1.1⟩
theorem sd_b0 (h : JJ p0 q0 c0 t0 k0 kk v0 st0 n0 b0 mx ro rj mw un s a xA xB g) (hd : ¬ s 14 = 0) : ∀ i : Nat, i < b0 → nn (a 17 i) ∧ nt (a 17) i < b0 ∧ nn (a 18 i) :=
  fun i hi => ⟨(jj_sd h hd i hi).1.1, (jj_sd h hd i hi).1.2, (jj_sd h hd i hi).2.1.1⟩
theorem sd_st (h : JJ p0 q0 c0 t0 k0 kk v0 st0 n0 b0 mx ro rj mw un s a xA xB g) (hd : ¬ s 14 = 0) : ∀ i : Nat, i < b0 → a 41 i = a 17 i ∧ a 42 i = a 18 i :=
  fun i hi => ⟨(jj_sd h hd i hi).2.2.1, (jj_sd h hd i hi).2.2.2.1⟩
theorem sd_sh (h : JJ p0 q0 c0 t0 k0 kk v0 st0 n0 b0 mx ro rj mw un s a xA xB g) (hd : ¬ s 14 = 0) : ∀ i : Nat, i < b0 → a 36 i = a 13 i ∧ a 37 i = a 14 i :=
  fun i hi => ⟨(jj_sd h hd i hi).2.2.2.2.1, (jj_sd h hd i hi).2.2.2.2.2⟩
theorem sd_mv (h : JJ p0 q0 c0 t0 k0 kk v0 st0 n0 b0 mx ro rj mw un s a xA xB g) (hd : ¬ s 14 = 0) (hm : 1 ≤ mx) : ∀ i : Nat, i < b0 → (nn (a 17 i) ∧ nt (a 17) i < b0) ∧ (nn (a 18 i) ∧ nt (a 18) i < q0) ∧ (nn (a 15 i) ∧ nt (a 15) i < b0) ∧ (nn (a 16 i) ∧ nt (a 16) i < q0) :=
  fun i hi => ⟨(jj_sd h hd i hi).1, (jj_sd h hd i hi).2.1, (jj_mm h hm i hi).1, (jj_mm h hm i hi).2.1⟩
theorem mm_2 (h : JJ p0 q0 c0 t0 k0 kk v0 st0 n0 b0 mx ro rj mw un s a xA xB g) (hm : 1 ≤ mx) : ∀ i : Nat, i < b0 → a 39 i = a 15 i ∧ a 40 i = a 16 i :=
  fun i hi => ⟨(jj_mm h hm i hi).2.2.1, (jj_mm h hm i hi).2.2.2⟩
theorem c1_sw (h : JJ p0 q0 c0 t0 k0 kk v0 st0 n0 b0 mx ro rj mw un s a xA xB g) (hd : ¬ s 14 = 0) (hm : 1 ≤ mx) (wt we : Nat → Int32) : ∀ i : Nat, i < b0 → nn (scat (nt (a 17)) (a 15) wt b0 i) ∧ nt (scat (nt (a 17)) (a 15) wt b0) i < 40 ∧ nn (scat (nt (a 17)) (fun i => mn (s 1) (a 16 i) (a 18 i)) we b0 i) := by
  intro i hi
  have hr : ∀ i : Nat, i < b0 → nn (a 17 i) ∧ nt (a 17) i < b0 := fun i hi => (jj_sd h hd i hi).1
  have hw := jj_sw1 h hd
  obtain ⟨k, hk, e⟩ := whl_sur hw hr i hi
  have hj := whl_inj hw hr
  have e1 : scat (nt (a 17)) (a 15) wt b0 i = a 15 k := by rw [← e]; exact scat_in hj k hk
  have e2 : scat (nt (a 17)) (fun i => mn (s 1) (a 16 i) (a 18 i)) we b0 i = mn (s 1) (a 16 k) (a 18 k) := by rw [← e]; exact scat_in (v := fun i => mn (s 1) (a 16 i) (a 18 i)) hj k hk
  obtain ⟨h1, h2, h3, h4⟩ := sd_mv h hd hm k hk
  refine ⟨by rw [e1]; exact h3.1, ?_, by rw [e2]; exact mn_nn (jj_e1 h) (by have := jj_cst h; omega) h4 h2⟩
  show (scat (nt (a 17)) (a 15) wt b0 i).toNatClampNeg < 40
  rw [e1]
  exact Nat.lt_of_lt_of_le h3.2 (jj_e9 h).2
theorem shr_n {q j : Int32} {q0 j0 : Nat} {cf : Nat → Int32} (hq : q = nI q0) (hq1 : 5 ≤ q0 ∧ q0 < 1000000) (hj : j = nI j0) (hj5 : j0 ≤ 5) : ∀ (k : Nat) (v : Int32) (x : Nat), (∀ i : Nat, i < k → nn (cf i) ∧ nt cf i < q0) → v = nI x → x < q0 → ∃ y : Nat, shr q j cf k v = nI y ∧ y < q0
  | 0, v, x, _, hv, hx => ⟨x, hv, hx⟩
  | k + 1, v, x, hc, hv, hx => by
    obtain ⟨y, h1, h2⟩ := so8_n hq hq1 hv hx hj hj5 (hc k (by omega))
    exact shr_n hq hq1 hj hj5 k _ y (fun i hi => hc i (by omega)) h1 h2
theorem sh_ex (h : JJ p0 q0 c0 t0 k0 kk v0 st0 n0 b0 mx ro rj mw un s a xA xB g) {j : Int32} {j0 : Nat} (hj : j = nI j0) (hj5 : j0 ≤ t0) : ∃ y : Nat, shr (s 1) j (a 0) k0 0 = nI y ∧ y < 2 ^ 31 := by
  have hc := jj_cst h
  obtain ⟨y, h1, h2⟩ := shr_n (jj_e1 h) (by omega) hj (by omega) k0 0 0 (jj_co h) rfl (by omega)
  exact ⟨y, h1, by omega⟩
theorem gvc_0 {gv : Nat → Int32} : ∀ t : Nat, (∀ j : Nat, 1 ≤ j → j ≤ t → gv j = 0) → gvc gv t = 0
  | 0, _ => rfl
  | t + 1, h => by
    show (if gv (t + 1) = 0 then gvc gv t else gvc gv t + 1) = 0
    rw [if_pos (h (t + 1) (by omega) (Nat.le_refl _))]
    exact gvc_0 t (fun j h1 h2 => h j h1 (by omega))
theorem k_le (h : JJ p0 q0 c0 t0 k0 kk v0 st0 n0 b0 mx ro rj mw un s a xA xB g) : s 5 ≤ s 13 ↔ k0 ≤ gvc (a 1) t0 := by
  have hc := jj_cst h
  have := gvc_le (a 1) t0
  rw [jj_e5 h, jj_e13 h]
  exact nI_leI (by omega) (by omega)
theorem ta_iff (h : JJ p0 q0 c0 t0 k0 kk v0 st0 n0 b0 mx ro rj mw un s a xA xB g) : (s 7 = 2 ∧ ¬ 0 < s 12 ∧ ¬ s 15 < s 10 ∧ s 5 ≤ s 13) ↔ (s 7 = 2 ∧ ¬ 0 < s 12 ∧ ¬ s 10 = 0 ∧ ¬ s 11 = 0 ∧ ¬ 0 < s 16 ∧ s 5 ≤ s 13) := by
  have hc := jj_cst h
  have hp := jj_pr h
  have e10 := jj_e10 h
  have e11 := jj_e11 h
  have hu : un ≤ mx := by omega
  have hw : mw ≤ mx := by omega
  have c1 : s 15 < s 10 ↔ mw < mx := by rw [jj_e15 h, e10.1]; exact nI_ltI (by omega) (by omega)
  have c2 : s 10 = 0 ↔ mx = 0 := by rw [e10.1, show (0 : Int32) = nI 0 from rfl]; exact nI_eq (by omega) (by omega)
  have c3 : s 11 = 0 ↔ ro = 0 := by rw [e11.1, show (0 : Int32) = nI 0 from rfl]; exact nI_eq (by omega) (by omega)
  have c4 : 0 < s 16 ↔ 0 < un := by rw [jj_e16 h, show (0 : Int32) = nI 0 from rfl]; exact nI_ltI (by omega) (by omega)
  have key : s 5 ≤ s 13 → ¬ mx = 0 := fun q e => by
    rw [k_le h, gvc_0 t0 (jj_m0 h e).2.2] at q
    omega
  have eq : ∀ hm : ¬ mx = 0, ¬ mw < mx ↔ (¬ ro = 0 ∧ ¬ 0 < un) := fun hm => by
    by_cases c : ro = 0
    · rw [if_neg (by omega)] at hp; omega
    · rw [if_pos (Or.inr c)] at hp; omega
  constructor
  · rintro ⟨h1, h2, h3, h4⟩
    have hm := key h4
    rw [c1, eq hm] at h3
    exact ⟨h1, h2, fun q => hm (c2.mp q), fun q => h3.1 (c3.mp q), fun q => h3.2 (c4.mp q), h4⟩
  · rintro ⟨h1, h2, h3, h4, h5, h6⟩
    have hm := key h6
    exact ⟨h1, h2, by rw [c1, eq hm]; exact ⟨fun q => h4 (c3.mpr q), fun q => h5 (c4.mpr q)⟩, h6⟩
theorem ta_mx (h : JJ p0 q0 c0 t0 k0 kk v0 st0 n0 b0 mx ro rj mw un s a xA xB g) (h4 : s 5 ≤ s 13) : ¬ mx = 0 := fun e => by
  have hc := jj_cst h
  rw [k_le h, gvc_0 t0 (jj_m0 h e).2.2] at h4
  omega
theorem la_ex (h : JJ p0 q0 c0 t0 k0 kk v0 st0 n0 b0 mx ro rj mw un s a xA xB g) (h4 : s 5 ≤ s 13) : ∃ la : Nat, gvc (a 1) la = k0 ∧ (∀ j : Nat, j < la → gvc (a 1) j < k0) ∧ la ≤ t0 := by
  have hc := jj_cst h
  rw [k_le h] at h4
  obtain ⟨la, h1, h2⟩ := pk_least (fun k => k0 ≤ gvc (a 1) k) ⟨t0, h4⟩
  have h3 : la ≤ t0 := by
    rcases Nat.lt_or_ge t0 la with q | q
    · exact absurd h4 (h2 t0 q)
    · exact q
  refine ⟨la, ?_, fun j hj => by have := h2 j hj; omega, h3⟩
  cases la with
  | zero => have : gvc (a 1) 0 = 0 := rfl; omega
  | succ n =>
    have h5 := h2 n (by omega)
    have e : gvc (a 1) (n + 1) = if a 1 (n + 1) = 0 then gvc (a 1) n else gvc (a 1) n + 1 := rfl
    rw [e] at h1 ⊢
    by_cases c : a 1 (n + 1) = 0
    · rw [if_pos c] at h1 ⊢; omega
    · rw [if_neg c] at h1 ⊢; omega
theorem wn_ok (h : JJ p0 q0 c0 t0 k0 kk v0 st0 n0 b0 mx ro rj mw un s a xA xB g) {la : Nat} (hla : la ≤ t0) (w : Nat → Int32) : ∀ j : Nat, 1 ≤ j → j ≤ t0 → nn (wts (s 1) q0 (a 1) la w t0 j) := by
  intro j h1 h2
  have hc := jj_cst h
  rw [wts_at t0 j h1 h2]
  by_cases c : j ≤ la ∧ ¬ a 1 j = 0
  · rw [if_pos c]; exact wg_nn (jj_e1 h) (by omega) (by omega) (by omega)
  · rw [if_neg c]; decide
theorem gi_1 (h : JJ p0 q0 c0 t0 k0 kk v0 st0 n0 b0 mx ro rj mw un s a xA xB g) : ∀ j : Nat, 1 ≤ j → j ≤ t0 → ¬ a 1 j = 0 → ∀ i : Nat, i < b0 → a 45 (40 * j + i) = g j i := fun j h1 h2 h3 i hi => (jj_gi h j h1 h2 h3 i hi).1
theorem gi_2 (h : JJ p0 q0 c0 t0 k0 kk v0 st0 n0 b0 mx ro rj mw un s a xA xB g) : ∀ j : Nat, 1 ≤ j → j ≤ t0 → ¬ a 1 j = 0 → ∀ i : Nat, i < b0 → rng (s 0) (g j i) := fun j h1 h2 h3 i hi => (jj_gi h j h1 h2 h3 i hi).2
theorem st_2 (h : JJ p0 q0 c0 t0 k0 kk v0 st0 n0 b0 mx ro rj mw un s a xA xB g) {i : Int32} (hi : 0 ≤ i ∧ i < s 9) : ¬ s 7 < 2 := fun q => by
  have e7 := jj_e7 h
  rw [e7.1, show (2 : Int32) = nI 2 from rfl, nI_ltI (by omega) (by omega)] at q
  have hb := (jj_b2 h q).1
  obtain ⟨k, hk, _⟩ := bx_g hi (jj_e9 h).1 (by have := (jj_e9 h).2; omega)
  omega
theorem b_0 (h : JJ p0 q0 c0 t0 k0 kk v0 st0 n0 b0 mx ro rj mw un s a xA xB g) (hs : s 7 = 1) : s 9 = 0 := by
  have hst := st_of h (st := 1) hs (by omega)
  have hb := (jj_b2 h (by omega)).1
  rw [(jj_e9 h).1, hb]
  rfl
theorem m_4 (h : JJ p0 q0 c0 t0 k0 kk v0 st0 n0 b0 mx ro rj mw un s a xA xB g) (q : s 10 < 4) : mx < 4 := by
  have e := jj_e10 h
  rw [e.1, show (4 : Int32) = nI 4 from rfl, nI_ltI (by omega) (by omega)] at q
  exact q
theorem m_1 (h : JJ p0 q0 c0 t0 k0 kk v0 st0 n0 b0 mx ro rj mw un s a xA xB g) (q : ¬ s 10 < 1) : 1 ≤ mx := by
  have e := jj_e10 h
  rw [e.1, show (1 : Int32) = nI 1 from rfl, nI_ltI (by omega) (by omega)] at q
  omega
theorem m_v (h : JJ p0 q0 c0 t0 k0 kk v0 st0 n0 b0 mx ro rj mw un s a xA xB g) {v : Int32} (q : 0 ≤ v ∧ v ≤ s 10) : ∃ m : Nat, m ≤ mx ∧ v = nI m := by
  have e := jj_e10 h
  obtain ⟨k, hk, ek⟩ := nI_of (x := v) (Int32.not_lt.mpr q.1)
  have h2 := q.2
  rw [ek, e.1, nI_leI hk (by omega)] at h2
  exact ⟨k, h2, ek⟩
end JX
theorem sc_in {z : Int32} {L kk k : Nat} (hz : z = nI (4 + 4 * kk)) (hL : L ≤ 2052) (hk : kk ≤ 512) (hk3 : k ≤ 3) (c : ¬ Int32.ofNat L - 4 < z) : vp_in (z + nI k) L := by
  rw [hz, nI_add]
  rw [hz] at c
  rcases Nat.lt_or_ge L 4 with q | q
  · exfalso
    rcases (show L = 0 ∨ L = 1 ∨ L = 2 ∨ L = 3 by omega) with e | e | e | e <;> (rw [e] at c; exact c (Int32.lt_of_lt_of_le (b := 0) (by decide) (nI_pos' (by omega))))
  · rw [show Int32.ofNat L - 4 = nI (L - 4) from pk_sub (a := L) (b := 4) q, nI_ltI (by omega) (by omega)] at c
    exact vp_in_nI (by omega) (by omega)
theorem sc_kk {z : Int32} {L kk : Nat} (hz : z = nI (4 + 4 * kk)) (hL : L ≤ 2052) (hk : kk ≤ 512) (c : ¬ Int32.ofNat L - 4 < z) : kk < 512 := by
  have h := sc_in (k := 3) hz hL hk (by omega) c
  rw [hz, nI_add, vp_in_iff, nI_toInt (by omega)] at h
  omega
