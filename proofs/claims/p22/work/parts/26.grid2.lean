/-! new int[n][40], with its rows told. -/
theorem mu_Os (c : ClassId) (N h0 : Nat) : ∀ (i j : Nat), i ≤ N → j < N → (mu_O c N h0 i).slots[j]? = some (if j < i then .ref (h0 + 1 + j) else .null)
  | 0, j, _, hj => by
    show (Array.replicate N Value.null)[j]? = _
    rw [if_neg (by omega)]
    simp [hj]
  | i + 1, j, hi, hj => by
    show ((mu_O c N h0 i).slots.setIfInBounds i (.ref (h0 + 1 + i)))[j]? = _
    have hs : (mu_O c N h0 i).slots.size = N := (mu_Of c N h0 i).2.2
    have ih := mu_Os c N h0 i j (by omega) hj
    rw [Array.getElem?_setIfInBounds]
    by_cases e : i = j
    · subst e
      rw [if_pos rfl, if_pos (by omega), if_pos (by omega)]
    · rw [if_neg e, ih]
      by_cases h : j < i
      · rw [if_pos h, if_pos (by omega)]
      · rw [if_neg h, if_neg (by omega)]
theorem mu_Oe (c : ClassId) (N h0 : Nat) : ∀ i : Nat, ∃ sl : Array Value, mu_O c N h0 i = { cls := c, slots := sl, vm := .none }
  | 0 => ⟨_, rfl⟩
  | i + 1 => by
    obtain ⟨sl, h⟩ := mu_Oe c N h0 i
    exact ⟨sl.setIfInBounds i (.ref (h0 + 1 + i)), by show (mu_O c N h0 i).setSlot _ _ = _; rw [h]; rfl⟩
theorem mu_Oc (c : ClassId) (N h0 : Nat) : mu_O c N h0 N = vp_cell c (N, .inr (.inr (.inr (.inr (fun k => some (h0 + 1 + k)))))) := by
  rw [vp_cell_q]
  have h3 := (mu_Of c N h0 N).2.2
  have hsl : (mu_O c N h0 N).slots = (arrV c N (fun j => va_rf (some (h0 + 1 + j)))).slots := by
    apply Array.ext_getElem?
    intro j
    by_cases hj : j < N
    · rw [mu_Os c N h0 N j (Nat.le_refl _) hj, if_pos hj, arrV_read _ _ hj]; rfl
    · rw [Array.getElem?_eq_none (by omega), Array.getElem?_eq_none (by rw [arrV_size]; omega)]
  obtain ⟨sl, h⟩ := mu_Oe c N h0 N
  rw [h] at hsl ⊢
  have e : sl = _ := hsl
  rw [e]
  rfl
theorem mu_Fr (s : State) (c comp : ClassId) (N M : Nat) : ∀ (i j : Nat), j < i → (mu_F s c comp N M i).heap[s.heap.size + 1 + j]? = some { cls := comp, slots := Array.replicate M (.int 0), vm := .none }
  | 0, j, h => by omega
  | i + 1, j, h => by
    obtain ⟨h1, h2, h3, h4⟩ := mu_Ff s c comp N M i
    show (((mu_F s c comp N M i).pushCell { cls := comp, slots := Array.replicate M (.int 0), vm := .none }).setCell s.heap.size _).heap[s.heap.size + 1 + j]? = _
    rw [State.heap_setCell_other (show s.heap.size ≠ s.heap.size + 1 + j by omega)]
    by_cases e : j = i
    · rw [e, ← h1]
      simp
    · have hla : s.heap.size + 1 + j < (mu_F s c comp N M i).heap.size := by omega
      rw [State.heap_pushCell_of_lt (h := hla)]
      exact mu_Fr s c comp N M i j (by omega)
theorem mu_z (c : ClassId) (M : Nat) : ({ cls := c, slots := Array.replicate M (.int 0), vm := .none } : Cell) = vp_cell c (M, .inl (fun _ => 0)) := by
  rw [vp_cell_i]
  unfold arrV
  congr 1
  apply Array.ext
  · simp
  · intro i h1 h2
    simp
section MW2
variable {p : Program} {l : Launch} {e : Env} {R : Room} {s : State} {m : MethodId} {args : Array Value} {below : List Frame} {meth : Method} {c : Code} {H : Heap} {locs : List Loc} {cells slots : Nat} {Q : State → Prop}
variable {cc : ByteArray} {pc : Nat} {ls : Array Slot} {rest : List Value} {D : va_G} {cl : List vw_C} {A : Nat → Prop} {ws : va_W} {H0 : Heap} {cA : Nat → ClassId}
theorem mu_row2 (hexec : p.tables.exec = Jvm.exec) (hb : c.code = cc) {own : String} {index : Nat} (hown : s.vm.findClass own = some m.cls) (hclink : (Cond.classLink own index "[[I").before args s = true) (hX : xK cA s) (hK : va_K D cl (tyS cA) s) (hP : va_P D cl ws H) (hD : va_D A ws) (hS : va_S A H0 H locs) (hA : ∀ q, H0.size ≤ q → A q)
    {n k : Int32} {N : Nat} (hn : ¬ n < 0) (hN : n.toNatClampNeg = N) (hk : ¬ k < 0) (hM : k.toNatClampNeg = 40) (b1 : N ≤ 100) (hcells : cells + 1 + N ≤ R.cells) (hslots : slots + N + N * 40 ≤ R.slots) (hdg : decode cc pc = .ok (.multianewarray index 2, 4))
    (kk : ∀ (q : Nat) (H1 : Heap) (locs1 : List Loc), va_P D cl ((ws ++ [(q, .inl (cA 4, N, .inr (.inr (.inr (.inr (fun k => some (q + 1 + k)))))))]) ++ rwT cA (q + 1) (fun _ _ => 0) N) H1 → va_D A ((ws ++ [(q, .inl (cA 4, N, .inr (.inr (.inr (.inr (fun k => some (q + 1 + k)))))))]) ++ rwT cA (q + 1) (fun _ _ => 0) N) → va_S A H0 H1 locs1 → W p l e R s m args below meth c H1 locs1 (cells + 1 + N) (slots + N + N * 40) Q (F0 m (pc + 4) ls (.ref q :: rest))) : W p l e R s m args below meth c H locs cells slots Q (F0 m pc ls (.int k :: .int n :: rest)) := by
  subst hN; subst hb
  intro T hT X
  obtain ⟨kG, hkG, hkindG⟩ := hX.1
  obtain ⟨-, kI, hkI, cI, hkindI⟩ := (hK.2 0 _ rfl).1 0 (fun _ => .null)
  have fG : s.vm.findClass ("[" ++ (FieldType.array .int).toString) = some (cA 4) := (hK.2 4 _ rfl).2
  have hpl : e.platform.magicAccessors = ({} : Platform).magicAccessors := by rw [X.admits.platform]
  obtain ⟨c0, hfc0, hcl⟩ := Cond.classLink_spec hown hclink e.platform hpl
  have es : ("[" ++ (FieldType.array .int).toString) = "[[I" := by decide
  rw [es] at fG
  have ec : c0 = cA 4 := Option.some.inj (hfc0.symm.trans fG)
  subst ec
  obtain ⟨hg₁, hwarm₁, hready₁⟩ := State.classEntry (e := e) X.warmed hcl
  generalize T.vm.noted m.cls index (.cls (cA 4)) = vm₁ at hg₁ hwarm₁ hready₁
  have hal : s.vm.Alike vm₁ := hwarm₁.alike
  obtain ⟨kG₁, hkG₁, heG⟩ := hal.2.2 _ _ hkG
  obtain ⟨kI₁, hkI₁, heI⟩ := hal.2.2 _ _ hkI
  have hkindG₁ : kG₁.kind = .array (cA 0) (.array .int) := by rw [heG]; exact hkindG
  have hkindI₁ : kI₁.kind = .array cI .int := by rw [heI]; exact hkindI
  have X₁ := X.noted hwarm₁
  obtain ⟨L, hL, XF⟩ := mu_S X₁ (cA 4) (cA 0) n.toNatClampNeg k.toNatClampNeg n.toNatClampNeg
  obtain ⟨h1, h2, h3, h4⟩ := mu_Ff (T.setVm vm₁) (cA 4) (cA 0) n.toNatClampNeg k.toNatClampNeg n.toNatClampNeg
  have hr := mu_Fr (T.setVm vm₁) (cA 4) (cA 0) n.toNatClampNeg k.toNatClampNeg n.toNatClampNeg
  have h5 : (T.setVm vm₁).heap = H := hT
  rw [h5] at h1 h2 h4 hL hr
  generalize hFh : (mu_F (T.setVm vm₁) (cA 4) (cA 0) n.toNatClampNeg k.toNatClampNeg n.toNatClampNeg) = TF at *
  have hP1 := hP.kept (H1 := TF.heap) (fun k q hq => h4 q.1 ((hP k q hq).lt))
  have hP2 : va_P D cl (ws ++ [(H.size, .inl (cA 4, n.toNatClampNeg, .inr (.inr (.inr (.inr (fun k => some (H.size + 1 + k)))))))]) TF.heap := by
    refine va_P.app hP1 (fun i q hq => ?_)
    have hi : i < 1 := (List.getElem?_eq_some_iff.mp hq).1
    rw [show i = 0 by omega] at hq
    cases hq
    show TF.heap[H.size]? = some (vp_cell _ _)
    rw [h2, mu_Oc]
  have hP3 : va_P D cl (rwT cA (H.size + 1) (fun _ _ => 0) n.toNatClampNeg) TF.heap := by
    intro i q hq
    have hi : i < n.toNatClampNeg := by have := (List.getElem?_eq_some_iff.mp hq).1; simpa [rwT] using this
    rw [rwT_get hi] at hq
    cases hq
    show TF.heap[H.size + 1 + i]? = some (vp_cell _ _)
    rw [hr i hi, hM, mu_z]
  have hD2 := hD.push (e := .inl (cA 4, n.toNatClampNeg, .inr (.inr (.inr (.inr (fun k => some (H.size + 1 + k)))))))  hP rfl (hA _ hS.1)
  have hlt2 : ∀ (i : Nat) (x : Nat × va_E), (ws ++ [(H.size, .inl (cA 4, n.toNatClampNeg, .inr (.inr (.inr (.inr (fun k => some (H.size + 1 + k)))))))])[i]? = some x → x.1 ≤ H.size := by
    intro i x hx
    by_cases hi : i < ws.length
    · rw [List.getElem?_append_left hi] at hx
      exact Nat.le_of_lt (hP i x hx).lt
    · rw [List.getElem?_append_right (by omega)] at hx
      have hi2 : i - ws.length < 1 := (List.getElem?_eq_some_iff.mp hx).1
      rw [show i - ws.length = 0 by omega] at hx
      cases hx
      exact Nat.le_refl _
  have hD3 : va_D A (rwT cA (H.size + 1) (fun _ _ => 0) n.toNatClampNeg) := by
    have key : ∀ (i : Nat) (x : Nat × va_E), (rwT cA (H.size + 1) (fun _ _ => 0) n.toNatClampNeg)[i]? = some x → x.1 = H.size + 1 + i := by
      intro i x hx
      have hi : i < n.toNatClampNeg := by have := (List.getElem?_eq_some_iff.mp hx).1; simpa [rwT] using this
      rw [rwT_get hi] at hx
      cases hx
      rfl
    refine ⟨fun i j x y hx hy e => ?_, fun i x hx => ?_⟩
    · rw [key i x hx, key j y hy] at e; omega
    · rw [key i x hx]; exact hA _ (by have := hS.1; omega)
  have hD4 := va_D.app hD2 hD3 (fun i j x y hx hy e => by
    have h6 := hlt2 i x hx
    have hj : j < n.toNatClampNeg := by have := (List.getElem?_eq_some_iff.mp hy).1; simpa [rwT] using this
    rw [rwT_get hj] at hy
    cases hy
    have e' : x.1 = H.size + 1 + j := e
    omega)
  rw [hM] at XF
  obtain ⟨t, a1, a2⟩ := kk H.size _ (locs ++ L) (va_P.app hP2 hP3) hD4 ⟨Nat.le_trans hS.1 (by omega), fun q g1 g2 => (h4 q (Nat.lt_of_lt_of_le g1 hS.1)).trans (hS.2.1 q g1 g2), fun q hq => by
    rcases List.mem_append.mp hq with h | h
    · exact hS.2.2 q h
    · rw [hL q h]; exact hA _ hS.1⟩ _ rfl XF
  refine ⟨t, ?_, a2⟩
  jvm_step X.here [hexec, hdg]
  simp only [Jvm.Op.multianewarray.sem, wp_bind', W.resolveClassAt_links (State.method?_setTop (F0 m pc ls (.int k :: .int n :: rest)) X.here.top) hg₁]
  rw [W.popN, if_neg (by decide)]
  refine ⟨_, State.topJava?_setTop' (s := T.setVm vm₁) (F0 m pc ls (.int k :: .int n :: rest)) X.here.top, [.int n, .int k], rest, rfl, rfl, ?_⟩
  simp only [List.mapM_cons, List.mapM_nil, wp_bind', wp_pure']
  have eS : ((T.setTop (F0 m pc ls (.int k :: .int n :: rest))).setVm vm₁).setTop (F0 m pc ls rest) = (T.setVm vm₁).setTop (F0 m pc ls rest) := by
    show ((T.setVm vm₁).setTop _).setTop _ = _
    rw [State.setTop_setTop]
  rw [eS]
  refine mu_wp2 X₁ (kG := kG₁) (kc := kI₁) (comp := cA 0) (cc := cI) hkG₁ hkindG₁ hkI₁ hkindI₁ hn hk b1 (by omega) hcells (by rw [hM]; exact hslots) (fun d' acts' => ?_)
  rw [hFh]
  simp only [wp_bind', W.mark, W.pushRef, State.topJava?_setTop' _ XF.here.top, Option.some.injEq, exists_eq_left', State.setTop_setTop, State.heap_setTop]
  intro acts
  simp [jvm, XF.here.top]
  rw [hT]
  exact a1
end MW2
theorem va_P.arrq {D : va_G} {cl : List vw_C} {ws : va_W} {H : Heap} {a n : Nat} {cA : ClassId} {g g' : Nat → Option Nat} (hP : va_P D cl ws H) (k : Nat) (hk : ws[k]? = some (a, .inl (cA, n, .inr (.inr (.inr (.inr g)))))) (h : ∀ j : Nat, j < n → g j = g' j) : va_P D cl (ws.set k (a, .inl (cA, n, .inr (.inr (.inr (.inr g')))))) H := by
  intro i q hq
  by_cases e : i = k
  · subst e
    have hl : i < ws.length := (List.getElem?_eq_some_iff.mp hk).1
    rw [List.getElem?_set_self hl] at hq
    cases hq
    show H[a]? = some (vp_cell cA (n, .inr (.inr (.inr (.inr g')))))
    have e2 : vp_cell cA (n, .inr (.inr (.inr (.inr g')))) = vp_cell cA (n, .inr (.inr (.inr (.inr g)))) := by
      rw [vp_cell_q, vp_cell_q]
      unfold arrV
      congr 1
      apply Array.ext
      · simp
      · intro i h1 h2
        simp at h1 ⊢
        rw [h i h1]
    rw [e2]
    exact hP i _ hk
  · rw [List.getElem?_set_ne (fun x => e x.symm)] at hq
    exact hP i q hq
