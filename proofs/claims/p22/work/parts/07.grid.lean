/-! new int[n][m]: that it comes to its end, and that what was there stays. -/
def mu_O (c : ClassId) (N h0 : Nat) : Nat → Cell
  | 0 => { cls := c, slots := Array.replicate N .null, vm := .none }
  | i + 1 => (mu_O c N h0 i).setSlot i (.ref (h0 + 1 + i))
def mu_F (s : State) (c comp : ClassId) (N M : Nat) : Nat → State
  | 0 => s.pushCell (mu_O c N s.heap.size 0)
  | i + 1 => ((mu_F s c comp N M i).pushCell { cls := comp, slots := Array.replicate M (.int 0), vm := .none }).setCell s.heap.size (mu_O c N s.heap.size (i + 1))
theorem mu_Of (c : ClassId) (N h0 : Nat) : ∀ i : Nat, (mu_O c N h0 i).cls = c ∧ (mu_O c N h0 i).vm = .none ∧ (mu_O c N h0 i).slots.size = N
  | 0 => ⟨rfl, rfl, by simp [mu_O]⟩
  | i + 1 => by
    have h := mu_Of c N h0 i
    simp [mu_O, Cell.setSlot, h]
theorem mu_Ff (s : State) (c comp : ClassId) (N M : Nat) : ∀ i : Nat, (mu_F s c comp N M i).heap.size = s.heap.size + 1 + i ∧ (mu_F s c comp N M i).heap[s.heap.size]? = some (mu_O c N s.heap.size i) ∧ (mu_F s c comp N M i).vm = s.vm ∧ ∀ a : Nat, a < s.heap.size → (mu_F s c comp N M i).heap[a]? = s.heap[a]?
  | 0 => ⟨by simp [mu_F], by simp [mu_F], rfl, fun a h => State.heap_pushCell_of_lt _ _ h⟩
  | i + 1 => by
    obtain ⟨h1, h2, h3, h4⟩ := mu_Ff s c comp N M i
    have hlt : s.heap.size < (mu_F s c comp N M i).heap.size := by omega
    have hb : ((mu_F s c comp N M i).pushCell { cls := comp, slots := Array.replicate M (.int 0), vm := .none }).heap[s.heap.size]? = some (mu_O c N s.heap.size i) := by
      rw [State.heap_pushCell_of_lt (h := hlt)]; exact h2
    refine ⟨?_, State.heap_setCell_self hb, h3, fun a ha => ?_⟩
    · simp [mu_F, State.setCell, h1]; omega
    · show (((mu_F s c comp N M i).pushCell _).setCell s.heap.size _).heap[a]? = _
      have hla : a < (mu_F s c comp N M i).heap.size := by omega
      rw [State.heap_setCell_other (Nat.ne_of_gt ha), State.heap_pushCell_of_lt (h := hla)]
      exact h4 a ha
theorem mu_Ft (s : State) (f : JFrame) (c comp : ClassId) (N M : Nat) : ∀ i : Nat, mu_F (s.setTop f) c comp N M i = (mu_F s c comp N M i).setTop f
  | 0 => rfl
  | i + 1 => by simp only [mu_F, mu_Ft s f c comp N M i, State.heap_setTop, State.pushCell_setTop, State.setCell_setTop]
section MU
variable {p : Program} {l : Launch} {e : Env} {R : Room} {s : State} {m : MethodId} {args : Array Value} {below : List Frame} {meth : Method} {c : Code} {T : State} {locs : List Loc} {cells slots : Nat}
theorem mu_S (X : Stand p l e R s m args below meth c T locs cells slots) (cG comp : ClassId) (N M : Nat) : ∀ i : Nat, ∃ L : List Loc, (∀ q ∈ L, q.base = T.heap.size) ∧ Stand p l e R s m args below meth c (mu_F T cG comp N M i) (locs ++ L) (cells + 1 + i) (slots + N + i * M)
  | 0 => by
    have h := X.pushed (mu_O cG N T.heap.size 0)
    rw [(mu_Of cG N T.heap.size 0).2.2] at h
    exact ⟨[], (fun q h => by cases h), by simpa [mu_F] using h⟩
  | i + 1 => by
    obtain ⟨L, hL, Xi⟩ := mu_S X cG comp N M i
    obtain ⟨h1, h2, h3, h4⟩ := mu_Ff T cG comp N M i
    have hlt : T.heap.size < (mu_F T cG comp N M i).heap.size := by omega
    have hb : ((mu_F T cG comp N M i).pushCell { cls := comp, slots := Array.replicate M (.int 0), vm := .none }).heap[T.heap.size]? = some (mu_O cG N T.heap.size i) := by
      rw [State.heap_pushCell_of_lt (h := hlt)]; exact h2
    have h := (Xi.pushed { cls := comp, slots := Array.replicate M (.int 0), vm := .none }).stored hb i (.ref (T.heap.size + 1 + i))
    refine ⟨L ++ [⟨T.heap.size, i⟩], fun q hq => ?_, ?_⟩
    · rcases List.mem_append.mp hq with hq | hq
      · exact hL q hq
      · rw [List.mem_singleton.mp hq]
    · rw [← List.append_assoc, show cells + 1 + (i + 1) = cells + 1 + i + 1 from rfl, show slots + N + (i + 1) * M = slots + N + i * M + M by rw [Nat.succ_mul]; omega]
      simpa [mu_F, mu_O] using h
variable {E : CtlPost} {d : Bool} {acts : List Action} {u : State}
theorem mu_wp1 {comp cc : ClassId} {kc : Class} {k : Int32} (hkc : u.vm.classes[comp]? = some kc) (hkind : kc.kind = .array cc .int) (hk : ¬ k < 0) (hl : ¬ k.toNatClampNeg > e.platform.arrayLengthLimit) (hh : ¬ k.toNatClampNeg * 4 > e.platform.maxHeapBytes) (h1 : u.heap.size < e.platform.maxCells) (h2 : u.slotsUsed + k.toNatClampNeg ≤ e.platform.maxSlots)
    {Q : Addr → Pre} (hq : ∀ acts', Q u.heap.size d acts' (u.pushCell { cls := comp, slots := Array.replicate k.toNatClampNeg (.int 0), vm := .none })) : wp (Jvm.Op.multianewarray.make comp [k]) Q E e d acts u := by
  rw [Jvm.Op.multianewarray.make]
  simp only [wp_bind', W.ite, hk, if_false, wp_pure', W.theClass, hkc, hkind, Option.some.injEq, exists_eq_left']
  exact W.newArray_of hkc hkind hl hh h1 h2 rfl hq
theorem mu_wp2 (X : Stand p l e R s m args below meth c T locs cells slots) {g : JFrame} {cG comp cc : ClassId} {kG kc : Class} {n k : Int32} (hkG : T.vm.classes[cG]? = some kG) (hkindG : kG.kind = .array comp (.array .int)) (hkc : T.vm.classes[comp]? = some kc) (hkind : kc.kind = .array cc .int) (hn : ¬ n < 0) (hk : ¬ k < 0) (b1 : n.toNatClampNeg ≤ 100) (b2 : k.toNatClampNeg ≤ 100)
    (hcells : cells + 1 + n.toNatClampNeg ≤ R.cells) (hslots : slots + n.toNatClampNeg + n.toNatClampNeg * k.toNatClampNeg ≤ R.slots)
    {Q : Addr → Pre} (hq : ∀ d' acts', Q T.heap.size d' acts' ((mu_F T cG comp n.toNatClampNeg k.toNatClampNeg n.toNatClampNeg).setTop g)) : wp (Jvm.Op.multianewarray.make cG [n, k]) Q E e d acts (T.setTop g) := by
  have hl : ∀ z : Nat, z ≤ 100 → ¬ z > e.platform.arrayLengthLimit := fun z hz => by rw [Launch.admits_arrayLengthLimit X.admits]; omega
  have hh : ∀ z : Nat, z ≤ 100 → ¬ z * 4 > e.platform.maxHeapBytes := fun z hz => by rw [Launch.admits_maxHeapBytes X.admits]; omega
  have hfind : ([k].find? (· < 0)) = none := by simp [hk]
  have hmul : ∀ i : Nat, i + 1 ≤ n.toNatClampNeg → i * k.toNatClampNeg + k.toNatClampNeg ≤ n.toNatClampNeg * k.toNatClampNeg := fun i hi => by
    have := Nat.mul_le_mul_right k.toNatClampNeg hi
    rw [Nat.succ_mul] at this; exact this
  have z0 := Nat.zero_le (n.toNatClampNeg * k.toNatClampNeg)
  obtain ⟨r1, r2⟩ := X.roomAbove (cells := cells) (slots := slots) (show cells + 1 ≤ R.cells by omega) (show slots + n.toNatClampNeg ≤ R.slots by omega)
  rw [Jvm.Op.multianewarray.make]
  simp only [wp_bind', W.ite, hn, if_false, wp_pure', W.theClass, State.vm_setTop, hkG, hkindG, Option.some.injEq, exists_eq_left']
  refine W.newArray_of (k := kG) hkG hkindG (hl _ b1) (hh _ b1) (by show T.heap.size < _; omega) (by show T.slotsUsed + _ ≤ _; omega) rfl (fun acts' => ?_)
  simp only [hfind]
  rw [ite_self, wp_bind', Std.Legacy.Range.forIn_eq_forIn_range']
  have hsz : ([:n.toNatClampNeg] : Std.Legacy.Range).size = n.toNatClampNeg := by simp [Std.Legacy.Range.size]
  rw [hsz]
  show wp (forIn (List.range' 0 n.toNatClampNeg 1) PUnit.unit _) _ E e _ _ ((mu_F T cG comp n.toNatClampNeg k.toNatClampNeg 0).setTop g)
  refine wp_forIn_inv (fun rest s' => ∃ i, i ≤ n.toNatClampNeg ∧ rest = List.range' i (n.toNatClampNeg - i) ∧ s' = (mu_F T cG comp n.toNatClampNeg k.toNatClampNeg i).setTop g) _ _ ⟨0, Nat.zero_le _, rfl, rfl⟩ ?_ ?_
  · rintro x rest s' d' acts' Q' ⟨i, hi, hr, rfl⟩ hnext
    have hlt : i < n.toNatClampNeg := by
      rcases Nat.lt_or_ge i n.toNatClampNeg with h | h
      · exact h
      · rw [show n.toNatClampNeg - i = 0 by omega] at hr; simp at hr
    rw [show n.toNatClampNeg - i = (n.toNatClampNeg - (i + 1)) + 1 by omega, List.range'_succ] at hr
    obtain ⟨rfl, rfl⟩ : x = i ∧ rest = List.range' (i + 1) (n.toNatClampNeg - (i + 1)) := ⟨(List.cons.inj hr).1, (List.cons.inj hr).2⟩
    obtain ⟨h1, h2, h3, h4⟩ := mu_Ff T cG comp n.toNatClampNeg k.toNatClampNeg x
    obtain ⟨o1, o2, o3⟩ := mu_Of cG n.toNatClampNeg T.heap.size x
    obtain ⟨L, hL, Xi⟩ := mu_S X cG comp n.toNatClampNeg k.toNatClampNeg x
    have hm := hmul x hlt
    obtain ⟨q1, q2⟩ := Xi.roomAbove (show cells + 1 + x + 1 ≤ R.cells by omega) (show slots + n.toNatClampNeg + x * k.toNatClampNeg + k.toNatClampNeg ≤ R.slots by omega)
    simp only [wp_bind']
    refine mu_wp1 (u := (mu_F T cG comp n.toNatClampNeg k.toNatClampNeg x).setTop g) (by show (mu_F _ _ _ _ _ _).vm.classes[comp]? = _; rw [h3]; exact hkc) hkind hk (hl _ b2) (hh _ b2) (by show (mu_F _ _ _ _ _ _).heap.size < _; omega) (by show (mu_F _ _ _ _ _ _).slotsUsed + _ ≤ _; omega) (fun acts2 => ?_)
    have hlt0 : T.heap.size < (mu_F T cG comp n.toNatClampNeg k.toNatClampNeg x).heap.size := by omega
    simp only [wp_bind', W.writeLoc, wp_pure']
    refine ⟨mu_O cG n.toNatClampNeg T.heap.size x, ?_, by rw [o2]; simp, by rw [o3]; exact hlt, ?_, hnext _ _ _ ⟨x + 1, hlt, rfl, ?_⟩⟩
    · show ((mu_F T cG comp n.toNatClampNeg k.toNatClampNeg x).pushCell _).heap[T.heap.size]? = _
      rw [State.heap_pushCell_of_lt (h := hlt0)]; exact h2
    · rw [o1, o2]
      simp [State.fitsSlot, State.slotType?, h3, hkG, hkindG, fits]
    · show (((mu_F T cG comp n.toNatClampNeg k.toNatClampNeg x).pushCell _).setCell T.heap.size _).setTop g = _
      rw [State.heap_setTop, h1]
      rfl
  · rintro s' d' acts' ⟨i, hi, hr, rfl⟩
    have hiN : i = n.toNatClampNeg := by
      rcases Nat.lt_or_ge i n.toNatClampNeg with h | h
      · rw [show n.toNatClampNeg - i = (n.toNatClampNeg - (i + 1)) + 1 by omega, List.range'_succ] at hr; cases hr
      · omega
    subst hiN
    simp only [wp_pure']
    exact hq _ _
end MU
section MW
variable {p : Program} {l : Launch} {e : Env} {R : Room} {s : State} {m : MethodId} {args : Array Value} {below : List Frame} {meth : Method} {c : Code} {H : Heap} {locs : List Loc} {cells slots : Nat} {Q : State → Prop}
variable {cc : ByteArray} {pc : Nat} {ls : Array Slot} {rest : List Value} {D : va_G} {cl : List vw_C} {A : Nat → Prop} {ws : va_W} {H0 : Heap} {cA : Nat → ClassId}
theorem mu_row (hexec : p.tables.exec = Jvm.exec) (hb : c.code = cc) {own : String} {index : Nat} (hown : s.vm.findClass own = some m.cls) (hclink : (Cond.classLink own index "[[I").before args s = true) (hX : xK cA s) (hK : va_K D cl (tyS cA) s) (hP : va_P D cl ws H) (hD : va_D A ws) (hS : va_S A H0 H locs) (hA : ∀ q, H0.size ≤ q → A q)
    {n k : Int32} {N M : Nat} (hn : ¬ n < 0) (hN : n.toNatClampNeg = N) (hk : ¬ k < 0) (hM : k.toNatClampNeg = M) (b1 : N ≤ 100) (b2 : M ≤ 100) (hcells : cells + 1 + N ≤ R.cells) (hslots : slots + N + N * M ≤ R.slots) (hdg : decode cc pc = .ok (.multianewarray index 2, 4))
    (kk : ∀ (q : Nat) (H1 : Heap) (locs1 : List Loc), va_P D cl ws H1 → va_D A ws → va_S A H0 H1 locs1 → W p l e R s m args below meth c H1 locs1 (cells + 1 + N) (slots + N + N * M) Q (F0 m (pc + 4) ls (.ref q :: rest))) : W p l e R s m args below meth c H locs cells slots Q (F0 m pc ls (.int k :: .int n :: rest)) := by
  subst hN; subst hM; subst hb
  intro T hT X
  obtain ⟨kG, hkG, hkindG⟩ := hX.1
  obtain ⟨-, kI, hkI, cI, hkindI⟩ := (hK.2 0 _ rfl).1 0 (fun _ => .null)
  have fG : s.vm.findClass ("[" ++ (FieldType.array .int).toString) = some (cA 4) := (hK.2 4 _ rfl).2
  have hpl : e.platform.magicAccessors = ({} : Platform).magicAccessors := by rw [X.admits.platform]
  obtain ⟨c0, hfc0, hcl⟩ := Cond.classLink_spec hown hclink e.platform hpl
  have es : ("[" ++ (FieldType.array .int).toString) = "[[I" := by decide
  rw [es] at fG
  have ec : c0 = cA 4 := Option.some.inj (hfc0.symm.trans fG)
  subst ec
  obtain ⟨hg₁, hwarm₁, hready₁⟩ := State.classEntry (e := e) X.warmed hcl
  generalize T.vm.noted m.cls index (.cls (cA 4)) = vm₁ at hg₁ hwarm₁ hready₁
  have hal : s.vm.Alike vm₁ := hwarm₁.alike
  obtain ⟨kG₁, hkG₁, heG⟩ := hal.2.2 _ _ hkG
  obtain ⟨kI₁, hkI₁, heI⟩ := hal.2.2 _ _ hkI
  have hkindG₁ : kG₁.kind = .array (cA 0) (.array .int) := by rw [heG]; exact hkindG
  have hkindI₁ : kI₁.kind = .array cI .int := by rw [heI]; exact hkindI
  have X₁ := X.noted hwarm₁
  obtain ⟨L, hL, XF⟩ := mu_S X₁ (cA 4) (cA 0) n.toNatClampNeg k.toNatClampNeg n.toNatClampNeg
  obtain ⟨h1, h2, h3, h4⟩ := mu_Ff (T.setVm vm₁) (cA 4) (cA 0) n.toNatClampNeg k.toNatClampNeg n.toNatClampNeg
  have h5 : (T.setVm vm₁).heap = H := hT
  rw [h5] at h1 h4 hL
  have hP1 := hP.kept (H1 := (mu_F (T.setVm vm₁) (cA 4) (cA 0) n.toNatClampNeg k.toNatClampNeg n.toNatClampNeg).heap) (fun k q hq => h4 q.1 ((hP k q hq).lt))
  obtain ⟨t, a1, a2⟩ := kk H.size _ (locs ++ L) hP1 hD ⟨Nat.le_trans hS.1 (by omega), fun q g1 g2 => (h4 q (Nat.lt_of_lt_of_le g1 hS.1)).trans (hS.2.1 q g1 g2), fun q hq => by
    rcases List.mem_append.mp hq with h | h
    · exact hS.2.2 q h
    · rw [hL q h]; exact hA _ hS.1⟩ _ rfl XF
  refine ⟨t, ?_, a2⟩
  jvm_step X.here [hexec, hdg]
  simp only [Jvm.Op.multianewarray.sem, wp_bind', W.resolveClassAt_links (State.method?_setTop (F0 m pc ls (.int k :: .int n :: rest)) X.here.top) hg₁]
  rw [W.popN, if_neg (by decide)]
  refine ⟨_, State.topJava?_setTop' (s := T.setVm vm₁) (F0 m pc ls (.int k :: .int n :: rest)) X.here.top, [.int n, .int k], rest, rfl, rfl, ?_⟩
  simp only [List.mapM_cons, List.mapM_nil, wp_bind', wp_pure']
  have eS : ((T.setTop (F0 m pc ls (.int k :: .int n :: rest))).setVm vm₁).setTop (F0 m pc ls rest) = (T.setVm vm₁).setTop (F0 m pc ls rest) := by
    show ((T.setVm vm₁).setTop _).setTop _ = _
    rw [State.setTop_setTop]
  rw [eS]
  refine mu_wp2 X₁ (kG := kG₁) (kc := kI₁) (comp := cA 0) (cc := cI) hkG₁ hkindG₁ hkI₁ hkindI₁ hn hk b1 b2 hcells hslots (fun d' acts' => ?_)
  simp only [wp_bind', W.mark, W.pushRef, State.topJava?_setTop' _ XF.here.top, Option.some.injEq, exists_eq_left', State.setTop_setTop, State.heap_setTop]
  intro acts
  simp [jvm, XF.here.top]
  rw [hT]
  exact a1
end MW
