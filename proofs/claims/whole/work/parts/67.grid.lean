/-! A GRID: four rows of forty longs, made at one stroke -/
section L67
variable {p : Program} {l : Launch} {e : Env} {R : Room} {s : State} {m : MethodId} {args : Array Value} {below : List Frame} {meth : Method} {c : Code} {T : State} {locs : List Loc} {cells slots : Nat}
/-- the outer row when i inner rows stand -/
def s_gv (h i j : Nat) : Value := if j < i then .ref (h + 1 + j) else .null
def s_grid (cA cB : ClassId) (T : State) : Nat → State
  | 0 => T.pushCell (arrV cA 4 (s_gv T.heap.size 0))
  | i + 1 => ((s_grid cA cB T i).pushCell (arrV cB 40 (fun _ => .long 0))).setCell T.heap.size (arrV cA 4 (s_gv T.heap.size (i + 1)))
theorem s_gv_s {cA : ClassId} {h i : Nat} : (arrV cA 4 (s_gv h i)).setSlot i (.ref (h + 1 + i)) = arrV cA 4 (s_gv h (i + 1)) := by
  rw [arrV_store]
  congr 1
  funext j
  unfold updV s_gv
  by_cases e : j = i
  · subst e
    simp
  · by_cases e2 : j < i
    · simp [e, e2, show j < i + 1 by omega]
    · simp [e, e2, show ¬ j < i + 1 by omega]
theorem s_grid_f (cA cB : ClassId) (T : State) : ∀ i, (s_grid cA cB T i).heap.size = T.heap.size + 1 + i ∧ (s_grid cA cB T i).heap[T.heap.size]? = some (arrV cA 4 (s_gv T.heap.size i)) ∧ (s_grid cA cB T i).vm = T.vm ∧ (s_grid cA cB T i).slotsUsed = T.slotsUsed + 4 + 40 * i ∧ (∀ q, q < T.heap.size → (s_grid cA cB T i).heap[q]? = T.heap[q]?) ∧ ∀ j, j < i → (s_grid cA cB T i).heap[T.heap.size + 1 + j]? = some (arrV cB 40 (fun _ => .long 0))
  | 0 => ⟨by simp [s_grid], by simp [s_grid], rfl, by simp [s_grid, arrV_size], fun q hq => State.heap_pushCell_of_lt _ _ hq, fun j hj => absurd hj (Nat.not_lt_zero j)⟩
  | i + 1 => by
    obtain ⟨f1, f2, f3, f4, f5, f6⟩ := s_grid_f cA cB T i
    have h0 : T.heap.size < (s_grid cA cB T i).heap.size := by omega
    have hz : ((s_grid cA cB T i).pushCell (arrV cB 40 (fun _ => .long 0))).heap[T.heap.size]? = some (arrV cA 4 (s_gv T.heap.size i)) := by rw [State.heap_pushCell_of_lt _ _ h0]; exact f2
    have hoth : ∀ q, q ≠ T.heap.size → (s_grid cA cB T (i + 1)).heap[q]? = ((s_grid cA cB T i).pushCell (arrV cB 40 (fun _ => .long 0))).heap[q]? := fun q hq => State.heap_setCell_other (Ne.symm hq)
    refine ⟨?_, State.heap_setCell_self hz, f3, ?_, fun q hq => ?_, fun j hj => ?_⟩
    · simp [s_grid, f1]
      omega
    · show (s_grid cA cB T i).slotsUsed + (arrV cB 40 (fun _ => .long 0)).slots.size = _
      rw [f4, arrV_size]
      omega
    · rw [hoth q (Nat.ne_of_lt hq), State.heap_pushCell_of_lt _ _ (show q < (s_grid cA cB T i).heap.size by omega)]
      exact f5 q hq
    · rw [hoth _ (by omega)]
      by_cases ej : j < i
      · rw [State.heap_pushCell_of_lt _ _ (show T.heap.size + 1 + j < (s_grid cA cB T i).heap.size by omega)]
        exact f6 j ej
      · have e : j = i := by omega
        subst e
        rw [← f1]
        exact State.heap_pushCell_size _ _
theorem s_grid_top (cA cB : ClassId) (T : State) (f : JFrame) : ∀ i, s_grid cA cB (T.setTop f) i = (s_grid cA cB T i).setTop f
  | 0 => rfl
  | i + 1 => by
    show ((s_grid cA cB (T.setTop f) i).pushCell _).setCell _ _ = _
    rw [s_grid_top cA cB T f i]
    rfl
theorem s_grid_st (X : Stand p l e R s m args below meth c T locs cells slots) (cA cB : ClassId) : ∀ i, Stand p l e R s m args below meth c (s_grid cA cB T i) (locs ++ (List.range i).map fun j => ⟨T.heap.size, j⟩) (cells + 1 + i) (slots + 4 + 40 * i)
  | 0 => by
    have h := X.pushed (arrV cA 4 (s_gv T.heap.size 0))
    rw [arrV_size] at h
    rw [List.range_zero, List.map_nil, List.append_nil]
    exact h
  | i + 1 => by
    obtain ⟨f1, f2, -⟩ := s_grid_f cA cB T i
    have h0 : T.heap.size < (s_grid cA cB T i).heap.size := by omega
    have hz : ((s_grid cA cB T i).pushCell (arrV cB 40 (fun _ => .long 0))).heap[T.heap.size]? = some (arrV cA 4 (s_gv T.heap.size i)) := by rw [State.heap_pushCell_of_lt _ _ h0]; exact f2
    have h := ((s_grid_st X cA cB i).pushed (arrV cB 40 (fun _ => .long 0))).stored hz i (.ref (T.heap.size + 1 + i))
    rw [s_gv_s, arrV_size] at h
    rw [List.range_succ, List.map_append, ← List.append_assoc, show slots + 4 + 40 * (i + 1) = slots + 4 + 40 * i + 40 by omega]
    exact h
theorem s_row {E : CtlPost} {d : Bool} {acts : List Action} {k : Class} {cB cc : ClassId} (hk : s.vm.classes[cB]? = some k) (hkind : k.kind = .array cc .long) (hl : ¬ 40 > e.platform.arrayLengthLimit) (hh : ¬ 40 * componentBytes .long > e.platform.maxHeapBytes) (hc : s.heap.size < e.platform.maxCells) (hs : s.slotsUsed + 40 ≤ e.platform.maxSlots) {Q : Addr → Pre} (hq : ∀ acts', Q s.heap.size d acts' (s.pushCell (arrV cB 40 (fun _ => .long 0)))) : wp (Op.multianewarray.make cB [40]) Q E e d acts s := by
  rw [Op.multianewarray.make]
  simp only [wp_bind', W.ite, show ¬ (40 : Int32) < 0 by decide, if_false, wp_pure', W.theClass, hk, hkind, Option.some.injEq, exists_eq_left']
  refine W.newArray_of hk hkind hl hh hc hs rfl (fun acts' => ?_)
  have := hq acts'
  rw [← arrV_new] at this
  exact this
theorem s_make {E : CtlPost} {d : Bool} {acts : List Action} {kA kB : Class} {cA cB cc : ClassId} (hA : s.vm.classes[cA]? = some kA) (hkA : kA.kind = .array cB (.array .long)) (hB : s.vm.classes[cB]? = some kB) (hkB : kB.kind = .array cc .long) (hl1 : ¬ 4 > e.platform.arrayLengthLimit) (hh1 : ¬ 4 * componentBytes (.array .long) > e.platform.maxHeapBytes) (hl : ¬ 40 > e.platform.arrayLengthLimit) (hh : ¬ 40 * componentBytes .long > e.platform.maxHeapBytes) (hc : s.heap.size + 5 ≤ e.platform.maxCells) (hs : s.slotsUsed + 164 ≤ e.platform.maxSlots) {Q : Addr → Pre} (hq : ∀ d' acts', Q s.heap.size d' acts' (s_grid cA cB s 4)) : wp (Op.multianewarray.make cA [4, 40]) Q E e d acts s := by
  rw [Op.multianewarray.make]
  simp only [wp_bind', W.ite, show ¬ (4 : Int32) < 0 by decide, if_false, wp_pure', W.theClass, hA, hkA, Option.some.injEq, exists_eq_left']
  refine W.newArray_of hA hkA hl1 hh1 (by omega) (by show s.slotsUsed + 4 ≤ _; omega) rfl (fun acts1 => ?_)
  simp only [show ((4 : Int32) == 0) = false from rfl, Bool.false_eq_true, if_false]
  rw [wp_bind', Std.Legacy.Range.forIn_eq_forIn_range']
  refine wp_forIn_inv (fun rest s' => ∃ i, i ≤ 4 ∧ rest = List.range' i (4 - i) ∧ s' = s_grid cA cB s i) _ _ ⟨0, Nat.zero_le _, rfl, ?_⟩ ?_ ?_
  · show _ = s.pushCell (arrV cA 4 (s_gv s.heap.size 0))
    rw [show s_gv s.heap.size 0 = fun _ => Value.null from rfl, ← arrV_new]
    rfl
  · rintro x rest s' d' acts' Q' ⟨i, hi, hr, rfl⟩ hn
    have hlt : i < 4 := by
      refine Nat.lt_of_not_le (fun q => ?_)
      rw [show 4 - i = 0 by omega] at hr
      cases hr
    rw [show 4 - i = (4 - (i + 1)) + 1 by omega, List.range'_succ] at hr
    obtain ⟨rfl, hr2⟩ := List.cons.inj hr
    obtain ⟨f1, f2, f3, f4, f5, f6⟩ := s_grid_f cA cB s x
    simp only [wp_bind']
    refine s_row (k := kB) (cc := cc) (by rw [f3]; exact hB) hkB hl hh (by omega) (by omega) (fun acts2 => ?_)
    have hz : ((s_grid cA cB s x).pushCell (arrV cB 40 (fun _ => .long 0))).heap[s.heap.size]? = some (arrV cA 4 (s_gv s.heap.size x)) := by rw [State.heap_pushCell_of_lt _ _ (show s.heap.size < (s_grid cA cB s x).heap.size by omega)]; exact f2
    simp only [wp_bind', W.writeLoc, wp_pure']
    refine ⟨_, hz, (fun q => by cases q), (by rw [arrV_size]; exact hlt), ?_, hn _ _ _ ⟨x + 1, hlt, hr2, ?_⟩⟩
    · simp [State.fitsSlot, State.slotType?, arrV, f3, hA, hkA, fits]
    · rw [f1, s_gv_s]
      rfl
  · rintro s' d' acts' ⟨i, hi, hr, rfl⟩
    have ei : i = 4 := by
      by_cases q : i = 4
      · exact q
      · rw [show 4 - i = (4 - (i + 1)) + 1 by omega, List.range'_succ] at hr
        cases hr
    subst ei
    simp only [wp_pure']
    exact hq _ _
theorem s_mna (X : Stand p l e R s m args below meth c T locs cells slots) (hexec : p.tables.exec = Jvm.exec) {own : String} {index : Nat} (hown : s.vm.findClass own = some m.cls) (hlink : (Cond.classLink own index ("[" ++ (FieldType.array FieldType.long).toString)).before args s = true) (hover : (Cond.arrayOver (.array .long)).before args s = true) (harr : (Cond.arrayClass .long).before args s = true)
    {g : JFrame} (hg : g.method = m) (hdg : decode c.code g.pc = .ok (.multianewarray index 2, 4)) {rest : List Value} (hst : g.stack = .int 40 :: .int 4 :: rest) (hcells : cells + 5 ≤ R.cells) (hslots : slots + 164 ≤ R.slots) :
    ∃ (vm₁ : Vm) (cA cB : ClassId), s.WarmedH vm₁ ∧ s.vm.findClass ("[" ++ (FieldType.array FieldType.long).toString) = some cA ∧ s.vm.findClass (FieldType.array FieldType.long).toString = some cB ∧
      Stand p l e R s m args below meth c (s_grid cA cB (T.setVm vm₁) 4) (locs ++ (List.range 4).map fun j => ⟨T.heap.size, j⟩) (cells + 5) (slots + 164) ∧
      ∀ target, Steps p.tables e below ((s_grid cA cB (T.setVm vm₁) 4).setTop { g with pc := g.pc + 4, stack := .ref T.heap.size :: rest }) target → Steps p.tables e below (T.setTop g) target := by
  subst hg
  have hpl : e.platform.magicAccessors = ({} : Platform).magicAccessors := by rw [X.admits.platform]
  obtain ⟨cB, cA, kA, hcB, -, hkA, hkindA, hcA⟩ := arrayOverA_spec hover
  obtain ⟨cB', kB, cc, hcB', hkB, hkindB⟩ := Cond.arrayClass_spec harr
  have eB : cB' = cB := Option.some.inj (hcB'.symm.trans hcB)
  subst eB
  obtain ⟨c0, hc0, hcl⟩ := Cond.classLink_spec hown hlink e.platform hpl
  cases hcA.symm.trans hc0
  obtain ⟨hgv, hwarm, hready⟩ := State.classEntry (e := e) X.warmed hcl
  generalize T.vm.noted g.method.cls index (.cls cA) = vm₁ at hgv hwarm hready
  have hal : s.vm.Alike vm₁ := hwarm.alike
  obtain ⟨kA1, hkA1, heA⟩ := hal.2.2 _ _ hkA
  obtain ⟨kB1, hkB1, heB⟩ := hal.2.2 _ _ hkB
  have hkindA1 : kA1.kind = .array cB' (.array .long) := by rw [heA]; exact hkindA
  have hkindB1 : kB1.kind = .array cc .long := by rw [heB]; exact hkindB
  have X1 := X.noted hwarm
  have XG := s_grid_st X1 cA cB' 4
  obtain ⟨hr1, hr2⟩ := X.roomAbove hcells hslots
  refine ⟨vm₁, cA, cB', hwarm, hcA, hcB, XG, fun target hrest => ?_⟩
  jvm_step X.here [hexec, hdg]
  simp only [Op.multianewarray.sem, wp_bind', W.resolveClassAt_links (State.method?_setTop g X.here.top) hgv]
  rw [W.popN, if_neg (by decide)]
  refine ⟨g, State.topJava?_setTop' (s := T.setVm vm₁) g X.here.top, [.int 4, .int 40], rest, rfl, hst, ?_⟩
  simp only [List.mapM_cons, List.mapM_nil, wp_bind', wp_pure']
  have eS : ((T.setTop g).setVm vm₁).setTop { g with stack := rest } = (T.setVm vm₁).setTop { g with stack := rest } := by
    show ((T.setVm vm₁).setTop g).setTop _ = _
    rw [State.setTop_setTop]
  rw [eS]
  refine s_make (kA := kA1) (kB := kB1) (cB := cB') (cc := cc) hkA1 hkindA1 hkB1 hkindB1 ?_ ?_ ?_ ?_ (by show T.heap.size + 5 ≤ _; omega) (by show T.slotsUsed + 164 ≤ _; omega) (fun d' acts' => ?_)
  · rw [Launch.admits_arrayLengthLimit X.admits]
    decide
  · rw [Launch.admits_maxHeapBytes X.admits]
    decide
  · rw [Launch.admits_arrayLengthLimit X.admits]
    decide
  · rw [Launch.admits_maxHeapBytes X.admits]
    decide
  · rw [s_grid_top]
    simp only [wp_bind', W.mark, W.pushRef, State.topJava?_setTop' _ XG.here.top, Option.some.injEq, exists_eq_left', State.setTop_setTop, State.heap_setTop]
    intro acts
    simp [jvm, XG.here.top]
    exact hrest
end L67
