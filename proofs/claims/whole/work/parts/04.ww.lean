theorem q_ovm {u U : State} (hvm : u.vm.Alike U.vm) {t : FieldType} (h : (Cond.arrayOver (.array t)).before #[] u = true) : (Cond.arrayOver (.array t)).before #[] U = true := by
  simp only [Cond.before, Cond.holds, Cond.value, beq_iff_eq] at h ⊢
  simp only [hvm.findClass] at h ⊢
  cases hc : u.vm.findClass (FieldType.array t).toString with
  | none => rw [hc] at h; simp at h
  | some comp =>
    rw [hc, Option.bind_some] at h
    rw [Option.bind_some]
    obtain ⟨c, h1, h2⟩ := Option.bind_eq_some_iff.mp h
    have hi : (U.vm.classes.findIdx? fun (x : Class) => match x.kind with | .array component _ => component == comp | _ => false) = some c := by
      have e1 := va_idx_bare U.vm comp
      have e2 := va_idx_bare u.vm comp
      have e3 : U.vm.bare = u.vm.bare := by first | exact hvm.bare_eq | exact hvm.bare_eq.symm
      rw [e3] at e1
      exact e1.symm.trans (e2.trans h1)
    refine Option.bind_eq_some_iff.mpr ⟨c, hi, ?_⟩
    obtain ⟨k, hk, hb⟩ := Option.map_eq_some_iff.mp h2
    obtain ⟨k', hk', he⟩ := hvm.2.2 _ _ hk
    refine Option.map_eq_some_iff.mpr ⟨k', hk', ?_⟩
    have hkk : k'.kind = k.kind := by rw [he]
    rw [hkk]
    exact hb
theorem q_Tb.vm {G : Gx} {u U : State} (h : q_Tb G u) (hv : u.vm = U.vm) (hh : U.heap = u.heap) : q_Tb G U := by
  obtain ⟨h1, h2, ⟨h3, h4, h5⟩, h6, h7, h8, h9, h10⟩ := h
  have hal : u.vm.Alike U.vm := by rw [hv]; exact Vm.Alike.refl _
  refine ⟨h1.moved hal, fun w hw => q_nw_same hv hw (h2 w hw), ⟨h3.moved hal, h4.moved hal, q_ovm hal h5⟩, fun k hk => ?_, ?_, ?_, h9, ?_⟩
  · obtain ⟨a, b⟩ := h6 k hk
    rw [hh]
    exact ⟨a.moved hal, b.moved hal⟩
  · rw [hh]; exact h7.moved hal
  · rw [hh]; exact h8
  · rw [hh]; exact h10
theorem q_Tb.moved {G : Gx} {s U : State} {H : Heap} {locs : List Loc} (h : q_Tb G s) (hS : va_S (q_A G) s.heap H locs) (hU : U.heap = H) (hW : s.WarmedH U.vm) : q_Tb G U := by
  obtain ⟨h1, h2, ⟨h3, h4, h5⟩, h6, h7, h8, h9, h10⟩ := h
  have hal : s.vm.Alike U.vm := hW.alike
  refine ⟨h1.moved hal, fun w hw => q_nw_warm hW hw (h2 w hw), ⟨h3.moved hal, h4.moved hal, q_ovm hal h5⟩, fun k hk => ?_, ?_, ?_, h9, ?_⟩
  · obtain ⟨a, b⟩ := h6 k hk
    rw [hU]
    exact ⟨(a.moved hal).kept hS.2.1, (b.moved hal).kept hS.2.1⟩
  · rw [hU]
    exact (h7.moved hal).kept (hS.2.1 _ h8 h9)
  · rw [hU]
    exact Nat.lt_of_lt_of_le h8 hS.1
  · rw [hU]
    exact Nat.le_trans h10 hS.1
/-! THE WALK: WW G d M pc ls st S R I L ce sl mc ms K: the machine, in method M at pc with the locals ls and the stack st (both abstract), d calls deep at most from here, the world as (S, R, I, L), comes to the method's return, with an answer and a world that K takes -/
def q_lv (G : Gx) (ls : List (Option Value)) : List (Nat × Value) := (List.range ls.length).filterMap (fun i => match ls[i]? with
  | some (some v) => some (i, q_cv G v)
  | _ => none)
theorem q_lv_mem {G : Gx} {ls : List (Option Value)} {q : Nat × Value} : q ∈ q_lv G ls ↔ ∃ v, ls[q.1]? = some (some v) ∧ q.2 = q_cv G v := by
  unfold q_lv
  rw [List.mem_filterMap]
  constructor
  · rintro ⟨i, -, h⟩
    cases hi : ls[i]? with
    | none => rw [hi] at h; cases h
    | some o =>
      cases o with
      | none => rw [hi] at h; cases h
      | some v => rw [hi] at h; cases h; exact ⟨v, hi, rfl⟩
  · rintro ⟨v, h1, h2⟩
    refine ⟨q.1, List.mem_range.mpr (List.getElem?_eq_some_iff.mp h1).1, ?_⟩
    rw [h1]
    show some (q.1, q_cv G v) = some q
    rw [← h2]
theorem q_lv_get {G : Gx} {la : Array Slot} {n i : Nat} {ls : List (Option Value)} {v : Value} (h : lv_has la n (q_lv G ls)) (hv : ls[i]? = some (some v)) : la[i]? = some (.val (q_cv G v)) := h.2.2 (i, q_cv G v) (q_lv_mem.mpr ⟨v, hv, rfl⟩)
def q_ri (v : Option Value) : Instr := match v with
  | some (.int _) => .ireturn
  | some (.long _) => .lreturn
  | _ => .return_
def q_nar (M : Mt) (v : Option Value) : Prop := match v with
  | none => M.2.2.2 = none
  | some (.int x) => ∃ ty, M.2.2.2 = some ty ∧ narrow ty (.int x) = .int x
  | some (.long _) => M.2.2.2 = some .long
  | _ => False
def q_Fx (G : Gx) (d : Nat) (M : Mt) (mc ms : Nat) (p : Program) (Rm : Room) (s : State) (m : MethodId) (args : Array Value) (meth : Method) (c : Code) : Prop :=
  p.tables.exec = Jvm.exec ∧ c.code = M.2.1 ∧ c.maxLocals = M.2.2.1 ∧ meth.sig.returnType = M.2.2.2 ∧ meth.name = M.1.name ∧ meth.locks = false ∧ s.vm.findClass M.1.cls = some m.cls ∧ (∀ w ∈ q_gw, w.before args s = true) ∧ q_Tb G s ∧ d + 1 ≤ Rm.frames ∧ 64 * (d + 1) ≤ Rm.locals ∧ mc ≤ Rm.cells ∧ ms ≤ Rm.slots
abbrev Kt : Type := Option Value → Shp → Rf → Rn → Rl → Prop
def q_Rt (G : Gx) (M : Mt) (mc ms : Nat) (K : Kt) (p : Program) (e : Env) (Rm : Room) (s : State) (m : MethodId) (args : Array Value) (below : List Frame) (meth : Method) (c : Code) (Q : State → Prop) : Prop :=
  ∀ (v : Option Value) (S : Shp) (R : Rf) (I : Rn) (L : Rl) (H : Heap) (locs : List Loc) (pc : Nat) (la : Array Slot), K v S R I L → q_Wd G S R I L H → va_S (q_A G) s.heap H locs → decode M.2.1 pc = .ok (q_ri v, 1) → q_nar M v →
    W p G.1 e Rm s m args below meth c H locs mc ms Q (F0 m pc la ((v.map (q_cv G)).toList))
def WW (G : Gx) (d : Nat) (M : Mt) (pc : Nat) (ls : List (Option Value)) (st : List Value) (S : Shp) (R : Rf) (I : Rn) (L : Rl) (ce sl mc ms : Nat) (K : Kt) : Prop :=
  ∀ (p : Program) (e : Env) (Rm : Room) (s : State) (m : MethodId) (args : Array Value) (below : List Frame) (meth : Method) (c : Code) (H : Heap) (locs : List Loc) (Q : State → Prop) (la : Array Slot),
    q_Fx G d M mc ms p Rm s m args meth c → q_Wd G S R I L H → va_S (q_A G) s.heap H locs → lv_has la M.2.2.1 (q_lv G ls) → q_Rt G M mc ms K p e Rm s m args below meth c Q →
    W p G.1 e Rm s m args below meth c H locs ce sl Q (F0 m pc la (st.map (q_cv G)))
/-- the continuation may be weakened -/
theorem WW.mono {G : Gx} {d : Nat} {M : Mt} {pc : Nat} {ls : List (Option Value)} {st : List Value} {S : Shp} {R : Rf} {I : Rn} {L : Rl} {ce sl mc ms : Nat} {K K' : Kt} (h : WW G d M pc ls st S R I L ce sl mc ms K) (hk : ∀ v S R I L, K v S R I L → K' v S R I L) : WW G d M pc ls st S R I L ce sl mc ms K' :=
  fun p e Rm s m args below meth c H locs Q la hF hW hS hl hR => h p e Rm s m args below meth c H locs Q la hF hW hS hl (fun v S R I L H locs pc la k => hR v S R I L H locs pc la (hk v S R I L k))
/-- more room does no harm -/
theorem WW.up {G : Gx} {d d' : Nat} {M : Mt} {pc : Nat} {ls : List (Option Value)} {st : List Value} {S : Shp} {R : Rf} {I : Rn} {L : Rl} {ce sl mc ms : Nat} {K : Kt} (h : WW G d M pc ls st S R I L ce sl mc ms K) (hd : d ≤ d') : WW G d' M pc ls st S R I L ce sl mc ms K :=
  fun p e Rm s m args below meth c H locs Q la hF hW hS hl hR => h p e Rm s m args below meth c H locs Q la (by
    obtain ⟨f1, f2, f3, f4, f5, f6, f7, f8, f9, f10, f11, f12⟩ := hF
    exact ⟨f1, f2, f3, f4, f5, f6, f7, f8, f9, Nat.le_trans (Nat.succ_le_succ hd) f10, Nat.le_trans (Nat.mul_le_mul_left 64 (Nat.succ_le_succ hd)) f11, f12⟩) hW hS hl hR
/-! A METHOD'S CONTRACT OUT OF ITS WALK -/
def q_pad : Nat → List (Option Value)
  | 0 => []
  | n + 1 => none :: q_pad n
def q_ents : List Value → List (Option Value)
  | [] => []
  | .long x :: r => some (.long x) :: none :: q_ents r
  | .double x :: r => some (.double x) :: none :: q_ents r
  | v :: r => some v :: q_ents r
/-- a method's locals at its entry -/
def q_ent (as : List Value) (n : Nat) : List (Option Value) := q_ents as ++ q_pad (n - (q_ents as).length)
def q_wm (M : Mt) : List Cond := .code M.1 M.2.1 M.2.2.1 M.2.2.2 :: q_gw
def q_rm (d mc ms : Nat) : Room := { frames := d + 1, cells := mc, slots := ms, locals := 64 * (d + 1) }
def q_Q (G : Gx) (K : Kt) : Array Value → State → Outcome → State → Prop := fun _ st oc t => (∃ (v : Option Value) (S : Shp) (R : Rf) (I : Rn) (L : Rl), oc = .returned (v.map (q_cv G)) ∧ K v S R I L ∧ q_Wd G S R I L t.heap) ∧ va_F (q_A G) st t
theorem q_ents_len (G : Gx) : ∀ as : List Value, (lg_sl (as.map (q_cv G))).length = (q_ents as).length
  | [] => rfl
  | v :: r => by
    have ih := q_ents_len G r
    cases v <;> simp [lg_sl, q_ents, q_cv, Value.category] at ih ⊢ <;> omega
theorem q_ents_mem (G : Gx) : ∀ (as : List Value) (k : Nat) (i : Nat) (v : Value), (q_ents as)[i]? = some (some v) → (k + i, q_cv G v) ∈ lv_args k (as.map (q_cv G))
  | [], k, i, v, h => by simp [q_ents] at h
  | a :: r, k, i, v, h => by
    have two : ∀ (b : Value), a = b → b.category = 2 → (q_ents (a :: r) = some b :: none :: q_ents r) → (k + i, q_cv G v) ∈ lv_args k ((a :: r).map (q_cv G)) := by
      intro b e hb hq
      subst e
      rw [hq] at h
      show _ ∈ (k, q_cv G a) :: lv_args (if (q_cv G a).category = 2 then k + 2 else k + 1) (r.map (q_cv G))
      rw [q_cv_cat, if_pos hb]
      match i, h with
      | 0, h => cases h; exact List.mem_cons_self
      | 1, h => cases h
      | j + 2, h =>
        have := q_ents_mem G r (k + 2) j v h
        rw [show k + (j + 2) = k + 2 + j by omega]
        exact List.mem_cons_of_mem _ this
    have one : ∀ (b : Value), a = b → b.category = 1 → (q_ents (a :: r) = some b :: q_ents r) → (k + i, q_cv G v) ∈ lv_args k ((a :: r).map (q_cv G)) := by
      intro b e hb hq
      subst e
      rw [hq] at h
      show _ ∈ (k, q_cv G a) :: lv_args (if (q_cv G a).category = 2 then k + 2 else k + 1) (r.map (q_cv G))
      rw [q_cv_cat, if_neg (by rw [hb]; decide)]
      match i, h with
      | 0, h => cases h; exact List.mem_cons_self
      | j + 1, h =>
        have := q_ents_mem G r (k + 1) j v h
        rw [show k + (j + 1) = k + 1 + j by omega]
        exact List.mem_cons_of_mem _ this
    cases a with
    | int x => exact one _ rfl rfl rfl
    | long x => exact two _ rfl rfl rfl
    | float x => exact one _ rfl rfl rfl
    | double x => exact two _ rfl rfl rfl
    | null => exact one _ rfl rfl rfl
    | ref x => exact one _ rfl rfl rfl
    | retAddr x => exact one _ rfl rfl rfl
theorem q_pad_get (n i : Nat) (v : Value) : (q_pad n)[i]? = some (some v) → False := by
  induction n generalizing i with
  | zero => intro h; simp [q_pad] at h
  | succ n ih =>
    intro h
    cases i with
    | zero => simp [q_pad] at h
    | succ j => exact ih j (by simpa [q_pad] using h)
theorem q_ent_mem {G : Gx} {as : List Value} {n : Nat} {q : Nat × Value} (h : q ∈ q_lv G (q_ent as n)) : q ∈ lv_args 0 (as.map (q_cv G)) := by
  obtain ⟨v, h1, h2⟩ := q_lv_mem.mp h
  unfold q_ent at h1
  by_cases hl : q.1 < (q_ents as).length
  · rw [List.getElem?_append_left hl] at h1
    have := q_ents_mem G as 0 q.1 v h1
    rw [Nat.zero_add, ← h2] at this
    exact this
  · rw [List.getElem?_append_right (by omega)] at h1
    exact (q_pad_get _ _ _ h1).elim
theorem q_met {G : Gx} {d : Nat} {M : Mt} {as : List Value} {S : Shp} {R : Rf} {I : Rn} {L : Rl} {mc ms : Nat} {K : Kt} (hp : plainName M.1.cls = true) (hl : (q_ents as).length ≤ M.2.2.1) (h : WW G d M 0 (q_ent as M.2.2.1) [] S R I L 0 0 mc ms K) :
    Met G.1 M.1 (q_wm M) (q_rm d mc ms) (va_Pc (as.map (q_cv G)) (fun U => q_Wd G S R I L U.heap ∧ q_Tb G U)) (q_Q G K) mc ms (q_A G) := by
  refine Met.ofW (cc := M.2.1) (maxL := M.2.2.1) (ret := M.2.2.2) hp rfl ?_
  intro p e s m args below meth c s₁ B hml hv
  obtain ⟨rfl, hW, hT⟩ := hv
  have hts := atoms_spec (ws := q_wm M) B.pre
  have hF : q_Fx G d M mc ms p (q_rm d mc ms) s m (as.map (q_cv G)).toArray meth c := ⟨B.exec, B.bytes, hml, B.returns, (name_of_methodNamed B.named B.method).1, B.notSynchronized, findClass_of_methodNamed B.named, fun w hw => hts w (List.mem_cons_of_mem _ hw), hT, Nat.le_refl _, Nat.le_refl _, Nat.le_refl _, Nat.le_refl _⟩
  have hl0 := lv_entry (as.map (q_cv G)) (n := M.2.2.1) (by rw [q_ents_len]; exact hl)
  rw [lg_entry_eq]
  refine h p e (q_rm d mc ms) s m _ below meth c s.heap [] _ _ hF hW va_S.rf ⟨hl0.1, hl0.2.1, fun q hq => hl0.2.2 q (q_ent_mem hq)⟩ ?_
  intro v S' R' I' L' H' locs' pc' la' hk hW' hS' hd hn
  have hq : ∀ (r : Option Value), r = v.map (q_cv G) → ∀ t : State, t.heap = H' → s.WarmedH t.vm → q_Q G K (as.map (q_cv G)).toArray s (.returned r) t := fun r e t ht _ => ⟨⟨v, S', R', I', L', by rw [e], hk, by rw [ht]; exact hW'⟩, hS'.F ht⟩
  match v, hd, hn, hq with
  | none, hd, hn, hq => exact W.vret B.exec B.bytes (B.returns.trans hn) (hq none rfl) hS'.2.2 hd B.notSynchronized
  | some (.int x), hd, ⟨ty, h1, h2⟩, hq => exact W.zret B.exec B.bytes (B.returns.trans h1) h2 (hq _ rfl) hS'.2.2 hd B.notSynchronized
  | some (.long x), hd, hn, hq => exact W.lret B.exec B.bytes (B.returns.trans hn) (hq _ rfl) hS'.2.2 hd B.notSynchronized
  | some (.float x), hd, hn, hq => exact hn.elim
  | some (.double x), hd, hn, hq => exact hn.elim
  | some .null, hd, hn, hq => exact hn.elim
  | some (.ref x), hd, hn, hq => exact hn.elim
  | some (.retAddr x), hd, hn, hq => exact hn.elim
