/-! THE LAW'S START: the abstract world of its entry -/
theorem w_arrT {s : State} {cA comp : ClassId} {kA : Class} {ty : FieldType} (hk : s.vm.classes[cA]? = some kA) (hkind : kA.kind = .array comp ty) : ArrOfT s cA ty := fun _ _ => ⟨(fun k h => by cases h), kA, hk, comp, hkind⟩
theorem w_stat {args : Array Value} {s : State} {A : Nat → Prop} {n : String} {N : Nat} {f : Nat → Int32} (hN : N < 2 ^ 31) (hl : (Cond.laysStatic "NightDitch" n "[I").before args s = true) (hini : (Cond.initialized "NightDitch").before args s = true) (harr : (Cond.arrayOf (.static "NightDitch" n "[I") .int).before args s = true) (hlen : (Cond.eq (.length (.static "NightDitch" n "[I")) (.int (Int32.ofNat N))).before args s = true) (hel : ∀ j, j < N → (Cond.eq (.elem (.static "NightDitch" n "[I") (.int (Int32.ofNat j))) (.int (f j))).before args s = true) (hA : ∀ a : Nat, a < s.heap.size → ¬ A a) : ∃ t : Nat, va_Z "NightDitch" n "[I" (.ref t) A s s.heap ∧ va_T .int t N (fun j => .int (f j)) A s s.heap := by
  obtain ⟨t, h1, h2⟩ := va_Tof hN harr (va_eqt hlen) (fun j hj => va_eqt (hel j hj)) hA
  exact ⟨t, va_Zof hl hini h1 hA, h2⟩
theorem w_n1 : ∀ k, k < 4 → Cond.laysStatic "NightDitch" (q_sn k) "[I" ∈ lw_tbl := by decide +kernel
theorem w_n2 : ∀ k, k < 4 → Cond.arrayOf (.static "NightDitch" (q_sn k) "[I") .int ∈ flatC (Jvm.Cond.and given_1 narrow_1) := by decide +kernel
theorem w_n3 : ∀ k, k < 4 → Cond.eq (.length (.static "NightDitch" (q_sn k) "[I")) (.int (Int32.ofNat (q_sl k))) ∈ flatC (Jvm.Cond.and given_1 narrow_1) := by decide +kernel
theorem w_n4 : ∀ k, k < 4 → ∀ j, j < q_sl k → Cond.eq (.elem (.static "NightDitch" (q_sn k) "[I") (.int (Int32.ofNat j))) (.int (q_sv k j)) ∈ flatC (Jvm.Cond.and given_1 narrow_1) := by decide +kernel
theorem w_n5 : ∀ k, k < 4 → q_sl k < 2 ^ 31 := by decide +kernel
theorem w_sts {args : Array Value} {s : State} {A : Nat → Prop} (hts : ∀ w ∈ lw_tbl, w.before args s = true) (hgv : (Jvm.Cond.and given_1 narrow_1).before args s = true) (hA : ∀ a : Nat, a < s.heap.size → ¬ A a) (b : Nat) : ∃ ad : Nat → Nat, ad 4 = b ∧ ∀ k, k < 4 → va_Z "NightDitch" (q_sn k) "[I" (.ref (ad k)) A s s.heap ∧ va_T .int (ad k) (q_sl k) (fun j => .int (q_sv k j)) A s s.heap := by
  have hs := flat_of_before _ hgv
  have h : ∀ k, ∃ t : Nat, k < 4 → va_Z "NightDitch" (q_sn k) "[I" (.ref t) A s s.heap ∧ va_T .int t (q_sl k) (fun j => .int (q_sv k j)) A s s.heap := fun k => by
    by_cases hk : k < 4
    · obtain ⟨t, h1⟩ := w_stat (A := A) (n := q_sn k) (N := q_sl k) (f := q_sv k) (w_n5 k hk) (hts _ (w_n1 k hk)) (hts (.initialized "NightDitch") (by decide +kernel)) (hs _ (w_n2 k hk)) (hs _ (w_n3 k hk)) (fun j hj => hs _ (w_n4 k hk j hj)) hA
      exact ⟨t, fun _ => h1⟩
    · exact ⟨0, fun q => absurd q hk⟩
  refine ⟨fun k => if k < 4 then Classical.choose (h k) else b, if_neg (by decide), fun k hk => ?_⟩
  have e : (if k < 4 then Classical.choose (h k) else b) = Classical.choose (h k) := if_pos hk
  show va_Z "NightDitch" (q_sn k) "[I" (.ref (if k < 4 then Classical.choose (h k) else b)) A s s.heap ∧ va_T .int (if k < 4 then Classical.choose (h k) else b) (q_sl k) (fun j => .int (q_sv k j)) A s s.heap
  rw [e]
  exact Classical.choose_spec (h k) hk
theorem w_one {args : Array Value} {s : State} (hq : ∀ w ∈ q_gw, w.before args s = true) (hts : ∀ w ∈ lw_tbl, w.before args s = true) (k : Nat) (q : vw_C) (h : q_cls[k]? = some q) : ∃ (cC : ClassId) (iS : Nat → Nat), u_Kn s q.1 q.2.1 q.2.2 cC iS := by
  match k, h with
  | 0, h => cases h; exact u_known hq kl_0 (hts (.instantiable RX0 12) (by decide +kernel))
  | 1, h => cases h; exact u_known hq kl_1 (hts (.instantiable RX1 7) (by decide +kernel))
  | 2, h => cases h; exact u_known hq kl_2 (hts (.instantiable RX2 13) (by decide +kernel))
  | 3, h => cases h; exact u_known hq kl_3 (hts (.instantiable RX3 7) (by decide +kernel))
  | 4, h => cases h; exact u_known hq kl_4 (hts (.instantiable RX4 3) (by decide +kernel))
  | 5, h => cases h; exact u_known hq kl_5 (hts (.instantiable RX5 4) (by decide +kernel))
  | 6, h => cases h; exact u_known hq kl_6 (hts (.instantiable RX6 4) (by decide +kernel))
  | 7, h => cases h; exact u_known hq kl_7 (hts (.instantiable RX7 8) (by decide +kernel))
  | 8, h => cases h; exact u_known hq kl_8 (hts (.instantiable RX8 39) (by decide +kernel))
  | n + 9, h => exact absurd h (by simp [q_cls])
theorem w_all {args : Array Value} {s : State} (hq : ∀ w ∈ q_gw, w.before args s = true) (hts : ∀ w ∈ lw_tbl, w.before args s = true) : ∃ (dC : Nat → ClassId) (dI : Nat → Nat → Nat), ∀ (k : Nat) (q : vw_C), q_cls[k]? = some q → u_Kn s q.1 q.2.1 q.2.2 (dC k) (dI k) := by
  have h : ∀ k : Nat, ∃ p : ClassId × (Nat → Nat), ∀ q : vw_C, q_cls[k]? = some q → u_Kn s q.1 q.2.1 q.2.2 p.1 p.2 := fun k => by
    cases hk : q_cls[k]? with
    | none => exact ⟨(0, id), fun q h => by cases h⟩
    | some q0 =>
      obtain ⟨cC, iS, h1⟩ := w_one hq hts k q0 hk
      exact ⟨(cC, iS), fun q h => by cases h; exact h1⟩
  exact ⟨fun k => (Classical.choose (h k)).1, fun k => (Classical.choose (h k)).2, fun k => Classical.choose_spec (h k)⟩
theorem w_nws {args : Array Value} {s : State} (hts : ∀ w ∈ lw_tbl, w.before args s = true) : ∀ w ∈ q_nw, va_Nw w s := fun w hw => by
  have hn := (List.mem_filter.mp hw).2
  have hb := hts w (List.mem_append_right _ (List.mem_filter.mp hw).1)
  cases w <;> first | exact va_Nw.of rfl hb | cases hn
theorem w_arrs {args : Array Value} {s : State} (hts : ∀ w ∈ lw_tbl, w.before args s = true) : ∃ cA : Nat → ClassId, ∀ (k : Nat) (q : ClassId × FieldType), ([(cA 0, .int), (cA 1, .long), (cA 2, .boolean), (cA 3, .object "NightDitch$Farm"), (cA 4, .object "NightDitch$Meet"), (cA 5, .array .long)] : List (ClassId × FieldType))[k]? = some q → ArrOfT s q.1 q.2 ∧ va_RA s q.1 q.2 := by
  obtain ⟨c0, k0, p0, a0, b0, d0⟩ := Cond.arrayClass_spec (hts (.arrayClass .int) (by decide +kernel))
  obtain ⟨c1, k1, p1, a1, b1, d1⟩ := Cond.arrayClass_spec (hts (.arrayClass .long) (by decide +kernel))
  obtain ⟨c2, k2, p2, a2, b2, d2⟩ := Cond.arrayClass_spec (hts (.arrayClass .boolean) (by decide +kernel))
  obtain ⟨p3, c3, k3, a3, -, b3, d3, e3⟩ := Cond.arrayOver_spec (hts (.arrayOver (.object "NightDitch$Farm")) (by decide +kernel))
  obtain ⟨p4, c4, k4, a4, -, b4, d4, e4⟩ := Cond.arrayOver_spec (hts (.arrayOver (.object "NightDitch$Meet")) (by decide +kernel))
  obtain ⟨p5, c5, k5, a5, -, b5, d5, e5⟩ := arrayOverA_spec (hts (.arrayOver (.array .long)) (by decide +kernel))
  refine ⟨fun k => match k with
    | 0 => c0
    | 1 => c1
    | 2 => c2
    | 3 => c3
    | 4 => c4
    | _ => c5, fun k q h => ?_⟩
  match k, h with
  | 0, h => cases h; exact ⟨w_arrT b0 d0, a0⟩
  | 1, h => cases h; exact ⟨w_arrT b1 d1, a1⟩
  | 2, h => cases h; exact ⟨w_arrT b2 d2, a2⟩
  | 3, h => cases h; exact ⟨w_arrT b3 d3, k3, p3, b3, d3, a3, e3⟩
  | 4, h => cases h; exact ⟨w_arrT b4 d4, k4, p4, b4, d4, a4, e4⟩
  | 5, h => cases h; exact ⟨w_arrT b5 d5, e5⟩
  | n + 6, h => simp at h
/-! THE CLAIM OUT OF ONE WALK OF THE LAW'S BODY. Your part is whole_start (and what it stands on); all else here is the same for every law, but numbers. -/
def R_law : String := "NightDitchLaw"
def lw_P (b : Addr) (xs : List Int32) (args : Array Value) (s : State) : Prop := args = #[.ref b] ∧ s.IntsAt b xs ∧ xs.length ≤ 384 ∧ (Jvm.Cond.and given_1 narrow_1).before args s = true
def lw_Q (_ : Array Value) (s : State) (o : Outcome) (t : State) : Prop := o = .returned (some (.int 1)) ∧ Framed s o t [] 600000 7302250
def lw_Z (below : List Frame) (a : Array Value) (s : State) : State → Prop := fun t => ∃ o, t.status = .running ∧ Ended t below o ∧ lw_Q a s o t
/-- the law's own end, with 1 on the stack, nothing written that was there before, its room as the claim has it -/
theorem lw_ret {p : Program} {l : Launch} {e : Env} {s : State} {m : MethodId} {below : List Frame} {meth : Method} {c : Code} {b : Nat} (hx : p.tables.exec = Jvm.exec) (hb : c.code = code) (hr : meth.sig.returnType = ret) (hlocks : meth.locks = false) {pc : Nat} {H : Heap} {ls : Array Slot} (hdg : decode code pc = .ok (.ireturn, 1)) : W p l e room_1 s m #[Value.ref b] below meth c H [] 600000 7302250 (lw_Z below #[Value.ref b] s) (F0 m pc ls [.int 1]) := by
  intro T hT X
  obtain ⟨fs, hret, hrun, hended, hW, hframe⟩ := X.leave (v := some (.int 1)) (hlocks := hlocks) (fun h => by rw [hr] at h; cases h)
  have hmeth' : T.vm.method? m = some meth := X.method'
  refine ⟨T.setFrames fs, ?_, .returned (some (.int 1)), hrun, hended, rfl, ⟨_, rfl⟩, hW, hframe⟩
  jvm_step X.here [X.here.top, hx, hb, hdg, hmeth', hr, ret, narrow_b1]
  (try refine ⟨rfl, ?_⟩); (try refine ⟨rfl, ?_⟩)
  first | (intro acts; rw [hret _ acts rfl rfl rfl]) | rw [hret _ _ rfl rfl rfl]
  exact Steps.refl _
/-- what holds at the law's entry: the machine, the code, the tables' words (any of lw_tbl by 'hts w (by decide +kernel)'), the script of L ints xs at the cell b, what the Statement gives of the start (any of its parts by flat_of_before) -/
def lw_At (p : Program) (s : State) (m : MethodId) (meth : Method) (c : Code) (b L : Nat) (xs : Nat → Int32) : Prop :=
  p.tables.exec = Jvm.exec ∧ c.code = code ∧ meth.sig.returnType = ret ∧ c.maxLocals = 4 ∧ s.vm.findClass R_law = some m.cls ∧ (∀ w ∈ lw_tbl, w.before #[Value.ref b] s = true) ∧ va_X b L xs s s.heap ∧ b < s.heap.size ∧ meth.locks = false ∧ (Jvm.Cond.and given_1 narrow_1).before #[Value.ref b] s = true ∧ meth.name = x.name
-- ===== YOUR PART BEGINS =====
set_option maxHeartbeats 4000000 in
/-- YOUR PART: from the entry, for every script of at most 384 ints, the law comes to its end with true ('hflags': the launch's flags, for a law that throws: no stack traces) -/
theorem whole_start {p : Program} {e : Env} {s : State} {m : MethodId} {below : List Frame} {meth : Method} {c : Code} (l : Launch) (hflags : l.flags = flags0) {b L : Nat} {xs : Nat → Int32} (hL : L ≤ 384) (C0 : lw_At p s m meth c b L xs) : W p l e room_1 s m #[Value.ref b] below meth c s.heap [] 0 0 (lw_Z below #[Value.ref b] s) (entryFrame m ([Value.ref b] : List Value).toArray 4) := by
  obtain ⟨hx, hb, hr, hml, hown, hts, hX, hbl, hlocks, hgv, hname⟩ := C0
  have hgw : ∀ w ∈ q_gw, w.before #[Value.ref b] s = true := fun w hw => hts w (List.mem_filter.mp hw).1
  obtain ⟨ad, h4, had⟩ := w_sts (A := fun q : Nat => s.heap.size ≤ q) hts hgv (fun a ha => Nat.not_le.mpr ha) b
  obtain ⟨dC, dI, hK⟩ := w_all hgw hts
  obtain ⟨cA, hA⟩ := w_arrs hts
  obtain ⟨G, hG⟩ : ∃ G : Gx, G = (l, s.heap.size, ad, (dC, dI), cA, xs, L) := ⟨_, rfl⟩
  have hT : q_Tb (l, s.heap.size, ad, (dC, dI), cA, xs, L) s := ⟨⟨hK, hA⟩, w_nws hts, ⟨va_AO.of (hts (.arrayOver (.object "NightDitch$Farm")) (by decide +kernel)), va_AO.of (hts (.arrayOver (.object "NightDitch$Meet")) (by decide +kernel)), hts (.arrayOver (.array .long)) (by decide +kernel)⟩, had, (by show va_X (ad 4) L xs s s.heap; rw [h4]; exact hX), (by show ad 4 < s.heap.size; rw [h4]; exact hbl), (by show ¬ (s.heap.size ≤ ad 4); rw [h4]; exact Nat.not_le.mpr hbl), Nat.le_refl _⟩
  have hF : q_Fx (l, s.heap.size, ad, (dC, dI), cA, xs, L) (0 + 62) mt_L_law 600000 7302250 p room_1 s m #[Value.ref b] meth c := ⟨hx, hb, hml, hr, hname, hlocks, hown, hgw, hT, by decide, by decide, by decide, by decide⟩
  have hW : q_Wd (l, s.heap.size, ad, (dC, dI), cA, xs, L) [] (fun _ _ => none) (fun _ _ => 0) (fun _ _ => 0) s.heap := ⟨rfl, by decide, fun i sh h => by simp at h⟩
  have hl := lv_entry ([.ref b] : List Value) (n := 4) (Nat.le_of_ble_eq_true rfl)
  have hm : ([.ref (4 + 1000)] : List Value).map (q_cv (l, s.heap.size, ad, (dC, dI), cA, xs, L)) = [.ref b] := by
    show [Value.ref (if 4 + 1000 < 1000 then s.heap.size + (4 + 1000) else ad (4 + 1000 - 1000))] = [.ref b]
    rw [if_neg (by decide), show 4 + 1000 - 1000 = 4 from rfl, h4]
  rw [lg_entry_eq]
  refine law_all (G := (l, s.heap.size, ad, (dC, dI), cA, xs, L)) (d := 0) hL (Nat.le_refl 600000) (Nat.le_refl 7302250) p e room_1 s m #[Value.ref b] below meth c s.heap [] _ _ hF hW va_S.rf ⟨hl.1, hl.2.1, fun q hq => hl.2.2 q ?_⟩ ?_
  · have h1 := q_ent_mem (as := [.ref (4 + 1000)]) (n := 4) hq
    rw [hm] at h1
    exact h1
  · intro v S' R' I' L' H' locs' pc' la' hv hW' hS' hd hn
    have hv : v = some (.int 1) := hv
    subst hv
    refine va_forget (fun q hq => hS'.2.2 q hq) ?_
    exact lw_ret hx hb hr hlocks hd
-- ===== YOUR PART ENDS =====
set_option maxHeartbeats 4000000 in
theorem lw_walk (l : Launch) (hflags : l.flags = flags0) (b : Addr) (xs : List Int32) : MetFree l x (headSpec (Jvm.Cond.code x code maxLocals ret :: tables_1) room_1) (lw_P b xs) (fun _ _ _ _ _ => True) lw_Q := by
  refine MetFree.of_bodyS (code := code) (maxLocals := maxLocals) (ret := ret) (by decide) ?_ ?_
  · intro args s m h hn
    obtain ⟨meth, c, h1, h2, h3, h4, h5, h6, -, -⟩ := Cond.code_spec hn (atoms_spec (ws := Jvm.Cond.code x code maxLocals ret :: tables_1) h _ List.mem_cons_self)
    exact ⟨meth, c, h1, h2, h3, h4, h5, h6⟩
  · intro p e s m args below meth c s₁ B hml0 hP _
    obtain ⟨rfl, hx, hbd, hgv⟩ := hP
    obtain ⟨scr, harrAt, hlist, hof, hsmall⟩ := hx
    obtain ⟨hcb, hkn, -, -⟩ := State.arrayAt?_spec harrAt
    have hown : s.vm.findClass R_law = some m.cls := findClass_of_methodNamed B.named
    have hts0 : ∀ c ∈ (Jvm.Cond.code x code maxLocals ret :: tables_1), c.before #[Value.ref b] s = true := atoms_spec (ws := Jvm.Cond.code x code maxLocals ret :: tables_1) B.pre
    have hts : ∀ w ∈ lw_tbl, w.before #[Value.ref b] s = true := k2_hts_sels lw_privs (fun w hw => hts0 w (List.mem_cons_of_mem _ hw)) lw_privs_ok
    have hml : c.maxLocals = 4 := B.maxLocals_eq (hts0 _ List.mem_cons_self)
    have X₀ : Stand p l e room_1 s m #[Value.ref b] below meth c s₁ [] 0 0 := Stand.of_body B
    have hh0 : s₁.heap = s.heap := by rw [B.state]; rfl
    have hsz : scr.slots.size = xs.length := by rw [← Array.length_toList, hlist, List.length_map]
    have hval : ∀ j : Nat, j < xs.length → scr.slots[j]? = some (.int (xs.getD j 0)) := fun j hj => by
      rw [← Array.getElem?_toList, hlist]
      simp [hj]
    have hbl : b < s.heap.size := (Array.getElem?_eq_some_iff.mp hcb).1
    have hX : va_X b xs.length (fun j => xs.getD j 0) s s.heap := ⟨scr, hcb, hof, hkn, hsz, hval⟩
    have K : W p l e room_1 s m #[Value.ref b] below meth c s₁.heap [] 0 0 (lw_Z below #[Value.ref b] s) (entryFrame m ([Value.ref b] : List Value).toArray 4) := by
      rw [hh0]
      exact whole_start l hflags hbd ⟨B.exec, B.bytes, B.returns, hml, hown, hts, hX, hbl, B.notSynchronized, hgv, (name_of_methodNamed B.named B.method).1⟩
    obtain ⟨t, a1, o, b1, b2, b3⟩ := K s₁ rfl X₀
    exact ⟨t, o, a1, b1, b2, b3⟩
theorem lw_pre_spec {args : Array Value} {s : State} (h : (Jvm.Cond.and given_1 narrow_1).before args s = true) (hr : rest_1_c.before args s = true) : ∃ (b : Addr) (xs : List Int32), lw_P b xs args s := by
  have hs := flat_of_before _ h
  have hq := flat_of_before _ hr
  have hc : (Cond.count 1).before args s = true := hs _ (by decide +kernel)
  have harr : (Cond.arrayOf (.arg 0) .int).before args s = true := hs _ (by decide +kernel)
  have hle : (Cond.le (.length (.arg 0)) (.int 384)).before args s = true := hs _ (by decide +kernel)
  have hlen : (Cond.isInt (.length (.arg 0))).before args s = true := hq _ (by decide +kernel)
  have hall : (Cond.all (.arg 0) (.isInt (.elem (.arg 0) (.index 0)))).before args s = true := hq _ (by decide +kernel)
  obtain ⟨b, xs, hb, hx⟩ := State.ints_of_pre rfl harr hlen hall
  have hsm : xs.length < 2 ^ 31 := hx.choose_spec.2.2.2
  have hev : (Term.length (.arg 0)).eval args s none [] s = some (.int xs.length.toInt32) := hx.length_eval hb
  have hv := Cond.le_ints hev (show (Term.int 384).eval args s none [] s = some (.int 384) from rfl)
  have hd : xs.length.toInt32 ≤ 384 := by
    simpa [Cond.before, Cond.holds, hv] using hle
  have hN : xs.length ≤ 384 := (Int32.ofNat_le_ofNat hsm (by decide)).mp (show Int32.ofNat xs.length ≤ Int32.ofNat 384 from hd)
  exact ⟨b, xs, Cond.one_arg hc (show args[0]? = some (.ref b) from hb), hx, hN, h⟩
theorem lw_comes (l : Launch) (hflags : l.flags = flags0) : Comes l x (Jvm.Cond.code x code maxLocals ret :: tables_1) room_1 (fun tb e args s => Calls_1 tb e args s ∧ rest_1 tb e args s ∧ Pre_1 tb e args s)
    (fun _ _ args s o t => lw_Q args s o t) := by
  intro p e ha hc hk s m args below hf hfit hheap happ hpre
  obtain ⟨b, xs, hP⟩ := lw_pre_spec hpre.2.2 hpre.2.1
  obtain ⟨k, o, h1, h2, h3, hQ⟩ := lw_walk l hflags b xs p e ha hc hk s m args below hf ((Spec.applies_iff_loose hf).mp happ).1 hP trivial
  exact ⟨k, o, h1, h2, h3, hQ⟩
theorem lw_frame {s t : State} {o : Outcome} {args : Array Value} (h : Framed s o t [] 600000 7302250) :
    Framed s o t (fieldLocs frame_1_writes args s ++ arrayLocs frame_1_arrays args s ++ staticLocs frame_1_statics s) 600000 7302250 := h
theorem lw_limb (L : Cond) (hL : ∀ (args : Array Value) (s t : State), L.after args s (.returned (some (.int 1))) t = true) :
    ArmFor flags0 classFile x code maxLocals ret World_1 tables_1 room_1 Calls_1 rest_1 Pre_1
      (fun tb e a s o t => postC L tb e a s o t ∧ Framed s o t (fieldLocs frame_1_writes a s ++ arrayLocs frame_1_arrays a s ++ staticLocs frame_1_statics s) 600000 7302250) := by
  intro l hflags _ _ p e ha hc hk s m args below hf hfit hheap happ hpre
  obtain ⟨k, o, h1, h2, h3, rfl, hF⟩ := lw_comes l hflags p e ha hc hk s m args below hf hfit hheap happ hpre
  exact ⟨k, _, h1, h2, h3, hL args s _, lw_frame hF⟩
theorem i_vc : Claimed_1_1 ∧ Claimed_1_2 := ⟨lw_limb limb_1_1 (fun args s t => by simp [limb_1_1, Cond.after, Cond.holds, Cond.value]), lw_limb limb_1_2 (fun args s t => Cond.after_iff.mpr (by
  first | (rw [show limb_1_2 = Cond.eq .result (.int 1) from rfl, Cond.eq_ints (x := 1) (y := 1) rfl rfl]; simp; done) | (simp [limb_1_2, Cond.value, Term.eval]; done)))⟩
