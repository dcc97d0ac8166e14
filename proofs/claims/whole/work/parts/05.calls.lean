theorem q_good {w : Cond} (h : w ∈ q_gw) : (w.onTables && w.keeps) = true ∨ ∃ ty, w = .arrayClass ty := good_of_word (List.mem_filter.mp h).2
theorem q_goodIn {M : Mt} (h : Cond.code M.1 M.2.1 M.2.2.1 M.2.2.2 ∈ q_gw) : GoodIn q_gw (q_wm M) := fun w hw => by
  rcases List.mem_cons.mp hw with rfl | hw
  · exact ⟨h, q_good h⟩
  · exact ⟨hw, q_good hw⟩
def q_psh (v : Option Value) (r : List Value) : List Value := match v with
  | none => r
  | some x => x :: r
theorem q_psh_map (G : Gx) (v : Option Value) (r : List Value) : (v.map (q_cv G)).toList ++ r.map (q_cv G) = (q_psh v r).map (q_cv G) := by cases v <;> rfl
theorem q_blind {G : Gx} {S : Shp} {R : Rf} {I : Rn} {L : Rl} {av : List Value} : FrameBlind (va_Pc av (fun U => q_Wd G S R I L U.heap ∧ q_Tb G U)) := fun a U g mk q => by
  obtain ⟨h1, h2, h3⟩ := q
  exact ⟨h1, h2, h3.vm rfl rfl⟩
section QC
variable {G : Gx} {d : Nat} {M M' : Mt} {pc nx : Nat} {ls : List (Option Value)} {st rest : List Value} {S : Shp} {R : Rf} {I : Rn} {L : Rl} {ce sl mc ms mc' ms' : Nat} {K K' : Kt}
variable {p : Program} {e : Env} {Rm : Room} {s : State} {m : MethodId} {args : Array Value} {below : List Frame} {meth : Method} {c : Code} {H : Heap} {locs : List Loc} {Q : State → Prop} {la : Array Slot}
theorem q_pre (hF : q_Fx G d M mc ms p Rm s m args meth c) (hW : q_Wd G S R I L H) (hS : va_S (q_A G) s.heap H locs) (as : List Value) : ∀ U : State, U.heap = H → s.WarmedH U.vm → va_Pc (as.map (q_cv G)) (fun U => q_Wd G S R I L U.heap ∧ q_Tb G U) (as.map (q_cv G)).toArray U :=
  fun U hU hWm => ⟨rfl, by rw [hU]; exact hW, hF.2.2.2.2.2.2.2.2.1.moved hS hU hWm⟩
/-- behind a call -/
theorem q_callW {a : Array Value} {st0 : List Value} (hr : va_Run p G.1 e Rm s m args below meth c H locs ce sl mc' ms' (F0 m pc la st0) (rest.map (q_cv G)) (q_Q G K' a) (q_A G)) (hS : va_S (q_A G) s.heap H locs)
    (kk : ∀ (v : Option Value) (S1 : Shp) (R1 : Rf) (I1 : Rn) (L1 : Rl) (H1 : Heap) (locs1 : List Loc), K' v S1 R1 I1 L1 → q_Wd G S1 R1 I1 L1 H1 → va_S (q_A G) s.heap H1 locs1 → W p G.1 e Rm s m args below meth c H1 locs1 (ce + mc') (sl + ms') Q (F0 m (pc + 3) la ((q_psh v rest).map (q_cv G)))) :
    W p G.1 e Rm s m args below meth c H locs ce sl Q (F0 m pc la st0) := by
  intro T hT X
  obtain ⟨v, st₀, t, T', Lc, h0, X', hL, e1, e2, ⟨⟨v', S1, R1, I1, L1, hv, hk, hw⟩, hz, hkp⟩, st⟩ := hr T hT X
  cases hv
  rw [h0] at hz hkp
  obtain ⟨t2, a1, b1⟩ := kk v' S1 R1 I1 L1 T'.heap (locs ++ Lc) hk (by rw [e1]; exact hw)
    ⟨Nat.le_trans hS.1 (by rw [e1]; exact hz), fun q h1 h2 => by rw [e1, hkp q (Nat.lt_of_lt_of_le h1 hS.1) h2]; exact hS.2.1 q h1 h2, fun q hq => by
      rcases List.mem_append.mp hq with h | h
      · exact hS.2.2 q h
      · exact hL q h⟩ T' rfl X'
  rw [← q_psh_map] at a1
  exact ⟨t2, st t2 a1, b1⟩
/-- what a method's tables say: its code, that its class stands, its name, how many it takes -/
def q_MB (M : Mt) (n : Nat) : Prop := Cond.code M.1 M.2.1 M.2.2.1 M.2.2.2 ∈ q_gw ∧ Cond.initialized M.1.cls ∈ q_gw ∧ plainName M.1.cls = true ∧ (M.1.cls ≠ "java/lang/invoke/MethodHandle" ∧ M.1.cls ≠ "java/lang/invoke/VarHandle" ∧ (parseMethodDescriptor M.1.desc).map (fun d => d.parameters.length) = some n) ∧ M.2.2.1 ≤ 40
def q_MS (M : Mt) (n : Nat) : Prop := q_MB M n ∧ Cond.static M.1 ∈ q_gw
def q_MV (M : Mt) (k n : Nat) : Prop := q_MB M n ∧ Cond.instanceMethod M.1 ∈ q_gw ∧ Cond.selects M.1.cls M.1 M.1 ∈ q_gw ∧ (q_cls.getD k ("", TX0, 0)).1 = M.1.cls ∧ k < 9
def q_MI (M : Mt) (n : Nat) : Prop := q_MB M n ∧ Cond.instanceMethod M.1 ∈ q_gw ∧ M.1.name = "<init>" ∧ M.2.2.2 = none
/-- what is at a call: the instruction, where it goes on, whom it names -/
def q_Ln (M : Mt) (ix : Nat) (M' : Mt) : Prop := Cond.methodLink M.1.cls ix M'.1 ∈ q_gw ∨ ∃ host, Cond.methodLinkNest M.1.cls ix M'.1 host ∈ q_nw
def q_CS (M : Mt) (pc : Nat) (M' : Mt) (nx : Nat) : Prop := ∃ ix, decode M.2.1 pc = .ok (.invokestatic ix, 3) ∧ pc + 3 = nx ∧ q_Ln M ix M'
def q_CV (M : Mt) (pc : Nat) (M' : Mt) (nx : Nat) : Prop := ∃ ix, decode M.2.1 pc = .ok (.invokevirtual ix, 3) ∧ pc + 3 = nx ∧ q_Ln M ix M'
def q_CI (M : Mt) (pc : Nat) (M' : Mt) (nx : Nat) : Prop := ∃ ix, decode M.2.1 pc = .ok (.invokespecial ix, 3) ∧ pc + 3 = nx ∧ q_Ln M ix M'
theorem q_room (hF : q_Fx G (d + 1) M mc ms p Rm s m args meth c) (hM : M'.2.2.1 ≤ 40) : (q_rm d mc' ms').frames + 1 ≤ Rm.frames ∧ 8 + (M'.2.2.1 + 11) + (q_rm d mc' ms').locals ≤ Rm.locals := by
  obtain ⟨-, -, -, -, -, -, -, -, -, f1, f2, -⟩ := hF
  constructor
  · exact f1
  · show 8 + (M'.2.2.1 + 11) + 64 * (d + 1) ≤ Rm.locals
    omega
theorem q_cats {G : Gx} {r : List Value} : ((r.map (q_cv G)).map fun v => v.category).sum = (r.map fun v => v.category).sum := by
  induction r with
  | nil => rfl
  | cons a r ih =>
    rw [List.map_cons, List.map_cons, List.sum_cons, List.map_cons, List.sum_cons, ih, q_cv_cat]
theorem q_rest {G : Gx} {m : MethodId} {pc : Nat} {la : Array Slot} {st0 r : List Value} (h : (r.map fun v => v.category).sum ≤ 8) : 2 * (F0 m pc la st0).monitorRoom + ((r.map (q_cv G)).map fun v => v.category).sum ≤ 8 := by
  rw [q_cats]
  exact lv_room h
theorem r_cs {as : List Value} (hs : q_CS M pc M' nx) (hm : q_MS M' as.length) (hl : (q_ents as).length ≤ M'.2.2.1) (hr : (rest.map fun v => v.category).sum ≤ 8) (hc : ce + mc' ≤ mc) (hsl : sl + ms' ≤ ms)
    (h : WW G d M' 0 (q_ent as M'.2.2.1) [] S R I L 0 0 mc' ms' (fun v S R I L => WW G (d + 1) M nx ls (q_psh v rest) S R I L (ce + mc') (sl + ms') mc ms K)) :
    WW G (d + 1) M pc ls (as.reverse ++ rest) S R I L ce sl mc ms K := by
  intro p e Rm s m args below meth c H locs Q la hF hW hS hla hR
  obtain ⟨ix, hd, rfl, hlk⟩ := hs
  obtain ⟨⟨m1, m2, m3, m4, m5⟩, m6⟩ := hm
  obtain ⟨f1, f2, f3, f4, f5, f6, f7, f8, f9, f10, f11, f12, f13⟩ := id hF
  have hM := q_met m3 hl h
  have hfit : ce + mc' ≤ Rm.cells ∧ sl + ms' ≤ Rm.slots := ⟨Nat.le_trans hc f12, Nat.le_trans hsl f13⟩
  have hrun : va_Run p G.1 e Rm s m args below meth c H locs ce sl mc' ms' (F0 m pc la ((as.reverse ++ rest).map (q_cv G))) (rest.map (q_cv G)) (q_Q G (fun v S R I L => WW G (d + 1) M (pc + 3) ls (q_psh v rest) S R I L (ce + mc') (sl + ms') mc ms K) (as.map (q_cv G)).toArray) (q_A G) := by
    rcases hlk with hlk | ⟨host, hlk⟩
    · exact va_runS (As := as.map (q_cv G)) (n := as.length) (rest := rest.map (q_cv G)) ⟨f1, f2, f3, f7, f8⟩ hM ⟨callB_of as.length f8 (q_goodIn m1) rfl rfl rfl (f8 _ m2) (f8 _ hlk) m4 (q_room hF m5), f8 _ m6⟩ ⟨q_blind, q_pre hF hW hS as⟩ rfl (by simp) hla.1 (by simp) (q_rest hr) hd hfit
    · exact va_runSN (As := as.map (q_cv G)) (n := as.length) (rest := rest.map (q_cv G)) ⟨f1, f2, f3, f7, f8⟩ hM ⟨va_cnB as.length f8 (q_goodIn m1) rfl rfl rfl (f9.2.1 _ hlk) (f8 _ m2) m4 (q_room hF m5), f8 _ m6, trivial⟩ ⟨q_blind, q_pre hF hW hS as⟩ rfl (by simp) hla.1 (by simp) (q_rest hr) hd hfit
  exact q_callW hrun hS (fun v S1 R1 I1 L1 H1 locs1 hk hw hs => hk p e Rm s m args below meth c H1 locs1 Q la hF hw hs hla hR)
/-- the receiver's cell -/
theorem q_recv (hF : q_Fx G d M mc ms p Rm s m args meth c) (hW : q_Wd G S R I L H) {k n i : Nat} (hk : k < 9) (hs : S[i]? = some (k, n)) : ∃ cell : Cell, H[q_ad G i]? = some cell ∧ cell.vm.isStatics = false ∧ s.vm.findClass (q_cls.getD k ("", TX0, 0)).1 = some cell.cls := by
  have h1 := hW.2.2 i _ hs
  rw [q_at_obj (by omega)] at h1
  obtain ⟨cell, c1, c2, c3, -⟩ := h1
  have hKc := hF.2.2.2.2.2.2.2.2.1.1.1 k (q_cls.getD k ("", TX0, 0)) (by
    match k, hk with
    | 0, _ => rfl
    | 1, _ => rfl
    | 2, _ => rfl
    | 3, _ => rfl
    | 4, _ => rfl
    | 5, _ => rfl
    | 6, _ => rfl
    | 7, _ => rfl
    | 8, _ => rfl)
  exact ⟨cell, by rw [q_ad_lt hW hs]; exact c1, by rw [c3]; rfl, by rw [c2]; exact hKc.2.1⟩
theorem r_cv {as : List Value} {i k n : Nat} (hs : q_CV M pc M' nx) (hm : q_MV M' k as.length) (hi : S[i]? = some (k, n)) (hl : (q_ents (.ref i :: as)).length ≤ M'.2.2.1) (hr : (rest.map fun v => v.category).sum ≤ 8) (hc : ce + mc' ≤ mc) (hsl : sl + ms' ≤ ms)
    (h : WW G d M' 0 (q_ent (.ref i :: as) M'.2.2.1) [] S R I L 0 0 mc' ms' (fun v S R I L => WW G (d + 1) M nx ls (q_psh v rest) S R I L (ce + mc') (sl + ms') mc ms K)) :
    WW G (d + 1) M pc ls (as.reverse ++ .ref i :: rest) S R I L ce sl mc ms K := by
  intro p e Rm s m args below meth c H locs Q la hF hW hS hla hR
  obtain ⟨ix, hd, rfl, hlk⟩ := hs
  obtain ⟨⟨m1, m2, m3, m4, m5⟩, m6, m7, m8, m9⟩ := hm
  obtain ⟨f1, f2, f3, f4, f5, f6, f7, f8, f9, f10, f11, f12, f13⟩ := id hF
  have hM := q_met m3 hl h
  have hfit : ce + mc' ≤ Rm.cells ∧ sl + ms' ≤ Rm.slots := ⟨Nat.le_trans hc f12, Nat.le_trans hsl f13⟩
  have hrc := q_recv hF hW m9 hi
  rw [m8] at hrc
  have hrun : va_Run p G.1 e Rm s m args below meth c H locs ce sl mc' ms' (F0 m pc la ((as.reverse ++ .ref i :: rest).map (q_cv G))) (rest.map (q_cv G)) (q_Q G (fun v S R I L => WW G (d + 1) M (pc + 3) ls (q_psh v rest) S R I L (ce + mc') (sl + ms') mc ms K) ((Value.ref i :: as).map (q_cv G)).toArray) (q_A G) := by
    rcases hlk with hlk | ⟨host, hlk⟩
    · exact va_runV (C := M'.1.cls) (b := q_ad G i) (As := as.map (q_cv G)) (n := as.length) (rest := rest.map (q_cv G)) ⟨f1, f2, f3, f7, f8⟩ hM ⟨callB_of as.length f8 (q_goodIn m1) rfl rfl rfl (f8 _ m2) (f8 _ hlk) m4 (q_room hF m5), f8 _ m6, f8 _ m7⟩ ⟨q_blind, hrc, q_pre hF hW hS (.ref i :: as)⟩ rfl (by simp) hla.1 (by simp [q_cv]) (q_rest hr) hd hfit
    · exact va_runVN (C := M'.1.cls) (b := q_ad G i) (As := as.map (q_cv G)) (n := as.length) (rest := rest.map (q_cv G)) ⟨f1, f2, f3, f7, f8⟩ hM ⟨va_cnB as.length f8 (q_goodIn m1) rfl rfl rfl (f9.2.1 _ hlk) (f8 _ m2) m4 (q_room hF m5), f8 _ m6, f8 _ m7⟩ ⟨q_blind, hrc, q_pre hF hW hS (.ref i :: as)⟩ rfl (by simp) hla.1 (by simp [q_cv]) (q_rest hr) hd hfit
  exact q_callW hrun hS (fun v S1 R1 I1 L1 H1 locs1 hk hw hs => hk p e Rm s m args below meth c H1 locs1 Q la hF hw hs hla hR)
theorem r_ci {as : List Value} {i : Nat} (hs : q_CI M pc M' nx) (hm : q_MI M' as.length) (hl : (q_ents (.ref i :: as)).length ≤ M'.2.2.1) (hr : (rest.map fun v => v.category).sum ≤ 8) (hc : ce + mc' ≤ mc) (hsl : sl + ms' ≤ ms)
    (h : WW G d M' 0 (q_ent (.ref i :: as) M'.2.2.1) [] S R I L 0 0 mc' ms' (fun v S R I L => WW G (d + 1) M nx ls (q_psh v rest) S R I L (ce + mc') (sl + ms') mc ms K)) :
    WW G (d + 1) M pc ls (as.reverse ++ .ref i :: rest) S R I L ce sl mc ms K := by
  intro p e Rm s m args below meth c H locs Q la hF hW hS hla hR
  obtain ⟨ix, hd, rfl, hlk⟩ := hs
  obtain ⟨⟨m1, m2, m3, m4, m5⟩, m6, m7, m8⟩ := hm
  obtain ⟨f1, f2, f3, f4, f5, f6, f7, f8, f9, f10, f11, f12, f13⟩ := id hF
  have hM := q_met m3 hl h
  rw [m8] at m1
  have hG : GoodIn q_gw (q_wm M') := q_goodIn (by rw [m8]; exact m1)
  have hw : q_wm M' = Cond.code M'.1 M'.2.1 M'.2.2.1 none :: q_gw := by unfold q_wm; rw [m8]
  have hfit : ce + mc' ≤ Rm.cells ∧ sl + ms' ≤ Rm.slots := ⟨Nat.le_trans hc f12, Nat.le_trans hsl f13⟩
  have hrun : va_Run p G.1 e Rm s m args below meth c H locs ce sl mc' ms' (F0 m pc la ((as.reverse ++ .ref i :: rest).map (q_cv G))) (rest.map (q_cv G)) (q_Q G (fun v S R I L => WW G (d + 1) M (pc + 3) ls (q_psh v rest) S R I L (ce + mc') (sl + ms') mc ms K) ((Value.ref i :: as).map (q_cv G)).toArray) (q_A G) := by
    rcases hlk with hlk | ⟨host, hlk⟩
    · exact va_runI (b := q_ad G i) (As := as.map (q_cv G)) (n := as.length) (rest := rest.map (q_cv G)) ⟨f1, f2, f3, f7, f8⟩ hM ⟨callB_of as.length f8 hG hw rfl rfl (f8 _ m2) (f8 _ hlk) m4 (q_room hF m5), m7, f8 _ m6⟩ ⟨q_blind, q_pre hF hW hS (.ref i :: as)⟩ rfl (by simp) hla.1 (by simp [q_cv]) (q_rest hr) hd hfit
    · exact va_runIN (b := q_ad G i) (As := as.map (q_cv G)) (n := as.length) (rest := rest.map (q_cv G)) ⟨f1, f2, f3, f7, f8⟩ hM ⟨va_cnB as.length f8 hG hw rfl rfl (f9.2.1 _ hlk) (f8 _ m2) m4 (q_room hF m5), m7, f8 _ m6⟩ ⟨q_blind, q_pre hF hW hS (.ref i :: as)⟩ rfl (by simp) hla.1 (by simp [q_cv]) (q_rest hr) hd hfit
  exact q_callW hrun hS (fun v S1 R1 I1 L1 H1 locs1 hk hw hs => hk p e Rm s m args below meth c H1 locs1 Q la hF hw hs hla hR)
end QC
