/-! RULES of the heap -/
def q_Kf (k : Nat) (C : String) (T : u_T) (N : Nat) (ty : Nat → FieldType) : Prop := q_cls[k]? = some (C, T, N) ∧ (∀ w ∈ u_ws C T N, w ∈ q_gw) ∧ (∀ j, j < N → parseFieldDescriptor (T j).2.2.1 = some (ty j)) ∧ (∀ a, a < N → ∀ b, b < N → a ≠ b → (T a).2.1 ≠ (T b).2.1) ∧ k < 9
/-- a field by its pool number in a method's own class: field j of class k, of n fields -/
def q_Fs (M : Mt) (ix k n j : Nat) (t0 : FieldType) (fin : Bool) : Prop := ∃ (C : String) (T : u_T) (ty : Nat → FieldType), q_Kf k C T n ty ∧ j < n ∧ Cond.fieldLink M.1.cls ix (T j).1 (T j).2.1 (T j).2.2.1 ∈ q_gw ∧ ty j = t0 ∧ (T j).2.2.2 = fin
def Fg (M : Mt) (pc k n j tc nx : Nat) : Prop := ∃ (ix : Nat) (t0 : FieldType) (fin : Bool), decode M.2.1 pc = .ok (.getfield ix, 3) ∧ pc + 3 = nx ∧ q_Fs M ix k n j t0 fin ∧ q_ft k j = tc
def Fp (M : Mt) (pc k n j : Nat) (t0 : FieldType) (tc nx : Nat) : Prop := ∃ (ix : Nat), decode M.2.1 pc = .ok (.putfield ix, 3) ∧ pc + 3 = nx ∧ q_Fs M ix k n j t0 false ∧ q_ft k j = tc
def Fpf (M : Mt) (pc k n j : Nat) (t0 : FieldType) (tc nx : Nat) : Prop := ∃ (ix : Nat), decode M.2.1 pc = .ok (.putfield ix, 3) ∧ pc + 3 = nx ∧ q_Fs M ix k n j t0 true ∧ q_ft k j = tc ∧ M.1.name = "<init>" ∧ ((q_cls.getD k ("", TX0, 0)).2.1 j).1 = M.1.cls
section RH
variable {G : Gx} {d : Nat} {M : Mt} {pc nx : Nat} {ls : List (Option Value)} {st : List Value} {S : Shp} {R : Rf} {I : Rn} {L : Rl} {ce sl mc ms : Nat} {K : Kt}
variable {p : Program} {e : Env} {Rm : Room} {s : State} {m : MethodId} {args : Array Value} {below : List Frame} {meth : Method} {c : Code} {H : Heap} {locs : List Loc} {Q : State → Prop} {la : Array Slot}
theorem q_getf {k n j tc i : Nat} (hd : Fg M pc k n j tc nx) (hi : S[i]? = some (k, n)) (hF : q_Fx G d M mc ms p Rm s m args meth c) (hW : q_Wd G S R I L H)
    (kk : W p G.1 e Rm s m args below meth c H locs ce sl Q (F0 m nx la (q_val G R I L tc i j :: st.map (q_cv G)))) : W p G.1 e Rm s m args below meth c H locs ce sl Q (F0 m pc la ((.ref i :: st).map (q_cv G))) := by
  obtain ⟨ix, t0, fin, hd, rfl, ⟨C, T, ty, ⟨k1, k2, k3, k4, k5⟩, hj, hlk, -, -⟩, rfl⟩ := hd
  obtain ⟨f1, f2, f3, f4, f5, f6, f7, f8, f9, -⟩ := id hF
  have h1 := hW.2.2 i _ hi
  rw [q_at_obj (by omega)] at h1
  obtain ⟨cell, c1, c2, c3, c4⟩ := h1
  obtain ⟨hS, hfc, kC, hkC, hkind⟩ := f9.1.1 k _ k1
  obtain ⟨cf, kf, fi, f, hfi, hsl⟩ := hS j hj
  have e0 : (Value.ref i :: st).map (q_cv G) = .ref (G.2.1 + i) :: st.map (q_cv G) := by rw [← q_ad_lt hW hi]; rfl
  rw [e0]
  exact W.getf f1 f2 f7 (f8 _ hlk) hfi (u_facts hfc hkC (u_lays f8 k2 hj) hfi).1 c1 (by rw [c3]; exact fun h => by cases h) (v := q_val G R I L (q_ft k j) i j) (by rw [hsl]; exact c4 j hj) rfl rfl hd kk
theorem r_gi {k n j i : Nat} (hd : Fg M pc k n j 0 nx) (hi : S[i]? = some (k, n)) (kk : WW G d M nx ls (.int (I i j) :: st) S R I L ce sl mc ms K) : WW G d M pc ls (.ref i :: st) S R I L ce sl mc ms K := by
  intro p e Rm s m args below meth c H locs Q la hF hW hS hl hR
  exact q_getf hd hi hF hW (kk p e Rm s m args below meth c H locs Q la hF hW hS hl hR)
theorem r_gl {k n j i : Nat} (hd : Fg M pc k n j 1 nx) (hi : S[i]? = some (k, n)) (kk : WW G d M nx ls (.long (L i j) :: st) S R I L ce sl mc ms K) : WW G d M pc ls (.ref i :: st) S R I L ce sl mc ms K := by
  intro p e Rm s m args below meth c H locs Q la hF hW hS hl hR
  exact q_getf hd hi hF hW (kk p e Rm s m args below meth c H locs Q la hF hW hS hl hR)
theorem r_gr {k n j i r : Nat} (hd : Fg M pc k n j 2 nx) (hi : S[i]? = some (k, n)) (hr : R i j = some r) (kk : WW G d M nx ls (.ref r :: st) S R I L ce sl mc ms K) : WW G d M pc ls (.ref i :: st) S R I L ce sl mc ms K := by
  intro p e Rm s m args below meth c H locs Q la hF hW hS hl hR
  refine q_getf hd hi hF hW ?_
  have := kk p e Rm s m args below meth c H locs Q la hF hW hS hl hR
  show W p G.1 e Rm s m args below meth c H locs ce sl Q (F0 m nx la (va_rf ((R i j).map (q_ad G)) :: st.map (q_cv G)))
  rw [hr]
  exact this
theorem q_apart {k : Nat} {C : String} {T : u_T} {N : Nat} {ty : Nat → FieldType} (hk : q_Kf k C T N ty) (hF : q_Fx G d M mc ms p Rm s m args meth c) : ∀ x y, x < N → y < N → x ≠ y → (G.2.2.2.1.2 k) x ≠ (G.2.2.2.1.2 k) y := by
  obtain ⟨k1, k2, k3, k4, k5⟩ := hk
  exact va_apart (own := M.1.cls) hF.2.2.2.2.2.2.2.1 k2 ty k3 k4 hF.2.2.2.2.2.2.2.2.1.1 k1
/-- the world behind a store into field j of cell i -/
theorem q_stored {R' : Rf} {I' : Rn} {L' : Rl} {k n j i : Nat} {H1 : Heap} {cell : Cell} {v : Value} (hk : k < 20) (hW : q_Wd G S R I L H) (hi : S[i]? = some (k, n)) (c2 : cell.cls = G.2.2.2.1.1 k) (c3 : cell.vm = .none) (c4 : ∀ x, x < n → cell.slots[G.2.2.2.1.2 k x]? = some (q_val G R I L (q_ft k x) i x)) (hap : ∀ x y, x < n → y < n → x ≠ y → (G.2.2.2.1.2 k) x ≠ (G.2.2.2.1.2 k) y) (hj : j < n)
    (e1 : H1[G.2.1 + i]? = some (cell.setSlot (G.2.2.2.1.2 k j) v)) (e2 : H1.size = H.size) (e3 : ∀ q, q ≠ G.2.1 + i → H1[q]? = H[q]?) (hr : ∀ a, a ≠ i → R' a = R a ∧ I' a = I a ∧ L' a = L a) (hv : ∀ x, x < n → updV (fun x => q_val G R I L (q_ft k x) i x) j v x = q_val G R' I' L' (q_ft k x) i x) : q_Wd G S R' I' L' H1 := by
  refine hW.upd hi e2 e3 hr ?_
  rw [q_at_obj hk]
  exact t_OB.to (V := updV (fun x => q_val G R I L (q_ft k x) i x) j v) ⟨_, e1, c2, c3, t_set c4 hap hj v⟩ hv
theorem q_putf {R' : Rf} {I' : Rn} {L' : Rl} {k n j tc i : Nat} {t0 : FieldType} {v : Value} (hd : Fp M pc k n j t0 tc nx) (hi : S[i]? = some (k, n)) (hn : narrow t0 (q_cv G v) = q_cv G v) (hft : fits t0 (q_cv G v) = true) (hr : ∀ a, a ≠ i → R' a = R a ∧ I' a = I a ∧ L' a = L a) (hv : ∀ x, updV (fun x => q_val G R I L (q_ft k x) i x) j (q_cv G v) x = q_val G R' I' L' (q_ft k x) i x) (hF : q_Fx G d M mc ms p Rm s m args meth c) (hW : q_Wd G S R I L H) (hS : va_S (q_A G) s.heap H locs)
    (kk : ∀ (H1 : Heap) (locs1 : List Loc), q_Wd G S R' I' L' H1 → va_S (q_A G) s.heap H1 locs1 → W p G.1 e Rm s m args below meth c H1 locs1 ce sl Q (F0 m nx la (st.map (q_cv G)))) : W p G.1 e Rm s m args below meth c H locs ce sl Q (F0 m pc la ((v :: .ref i :: st).map (q_cv G))) := by
  obtain ⟨ix, hd, rfl, ⟨C, T, ty, hKf, hj, hlk, rfl, hfin⟩, rfl⟩ := hd
  have hap := q_apart hKf hF
  obtain ⟨k1, k2, k3, k4, k5⟩ := hKf
  obtain ⟨f1, f2, f3, f4, f5, f6, f7, f8, f9, -⟩ := id hF
  have h1 := hW.2.2 i _ hi
  rw [q_at_obj (by omega)] at h1
  obtain ⟨cell, c1, c2, c3, c4⟩ := h1
  obtain ⟨hSl, hfc, kC, hkC, hkind⟩ := f9.1.1 k _ k1
  obtain ⟨cf, kf, fi, f, hfi, hsl⟩ := hSl j hj
  have hlay := f8 _ (k2 _ (u_in_lay hj))
  unfold u_lay at hlay
  rw [if_neg (by rw [hfin]; decide)] at hlay
  have hst := (u_facts hfc hkC (u_lays f8 k2 hj) hfi).1
  have h6 := u_store hfc hkC hkind hlay hfi (k3 j hj) hn hft
  have e0 : (v :: Value.ref i :: st).map (q_cv G) = q_cv G v :: .ref (G.2.1 + i) :: st.map (q_cv G) := by rw [← q_ad_lt hW hi]; rfl
  rw [e0]
  refine W.putK f1 f2 (f := f) ⟨f7, f8 _ hlk, ⟨_, _, _, hfi⟩, hst⟩ (by rw [c2]; exact h6) c1 c3 (by rw [hsl]; exact k2_hasslot (c4 j hj)) rfl rfl hd fun H' e1 e2 e3 => ?_
  rw [hsl] at e1 ⊢
  exact kk H' _ (q_stored (by omega) hW hi c2 c3 c4 hap hj e1 e2 e3 hr (fun x _ => hv x)) (hS.put e2 e3 (show q_A G (G.2.1 + i) from Nat.le_add_right _ _))
theorem q_putF {R' : Rf} {I' : Rn} {L' : Rl} {k n j tc i : Nat} {t0 : FieldType} {v : Value} (hd : Fpf M pc k n j t0 tc nx) (hi : S[i]? = some (k, n)) (hn : narrow t0 (q_cv G v) = q_cv G v) (hft : fits t0 (q_cv G v) = true) (hr : ∀ a, a ≠ i → R' a = R a ∧ I' a = I a ∧ L' a = L a) (hv : ∀ x, updV (fun x => q_val G R I L (q_ft k x) i x) j (q_cv G v) x = q_val G R' I' L' (q_ft k x) i x) (hF : q_Fx G d M mc ms p Rm s m args meth c) (hW : q_Wd G S R I L H) (hS : va_S (q_A G) s.heap H locs)
    (kk : ∀ (H1 : Heap) (locs1 : List Loc), q_Wd G S R' I' L' H1 → va_S (q_A G) s.heap H1 locs1 → W p G.1 e Rm s m args below meth c H1 locs1 ce sl Q (F0 m nx la (st.map (q_cv G)))) : W p G.1 e Rm s m args below meth c H locs ce sl Q (F0 m pc la ((v :: .ref i :: st).map (q_cv G))) := by
  obtain ⟨ix, hd, rfl, ⟨C, T, ty, hKf, hj, hlk, rfl, hfin⟩, rfl, hinit, hdecl⟩ := hd
  have hap := q_apart hKf hF
  obtain ⟨k1, k2, k3, k4, k5⟩ := hKf
  have hdecl : (T j).1 = M.1.cls := by
    rw [List.getD_eq_getElem?_getD, k1] at hdecl
    exact hdecl
  obtain ⟨f1, f2, f3, f4, f5, f6, f7, f8, f9, -⟩ := id hF
  have h1 := hW.2.2 i _ hi
  rw [q_at_obj (by omega)] at h1
  obtain ⟨cell, c1, c2, c3, c4⟩ := h1
  obtain ⟨hSl, hfc, kC, hkC, hkind⟩ := f9.1.1 k _ k1
  obtain ⟨cf, kf, fi, f, hfi, hsl⟩ := hSl j hj
  have hlay := f8 _ (k2 _ (u_in_lay hj))
  unfold u_lay at hlay
  rw [if_pos hfin] at hlay
  have hst := (u_facts hfc hkC (u_lays f8 k2 hj) hfi).1
  have hcf : m.cls = cf := by
    obtain ⟨_, _, c', _, _, _, -, -, hf', -, -, -, hown2, -⟩ := Cond.laysFinal_spec hlay
    have e1 : c' = cf := by have := hfi.symm.trans hf'; simp at this; exact this.1.symm
    rw [hdecl] at hown2
    rw [← e1]; exact Option.some.inj (f7.symm.trans hown2)
  have h6 := u_fits hfc hkC hkind (Or.inr hlay) hfi (k3 j hj) hn hft
  have e0 : (v :: Value.ref i :: st).map (q_cv G) = q_cv G v :: .ref (G.2.1 + i) :: st.map (q_cv G) := by rw [← q_ad_lt hW hi]; rfl
  rw [e0]
  refine W.putFinK f1 f2 f7 (f8 _ hlk) hfi hst hcf (f5.trans hinit) (by rw [c2]; exact h6) c1 c3 (by rw [hsl]; exact k2_hasslot (c4 j hj)) rfl rfl hd fun H' e1 e2 e3 => ?_
  rw [hsl] at e1 ⊢
  exact kk H' _ (q_stored (by omega) hW hi c2 c3 c4 hap hj e1 e2 e3 hr (fun x _ => hv x)) (hS.put e2 e3 (show q_A G (G.2.1 + i) from Nat.le_add_right _ _))
theorem q_updI {k j i : Nat} {x : Int32} (ht : q_ft k j = 0) (y : Nat) : updV (fun x => q_val G R I L (q_ft k x) i x) j (.int x) y = q_val G R (u2 I i j x) L (q_ft k y) i y := by
  by_cases h : y = j
  · subst h
    rw [ht]
    simp [updV, q_val, u2]
  · simp [updV, q_val, u2, h]
theorem q_updL {k j i : Nat} {x : Int64} (ht : q_ft k j = 1) (y : Nat) : updV (fun x => q_val G R I L (q_ft k x) i x) j (.long x) y = q_val G R I (u2 L i j x) (q_ft k y) i y := by
  by_cases h : y = j
  · subst h
    rw [ht]
    simp [updV, q_val, u2]
  · simp [updV, q_val, u2, h]
theorem q_updR {k j i x : Nat} (ht : q_ft k j = 2) (y : Nat) : updV (fun x => q_val G R I L (q_ft k x) i x) j (.ref (q_ad G x)) y = q_val G (u2 R i j (some x)) I L (q_ft k y) i y := by
  by_cases h : y = j
  · subst h
    rw [ht]
    simp [updV, q_val, u2, va_rf]
  · simp [updV, q_val, u2, h]
theorem r_pi {k n j i : Nat} {x : Int32} (hd : Fp M pc k n j .int 0 nx) (hi : S[i]? = some (k, n)) (kk : WW G d M nx ls st S R (u2 I i j x) L ce sl mc ms K) : WW G d M pc ls (.int x :: .ref i :: st) S R I L ce sl mc ms K := by
  intro p e Rm s m args below meth c H locs Q la hF hW hS hl hR
  have ht : q_ft k j = 0 := by obtain ⟨_, -, -, -, h⟩ := hd; exact h
  exact q_putf (v := .int x) hd hi rfl rfl (fun a ha => ⟨rfl, u2_row ha, rfl⟩) (q_updI ht) hF hW hS (fun H1 locs1 hW1 hS1 => kk p e Rm s m args below meth c H1 locs1 Q la hF hW1 hS1 hl hR)
theorem r_pz {k n j i : Nat} {x : Int32} (hd : Fp M pc k n j .boolean 0 nx) (hi : S[i]? = some (k, n)) (hx : x = 0 ∨ x = 1) (kk : WW G d M nx ls st S R (u2 I i j x) L ce sl mc ms K) : WW G d M pc ls (.int x :: .ref i :: st) S R I L ce sl mc ms K := by
  intro p e Rm s m args below meth c H locs Q la hF hW hS hl hR
  have ht : q_ft k j = 0 := by obtain ⟨_, -, -, -, h⟩ := hd; exact h
  exact q_putf (v := .int x) hd hi (by rcases hx with rfl | rfl <;> rfl) (by rcases hx with rfl | rfl <;> rfl) (fun a ha => ⟨rfl, u2_row ha, rfl⟩) (q_updI ht) hF hW hS (fun H1 locs1 hW1 hS1 => kk p e Rm s m args below meth c H1 locs1 Q la hF hW1 hS1 hl hR)
theorem r_pl {k n j i : Nat} {x : Int64} (hd : Fp M pc k n j .long 1 nx) (hi : S[i]? = some (k, n)) (kk : WW G d M nx ls st S R I (u2 L i j x) ce sl mc ms K) : WW G d M pc ls (.long x :: .ref i :: st) S R I L ce sl mc ms K := by
  intro p e Rm s m args below meth c H locs Q la hF hW hS hl hR
  have ht : q_ft k j = 1 := by obtain ⟨_, -, -, -, h⟩ := hd; exact h
  exact q_putf (v := .long x) hd hi rfl rfl (fun a ha => ⟨rfl, rfl, u2_row ha⟩) (q_updL ht) hF hW hS (fun H1 locs1 hW1 hS1 => kk p e Rm s m args below meth c H1 locs1 Q la hF hW1 hS1 hl hR)
theorem r_pr {k n j i x : Nat} {t0 : FieldType} (hd : Fpf M pc k n j t0 2 nx) (ht0 : t0.isReference = true) (hi : S[i]? = some (k, n)) (kk : WW G d M nx ls st S (u2 R i j (some x)) I L ce sl mc ms K) : WW G d M pc ls (.ref x :: .ref i :: st) S R I L ce sl mc ms K := by
  intro p e Rm s m args below meth c H locs Q la hF hW hS hl hR
  have ht : q_ft k j = 2 := by obtain ⟨_, -, -, -, h, -⟩ := hd; exact h
  have hnf : narrow t0 (.ref (q_ad G x)) = .ref (q_ad G x) ∧ fits t0 (.ref (q_ad G x)) = true := by
    cases t0 <;> first | exact ⟨rfl, rfl⟩ | cases ht0
  exact q_putF (v := .ref x) hd hi hnf.1 hnf.2 (fun a ha => ⟨u2_row ha, rfl, rfl⟩) (q_updR ht) hF hW hS (fun H1 locs1 hW1 hS1 => kk p e Rm s m args below meth c H1 locs1 Q la hF hW1 hS1 hl hR)
/-! arrays -/
theorem q_arr {k n i : Nat} (hk : ¬ k < 20) (hW : q_Wd G S R I L H) (hi : S[i]? = some (k, n)) : H[G.2.1 + i]? = some (arrV (G.2.2.2.2.1 (k - 20)) n (fun j => q_val G R I L (q_aty k) i j)) := by
  have h1 := hW.2.2 i _ hi
  rw [q_at_arr hk] at h1
  exact h1
theorem q_inA {i : Int32} {j n : Nat} {cA : ClassId} {f : Nat → Value} (h : q_ix i j n) : ¬ (i < 0 ∨ (arrV cA n f).slots.size ≤ i.toNatClampNeg) := by rw [arrV_size]; exact h.in
theorem q_rdA {i : Int32} {j n : Nat} {cA : ClassId} {f : Nat → Value} (h : q_ix i j n) : (arrV cA n f).slots[i.toNatClampNeg]? = some (f j) := by rw [h.clamp, arrV_read _ _ h.2]
theorem r_iald {a n j : Nat} {i : Int32} (hd : Ft M pc .iaload 1 nx) (hi : S[a]? = some (20, n)) (hj : q_ix i j n) (kk : WW G d M nx ls (.int (I a j) :: st) S R I L ce sl mc ms K) : WW G d M pc ls (.int i :: .ref a :: st) S R I L ce sl mc ms K := by
  intro p e Rm s m args below meth c H locs Q la hF hW hS hl hR
  obtain ⟨hd, rfl⟩ := hd
  have e0 : (Value.int i :: Value.ref a :: st).map (q_cv G) = .int i :: .ref (G.2.1 + a) :: st.map (q_cv G) := by rw [← q_ad_lt hW hi]; rfl
  rw [e0]
  exact W.iald (v := .int (I a j)) hF.1 hF.2.1 (q_arr (by decide) hW hi) ((hF.2.2.2.2.2.2.2.2.1.1.2 0 _ rfl).1 n _) (fun q => by cases q) (q_inA hj) (q_rdA hj) rfl rfl hd (kk p e Rm s m args below meth c H locs Q la hF hW hS hl hR)
theorem r_lald {a n j : Nat} {i : Int32} (hd : Ft M pc .laload 1 nx) (hi : S[a]? = some (21, n)) (hj : q_ix i j n) (kk : WW G d M nx ls (.long (L a j) :: st) S R I L ce sl mc ms K) : WW G d M pc ls (.int i :: .ref a :: st) S R I L ce sl mc ms K := by
  intro p e Rm s m args below meth c H locs Q la hF hW hS hl hR
  obtain ⟨hd, rfl⟩ := hd
  have e0 : (Value.int i :: Value.ref a :: st).map (q_cv G) = .int i :: .ref (G.2.1 + a) :: st.map (q_cv G) := by rw [← q_ad_lt hW hi]; rfl
  rw [e0]
  exact W.lald (v := .long (L a j)) hF.1 hF.2.1 (q_arr (by decide) hW hi) ((hF.2.2.2.2.2.2.2.2.1.1.2 1 _ rfl).1 n _) (fun q => by cases q) (q_inA hj) (q_rdA hj) rfl rfl hd (kk p e Rm s m args below meth c H locs Q la hF hW hS hl hR)
theorem r_zald {a n j : Nat} {i : Int32} (hd : Ft M pc .baload 1 nx) (hi : S[a]? = some (22, n)) (hj : q_ix i j n) (kk : WW G d M nx ls (.int (I a j) :: st) S R I L ce sl mc ms K) : WW G d M pc ls (.int i :: .ref a :: st) S R I L ce sl mc ms K := by
  intro p e Rm s m args below meth c H locs Q la hF hW hS hl hR
  obtain ⟨hd, rfl⟩ := hd
  have e0 : (Value.int i :: Value.ref a :: st).map (q_cv G) = .int i :: .ref (G.2.1 + a) :: st.map (q_cv G) := by rw [← q_ad_lt hW hi]; rfl
  rw [e0]
  exact W.zald (v := .int (I a j)) hF.1 hF.2.1 (q_arr (by decide) hW hi) ((hF.2.2.2.2.2.2.2.2.1.1.2 2 _ rfl).1 n _) (fun q => by cases q) (q_inA hj) (q_rdA hj) rfl rfl hd (kk p e Rm s m args below meth c H locs Q la hF hW hS hl hR)
theorem r_aald {a n j k r : Nat} {i : Int32} (hd : Ft M pc .aaload 1 nx) (hk : k = 23 ∨ k = 24 ∨ k = 25) (hi : S[a]? = some (k, n)) (hj : q_ix i j n) (hr : R a j = some r) (kk : WW G d M nx ls (.ref r :: st) S R I L ce sl mc ms K) : WW G d M pc ls (.int i :: .ref a :: st) S R I L ce sl mc ms K := by
  intro p e Rm s m args below meth c H locs Q la hF hW hS hl hR
  obtain ⟨hd, rfl⟩ := hd
  have e0 : (Value.int i :: Value.ref a :: st).map (q_cv G) = .int i :: .ref (G.2.1 + a) :: st.map (q_cv G) := by rw [← q_ad_lt hW hi]; rfl
  rw [e0]
  have k1 := kk p e Rm s m args below meth c H locs Q la hF hW hS hl hR
  have ev : q_val G R I L 2 a j = .ref (q_ad G r) := by
    show va_rf ((R a j).map (q_ad G)) = _
    rw [hr]
    rfl
  rcases hk with rfl | rfl | rfl
  · refine W.aald (v := .ref (q_ad G r)) (ty := .object "NightDitch$Farm") hF.1 hF.2.1 (q_arr (by decide) hW hi) ((hF.2.2.2.2.2.2.2.2.1.1.2 3 _ rfl).1 n _) rfl (fun q => by cases q) (q_inA hj) ?_ rfl rfl hd k1
    rw [q_rdA hj, ← ev]
    rfl
  · refine W.aald (v := .ref (q_ad G r)) (ty := .object "NightDitch$Meet") hF.1 hF.2.1 (q_arr (by decide) hW hi) ((hF.2.2.2.2.2.2.2.2.1.1.2 4 _ rfl).1 n _) rfl (fun q => by cases q) (q_inA hj) ?_ rfl rfl hd k1
    rw [q_rdA hj, ← ev]
    rfl
  · refine W.aald (v := .ref (q_ad G r)) (ty := .array .long) hF.1 hF.2.1 (q_arr (by decide) hW hi) ((hF.2.2.2.2.2.2.2.2.1.1.2 5 _ rfl).1 n _) rfl (fun q => by cases q) (q_inA hj) ?_ rfl rfl hd k1
    rw [q_rdA hj, ← ev]
    rfl
/-- the world behind a store into an array -/
theorem q_storedA {R' : Rf} {I' : Rn} {L' : Rl} {k n j a : Nat} {H1 : Heap} {v : Value} (hk : ¬ k < 20) (hW : q_Wd G S R I L H) (hi : S[a]? = some (k, n))
    (e1 : H1[G.2.1 + a]? = some ((arrV (G.2.2.2.2.1 (k - 20)) n (fun j => q_val G R I L (q_aty k) a j)).setSlot j v)) (e2 : H1.size = H.size) (e3 : ∀ q, q ≠ G.2.1 + a → H1[q]? = H[q]?) (hr : ∀ b, b ≠ a → R' b = R b ∧ I' b = I b ∧ L' b = L b) (hv : ∀ x, updV (fun x => q_val G R I L (q_aty k) a x) j v x = q_val G R' I' L' (q_aty k) a x) : q_Wd G S R' I' L' H1 := by
  refine hW.upd hi e2 e3 hr ?_
  rw [q_at_arr hk, e1, arrV_store]
  congr 2
  funext x
  exact hv x
theorem q_updAI {tc j a : Nat} {x : Int32} (ht : tc = 0) (y : Nat) : updV (fun x => q_val G R I L tc a x) j (.int x) y = q_val G R (u2 I a j x) L tc a y := by
  subst ht
  by_cases h : y = j
  · subst h
    simp [updV, q_val, u2]
  · simp [updV, q_val, u2, h]
theorem q_updAL {tc j a : Nat} {x : Int64} (ht : tc = 1) (y : Nat) : updV (fun x => q_val G R I L tc a x) j (.long x) y = q_val G R I (u2 L a j x) tc a y := by
  subst ht
  by_cases h : y = j
  · subst h
    simp [updV, q_val, u2]
  · simp [updV, q_val, u2, h]
theorem q_updAR {tc j a x : Nat} (ht : tc = 2) (y : Nat) : updV (fun x => q_val G R I L tc a x) j (.ref (q_ad G x)) y = q_val G (u2 R a j (some x)) I L tc a y := by
  subst ht
  by_cases h : y = j
  · subst h
    simp [updV, q_val, u2, va_rf]
  · simp [updV, q_val, u2, h]
theorem r_iast {a n j : Nat} {i x : Int32} (hd : Ft M pc .iastore 1 nx) (hi : S[a]? = some (20, n)) (hj : q_ix i j n) (kk : WW G d M nx ls st S R (u2 I a j x) L ce sl mc ms K) : WW G d M pc ls (.int x :: .int i :: .ref a :: st) S R I L ce sl mc ms K := by
  intro p e Rm s m args below meth c H locs Q la hF hW hS hl hR
  obtain ⟨hd, rfl⟩ := hd
  have e0 : (Value.int x :: Value.int i :: Value.ref a :: st).map (q_cv G) = .int x :: .int i :: .ref (G.2.1 + a) :: st.map (q_cv G) := by rw [← q_ad_lt hW hi]; rfl
  rw [e0]
  refine W.iast hF.1 hF.2.1 (q_arr (by decide) hW hi) ((hF.2.2.2.2.2.2.2.2.1.1.2 0 _ rfl).1 n _) (fun q => by cases q) (q_inA hj) rfl rfl hd fun H1 e1 e2 e3 => ?_
  rw [hj.clamp] at e1
  exact kk p e Rm s m args below meth c H1 _ Q la hF (q_storedA (by decide) hW hi e1 e2 e3 (fun b hb => ⟨rfl, u2_row hb, rfl⟩) (q_updAI rfl)) (hS.put e2 e3 (show q_A G (G.2.1 + a) from Nat.le_add_right _ _)) hl hR
theorem r_last {a n j : Nat} {i : Int32} {x : Int64} (hd : Ft M pc .lastore 1 nx) (hi : S[a]? = some (21, n)) (hj : q_ix i j n) (kk : WW G d M nx ls st S R I (u2 L a j x) ce sl mc ms K) : WW G d M pc ls (.long x :: .int i :: .ref a :: st) S R I L ce sl mc ms K := by
  intro p e Rm s m args below meth c H locs Q la hF hW hS hl hR
  obtain ⟨hd, rfl⟩ := hd
  have e0 : (Value.long x :: Value.int i :: Value.ref a :: st).map (q_cv G) = .long x :: .int i :: .ref (G.2.1 + a) :: st.map (q_cv G) := by rw [← q_ad_lt hW hi]; rfl
  rw [e0]
  refine W.last hF.1 hF.2.1 (q_arr (by decide) hW hi) ((hF.2.2.2.2.2.2.2.2.1.1.2 1 _ rfl).1 n _) (fun q => by cases q) (q_inA hj) rfl rfl hd fun H1 e1 e2 e3 => ?_
  rw [hj.clamp] at e1
  exact kk p e Rm s m args below meth c H1 _ Q la hF (q_storedA (by decide) hW hi e1 e2 e3 (fun b hb => ⟨rfl, rfl, u2_row hb⟩) (q_updAL rfl)) (hS.put e2 e3 (show q_A G (G.2.1 + a) from Nat.le_add_right _ _)) hl hR
theorem r_zast {a n j : Nat} {i x : Int32} (hd : Ft M pc .bastore 1 nx) (hi : S[a]? = some (22, n)) (hj : q_ix i j n) (hx : x = 0 ∨ x = 1) (kk : WW G d M nx ls st S R (u2 I a j x) L ce sl mc ms K) : WW G d M pc ls (.int x :: .int i :: .ref a :: st) S R I L ce sl mc ms K := by
  intro p e Rm s m args below meth c H locs Q la hF hW hS hl hR
  obtain ⟨hd, rfl⟩ := hd
  have e0 : (Value.int x :: Value.int i :: Value.ref a :: st).map (q_cv G) = .int x :: .int i :: .ref (G.2.1 + a) :: st.map (q_cv G) := by rw [← q_ad_lt hW hi]; rfl
  rw [e0]
  refine W.zast hF.1 hF.2.1 (q_arr (by decide) hW hi) ((hF.2.2.2.2.2.2.2.2.1.1.2 2 _ rfl).1 n _) (fun q => by cases q) (q_inA hj) rfl rfl hd fun H1 e1 e2 e3 => ?_
  have en : narrow .boolean (.int x) = .int x := by rcases hx with rfl | rfl <;> rfl
  rw [hj.clamp, en] at e1
  exact kk p e Rm s m args below meth c H1 _ Q la hF (q_storedA (by decide) hW hi e1 e2 e3 (fun b hb => ⟨rfl, u2_row hb, rfl⟩) (q_updAI rfl)) (hS.put e2 e3 (show q_A G (G.2.1 + a) from Nat.le_add_right _ _)) hl hR
theorem r_alen {a n k : Nat} (hd : Ft M pc .arraylength 1 nx) (hk : k = 20 ∨ k = 21) (hi : S[a]? = some (k, n)) (kk : WW G d M nx ls (.int (Int32.ofNat n) :: st) S R I L ce sl mc ms K) : WW G d M pc ls (.ref a :: st) S R I L ce sl mc ms K := by
  intro p e Rm s m args below meth c H locs Q la hF hW hS hl hR
  obtain ⟨hd, rfl⟩ := hd
  have e0 : (Value.ref a :: st).map (q_cv G) = .ref (G.2.1 + a) :: st.map (q_cv G) := by rw [← q_ad_lt hW hi]; rfl
  rw [e0]
  have k1 := kk p e Rm s m args below meth c H locs Q la hF hW hS hl hR
  rcases hk with rfl | rfl
  · exact W.alen (n := Int32.ofNat n) hF.1 hF.2.1 (q_arr (by decide) hW hi) ((hF.2.2.2.2.2.2.2.2.1.1.2 0 _ rfl).1 n _) (by rw [arrV_size]) rfl rfl hd k1
  · exact W.alen (n := Int32.ofNat n) hF.1 hF.2.1 (q_arr (by decide) hW hi) ((hF.2.2.2.2.2.2.2.2.1.1.2 1 _ rfl).1 n _) (by rw [arrV_size]) rfl rfl hd k1
/-! the static arrays, the script -/
def Fgs (M : Mt) (pc k nx : Nat) : Prop := ∃ ix, decode M.2.1 pc = .ok (.getstatic ix, 3) ∧ pc + 3 = nx ∧ k < 4 ∧ (Cond.fieldLink M.1.cls ix "NightDitch" (q_sn k) "[I" ∈ q_gw ∨ ∃ host, Cond.fieldLinkNest M.1.cls ix "NightDitch" (q_sn k) "[I" host ∈ q_nw)
theorem q_ad_ex (G : Gx) (k : Nat) : q_ad G (k + 1000) = G.2.2.1 k := by
  unfold q_ad
  rw [if_neg (by omega), Nat.add_sub_cancel]
theorem r_gst {k : Nat} (hd : Fgs M pc k nx) (kk : WW G d M nx ls (.ref (k + 1000) :: st) S R I L ce sl mc ms K) : WW G d M pc ls st S R I L ce sl mc ms K := by
  intro p e Rm s m args below meth c H locs Q la hF hW hS hl hR
  obtain ⟨ix, hd, rfl, hk, hlk⟩ := hd
  have k1 := kk p e Rm s m args below meth c H locs Q la hF hW hS hl hR
  have e0 : (Value.ref (k + 1000) :: st).map (q_cv G) = .ref (G.2.2.1 k) :: st.map (q_cv G) := by rw [← q_ad_ex]; rfl
  rw [e0] at k1
  obtain ⟨f1, f2, f3, f4, f5, f6, f7, f8, f9, -⟩ := id hF
  rcases hlk with hlk | ⟨host, hlk⟩
  · exact va_gets f1 f2 (f9.2.2.2.1 k hk).1 hS f7 (f8 _ hlk) (fun x h => h) hd k1
  · exact va_getsN f1 f2 (f9.2.2.2.1 k hk).1 hS f7 (va_Nw.use rfl (f9.2.1 _ hlk)) (fun x h => h) hd k1
theorem r_ialds {k j : Nat} {i : Int32} (hd : Ft M pc .iaload 1 nx) (hk : k < 4) (hj : q_ix i j (q_sl k)) (kk : WW G d M nx ls (.int (q_sv k j) :: st) S R I L ce sl mc ms K) : WW G d M pc ls (.int i :: .ref (k + 1000) :: st) S R I L ce sl mc ms K := by
  intro p e Rm s m args below meth c H locs Q la hF hW hS hl hR
  obtain ⟨hd, rfl⟩ := hd
  have e0 : (Value.int i :: Value.ref (k + 1000) :: st).map (q_cv G) = .int i :: .ref (G.2.2.1 k) :: st.map (q_cv G) := by rw [← q_ad_ex]; rfl
  rw [e0]
  exact va_ti hF.1 hF.2.1 (hF.2.2.2.2.2.2.2.2.1.2.2.2.1 k hk).2 hS hj.in (by rw [hj.clamp]; rfl) hd (kk p e Rm s m args below meth c H locs Q la hF hW hS hl hR)
theorem r_alens {k : Nat} (hd : Ft M pc .arraylength 1 nx) (hk : k < 4) (kk : WW G d M nx ls (.int (Int32.ofNat (q_sl k)) :: st) S R I L ce sl mc ms K) : WW G d M pc ls (.ref (k + 1000) :: st) S R I L ce sl mc ms K := by
  intro p e Rm s m args below meth c H locs Q la hF hW hS hl hR
  obtain ⟨hd, rfl⟩ := hd
  have e0 : (Value.ref (k + 1000) :: st).map (q_cv G) = .ref (G.2.2.1 k) :: st.map (q_cv G) := by rw [← q_ad_ex]; rfl
  rw [e0]
  exact va_tlen hF.1 hF.2.1 (hF.2.2.2.2.2.2.2.2.1.2.2.2.1 k hk).2 hS rfl hd (kk p e Rm s m args below meth c H locs Q la hF hW hS hl hR)
theorem r_ialdx {j : Nat} {i : Int32} (hd : Ft M pc .iaload 1 nx) (hj : q_ix i j G.2.2.2.2.2.2) (kk : WW G d M nx ls (.int (G.2.2.2.2.2.1 j) :: st) S R I L ce sl mc ms K) : WW G d M pc ls (.int i :: .ref (4 + 1000) :: st) S R I L ce sl mc ms K := by
  intro p e Rm s m args below meth c H locs Q la hF hW hS hl hR
  obtain ⟨hd, rfl⟩ := hd
  have e0 : (Value.int i :: Value.ref (4 + 1000) :: st).map (q_cv G) = .int i :: .ref (G.2.2.1 4) :: st.map (q_cv G) := by rw [← q_ad_ex]; rfl
  rw [e0]
  have hT := hF.2.2.2.2.2.2.2.2.1
  refine va_sld hF.1 hF.2.1 hT.2.2.2.2.1 hT.2.2.2.2.2.1 hT.2.2.2.2.2.2.1 hS hj.in hd ?_
  rw [hj.clamp]
  exact kk p e Rm s m args below meth c H locs Q la hF hW hS hl hR
theorem r_alenx (hd : Ft M pc .arraylength 1 nx) (kk : WW G d M nx ls (.int (Int32.ofNat G.2.2.2.2.2.2) :: st) S R I L ce sl mc ms K) : WW G d M pc ls (.ref (4 + 1000) :: st) S R I L ce sl mc ms K := by
  intro p e Rm s m args below meth c H locs Q la hF hW hS hl hR
  obtain ⟨hd, rfl⟩ := hd
  have e0 : (Value.ref (4 + 1000) :: st).map (q_cv G) = .ref (G.2.2.1 4) :: st.map (q_cv G) := by rw [← q_ad_ex]; rfl
  rw [e0]
  have hT := hF.2.2.2.2.2.2.2.2.1
  exact va_slen hF.1 hF.2.1 hT.2.2.2.2.1 hT.2.2.2.2.2.1 hT.2.2.2.2.2.2.1 hS hd (kk p e Rm s m args below meth c H locs Q la hF hW hS hl hR)
end RH
