def q_mR (R : Rf) (n : Nat) : Rf := fun x y => if x = n then (if y < 4 then some (n + 1 + y) else none) else if n < x ∧ x < n + 5 then none else R x y
def q_mC {α : Type} (f : Nat → Nat → α) (n : Nat) (v : α) : Nat → Nat → α := fun x y => if n ≤ x ∧ x < n + 5 then v else f x y
def Fmn (M : Mt) (pc nx : Nat) : Prop := ∃ ix, decode M.2.1 pc = .ok (.multianewarray ix 2, 4) ∧ pc + 4 = nx ∧ Cond.classLink M.1.cls ix "[[J" ∈ q_gw ∧ Cond.arrayClass .long ∈ q_gw
theorem f_S_init_8 : Fmn mt_S_init 8 12 := ⟨9, by decide +kernel, rfl, q_gw_in 260 (by decide +kernel), q_gw_in 229 (by decide +kernel)⟩
section L68
variable {G : Gx} {d : Nat} {M : Mt} {pc nx : Nat} {ls : List (Option Value)} {st : List Value} {S : Shp} {R R' : Rf} {I I' : Rn} {L L' : Rl} {ce sl mc ms : Nat} {K : Kt} {H : Heap}
theorem q_gr5 {S : Shp} {i : Nat} {sh : Nat × Nat} (h : (S ++ [(25, 4), (21, 40), (21, 40), (21, 40), (21, 40)])[i]? = some sh) : S[i]? = some sh ∨ (i = S.length ∧ sh = (25, 4)) ∨ (S.length < i ∧ i < S.length + 5 ∧ sh = (21, 40)) := by
  by_cases e : i < S.length
  · rw [List.getElem?_append_left e] at h
    exact Or.inl h
  · rw [List.getElem?_append_right (by omega)] at h
    obtain ⟨j, hj⟩ : ∃ j, i = S.length + j := ⟨i - S.length, by omega⟩
    subst hj
    rw [show S.length + j - S.length = j by omega] at h
    match j, h with
    | 0, h => cases h; exact Or.inr (Or.inl ⟨rfl, rfl⟩)
    | 1, h => cases h; exact Or.inr (Or.inr ⟨by omega, by omega, rfl⟩)
    | 2, h => cases h; exact Or.inr (Or.inr ⟨by omega, by omega, rfl⟩)
    | 3, h => cases h; exact Or.inr (Or.inr ⟨by omega, by omega, rfl⟩)
    | 4, h => cases h; exact Or.inr (Or.inr ⟨by omega, by omega, rfl⟩)
    | j + 5, h => cases h
theorem q_arrV_cg {cI : ClassId} {n : Nat} {f g : Nat → Value} (h : ∀ j, j < n → f j = g j) : arrV cI n f = arrV cI n g := by
  unfold arrV
  congr 1
  apply Array.ext
  · simp
  · intro j h1 h2
    simp only [Array.size_ofFn] at h1
    simp only [Array.getElem_ofFn]
    exact h j h1
theorem r_mna (hd : Fmn M pc nx) (hb : S.length + 5 ≤ 1000) (hc : ce + 5 ≤ mc) (hs : sl + 164 ≤ ms) (kk : WW G d M nx ls (.ref S.length :: st) (S ++ [(25, 4), (21, 40), (21, 40), (21, 40), (21, 40)]) (q_mR R S.length) (q_mC I S.length 0) (q_mC L S.length 0) (ce + 5) (sl + 164) mc ms K) : WW G d M pc ls (.int 40 :: .int 4 :: st) S R I L ce sl mc ms K := by
  intro p e Rm s m args below meth c H locs Q la hF hW hS hl hR
  obtain ⟨ix, hdc, rfl, w1, w2⟩ := hd
  obtain ⟨f1, f2, f3, f4, f5, f6, f7, f8, f9, f10, f11, f12, f13⟩ := id hF
  have e0 : (Value.ref S.length :: st).map (q_cv G) = .ref H.size :: st.map (q_cv G) := by
    have : q_ad G S.length = H.size := by rw [hW.1]; exact if_pos (by omega)
    rw [← this]
    rfl
  intro T hT X
  subst hT
  obtain ⟨vm₁, cA, cB, hwarm, hcA, hcB, X', step⟩ := s_mna (index := ix) (g := F0 m pc la ((Value.int 40 :: Value.int 4 :: st).map (q_cv G))) X f1 f7 (f8 _ w1) f9.2.2.1.2.2 (f8 _ w2) rfl (by rw [f2]; exact hdc) (rest := st.map (q_cv G)) rfl (Nat.le_trans hc f12) (Nat.le_trans hs f13)
  obtain ⟨g1, g2, g3, g4, g5, g6⟩ := s_grid_f cA cB (T.setVm vm₁) 4
  have hTh : (T.setVm vm₁).heap = T.heap := rfl
  rw [hTh] at g1 g2 g5 g6
  have hcA2 : cA = G.2.2.2.2.1 5 := Option.some.inj (hcA.symm.trans (f9.1.2 5 _ rfl).2)
  have hcB2 : cB = G.2.2.2.2.1 1 := Option.some.inj (hcB.symm.trans (f9.1.2 1 _ rfl).2)
  have hW1 : q_Wd G (S ++ [(25, 4), (21, 40), (21, 40), (21, 40), (21, 40)]) (q_mR R S.length) (q_mC I S.length 0) (q_mC L S.length 0) (s_grid cA cB (T.setVm vm₁) 4).heap := by
    refine ⟨by rw [g1, hW.1, List.length_append]; rfl, by rw [List.length_append]; exact hb, fun i sh hi => ?_⟩
    rcases q_gr5 hi with h | ⟨rfl, rfl⟩ | ⟨h1, h2, rfl⟩
    · have hlt := q_lt h
      have r1 : q_mR R S.length i = R i := by
        funext y
        unfold q_mR
        rw [if_neg (by omega), if_neg (by omega)]
      have r2 : q_mC I S.length 0 i = I i := by
        funext y
        unfold q_mC
        rw [if_neg (by omega)]
      have r3 : q_mC L S.length 0 i = L i := by
        funext y
        unfold q_mC
        rw [if_neg (by omega)]
      rw [q_at_row r1 r2 r3]
      exact q_at_kept (hW.2.2 i sh h) (g5 _ (by rw [hW.1]; omega))
    · rw [q_at_arr (by decide), ← hW.1, g2, hcA2]
      refine congrArg some (q_arrV_cg (fun j hj => ?_))
      show s_gv T.heap.size 4 j = va_rf ((q_mR R S.length S.length j).map (q_ad G))
      unfold s_gv q_mR
      rw [if_pos hj, if_pos rfl, if_pos hj]
      have e9 : q_ad G (S.length + 1 + j) = G.2.1 + (S.length + 1 + j) := if_pos (by omega)
      show Value.ref (T.heap.size + 1 + j) = Value.ref (q_ad G (S.length + 1 + j))
      rw [e9]
      have h0 := hW.1
      exact congrArg Value.ref (show T.heap.size + 1 + j = G.2.1 + (S.length + 1 + j) by rw [h0]; omega)
    · obtain ⟨j, hj, rfl⟩ : ∃ j, j < 4 ∧ i = S.length + 1 + j := ⟨i - S.length - 1, by omega, by omega⟩
      have e1 : G.2.1 + (S.length + 1 + j) = T.heap.size + 1 + j := by rw [hW.1]; omega
      rw [q_at_arr (by decide), e1, g6 j hj, hcB2]
      refine congrArg some (q_arrV_cg (fun y _ => ?_))
      show Value.long 0 = Value.long (q_mC L S.length 0 (S.length + 1 + j) y)
      unfold q_mC
      rw [if_pos (by omega)]
  have hS1 : va_S (q_A G) s.heap (s_grid cA cB (T.setVm vm₁) 4).heap (locs ++ (List.range 4).map fun j => ⟨T.heap.size, j⟩) := by
    refine ⟨Nat.le_trans hS.1 (by rw [g1]; omega), fun q h1 h2 => (g5 q (Nat.lt_of_lt_of_le h1 hS.1)).trans (hS.2.1 q h1 h2), fun x hx => ?_⟩
    rcases List.mem_append.mp hx with h | h
    · exact hS.2.2 x h
    · obtain ⟨j, _, rfl⟩ := List.mem_map.mp h
      show G.2.1 ≤ T.heap.size
      rw [hW.1]
      exact Nat.le_add_right _ _
  have k0 := kk p e Rm s m args below meth c _ _ Q la hF hW1 hS1 hl hR
  rw [e0] at k0
  obtain ⟨t, t1, t2⟩ := k0 _ rfl X'
  exact ⟨t, step t t1, t2⟩
theorem q_Wd.cg (h : q_Wd G S R I L H) (e : ∀ i k n, S[i]? = some (k, n) → ∀ j, j < n → R' i j = R i j ∧ I' i j = I i j ∧ L' i j = L i j) : q_Wd G S R' I' L' H := by
  refine ⟨h.1, h.2.1, fun i sh hi => ?_⟩
  obtain ⟨k, n⟩ := sh
  have hv : ∀ tc j, j < n → q_val G R' I' L' tc i j = q_val G R I L tc i j := fun tc j hj => by
    obtain ⟨e1, e2, e3⟩ := e i k n hi j hj
    unfold q_val
    rw [e1, e2, e3]
  have h0 := h.2.2 i (k, n) hi
  by_cases hk : k < 20
  · rw [q_at_obj hk] at h0 ⊢
    exact h0.to (fun j hj => (hv _ j hj).symm)
  · rw [q_at_arr hk] at h0 ⊢
    rw [h0]
    exact congrArg some (q_arrV_cg (fun j hj => (hv _ j hj).symm))
theorem WW.cg (h : WW G d M pc ls st S R' I' L' ce sl mc ms K) (e : ∀ i k n, S[i]? = some (k, n) → ∀ j, j < n → R' i j = R i j ∧ I' i j = I i j ∧ L' i j = L i j) : WW G d M pc ls st S R I L ce sl mc ms K :=
  fun p e2 Rm s m args below meth c H locs Q la hF hW hS hl hR => h p e2 Rm s m args below meth c H locs Q la hF (hW.cg e) hS hl hR
/-- agreement on all cells, as a check that can be run -/
def q_agr (S : Shp) (R R' : Rf) (I I' : Rn) (L L' : Rl) : Bool := (List.range S.length).all fun i => (List.range (S.getD i (0, 0)).2).all fun j => R' i j == R i j && (I' i j == I i j && L' i j == L i j)
theorem WW.tab (h : WW G d M pc ls st S R' I' L' ce sl mc ms K) (e : q_agr S R R' I I' L L' = true) : WW G d M pc ls st S R I L ce sl mc ms K := h.cg (fun i k n hi j hj => by
  have hl := q_lt hi
  have h1 := List.all_eq_true.mp e i (List.mem_range.mpr hl)
  have e2 : (S.getD i (0, 0)).2 = n := by
    rw [List.getD_eq_getElem?_getD, hi]
    rfl
  rw [e2] at h1
  have h2 := List.all_eq_true.mp h1 j (List.mem_range.mpr hj)
  simp only [Bool.and_eq_true, beq_iff_eq] at h2
  exact h2)
end L68
