/-! THE MODEL: the same state, in one row -/
def RR (I : Rn) (q : Nat) (D : Dst) : Prop := vR I q = D ∧ I q 11 = nI D.2.2.2.2.length
section L50
variable {G : Gx} {d : Nat} {I I' I2 : Rn} {L L' L2 : Rl} {K : Kt} {σ : St} {D : Dst} {q : Nat}
theorem RR.f {f k : Nat} (h : RR I q D) (hf : f < 8) (hk : k < 7) : I q (12 + 7 * f + k) = D.1 f k := by
  rw [← h.1]
  exact (if_pos ⟨hf, hk⟩).symm
theorem RR.o {p : Nat} (h : RR I q D) (hp : p < 8) : I q (68 + p) = D.2.1 p := by
  rw [← h.1]
  exact (if_pos hp).symm
theorem RR.u {k : Nat} (h : RR I q D) (hk : k < 5) : I q (5 + k) = D.2.2.1 k := by
  rw [← h.1]
  exact (if_pos hk).symm
theorem RR.s {k : Nat} (h : RR I q D) (hk : k < 5) : I q k = D.2.2.2.1 k := by
  rw [← h.1]
  show _ = if k = 5 then _ else if k < 5 then _ else _
  rw [if_neg (by omega), if_pos hk]
theorem RR.c (h : RR I q D) : I q 10 = D.2.2.2.1 5 := by
  rw [← h.1]
  rfl
theorem RR.cnt (h : RR I q D) (hW : WFd D) : I q 10 = nI (dC D) := h.c.trans hW.1.2
theorem RR.t (h : RR I q D) (hl : D.2.2.2.2.length ≤ 60) : D.2.2.2.2 = (List.range D.2.2.2.2.length).map (fun j => I q (76 + j)) := by
  have e1 : D.2.2.2.2 = (List.range (I q 11).toNatClampNeg).map (fun j => I q (76 + j)) := by
    rw [← h.1]
    rfl
  rw [h.2, nI_clamp (by omega)] at e1
  exact e1
theorem RR.tx {j : Nat} {x : Int32} (h : RR I q D) (hl : D.2.2.2.2.length ≤ 60) (hx : D.2.2.2.2[j]? = some x) : I q (76 + j) = x := by
  have hj := (List.getElem?_eq_some_iff.mp hx).1
  rw [h.t hl, List.getElem?_map, List.getElem?_range hj] at hx
  cases hx
  rfl
theorem RR.eqs {q2 : Nat} (h : RR I q D) (hl : D.2.2.2.2.length ≤ 60) (e : ∀ y, y < 136 → I' q2 y = I q y) : RR I' q2 D := by
  refine ⟨?_, (e 11 (by decide)).trans h.2⟩
  rw [← h.1]
  unfold vR
  have ht := h.2
  refine Prod.ext ?_ (Prod.ext ?_ (Prod.ext ?_ (Prod.ext ?_ ?_)))
  · funext i k
    dsimp only
    by_cases hc : i < 8 ∧ k < 7
    · rw [if_pos hc, if_pos hc, e _ (by omega)]
    · rw [if_neg hc, if_neg hc]
  · funext p
    dsimp only
    by_cases hc : p < 8
    · rw [if_pos hc, if_pos hc, e _ (by omega)]
    · rw [if_neg hc, if_neg hc]
  · funext p
    dsimp only
    by_cases hc : p < 5
    · rw [if_pos hc, if_pos hc, e _ (by omega)]
    · rw [if_neg hc, if_neg hc]
  · funext p
    dsimp only
    by_cases hc : p = 5
    · rw [if_pos hc, if_pos hc, e _ (by omega)]
    · rw [if_neg hc, if_neg hc]
      by_cases h5 : p < 5
      · rw [if_pos h5, if_pos h5, e _ (by omega)]
      · rw [if_neg h5, if_neg h5]
  · dsimp only
    rw [e 11 (by decide)]
    refine List.map_congr_left (fun j hj => ?_)
    have := List.mem_range.mp hj
    rw [ht, nI_clamp (by omega)] at this
    exact e _ (by omega)
theorem RR.rows (h : RR I q D) (hl : D.2.2.2.2.length ≤ 60) (e : ∀ x y, x = q → I' x y = I x y) : RR I' q D := h.eqs hl (fun y _ => e q y rfl)
/-- a change of the row at a place below the text -/
theorem RR.upd {y : Nat} {v : Int32} {E : Dst} (h : RR I q D) (hy : y ≠ 11 ∧ y < 76) (ht : E.2.2.2.2 = D.2.2.2.2) (h1 : ∀ i k, i < 8 → k < 7 → E.1 i k = if y = 12 + 7 * i + k then v else D.1 i k) (h1' : ∀ i k, ¬ (i < 8 ∧ k < 7) → E.1 i k = D.1 i k) (h2 : ∀ p, p < 8 → E.2.1 p = if y = 68 + p then v else D.2.1 p) (h2' : ∀ p, ¬ p < 8 → E.2.1 p = D.2.1 p) (h3 : ∀ k, k < 5 → E.2.2.1 k = if y = 5 + k then v else D.2.2.1 k) (h3' : ∀ k, ¬ k < 5 → E.2.2.1 k = D.2.2.1 k) (h4 : ∀ k, k ≤ 5 → E.2.2.2.1 k = if y = (if k = 5 then 10 else k) then v else D.2.2.2.1 k) (h4' : ∀ k, ¬ k ≤ 5 → E.2.2.2.1 k = D.2.2.2.1 k) : RR (u2 I q y v) q E := by
  have hv := h.1
  refine ⟨?_, ?_⟩
  · unfold vR
    refine Prod.ext ?_ (Prod.ext ?_ (Prod.ext ?_ (Prod.ext ?_ ?_)))
    · funext i k
      dsimp only
      by_cases hc : i < 8 ∧ k < 7
      · rw [if_pos hc, h1 i k hc.1 hc.2]
        by_cases e : y = 12 + 7 * i + k
        · rw [if_pos e, e, u2_self]
        · rw [if_neg e, u2_ne (Or.inr (fun w => e w.symm)), h.f hc.1 hc.2]
      · rw [if_neg hc, h1' i k hc, ← hv]
        exact (if_neg hc).symm
    · funext p
      dsimp only
      by_cases hc : p < 8
      · rw [if_pos hc, h2 p hc]
        by_cases e : y = 68 + p
        · rw [if_pos e, e, u2_self]
        · rw [if_neg e, u2_ne (Or.inr (fun w => e w.symm)), h.o hc]
      · rw [if_neg hc, h2' p hc, ← hv]
        exact (if_neg hc).symm
    · funext p
      dsimp only
      by_cases hc : p < 5
      · rw [if_pos hc, h3 p hc]
        by_cases e : y = 5 + p
        · rw [if_pos e, e, u2_self]
        · rw [if_neg e, u2_ne (Or.inr (fun w => e w.symm)), h.u hc]
      · rw [if_neg hc, h3' p hc, ← hv]
        exact (if_neg hc).symm
    · funext p
      dsimp only
      by_cases hc : p = 5
      · subst hc
        rw [if_pos rfl, h4 5 (Nat.le_refl _), if_pos rfl]
        by_cases e : y = 10
        · rw [if_pos e, e, u2_self]
        · rw [if_neg e, u2_ne (Or.inr (fun w => e w.symm)), h.c]
      · rw [if_neg hc]
        by_cases h5 : p < 5
        · rw [if_pos h5, h4 p (by omega), if_neg hc]
          by_cases e : y = p
          · rw [if_pos e, e, u2_self]
          · rw [if_neg e, u2_ne (Or.inr (fun w => e w.symm)), h.s h5]
        · rw [if_neg h5, h4' p (by omega), ← hv]
          exact ((if_neg hc).trans (if_neg h5)).symm
    · dsimp only
      rw [u2_ne (Or.inr hy.1.symm), ht, ← hv]
      refine List.map_congr_left (fun j _ => u2_ne (Or.inr (by omega)))
  · rw [u2_ne (Or.inr hy.1.symm), ht]
    exact h.2
theorem RR.toF {f k : Nat} {v : Int32} (h : RR I q D) (hf : f < 8) (hk : k < 7) : RR (u2 I q (12 + 7 * f + k) v) q (eF D f k v) := by
  refine h.upd (by omega) rfl (fun i j hi hj => ?_) (fun i j hc => ?_) (fun p hp => ?_) (fun _ _ => rfl) (fun p hp => ?_) (fun _ _ => rfl) (fun p hp => ?_) (fun _ _ => rfl)
  · show u2 D.1 f k v i j = _
    by_cases e : i = f ∧ j = k
    · rw [e.1, e.2, u2_self, if_pos rfl]
    · rw [u2_ne (by omega), if_neg (by omega)]
  · show u2 D.1 f k v i j = _
    exact u2_ne (by omega)
  · rw [if_neg (by omega)]
    rfl
  · rw [if_neg (by omega)]
    rfl
  · rw [if_neg (by split <;> omega)]
    rfl
theorem RR.toO {p : Nat} {v : Int32} (h : RR I q D) (hp : p < 8) : RR (u2 I q (68 + p) v) q (eO D p v) := by
  refine h.upd (by omega) rfl (fun i j hi hj => ?_) (fun i j hc => rfl) (fun r hr => ?_) (fun r hr => ?_) (fun r hr => ?_) (fun _ _ => rfl) (fun r hr => ?_) (fun _ _ => rfl)
  · rw [if_neg (by omega)]
    rfl
  · show (if r = p then v else D.2.1 r) = _
    by_cases e : r = p
    · rw [if_pos e, if_pos (by omega)]
    · rw [if_neg e, if_neg (by omega)]
  · show (if r = p then v else D.2.1 r) = _
    rw [if_neg (by omega)]
  · rw [if_neg (by omega)]
    rfl
  · rw [if_neg (by split <;> omega)]
    rfl
theorem RR.toU {k : Nat} {v : Int32} (h : RR I q D) (hk : k < 5) : RR (u2 I q (5 + k) v) q (eU D k v) := by
  refine h.upd (by omega) rfl (fun i j hi hj => ?_) (fun i j hc => rfl) (fun r hr => ?_) (fun r hr => rfl) (fun r hr => ?_) (fun r hr => ?_) (fun r hr => ?_) (fun _ _ => rfl)
  · rw [if_neg (by omega)]
    rfl
  · rw [if_neg (by omega)]
    rfl
  · show (if r = k then v else D.2.2.1 r) = _
    by_cases e : r = k
    · rw [if_pos e, if_pos (by omega)]
    · rw [if_neg e, if_neg (by omega)]
  · show (if r = k then v else D.2.2.1 r) = _
    rw [if_neg (by omega)]
  · rw [if_neg (by split <;> omega)]
    rfl
def q_sk (k : Nat) : Nat := if k = 5 then 10 else k
theorem RR.toS {k y : Nat} {v : Int32} (h : RR I q D) (hk : k ≤ 5) (hy : q_sk k = y) : RR (u2 I q y v) q (eS D k v) := by
  unfold q_sk at hy
  refine h.upd (by split at hy <;> omega) rfl (fun i j hi hj => ?_) (fun i j hc => rfl) (fun r hr => ?_) (fun r hr => rfl) (fun r hr => ?_) (fun r hr => rfl) (fun r hr => ?_) (fun r hr => ?_)
  · rw [if_neg (by split at hy <;> omega)]
    rfl
  · rw [if_neg (by split at hy <;> omega)]
    rfl
  · rw [if_neg (by split at hy <;> omega)]
    rfl
  · show (if r = k then v else D.2.2.2.1 r) = _
    by_cases e : r = k
    · rw [if_pos e, e, if_pos hy.symm]
    · rw [if_neg e, if_neg (by split at hy <;> split <;> omega)]
  · show (if r = k then v else D.2.2.2.1 r) = _
    rw [if_neg (by omega)]
def RepM (I : Rn) (L : Rl) (σ : St) : Prop :=
  RR I 96 σ.1 ∧ (match σ.2.1 with
    | none => I 95 3 = 0
    | some D => I 95 3 = 1 ∧ RR I 97 D) ∧ ((∀ k, k < 7 → I 99 k = σ.2.2.1 k) ∧ I 95 5 = sp_fs σ.2.2.1 7) ∧ (I 95 25 = nI σ.2.2.2.1.length ∧ ∀ (j : Nat) (x : Int32), σ.2.2.2.1[j]? = some x → I 104 j = x) ∧
  (∀ s, s < 4 → I 109 s = σ.2.2.2.2.1 s ∧ I 110 s = σ.2.2.2.2.2.1 s ∧ ∀ j, j < 40 → L 111 (40 * s + j) = σ.2.2.2.2.2.2 s j)
def q_lw (I I' : Rn) (L L' : Rl) : Prop := ∀ x y, x < 95 → I' x y = I x y ∧ L' x y = L x y
theorem q_lw.rf : q_lw I I L L := fun _ _ _ => ⟨rfl, rfl⟩
theorem q_lw.tr (h : q_lw I I' L L') (h2 : q_lw I' I2 L' L2) : q_lw I I2 L L2 := fun x y hx => ⟨(h2 x y hx).1.trans (h x y hx).1, (h2 x y hx).2.trans (h x y hx).2⟩
theorem q_lw.u2 {x y : Nat} {v : Int32} (h : q_lw I I' L L') (hx : 95 ≤ x) : q_lw I (u2 I' x y v) L L' := fun a b ha => ⟨(u2_ne (Or.inl (by omega))).trans (h a b ha).1, (h a b ha).2⟩
theorem q_lw.ag {P : Nat → Nat → Prop} (hg : q_ag P I I') (hp : ∀ x y, P x y → 95 ≤ x) : q_lw I I' L L := fun x y hx => ⟨hg x y (fun w => by have := hp x y w; omega), rfl⟩
def MK (K : Kt) (I : Rn) (L : Rl) (r : Int32 × St) : Prop := ∀ I' L', RepM I' L' r.2 → q_lw I I' L L' → K (some (.int r.1)) SH RF I' L'
def MKl (K : Kt) (I : Rn) (L : Rl) (r : Int64 × St) : Prop := ∀ I' L', RepM I' L' r.2 → q_lw I I' L L' → K (some (.long r.1)) SH RF I' L'
/-- the places that a state's parts but the present ditch stand in -/
def m_obs (x y : Nat) : Prop := (x = 95 ∧ (y = 3 ∨ y = 5 ∨ y = 25)) ∨ x = 97 ∨ x = 99 ∨ x = 104 ∨ x = 109 ∨ x = 110
theorem RepM.now (h : RepM I L σ) (hW : WFs σ) (hR : RR I' 96 D) (e : ∀ x y, m_obs x y → I' x y = I x y) : RepM I' L (zN σ D) := by
  obtain ⟨h1, h2, h3, h4, h5⟩ := h
  have e3 := e 95 3 (by unfold m_obs; omega)
  refine ⟨hR, ?_, ⟨fun k hk => ?_, ?_⟩, ⟨?_, fun j x hx => ?_⟩, fun s hs => ?_⟩
  · show (match σ.2.1 with
      | none => I' 95 3 = 0
      | some D => I' 95 3 = 1 ∧ RR I' 97 D)
    cases hk : σ.2.1 with
    | none =>
      rw [hk] at h2
      exact e3.trans h2
    | some E =>
      rw [hk] at h2
      exact ⟨e3.trans h2.1, h2.2.rows (hW.2.1 E hk).2.2.2.2.2.2.2.1 (fun x y w => e x y (by unfold m_obs; omega))⟩
  · rw [e 99 k (by unfold m_obs; omega)]
    exact h3.1 k hk
  · rw [e 95 5 (by unfold m_obs; omega)]
    exact h3.2
  · rw [e 95 25 (by unfold m_obs; omega)]
    exact h4.1
  · rw [e 104 j (by unfold m_obs; omega)]
    exact h4.2 j x hx
  · rw [e 109 s (by unfold m_obs; omega), e 110 s (by unfold m_obs; omega)]
    exact h5 s hs
theorem RepM.same (h : RepM I L σ) (hW : WFs σ) (hR : RR I' 96 σ.1) (e : ∀ x y, m_obs x y → I' x y = I x y) : RepM I' L σ := h.now hW hR e
theorem RepM.n96 {D' : Dst} (h : RepM I L σ) (hW : WFs σ) (hR : RR I' 96 D') (hg : q_ag (fun x _ => x = 96) I I') : RepM I' L (zN σ D') := h.now hW hR (fun x y q => hg x y (by unfold m_obs at q; omega))
theorem sp_fs_up {f : Nat → Int32} {k : Nat} : ∀ n, sp_fs (fun j => if j = k then f k + 1 else f j) n = if k < n then sp_fs f n + 1 else sp_fs f n
  | 0 => rfl
  | n + 1 => by
    show sp_fs (fun j => if j = k then f k + 1 else f j) n + (if n = k then f k + 1 else f n) = if k < n + 1 then sp_fs f n + f n + 1 else sp_fs f n + f n
    rw [sp_fs_up n]
    by_cases h : k < n
    · rw [if_pos h, if_neg (show ¬ n = k by omega), if_pos (show k < n + 1 by omega)]
      rw [Int32.add_assoc, Int32.add_comm 1 (f n), ← Int32.add_assoc]
    · rw [if_neg h]
      by_cases e : n = k
      · subst e
        rw [if_pos rfl, if_pos (by omega), Int32.add_assoc]
      · rw [if_neg e, if_neg (by omega)]
theorem RepM.fndU {k : Nat} (h : RepM I L σ) (hW : WFs σ) (hk : k < 7) : RepM (u2 (u2 I 99 k (σ.2.2.1 k + 1)) 95 5 (sp_fs σ.2.2.1 7 + 1)) L (zF σ k) := by
  obtain ⟨h1, h2, h3, h4, h5⟩ := h
  have e : ∀ x y, x ≠ 99 → (x ≠ 95 ∨ y ≠ 5) → u2 (u2 I 99 k (σ.2.2.1 k + 1)) 95 5 (sp_fs σ.2.2.1 7 + 1) x y = I x y := fun x y a1 a2 => (u2_ne a2).trans (u2_ne (Or.inl a1))
  refine ⟨h1.rows hW.1.2.2.2.2.2.2.2.1 (fun x y w => e x y (by omega) (by omega)), ?_, ⟨fun j hj => ?_, ?_⟩, ⟨?_, fun j x hx => ?_⟩, fun s hs => ?_⟩
  · have h2 := h2
    show (match σ.2.1 with
      | none => _ = (0 : Int32)
      | some D => _ = (1 : Int32) ∧ RR _ 97 D)
    cases hq : σ.2.1 with
    | none =>
      rw [hq] at h2
      exact (e 95 3 (by omega) (by omega)).trans h2
    | some E =>
      rw [hq] at h2
      exact ⟨(e 95 3 (by omega) (by omega)).trans h2.1, h2.2.rows (hW.2.1 E hq).2.2.2.2.2.2.2.1 (fun x y w => e x y (by omega) (by omega))⟩
  · show _ = if j = k then σ.2.2.1 k + 1 else σ.2.2.1 j
    rw [u2_ne (Or.inl (by omega))]
    by_cases ej : j = k
    · subst ej
      rw [u2_self, if_pos rfl]
    · rw [u2_ne (Or.inr ej), if_neg ej]
      exact h3.1 j hj
  · rw [u2_self]
    exact ((sp_fs_up 7).trans (if_pos hk)).symm
  · rw [e 95 25 (by omega) (by omega)]
    exact h4.1
  · rw [e 104 j (by omega) (by omega)]
    exact h4.2 j x hx
  · rw [e 109 s (by omega) (by omega), e 110 s (by omega) (by omega)]
    exact h5 s hs
theorem k_R_finds {k : Nat} {x : Int32} (hk7 : k < 7) (hx : -1000000001 - x = nI k) (hC : RepM I L σ) (hW : WFs σ) (hk : ∀ I', RepM I' L (zF σ k) → q_lw I I' L L → K (some (.int x)) SH RF I' L) : WW G d mt_R_finds 0 [some (.ref 95), some (.int x)] [] SH RF I L 0 0 0 0 K := by
  refine r_ald0 f_R_finds_0 ?_
  refine r_gr f_R_finds_1 (s_95) (r_95_4) ?_
  refine r_ic f_R_finds_4 ?_
  refine r_ild1 f_R_finds_6 ?_
  refine r_isub f_R_finds_7 ?_
  rw [hx]
  refine r_dup2 f_R_finds_8 ?_
  refine r_iald f_R_finds_9 (s_99) (q_ix.nI (show k < 7 from hk7) (by decide)) ?_
  rw [hC.2.2.1.1 k hk7]
  refine r_ic f_R_finds_10 ?_
  refine r_iadd f_R_finds_11 ?_
  refine r_iast f_R_finds_12 (s_99) (q_ix.nI (show k < 7 from hk7) (by decide)) ?_
  refine r_ald0 f_R_finds_13 ?_
  refine r_dupr f_R_finds_14 ?_
  refine r_gi f_R_finds_15 (s_95) ?_
  rw [show u2 I 99 k (σ.2.2.1 k + 1) 95 5 = sp_fs σ.2.2.1 7 from (u2_ne (Or.inl (by decide))).trans hC.2.2.1.2]
  refine r_ic f_R_finds_18 ?_
  refine r_iadd f_R_finds_19 ?_
  refine r_pi f_R_finds_20 (s_95) ?_
  refine r_ild1 f_R_finds_23 ?_
  refine r_iret f_R_finds_24 ⟨_, rfl, rfl⟩ (Nat.le_refl _) (Nat.le_refl _) ?_
  exact hk _ (hC.fndU hW hk7) ((q_lw.rf.u2 (by decide)).u2 (by decide))
theorem k_R_isFarm {c : Nat} {x : Int32} (hc : I 96 10 = nI c) (hc8 : c ≤ 8) (h1 : (0 ≤ x ∧ x ≤ nI c - 1) → ∀ k, k < c → x = nI k → K (some (.int 1)) SH RF I L) (h0 : ¬ (0 ≤ x ∧ x ≤ nI c - 1) → K (some (.int 0)) SH RF I L) : WW G (d + 1) mt_R_isFarm 0 [some (.ref 95), some (.int x)] [] SH RF I L 0 0 0 0 K := by
  refine r_ild1 f_R_isFarm_0 ?_
  refine r_ic f_R_isFarm_1 ?_
  refine r_ald0 f_R_isFarm_2 ?_
  refine r_gr f_R_isFarm_3 (s_95) (r_95_0) ?_
  refine r_ic f_R_isFarm_6 ?_
  refine r_iald f_R_isFarm_8 (s_96) (show q_ix 10 10 136 from ⟨by decide, by decide⟩) ?_
  rw [hc]
  refine r_ic f_R_isFarm_9 ?_
  refine r_isub f_R_isFarm_10 ?_
  refine c_R_in f_R_isFarm_11 (Nat.le_of_ble_eq_true rfl) (Nat.le_refl _) (Nat.le_refl _) ?_
  refine k_R_in (fun ha hb => ?_) (fun h => ?_)
  · obtain ⟨k, k1, k2⟩ := q_inC (by omega) ha hb
    refine r_iret f_R_isFarm_14 ⟨_, rfl, rfl⟩ (Nat.le_refl _) (Nat.le_refl _) ?_
    first | exact h1 ⟨ha, hb⟩ k k1 k2 | exact h0 h
  · refine r_iret f_R_isFarm_14 ⟨_, rfl, rfl⟩ (Nat.le_refl _) (Nat.le_refl _) ?_
    first | exact h1 ⟨ha, hb⟩ k k1 k2 | exact h0 h
theorem k_R_get {f k : Nat} (hf : f < 8) (hk7 : k < 7) (hR : RR I 96 D) (hk : K (some (.int (D.1 f k))) SH RF I L) : WW G d mt_R_get 0 [some (.ref 95), some (.int (nI f)), some (.int (nI k))] [] SH RF I L 0 0 0 0 K := by
  refine r_ald0 f_R_get_0 ?_
  refine r_gr f_R_get_1 (s_95) (r_95_0) ?_
  refine r_ic f_R_get_4 ?_
  refine r_ic f_R_get_6 ?_
  refine r_ild1 f_R_get_8 ?_
  refine r_imul f_R_get_9 ?_
  refine r_iadd f_R_get_10 ?_
  refine r_ild2 f_R_get_11 ?_
  refine r_iadd f_R_get_12 ?_
  rw [show (12 : Int32) + 7 * nI f + nI k = nI (12 + 7 * f + k) from by rw [← nI_add, ← nI_add, ← pk_mul]; rfl]
  refine r_iald f_R_get_13 (s_96) (q_ix.nI (show 12 + 7 * f + k < 136 by omega) (by decide)) ?_
  rw [hR.f hf hk7]
  refine r_iret f_R_get_14 ⟨_, rfl, rfl⟩ (Nat.le_refl _) (Nat.le_refl _) ?_
  exact hk
theorem k_R_put {f k : Nat} {v : Int32} (hf : f < 8) (hk7 : k < 7) (hR : RR I 96 D) (hk : ∀ I', RR I' 96 (eF D f k v) → q_ag (fun x _ => x = 96) I I' → K none SH RF I' L) : WW G d mt_R_put 0 [some (.ref 95), some (.int (nI f)), some (.int (nI k)), some (.int v)] [] SH RF I L 0 0 0 0 K := by
  refine r_ald0 f_R_put_0 ?_
  refine r_gr f_R_put_1 (s_95) (r_95_0) ?_
  refine r_ic f_R_put_4 ?_
  refine r_ic f_R_put_6 ?_
  refine r_ild1 f_R_put_8 ?_
  refine r_imul f_R_put_9 ?_
  refine r_iadd f_R_put_10 ?_
  refine r_ild2 f_R_put_11 ?_
  refine r_iadd f_R_put_12 ?_
  rw [show (12 : Int32) + 7 * nI f + nI k = nI (12 + 7 * f + k) from by rw [← nI_add, ← nI_add, ← pk_mul]; rfl]
  refine r_ild3 f_R_put_13 ?_
  refine r_iast f_R_put_14 (s_96) (q_ix.nI (show 12 + 7 * f + k < 136 by omega) (by decide)) ?_
  refine r_ret f_R_put_15 rfl (Nat.le_refl _) (Nat.le_refl _) ?_
  exact hk _ (hR.toF hf hk7) (q_ag.rf.u2 rfl)
end L50
