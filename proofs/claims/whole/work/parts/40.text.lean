section L40
variable {G : Gx} {d : Nat} {I I' I2 : Rn} {L : Rl} {K : Kt} {σ : St} {t : List Int32} {f g : Ps → Bool × Ps}
def p_cd (s : Ps) : Prop := ∀ c ∈ s.2, q_code c
def p_Ok (f : Ps → Bool × Ps) : Prop := ∀ s, p_cd s → p_cd (f s).2
theorem p_cd.app {a a' : Nat} {l : List Int32} {c : Int32} (h : p_cd (a, l)) (hc : q_code c) : p_cd (a', l ++ [c]) := fun x hx => by
  rcases List.mem_append.mp hx with q | q
  · exact h x q
  · rw [List.mem_singleton.mp q]
    exact hc
theorem p_num_code : ∀ (m k a : Nat), (k + 1) * 10 ^ m ≤ 10000 → q_le (p_num t m (nI k) a).1 0 9999
  | 0, k, a, h => ⟨k, Nat.zero_le _, by omega, rfl⟩
  | m + 1, k, a, h => by
    unfold p_num
    by_cases hc : 48 ≤ pN t a ∧ pN t a ≤ 57
    · rw [if_pos hc]
      obtain ⟨y, y1, y2⟩ := nI_of2 (M := 57) (n := 57) (by decide) (Int32.not_lt.mpr (Int32.le_trans (by decide) hc.1)) hc.2
      have y3 : 48 ≤ y := (nI_leI (a := 48) (by decide) (by omega)).mp (by rw [← y2]; exact hc.1)
      have e : nI k * 10 + pN t a - 48 = nI (k * 10 + (y - 48)) := by
        rw [y2, show nI k * 10 = nI (k * 10) from pk_mul k 10, nI_add, show nI (k * 10 + y) - 48 = nI (k * 10 + y - 48) from pk_sub (b := 48) (by omega)]
        congr 1
        omega
      rw [e]
      refine p_num_code m (k * 10 + (y - 48)) (a + 1) (Nat.le_trans ?_ h)
      rw [Nat.pow_succ, ← Nat.mul_assoc, Nat.mul_right_comm]
      exact Nat.mul_le_mul_right _ (by omega)
    · rw [if_neg hc]
      have h1 : k + 1 ≤ (k + 1) * 10 ^ (m + 1) := Nat.le_mul_of_pos_right _ (Nat.pow_pos (by decide))
      exact ⟨k, Nat.zero_le _, by omega, rfl⟩
theorem p_leaf_ok {s : Ps} {e : Bool × Ps} (h : p_cd s) (he : p_cd e.2) : p_cd (p_leaf t s e).2 := by
  unfold p_leaf
  by_cases hc : 48 ≤ pN t s.1 ∧ pN t s.1 ≤ 57
  · rw [if_pos hc]
    exact p_cd.app (a := 0) h (Or.inl (p_num_code 4 0 s.1 (by decide)))
  · rw [if_neg hc]
    by_cases hn : p_nam (pN t s.1)
    · rw [if_pos hn]
      refine p_cd.app (a := 0) h (Or.inr (Or.inl ?_))
      rw [Int32.neg_neg]
      unfold q_name
      rcases hn with e | e | e | e | e | e <;> rw [e] <;> decide
    · rw [if_neg hn]
      exact he
theorem p_loop_ok {x y : Int32} (hx : q_op x) (hy : q_op y) (hf : p_Ok f) : ∀ (m : Nat) (r : Bool × Ps), p_cd r.2 → p_cd (p_loop t x y f m r).2
  | 0, r, h => h
  | m + 1, r, h => by
    unfold p_loop
    by_cases hc : r.1 = true ∧ (pN t r.2.1 = x ∨ pN t r.2.1 = y)
    · rw [if_pos hc]
      refine p_loop_ok hx hy hf m _ (p_cd.app (a := 0) (hf (r.2.1 + 1, r.2.2) h) (Or.inr (Or.inr (Or.inl ?_))))
      rw [Int32.neg_neg]
      rcases hc.2 with e | e <;> rw [e] <;> assumption
    · rw [if_neg hc]
      exact h
theorem p_prod_ok (hf : p_Ok f) : p_Ok (p_prod t f) := fun s h => p_loop_ok (by unfold q_op; decide) (by unfold q_op; decide) hf 60 _ (hf s h)
theorem p_sum_ok (hf : p_Ok f) : p_Ok (p_sum t f) := fun s h => p_loop_ok (by unfold q_op; decide) (by unfold q_op; decide) (p_prod_ok hf) 60 _ (p_prod_ok hf s h)
theorem p_chain_ok (hg : p_Ok g) : ∀ (xs : List Int32) (s : Ps), p_cd s → p_cd (p_chain t g xs s).2
  | [], s, h => by
    unfold p_chain
    split <;> exact h
  | x :: xs, s, h => by
    unfold p_chain
    split
    · split
      · exact p_chain_ok hg xs _ (hg (s.1 + 1, s.2) h)
      · exact hg (s.1 + 1, s.2) h
    · exact h
theorem p_br_ok (hg : p_Ok g) : p_Ok (p_br t g) := fun s h => by
  unfold p_br
  split
  · split
    · exact hg s h
    · exact p_cd.app (a := 0) (p_chain_ok hg _ _ (hg s h)) (Or.inr (Or.inr (Or.inr (Or.inl (by decide)))))
  · exact hg s h
theorem p_fac_ok : ∀ n, p_Ok (p_fac t n)
  | 0, s, h => p_leaf_ok h h
  | n + 1, s, h => by
    unfold p_fac
    refine p_leaf_ok h ?_
    split
    · exact p_cd.app (a := 0) (p_fac_ok n (s.1 + 1, s.2) h) (Or.inr (Or.inr (Or.inr (Or.inr (by decide)))))
    · split
      · exact p_br_ok (p_sum_ok (p_fac_ok n)) (s.1 + 1, s.2) h
      · exact h
def p_text (t : List Int32) : Bool × Ps := p_sum t (p_fac t 5) (0, [])
theorem p_text_gr : p_gr t.length (0, []) (p_text t).2 := p_sum_gr (p_fac_gr 5) (0, []) (Nat.zero_le _)
theorem p_text_ok : p_cd (p_text t).2 := p_sum_ok (p_fac_ok 5) (0, []) (fun c hc => by cases hc)
def op_text (σ : St) : Int32 × St := if (p_text σ.2.2.2.1).1 = true ∧ (p_text σ.2.2.2.1).2.1 = σ.2.2.2.1.length then (0, zT (zN σ (eX σ.1 ((p_text σ.2.2.2.1).2.2.map q_tr))) []) else (-1 - nI (p_text σ.2.2.2.1).2.1, σ)
theorem k_P_parse (h60 : t.length ≤ 60) (hT : TP I t) (hk : ∀ I', PI t I' (p_text t).2 → q_ag FP I I' → K (some (.int (bI (decide ((p_text t).1 = true ∧ (p_text t).2.1 = t.length))))) SH RF I' L) : WW G (d + 60) mt_P_parse 0 [some (.ref 81)] [] SH RF I L 0 0 0 0 K := by
  have hP0 : PI t (u2 (u2 I 81 3 0) 83 3 0) (0, []) := by
    refine ⟨?_, fun j x hx => ?_, ?_, u2_self, fun j x hx => by simp at hx⟩
    · rw [u2_ne (Or.inl (by decide)), u2_ne (Or.inr (by decide))]
      exact hT.1
    · rw [u2_ne (Or.inl (by decide)), u2_ne (Or.inl (by decide))]
      exact hT.2 j x hx
    · rw [u2_ne (Or.inl (by decide))]
      exact u2_self
  have hB0 : PB t (0, []) := ⟨Nat.le_refl _, Nat.zero_le _, h60⟩
  have hgr := p_text_gr (t := t)
  refine r_ald0 f_P_parse_0 ?_
  refine r_ic f_P_parse_1 ?_
  refine r_pi f_P_parse_2 (s_81) ?_
  refine r_ald0 f_P_parse_5 ?_
  refine r_gr f_P_parse_6 (s_81) (r_81_1) ?_
  refine r_ic f_P_parse_9 ?_
  refine r_pi f_P_parse_10 (sT q_TP) ?_
  refine r_ald0 f_P_parse_13 ?_
  refine r_ic f_P_parse_14 ?_
  refine c_P_isSum f_P_parse_15 (s_81) (Nat.le_of_ble_eq_true rfl) (Nat.le_refl _) (Nat.le_refl _) ?_
  refine (k_P_isSum (d := 0 + 10 * 5 + 3 + 3) (p := 5 - 5) (p_prod_gr (p_fac_gr 5)) (k_P_isProduct (p_fac_gr 5) (fun I K s a1 a2 a3 => k_P_isFactor 5 (Nat.le_refl _) I K s a1 a2 a3)) _ _ _ hP0 hB0 (fun I2 hP2 hg2 => ?_)).up (by omega)
  replace hP2 : PI t I2 (p_text t).2 := hP2
  replace hg2 := ((q_ag.rf (P := FP) (I := I)).u2 (i := 81) (j := 3) (v := 0) (Or.inl ⟨rfl, rfl⟩)).u2 (i := 83) (j := 3) (v := 0) (Or.inr (Or.inl ⟨rfl, rfl⟩)) |>.tr hg2
  show WW _ _ _ _ _ [.int (bI (p_text t).1)] _ _ _ _ _ _ _ _ _
  replace hk := hk I2 hP2 hg2
  cases hb : (p_text t).1
  · rw [show bI false = 0 from rfl]
    rw [hb, decide_eq_false (fun q => by cases q.1)] at hk
    refine r_if_eq f_P_parse_18 (fun _ => ?_) (fun h => absurd h (by decide))
    refine r_ic f_P_parse_36 ?_
    refine r_iret f_P_parse_37 ⟨_, rfl, rfl⟩ (Nat.le_refl _) (Nat.le_refl _) ?_
    first
      | exact hk
      | rw [hb, decide_eq_true ⟨rfl, (nI_eq (by have := hgr.2.1; omega) (by omega)).mp h29⟩] at hk
        exact hk
      | rw [decide_eq_false (fun q => h29 (by rw [q.2]))] at hk
        exact hk
  · rw [show bI true = 1 from rfl]
    refine r_if_eq f_P_parse_18 (fun h => absurd h (by decide)) (fun _ => ?_)
    refine r_ald0 f_P_parse_21 ?_
    refine r_gi f_P_parse_22 (s_81) ?_
    refine r_ald0 f_P_parse_25 ?_
    refine r_gi f_P_parse_26 (s_81) ?_
    rw [hP2.2.2.1, hP2.1]
    refine r_ic_ne f_P_parse_29 (fun h29 => ?_) (fun h29 => ?_)
    · refine r_ic f_P_parse_36 ?_
      refine r_iret f_P_parse_37 ⟨_, rfl, rfl⟩ (Nat.le_refl _) (Nat.le_refl _) ?_
      first
        | exact hk
        | rw [hb, decide_eq_true ⟨rfl, (nI_eq (by have := hgr.2.1; omega) (by omega)).mp h29⟩] at hk
          exact hk
        | rw [decide_eq_false (fun q => h29 (by rw [q.2]))] at hk
          exact hk
    · refine r_ic f_P_parse_32 ?_
      refine r_goto f_P_parse_33 ?_
      refine r_iret f_P_parse_37 ⟨_, rfl, rfl⟩ (Nat.le_refl _) (Nat.le_refl _) ?_
      first
        | exact hk
        | rw [hb, decide_eq_true ⟨rfl, (nI_eq (by have := hgr.2.1; omega) (by omega)).mp h29⟩] at hk
          exact hk
        | rw [decide_eq_false (fun q => h29 (by rw [q.2]))] at hk
          exact hk
theorem RepC.fp (h : RepC I L σ) (hg : q_ag FP I I') : RepC I' L σ := by
  have e : ∀ x y, ¬ FP x y → I' x y = I x y := hg
  exact h.same (h.1.rows (fun x y a1 a2 => e x y (by unfold FP; omega))) (fun x y q => e x y (by unfold q_obs at q; unfold FP; omega))
theorem q_hi.fp (hg : q_ag FP I I') : q_hi I I' L L := fun x y hx => ⟨hg x y (by unfold FP; omega), rfl⟩
theorem RD.toX {out : List Int32} {D : Dst} (h : RD I 1 D) (e : ∀ x y, x ≠ 5 → x ≠ 6 → (x ≠ 81 ∨ y ≠ 2) → I' x y = I x y) (h1 : I' 5 3 = nI out.length) (hl : out.length ≤ 60) (h2 : ∀ (j : Nat) (x : Int32), out[j]? = some x → I' 6 j = x) (hc : ∀ c ∈ out, q_code c) : RD I' 1 (eX D (out.map q_tr)) := by
  refine ⟨?_, ?_, fun j hj => ?_⟩
  · rw [← h.1]
    unfold vD eX
    have e1 : ∀ i k, I' (1 + 9 + 2 * i) k = I (1 + 9 + 2 * i) k := fun i k => e _ _ (by omega) (by omega) (Or.inl (by omega))
    have e2 : ∀ p, I' (1 + 2) p = I (1 + 2) p := fun p => e _ _ (by decide) (by decide) (Or.inl (by decide))
    have e3 : ∀ p, I' (1 + 3) p = I (1 + 3) p := fun p => e _ _ (by decide) (by decide) (Or.inl (by decide))
    have e4 : ∀ p, I' 1 p = I 1 p := fun p => e _ _ (by decide) (by decide) (Or.inl (by decide))
    have e5 : (List.range (I' (1 + 4) 3).toNatClampNeg).map (fun j => q_tr (I' (1 + 5) j)) = out.map q_tr := by
      rw [show I' (1 + 4) 3 = nI out.length from h1, nI_clamp (by omega)]
      apply List.ext_getElem
      · simp
      · intro j j1 j2
        simp only [List.getElem_map, List.getElem_range]
        rw [List.length_map, List.length_range] at j1
        rw [show I' (1 + 5) j = out[j] from h2 j _ (List.getElem?_eq_getElem j1)]
    simp only [e1, e2, e3, e4, e5]
  · show I' 5 3 = nI (out.map q_tr).length
    rw [List.length_map]
    exact h1
  · have hj2 : j < out.length := by
      have : (eX D (out.map q_tr)).2.2.2.2.length = out.length := List.length_map ..
      omega
    rw [show I' (1 + 5) j = out[j] from h2 j _ (List.getElem?_eq_getElem hj2)]
    exact hc _ (List.getElem_mem hj2)
theorem k_N_text (hC : RepC I L σ) (hW : WFs σ) (hk : CK K I L (op_text σ)) : WW G (d + 61) mt_N_text 0 [some (.ref 0)] [] SH RF I L 0 0 0 0 K := by
  unfold op_text at hk
  have hcnt := hC.cnt hW
  have hc8 := hW.1.1.1
  have ht0 : TP I σ.2.2.2.1 := hC.2.2.2.1
  have h60 := hW.2.2.1.1
  have hgr := p_text_gr (t := σ.2.2.2.1)
  refine r_ald0 f_N_text_0 ?_
  refine r_gr f_N_text_1 (s_0) (r_0_4) ?_
  refine c_P_parse f_N_text_4 (s_81) (Nat.le_of_ble_eq_true rfl) (Nat.le_refl _) (Nat.le_refl _) ?_
  refine k_P_parse h60 ht0 (fun I2 hP2 hg2 => ?_)
  have hC2 := hC.fp hg2
  by_cases hq : (p_text σ.2.2.2.1).1 = true ∧ (p_text σ.2.2.2.1).2.1 = σ.2.2.2.1.length
  · rw [decide_eq_true hq, show bI true = 1 from rfl]
    rw [if_pos hq] at hk
    refine r_if_ne f_N_text_7 (fun _ => ?_) (fun h => absurd h (by decide))
    refine r_ald0 f_N_text_20 ?_
    refine r_gr f_N_text_21 (s_0) (r_0_0) ?_
    refine r_gr f_N_text_24 (sD q_D1) (rD3 q_D1) ?_
    refine r_ald0 f_N_text_27 ?_
    refine r_gr f_N_text_28 (s_0) (r_0_4) ?_
    refine r_gr f_N_text_31 (s_81) (r_81_1) ?_
    refine c_T_become f_N_text_34 (sT (q_TD q_D1)) (Nat.le_of_ble_eq_true rfl) (Nat.le_refl _) (Nat.le_refl _) ?_
    refine (k_T_become (d := 0) (q_TD q_D1) q_TP ?_).up (by omega)
    refine r_ald0 f_N_text_37 ?_
    refine r_gr f_N_text_38 (s_0) (r_0_4) ?_
    refine r_ic f_N_text_41 ?_
    refine r_pi f_N_text_42 (s_81) ?_
    refine r_ic f_N_text_45 ?_
    refine r_iret f_N_text_46 ⟨_, rfl, rfl⟩ (Nat.le_refl _) (Nat.le_refl _) ?_
    generalize hI3 : u2 (u2 (q_cpy I2 (83 + 1) 0 (1 + 4 + 1) 0 60) (1 + 4) 3 (q_cpy I2 (83 + 1) 0 (1 + 4 + 1) 0 60 83 3)) 81 2 0 = I3
    have e : ∀ x y, x ≠ 5 → x ≠ 6 → (x ≠ 81 ∨ y ≠ 2) → I3 x y = I2 x y := fun x y a1 a2 a3 => by
      rw [← hI3, u2_ne a3, u2_ne (Or.inl a1)]
      exact congrFun (q_cpy_row a2) y
    have e5 : I3 5 3 = nI (p_text σ.2.2.2.1).2.2.length := by
      rw [← hI3, u2_ne (Or.inl (by decide)), u2_self, q_cpy_row (by decide)]
      exact hP2.2.2.2.1
    have hl : (p_text σ.2.2.2.1).2.2.length ≤ 60 := by
      unfold p_gr at hgr
      dsimp only [List.length_nil] at hgr
      omega
    have e6 : ∀ (j : Nat) (x : Int32), (p_text σ.2.2.2.1).2.2[j]? = some x → I3 6 j = x := fun j x hx => by
      have hj := (List.getElem?_eq_some_iff.mp hx).1
      rw [← hI3, u2_ne (Or.inl (by decide)), u2_ne (Or.inl (by decide))]
      unfold q_cpy
      rw [if_pos ⟨rfl, by omega, by omega⟩, show 0 + (j - 0) = j by omega]
      exact hP2.2.2.2.2 j x hx
    refine hk _ _ ⟨hC2.1.toX e e5 hl e6 p_text_ok, hC2.kp (e _ _ (by decide) (by decide) (Or.inl (by decide))) (fun x y a1 a2 => e x y (by omega) (by omega) (by omega)), fun j hj => (e _ _ (by decide) (by decide) (Or.inl (by decide))).trans (hC2.2.2.1 j hj), ⟨?_, fun j x hx => by cases hx⟩, fun s hs => ?_⟩ (fun x y hx => ⟨(e x y (by omega) (by omega) (by omega)).trans (q_hi.fp (L := L) hg2 x y hx).1, rfl⟩)
    · rw [← hI3]
      exact u2_self
    · rw [e 92 s (by decide) (by decide) (Or.inl (by decide)), e 93 s (by decide) (by decide) (Or.inl (by decide))]
      exact hC2.2.2.2.2 s hs
  · rw [decide_eq_false hq, show bI false = 0 from rfl]
    rw [if_neg hq] at hk
    refine r_if_ne f_N_text_7 (fun h => absurd h (by decide)) (fun _ => ?_)
    refine r_ic f_N_text_10 ?_
    refine r_ald0 f_N_text_11 ?_
    refine r_gr f_N_text_12 (s_0) (r_0_4) ?_
    refine r_gi f_N_text_15 (s_81) ?_
    rw [hP2.2.2.1]
    refine r_isub f_N_text_18 ?_
    refine r_iret f_N_text_19 ⟨_, rfl, rfl⟩ (Nat.le_refl _) (Nat.le_refl _) ?_
    exact hk _ _ hC2 (q_hi.fp hg2)
end L40
