/-- two worlds alike but for places of P -/
def q_ag (P : Nat → Nat → Prop) (I I' : Rn) : Prop := ∀ x y, ¬ P x y → I' x y = I x y
theorem q_ag.rf {P : Nat → Nat → Prop} {I : Rn} : q_ag P I I := fun _ _ _ => rfl
theorem q_ag.tr {P : Nat → Nat → Prop} {I I' I2 : Rn} (h : q_ag P I I') (h2 : q_ag P I' I2) : q_ag P I I2 := fun x y hp => (h2 x y hp).trans (h x y hp)
theorem q_ag.mo {P P2 : Nat → Nat → Prop} {I I' : Rn} (h : q_ag P I I') (hp : ∀ x y, P x y → P2 x y) : q_ag P2 I I' := fun x y hn => h x y (fun q => hn (hp x y q))
theorem q_ag.u2 {P : Nat → Nat → Prop} {I I' : Rn} {i j : Nat} {v : Int32} (h : q_ag P I I') (hp : P i j) : q_ag P I (u2 I' i j v) := fun x y hn => by
  rw [u2_ne (by
    rcases Nat.decEq x i with e | e
    · exact Or.inl e
    · subst e
      exact Or.inr (fun e2 => hn (by rw [e2]; exact hp)))]
  exact h x y hn
/-- the scratch of a text: its stack and the stack's height -/
def FT (t : Nat) : Nat → Nat → Prop := fun x y => (x = t ∧ y = 2) ∨ x = t + 2
section L22
variable {G : Gx} {d : Nat} {S : Shp} {R : Rf} {I : Rn} {L : Rl} {K : Kt}
theorem k_T_isThere {t n : Nat} (ht : q_T t) (hn : I t 3 = nI n) (hn2 : n < 2 ^ 31) (h1 : 0 < n → K (some (.int 1)) SH RF I L) (h0 : n = 0 → K (some (.int 0)) SH RF I L) : WW G d mt_T_isThere 0 [some (.ref t)] [] SH RF I L 0 0 0 0 K := by
  refine r_ald0 f_T_isThere_0 ?_
  refine r_gi f_T_isThere_1 (sT ht) ?_
  rw [hn]
  refine r_if_le f_T_isThere_4 (fun h4 => ?_) (fun h4 => ?_)
  · refine r_ic f_T_isThere_11 ?_
    refine r_iret f_T_isThere_12 ⟨_, rfl, rfl⟩ (Nat.le_refl _) (Nat.le_refl _) ?_
    first | exact h0 (by
      rcases Nat.eq_zero_or_pos n with e | e
      · exact e
      · exact absurd h4 (nI_nle e hn2)) | exact h1 (by
      rcases Nat.eq_zero_or_pos n with e | e
      · subst e
        exact absurd (by decide) h4
      · exact e)
  · refine r_ic f_T_isThere_7 ?_
    refine r_goto f_T_isThere_8 ?_
    refine r_iret f_T_isThere_12 ⟨_, rfl, rfl⟩ (Nat.le_refl _) (Nat.le_refl _) ?_
    first | exact h0 (by
      rcases Nat.eq_zero_or_pos n with e | e
      · exact e
      · exact absurd h4 (nI_nle e hn2)) | exact h1 (by
      rcases Nat.eq_zero_or_pos n with e | e
      · subst e
        exact absurd (by decide) h4
      · exact e)
theorem k_T_become {t t2 : Nat} (ht : q_T t) (ht2 : q_T t2) (hk : K none SH RF (u2 (q_cpy I (t2 + 1) 0 (t + 1) 0 60) t 3 (q_cpy I (t2 + 1) 0 (t + 1) 0 60 t2 3)) L) : WW G (d + 1) mt_T_become 0 [some (.ref t), some (.ref t2)] [] SH RF I L 0 0 0 0 K := by
  refine r_ald1 f_T_become_0 ?_
  refine r_gr f_T_become_1 (sT ht2) (rT0 ht2) ?_
  refine r_ic f_T_become_4 ?_
  refine r_ald0 f_T_become_5 ?_
  refine r_gr f_T_become_6 (sT ht) (rT0 ht) ?_
  refine r_ic f_T_become_9 ?_
  refine r_ic f_T_become_10 ?_
  refine r_cpi f_T_become_12 (sT1 ht2) (sT1 ht) (jn := 60) (sp := 0) (dp := 0) (by decide) (by decide) (by decide) (by decide) (by decide) (Nat.le_of_ble_eq_true rfl) ?_
  refine r_ald0 f_T_become_15 ?_
  refine r_ald1 f_T_become_16 ?_
  refine r_gi f_T_become_17 (sT ht2) ?_
  refine r_pi f_T_become_20 (sT ht) ?_
  refine r_ret f_T_become_23 rfl (Nat.le_refl _) (Nat.le_refl _) ?_
  exact hk
theorem k_T_append {t n : Nat} {x : Int32} (ht : q_T t) (hn : I t 3 = nI n) (hn2 : n < 60) (hk : K none SH RF (u2 (u2 I (t + 1) n x) t 3 (nI (n + 1))) L) : WW G d mt_T_append 0 [some (.ref t), some (.int x)] [] SH RF I L 0 0 0 0 K := by
  refine r_ald0 f_T_append_0 ?_
  refine r_gi f_T_append_1 (sT ht) ?_
  rw [hn]
  refine r_ic f_T_append_4 ?_
  refine r_ic_ge f_T_append_6 (fun h6 => absurd h6 (nI_ge hn2 (by decide))) (fun h6 => ?_)
  refine r_ald0 f_T_append_9 ?_
  refine r_gr f_T_append_10 (sT ht) (rT0 ht) ?_
  refine r_ald0 f_T_append_13 ?_
  refine r_gi f_T_append_14 (sT ht) ?_
  rw [hn]
  refine r_ild1 f_T_append_17 ?_
  refine r_iast f_T_append_18 (sT1 ht) (q_ix.nI (by omega) (by decide)) ?_
  refine r_ald0 f_T_append_19 ?_
  refine r_dupr f_T_append_20 ?_
  refine r_gi f_T_append_21 (sT ht) ?_
  rw [u2_ne (Or.inl (by omega)), hn, ]
  refine r_ic f_T_append_24 ?_
  refine r_iadd f_T_append_25 ?_
  rw [nI_1]
  refine r_pi f_T_append_26 (sT ht) ?_
  refine r_ret f_T_append_29 rfl (Nat.le_refl _) (Nat.le_refl _) ?_
  exact hk
theorem k_T_push {t n : Nat} {x : Int32} (ht : q_T t) (hn : I t 2 = nI n) (hn2 : n < 60) (hk : K none SH RF (u2 (u2 I (t + 2) n x) t 2 (nI (n + 1))) L) : WW G d mt_T_push 0 [some (.ref t), some (.int x)] [] SH RF I L 0 0 0 0 K := by
  refine r_ald0 f_T_push_0 ?_
  refine r_gi f_T_push_1 (sT ht) ?_
  rw [hn]
  refine r_ic f_T_push_4 ?_
  refine r_ic_ge f_T_push_6 (fun h6 => absurd h6 (nI_ge hn2 (by decide))) (fun h6 => ?_)
  refine r_ald0 f_T_push_9 ?_
  refine r_gr f_T_push_10 (sT ht) (rT1 ht) ?_
  refine r_ald0 f_T_push_13 ?_
  refine r_gi f_T_push_14 (sT ht) ?_
  rw [hn]
  refine r_ild1 f_T_push_17 ?_
  refine r_iast f_T_push_18 (sT2 ht) (q_ix.nI (by omega) (by decide)) ?_
  refine r_ald0 f_T_push_19 ?_
  refine r_dupr f_T_push_20 ?_
  refine r_gi f_T_push_21 (sT ht) ?_
  rw [u2_ne (Or.inl (by omega)), hn]
  refine r_ic f_T_push_24 ?_
  refine r_iadd f_T_push_25 ?_
  rw [nI_1]
  refine r_pi f_T_push_26 (sT ht) ?_
  refine r_ret f_T_push_29 rfl (Nat.le_refl _) (Nat.le_refl _) ?_
  exact hk
theorem k_T_pop {t n : Nat} (ht : q_T t) (hn : I t 2 = nI (n + 1)) (hn2 : n < 60) (hk : K (some (.int (I (t + 2) n))) SH RF (u2 I t 2 (nI n)) L) : WW G d mt_T_pop 0 [some (.ref t)] [] SH RF I L 0 0 0 0 K := by
  refine r_ald0 f_T_pop_0 ?_
  refine r_gi f_T_pop_1 (sT ht) ?_
  rw [hn]
  refine r_if_ne f_T_pop_4 (fun h4 => ?_) (fun h4 => absurd h4 (nI_ne0 (Nat.succ_pos n) (by omega)))
  refine r_ald0 f_T_pop_9 ?_
  refine r_dupr f_T_pop_10 ?_
  refine r_gi f_T_pop_11 (sT ht) ?_
  rw [hn]
  refine r_ic f_T_pop_14 ?_
  refine r_isub f_T_pop_15 ?_
  rw [nI_pred]
  refine r_pi f_T_pop_16 (sT ht) ?_
  refine r_ald0 f_T_pop_19 ?_
  refine r_gr f_T_pop_20 (sT ht) (rT1 ht) ?_
  refine r_ald0 f_T_pop_23 ?_
  refine r_gi f_T_pop_24 (sT ht) ?_
  rw [u2_self]
  refine r_iald f_T_pop_27 (sT2 ht) (q_ix.nI (by omega) (by decide)) ?_
  rw [u2_ne (Or.inl (by omega))]
  refine r_iret f_T_pop_28 ⟨_, rfl, rfl⟩ (Nat.le_refl _) (Nat.le_refl _) ?_
  exact hk
/-- the stack of a text as a list, its top first -/
def q_stk (I : Rn) (t : Nat) (s : List Int32) : Prop := I t 2 = nI s.length ∧ ∀ (j : Nat) (x : Int32), s.reverse[j]? = some x → I (t + 2) j = x
theorem q_stk.push {t : Nat} {s : List Int32} {x : Int32} (h : q_stk I t s) : q_stk (u2 (u2 I (t + 2) s.length x) t 2 (nI (s.length + 1))) t (x :: s) := by
  refine ⟨u2_self, fun j y hj => ?_⟩
  rw [u2_ne (Or.inl (by omega))]
  rw [List.reverse_cons] at hj
  by_cases e : j = s.length
  · subst e
    rw [List.getElem?_append_right (by simp)] at hj
    simp at hj
    rw [u2_self, hj]
  · have hl : j < s.reverse.length := by
      have := (List.getElem?_eq_some_iff.mp hj).1
      simp at this ⊢
      omega
    rw [List.getElem?_append_left hl] at hj
    rw [u2_ne (Or.inr e)]
    exact h.2 j y hj
theorem q_stk.pop {t : Nat} {s : List Int32} {x : Int32} (h : q_stk I t (x :: s)) : I (t + 2) s.length = x ∧ q_stk (u2 I t 2 (nI s.length)) t s := by
  refine ⟨h.2 s.length x (by simp), u2_self, fun j y hj => ?_⟩
  rw [u2_ne (Or.inl (by omega))]
  refine h.2 j y ?_
  rw [List.reverse_cons, List.getElem?_append_left (List.getElem?_eq_some_iff.mp hj).1]
  exact hj
theorem p_T_push {t : Nat} {s : List Int32} {x : Int32} (ht : q_T t) (h : q_stk I t s) (hs : s.length < 60) (hk : ∀ I', q_stk I' t (x :: s) → q_ag (FT t) I I' → K none SH RF I' L) : WW G d mt_T_push 0 [some (.ref t), some (.int x)] [] SH RF I L 0 0 0 0 K :=
  k_T_push ht h.1 hs (hk _ h.push ((q_ag.rf.u2 (Or.inr rfl)).u2 (Or.inl ⟨rfl, rfl⟩)))
theorem p_T_pop {t : Nat} {s : List Int32} {x : Int32} (ht : q_T t) (h : q_stk I t (x :: s)) (hs : s.length < 60) (hk : ∀ I', q_stk I' t s → q_ag (FT t) I I' → K (some (.int x)) SH RF I' L) : WW G d mt_T_pop 0 [some (.ref t)] [] SH RF I L 0 0 0 0 K := by
  refine k_T_pop ht h.1 hs ?_
  obtain ⟨h1, h2⟩ := h.pop
  rw [h1]
  exact hk _ h2 (q_ag.rf.u2 (Or.inl ⟨rfl, rfl⟩))
theorem k_T_isName {x : Int32} (h1 : x = 100 ∨ x = 104 ∨ x = 105 ∨ x = 110 ∨ x = 111 ∨ x = 121 → K (some (.int 1)) S R I L) (h0 : ¬ (x = 100 ∨ x = 104 ∨ x = 105 ∨ x = 110 ∨ x = 111 ∨ x = 121) → K (some (.int 0)) S R I L) : WW G d mt_T_isName 0 [some (.int x)] [] S R I L 0 0 0 0 K := by
  refine r_ild0 f_T_isName_0 ?_
  refine r_sw f_T_isName_1 ?_
  refine r_swc (k := 100) (by decide) (fun e1_100 => ?_) (fun e1_100 => ?_)
  · refine r_ic f_T_isName_60 ?_
    refine r_iret f_T_isName_61 ⟨_, rfl, rfl⟩ (Nat.le_refl _) (Nat.le_refl _) ?_
    exact h1 (by simp [*])
  refine r_swc (k := 104) (by decide) (fun e1_104 => ?_) (fun e1_104 => ?_)
  · refine r_ic f_T_isName_60 ?_
    refine r_iret f_T_isName_61 ⟨_, rfl, rfl⟩ (Nat.le_refl _) (Nat.le_refl _) ?_
    exact h1 (by simp [*])
  refine r_swc (k := 105) (by decide) (fun e1_105 => ?_) (fun e1_105 => ?_)
  · refine r_ic f_T_isName_60 ?_
    refine r_iret f_T_isName_61 ⟨_, rfl, rfl⟩ (Nat.le_refl _) (Nat.le_refl _) ?_
    exact h1 (by simp [*])
  refine r_swc (k := 110) (by decide) (fun e1_110 => ?_) (fun e1_110 => ?_)
  · refine r_ic f_T_isName_60 ?_
    refine r_iret f_T_isName_61 ⟨_, rfl, rfl⟩ (Nat.le_refl _) (Nat.le_refl _) ?_
    exact h1 (by simp [*])
  refine r_swc (k := 111) (by decide) (fun e1_111 => ?_) (fun e1_111 => ?_)
  · refine r_ic f_T_isName_60 ?_
    refine r_iret f_T_isName_61 ⟨_, rfl, rfl⟩ (Nat.le_refl _) (Nat.le_refl _) ?_
    exact h1 (by simp [*])
  refine r_swc (k := 121) (by decide) (fun e1_121 => ?_) (fun e1_121 => ?_)
  · refine r_ic f_T_isName_60 ?_
    refine r_iret f_T_isName_61 ⟨_, rfl, rfl⟩ (Nat.le_refl _) (Nat.le_refl _) ?_
    exact h1 (by simp [*])
  refine r_swn ?_
  refine r_ic f_T_isName_62 ?_
  refine r_iret f_T_isName_63 ⟨_, rfl, rfl⟩ (Nat.le_refl _) (Nat.le_refl _) ?_
  exact h0 (by simp [*])
def sp_done (m x y : Int32) : Int32 := if m = 10100 then x + y else if m = 10101 then x - y else if m = 10102 then x * y else if y = 0 then 0 else x / y
/-- the class's signs as the model's -/
def q_tr (c : Int32) : Int32 := if 0 ≤ c then c else if c = -100 then 10000 else if c = -121 then 10001 else if c = -104 then 10002 else if c = -105 then 10003 else if c = -110 then 10004 else if c = -111 then 10005 else if c = -43 then 10100 else if c = -45 then 10101 else if c = -42 then 10102 else if c = -47 then 10103 else if c = -63 then 10104 else 10105
def q_op (c : Int32) : Prop := c = 43 ∨ c = 45 ∨ c = 42 ∨ c = 47
theorem k_T_joined {c x y : Int32} (hc : q_op c) (hk : K (some (.int (sp_done (q_tr (-c)) x y))) S R I L) : WW G d mt_T_joined 0 [some (.int c), some (.int x), some (.int y)] [] S R I L 0 0 0 0 K := by
  rcases hc with rfl | rfl | rfl | rfl
  · refine r_ild0 f_T_joined_0 ?_
    refine r_swl f_T_joined_1 (show q_swt _ _ _ = 32 by decide) ?_
    refine r_ild1 f_T_joined_32 ?_
    refine r_ild2 f_T_joined_33 ?_
    refine r_iadd f_T_joined_34 ?_
    refine r_iret f_T_joined_35 ⟨_, rfl, rfl⟩ (Nat.le_refl _) (Nat.le_refl _) ?_
    rw [show q_tr (-43) = 10100 from by decide] at hk
    exact hk
  · refine r_ild0 f_T_joined_0 ?_
    refine r_swl f_T_joined_1 (show q_swt _ _ _ = 36 by decide) ?_
    refine r_ild1 f_T_joined_36 ?_
    refine r_ild2 f_T_joined_37 ?_
    refine r_isub f_T_joined_38 ?_
    refine r_iret f_T_joined_39 ⟨_, rfl, rfl⟩ (Nat.le_refl _) (Nat.le_refl _) ?_
    rw [show q_tr (-45) = 10101 from by decide] at hk
    exact hk
  · refine r_ild0 f_T_joined_0 ?_
    refine r_swl f_T_joined_1 (show q_swt _ _ _ = 40 by decide) ?_
    refine r_ild1 f_T_joined_40 ?_
    refine r_ild2 f_T_joined_41 ?_
    refine r_imul f_T_joined_42 ?_
    refine r_iret f_T_joined_43 ⟨_, rfl, rfl⟩ (Nat.le_refl _) (Nat.le_refl _) ?_
    rw [show q_tr (-42) = 10102 from by decide] at hk
    exact hk
  · refine r_ild0 f_T_joined_0 ?_
    refine r_swl f_T_joined_1 (show q_swt _ _ _ = 44 by decide) ?_
    refine r_ild2 f_T_joined_44 ?_
    refine r_if_ne f_T_joined_45 (fun h45 => ?_) (fun h45 => ?_)
    · refine r_ild1 f_T_joined_52 ?_
      refine r_ild2 f_T_joined_53 ?_
      refine r_idiv f_T_joined_54 h45 ?_
      refine r_iret f_T_joined_55 ⟨_, rfl, rfl⟩ (Nat.le_refl _) (Nat.le_refl _) ?_
      rw [show q_tr (-47) = 10103 from by decide] at hk
      simp only [sp_done] at hk
      first | (rw [if_neg (by decide), if_neg (by decide), if_neg (by decide), if_neg h45] at hk; exact hk) | (rw [if_neg (by decide), if_neg (by decide), if_neg (by decide), if_pos h45] at hk; exact hk)
    · refine r_ic f_T_joined_48 ?_
      refine r_goto f_T_joined_49 ?_
      refine r_iret f_T_joined_55 ⟨_, rfl, rfl⟩ (Nat.le_refl _) (Nat.le_refl _) ?_
      rw [show q_tr (-47) = 10103 from by decide] at hk
      simp only [sp_done] at hk
      first | (rw [if_neg (by decide), if_neg (by decide), if_neg (by decide), if_neg h45] at hk; exact hk) | (rw [if_neg (by decide), if_neg (by decide), if_neg (by decide), if_pos h45] at hk; exact hk)
end L22
