section L24
variable {G : Gx} {d : Nat} {I : Rn} {L : Rl} {K : Kt}
def q_name (c : Int32) : Prop := c = 100 ∨ c = 121 ∨ c = 104 ∨ c = 105 ∨ c = 110 ∨ c = 111
/-- a sign as the class has it -/
def q_code (c : Int32) : Prop := q_le c 0 9999 ∨ q_name (-c) ∨ q_op (-c) ∨ -c = 63 ∨ -c = 126
/-- the class's ditch b holds D -/
def RD (I : Rn) (b : Nat) (D : Dst) : Prop := vD I b = D ∧ I (b + 4) 3 = nI D.2.2.2.2.length ∧ ∀ j, j < D.2.2.2.2.length → q_code (I (b + 5) j)
theorem vD_f {b i k : Nat} (hi : i < 8) (hk : k < 7) : (vD I b).1 i k = I (b + 9 + 2 * i) k := if_pos ⟨hi, hk⟩
theorem vD_o {b p : Nat} (hp : p < 8) : (vD I b).2.1 p = I (b + 2) p := if_pos hp
theorem vD_u {b k : Nat} (hk : k < 5) : (vD I b).2.2.1 k = I (b + 3) k := if_pos hk
theorem k_T_named {b f p : Nat} {c : Int32} (hb : q_D b) (hf : f < 8) (hc : q_name c) (hk : K (some (.int (sp_fact (vD I b) f p (q_tr (-c) - 10000)))) SH RF I L) : WW G d mt_T_named 0 [some (.int c), some (.ref b), some (.int (nI f)), some (.int (nI p))] [] SH RF I L 0 0 0 0 K := by
  rcases hc with rfl | rfl | rfl | rfl | rfl | rfl
  · refine r_ild0 f_T_named_0 ?_
    refine r_swl f_T_named_1 (show q_swt _ _ _ = 52 by decide) ?_
    refine r_ald1 f_T_named_52 ?_
    refine r_gi f_T_named_53 (sD hb) ?_
    refine r_iret f_T_named_56 ⟨_, rfl, rfl⟩ (Nat.le_refl _) (Nat.le_refl _) ?_
    rw [show q_tr (-100) - 10000 = 0 from by decide] at hk
    exact hk
  · refine r_ild0 f_T_named_0 ?_
    refine r_swl f_T_named_1 (show q_swt _ _ _ = 57 by decide) ?_
    refine r_ald1 f_T_named_57 ?_
    refine r_gi f_T_named_58 (sD hb) ?_
    refine r_iret f_T_named_61 ⟨_, rfl, rfl⟩ (Nat.le_refl _) (Nat.le_refl _) ?_
    rw [show q_tr (-121) - 10000 = 1 from by decide] at hk
    exact hk
  · refine r_ild0 f_T_named_0 ?_
    refine r_swl f_T_named_1 (show q_swt _ _ _ = 62 by decide) ?_
    refine r_ald1 f_T_named_62 ?_
    refine r_gr f_T_named_63 (sD hb) (rD0 hb) ?_
    refine r_ild2 f_T_named_66 ?_
    refine r_aald f_T_named_67 (Or.inl rfl) (sD1 hb) (q_ix.nI (by omega) (by decide)) (rDF hb (by omega)) ?_
    refine r_gi f_T_named_68 (sDF hb (by omega)) ?_
    refine r_iret f_T_named_71 ⟨_, rfl, rfl⟩ (Nat.le_refl _) (Nat.le_refl _) ?_
    rw [show q_tr (-104) - 10000 = 2 from by decide] at hk
    have e : sp_fact (vD I b) f p 2 = I (b + 9 + 2 * f) 1 := vD_f hf (by decide)
    rw [e] at hk
    exact hk
  · refine r_ild0 f_T_named_0 ?_
    refine r_swl f_T_named_1 (show q_swt _ _ _ = 72 by decide) ?_
    refine r_ild2 f_T_named_72 ?_
    refine r_iret f_T_named_73 ⟨_, rfl, rfl⟩ (Nat.le_refl _) (Nat.le_refl _) ?_
    rw [show q_tr (-105) - 10000 = 3 from by decide] at hk
    exact hk
  · refine r_ild0 f_T_named_0 ?_
    refine r_swl f_T_named_1 (show q_swt _ _ _ = 74 by decide) ?_
    refine r_ald1 f_T_named_74 ?_
    refine r_gi f_T_named_75 (sD hb) ?_
    refine r_iret f_T_named_78 ⟨_, rfl, rfl⟩ (Nat.le_refl _) (Nat.le_refl _) ?_
    rw [show q_tr (-110) - 10000 = 4 from by decide] at hk
    exact hk
  · refine r_ild0 f_T_named_0 ?_
    refine r_swl f_T_named_1 (show q_swt _ _ _ = 79 by decide) ?_
    refine r_ild3 f_T_named_79 ?_
    refine r_iret f_T_named_80 ⟨_, rfl, rfl⟩ (Nat.le_refl _) (Nat.le_refl _) ?_
    rw [show q_tr (-111) - 10000 = 5 from by decide] at hk
    exact hk
theorem p_T_work {t : Nat} {s : List Int32} {x : Int32} (fc : Int32 → Int32) (ht : q_T t) (h : q_stk I t s) (hs : s.length ≤ 60) (hx : q_op x ∨ x = 63 ∨ x = 126) (hn : sp_need (q_tr (-x)) ≤ s.length) (hk : ∀ I', q_stk I' t (sp_step fc (q_tr (-x)) s) → q_ag (FT t) I I' → K none SH RF I' L) : WW G (d + 1) mt_T_work 0 [some (.ref t), some (.int x), none, none, none] [] SH RF I L 0 0 0 0 K := by
  rcases hx with hx | rfl | rfl
  · have e2 : sp_need (q_tr (-x)) = 2 := by rcases hx with rfl | rfl | rfl | rfl <;> decide
    have e3 : ∀ y z r, sp_step fc (q_tr (-x)) (y :: z :: r) = sp_done (q_tr (-x)) z y :: r := by
      intro y z r
      rcases hx with rfl | rfl | rfl | rfl <;> rfl
    have n1 : ¬ x = 126 := by rcases hx with rfl | rfl | rfl | rfl <;> decide
    have n2 : ¬ x = 63 := by rcases hx with rfl | rfl | rfl | rfl <;> decide
    rw [e2] at hn
    match s, hn, h, hs, hk with
    | y :: z :: r, hn, h, hs, hk =>
      rw [e3] at hk
      refine r_ald0 f_T_work_0 ?_
      refine c_T_pop f_T_work_1 (sT ht) (Nat.le_of_ble_eq_true rfl) (Nat.le_refl _) (Nat.le_refl _) ?_
      refine p_T_pop ht h (by simp at hs ⊢; omega) (fun I1 q1 g1 => ?_)
      refine r_ist2 f_T_work_4 rfl ?_
      refine r_ild1 f_T_work_5 ?_
      refine r_ic f_T_work_6 ?_
      refine r_ic_ne f_T_work_8 (fun h8 => ?_) (fun h8 => absurd h8 n1)
      refine r_ild1 f_T_work_20 ?_
      refine r_ic f_T_work_21 ?_
      refine r_ic_ne f_T_work_23 (fun h23 => ?_) (fun h23 => absurd h23 n2)
      refine r_ald0 f_T_work_58 ?_
      refine r_ild1 f_T_work_59 ?_
      refine r_ald0 f_T_work_60 ?_
      refine c_T_pop f_T_work_61 (sT ht) (Nat.le_of_ble_eq_true rfl) (Nat.le_refl _) (Nat.le_refl _) ?_
      refine p_T_pop ht q1 (by simp at hs ⊢; omega) (fun I2 q2 g2 => ?_)
      refine r_ild2 f_T_work_64 ?_
      refine c_T_joined f_T_work_65 (Nat.le_of_ble_eq_true rfl) (Nat.le_refl _) (Nat.le_refl _) ?_
      refine k_T_joined hx ?_
      refine c_T_push f_T_work_68 (sT ht) (Nat.le_of_ble_eq_true rfl) (Nat.le_refl _) (Nat.le_refl _) ?_
      refine p_T_push ht q2 (by simp at hs ⊢; omega) (fun I3 q3 g3 => ?_)
      refine r_ret f_T_work_71 rfl (Nat.le_refl _) (Nat.le_refl _) ?_
      exact hk I3 q3 ((g1.tr g2).tr g3)
  · have e2 : sp_need (q_tr (-63)) = 4 := by decide
    rw [e2] at hn
    match s, hn, h, hs, hk with
    | e :: t9 :: r :: l9 :: s9, hn, h, hs, hk =>
      have e3 : sp_step fc (q_tr (-63)) (e :: t9 :: r :: l9 :: s9) = (if l9 < r then t9 else e) :: s9 := rfl
      rw [e3] at hk
      refine r_ald0 f_T_work_0 ?_
      refine c_T_pop f_T_work_1 (sT ht) (Nat.le_of_ble_eq_true rfl) (Nat.le_refl _) (Nat.le_refl _) ?_
      refine p_T_pop ht h (by simp at hs ⊢; omega) (fun I1 q1 g1 => ?_)
      refine r_ist2 f_T_work_4 rfl ?_
      refine r_ild1 f_T_work_5 ?_
      refine r_ic f_T_work_6 ?_
      refine r_ic_ne f_T_work_8 (fun _ => ?_) (fun h => absurd h (by decide))
      refine r_ild1 f_T_work_20 ?_
      refine r_ic f_T_work_21 ?_
      refine r_ic_ne f_T_work_23 (fun h => absurd h (by decide)) (fun _ => ?_)
      refine r_ald0 f_T_work_26 ?_
      refine c_T_pop f_T_work_27 (sT ht) (Nat.le_of_ble_eq_true rfl) (Nat.le_refl _) (Nat.le_refl _) ?_
      refine p_T_pop ht q1 (by simp at hs ⊢; omega) (fun I2 q2 g2 => ?_)
      refine r_ist3 f_T_work_30 rfl ?_
      refine r_ald0 f_T_work_31 ?_
      refine c_T_pop f_T_work_32 (sT ht) (Nat.le_of_ble_eq_true rfl) (Nat.le_refl _) (Nat.le_refl _) ?_
      refine p_T_pop ht q2 (by simp at hs ⊢; omega) (fun I3 q3 g3 => ?_)
      refine r_ist4 f_T_work_35 rfl ?_
      refine r_ald0 f_T_work_37 ?_
      refine r_ald0 f_T_work_38 ?_
      refine c_T_pop f_T_work_39 (sT ht) (Nat.le_of_ble_eq_true rfl) (Nat.le_refl _) (Nat.le_refl _) ?_
      refine p_T_pop ht q3 (by simp at hs ⊢; omega) (fun I4 q4 g4 => ?_)
      refine r_ild4 f_T_work_42 ?_
      refine r_ic_ge f_T_work_44 (fun h44 => ?_) (fun h44 => ?_)
      · refine r_ild2 f_T_work_51 ?_
        refine c_T_push f_T_work_52 (sT ht) (Nat.le_of_ble_eq_true rfl) (Nat.le_refl _) (Nat.le_refl _) ?_
        refine p_T_push ht q4 (by simp at hs ⊢; omega) (fun I5 q5 g5 => ?_)
        refine r_goto f_T_work_55 ?_
        refine r_ret f_T_work_71 rfl (Nat.le_refl _) (Nat.le_refl _) ?_
        first | (rw [if_pos (Int32.not_le.mp h44)] at hk; exact hk I5 q5 ((((g1.tr g2).tr g3).tr g4).tr g5)) | (rw [if_neg (Int32.not_lt.mpr h44)] at hk; exact hk I5 q5 ((((g1.tr g2).tr g3).tr g4).tr g5))
      · refine r_ild3 f_T_work_47 ?_
        refine r_goto f_T_work_48 ?_
        refine c_T_push f_T_work_52 (sT ht) (Nat.le_of_ble_eq_true rfl) (Nat.le_refl _) (Nat.le_refl _) ?_
        refine p_T_push ht q4 (by simp at hs ⊢; omega) (fun I5 q5 g5 => ?_)
        refine r_goto f_T_work_55 ?_
        refine r_ret f_T_work_71 rfl (Nat.le_refl _) (Nat.le_refl _) ?_
        first | (rw [if_pos (Int32.not_le.mp h44)] at hk; exact hk I5 q5 ((((g1.tr g2).tr g3).tr g4).tr g5)) | (rw [if_neg (Int32.not_lt.mpr h44)] at hk; exact hk I5 q5 ((((g1.tr g2).tr g3).tr g4).tr g5))
  · have e2 : sp_need (q_tr (-126)) = 1 := by decide
    rw [e2] at hn
    match s, hn, h, hs, hk with
    | y :: r, hn, h, hs, hk =>
      have e3 : sp_step fc (q_tr (-126)) (y :: r) = -y :: r := rfl
      rw [e3] at hk
      refine r_ald0 f_T_work_0 ?_
      refine c_T_pop f_T_work_1 (sT ht) (Nat.le_of_ble_eq_true rfl) (Nat.le_refl _) (Nat.le_refl _) ?_
      refine p_T_pop ht h (by simp at hs ⊢; omega) (fun I1 q1 g1 => ?_)
      refine r_ist2 f_T_work_4 rfl ?_
      refine r_ild1 f_T_work_5 ?_
      refine r_ic f_T_work_6 ?_
      refine r_ic_ne f_T_work_8 (fun h => absurd h (by decide)) (fun _ => ?_)
      refine r_ald0 f_T_work_11 ?_
      refine r_ild2 f_T_work_12 ?_
      refine r_ineg f_T_work_13 ?_
      refine c_T_push f_T_work_14 (sT ht) (Nat.le_of_ble_eq_true rfl) (Nat.le_refl _) (Nat.le_refl _) ?_
      refine p_T_push ht q1 (by simp at hs ⊢; omega) (fun I2 q2 g2 => ?_)
      refine r_goto f_T_work_17 ?_
      refine r_ret f_T_work_71 rfl (Nat.le_refl _) (Nat.le_refl _) ?_
      exact hk I2 q2 (g1.tr g2)
theorem vD_ag {b : Nat} {I' : Rn} (hb : q_D b) (hg : q_ag (FT (b + 4)) I I') : vD I' b = vD I b := by
  have e : ∀ x y, ¬ FT (b + 4) x y → I' x y = I x y := hg
  unfold vD
  have e1 : ∀ i k, I' (b + 9 + 2 * i) k = I (b + 9 + 2 * i) k := fun i k => e _ _ (by unfold FT; omega)
  have e2 : ∀ p, I' (b + 2) p = I (b + 2) p := fun p => e _ _ (by unfold FT; omega)
  have e3 : ∀ p, I' (b + 3) p = I (b + 3) p := fun p => e _ _ (by unfold FT; omega)
  have e4 : ∀ p, I' b p = I b p := fun p => e _ _ (by unfold FT; omega)
  have e5 : I' (b + 4) 3 = I (b + 4) 3 := e _ _ (by unfold FT; omega)
  have e6 : ∀ p, I' (b + 5) p = I (b + 5) p := fun p => e _ _ (by unfold FT; omega)
  simp only [e1, e2, e3, e4, e5, e6]
theorem q_num_push {c : Int32} {fc : Int32 → Int32} {t : Nat} {s : List Int32} {I2 : Rn} (hc : q_le c 0 9999) (h : q_stk I2 t (c :: s)) : q_stk I2 t (sp_step fc (q_tr c) s) := by
  obtain ⟨n, -, h2, rfl⟩ := hc
  have e1 : q_tr (nI n) = nI n := if_pos (nI_pos' (by omega))
  have e2 : nI n < 10100 := nI_lt (b := 10100) (by omega) (by decide)
  have e3 : nI n < 10000 := nI_lt (b := 10000) (by omega) (by decide)
  have e : sp_step fc (q_tr (nI n)) s = nI n :: s := by
    rw [e1]
    unfold sp_step
    rw [if_pos e2, if_pos e3]
  rw [e]
  exact h
theorem q_name_push {c : Int32} {fc : Int32 → Int32} {t : Nat} {s : List Int32} {I2 : Rn} (hc : q_name (-c)) (h : q_stk I2 t (fc (q_tr c - 10000) :: s)) : q_stk I2 t (sp_step fc (q_tr c) s) := by
  have e : ∀ z, -c = z → c = -z := fun z hz => by rw [← hz, Int32.neg_neg]
  have e2 : sp_step fc (q_tr c) s = fc (q_tr c - 10000) :: s := by
    rcases hc with h | h | h | h | h | h <;> (rw [e _ h]; rfl)
  rw [e2]
  exact h
theorem q_not_name {x : Int32} (h : q_op x ∨ x = 63 ∨ x = 126) : ¬ (x = 100 ∨ x = 104 ∨ x = 105 ∨ x = 110 ∨ x = 111 ∨ x = 121) := by
  rcases h with (rfl | rfl | rfl | rfl) | rfl | rfl <;> decide
theorem q_neg_lt {c x : Int32} (h : -c = x) (hx : -x < 0) : c < 0 := by
  have e : c = -x := by rw [← h, Int32.neg_neg]
  rw [e]
  exact hx
theorem p_T_valueFor_loop {b f p : Nat} {D : Dst} (hb : q_D b) (hf : f < 8) (hR : RD I b D) (hT : WFt D.2.2.2.2) (hk : ∀ I' x, q_ag (FT (b + 4)) I I' → sp_run (sp_fact D f p) D.2.2.2.2 [] = [x] → K (some (.int x)) SH RF I' L) :
    ∀ (n k : Nat) (I' : Rn), D.2.2.2.2.length - k < n → k ≤ D.2.2.2.2.length → q_ag (FT (b + 4)) I I' → q_stk I' (b + 4) (sp_run (sp_fact D f p) (D.2.2.2.2.take k) []) → (sp_run (sp_fact D f p) (D.2.2.2.2.take k) []).length ≤ k → q_dep (D.2.2.2.2.drop k) (sp_run (sp_fact D f p) (D.2.2.2.2.take k) []).length = some 1 → WW G (d + 2) mt_T_valueFor 18 [some (.ref (b + 4)), some (.ref b), some (.int (nI f)), some (.int (nI p)), some (.int (nI k)), none] [] SH RF I' L 0 0 0 0 K
  | 0, k, I', hn, hkn, hg, hq, hl, hd => by omega
  | n + 1, k, I', hn, hkn, hg, hq, hl, hd => by
    have ht : q_T (b + 4) := q_TD hb
    obtain ⟨hV, hLen, hCode⟩ := id hR
    have hT60 : D.2.2.2.2.length ≤ 60 := hT.1
    have hLen' : I' (b + 4) 3 = nI D.2.2.2.2.length := (hg _ _ (by unfold FT; omega)).trans hLen
    have next : ∀ (I2 : Rn), k < D.2.2.2.2.length → q_ag (FT (b + 4)) I I2 → (∀ m, D.2.2.2.2[k]? = some m → q_stk I2 (b + 4) (sp_step (sp_fact D f p) m (sp_run (sp_fact D f p) (D.2.2.2.2.take k) []))) → WW G (d + 2) mt_T_valueFor 18 [some (.ref (b + 4)), some (.ref b), some (.int (nI f)), some (.int (nI p)), some (.int (nI (k + 1))), none] [] SH RF I2 L 0 0 0 0 K := by
      intro I2 hlt hg2 hq2
      obtain ⟨m, hm⟩ : ∃ m, D.2.2.2.2[k]? = some m := ⟨_, List.getElem?_eq_getElem hlt⟩
      have et : D.2.2.2.2.take (k + 1) = D.2.2.2.2.take k ++ [m] := by rw [List.take_succ, hm]; rfl
      have er : sp_run (sp_fact D f p) (D.2.2.2.2.take (k + 1)) [] = sp_step (sp_fact D f p) m (sp_run (sp_fact D f p) (D.2.2.2.2.take k) []) := by
        rw [et]
        unfold sp_run
        rw [List.foldl_append]
        rfl
      have edr : D.2.2.2.2.drop k = m :: D.2.2.2.2.drop (k + 1) := by
        rw [List.drop_eq_getElem_cons hlt]
        congr 1
        rw [List.getElem?_eq_getElem hlt] at hm
        exact Option.some.inj hm
      rw [edr] at hd
      unfold q_dep at hd
      by_cases hnd : sp_need m ≤ (sp_run (sp_fact D f p) (D.2.2.2.2.take k) []).length
      · rw [if_pos hnd] at hd
        have hll := sp_step_len (fc := sp_fact D f p) hnd
        refine p_T_valueFor_loop hb hf hR hT hk n (k + 1) I2 (by omega) (by omega) hg2 (by rw [er]; exact hq2 m hm) (by rw [er, hll]; omega) (by rw [er, hll]; exact hd)
      · rw [if_neg hnd] at hd
        cases hd
    refine r_ild4 f_T_valueFor_18 ?_
    refine r_ald0 f_T_valueFor_20 ?_
    refine r_gi f_T_valueFor_21 (sT (q_TD hb)) ?_
    rw [hLen']
    refine r_ic_ge f_T_valueFor_24 (fun h24 => ?_) (fun h24 => ?_)
    · refine r_ald0 f_T_valueFor_88 ?_
      refine c_T_pop f_T_valueFor_89 (sT (q_TD hb)) (Nat.le_of_ble_eq_true rfl) (Nat.le_refl _) (Nat.le_refl _) ?_
      have hkn2 : k = D.2.2.2.2.length := by
        rcases Nat.lt_or_ge k D.2.2.2.2.length with h | h
        · exact absurd h24 (nI_ge h (by omega))
        · omega
      subst hkn2
      rw [List.take_length] at hq hd hl
      rw [List.drop_length] at hd
      have hone : (sp_run (sp_fact D f p) D.2.2.2.2 []).length = 1 := Option.some.inj hd
      obtain ⟨x, hx⟩ := List.length_eq_one_iff.mp hone
      rw [hx] at hq
      refine p_T_pop ht hq (by decide) (fun I2 q2 g2 => ?_)
      refine r_iret f_T_valueFor_92 ⟨_, rfl, rfl⟩ (Nat.le_refl _) (Nat.le_refl _) ?_
      exact hk I2 x (hg.tr g2) hx
    · have hlt : k < D.2.2.2.2.length := by
        rcases Nat.lt_or_ge k D.2.2.2.2.length with h | h
        · exact h
        · exact absurd (nI_le h (by omega)) h24
      have hlen60 : (sp_run (sp_fact D f p) (D.2.2.2.2.take k) []).length < 60 := by omega
      have hcode := hCode k hlt
      have hmk : D.2.2.2.2[k]? = some (q_tr (I (b + 5) k)) := by
        have hlt2 := hlt
        rw [← hV] at hlt2 ⊢
        have hlt3 : k < (I (b + 4) 3).toNatClampNeg := by simpa [vD] using hlt2
        simp [vD, hlt3]
      have hneed : sp_need (q_tr (I (b + 5) k)) ≤ (sp_run (sp_fact D f p) (D.2.2.2.2.take k) []).length := by
        rw [List.drop_eq_getElem_cons hlt] at hd
        rw [List.getElem?_eq_getElem hlt] at hmk
        rw [Option.some.inj hmk] at hd
        unfold q_dep at hd
        by_cases hnd : sp_need (q_tr (I (b + 5) k)) ≤ (sp_run (sp_fact D f p) (D.2.2.2.2.take k) []).length
        · exact hnd
        · rw [if_neg hnd] at hd
          cases hd
      refine r_ald0 f_T_valueFor_27 ?_
      refine r_gr f_T_valueFor_28 (sT (q_TD hb)) (rT0 (q_TD hb)) ?_
      refine r_ild4 f_T_valueFor_31 ?_
      refine r_iald f_T_valueFor_33 (sT1 (q_TD hb)) (q_ix.nI (by omega) (by decide)) ?_
      rw [show I' (b + 4 + 1) k = I (b + 5) k from hg _ _ (by unfold FT; omega)]
      generalize I (b + 5) k = c at hcode hmk hneed ⊢
      refine r_ist5 f_T_valueFor_34 rfl ?_
      refine r_ild5 f_T_valueFor_36 ?_
      refine r_if_lt f_T_valueFor_38 (fun h38 => ?_) (fun h38 => ?_)
      · refine r_ild5 f_T_valueFor_50 ?_
        refine r_ineg f_T_valueFor_52 ?_
        refine c_T_isName f_T_valueFor_53 (Nat.le_of_ble_eq_true rfl) (Nat.le_refl _) (Nat.le_refl _) ?_
        have hc : q_name (-c) ∨ q_op (-c) ∨ -c = 63 ∨ -c = 126 := by
          rcases hcode with ⟨z, z1, z2, z3⟩ | h
          · exfalso
            rw [z3] at h38
            exact absurd h38 (nI_pos (by omega))
          · exact h
        refine k_T_isName (fun hnm => ?_) (fun hnm => ?_)
        · refine r_if_eq f_T_valueFor_56 (fun h => absurd h (by decide)) (fun _ => ?_)
          refine r_ald0 f_T_valueFor_59 ?_
          refine r_ild5 f_T_valueFor_60 ?_
          refine r_ineg f_T_valueFor_62 ?_
          refine r_ald1 f_T_valueFor_63 ?_
          refine r_ild2 f_T_valueFor_64 ?_
          refine r_ild3 f_T_valueFor_65 ?_
          refine c_T_named f_T_valueFor_66 (Nat.le_of_ble_eq_true rfl) (Nat.le_refl _) (Nat.le_refl _) ?_
          have hc2 : q_name (-c) := by
            rcases hc with h | h
            · exact h
            · exact absurd hnm (q_not_name h)
          have e9 : vD I' b = D := by
            rw [← hV]
            refine vD_ag hb hg
          refine k_T_named hb hf hc2 ?_
          rw [e9, Int32.neg_neg]
          refine c_T_push f_T_valueFor_69 (sT (q_TD hb)) (Nat.le_of_ble_eq_true rfl) (Nat.le_refl _) (Nat.le_refl _) ?_
          refine p_T_push ht hq hlen60 (fun I2 q2 g2 => ?_)
          refine r_goto f_T_valueFor_72 ?_
          refine r_inc4 f_T_valueFor_82 rfl ?_
          refine r_goto f_T_valueFor_85 ?_
          refine r_drop5 ?_
          rw [nI_1]
          refine next I2 hlt (hg.tr g2) (fun m hm => ?_)
          have em : m = q_tr c := Option.some.inj (hm.symm.trans hmk)
          rw [em]
          first | exact q2 | (exact q_num_push hc q2) | exact q_name_push hc2 q2
        · refine r_if_eq f_T_valueFor_56 (fun _ => ?_) (fun h => absurd h (by decide))
          refine r_ald0 f_T_valueFor_75 ?_
          refine r_ild5 f_T_valueFor_76 ?_
          refine r_ineg f_T_valueFor_78 ?_
          refine c_T_work f_T_valueFor_79 (sT (q_TD hb)) (Nat.le_of_ble_eq_true rfl) (Nat.le_refl _) (Nat.le_refl _) ?_
          have hc2 : q_op (-c) ∨ -c = 63 ∨ -c = 126 := by
            rcases hc with h | h
            · exfalso
              rcases h with h | h | h | h | h | h <;> exact hnm (by simp [h])
            · exact h
          refine p_T_work (sp_fact D f p) ht hq (by omega) hc2 (by rw [Int32.neg_neg]; exact hneed) (fun I2 q2 g2 => ?_)
          rw [Int32.neg_neg] at q2
          refine r_inc4 f_T_valueFor_82 rfl ?_
          refine r_goto f_T_valueFor_85 ?_
          refine r_drop5 ?_
          rw [nI_1]
          refine next I2 hlt (hg.tr g2) (fun m hm => ?_)
          have em : m = q_tr c := Option.some.inj (hm.symm.trans hmk)
          rw [em]
          first | exact q2 | (exact q_num_push hc q2) | exact q_name_push hc2 q2
      · refine r_ald0 f_T_valueFor_41 ?_
        refine r_ild5 f_T_valueFor_42 ?_
        refine c_T_push f_T_valueFor_44 (sT (q_TD hb)) (Nat.le_of_ble_eq_true rfl) (Nat.le_refl _) (Nat.le_refl _) ?_
        have hc : q_le c 0 9999 := by
          rcases hcode with h | h | h | h | h
          · exact h
          · exfalso
            rcases h with h | h | h | h | h | h <;> exact h38 (q_neg_lt h (by decide))
          · exfalso
            rcases h with h | h | h | h <;> exact h38 (q_neg_lt h (by decide))
          · exact absurd (q_neg_lt h (by decide)) h38
          · exact absurd (q_neg_lt h (by decide)) h38
        refine p_T_push ht hq hlen60 (fun I2 q2 g2 => ?_)
        refine r_goto f_T_valueFor_47 ?_
        refine r_inc4 f_T_valueFor_82 rfl ?_
        refine r_goto f_T_valueFor_85 ?_
        refine r_drop5 ?_
        rw [nI_1]
        refine next I2 hlt (hg.tr g2) (fun m hm => ?_)
        have em : m = q_tr c := Option.some.inj (hm.symm.trans hmk)
        rw [em]
        first | exact q2 | (exact q_num_push hc q2) | exact q_name_push hc2 q2
end L24
