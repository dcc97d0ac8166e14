section L64
variable {G : Gx} {d : Nat} {I I' I0 : Rn} {L L' : Rl} {K : Kt} {σ : St} {D : Dst} {t W e out : List Int32} {p : Int32} {n : Nat}
def FXf : Nat → Nat → Prop := fun x y => (x = 95 ∧ 27 ≤ y ∧ y ≤ 32) ∨ x = 105 ∨ x = 106
theorem FX_f (x y : Nat) (h : FX x y) : FXf x y := by unfold FX at h; unfold FXf; omega
def t_P (G : Gx) (d : Nat) (K : Kt) (t : List Int32) (I0 : Rn) (L : Rl) (w : Int32) (s : Mq) : Prop := ∀ I', m_Q I' t s → s.2.1.length + s.2.2.2.length ≤ s.1 → s.1 ≤ t.length → I' 95 32 = 0 → q_ag FXf I0 I' → WW G (d + 3) mt_R_text 27 [some (.ref 95), some (.int w), none] [] SH RF I' L 0 0 0 0 K
def t_F (K : Kt) (I0 : Rn) (L : Rl) (n : Nat) : Prop := ∀ I', q_ag FXf I0 I' → K (some (.int (-1 - nI n))) SH RF I' L
def t_D (G : Gx) (d : Nat) (K : Kt) (I0 : Rn) (L : Rl) (out : List Int32) : Prop := ∀ I', I' 95 27 = nI out.length → (∀ (j : Nat) (x : Int32), out[j]? = some x → I' 105 j = x) → out.length ≤ 60 → q_ag FXf I0 I' → WW G (d + 3) mt_R_text 110 [some (.ref 95), none, none] [] SH RF I' L 0 0 0 0 K
theorem q_f32 (h : I 95 32 = 0) (hg : q_ag FX I I') : I' 95 32 = 0 := (hg 95 32 (by unfold FX; omega)).trans h
theorem k_t_fault {w : Int32} (a31 : I 95 31 = nI n) (a32 : I 95 32 = 1) (hg : q_ag FXf I0 I) (h : t_F K I0 L n) : WW G (d + 3) mt_R_text 27 [some (.ref 95), some (.int w), none] [] SH RF I L 0 0 0 0 K := by
  refine r_ald0 f_R_text_27 ?_
  refine r_gi f_R_text_28 (s_95) ?_
  rw [a32]
  refine r_if_ne f_R_text_31 (fun h31 => ?_) (fun h31 => absurd h31 (by decide))
  refine r_ald0 f_R_text_68 ?_
  refine r_gi f_R_text_69 (s_95) ?_
  rw [a32]
  refine r_if_ne f_R_text_72 (fun h72 => ?_) (fun h72 => absurd h72 (by decide))
  refine r_ald0 f_R_text_96 ?_
  refine r_gi f_R_text_97 (s_95) ?_
  rw [a32]
  refine r_if_eq f_R_text_100 (fun h100 => absurd h100 (by decide)) (fun h100 => ?_)
  refine r_ic f_R_text_103 ?_
  refine r_ald0 f_R_text_104 ?_
  refine r_gi f_R_text_105 (s_95) ?_
  rw [a31]
  refine r_isub f_R_text_108 ?_
  refine r_iret f_R_text_109 ⟨_, rfl, rfl⟩ (Nat.le_refl _) (Nat.le_refl _) ?_
  exact h I hg
theorem t_num (h60 : t.length ≤ 60) (hd : 48 ≤ pN t n ∧ pN t n ≤ 57) (hn : n ≤ t.length) (h : t_P G d K t I0 L 0 ((p_num t 4 0 n).2, m_ends W p (e ++ [(p_num t 4 0 n).1]))) : t_P G d K t I0 L 1 (n, W, p, e) := by
  intro I' hq hl _ h32 hg
  have n1 : n + 1 ≤ (p_num t 4 0 n).2 := p_num_gt (m := 3) (v := 0) hd
  have n2 := (p_num_gr 4 0 n hn).2
  refine r_ald0 f_R_text_27 ?_
  refine r_gi f_R_text_28 (s_95) ?_
  rw [h32]
  refine r_if_ne f_R_text_31 (fun h31 => absurd h31 (fun q => q rfl)) (fun h31 => ?_)
  refine r_ild1 f_R_text_34 ?_
  refine r_if_ne f_R_text_35 (fun _ => ?_) (fun h => absurd h (by decide))
  refine r_ild1 f_R_text_49 ?_
  refine r_if_eq f_R_text_50 (fun h => absurd h (by decide)) (fun _ => ?_)
  refine r_ald0 f_R_text_53 ?_
  refine c_R_operand f_R_text_54 (s_95) (Nat.le_of_ble_eq_true rfl) (Nat.le_refl _) (Nat.le_refl _) ?_
  refine k_R_operand_num hq h60 hn hl hd (fun I9 hM9 g9 => ?_)
  · refine r_goto f_R_text_57 ?_
    refine r_ist1 f_R_text_64 rfl ?_
    refine r_goto f_R_text_65 ?_
    exact h I9 hM9 (by have hml := m_ends_len W p (e ++ [(p_num t 4 0 n).1]); simp only [List.length_append, List.length_cons, List.length_nil] at hml hl ⊢; omega) n2 (q_f32 h32 g9) (hg.tr (g9.mo FX_f))
theorem t_nam (h60 : t.length ≤ 60) (hd : p_nam (pN t n)) (h : t_P G d K t I0 L 0 (n + 1, m_ends W p (e ++ [q_tr (-(pN t n))]))) : t_P G d K t I0 L 1 (n, W, p, e) := by
  intro I' hq hl hn h32 hg
  have hnt : n < t.length := pN_lt (p_nam_ne hd)
  refine r_ald0 f_R_text_27 ?_
  refine r_gi f_R_text_28 (s_95) ?_
  rw [h32]
  refine r_if_ne f_R_text_31 (fun h31 => absurd h31 (fun q => q rfl)) (fun h31 => ?_)
  refine r_ild1 f_R_text_34 ?_
  refine r_if_ne f_R_text_35 (fun _ => ?_) (fun h => absurd h (by decide))
  refine r_ild1 f_R_text_49 ?_
  refine r_if_eq f_R_text_50 (fun h => absurd h (by decide)) (fun _ => ?_)
  refine r_ald0 f_R_text_53 ?_
  refine c_R_operand f_R_text_54 (s_95) (Nat.le_of_ble_eq_true rfl) (Nat.le_refl _) (Nat.le_refl _) ?_
  refine k_R_operand_nam hq h60 hn hl hd (fun I9 hM9 g9 => ?_)
  · refine r_goto f_R_text_57 ?_
    refine r_ist1 f_R_text_64 rfl ?_
    refine r_goto f_R_text_65 ?_
    exact h I9 hM9 (by have hml := m_ends_len W p (e ++ [q_tr (-(pN t n))]); simp only [List.length_append, List.length_cons, List.length_nil] at hml hl ⊢; omega) hnt (q_f32 h32 g9) (hg.tr (g9.mo FX_f))
theorem t_open {z : Int32} (h60 : t.length ≤ 60) (hd : (pN t n = 40 ∧ z = 40) ∨ (pN t n = 45 ∧ z = 10105)) (hp : p < 5) (h : t_P G d K t I0 L 1 (n + 1, z :: W, p + 1, e)) : t_P G d K t I0 L 1 (n, W, p, e) := by
  intro I' hq hl hn h32 hg
  have hnt : n < t.length := pN_lt (fun q => by rw [q] at hd; rcases hd with hd | hd <;> exact absurd hd.1 (by decide))
  refine r_ald0 f_R_text_27 ?_
  refine r_gi f_R_text_28 (s_95) ?_
  rw [h32]
  refine r_if_ne f_R_text_31 (fun h31 => absurd h31 (fun q => q rfl)) (fun h31 => ?_)
  refine r_ild1 f_R_text_34 ?_
  refine r_if_ne f_R_text_35 (fun _ => ?_) (fun h => absurd h (by decide))
  refine r_ild1 f_R_text_49 ?_
  refine r_if_eq f_R_text_50 (fun h => absurd h (by decide)) (fun _ => ?_)
  refine r_ald0 f_R_text_53 ?_
  refine c_R_operand f_R_text_54 (s_95) (Nat.le_of_ble_eq_true rfl) (Nat.le_refl _) (Nat.le_refl _) ?_
  refine k_R_operand_open hq h60 hn hl hd hp (fun I9 hM9 g9 => ?_)
  · refine r_goto f_R_text_57 ?_
    refine r_ist1 f_R_text_64 rfl ?_
    refine r_goto f_R_text_65 ?_
    exact h I9 hM9 (by simp only [List.length_cons]; simp only at hl; omega) hnt (q_f32 h32 g9) (hg.tr (g9.mo FX_f))
theorem t_badw (h60 : t.length ≤ 60) (h1 : ¬ (48 ≤ pN t n ∧ pN t n ≤ 57)) (h2 : ¬ p_nam (pN t n)) (h3 : ¬ ((pN t n = 40 ∨ pN t n = 45) ∧ p < 5)) (h : t_F K I0 L n) : t_P G d K t I0 L 1 (n, W, p, e) := by
  intro I' hq hl hn h32 hg
  refine r_ald0 f_R_text_27 ?_
  refine r_gi f_R_text_28 (s_95) ?_
  rw [h32]
  refine r_if_ne f_R_text_31 (fun h31 => absurd h31 (fun q => q rfl)) (fun h31 => ?_)
  refine r_ild1 f_R_text_34 ?_
  refine r_if_ne f_R_text_35 (fun _ => ?_) (fun h => absurd h (by decide))
  refine r_ild1 f_R_text_49 ?_
  refine r_if_eq f_R_text_50 (fun h => absurd h (by decide)) (fun _ => ?_)
  refine r_ald0 f_R_text_53 ?_
  refine c_R_operand f_R_text_54 (s_95) (Nat.le_of_ble_eq_true rfl) (Nat.le_refl _) (Nat.le_refl _) ?_
  refine k_R_operand_bad hq h60 hn hl h1 h2 h3 ?_
  · refine r_goto f_R_text_57 ?_
    refine r_ist1 f_R_text_64 rfl ?_
    refine r_goto f_R_text_65 ?_
    exact k_t_fault (n := n) ((u2_ne (Or.inr (by decide))).trans hq.2.1) u2_self (hg.u2 (Or.inl ⟨rfl, by decide, by decide⟩)) h
theorem t_plus (h60 : t.length ≤ 60) (hb : pN t n = 43) (h : t_P G d K t I0 L 1 (n + 1, 10100 :: (m_set 10100 W e).1, p, (m_set 10100 W e).2)) : t_P G d K t I0 L 0 (n, W, p, e) := by
  intro I' hq hl hn h32 hg
  have hnt : n < t.length := pN_lt (fun q => by rw [q] at hb; exact absurd hb (by decide))
  refine r_ald0 f_R_text_27 ?_
  refine r_gi f_R_text_28 (s_95) ?_
  rw [h32]
  refine r_if_ne f_R_text_31 (fun h31 => absurd h31 (fun q => q rfl)) (fun h31 => ?_)
  refine r_ild1 f_R_text_34 ?_
  refine r_if_ne f_R_text_35 (fun h => absurd h (by decide)) (fun _ => ?_)
  refine r_ald0 f_R_text_38 ?_
  refine r_gi f_R_text_39 (s_95) ?_
  rw [show I' 95 31 = nI n from hq.2.1]
  refine r_ald0 f_R_text_42 ?_
  refine r_gi f_R_text_43 (s_95) ?_
  rw [hq.1.1]
  refine r_ic_ge f_R_text_46 (fun h46 => absurd h46 (nI_ge hnt (by omega))) (fun h46 => ?_)
  refine r_ild1 f_R_text_49 ?_
  refine r_if_eq f_R_text_50 (fun _ => ?_) (fun h => absurd h (by decide))
  refine r_ald0 f_R_text_60 ?_
  refine c_R_operator f_R_text_61 (s_95) (Nat.le_of_ble_eq_true rfl) (Nat.le_refl _) (Nat.le_refl _) ?_
  refine k_R_operator_plus hq h60 hnt hl hb (fun I9 hM9 g9 => ?_)
  · refine r_ist1 f_R_text_64 rfl ?_
    refine r_goto f_R_text_65 ?_
    exact h I9 hM9 (by have hml := m_set_len (z := 10100) W e; simp only [List.length_cons] at hl ⊢; omega) hnt (q_f32 h32 g9) (hg.tr (g9.mo FX_f))
theorem t_less (h60 : t.length ≤ 60) (hb : pN t n = 45) (h : t_P G d K t I0 L 1 (n + 1, 10101 :: (m_set 10100 W e).1, p, (m_set 10100 W e).2)) : t_P G d K t I0 L 0 (n, W, p, e) := by
  intro I' hq hl hn h32 hg
  have hnt : n < t.length := pN_lt (fun q => by rw [q] at hb; exact absurd hb (by decide))
  refine r_ald0 f_R_text_27 ?_
  refine r_gi f_R_text_28 (s_95) ?_
  rw [h32]
  refine r_if_ne f_R_text_31 (fun h31 => absurd h31 (fun q => q rfl)) (fun h31 => ?_)
  refine r_ild1 f_R_text_34 ?_
  refine r_if_ne f_R_text_35 (fun h => absurd h (by decide)) (fun _ => ?_)
  refine r_ald0 f_R_text_38 ?_
  refine r_gi f_R_text_39 (s_95) ?_
  rw [show I' 95 31 = nI n from hq.2.1]
  refine r_ald0 f_R_text_42 ?_
  refine r_gi f_R_text_43 (s_95) ?_
  rw [hq.1.1]
  refine r_ic_ge f_R_text_46 (fun h46 => absurd h46 (nI_ge hnt (by omega))) (fun h46 => ?_)
  refine r_ild1 f_R_text_49 ?_
  refine r_if_eq f_R_text_50 (fun _ => ?_) (fun h => absurd h (by decide))
  refine r_ald0 f_R_text_60 ?_
  refine c_R_operator f_R_text_61 (s_95) (Nat.le_of_ble_eq_true rfl) (Nat.le_refl _) (Nat.le_refl _) ?_
  refine k_R_operator_less hq h60 hnt hl hb (fun I9 hM9 g9 => ?_)
  · refine r_ist1 f_R_text_64 rfl ?_
    refine r_goto f_R_text_65 ?_
    exact h I9 hM9 (by have hml := m_set_len (z := 10100) W e; simp only [List.length_cons] at hl ⊢; omega) hnt (q_f32 h32 g9) (hg.tr (g9.mo FX_f))
theorem t_times (h60 : t.length ≤ 60) (hb : pN t n = 42) (h : t_P G d K t I0 L 1 (n + 1, 10102 :: (m_set 10102 W e).1, p, (m_set 10102 W e).2)) : t_P G d K t I0 L 0 (n, W, p, e) := by
  intro I' hq hl hn h32 hg
  have hnt : n < t.length := pN_lt (fun q => by rw [q] at hb; exact absurd hb (by decide))
  refine r_ald0 f_R_text_27 ?_
  refine r_gi f_R_text_28 (s_95) ?_
  rw [h32]
  refine r_if_ne f_R_text_31 (fun h31 => absurd h31 (fun q => q rfl)) (fun h31 => ?_)
  refine r_ild1 f_R_text_34 ?_
  refine r_if_ne f_R_text_35 (fun h => absurd h (by decide)) (fun _ => ?_)
  refine r_ald0 f_R_text_38 ?_
  refine r_gi f_R_text_39 (s_95) ?_
  rw [show I' 95 31 = nI n from hq.2.1]
  refine r_ald0 f_R_text_42 ?_
  refine r_gi f_R_text_43 (s_95) ?_
  rw [hq.1.1]
  refine r_ic_ge f_R_text_46 (fun h46 => absurd h46 (nI_ge hnt (by omega))) (fun h46 => ?_)
  refine r_ild1 f_R_text_49 ?_
  refine r_if_eq f_R_text_50 (fun _ => ?_) (fun h => absurd h (by decide))
  refine r_ald0 f_R_text_60 ?_
  refine c_R_operator f_R_text_61 (s_95) (Nat.le_of_ble_eq_true rfl) (Nat.le_refl _) (Nat.le_refl _) ?_
  refine k_R_operator_times hq h60 hnt hl hb (fun I9 hM9 g9 => ?_)
  · refine r_ist1 f_R_text_64 rfl ?_
    refine r_goto f_R_text_65 ?_
    exact h I9 hM9 (by have hml := m_set_len (z := 10102) W e; simp only [List.length_cons] at hl ⊢; omega) hnt (q_f32 h32 g9) (hg.tr (g9.mo FX_f))
theorem t_parts (h60 : t.length ≤ 60) (hb : pN t n = 47) (h : t_P G d K t I0 L 1 (n + 1, 10103 :: (m_set 10102 W e).1, p, (m_set 10102 W e).2)) : t_P G d K t I0 L 0 (n, W, p, e) := by
  intro I' hq hl hn h32 hg
  have hnt : n < t.length := pN_lt (fun q => by rw [q] at hb; exact absurd hb (by decide))
  refine r_ald0 f_R_text_27 ?_
  refine r_gi f_R_text_28 (s_95) ?_
  rw [h32]
  refine r_if_ne f_R_text_31 (fun h31 => absurd h31 (fun q => q rfl)) (fun h31 => ?_)
  refine r_ild1 f_R_text_34 ?_
  refine r_if_ne f_R_text_35 (fun h => absurd h (by decide)) (fun _ => ?_)
  refine r_ald0 f_R_text_38 ?_
  refine r_gi f_R_text_39 (s_95) ?_
  rw [show I' 95 31 = nI n from hq.2.1]
  refine r_ald0 f_R_text_42 ?_
  refine r_gi f_R_text_43 (s_95) ?_
  rw [hq.1.1]
  refine r_ic_ge f_R_text_46 (fun h46 => absurd h46 (nI_ge hnt (by omega))) (fun h46 => ?_)
  refine r_ild1 f_R_text_49 ?_
  refine r_if_eq f_R_text_50 (fun _ => ?_) (fun h => absurd h (by decide))
  refine r_ald0 f_R_text_60 ?_
  refine c_R_operator f_R_text_61 (s_95) (Nat.le_of_ble_eq_true rfl) (Nat.le_refl _) (Nat.le_refl _) ?_
  refine k_R_operator_parts hq h60 hnt hl hb (fun I9 hM9 g9 => ?_)
  · refine r_ist1 f_R_text_64 rfl ?_
    refine r_goto f_R_text_65 ?_
    exact h I9 hM9 (by have hml := m_set_len (z := 10102) W e; simp only [List.length_cons] at hl ⊢; omega) hnt (q_f32 h32 g9) (hg.tr (g9.mo FX_f))
theorem t_close {Wr er : List Int32} (h60 : t.length ≤ 60) (hb : pN t n = 41) (hs : m_set 10100 W e = (40 :: Wr, er)) (h : t_P G d K t I0 L 0 (n + 1, m_ends Wr (p - 1) er)) : t_P G d K t I0 L 0 (n, W, p, e) := by
  intro I' hq hl hn h32 hg
  have hnt : n < t.length := pN_lt (fun q => by rw [q] at hb; exact absurd hb (by decide))
  refine r_ald0 f_R_text_27 ?_
  refine r_gi f_R_text_28 (s_95) ?_
  rw [h32]
  refine r_if_ne f_R_text_31 (fun h31 => absurd h31 (fun q => q rfl)) (fun h31 => ?_)
  refine r_ild1 f_R_text_34 ?_
  refine r_if_ne f_R_text_35 (fun h => absurd h (by decide)) (fun _ => ?_)
  refine r_ald0 f_R_text_38 ?_
  refine r_gi f_R_text_39 (s_95) ?_
  rw [show I' 95 31 = nI n from hq.2.1]
  refine r_ald0 f_R_text_42 ?_
  refine r_gi f_R_text_43 (s_95) ?_
  rw [hq.1.1]
  refine r_ic_ge f_R_text_46 (fun h46 => absurd h46 (nI_ge hnt (by omega))) (fun h46 => ?_)
  refine r_ild1 f_R_text_49 ?_
  refine r_if_eq f_R_text_50 (fun _ => ?_) (fun h => absurd h (by decide))
  refine r_ald0 f_R_text_60 ?_
  refine c_R_operator f_R_text_61 (s_95) (Nat.le_of_ble_eq_true rfl) (Nat.le_refl _) (Nat.le_refl _) ?_
  refine k_R_operator_close hq h60 hnt hl hb hs (fun I9 hM9 g9 => ?_)
  · refine r_ist1 f_R_text_64 rfl ?_
    refine r_goto f_R_text_65 ?_
    exact h I9 hM9 (by have h1 := m_ends_len Wr (p - 1) er; have h2 := m_set_len (z := 10100) W e; rw [hs] at h2; simp only [List.length_append, List.length_cons, List.length_nil] at h1 h2 hl ⊢; omega) hnt (q_f32 h32 g9) (hg.tr (g9.mo FX_f))
theorem t_pick {Wr er : List Int32} (h60 : t.length ≤ 60) (hb : pN t n = 41) (hs : m_set 10100 W e = (58 :: Wr, er)) (h : t_P G d K t I0 L 0 (n + 1, m_ends Wr (p - 1) (er ++ [10104]))) : t_P G d K t I0 L 0 (n, W, p, e) := by
  intro I' hq hl hn h32 hg
  have hnt : n < t.length := pN_lt (fun q => by rw [q] at hb; exact absurd hb (by decide))
  refine r_ald0 f_R_text_27 ?_
  refine r_gi f_R_text_28 (s_95) ?_
  rw [h32]
  refine r_if_ne f_R_text_31 (fun h31 => absurd h31 (fun q => q rfl)) (fun h31 => ?_)
  refine r_ild1 f_R_text_34 ?_
  refine r_if_ne f_R_text_35 (fun h => absurd h (by decide)) (fun _ => ?_)
  refine r_ald0 f_R_text_38 ?_
  refine r_gi f_R_text_39 (s_95) ?_
  rw [show I' 95 31 = nI n from hq.2.1]
  refine r_ald0 f_R_text_42 ?_
  refine r_gi f_R_text_43 (s_95) ?_
  rw [hq.1.1]
  refine r_ic_ge f_R_text_46 (fun h46 => absurd h46 (nI_ge hnt (by omega))) (fun h46 => ?_)
  refine r_ild1 f_R_text_49 ?_
  refine r_if_eq f_R_text_50 (fun _ => ?_) (fun h => absurd h (by decide))
  refine r_ald0 f_R_text_60 ?_
  refine c_R_operator f_R_text_61 (s_95) (Nat.le_of_ble_eq_true rfl) (Nat.le_refl _) (Nat.le_refl _) ?_
  refine k_R_operator_pick hq h60 hnt hl hb hs (fun I9 hM9 g9 => ?_)
  · refine r_ist1 f_R_text_64 rfl ?_
    refine r_goto f_R_text_65 ?_
    exact h I9 hM9 (by have h1 := m_ends_len Wr (p - 1) (er ++ [10104]); have h2 := m_set_len (z := 10100) W e; rw [hs] at h2; simp only [List.length_append, List.length_cons, List.length_nil] at h1 h2 hl ⊢; omega) hnt (q_f32 h32 g9) (hg.tr (g9.mo FX_f))
theorem t_lt {Wr er : List Int32} (h60 : t.length ≤ 60) (hb : pN t n = 60) (hs : m_set 10100 W e = (40 :: Wr, er)) (h : t_P G d K t I0 L 1 (n + 1, 60 :: Wr, p, er)) : t_P G d K t I0 L 0 (n, W, p, e) := by
  intro I' hq hl hn h32 hg
  have hnt : n < t.length := pN_lt (fun q => by rw [q] at hb; exact absurd hb (by decide))
  refine r_ald0 f_R_text_27 ?_
  refine r_gi f_R_text_28 (s_95) ?_
  rw [h32]
  refine r_if_ne f_R_text_31 (fun h31 => absurd h31 (fun q => q rfl)) (fun h31 => ?_)
  refine r_ild1 f_R_text_34 ?_
  refine r_if_ne f_R_text_35 (fun h => absurd h (by decide)) (fun _ => ?_)
  refine r_ald0 f_R_text_38 ?_
  refine r_gi f_R_text_39 (s_95) ?_
  rw [show I' 95 31 = nI n from hq.2.1]
  refine r_ald0 f_R_text_42 ?_
  refine r_gi f_R_text_43 (s_95) ?_
  rw [hq.1.1]
  refine r_ic_ge f_R_text_46 (fun h46 => absurd h46 (nI_ge hnt (by omega))) (fun h46 => ?_)
  refine r_ild1 f_R_text_49 ?_
  refine r_if_eq f_R_text_50 (fun _ => ?_) (fun h => absurd h (by decide))
  refine r_ald0 f_R_text_60 ?_
  refine c_R_operator f_R_text_61 (s_95) (Nat.le_of_ble_eq_true rfl) (Nat.le_refl _) (Nat.le_refl _) ?_
  refine k_R_operator_lt hq h60 hnt hl hb hs (fun I9 hM9 g9 => ?_)
  · refine r_ist1 f_R_text_64 rfl ?_
    refine r_goto f_R_text_65 ?_
    exact h I9 hM9 (by have h2 := m_set_len (z := 10100) W e; rw [hs] at h2; simp only [List.length_cons] at h2 hl ⊢; omega) hnt (q_f32 h32 g9) (hg.tr (g9.mo FX_f))
theorem t_if {Wr er : List Int32} (h60 : t.length ≤ 60) (hb : pN t n = 63) (hs : m_set 10100 W e = (60 :: Wr, er)) (h : t_P G d K t I0 L 1 (n + 1, 63 :: Wr, p, er)) : t_P G d K t I0 L 0 (n, W, p, e) := by
  intro I' hq hl hn h32 hg
  have hnt : n < t.length := pN_lt (fun q => by rw [q] at hb; exact absurd hb (by decide))
  refine r_ald0 f_R_text_27 ?_
  refine r_gi f_R_text_28 (s_95) ?_
  rw [h32]
  refine r_if_ne f_R_text_31 (fun h31 => absurd h31 (fun q => q rfl)) (fun h31 => ?_)
  refine r_ild1 f_R_text_34 ?_
  refine r_if_ne f_R_text_35 (fun h => absurd h (by decide)) (fun _ => ?_)
  refine r_ald0 f_R_text_38 ?_
  refine r_gi f_R_text_39 (s_95) ?_
  rw [show I' 95 31 = nI n from hq.2.1]
  refine r_ald0 f_R_text_42 ?_
  refine r_gi f_R_text_43 (s_95) ?_
  rw [hq.1.1]
  refine r_ic_ge f_R_text_46 (fun h46 => absurd h46 (nI_ge hnt (by omega))) (fun h46 => ?_)
  refine r_ild1 f_R_text_49 ?_
  refine r_if_eq f_R_text_50 (fun _ => ?_) (fun h => absurd h (by decide))
  refine r_ald0 f_R_text_60 ?_
  refine c_R_operator f_R_text_61 (s_95) (Nat.le_of_ble_eq_true rfl) (Nat.le_refl _) (Nat.le_refl _) ?_
  refine k_R_operator_if hq h60 hnt hl hb hs (fun I9 hM9 g9 => ?_)
  · refine r_ist1 f_R_text_64 rfl ?_
    refine r_goto f_R_text_65 ?_
    exact h I9 hM9 (by have h2 := m_set_len (z := 10100) W e; rw [hs] at h2; simp only [List.length_cons] at h2 hl ⊢; omega) hnt (q_f32 h32 g9) (hg.tr (g9.mo FX_f))
theorem t_else {Wr er : List Int32} (h60 : t.length ≤ 60) (hb : pN t n = 58) (hs : m_set 10100 W e = (63 :: Wr, er)) (h : t_P G d K t I0 L 1 (n + 1, 58 :: Wr, p, er)) : t_P G d K t I0 L 0 (n, W, p, e) := by
  intro I' hq hl hn h32 hg
  have hnt : n < t.length := pN_lt (fun q => by rw [q] at hb; exact absurd hb (by decide))
  refine r_ald0 f_R_text_27 ?_
  refine r_gi f_R_text_28 (s_95) ?_
  rw [h32]
  refine r_if_ne f_R_text_31 (fun h31 => absurd h31 (fun q => q rfl)) (fun h31 => ?_)
  refine r_ild1 f_R_text_34 ?_
  refine r_if_ne f_R_text_35 (fun h => absurd h (by decide)) (fun _ => ?_)
  refine r_ald0 f_R_text_38 ?_
  refine r_gi f_R_text_39 (s_95) ?_
  rw [show I' 95 31 = nI n from hq.2.1]
  refine r_ald0 f_R_text_42 ?_
  refine r_gi f_R_text_43 (s_95) ?_
  rw [hq.1.1]
  refine r_ic_ge f_R_text_46 (fun h46 => absurd h46 (nI_ge hnt (by omega))) (fun h46 => ?_)
  refine r_ild1 f_R_text_49 ?_
  refine r_if_eq f_R_text_50 (fun _ => ?_) (fun h => absurd h (by decide))
  refine r_ald0 f_R_text_60 ?_
  refine c_R_operator f_R_text_61 (s_95) (Nat.le_of_ble_eq_true rfl) (Nat.le_refl _) (Nat.le_refl _) ?_
  refine k_R_operator_else hq h60 hnt hl hb hs (fun I9 hM9 g9 => ?_)
  · refine r_ist1 f_R_text_64 rfl ?_
    refine r_goto f_R_text_65 ?_
    exact h I9 hM9 (by have h2 := m_set_len (z := 10100) W e; rw [hs] at h2; simp only [List.length_cons] at h2 hl ⊢; omega) hnt (q_f32 h32 g9) (hg.tr (g9.mo FX_f))
theorem t_badn (h60 : t.length ≤ 60) (hnt : n < t.length) (h1 : ¬ q_ar (pN t n)) (h2 : ¬ (pN t n = 41 ∧ ((m_set 10100 W e).1.headD (-1) = 40 ∨ (m_set 10100 W e).1.headD (-1) = 58))) (h3 : ¬ q_md (pN t n) ((m_set 10100 W e).1.headD (-1))) (h : t_F K I0 L n) : t_P G d K t I0 L 0 (n, W, p, e) := by
  intro I' hq hl hn h32 hg
  refine r_ald0 f_R_text_27 ?_
  refine r_gi f_R_text_28 (s_95) ?_
  rw [h32]
  refine r_if_ne f_R_text_31 (fun h31 => absurd h31 (fun q => q rfl)) (fun h31 => ?_)
  refine r_ild1 f_R_text_34 ?_
  refine r_if_ne f_R_text_35 (fun h => absurd h (by decide)) (fun _ => ?_)
  refine r_ald0 f_R_text_38 ?_
  refine r_gi f_R_text_39 (s_95) ?_
  rw [show I' 95 31 = nI n from hq.2.1]
  refine r_ald0 f_R_text_42 ?_
  refine r_gi f_R_text_43 (s_95) ?_
  rw [hq.1.1]
  refine r_ic_ge f_R_text_46 (fun h46 => absurd h46 (nI_ge hnt (by omega))) (fun h46 => ?_)
  refine r_ild1 f_R_text_49 ?_
  refine r_if_eq f_R_text_50 (fun _ => ?_) (fun h => absurd h (by decide))
  refine r_ald0 f_R_text_60 ?_
  refine c_R_operator f_R_text_61 (s_95) (Nat.le_of_ble_eq_true rfl) (Nat.le_refl _) (Nat.le_refl _) ?_
  refine k_R_operator_bad hq h60 hnt hl h1 h2 h3 (fun I9 h9 g9 => ?_)
  · refine r_ist1 f_R_text_64 rfl ?_
    refine r_goto f_R_text_65 ?_
    exact k_t_fault (n := n) ((u2_ne (Or.inr (by decide))).trans h9) u2_self ((hg.tr (g9.mo FX_f)).u2 (Or.inl ⟨rfl, by decide, by decide⟩)) h
theorem t_end (h60 : t.length ≤ 60) (hs : (m_set 10100 W e).1 ≠ []) (h : t_F K I0 L t.length) : t_P G d K t I0 L 0 (t.length, W, p, e) := by
  intro I' hq hl hn h32 hg
  have hml := m_set_len (z := 10100) W e
  refine r_ald0 f_R_text_27 ?_
  refine r_gi f_R_text_28 (s_95) ?_
  rw [h32]
  refine r_if_ne f_R_text_31 (fun h31 => absurd h31 (fun q => q rfl)) (fun h31 => ?_)
  refine r_ild1 f_R_text_34 ?_
  refine r_if_ne f_R_text_35 (fun h => absurd h (by decide)) (fun _ => ?_)
  refine r_ald0 f_R_text_38 ?_
  refine r_gi f_R_text_39 (s_95) ?_
  rw [show I' 95 31 = nI t.length from hq.2.1]
  refine r_ald0 f_R_text_42 ?_
  refine r_gi f_R_text_43 (s_95) ?_
  rw [hq.1.1]
  refine r_ic_ge f_R_text_46 (fun h46 => ?_) (fun h46 => absurd h46 (fun q => q (Int32.le_refl _)))
  refine r_ald0 f_R_text_68 ?_
  refine r_gi f_R_text_69 (s_95) ?_
  rw [h32]
  refine r_if_ne f_R_text_72 (fun h72 => absurd h72 (fun q => q rfl)) (fun h72 => ?_)
  refine r_ald0 f_R_text_75 ?_
  refine r_ic f_R_text_76 ?_
  refine c_R_settles f_R_text_77 (s_95) (Nat.le_of_ble_eq_true rfl) (Nat.le_refl _) (Nat.le_refl _) ?_
  refine k_R_settles1 (W0 := W) (e0 := e) (fun I9 W' e' hm hM9 g9 => ?_) W e I' rfl (by simp only at hl; omega) hq q_ag.rf
  rw [← hm] at hs
  refine r_ald0 f_R_text_80 ?_
  refine r_ald0 f_R_text_81 ?_
  refine r_gi f_R_text_82 (s_95) ?_
  rw [show I9 95 29 = nI W'.length from hM9.2.2.1]
  refine r_if_le f_R_text_85 (fun h85 => absurd h85 (nI_nle (List.length_pos_iff.mpr hs) (by rw [← hm] at hml; simp only at hml hl; omega))) (fun h85 => ?_)
  refine r_ic f_R_text_88 ?_
  refine r_goto f_R_text_89 ?_
  refine r_pz f_R_text_93 (s_95) (Or.inr rfl) ?_
  refine r_ald0 f_R_text_96 ?_
  refine r_gi f_R_text_97 (s_95) ?_
  rw [u2_self]
  refine r_if_eq f_R_text_100 (fun h100 => absurd h100 (by decide)) (fun h100 => ?_)
  refine r_ic f_R_text_103 ?_
  refine r_ald0 f_R_text_104 ?_
  refine r_gi f_R_text_105 (s_95) ?_
  rw [show u2 I9 95 32 1 95 31 = nI t.length from (u2_ne (Or.inr (by decide))).trans hM9.2.1]
  refine r_isub f_R_text_108 ?_
  refine r_iret f_R_text_109 ⟨_, rfl, rfl⟩ (Nat.le_refl _) (Nat.le_refl _) ?_
  exact h _ ((hg.tr (g9.mo FX_f)).u2 (Or.inl ⟨rfl, by decide, by decide⟩))
theorem t_done {e' : List Int32} (h60 : t.length ≤ 60) (hs : m_set 10100 W e = ([], e')) (h : t_D G d K I0 L e') : t_P G d K t I0 L 0 (t.length, W, p, e) := by
  intro I' hq hl hn h32 hg
  refine r_ald0 f_R_text_27 ?_
  refine r_gi f_R_text_28 (s_95) ?_
  rw [h32]
  refine r_if_ne f_R_text_31 (fun h31 => absurd h31 (fun q => q rfl)) (fun h31 => ?_)
  refine r_ild1 f_R_text_34 ?_
  refine r_if_ne f_R_text_35 (fun h => absurd h (by decide)) (fun _ => ?_)
  refine r_ald0 f_R_text_38 ?_
  refine r_gi f_R_text_39 (s_95) ?_
  rw [show I' 95 31 = nI t.length from hq.2.1]
  refine r_ald0 f_R_text_42 ?_
  refine r_gi f_R_text_43 (s_95) ?_
  rw [hq.1.1]
  refine r_ic_ge f_R_text_46 (fun h46 => ?_) (fun h46 => absurd h46 (fun q => q (Int32.le_refl _)))
  refine r_ald0 f_R_text_68 ?_
  refine r_gi f_R_text_69 (s_95) ?_
  rw [h32]
  refine r_if_ne f_R_text_72 (fun h72 => absurd h72 (fun q => q rfl)) (fun h72 => ?_)
  refine r_ald0 f_R_text_75 ?_
  refine r_ic f_R_text_76 ?_
  refine c_R_settles f_R_text_77 (s_95) (Nat.le_of_ble_eq_true rfl) (Nat.le_refl _) (Nat.le_refl _) ?_
  refine k_R_settles1 (W0 := W) (e0 := e) (fun I9 W' e' hm hM9 g9 => ?_) W e I' rfl (by simp only at hl; omega) hq q_ag.rf
  rw [← hm] at hs
  refine r_ald0 f_R_text_80 ?_
  refine r_ald0 f_R_text_81 ?_
  refine r_gi f_R_text_82 (s_95) ?_
  rw [show I9 95 29 = nI W'.length from hM9.2.2.1]
  refine r_if_le f_R_text_85 (fun h85 => ?_) (fun h85 => absurd (show nI W'.length ≤ 0 from by cases hs; decide) h85)
  refine r_ic f_R_text_92 ?_
  refine r_pz f_R_text_93 (s_95) (Or.inl rfl) ?_
  refine r_ald0 f_R_text_96 ?_
  refine r_gi f_R_text_97 (s_95) ?_
  rw [u2_self]
  refine r_if_eq f_R_text_100 (fun h100 => ?_) (fun h100 => absurd rfl h100)
  refine r_drop1 ?_
  cases hs
  exact h _ ((u2_ne (Or.inr (by decide))).trans hM9.2.2.2.2.2.1) (fun j x hx => (u2_ne (Or.inl (by decide))).trans (hM9.2.2.2.2.2.2 j x hx)) (by have hml := m_set_len (z := 10100) W e; rw [← hm] at hml; simp only [List.length_nil] at hml hl; omega) ((hg.tr (g9.mo FX_f)).u2 (Or.inl ⟨rfl, by decide, by decide⟩))
theorem t_Cl (h60 : t.length ≤ 60) : m_Cl t (t_P G d K t I0 L 1) (t_P G d K t I0 L 0) (t_F K I0 L) (t_D G d K I0 L) := by
  refine ⟨⟨fun n W p e hn hd h => t_num h60 hd hn h, fun n W p e hd h => t_nam h60 hd h, fun n W p e z hd hp h => t_open h60 hd hp h, fun n W p e _ h1 h2 h3 h => t_badw h60 h1 h2 h3 h⟩, fun n W p e sg z hs h => ?_, fun n W p e Wr er hb hs h => t_close h60 hb hs h, fun n W p e Wr er hb hs h => t_pick h60 hb hs h, fun n W p e b c Wr er hb hm hs h => ?_, fun n W p e hn h1 h2 h3 h => t_badn h60 hn h1 h2 h3 h, fun W p e hs h => t_end h60 hs h, fun W p e e' hs h => t_done h60 hs h⟩
  · rcases hs with ⟨hb, rfl, rfl⟩ | ⟨hb, rfl, rfl⟩ | ⟨hb, rfl, rfl⟩ | ⟨hb, rfl, rfl⟩
    · exact t_plus h60 hb h
    · exact t_less h60 hb h
    · exact t_times h60 hb h
    · exact t_parts h60 hb h
  · rcases hm with ⟨rfl, rfl⟩ | ⟨rfl, rfl⟩ | ⟨rfl, rfl⟩
    · exact t_lt h60 hb hs h
    · exact t_if h60 hb hs h
    · exact t_else h60 hb hs h
theorem RR.toX {q : Nat} (h : RR I q D) (h1 : I' q 11 = nI out.length) (hl : out.length ≤ 60) (e : ∀ y, y < 76 → y ≠ 11 → I' q y = I q y) (h2 : ∀ (j : Nat) (x : Int32), out[j]? = some x → I' q (76 + j) = x) : RR I' q (eX D out) := by
  refine ⟨?_, h1⟩
  rw [← h.1]
  unfold vR eX
  refine Prod.ext ?_ (Prod.ext ?_ (Prod.ext ?_ (Prod.ext ?_ ?_)))
  · funext i k
    dsimp only
    by_cases hc : i < 8 ∧ k < 7
    · rw [if_pos hc, if_pos hc, e _ (by omega) (by omega)]
    · rw [if_neg hc, if_neg hc]
  · funext p
    dsimp only
    by_cases hc : p < 8
    · rw [if_pos hc, if_pos hc, e _ (by omega) (by omega)]
    · rw [if_neg hc, if_neg hc]
  · funext p
    dsimp only
    by_cases hc : p < 5
    · rw [if_pos hc, if_pos hc, e _ (by omega) (by omega)]
    · rw [if_neg hc, if_neg hc]
  · funext p
    dsimp only
    by_cases hc : p = 5
    · rw [if_pos hc, if_pos hc, e _ (by omega) (by omega)]
    · rw [if_neg hc, if_neg hc]
      by_cases h5 : p < 5
      · rw [if_pos h5, if_pos h5, e _ (by omega) (by omega)]
      · rw [if_neg h5, if_neg h5]
  · dsimp only
    rw [h1, nI_clamp (by omega)]
    refine List.ext_getElem? (fun j => ?_)
    rw [List.getElem?_map]
    by_cases hj : j < out.length
    · rw [List.getElem?_range hj, List.getElem?_eq_getElem hj]
      show some (I' q (76 + j)) = _
      rw [h2 j _ (List.getElem?_eq_getElem hj)]
    · rw [List.getElem?_eq_none (by rw [List.length_range]; omega), List.getElem?_eq_none (by omega)]
      rfl
theorem k_t_copy (hl : out.length ≤ 60) (h27 : I 95 27 = nI out.length) (hk : WW G (d + 3) mt_R_text 152 [some (.ref 95), none, none] [] SH RF (q_cpy I 105 0 96 76 out.length) L 0 0 0 0 K) : ∀ (m k : Nat), m + k = out.length → WW G (d + 3) mt_R_text 123 [some (.ref 95), none, some (.int (nI k))] [] SH RF (q_cpy I 105 0 96 76 k) L 0 0 0 0 K
  | 0, k, h => by
    have ek : k = out.length := by omega
    subst ek
    refine r_ild2 f_R_text_123 ?_
    refine r_ald0 f_R_text_124 ?_
    refine r_gi f_R_text_125 (s_95) ?_
    rw [show q_cpy I 105 0 96 76 out.length 95 27 = nI out.length from by rw [q_cpy_row (by decide)]; exact h27]
    refine r_ic_ge f_R_text_128 (fun h128 => ?_) (fun h128 => absurd h128 (fun q => q (Int32.le_refl _)))
    refine r_drop2 ?_
    exact hk
  | m + 1, k, h => by
    refine r_ild2 f_R_text_123 ?_
    refine r_ald0 f_R_text_124 ?_
    refine r_gi f_R_text_125 (s_95) ?_
    rw [show q_cpy I 105 0 96 76 k 95 27 = nI out.length from by rw [q_cpy_row (by decide)]; exact h27]
    refine r_ic_ge f_R_text_128 (fun h128 => absurd h128 (nI_ge (by omega) (by omega))) (fun h128 => ?_)
    refine r_ald0 f_R_text_131 ?_
    refine r_gr f_R_text_132 (s_95) (r_95_0) ?_
    refine r_ic f_R_text_135 ?_
    refine r_ild2 f_R_text_137 ?_
    refine r_iadd f_R_text_138 ?_
    rw [show (76 : Int32) + nI k = nI (76 + k) from nI_add 76 k]
    refine r_ald0 f_R_text_139 ?_
    refine r_gr f_R_text_140 (s_95) (r_95_26) ?_
    refine r_ild2 f_R_text_143 ?_
    refine r_iald f_R_text_144 (s_105) (q_ix.nI (show k < 60 by omega) (by decide)) ?_
    rw [show q_cpy I 105 0 96 76 k 105 k = I 105 (0 + k) from by rw [q_cpy_row (by decide), Nat.zero_add]]
    refine r_iast f_R_text_145 (s_96) (q_ix.nI (show 76 + k < 136 by omega) (by decide)) ?_
    rw [q_cpy_s]
    refine r_inc2 f_R_text_146 rfl ?_
    rw [nI_1]
    refine r_goto f_R_text_149 ?_
    exact k_t_copy hl h27 hk m (k + 1) (by omega)
theorem k_R_text (hC : RepM I L σ) (hW : WFs σ) (hk : MK K I L (op_text σ)) : WW G (d + 3) mt_R_text 0 [some (.ref 95), none, none] [] SH RF I L 0 0 0 0 K := by
  unfold op_text at hk
  have h60 := hW.2.2.1.1
  have hT : TPm I σ.2.2.2.1 := hC.2.2.2.1
  obtain ⟨A, B⟩ := m_text (t := σ.2.2.2.1) (t_Cl (G := G) (d := d) (K := K) (I0 := I) (L := L) h60) h60
  refine r_ald0 f_R_text_0 ?_
  refine r_ic f_R_text_1 ?_
  refine r_pi f_R_text_2 (s_95) ?_
  refine r_ald0 f_R_text_5 ?_
  refine r_ic f_R_text_6 ?_
  refine r_pi f_R_text_7 (s_95) ?_
  refine r_ald0 f_R_text_10 ?_
  refine r_ic f_R_text_11 ?_
  refine r_pi f_R_text_12 (s_95) ?_
  refine r_ald0 f_R_text_15 ?_
  refine r_ic f_R_text_16 ?_
  refine r_pi f_R_text_17 (s_95) ?_
  refine r_ald0 f_R_text_20 ?_
  refine r_ic f_R_text_21 ?_
  refine r_pz f_R_text_22 (s_95) (Or.inl rfl) ?_
  refine r_ic f_R_text_25 ?_
  refine r_ist1 f_R_text_26 rfl ?_
  have g0 : q_ag FXf I (u2 (u2 (u2 (u2 (u2 I 95 31 0) 95 29 0) 95 30 0) 95 27 0) 95 32 0) := ((((q_ag.rf.u2 (Or.inl ⟨rfl, by decide, by decide⟩)).u2 (Or.inl ⟨rfl, by decide, by decide⟩)).u2 (Or.inl ⟨rfl, by decide, by decide⟩)).u2 (Or.inl ⟨rfl, by decide, by decide⟩)).u2 (Or.inl ⟨rfl, by decide, by decide⟩)
  have hq : m_Q (u2 (u2 (u2 (u2 (u2 I 95 31 0) 95 29 0) 95 30 0) 95 27 0) 95 32 0) σ.2.2.2.1 (0, [], 0, []) := ⟨⟨(g0 95 25 (by unfold FXf; omega)).trans hT.1, fun j x hx => (g0 104 j (by unfold FXf; omega)).trans (hT.2 j x hx)⟩, rfl, rfl, trivial, rfl, rfl, fun j x hx => by cases hx⟩
  refine (show t_P G d K σ.2.2.2.1 I L 1 (0, [], 0, []) from ?_) _ hq (Nat.le_refl _) (Nat.zero_le _) rfl g0
  by_cases hc : (p_text σ.2.2.2.1).1 = true ∧ (p_text σ.2.2.2.1).2.1 = σ.2.2.2.1.length
  · rw [if_pos hc] at hk
    refine A hc (fun I' h27 h105 hlo hg => ?_)
    generalize (p_text σ.2.2.2.1).2.2.map q_tr = out at hk h27 h105 hlo
    refine r_ald0 f_R_text_110 ?_
    refine r_gr f_R_text_111 (s_95) (r_95_0) ?_
    refine r_ic f_R_text_114 ?_
    refine r_ald0 f_R_text_116 ?_
    refine r_gi f_R_text_117 (s_95) ?_
    rw [h27]
    refine r_iast f_R_text_120 (s_96) (show q_ix 11 11 136 from ⟨by decide, by decide⟩) ?_
    refine r_ic f_R_text_121 ?_
    refine r_ist2 f_R_text_122 rfl ?_
    rw [← q_cpy_0 (f := u2 I' 96 11 (nI out.length)) (a := 105) (sp := 0) (b := 96) (dp := 76)]
    refine k_t_copy (out := out) hlo ((u2_ne (Or.inl (by decide))).trans h27) ?_ out.length 0 (Nat.add_zero _)
    refine r_ald0 f_R_text_152 ?_
    refine r_ic f_R_text_153 ?_
    refine r_pi f_R_text_154 (s_95) ?_
    refine r_ic f_R_text_157 ?_
    refine r_iret f_R_text_158 ⟨_, rfl, rfl⟩ (Nat.le_refl _) (Nat.le_refl _) ?_
    have e9 : ∀ x y, x ≠ 96 → (x ≠ 95 ∨ y ≠ 25) → u2 (q_cpy (u2 I' 96 11 (nI out.length)) 105 0 96 76 out.length) 95 25 0 x y = I' x y := fun x y q1 q2 => (u2_ne q2).trans (by rw [q_cpy_row q1, u2_ne (Or.inl q1)])
    have e96 : ∀ y, u2 (q_cpy (u2 I' 96 11 (nI out.length)) 105 0 96 76 out.length) 95 25 0 96 y = if 76 ≤ y ∧ y < 76 + out.length then I' 105 (y - 76) else if y = 11 then nI out.length else I' 96 y := fun y => by
      rw [u2_ne (Or.inl (by decide))]
      unfold q_cpy
      by_cases hc2 : 76 ≤ y ∧ y < 76 + out.length
      · rw [if_pos ⟨rfl, hc2⟩, if_pos hc2, u2_ne (Or.inl (by decide)), Nat.zero_add]
      · rw [if_neg (fun q => hc2 q.2), if_neg hc2]
        by_cases e11 : y = 11
        · rw [e11, u2_self, if_pos rfl]
        · rw [u2_ne (Or.inr e11), if_neg e11]
    have hRX : RR (u2 (q_cpy (u2 I' 96 11 (nI out.length)) 105 0 96 76 out.length) 95 25 0) 96 (eX σ.1 out) := hC.1.toX (by rw [e96, if_neg (by omega), if_pos rfl]) hlo (fun y h1 h2 => by
      rw [e96, if_neg (by omega), if_neg h2]
      exact hg 96 y (by unfold FXf; omega)) (fun j x hx => by
      have hj := (List.getElem?_eq_some_iff.mp hx).1
      rw [e96, if_pos (by omega), show 76 + j - 76 = j by omega]
      exact h105 j x hx)
    have e0 : ∀ x y, x ≠ 96 → (x ≠ 95 ∨ y ≠ 25) → ¬ FXf x y → u2 (q_cpy (u2 I' 96 11 (nI out.length)) 105 0 96 76 out.length) 95 25 0 x y = I x y := fun x y q1 q2 q3 => (e9 x y q1 q2).trans (hg x y q3)
    refine hk _ _ ⟨hRX, ?_, ⟨fun j hj => (e0 99 j (by decide) (Or.inl (by decide)) (by unfold FXf; omega)).trans (hC.2.2.1.1 j hj), (e0 95 5 (by decide) (by decide) (by unfold FXf; omega)).trans hC.2.2.1.2⟩, ⟨u2_self, fun j x hx => by cases hx⟩, fun s hs => ⟨(e0 109 s (by decide) (Or.inl (by decide)) (by unfold FXf; omega)).trans (hC.wdt hs), (e0 110 s (by decide) (Or.inl (by decide)) (by unfold FXf; omega)).trans (hC.siz hs), fun j hj => hC.cel hs hj⟩⟩ (fun x y hx => ⟨e0 x y (by omega) (by omega) (by unfold FXf; omega), rfl⟩)
    exact hC.kp hW (e0 95 3 (by decide) (by decide) (by unfold FXf; omega)) (fun x y q => e0 x y (by omega) (by omega) (by unfold FXf; omega))
  · rw [if_neg hc] at hk
    refine B hc (fun I' hg => hk _ _ (hC.fm hW (hg.mo (fun x y q => by unfold FXf at q; unfold FM; omega)) q_aL.rf) (q_lw.fm (hg.mo (fun x y q => by unfold FXf at q; unfold FM; omega)) q_aL.rf))
end L64
