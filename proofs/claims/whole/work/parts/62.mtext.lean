/-! THE TEXT'S MACHINE: the place that is read next, what waits (the last first), how many are open, what is told -/
abbrev Mq : Type := Nat × List Int32 × Int32 × List Int32
def m_ends : List Int32 → Int32 → List Int32 → List Int32 × Int32 × List Int32
  | [], p, e => ([], p, e)
  | x :: W, p, e => if x = 10105 then m_ends W (p - 1) (e ++ [10105]) else (x :: W, p, e)
def m_set (z : Int32) : List Int32 → List Int32 → List Int32 × List Int32
  | [], e => ([], e)
  | x :: W, e => if z ≤ x then m_set z W (e ++ [x]) else (x :: W, e)
def PW (I : Rn) : List Int32 → Prop
  | [] => True
  | x :: r => I 106 r.length = x ∧ PW I r
def m_Q (I : Rn) (t : List Int32) (s : Mq) : Prop := TPm I t ∧ I 95 31 = nI s.1 ∧ I 95 29 = nI s.2.1.length ∧ PW I s.2.1 ∧ I 95 30 = s.2.2.1 ∧ I 95 27 = nI s.2.2.2.length ∧ ∀ (j : Nat) (x : Int32), s.2.2.2[j]? = some x → I 105 j = x
def FX : Nat → Nat → Prop := fun x y => (x = 95 ∧ (y = 27 ∨ y = 29 ∨ y = 30 ∨ y = 31)) ∨ x = 105 ∨ x = 106
section L62
variable {G : Gx} {d : Nat} {I I' I2 : Rn} {L L' L2 : Rl} {K : Kt} {t W e : List Int32} {p : Int32} {n : Nat}
theorem PW.eq : ∀ {r : List Int32}, PW I r → (∀ j, j < r.length → I' 106 j = I 106 j) → PW I' r
  | [], _, _ => trivial
  | x :: r, h, hj => ⟨(hj _ (by simp)).trans h.1, PW.eq h.2 (fun j hq => hj j (by simp; omega))⟩
theorem TPm.get {j : Nat} (h : TPm I t) (hj : j < t.length) : I 104 j = pN t j := by
  unfold pN
  rw [List.getElem?_eq_getElem hj]
  exact h.2 j _ (List.getElem?_eq_getElem hj)
theorem pN_ge {j : Nat} (h : t.length ≤ j) : pN t j = -1 := by
  unfold pN
  rw [List.getElem?_eq_none h]
  rfl
theorem m_Q.mk' {n' : Nat} {W' : List Int32} {p' : Int32} (h : m_Q I t (n, W, p, e)) (e0 : ∀ x y, x ≠ 95 → x ≠ 106 → I' x y = I x y) (e25 : I' 95 25 = I 95 25) (e31 : I' 95 31 = nI n') (e29 : I' 95 29 = nI W'.length) (hp : PW I' W') (e30 : I' 95 30 = p') (e27 : I' 95 27 = I 95 27) : m_Q I' t (n', W', p', e) :=
  ⟨⟨e25.trans h.1.1, fun j x hx => (e0 104 j (by decide) (by decide)).trans (h.1.2 j x hx)⟩, e31, e29, hp, e30, e27.trans h.2.2.2.2.2.1, fun j x hx => (e0 105 j (by decide) (by decide)).trans (h.2.2.2.2.2.2 j x hx)⟩
theorem m_Q.emit {v : Int32} (h : m_Q I t (n, W, p, e)) : m_Q (u2 (u2 I 105 e.length v) 95 27 (nI (e.length + 1))) t (n, W, p, e ++ [v]) := by
  have e1 : ∀ x y, x ≠ 105 → (x ≠ 95 ∨ y ≠ 27) → u2 (u2 I 105 e.length v) 95 27 (nI (e.length + 1)) x y = I x y := fun x y h1 h2 => (u2_ne h2).trans (u2_ne (Or.inl h1))
  refine ⟨⟨(e1 _ _ (by decide) (by decide)).trans h.1.1, fun j x hx => (e1 104 j (by decide) (Or.inl (by decide))).trans (h.1.2 j x hx)⟩, (e1 _ _ (by decide) (by decide)).trans h.2.1, (e1 _ _ (by decide) (by decide)).trans h.2.2.1, h.2.2.2.1.eq (fun j _ => e1 106 j (by decide) (Or.inl (by decide))), (e1 _ _ (by decide) (by decide)).trans h.2.2.2.2.1, ?_, fun j x hx => ?_⟩
  · rw [u2_self, List.length_append]
    rfl
  · rw [u2_ne (Or.inl (by decide))]
    by_cases ej : j = e.length
    · subst ej
      rw [List.getElem?_concat_length] at hx
      cases hx
      exact u2_self
    · rw [u2_ne (Or.inr ej)]
      have hl := (List.getElem?_eq_some_iff.mp hx).1
      rw [List.length_append] at hl
      have hl2 : ([v] : List Int32).length = 1 := rfl
      rw [List.getElem?_append_left (by omega)] at hx
      exact h.2.2.2.2.2.2 j x hx
theorem k_R_emit {v : Int32} (h : m_Q I t (n, W, p, e)) (hl : e.length < 60) (hk : ∀ I', m_Q I' t (n, W, p, e ++ [v]) → q_ag FX I I' → K none SH RF I' L) : WW G d mt_R_emit 0 [some (.ref 95), some (.int v)] [] SH RF I L 0 0 0 0 K := by
  refine r_ald0 f_R_emit_0 ?_
  refine r_gr f_R_emit_1 (s_95) (r_95_26) ?_
  refine r_ald0 f_R_emit_4 ?_
  refine r_gi f_R_emit_5 (s_95) ?_
  rw [show I 95 27 = nI e.length from h.2.2.2.2.2.1]
  refine r_ild1 f_R_emit_8 ?_
  refine r_iast f_R_emit_9 (s_105) (q_ix.nI (show e.length < 60 from hl) (by decide)) ?_
  refine r_ald0 f_R_emit_10 ?_
  refine r_dupr f_R_emit_11 ?_
  refine r_gi f_R_emit_12 (s_95) ?_
  rw [show u2 I 105 e.length v 95 27 = nI e.length from (u2_ne (Or.inl (by decide))).trans h.2.2.2.2.2.1]
  refine r_ic f_R_emit_15 ?_
  refine r_iadd f_R_emit_16 ?_
  rw [nI_1]
  refine r_pi f_R_emit_17 (s_95) ?_
  refine r_ret f_R_emit_20 rfl (Nat.le_refl _) (Nat.le_refl _) ?_
  exact hk _ h.emit ((q_ag.rf.u2 (Or.inr (Or.inl rfl))).u2 (Or.inl ⟨rfl, Or.inl rfl⟩))
theorem m_ends_len : ∀ (W : List Int32) (p : Int32) (e : List Int32), (m_ends W p e).1.length + (m_ends W p e).2.2.length = W.length + e.length
  | [], p, e => rfl
  | x :: W, p, e => by
    unfold m_ends
    by_cases q : x = 10105
    · rw [if_pos q, m_ends_len W]
      simp
      omega
    · rw [if_neg q]
theorem m_set_len {z : Int32} : ∀ (W e : List Int32), (m_set z W e).1.length + (m_set z W e).2.length = W.length + e.length
  | [], e => rfl
  | x :: W, e => by
    unfold m_set
    by_cases q : z ≤ x
    · rw [if_pos q, m_set_len W]
      simp
      omega
    · rw [if_neg q]
theorem k_R_ends {n : Nat} {W0 e0 : List Int32} {p0 : Int32} {I0 : Rn} (hk : ∀ I' W' p' e', (W', p', e') = m_ends W0 p0 e0 → m_Q I' t (n, W', p', e') → q_ag FX I0 I' → K (some (.int 0)) SH RF I' L) : ∀ (W : List Int32) (p : Int32) (e : List Int32) (I : Rn), m_ends W p e = m_ends W0 p0 e0 → W.length + e.length ≤ 60 → m_Q I t (n, W, p, e) → q_ag FX I0 I → WW G (d + 1) mt_R_ends 0 [some (.ref 95)] [] SH RF I L 0 0 0 0 K
  | [], p, e, I, hm, hl, h, hg => by
    have h0 : I 95 29 = 0 := h.2.2.1
    refine r_ald0 f_R_ends_0 ?_
    refine r_gi f_R_ends_1 (s_95) ?_
    rw [h0]
    refine r_if_le f_R_ends_4 (fun h4 => ?_) (fun h4 => absurd h4 (by decide))
    refine r_ic f_R_ends_54 ?_
    refine r_iret f_R_ends_55 ⟨_, rfl, rfl⟩ (Nat.le_refl _) (Nat.le_refl _) ?_
    exact hk I [] p e hm h hg
  | x :: W, p, e, I, hm, hl, h, hg => by
    have hl1 : (x :: W).length = W.length + 1 := rfl
    have hx : I 106 W.length = x := h.2.2.2.1.1
    by_cases q : x = 10105
    · rw [show m_ends (x :: W) p e = m_ends W (p - 1) (e ++ [10105]) from if_pos q] at hm
      refine r_ald0 f_R_ends_0 ?_
      refine r_gi f_R_ends_1 (s_95) ?_
      rw [show I 95 29 = nI (W.length + 1) from h.2.2.1]
      refine r_if_le f_R_ends_4 (fun h4 => absurd h4 (nI_nle (by omega) (by omega))) (fun h4 => ?_)
      refine r_ald0 f_R_ends_7 ?_
      refine r_gr f_R_ends_8 (s_95) (r_95_28) ?_
      refine r_ald0 f_R_ends_11 ?_
      refine r_gi f_R_ends_12 (s_95) ?_
      rw [show I 95 29 = nI (W.length + 1) from h.2.2.1]
      refine r_ic f_R_ends_15 ?_
      refine r_isub f_R_ends_16 ?_
      rw [nI_pred]
      refine r_iald f_R_ends_17 (s_106) (q_ix.nI (show W.length < 60 by omega) (by decide)) ?_
      rw [hx]
      refine r_ic f_R_ends_18 ?_
      refine r_ic_ne f_R_ends_21 (fun h21 => absurd h21 (fun w => w q)) (fun h21 => ?_)
      refine r_ald0 f_R_ends_24 ?_
      refine r_dupr f_R_ends_25 ?_
      refine r_gi f_R_ends_26 (s_95) ?_
      rw [show I 95 29 = nI (W.length + 1) from h.2.2.1]
      refine r_ic f_R_ends_29 ?_
      refine r_isub f_R_ends_30 ?_
      rw [nI_pred]
      refine r_pi f_R_ends_31 (s_95) ?_
      refine r_ald0 f_R_ends_34 ?_
      refine r_dupr f_R_ends_35 ?_
      refine r_gi f_R_ends_36 (s_95) ?_
      rw [show u2 I 95 29 (nI W.length) 95 30 = p from (u2_ne (Or.inr (by decide))).trans h.2.2.2.2.1]
      refine r_ic f_R_ends_39 ?_
      refine r_isub f_R_ends_40 ?_
      refine r_pi f_R_ends_41 (s_95) ?_
      have hM := h.mk' (I' := u2 (u2 I 95 29 (nI W.length)) 95 30 (p - 1)) (n' := n) (W' := W) (p' := p - 1) (fun x y q1 _ => (u2_ne (Or.inl q1)).trans (u2_ne (Or.inl q1))) rfl h.2.1 rfl (h.2.2.2.1.2.eq (fun j _ => (u2_ne (Or.inl (by decide))).trans (u2_ne (Or.inl (by decide))))) rfl rfl
      refine r_ald0 f_R_ends_44 ?_
      refine r_ic f_R_ends_45 ?_
      refine c_R_emit f_R_ends_48 (s_95) (Nat.le_of_ble_eq_true rfl) (Nat.le_refl _) (Nat.le_refl _) ?_
      refine k_R_emit hM (by omega) (fun I9 hM9 g9 => ?_)
      refine r_goto f_R_ends_51 ?_
      exact k_R_ends hk W (p - 1) (e ++ [10105]) I9 hm (by simp at hl ⊢; omega) hM9 (hg.tr (((q_ag.rf.u2 (Or.inl ⟨rfl, by decide⟩)).u2 (Or.inl ⟨rfl, by decide⟩)).tr g9))
    · rw [show m_ends (x :: W) p e = (x :: W, p, e) from if_neg q] at hm
      refine r_ald0 f_R_ends_0 ?_
      refine r_gi f_R_ends_1 (s_95) ?_
      rw [show I 95 29 = nI (W.length + 1) from h.2.2.1]
      refine r_if_le f_R_ends_4 (fun h4 => absurd h4 (nI_nle (by omega) (by omega))) (fun h4 => ?_)
      refine r_ald0 f_R_ends_7 ?_
      refine r_gr f_R_ends_8 (s_95) (r_95_28) ?_
      refine r_ald0 f_R_ends_11 ?_
      refine r_gi f_R_ends_12 (s_95) ?_
      rw [show I 95 29 = nI (W.length + 1) from h.2.2.1]
      refine r_ic f_R_ends_15 ?_
      refine r_isub f_R_ends_16 ?_
      rw [nI_pred]
      refine r_iald f_R_ends_17 (s_106) (q_ix.nI (show W.length < 60 by omega) (by decide)) ?_
      rw [hx]
      refine r_ic f_R_ends_18 ?_
      refine r_ic_ne f_R_ends_21 (fun h21 => ?_) (fun h21 => absurd h21 q)
      refine r_ic f_R_ends_54 ?_
      refine r_iret f_R_ends_55 ⟨_, rfl, rfl⟩ (Nat.le_refl _) (Nat.le_refl _) ?_
      exact hk I (x :: W) p e hm h hg
theorem k_R_settles1 {n : Nat} {W0 e0 : List Int32} {I0 : Rn} (hk : ∀ I' W' e', (W', e') = m_set 10100 W0 e0 → m_Q I' t (n, W', p, e') → q_ag FX I0 I' → K none SH RF I' L) : ∀ (W : List Int32) (e : List Int32) (I : Rn), m_set 10100 W e = m_set 10100 W0 e0 → W.length + e.length ≤ 60 → m_Q I t (n, W, p, e) → q_ag FX I0 I → WW G (d + 1) mt_R_settles 0 [some (.ref 95), some (.int 1)] [] SH RF I L 0 0 0 0 K
  | [], e, I, hm, hl, h, hg => by
    have h0 : I 95 29 = 0 := h.2.2.1
    refine r_ald0 f_R_settles_0 ?_
    refine r_gi f_R_settles_1 (s_95) ?_
    rw [h0]
    refine r_if_le f_R_settles_4 (fun h4 => ?_) (fun h4 => absurd h4 (by decide))
    refine r_ret f_R_settles_72 rfl (Nat.le_refl _) (Nat.le_refl _) ?_
    exact hk I [] e hm h hg
  | x :: W, e, I, hm, hl, h, hg => by
    have hl1 : (x :: W).length = W.length + 1 := rfl
    have hx : I 106 W.length = x := h.2.2.2.1.1
    by_cases q : 10100 ≤ x
    · rw [show m_set 10100 (x :: W) e = m_set 10100 W (e ++ [x]) from if_pos q] at hm
      refine r_ald0 f_R_settles_0 ?_
      refine r_gi f_R_settles_1 (s_95) ?_
      rw [show I 95 29 = nI (W.length + 1) from h.2.2.1]
      refine r_if_le f_R_settles_4 (fun h4 => absurd h4 (nI_nle (by omega) (by omega))) (fun h4 => ?_)
      refine r_ald0 f_R_settles_7 ?_
      refine r_gr f_R_settles_8 (s_95) (r_95_28) ?_
      refine r_ald0 f_R_settles_11 ?_
      refine r_gi f_R_settles_12 (s_95) ?_
      rw [show I 95 29 = nI (W.length + 1) from h.2.2.1]
      refine r_ic f_R_settles_15 ?_
      refine r_isub f_R_settles_16 ?_
      rw [nI_pred]
      refine r_iald f_R_settles_17 (s_106) (q_ix.nI (show W.length < 60 by omega) (by decide)) ?_
      rw [hx]
      refine r_ic f_R_settles_18 ?_
      refine r_ic_lt f_R_settles_21 (fun h21 => absurd h21 (Int32.not_lt.mpr (Int32.le_trans (by decide) q))) (fun h21 => ?_)
      refine r_ild1 f_R_settles_24 ?_
      refine r_ic f_R_settles_25 ?_
      refine r_ic_eq f_R_settles_26 (fun _ => ?_) (fun h => absurd h (by decide))
      refine r_ald0 f_R_settles_46 ?_
      refine r_dupr f_R_settles_47 ?_
      refine r_gi f_R_settles_48 (s_95) ?_
      rw [show I 95 29 = nI (W.length + 1) from h.2.2.1]
      refine r_ic f_R_settles_51 ?_
      refine r_isub f_R_settles_52 ?_
      rw [nI_pred]
      refine r_pi f_R_settles_53 (s_95) ?_
      have hM := h.mk' (I' := u2 I 95 29 (nI W.length)) (n' := n) (W' := W) (p' := p) (fun x y q1 _ => u2_ne (Or.inl q1)) rfl h.2.1 rfl (h.2.2.2.1.2.eq (fun j _ => u2_ne (Or.inl (by decide)))) h.2.2.2.2.1 rfl
      refine r_ald0 f_R_settles_56 ?_
      refine r_ald0 f_R_settles_57 ?_
      refine r_gr f_R_settles_58 (s_95) (r_95_28) ?_
      refine r_ald0 f_R_settles_61 ?_
      refine r_gi f_R_settles_62 (s_95) ?_
      rw [u2_self]
      refine r_iald f_R_settles_65 (s_106) (q_ix.nI (show W.length < 60 by omega) (by decide)) ?_
      rw [show u2 I 95 29 (nI W.length) 106 W.length = x from (u2_ne (Or.inl (by decide))).trans hx]
      refine c_R_emit f_R_settles_66 (s_95) (Nat.le_of_ble_eq_true rfl) (Nat.le_refl _) (Nat.le_refl _) ?_
      refine k_R_emit hM (by omega) (fun I9 hM9 g9 => ?_)
      refine r_goto f_R_settles_69 ?_
      exact k_R_settles1 hk W (e ++ [x]) I9 hm (by simp at hl ⊢; omega) hM9 (hg.tr ((q_ag.rf.u2 (Or.inl ⟨rfl, by decide⟩)).tr g9))
    · rw [show m_set 10100 (x :: W) e = (x :: W, e) from if_neg q] at hm
      refine r_ald0 f_R_settles_0 ?_
      refine r_gi f_R_settles_1 (s_95) ?_
      rw [show I 95 29 = nI (W.length + 1) from h.2.2.1]
      refine r_if_le f_R_settles_4 (fun h4 => absurd h4 (nI_nle (by omega) (by omega))) (fun h4 => ?_)
      refine r_ald0 f_R_settles_7 ?_
      refine r_gr f_R_settles_8 (s_95) (r_95_28) ?_
      refine r_ald0 f_R_settles_11 ?_
      refine r_gi f_R_settles_12 (s_95) ?_
      rw [show I 95 29 = nI (W.length + 1) from h.2.2.1]
      refine r_ic f_R_settles_15 ?_
      refine r_isub f_R_settles_16 ?_
      rw [nI_pred]
      refine r_iald f_R_settles_17 (s_106) (q_ix.nI (show W.length < 60 by omega) (by decide)) ?_
      rw [hx]
      refine r_ic f_R_settles_18 ?_
      refine r_ic_lt f_R_settles_21 (fun h21 => ?_) (fun h21 => absurd (Int32.not_le.mp q) h21)
      refine r_ret f_R_settles_72 rfl (Nat.le_refl _) (Nat.le_refl _) ?_
      exact hk I (x :: W) e hm h hg
theorem k_R_settles2 {n : Nat} {W0 e0 : List Int32} {I0 : Rn} (hk : ∀ I' W' e', (W', e') = m_set 10102 W0 e0 → m_Q I' t (n, W', p, e') → q_ag FX I0 I' → K none SH RF I' L) : ∀ (W : List Int32) (e : List Int32) (I : Rn), m_set 10102 W e = m_set 10102 W0 e0 → W.length + e.length ≤ 60 → m_Q I t (n, W, p, e) → q_ag FX I0 I → WW G (d + 1) mt_R_settles 0 [some (.ref 95), some (.int 2)] [] SH RF I L 0 0 0 0 K
  | [], e, I, hm, hl, h, hg => by
    have h0 : I 95 29 = 0 := h.2.2.1
    refine r_ald0 f_R_settles_0 ?_
    refine r_gi f_R_settles_1 (s_95) ?_
    rw [h0]
    refine r_if_le f_R_settles_4 (fun h4 => ?_) (fun h4 => absurd h4 (by decide))
    refine r_ret f_R_settles_72 rfl (Nat.le_refl _) (Nat.le_refl _) ?_
    exact hk I [] e hm h hg
  | x :: W, e, I, hm, hl, h, hg => by
    have hl1 : (x :: W).length = W.length + 1 := rfl
    have hx : I 106 W.length = x := h.2.2.2.1.1
    by_cases q : 10102 ≤ x
    · rw [show m_set 10102 (x :: W) e = m_set 10102 W (e ++ [x]) from if_pos q] at hm
      refine r_ald0 f_R_settles_0 ?_
      refine r_gi f_R_settles_1 (s_95) ?_
      rw [show I 95 29 = nI (W.length + 1) from h.2.2.1]
      refine r_if_le f_R_settles_4 (fun h4 => absurd h4 (nI_nle (by omega) (by omega))) (fun h4 => ?_)
      refine r_ald0 f_R_settles_7 ?_
      refine r_gr f_R_settles_8 (s_95) (r_95_28) ?_
      refine r_ald0 f_R_settles_11 ?_
      refine r_gi f_R_settles_12 (s_95) ?_
      rw [show I 95 29 = nI (W.length + 1) from h.2.2.1]
      refine r_ic f_R_settles_15 ?_
      refine r_isub f_R_settles_16 ?_
      rw [nI_pred]
      refine r_iald f_R_settles_17 (s_106) (q_ix.nI (show W.length < 60 by omega) (by decide)) ?_
      rw [hx]
      refine r_ic f_R_settles_18 ?_
      refine r_ic_lt f_R_settles_21 (fun h21 => absurd h21 (Int32.not_lt.mpr (Int32.le_trans (by decide) q))) (fun h21 => ?_)
      refine r_ild1 f_R_settles_24 ?_
      refine r_ic f_R_settles_25 ?_
      refine r_ic_eq f_R_settles_26 (fun h => absurd h (by decide)) (fun _ => ?_)
      refine r_ald0 f_R_settles_29 ?_
      refine r_gr f_R_settles_30 (s_95) (r_95_28) ?_
      refine r_ald0 f_R_settles_33 ?_
      refine r_gi f_R_settles_34 (s_95) ?_
      rw [show I 95 29 = nI (W.length + 1) from h.2.2.1]
      refine r_ic f_R_settles_37 ?_
      refine r_isub f_R_settles_38 ?_
      rw [nI_pred]
      refine r_iald f_R_settles_39 (s_106) (q_ix.nI (show W.length < 60 by omega) (by decide)) ?_
      rw [hx]
      refine r_ic f_R_settles_40 ?_
      refine r_ic_lt f_R_settles_43 (fun h43 => absurd h43 (Int32.not_lt.mpr q)) (fun h43 => ?_)
      refine r_ald0 f_R_settles_46 ?_
      refine r_dupr f_R_settles_47 ?_
      refine r_gi f_R_settles_48 (s_95) ?_
      rw [show I 95 29 = nI (W.length + 1) from h.2.2.1]
      refine r_ic f_R_settles_51 ?_
      refine r_isub f_R_settles_52 ?_
      rw [nI_pred]
      refine r_pi f_R_settles_53 (s_95) ?_
      have hM := h.mk' (I' := u2 I 95 29 (nI W.length)) (n' := n) (W' := W) (p' := p) (fun x y q1 _ => u2_ne (Or.inl q1)) rfl h.2.1 rfl (h.2.2.2.1.2.eq (fun j _ => u2_ne (Or.inl (by decide)))) h.2.2.2.2.1 rfl
      refine r_ald0 f_R_settles_56 ?_
      refine r_ald0 f_R_settles_57 ?_
      refine r_gr f_R_settles_58 (s_95) (r_95_28) ?_
      refine r_ald0 f_R_settles_61 ?_
      refine r_gi f_R_settles_62 (s_95) ?_
      rw [u2_self]
      refine r_iald f_R_settles_65 (s_106) (q_ix.nI (show W.length < 60 by omega) (by decide)) ?_
      rw [show u2 I 95 29 (nI W.length) 106 W.length = x from (u2_ne (Or.inl (by decide))).trans hx]
      refine c_R_emit f_R_settles_66 (s_95) (Nat.le_of_ble_eq_true rfl) (Nat.le_refl _) (Nat.le_refl _) ?_
      refine k_R_emit hM (by omega) (fun I9 hM9 g9 => ?_)
      refine r_goto f_R_settles_69 ?_
      exact k_R_settles2 hk W (e ++ [x]) I9 hm (by simp at hl ⊢; omega) hM9 (hg.tr ((q_ag.rf.u2 (Or.inl ⟨rfl, by decide⟩)).tr g9))
    · rw [show m_set 10102 (x :: W) e = (x :: W, e) from if_neg q] at hm
      refine r_ald0 f_R_settles_0 ?_
      refine r_gi f_R_settles_1 (s_95) ?_
      rw [show I 95 29 = nI (W.length + 1) from h.2.2.1]
      refine r_if_le f_R_settles_4 (fun h4 => absurd h4 (nI_nle (by omega) (by omega))) (fun h4 => ?_)
      refine r_ald0 f_R_settles_7 ?_
      refine r_gr f_R_settles_8 (s_95) (r_95_28) ?_
      refine r_ald0 f_R_settles_11 ?_
      refine r_gi f_R_settles_12 (s_95) ?_
      rw [show I 95 29 = nI (W.length + 1) from h.2.2.1]
      refine r_ic f_R_settles_15 ?_
      refine r_isub f_R_settles_16 ?_
      rw [nI_pred]
      refine r_iald f_R_settles_17 (s_106) (q_ix.nI (show W.length < 60 by omega) (by decide)) ?_
      rw [hx]
      refine r_ic f_R_settles_18 ?_
      refine r_ic_lt f_R_settles_21 (fun h21 => ?_) (fun h21 => ?_)
      · refine r_ret f_R_settles_72 rfl (Nat.le_refl _) (Nat.le_refl _) ?_
        exact hk I (x :: W) e hm h hg
      · refine r_ild1 f_R_settles_24 ?_
        refine r_ic f_R_settles_25 ?_
        refine r_ic_eq f_R_settles_26 (fun h => absurd h (by decide)) (fun _ => ?_)
        refine r_ald0 f_R_settles_29 ?_
        refine r_gr f_R_settles_30 (s_95) (r_95_28) ?_
        refine r_ald0 f_R_settles_33 ?_
        refine r_gi f_R_settles_34 (s_95) ?_
        rw [show I 95 29 = nI (W.length + 1) from h.2.2.1]
        refine r_ic f_R_settles_37 ?_
        refine r_isub f_R_settles_38 ?_
        rw [nI_pred]
        refine r_iald f_R_settles_39 (s_106) (q_ix.nI (show W.length < 60 by omega) (by decide)) ?_
        rw [hx]
        refine r_ic f_R_settles_40 ?_
        refine r_ic_lt f_R_settles_43 (fun h43 => ?_) (fun h43 => absurd (Int32.not_le.mp q) h43)
        refine r_ret f_R_settles_72 rfl (Nat.le_refl _) (Nat.le_refl _) ?_
        exact hk I (x :: W) e hm h hg
theorem k_R_waits {v : Int32} (h : m_Q I t (n, W, p, e)) (hl : W.length < 60) (hk : ∀ I', m_Q I' t (n + 1, v :: W, p, e) → q_ag FX I I' → K none SH RF I' L) : WW G d mt_R_waits 0 [some (.ref 95), some (.int v)] [] SH RF I L 0 0 0 0 K := by
  refine r_ald0 f_R_waits_0 ?_
  refine r_gr f_R_waits_1 (s_95) (r_95_28) ?_
  refine r_ald0 f_R_waits_4 ?_
  refine r_gi f_R_waits_5 (s_95) ?_
  rw [show I 95 29 = nI W.length from h.2.2.1]
  refine r_ild1 f_R_waits_8 ?_
  refine r_iast f_R_waits_9 (s_106) (q_ix.nI (show W.length < 60 from hl) (by decide)) ?_
  refine r_ald0 f_R_waits_10 ?_
  refine r_dupr f_R_waits_11 ?_
  refine r_gi f_R_waits_12 (s_95) ?_
  rw [show u2 I 106 W.length v 95 29 = nI W.length from (u2_ne (Or.inl (by decide))).trans h.2.2.1]
  refine r_ic f_R_waits_15 ?_
  refine r_iadd f_R_waits_16 ?_
  rw [nI_1]
  refine r_pi f_R_waits_17 (s_95) ?_
  refine r_ald0 f_R_waits_20 ?_
  refine r_dupr f_R_waits_21 ?_
  refine r_gi f_R_waits_22 (s_95) ?_
  rw [show u2 (u2 I 106 W.length v) 95 29 (nI (W.length + 1)) 95 31 = nI n from (u2_ne (Or.inr (by decide))).trans ((u2_ne (Or.inl (by decide))).trans h.2.1)]
  refine r_ic f_R_waits_25 ?_
  refine r_iadd f_R_waits_26 ?_
  rw [nI_1]
  refine r_pi f_R_waits_27 (s_95) ?_
  refine r_ret f_R_waits_30 rfl (Nat.le_refl _) (Nat.le_refl _) ?_
  refine hk _ (h.mk' (fun x y q1 q2 => (u2_ne (Or.inl q1)).trans ((u2_ne (Or.inl q1)).trans (u2_ne (Or.inl q2)))) rfl u2_self rfl ⟨?_, ?_⟩ h.2.2.2.2.1 rfl) (((q_ag.rf.u2 (Or.inr (Or.inr rfl))).u2 (Or.inl ⟨rfl, by decide⟩)).u2 (Or.inl ⟨rfl, by decide⟩))
  · rw [u2_ne (Or.inl (by decide)), u2_ne (Or.inl (by decide)), u2_self]
  · exact h.2.2.2.1.eq (fun j hj => (u2_ne (Or.inl (by decide))).trans ((u2_ne (Or.inl (by decide))).trans (u2_ne (Or.inr (Nat.ne_of_lt hj)))))
theorem k_R_top (h : m_Q I t (n, W, p, e)) (hl : W.length ≤ 60) (hk : K (some (.int (W.headD (-1)))) SH RF I L) : WW G d mt_R_top 0 [some (.ref 95)] [] SH RF I L 0 0 0 0 K := by
  cases W with
  | nil =>
    have h0 : I 95 29 = 0 := h.2.2.1
    replace hk : K (some (.int (-1))) SH RF I L := hk
    refine r_ald0 f_R_top_0 ?_
    refine r_gi f_R_top_1 (s_95) ?_
    rw [h0]
    refine r_if_ne f_R_top_4 (fun h4 => absurd rfl h4) (fun h4 => ?_)
    refine r_ic f_R_top_7 ?_
    refine r_goto f_R_top_8 ?_
    refine r_iret f_R_top_22 ⟨_, rfl, rfl⟩ (Nat.le_refl _) (Nat.le_refl _) ?_
    exact hk
  | cons x W =>
    have hl1 : (x :: W).length = W.length + 1 := rfl
    have hx : I 106 W.length = x := h.2.2.2.1.1
    replace hk : K (some (.int x)) SH RF I L := hk
    refine r_ald0 f_R_top_0 ?_
    refine r_gi f_R_top_1 (s_95) ?_
    rw [show I 95 29 = nI (W.length + 1) from h.2.2.1]
    refine r_if_ne f_R_top_4 (fun h4 => ?_) (fun h4 => absurd h4 (nI_ne0 (by omega) (by omega)))
    refine r_ald0 f_R_top_11 ?_
    refine r_gr f_R_top_12 (s_95) (r_95_28) ?_
    refine r_ald0 f_R_top_15 ?_
    refine r_gi f_R_top_16 (s_95) ?_
    rw [show I 95 29 = nI (W.length + 1) from h.2.2.1]
    refine r_ic f_R_top_19 ?_
    refine r_isub f_R_top_20 ?_
    rw [nI_pred]
    refine r_iald f_R_top_21 (s_106) (q_ix.nI (show W.length < 60 by omega) (by decide)) ?_
    rw [hx]
    refine r_iret f_R_top_22 ⟨_, rfl, rfl⟩ (Nat.le_refl _) (Nat.le_refl _) ?_
    exact hk
theorem k_R_isDigit {x : Int32} (h1 : 48 ≤ x ∧ x ≤ 57 → K (some (.int 1)) SH RF I L) (h0 : ¬ (48 ≤ x ∧ x ≤ 57) → K (some (.int 0)) SH RF I L) : WW G d mt_R_isDigit 0 [some (.int x)] [] SH RF I L 0 0 0 0 K := by
  refine r_ild0 f_R_isDigit_0 ?_
  refine r_ic f_R_isDigit_1 ?_
  refine r_ic_lt f_R_isDigit_3 (fun h3 => ?_) (fun h3 => ?_)
  · refine r_ic f_R_isDigit_16 ?_
    refine r_iret f_R_isDigit_17 ⟨_, rfl, rfl⟩ (Nat.le_refl _) (Nat.le_refl _) ?_
    first | exact h1 ⟨Int32.not_lt.mp h3, Int32.not_lt.mp h9⟩ | exact h0 (fun q => absurd q.1 (Int32.not_le.mpr h3)) | exact h0 (fun q => absurd q.2 (Int32.not_le.mpr h9))
  · refine r_ild0 f_R_isDigit_6 ?_
    refine r_ic f_R_isDigit_7 ?_
    refine r_ic_gt f_R_isDigit_9 (fun h9 => ?_) (fun h9 => ?_)
    · refine r_ic f_R_isDigit_16 ?_
      refine r_iret f_R_isDigit_17 ⟨_, rfl, rfl⟩ (Nat.le_refl _) (Nat.le_refl _) ?_
      first | exact h1 ⟨Int32.not_lt.mp h3, Int32.not_lt.mp h9⟩ | exact h0 (fun q => absurd q.1 (Int32.not_le.mpr h3)) | exact h0 (fun q => absurd q.2 (Int32.not_le.mpr h9))
    · refine r_ic f_R_isDigit_12 ?_
      refine r_goto f_R_isDigit_13 ?_
      refine r_iret f_R_isDigit_17 ⟨_, rfl, rfl⟩ (Nat.le_refl _) (Nat.le_refl _) ?_
      first | exact h1 ⟨Int32.not_lt.mp h3, Int32.not_lt.mp h9⟩ | exact h0 (fun q => absurd q.1 (Int32.not_le.mpr h3)) | exact h0 (fun q => absurd q.2 (Int32.not_le.mpr h9))
theorem k_R_nameOf_y {x : Int32} (hx : p_nam x) (hk : ∀ k, 0 ≤ k → 10000 + k = q_tr (-x) → K (some (.int k)) SH RF I L) : WW G d mt_R_nameOf 0 [some (.int x)] [] SH RF I L 0 0 0 0 K := by
  rcases hx with rfl | rfl | rfl | rfl | rfl | rfl
  · refine r_ild0 f_R_nameOf_0 ?_
    refine r_swl f_R_nameOf_1 (show q_swt _ _ _ = 60 by decide) ?_
    refine r_ic f_R_nameOf_60 ?_
    refine r_iret f_R_nameOf_61 ⟨_, rfl, rfl⟩ (Nat.le_refl _) (Nat.le_refl _) ?_
    exact hk _ (by decide) (by decide)
  · refine r_ild0 f_R_nameOf_0 ?_
    refine r_swl f_R_nameOf_1 (show q_swt _ _ _ = 64 by decide) ?_
    refine r_ic f_R_nameOf_64 ?_
    refine r_iret f_R_nameOf_65 ⟨_, rfl, rfl⟩ (Nat.le_refl _) (Nat.le_refl _) ?_
    exact hk _ (by decide) (by decide)
  · refine r_ild0 f_R_nameOf_0 ?_
    refine r_swl f_R_nameOf_1 (show q_swt _ _ _ = 66 by decide) ?_
    refine r_ic f_R_nameOf_66 ?_
    refine r_iret f_R_nameOf_67 ⟨_, rfl, rfl⟩ (Nat.le_refl _) (Nat.le_refl _) ?_
    exact hk _ (by decide) (by decide)
  · refine r_ild0 f_R_nameOf_0 ?_
    refine r_swl f_R_nameOf_1 (show q_swt _ _ _ = 68 by decide) ?_
    refine r_ic f_R_nameOf_68 ?_
    refine r_iret f_R_nameOf_69 ⟨_, rfl, rfl⟩ (Nat.le_refl _) (Nat.le_refl _) ?_
    exact hk _ (by decide) (by decide)
  · refine r_ild0 f_R_nameOf_0 ?_
    refine r_swl f_R_nameOf_1 (show q_swt _ _ _ = 70 by decide) ?_
    refine r_ic f_R_nameOf_70 ?_
    refine r_iret f_R_nameOf_71 ⟨_, rfl, rfl⟩ (Nat.le_refl _) (Nat.le_refl _) ?_
    exact hk _ (by decide) (by decide)
  · refine r_ild0 f_R_nameOf_0 ?_
    refine r_swl f_R_nameOf_1 (show q_swt _ _ _ = 62 by decide) ?_
    refine r_ic f_R_nameOf_62 ?_
    refine r_iret f_R_nameOf_63 ⟨_, rfl, rfl⟩ (Nat.le_refl _) (Nat.le_refl _) ?_
    exact hk _ (by decide) (by decide)
theorem k_R_nameOf_n {x : Int32} (hx : ¬ p_nam x) (hk : K (some (.int (-1))) SH RF I L) : WW G d mt_R_nameOf 0 [some (.int x)] [] SH RF I L 0 0 0 0 K := by
  refine r_ild0 f_R_nameOf_0 ?_
  refine r_sw f_R_nameOf_1 ?_
  refine r_swc (k := 100) (by decide) (fun e1_100 => ?_) (fun e1_100 => ?_)
  · refine r_ic f_R_nameOf_60 ?_
    refine r_iret f_R_nameOf_61 ⟨_, rfl, rfl⟩ (Nat.le_refl _) (Nat.le_refl _) ?_
    first
      | exact hk
      | exact absurd (Or.inl e1_100) hx
      | exact absurd (Or.inr (Or.inl e1_104)) hx
      | exact absurd (Or.inr (Or.inr (Or.inl e1_105))) hx
      | exact absurd (Or.inr (Or.inr (Or.inr (Or.inl e1_110)))) hx
      | exact absurd (Or.inr (Or.inr (Or.inr (Or.inr (Or.inl e1_111))))) hx
      | exact absurd (Or.inr (Or.inr (Or.inr (Or.inr (Or.inr e1_121))))) hx
  refine r_swc (k := 104) (by decide) (fun e1_104 => ?_) (fun e1_104 => ?_)
  · refine r_ic f_R_nameOf_64 ?_
    refine r_iret f_R_nameOf_65 ⟨_, rfl, rfl⟩ (Nat.le_refl _) (Nat.le_refl _) ?_
    first
      | exact hk
      | exact absurd (Or.inl e1_100) hx
      | exact absurd (Or.inr (Or.inl e1_104)) hx
      | exact absurd (Or.inr (Or.inr (Or.inl e1_105))) hx
      | exact absurd (Or.inr (Or.inr (Or.inr (Or.inl e1_110)))) hx
      | exact absurd (Or.inr (Or.inr (Or.inr (Or.inr (Or.inl e1_111))))) hx
      | exact absurd (Or.inr (Or.inr (Or.inr (Or.inr (Or.inr e1_121))))) hx
  refine r_swc (k := 105) (by decide) (fun e1_105 => ?_) (fun e1_105 => ?_)
  · refine r_ic f_R_nameOf_66 ?_
    refine r_iret f_R_nameOf_67 ⟨_, rfl, rfl⟩ (Nat.le_refl _) (Nat.le_refl _) ?_
    first
      | exact hk
      | exact absurd (Or.inl e1_100) hx
      | exact absurd (Or.inr (Or.inl e1_104)) hx
      | exact absurd (Or.inr (Or.inr (Or.inl e1_105))) hx
      | exact absurd (Or.inr (Or.inr (Or.inr (Or.inl e1_110)))) hx
      | exact absurd (Or.inr (Or.inr (Or.inr (Or.inr (Or.inl e1_111))))) hx
      | exact absurd (Or.inr (Or.inr (Or.inr (Or.inr (Or.inr e1_121))))) hx
  refine r_swc (k := 110) (by decide) (fun e1_110 => ?_) (fun e1_110 => ?_)
  · refine r_ic f_R_nameOf_68 ?_
    refine r_iret f_R_nameOf_69 ⟨_, rfl, rfl⟩ (Nat.le_refl _) (Nat.le_refl _) ?_
    first
      | exact hk
      | exact absurd (Or.inl e1_100) hx
      | exact absurd (Or.inr (Or.inl e1_104)) hx
      | exact absurd (Or.inr (Or.inr (Or.inl e1_105))) hx
      | exact absurd (Or.inr (Or.inr (Or.inr (Or.inl e1_110)))) hx
      | exact absurd (Or.inr (Or.inr (Or.inr (Or.inr (Or.inl e1_111))))) hx
      | exact absurd (Or.inr (Or.inr (Or.inr (Or.inr (Or.inr e1_121))))) hx
  refine r_swc (k := 111) (by decide) (fun e1_111 => ?_) (fun e1_111 => ?_)
  · refine r_ic f_R_nameOf_70 ?_
    refine r_iret f_R_nameOf_71 ⟨_, rfl, rfl⟩ (Nat.le_refl _) (Nat.le_refl _) ?_
    first
      | exact hk
      | exact absurd (Or.inl e1_100) hx
      | exact absurd (Or.inr (Or.inl e1_104)) hx
      | exact absurd (Or.inr (Or.inr (Or.inl e1_105))) hx
      | exact absurd (Or.inr (Or.inr (Or.inr (Or.inl e1_110)))) hx
      | exact absurd (Or.inr (Or.inr (Or.inr (Or.inr (Or.inl e1_111))))) hx
      | exact absurd (Or.inr (Or.inr (Or.inr (Or.inr (Or.inr e1_121))))) hx
  refine r_swc (k := 121) (by decide) (fun e1_121 => ?_) (fun e1_121 => ?_)
  · refine r_ic f_R_nameOf_62 ?_
    refine r_iret f_R_nameOf_63 ⟨_, rfl, rfl⟩ (Nat.le_refl _) (Nat.le_refl _) ?_
    first
      | exact hk
      | exact absurd (Or.inl e1_100) hx
      | exact absurd (Or.inr (Or.inl e1_104)) hx
      | exact absurd (Or.inr (Or.inr (Or.inl e1_105))) hx
      | exact absurd (Or.inr (Or.inr (Or.inr (Or.inl e1_110)))) hx
      | exact absurd (Or.inr (Or.inr (Or.inr (Or.inr (Or.inl e1_111))))) hx
      | exact absurd (Or.inr (Or.inr (Or.inr (Or.inr (Or.inr e1_121))))) hx
  refine r_swn ?_
  refine r_ic f_R_nameOf_72 ?_
  refine r_iret f_R_nameOf_73 ⟨_, rfl, rfl⟩ (Nat.le_refl _) (Nat.le_refl _) ?_
  first
    | exact hk
    | exact absurd (Or.inl e1_100) hx
    | exact absurd (Or.inr (Or.inl e1_104)) hx
    | exact absurd (Or.inr (Or.inr (Or.inl e1_105))) hx
    | exact absurd (Or.inr (Or.inr (Or.inr (Or.inl e1_110)))) hx
    | exact absurd (Or.inr (Or.inr (Or.inr (Or.inr (Or.inl e1_111))))) hx
    | exact absurd (Or.inr (Or.inr (Or.inr (Or.inr (Or.inr e1_121))))) hx
theorem k_R_operand0 (h : m_Q I t (n, W, p, e)) (h60 : t.length ≤ 60) (hn : n ≤ t.length) (hk : WW G d mt_R_operand 24 [some (.ref 95), none, none, none] [.int (pN t n)] SH RF I L 0 0 0 0 K) : WW G d mt_R_operand 0 [some (.ref 95), none, none, none] [] SH RF I L 0 0 0 0 K := by
  by_cases q : n < t.length
  · refine r_ald0 f_R_operand_0 ?_
    refine r_gi f_R_operand_1 (s_95) ?_
    rw [show I 95 31 = nI n from h.2.1]
    refine r_ald0 f_R_operand_4 ?_
    refine r_gi f_R_operand_5 (s_95) ?_
    rw [h.1.1]
    refine r_ic_ge f_R_operand_8 (fun h8 => absurd h8 (nI_ge q (by omega))) (fun h8 => ?_)
    refine r_ald0 f_R_operand_11 ?_
    refine r_gr f_R_operand_12 (s_95) (r_95_24) ?_
    refine r_ald0 f_R_operand_15 ?_
    refine r_gi f_R_operand_16 (s_95) ?_
    rw [show I 95 31 = nI n from h.2.1]
    refine r_iald f_R_operand_19 (s_104) (q_ix.nI (show n < 60 by omega) (by decide)) ?_
    rw [h.1.get q]
    refine r_goto f_R_operand_20 ?_
    exact hk
  · refine r_ald0 f_R_operand_0 ?_
    refine r_gi f_R_operand_1 (s_95) ?_
    rw [show I 95 31 = nI n from h.2.1]
    refine r_ald0 f_R_operand_4 ?_
    refine r_gi f_R_operand_5 (s_95) ?_
    rw [h.1.1]
    refine r_ic_ge f_R_operand_8 (fun h8 => ?_) (fun h8 => absurd (nI_le (by omega) (by omega)) h8)
    refine r_ic f_R_operand_23 ?_
    rw [pN_ge (by omega)] at hk
    exact hk
theorem k_R_number {b : Int32} {I0 : Rn} (h60 : t.length ≤ 60) {V : Int32 × Nat} (hk : ∀ I', m_Q I' t (V.2, W, p, e) → q_ag FX I0 I' → WW G (d + 1) mt_R_operand 101 [some (.ref 95), some (.int b), some (.int V.1), none] [] SH RF I' L 0 0 0 0 K) : ∀ (m k : Nat) (v : Int32) (n : Nat) (I : Rn), k + m = 4 → p_num t m v n = V → m_Q I t (n, W, p, e) → n ≤ t.length → q_ag FX I0 I → WW G (d + 1) mt_R_operand 36 [some (.ref 95), some (.int b), some (.int v), some (.int (nI k))] [] SH RF I L 0 0 0 0 K
  | 0, k, v, n, I, h, hV, hq, hn, hg => by
    have ek : k = 4 := by omega
    subst ek
    subst hV
    refine r_ild3 f_R_operand_36 ?_
    refine r_ic f_R_operand_37 ?_
    refine r_ic_ge f_R_operand_38 (fun h38 => ?_) (fun h38 => absurd h38 (fun q => q (Int32.le_refl _)))
    refine r_drop3 ?_
    exact hk I hq hg
  | m + 1, k, v, n, I, h, hV, hq, hn, hg => by
    replace hV : (if 48 ≤ pN t n ∧ pN t n ≤ 57 then p_num t m (v * 10 + pN t n - 48) (n + 1) else (v, n)) = V := hV
    by_cases q : n < t.length
    · refine r_ild3 f_R_operand_36 ?_
      refine r_ic f_R_operand_37 ?_
      refine r_ic_ge f_R_operand_38 (fun h38 => absurd h38 (nI_ge (b := 4) (by omega) (by decide))) (fun h38 => ?_)
      refine r_ald0 f_R_operand_41 ?_
      refine r_gi f_R_operand_42 (s_95) ?_
      rw [show I 95 31 = nI n from hq.2.1]
      refine r_ald0 f_R_operand_45 ?_
      refine r_gi f_R_operand_46 (s_95) ?_
      rw [hq.1.1]
      refine r_ic_ge f_R_operand_49 (fun h49 => absurd h49 (nI_ge q (by omega))) (fun h49 => ?_)
      refine r_ald0 f_R_operand_52 ?_
      refine r_gr f_R_operand_53 (s_95) (r_95_24) ?_
      refine r_ald0 f_R_operand_56 ?_
      refine r_gi f_R_operand_57 (s_95) ?_
      rw [show I 95 31 = nI n from hq.2.1]
      refine r_iald f_R_operand_60 (s_104) (q_ix.nI (show n < 60 by omega) (by decide)) ?_
      rw [hq.1.get q]
      refine c_R_isDigit f_R_operand_61 (Nat.le_of_ble_eq_true rfl) (Nat.le_refl _) (Nat.le_refl _) ?_
      refine k_R_isDigit (fun hd => ?_) (fun hd => ?_)
      · rw [if_pos hd] at hV
        refine r_if_eq f_R_operand_64 (fun h => absurd h (by decide)) (fun _ => ?_)
        refine r_ic f_R_operand_67 ?_
        refine r_ild2 f_R_operand_69 ?_
        refine r_imul f_R_operand_70 ?_
        refine r_ald0 f_R_operand_71 ?_
        refine r_gr f_R_operand_72 (s_95) (r_95_24) ?_
        refine r_ald0 f_R_operand_75 ?_
        refine r_gi f_R_operand_76 (s_95) ?_
        rw [show I 95 31 = nI n from hq.2.1]
        refine r_iald f_R_operand_79 (s_104) (q_ix.nI (show n < 60 by omega) (by decide)) ?_
        rw [hq.1.get q, Int32.mul_comm 10 v]
        refine r_iadd f_R_operand_80 ?_
        refine r_ic f_R_operand_81 ?_
        refine r_isub f_R_operand_83 ?_
        refine r_ist2 f_R_operand_84 rfl ?_
        refine r_ald0 f_R_operand_85 ?_
        refine r_dupr f_R_operand_86 ?_
        refine r_gi f_R_operand_87 (s_95) ?_
        rw [show I 95 31 = nI n from hq.2.1]
        refine r_ic f_R_operand_90 ?_
        refine r_iadd f_R_operand_91 ?_
        rw [nI_1]
        refine r_pi f_R_operand_92 (s_95) ?_
        refine r_inc3 f_R_operand_95 rfl ?_
        rw [nI_1]
        refine r_goto f_R_operand_98 ?_
        exact k_R_number h60 hk m (k + 1) _ (n + 1) _ (by omega) hV (hq.mk' (fun x y q1 _ => u2_ne (Or.inl q1)) rfl u2_self hq.2.2.1 (hq.2.2.2.1.eq (fun j _ => u2_ne (Or.inl (by decide)))) hq.2.2.2.2.1 rfl) (by omega) (hg.u2 (Or.inl ⟨rfl, by decide⟩))
      · rw [if_neg hd] at hV
        subst hV
        refine r_if_eq f_R_operand_64 (fun _ => ?_) (fun h => absurd h (by decide))
        refine r_drop3 ?_
        exact hk I hq hg
    · rw [if_neg (fun w => by rw [pN_ge (by omega)] at w; exact absurd w.1 (by decide))] at hV
      subst hV
      refine r_ild3 f_R_operand_36 ?_
      refine r_ic f_R_operand_37 ?_
      refine r_ic_ge f_R_operand_38 (fun h38 => absurd h38 (nI_ge (b := 4) (by omega) (by decide))) (fun h38 => ?_)
      refine r_ald0 f_R_operand_41 ?_
      refine r_gi f_R_operand_42 (s_95) ?_
      rw [show I 95 31 = nI n from hq.2.1]
      refine r_ald0 f_R_operand_45 ?_
      refine r_gi f_R_operand_46 (s_95) ?_
      rw [hq.1.1]
      refine r_ic_ge f_R_operand_49 (fun h49 => ?_) (fun h49 => absurd (nI_le (by omega) (by omega)) h49)
      refine r_drop3 ?_
      exact hk I hq hg
theorem k_R_operand_num (h : m_Q I t (n, W, p, e)) (h60 : t.length ≤ 60) (hn : n ≤ t.length) (hl : W.length + e.length ≤ n) (hb : 48 ≤ pN t n ∧ pN t n ≤ 57) (hk : ∀ I', m_Q I' t ((p_num t 4 0 n).2, m_ends W p (e ++ [(p_num t 4 0 n).1])) → q_ag FX I I' → K (some (.int 0)) SH RF I' L) : WW G (d + 2) mt_R_operand 0 [some (.ref 95), none, none, none] [] SH RF I L 0 0 0 0 K := by
  have hnt : n < t.length := pN_lt (fun q => by rw [q] at hb; exact absurd hb.1 (by decide))
  refine k_R_operand0 h h60 hn ?_
  refine r_ist1 f_R_operand_24 rfl ?_
  refine r_ild1 f_R_operand_25 ?_
  refine c_R_isDigit f_R_operand_26 (Nat.le_of_ble_eq_true rfl) (Nat.le_refl _) (Nat.le_refl _) ?_
  refine k_R_isDigit (fun hd => ?_) (fun hd => absurd hb hd)
  · refine r_if_eq f_R_operand_29 (fun h => absurd h (by decide)) (fun _ => ?_)
    refine r_ic f_R_operand_32 ?_
    refine r_ist2 f_R_operand_33 rfl ?_
    refine r_ic f_R_operand_34 ?_
    refine r_ist3 f_R_operand_35 rfl ?_
    refine k_R_number h60 (V := p_num t 4 0 n) (fun I9 hM9 g9 => ?_) 4 0 0 n I rfl rfl h hn q_ag.rf
    refine r_ald0 f_R_operand_101 ?_
    refine r_ild2 f_R_operand_102 ?_
    refine c_R_emit f_R_operand_103 (s_95) (Nat.le_of_ble_eq_true rfl) (Nat.le_refl _) (Nat.le_refl _) ?_
    refine k_R_emit hM9 (by omega) (fun I8 hM8 g8 => ?_)
    refine r_ald0 f_R_operand_106 ?_
    refine c_R_ends f_R_operand_107 (s_95) (Nat.le_of_ble_eq_true rfl) (Nat.le_refl _) (Nat.le_refl _) ?_
    refine k_R_ends (W0 := W) (p0 := p) (e0 := e ++ [(p_num t 4 0 n).1]) (fun I7 W' p' e' hm hM7 g7 => ?_) W p _ I8 rfl (by simp; omega) hM8 q_ag.rf
    refine r_iret f_R_operand_110 ⟨_, rfl, rfl⟩ (Nat.le_refl _) (Nat.le_refl _) ?_
    refine hk I7 ?_ ((g9.tr g8).tr g7)
    rw [← hm]
    exact hM7
theorem k_R_operand_nam (h : m_Q I t (n, W, p, e)) (h60 : t.length ≤ 60) (hn : n ≤ t.length) (hl : W.length + e.length ≤ n) (hb : p_nam (pN t n)) (hk : ∀ I', m_Q I' t (n + 1, m_ends W p (e ++ [q_tr (-(pN t n))])) → q_ag FX I I' → K (some (.int 0)) SH RF I' L) : WW G (d + 2) mt_R_operand 0 [some (.ref 95), none, none, none] [] SH RF I L 0 0 0 0 K := by
  have hnt : n < t.length := pN_lt (p_nam_ne hb)
  have hnd : ¬ (48 ≤ pN t n ∧ pN t n ≤ 57) := fun q => by
    rcases hb with hb | hb | hb | hb | hb | hb <;> (rw [hb] at q; exact absurd q.2 (by decide))
  refine k_R_operand0 h h60 hn ?_
  refine r_ist1 f_R_operand_24 rfl ?_
  refine r_ild1 f_R_operand_25 ?_
  refine c_R_isDigit f_R_operand_26 (Nat.le_of_ble_eq_true rfl) (Nat.le_refl _) (Nat.le_refl _) ?_
  refine k_R_isDigit (fun hd => absurd hd hnd) (fun hd => ?_)
  · refine r_if_eq f_R_operand_29 (fun _ => ?_) (fun h => absurd h (by decide))
    refine r_ild1 f_R_operand_111 ?_
    refine c_R_nameOf f_R_operand_112 (Nat.le_of_ble_eq_true rfl) (Nat.le_refl _) (Nat.le_refl _) ?_
    refine k_R_nameOf_y hb (fun k k1 k2 => ?_)
    · refine r_if_lt f_R_operand_115 (fun h115 => absurd h115 (Int32.not_lt.mpr k1)) (fun h115 => ?_)
      refine r_ald0 f_R_operand_118 ?_
      refine r_ic f_R_operand_119 ?_
      refine r_ild1 f_R_operand_122 ?_
      refine c_R_nameOf f_R_operand_123 (Nat.le_of_ble_eq_true rfl) (Nat.le_refl _) (Nat.le_refl _) ?_
      refine k_R_nameOf_y hb (fun k3 k4 k5 => ?_)
      · refine r_iadd f_R_operand_126 ?_
        refine c_R_emit f_R_operand_127 (s_95) (Nat.le_of_ble_eq_true rfl) (Nat.le_refl _) (Nat.le_refl _) ?_
        rw [k5]
        refine k_R_emit h (by omega) (fun I8 hM8 g8 => ?_)
        refine r_ald0 f_R_operand_130 ?_
        refine r_dupr f_R_operand_131 ?_
        refine r_gi f_R_operand_132 (s_95) ?_
        rw [show I8 95 31 = nI n from hM8.2.1]
        refine r_ic f_R_operand_135 ?_
        refine r_iadd f_R_operand_136 ?_
        rw [nI_1]
        refine r_pi f_R_operand_137 (s_95) ?_
        have hM6 := hM8.mk' (I' := u2 I8 95 31 (nI (n + 1))) (n' := n + 1) (W' := W) (p' := p) (fun x y q1 _ => u2_ne (Or.inl q1)) rfl u2_self hM8.2.2.1 (hM8.2.2.2.1.eq (fun j _ => u2_ne (Or.inl (by decide)))) hM8.2.2.2.2.1 rfl
        refine r_ald0 f_R_operand_140 ?_
        refine c_R_ends f_R_operand_141 (s_95) (Nat.le_of_ble_eq_true rfl) (Nat.le_refl _) (Nat.le_refl _) ?_
        refine k_R_ends (W0 := W) (p0 := p) (e0 := e ++ [q_tr (-(pN t n))]) (fun I7 W' p' e' hm hM7 g7 => ?_) W p _ _ rfl (by simp; omega) hM6 q_ag.rf
        refine r_iret f_R_operand_144 ⟨_, rfl, rfl⟩ (Nat.le_refl _) (Nat.le_refl _) ?_
        refine hk I7 ?_ ((g8.u2 (Or.inl ⟨rfl, by decide⟩)).tr g7)
        rw [← hm]
        exact hM7
theorem k_R_operand_open {z : Int32} (h : m_Q I t (n, W, p, e)) (h60 : t.length ≤ 60) (hn : n ≤ t.length) (hl : W.length + e.length ≤ n) (hb : (pN t n = 40 ∧ z = 40) ∨ (pN t n = 45 ∧ z = 10105)) (hp : p < 5) (hk : ∀ I', m_Q I' t (n + 1, z :: W, p + 1, e) → q_ag FX I I' → K (some (.int 1)) SH RF I' L) : WW G (d + 2) mt_R_operand 0 [some (.ref 95), none, none, none] [] SH RF I L 0 0 0 0 K := by
  have hnt : n < t.length := pN_lt (fun q => by rw [q] at hb; rcases hb with hb | hb <;> exact absurd hb.1 (by decide))
  refine k_R_operand0 h h60 hn ?_
  rcases hb with ⟨hb, rfl⟩ | ⟨hb, rfl⟩
  · rw [hb]
    refine r_ist1 f_R_operand_24 rfl ?_
    refine r_ild1 f_R_operand_25 ?_
    refine c_R_isDigit f_R_operand_26 (Nat.le_of_ble_eq_true rfl) (Nat.le_refl _) (Nat.le_refl _) ?_
    refine k_R_isDigit (fun hd => absurd hd (by decide)) (fun hd => ?_)
    · refine r_if_eq f_R_operand_29 (fun _ => ?_) (fun h => absurd h (by decide))
      refine r_ild1 f_R_operand_111 ?_
      refine c_R_nameOf f_R_operand_112 (Nat.le_of_ble_eq_true rfl) (Nat.le_refl _) (Nat.le_refl _) ?_
      refine k_R_nameOf_n (by decide) ?_
      · refine r_if_lt f_R_operand_115 (fun _ => ?_) (fun h => absurd h (by decide))
        refine r_ild1 f_R_operand_145 ?_
        refine r_ic f_R_operand_146 ?_
        refine r_ic_eq f_R_operand_148 (fun _ => ?_) (fun h => absurd h (by decide))
        refine r_ald0 f_R_operand_157 ?_
        refine r_gi f_R_operand_158 (s_95) ?_
        rw [show I 95 30 = p from h.2.2.2.2.1]
        refine r_ic f_R_operand_161 ?_
        refine r_ic_ge f_R_operand_162 (fun h162 => absurd h162 (Int32.not_le.mpr hp)) (fun h162 => ?_)
        refine r_ald0 f_R_operand_165 ?_
        refine r_dupr f_R_operand_166 ?_
        refine r_gi f_R_operand_167 (s_95) ?_
        rw [show I 95 30 = p from h.2.2.2.2.1]
        refine r_ic f_R_operand_170 ?_
        refine r_iadd f_R_operand_171 ?_
        refine r_pi f_R_operand_172 (s_95) ?_
        have hM6 := h.mk' (I' := u2 I 95 30 (p + 1)) (n' := n) (W' := W) (p' := p + 1) (fun x y q1 _ => u2_ne (Or.inl q1)) rfl h.2.1 h.2.2.1 (h.2.2.2.1.eq (fun j _ => u2_ne (Or.inl (by decide)))) u2_self rfl
        refine r_ald0 f_R_operand_175 ?_
        refine r_ild1 f_R_operand_176 ?_
        refine r_ic f_R_operand_177 ?_
        refine r_ic_ne f_R_operand_179 (fun _ => ?_) (fun h => absurd h (by decide))
        refine r_ild1 f_R_operand_188 ?_
        refine c_R_waits f_R_operand_189 (s_95) (Nat.le_of_ble_eq_true rfl) (Nat.le_refl _) (Nat.le_refl _) ?_
        refine k_R_waits hM6 (by omega) (fun I8 hM8 g8 => ?_)
        refine r_ic f_R_operand_192 ?_
        refine r_iret f_R_operand_193 ⟨_, rfl, rfl⟩ (Nat.le_refl _) (Nat.le_refl _) ?_
        exact hk I8 hM8 ((q_ag.rf.u2 (Or.inl ⟨rfl, by decide⟩)).tr g8)
  · rw [hb]
    refine r_ist1 f_R_operand_24 rfl ?_
    refine r_ild1 f_R_operand_25 ?_
    refine c_R_isDigit f_R_operand_26 (Nat.le_of_ble_eq_true rfl) (Nat.le_refl _) (Nat.le_refl _) ?_
    refine k_R_isDigit (fun hd => absurd hd (by decide)) (fun hd => ?_)
    · refine r_if_eq f_R_operand_29 (fun _ => ?_) (fun h => absurd h (by decide))
      refine r_ild1 f_R_operand_111 ?_
      refine c_R_nameOf f_R_operand_112 (Nat.le_of_ble_eq_true rfl) (Nat.le_refl _) (Nat.le_refl _) ?_
      refine k_R_nameOf_n (by decide) ?_
      · refine r_if_lt f_R_operand_115 (fun _ => ?_) (fun h => absurd h (by decide))
        refine r_ild1 f_R_operand_145 ?_
        refine r_ic f_R_operand_146 ?_
        refine r_ic_eq f_R_operand_148 (fun h => absurd h (by decide)) (fun _ => ?_)
        refine r_ild1 f_R_operand_151 ?_
        refine r_ic f_R_operand_152 ?_
        refine r_ic_ne f_R_operand_154 (fun h => absurd h (by decide)) (fun _ => ?_)
        refine r_ald0 f_R_operand_157 ?_
        refine r_gi f_R_operand_158 (s_95) ?_
        rw [show I 95 30 = p from h.2.2.2.2.1]
        refine r_ic f_R_operand_161 ?_
        refine r_ic_ge f_R_operand_162 (fun h162 => absurd h162 (Int32.not_le.mpr hp)) (fun h162 => ?_)
        refine r_ald0 f_R_operand_165 ?_
        refine r_dupr f_R_operand_166 ?_
        refine r_gi f_R_operand_167 (s_95) ?_
        rw [show I 95 30 = p from h.2.2.2.2.1]
        refine r_ic f_R_operand_170 ?_
        refine r_iadd f_R_operand_171 ?_
        refine r_pi f_R_operand_172 (s_95) ?_
        have hM6 := h.mk' (I' := u2 I 95 30 (p + 1)) (n' := n) (W' := W) (p' := p + 1) (fun x y q1 _ => u2_ne (Or.inl q1)) rfl h.2.1 h.2.2.1 (h.2.2.2.1.eq (fun j _ => u2_ne (Or.inl (by decide)))) u2_self rfl
        refine r_ald0 f_R_operand_175 ?_
        refine r_ild1 f_R_operand_176 ?_
        refine r_ic f_R_operand_177 ?_
        refine r_ic_ne f_R_operand_179 (fun h => absurd h (by decide)) (fun _ => ?_)
        refine r_ic f_R_operand_182 ?_
        refine r_goto f_R_operand_185 ?_
        refine c_R_waits f_R_operand_189 (s_95) (Nat.le_of_ble_eq_true rfl) (Nat.le_refl _) (Nat.le_refl _) ?_
        refine k_R_waits hM6 (by omega) (fun I8 hM8 g8 => ?_)
        refine r_ic f_R_operand_192 ?_
        refine r_iret f_R_operand_193 ⟨_, rfl, rfl⟩ (Nat.le_refl _) (Nat.le_refl _) ?_
        exact hk I8 hM8 ((q_ag.rf.u2 (Or.inl ⟨rfl, by decide⟩)).tr g8)
theorem k_R_operand_bad (h : m_Q I t (n, W, p, e)) (h60 : t.length ≤ 60) (hn : n ≤ t.length) (hl : W.length + e.length ≤ n) (h1 : ¬ (48 ≤ pN t n ∧ pN t n ≤ 57)) (h2 : ¬ p_nam (pN t n)) (h3 : ¬ ((pN t n = 40 ∨ pN t n = 45) ∧ p < 5)) (hk : K (some (.int 1)) SH RF (u2 I 95 32 1) L) : WW G (d + 2) mt_R_operand 0 [some (.ref 95), none, none, none] [] SH RF I L 0 0 0 0 K := by
  refine k_R_operand0 h h60 hn ?_
  refine r_ist1 f_R_operand_24 rfl ?_
  refine r_ild1 f_R_operand_25 ?_
  refine c_R_isDigit f_R_operand_26 (Nat.le_of_ble_eq_true rfl) (Nat.le_refl _) (Nat.le_refl _) ?_
  refine k_R_isDigit (fun hd => absurd hd h1) (fun hd => ?_)
  · refine r_if_eq f_R_operand_29 (fun _ => ?_) (fun h => absurd h (by decide))
    refine r_ild1 f_R_operand_111 ?_
    refine c_R_nameOf f_R_operand_112 (Nat.le_of_ble_eq_true rfl) (Nat.le_refl _) (Nat.le_refl _) ?_
    refine k_R_nameOf_n h2 ?_
    · refine r_if_lt f_R_operand_115 (fun _ => ?_) (fun h => absurd h (by decide))
      refine r_ild1 f_R_operand_145 ?_
      refine r_ic f_R_operand_146 ?_
      refine r_ic_eq f_R_operand_148 (fun h148 => ?_) (fun h148 => ?_)
      · refine r_ald0 f_R_operand_157 ?_
        refine r_gi f_R_operand_158 (s_95) ?_
        rw [show I 95 30 = p from h.2.2.2.2.1]
        refine r_ic f_R_operand_161 ?_
        refine r_ic_ge f_R_operand_162 (fun h162 => ?_) (fun h162 => ?_)
        · refine r_ald0 f_R_operand_194 ?_
          refine r_ic f_R_operand_195 ?_
          refine r_pz f_R_operand_196 (s_95) (Or.inr rfl) ?_
          refine r_ic f_R_operand_199 ?_
          refine r_iret f_R_operand_200 ⟨_, rfl, rfl⟩ (Nat.le_refl _) (Nat.le_refl _) ?_
          exact hk
        · refine absurd (show (pN t n = 40 ∨ pN t n = 45) ∧ p < 5 from ⟨?_, Int32.not_le.mp h162⟩) h3
          first
            | exact Or.inl h148
            | exact Or.inr h154
      · refine r_ild1 f_R_operand_151 ?_
        refine r_ic f_R_operand_152 ?_
        refine r_ic_ne f_R_operand_154 (fun h154 => ?_) (fun h154 => ?_)
        · refine r_ald0 f_R_operand_194 ?_
          refine r_ic f_R_operand_195 ?_
          refine r_pz f_R_operand_196 (s_95) (Or.inr rfl) ?_
          refine r_ic f_R_operand_199 ?_
          refine r_iret f_R_operand_200 ⟨_, rfl, rfl⟩ (Nat.le_refl _) (Nat.le_refl _) ?_
          exact hk
        · refine r_ald0 f_R_operand_157 ?_
          refine r_gi f_R_operand_158 (s_95) ?_
          rw [show I 95 30 = p from h.2.2.2.2.1]
          refine r_ic f_R_operand_161 ?_
          refine r_ic_ge f_R_operand_162 (fun h162 => ?_) (fun h162 => ?_)
          · refine r_ald0 f_R_operand_194 ?_
            refine r_ic f_R_operand_195 ?_
            refine r_pz f_R_operand_196 (s_95) (Or.inr rfl) ?_
            refine r_ic f_R_operand_199 ?_
            refine r_iret f_R_operand_200 ⟨_, rfl, rfl⟩ (Nat.le_refl _) (Nat.le_refl _) ?_
            exact hk
          · refine absurd (show (pN t n = 40 ∨ pN t n = 45) ∧ p < 5 from ⟨?_, Int32.not_le.mp h162⟩) h3
            first
              | exact Or.inl h148
              | exact Or.inr h154
theorem k_R_operator_plus (h : m_Q I t (n, W, p, e)) (h60 : t.length ≤ 60) (hn : n < t.length) (hl : W.length + e.length ≤ n) (hb : pN t n = 43) (hk : ∀ I', m_Q I' t (n + 1, 10100 :: (m_set 10100 W e).1, p, (m_set 10100 W e).2) → q_ag FX I I' → K (some (.int 1)) SH RF I' L) : WW G (d + 2) mt_R_operator 0 [some (.ref 95), none] [] SH RF I L 0 0 0 0 K := by
  have hml := m_set_len (z := 10100) W e
  refine r_ald0 f_R_operator_0 ?_
  refine r_gr f_R_operator_1 (s_95) (r_95_24) ?_
  refine r_ald0 f_R_operator_4 ?_
  refine r_gi f_R_operator_5 (s_95) ?_
  rw [show I 95 31 = nI n from h.2.1]
  refine r_iald f_R_operator_8 (s_104) (q_ix.nI (show n < 60 by omega) (by decide)) ?_
  rw [h.1.get hn, hb]
  refine r_ist1 f_R_operator_9 rfl ?_
  refine r_ild1 f_R_operator_10 ?_
  refine r_ic f_R_operator_11 ?_
  refine r_ic_eq f_R_operator_13 (fun _ => ?_) (fun h => absurd h (by decide))
  refine r_ald0 f_R_operator_34 ?_
  refine r_ild1 f_R_operator_35 ?_
  refine r_ic f_R_operator_36 ?_
  refine r_ic_eq f_R_operator_38 (fun _ => ?_) (fun h => absurd h (by decide))
  refine r_ic f_R_operator_47 ?_
  refine r_goto f_R_operator_48 ?_
  refine c_R_settles f_R_operator_52 (s_95) (Nat.le_of_ble_eq_true rfl) (Nat.le_refl _) (Nat.le_refl _) ?_
  refine k_R_settles1 (W0 := W) (e0 := e) (fun I7 W' e' hm hM7 g7 => ?_) W e I rfl (by omega) h q_ag.rf
  rw [← hm] at hk hml
  dsimp only at hk hml
  refine r_ald0 f_R_operator_55 ?_
  refine r_ild1 f_R_operator_56 ?_
  refine r_ic f_R_operator_57 ?_
  refine r_ic_ne f_R_operator_59 (fun h => absurd h (by decide)) (fun _ => ?_)
  refine r_ic f_R_operator_62 ?_
  refine r_goto f_R_operator_65 ?_
  refine c_R_waits f_R_operator_95 (s_95) (Nat.le_of_ble_eq_true rfl) (Nat.le_refl _) (Nat.le_refl _) ?_
  refine k_R_waits hM7 (by omega) (fun I8 hM8 g8 => ?_)
  refine r_ic f_R_operator_98 ?_
  refine r_iret f_R_operator_99 ⟨_, rfl, rfl⟩ (Nat.le_refl _) (Nat.le_refl _) ?_
  exact hk I8 hM8 (g7.tr g8)
theorem k_R_operator_less (h : m_Q I t (n, W, p, e)) (h60 : t.length ≤ 60) (hn : n < t.length) (hl : W.length + e.length ≤ n) (hb : pN t n = 45) (hk : ∀ I', m_Q I' t (n + 1, 10101 :: (m_set 10100 W e).1, p, (m_set 10100 W e).2) → q_ag FX I I' → K (some (.int 1)) SH RF I' L) : WW G (d + 2) mt_R_operator 0 [some (.ref 95), none] [] SH RF I L 0 0 0 0 K := by
  have hml := m_set_len (z := 10100) W e
  refine r_ald0 f_R_operator_0 ?_
  refine r_gr f_R_operator_1 (s_95) (r_95_24) ?_
  refine r_ald0 f_R_operator_4 ?_
  refine r_gi f_R_operator_5 (s_95) ?_
  rw [show I 95 31 = nI n from h.2.1]
  refine r_iald f_R_operator_8 (s_104) (q_ix.nI (show n < 60 by omega) (by decide)) ?_
  rw [h.1.get hn, hb]
  refine r_ist1 f_R_operator_9 rfl ?_
  refine r_ild1 f_R_operator_10 ?_
  refine r_ic f_R_operator_11 ?_
  refine r_ic_eq f_R_operator_13 (fun h => absurd h (by decide)) (fun _ => ?_)
  refine r_ild1 f_R_operator_16 ?_
  refine r_ic f_R_operator_17 ?_
  refine r_ic_eq f_R_operator_19 (fun _ => ?_) (fun h => absurd h (by decide))
  refine r_ald0 f_R_operator_34 ?_
  refine r_ild1 f_R_operator_35 ?_
  refine r_ic f_R_operator_36 ?_
  refine r_ic_eq f_R_operator_38 (fun h => absurd h (by decide)) (fun _ => ?_)
  refine r_ild1 f_R_operator_41 ?_
  refine r_ic f_R_operator_42 ?_
  refine r_ic_ne f_R_operator_44 (fun h => absurd h (by decide)) (fun _ => ?_)
  refine r_ic f_R_operator_47 ?_
  refine r_goto f_R_operator_48 ?_
  refine c_R_settles f_R_operator_52 (s_95) (Nat.le_of_ble_eq_true rfl) (Nat.le_refl _) (Nat.le_refl _) ?_
  refine k_R_settles1 (W0 := W) (e0 := e) (fun I7 W' e' hm hM7 g7 => ?_) W e I rfl (by omega) h q_ag.rf
  rw [← hm] at hk hml
  dsimp only at hk hml
  refine r_ald0 f_R_operator_55 ?_
  refine r_ild1 f_R_operator_56 ?_
  refine r_ic f_R_operator_57 ?_
  refine r_ic_ne f_R_operator_59 (fun _ => ?_) (fun h => absurd h (by decide))
  refine r_ild1 f_R_operator_68 ?_
  refine r_ic f_R_operator_69 ?_
  refine r_ic_ne f_R_operator_71 (fun h => absurd h (by decide)) (fun _ => ?_)
  refine r_ic f_R_operator_74 ?_
  refine r_goto f_R_operator_77 ?_
  refine c_R_waits f_R_operator_95 (s_95) (Nat.le_of_ble_eq_true rfl) (Nat.le_refl _) (Nat.le_refl _) ?_
  refine k_R_waits hM7 (by omega) (fun I8 hM8 g8 => ?_)
  refine r_ic f_R_operator_98 ?_
  refine r_iret f_R_operator_99 ⟨_, rfl, rfl⟩ (Nat.le_refl _) (Nat.le_refl _) ?_
  exact hk I8 hM8 (g7.tr g8)
theorem k_R_operator_times (h : m_Q I t (n, W, p, e)) (h60 : t.length ≤ 60) (hn : n < t.length) (hl : W.length + e.length ≤ n) (hb : pN t n = 42) (hk : ∀ I', m_Q I' t (n + 1, 10102 :: (m_set 10102 W e).1, p, (m_set 10102 W e).2) → q_ag FX I I' → K (some (.int 1)) SH RF I' L) : WW G (d + 2) mt_R_operator 0 [some (.ref 95), none] [] SH RF I L 0 0 0 0 K := by
  have hml := m_set_len (z := 10102) W e
  refine r_ald0 f_R_operator_0 ?_
  refine r_gr f_R_operator_1 (s_95) (r_95_24) ?_
  refine r_ald0 f_R_operator_4 ?_
  refine r_gi f_R_operator_5 (s_95) ?_
  rw [show I 95 31 = nI n from h.2.1]
  refine r_iald f_R_operator_8 (s_104) (q_ix.nI (show n < 60 by omega) (by decide)) ?_
  rw [h.1.get hn, hb]
  refine r_ist1 f_R_operator_9 rfl ?_
  refine r_ild1 f_R_operator_10 ?_
  refine r_ic f_R_operator_11 ?_
  refine r_ic_eq f_R_operator_13 (fun h => absurd h (by decide)) (fun _ => ?_)
  refine r_ild1 f_R_operator_16 ?_
  refine r_ic f_R_operator_17 ?_
  refine r_ic_eq f_R_operator_19 (fun h => absurd h (by decide)) (fun _ => ?_)
  refine r_ild1 f_R_operator_22 ?_
  refine r_ic f_R_operator_23 ?_
  refine r_ic_eq f_R_operator_25 (fun _ => ?_) (fun h => absurd h (by decide))
  refine r_ald0 f_R_operator_34 ?_
  refine r_ild1 f_R_operator_35 ?_
  refine r_ic f_R_operator_36 ?_
  refine r_ic_eq f_R_operator_38 (fun h => absurd h (by decide)) (fun _ => ?_)
  refine r_ild1 f_R_operator_41 ?_
  refine r_ic f_R_operator_42 ?_
  refine r_ic_ne f_R_operator_44 (fun _ => ?_) (fun h => absurd h (by decide))
  refine r_ic f_R_operator_51 ?_
  refine c_R_settles f_R_operator_52 (s_95) (Nat.le_of_ble_eq_true rfl) (Nat.le_refl _) (Nat.le_refl _) ?_
  refine k_R_settles2 (W0 := W) (e0 := e) (fun I7 W' e' hm hM7 g7 => ?_) W e I rfl (by omega) h q_ag.rf
  rw [← hm] at hk hml
  dsimp only at hk hml
  refine r_ald0 f_R_operator_55 ?_
  refine r_ild1 f_R_operator_56 ?_
  refine r_ic f_R_operator_57 ?_
  refine r_ic_ne f_R_operator_59 (fun _ => ?_) (fun h => absurd h (by decide))
  refine r_ild1 f_R_operator_68 ?_
  refine r_ic f_R_operator_69 ?_
  refine r_ic_ne f_R_operator_71 (fun _ => ?_) (fun h => absurd h (by decide))
  refine r_ild1 f_R_operator_80 ?_
  refine r_ic f_R_operator_81 ?_
  refine r_ic_ne f_R_operator_83 (fun h => absurd h (by decide)) (fun _ => ?_)
  refine r_ic f_R_operator_86 ?_
  refine r_goto f_R_operator_89 ?_
  refine c_R_waits f_R_operator_95 (s_95) (Nat.le_of_ble_eq_true rfl) (Nat.le_refl _) (Nat.le_refl _) ?_
  refine k_R_waits hM7 (by omega) (fun I8 hM8 g8 => ?_)
  refine r_ic f_R_operator_98 ?_
  refine r_iret f_R_operator_99 ⟨_, rfl, rfl⟩ (Nat.le_refl _) (Nat.le_refl _) ?_
  exact hk I8 hM8 (g7.tr g8)
theorem k_R_operator_parts (h : m_Q I t (n, W, p, e)) (h60 : t.length ≤ 60) (hn : n < t.length) (hl : W.length + e.length ≤ n) (hb : pN t n = 47) (hk : ∀ I', m_Q I' t (n + 1, 10103 :: (m_set 10102 W e).1, p, (m_set 10102 W e).2) → q_ag FX I I' → K (some (.int 1)) SH RF I' L) : WW G (d + 2) mt_R_operator 0 [some (.ref 95), none] [] SH RF I L 0 0 0 0 K := by
  have hml := m_set_len (z := 10102) W e
  refine r_ald0 f_R_operator_0 ?_
  refine r_gr f_R_operator_1 (s_95) (r_95_24) ?_
  refine r_ald0 f_R_operator_4 ?_
  refine r_gi f_R_operator_5 (s_95) ?_
  rw [show I 95 31 = nI n from h.2.1]
  refine r_iald f_R_operator_8 (s_104) (q_ix.nI (show n < 60 by omega) (by decide)) ?_
  rw [h.1.get hn, hb]
  refine r_ist1 f_R_operator_9 rfl ?_
  refine r_ild1 f_R_operator_10 ?_
  refine r_ic f_R_operator_11 ?_
  refine r_ic_eq f_R_operator_13 (fun h => absurd h (by decide)) (fun _ => ?_)
  refine r_ild1 f_R_operator_16 ?_
  refine r_ic f_R_operator_17 ?_
  refine r_ic_eq f_R_operator_19 (fun h => absurd h (by decide)) (fun _ => ?_)
  refine r_ild1 f_R_operator_22 ?_
  refine r_ic f_R_operator_23 ?_
  refine r_ic_eq f_R_operator_25 (fun h => absurd h (by decide)) (fun _ => ?_)
  refine r_ild1 f_R_operator_28 ?_
  refine r_ic f_R_operator_29 ?_
  refine r_ic_ne f_R_operator_31 (fun h => absurd h (by decide)) (fun _ => ?_)
  refine r_ald0 f_R_operator_34 ?_
  refine r_ild1 f_R_operator_35 ?_
  refine r_ic f_R_operator_36 ?_
  refine r_ic_eq f_R_operator_38 (fun h => absurd h (by decide)) (fun _ => ?_)
  refine r_ild1 f_R_operator_41 ?_
  refine r_ic f_R_operator_42 ?_
  refine r_ic_ne f_R_operator_44 (fun _ => ?_) (fun h => absurd h (by decide))
  refine r_ic f_R_operator_51 ?_
  refine c_R_settles f_R_operator_52 (s_95) (Nat.le_of_ble_eq_true rfl) (Nat.le_refl _) (Nat.le_refl _) ?_
  refine k_R_settles2 (W0 := W) (e0 := e) (fun I7 W' e' hm hM7 g7 => ?_) W e I rfl (by omega) h q_ag.rf
  rw [← hm] at hk hml
  dsimp only at hk hml
  refine r_ald0 f_R_operator_55 ?_
  refine r_ild1 f_R_operator_56 ?_
  refine r_ic f_R_operator_57 ?_
  refine r_ic_ne f_R_operator_59 (fun _ => ?_) (fun h => absurd h (by decide))
  refine r_ild1 f_R_operator_68 ?_
  refine r_ic f_R_operator_69 ?_
  refine r_ic_ne f_R_operator_71 (fun _ => ?_) (fun h => absurd h (by decide))
  refine r_ild1 f_R_operator_80 ?_
  refine r_ic f_R_operator_81 ?_
  refine r_ic_ne f_R_operator_83 (fun _ => ?_) (fun h => absurd h (by decide))
  refine r_ic f_R_operator_92 ?_
  refine c_R_waits f_R_operator_95 (s_95) (Nat.le_of_ble_eq_true rfl) (Nat.le_refl _) (Nat.le_refl _) ?_
  refine k_R_waits hM7 (by omega) (fun I8 hM8 g8 => ?_)
  refine r_ic f_R_operator_98 ?_
  refine r_iret f_R_operator_99 ⟨_, rfl, rfl⟩ (Nat.le_refl _) (Nat.le_refl _) ?_
  exact hk I8 hM8 (g7.tr g8)
theorem k_R_operator_close {Wr er : List Int32} (h : m_Q I t (n, W, p, e)) (h60 : t.length ≤ 60) (hn : n < t.length) (hl : W.length + e.length ≤ n) (hb : pN t n = 41) (hs : m_set 10100 W e = (40 :: Wr, er)) (hk : ∀ I', m_Q I' t (n + 1, m_ends Wr (p - 1) er) → q_ag FX I I' → K (some (.int 0)) SH RF I' L) : WW G (d + 2) mt_R_operator 0 [some (.ref 95), none] [] SH RF I L 0 0 0 0 K := by
  have hml := m_set_len (z := 10100) W e
  rw [hs] at hml
  simp only [List.length_cons] at hml
  refine r_ald0 f_R_operator_0 ?_
  refine r_gr f_R_operator_1 (s_95) (r_95_24) ?_
  refine r_ald0 f_R_operator_4 ?_
  refine r_gi f_R_operator_5 (s_95) ?_
  rw [show I 95 31 = nI n from h.2.1]
  refine r_iald f_R_operator_8 (s_104) (q_ix.nI (show n < 60 by omega) (by decide)) ?_
  rw [h.1.get hn, hb]
  refine r_ist1 f_R_operator_9 rfl ?_
  refine r_ild1 f_R_operator_10 ?_
  refine r_ic f_R_operator_11 ?_
  refine r_ic_eq f_R_operator_13 (fun h => absurd h (by decide)) (fun _ => ?_)
  refine r_ild1 f_R_operator_16 ?_
  refine r_ic f_R_operator_17 ?_
  refine r_ic_eq f_R_operator_19 (fun h => absurd h (by decide)) (fun _ => ?_)
  refine r_ild1 f_R_operator_22 ?_
  refine r_ic f_R_operator_23 ?_
  refine r_ic_eq f_R_operator_25 (fun h => absurd h (by decide)) (fun _ => ?_)
  refine r_ild1 f_R_operator_28 ?_
  refine r_ic f_R_operator_29 ?_
  refine r_ic_ne f_R_operator_31 (fun _ => ?_) (fun h => absurd h (by decide))
  refine r_ald0 f_R_operator_100 ?_
  refine r_ic f_R_operator_101 ?_
  refine c_R_settles f_R_operator_102 (s_95) (Nat.le_of_ble_eq_true rfl) (Nat.le_refl _) (Nat.le_refl _) ?_
  refine k_R_settles1 (W0 := W) (e0 := e) (fun I7 W' e' hm hM7 g7 => ?_) W e I rfl (by omega) h q_ag.rf
  rw [hs] at hm
  cases hm
  refine r_ild1 f_R_operator_105 ?_
  refine r_ic f_R_operator_106 ?_
  refine r_ic_ne f_R_operator_108 (fun h => absurd h (by decide)) (fun _ => ?_)
  refine r_ald0 f_R_operator_111 ?_
  refine c_R_top f_R_operator_112 (s_95) (Nat.le_of_ble_eq_true rfl) (Nat.le_refl _) (Nat.le_refl _) ?_
  refine k_R_top hM7 (by simp; omega) ?_
  · rw [show ((40 : Int32) :: Wr).headD (-1) = 40 from rfl]
    refine r_ic f_R_operator_115 ?_
    refine r_ic_eq f_R_operator_117 (fun _ => ?_) (fun h => absurd h (by decide))
    refine r_ald0 f_R_operator_129 ?_
    refine c_R_top f_R_operator_130 (s_95) (Nat.le_of_ble_eq_true rfl) (Nat.le_refl _) (Nat.le_refl _) ?_
    refine k_R_top hM7 (by simp; omega) ?_
    · rw [show ((40 : Int32) :: Wr).headD (-1) = 40 from rfl]
      refine r_ic f_R_operator_133 ?_
      refine r_ic_ne f_R_operator_135 (fun _ => ?_) (fun h => absurd h (by decide))
      refine r_ald0 f_R_operator_145 ?_
      refine r_dupr f_R_operator_146 ?_
      refine r_gi f_R_operator_147 (s_95) ?_
      rw [show I7 95 29 = nI (Wr.length + 1) from hM7.2.2.1]
      refine r_ic f_R_operator_150 ?_
      refine r_isub f_R_operator_151 ?_
      rw [nI_pred]
      refine r_pi f_R_operator_152 (s_95) ?_
      refine r_ald0 f_R_operator_155 ?_
      refine r_dupr f_R_operator_156 ?_
      refine r_gi f_R_operator_157 (s_95) ?_
      rw [show u2 I7 95 29 (nI Wr.length) 95 30 = p from (u2_ne (Or.inr (by decide))).trans hM7.2.2.2.2.1]
      refine r_ic f_R_operator_160 ?_
      refine r_isub f_R_operator_161 ?_
      refine r_pi f_R_operator_162 (s_95) ?_
      refine r_ald0 f_R_operator_165 ?_
      refine r_dupr f_R_operator_166 ?_
      refine r_gi f_R_operator_167 (s_95) ?_
      rw [show u2 (u2 I7 95 29 (nI Wr.length)) 95 30 (p - 1) 95 31 = nI n from (u2_ne (Or.inr (by decide))).trans ((u2_ne (Or.inr (by decide))).trans hM7.2.1)]
      refine r_ic f_R_operator_170 ?_
      refine r_iadd f_R_operator_171 ?_
      rw [nI_1]
      refine r_pi f_R_operator_172 (s_95) ?_
      have hM5 := hM7.mk' (I' := u2 (u2 (u2 I7 95 29 (nI Wr.length)) 95 30 (p - 1)) 95 31 (nI (n + 1))) (n' := n + 1) (W' := Wr) (p' := p - 1) (fun x y q1 _ => (u2_ne (Or.inl q1)).trans ((u2_ne (Or.inl q1)).trans (u2_ne (Or.inl q1)))) rfl u2_self rfl (hM7.2.2.2.1.2.eq (fun j _ => (u2_ne (Or.inl (by decide))).trans ((u2_ne (Or.inl (by decide))).trans (u2_ne (Or.inl (by decide)))))) rfl rfl
      refine r_ald0 f_R_operator_175 ?_
      refine c_R_ends f_R_operator_176 (s_95) (Nat.le_of_ble_eq_true rfl) (Nat.le_refl _) (Nat.le_refl _) ?_
      refine k_R_ends (W0 := Wr) (p0 := p - 1) (e0 := er) (fun I4 W' p' e' hm hM4 g4 => ?_) Wr (p - 1) _ _ rfl (by (try simp only [List.length_append, List.length_cons, List.length_nil]); omega) hM5 q_ag.rf
      refine r_iret f_R_operator_179 ⟨_, rfl, rfl⟩ (Nat.le_refl _) (Nat.le_refl _) ?_
      refine hk I4 ?_ (((((g7).u2 (Or.inl ⟨rfl, by decide⟩)).u2 (Or.inl ⟨rfl, by decide⟩)).u2 (Or.inl ⟨rfl, by decide⟩)).tr g4)
      rw [← hm]
      exact hM4
theorem k_R_operator_pick {Wr er : List Int32} (h : m_Q I t (n, W, p, e)) (h60 : t.length ≤ 60) (hn : n < t.length) (hl : W.length + e.length ≤ n) (hb : pN t n = 41) (hs : m_set 10100 W e = (58 :: Wr, er)) (hk : ∀ I', m_Q I' t (n + 1, m_ends Wr (p - 1) (er ++ [10104])) → q_ag FX I I' → K (some (.int 0)) SH RF I' L) : WW G (d + 2) mt_R_operator 0 [some (.ref 95), none] [] SH RF I L 0 0 0 0 K := by
  have hml := m_set_len (z := 10100) W e
  rw [hs] at hml
  simp only [List.length_cons] at hml
  refine r_ald0 f_R_operator_0 ?_
  refine r_gr f_R_operator_1 (s_95) (r_95_24) ?_
  refine r_ald0 f_R_operator_4 ?_
  refine r_gi f_R_operator_5 (s_95) ?_
  rw [show I 95 31 = nI n from h.2.1]
  refine r_iald f_R_operator_8 (s_104) (q_ix.nI (show n < 60 by omega) (by decide)) ?_
  rw [h.1.get hn, hb]
  refine r_ist1 f_R_operator_9 rfl ?_
  refine r_ild1 f_R_operator_10 ?_
  refine r_ic f_R_operator_11 ?_
  refine r_ic_eq f_R_operator_13 (fun h => absurd h (by decide)) (fun _ => ?_)
  refine r_ild1 f_R_operator_16 ?_
  refine r_ic f_R_operator_17 ?_
  refine r_ic_eq f_R_operator_19 (fun h => absurd h (by decide)) (fun _ => ?_)
  refine r_ild1 f_R_operator_22 ?_
  refine r_ic f_R_operator_23 ?_
  refine r_ic_eq f_R_operator_25 (fun h => absurd h (by decide)) (fun _ => ?_)
  refine r_ild1 f_R_operator_28 ?_
  refine r_ic f_R_operator_29 ?_
  refine r_ic_ne f_R_operator_31 (fun _ => ?_) (fun h => absurd h (by decide))
  refine r_ald0 f_R_operator_100 ?_
  refine r_ic f_R_operator_101 ?_
  refine c_R_settles f_R_operator_102 (s_95) (Nat.le_of_ble_eq_true rfl) (Nat.le_refl _) (Nat.le_refl _) ?_
  refine k_R_settles1 (W0 := W) (e0 := e) (fun I7 W' e' hm hM7 g7 => ?_) W e I rfl (by omega) h q_ag.rf
  rw [hs] at hm
  cases hm
  refine r_ild1 f_R_operator_105 ?_
  refine r_ic f_R_operator_106 ?_
  refine r_ic_ne f_R_operator_108 (fun h => absurd h (by decide)) (fun _ => ?_)
  refine r_ald0 f_R_operator_111 ?_
  refine c_R_top f_R_operator_112 (s_95) (Nat.le_of_ble_eq_true rfl) (Nat.le_refl _) (Nat.le_refl _) ?_
  refine k_R_top hM7 (by simp; omega) ?_
  · rw [show ((58 : Int32) :: Wr).headD (-1) = 58 from rfl]
    refine r_ic f_R_operator_115 ?_
    refine r_ic_eq f_R_operator_117 (fun h => absurd h (by decide)) (fun _ => ?_)
    refine r_ald0 f_R_operator_120 ?_
    refine c_R_top f_R_operator_121 (s_95) (Nat.le_of_ble_eq_true rfl) (Nat.le_refl _) (Nat.le_refl _) ?_
    refine k_R_top hM7 (by simp; omega) ?_
    · rw [show ((58 : Int32) :: Wr).headD (-1) = 58 from rfl]
      refine r_ic f_R_operator_124 ?_
      refine r_ic_ne f_R_operator_126 (fun h => absurd h (by decide)) (fun _ => ?_)
      refine r_ald0 f_R_operator_129 ?_
      refine c_R_top f_R_operator_130 (s_95) (Nat.le_of_ble_eq_true rfl) (Nat.le_refl _) (Nat.le_refl _) ?_
      refine k_R_top hM7 (by simp; omega) ?_
      · rw [show ((58 : Int32) :: Wr).headD (-1) = 58 from rfl]
        refine r_ic f_R_operator_133 ?_
        refine r_ic_ne f_R_operator_135 (fun h => absurd h (by decide)) (fun _ => ?_)
        refine r_ald0 f_R_operator_138 ?_
        refine r_ic f_R_operator_139 ?_
        refine c_R_emit f_R_operator_142 (s_95) (Nat.le_of_ble_eq_true rfl) (Nat.le_refl _) (Nat.le_refl _) ?_
        refine k_R_emit hM7 (by omega) (fun I6 hM6 g6 => ?_)
        refine r_ald0 f_R_operator_145 ?_
        refine r_dupr f_R_operator_146 ?_
        refine r_gi f_R_operator_147 (s_95) ?_
        rw [show I6 95 29 = nI (Wr.length + 1) from hM6.2.2.1]
        refine r_ic f_R_operator_150 ?_
        refine r_isub f_R_operator_151 ?_
        rw [nI_pred]
        refine r_pi f_R_operator_152 (s_95) ?_
        refine r_ald0 f_R_operator_155 ?_
        refine r_dupr f_R_operator_156 ?_
        refine r_gi f_R_operator_157 (s_95) ?_
        rw [show u2 I6 95 29 (nI Wr.length) 95 30 = p from (u2_ne (Or.inr (by decide))).trans hM6.2.2.2.2.1]
        refine r_ic f_R_operator_160 ?_
        refine r_isub f_R_operator_161 ?_
        refine r_pi f_R_operator_162 (s_95) ?_
        refine r_ald0 f_R_operator_165 ?_
        refine r_dupr f_R_operator_166 ?_
        refine r_gi f_R_operator_167 (s_95) ?_
        rw [show u2 (u2 I6 95 29 (nI Wr.length)) 95 30 (p - 1) 95 31 = nI n from (u2_ne (Or.inr (by decide))).trans ((u2_ne (Or.inr (by decide))).trans hM6.2.1)]
        refine r_ic f_R_operator_170 ?_
        refine r_iadd f_R_operator_171 ?_
        rw [nI_1]
        refine r_pi f_R_operator_172 (s_95) ?_
        have hM5 := hM6.mk' (I' := u2 (u2 (u2 I6 95 29 (nI Wr.length)) 95 30 (p - 1)) 95 31 (nI (n + 1))) (n' := n + 1) (W' := Wr) (p' := p - 1) (fun x y q1 _ => (u2_ne (Or.inl q1)).trans ((u2_ne (Or.inl q1)).trans (u2_ne (Or.inl q1)))) rfl u2_self rfl (hM6.2.2.2.1.2.eq (fun j _ => (u2_ne (Or.inl (by decide))).trans ((u2_ne (Or.inl (by decide))).trans (u2_ne (Or.inl (by decide)))))) rfl rfl
        refine r_ald0 f_R_operator_175 ?_
        refine c_R_ends f_R_operator_176 (s_95) (Nat.le_of_ble_eq_true rfl) (Nat.le_refl _) (Nat.le_refl _) ?_
        refine k_R_ends (W0 := Wr) (p0 := p - 1) (e0 := er ++ [10104]) (fun I4 W' p' e' hm hM4 g4 => ?_) Wr (p - 1) _ _ rfl (by (try simp only [List.length_append, List.length_cons, List.length_nil]); omega) hM5 q_ag.rf
        refine r_iret f_R_operator_179 ⟨_, rfl, rfl⟩ (Nat.le_refl _) (Nat.le_refl _) ?_
        refine hk I4 ?_ (((((g7.tr g6).u2 (Or.inl ⟨rfl, by decide⟩)).u2 (Or.inl ⟨rfl, by decide⟩)).u2 (Or.inl ⟨rfl, by decide⟩)).tr g4)
        rw [← hm]
        exact hM4
theorem k_R_operator_lt {Wr er : List Int32} (h : m_Q I t (n, W, p, e)) (h60 : t.length ≤ 60) (hn : n < t.length) (hl : W.length + e.length ≤ n) (hb : pN t n = 60) (hs : m_set 10100 W e = (40 :: Wr, er)) (hk : ∀ I', m_Q I' t (n + 1, 60 :: Wr, p, er) → q_ag FX I I' → K (some (.int 1)) SH RF I' L) : WW G (d + 2) mt_R_operator 0 [some (.ref 95), none] [] SH RF I L 0 0 0 0 K := by
  have hml := m_set_len (z := 10100) W e
  rw [hs] at hml
  simp only [List.length_cons] at hml
  refine r_ald0 f_R_operator_0 ?_
  refine r_gr f_R_operator_1 (s_95) (r_95_24) ?_
  refine r_ald0 f_R_operator_4 ?_
  refine r_gi f_R_operator_5 (s_95) ?_
  rw [show I 95 31 = nI n from h.2.1]
  refine r_iald f_R_operator_8 (s_104) (q_ix.nI (show n < 60 by omega) (by decide)) ?_
  rw [h.1.get hn, hb]
  refine r_ist1 f_R_operator_9 rfl ?_
  refine r_ild1 f_R_operator_10 ?_
  refine r_ic f_R_operator_11 ?_
  refine r_ic_eq f_R_operator_13 (fun h => absurd h (by decide)) (fun _ => ?_)
  refine r_ild1 f_R_operator_16 ?_
  refine r_ic f_R_operator_17 ?_
  refine r_ic_eq f_R_operator_19 (fun h => absurd h (by decide)) (fun _ => ?_)
  refine r_ild1 f_R_operator_22 ?_
  refine r_ic f_R_operator_23 ?_
  refine r_ic_eq f_R_operator_25 (fun h => absurd h (by decide)) (fun _ => ?_)
  refine r_ild1 f_R_operator_28 ?_
  refine r_ic f_R_operator_29 ?_
  refine r_ic_ne f_R_operator_31 (fun _ => ?_) (fun h => absurd h (by decide))
  refine r_ald0 f_R_operator_100 ?_
  refine r_ic f_R_operator_101 ?_
  refine c_R_settles f_R_operator_102 (s_95) (Nat.le_of_ble_eq_true rfl) (Nat.le_refl _) (Nat.le_refl _) ?_
  refine k_R_settles1 (W0 := W) (e0 := e) (fun I7 W' e' hm hM7 g7 => ?_) W e I rfl (by omega) h q_ag.rf
  rw [hs] at hm
  cases hm
  refine r_ild1 f_R_operator_105 ?_
  refine r_ic f_R_operator_106 ?_
  refine r_ic_ne f_R_operator_108 (fun _ => ?_) (fun h => absurd h (by decide))
  refine r_ild1 f_R_operator_180 ?_
  refine r_ic f_R_operator_181 ?_
  refine r_ic_ne f_R_operator_183 (fun h => absurd h (by decide)) (fun _ => ?_)
  refine r_ald0 f_R_operator_186 ?_
  refine c_R_top f_R_operator_187 (s_95) (Nat.le_of_ble_eq_true rfl) (Nat.le_refl _) (Nat.le_refl _) ?_
  refine k_R_top hM7 (by simp; omega) ?_
  · rw [show ((40 : Int32) :: Wr).headD (-1) = 40 from rfl]
    refine r_ic f_R_operator_190 ?_
    refine r_ic_eq f_R_operator_192 (fun _ => ?_) (fun h => absurd h (by decide))
    refine r_ald0 f_R_operator_225 ?_
    refine r_gr f_R_operator_226 (s_95) (r_95_28) ?_
    refine r_ald0 f_R_operator_229 ?_
    refine r_gi f_R_operator_230 (s_95) ?_
    rw [show I7 95 29 = nI (Wr.length + 1) from hM7.2.2.1]
    refine r_ic f_R_operator_233 ?_
    refine r_isub f_R_operator_234 ?_
    rw [nI_pred]
    refine r_ild1 f_R_operator_235 ?_
    refine r_iast f_R_operator_236 (s_106) (q_ix.nI (show Wr.length < 60 by omega) (by decide)) ?_
    refine r_ald0 f_R_operator_237 ?_
    refine r_dupr f_R_operator_238 ?_
    refine r_gi f_R_operator_239 (s_95) ?_
    rw [show u2 I7 106 Wr.length 60 95 31 = nI n from (u2_ne (Or.inl (by decide))).trans hM7.2.1]
    refine r_ic f_R_operator_242 ?_
    refine r_iadd f_R_operator_243 ?_
    rw [nI_1]
    refine r_pi f_R_operator_244 (s_95) ?_
    refine r_ic f_R_operator_247 ?_
    refine r_iret f_R_operator_248 ⟨_, rfl, rfl⟩ (Nat.le_refl _) (Nat.le_refl _) ?_
    refine hk _ (hM7.mk' (W' := 60 :: Wr) (fun x y q1 q2 => (u2_ne (Or.inl q1)).trans (u2_ne (Or.inl q2))) rfl u2_self ((u2_ne (Or.inr (by decide))).trans ((u2_ne (Or.inl (by decide))).trans hM7.2.2.1)) ⟨?_, ?_⟩ ((u2_ne (Or.inr (by decide))).trans ((u2_ne (Or.inl (by decide))).trans hM7.2.2.2.2.1)) rfl) ((g7.u2 (Or.inr (Or.inr rfl))).u2 (Or.inl ⟨rfl, by decide⟩))
    · rw [u2_ne (Or.inl (by decide)), u2_self]
    · exact hM7.2.2.2.1.2.eq (fun j hj => (u2_ne (Or.inl (by decide))).trans (u2_ne (Or.inr (Nat.ne_of_lt hj))))
theorem k_R_operator_if {Wr er : List Int32} (h : m_Q I t (n, W, p, e)) (h60 : t.length ≤ 60) (hn : n < t.length) (hl : W.length + e.length ≤ n) (hb : pN t n = 63) (hs : m_set 10100 W e = (60 :: Wr, er)) (hk : ∀ I', m_Q I' t (n + 1, 63 :: Wr, p, er) → q_ag FX I I' → K (some (.int 1)) SH RF I' L) : WW G (d + 2) mt_R_operator 0 [some (.ref 95), none] [] SH RF I L 0 0 0 0 K := by
  have hml := m_set_len (z := 10100) W e
  rw [hs] at hml
  simp only [List.length_cons] at hml
  refine r_ald0 f_R_operator_0 ?_
  refine r_gr f_R_operator_1 (s_95) (r_95_24) ?_
  refine r_ald0 f_R_operator_4 ?_
  refine r_gi f_R_operator_5 (s_95) ?_
  rw [show I 95 31 = nI n from h.2.1]
  refine r_iald f_R_operator_8 (s_104) (q_ix.nI (show n < 60 by omega) (by decide)) ?_
  rw [h.1.get hn, hb]
  refine r_ist1 f_R_operator_9 rfl ?_
  refine r_ild1 f_R_operator_10 ?_
  refine r_ic f_R_operator_11 ?_
  refine r_ic_eq f_R_operator_13 (fun h => absurd h (by decide)) (fun _ => ?_)
  refine r_ild1 f_R_operator_16 ?_
  refine r_ic f_R_operator_17 ?_
  refine r_ic_eq f_R_operator_19 (fun h => absurd h (by decide)) (fun _ => ?_)
  refine r_ild1 f_R_operator_22 ?_
  refine r_ic f_R_operator_23 ?_
  refine r_ic_eq f_R_operator_25 (fun h => absurd h (by decide)) (fun _ => ?_)
  refine r_ild1 f_R_operator_28 ?_
  refine r_ic f_R_operator_29 ?_
  refine r_ic_ne f_R_operator_31 (fun _ => ?_) (fun h => absurd h (by decide))
  refine r_ald0 f_R_operator_100 ?_
  refine r_ic f_R_operator_101 ?_
  refine c_R_settles f_R_operator_102 (s_95) (Nat.le_of_ble_eq_true rfl) (Nat.le_refl _) (Nat.le_refl _) ?_
  refine k_R_settles1 (W0 := W) (e0 := e) (fun I7 W' e' hm hM7 g7 => ?_) W e I rfl (by omega) h q_ag.rf
  rw [hs] at hm
  cases hm
  refine r_ild1 f_R_operator_105 ?_
  refine r_ic f_R_operator_106 ?_
  refine r_ic_ne f_R_operator_108 (fun _ => ?_) (fun h => absurd h (by decide))
  refine r_ild1 f_R_operator_180 ?_
  refine r_ic f_R_operator_181 ?_
  refine r_ic_ne f_R_operator_183 (fun _ => ?_) (fun h => absurd h (by decide))
  refine r_ild1 f_R_operator_195 ?_
  refine r_ic f_R_operator_196 ?_
  refine r_ic_ne f_R_operator_198 (fun h => absurd h (by decide)) (fun _ => ?_)
  refine r_ald0 f_R_operator_201 ?_
  refine c_R_top f_R_operator_202 (s_95) (Nat.le_of_ble_eq_true rfl) (Nat.le_refl _) (Nat.le_refl _) ?_
  refine k_R_top hM7 (by simp; omega) ?_
  · rw [show ((60 : Int32) :: Wr).headD (-1) = 60 from rfl]
    refine r_ic f_R_operator_205 ?_
    refine r_ic_eq f_R_operator_207 (fun _ => ?_) (fun h => absurd h (by decide))
    refine r_ald0 f_R_operator_225 ?_
    refine r_gr f_R_operator_226 (s_95) (r_95_28) ?_
    refine r_ald0 f_R_operator_229 ?_
    refine r_gi f_R_operator_230 (s_95) ?_
    rw [show I7 95 29 = nI (Wr.length + 1) from hM7.2.2.1]
    refine r_ic f_R_operator_233 ?_
    refine r_isub f_R_operator_234 ?_
    rw [nI_pred]
    refine r_ild1 f_R_operator_235 ?_
    refine r_iast f_R_operator_236 (s_106) (q_ix.nI (show Wr.length < 60 by omega) (by decide)) ?_
    refine r_ald0 f_R_operator_237 ?_
    refine r_dupr f_R_operator_238 ?_
    refine r_gi f_R_operator_239 (s_95) ?_
    rw [show u2 I7 106 Wr.length 63 95 31 = nI n from (u2_ne (Or.inl (by decide))).trans hM7.2.1]
    refine r_ic f_R_operator_242 ?_
    refine r_iadd f_R_operator_243 ?_
    rw [nI_1]
    refine r_pi f_R_operator_244 (s_95) ?_
    refine r_ic f_R_operator_247 ?_
    refine r_iret f_R_operator_248 ⟨_, rfl, rfl⟩ (Nat.le_refl _) (Nat.le_refl _) ?_
    refine hk _ (hM7.mk' (W' := 63 :: Wr) (fun x y q1 q2 => (u2_ne (Or.inl q1)).trans (u2_ne (Or.inl q2))) rfl u2_self ((u2_ne (Or.inr (by decide))).trans ((u2_ne (Or.inl (by decide))).trans hM7.2.2.1)) ⟨?_, ?_⟩ ((u2_ne (Or.inr (by decide))).trans ((u2_ne (Or.inl (by decide))).trans hM7.2.2.2.2.1)) rfl) ((g7.u2 (Or.inr (Or.inr rfl))).u2 (Or.inl ⟨rfl, by decide⟩))
    · rw [u2_ne (Or.inl (by decide)), u2_self]
    · exact hM7.2.2.2.1.2.eq (fun j hj => (u2_ne (Or.inl (by decide))).trans (u2_ne (Or.inr (Nat.ne_of_lt hj))))
theorem k_R_operator_else {Wr er : List Int32} (h : m_Q I t (n, W, p, e)) (h60 : t.length ≤ 60) (hn : n < t.length) (hl : W.length + e.length ≤ n) (hb : pN t n = 58) (hs : m_set 10100 W e = (63 :: Wr, er)) (hk : ∀ I', m_Q I' t (n + 1, 58 :: Wr, p, er) → q_ag FX I I' → K (some (.int 1)) SH RF I' L) : WW G (d + 2) mt_R_operator 0 [some (.ref 95), none] [] SH RF I L 0 0 0 0 K := by
  have hml := m_set_len (z := 10100) W e
  rw [hs] at hml
  simp only [List.length_cons] at hml
  refine r_ald0 f_R_operator_0 ?_
  refine r_gr f_R_operator_1 (s_95) (r_95_24) ?_
  refine r_ald0 f_R_operator_4 ?_
  refine r_gi f_R_operator_5 (s_95) ?_
  rw [show I 95 31 = nI n from h.2.1]
  refine r_iald f_R_operator_8 (s_104) (q_ix.nI (show n < 60 by omega) (by decide)) ?_
  rw [h.1.get hn, hb]
  refine r_ist1 f_R_operator_9 rfl ?_
  refine r_ild1 f_R_operator_10 ?_
  refine r_ic f_R_operator_11 ?_
  refine r_ic_eq f_R_operator_13 (fun h => absurd h (by decide)) (fun _ => ?_)
  refine r_ild1 f_R_operator_16 ?_
  refine r_ic f_R_operator_17 ?_
  refine r_ic_eq f_R_operator_19 (fun h => absurd h (by decide)) (fun _ => ?_)
  refine r_ild1 f_R_operator_22 ?_
  refine r_ic f_R_operator_23 ?_
  refine r_ic_eq f_R_operator_25 (fun h => absurd h (by decide)) (fun _ => ?_)
  refine r_ild1 f_R_operator_28 ?_
  refine r_ic f_R_operator_29 ?_
  refine r_ic_ne f_R_operator_31 (fun _ => ?_) (fun h => absurd h (by decide))
  refine r_ald0 f_R_operator_100 ?_
  refine r_ic f_R_operator_101 ?_
  refine c_R_settles f_R_operator_102 (s_95) (Nat.le_of_ble_eq_true rfl) (Nat.le_refl _) (Nat.le_refl _) ?_
  refine k_R_settles1 (W0 := W) (e0 := e) (fun I7 W' e' hm hM7 g7 => ?_) W e I rfl (by omega) h q_ag.rf
  rw [hs] at hm
  cases hm
  refine r_ild1 f_R_operator_105 ?_
  refine r_ic f_R_operator_106 ?_
  refine r_ic_ne f_R_operator_108 (fun _ => ?_) (fun h => absurd h (by decide))
  refine r_ild1 f_R_operator_180 ?_
  refine r_ic f_R_operator_181 ?_
  refine r_ic_ne f_R_operator_183 (fun _ => ?_) (fun h => absurd h (by decide))
  refine r_ild1 f_R_operator_195 ?_
  refine r_ic f_R_operator_196 ?_
  refine r_ic_ne f_R_operator_198 (fun _ => ?_) (fun h => absurd h (by decide))
  refine r_ild1 f_R_operator_210 ?_
  refine r_ic f_R_operator_211 ?_
  refine r_ic_ne f_R_operator_213 (fun h => absurd h (by decide)) (fun _ => ?_)
  refine r_ald0 f_R_operator_216 ?_
  refine c_R_top f_R_operator_217 (s_95) (Nat.le_of_ble_eq_true rfl) (Nat.le_refl _) (Nat.le_refl _) ?_
  refine k_R_top hM7 (by simp; omega) ?_
  · rw [show ((63 : Int32) :: Wr).headD (-1) = 63 from rfl]
    refine r_ic f_R_operator_220 ?_
    refine r_ic_ne f_R_operator_222 (fun h => absurd h (by decide)) (fun _ => ?_)
    refine r_ald0 f_R_operator_225 ?_
    refine r_gr f_R_operator_226 (s_95) (r_95_28) ?_
    refine r_ald0 f_R_operator_229 ?_
    refine r_gi f_R_operator_230 (s_95) ?_
    rw [show I7 95 29 = nI (Wr.length + 1) from hM7.2.2.1]
    refine r_ic f_R_operator_233 ?_
    refine r_isub f_R_operator_234 ?_
    rw [nI_pred]
    refine r_ild1 f_R_operator_235 ?_
    refine r_iast f_R_operator_236 (s_106) (q_ix.nI (show Wr.length < 60 by omega) (by decide)) ?_
    refine r_ald0 f_R_operator_237 ?_
    refine r_dupr f_R_operator_238 ?_
    refine r_gi f_R_operator_239 (s_95) ?_
    rw [show u2 I7 106 Wr.length 58 95 31 = nI n from (u2_ne (Or.inl (by decide))).trans hM7.2.1]
    refine r_ic f_R_operator_242 ?_
    refine r_iadd f_R_operator_243 ?_
    rw [nI_1]
    refine r_pi f_R_operator_244 (s_95) ?_
    refine r_ic f_R_operator_247 ?_
    refine r_iret f_R_operator_248 ⟨_, rfl, rfl⟩ (Nat.le_refl _) (Nat.le_refl _) ?_
    refine hk _ (hM7.mk' (W' := 58 :: Wr) (fun x y q1 q2 => (u2_ne (Or.inl q1)).trans (u2_ne (Or.inl q2))) rfl u2_self ((u2_ne (Or.inr (by decide))).trans ((u2_ne (Or.inl (by decide))).trans hM7.2.2.1)) ⟨?_, ?_⟩ ((u2_ne (Or.inr (by decide))).trans ((u2_ne (Or.inl (by decide))).trans hM7.2.2.2.2.1)) rfl) ((g7.u2 (Or.inr (Or.inr rfl))).u2 (Or.inl ⟨rfl, by decide⟩))
    · rw [u2_ne (Or.inl (by decide)), u2_self]
    · exact hM7.2.2.2.1.2.eq (fun j hj => (u2_ne (Or.inl (by decide))).trans (u2_ne (Or.inr (Nat.ne_of_lt hj))))
theorem k_R_operator_bad (h : m_Q I t (n, W, p, e)) (h60 : t.length ≤ 60) (hn : n < t.length) (hl : W.length + e.length ≤ n) (h1 : ¬ (pN t n = 43 ∨ pN t n = 45 ∨ pN t n = 42 ∨ pN t n = 47)) (h2 : ¬ (pN t n = 41 ∧ ((m_set 10100 W e).1.headD (-1) = 40 ∨ (m_set 10100 W e).1.headD (-1) = 58))) (h3 : ¬ ((pN t n = 60 ∧ (m_set 10100 W e).1.headD (-1) = 40) ∨ (pN t n = 63 ∧ (m_set 10100 W e).1.headD (-1) = 60) ∨ (pN t n = 58 ∧ (m_set 10100 W e).1.headD (-1) = 63))) (hk : ∀ I', I' 95 31 = nI n → q_ag FX I I' → K (some (.int 0)) SH RF (u2 I' 95 32 1) L) : WW G (d + 2) mt_R_operator 0 [some (.ref 95), none] [] SH RF I L 0 0 0 0 K := by
  have hml := m_set_len (z := 10100) W e
  refine r_ald0 f_R_operator_0 ?_
  refine r_gr f_R_operator_1 (s_95) (r_95_24) ?_
  refine r_ald0 f_R_operator_4 ?_
  refine r_gi f_R_operator_5 (s_95) ?_
  rw [show I 95 31 = nI n from h.2.1]
  refine r_iald f_R_operator_8 (s_104) (q_ix.nI (show n < 60 by omega) (by decide)) ?_
  rw [h.1.get hn]
  refine r_ist1 f_R_operator_9 rfl ?_
  refine r_ild1 f_R_operator_10 ?_
  refine r_ic f_R_operator_11 ?_
  refine r_ic_eq f_R_operator_13 (fun h13 => absurd h13 (fun q => h1 (Or.inl q))) (fun h13 => ?_)
  refine r_ild1 f_R_operator_16 ?_
  refine r_ic f_R_operator_17 ?_
  refine r_ic_eq f_R_operator_19 (fun h19 => absurd h19 (fun q => h1 (Or.inr (Or.inl q)))) (fun h19 => ?_)
  refine r_ild1 f_R_operator_22 ?_
  refine r_ic f_R_operator_23 ?_
  refine r_ic_eq f_R_operator_25 (fun h25 => absurd h25 (fun q => h1 (Or.inr (Or.inr (Or.inl q))))) (fun h25 => ?_)
  refine r_ild1 f_R_operator_28 ?_
  refine r_ic f_R_operator_29 ?_
  refine r_ic_ne f_R_operator_31 (fun h31 => ?_) (fun h31 => absurd (Or.inr (Or.inr (Or.inr h31))) h1)
  refine r_ald0 f_R_operator_100 ?_
  refine r_ic f_R_operator_101 ?_
  refine c_R_settles f_R_operator_102 (s_95) (Nat.le_of_ble_eq_true rfl) (Nat.le_refl _) (Nat.le_refl _) ?_
  refine k_R_settles1 (W0 := W) (e0 := e) (fun I7 W' e' hm hM7 g7 => ?_) W e I rfl (by omega) h q_ag.rf
  rw [← hm] at h2 h3 hml
  dsimp only at h2 h3 hml
  refine r_ild1 f_R_operator_105 ?_
  refine r_ic f_R_operator_106 ?_
  refine r_ic_ne f_R_operator_108 (fun h108 => ?_) (fun h108 => ?_)
  · refine r_ild1 f_R_operator_180 ?_
    refine r_ic f_R_operator_181 ?_
    refine r_ic_ne f_R_operator_183 (fun h183 => ?_) (fun h183 => ?_)
    · refine r_ild1 f_R_operator_195 ?_
      refine r_ic f_R_operator_196 ?_
      refine r_ic_ne f_R_operator_198 (fun h198 => ?_) (fun h198 => ?_)
      · refine r_ild1 f_R_operator_210 ?_
        refine r_ic f_R_operator_211 ?_
        refine r_ic_ne f_R_operator_213 (fun h213 => ?_) (fun h213 => ?_)
        · refine r_ald0 f_R_operator_249 ?_
          refine r_ic f_R_operator_250 ?_
          refine r_pz f_R_operator_251 (s_95) (Or.inr rfl) ?_
          refine r_ic f_R_operator_254 ?_
          refine r_iret f_R_operator_255 ⟨_, rfl, rfl⟩ (Nat.le_refl _) (Nat.le_refl _) ?_
          exact hk I7 hM7.2.1 g7
        · refine r_ald0 f_R_operator_216 ?_
          refine c_R_top f_R_operator_217 (s_95) (Nat.le_of_ble_eq_true rfl) (Nat.le_refl _) (Nat.le_refl _) ?_
          refine k_R_top hM7 (by omega) ?_
          · refine r_ic f_R_operator_220 ?_
            refine r_ic_ne f_R_operator_222 (fun h222 => ?_) (fun h222 => ?_)
            · refine r_ald0 f_R_operator_249 ?_
              refine r_ic f_R_operator_250 ?_
              refine r_pz f_R_operator_251 (s_95) (Or.inr rfl) ?_
              refine r_ic f_R_operator_254 ?_
              refine r_iret f_R_operator_255 ⟨_, rfl, rfl⟩ (Nat.le_refl _) (Nat.le_refl _) ?_
              exact hk I7 hM7.2.1 g7
            · refine absurd (show (pN t n = 60 ∧ W'.headD (-1) = 40) ∨ (pN t n = 63 ∧ W'.headD (-1) = 60) ∨ (pN t n = 58 ∧ W'.headD (-1) = 63) from ?_) h3
              first
                | exact Or.inl ⟨h183, h192⟩
                | exact Or.inr (Or.inl ⟨h198, h207⟩)
                | exact Or.inr (Or.inr ⟨h213, h222⟩)
      · refine r_ald0 f_R_operator_201 ?_
        refine c_R_top f_R_operator_202 (s_95) (Nat.le_of_ble_eq_true rfl) (Nat.le_refl _) (Nat.le_refl _) ?_
        refine k_R_top hM7 (by omega) ?_
        · refine r_ic f_R_operator_205 ?_
          refine r_ic_eq f_R_operator_207 (fun h207 => ?_) (fun h207 => ?_)
          · refine absurd (show (pN t n = 60 ∧ W'.headD (-1) = 40) ∨ (pN t n = 63 ∧ W'.headD (-1) = 60) ∨ (pN t n = 58 ∧ W'.headD (-1) = 63) from ?_) h3
            first
              | exact Or.inl ⟨h183, h192⟩
              | exact Or.inr (Or.inl ⟨h198, h207⟩)
              | exact Or.inr (Or.inr ⟨h213, h222⟩)
          · refine r_ild1 f_R_operator_210 ?_
            refine r_ic f_R_operator_211 ?_
            refine r_ic_ne f_R_operator_213 (fun h213 => ?_) (fun h213 => ?_)
            · refine r_ald0 f_R_operator_249 ?_
              refine r_ic f_R_operator_250 ?_
              refine r_pz f_R_operator_251 (s_95) (Or.inr rfl) ?_
              refine r_ic f_R_operator_254 ?_
              refine r_iret f_R_operator_255 ⟨_, rfl, rfl⟩ (Nat.le_refl _) (Nat.le_refl _) ?_
              exact hk I7 hM7.2.1 g7
            · refine r_ald0 f_R_operator_216 ?_
              refine c_R_top f_R_operator_217 (s_95) (Nat.le_of_ble_eq_true rfl) (Nat.le_refl _) (Nat.le_refl _) ?_
              refine k_R_top hM7 (by omega) ?_
              · refine r_ic f_R_operator_220 ?_
                refine r_ic_ne f_R_operator_222 (fun h222 => ?_) (fun h222 => ?_)
                · refine r_ald0 f_R_operator_249 ?_
                  refine r_ic f_R_operator_250 ?_
                  refine r_pz f_R_operator_251 (s_95) (Or.inr rfl) ?_
                  refine r_ic f_R_operator_254 ?_
                  refine r_iret f_R_operator_255 ⟨_, rfl, rfl⟩ (Nat.le_refl _) (Nat.le_refl _) ?_
                  exact hk I7 hM7.2.1 g7
                · refine absurd (show (pN t n = 60 ∧ W'.headD (-1) = 40) ∨ (pN t n = 63 ∧ W'.headD (-1) = 60) ∨ (pN t n = 58 ∧ W'.headD (-1) = 63) from ?_) h3
                  first
                    | exact Or.inl ⟨h183, h192⟩
                    | exact Or.inr (Or.inl ⟨h198, h207⟩)
                    | exact Or.inr (Or.inr ⟨h213, h222⟩)
    · refine r_ald0 f_R_operator_186 ?_
      refine c_R_top f_R_operator_187 (s_95) (Nat.le_of_ble_eq_true rfl) (Nat.le_refl _) (Nat.le_refl _) ?_
      refine k_R_top hM7 (by omega) ?_
      · refine r_ic f_R_operator_190 ?_
        refine r_ic_eq f_R_operator_192 (fun h192 => ?_) (fun h192 => ?_)
        · refine absurd (show (pN t n = 60 ∧ W'.headD (-1) = 40) ∨ (pN t n = 63 ∧ W'.headD (-1) = 60) ∨ (pN t n = 58 ∧ W'.headD (-1) = 63) from ?_) h3
          first
            | exact Or.inl ⟨h183, h192⟩
            | exact Or.inr (Or.inl ⟨h198, h207⟩)
            | exact Or.inr (Or.inr ⟨h213, h222⟩)
        · refine r_ild1 f_R_operator_195 ?_
          refine r_ic f_R_operator_196 ?_
          refine r_ic_ne f_R_operator_198 (fun h198 => ?_) (fun h198 => ?_)
          · refine r_ild1 f_R_operator_210 ?_
            refine r_ic f_R_operator_211 ?_
            refine r_ic_ne f_R_operator_213 (fun h213 => ?_) (fun h213 => ?_)
            · refine r_ald0 f_R_operator_249 ?_
              refine r_ic f_R_operator_250 ?_
              refine r_pz f_R_operator_251 (s_95) (Or.inr rfl) ?_
              refine r_ic f_R_operator_254 ?_
              refine r_iret f_R_operator_255 ⟨_, rfl, rfl⟩ (Nat.le_refl _) (Nat.le_refl _) ?_
              exact hk I7 hM7.2.1 g7
            · refine r_ald0 f_R_operator_216 ?_
              refine c_R_top f_R_operator_217 (s_95) (Nat.le_of_ble_eq_true rfl) (Nat.le_refl _) (Nat.le_refl _) ?_
              refine k_R_top hM7 (by omega) ?_
              · refine r_ic f_R_operator_220 ?_
                refine r_ic_ne f_R_operator_222 (fun h222 => ?_) (fun h222 => ?_)
                · refine r_ald0 f_R_operator_249 ?_
                  refine r_ic f_R_operator_250 ?_
                  refine r_pz f_R_operator_251 (s_95) (Or.inr rfl) ?_
                  refine r_ic f_R_operator_254 ?_
                  refine r_iret f_R_operator_255 ⟨_, rfl, rfl⟩ (Nat.le_refl _) (Nat.le_refl _) ?_
                  exact hk I7 hM7.2.1 g7
                · refine absurd (show (pN t n = 60 ∧ W'.headD (-1) = 40) ∨ (pN t n = 63 ∧ W'.headD (-1) = 60) ∨ (pN t n = 58 ∧ W'.headD (-1) = 63) from ?_) h3
                  first
                    | exact Or.inl ⟨h183, h192⟩
                    | exact Or.inr (Or.inl ⟨h198, h207⟩)
                    | exact Or.inr (Or.inr ⟨h213, h222⟩)
          · refine r_ald0 f_R_operator_201 ?_
            refine c_R_top f_R_operator_202 (s_95) (Nat.le_of_ble_eq_true rfl) (Nat.le_refl _) (Nat.le_refl _) ?_
            refine k_R_top hM7 (by omega) ?_
            · refine r_ic f_R_operator_205 ?_
              refine r_ic_eq f_R_operator_207 (fun h207 => ?_) (fun h207 => ?_)
              · refine absurd (show (pN t n = 60 ∧ W'.headD (-1) = 40) ∨ (pN t n = 63 ∧ W'.headD (-1) = 60) ∨ (pN t n = 58 ∧ W'.headD (-1) = 63) from ?_) h3
                first
                  | exact Or.inl ⟨h183, h192⟩
                  | exact Or.inr (Or.inl ⟨h198, h207⟩)
                  | exact Or.inr (Or.inr ⟨h213, h222⟩)
              · refine r_ild1 f_R_operator_210 ?_
                refine r_ic f_R_operator_211 ?_
                refine r_ic_ne f_R_operator_213 (fun h213 => ?_) (fun h213 => ?_)
                · refine r_ald0 f_R_operator_249 ?_
                  refine r_ic f_R_operator_250 ?_
                  refine r_pz f_R_operator_251 (s_95) (Or.inr rfl) ?_
                  refine r_ic f_R_operator_254 ?_
                  refine r_iret f_R_operator_255 ⟨_, rfl, rfl⟩ (Nat.le_refl _) (Nat.le_refl _) ?_
                  exact hk I7 hM7.2.1 g7
                · refine r_ald0 f_R_operator_216 ?_
                  refine c_R_top f_R_operator_217 (s_95) (Nat.le_of_ble_eq_true rfl) (Nat.le_refl _) (Nat.le_refl _) ?_
                  refine k_R_top hM7 (by omega) ?_
                  · refine r_ic f_R_operator_220 ?_
                    refine r_ic_ne f_R_operator_222 (fun h222 => ?_) (fun h222 => ?_)
                    · refine r_ald0 f_R_operator_249 ?_
                      refine r_ic f_R_operator_250 ?_
                      refine r_pz f_R_operator_251 (s_95) (Or.inr rfl) ?_
                      refine r_ic f_R_operator_254 ?_
                      refine r_iret f_R_operator_255 ⟨_, rfl, rfl⟩ (Nat.le_refl _) (Nat.le_refl _) ?_
                      exact hk I7 hM7.2.1 g7
                    · refine absurd (show (pN t n = 60 ∧ W'.headD (-1) = 40) ∨ (pN t n = 63 ∧ W'.headD (-1) = 60) ∨ (pN t n = 58 ∧ W'.headD (-1) = 63) from ?_) h3
                      first
                        | exact Or.inl ⟨h183, h192⟩
                        | exact Or.inr (Or.inl ⟨h198, h207⟩)
                        | exact Or.inr (Or.inr ⟨h213, h222⟩)
  · refine r_ald0 f_R_operator_111 ?_
    refine c_R_top f_R_operator_112 (s_95) (Nat.le_of_ble_eq_true rfl) (Nat.le_refl _) (Nat.le_refl _) ?_
    refine k_R_top hM7 (by omega) ?_
    · refine r_ic f_R_operator_115 ?_
      refine r_ic_eq f_R_operator_117 (fun h117 => ?_) (fun h117 => ?_)
      · refine absurd (show pN t n = 41 ∧ (W'.headD (-1) = 40 ∨ W'.headD (-1) = 58) from ⟨h108, ?_⟩) h2
        first
          | exact Or.inl h117
          | exact Or.inr h126
      · refine r_ald0 f_R_operator_120 ?_
        refine c_R_top f_R_operator_121 (s_95) (Nat.le_of_ble_eq_true rfl) (Nat.le_refl _) (Nat.le_refl _) ?_
        refine k_R_top hM7 (by omega) ?_
        · refine r_ic f_R_operator_124 ?_
          refine r_ic_ne f_R_operator_126 (fun h126 => ?_) (fun h126 => ?_)
          · refine r_ild1 f_R_operator_180 ?_
            refine r_ic f_R_operator_181 ?_
            refine r_ic_ne f_R_operator_183 (fun h183 => ?_) (fun h183 => ?_)
            · refine r_ild1 f_R_operator_195 ?_
              refine r_ic f_R_operator_196 ?_
              refine r_ic_ne f_R_operator_198 (fun h198 => ?_) (fun h198 => ?_)
              · refine r_ild1 f_R_operator_210 ?_
                refine r_ic f_R_operator_211 ?_
                refine r_ic_ne f_R_operator_213 (fun h213 => ?_) (fun h213 => ?_)
                · refine r_ald0 f_R_operator_249 ?_
                  refine r_ic f_R_operator_250 ?_
                  refine r_pz f_R_operator_251 (s_95) (Or.inr rfl) ?_
                  refine r_ic f_R_operator_254 ?_
                  refine r_iret f_R_operator_255 ⟨_, rfl, rfl⟩ (Nat.le_refl _) (Nat.le_refl _) ?_
                  exact hk I7 hM7.2.1 g7
                · refine r_ald0 f_R_operator_216 ?_
                  refine c_R_top f_R_operator_217 (s_95) (Nat.le_of_ble_eq_true rfl) (Nat.le_refl _) (Nat.le_refl _) ?_
                  refine k_R_top hM7 (by omega) ?_
                  · refine r_ic f_R_operator_220 ?_
                    refine r_ic_ne f_R_operator_222 (fun h222 => ?_) (fun h222 => ?_)
                    · refine r_ald0 f_R_operator_249 ?_
                      refine r_ic f_R_operator_250 ?_
                      refine r_pz f_R_operator_251 (s_95) (Or.inr rfl) ?_
                      refine r_ic f_R_operator_254 ?_
                      refine r_iret f_R_operator_255 ⟨_, rfl, rfl⟩ (Nat.le_refl _) (Nat.le_refl _) ?_
                      exact hk I7 hM7.2.1 g7
                    · refine absurd (show (pN t n = 60 ∧ W'.headD (-1) = 40) ∨ (pN t n = 63 ∧ W'.headD (-1) = 60) ∨ (pN t n = 58 ∧ W'.headD (-1) = 63) from ?_) h3
                      first
                        | exact Or.inl ⟨h183, h192⟩
                        | exact Or.inr (Or.inl ⟨h198, h207⟩)
                        | exact Or.inr (Or.inr ⟨h213, h222⟩)
              · refine r_ald0 f_R_operator_201 ?_
                refine c_R_top f_R_operator_202 (s_95) (Nat.le_of_ble_eq_true rfl) (Nat.le_refl _) (Nat.le_refl _) ?_
                refine k_R_top hM7 (by omega) ?_
                · refine r_ic f_R_operator_205 ?_
                  refine r_ic_eq f_R_operator_207 (fun h207 => ?_) (fun h207 => ?_)
                  · refine absurd (show (pN t n = 60 ∧ W'.headD (-1) = 40) ∨ (pN t n = 63 ∧ W'.headD (-1) = 60) ∨ (pN t n = 58 ∧ W'.headD (-1) = 63) from ?_) h3
                    first
                      | exact Or.inl ⟨h183, h192⟩
                      | exact Or.inr (Or.inl ⟨h198, h207⟩)
                      | exact Or.inr (Or.inr ⟨h213, h222⟩)
                  · refine r_ild1 f_R_operator_210 ?_
                    refine r_ic f_R_operator_211 ?_
                    refine r_ic_ne f_R_operator_213 (fun h213 => ?_) (fun h213 => ?_)
                    · refine r_ald0 f_R_operator_249 ?_
                      refine r_ic f_R_operator_250 ?_
                      refine r_pz f_R_operator_251 (s_95) (Or.inr rfl) ?_
                      refine r_ic f_R_operator_254 ?_
                      refine r_iret f_R_operator_255 ⟨_, rfl, rfl⟩ (Nat.le_refl _) (Nat.le_refl _) ?_
                      exact hk I7 hM7.2.1 g7
                    · refine r_ald0 f_R_operator_216 ?_
                      refine c_R_top f_R_operator_217 (s_95) (Nat.le_of_ble_eq_true rfl) (Nat.le_refl _) (Nat.le_refl _) ?_
                      refine k_R_top hM7 (by omega) ?_
                      · refine r_ic f_R_operator_220 ?_
                        refine r_ic_ne f_R_operator_222 (fun h222 => ?_) (fun h222 => ?_)
                        · refine r_ald0 f_R_operator_249 ?_
                          refine r_ic f_R_operator_250 ?_
                          refine r_pz f_R_operator_251 (s_95) (Or.inr rfl) ?_
                          refine r_ic f_R_operator_254 ?_
                          refine r_iret f_R_operator_255 ⟨_, rfl, rfl⟩ (Nat.le_refl _) (Nat.le_refl _) ?_
                          exact hk I7 hM7.2.1 g7
                        · refine absurd (show (pN t n = 60 ∧ W'.headD (-1) = 40) ∨ (pN t n = 63 ∧ W'.headD (-1) = 60) ∨ (pN t n = 58 ∧ W'.headD (-1) = 63) from ?_) h3
                          first
                            | exact Or.inl ⟨h183, h192⟩
                            | exact Or.inr (Or.inl ⟨h198, h207⟩)
                            | exact Or.inr (Or.inr ⟨h213, h222⟩)
            · refine r_ald0 f_R_operator_186 ?_
              refine c_R_top f_R_operator_187 (s_95) (Nat.le_of_ble_eq_true rfl) (Nat.le_refl _) (Nat.le_refl _) ?_
              refine k_R_top hM7 (by omega) ?_
              · refine r_ic f_R_operator_190 ?_
                refine r_ic_eq f_R_operator_192 (fun h192 => ?_) (fun h192 => ?_)
                · refine absurd (show (pN t n = 60 ∧ W'.headD (-1) = 40) ∨ (pN t n = 63 ∧ W'.headD (-1) = 60) ∨ (pN t n = 58 ∧ W'.headD (-1) = 63) from ?_) h3
                  first
                    | exact Or.inl ⟨h183, h192⟩
                    | exact Or.inr (Or.inl ⟨h198, h207⟩)
                    | exact Or.inr (Or.inr ⟨h213, h222⟩)
                · refine r_ild1 f_R_operator_195 ?_
                  refine r_ic f_R_operator_196 ?_
                  refine r_ic_ne f_R_operator_198 (fun h198 => ?_) (fun h198 => ?_)
                  · refine r_ild1 f_R_operator_210 ?_
                    refine r_ic f_R_operator_211 ?_
                    refine r_ic_ne f_R_operator_213 (fun h213 => ?_) (fun h213 => ?_)
                    · refine r_ald0 f_R_operator_249 ?_
                      refine r_ic f_R_operator_250 ?_
                      refine r_pz f_R_operator_251 (s_95) (Or.inr rfl) ?_
                      refine r_ic f_R_operator_254 ?_
                      refine r_iret f_R_operator_255 ⟨_, rfl, rfl⟩ (Nat.le_refl _) (Nat.le_refl _) ?_
                      exact hk I7 hM7.2.1 g7
                    · refine r_ald0 f_R_operator_216 ?_
                      refine c_R_top f_R_operator_217 (s_95) (Nat.le_of_ble_eq_true rfl) (Nat.le_refl _) (Nat.le_refl _) ?_
                      refine k_R_top hM7 (by omega) ?_
                      · refine r_ic f_R_operator_220 ?_
                        refine r_ic_ne f_R_operator_222 (fun h222 => ?_) (fun h222 => ?_)
                        · refine r_ald0 f_R_operator_249 ?_
                          refine r_ic f_R_operator_250 ?_
                          refine r_pz f_R_operator_251 (s_95) (Or.inr rfl) ?_
                          refine r_ic f_R_operator_254 ?_
                          refine r_iret f_R_operator_255 ⟨_, rfl, rfl⟩ (Nat.le_refl _) (Nat.le_refl _) ?_
                          exact hk I7 hM7.2.1 g7
                        · refine absurd (show (pN t n = 60 ∧ W'.headD (-1) = 40) ∨ (pN t n = 63 ∧ W'.headD (-1) = 60) ∨ (pN t n = 58 ∧ W'.headD (-1) = 63) from ?_) h3
                          first
                            | exact Or.inl ⟨h183, h192⟩
                            | exact Or.inr (Or.inl ⟨h198, h207⟩)
                            | exact Or.inr (Or.inr ⟨h213, h222⟩)
                  · refine r_ald0 f_R_operator_201 ?_
                    refine c_R_top f_R_operator_202 (s_95) (Nat.le_of_ble_eq_true rfl) (Nat.le_refl _) (Nat.le_refl _) ?_
                    refine k_R_top hM7 (by omega) ?_
                    · refine r_ic f_R_operator_205 ?_
                      refine r_ic_eq f_R_operator_207 (fun h207 => ?_) (fun h207 => ?_)
                      · refine absurd (show (pN t n = 60 ∧ W'.headD (-1) = 40) ∨ (pN t n = 63 ∧ W'.headD (-1) = 60) ∨ (pN t n = 58 ∧ W'.headD (-1) = 63) from ?_) h3
                        first
                          | exact Or.inl ⟨h183, h192⟩
                          | exact Or.inr (Or.inl ⟨h198, h207⟩)
                          | exact Or.inr (Or.inr ⟨h213, h222⟩)
                      · refine r_ild1 f_R_operator_210 ?_
                        refine r_ic f_R_operator_211 ?_
                        refine r_ic_ne f_R_operator_213 (fun h213 => ?_) (fun h213 => ?_)
                        · refine r_ald0 f_R_operator_249 ?_
                          refine r_ic f_R_operator_250 ?_
                          refine r_pz f_R_operator_251 (s_95) (Or.inr rfl) ?_
                          refine r_ic f_R_operator_254 ?_
                          refine r_iret f_R_operator_255 ⟨_, rfl, rfl⟩ (Nat.le_refl _) (Nat.le_refl _) ?_
                          exact hk I7 hM7.2.1 g7
                        · refine r_ald0 f_R_operator_216 ?_
                          refine c_R_top f_R_operator_217 (s_95) (Nat.le_of_ble_eq_true rfl) (Nat.le_refl _) (Nat.le_refl _) ?_
                          refine k_R_top hM7 (by omega) ?_
                          · refine r_ic f_R_operator_220 ?_
                            refine r_ic_ne f_R_operator_222 (fun h222 => ?_) (fun h222 => ?_)
                            · refine r_ald0 f_R_operator_249 ?_
                              refine r_ic f_R_operator_250 ?_
                              refine r_pz f_R_operator_251 (s_95) (Or.inr rfl) ?_
                              refine r_ic f_R_operator_254 ?_
                              refine r_iret f_R_operator_255 ⟨_, rfl, rfl⟩ (Nat.le_refl _) (Nat.le_refl _) ?_
                              exact hk I7 hM7.2.1 g7
                            · refine absurd (show (pN t n = 60 ∧ W'.headD (-1) = 40) ∨ (pN t n = 63 ∧ W'.headD (-1) = 60) ∨ (pN t n = 58 ∧ W'.headD (-1) = 63) from ?_) h3
                              first
                                | exact Or.inl ⟨h183, h192⟩
                                | exact Or.inr (Or.inl ⟨h198, h207⟩)
                                | exact Or.inr (Or.inr ⟨h213, h222⟩)
          · refine absurd (show pN t n = 41 ∧ (W'.headD (-1) = 40 ∨ W'.headD (-1) = 58) from ⟨h108, ?_⟩) h2
            first
              | exact Or.inl h117
              | exact Or.inr h126
end L62
