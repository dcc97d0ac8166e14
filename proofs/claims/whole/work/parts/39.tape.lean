section L39
variable {G : Gx} {d : Nat} {I I' I2 : Rn} {L : Rl} {K : Kt} {σ : St} {t : List Int32}
def PI (t : List Int32) (I : Rn) (s : Ps) : Prop := I 81 2 = nI t.length ∧ (∀ (j : Nat) (x : Int32), t[j]? = some x → I 82 j = x) ∧ I 81 3 = nI s.1 ∧ I 83 3 = nI s.2.length ∧ ∀ (j : Nat) (x : Int32), s.2[j]? = some x → I 84 j = x
def FP : Nat → Nat → Prop := fun x y => (x = 81 ∧ y = 3) ∨ (x = 83 ∧ y = 3) ∨ x = 84
def bI (b : Bool) : Int32 := if b = true then 1 else 0
theorem bI_z (b : Bool) : bI b = 0 ∨ bI b = 1 := by cases b <;> decide
/-- the state is in bounds -/
def PB (t : List Int32) (s : Ps) : Prop := s.2.length ≤ s.1 ∧ s.1 ≤ t.length ∧ t.length ≤ 60
theorem PB.gr {s s' : Ps} (h : PB t s) (hg : p_gr t.length s s') : PB t s' := by
  unfold PB p_gr at *
  omega
theorem PI.adv {s : Ps} (h : PI t I s) : PI t (u2 I 81 3 (nI (s.1 + 1))) (s.1 + 1, s.2) := by
  obtain ⟨h1, h2, h3, h4, h5⟩ := h
  refine ⟨(u2_ne (Or.inr (by decide))).trans h1, fun j x hx => (u2_ne (Or.inl (by decide))).trans (h2 j x hx), u2_self, (u2_ne (Or.inl (by decide))).trans h4, fun j x hx => (u2_ne (Or.inl (by decide))).trans (h5 j x hx)⟩
theorem PI.app {s : Ps} {c : Int32} (h : PI t I s) : PI t (u2 (u2 I 84 s.2.length c) 83 3 (nI (s.2.length + 1))) (s.1, s.2 ++ [c]) := by
  obtain ⟨h1, h2, h3, h4, h5⟩ := h
  have e : ∀ x y, x ≠ 84 → x ≠ 83 → u2 (u2 I 84 s.2.length c) 83 3 (nI (s.2.length + 1)) x y = I x y := fun x y a1 a2 => (u2_ne (Or.inl a2)).trans (u2_ne (Or.inl a1))
  refine ⟨(e _ _ (by decide) (by decide)).trans h1, fun j x hx => (e _ _ (by decide) (by decide)).trans (h2 j x hx), (e _ _ (by decide) (by decide)).trans h3, ?_, fun j x hx => ?_⟩
  · rw [u2_self, List.length_append]
    rfl
  · rw [u2_ne (Or.inl (by decide))]
    by_cases ej : j = s.2.length
    · subst ej
      rw [List.getElem?_append_right (by omega), Nat.sub_self] at hx
      cases hx
      exact u2_self
    · have hl2 : j < s.2.length := by
        have := (List.getElem?_eq_some_iff.mp hx).1
        rw [List.length_append] at this
        have h1 : [c].length = 1 := rfl
        omega
      rw [List.getElem?_append_left hl2] at hx
      rw [u2_ne (Or.inr ej)]
      exact h5 j x hx
theorem k_P_isDigit {x : Int32} (y1 : 48 ≤ x ∧ x ≤ 57 → K (some (.int 1)) SH RF I L) (y0 : ¬ (48 ≤ x ∧ x ≤ 57) → K (some (.int 0)) SH RF I L) : WW G (d + 1) mt_P_isDigit 0 [some (.int x)] [] SH RF I L 0 0 0 0 K := by
  refine r_ild0 f_P_isDigit_0 ?_
  refine r_ic f_P_isDigit_1 ?_
  refine r_ic f_P_isDigit_3 ?_
  refine c_N_isWithin f_P_isDigit_5 (Nat.le_of_ble_eq_true rfl) (Nat.le_refl _) (Nat.le_refl _) ?_
  refine k_N_isWithin (fun ha hb => ?_) (fun h => ?_)
  · refine r_iret f_P_isDigit_8 ⟨_, rfl, rfl⟩ (Nat.le_refl _) (Nat.le_refl _) ?_
    first | exact y1 ⟨ha, hb⟩ | exact y0 h
  · refine r_iret f_P_isDigit_8 ⟨_, rfl, rfl⟩ (Nat.le_refl _) (Nat.le_refl _) ?_
    first | exact y1 ⟨ha, hb⟩ | exact y0 h
theorem k_P_next {s : Ps} (hP : PI t I s) (hB : PB t s) (hk : K (some (.int (pN t s.1))) SH RF I L) : WW G (d + 1) mt_P_next 0 [some (.ref 81)] [] SH RF I L 0 0 0 0 K := by
  refine r_ald0 f_P_next_0 ?_
  refine r_gi f_P_next_1 (s_81) ?_
  rw [hP.2.2.1]
  refine r_ic f_P_next_4 ?_
  refine r_ald0 f_P_next_5 ?_
  refine r_gi f_P_next_6 (s_81) ?_
  rw [hP.1]
  refine r_ic f_P_next_9 ?_
  refine r_isub f_P_next_10 ?_
  refine c_N_isWithin f_P_next_11 (Nat.le_of_ble_eq_true rfl) (Nat.le_refl _) (Nat.le_refl _) ?_
  obtain ⟨b1, b2, b3⟩ := hB
  refine k_N_isWithin (fun ha hb => ?_) (fun h => ?_)
  · obtain ⟨k, k1, k2⟩ := q_inC (c := t.length) (by omega) ha hb
    have ek : s.1 = k := (nI_eq (by omega) (by omega)).mp k2
    have hs : s.1 < t.length := by omega
    have hx : I 82 s.1 = pN t s.1 := by
      rw [hP.2.1 s.1 t[s.1] (List.getElem?_eq_getElem hs)]
      unfold pN
      rw [List.getElem?_eq_getElem hs]
      rfl
    refine r_if_eq f_P_next_14 (fun h => absurd h (by decide)) (fun _ => ?_)
    refine r_ald0 f_P_next_17 ?_
    refine r_gr f_P_next_18 (s_81) (r_81_0) ?_
    refine r_ald0 f_P_next_21 ?_
    refine r_gi f_P_next_22 (s_81) ?_
    rw [hP.2.2.1]
    refine r_iald f_P_next_25 (s_82) (q_ix.nI (show s.1 < 60 by omega) (by decide)) ?_
    rw [hx]
    refine r_goto f_P_next_26 ?_
    refine r_iret f_P_next_30 ⟨_, rfl, rfl⟩ (Nat.le_refl _) (Nat.le_refl _) ?_
    exact hk
  · have hs : t.length ≤ s.1 := Nat.le_of_not_lt (fun q => q_notC (c := t.length) (by omega) h s.1 q rfl)
    have hx : pN t s.1 = -1 := by
      unfold pN
      rw [List.getElem?_eq_none hs]
      rfl
    refine r_if_eq f_P_next_14 (fun _ => ?_) (fun h => absurd h (by decide))
    rw [hx] at hk
    refine r_ic f_P_next_29 ?_
    refine r_iret f_P_next_30 ⟨_, rfl, rfl⟩ (Nat.le_refl _) (Nat.le_refl _) ?_
    exact hk
theorem k_P_isNext {s : Ps} {x y : Int32} (hP : PI t I s) (hB : PB t s) (y1 : pN t s.1 = x ∨ pN t s.1 = y → K (some (.int 1)) SH RF I L) (y0 : ¬ (pN t s.1 = x ∨ pN t s.1 = y) → K (some (.int 0)) SH RF I L) : WW G (d + 2) mt_P_isNext 0 [some (.ref 81), some (.int x), some (.int y)] [] SH RF I L 0 0 0 0 K := by
  refine r_ald0 f_P_isNext_0 ?_
  refine c_P_next f_P_isNext_1 (s_81) (Nat.le_of_ble_eq_true rfl) (Nat.le_refl _) (Nat.le_refl _) ?_
  refine k_P_next hP hB ?_
  refine r_ild1 f_P_isNext_4 ?_
  refine r_ic_eq f_P_isNext_5 (fun h5 => ?_) (fun h5 => ?_)
  · refine r_ic f_P_isNext_16 ?_
    refine r_goto f_P_isNext_17 ?_
    refine r_iret f_P_isNext_21 ⟨_, rfl, rfl⟩ (Nat.le_refl _) (Nat.le_refl _) ?_
    first | exact y1 (Or.inl h5) | exact y1 (Or.inr h13) | exact y0 (fun q => q.elim h5 h13)
  · refine r_ald0 f_P_isNext_8 ?_
    refine c_P_next f_P_isNext_9 (s_81) (Nat.le_of_ble_eq_true rfl) (Nat.le_refl _) (Nat.le_refl _) ?_
    refine k_P_next hP hB ?_
    refine r_ild2 f_P_isNext_12 ?_
    refine r_ic_ne f_P_isNext_13 (fun h13 => ?_) (fun h13 => ?_)
    · refine r_ic f_P_isNext_20 ?_
      refine r_iret f_P_isNext_21 ⟨_, rfl, rfl⟩ (Nat.le_refl _) (Nat.le_refl _) ?_
      first | exact y1 (Or.inl h5) | exact y1 (Or.inr h13) | exact y0 (fun q => q.elim h5 h13)
    · refine r_ic f_P_isNext_16 ?_
      refine r_goto f_P_isNext_17 ?_
      refine r_iret f_P_isNext_21 ⟨_, rfl, rfl⟩ (Nat.le_refl _) (Nat.le_refl _) ?_
      first | exact y1 (Or.inl h5) | exact y1 (Or.inr h13) | exact y0 (fun q => q.elim h5 h13)
theorem k_P_passes {s : Ps} {x : Int32} (hP : PI t I s) (hB : PB t s) (hx : ¬ x = -1) (y1 : pN t s.1 = x → s.1 < t.length → ∀ I', PI t I' (s.1 + 1, s.2) → q_ag FP I I' → K (some (.int 1)) SH RF I' L) (y0 : ¬ pN t s.1 = x → K (some (.int 0)) SH RF I L) : WW G (d + 2) mt_P_passes 0 [some (.ref 81), some (.int x), none] [] SH RF I L 0 0 0 0 K := by
  refine r_ald0 f_P_passes_0 ?_
  refine c_P_next f_P_passes_1 (s_81) (Nat.le_of_ble_eq_true rfl) (Nat.le_refl _) (Nat.le_refl _) ?_
  refine k_P_next hP hB ?_
  refine r_ild1 f_P_passes_4 ?_
  refine r_ic_ne f_P_passes_5 (fun h5 => ?_) (fun h5 => ?_)
  · refine r_ic f_P_passes_12 ?_
    refine r_ist2 f_P_passes_13 rfl ?_
    refine r_ild2 f_P_passes_14 ?_
    refine r_if_eq f_P_passes_15 (fun _ => ?_) (fun h => absurd h (by decide))
    refine r_ild2 f_P_passes_28 ?_
    refine r_iret f_P_passes_29 ⟨_, rfl, rfl⟩ (Nat.le_refl _) (Nat.le_refl _) ?_
    first | exact y0 h5 | exact y1 h5 (pN_lt (fun q => hx (h5.symm.trans q))) _ (by rw [hP.2.2.1, nI_1]; exact hP.adv) (q_ag.rf.u2 (Or.inl ⟨rfl, rfl⟩))
  · refine r_ic f_P_passes_8 ?_
    refine r_goto f_P_passes_9 ?_
    refine r_ist2 f_P_passes_13 rfl ?_
    refine r_ild2 f_P_passes_14 ?_
    refine r_if_eq f_P_passes_15 (fun h => absurd h (by decide)) (fun _ => ?_)
    refine r_ald0 f_P_passes_18 ?_
    refine r_dupr f_P_passes_19 ?_
    refine r_gi f_P_passes_20 (s_81) ?_
    refine r_ic f_P_passes_23 ?_
    refine r_iadd f_P_passes_24 ?_
    refine r_pi f_P_passes_25 (s_81) ?_
    refine r_ild2 f_P_passes_28 ?_
    refine r_iret f_P_passes_29 ⟨_, rfl, rfl⟩ (Nat.le_refl _) (Nat.le_refl _) ?_
    first | exact y0 h5 | exact y1 h5 (pN_lt (fun q => hx (h5.symm.trans q))) _ (by rw [hP.2.2.1, nI_1]; exact hP.adv) (q_ag.rf.u2 (Or.inl ⟨rfl, rfl⟩))
theorem k_P_takeNumber_loop {s0 : Ps} (hlen : s0.2.length < 60) (hk : ∀ I', PI t I' ((p_num t 4 0 s0.1).2, s0.2 ++ [(p_num t 4 0 s0.1).1]) → q_ag FP I I' → K none SH RF I' L) : ∀ (m j : Nat) (v : Int32) (b : Nat) (I' : Rn), m + j = 4 → p_num t m v b = p_num t 4 0 s0.1 → PI t I' (b, s0.2) → PB t (b, s0.2) → q_ag FP I I' → WW G (d + 2) mt_P_takeNumber 4 [some (.ref 81), some (.int v), some (.int (nI j))] [] SH RF I' L 0 0 0 0 K
  | 0, j, v, b, I', h, hn, hP, hB, hg => by
    have ej : j = 4 := by omega
    subst ej
    refine r_ild2 f_P_takeNumber_4 ?_
    refine r_ic f_P_takeNumber_5 ?_
    refine r_ic_ge f_P_takeNumber_6 (fun h6 => ?_) (fun h6 => absurd h6 (fun q => q (by decide)))
    refine r_ald0 f_P_takeNumber_48 ?_
    refine r_gr f_P_takeNumber_49 (s_81) (r_81_1) ?_
    refine r_ild1 f_P_takeNumber_52 ?_
    refine c_T_append f_P_takeNumber_53 (sT q_TP) (Nat.le_of_ble_eq_true rfl) (Nat.le_refl _) (Nat.le_refl _) ?_
    refine k_T_append q_TP hP.2.2.2.1 hlen ?_
    refine r_ret f_P_takeNumber_56 rfl (Nat.le_refl _) (Nat.le_refl _) ?_
    rw [← hn] at hk
    exact hk _ hP.app (hg.tr ((q_ag.rf.u2 (Or.inr (Or.inr rfl))).u2 (Or.inr (Or.inl ⟨rfl, rfl⟩))))
  | m + 1, j, v, b, I', h, hn, hP, hB, hg => by
    refine r_ild2 f_P_takeNumber_4 ?_
    refine r_ic f_P_takeNumber_5 ?_
    refine r_ic_ge f_P_takeNumber_6 (fun h6 => absurd h6 (nI_ge (b := 4) (by omega) (by decide))) (fun h6 => ?_)
    refine r_ald0 f_P_takeNumber_9 ?_
    refine c_P_next f_P_takeNumber_10 (s_81) (Nat.le_of_ble_eq_true rfl) (Nat.le_refl _) (Nat.le_refl _) ?_
    refine k_P_next hP hB ?_
    refine c_P_isDigit f_P_takeNumber_13 (Nat.le_of_ble_eq_true rfl) (Nat.le_refl _) (Nat.le_refl _) ?_
    refine k_P_isDigit (fun hd => ?_) (fun hd => ?_)
    · rw [show p_num t (m + 1) v b = _ from if_pos hd] at hn
      have hb : b < t.length := pN_lt (fun q => by rw [q] at hd; exact absurd hd.1 (by decide))
      refine r_if_eq f_P_takeNumber_16 (fun h => absurd h (by decide)) (fun _ => ?_)
      refine r_ild1 f_P_takeNumber_19 ?_
      refine r_ic f_P_takeNumber_20 ?_
      refine r_imul f_P_takeNumber_22 ?_
      refine r_ald0 f_P_takeNumber_23 ?_
      refine c_P_next f_P_takeNumber_24 (s_81) (Nat.le_of_ble_eq_true rfl) (Nat.le_refl _) (Nat.le_refl _) ?_
      refine k_P_next hP hB ?_
      refine r_iadd f_P_takeNumber_27 ?_
      refine r_ic f_P_takeNumber_28 ?_
      refine r_isub f_P_takeNumber_30 ?_
      refine r_ist1 f_P_takeNumber_31 rfl ?_
      refine r_ald0 f_P_takeNumber_32 ?_
      refine r_dupr f_P_takeNumber_33 ?_
      refine r_gi f_P_takeNumber_34 (s_81) ?_
      rw [hP.2.2.1]
      refine r_ic f_P_takeNumber_37 ?_
      refine r_iadd f_P_takeNumber_38 ?_
      rw [nI_1]
      refine r_pi f_P_takeNumber_39 (s_81) ?_
      refine r_inc2 f_P_takeNumber_42 rfl ?_
      rw [nI_1]
      refine r_goto f_P_takeNumber_45 ?_
      refine k_P_takeNumber_loop hlen hk m (j + 1) _ (b + 1) _ (by omega) hn hP.adv ?_ (hg.tr (q_ag.rf.u2 (Or.inl ⟨rfl, rfl⟩)))
      obtain ⟨b1, b2, b3⟩ := hB
      exact ⟨Nat.le_succ_of_le b1, hb, b3⟩
    · rw [show p_num t (m + 1) v b = _ from if_neg hd] at hn
      refine r_if_eq f_P_takeNumber_16 (fun _ => ?_) (fun h => absurd h (by decide))
      refine r_ald0 f_P_takeNumber_48 ?_
      refine r_gr f_P_takeNumber_49 (s_81) (r_81_1) ?_
      refine r_ild1 f_P_takeNumber_52 ?_
      refine c_T_append f_P_takeNumber_53 (sT q_TP) (Nat.le_of_ble_eq_true rfl) (Nat.le_refl _) (Nat.le_refl _) ?_
      refine k_T_append q_TP hP.2.2.2.1 hlen ?_
      refine r_ret f_P_takeNumber_56 rfl (Nat.le_refl _) (Nat.le_refl _) ?_
      rw [← hn] at hk
      exact hk _ hP.app (hg.tr ((q_ag.rf.u2 (Or.inr (Or.inr rfl))).u2 (Or.inr (Or.inl ⟨rfl, rfl⟩))))
theorem k_P_takeNumber {s : Ps} (hP : PI t I s) (hB : PB t s) (hlen : s.2.length < 60) (hk : ∀ I', PI t I' ((p_num t 4 0 s.1).2, s.2 ++ [(p_num t 4 0 s.1).1]) → q_ag FP I I' → K none SH RF I' L) : WW G (d + 2) mt_P_takeNumber 0 [some (.ref 81), none, none] [] SH RF I L 0 0 0 0 K := by
  refine r_ic f_P_takeNumber_0 ?_
  refine r_ist1 f_P_takeNumber_1 rfl ?_
  refine r_ic f_P_takeNumber_2 ?_
  refine r_ist2 f_P_takeNumber_3 rfl ?_
  exact k_P_takeNumber_loop hlen hk 4 0 0 s.1 I rfl rfl hP hB q_ag.rf
/-- what a reading method does -/
def PC (t : List Int32) (K : Kt) (I : Rn) (L : Rl) (r : Bool × Ps) : Prop := ∀ I', PI t I' r.2 → q_ag FP I I' → K (some (.int (bI r.1))) SH RF I' L
theorem k_P_isProduct_loop {f : Ps → Bool × Ps} {p : Nat} (hf : p_Gr t f) (hF : ∀ (I : Rn) (K : Kt) (s : Ps), PI t I s → PB t s → PC t K I L (f s) → WW G d mt_P_isFactor 0 [some (.ref 81), some (.int (nI p)), none] [] SH RF I L 0 0 0 0 K) {R : Bool × Ps} (hk : PC t K I L R) : ∀ (m j : Nat) (b : Bool) (s : Ps) (I' : Rn), m + j = 60 → p_loop t 42 47 f m (b, s) = R → PI t I' s → PB t s → q_ag FP I I' → WW G (d + 3) mt_P_isProduct 8 [some (.ref 81), some (.int (nI p)), some (.int (bI b)), some (.int (nI j)), none] [] SH RF I' L 0 0 0 0 K
  | 0, j, b, s, I', h, hR, hP, hB, hg => by
    have ej : j = 60 := by omega
    subst ej
    rw [← hR] at hk
    refine r_ild3 f_P_isProduct_8 ?_
    refine r_ic f_P_isProduct_9 ?_
    refine r_ic_ge f_P_isProduct_11 (fun h11 => ?_) (fun h11 => absurd h11 (fun q => q (by decide)))
    refine r_ild2 f_P_isProduct_67 ?_
    refine r_iret f_P_isProduct_68 (q_narz rfl (bI_z b)) (Nat.le_refl _) (Nat.le_refl _) ?_
    exact hk I' hP hg
  | m + 1, j, false, s, I', h, hR, hP, hB, hg => by
    rw [show p_loop t 42 47 f (m + 1) (false, s) = (false, s) from if_neg (fun q => by cases q.1)] at hR
    rw [← hR] at hk
    rw [show bI false = 0 from rfl]
    refine r_ild3 f_P_isProduct_8 ?_
    refine r_ic f_P_isProduct_9 ?_
    refine r_ic_ge f_P_isProduct_11 (fun h11 => absurd h11 (nI_ge (b := 60) (by omega) (by decide))) (fun h11 => ?_)
    refine r_ild2 f_P_isProduct_14 ?_
    refine r_if_eq f_P_isProduct_15 (fun _ => ?_) (fun h => absurd h (by decide))
    refine r_ild2 f_P_isProduct_67 ?_
    refine r_iret f_P_isProduct_68 ⟨_, rfl, rfl⟩ (Nat.le_refl _) (Nat.le_refl _) ?_
    exact hk I' hP hg
  | m + 1, j, true, s, I', h, hR, hP, hB, hg => by
    rw [show bI true = 1 from rfl]
    refine r_ild3 f_P_isProduct_8 ?_
    refine r_ic f_P_isProduct_9 ?_
    refine r_ic_ge f_P_isProduct_11 (fun h11 => absurd h11 (nI_ge (b := 60) (by omega) (by decide))) (fun h11 => ?_)
    refine r_ild2 f_P_isProduct_14 ?_
    refine r_if_eq f_P_isProduct_15 (fun h => absurd h (by decide)) (fun _ => ?_)
    refine r_ald0 f_P_isProduct_18 ?_
    refine r_ic f_P_isProduct_19 ?_
    refine r_ic f_P_isProduct_21 ?_
    refine c_P_isNext f_P_isProduct_23 (s_81) (Nat.le_of_ble_eq_true rfl) (Nat.le_refl _) (Nat.le_refl _) ?_
    refine k_P_isNext hP hB (fun hn => ?_) (fun hn => ?_)
    · rw [show p_loop t 42 47 f (m + 1) (true, s) = _ from if_pos ⟨rfl, hn⟩] at hR
      have hs : s.1 < t.length := pN_lt (fun q => by rw [q] at hn; exact hn.elim (fun w => absurd w (by decide)) (fun w => absurd w (by decide)))
      have hB1 : PB t (s.1 + 1, s.2) := ⟨Nat.le_succ_of_le hB.1, hs, hB.2.2⟩
      refine r_if_eq f_P_isProduct_26 (fun h => absurd h (by decide)) (fun _ => ?_)
      refine r_ald0 f_P_isProduct_29 ?_
      refine c_P_next f_P_isProduct_30 (s_81) (Nat.le_of_ble_eq_true rfl) (Nat.le_refl _) (Nat.le_refl _) ?_
      refine k_P_next hP hB ?_
      refine r_ist4 f_P_isProduct_33 rfl ?_
      refine r_ald0 f_P_isProduct_35 ?_
      refine r_dupr f_P_isProduct_36 ?_
      refine r_gi f_P_isProduct_37 (s_81) ?_
      rw [hP.2.2.1]
      refine r_ic f_P_isProduct_40 ?_
      refine r_iadd f_P_isProduct_41 ?_
      rw [nI_1]
      refine r_pi f_P_isProduct_42 (s_81) ?_
      refine r_ald0 f_P_isProduct_45 ?_
      refine r_ild1 f_P_isProduct_46 ?_
      refine c_P_isFactor f_P_isProduct_47 (s_81) (Nat.le_of_ble_eq_true rfl) (Nat.le_refl _) (Nat.le_refl _) ?_
      refine (hF _ _ _ (hP.adv) hB1 (fun I2 hP2 hg2 => ?_)).up (by omega)
      refine r_ist2 f_P_isProduct_50 rfl ?_
      refine r_ald0 f_P_isProduct_51 ?_
      refine r_gr f_P_isProduct_52 (s_81) (r_81_1) ?_
      refine r_ild4 f_P_isProduct_55 ?_
      refine r_ineg f_P_isProduct_57 ?_
      refine c_T_append f_P_isProduct_58 (sT q_TP) (Nat.le_of_ble_eq_true rfl) (Nat.le_refl _) (Nat.le_refl _) ?_
      have hgr := hf (s.1 + 1, s.2) hs
      have hl : (f (s.1 + 1, s.2)).2.2.length < 60 := by
        unfold p_gr at hgr
        obtain ⟨b1, b2, b3⟩ := hB
        dsimp only at hgr
        omega
      refine k_T_append q_TP hP2.2.2.2.1 hl ?_
      refine r_inc3 f_P_isProduct_61 rfl ?_
      rw [nI_1]
      refine r_goto f_P_isProduct_64 ?_
      refine r_drop4 ?_
      refine k_P_isProduct_loop hf hF hk m (j + 1) (f (s.1 + 1, s.2)).1 ((f (s.1 + 1, s.2)).2.1, (f (s.1 + 1, s.2)).2.2 ++ [-(pN t s.1)]) _ (by omega) hR hP2.app ?_ ((hg.tr (q_ag.rf.u2 (Or.inl ⟨rfl, rfl⟩))).tr (hg2.tr ((q_ag.rf.u2 (Or.inr (Or.inr rfl))).u2 (Or.inr (Or.inl ⟨rfl, rfl⟩)))))
      exact hB.gr (p_gr.ad hgr)
    · rw [show p_loop t 42 47 f (m + 1) (true, s) = _ from if_neg (fun q => hn q.2)] at hR
      rw [← hR] at hk
      refine r_if_eq f_P_isProduct_26 (fun _ => ?_) (fun h => absurd h (by decide))
      refine r_ild2 f_P_isProduct_67 ?_
      refine r_iret f_P_isProduct_68 ⟨_, rfl, rfl⟩ (Nat.le_refl _) (Nat.le_refl _) ?_
      exact hk I' hP hg
theorem k_P_isProduct {f : Ps → Bool × Ps} {p : Nat} (hf : p_Gr t f) (hF : ∀ (I : Rn) (K : Kt) (s : Ps), PI t I s → PB t s → PC t K I L (f s) → WW G d mt_P_isFactor 0 [some (.ref 81), some (.int (nI p)), none] [] SH RF I L 0 0 0 0 K) : ∀ (I : Rn) (K : Kt) (s : Ps), PI t I s → PB t s → PC t K I L (p_prod t f s) → WW G (d + 3) mt_P_isProduct 0 [some (.ref 81), some (.int (nI p)), none, none, none] [] SH RF I L 0 0 0 0 K := by
  intro I K s hP hB hk
  refine r_ald0 f_P_isProduct_0 ?_
  refine r_ild1 f_P_isProduct_1 ?_
  refine c_P_isFactor f_P_isProduct_2 (s_81) (Nat.le_of_ble_eq_true rfl) (Nat.le_refl _) (Nat.le_refl _) ?_
  refine (hF _ _ _ hP hB (fun I2 hP2 hg2 => ?_)).up (by omega)
  refine r_ist2 f_P_isProduct_5 rfl ?_
  refine r_ic f_P_isProduct_6 ?_
  refine r_ist3 f_P_isProduct_7 rfl ?_
  exact k_P_isProduct_loop (I := I) hf hF hk 60 0 (f s).1 (f s).2 I2 rfl rfl hP2 (hB.gr (hf s hB.2.1)) hg2
theorem k_P_isSum_loop {f : Ps → Bool × Ps} {p : Nat} (hf : p_Gr t f) (hF : ∀ (I : Rn) (K : Kt) (s : Ps), PI t I s → PB t s → PC t K I L (f s) → WW G d mt_P_isProduct 0 [some (.ref 81), some (.int (nI p)), none, none, none] [] SH RF I L 0 0 0 0 K) {R : Bool × Ps} (hk : PC t K I L R) : ∀ (m j : Nat) (b : Bool) (s : Ps) (I' : Rn), m + j = 60 → p_loop t 43 45 f m (b, s) = R → PI t I' s → PB t s → q_ag FP I I' → WW G (d + 3) mt_P_isSum 8 [some (.ref 81), some (.int (nI p)), some (.int (bI b)), some (.int (nI j)), none] [] SH RF I' L 0 0 0 0 K
  | 0, j, b, s, I', h, hR, hP, hB, hg => by
    have ej : j = 60 := by omega
    subst ej
    rw [← hR] at hk
    refine r_ild3 f_P_isSum_8 ?_
    refine r_ic f_P_isSum_9 ?_
    refine r_ic_ge f_P_isSum_11 (fun h11 => ?_) (fun h11 => absurd h11 (fun q => q (by decide)))
    refine r_ild2 f_P_isSum_67 ?_
    refine r_iret f_P_isSum_68 (q_narz rfl (bI_z b)) (Nat.le_refl _) (Nat.le_refl _) ?_
    exact hk I' hP hg
  | m + 1, j, false, s, I', h, hR, hP, hB, hg => by
    rw [show p_loop t 43 45 f (m + 1) (false, s) = (false, s) from if_neg (fun q => by cases q.1)] at hR
    rw [← hR] at hk
    rw [show bI false = 0 from rfl]
    refine r_ild3 f_P_isSum_8 ?_
    refine r_ic f_P_isSum_9 ?_
    refine r_ic_ge f_P_isSum_11 (fun h11 => absurd h11 (nI_ge (b := 60) (by omega) (by decide))) (fun h11 => ?_)
    refine r_ild2 f_P_isSum_14 ?_
    refine r_if_eq f_P_isSum_15 (fun _ => ?_) (fun h => absurd h (by decide))
    refine r_ild2 f_P_isSum_67 ?_
    refine r_iret f_P_isSum_68 ⟨_, rfl, rfl⟩ (Nat.le_refl _) (Nat.le_refl _) ?_
    exact hk I' hP hg
  | m + 1, j, true, s, I', h, hR, hP, hB, hg => by
    rw [show bI true = 1 from rfl]
    refine r_ild3 f_P_isSum_8 ?_
    refine r_ic f_P_isSum_9 ?_
    refine r_ic_ge f_P_isSum_11 (fun h11 => absurd h11 (nI_ge (b := 60) (by omega) (by decide))) (fun h11 => ?_)
    refine r_ild2 f_P_isSum_14 ?_
    refine r_if_eq f_P_isSum_15 (fun h => absurd h (by decide)) (fun _ => ?_)
    refine r_ald0 f_P_isSum_18 ?_
    refine r_ic f_P_isSum_19 ?_
    refine r_ic f_P_isSum_21 ?_
    refine c_P_isNext f_P_isSum_23 (s_81) (Nat.le_of_ble_eq_true rfl) (Nat.le_refl _) (Nat.le_refl _) ?_
    refine k_P_isNext hP hB (fun hn => ?_) (fun hn => ?_)
    · rw [show p_loop t 43 45 f (m + 1) (true, s) = _ from if_pos ⟨rfl, hn⟩] at hR
      have hs : s.1 < t.length := pN_lt (fun q => by rw [q] at hn; exact hn.elim (fun w => absurd w (by decide)) (fun w => absurd w (by decide)))
      have hB1 : PB t (s.1 + 1, s.2) := ⟨Nat.le_succ_of_le hB.1, hs, hB.2.2⟩
      refine r_if_eq f_P_isSum_26 (fun h => absurd h (by decide)) (fun _ => ?_)
      refine r_ald0 f_P_isSum_29 ?_
      refine c_P_next f_P_isSum_30 (s_81) (Nat.le_of_ble_eq_true rfl) (Nat.le_refl _) (Nat.le_refl _) ?_
      refine k_P_next hP hB ?_
      refine r_ist4 f_P_isSum_33 rfl ?_
      refine r_ald0 f_P_isSum_35 ?_
      refine r_dupr f_P_isSum_36 ?_
      refine r_gi f_P_isSum_37 (s_81) ?_
      rw [hP.2.2.1]
      refine r_ic f_P_isSum_40 ?_
      refine r_iadd f_P_isSum_41 ?_
      rw [nI_1]
      refine r_pi f_P_isSum_42 (s_81) ?_
      refine r_ald0 f_P_isSum_45 ?_
      refine r_ild1 f_P_isSum_46 ?_
      refine c_P_isProduct f_P_isSum_47 (s_81) (Nat.le_of_ble_eq_true rfl) (Nat.le_refl _) (Nat.le_refl _) ?_
      refine (hF _ _ _ (hP.adv) hB1 (fun I2 hP2 hg2 => ?_)).up (by omega)
      refine r_ist2 f_P_isSum_50 rfl ?_
      refine r_ald0 f_P_isSum_51 ?_
      refine r_gr f_P_isSum_52 (s_81) (r_81_1) ?_
      refine r_ild4 f_P_isSum_55 ?_
      refine r_ineg f_P_isSum_57 ?_
      refine c_T_append f_P_isSum_58 (sT q_TP) (Nat.le_of_ble_eq_true rfl) (Nat.le_refl _) (Nat.le_refl _) ?_
      have hgr := hf (s.1 + 1, s.2) hs
      have hl : (f (s.1 + 1, s.2)).2.2.length < 60 := by
        unfold p_gr at hgr
        obtain ⟨b1, b2, b3⟩ := hB
        dsimp only at hgr
        omega
      refine k_T_append q_TP hP2.2.2.2.1 hl ?_
      refine r_inc3 f_P_isSum_61 rfl ?_
      rw [nI_1]
      refine r_goto f_P_isSum_64 ?_
      refine r_drop4 ?_
      refine k_P_isSum_loop hf hF hk m (j + 1) (f (s.1 + 1, s.2)).1 ((f (s.1 + 1, s.2)).2.1, (f (s.1 + 1, s.2)).2.2 ++ [-(pN t s.1)]) _ (by omega) hR hP2.app ?_ ((hg.tr (q_ag.rf.u2 (Or.inl ⟨rfl, rfl⟩))).tr (hg2.tr ((q_ag.rf.u2 (Or.inr (Or.inr rfl))).u2 (Or.inr (Or.inl ⟨rfl, rfl⟩)))))
      exact hB.gr (p_gr.ad hgr)
    · rw [show p_loop t 43 45 f (m + 1) (true, s) = _ from if_neg (fun q => hn q.2)] at hR
      rw [← hR] at hk
      refine r_if_eq f_P_isSum_26 (fun _ => ?_) (fun h => absurd h (by decide))
      refine r_ild2 f_P_isSum_67 ?_
      refine r_iret f_P_isSum_68 ⟨_, rfl, rfl⟩ (Nat.le_refl _) (Nat.le_refl _) ?_
      exact hk I' hP hg
theorem k_P_isSum {f : Ps → Bool × Ps} {p : Nat} (hf : p_Gr t f) (hF : ∀ (I : Rn) (K : Kt) (s : Ps), PI t I s → PB t s → PC t K I L (f s) → WW G d mt_P_isProduct 0 [some (.ref 81), some (.int (nI p)), none, none, none] [] SH RF I L 0 0 0 0 K) : ∀ (I : Rn) (K : Kt) (s : Ps), PI t I s → PB t s → PC t K I L ((fun s => p_loop t 43 45 f 60 (f s)) s) → WW G (d + 3) mt_P_isSum 0 [some (.ref 81), some (.int (nI p)), none, none, none] [] SH RF I L 0 0 0 0 K := by
  intro I K s hP hB hk
  refine r_ald0 f_P_isSum_0 ?_
  refine r_ild1 f_P_isSum_1 ?_
  refine c_P_isProduct f_P_isSum_2 (s_81) (Nat.le_of_ble_eq_true rfl) (Nat.le_refl _) (Nat.le_refl _) ?_
  refine (hF _ _ _ hP hB (fun I2 hP2 hg2 => ?_)).up (by omega)
  refine r_ist2 f_P_isSum_5 rfl ?_
  refine r_ic f_P_isSum_6 ?_
  refine r_ist3 f_P_isSum_7 rfl ?_
  exact k_P_isSum_loop (I := I) hf hF hk 60 0 (f s).1 (f s).2 I2 rfl rfl hP2 (hB.gr (hf s hB.2.1)) hg2
theorem p_chain_n {g : Ps → Bool × Ps} {x : Int32} {xs : List Int32} {s : Ps} (h : ¬ pN t s.1 = x) : p_chain t g (x :: xs) s = (false, s) := if_neg h
theorem p_chain_f {g : Ps → Bool × Ps} {x : Int32} {xs : List Int32} {s : Ps} (h : pN t s.1 = x) (h2 : (g (s.1 + 1, s.2)).1 = false) : p_chain t g (x :: xs) s = g (s.1 + 1, s.2) := (if_pos h).trans (if_neg (by rw [h2]; decide))
theorem p_chain_t {g : Ps → Bool × Ps} {x : Int32} {xs : List Int32} {s : Ps} (h : pN t s.1 = x) (h2 : (g (s.1 + 1, s.2)).1 = true) : p_chain t g (x :: xs) s = p_chain t g xs (g (s.1 + 1, s.2)).2 := (if_pos h).trans (if_pos h2)
theorem p_chain_0n {g : Ps → Bool × Ps} {s : Ps} (h : ¬ pN t s.1 = 41) : p_chain t g [] s = (false, s) := if_neg h
theorem p_chain_0y {g : Ps → Bool × Ps} {s : Ps} (h : pN t s.1 = 41) : p_chain t g [] s = (true, s.1 + 1, s.2) := if_pos h
theorem p_br_f {g : Ps → Bool × Ps} {s : Ps} (h : (g s).1 = false) : p_br t g s = g s := if_neg (by rw [h]; decide)
theorem p_br_y {g : Ps → Bool × Ps} {s : Ps} (h : (g s).1 = true) (h2 : pN t (g s).2.1 = 41) : p_br t g s = (true, (g s).2.1 + 1, (g s).2.2) := (if_pos h).trans (if_pos h2)
theorem p_br_n {g : Ps → Bool × Ps} {s : Ps} (h : (g s).1 = true) (h2 : ¬ pN t (g s).2.1 = 41) : p_br t g s = p_add (-63) (p_chain t g [60, 63, 58] (g s).2) := (if_pos h).trans (if_neg h2)
theorem p_leaf_d {s : Ps} {e : Bool × Ps} (h : 48 ≤ pN t s.1 ∧ pN t s.1 ≤ 57) : p_leaf t s e = (true, (p_num t 4 0 s.1).2, s.2 ++ [(p_num t 4 0 s.1).1]) := if_pos h
theorem p_leaf_n {s : Ps} {e : Bool × Ps} (h : ¬ (48 ≤ pN t s.1 ∧ pN t s.1 ≤ 57)) (h2 : p_nam (pN t s.1)) : p_leaf t s e = (true, s.1 + 1, s.2 ++ [-(pN t s.1)]) := (if_neg h).trans (if_pos h2)
theorem p_leaf_e {s : Ps} {e : Bool × Ps} (h : ¬ (48 ≤ pN t s.1 ∧ pN t s.1 ≤ 57)) (h2 : ¬ p_nam (pN t s.1)) : p_leaf t s e = e := (if_neg h).trans (if_neg h2)
theorem PC.z {r : Bool × Ps} (h : PC t K I L r) {s : Ps} {b : Bool} (e : r = (b, s)) (hP : PI t I' s) (hg : q_ag FP I I') : K (some (.int (bI b))) SH RF I' L := by
  subst e
  exact h I' hP hg
theorem k_br_tail {p : Nat} {b : Bool} {s : Ps} {r : Bool × Ps} (hk : PC t K I L (p_add (-63) r)) (er : r = (b, s)) (hP : PI t I' s) (hg : q_ag FP I I') (hl : s.2.length < 60) : WW G (d + 1) mt_P_isBracket 87 [some (.ref 81), some (.int (nI p)), some (.int (bI b))] [] SH RF I' L 0 0 0 0 K := by
  subst er
  refine r_ald0 f_P_isBracket_87 ?_
  refine r_gr f_P_isBracket_88 (s_81) (r_81_1) ?_
  refine r_ic f_P_isBracket_91 ?_
  refine c_T_append f_P_isBracket_93 (sT q_TP) (Nat.le_of_ble_eq_true rfl) (Nat.le_refl _) (Nat.le_refl _) ?_
  refine k_T_append q_TP hP.2.2.2.1 hl ?_
  refine r_ild2 f_P_isBracket_96 ?_
  refine r_iret f_P_isBracket_97 (q_narz rfl (bI_z b)) (Nat.le_refl _) (Nat.le_refl _) ?_
  exact hk.z rfl hP.app (hg.tr ((q_ag.rf.u2 (Or.inr (Or.inr rfl))).u2 (Or.inr (Or.inl ⟨rfl, rfl⟩))))
theorem p_ltl {s s' : Ps} (hB : PB t s) (hst : s.2.length < s.1) (h : p_gr t.length s s') : s'.2.length < 60 := by
  unfold p_gr PB at *
  omega
theorem k_P_isBracket {g : Ps → Bool × Ps} {p : Nat} (hg : p_Gr t g) (hG : ∀ (I : Rn) (K : Kt) (s : Ps), PI t I s → PB t s → PC t K I L (g s) → WW G d mt_P_isSum 0 [some (.ref 81), some (.int (nI p)), none, none, none] [] SH RF I L 0 0 0 0 K) : ∀ (I : Rn) (K : Kt) (s : Ps), PI t I s → PB t s → s.2.length < s.1 → PC t K I L (p_br t g s) → WW G (d + 3) mt_P_isBracket 0 [some (.ref 81), some (.int (nI p)), none] [] SH RF I L 0 0 0 0 K := by
  intro I K s hP hB hst hk
  refine r_ald0 f_P_isBracket_0 ?_
  refine r_ild1 f_P_isBracket_1 ?_
  refine c_P_isSum f_P_isBracket_2 (s_81) (Nat.le_of_ble_eq_true rfl) (Nat.le_refl _) (Nat.le_refl _) ?_
  refine (hG _ _ _ hP hB (fun I2 hP2 hg2 => ?_)).up (by omega)
  have gr2 := hg s hB.2.1
  have hB2 := hB.gr gr2
  cases hb2 : (g s).1
  · rw [show bI false = 0 from rfl]
    refine r_if_ne f_P_isBracket_5 (fun h => absurd h (by decide)) (fun _ => ?_)
    refine r_ic f_P_isBracket_8 ?_
    refine r_iret f_P_isBracket_9 ⟨_, rfl, rfl⟩ (Nat.le_refl _) (Nat.le_refl _) ?_
    exact hk.z (p_br_f hb2 |>.trans (Prod.ext hb2 rfl)) hP2 hg2
  · rw [show bI true = 1 from rfl]
    refine r_if_ne f_P_isBracket_5 (fun _ => ?_) (fun h => absurd h (by decide))
    refine r_ald0 f_P_isBracket_10 ?_
    refine r_ic f_P_isBracket_11 ?_
    refine c_P_passes f_P_isBracket_13 (s_81) (Nat.le_of_ble_eq_true rfl) (Nat.le_refl _) (Nat.le_refl _) ?_
    refine k_P_passes hP2 hB2 (by decide) (fun hc41 hlt I3 hP3 hg3 => ?_) (fun hc41 => ?_)
    · refine r_if_eq f_P_isBracket_16 (fun h => absurd h (by decide)) (fun _ => ?_)
      refine r_ic f_P_isBracket_19 ?_
      refine r_iret f_P_isBracket_20 ⟨_, rfl, rfl⟩ (Nat.le_refl _) (Nat.le_refl _) ?_
      exact hk.z (p_br_y hb2 hc41) hP3 (hg2.tr hg3)
    · rw [p_br_n hb2 hc41] at hk
      refine r_if_eq f_P_isBracket_16 (fun _ => ?_) (fun h => absurd h (by decide))
      refine r_ald0 f_P_isBracket_21 ?_
      refine r_ic f_P_isBracket_22 ?_
      refine c_P_passes f_P_isBracket_24 (s_81) (Nat.le_of_ble_eq_true rfl) (Nat.le_refl _) (Nat.le_refl _) ?_
      refine k_P_passes hP2 hB2 (by decide) (fun hc24 hlt24 I3 hP3 hg3 => ?_) (fun hc24 => ?_)
      · have hB3 : PB t ((g s).2.1 + 1, (g s).2.2) := ⟨Nat.le_succ_of_le hB2.1, hlt24, hB2.2.2⟩
        refine r_if_eq f_P_isBracket_27 (fun h => absurd h (by decide)) (fun _ => ?_)
        refine r_ald0 f_P_isBracket_30 ?_
        refine r_ild1 f_P_isBracket_31 ?_
        refine c_P_isSum f_P_isBracket_32 (s_81) (Nat.le_of_ble_eq_true rfl) (Nat.le_refl _) (Nat.le_refl _) ?_
        refine (hG _ _ _ hP3 hB3 (fun I4 hP4 hg4 => ?_)).up (by omega)
        have gr4 := (p_gr.one hlt24).tr (hg ((g s).2.1 + 1, (g s).2.2) hlt24)
        have hB4 := hB2.gr gr4
        cases hb4 : (g ((g s).2.1 + 1, (g s).2.2)).1
        · rw [show bI false = 0 from rfl]
          rw [p_chain_f hc24 hb4] at hk
          refine r_if_eq f_P_isBracket_35 (fun _ => ?_) (fun h => absurd h (by decide))
          refine r_ic f_P_isBracket_85 ?_
          refine r_ist2 f_P_isBracket_86 rfl ?_
          exact (k_br_tail (d := 0) (b := false) hk (Prod.ext hb4 rfl) hP4 ((hg2.tr hg3).tr hg4) (p_ltl hB hst (gr2.tr gr4))).up (by omega)
        · rw [show bI true = 1 from rfl]
          rw [p_chain_t hc24 hb4] at hk
          refine r_if_eq f_P_isBracket_35 (fun h => absurd h (by decide)) (fun _ => ?_)
          refine r_ald0 f_P_isBracket_38 ?_
          refine r_ic f_P_isBracket_39 ?_
          refine c_P_passes f_P_isBracket_41 (s_81) (Nat.le_of_ble_eq_true rfl) (Nat.le_refl _) (Nat.le_refl _) ?_
          refine k_P_passes hP4 hB4 (by decide) (fun hc41 hlt41 I5 hP5 hg5 => ?_) (fun hc41 => ?_)
          · have hB5 : PB t ((g ((g s).2.1 + 1, (g s).2.2)).2.1 + 1, (g ((g s).2.1 + 1, (g s).2.2)).2.2) := ⟨Nat.le_succ_of_le hB4.1, hlt41, hB4.2.2⟩
            refine r_if_eq f_P_isBracket_44 (fun h => absurd h (by decide)) (fun _ => ?_)
            refine r_ald0 f_P_isBracket_47 ?_
            refine r_ild1 f_P_isBracket_48 ?_
            refine c_P_isSum f_P_isBracket_49 (s_81) (Nat.le_of_ble_eq_true rfl) (Nat.le_refl _) (Nat.le_refl _) ?_
            refine (hG _ _ _ hP5 hB5 (fun I6 hP6 hg6 => ?_)).up (by omega)
            have gr6 := (p_gr.one hlt41).tr (hg ((g ((g s).2.1 + 1, (g s).2.2)).2.1 + 1, (g ((g s).2.1 + 1, (g s).2.2)).2.2) hlt41)
            have hB6 := hB4.gr gr6
            cases hb6 : (g ((g ((g s).2.1 + 1, (g s).2.2)).2.1 + 1, (g ((g s).2.1 + 1, (g s).2.2)).2.2)).1
            · rw [show bI false = 0 from rfl]
              rw [p_chain_f hc41 hb6] at hk
              refine r_if_eq f_P_isBracket_52 (fun _ => ?_) (fun h => absurd h (by decide))
              refine r_ic f_P_isBracket_85 ?_
              refine r_ist2 f_P_isBracket_86 rfl ?_
              exact (k_br_tail (d := 0) (b := false) hk (Prod.ext hb6 rfl) hP6 ((((hg2.tr hg3).tr hg4).tr hg5).tr hg6) (p_ltl hB hst ((gr2.tr gr4).tr gr6))).up (by omega)
            · rw [show bI true = 1 from rfl]
              rw [p_chain_t hc41 hb6] at hk
              refine r_if_eq f_P_isBracket_52 (fun h => absurd h (by decide)) (fun _ => ?_)
              refine r_ald0 f_P_isBracket_55 ?_
              refine r_ic f_P_isBracket_56 ?_
              refine c_P_passes f_P_isBracket_58 (s_81) (Nat.le_of_ble_eq_true rfl) (Nat.le_refl _) (Nat.le_refl _) ?_
              refine k_P_passes hP6 hB6 (by decide) (fun hc58 hlt58 I7 hP7 hg7 => ?_) (fun hc58 => ?_)
              · have hB7 : PB t ((g ((g ((g s).2.1 + 1, (g s).2.2)).2.1 + 1, (g ((g s).2.1 + 1, (g s).2.2)).2.2)).2.1 + 1, (g ((g ((g s).2.1 + 1, (g s).2.2)).2.1 + 1, (g ((g s).2.1 + 1, (g s).2.2)).2.2)).2.2) := ⟨Nat.le_succ_of_le hB6.1, hlt58, hB6.2.2⟩
                refine r_if_eq f_P_isBracket_61 (fun h => absurd h (by decide)) (fun _ => ?_)
                refine r_ald0 f_P_isBracket_64 ?_
                refine r_ild1 f_P_isBracket_65 ?_
                refine c_P_isSum f_P_isBracket_66 (s_81) (Nat.le_of_ble_eq_true rfl) (Nat.le_refl _) (Nat.le_refl _) ?_
                refine (hG _ _ _ hP7 hB7 (fun I8 hP8 hg8 => ?_)).up (by omega)
                have gr8 := (p_gr.one hlt58).tr (hg ((g ((g ((g s).2.1 + 1, (g s).2.2)).2.1 + 1, (g ((g s).2.1 + 1, (g s).2.2)).2.2)).2.1 + 1, (g ((g ((g s).2.1 + 1, (g s).2.2)).2.1 + 1, (g ((g s).2.1 + 1, (g s).2.2)).2.2)).2.2) hlt58)
                have hB8 := hB6.gr gr8
                cases hb8 : (g ((g ((g ((g s).2.1 + 1, (g s).2.2)).2.1 + 1, (g ((g s).2.1 + 1, (g s).2.2)).2.2)).2.1 + 1, (g ((g ((g s).2.1 + 1, (g s).2.2)).2.1 + 1, (g ((g s).2.1 + 1, (g s).2.2)).2.2)).2.2)).1
                · rw [show bI false = 0 from rfl]
                  rw [p_chain_f hc58 hb8] at hk
                  refine r_if_eq f_P_isBracket_69 (fun _ => ?_) (fun h => absurd h (by decide))
                  refine r_ic f_P_isBracket_85 ?_
                  refine r_ist2 f_P_isBracket_86 rfl ?_
                  exact (k_br_tail (d := 0) (b := false) hk (Prod.ext hb8 rfl) hP8 ((((((hg2.tr hg3).tr hg4).tr hg5).tr hg6).tr hg7).tr hg8) (p_ltl hB hst (((gr2.tr gr4).tr gr6).tr gr8))).up (by omega)
                · rw [show bI true = 1 from rfl]
                  rw [p_chain_t hc58 hb8] at hk
                  refine r_if_eq f_P_isBracket_69 (fun h => absurd h (by decide)) (fun _ => ?_)
                  refine r_ald0 f_P_isBracket_72 ?_
                  refine r_ic f_P_isBracket_73 ?_
                  refine c_P_passes f_P_isBracket_75 (s_81) (Nat.le_of_ble_eq_true rfl) (Nat.le_refl _) (Nat.le_refl _) ?_
                  refine k_P_passes hP8 hB8 (by decide) (fun hc75 hlt75 I9 hP9 hg9 => ?_) (fun hc75 => ?_)
                  · rw [p_chain_0y hc75] at hk
                    refine r_if_eq f_P_isBracket_78 (fun h => absurd h (by decide)) (fun _ => ?_)
                    refine r_ic f_P_isBracket_81 ?_
                    refine r_goto f_P_isBracket_82 ?_
                    refine r_ist2 f_P_isBracket_86 rfl ?_
                    exact (k_br_tail (d := 0) (b := true) hk rfl hP9 (((((((hg2.tr hg3).tr hg4).tr hg5).tr hg6).tr hg7).tr hg8).tr hg9) (p_ltl hB hst ((((gr2.tr gr4).tr gr6).tr gr8).tr (p_gr.one hlt75)))).up (by omega)
                  · rw [p_chain_0n hc75] at hk
                    refine r_if_eq f_P_isBracket_78 (fun _ => ?_) (fun h => absurd h (by decide))
                    refine r_ic f_P_isBracket_85 ?_
                    refine r_ist2 f_P_isBracket_86 rfl ?_
                    exact (k_br_tail (d := 0) (b := false) hk rfl hP8 ((((((hg2.tr hg3).tr hg4).tr hg5).tr hg6).tr hg7).tr hg8) (p_ltl hB hst (((gr2.tr gr4).tr gr6).tr gr8))).up (by omega)
              · rw [p_chain_n hc58] at hk
                refine r_if_eq f_P_isBracket_61 (fun _ => ?_) (fun h => absurd h (by decide))
                refine r_ic f_P_isBracket_85 ?_
                refine r_ist2 f_P_isBracket_86 rfl ?_
                exact (k_br_tail (d := 0) (b := false) hk rfl hP6 ((((hg2.tr hg3).tr hg4).tr hg5).tr hg6) (p_ltl hB hst ((gr2.tr gr4).tr gr6))).up (by omega)
          · rw [p_chain_n hc41] at hk
            refine r_if_eq f_P_isBracket_44 (fun _ => ?_) (fun h => absurd h (by decide))
            refine r_ic f_P_isBracket_85 ?_
            refine r_ist2 f_P_isBracket_86 rfl ?_
            exact (k_br_tail (d := 0) (b := false) hk rfl hP4 ((hg2.tr hg3).tr hg4) (p_ltl hB hst (gr2.tr gr4))).up (by omega)
      · rw [p_chain_n hc24] at hk
        refine r_if_eq f_P_isBracket_27 (fun _ => ?_) (fun h => absurd h (by decide))
        refine r_ic f_P_isBracket_85 ?_
        refine r_ist2 f_P_isBracket_86 rfl ?_
        exact (k_br_tail (d := 0) (b := false) hk rfl hP2 hg2 (p_ltl hB hst gr2)).up (by omega)
theorem k_P_isNegated {g : Ps → Bool × Ps} {p : Nat} (hg : p_Gr t g) (hG : ∀ (I : Rn) (K : Kt) (s : Ps), PI t I s → PB t s → PC t K I L (g s) → WW G d mt_P_isFactor 0 [some (.ref 81), some (.int (nI p)), none] [] SH RF I L 0 0 0 0 K) : ∀ (I : Rn) (K : Kt) (s : Ps), PI t I s → PB t s → s.2.length < s.1 → PC t K I L (p_add (-126) (g s)) → WW G (d + 2) mt_P_isNegated 0 [some (.ref 81), some (.int (nI p)), none] [] SH RF I L 0 0 0 0 K := by
  intro I K s hP hB hst hk
  refine r_ald0 f_P_isNegated_0 ?_
  refine r_ild1 f_P_isNegated_1 ?_
  refine c_P_isFactor f_P_isNegated_2 (s_81) (Nat.le_of_ble_eq_true rfl) (Nat.le_refl _) (Nat.le_refl _) ?_
  refine (hG _ _ _ hP hB (fun I2 hP2 hg2 => ?_)).up (by omega)
  have gr2 := hg s hB.2.1
  refine r_ist2 f_P_isNegated_5 rfl ?_
  refine r_ald0 f_P_isNegated_6 ?_
  refine r_gr f_P_isNegated_7 (s_81) (r_81_1) ?_
  refine r_ic f_P_isNegated_10 ?_
  refine c_T_append f_P_isNegated_12 (sT q_TP) (Nat.le_of_ble_eq_true rfl) (Nat.le_refl _) (Nat.le_refl _) ?_
  refine k_T_append q_TP hP2.2.2.2.1 (p_ltl hB hst gr2) ?_
  refine r_ild2 f_P_isNegated_15 ?_
  refine r_iret f_P_isNegated_16 (q_narz rfl (bI_z _)) (Nat.le_refl _) (Nat.le_refl _) ?_
  exact hk.z (s := ((g s).2.1, (g s).2.2 ++ [-126])) rfl hP2.app (hg2.tr ((q_ag.rf.u2 (Or.inr (Or.inr rfl))).u2 (Or.inr (Or.inl ⟨rfl, rfl⟩))))
theorem k_P_isFactor : ∀ (n : Nat), n ≤ 5 → ∀ (I : Rn) (K : Kt) (s : Ps), PI t I s → PB t s → PC t K I L (p_fac t n s) → WW G (d + 10 * n + 3) mt_P_isFactor 0 [some (.ref 81), some (.int (nI (5 - n))), none] [] SH RF I L 0 0 0 0 K
  | 0, hn5, I, K, s, hP, hB, hk => by
    unfold p_fac at hk
    refine r_ald0 f_P_isFactor_0 ?_
    refine c_P_next f_P_isFactor_1 (s_81) (Nat.le_of_ble_eq_true rfl) (Nat.le_refl _) (Nat.le_refl _) ?_
    refine k_P_next hP hB ?_
    refine r_ist2 f_P_isFactor_4 rfl ?_
    refine r_ild2 f_P_isFactor_5 ?_
    refine c_P_isDigit f_P_isFactor_6 (Nat.le_of_ble_eq_true rfl) (Nat.le_refl _) (Nat.le_refl _) ?_
    refine k_P_isDigit (fun hdg => ?_) (fun hdg => ?_)
    · rw [p_leaf_d hdg] at hk
      have hs : s.1 < t.length := pN_lt (fun q => by rw [q] at hdg; exact absurd hdg.1 (by decide))
      refine r_if_eq f_P_isFactor_9 (fun h => absurd h (by decide)) (fun _ => ?_)
      refine r_ald0 f_P_isFactor_12 ?_
      refine c_P_takeNumber f_P_isFactor_13 (s_81) (Nat.le_of_ble_eq_true rfl) (Nat.le_refl _) (Nat.le_refl _) ?_
      refine k_P_takeNumber hP hB (by obtain ⟨b1, b2, b3⟩ := hB; omega) (fun I2 hP2 hg2 => ?_)
      refine r_ic f_P_isFactor_16 ?_
      refine r_iret f_P_isFactor_17 ⟨_, rfl, rfl⟩ (Nat.le_refl _) (Nat.le_refl _) ?_
      exact hk.z rfl hP2 hg2
    · refine r_if_eq f_P_isFactor_9 (fun _ => ?_) (fun h => absurd h (by decide))
      refine r_ild2 f_P_isFactor_18 ?_
      refine c_T_isName f_P_isFactor_19 (Nat.le_of_ble_eq_true rfl) (Nat.le_refl _) (Nat.le_refl _) ?_
      refine k_T_isName (fun hnm => ?_) (fun hnm => ?_)
      · rw [p_leaf_n hdg hnm] at hk
        have hs : s.1 < t.length := pN_lt (p_nam_ne hnm)
        refine r_if_eq f_P_isFactor_22 (fun h => absurd h (by decide)) (fun _ => ?_)
        refine r_ald0 f_P_isFactor_25 ?_
        refine r_dupr f_P_isFactor_26 ?_
        refine r_gi f_P_isFactor_27 (s_81) ?_
        rw [hP.2.2.1]
        refine r_ic f_P_isFactor_30 ?_
        refine r_iadd f_P_isFactor_31 ?_
        rw [nI_1]
        refine r_pi f_P_isFactor_32 (s_81) ?_
        refine r_ald0 f_P_isFactor_35 ?_
        refine r_gr f_P_isFactor_36 (s_81) (r_81_1) ?_
        refine r_ild2 f_P_isFactor_39 ?_
        refine r_ineg f_P_isFactor_40 ?_
        refine c_T_append f_P_isFactor_41 (sT q_TP) (Nat.le_of_ble_eq_true rfl) (Nat.le_refl _) (Nat.le_refl _) ?_
        refine k_T_append q_TP hP.adv.2.2.2.1 (show s.2.length < 60 by obtain ⟨b1, b2, b3⟩ := hB; omega) ?_
        refine r_ic f_P_isFactor_44 ?_
        refine r_iret f_P_isFactor_45 ⟨_, rfl, rfl⟩ (Nat.le_refl _) (Nat.le_refl _) ?_
        exact hk.z (s := (s.1 + 1, s.2 ++ [-(pN t s.1)])) rfl hP.adv.app ((q_ag.rf.u2 (Or.inl ⟨rfl, rfl⟩)).tr ((q_ag.rf.u2 (Or.inr (Or.inr rfl))).u2 (Or.inr (Or.inl ⟨rfl, rfl⟩))))
      · rw [p_leaf_e hdg hnm] at hk
        refine r_if_eq f_P_isFactor_22 (fun _ => ?_) (fun h => absurd h (by decide))
        refine r_ild1 f_P_isFactor_46 ?_
        refine r_ic f_P_isFactor_47 ?_
        refine r_ic_ge f_P_isFactor_48 (fun h48 => ?_) (fun h48 => absurd h48 (fun q => q (by decide)))
        refine r_ic f_P_isFactor_62 ?_
        refine r_iret f_P_isFactor_63 ⟨_, rfl, rfl⟩ (Nat.le_refl _) (Nat.le_refl _) ?_
        exact hk.z rfl hP q_ag.rf
  | n + 1, hn5, I, K, s, hP, hB, hk => by
    have ih := fun I K s a1 a2 a3 => k_P_isFactor n (by omega) I K s a1 a2 a3
    unfold p_fac at hk
    refine r_ald0 f_P_isFactor_0 ?_
    refine c_P_next f_P_isFactor_1 (s_81) (Nat.le_of_ble_eq_true rfl) (Nat.le_refl _) (Nat.le_refl _) ?_
    refine k_P_next hP hB ?_
    refine r_ist2 f_P_isFactor_4 rfl ?_
    refine r_ild2 f_P_isFactor_5 ?_
    refine c_P_isDigit f_P_isFactor_6 (Nat.le_of_ble_eq_true rfl) (Nat.le_refl _) (Nat.le_refl _) ?_
    refine k_P_isDigit (fun hdg => ?_) (fun hdg => ?_)
    · rw [p_leaf_d hdg] at hk
      have hs : s.1 < t.length := pN_lt (fun q => by rw [q] at hdg; exact absurd hdg.1 (by decide))
      refine r_if_eq f_P_isFactor_9 (fun h => absurd h (by decide)) (fun _ => ?_)
      refine r_ald0 f_P_isFactor_12 ?_
      refine c_P_takeNumber f_P_isFactor_13 (s_81) (Nat.le_of_ble_eq_true rfl) (Nat.le_refl _) (Nat.le_refl _) ?_
      refine k_P_takeNumber hP hB (by obtain ⟨b1, b2, b3⟩ := hB; omega) (fun I2 hP2 hg2 => ?_)
      refine r_ic f_P_isFactor_16 ?_
      refine r_iret f_P_isFactor_17 ⟨_, rfl, rfl⟩ (Nat.le_refl _) (Nat.le_refl _) ?_
      exact hk.z rfl hP2 hg2
    · refine r_if_eq f_P_isFactor_9 (fun _ => ?_) (fun h => absurd h (by decide))
      refine r_ild2 f_P_isFactor_18 ?_
      refine c_T_isName f_P_isFactor_19 (Nat.le_of_ble_eq_true rfl) (Nat.le_refl _) (Nat.le_refl _) ?_
      refine k_T_isName (fun hnm => ?_) (fun hnm => ?_)
      · rw [p_leaf_n hdg hnm] at hk
        have hs : s.1 < t.length := pN_lt (p_nam_ne hnm)
        refine r_if_eq f_P_isFactor_22 (fun h => absurd h (by decide)) (fun _ => ?_)
        refine r_ald0 f_P_isFactor_25 ?_
        refine r_dupr f_P_isFactor_26 ?_
        refine r_gi f_P_isFactor_27 (s_81) ?_
        rw [hP.2.2.1]
        refine r_ic f_P_isFactor_30 ?_
        refine r_iadd f_P_isFactor_31 ?_
        rw [nI_1]
        refine r_pi f_P_isFactor_32 (s_81) ?_
        refine r_ald0 f_P_isFactor_35 ?_
        refine r_gr f_P_isFactor_36 (s_81) (r_81_1) ?_
        refine r_ild2 f_P_isFactor_39 ?_
        refine r_ineg f_P_isFactor_40 ?_
        refine c_T_append f_P_isFactor_41 (sT q_TP) (Nat.le_of_ble_eq_true rfl) (Nat.le_refl _) (Nat.le_refl _) ?_
        refine k_T_append q_TP hP.adv.2.2.2.1 (show s.2.length < 60 by obtain ⟨b1, b2, b3⟩ := hB; omega) ?_
        refine r_ic f_P_isFactor_44 ?_
        refine r_iret f_P_isFactor_45 ⟨_, rfl, rfl⟩ (Nat.le_refl _) (Nat.le_refl _) ?_
        exact hk.z (s := (s.1 + 1, s.2 ++ [-(pN t s.1)])) rfl hP.adv.app ((q_ag.rf.u2 (Or.inl ⟨rfl, rfl⟩)).tr ((q_ag.rf.u2 (Or.inr (Or.inr rfl))).u2 (Or.inr (Or.inl ⟨rfl, rfl⟩))))
      · rw [p_leaf_e hdg hnm] at hk
        refine r_if_eq f_P_isFactor_22 (fun _ => ?_) (fun h => absurd h (by decide))
        refine r_ild1 f_P_isFactor_46 ?_
        refine r_ic f_P_isFactor_47 ?_
        refine r_ic_ge f_P_isFactor_48 (fun h48 => absurd h48 (nI_ge (b := 5) (by omega) (by decide))) (fun h48 => ?_)
        refine r_ald0 f_P_isFactor_51 ?_
        refine r_ic f_P_isFactor_52 ?_
        refine r_ic f_P_isFactor_54 ?_
        refine c_P_isNext f_P_isFactor_56 (s_81) (Nat.le_of_ble_eq_true rfl) (Nat.le_refl _) (Nat.le_refl _) ?_
        refine k_P_isNext hP hB (fun hn => ?_) (fun hn => ?_)
        · have hs : s.1 < t.length := pN_lt (fun q => by rw [q] at hn; exact hn.elim (fun w => absurd w (by decide)) (fun w => absurd w (by decide)))
          refine r_if_ne f_P_isFactor_59 (fun _ => ?_) (fun h => absurd h (by decide))
          refine r_ald0 f_P_isFactor_64 ?_
          refine r_dupr f_P_isFactor_65 ?_
          refine r_gi f_P_isFactor_66 (s_81) ?_
          rw [hP.2.2.1]
          refine r_ic f_P_isFactor_69 ?_
          refine r_iadd f_P_isFactor_70 ?_
          rw [nI_1]
          refine r_pi f_P_isFactor_71 (s_81) ?_
          refine r_ild2 f_P_isFactor_74 ?_
          refine r_ic f_P_isFactor_75 ?_
          refine r_ic_ne f_P_isFactor_77 (fun h77 => ?_) (fun h77 => ?_)
          · refine r_ald0 f_P_isFactor_90 ?_
            refine r_ild1 f_P_isFactor_91 ?_
            refine r_ic f_P_isFactor_92 ?_
            refine r_iadd f_P_isFactor_93 ?_
            refine c_P_isBracket f_P_isFactor_94 (s_81) (Nat.le_of_ble_eq_true rfl) (Nat.le_refl _) (Nat.le_refl _) ?_
            rw [if_neg h77, if_pos (hn.resolve_left h77)] at hk
            have hB1 : PB t (s.1 + 1, s.2) := ⟨Nat.le_succ_of_le hB.1, hs, hB.2.2⟩
            have hst : (s.1 + 1, s.2).2.length < (s.1 + 1, s.2).1 := Nat.lt_succ_of_le hB.1
            rw [show nI (5 - (n + 1)) + 1 = nI (5 - n) from by rw [nI_1]; congr 1; omega]
            refine (k_P_isBracket (p_sum_gr (p_fac_gr n)) (k_P_isSum (p_prod_gr (p_fac_gr n)) (k_P_isProduct (p_fac_gr n) (fun I K s a1 a2 a3 => ih I K s a1 a2 a3))) _ _ _ hP.adv hB1 hst (fun I2 hP2 hg2 => ?_)).up (by omega)
            refine r_iret f_P_isFactor_97 (q_narz rfl (bI_z _)) (Nat.le_refl _) (Nat.le_refl _) ?_
            exact hk _ hP2 ((q_ag.rf.u2 (Or.inl ⟨rfl, rfl⟩)).tr hg2)
          · refine r_ald0 f_P_isFactor_80 ?_
            refine r_ild1 f_P_isFactor_81 ?_
            refine r_ic f_P_isFactor_82 ?_
            refine r_iadd f_P_isFactor_83 ?_
            refine c_P_isNegated f_P_isFactor_84 (s_81) (Nat.le_of_ble_eq_true rfl) (Nat.le_refl _) (Nat.le_refl _) ?_
            rw [if_pos h77] at hk
            have hB1 : PB t (s.1 + 1, s.2) := ⟨Nat.le_succ_of_le hB.1, hs, hB.2.2⟩
            have hst : (s.1 + 1, s.2).2.length < (s.1 + 1, s.2).1 := Nat.lt_succ_of_le hB.1
            rw [show nI (5 - (n + 1)) + 1 = nI (5 - n) from by rw [nI_1]; congr 1; omega]
            refine (k_P_isNegated (p_fac_gr n) (fun I K s a1 a2 a3 => ih I K s a1 a2 a3) _ _ _ hP.adv hB1 hst (fun I2 hP2 hg2 => ?_)).up (by omega)
            refine r_goto f_P_isFactor_87 ?_
            refine r_iret f_P_isFactor_97 (q_narz rfl (bI_z _)) (Nat.le_refl _) (Nat.le_refl _) ?_
            exact hk _ hP2 ((q_ag.rf.u2 (Or.inl ⟨rfl, rfl⟩)).tr hg2)
        · rw [if_neg (fun q => hn (Or.inl q)), if_neg (fun q => hn (Or.inr q))] at hk
          refine r_if_ne f_P_isFactor_59 (fun h => absurd h (by decide)) (fun _ => ?_)
          refine r_ic f_P_isFactor_62 ?_
          refine r_iret f_P_isFactor_63 ⟨_, rfl, rfl⟩ (Nat.le_refl _) (Nat.le_refl _) ?_
          exact hk.z rfl hP q_ag.rf
end L39
