section L52
variable {G : Gx} {d : Nat} {I I' I2 : Rn} {L L' L2 : Rl} {K : Kt} {σ : St} {D : Dst}
theorem q_div1 (x : Int32) : x / -1 = -x := by
  apply Int32.toInt_inj.mp
  have e : (-1 : Int32).toInt = -1 := by decide
  rw [Int32.toInt_div, e, Int.tdiv_neg, Int.tdiv_one, Int32.toInt_neg]
theorem k_R_done {m x y : Int32} (hk : K (some (.int (sp_done m x y))) SH RF I L) : WW G d mt_R_done 0 [some (.int m), some (.int x), some (.int y)] [] SH RF I L 0 0 0 0 K := by
  unfold sp_done at hk
  refine r_ild0 f_R_done_0 ?_
  refine r_sw f_R_done_1 ?_
  refine r_swc (k := 10100) (by decide) (fun e1_10100 => ?_) (fun e1_10100 => ?_)
  · rw [if_pos e1_10100] at hk
    refine r_ild1 f_R_done_28 ?_
    refine r_ild2 f_R_done_29 ?_
    refine r_iadd f_R_done_30 ?_
    refine r_iret f_R_done_31 ⟨_, rfl, rfl⟩ (Nat.le_refl _) (Nat.le_refl _) ?_
    exact hk
  refine r_swc (k := 10101) (by decide) (fun e1_10101 => ?_) (fun e1_10101 => ?_)
  · rw [if_neg e1_10100, if_pos e1_10101] at hk
    refine r_ild1 f_R_done_32 ?_
    refine r_ild2 f_R_done_33 ?_
    refine r_isub f_R_done_34 ?_
    refine r_iret f_R_done_35 ⟨_, rfl, rfl⟩ (Nat.le_refl _) (Nat.le_refl _) ?_
    exact hk
  refine r_swc (k := 10102) (by decide) (fun e1_10102 => ?_) (fun e1_10102 => ?_)
  · rw [if_neg e1_10100, if_neg e1_10101, if_pos e1_10102] at hk
    refine r_ild1 f_R_done_36 ?_
    refine r_ild2 f_R_done_37 ?_
    refine r_imul f_R_done_38 ?_
    refine r_iret f_R_done_39 ⟨_, rfl, rfl⟩ (Nat.le_refl _) (Nat.le_refl _) ?_
    exact hk
  refine r_swn ?_
  rw [if_neg e1_10100, if_neg e1_10101, if_neg e1_10102] at hk
  refine r_ild2 f_R_done_40 ?_
  refine r_if_ne f_R_done_41 (fun h41 => ?_) (fun h41 => ?_)
  · refine r_ild2 f_R_done_48 ?_
    refine r_ic f_R_done_49 ?_
    refine r_ic_ne f_R_done_50 (fun h50 => ?_) (fun h50 => ?_)
    · refine r_ild1 f_R_done_58 ?_
      refine r_ild2 f_R_done_59 ?_
      refine r_idiv f_R_done_60 h41 ?_
      refine r_iret f_R_done_61 ⟨_, rfl, rfl⟩ (Nat.le_refl _) (Nat.le_refl _) ?_
      first
        | rw [if_pos h41] at hk
          exact hk
        | rw [if_neg h41, h50, q_div1] at hk
          exact hk
        | rw [if_neg h41] at hk
          exact hk
    · refine r_ild1 f_R_done_53 ?_
      refine r_ineg f_R_done_54 ?_
      refine r_goto f_R_done_55 ?_
      refine r_iret f_R_done_61 ⟨_, rfl, rfl⟩ (Nat.le_refl _) (Nat.le_refl _) ?_
      first
        | rw [if_pos h41] at hk
          exact hk
        | rw [if_neg h41, h50, q_div1] at hk
          exact hk
        | rw [if_neg h41] at hk
          exact hk
  · refine r_ic f_R_done_44 ?_
    refine r_goto f_R_done_45 ?_
    refine r_iret f_R_done_61 ⟨_, rfl, rfl⟩ (Nat.le_refl _) (Nat.le_refl _) ?_
    first
      | rw [if_pos h41] at hk
        exact hk
      | rw [if_neg h41, h50, q_div1] at hk
        exact hk
      | rw [if_neg h41] at hk
        exact hk
theorem k_R_factOf {f p : Nat} {n : Int32} (hf : f < 8) (hR : RR I 96 D) (hk : K (some (.int (sp_fact D f p n))) SH RF I L) : WW G (d + 1) mt_R_factOf 0 [some (.ref 95), some (.int (nI f)), some (.int (nI p)), some (.int n)] [] SH RF I L 0 0 0 0 K := by
  unfold sp_fact at hk
  refine r_ild3 f_R_factOf_0 ?_
  refine r_sw f_R_factOf_1 ?_
  refine r_swc (k := 0) (by decide) (fun e1_0 => ?_) (fun e1_0 => ?_)
  · rw [if_pos e1_0] at hk
    refine r_ald0 f_R_factOf_36 ?_
    refine r_gr f_R_factOf_37 (s_95) (r_95_0) ?_
    refine r_ic f_R_factOf_40 ?_
    refine r_iald f_R_factOf_41 (s_96) (show q_ix 1 1 136 from ⟨by decide, by decide⟩) ?_
    rw [hR.s (k := 1) (by decide)]
    refine r_iret f_R_factOf_42 ⟨_, rfl, rfl⟩ (Nat.le_refl _) (Nat.le_refl _) ?_
    exact hk
  refine r_swc (k := 1) (by decide) (fun e1_1 => ?_) (fun e1_1 => ?_)
  · rw [if_neg e1_0, if_pos e1_1] at hk
    refine r_ald0 f_R_factOf_43 ?_
    refine r_gr f_R_factOf_44 (s_95) (r_95_0) ?_
    refine r_ic f_R_factOf_47 ?_
    refine r_iald f_R_factOf_48 (s_96) (show q_ix 0 0 136 from ⟨by decide, by decide⟩) ?_
    rw [hR.s (k := 0) (by decide)]
    refine r_iret f_R_factOf_49 ⟨_, rfl, rfl⟩ (Nat.le_refl _) (Nat.le_refl _) ?_
    exact hk
  refine r_swc (k := 2) (by decide) (fun e1_2 => ?_) (fun e1_2 => ?_)
  · rw [if_neg e1_0, if_neg e1_1, if_pos e1_2] at hk
    refine r_ald0 f_R_factOf_50 ?_
    refine r_ild1 f_R_factOf_51 ?_
    refine r_ic f_R_factOf_52 ?_
    refine c_R_get f_R_factOf_53 (s_95) (Nat.le_of_ble_eq_true rfl) (Nat.le_refl _) (Nat.le_refl _) ?_
    refine k_R_get (k := 1) hf (by decide) hR ?_
    refine r_iret f_R_factOf_56 ⟨_, rfl, rfl⟩ (Nat.le_refl _) (Nat.le_refl _) ?_
    exact hk
  refine r_swc (k := 3) (by decide) (fun e1_3 => ?_) (fun e1_3 => ?_)
  · rw [if_neg e1_0, if_neg e1_1, if_neg e1_2, if_pos e1_3] at hk
    refine r_ild1 f_R_factOf_57 ?_
    refine r_iret f_R_factOf_58 ⟨_, rfl, rfl⟩ (Nat.le_refl _) (Nat.le_refl _) ?_
    exact hk
  refine r_swc (k := 4) (by decide) (fun e1_4 => ?_) (fun e1_4 => ?_)
  · rw [if_neg e1_0, if_neg e1_1, if_neg e1_2, if_neg e1_3, if_pos e1_4] at hk
    refine r_ald0 f_R_factOf_59 ?_
    refine r_gr f_R_factOf_60 (s_95) (r_95_0) ?_
    refine r_ic f_R_factOf_63 ?_
    refine r_iald f_R_factOf_65 (s_96) (show q_ix 10 10 136 from ⟨by decide, by decide⟩) ?_
    rw [hR.c]
    refine r_iret f_R_factOf_66 ⟨_, rfl, rfl⟩ (Nat.le_refl _) (Nat.le_refl _) ?_
    exact hk
  refine r_swn ?_
  rw [if_neg e1_0, if_neg e1_1, if_neg e1_2, if_neg e1_3, if_neg e1_4] at hk
  refine r_ild2 f_R_factOf_67 ?_
  refine r_iret f_R_factOf_68 ⟨_, rfl, rfl⟩ (Nat.le_refl _) (Nat.le_refl _) ?_
  exact hk
def PL (I : Rn) : List Int32 → Prop
  | [] => True
  | x :: r => I 107 r.length = x ∧ PL I r
theorem PL.up {n : Nat} {v : Int32} : ∀ {r : List Int32}, PL I r → r.length ≤ n → PL (u2 I 107 n v) r
  | [], _, _ => trivial
  | x :: r, h, hn => ⟨(u2_ne (Or.inr (by have : (x :: r).length = r.length + 1 := rfl; omega))).trans h.1, PL.up h.2 (by have : (x :: r).length = r.length + 1 := rfl; omega)⟩
theorem PL.push {v : Int32} {r : List Int32} (h : PL I r) : PL (u2 I 107 r.length v) (v :: r) := ⟨u2_self, h.up (Nat.le_refl _)⟩
theorem q_drop {tx r : List Int32} {m : Int32} {k : Nat} (h : tx.drop k = m :: r) : tx[k]? = some m ∧ tx.drop (k + 1) = r ∧ k < tx.length := by
  have hl : k < tx.length := by
    refine Nat.lt_of_not_le (fun q => ?_)
    rw [List.drop_eq_nil_of_le q] at h
    cases h
  refine ⟨?_, ?_, hl⟩
  · have := congrArg (fun l => l[0]?) h
    simpa using this
  · have := congrArg List.tail h
    simpa using this
theorem k_R_says_loop {f p : Nat} {R : Int32} (hf : f < 8) (hW : WFd D) (hl : D.2.2.2.2.length ≤ 60) (hk : ∀ I', q_ag (fun x _ => x = 107) I I' → K (some (.int R)) SH RF I' L) : ∀ (r st : List Int32) (k : Nat) (I' : Rn), D.2.2.2.2.drop k = r → st.length ≤ k → PL I' st → RR I' 96 D → q_dep r st.length = some 1 → (sp_run (sp_fact D f p) r st).headD 0 = R → q_ag (fun x _ => x = 107) I I' → k + r.length = D.2.2.2.2.length → WW G (d + 2) mt_R_says 5 [some (.ref 95), some (.int (nI f)), some (.int (nI p)), some (.int (nI st.length)), some (.int (nI k)), none] [] SH RF I' L 0 0 0 0 K
  | [], st, k, I', hd, hst, hpl, hR, hq, hr, hg, hkl => by
    have hlen := hR.2
    have hk2 : k = D.2.2.2.2.length := hkl
    obtain ⟨x, rfl⟩ : ∃ x, st = [x] := List.length_eq_one_iff.mp (Option.some.inj hq)
    refine r_ild4 f_R_says_5 ?_
    refine r_ald0 f_R_says_7 ?_
    refine r_gr f_R_says_8 (s_95) (r_95_0) ?_
    refine r_ic f_R_says_11 ?_
    refine r_iald f_R_says_13 (s_96) (show q_ix 11 11 136 from ⟨by decide, by decide⟩) ?_
    rw [hlen, ← hk2]
    refine r_ic_ge f_R_says_14 (fun h14 => ?_) (fun h14 => absurd h14 (fun q => q (Int32.le_refl _)))
    refine r_ald0 f_R_says_196 ?_
    refine r_gr f_R_says_197 (s_95) (r_95_33) ?_
    refine r_ic f_R_says_200 ?_
    refine r_iald f_R_says_201 (s_107) (show q_ix 0 0 60 from ⟨by decide, by decide⟩) ?_
    rw [show I' 107 0 = x from hpl.1]
    refine r_iret f_R_says_202 ⟨_, rfl, rfl⟩ (Nat.le_refl _) (Nat.le_refl _) ?_
    rw [show x = R from hr]
    exact hk I' hg
  | m :: r, st, k, I', hd, hst, hpl, hR, hq, hr, hg, hkl => by
    have hlen := hR.2
    obtain ⟨hx, hd2, hlt⟩ := q_drop hd
    have hkl2 : k + 1 + r.length = D.2.2.2.2.length := by rw [← hkl, List.length_cons]; omega
    have hn : sp_need m ≤ st.length := by
      unfold q_dep at hq
      refine Nat.le_of_not_lt (fun q => ?_)
      rw [if_neg (by omega)] at hq
      cases hq
    rw [show q_dep (m :: r) st.length = q_dep r (st.length + 1 - sp_need m) from if_pos hn] at hq
    replace hr : (sp_run (sp_fact D f p) r (sp_step (sp_fact D f p) m st)).headD 0 = R := hr
    have hgo : ∀ I2, PL I2 (sp_step (sp_fact D f p) m st) → RR I2 96 D → q_ag (fun x _ => x = 107) I I2 → (sp_step (sp_fact D f p) m st).length = st.length + 1 - sp_need m → WW G (d + 2) mt_R_says 5 [some (.ref 95), some (.int (nI f)), some (.int (nI p)), some (.int (nI (sp_step (sp_fact D f p) m st).length)), some (.int (nI (k + 1))), none] [] SH RF I2 L 0 0 0 0 K := fun I2 a1 a2 a3 a4 =>
      k_R_says_loop hf hW hl hk r _ (k + 1) I2 hd2 (by rw [a4]; omega) a1 a2 (by rw [a4]; exact hq) hr a3 hkl2
    have hsl := sp_step_len (fc := sp_fact D f p) hn
    by_cases h1 : m < 10100
    · have hs : sp_step (sp_fact D f p) m st = (if m < 10000 then m else sp_fact D f p (m - 10000)) :: st := if_pos h1
      rw [hs] at hgo hsl
      refine r_ild4 f_R_says_5 ?_
      refine r_ald0 f_R_says_7 ?_
      refine r_gr f_R_says_8 (s_95) (r_95_0) ?_
      refine r_ic f_R_says_11 ?_
      refine r_iald f_R_says_13 (s_96) (show q_ix 11 11 136 from ⟨by decide, by decide⟩) ?_
      rw [hlen]
      refine r_ic_ge f_R_says_14 (fun h14 => absurd h14 (nI_ge (by omega) (by omega))) (fun h14 => ?_)
      refine r_ald0 f_R_says_17 ?_
      refine r_gr f_R_says_18 (s_95) (r_95_0) ?_
      refine r_ic f_R_says_21 ?_
      refine r_ild4 f_R_says_23 ?_
      refine r_iadd f_R_says_25 ?_
      rw [show (76 : Int32) + nI k = nI (76 + k) from nI_add 76 k]
      refine r_iald f_R_says_26 (s_96) (q_ix.nI (show 76 + k < 136 by omega) (by decide)) ?_
      rw [hR.tx hl hx]
      refine r_ist5 f_R_says_27 rfl ?_
      refine r_ild5 f_R_says_29 ?_
      refine r_ic f_R_says_31 ?_
      refine r_ic_ge f_R_says_34 (fun h34 => absurd h34 (Int32.not_le.mpr h1)) (fun h34 => ?_)
      refine r_ald0 f_R_says_37 ?_
      refine r_gr f_R_says_38 (s_95) (r_95_33) ?_
      refine r_ild3 f_R_says_41 ?_
      refine r_ild5 f_R_says_42 ?_
      refine r_ic f_R_says_44 ?_
      refine r_ic_ge f_R_says_47 (fun h47 => ?_) (fun h47 => ?_)
      · refine r_ald0 f_R_says_55 ?_
        refine r_ild1 f_R_says_56 ?_
        refine r_ild2 f_R_says_57 ?_
        refine r_ild5 f_R_says_58 ?_
        refine r_ic f_R_says_60 ?_
        refine r_isub f_R_says_63 ?_
        refine c_R_factOf f_R_says_64 (s_95) (Nat.le_of_ble_eq_true rfl) (Nat.le_refl _) (Nat.le_refl _) ?_
        refine k_R_factOf hf hR ?_
        refine r_iast f_R_says_67 (s_107) (q_ix.nI (show st.length < 60 by omega) (by decide)) ?_
        refine r_inc3 f_R_says_68 rfl ?_
        rw [nI_1]
        refine r_goto f_R_says_71 ?_
        refine r_inc4 f_R_says_190 rfl ?_
        rw [nI_1]
        refine r_goto f_R_says_193 ?_
        refine r_drop5 ?_
        first
          | rw [if_pos (Int32.not_le.mp h47)] at hgo hsl
            exact hgo _ hpl.push (hR.rows hl (fun x y w => u2_ne (Or.inl (by omega)))) (hg.tr (q_ag.rf.u2 rfl)) hsl
          | rw [if_neg (Int32.not_lt.mpr h47)] at hgo hsl
            exact hgo _ hpl.push (hR.rows hl (fun x y w => u2_ne (Or.inl (by omega)))) (hg.tr (q_ag.rf.u2 rfl)) hsl
      · refine r_ild5 f_R_says_50 ?_
        refine r_goto f_R_says_52 ?_
        refine r_iast f_R_says_67 (s_107) (q_ix.nI (show st.length < 60 by omega) (by decide)) ?_
        refine r_inc3 f_R_says_68 rfl ?_
        rw [nI_1]
        refine r_goto f_R_says_71 ?_
        refine r_inc4 f_R_says_190 rfl ?_
        rw [nI_1]
        refine r_goto f_R_says_193 ?_
        refine r_drop5 ?_
        first
          | rw [if_pos (Int32.not_le.mp h47)] at hgo hsl
            exact hgo _ hpl.push (hR.rows hl (fun x y w => u2_ne (Or.inl (by omega)))) (hg.tr (q_ag.rf.u2 rfl)) hsl
          | rw [if_neg (Int32.not_lt.mpr h47)] at hgo hsl
            exact hgo _ hpl.push (hR.rows hl (fun x y w => u2_ne (Or.inl (by omega)))) (hg.tr (q_ag.rf.u2 rfl)) hsl
    · have hn1 := hn
      unfold sp_need at hn1
      rw [if_neg h1] at hn1
      by_cases h2 : m = 10105
      · rw [if_pos h2] at hn1
        obtain ⟨x, st, rfl⟩ : ∃ x s, st = x :: s := by
          cases st with
          | nil => exact absurd hn1 (by decide)
          | cons x s => exact ⟨x, s, rfl⟩
        have hs : sp_step (sp_fact D f p) m (x :: st) = -x :: st := (if_neg h1).trans (if_pos h2)
        rw [hs] at hgo hsl
        have hl1 : (x :: st).length = st.length + 1 := rfl
        rw [hl1]
        refine r_ild4 f_R_says_5 ?_
        refine r_ald0 f_R_says_7 ?_
        refine r_gr f_R_says_8 (s_95) (r_95_0) ?_
        refine r_ic f_R_says_11 ?_
        refine r_iald f_R_says_13 (s_96) (show q_ix 11 11 136 from ⟨by decide, by decide⟩) ?_
        rw [hlen]
        refine r_ic_ge f_R_says_14 (fun h14 => absurd h14 (nI_ge (by omega) (by omega))) (fun h14 => ?_)
        refine r_ald0 f_R_says_17 ?_
        refine r_gr f_R_says_18 (s_95) (r_95_0) ?_
        refine r_ic f_R_says_21 ?_
        refine r_ild4 f_R_says_23 ?_
        refine r_iadd f_R_says_25 ?_
        rw [show (76 : Int32) + nI k = nI (76 + k) from nI_add 76 k]
        refine r_iald f_R_says_26 (s_96) (q_ix.nI (show 76 + k < 136 by omega) (by decide)) ?_
        rw [hR.tx hl hx]
        refine r_ist5 f_R_says_27 rfl ?_
        refine r_ild5 f_R_says_29 ?_
        refine r_ic f_R_says_31 ?_
        refine r_ic_ge f_R_says_34 (fun h34 => ?_) (fun h34 => absurd h34 (fun q => q (Int32.not_lt.mp h1)))
        refine r_ild5 f_R_says_74 ?_
        refine r_ic f_R_says_76 ?_
        refine r_ic_ne f_R_says_79 (fun h79 => absurd h79 (fun q => q h2)) (fun h79 => ?_)
        refine r_ald0 f_R_says_82 ?_
        refine r_gr f_R_says_83 (s_95) (r_95_33) ?_
        refine r_ild3 f_R_says_86 ?_
        refine r_ic f_R_says_87 ?_
        refine r_isub f_R_says_88 ?_
        rw [nI_pred]
        refine r_ald0 f_R_says_89 ?_
        refine r_gr f_R_says_90 (s_95) (r_95_33) ?_
        refine r_ild3 f_R_says_93 ?_
        refine r_ic f_R_says_94 ?_
        refine r_isub f_R_says_95 ?_
        rw [nI_pred]
        refine r_iald f_R_says_96 (s_107) (q_ix.nI (show st.length < 60 by omega) (by decide)) ?_
        rw [show I' 107 st.length = x from hpl.1]
        refine r_ineg f_R_says_97 ?_
        refine r_iast f_R_says_98 (s_107) (q_ix.nI (show st.length < 60 by omega) (by decide)) ?_
        refine r_goto f_R_says_99 ?_
        refine r_inc4 f_R_says_190 rfl ?_
        rw [nI_1]
        refine r_goto f_R_says_193 ?_
        refine r_drop5 ?_
        exact hgo _ hpl.2.push (hR.rows hl (fun x y w => u2_ne (Or.inl (by omega)))) (hg.tr (q_ag.rf.u2 rfl)) hsl
      · rw [if_neg h2] at hn1
        by_cases h3 : m = 10104
        · rw [if_pos h3] at hn1
          obtain ⟨e, t, y, x, st, rfl⟩ : ∃ e t y x s, st = e :: t :: y :: x :: s := by
            match st, hn1 with
            | e :: t :: y :: x :: s, _ => exact ⟨e, t, y, x, s, rfl⟩
          have hs : sp_step (sp_fact D f p) m (e :: t :: y :: x :: st) = (if x < y then t else e) :: st := ((if_neg h1).trans (if_neg h2)).trans (if_pos h3)
          rw [hs] at hgo hsl
          have hl1 : (e :: t :: y :: x :: st).length = st.length + 4 := rfl
          rw [hl1]
          obtain ⟨p1, p2, p3, p4, p5⟩ := hpl
          simp only [List.length_cons] at p1 p2 p3 p4
          refine r_ild4 f_R_says_5 ?_
          refine r_ald0 f_R_says_7 ?_
          refine r_gr f_R_says_8 (s_95) (r_95_0) ?_
          refine r_ic f_R_says_11 ?_
          refine r_iald f_R_says_13 (s_96) (show q_ix 11 11 136 from ⟨by decide, by decide⟩) ?_
          rw [hlen]
          refine r_ic_ge f_R_says_14 (fun h14 => absurd h14 (nI_ge (by omega) (by omega))) (fun h14 => ?_)
          refine r_ald0 f_R_says_17 ?_
          refine r_gr f_R_says_18 (s_95) (r_95_0) ?_
          refine r_ic f_R_says_21 ?_
          refine r_ild4 f_R_says_23 ?_
          refine r_iadd f_R_says_25 ?_
          rw [show (76 : Int32) + nI k = nI (76 + k) from nI_add 76 k]
          refine r_iald f_R_says_26 (s_96) (q_ix.nI (show 76 + k < 136 by omega) (by decide)) ?_
          rw [hR.tx hl hx]
          refine r_ist5 f_R_says_27 rfl ?_
          refine r_ild5 f_R_says_29 ?_
          refine r_ic f_R_says_31 ?_
          refine r_ic_ge f_R_says_34 (fun h34 => ?_) (fun h34 => absurd h34 (fun q => q (Int32.not_lt.mp h1)))
          refine r_ild5 f_R_says_74 ?_
          refine r_ic f_R_says_76 ?_
          refine r_ic_ne f_R_says_79 (fun h79 => ?_) (fun h79 => absurd h79 h2)
          refine r_ild5 f_R_says_102 ?_
          refine r_ic f_R_says_104 ?_
          refine r_ic_ne f_R_says_107 (fun h107 => absurd h107 (fun q => q h3)) (fun h107 => ?_)
          refine r_inc3 f_R_says_110 rfl ?_
          rw [show nI (st.length + 4) + -3 = nI (st.length + 1) from by rw [show nI (st.length + 4) = nI (st.length + 1) + 3 from (nI_add _ 3).symm, Int32.add_assoc]; exact Int32.add_zero _]
          refine r_ald0 f_R_says_113 ?_
          refine r_gr f_R_says_114 (s_95) (r_95_33) ?_
          refine r_ild3 f_R_says_117 ?_
          refine r_ic f_R_says_118 ?_
          refine r_isub f_R_says_119 ?_
          rw [nI_pred]
          refine r_ald0 f_R_says_120 ?_
          refine r_gr f_R_says_121 (s_95) (r_95_33) ?_
          refine r_ild3 f_R_says_124 ?_
          refine r_ic f_R_says_125 ?_
          refine r_isub f_R_says_126 ?_
          rw [nI_pred]
          refine r_iald f_R_says_127 (s_107) (q_ix.nI (show st.length < 60 by omega) (by decide)) ?_
          rw [p4]
          refine r_ald0 f_R_says_128 ?_
          refine r_gr f_R_says_129 (s_95) (r_95_33) ?_
          refine r_ild3 f_R_says_132 ?_
          refine r_iald f_R_says_133 (s_107) (q_ix.nI (show st.length + 1 < 60 by omega) (by decide)) ?_
          rw [p3]
          refine r_ic_ge f_R_says_134 (fun h134 => ?_) (fun h134 => ?_)
          · refine r_ald0 f_R_says_148 ?_
            refine r_gr f_R_says_149 (s_95) (r_95_33) ?_
            refine r_ild3 f_R_says_152 ?_
            refine r_ic f_R_says_153 ?_
            refine r_iadd f_R_says_154 ?_
            rw [show nI (st.length + 1) + 2 = nI (st.length + 1 + 2) from nI_add _ 2]
            refine r_iald f_R_says_155 (s_107) (q_ix.nI (show st.length + 1 + 2 < 60 by omega) (by decide)) ?_
            refine r_iast f_R_says_156 (s_107) (q_ix.nI (show st.length < 60 by omega) (by decide)) ?_
            refine r_goto f_R_says_157 ?_
            refine r_inc4 f_R_says_190 rfl ?_
            rw [nI_1]
            refine r_goto f_R_says_193 ?_
            refine r_drop5 ?_
            first
              | rw [if_pos (Int32.not_le.mp h134)] at hgo hsl
                exact hgo _ p5.push (hR.rows hl (fun x y w => u2_ne (Or.inl (by omega)))) (hg.tr (q_ag.rf.u2 rfl)) hsl
              | rw [if_neg (Int32.not_lt.mpr h134), ← p1] at hgo
                rw [if_neg (Int32.not_lt.mpr h134)] at hsl
                exact hgo _ p5.push (hR.rows hl (fun x y w => u2_ne (Or.inl (by omega)))) (hg.tr (q_ag.rf.u2 rfl)) hsl
          · refine r_ald0 f_R_says_137 ?_
            refine r_gr f_R_says_138 (s_95) (r_95_33) ?_
            refine r_ild3 f_R_says_141 ?_
            refine r_ic f_R_says_142 ?_
            refine r_iadd f_R_says_143 ?_
            rw [nI_1]
            refine r_iald f_R_says_144 (s_107) (q_ix.nI (show st.length + 1 + 1 < 60 by omega) (by decide)) ?_
            rw [p2]
            refine r_goto f_R_says_145 ?_
            refine r_iast f_R_says_156 (s_107) (q_ix.nI (show st.length < 60 by omega) (by decide)) ?_
            refine r_goto f_R_says_157 ?_
            refine r_inc4 f_R_says_190 rfl ?_
            rw [nI_1]
            refine r_goto f_R_says_193 ?_
            refine r_drop5 ?_
            first
              | rw [if_pos (Int32.not_le.mp h134)] at hgo hsl
                exact hgo _ p5.push (hR.rows hl (fun x y w => u2_ne (Or.inl (by omega)))) (hg.tr (q_ag.rf.u2 rfl)) hsl
              | rw [if_neg (Int32.not_lt.mpr h134), ← p1] at hgo
                rw [if_neg (Int32.not_lt.mpr h134)] at hsl
                exact hgo _ p5.push (hR.rows hl (fun x y w => u2_ne (Or.inl (by omega)))) (hg.tr (q_ag.rf.u2 rfl)) hsl
        · rw [if_neg h3] at hn1
          obtain ⟨y, x, st, rfl⟩ : ∃ y x s, st = y :: x :: s := by
            match st, hn1 with
            | y :: x :: s, _ => exact ⟨y, x, s, rfl⟩
          have hs : sp_step (sp_fact D f p) m (y :: x :: st) = sp_done m x y :: st := ((if_neg h1).trans (if_neg h2)).trans (if_neg h3)
          rw [hs] at hgo hsl
          have hl1 : (y :: x :: st).length = st.length + 2 := rfl
          rw [hl1]
          obtain ⟨p1, p2, p3⟩ := hpl
          simp only [List.length_cons] at p1 p2
          refine r_ild4 f_R_says_5 ?_
          refine r_ald0 f_R_says_7 ?_
          refine r_gr f_R_says_8 (s_95) (r_95_0) ?_
          refine r_ic f_R_says_11 ?_
          refine r_iald f_R_says_13 (s_96) (show q_ix 11 11 136 from ⟨by decide, by decide⟩) ?_
          rw [hlen]
          refine r_ic_ge f_R_says_14 (fun h14 => absurd h14 (nI_ge (by omega) (by omega))) (fun h14 => ?_)
          refine r_ald0 f_R_says_17 ?_
          refine r_gr f_R_says_18 (s_95) (r_95_0) ?_
          refine r_ic f_R_says_21 ?_
          refine r_ild4 f_R_says_23 ?_
          refine r_iadd f_R_says_25 ?_
          rw [show (76 : Int32) + nI k = nI (76 + k) from nI_add 76 k]
          refine r_iald f_R_says_26 (s_96) (q_ix.nI (show 76 + k < 136 by omega) (by decide)) ?_
          rw [hR.tx hl hx]
          refine r_ist5 f_R_says_27 rfl ?_
          refine r_ild5 f_R_says_29 ?_
          refine r_ic f_R_says_31 ?_
          refine r_ic_ge f_R_says_34 (fun h34 => ?_) (fun h34 => absurd h34 (fun q => q (Int32.not_lt.mp h1)))
          refine r_ild5 f_R_says_74 ?_
          refine r_ic f_R_says_76 ?_
          refine r_ic_ne f_R_says_79 (fun h79 => ?_) (fun h79 => absurd h79 h2)
          refine r_ild5 f_R_says_102 ?_
          refine r_ic f_R_says_104 ?_
          refine r_ic_ne f_R_says_107 (fun h107 => ?_) (fun h107 => absurd h107 h3)
          refine r_inc3 f_R_says_160 rfl ?_
          rw [show nI (st.length + 2) + -1 = nI (st.length + 1) from by rw [show nI (st.length + 2) = nI (st.length + 1) + 1 from (nI_add _ 1).symm, Int32.add_assoc]; exact Int32.add_zero _]
          refine r_ald0 f_R_says_163 ?_
          refine r_gr f_R_says_164 (s_95) (r_95_33) ?_
          refine r_ild3 f_R_says_167 ?_
          refine r_ic f_R_says_168 ?_
          refine r_isub f_R_says_169 ?_
          rw [nI_pred]
          refine r_ild5 f_R_says_170 ?_
          refine r_ald0 f_R_says_172 ?_
          refine r_gr f_R_says_173 (s_95) (r_95_33) ?_
          refine r_ild3 f_R_says_176 ?_
          refine r_ic f_R_says_177 ?_
          refine r_isub f_R_says_178 ?_
          rw [nI_pred]
          refine r_iald f_R_says_179 (s_107) (q_ix.nI (show st.length < 60 by omega) (by decide)) ?_
          rw [p2]
          refine r_ald0 f_R_says_180 ?_
          refine r_gr f_R_says_181 (s_95) (r_95_33) ?_
          refine r_ild3 f_R_says_184 ?_
          refine r_iald f_R_says_185 (s_107) (q_ix.nI (show st.length + 1 < 60 by omega) (by decide)) ?_
          rw [p1]
          refine c_R_done f_R_says_186 (Nat.le_of_ble_eq_true rfl) (Nat.le_refl _) (Nat.le_refl _) ?_
          refine k_R_done ?_
          refine r_iast f_R_says_189 (s_107) (q_ix.nI (show st.length < 60 by omega) (by decide)) ?_
          refine r_inc4 f_R_says_190 rfl ?_
          rw [nI_1]
          refine r_goto f_R_says_193 ?_
          refine r_drop5 ?_
          exact hgo _ p3.push (hR.rows hl (fun x y w => u2_ne (Or.inl (by omega)))) (hg.tr (q_ag.rf.u2 rfl)) hsl
theorem WFt.dep {tx : List Int32} (h : WFt tx) (hn : ¬ tx = []) : q_dep tx 0 = some 1 := h.2.2.resolve_left hn
theorem k_R_says {f p : Nat} (hf : f < 8) (hR : RR I 96 D) (hW : WFd D) (hn : ¬ D.2.2.2.2 = []) (hk : ∀ I', q_ag (fun x _ => x = 107) I I' → K (some (.int (sp_gives D f p))) SH RF I' L) : WW G (d + 2) mt_R_says 0 [some (.ref 95), some (.int (nI f)), some (.int (nI p)), none, none, none] [] SH RF I L 0 0 0 0 K := by
  have hl := hW.2.2.2.2.2.2.2.1
  rw [show sp_gives D f p = _ from if_neg hn] at hk
  refine r_ic f_R_says_0 ?_
  refine r_ist3 f_R_says_1 rfl ?_
  refine r_ic f_R_says_2 ?_
  refine r_ist4 f_R_says_3 rfl ?_
  exact k_R_says_loop hf hW hl hk D.2.2.2.2 [] 0 I rfl (Nat.le_refl _) trivial hR (hW.2.2.2.2.2.2.2.dep hn) rfl q_ag.rf (Nat.zero_add _)
theorem RR.n0 (h : RR I 96 D) (hl : D.2.2.2.2.length ≤ 60) : nI D.2.2.2.2.length ≤ 0 ↔ D.2.2.2.2 = [] := by
  constructor
  · intro q
    have := (nI_leI (b := 0) (by omega) (by decide)).mp q
    exact List.length_eq_zero_iff.mp (by omega)
  · intro q
    rw [q]
    decide
theorem RR.l107 (h : RR I 96 D) (hl : D.2.2.2.2.length ≤ 60) (hg : q_ag (fun x _ => x = 107) I I') : RR I' 96 D := h.rows hl (fun x y w => hg x y (by omega))
theorem sp_clamp_hi {v : Int64} (h : 99999 < v) : sp_clamp v = 99999 := by
  unfold sp_clamp
  rw [if_pos h]
  decide
theorem sp_clamp_lo {v : Int64} (h : v < 0) : sp_clamp v = 0 := by
  unfold sp_clamp
  rw [if_neg (fun q => absurd (Int64.lt_trans q h) (by decide)), if_pos h]
  decide
theorem sp_clamp_mid {v : Int64} (h0 : 0 ≤ v) (h : v ≤ 99999) : sp_clamp v = v.toInt32 := by
  unfold sp_clamp
  rw [if_neg (Int64.not_lt.mpr h), if_neg (Int64.not_lt.mpr h0)]
theorem k_R_paysAt {f p : Nat} (hf : f < 8) (hR : RR I 96 D) (hW : WFd D) (hk : ∀ I', q_ag (fun x _ => x = 107) I I' → K (some (.int (sp_pays (D.1 f 2) (sp_gives D f p)))) SH RF I' L) : WW G (d + 3) mt_R_paysAt 0 [some (.ref 95), some (.int (nI f)), some (.int (nI p)), none, none] [] SH RF I L 0 0 0 0 K := by
  have hl := hW.2.2.2.2.2.2.2.1
  refine r_ald0 f_R_paysAt_0 ?_
  refine r_ild1 f_R_paysAt_1 ?_
  refine r_ic f_R_paysAt_2 ?_
  refine c_R_get f_R_paysAt_3 (s_95) (Nat.le_of_ble_eq_true rfl) (Nat.le_refl _) (Nat.le_refl _) ?_
  refine k_R_get (k := 2) hf (by decide) hR ?_
  refine r_i2l f_R_paysAt_6 ?_
  refine r_ald0 f_R_paysAt_7 ?_
  refine r_gr f_R_paysAt_8 (s_95) (r_95_0) ?_
  refine r_ic f_R_paysAt_11 ?_
  refine r_iald f_R_paysAt_13 (s_96) (show q_ix 11 11 136 from ⟨by decide, by decide⟩) ?_
  rw [hR.2]
  refine r_if_le f_R_paysAt_14 (fun h14 => ?_) (fun h14 => ?_)
  · replace hk := hk I q_ag.rf
    rw [show sp_gives D f p = 100 from if_pos ((hR.n0 hl).mp h14)] at hk
    refine r_ic f_R_paysAt_26 ?_
    refine r_i2l f_R_paysAt_28 ?_
    refine r_lmul f_R_paysAt_29 ?_
    refine r_lc f_R_paysAt_30 ?_
    refine r_ldiv f_R_paysAt_33 (by decide) ?_
    refine r_lst3 f_R_paysAt_34 (by decide) rfl ?_
    refine r_lld3 f_R_paysAt_35 ?_
    refine r_lc f_R_paysAt_36 ?_
    refine r_lcmp f_R_paysAt_37 ?_
    refine r_if_ge f_R_paysAt_38 (fun h38 => ?_) (fun h38 => ?_)
    · refine r_lld3 f_R_paysAt_45 ?_
      refine r_lc f_R_paysAt_46 ?_
      refine r_lcmp f_R_paysAt_49 ?_
      refine r_if_le f_R_paysAt_50 (fun h50 => ?_) (fun h50 => ?_)
      · refine r_lld3 f_R_paysAt_58 ?_
        refine r_l2i f_R_paysAt_59 ?_
        refine r_iret f_R_paysAt_60 ⟨_, rfl, rfl⟩ (Nat.le_refl _) (Nat.le_refl _) ?_
        unfold sp_pays at hk
        first
          | rw [sp_clamp_lo (Int64.not_le.mp (fun w => h38 (q_lcmp.2.2.1.mpr w)))] at hk
            exact hk
          | rw [sp_clamp_hi (Int64.not_le.mp (fun w => h50 (q_lcmp.2.2.2.2.mpr w)))] at hk
            exact hk
          | rw [sp_clamp_mid (q_lcmp.2.2.1.mp h38) (q_lcmp.2.2.2.2.mp h50)] at hk
            exact hk
      · refine r_ic f_R_paysAt_53 ?_
        refine r_goto f_R_paysAt_55 ?_
        refine r_iret f_R_paysAt_60 ⟨_, rfl, rfl⟩ (Nat.le_refl _) (Nat.le_refl _) ?_
        unfold sp_pays at hk
        first
          | rw [sp_clamp_lo (Int64.not_le.mp (fun w => h38 (q_lcmp.2.2.1.mpr w)))] at hk
            exact hk
          | rw [sp_clamp_hi (Int64.not_le.mp (fun w => h50 (q_lcmp.2.2.2.2.mpr w)))] at hk
            exact hk
          | rw [sp_clamp_mid (q_lcmp.2.2.1.mp h38) (q_lcmp.2.2.2.2.mp h50)] at hk
            exact hk
    · refine r_ic f_R_paysAt_41 ?_
      refine r_goto f_R_paysAt_42 ?_
      refine r_iret f_R_paysAt_60 ⟨_, rfl, rfl⟩ (Nat.le_refl _) (Nat.le_refl _) ?_
      unfold sp_pays at hk
      first
        | rw [sp_clamp_lo (Int64.not_le.mp (fun w => h38 (q_lcmp.2.2.1.mpr w)))] at hk
          exact hk
        | rw [sp_clamp_hi (Int64.not_le.mp (fun w => h50 (q_lcmp.2.2.2.2.mpr w)))] at hk
          exact hk
        | rw [sp_clamp_mid (q_lcmp.2.2.1.mp h38) (q_lcmp.2.2.2.2.mp h50)] at hk
          exact hk
  · refine r_ald0 f_R_paysAt_17 ?_
    refine r_ild1 f_R_paysAt_18 ?_
    refine r_ild2 f_R_paysAt_19 ?_
    refine c_R_says f_R_paysAt_20 (s_95) (Nat.le_of_ble_eq_true rfl) (Nat.le_refl _) (Nat.le_refl _) ?_
    refine k_R_says hf hR hW (fun q => h14 ((hR.n0 hl).mpr q)) (fun I2 hg2 => ?_)
    replace hk := hk I2 hg2
    refine r_goto f_R_paysAt_23 ?_
    refine r_i2l f_R_paysAt_28 ?_
    refine r_lmul f_R_paysAt_29 ?_
    refine r_lc f_R_paysAt_30 ?_
    refine r_ldiv f_R_paysAt_33 (by decide) ?_
    refine r_lst3 f_R_paysAt_34 (by decide) rfl ?_
    refine r_lld3 f_R_paysAt_35 ?_
    refine r_lc f_R_paysAt_36 ?_
    refine r_lcmp f_R_paysAt_37 ?_
    refine r_if_ge f_R_paysAt_38 (fun h38 => ?_) (fun h38 => ?_)
    · refine r_lld3 f_R_paysAt_45 ?_
      refine r_lc f_R_paysAt_46 ?_
      refine r_lcmp f_R_paysAt_49 ?_
      refine r_if_le f_R_paysAt_50 (fun h50 => ?_) (fun h50 => ?_)
      · refine r_lld3 f_R_paysAt_58 ?_
        refine r_l2i f_R_paysAt_59 ?_
        refine r_iret f_R_paysAt_60 ⟨_, rfl, rfl⟩ (Nat.le_refl _) (Nat.le_refl _) ?_
        unfold sp_pays at hk
        first
          | rw [sp_clamp_lo (Int64.not_le.mp (fun w => h38 (q_lcmp.2.2.1.mpr w)))] at hk
            exact hk
          | rw [sp_clamp_hi (Int64.not_le.mp (fun w => h50 (q_lcmp.2.2.2.2.mpr w)))] at hk
            exact hk
          | rw [sp_clamp_mid (q_lcmp.2.2.1.mp h38) (q_lcmp.2.2.2.2.mp h50)] at hk
            exact hk
      · refine r_ic f_R_paysAt_53 ?_
        refine r_goto f_R_paysAt_55 ?_
        refine r_iret f_R_paysAt_60 ⟨_, rfl, rfl⟩ (Nat.le_refl _) (Nat.le_refl _) ?_
        unfold sp_pays at hk
        first
          | rw [sp_clamp_lo (Int64.not_le.mp (fun w => h38 (q_lcmp.2.2.1.mpr w)))] at hk
            exact hk
          | rw [sp_clamp_hi (Int64.not_le.mp (fun w => h50 (q_lcmp.2.2.2.2.mpr w)))] at hk
            exact hk
          | rw [sp_clamp_mid (q_lcmp.2.2.1.mp h38) (q_lcmp.2.2.2.2.mp h50)] at hk
            exact hk
    · refine r_ic f_R_paysAt_41 ?_
      refine r_goto f_R_paysAt_42 ?_
      refine r_iret f_R_paysAt_60 ⟨_, rfl, rfl⟩ (Nat.le_refl _) (Nat.le_refl _) ?_
      unfold sp_pays at hk
      first
        | rw [sp_clamp_lo (Int64.not_le.mp (fun w => h38 (q_lcmp.2.2.1.mpr w)))] at hk
          exact hk
        | rw [sp_clamp_hi (Int64.not_le.mp (fun w => h50 (q_lcmp.2.2.2.2.mpr w)))] at hk
          exact hk
        | rw [sp_clamp_mid (q_lcmp.2.2.1.mp h38) (q_lcmp.2.2.2.2.mp h50)] at hk
          exact hk
theorem k_R_wantsBy {f : Nat} {y : Int32} (hf : f < dC D) (hR : RR I 96 D) (hW : WFd D) (hk : K (some (.int (sp_wants (D.1 f 0) (D.1 f 6) y (D.2.2.2.1 1)))) SH RF I L) : WW G (d + 1) mt_R_wantsBy 0 [some (.ref 95), some (.int (nI f)), some (.int y)] [] SH RF I L 0 0 0 0 K := by
  have hf8 : f < 8 := by have := hW.1.1; omega
  obtain ⟨n6, _, n62, n63⟩ := hW.2.2.2.1 f 6 hf (by decide) (by decide)
  have z2 : q_fmax 6 = 9 := rfl
  have e4 : q_within (D.1 f 6) 0 4 = if 4 < D.1 f 6 then 4 else D.1 f 6 := by
    rw [n63]
    unfold q_within
    rw [if_pos (nI_pos' (by omega))]
    by_cases h : 4 < nI n6
    · rw [if_pos h, if_neg (Int32.not_le.mpr h)]
    · rw [if_neg h, if_pos (Int32.not_lt.mp h)]
  unfold sp_wants at hk
  refine r_ald0 f_R_wantsBy_0 ?_
  refine r_ild1 f_R_wantsBy_1 ?_
  refine r_ic f_R_wantsBy_2 ?_
  refine c_R_get f_R_wantsBy_3 (s_95) (Nat.le_of_ble_eq_true rfl) (Nat.le_refl _) (Nat.le_refl _) ?_
  refine k_R_get (k := 0) hf8 (by decide) hR ?_
  refine r_sw f_R_wantsBy_6 ?_
  refine r_swc (k := 1) (by decide) (fun e6_1 => ?_) (fun e6_1 => ?_)
  · first | rw [if_pos e6_1] at hk | rw [if_neg e6_1, if_pos e6_5] at hk
    refine r_ic f_R_wantsBy_40 ?_
    refine r_iret f_R_wantsBy_41 ⟨_, rfl, rfl⟩ (Nat.le_refl _) (Nat.le_refl _) ?_
    exact hk
  refine r_swc (k := 2) (by decide) (fun e6_2 => ?_) (fun e6_2 => ?_)
  · first | rw [if_neg e6_1, if_neg e6_5, if_neg e6_3, if_neg e6_4] at hk | rw [if_neg e6_1, if_neg (show ¬ D.1 f 0 = 5 by rw [e6_2]; decide), if_neg (show ¬ D.1 f 0 = 3 by rw [e6_2]; decide), if_neg (show ¬ D.1 f 0 = 4 by rw [e6_2]; decide)] at hk
    refine r_ild2 f_R_wantsBy_70 ?_
    refine r_iret f_R_wantsBy_71 ⟨_, rfl, rfl⟩ (Nat.le_refl _) (Nat.le_refl _) ?_
    exact hk
  refine r_swc (k := 3) (by decide) (fun e6_3 => ?_) (fun e6_3 => ?_)
  · rw [if_neg e6_1, if_neg (show ¬ D.1 f 0 = 5 by rw [e6_3]; decide), if_pos e6_3] at hk
    refine r_ild2 f_R_wantsBy_42 ?_
    refine r_ild2 f_R_wantsBy_43 ?_
    refine r_ic f_R_wantsBy_44 ?_
    refine r_idiv f_R_wantsBy_45 (by decide) ?_
    refine r_ald0 f_R_wantsBy_46 ?_
    refine r_ild1 f_R_wantsBy_47 ?_
    refine r_ic f_R_wantsBy_48 ?_
    refine c_R_get f_R_wantsBy_50 (s_95) (Nat.le_of_ble_eq_true rfl) (Nat.le_refl _) (Nat.le_refl _) ?_
    refine k_R_get (k := 6) hf8 (by decide) hR ?_
    refine r_ic f_R_wantsBy_53 ?_
    refine r_ic f_R_wantsBy_54 ?_
    refine c_R_within f_R_wantsBy_55 (Nat.le_of_ble_eq_true rfl) (Nat.le_refl _) (Nat.le_refl _) ?_
    refine k_R_within ?_
    rw [e4]
    refine r_imul f_R_wantsBy_58 ?_
    refine r_iadd f_R_wantsBy_59 ?_
    refine r_iret f_R_wantsBy_60 ⟨_, rfl, rfl⟩ (Nat.le_refl _) (Nat.le_refl _) ?_
    exact hk
  refine r_swc (k := 4) (by decide) (fun e6_4 => ?_) (fun e6_4 => ?_)
  · rw [if_neg e6_1, if_neg (show ¬ D.1 f 0 = 5 by rw [e6_4]; decide), if_neg e6_3, if_pos e6_4] at hk
    refine r_ild2 f_R_wantsBy_61 ?_
    refine r_ald0 f_R_wantsBy_62 ?_
    refine r_gr f_R_wantsBy_63 (s_95) (r_95_0) ?_
    refine r_ic f_R_wantsBy_66 ?_
    refine r_iald f_R_wantsBy_67 (s_96) (show q_ix 1 1 136 from ⟨by decide, by decide⟩) ?_
    rw [hR.s (k := 1) (by decide)]
    refine r_imul f_R_wantsBy_68 ?_
    refine r_iret f_R_wantsBy_69 ⟨_, rfl, rfl⟩ (Nat.le_refl _) (Nat.le_refl _) ?_
    exact hk
  refine r_swc (k := 5) (by decide) (fun e6_5 => ?_) (fun e6_5 => ?_)
  · first | rw [if_pos e6_1] at hk | rw [if_neg e6_1, if_pos e6_5] at hk
    refine r_ic f_R_wantsBy_40 ?_
    refine r_iret f_R_wantsBy_41 ⟨_, rfl, rfl⟩ (Nat.le_refl _) (Nat.le_refl _) ?_
    exact hk
  refine r_swn ?_
  first | rw [if_neg e6_1, if_neg e6_5, if_neg e6_3, if_neg e6_4] at hk | rw [if_neg e6_1, if_neg (show ¬ D.1 f 0 = 5 by rw [e6_2]; decide), if_neg (show ¬ D.1 f 0 = 3 by rw [e6_2]; decide), if_neg (show ¬ D.1 f 0 = 4 by rw [e6_2]; decide)] at hk
  refine r_ild2 f_R_wantsBy_70 ?_
  refine r_iret f_R_wantsBy_71 ⟨_, rfl, rfl⟩ (Nat.le_refl _) (Nat.le_refl _) ?_
  exact hk
theorem k_R_minds {f : Nat} (hf : f < dC D) (hR : RR I 96 D) (hW : WFd D) (hk : K (some (.int (sp_minds (D.1 f 0) (D.1 f 3) (D.1 f 6)))) SH RF I L) : WW G (d + 1) mt_R_minds 0 [some (.ref 95), some (.int (nI f)), none, none] [] SH RF I L 0 0 0 0 K := by
  have hf8 : f < 8 := by have := hW.1.1; omega
  obtain ⟨n6, _, n62, n63⟩ := hW.2.2.2.1 f 6 hf (by decide) (by decide)
  obtain ⟨n3, _, n32, n33⟩ := hW.2.2.2.1 f 3 hf (by decide) (by decide)
  have z2 : q_fmax 6 = 9 := rfl
  have z3 : q_fmax 3 = 999 := rfl
  have e9 : q_within (D.1 f 3 - 10 * D.1 f 6) 0 999 = if D.1 f 3 - 10 * D.1 f 6 < 0 then 0 else D.1 f 3 - 10 * D.1 f 6 := by
    rw [n63, n33, show (10 : Int32) * nI n6 = nI (10 * n6) from pk_mul 10 n6]
    unfold q_within
    by_cases h : nI n3 - nI (10 * n6) < 0
    · rw [if_pos h, if_neg (Int32.not_le.mpr h)]
    · rw [if_neg h, if_pos (Int32.not_lt.mp h), if_pos ?_]
      apply Int32.le_iff_toInt_le.mpr
      rw [pk_sub_toInt (by omega) (by omega)]
      have e8 : (999 : Int32).toInt = 999 := by decide
      omega
  unfold sp_minds at hk
  refine r_ald0 f_R_minds_0 ?_
  refine r_ild1 f_R_minds_1 ?_
  refine r_ic f_R_minds_2 ?_
  refine c_R_get f_R_minds_3 (s_95) (Nat.le_of_ble_eq_true rfl) (Nat.le_refl _) (Nat.le_refl _) ?_
  refine k_R_get (k := 3) hf8 (by decide) hR ?_
  refine r_ist2 f_R_minds_6 rfl ?_
  refine r_ald0 f_R_minds_7 ?_
  refine r_ild1 f_R_minds_8 ?_
  refine r_ic f_R_minds_9 ?_
  refine c_R_get f_R_minds_10 (s_95) (Nat.le_of_ble_eq_true rfl) (Nat.le_refl _) (Nat.le_refl _) ?_
  refine k_R_get (k := 0) hf8 (by decide) hR ?_
  refine r_ist3 f_R_minds_13 rfl ?_
  refine r_ild3 f_R_minds_14 ?_
  refine r_ic f_R_minds_15 ?_
  refine r_ic_ne f_R_minds_16 (fun h16 => ?_) (fun h16 => ?_)
  · refine r_ild3 f_R_minds_25 ?_
    refine r_ic f_R_minds_26 ?_
    refine r_ic_ne f_R_minds_27 (fun h27 => ?_) (fun h27 => ?_)
    · refine r_ild2 f_R_minds_52 ?_
      refine r_iret f_R_minds_53 ⟨_, rfl, rfl⟩ (Nat.le_refl _) (Nat.le_refl _) ?_
      first
        | rw [if_pos h16] at hk
          exact hk
        | rw [if_neg h16, if_pos h27] at hk
          exact hk
        | rw [if_neg h16, if_neg h27] at hk
          exact hk
    · refine r_ild2 f_R_minds_30 ?_
      refine r_ic f_R_minds_31 ?_
      refine r_ald0 f_R_minds_33 ?_
      refine r_ild1 f_R_minds_34 ?_
      refine r_ic f_R_minds_35 ?_
      refine c_R_get f_R_minds_37 (s_95) (Nat.le_of_ble_eq_true rfl) (Nat.le_refl _) (Nat.le_refl _) ?_
      refine k_R_get (k := 6) hf8 (by decide) hR ?_
      refine r_imul f_R_minds_40 ?_
      refine r_isub f_R_minds_41 ?_
      refine r_ic f_R_minds_42 ?_
      refine r_ic f_R_minds_43 ?_
      refine c_R_within f_R_minds_46 (Nat.le_of_ble_eq_true rfl) (Nat.le_refl _) (Nat.le_refl _) ?_
      refine k_R_within ?_
      rw [e9]
      refine r_goto f_R_minds_49 ?_
      refine r_iret f_R_minds_53 ⟨_, rfl, rfl⟩ (Nat.le_refl _) (Nat.le_refl _) ?_
      first
        | rw [if_pos h16] at hk
          exact hk
        | rw [if_neg h16, if_pos h27] at hk
          exact hk
        | rw [if_neg h16, if_neg h27] at hk
          exact hk
  · refine r_ild2 f_R_minds_19 ?_
    refine r_ic f_R_minds_20 ?_
    refine r_idiv f_R_minds_21 (by decide) ?_
    refine r_goto f_R_minds_22 ?_
    refine r_iret f_R_minds_53 ⟨_, rfl, rfl⟩ (Nat.le_refl _) (Nat.le_refl _) ?_
    first
      | rw [if_pos h16] at hk
        exact hk
      | rw [if_neg h16, if_pos h27] at hk
        exact hk
      | rw [if_neg h16, if_neg h27] at hk
        exact hk
end L52
