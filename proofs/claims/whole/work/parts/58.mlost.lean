section L58
variable {G : Gx} {d : Nat} {I I' I2 : Rn} {L L' L2 : Rl} {K : Kt} {σ : St} {D : Dst}
theorem q_aL.mo {P P2 : Nat → Nat → Prop} (h : q_aL P L L') (hp : ∀ x y, P x y → P2 x y) : q_aL P2 L L' := fun x y hn => h x y (fun q => hn (hp x y q))
def FM : Nat → Nat → Prop := fun x y => (x = 95 ∧ y ≠ 3 ∧ y ≠ 5 ∧ y ≠ 25) ∨ x = 98 ∨ x = 100 ∨ x = 101 ∨ x = 102 ∨ x = 103 ∨ x = 105 ∨ x = 106 ∨ x = 107 ∨ x = 108 ∨ x = 112
def FML : Nat → Nat → Prop := fun x _ => x = 95 ∨ x = 101 ∨ x = 112
def FN : Nat → Nat → Prop := fun x y => x = 96 ∨ FM x y
def F96 : Nat → Nat → Prop := fun x y => x = 96 ∨ FRm x y
theorem FRm_FM (x y : Nat) (h : FRm x y) : FM x y := by unfold FRm at h; unfold FM; omega
theorem FRl_FML (x y : Nat) (h : FRl x y) : FML x y := by unfold FRl at h; unfold FML; omega
theorem F96_FN (x y : Nat) (h : F96 x y) : FN x y := h.elim Or.inl (fun q => Or.inr (FRm_FM x y q))
theorem RepM.ll (h : RepM I L σ) (hl : q_aL FML L L') : RepM I L' σ := ⟨h.1, h.2.1, h.2.2.1, h.2.2.2.1, fun s hs => ⟨(h.2.2.2.2 s hs).1, (h.2.2.2.2 s hs).2.1, fun j hj => (hl _ _ (by unfold FML; omega)).trans ((h.2.2.2.2 s hs).2.2 j hj)⟩⟩
theorem RepM.fmN (h : RepM I L σ) (hW : WFs σ) (hR : RR I' 96 D) (hg : q_ag FN I I') (hl : q_aL FML L L') : RepM I' L' (zN σ D) := (h.now hW hR (fun x y q => hg x y (by unfold m_obs at q; unfold FN FM; omega))).ll hl
theorem RepM.fm (h : RepM I L σ) (hW : WFs σ) (hg : q_ag FM I I') (hl : q_aL FML L L') : RepM I' L' σ := h.fmN hW (h.1.rows hW.1.2.2.2.2.2.2.2.1 (fun x y w => hg x y (by unfold FM; omega))) (hg.mo (fun x y q => Or.inr q)) hl
theorem q_lw.fmN (hg : q_ag FN I I') (hl : q_aL FML L L') : q_lw I I' L L' := fun x y hx => ⟨hg x y (by unfold FN FM; omega), hl x y (by unfold FML; omega)⟩
theorem q_lw.fm (hg : q_ag FM I I') (hl : q_aL FML L L') : q_lw I I' L L' := q_lw.fmN (hg.mo (fun x y q => Or.inr q)) hl
theorem RR.frm (h : RR I 96 D) (hW : WFd D) (hg : q_ag FRm I I') : RR I' 96 D := h.rows hW.2.2.2.2.2.2.2.1 (fun x y w => hg x y (by unfold FRm; omega))
theorem k_R_lostThere {r : Nat → Int32} (hm : MR I L r) (hR : RR I 96 D) (hk : K (some (.long (sp_loses (r 11) (r 12) (r 6) (r 5) (D.2.2.1 2)))) SH RF I L) : WW G d mt_R_lostThere 0 [some (.ref 95)] [] SH RF I L 0 0 0 0 K := by
  refine r_ald0 f_R_lostThere_0 ?_
  refine r_gl f_R_lostThere_1 (s_95) ?_
  rw [hm.2.1.2.1]
  refine r_ald0 f_R_lostThere_4 ?_
  refine r_gi f_R_lostThere_5 (s_95) ?_
  rw [hm.2.2.2.2.2.1]
  refine r_i2l f_R_lostThere_8 ?_
  refine r_lmul f_R_lostThere_9 ?_
  refine r_ald0 f_R_lostThere_10 ?_
  refine r_gl f_R_lostThere_11 (s_95) ?_
  rw [hm.2.1.2.2]
  refine r_ald0 f_R_lostThere_14 ?_
  refine r_gr f_R_lostThere_15 (s_95) (r_95_0) ?_
  refine r_ic f_R_lostThere_18 ?_
  refine r_iald f_R_lostThere_20 (s_96) (show q_ix 7 7 136 from ⟨by decide, by decide⟩) ?_
  rw [hR.u (k := 2) (by decide)]
  refine r_i2l f_R_lostThere_21 ?_
  refine r_lmul f_R_lostThere_22 ?_
  refine r_ladd f_R_lostThere_23 ?_
  refine r_lret f_R_lostThere_24 rfl (Nat.le_refl _) (Nat.le_refl _) ?_
  exact hk
theorem k_R_meets {c : Nat} (hc : I 96 10 = nI c) (hc8 : c ≤ 8) (hk : K (some (.int (nI (sp_mc c)))) SH RF I L) : WW G d mt_R_meets 0 [some (.ref 95)] [] SH RF I L 0 0 0 0 K := by
  unfold sp_mc at hk
  refine r_ald0 f_R_meets_0 ?_
  refine r_gr f_R_meets_1 (s_95) (r_95_0) ?_
  refine r_ic f_R_meets_4 ?_
  refine r_iald f_R_meets_6 (s_96) (show q_ix 10 10 136 from ⟨by decide, by decide⟩) ?_
  rw [hc]
  refine r_ic f_R_meets_7 ?_
  refine r_ic_ge f_R_meets_8 (fun h8 => ?_) (fun h8 => ?_)
  · refine r_ald0 f_R_meets_15 ?_
    refine r_gr f_R_meets_16 (s_95) (r_95_0) ?_
    refine r_ic f_R_meets_19 ?_
    refine r_iald f_R_meets_21 (s_96) (show q_ix 10 10 136 from ⟨by decide, by decide⟩) ?_
    rw [if_neg (show ¬ c < 2 from Nat.not_lt.mpr ((nI_leI (a := 2) (by decide) (by omega)).mp h8)), ← hc] at hk
    refine r_iret f_R_meets_22 ⟨_, rfl, rfl⟩ (Nat.le_refl _) (Nat.le_refl _) ?_
    exact hk
  · refine r_ic f_R_meets_11 ?_
    refine r_goto f_R_meets_12 ?_
    rw [if_pos (show c < 2 from Nat.not_le.mp (fun q => h8 (nI_le (a := 2) q (by omega))))] at hk
    refine r_iret f_R_meets_22 ⟨_, rfl, rfl⟩ (Nat.le_refl _) (Nat.le_refl _) ?_
    exact hk
theorem k_R_lostAll_loop (hW : WFd D) (hk : ∀ I' L', RR I' 96 D → q_ag FRm I I' → q_aL FRl L L' → K (some (.long (sp_lost D))) SH RF I' L') : ∀ (m p : Nat) (I' : Rn) (L' : Rl), m + p = sp_mc (dC D) → RR I' 96 D → q_ag FRm I I' → q_aL FRl L L' → WW G (d + 6) mt_R_lostAll 4 [some (.ref 95), some (.long (sp_lsum D p)), none, some (.int (nI p))] [] SH RF I' L' 0 0 0 0 K
  | 0, p, I', L', h, hR, hg, hl => by
    have ep : p = sp_mc (dC D) := by omega
    have hc8 := hW.1.1
    subst ep
    refine r_ild3 f_R_lostAll_4 ?_
    refine r_ald0 f_R_lostAll_5 ?_
    refine c_R_meets f_R_lostAll_6 (s_95) (Nat.le_of_ble_eq_true rfl) (Nat.le_refl _) (Nat.le_refl _) ?_
    refine k_R_meets (hR.cnt hW) hc8 ?_
    refine r_ic_ge f_R_lostAll_9 (fun h9 => ?_) (fun h9 => absurd h9 (fun q => q (Int32.le_refl _)))
    refine r_lld1 f_R_lostAll_30 ?_
    refine r_lret f_R_lostAll_31 rfl (Nat.le_refl _) (Nat.le_refl _) ?_
    exact hk I' L' hR hg hl
  | m + 1, p, I', L', h, hR, hg, hl => by
    have hc8 := hW.1.1
    have hmc := sp_mc_le (dC D)
    refine r_ild3 f_R_lostAll_4 ?_
    refine r_ald0 f_R_lostAll_5 ?_
    refine c_R_meets f_R_lostAll_6 (s_95) (Nat.le_of_ble_eq_true rfl) (Nat.le_refl _) (Nat.le_refl _) ?_
    refine k_R_meets (hR.cnt hW) hc8 ?_
    refine r_ic_ge f_R_lostAll_9 (fun h9 => absurd h9 (nI_ge (by omega) (by omega))) (fun h9 => ?_)
    refine r_ald0 f_R_lostAll_12 ?_
    refine r_ild3 f_R_lostAll_13 ?_
    refine c_R_findMeet f_R_lostAll_14 (s_95) (Nat.le_of_ble_eq_true rfl) (Nat.le_refl _) (Nat.le_refl _) ?_
    refine k_R_findMeet (show p < dC D by omega) hR hW (fun I9 L9 m9 g9 l9 => ?_)
    have hR9 := hR.frm hW g9
    refine r_lld1 f_R_lostAll_17 ?_
    refine r_ald0 f_R_lostAll_18 ?_
    refine c_R_lostThere f_R_lostAll_19 (s_95) (Nat.le_of_ble_eq_true rfl) (Nat.le_refl _) (Nat.le_refl _) ?_
    refine k_R_lostThere m9 hR9 ?_
    refine r_ladd f_R_lostAll_22 ?_
    refine r_lst1 f_R_lostAll_23 (by decide) rfl ?_
    refine r_inc3 f_R_lostAll_24 rfl ?_
    rw [nI_1]
    refine r_goto f_R_lostAll_27 ?_
    exact k_R_lostAll_loop hW hk m (p + 1) I9 L9 (by omega) hR9 (hg.tr g9) (hl.tr l9)
theorem k_R_lostAll (hW : WFd D) (hR : RR I 96 D) (hk : ∀ I' L', RR I' 96 D → q_ag FRm I I' → q_aL FRl L L' → K (some (.long (sp_lost D))) SH RF I' L') : WW G (d + 6) mt_R_lostAll 0 [some (.ref 95), none, none, none] [] SH RF I L 0 0 0 0 K := by
  refine r_lc f_R_lostAll_0 ?_
  refine r_lst1 f_R_lostAll_1 (by decide) rfl ?_
  refine r_ic f_R_lostAll_2 ?_
  refine r_ist3 f_R_lostAll_3 rfl ?_
  exact k_R_lostAll_loop hW hk _ 0 I L (Nat.add_zero _) hR q_ag.rf q_aL.rf
theorem q_i2l_lt {x y : Int32} : x.toInt64 < y.toInt64 ↔ x < y := by rw [Int64.lt_iff_toInt_lt, Int32.lt_iff_toInt_lt, Int32.toInt_toInt64, Int32.toInt_toInt64]
theorem q_i2l_le {x y : Int32} : x.toInt64 ≤ y.toInt64 ↔ x ≤ y := by rw [Int64.le_iff_toInt_le, Int32.le_iff_toInt_le, Int32.toInt_toInt64, Int32.toInt_toInt64]
theorem q_i2l_eq {x y : Int32} : x.toInt64 = y.toInt64 ↔ x = y := by rw [← Int64.toInt_inj, ← Int32.toInt_inj, Int32.toInt_toInt64, Int32.toInt_toInt64]
theorem k_R_mostTaking_loop (hW : WFd D) (hk : ∀ I' L', RR I' 96 D → q_ag FRm I I' → q_aL FRl L L' → K (some (.long (sp_great D).toInt64)) SH RF I' L') : ∀ (m p : Nat) (I' : Rn) (L' : Rl), m + p = sp_mc (dC D) → RR I' 96 D → q_ag FRm I I' → q_aL FRl L L' → WW G (d + 6) mt_R_mostTaking 4 [some (.ref 95), some (.long (sp_gt D p).toInt64), none, some (.int (nI p))] [] SH RF I' L' 0 0 0 0 K
  | 0, p, I', L', h, hR, hg, hl => by
    have ep : p = sp_mc (dC D) := by omega
    have hc8 := hW.1.1
    subst ep
    refine r_ild3 f_R_mostTaking_4 ?_
    refine r_ald0 f_R_mostTaking_5 ?_
    refine c_R_meets f_R_mostTaking_6 (s_95) (Nat.le_of_ble_eq_true rfl) (Nat.le_refl _) (Nat.le_refl _) ?_
    refine k_R_meets (hR.cnt hW) hc8 ?_
    refine r_ic_ge f_R_mostTaking_9 (fun h9 => ?_) (fun h9 => absurd h9 (fun q => q (Int32.le_refl _)))
    refine r_lld1 f_R_mostTaking_41 ?_
    refine r_lret f_R_mostTaking_42 rfl (Nat.le_refl _) (Nat.le_refl _) ?_
    exact hk I' L' hR hg hl
  | m + 1, p, I', L', h, hR, hg, hl => by
    have hc8 := hW.1.1
    have hmc := sp_mc_le (dC D)
    refine r_ild3 f_R_mostTaking_4 ?_
    refine r_ald0 f_R_mostTaking_5 ?_
    refine c_R_meets f_R_mostTaking_6 (s_95) (Nat.le_of_ble_eq_true rfl) (Nat.le_refl _) (Nat.le_refl _) ?_
    refine k_R_meets (hR.cnt hW) hc8 ?_
    refine r_ic_ge f_R_mostTaking_9 (fun h9 => absurd h9 (nI_ge (by omega) (by omega))) (fun h9 => ?_)
    refine r_ald0 f_R_mostTaking_12 ?_
    refine r_ild3 f_R_mostTaking_13 ?_
    refine c_R_findMeet f_R_mostTaking_14 (s_95) (Nat.le_of_ble_eq_true rfl) (Nat.le_refl _) (Nat.le_refl _) ?_
    refine k_R_findMeet (show p < dC D by omega) hR hW (fun I9 L9 m9 g9 l9 => ?_)
    have hR9 := hR.frm hW g9
    refine r_ald0 f_R_mostTaking_17 ?_
    refine r_gl f_R_mostTaking_18 (s_95) ?_
    rw [m9.2.1.1]
    refine r_lld1 f_R_mostTaking_21 ?_
    refine r_lcmp f_R_mostTaking_22 ?_
    refine r_if_le f_R_mostTaking_23 (fun h23 => ?_) (fun h23 => ?_)
    · refine r_lld1 f_R_mostTaking_33 ?_
      refine r_lst1 f_R_mostTaking_34 (by decide) rfl ?_
      refine r_inc3 f_R_mostTaking_35 rfl ?_
      rw [nI_1]
      refine r_goto f_R_mostTaking_38 ?_
      have e9 := k_R_mostTaking_loop hW hk m (p + 1) I9 L9 (by omega) hR9 (hg.tr g9) (hl.tr l9)
      first
        | rw [show sp_gt D (p + 1) = sp_mt D p 11 from if_pos (q_i2l_lt.mp (Int64.not_le.mp (fun q => h23 (q_lcmp.2.2.2.2.mpr q))))] at e9
          exact e9
        | rw [show sp_gt D (p + 1) = sp_gt D p from if_neg (Int32.not_lt.mpr (q_i2l_le.mp (q_lcmp.2.2.2.2.mp h23)))] at e9
          exact e9
    · refine r_ald0 f_R_mostTaking_26 ?_
      refine r_gl f_R_mostTaking_27 (s_95) ?_
      rw [m9.2.1.1]
      refine r_goto f_R_mostTaking_30 ?_
      refine r_lst1 f_R_mostTaking_34 (by decide) rfl ?_
      refine r_inc3 f_R_mostTaking_35 rfl ?_
      rw [nI_1]
      refine r_goto f_R_mostTaking_38 ?_
      have e9 := k_R_mostTaking_loop hW hk m (p + 1) I9 L9 (by omega) hR9 (hg.tr g9) (hl.tr l9)
      first
        | rw [show sp_gt D (p + 1) = sp_mt D p 11 from if_pos (q_i2l_lt.mp (Int64.not_le.mp (fun q => h23 (q_lcmp.2.2.2.2.mpr q))))] at e9
          exact e9
        | rw [show sp_gt D (p + 1) = sp_gt D p from if_neg (Int32.not_lt.mpr (q_i2l_le.mp (q_lcmp.2.2.2.2.mp h23)))] at e9
          exact e9
theorem k_R_mostTaking (hW : WFd D) (hR : RR I 96 D) (hk : ∀ I' L', RR I' 96 D → q_ag FRm I I' → q_aL FRl L L' → K (some (.long (sp_great D).toInt64)) SH RF I' L') : WW G (d + 6) mt_R_mostTaking 0 [some (.ref 95), none, none, none] [] SH RF I L 0 0 0 0 K := by
  refine r_lc f_R_mostTaking_0 ?_
  refine r_lst1 f_R_mostTaking_1 (by decide) rfl ?_
  refine r_ic f_R_mostTaking_2 ?_
  refine r_ist3 f_R_mostTaking_3 rfl ?_
  exact k_R_mostTaking_loop hW hk _ 0 I L (Nat.add_zero _) hR q_ag.rf q_aL.rf
theorem k_R_rest {x w : Int32} (hC : RepM I L σ) (hW : WFs σ) (hk : MK K I L (op_rest σ x w)) : WW G (d + 6) mt_R_rest 0 [some (.ref 95), some (.int x), some (.int w)] [] SH RF I L 0 0 0 0 K := by
  unfold op_rest at hk
  have hcnt := hC.1.cnt hW.1
  have hc8 := hW.1.1.1
  refine r_ald0 f_R_rest_0 ?_
  refine r_ild1 f_R_rest_1 ?_
  refine c_R_isFarm f_R_rest_2 (s_95) (Nat.le_of_ble_eq_true rfl) (Nat.le_refl _) (Nat.le_refl _) ?_
  refine k_R_isFarm hcnt hc8 (fun hx u hu eu => ?_) (fun hx => ?_)
  · subst eu
    refine r_if_eq f_R_rest_5 (fun h => absurd h (by decide)) (fun _ => ?_)
    refine r_ild2 f_R_rest_8 ?_
    refine r_ic f_R_rest_9 ?_
    refine r_ic f_R_rest_10 ?_
    refine c_R_in f_R_rest_12 (Nat.le_of_ble_eq_true rfl) (Nat.le_refl _) (Nat.le_refl _) ?_
    refine k_R_in (fun hwa hwb => ?_) (fun hw => ?_)
    · rw [if_pos (show (0 ≤ nI u ∧ nI u ≤ nI (dC σ.1) - 1) ∧ (0 ≤ w ∧ w ≤ 6) from ⟨hx, hwa, hwb⟩), nI_clamp (by omega)] at hk
      refine r_if_ne f_R_rest_15 (fun _ => ?_) (fun h => absurd h (by decide))
      refine r_ald0 f_R_rest_25 ?_
      refine c_R_meets f_R_rest_26 (s_95) (Nat.le_of_ble_eq_true rfl) (Nat.le_refl _) (Nat.le_refl _) ?_
      refine k_R_meets hcnt hc8 ?_
      refine r_if_ne f_R_rest_29 (fun h29 => ?_) (fun h29 => ?_)
      · rw [if_neg (fun q => h29 (by rw [q]; rfl))] at hk
        refine r_ald0 f_R_rest_39 ?_
        refine r_ild1 f_R_rest_40 ?_
        refine c_R_findMeet f_R_rest_41 (s_95) (Nat.le_of_ble_eq_true rfl) (Nat.le_refl _) (Nat.le_refl _) ?_
        refine k_R_findMeet hu hC.1 hW.1 (fun I9 L9 m9 g9 l9 => ?_)
        have hC9 := hC.fm hW (g9.mo FRm_FM) (l9.mo FRl_FML)
        have hi9 : q_lw I I9 L L9 := q_lw.fm (g9.mo FRm_FM) (l9.mo FRl_FML)
        obtain ⟨t, ht, et⟩ := q_inC (c := 7) (by omega) hwa hwb
        subst et
        rw [nI_clamp (by omega)] at hk
        refine r_ild2 f_R_rest_44 ?_
        refine r_sw f_R_rest_45 ?_
        refine r_swc (k := 0) (by decide) (fun e45_0 => ?_) (fun e45_0 => ?_)
        · have e : t = 0 := (nI_eq (b := 0) (by omega) (by decide)).mp e45_0
          subst e
          refine r_ald0 f_R_rest_84 ?_
          refine r_gi f_R_rest_85 (s_95) ?_
          rw [m9.1.1]
          refine r_iret f_R_rest_88 ⟨_, rfl, rfl⟩ (Nat.le_refl _) (Nat.le_refl _) ?_
          exact hk _ _ hC9 hi9
        refine r_swc (k := 1) (by decide) (fun e45_1 => ?_) (fun e45_1 => ?_)
        · have e : t = 1 := (nI_eq (b := 1) (by omega) (by decide)).mp e45_1
          subst e
          refine r_ald0 f_R_rest_89 ?_
          refine r_gi f_R_rest_90 (s_95) ?_
          rw [m9.1.2.1]
          refine r_iret f_R_rest_93 ⟨_, rfl, rfl⟩ (Nat.le_refl _) (Nat.le_refl _) ?_
          exact hk _ _ hC9 hi9
        refine r_swc (k := 2) (by decide) (fun e45_2 => ?_) (fun e45_2 => ?_)
        · have e : t = 2 := (nI_eq (b := 2) (by omega) (by decide)).mp e45_2
          subst e
          refine r_ald0 f_R_rest_94 ?_
          refine r_gi f_R_rest_95 (s_95) ?_
          rw [m9.1.2.2.1]
          refine r_iret f_R_rest_98 ⟨_, rfl, rfl⟩ (Nat.le_refl _) (Nat.le_refl _) ?_
          exact hk _ _ hC9 hi9
        refine r_swc (k := 3) (by decide) (fun e45_3 => ?_) (fun e45_3 => ?_)
        · have e : t = 3 := (nI_eq (b := 3) (by omega) (by decide)).mp e45_3
          subst e
          refine r_ald0 f_R_rest_99 ?_
          refine r_gi f_R_rest_100 (s_95) ?_
          rw [m9.1.2.2.2]
          refine r_iret f_R_rest_103 ⟨_, rfl, rfl⟩ (Nat.le_refl _) (Nat.le_refl _) ?_
          exact hk _ _ hC9 hi9
        refine r_swc (k := 4) (by decide) (fun e45_4 => ?_) (fun e45_4 => ?_)
        · have e : t = 4 := (nI_eq (b := 4) (by omega) (by decide)).mp e45_4
          subst e
          refine r_ald0 f_R_rest_104 ?_
          refine r_gl f_R_rest_105 (s_95) ?_
          rw [m9.2.1.1]
          refine r_l2i f_R_rest_108 ?_
          rw [Int32.toInt32_toInt64]
          refine r_iret f_R_rest_109 ⟨_, rfl, rfl⟩ (Nat.le_refl _) (Nat.le_refl _) ?_
          exact hk _ _ hC9 hi9
        refine r_swc (k := 5) (by decide) (fun e45_5 => ?_) (fun e45_5 => ?_)
        · have e : t = 5 := (nI_eq (b := 5) (by omega) (by decide)).mp e45_5
          subst e
          refine r_ald0 f_R_rest_110 ?_
          refine r_gl f_R_rest_111 (s_95) ?_
          rw [m9.2.1.2.1]
          refine r_l2i f_R_rest_114 ?_
          rw [Int32.toInt32_toInt64]
          refine r_iret f_R_rest_115 ⟨_, rfl, rfl⟩ (Nat.le_refl _) (Nat.le_refl _) ?_
          exact hk _ _ hC9 hi9
        refine r_swn ?_
        have e : t = 6 := by
          have n0 : t ≠ 0 := fun q => e45_0 (by rw [q]; rfl)
          have n1 : t ≠ 1 := fun q => e45_1 (by rw [q]; rfl)
          have n2 : t ≠ 2 := fun q => e45_2 (by rw [q]; rfl)
          have n3 : t ≠ 3 := fun q => e45_3 (by rw [q]; rfl)
          have n4 : t ≠ 4 := fun q => e45_4 (by rw [q]; rfl)
          have n5 : t ≠ 5 := fun q => e45_5 (by rw [q]; rfl)
          omega
        subst e
        refine r_ald0 f_R_rest_116 ?_
        refine r_gl f_R_rest_117 (s_95) ?_
        rw [m9.2.1.2.2]
        refine r_l2i f_R_rest_120 ?_
        rw [Int32.toInt32_toInt64]
        refine r_iret f_R_rest_121 ⟨_, rfl, rfl⟩ (Nat.le_refl _) (Nat.le_refl _) ?_
        exact hk _ _ hC9 hi9
      · rw [if_pos (sp_mc_z hc8 h29)] at hk
        refine r_ald0 f_R_rest_32 ?_
        refine r_ic f_R_rest_33 ?_
        refine c_R_finds f_R_rest_35 (s_95) (Nat.le_of_ble_eq_true rfl) (Nat.le_refl _) (Nat.le_refl _) ?_
        refine k_R_finds (k := 3) (by decide) (by decide) hC hW (fun I9 hC9 hi9 => ?_)
        refine r_iret f_R_rest_38 ⟨_, rfl, rfl⟩ (Nat.le_refl _) (Nat.le_refl _) ?_
        exact hk _ _ hC9 hi9
    · rw [if_neg (fun q => hw q.2)] at hk
      refine r_if_ne f_R_rest_15 (fun h => absurd h (by decide)) (fun _ => ?_)
      refine r_ald0 f_R_rest_18 ?_
      refine r_ic f_R_rest_19 ?_
      refine c_R_finds f_R_rest_21 (s_95) (Nat.le_of_ble_eq_true rfl) (Nat.le_refl _) (Nat.le_refl _) ?_
      refine k_R_finds (k := 0) (by decide) (by decide) hC hW (fun I9 hC9 hi9 => ?_)
      refine r_iret f_R_rest_24 ⟨_, rfl, rfl⟩ (Nat.le_refl _) (Nat.le_refl _) ?_
      exact hk _ _ hC9 hi9
  · rw [if_neg (fun q => hx q.1)] at hk
    refine r_if_eq f_R_rest_5 (fun _ => ?_) (fun h => absurd h (by decide))
    refine r_ald0 f_R_rest_18 ?_
    refine r_ic f_R_rest_19 ?_
    refine c_R_finds f_R_rest_21 (s_95) (Nat.le_of_ble_eq_true rfl) (Nat.le_refl _) (Nat.le_refl _) ?_
    refine k_R_finds (k := 0) (by decide) (by decide) hC hW (fun I9 hC9 hi9 => ?_)
    refine r_iret f_R_rest_24 ⟨_, rfl, rfl⟩ (Nat.le_refl _) (Nat.le_refl _) ?_
    exact hk _ _ hC9 hi9
theorem q_m1 : ∀ c, c < 9 → (-1 : Int32) ≤ nI (sp_mc c) - 1 := by decide +kernel
theorem q_ge0 {x : Int32} (h : -1 ≤ x) (hn : ¬ x = -1) : 0 ≤ x := by
  rw [Int32.le_iff_toInt_le] at h ⊢
  have e1 : (-1 : Int32).toInt = -1 := by decide
  have e0 : (0 : Int32).toInt = 0 := by decide
  have : x.toInt ≠ -1 := fun q => hn (Int32.toInt_inj.mp (q.trans e1.symm))
  omega
theorem k_R_lost {x : Int32} (hC : RepM I L σ) (hW : WFs σ) (hk : MKl K I L (op_lost σ x)) : WW G (d + 7) mt_R_lost 0 [some (.ref 95), some (.int x)] [] SH RF I L 0 0 0 0 K := by
  unfold op_lost at hk
  have hcnt := hC.1.cnt hW.1
  have hc8 := hW.1.1.1
  refine r_ild1 f_R_lost_0 ?_
  refine r_ic f_R_lost_1 ?_
  refine r_ic_ne f_R_lost_2 (fun h2 => ?_) (fun h2 => ?_)
  · refine r_ild1 f_R_lost_10 ?_
    refine r_ic f_R_lost_11 ?_
    refine r_ald0 f_R_lost_12 ?_
    refine c_R_meets f_R_lost_13 (s_95) (Nat.le_of_ble_eq_true rfl) (Nat.le_refl _) (Nat.le_refl _) ?_
    refine k_R_meets hcnt hc8 ?_
    refine r_ic f_R_lost_16 ?_
    refine r_isub f_R_lost_17 ?_
    refine c_R_in f_R_lost_18 (Nat.le_of_ble_eq_true rfl) (Nat.le_refl _) (Nat.le_refl _) ?_
    refine k_R_in (fun hxa hxb => ?_) (fun hx => ?_)
    · rw [if_pos ⟨Int32.le_trans (by decide) hxa, hxb⟩, if_pos hxa] at hk
      have hmc := sp_mc_le (dC σ.1)
      obtain ⟨u, hu, eu⟩ := q_inC (c := sp_mc (dC σ.1)) (by omega) hxa hxb
      subst eu
      rw [nI_clamp (by omega)] at hk
      refine r_if_ne f_R_lost_21 (fun _ => ?_) (fun h => absurd h (by decide))
      refine r_ald0 f_R_lost_32 ?_
      refine r_ild1 f_R_lost_33 ?_
      refine c_R_findMeet f_R_lost_34 (s_95) (Nat.le_of_ble_eq_true rfl) (Nat.le_refl _) (Nat.le_refl _) ?_
      refine k_R_findMeet (show u < dC σ.1 by omega) hC.1 hW.1 (fun I9 L9 m9 g9 l9 => ?_)
      have hC9 := hC.fm hW (g9.mo FRm_FM) (l9.mo FRl_FML)
      have hi9 : q_lw I I9 L L9 := q_lw.fm (g9.mo FRm_FM) (l9.mo FRl_FML)
      refine r_ald0 f_R_lost_37 ?_
      refine c_R_lostThere f_R_lost_38 (s_95) (Nat.le_of_ble_eq_true rfl) (Nat.le_refl _) (Nat.le_refl _) ?_
      refine k_R_lostThere m9 hC9.1 ?_
      refine r_lret f_R_lost_41 rfl (Nat.le_refl _) (Nat.le_refl _) ?_
      exact hk _ _ hC9 hi9
    · rw [if_neg (fun q => hx ⟨q_ge0 q.1 h2, q.2⟩)] at hk
      refine r_if_ne f_R_lost_21 (fun h => absurd h (by decide)) (fun _ => ?_)
      refine r_ald0 f_R_lost_24 ?_
      refine r_ic f_R_lost_25 ?_
      refine c_R_finds f_R_lost_27 (s_95) (Nat.le_of_ble_eq_true rfl) (Nat.le_refl _) (Nat.le_refl _) ?_
      refine k_R_finds (k := 0) (by decide) (by decide) hC hW (fun I9 hC9 hi9 => ?_)
      refine r_i2l f_R_lost_30 ?_
      refine r_lret f_R_lost_31 rfl (Nat.le_refl _) (Nat.le_refl _) ?_
      exact hk _ _ hC9 hi9
  · rw [if_pos (show -1 ≤ x ∧ x ≤ nI (sp_mc (dC σ.1)) - 1 from by rw [h2]; exact ⟨Int32.le_refl _, q_m1 _ (by omega)⟩), if_neg (by rw [h2]; decide)] at hk
    refine r_ald0 f_R_lost_5 ?_
    refine c_R_lostAll f_R_lost_6 (s_95) (Nat.le_of_ble_eq_true rfl) (Nat.le_refl _) (Nat.le_refl _) ?_
    refine k_R_lostAll hW.1 hC.1 (fun I9 L9 hR9 g9 l9 => ?_)
    have hC9 := hC.fm hW (g9.mo FRm_FM) (l9.mo FRl_FML)
    have hi9 : q_lw I I9 L L9 := q_lw.fm (g9.mo FRm_FM) (l9.mo FRl_FML)
    refine r_lret f_R_lost_9 rfl (Nat.le_refl _) (Nat.le_refl _) ?_
    exact hk _ _ hC9 hi9
theorem k_R_blame {x : Int32} (hC : RepM I L σ) (hW : WFs σ) (hk : MK K I L (op_blame σ x)) : WW G (d + 6) mt_R_blame 0 [some (.ref 95), some (.int x), none, none] [] SH RF I L 0 0 0 0 K := by
  unfold op_blame at hk
  have hcnt := hC.1.cnt hW.1
  have hc8 := hW.1.1.1
  refine r_ald0 f_R_blame_0 ?_
  refine r_ild1 f_R_blame_1 ?_
  refine c_R_isFarm f_R_blame_2 (s_95) (Nat.le_of_ble_eq_true rfl) (Nat.le_refl _) (Nat.le_refl _) ?_
  refine k_R_isFarm hcnt hc8 (fun hx u hu eu => ?_) (fun hx => ?_)
  · rw [if_pos hx] at hk
    subst eu
    rw [nI_clamp (by omega)] at hk
    refine r_if_ne f_R_blame_5 (fun _ => ?_) (fun h => absurd h (by decide))
    refine r_ald0 f_R_blame_15 ?_
    refine c_R_meets f_R_blame_16 (s_95) (Nat.le_of_ble_eq_true rfl) (Nat.le_refl _) (Nat.le_refl _) ?_
    refine k_R_meets hcnt hc8 ?_
    refine r_if_ne f_R_blame_19 (fun h19 => ?_) (fun h19 => ?_)
    · rw [if_neg (fun q => h19 (by rw [q]; rfl))] at hk
      refine r_ald0 f_R_blame_29 ?_
      refine r_ild1 f_R_blame_30 ?_
      refine c_R_findMeet f_R_blame_31 (s_95) (Nat.le_of_ble_eq_true rfl) (Nat.le_refl _) (Nat.le_refl _) ?_
      refine k_R_findMeet hu hC.1 hW.1 (fun I9 L9 m9 g9 l9 => ?_)
      have hC9 := hC.fm hW (g9.mo FRm_FM) (l9.mo FRl_FML)
      have hi9 : q_lw I I9 L L9 := q_lw.fm (g9.mo FRm_FM) (l9.mo FRl_FML)
      refine r_ald0 f_R_blame_34 ?_
      refine r_gl f_R_blame_35 (s_95) ?_
      rw [m9.2.1.2.2]
      refine r_lc f_R_blame_38 ?_
      refine r_ald0 f_R_blame_41 ?_
      refine r_gr f_R_blame_42 (s_95) (r_95_0) ?_
      refine r_ic f_R_blame_45 ?_
      refine r_iald f_R_blame_47 (s_96) (show q_ix 9 9 136 from ⟨by decide, by decide⟩) ?_
      rw [hC9.1.u (k := 4) (by decide)]
      refine r_i2l f_R_blame_48 ?_
      refine r_lmul f_R_blame_49 ?_
      rw [Int64.mul_comm 10000 _]
      refine r_ladd f_R_blame_50 ?_
      refine r_lst2 f_R_blame_51 (by decide) rfl ?_
      refine r_lld2 f_R_blame_52 ?_
      refine r_lc f_R_blame_53 ?_
      refine r_lcmp f_R_blame_54 ?_
      refine r_if_ne f_R_blame_55 (fun h55 => ?_) (fun h55 => ?_)
      · have e0 : ¬ _ := fun q => h55 (q_lcmp.1.mpr q)
        refine r_lc f_R_blame_62 ?_
        refine r_ald0 f_R_blame_65 ?_
        refine r_gl f_R_blame_66 (s_95) ?_
        rw [m9.2.1.2.2]
        refine r_lmul f_R_blame_69 ?_
        rw [Int64.mul_comm 1000000 _]
        refine r_lld2 f_R_blame_70 ?_
        refine r_ldiv f_R_blame_71 e0 ?_
        refine r_l2i f_R_blame_72 ?_
        refine r_iret f_R_blame_73 ⟨_, rfl, rfl⟩ (Nat.le_refl _) (Nat.le_refl _) ?_
        rw [show sp_blame σ.1 u = _ from if_neg e0] at hk
        exact hk _ _ hC9 hi9
      · have e0 := q_lcmp.1.mp h55
        refine r_ic f_R_blame_58 ?_
        refine r_goto f_R_blame_59 ?_
        refine r_iret f_R_blame_73 ⟨_, rfl, rfl⟩ (Nat.le_refl _) (Nat.le_refl _) ?_
        rw [show sp_blame σ.1 u = 0 from if_pos e0] at hk
        exact hk _ _ hC9 hi9
    · rw [if_pos (sp_mc_z hc8 h19)] at hk
      refine r_ald0 f_R_blame_22 ?_
      refine r_ic f_R_blame_23 ?_
      refine c_R_finds f_R_blame_25 (s_95) (Nat.le_of_ble_eq_true rfl) (Nat.le_refl _) (Nat.le_refl _) ?_
      refine k_R_finds (k := 3) (by decide) (by decide) hC hW (fun I9 hC9 hi9 => ?_)
      refine r_iret f_R_blame_28 ⟨_, rfl, rfl⟩ (Nat.le_refl _) (Nat.le_refl _) ?_
      exact hk _ _ hC9 hi9
  · rw [if_neg hx] at hk
    refine r_if_ne f_R_blame_5 (fun h => absurd h (by decide)) (fun _ => ?_)
    refine r_ald0 f_R_blame_8 ?_
    refine r_ic f_R_blame_9 ?_
    refine c_R_finds f_R_blame_11 (s_95) (Nat.le_of_ble_eq_true rfl) (Nat.le_refl _) (Nat.le_refl _) ?_
    refine k_R_finds (k := 0) (by decide) (by decide) hC hW (fun I9 hC9 hi9 => ?_)
    refine r_iret f_R_blame_14 ⟨_, rfl, rfl⟩ (Nat.le_refl _) (Nat.le_refl _) ?_
    exact hk _ _ hC9 hi9
theorem k_R_always_loop (hW : WFd D) (hk : ∀ I' L', RR I' 96 D → q_ag FRm I I' → q_aL FRl L L' → K (some (.int (sp_alw D (sp_mc (dC D))))) SH RF I' L') : ∀ (m p : Nat) (I' : Rn) (L' : Rl), m + p = sp_mc (dC D) → RR I' 96 D → q_ag FRm I I' → q_aL FRl L L' → WW G (d + 6) mt_R_always 4 [some (.ref 95), some (.int (sp_alw D p)), some (.int (nI p))] [] SH RF I' L' 0 0 0 0 K
  | 0, p, I', L', h, hR, hg, hl => by
    have ep : p = sp_mc (dC D) := by omega
    have hc8 := hW.1.1
    subst ep
    refine r_ild2 f_R_always_4 ?_
    refine r_ald0 f_R_always_5 ?_
    refine c_R_meets f_R_always_6 (s_95) (Nat.le_of_ble_eq_true rfl) (Nat.le_refl _) (Nat.le_refl _) ?_
    refine k_R_meets (hR.cnt hW) hc8 ?_
    refine r_ic_ge f_R_always_9 (fun h9 => ?_) (fun h9 => absurd h9 (fun q => q (Int32.le_refl _)))
    refine r_ild1 f_R_always_71 ?_
    refine r_iret f_R_always_72 ⟨_, rfl, rfl⟩ (Nat.le_refl _) (Nat.le_refl _) ?_
    exact hk I' L' hR hg hl
  | m + 1, p, I', L', h, hR, hg, hl => by
    have hc8 := hW.1.1
    have hmc := sp_mc_le (dC D)
    have hn := sp_nx_lt (D := D) (p := p) (by omega)
    obtain ⟨b1, b2⟩ := hW.2.1 _ hn
    refine r_ild2 f_R_always_4 ?_
    refine r_ald0 f_R_always_5 ?_
    refine c_R_meets f_R_always_6 (s_95) (Nat.le_of_ble_eq_true rfl) (Nat.le_refl _) (Nat.le_refl _) ?_
    refine k_R_meets (hR.cnt hW) hc8 ?_
    refine r_ic_ge f_R_always_9 (fun h9 => absurd h9 (nI_ge (by omega) (by omega))) (fun h9 => ?_)
    refine r_ald0 f_R_always_12 ?_
    refine r_ild2 f_R_always_13 ?_
    refine c_R_findMeet f_R_always_14 (s_95) (Nat.le_of_ble_eq_true rfl) (Nat.le_refl _) (Nat.le_refl _) ?_
    refine k_R_findMeet (show p < dC D by omega) hR hW (fun I9 L9 m9 g9 l9 => ?_)
    have hR9 := hR.frm hW g9
    refine r_ild1 f_R_always_17 ?_
    refine r_ald0 f_R_always_18 ?_
    refine r_gl f_R_always_19 (s_95) ?_
    rw [m9.2.1.1]
    refine r_lc f_R_always_22 ?_
    refine r_lcmp f_R_always_25 ?_
    refine r_if_ne f_R_always_26 (fun h26 => ?_) (fun h26 => ?_)
    · have et : ¬ sp_mt D p 11 = 1000000 := fun q => h26 (q_lcmp.1.mpr (by rw [q]; rfl))
      refine r_ic f_R_always_62 ?_
      refine r_ior f_R_always_63 ?_
      first | rw [← sp_alw_y et] | rw [Int32.or_zero, ← sp_alw_n et]
      refine r_ist1 f_R_always_64 rfl ?_
      refine r_inc2 f_R_always_65 rfl ?_
      rw [nI_1]
      refine r_goto f_R_always_68 ?_
      exact k_R_always_loop hW hk m (p + 1) I9 L9 (by omega) hR9 (hg.tr g9) (hl.tr l9)
    · have et : sp_mt D p 11 = 1000000 := q_i2l_eq.mp (q_lcmp.1.mp h26)
      refine r_ic f_R_always_29 ?_
      refine r_ald0 f_R_always_30 ?_
      refine r_gr f_R_always_31 (s_95) (r_95_0) ?_
      refine r_ic f_R_always_34 ?_
      refine r_ild2 f_R_always_36 ?_
      refine r_ic f_R_always_37 ?_
      refine r_iadd f_R_always_38 ?_
      rw [nI_1]
      refine r_ald0 f_R_always_39 ?_
      refine r_gr f_R_always_40 (s_95) (r_95_0) ?_
      refine r_ic f_R_always_43 ?_
      refine r_iald f_R_always_45 (s_96) (show q_ix 10 10 136 from ⟨by decide, by decide⟩) ?_
      rw [hR9.cnt hW]
      refine r_ic_ne f_R_always_46 (fun h46 => ?_) (fun h46 => ?_)
      · have en : sp_nx D p = p + 1 := if_pos (by have : ¬ p + 1 = dC D := fun q => h46 (by rw [q]); omega)
        refine r_ild2 f_R_always_53 ?_
        refine r_ic f_R_always_54 ?_
        refine r_iadd f_R_always_55 ?_
        rw [nI_1, ← en]
        have e1 : (68 : Int32) + nI (sp_nx D p) = nI (68 + sp_nx D p) := nI_add 68 _
        refine r_iadd f_R_always_56 ?_
        first | rw [e1] | rw [e0]
        refine r_iald f_R_always_57 (s_96) (q_ix.nI (show 68 + sp_nx D p < 136 by omega) (by decide)) ?_
        rw [hR9.o (p := sp_nx D p) (by omega), b2, show nI (dO D (sp_nx D p)) = sp_mt D p 1 from rfl]
        refine r_ishl f_R_always_58 ?_
        refine r_goto f_R_always_59 ?_
        refine r_ior f_R_always_63 ?_
        first | rw [← sp_alw_y et] | rw [Int32.or_zero, ← sp_alw_n et]
        refine r_ist1 f_R_always_64 rfl ?_
        refine r_inc2 f_R_always_65 rfl ?_
        rw [nI_1]
        refine r_goto f_R_always_68 ?_
        exact k_R_always_loop hW hk m (p + 1) I9 L9 (by omega) hR9 (hg.tr g9) (hl.tr l9)
      · have en : sp_nx D p = 0 := if_neg (by have := (nI_eq (by omega) (by omega)).mp h46; omega)
        refine r_ic f_R_always_49 ?_
        refine r_goto f_R_always_50 ?_
        have e0 : (68 : Int32) + 0 = nI (68 + sp_nx D p) := by rw [en]; rfl
        have e1 : (68 : Int32) + nI (sp_nx D p) = nI (68 + sp_nx D p) := nI_add 68 _
        refine r_iadd f_R_always_56 ?_
        first | rw [e1] | rw [e0]
        refine r_iald f_R_always_57 (s_96) (q_ix.nI (show 68 + sp_nx D p < 136 by omega) (by decide)) ?_
        rw [hR9.o (p := sp_nx D p) (by omega), b2, show nI (dO D (sp_nx D p)) = sp_mt D p 1 from rfl]
        refine r_ishl f_R_always_58 ?_
        refine r_goto f_R_always_59 ?_
        refine r_ior f_R_always_63 ?_
        first | rw [← sp_alw_y et] | rw [Int32.or_zero, ← sp_alw_n et]
        refine r_ist1 f_R_always_64 rfl ?_
        refine r_inc2 f_R_always_65 rfl ?_
        rw [nI_1]
        refine r_goto f_R_always_68 ?_
        exact k_R_always_loop hW hk m (p + 1) I9 L9 (by omega) hR9 (hg.tr g9) (hl.tr l9)
theorem k_R_always (hC : RepM I L σ) (hW : WFs σ) (hk : MK K I L (op_always σ)) : WW G (d + 6) mt_R_always 0 [some (.ref 95), none, none] [] SH RF I L 0 0 0 0 K := by
  unfold op_always at hk
  have hcnt := hC.1.cnt hW.1
  have hc8 := hW.1.1.1
  refine r_ic f_R_always_0 ?_
  refine r_ist1 f_R_always_1 rfl ?_
  refine r_ic f_R_always_2 ?_
  refine r_ist2 f_R_always_3 rfl ?_
  exact k_R_always_loop hW.1 (fun I9 L9 hR9 g9 l9 => hk _ _ (hC.fm hW (g9.mo FRm_FM) (l9.mo FRl_FML)) (q_lw.fm (g9.mo FRm_FM) (l9.mo FRl_FML))) _ 0 I L (Nat.add_zero _) hC.1 q_ag.rf q_aL.rf
theorem k_R_read_loop {t Z : Nat} {c : Nat → Int64} {V : Int32} (ht : t < 4) (hZ : Z ≤ 40) (hz : I 110 t = nI Z) (hc : ∀ j, j < 40 → L 111 (40 * t + j) = c j) (hW : WFd D) (hk : ∀ I' L', q_ag FRm I I' → q_aL FRl L L' → K (some (.int V)) SH RF I' L') : ∀ (m k : Nat) (I' : Rn) (L' : Rl), m + k = Z → sp_read D c m k = V → RR I' 96 D → q_ag FRm I I' → q_aL FRl L L' → WW G (d + 6) mt_R_read 33 [some (.ref 95), some (.int (nI t)), some (.int (nI k))] [] SH RF I' L' 0 0 0 0 K
  | 0, k, I', L', h, hV, hR, hg, hl => by
    have hc8 := hW.1.1
    have ek : k = Z := by omega
    subst ek
    have e0 : (0 : Int32) = V := hV
    refine r_ild2 f_R_read_33 ?_
    refine r_ald0 f_R_read_34 ?_
    refine r_gr f_R_read_35 (s_95) (r_95_36) ?_
    refine r_ild1 f_R_read_38 ?_
    refine r_iald f_R_read_39 (s_110) (q_ix.nI (show t < 4 from ht) (by decide)) ?_
    rw [hg 110 t (by unfold FRm; omega), hz]
    refine r_ic_ge f_R_read_40 (fun h40 => ?_) (fun h40 => absurd h40 (fun q => q (Int32.le_refl _)))
    refine r_ic f_R_read_89 ?_
    refine r_iret f_R_read_90 ⟨_, rfl, rfl⟩ (Nat.le_refl _) (Nat.le_refl _) ?_
    rw [e0]
    exact hk I' L' hg hl
  | m + 1, k, I', L', h, hV, hR, hg, hl => by
    have hc8 := hW.1.1
    have hmc := sp_mc_le (dC D)
    replace hV : (if sp_mc (dC D) ≤ k ∨ ¬ c k = (sp_mt D k 11).toInt64 then 1 + nI k else sp_read D c m (k + 1)) = V := hV
    refine r_ild2 f_R_read_33 ?_
    refine r_ald0 f_R_read_34 ?_
    refine r_gr f_R_read_35 (s_95) (r_95_36) ?_
    refine r_ild1 f_R_read_38 ?_
    refine r_iald f_R_read_39 (s_110) (q_ix.nI (show t < 4 from ht) (by decide)) ?_
    rw [hg 110 t (by unfold FRm; omega), hz]
    refine r_ic_ge f_R_read_40 (fun h40 => absurd h40 (nI_ge (by omega) (by omega))) (fun h40 => ?_)
    refine r_ild2 f_R_read_43 ?_
    refine r_ald0 f_R_read_44 ?_
    refine c_R_meets f_R_read_45 (s_95) (Nat.le_of_ble_eq_true rfl) (Nat.le_refl _) (Nat.le_refl _) ?_
    refine k_R_meets (hR.cnt hW) hc8 ?_
    refine r_ic_lt f_R_read_48 (fun h48 => ?_) (fun h48 => ?_)
    · have hlt : k < sp_mc (dC D) := (nI_ltI (by omega) (by omega)).mp h48
      refine r_ald0 f_R_read_55 ?_
      refine r_ild2 f_R_read_56 ?_
      refine c_R_findMeet f_R_read_57 (s_95) (Nat.le_of_ble_eq_true rfl) (Nat.le_refl _) (Nat.le_refl _) ?_
      refine k_R_findMeet (show k < dC D by omega) hR hW (fun I9 L9 m9 g9 l9 => ?_)
      have hR9 := hR.frm hW g9
      refine r_ald0 f_R_read_60 ?_
      refine r_gr f_R_read_61 (s_95) (r_95_37) ?_
      refine r_ic f_R_read_64 ?_
      refine r_ild1 f_R_read_66 ?_
      refine r_imul f_R_read_67 ?_
      refine r_ild2 f_R_read_68 ?_
      refine r_iadd f_R_read_69 ?_
      rw [q_40]
      refine r_lald f_R_read_70 (s_111) (q_ix.nI (show 40 * t + k < 160 by omega) (by decide)) ?_
      rw [hl.tr l9 111 (40 * t + k) (by unfold FRl; omega), hc k (by omega)]
      refine r_ald0 f_R_read_71 ?_
      refine r_gl f_R_read_72 (s_95) ?_
      rw [m9.2.1.1]
      refine r_lcmp f_R_read_75 ?_
      refine r_if_eq f_R_read_76 (fun h76 => ?_) (fun h76 => ?_)
      · rw [if_neg (fun q => q.elim (fun w => by omega) (fun w => w (q_lcmp.1.mp h76)))] at hV
        refine r_inc2 f_R_read_83 rfl ?_
        rw [nI_1]
        refine r_goto f_R_read_86 ?_
        exact k_R_read_loop ht hZ hz hc hW hk m (k + 1) I9 L9 (by omega) hV hR9 (hg.tr g9) (hl.tr l9)
      · rw [if_pos (Or.inr (fun q => h76 (q_lcmp.1.mpr q)))] at hV
        refine r_ic f_R_read_79 ?_
        refine r_ild2 f_R_read_80 ?_
        refine r_iadd f_R_read_81 ?_
        refine r_iret f_R_read_82 ⟨_, rfl, rfl⟩ (Nat.le_refl _) (Nat.le_refl _) ?_
        rw [hV]
        exact hk I9 L9 (hg.tr g9) (hl.tr l9)
    · rw [if_pos (Or.inl (Nat.not_lt.mp (fun q => h48 (nI_lt q (by omega)))))] at hV
      refine r_ic f_R_read_51 ?_
      refine r_ild2 f_R_read_52 ?_
      refine r_iadd f_R_read_53 ?_
      refine r_iret f_R_read_54 ⟨_, rfl, rfl⟩ (Nat.le_refl _) (Nat.le_refl _) ?_
      rw [hV]
      exact hk I' L' hg hl
theorem k_R_read {s : Int32} (hC : RepM I L σ) (hW : WFs σ) (hk : MK K I L (op_read σ s)) : WW G (d + 6) mt_R_read 0 [some (.ref 95), some (.int s), none] [] SH RF I L 0 0 0 0 K := by
  unfold op_read at hk
  have hcnt := hC.1.cnt hW.1
  have hc8 := hW.1.1.1
  refine r_ild1 f_R_read_0 ?_
  refine c_R_isSheet f_R_read_1 (Nat.le_of_ble_eq_true rfl) (Nat.le_refl _) (Nat.le_refl _) ?_
  refine k_R_isSheet (fun hsa hsb => ?_) (fun hs => ?_)
  · rw [if_pos ⟨hsa, hsb⟩] at hk
    obtain ⟨t, ht, et⟩ := q_inC (c := 4) (by omega) hsa hsb
    subst et
    rw [nI_clamp (by omega)] at hk
    obtain ⟨Z, _, hZ, eZ⟩ := (hW.2.2.2 t ht).2
    rw [eZ, nI_clamp (by omega)] at hk
    refine r_if_ne f_R_read_4 (fun _ => ?_) (fun h => absurd h (by decide))
    refine r_ald0 f_R_read_14 ?_
    refine r_gr f_R_read_15 (s_95) (r_95_35) ?_
    refine r_ild1 f_R_read_18 ?_
    refine r_iald f_R_read_19 (s_109) (q_ix.nI (show t < 4 from ht) (by decide)) ?_
    rw [hC.wdt ht]
    refine r_if_ne f_R_read_20 (fun h20 => ?_) (fun h20 => ?_)
    · rw [if_neg h20] at hk
      refine r_ic f_R_read_31 ?_
      refine r_ist2 f_R_read_32 rfl ?_
      exact k_R_read_loop ht hZ ((hC.siz ht).trans eZ) (fun j hj => hC.cel ht hj) hW.1 (fun I9 L9 g9 l9 => hk _ _ (hC.fm hW (g9.mo FRm_FM) (l9.mo FRl_FML)) (q_lw.fm (g9.mo FRm_FM) (l9.mo FRl_FML))) Z 0 I L (Nat.add_zero _) rfl hC.1 q_ag.rf q_aL.rf
    · rw [if_pos h20] at hk
      refine r_ald0 f_R_read_23 ?_
      refine r_ic f_R_read_24 ?_
      refine c_R_finds f_R_read_27 (s_95) (Nat.le_of_ble_eq_true rfl) (Nat.le_refl _) (Nat.le_refl _) ?_
      refine k_R_finds (k := 5) (by decide) (by decide) hC hW (fun I9 hC9 hi9 => ?_)
      refine r_iret f_R_read_30 ⟨_, rfl, rfl⟩ (Nat.le_refl _) (Nat.le_refl _) ?_
      exact hk _ _ hC9 hi9
  · rw [if_neg hs] at hk
    refine r_if_ne f_R_read_4 (fun h => absurd h (by decide)) (fun _ => ?_)
    refine r_ald0 f_R_read_7 ?_
    refine r_ic f_R_read_8 ?_
    refine c_R_finds f_R_read_10 (s_95) (Nat.le_of_ble_eq_true rfl) (Nat.le_refl _) (Nat.le_refl _) ?_
    refine k_R_finds (k := 0) (by decide) (by decide) hC hW (fun I9 hC9 hi9 => ?_)
    refine r_iret f_R_read_13 ⟨_, rfl, rfl⟩ (Nat.le_refl _) (Nat.le_refl _) ?_
    exact hk _ _ hC9 hi9
theorem WFd.fine {v : Nat} (h : WFd D) (hv : v ≤ 99999) : WFd (eU D 0 (nI v)) := h.u (fun _ => ⟨v, Nat.zero_le _, hv, rfl⟩)
theorem FRm_96 (x y : Nat) (h : FRm x y) : F96 x y := Or.inr h
theorem k_R_least122 {x y : Int32} {v : Int32} (hi : 0 ≤ y) (hR : RR I 96 (eU D 0 v)) (hk : ∀ I', RR I' 96 D → q_ag F96 I I' → K (some (.int y)) SH RF I' L) : WW G (d + 7) mt_R_least 122 [some (.ref 95), some (.int x), some (.int (D.2.2.1 0)), none, some (.int y), none, none] [] SH RF I L 0 0 0 0 K := by
  refine r_ald0 f_R_least_122 ?_
  refine r_gr f_R_least_123 (s_95) (r_95_0) ?_
  refine r_ic f_R_least_126 ?_
  refine r_ild2 f_R_least_127 ?_
  refine r_iast f_R_least_128 (s_96) (show q_ix 5 5 136 from ⟨by decide, by decide⟩) ?_
  have hR9 := hR.toU (k := 0) (v := D.2.2.1 0) (by decide)
  rw [eU_eU, eU_id] at hR9
  refine r_ild4 f_R_least_129 ?_
  refine r_if_ge f_R_least_131 (fun h131 => ?_) (fun h131 => absurd hi h131)
  refine r_ild4 f_R_least_143 ?_
  refine r_iret f_R_least_145 ⟨_, rfl, rfl⟩ (Nat.le_refl _) (Nat.le_refl _) ?_
  exact hk _ hR9 (q_ag.rf.u2 (Or.inl rfl))
theorem k_R_least_loop {x : Int32} (hW : WFd D) : ∀ (m lo hi : Nat) (v : Nat) (I : Rn) (L : Rl), v ≤ 99999 → lo ≤ hi → hi ≤ 99999 → hi - lo < 2 ^ m → RR I 96 (eU D 0 (nI v)) → (∀ I' L', RR I' 96 D → q_ag F96 I I' → q_aL FRl L L' → K (some (.int (nI (sp_bis D x m lo hi)))) SH RF I' L') → WW G (d + 7) mt_R_least 52 [some (.ref 95), some (.int x), some (.int (D.2.2.1 0)), some (.int (nI lo)), some (.int (nI hi)), none, none] [] SH RF I L 0 0 0 0 K
  | 0, lo, hi, v, I, L, hv, hlh, hh, hm, hR, hk => by
    have e : lo = hi := by
      rw [Nat.pow_zero] at hm
      omega
    subst e
    refine r_ild3 f_R_least_52 ?_
    refine r_ild4 f_R_least_53 ?_
    refine r_ic_ge f_R_least_55 (fun h55 => ?_) (fun h55 => absurd h55 (fun q => q (Int32.le_refl _)))
    refine r_drop3 ?_
    exact k_R_least122 (nI_pos' (by omega)) hR (fun I9 hR9 g9 => hk I9 L hR9 g9 q_aL.rf)
  | m + 1, lo, hi, v, I, L, hv, hlh, hh, hm, hR, hk => by
    rw [Nat.pow_succ] at hm
    by_cases hq : hi ≤ lo
    · have e : lo = hi := by omega
      subst e
      replace hk : ∀ I' L', RR I' 96 D → q_ag F96 I I' → q_aL FRl L L' → K (some (.int (nI lo))) SH RF I' L' := fun I' L' a b c => by
        have e9 := hk I' L' a b c
        rw [show sp_bis D x (m + 1) lo lo = lo from if_pos hq] at e9
        exact e9
      refine r_ild3 f_R_least_52 ?_
      refine r_ild4 f_R_least_53 ?_
      refine r_ic_ge f_R_least_55 (fun h55 => ?_) (fun h55 => absurd h55 (fun q => q (Int32.le_refl _)))
      refine r_drop3 ?_
      exact k_R_least122 (nI_pos' (by omega)) hR (fun I9 hR9 g9 => hk I9 L hR9 g9 q_aL.rf)
    · have hmid : (lo + hi) / 2 ≤ 99999 := by omega
      refine r_ild3 f_R_least_52 ?_
      refine r_ild4 f_R_least_53 ?_
      refine r_ic_ge f_R_least_55 (fun h55 => absurd h55 (nI_ge (by omega) (by omega))) (fun h55 => ?_)
      refine r_ild3 f_R_least_58 ?_
      refine r_ild4 f_R_least_59 ?_
      refine r_iadd f_R_least_61 ?_
      rw [nI_add]
      refine r_ic f_R_least_62 ?_
      refine r_idiv f_R_least_63 (by decide) ?_
      rw [show nI (lo + hi) / 2 = nI ((lo + hi) / 2) from pk_div (d := 2) (by omega) (by decide) (by decide)]
      refine r_ist5 f_R_least_64 rfl ?_
      refine r_ald0 f_R_least_66 ?_
      refine r_gr f_R_least_67 (s_95) (r_95_0) ?_
      refine r_ic f_R_least_70 ?_
      refine r_ild5 f_R_least_71 ?_
      refine r_iast f_R_least_73 (s_96) (show q_ix 5 5 136 from ⟨by decide, by decide⟩) ?_
      have hRm := hR.toU (k := 0) (v := nI ((lo + hi) / 2)) (by decide)
      rw [eU_eU] at hRm
      have hWm := hW.fine hmid
      refine r_ald0 f_R_least_74 ?_
      refine c_R_mostTaking f_R_least_75 (s_95) (Nat.le_of_ble_eq_true rfl) (Nat.le_refl _) (Nat.le_refl _) ?_
      refine k_R_mostTaking hWm hRm (fun I9 L9 hR9 g9 l9 => ?_)
      refine r_ild1 f_R_least_78 ?_
      refine r_i2l f_R_least_79 ?_
      refine r_lcmp f_R_least_80 ?_
      refine r_if_gt f_R_least_81 (fun h81 => ?_) (fun h81 => ?_)
      · refine r_ic f_R_least_88 ?_
        refine r_ist6 f_R_least_89 rfl ?_
        refine r_ild6 f_R_least_91 ?_
        refine r_if_eq f_R_least_93 (fun _ => ?_) (fun h => absurd h (by decide))
        refine r_ild4 f_R_least_101 ?_
        refine r_ist4 f_R_least_103 rfl ?_
        refine r_ild6 f_R_least_105 ?_
        refine r_if_eq f_R_least_107 (fun _ => ?_) (fun h => absurd h (by decide))
        refine r_ild5 f_R_least_114 ?_
        refine r_ic f_R_least_116 ?_
        refine r_iadd f_R_least_117 ?_
        rw [nI_1]
        refine r_ist3 f_R_least_118 rfl ?_
        refine r_goto f_R_least_119 ?_
        refine r_drop5 ?_
        refine r_drop6 ?_
        have hgt : x < sp_great (eU D 0 (nI ((lo + hi) / 2))) := q_i2l_lt.mp (q_lcmp.2.2.2.1.mp h81)
        refine k_R_least_loop hW m ((lo + hi) / 2 + 1) hi ((lo + hi) / 2) I9 L9 hmid (by omega) hh (by omega) hR9 (fun I2 L2 a b c => ?_)
        have e9 := hk I2 L2 a (((q_ag.rf.u2 (Or.inl rfl)).tr (g9.mo FRm_96)).tr b) (l9.tr c)
        rw [show sp_bis D x (m + 1) lo hi = sp_bis D x m ((lo + hi) / 2 + 1) hi from (if_neg hq).trans (if_pos hgt)] at e9
        exact e9
      · refine r_ic f_R_least_84 ?_
        refine r_goto f_R_least_85 ?_
        refine r_ist6 f_R_least_89 rfl ?_
        refine r_ild6 f_R_least_91 ?_
        refine r_if_eq f_R_least_93 (fun h => absurd h (by decide)) (fun _ => ?_)
        refine r_ild5 f_R_least_96 ?_
        refine r_goto f_R_least_98 ?_
        refine r_ist4 f_R_least_103 rfl ?_
        refine r_ild6 f_R_least_105 ?_
        refine r_if_eq f_R_least_107 (fun h => absurd h (by decide)) (fun _ => ?_)
        refine r_ild3 f_R_least_110 ?_
        refine r_goto f_R_least_111 ?_
        refine r_ist3 f_R_least_118 rfl ?_
        refine r_goto f_R_least_119 ?_
        refine r_drop5 ?_
        refine r_drop6 ?_
        have hle : ¬ x < sp_great (eU D 0 (nI ((lo + hi) / 2))) := fun q => h81 (q_lcmp.2.2.2.1.mpr (q_i2l_lt.mpr q))
        refine k_R_least_loop hW m lo ((lo + hi) / 2) ((lo + hi) / 2) I9 L9 hmid (by omega) hmid (by omega) hR9 (fun I2 L2 a b c => ?_)
        have e9 := hk I2 L2 a (((q_ag.rf.u2 (Or.inl rfl)).tr (g9.mo FRm_96)).tr b) (l9.tr c)
        rw [show sp_bis D x (m + 1) lo hi = sp_bis D x m lo ((lo + hi) / 2) from (if_neg hq).trans (if_neg hle)] at e9
        exact e9
theorem k_R_least {x : Int32} (hC : RepM I L σ) (hW : WFs σ) (hk : MK K I L (op_least σ x)) : WW G (d + 7) mt_R_least 0 [some (.ref 95), some (.int x), none, none, none, none, none] [] SH RF I L 0 0 0 0 K := by
  unfold op_least at hk
  have hcnt := hC.1.cnt hW.1
  have hc8 := hW.1.1.1
  refine r_ild1 f_R_least_0 ?_
  refine r_ic f_R_least_1 ?_
  refine r_ic f_R_least_2 ?_
  refine c_R_in f_R_least_4 (Nat.le_of_ble_eq_true rfl) (Nat.le_refl _) (Nat.le_refl _) ?_
  refine k_R_in (fun hxa hxb => ?_) (fun hx => ?_)
  · rw [if_pos ⟨hxa, hxb⟩] at hk
    refine r_if_ne f_R_least_7 (fun _ => ?_) (fun h => absurd h (by decide))
    refine r_ald0 f_R_least_17 ?_
    refine r_gr f_R_least_18 (s_95) (r_95_0) ?_
    refine r_ic f_R_least_21 ?_
    refine r_iald f_R_least_22 (s_96) (show q_ix 5 5 136 from ⟨by decide, by decide⟩) ?_
    rw [hC.1.u (k := 0) (by decide)]
    refine r_ist2 f_R_least_23 rfl ?_
    refine r_ald0 f_R_least_24 ?_
    refine r_gr f_R_least_25 (s_95) (r_95_0) ?_
    refine r_ic f_R_least_28 ?_
    refine r_ic f_R_least_29 ?_
    refine r_iast f_R_least_31 (s_96) (show q_ix 5 5 136 from ⟨by decide, by decide⟩) ?_
    have hRm := hC.1.toU (k := 0) (v := 99999) (by decide)
    have hWm : WFd (eU σ.1 0 99999) := hW.1.fine (v := 99999) (by decide)
    refine r_ic f_R_least_32 ?_
    refine r_ist3 f_R_least_33 rfl ?_
    refine r_ald0 f_R_least_34 ?_
    refine c_R_mostTaking f_R_least_35 (s_95) (Nat.le_of_ble_eq_true rfl) (Nat.le_refl _) (Nat.le_refl _) ?_
    refine k_R_mostTaking hWm hRm (fun I9 L9 hR9 g9 l9 => ?_)
    refine r_ild1 f_R_least_38 ?_
    refine r_i2l f_R_least_39 ?_
    refine r_lcmp f_R_least_40 ?_
    refine r_if_gt f_R_least_41 (fun h41 => ?_) (fun h41 => ?_)
    · refine r_ic f_R_least_49 ?_
      refine r_ist4 f_R_least_50 rfl ?_
      have hgt : x < sp_great (eU σ.1 0 99999) := q_i2l_lt.mp (q_lcmp.2.2.2.1.mp h41)
      rw [if_pos hgt] at hk
      have hR8 := hR9.toU (k := 0) (v := σ.1.2.2.1 0) (by decide)
      rw [eU_eU, eU_id] at hR8
      have g8 : q_ag FN I (u2 I9 96 (5 + 0) (σ.1.2.2.1 0)) := (((q_ag.rf.u2 (Or.inl rfl)).tr (g9.mo FRm_96)).u2 (Or.inl rfl)).mo F96_FN
      have hC8 : RepM (u2 I9 96 (5 + 0) (σ.1.2.2.1 0)) L9 σ := hC.fmN hW hR8 g8 (l9.mo FRl_FML)
      have hi8 : q_lw I (u2 I9 96 (5 + 0) (σ.1.2.2.1 0)) L L9 := q_lw.fmN g8 (l9.mo FRl_FML)
      refine r_ild3 f_R_least_52 ?_
      refine r_ild4 f_R_least_53 ?_
      refine r_ic_ge f_R_least_55 (fun _ => ?_) (fun h => absurd h (by decide))
      refine r_ald0 f_R_least_122 ?_
      refine r_gr f_R_least_123 (s_95) (r_95_0) ?_
      refine r_ic f_R_least_126 ?_
      refine r_ild2 f_R_least_127 ?_
      refine r_iast f_R_least_128 (s_96) (show q_ix 5 5 136 from ⟨by decide, by decide⟩) ?_
      refine r_ild4 f_R_least_129 ?_
      refine r_if_ge f_R_least_131 (fun h => absurd h (by decide)) (fun _ => ?_)
      refine r_ald0 f_R_least_134 ?_
      refine r_ic f_R_least_135 ?_
      refine c_R_finds f_R_least_137 (s_95) (Nat.le_of_ble_eq_true rfl) (Nat.le_refl _) (Nat.le_refl _) ?_
      refine k_R_finds (k := 3) (by decide) (by decide) hC8 hW (fun I7 hC7 hi7 => ?_)
      refine r_goto f_R_least_140 ?_
      refine r_iret f_R_least_145 ⟨_, rfl, rfl⟩ (Nat.le_refl _) (Nat.le_refl _) ?_
      exact hk _ _ hC7 (hi8.tr hi7)
    · refine r_ic f_R_least_44 ?_
      refine r_goto f_R_least_46 ?_
      refine r_ist4 f_R_least_50 rfl ?_
      have hle : ¬ x < sp_great (eU σ.1 0 99999) := fun q => h41 (q_lcmp.2.2.2.1.mpr (q_i2l_lt.mpr q))
      rw [if_neg hle] at hk
      exact k_R_least_loop (d := d) (x := x) hW.1 32 0 99999 99999 I9 L9 (by decide) (by decide) (by decide) (by decide) hR9 (fun I2 L2 a b c => hk I2 L2 (hC.fmN hW a ((((q_ag.rf.u2 (Or.inl rfl)).tr (g9.mo FRm_96)).tr b).mo F96_FN) ((l9.tr c).mo FRl_FML)) (q_lw.fmN ((((q_ag.rf.u2 (Or.inl rfl)).tr (g9.mo FRm_96)).tr b).mo F96_FN) ((l9.tr c).mo FRl_FML)))
  · rw [if_neg hx] at hk
    refine r_if_ne f_R_least_7 (fun h => absurd h (by decide)) (fun _ => ?_)
    refine r_ald0 f_R_least_10 ?_
    refine r_ic f_R_least_11 ?_
    refine c_R_finds f_R_least_13 (s_95) (Nat.le_of_ble_eq_true rfl) (Nat.le_refl _) (Nat.le_refl _) ?_
    refine k_R_finds (k := 0) (by decide) (by decide) hC hW (fun I9 hC9 hi9 => ?_)
    refine r_iret f_R_least_16 ⟨_, rfl, rfl⟩ (Nat.le_refl _) (Nat.le_refl _) ?_
    exact hk _ _ hC9 hi9
theorem k_R_hire {x : Int32} (hC : RepM I L σ) (hW : WFs σ) (hman : q_le (σ.1.2.2.1 3) 0 100) (hk : MKl K I L (op_hire σ x)) : WW G (d + 7) mt_R_hire 0 [some (.ref 95), some (.int x), none, none, none, none] [] SH RF I L 0 0 0 0 K := by
  unfold op_hire at hk
  have hcnt := hC.1.cnt hW.1
  have hc8 := hW.1.1.1
  refine r_ild1 f_R_hire_0 ?_
  refine r_ic f_R_hire_1 ?_
  refine r_ic f_R_hire_2 ?_
  refine c_R_in f_R_hire_4 (Nat.le_of_ble_eq_true rfl) (Nat.le_refl _) (Nat.le_refl _) ?_
  refine k_R_in (fun hxa hxb => ?_) (fun hx => ?_)
  · rw [if_pos ⟨hxa, hxb⟩] at hk
    refine r_if_ne f_R_hire_7 (fun _ => ?_) (fun h => absurd h (by decide))
    refine r_ald0 f_R_hire_18 ?_
    refine c_R_lostAll f_R_hire_19 (s_95) (Nat.le_of_ble_eq_true rfl) (Nat.le_refl _) (Nat.le_refl _) ?_
    refine k_R_lostAll hW.1 hC.1 (fun I1 L1 hR1 g1 l1 => ?_)
    refine r_lst2 f_R_hire_22 (by decide) rfl ?_
    refine r_ald0 f_R_hire_23 ?_
    refine r_gr f_R_hire_24 (s_95) (r_95_0) ?_
    refine r_ic f_R_hire_27 ?_
    refine r_dup2 f_R_hire_29 ?_
    refine r_iald f_R_hire_30 (s_96) (show q_ix 8 8 136 from ⟨by decide, by decide⟩) ?_
    rw [hR1.u (k := 3) (by decide)]
    refine r_ild1 f_R_hire_31 ?_
    refine r_iadd f_R_hire_32 ?_
    refine r_iast f_R_hire_33 (s_96) (show q_ix 8 8 136 from ⟨by decide, by decide⟩) ?_
    have hRm := hR1.toU (k := 3) (v := σ.1.2.2.1 3 + x) (by decide)
    have hWm := hW.1.hire hxa hxb hman
    refine r_ald0 f_R_hire_34 ?_
    refine c_R_lostAll f_R_hire_35 (s_95) (Nat.le_of_ble_eq_true rfl) (Nat.le_refl _) (Nat.le_refl _) ?_
    refine k_R_lostAll hWm hRm (fun I9 L9 hR9 g9 l9 => ?_)
    refine r_lst4 f_R_hire_38 (by decide) rfl ?_
    refine r_ald0 f_R_hire_40 ?_
    refine r_gr f_R_hire_41 (s_95) (r_95_0) ?_
    refine r_ic f_R_hire_44 ?_
    refine r_dup2 f_R_hire_46 ?_
    refine r_iald f_R_hire_47 (s_96) (show q_ix 8 8 136 from ⟨by decide, by decide⟩) ?_
    rw [hR9.u (k := 3) (by decide), show (eU σ.1 3 (σ.1.2.2.1 3 + x)).2.2.1 3 = σ.1.2.2.1 3 + x from (show (if (3 : Nat) = 3 then σ.1.2.2.1 3 + x else σ.1.2.2.1 3) = _ from if_pos rfl)]
    refine r_ild1 f_R_hire_48 ?_
    refine r_isub f_R_hire_49 ?_
    rw [Int32.add_sub_cancel]
    refine r_iast f_R_hire_50 (s_96) (show q_ix 8 8 136 from ⟨by decide, by decide⟩) ?_
    have hR8 := hR9.toU (k := 3) (v := σ.1.2.2.1 3) (by decide)
    rw [eU_eU, eU_id] at hR8
    have g8 : q_ag FN I (u2 I9 96 (5 + 3) (σ.1.2.2.1 3)) := ((((g1.mo FRm_96).u2 (i := 96) (j := 5 + 3) (v := σ.1.2.2.1 3 + x) (Or.inl rfl)).tr (g9.mo FRm_96)).u2 (Or.inl rfl)).mo F96_FN
    refine r_lld2 f_R_hire_51 ?_
    refine r_lld4 f_R_hire_52 ?_
    refine r_lsub f_R_hire_54 ?_
    refine r_lret f_R_hire_55 rfl (Nat.le_refl _) (Nat.le_refl _) ?_
    exact hk _ _ (hC.fmN hW hR8 g8 ((l1.tr l9).mo FRl_FML)) (q_lw.fmN g8 ((l1.tr l9).mo FRl_FML))
  · rw [if_neg hx] at hk
    refine r_if_ne f_R_hire_7 (fun h => absurd h (by decide)) (fun _ => ?_)
    refine r_ald0 f_R_hire_10 ?_
    refine r_ic f_R_hire_11 ?_
    refine c_R_finds f_R_hire_13 (s_95) (Nat.le_of_ble_eq_true rfl) (Nat.le_refl _) (Nat.le_refl _) ?_
    refine k_R_finds (k := 0) (by decide) (by decide) hC hW (fun I9 hC9 hi9 => ?_)
    refine r_i2l f_R_hire_16 ?_
    refine r_lret f_R_hire_17 rfl (Nat.le_refl _) (Nat.le_refl _) ?_
    exact hk _ _ hC9 hi9
def sp_bv (v : Option Nat) : Int32 := match v with
  | some j => nI j
  | none => 0
theorem k_R_breaks71 {x : Int32} {v y : Int32} {e : Option Value} (hR : RR I 96 (eS D 1 v)) (hk : ∀ I', RR I' 96 D → q_ag F96 I I' → WW G (d + 7) mt_R_breaks 78 [some (.ref 95), some (.int x), some (.int (D.2.2.2.1 1)), some (.int y), none] [] SH RF I' L 0 0 0 0 K) : WW G (d + 7) mt_R_breaks 71 [some (.ref 95), some (.int x), some (.int (D.2.2.2.1 1)), some (.int y), none] [] SH RF I L 0 0 0 0 K := by
  refine r_ald0 f_R_breaks_71 ?_
  refine r_gr f_R_breaks_72 (s_95) (r_95_0) ?_
  refine r_ic f_R_breaks_75 ?_
  refine r_ild2 f_R_breaks_76 ?_
  refine r_iast f_R_breaks_77 (s_96) (show q_ix 1 1 136 from ⟨by decide, by decide⟩) ?_
  have hR9 := hR.toS (k := 1) (v := D.2.2.2.1 1) (by decide) rfl
  rw [eS_eS, eS_id] at hR9
  exact hk _ hR9 (q_ag.rf.u2 (Or.inl rfl))
theorem k_R_breaks_loop {x : Int32} {V : Option Nat} (hW : WFd D) (hk : ∀ I' L', RR I' 96 D → q_ag F96 I I' → q_aL FRl L L' → WW G (d + 7) mt_R_breaks 78 [some (.ref 95), some (.int x), some (.int (D.2.2.2.1 1)), some (.int (sp_bv V)), none] [] SH RF I' L' 0 0 0 0 K) : ∀ (m j : Nat) (v : Nat) (I' : Rn) (L' : Rl), m + j = 10 → 1 ≤ j → 1 ≤ v → v ≤ 9 → sp_brk D x m j = V → RR I' 96 (eS D 1 (nI v)) → q_ag F96 I I' → q_aL FRl L L' → WW G (d + 7) mt_R_breaks 29 [some (.ref 95), some (.int x), some (.int (D.2.2.2.1 1)), some (.int 0), some (.int (nI j))] [] SH RF I' L' 0 0 0 0 K
  | 0, j, v, I', L', h, hj, hv1, hv9, hV, hR, hg, hl => by
    have ej : j = 10 := by omega
    subst ej
    have e0 : none = V := hV
    subst e0
    refine r_ild4 f_R_breaks_29 ?_
    refine r_ic f_R_breaks_31 ?_
    refine r_ic_ge f_R_breaks_33 (fun h33 => ?_) (fun h33 => absurd h33 (fun q => q (Int32.le_refl _)))
    refine r_drop4 ?_
    exact k_R_breaks71 (e := none) hR (fun I9 hR9 g9 => hk I9 L' hR9 (hg.tr g9) hl)
  | m + 1, j, v, I', L', h, hj, hv1, hv9, hV, hR, hg, hl => by
    replace hV : (if x < sp_great (eS D 1 (nI j)) then some j else sp_brk D x m (j + 1)) = V := hV
    refine r_ild4 f_R_breaks_29 ?_
    refine r_ic f_R_breaks_31 ?_
    refine r_ic_ge f_R_breaks_33 (fun h33 => absurd h33 (nI_ge (b := 10) (by omega) (by decide))) (fun h33 => ?_)
    refine r_ild3 f_R_breaks_36 ?_
    refine r_if_ne f_R_breaks_37 (fun h => absurd h (by decide)) (fun _ => ?_)
    refine r_ald0 f_R_breaks_40 ?_
    refine r_gr f_R_breaks_41 (s_95) (r_95_0) ?_
    refine r_ic f_R_breaks_44 ?_
    refine r_ild4 f_R_breaks_45 ?_
    refine r_iast f_R_breaks_47 (s_96) (show q_ix 1 1 136 from ⟨by decide, by decide⟩) ?_
    have hRm := hR.toS (k := 1) (v := nI j) (by decide) rfl
    rw [eS_eS] at hRm
    have hWm : WFd (eS D 1 (nI j)) := hW.dry ⟨j, hj, by omega, rfl⟩
    refine r_ald0 f_R_breaks_48 ?_
    refine c_R_mostTaking f_R_breaks_49 (s_95) (Nat.le_of_ble_eq_true rfl) (Nat.le_refl _) (Nat.le_refl _) ?_
    refine k_R_mostTaking hWm hRm (fun I9 L9 hR9 g9 l9 => ?_)
    refine r_ild1 f_R_breaks_52 ?_
    refine r_i2l f_R_breaks_53 ?_
    refine r_lcmp f_R_breaks_54 ?_
    refine r_if_le f_R_breaks_55 (fun h55 => ?_) (fun h55 => ?_)
    · refine r_ic f_R_breaks_63 ?_
      refine r_ist3 f_R_breaks_64 rfl ?_
      refine r_inc4 f_R_breaks_65 rfl ?_
      rw [nI_1]
      refine r_goto f_R_breaks_68 ?_
      have hle : ¬ x < sp_great (eS D 1 (nI j)) := Int32.not_lt.mpr (q_i2l_le.mp (q_lcmp.2.2.2.2.mp h55))
      rw [if_neg hle] at hV
      exact k_R_breaks_loop hW hk m (j + 1) j I9 L9 (by omega) (by omega) hj (by omega) hV hR9 ((hg.u2 (Or.inl rfl)).tr (g9.mo FRm_96)) (hl.tr l9)
    · refine r_ild4 f_R_breaks_58 ?_
      refine r_goto f_R_breaks_60 ?_
      refine r_ist3 f_R_breaks_64 rfl ?_
      refine r_inc4 f_R_breaks_65 rfl ?_
      rw [nI_1]
      refine r_goto f_R_breaks_68 ?_
      have hgt : x < sp_great (eS D 1 (nI j)) := q_i2l_lt.mp (Int64.not_le.mp (fun q => h55 (q_lcmp.2.2.2.2.mpr q)))
      rw [if_pos hgt] at hV
      subst hV
      refine r_ild4 f_R_breaks_29 ?_
      refine r_ic f_R_breaks_31 ?_
      refine r_ic_ge f_R_breaks_33 (fun h33 => ?_) (fun h33 => ?_)
      · refine r_drop4 ?_
        exact k_R_breaks71 (e := none) hR9 (fun I8 hR8 g8 => hk I8 L9 hR8 (((hg.u2 (Or.inl rfl)).tr (g9.mo FRm_96)).tr g8) (hl.tr l9))
      · refine r_ild3 f_R_breaks_36 ?_
        refine r_if_ne f_R_breaks_37 (fun h37 => ?_) (fun h37 => absurd h37 (nI_ne0 (by omega) (by omega)))
        refine r_drop4 ?_
        exact k_R_breaks71 (e := none) hR9 (fun I8 hR8 g8 => hk I8 L9 hR8 (((hg.u2 (Or.inl rfl)).tr (g9.mo FRm_96)).tr g8) (hl.tr l9))
theorem sp_brk_bd {x : Int32} : ∀ (m j i : Nat), sp_brk D x m j = some i → j ≤ i ∧ i < j + m
  | 0, j, i, h => by cases h
  | m + 1, j, i, h => by
    replace h : (if x < sp_great (eS D 1 (nI j)) then some j else sp_brk D x m (j + 1)) = some i := h
    by_cases hc : x < sp_great (eS D 1 (nI j))
    · rw [if_pos hc] at h
      cases h
      omega
    · rw [if_neg hc] at h
      have := sp_brk_bd m (j + 1) i h
      omega
theorem k_R_breaks {x : Int32} (hC : RepM I L σ) (hW : WFs σ) (hk : MK K I L (op_breaks σ x)) : WW G (d + 7) mt_R_breaks 0 [some (.ref 95), some (.int x), none, none, none] [] SH RF I L 0 0 0 0 K := by
  unfold op_breaks at hk
  have hcnt := hC.1.cnt hW.1
  have hc8 := hW.1.1.1
  refine r_ild1 f_R_breaks_0 ?_
  refine r_ic f_R_breaks_1 ?_
  refine r_ic f_R_breaks_2 ?_
  refine c_R_in f_R_breaks_4 (Nat.le_of_ble_eq_true rfl) (Nat.le_refl _) (Nat.le_refl _) ?_
  refine k_R_in (fun hxa hxb => ?_) (fun hx => ?_)
  · rw [if_pos ⟨hxa, hxb⟩] at hk
    refine r_if_ne f_R_breaks_7 (fun _ => ?_) (fun h => absurd h (by decide))
    refine r_ald0 f_R_breaks_17 ?_
    refine r_gr f_R_breaks_18 (s_95) (r_95_0) ?_
    refine r_ic f_R_breaks_21 ?_
    refine r_iald f_R_breaks_22 (s_96) (show q_ix 1 1 136 from ⟨by decide, by decide⟩) ?_
    rw [hC.1.s (k := 1) (by decide)]
    refine r_ist2 f_R_breaks_23 rfl ?_
    refine r_ic f_R_breaks_24 ?_
    refine r_ist3 f_R_breaks_25 rfl ?_
    refine r_ic f_R_breaks_26 ?_
    refine r_ist4 f_R_breaks_27 rfl ?_
    obtain ⟨v, v1, v9, ev⟩ := hW.1.2.2.2.2.2.1
    have hR0 : RR I 96 (eS σ.1 1 (nI v)) := by rw [← ev, eS_id]; exact hC.1
    refine k_R_breaks_loop (V := sp_brk σ.1 x 9 1) hW.1 (fun I9 L9 hR9 g9 l9 => ?_) 9 1 v I L (by decide) (by decide) v1 v9 rfl hR0 q_ag.rf q_aL.rf
    have g8 : q_ag FN I I9 := g9.mo F96_FN
    have hC8 : RepM I9 L9 σ := hC.fmN hW hR9 g8 (l9.mo FRl_FML)
    have hi8 : q_lw I I9 L L9 := q_lw.fmN g8 (l9.mo FRl_FML)
    cases hV : sp_brk σ.1 x 9 1 with
    | none =>
      rw [hV] at hk
      rw [show sp_bv none = 0 from rfl]
      refine r_ild3 f_R_breaks_78 ?_
      refine r_if_ne f_R_breaks_79 (fun h => absurd h (by decide)) (fun _ => ?_)
      refine r_ald0 f_R_breaks_82 ?_
      refine r_ic f_R_breaks_83 ?_
      refine c_R_finds f_R_breaks_85 (s_95) (Nat.le_of_ble_eq_true rfl) (Nat.le_refl _) (Nat.le_refl _) ?_
      refine k_R_finds (k := 3) (by decide) (by decide) hC8 hW (fun I7 hC7 hi7 => ?_)
      refine r_goto f_R_breaks_88 ?_
      refine r_iret f_R_breaks_92 ⟨_, rfl, rfl⟩ (Nat.le_refl _) (Nat.le_refl _) ?_
      exact hk _ _ hC7 (hi8.tr hi7)
    | some j =>
      rw [hV] at hk
      have hj := sp_brk_bd 9 1 j hV
      rw [show sp_bv (some j) = nI j from rfl]
      refine r_ild3 f_R_breaks_78 ?_
      refine r_if_ne f_R_breaks_79 (fun h79 => ?_) (fun h79 => absurd h79 (nI_ne0 (by omega) (by omega)))
      refine r_ild3 f_R_breaks_91 ?_
      refine r_iret f_R_breaks_92 ⟨_, rfl, rfl⟩ (Nat.le_refl _) (Nat.le_refl _) ?_
      exact hk _ _ hC8 hi8
  · rw [if_neg hx] at hk
    refine r_if_ne f_R_breaks_7 (fun h => absurd h (by decide)) (fun _ => ?_)
    refine r_ald0 f_R_breaks_10 ?_
    refine r_ic f_R_breaks_11 ?_
    refine c_R_finds f_R_breaks_13 (s_95) (Nat.le_of_ble_eq_true rfl) (Nat.le_refl _) (Nat.le_refl _) ?_
    refine k_R_finds (k := 0) (by decide) (by decide) hC hW (fun I9 hC9 hi9 => ?_)
    refine r_iret f_R_breaks_16 ⟨_, rfl, rfl⟩ (Nat.le_refl _) (Nat.le_refl _) ?_
    exact hk _ _ hC9 hi9
end L58
