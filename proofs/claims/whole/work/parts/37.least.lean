section L37
variable {G : Gx} {d : Nat} {I I' I0 : Rn} {L L' : Rl} {K : Kt} {σ : St} {D : Dst} {Me : Nat → Nat → Int32}
theorem RepC.trial (h : RepC I L σ) (e : ∀ x y, (x < 51 ∨ 76 ≤ x) → I' x y = I x y) : RepC I' L σ := h.same (h.1.rows (fun x y a1 a2 => e x y (by omega))) (fun x y q => e x y (by unfold q_obs at q; omega))
theorem q_hi.trial (e : ∀ x y, (x < 51 ∨ 76 ≤ x) → I' x y = I x y) : q_hi I I' L L := fun x y hx => ⟨e x y (by omega), rfl⟩
theorem q_hi.tr {I2 : Rn} {L2 : Rl} (h : q_hi I I' L L') (h2 : q_hi I' I2 L' L2) : q_hi I I2 L L2 := fun x y hx => ⟨(h2 x y hx).1.trans (h x y hx).1, (h2 x y hx).2.trans (h x y hx).2⟩
theorem WFd.u {k : Nat} {v : Int32} (h : WFd D) (hv : k < 5 → q_le v 0 (q_umax k)) : WFd (eU D k v) := by
  refine ⟨h.1, h.2.1, h.2.2.1, h.2.2.2.1, fun j hj => ?_, h.2.2.2.2.2⟩
  show q_le (if j = k then v else D.2.2.1 j) 0 (q_umax j)
  by_cases e : j = k
  · rw [if_pos e, e]
    exact hv (e ▸ hj)
  · rw [if_neg e]
    exact h.2.2.2.2.1 j hj
theorem WFd.dry {v : Int32} (h : WFd D) (hv : q_le v 1 9) : WFd (eS D 1 v) :=
  ⟨h.1, h.2.1, h.2.2.1, h.2.2.2.1, h.2.2.2.2.1, by
    show q_le (if 1 = 1 then v else D.2.2.2.1 1) 1 9
    rw [if_pos rfl]
    exact hv, h.2.2.2.2.2.2⟩
theorem eS_eS {k : Nat} {v w : Int32} : eS (eS D k v) k w = eS D k w := by
  unfold eS
  congr 1
  congr 1
  congr 1
  congr 1
  funext q
  by_cases e : q = k
  · rw [if_pos e, if_pos e]
  · rw [if_neg e, if_neg e]
    show (if q = k then v else D.2.2.2.1 q) = _
    rw [if_neg e]
theorem eU_eU {k : Nat} {v w : Int32} : eU (eU D k v) k w = eU D k w := by
  unfold eU
  congr 1
  congr 1
  congr 1
  funext q
  by_cases e : q = k
  · rw [if_pos e, if_pos e]
  · rw [if_neg e, if_neg e]
    show (if q = k then v else D.2.2.1 q) = _
    rw [if_neg e]
def sp_blame (D : Dst) (p : Nat) : Int32 := q_mill (sp_open (sp_mt D p 11) (sp_mt D p 12) (sp_mt D p 6)).toInt64 ((sp_open (sp_mt D p 11) (sp_mt D p 12) (sp_mt D p 6)).toInt64 + (D.2.2.1 4).toInt64 * 10000)
def op_blame (σ : St) (x : Int32) : Int32 × St := if 0 ≤ x ∧ x ≤ nI (dC σ.1) - 1 then if sp_mc (dC σ.1) = 0 then fnd σ (-1000000004) 3 else (sp_blame σ.1 x.toNatClampNeg, σ) else fnd σ (-1000000001) 0
theorem k_N_blame {x : Int32} (hC : RepC I L σ) (hW : WFs σ) (hk : CK K I L (op_blame σ x)) : WW G (d + 5) mt_N_blame 0 [some (.ref 0), some (.int x), none, none] [] SH RF I L 0 0 0 0 K := by
  unfold op_blame at hk
  have hcnt := hC.cnt hW
  have hc8 := hW.1.1.1
  refine r_ald0 f_N_blame_0 ?_
  refine r_gr f_N_blame_1 (s_0) (r_0_0) ?_
  refine r_ild1 f_N_blame_4 ?_
  refine c_D_hasFarm f_N_blame_5 (sD q_D1) (Nat.le_of_ble_eq_true rfl) (Nat.le_refl _) (Nat.le_refl _) ?_
  refine p_D_hasFarm q_D1 hcnt hc8 (fun hx u hu eu => ?_) (fun hx => ?_)
  · rw [if_pos hx] at hk
    subst eu
    rw [nI_clamp (by omega)] at hk
    refine r_if_ne f_N_blame_8 (fun _ => ?_) (fun h => absurd h (by decide))
    refine r_ald0 f_N_blame_18 ?_
    refine r_gr f_N_blame_19 (s_0) (r_0_0) ?_
    refine c_D_meetCount f_N_blame_22 (sD q_D1) (Nat.le_of_ble_eq_true rfl) (Nat.le_refl _) (Nat.le_refl _) ?_
    refine k_D_meetCount q_D1 hcnt hc8 ?_
    refine r_if_ne f_N_blame_25 (fun h25 => ?_) (fun h25 => ?_)
    · have hmc : ¬ sp_mc (dC σ.1) = 0 := fun q => h25 (by rw [q]; rfl)
      rw [if_neg hmc] at hk
      have hmc2 : sp_mc (dC σ.1) = dC σ.1 := sp_mc_eq hmc
      refine r_ald0 f_N_blame_35 ?_
      refine r_gr f_N_blame_36 (s_0) (r_0_0) ?_
      refine c_D_weigh f_N_blame_39 (sD q_D1) (Nat.le_of_ble_eq_true rfl) (Nat.le_refl _) (Nat.le_refl _) ?_
      refine k_D_weigh q_D1 hC.1 hW.1 (fun I9 g9 m9 => ?_)
      have hR9 := hC.1.agW q_D1 g9
      refine r_ald0 f_N_blame_42 ?_
      refine r_gr f_N_blame_43 (s_0) (r_0_0) ?_
      refine r_gr f_N_blame_46 (sD q_D1) (rD10 q_D1) ?_
      refine r_ild1 f_N_blame_49 ?_
      refine r_aald f_N_blame_50 (Or.inr (Or.inl rfl)) (sD7 q_D1) (q_ix.nI (by omega) (by decide)) (rDM q_D1 (by omega)) ?_
      refine c_M_open f_N_blame_51 (sDM q_D1 (by omega)) (Nat.le_of_ble_eq_true rfl) (Nat.le_refl _) (Nat.le_refl _) ?_
      refine k_M_open (sDM q_D1 (by omega)) ?_
      rw [m9 u 11 (by omega) (by decide), m9 u 12 (by omega) (by decide), m9 u 6 (by omega) (by decide)]
      refine r_i2l f_N_blame_54 ?_
      refine r_lst2 f_N_blame_55 (by decide) rfl ?_
      refine r_lld2 f_N_blame_56 ?_
      refine r_lld2 f_N_blame_57 ?_
      refine r_ald0 f_N_blame_58 ?_
      refine r_gr f_N_blame_59 (s_0) (r_0_0) ?_
      refine r_gr f_N_blame_62 (sD q_D1) (rD2 q_D1) ?_
      refine r_ic f_N_blame_65 ?_
      refine r_iald f_N_blame_66 (sD3 q_D1) (show q_ix 4 4 5 from ⟨by decide, by decide⟩) ?_
      refine r_i2l f_N_blame_67 ?_
      refine r_lc f_N_blame_68 ?_
      refine r_lmul f_N_blame_71 ?_
      refine r_ladd f_N_blame_72 ?_
      refine c_N_millionths f_N_blame_73 (Nat.le_of_ble_eq_true rfl) (Nat.le_refl _) (Nat.le_refl _) ?_
      rw [show I9 (1 + 3) 4 = σ.1.2.2.1 4 from (PD.rf hR9).u (by decide)]
      refine k_N_millionths ?_
      refine r_iret f_N_blame_76 ⟨_, rfl, rfl⟩ (Nat.le_refl _) (Nat.le_refl _) ?_
      exact hk _ _ (hC.ofW g9) (q_hi.ofW g9)
    · have hmc : sp_mc (dC σ.1) = 0 := sp_mc_z hc8 h25
      rw [if_pos hmc] at hk
      refine r_ald0 f_N_blame_28 ?_
      refine r_ic f_N_blame_29 ?_
      refine c_N_finding f_N_blame_31 (s_0) (Nat.le_of_ble_eq_true rfl) (Nat.le_refl _) (Nat.le_refl _) ?_
      refine k_N_finding (k := 3) (by decide) (by decide) hC (fun I9 hC9 hi9 => ?_)
      refine r_iret f_N_blame_34 ⟨_, rfl, rfl⟩ (Nat.le_refl _) (Nat.le_refl _) ?_
      exact hk _ _ hC9 hi9
  · rw [if_neg hx] at hk
    refine r_if_ne f_N_blame_8 (fun h => absurd h (by decide)) (fun _ => ?_)
    refine r_ald0 f_N_blame_11 ?_
    refine r_ic f_N_blame_12 ?_
    refine c_N_finding f_N_blame_14 (s_0) (Nat.le_of_ble_eq_true rfl) (Nat.le_refl _) (Nat.le_refl _) ?_
    refine k_N_finding (k := 0) (by decide) (by decide) hC (fun I9 hC9 hi9 => ?_)
    refine r_iret f_N_blame_17 ⟨_, rfl, rfl⟩ (Nat.le_refl _) (Nat.le_refl _) ?_
    exact hk _ _ hC9 hi9
def sp_alw (D : Dst) : Nat → Int32
  | 0 => 0
  | p + 1 => if sp_mt D p 11 = 1000000 then sp_alw D p ||| (1 <<< (sp_mt D p 1 &&& 31)) else sp_alw D p
theorem sp_alw_y {p : Nat} (h : sp_mt D p 11 = 1000000) : sp_alw D (p + 1) = sp_alw D p ||| (1 <<< (sp_mt D p 1 &&& 31)) := if_pos h
theorem sp_alw_n {p : Nat} (h : ¬ sp_mt D p 11 = 1000000) : sp_alw D (p + 1) = sp_alw D p := if_neg h
def op_always (σ : St) : Int32 × St := (sp_alw σ.1 (sp_mc (dC σ.1)), σ)
theorem k_N_always_loop (hR : RD I 1 D) (hW : WFd D) (m9 : ∀ p k, p < sp_mc (dC D) → k < 13 → I (1 + 10 + 2 * p) k = sp_mt D p k) (hk : K (some (.int (sp_alw D (sp_mc (dC D))))) SH RF I L) : ∀ (m p : Nat), m + p = sp_mc (dC D) → WW G (d + 1) mt_N_always 11 [some (.ref 0), some (.int (sp_alw D p)), some (.int (nI p))] [] SH RF I L 0 0 0 0 K
  | 0, p, h => by
    have hc8 := hW.1.1
    have hmc := sp_mc_le (dC D)
    have ep : p = sp_mc (dC D) := by omega
    subst ep
    refine r_ild2 f_N_always_11 ?_
    refine r_ald0 f_N_always_12 ?_
    refine r_gr f_N_always_13 (s_0) (r_0_0) ?_
    refine c_D_meetCount f_N_always_16 (sD q_D1) (Nat.le_of_ble_eq_true rfl) (Nat.le_refl _) (Nat.le_refl _) ?_
    refine k_D_meetCount q_D1 (hR.cnt hW) hc8 ?_
    refine r_ic_ge f_N_always_19 (fun h19 => ?_) (fun h19 => absurd h19 (fun q => q (Int32.le_refl _)))
    refine r_ild1 f_N_always_62 ?_
    refine r_iret f_N_always_63 ⟨_, rfl, rfl⟩ (Nat.le_refl _) (Nat.le_refl _) ?_
    exact hk
  | m + 1, p, h => by
    have hc8 := hW.1.1
    have hmc := sp_mc_le (dC D)
    refine r_ild2 f_N_always_11 ?_
    refine r_ald0 f_N_always_12 ?_
    refine r_gr f_N_always_13 (s_0) (r_0_0) ?_
    refine c_D_meetCount f_N_always_16 (sD q_D1) (Nat.le_of_ble_eq_true rfl) (Nat.le_refl _) (Nat.le_refl _) ?_
    refine k_D_meetCount q_D1 (hR.cnt hW) hc8 ?_
    refine r_ic_ge f_N_always_19 (fun h19 => absurd h19 (nI_ge (by omega) (by omega))) (fun h19 => ?_)
    refine r_ald0 f_N_always_22 ?_
    refine r_gr f_N_always_23 (s_0) (r_0_0) ?_
    refine r_gr f_N_always_26 (sD q_D1) (rD10 q_D1) ?_
    refine r_ild2 f_N_always_29 ?_
    refine r_aald f_N_always_30 (Or.inr (Or.inl rfl)) (sD7 q_D1) (q_ix.nI (by omega) (by decide)) (rDM q_D1 (by omega)) ?_
    refine r_gi f_N_always_31 (sDM q_D1 (by omega)) ?_
    rw [m9 p 11 (by omega) (by decide)]
    refine r_ic f_N_always_34 ?_
    refine r_ic_ne f_N_always_36 (fun h36 => ?_) (fun h36 => ?_)
    · refine r_inc2 f_N_always_56 rfl ?_
      rw [nI_1]
      refine r_goto f_N_always_59 ?_
      have e := k_N_always_loop hR hW m9 hk m (p + 1) (by omega)
      first
        | rw [sp_alw_y h36] at e
          exact e
        | rw [sp_alw_n h36] at e
          exact e
    · refine r_ild1 f_N_always_39 ?_
      refine r_ic f_N_always_40 ?_
      refine r_ald0 f_N_always_41 ?_
      refine r_gr f_N_always_42 (s_0) (r_0_0) ?_
      refine r_gr f_N_always_45 (sD q_D1) (rD10 q_D1) ?_
      refine r_ild2 f_N_always_48 ?_
      refine r_aald f_N_always_49 (Or.inr (Or.inl rfl)) (sD7 q_D1) (q_ix.nI (by omega) (by decide)) (rDM q_D1 (by omega)) ?_
      refine r_gi f_N_always_50 (sDM q_D1 (by omega)) ?_
      rw [m9 p 1 (by omega) (by decide)]
      refine r_ishl f_N_always_53 ?_
      refine r_ior f_N_always_54 ?_
      refine r_ist1 f_N_always_55 rfl ?_
      refine r_inc2 f_N_always_56 rfl ?_
      rw [nI_1]
      refine r_goto f_N_always_59 ?_
      have e := k_N_always_loop hR hW m9 hk m (p + 1) (by omega)
      first
        | rw [sp_alw_y h36] at e
          exact e
        | rw [sp_alw_n h36] at e
          exact e
theorem k_N_always (hC : RepC I L σ) (hW : WFs σ) (hk : CK K I L (op_always σ)) : WW G (d + 5) mt_N_always 0 [some (.ref 0), none, none] [] SH RF I L 0 0 0 0 K := by
  unfold op_always at hk
  have hcnt := hC.cnt hW
  have hc8 := hW.1.1.1
  refine r_ald0 f_N_always_0 ?_
  refine r_gr f_N_always_1 (s_0) (r_0_0) ?_
  refine c_D_weigh f_N_always_4 (sD q_D1) (Nat.le_of_ble_eq_true rfl) (Nat.le_refl _) (Nat.le_refl _) ?_
  refine k_D_weigh q_D1 hC.1 hW.1 (fun I9 g9 m9 => ?_)
  have hR9 := hC.1.agW q_D1 g9
  refine r_ic f_N_always_7 ?_
  refine r_ist1 f_N_always_8 rfl ?_
  refine r_ic f_N_always_9 ?_
  refine r_ist2 f_N_always_10 rfl ?_
  exact k_N_always_loop hR9 hW.1 m9 (hk _ _ (hC.ofW g9) (q_hi.ofW g9)) _ 0 (Nat.add_zero _)
def sp_read (D : Dst) (c : Nat → Int64) : Nat → Nat → Int32
  | 0, _ => 0
  | m + 1, j => if sp_mc (dC D) ≤ j ∨ ¬ c j = (sp_mt D j 11).toInt64 then 1 + nI j else sp_read D c m (j + 1)
def op_read (σ : St) (s : Int32) : Int32 × St := if 0 ≤ s ∧ s ≤ 3 then if σ.2.2.2.2.1 s.toNatClampNeg = 0 then fnd σ (-1000000006) 5 else (sp_read σ.1 (σ.2.2.2.2.2.2 s.toNatClampNeg) (σ.2.2.2.2.2.1 s.toNatClampNeg).toNatClampNeg 0, σ) else fnd σ (-1000000001) 0
theorem k_N_read_loop {s Z : Nat} {c : Nat → Int64} (hs : s < 4) (hZ : Z ≤ 40) (hsz : I 93 s = nI Z) (hL : ∀ j, j < 40 → L (88 + s) j = c j) (hR : RD I 1 D) (hW : WFd D) (m9 : ∀ p k, p < sp_mc (dC D) → k < 13 → I (1 + 10 + 2 * p) k = sp_mt D p k) : ∀ (m j : Nat), m + j = Z → K (some (.int (sp_read D c m j))) SH RF I L → WW G (d + 1) mt_N_read 46 [some (.ref 0), some (.int (nI s)), some (.int (nI j))] [] SH RF I L 0 0 0 0 K
  | 0, j, h, hk => by
    have ej : j = Z := by omega
    subst ej
    refine r_ild2 f_N_read_46 ?_
    refine r_ald0 f_N_read_47 ?_
    refine r_gr f_N_read_48 (s_0) (r_0_5) ?_
    refine r_gr f_N_read_51 (s_86) (r_86_2) ?_
    refine r_ild1 f_N_read_54 ?_
    refine r_iald f_N_read_55 (s_93) (q_ix.nI (by omega) (by decide)) ?_
    rw [hsz]
    refine r_ic_ge f_N_read_56 (fun h56 => ?_) (fun h56 => absurd h56 (fun q => q (Int32.le_refl _)))
    refine r_ic f_N_read_108 ?_
    refine r_iret f_N_read_109 ⟨_, rfl, rfl⟩ (Nat.le_refl _) (Nat.le_refl _) ?_
    exact hk
  | m + 1, j, h, hk => by
    have hc8 := hW.1.1
    have hmc := sp_mc_le (dC D)
    refine r_ild2 f_N_read_46 ?_
    refine r_ald0 f_N_read_47 ?_
    refine r_gr f_N_read_48 (s_0) (r_0_5) ?_
    refine r_gr f_N_read_51 (s_86) (r_86_2) ?_
    refine r_ild1 f_N_read_54 ?_
    refine r_iald f_N_read_55 (s_93) (q_ix.nI (by omega) (by decide)) ?_
    rw [hsz]
    refine r_ic_ge f_N_read_56 (fun h56 => absurd h56 (nI_ge (by omega) (by omega))) (fun h56 => ?_)
    refine r_ild2 f_N_read_59 ?_
    refine r_ald0 f_N_read_60 ?_
    refine r_gr f_N_read_61 (s_0) (r_0_0) ?_
    refine c_D_meetCount f_N_read_64 (sD q_D1) (Nat.le_of_ble_eq_true rfl) (Nat.le_refl _) (Nat.le_refl _) ?_
    refine k_D_meetCount q_D1 (hR.cnt hW) hc8 ?_
    refine r_ic_ge f_N_read_67 (fun h67 => ?_) (fun h67 => ?_)
    · refine r_ic f_N_read_98 ?_
      refine r_ild2 f_N_read_99 ?_
      refine r_iadd f_N_read_100 ?_
      refine r_iret f_N_read_101 ⟨_, rfl, rfl⟩ (Nat.le_refl _) (Nat.le_refl _) ?_
      first
        | rw [show sp_read D c (m + 1) j = _ from if_pos (Or.inl ((nI_leI (by omega) (by omega)).mp h67))] at hk
          exact hk
        | rw [show sp_read D c (m + 1) j = _ from if_pos (Or.inr (fun q => h95 (q_lcmp.1.mpr q)))] at hk
          exact hk
    · have hj : j < sp_mc (dC D) := q_lt2 h67 (by omega)
      refine r_ald0 f_N_read_70 ?_
      refine r_gr f_N_read_71 (s_0) (r_0_5) ?_
      refine r_gr f_N_read_74 (s_86) (r_86_0) ?_
      refine r_ild1 f_N_read_77 ?_
      refine r_aald f_N_read_78 (Or.inr (Or.inr rfl)) (s_87) (q_ix.nI (by omega) (by decide)) (rS (by omega)) ?_
      refine r_ild2 f_N_read_79 ?_
      refine r_lald f_N_read_80 (sS (by omega)) (q_ix.nI (show j < 40 by omega) (by decide)) ?_
      refine r_ald0 f_N_read_81 ?_
      refine r_gr f_N_read_82 (s_0) (r_0_0) ?_
      refine r_gr f_N_read_85 (sD q_D1) (rD10 q_D1) ?_
      refine r_ild2 f_N_read_88 ?_
      refine r_aald f_N_read_89 (Or.inr (Or.inl rfl)) (sD7 q_D1) (q_ix.nI (by omega) (by decide)) (rDM q_D1 (by omega)) ?_
      refine r_gi f_N_read_90 (sDM q_D1 (by omega)) ?_
      rw [m9 j 11 hj (by decide), hL j (by omega)]
      refine r_i2l f_N_read_93 ?_
      refine r_lcmp f_N_read_94 ?_
      refine r_if_eq f_N_read_95 (fun h95 => ?_) (fun h95 => ?_)
      · refine r_inc2 f_N_read_102 rfl ?_
        rw [nI_1]
        refine r_goto f_N_read_105 ?_
        rw [show sp_read D c (m + 1) j = _ from if_neg (fun q => q.elim (fun w => absurd hj (by omega)) (fun w => w (q_lcmp.1.mp h95)))] at hk
        exact k_N_read_loop hs hZ hsz hL hR hW m9 m (j + 1) (by omega) hk
      · refine r_ic f_N_read_98 ?_
        refine r_ild2 f_N_read_99 ?_
        refine r_iadd f_N_read_100 ?_
        refine r_iret f_N_read_101 ⟨_, rfl, rfl⟩ (Nat.le_refl _) (Nat.le_refl _) ?_
        first
          | rw [show sp_read D c (m + 1) j = _ from if_pos (Or.inl ((nI_leI (by omega) (by omega)).mp h67))] at hk
            exact hk
          | rw [show sp_read D c (m + 1) j = _ from if_pos (Or.inr (fun q => h95 (q_lcmp.1.mpr q)))] at hk
            exact hk
theorem k_N_read {s : Int32} (hC : RepC I L σ) (hW : WFs σ) (hk : CK K I L (op_read σ s)) : WW G (d + 5) mt_N_read 0 [some (.ref 0), some (.int s), none] [] SH RF I L 0 0 0 0 K := by
  unfold op_read at hk
  have hcnt := hC.cnt hW
  have hc8 := hW.1.1.1
  refine r_ald0 f_N_read_0 ?_
  refine r_gr f_N_read_1 (s_0) (r_0_5) ?_
  refine r_ild1 f_N_read_4 ?_
  refine c_S_has f_N_read_5 (s_86) (Nat.le_of_ble_eq_true rfl) (Nat.le_refl _) (Nat.le_refl _) ?_
  refine k_S_has (fun hsa hsb => ?_) (fun hs => ?_)
  · obtain ⟨p, hp, ep⟩ := q_inC (c := 4) (by omega) hsa hsb
    subst ep
    rw [if_pos ⟨hsa, hsb⟩, nI_clamp (by omega)] at hk
    have hC5 := hC.2.2.2.2 p hp
    refine r_if_ne f_N_read_8 (fun _ => ?_) (fun h => absurd h (by decide))
    refine r_ald0 f_N_read_18 ?_
    refine r_gr f_N_read_19 (s_0) (r_0_5) ?_
    refine r_ild1 f_N_read_22 ?_
    refine c_S_isMissing f_N_read_23 (s_86) (Nat.le_of_ble_eq_true rfl) (Nat.le_refl _) (Nat.le_refl _) ?_
    refine k_S_isMissing hp (fun hm => ?_) (fun hm => ?_)
    · rw [hC5.1] at hm
      rw [if_pos hm] at hk
      refine r_if_eq f_N_read_26 (fun h => absurd h (by decide)) (fun _ => ?_)
      refine r_ald0 f_N_read_29 ?_
      refine r_ic f_N_read_30 ?_
      refine c_N_finding f_N_read_33 (s_0) (Nat.le_of_ble_eq_true rfl) (Nat.le_refl _) (Nat.le_refl _) ?_
      refine k_N_finding (k := 5) (by decide) (by decide) hC (fun I9 hC9 hi9 => ?_)
      refine r_iret f_N_read_36 ⟨_, rfl, rfl⟩ (Nat.le_refl _) (Nat.le_refl _) ?_
      exact hk _ _ hC9 hi9
    · rw [hC5.1] at hm
      rw [if_neg hm] at hk
      refine r_if_eq f_N_read_26 (fun _ => ?_) (fun h => absurd h (by decide))
      refine r_ald0 f_N_read_37 ?_
      refine r_gr f_N_read_38 (s_0) (r_0_0) ?_
      refine c_D_weigh f_N_read_41 (sD q_D1) (Nat.le_of_ble_eq_true rfl) (Nat.le_refl _) (Nat.le_refl _) ?_
      refine k_D_weigh q_D1 hC.1 hW.1 (fun I9 g9 m9 => ?_)
      have hR9 := hC.1.agW q_D1 g9
      refine r_ic f_N_read_44 ?_
      refine r_ist2 f_N_read_45 rfl ?_
      obtain ⟨Z, _, z2, z3⟩ := (hW.2.2.2 p hp).2
      rw [z3, nI_clamp (by omega)] at hk
      have hC9 := hC.ofW g9
      exact k_N_read_loop hp z2 ((hC9.2.2.2.2 p hp).2.1.trans z3) (hC9.2.2.2.2 p hp).2.2 hR9 hW.1 m9 Z 0 rfl (hk _ _ hC9 (q_hi.ofW g9))
  · rw [if_neg hs] at hk
    refine r_if_ne f_N_read_8 (fun h => absurd h (by decide)) (fun _ => ?_)
    refine r_ald0 f_N_read_11 ?_
    refine r_ic f_N_read_12 ?_
    refine c_N_finding f_N_read_14 (s_0) (Nat.le_of_ble_eq_true rfl) (Nat.le_refl _) (Nat.le_refl _) ?_
    refine k_N_finding (k := 0) (by decide) (by decide) hC (fun I9 hC9 hi9 => ?_)
    refine r_iret f_N_read_17 ⟨_, rfl, rfl⟩ (Nat.le_refl _) (Nat.le_refl _) ?_
    exact hk _ _ hC9 hi9
theorem WFd.hire {x : Int32} (h : WFd D) (h0 : 0 ≤ x) (h1 : x ≤ 100) (hs : q_le (D.2.2.1 3) 0 100) : WFd (eU D 3 (D.2.2.1 3 + x)) := h.u (fun _ => by
  obtain ⟨m, hm, em⟩ := nI_of2 (M := 100) (n := 100) (by decide) (Int32.not_lt.mpr h0) h1
  obtain ⟨s, _, s1, s2⟩ := hs
  exact ⟨s + m, by omega, show _ ≤ 200 by omega, by rw [em, s2, nI_add]⟩)
def op_hire (σ : St) (x : Int32) : Int64 × St := if 0 ≤ x ∧ x ≤ 100 then (sp_lost σ.1 - sp_lost (eU σ.1 3 (σ.1.2.2.1 3 + x)), σ) else fndL σ (-1000000001) 0
theorem k_N_hire {x : Int32} (hC : RepC I L σ) (hW : WFs σ) (h3 : q_le (σ.1.2.2.1 3) 0 100) (hk : CKl K I L (op_hire σ x)) : WW G (d + 5) mt_N_hire 0 [some (.ref 0), some (.int x)] [] SH RF I L 0 0 0 0 K := by
  unfold op_hire at hk
  have hcnt := hC.cnt hW
  have hc8 := hW.1.1.1
  refine r_ild1 f_N_hire_0 ?_
  refine r_ic f_N_hire_1 ?_
  refine r_ic f_N_hire_2 ?_
  refine c_N_isWithin f_N_hire_4 (Nat.le_of_ble_eq_true rfl) (Nat.le_refl _) (Nat.le_refl _) ?_
  refine k_N_isWithin (fun hxa hxb => ?_) (fun hx => ?_)
  · rw [if_pos ⟨hxa, hxb⟩] at hk
    refine r_if_ne f_N_hire_7 (fun _ => ?_) (fun h => absurd h (by decide))
    refine r_ald0 f_N_hire_18 ?_
    refine r_gr f_N_hire_19 (s_0) (r_0_0) ?_
    refine c_D_weigh f_N_hire_22 (sD q_D1) (Nat.le_of_ble_eq_true rfl) (Nat.le_refl _) (Nat.le_refl _) ?_
    refine k_D_weigh q_D1 hC.1 hW.1 (fun I9 g9 m9 => ?_)
    have hR9 := hC.1.agW q_D1 g9
    refine r_ald0 f_N_hire_25 ?_
    refine r_gr f_N_hire_26 (s_0) (r_0_2) ?_
    refine r_ald0 f_N_hire_29 ?_
    refine r_gr f_N_hire_30 (s_0) (r_0_0) ?_
    refine c_D_become f_N_hire_33 (sD q_D3) (Nat.le_of_ble_eq_true rfl) (Nat.le_refl _) (Nat.le_refl _) ?_
    refine k_D_become q_D3 q_D1 (by decide) hR9 hW.1.2.2.2.2.2.2.2.1 (fun I1 hR1 h1 => ?_)
    have hP1 := PD.rf hR1
    have hWU : WFd (eU σ.1 3 (σ.1.2.2.1 3 + x)) := hW.1.hire hxa hxb h3
    refine r_ald0 f_N_hire_36 ?_
    refine r_gr f_N_hire_37 (s_0) (r_0_2) ?_
    refine r_gr f_N_hire_40 (sD q_D3) (rD2 q_D3) ?_
    refine r_ic f_N_hire_43 ?_
    refine r_dup2 f_N_hire_44 ?_
    refine r_iald f_N_hire_45 (sD3 q_D3) (show q_ix 3 3 5 from ⟨by decide, by decide⟩) ?_
    rw [show I1 (51 + 3) 3 = σ.1.2.2.1 3 from hP1.u (by decide)]
    refine r_ild1 f_N_hire_46 ?_
    refine r_iadd f_N_hire_47 ?_
    refine r_pU f_N_hire_48 q_D3 (show q_ix 3 3 5 from ⟨by decide, by decide⟩) hP1 (fun I2 hP2 => ?_)
    refine r_ald0 f_N_hire_49 ?_
    refine r_gr f_N_hire_50 (s_0) (r_0_2) ?_
    refine c_D_weigh f_N_hire_53 (sD q_D3) (Nat.le_of_ble_eq_true rfl) (Nat.le_refl _) (Nat.le_refl _) ?_
    refine k_D_weigh q_D3 hP2.1 hWU (fun I3 g3 m3 => ?_)
    have hP3 := hP2.weigh q_D3 g3
    have h13 : ∀ x y, (x < 51 ∨ 76 ≤ x) → I3 x y = I9 x y := fun x y hx => (hP3.2.2 x y hx).trans (h1 x y hx)
    refine r_ald0 f_N_hire_56 ?_
    refine r_gr f_N_hire_57 (s_0) (r_0_0) ?_
    refine c_D_loses f_N_hire_60 (sD q_D1) (Nat.le_of_ble_eq_true rfl) (Nat.le_refl _) (Nat.le_refl _) ?_
    refine k_D_loses q_D1 (hR9.rows (fun x y a1 a2 => h13 x y (by omega))) hW.1 (fun p k h2 h4 => ?_) ?_
    · rw [h13 (1 + 10 + 2 * p) k (by have := sp_mc_le (dC σ.1); omega)]
      exact m9 p k h2 h4
    refine r_ald0 f_N_hire_63 ?_
    refine r_gr f_N_hire_64 (s_0) (r_0_2) ?_
    refine c_D_loses f_N_hire_67 (sD q_D3) (Nat.le_of_ble_eq_true rfl) (Nat.le_refl _) (Nat.le_refl _) ?_
    refine k_D_loses q_D3 hP3.1 hWU m3 ?_
    refine r_lsub f_N_hire_70 ?_
    refine r_lret f_N_hire_71 rfl (Nat.le_refl _) (Nat.le_refl _) ?_
    exact hk _ _ ((hC.ofW g9).trial h13) ((q_hi.ofW g9).tr (q_hi.trial h13))
  · rw [if_neg hx] at hk
    refine r_if_ne f_N_hire_7 (fun h => absurd h (by decide)) (fun _ => ?_)
    refine r_ald0 f_N_hire_10 ?_
    refine r_ic f_N_hire_11 ?_
    refine c_N_finding f_N_hire_13 (s_0) (Nat.le_of_ble_eq_true rfl) (Nat.le_refl _) (Nat.le_refl _) ?_
    refine k_N_finding (k := 0) (by decide) (by decide) hC (fun I9 hC9 hi9 => ?_)
    refine r_i2l f_N_hire_16 ?_
    refine r_lret f_N_hire_17 rfl (Nat.le_refl _) (Nat.le_refl _) ?_
    exact hk _ _ hC9 hi9
def sp_brk (D : Dst) (x : Int32) : Nat → Nat → Option Nat
  | 0, _ => none
  | m + 1, j => if x < sp_great (eS D 1 (nI j)) then some j else sp_brk D x m (j + 1)
def op_breaks (σ : St) (x : Int32) : Int32 × St := if 0 ≤ x ∧ x ≤ 1000000 then match sp_brk σ.1 x 9 1 with
  | some j => (nI j, σ)
  | none => fnd σ (-1000000004) 3 else fnd σ (-1000000001) 0
theorem k_N_breaks_loop {x : Int32} (hC : RepC I L σ) (hW : WFs σ) (hk : CK K I L (match sp_brk σ.1 x 9 1 with
  | some j => (nI j, σ)
  | none => fnd σ (-1000000004) 3)) : ∀ (m j : Nat) (I' : Rn) (v : Int32) (Me : Nat → Nat → Int32), m + j = 10 → 1 ≤ j → sp_brk σ.1 x m j = sp_brk σ.1 x 9 1 → PD I I' 51 (eS σ.1 1 v) Me → WW G (d + 5) mt_N_breaks 30 [some (.ref 0), some (.int x), some (.int (nI j))] [] SH RF I' L 0 0 0 0 K
  | 0, j, I', v, Me, h, hj, hb, hP => by
    have ej : j = 10 := by omega
    subst ej
    rw [← hb] at hk
    replace hk : CK K I L (fnd σ (-1000000004) 3) := hk
    replace hC := hC.trial hP.2.2
    refine r_ild2 f_N_breaks_30 ?_
    refine r_ic f_N_breaks_31 ?_
    refine r_ic_gt f_N_breaks_33 (fun h33 => ?_) (fun h33 => absurd h33 (fun q => q (by decide)))
    refine r_ald0 f_N_breaks_70 ?_
    refine r_ic f_N_breaks_71 ?_
    refine c_N_finding f_N_breaks_73 (s_0) (Nat.le_of_ble_eq_true rfl) (Nat.le_refl _) (Nat.le_refl _) ?_
    refine k_N_finding (k := 3) (by decide) (by decide) hC (fun I9 hC9 hi9 => ?_)
    refine r_iret f_N_breaks_76 ⟨_, rfl, rfl⟩ (Nat.le_refl _) (Nat.le_refl _) ?_
    exact hk _ _ hC9 ((q_hi.trial hP.2.2).tr hi9)
  | m + 1, j, I', v, Me, h, hj, hb, hP => by
    have hWD : WFd (eS σ.1 1 (nI j)) := hW.1.dry ⟨j, hj, by omega, rfl⟩
    refine r_ild2 f_N_breaks_30 ?_
    refine r_ic f_N_breaks_31 ?_
    refine r_ic_gt f_N_breaks_33 (fun h33 => absurd h33 (nI_nlt (a := 9) (by omega) (by decide))) (fun h33 => ?_)
    refine r_ald0 f_N_breaks_36 ?_
    refine r_gr f_N_breaks_37 (s_0) (r_0_2) ?_
    refine r_ild2 f_N_breaks_40 ?_
    refine r_pS f_N_breaks_41 q_D3 (k := 1) (by decide) rfl hP (fun I2 hP2 => ?_)
    rw [eS_eS] at hP2
    refine r_ald0 f_N_breaks_44 ?_
    refine r_gr f_N_breaks_45 (s_0) (r_0_2) ?_
    refine c_D_weigh f_N_breaks_48 (sD q_D3) (Nat.le_of_ble_eq_true rfl) (Nat.le_refl _) (Nat.le_refl _) ?_
    refine k_D_weigh q_D3 hP2.1 hWD (fun I3 g3 m3 => ?_)
    have hP3 := hP2.weigh q_D3 g3
    refine r_ald0 f_N_breaks_51 ?_
    refine r_gr f_N_breaks_52 (s_0) (r_0_2) ?_
    refine c_D_greatestTakes f_N_breaks_55 (sD q_D3) (Nat.le_of_ble_eq_true rfl) (Nat.le_refl _) (Nat.le_refl _) ?_
    refine k_D_greatestTakes q_D3 hP3.1 hWD m3 ?_
    refine r_ild1 f_N_breaks_58 ?_
    refine r_ic_le f_N_breaks_59 (fun h59 => ?_) (fun h59 => ?_)
    · refine r_inc2 f_N_breaks_64 rfl ?_
      rw [nI_1]
      refine r_goto f_N_breaks_67 ?_
      refine k_N_breaks_loop hC hW hk m (j + 1) I3 _ _ (by omega) (by omega) ?_ hP3
      rw [← hb, show sp_brk σ.1 x (m + 1) j = _ from if_neg (Int32.not_lt.mpr h59)]
    · refine r_ild2 f_N_breaks_62 ?_
      refine r_iret f_N_breaks_63 ⟨_, rfl, rfl⟩ (Nat.le_refl _) (Nat.le_refl _) ?_
      rw [← hb, show sp_brk σ.1 x (m + 1) j = _ from if_pos (Int32.not_le.mp h59)] at hk
      exact hk _ _ (hC.trial hP3.2.2) (q_hi.trial hP3.2.2)
theorem eS_id {k : Nat} : eS D k (D.2.2.2.1 k) = D := by
  have : (fun q => if q = k then D.2.2.2.1 k else D.2.2.2.1 q) = D.2.2.2.1 := by
    funext q
    by_cases e : q = k
    · rw [if_pos e, e]
    · rw [if_neg e]
  unfold eS
  rw [this]
theorem eU_id {k : Nat} : eU D k (D.2.2.1 k) = D := by
  have : (fun q => if q = k then D.2.2.1 k else D.2.2.1 q) = D.2.2.1 := by
    funext q
    by_cases e : q = k
    · rw [if_pos e, e]
    · rw [if_neg e]
  unfold eU
  rw [this]
theorem k_N_breaks {x : Int32} (hC : RepC I L σ) (hW : WFs σ) (hk : CK K I L (op_breaks σ x)) : WW G (d + 5) mt_N_breaks 0 [some (.ref 0), some (.int x), none] [] SH RF I L 0 0 0 0 K := by
  unfold op_breaks at hk
  have hcnt := hC.cnt hW
  have hc8 := hW.1.1.1
  refine r_ild1 f_N_breaks_0 ?_
  refine r_ic f_N_breaks_1 ?_
  refine r_ic f_N_breaks_2 ?_
  refine c_N_isWithin f_N_breaks_4 (Nat.le_of_ble_eq_true rfl) (Nat.le_refl _) (Nat.le_refl _) ?_
  refine k_N_isWithin (fun hxa hxb => ?_) (fun hx => ?_)
  · rw [if_pos ⟨hxa, hxb⟩] at hk
    refine r_if_ne f_N_breaks_7 (fun _ => ?_) (fun h => absurd h (by decide))
    refine r_ald0 f_N_breaks_17 ?_
    refine r_gr f_N_breaks_18 (s_0) (r_0_2) ?_
    refine r_ald0 f_N_breaks_21 ?_
    refine r_gr f_N_breaks_22 (s_0) (r_0_0) ?_
    refine c_D_become f_N_breaks_25 (sD q_D3) (Nat.le_of_ble_eq_true rfl) (Nat.le_refl _) (Nat.le_refl _) ?_
    refine k_D_become q_D3 q_D1 (by decide) hC.1 hW.1.2.2.2.2.2.2.2.1 (fun I1 hR1 h1 => ?_)
    have hP1 : PD I I1 51 σ.1 (fun i k => I1 (51 + 10 + 2 * i) k) := ⟨hR1, fun _ _ _ => rfl, h1⟩
    refine r_ic f_N_breaks_28 ?_
    refine r_ist2 f_N_breaks_29 rfl ?_
    exact k_N_breaks_loop hC hW hk 9 1 I1 (σ.1.2.2.2.1 1) _ rfl (Nat.le_refl 1) rfl (by rw [eS_id]; exact hP1)
  · rw [if_neg hx] at hk
    refine r_if_ne f_N_breaks_7 (fun h => absurd h (by decide)) (fun _ => ?_)
    refine r_ald0 f_N_breaks_10 ?_
    refine r_ic f_N_breaks_11 ?_
    refine c_N_finding f_N_breaks_13 (s_0) (Nat.le_of_ble_eq_true rfl) (Nat.le_refl _) (Nat.le_refl _) ?_
    refine k_N_finding (k := 0) (by decide) (by decide) hC (fun I9 hC9 hi9 => ?_)
    refine r_iret f_N_breaks_16 ⟨_, rfl, rfl⟩ (Nat.le_refl _) (Nat.le_refl _) ?_
    exact hk _ _ hC9 hi9
def sp_bis (D : Dst) (x : Int32) : Nat → Nat → Nat → Nat
  | 0, lo, _ => lo
  | m + 1, lo, hi => if hi ≤ lo then lo else if x < sp_great (eU D 0 (nI ((lo + hi) / 2))) then sp_bis D x m ((lo + hi) / 2 + 1) hi else sp_bis D x m lo ((lo + hi) / 2)
def op_least (σ : St) (x : Int32) : Int32 × St := if 0 ≤ x ∧ x ≤ 1000000 then if x < sp_great (eU σ.1 0 99999) then fnd σ (-1000000004) 3 else (nI (sp_bis σ.1 x 32 0 99999), σ) else fnd σ (-1000000001) 0
theorem k_N_least_loop {x : Int32} (hC : RepC I L σ) (hW : WFs σ) (hk : CK K I L (nI (sp_bis σ.1 x 32 0 99999), σ)) : ∀ (m lo hi s : Nat) (I' : Rn) (v : Int32) (Me : Nat → Nat → Int32), m + s = 32 → lo ≤ 99999 → hi ≤ 99999 → sp_bis σ.1 x m lo hi = sp_bis σ.1 x 32 0 99999 → PD I I' 51 (eU σ.1 0 v) Me → WW G (d + 6) mt_N_least 56 [some (.ref 0), some (.int x), some (.int (nI lo)), some (.int (nI hi)), some (.int (nI s)), none] [] SH RF I' L 0 0 0 0 K
  | 0, lo, hi, s, I', v, Me, h, hl, hh, hb, hP => by
    have es : s = 32 := by omega
    subst es
    rw [← hb] at hk
    by_cases hlh : hi ≤ lo
    · refine r_ild2 f_N_least_56 ?_
      refine r_ild3 f_N_least_57 ?_
      refine r_ic_ge f_N_least_58 (fun h58 => ?_) (fun h58 => absurd h58 (fun q => q (nI_le hlh (by omega))))
      refine r_ild2 f_N_least_105 ?_
      refine r_iret f_N_least_106 ⟨_, rfl, rfl⟩ (Nat.le_refl _) (Nat.le_refl _) ?_
      exact hk _ _ (hC.trial hP.2.2) (q_hi.trial hP.2.2)
    · refine r_ild2 f_N_least_56 ?_
      refine r_ild3 f_N_least_57 ?_
      refine r_ic_ge f_N_least_58 (fun h58 => absurd h58 (nI_ge (by omega) (by omega))) (fun h58 => ?_)
      refine r_ild4 f_N_least_61 ?_
      refine r_ic f_N_least_63 ?_
      refine r_ic_ge f_N_least_65 (fun h65 => ?_) (fun h65 => absurd h65 (fun q => q (by decide)))
      refine r_ild2 f_N_least_105 ?_
      refine r_iret f_N_least_106 ⟨_, rfl, rfl⟩ (Nat.le_refl _) (Nat.le_refl _) ?_
      exact hk _ _ (hC.trial hP.2.2) (q_hi.trial hP.2.2)
  | m + 1, lo, hi, s, I', v, Me, h, hl, hh, hb, hP => by
    by_cases hlh : hi ≤ lo
    · rw [← hb, show sp_bis σ.1 x (m + 1) lo hi = _ from if_pos hlh] at hk
      refine r_ild2 f_N_least_56 ?_
      refine r_ild3 f_N_least_57 ?_
      refine r_ic_ge f_N_least_58 (fun h58 => ?_) (fun h58 => absurd h58 (fun q => q (nI_le hlh (by omega))))
      refine r_ild2 f_N_least_105 ?_
      refine r_iret f_N_least_106 ⟨_, rfl, rfl⟩ (Nat.le_refl _) (Nat.le_refl _) ?_
      exact hk _ _ (hC.trial hP.2.2) (q_hi.trial hP.2.2)
    · rw [show sp_bis σ.1 x (m + 1) lo hi = _ from if_neg hlh] at hb
      have hWD : WFd (eU (eU σ.1 0 v) 0 (nI ((lo + hi) / 2))) := by
        rw [eU_eU]
        exact hW.1.u (fun _ => ⟨(lo + hi) / 2, by omega, show _ ≤ 99999 by omega, rfl⟩)
      refine r_ild2 f_N_least_56 ?_
      refine r_ild3 f_N_least_57 ?_
      refine r_ic_ge f_N_least_58 (fun h58 => absurd h58 (nI_ge (by omega) (by omega))) (fun h58 => ?_)
      refine r_ild4 f_N_least_61 ?_
      refine r_ic f_N_least_63 ?_
      refine r_ic_ge f_N_least_65 (fun h65 => absurd h65 (nI_ge (b := 32) (by omega) (by decide))) (fun h65 => ?_)
      refine r_ild2 f_N_least_68 ?_
      refine r_ild3 f_N_least_69 ?_
      refine r_iadd f_N_least_70 ?_
      refine r_ic f_N_least_71 ?_
      refine r_idiv f_N_least_72 (by decide) ?_
      rw [nI_add, show nI (lo + hi) / 2 = nI ((lo + hi) / 2) from pk_div (d := 2) (by omega) (by decide) (by decide)]
      refine r_ist5 f_N_least_73 rfl ?_
      refine r_ald0 f_N_least_75 ?_
      refine r_gr f_N_least_76 (s_0) (r_0_2) ?_
      refine r_ild5 f_N_least_79 ?_
      refine c_D_takesAtMost f_N_least_81 (sD q_D3) (Nat.le_of_ble_eq_true rfl) (Nat.le_refl _) (Nat.le_refl _) ?_
      refine k_D_takesAtMost q_D3 hP hWD (fun I3 Me3 hP3 => ?_)
      rw [eU_eU] at hP3 ⊢
      refine r_ild1 f_N_least_84 ?_
      refine r_ic_le f_N_least_85 (fun h85 => ?_) (fun h85 => ?_)
      · refine r_ild5 f_N_least_96 ?_
        refine r_ist3 f_N_least_98 rfl ?_
        refine r_inc4 f_N_least_99 rfl ?_
        rw [nI_1]
        refine r_goto f_N_least_102 ?_
        refine r_drop5 ?_
        first
          | exact k_N_least_loop hC hW hk m ((lo + hi) / 2 + 1) hi (s + 1) I3 _ _ (by omega) (by omega) hh ((if_pos (Int32.not_le.mp h85)).symm.trans hb) hP3
          | exact k_N_least_loop hC hW hk m lo ((lo + hi) / 2) (s + 1) I3 _ _ (by omega) hl (by omega) ((if_neg (Int32.not_lt.mpr h85)).symm.trans hb) hP3
      · refine r_ild5 f_N_least_88 ?_
        refine r_ic f_N_least_90 ?_
        refine r_iadd f_N_least_91 ?_
        rw [nI_1]
        refine r_ist2 f_N_least_92 rfl ?_
        refine r_goto f_N_least_93 ?_
        refine r_inc4 f_N_least_99 rfl ?_
        rw [nI_1]
        refine r_goto f_N_least_102 ?_
        refine r_drop5 ?_
        first
          | exact k_N_least_loop hC hW hk m ((lo + hi) / 2 + 1) hi (s + 1) I3 _ _ (by omega) (by omega) hh ((if_pos (Int32.not_le.mp h85)).symm.trans hb) hP3
          | exact k_N_least_loop hC hW hk m lo ((lo + hi) / 2) (s + 1) I3 _ _ (by omega) hl (by omega) ((if_neg (Int32.not_lt.mpr h85)).symm.trans hb) hP3
theorem k_N_least {x : Int32} (hC : RepC I L σ) (hW : WFs σ) (hk : CK K I L (op_least σ x)) : WW G (d + 6) mt_N_least 0 [some (.ref 0), some (.int x), none, none, none, none] [] SH RF I L 0 0 0 0 K := by
  unfold op_least at hk
  have hcnt := hC.cnt hW
  have hc8 := hW.1.1.1
  refine r_ild1 f_N_least_0 ?_
  refine r_ic f_N_least_1 ?_
  refine r_ic f_N_least_2 ?_
  refine c_N_isWithin f_N_least_4 (Nat.le_of_ble_eq_true rfl) (Nat.le_refl _) (Nat.le_refl _) ?_
  refine k_N_isWithin (fun hxa hxb => ?_) (fun hx => ?_)
  · rw [if_pos ⟨hxa, hxb⟩] at hk
    refine r_if_ne f_N_least_7 (fun _ => ?_) (fun h => absurd h (by decide))
    refine r_ald0 f_N_least_17 ?_
    refine r_gr f_N_least_18 (s_0) (r_0_2) ?_
    refine r_ald0 f_N_least_21 ?_
    refine r_gr f_N_least_22 (s_0) (r_0_0) ?_
    refine c_D_become f_N_least_25 (sD q_D3) (Nat.le_of_ble_eq_true rfl) (Nat.le_refl _) (Nat.le_refl _) ?_
    refine k_D_become q_D3 q_D1 (by decide) hC.1 hW.1.2.2.2.2.2.2.2.1 (fun I1 hR1 h1 => ?_)
    have hP1 : PD I I1 51 σ.1 (fun i k => I1 (51 + 10 + 2 * i) k) := ⟨hR1, fun _ _ _ => rfl, h1⟩
    refine r_ald0 f_N_least_28 ?_
    refine r_gr f_N_least_29 (s_0) (r_0_2) ?_
    refine r_ic f_N_least_32 ?_
    refine c_D_takesAtMost f_N_least_34 (sD q_D3) (Nat.le_of_ble_eq_true rfl) (Nat.le_refl _) (Nat.le_refl _) ?_
    refine k_D_takesAtMost q_D3 hP1 (hW.1.u (fun _ => ⟨99999, by decide, show _ ≤ 99999 by decide, rfl⟩)) (fun I3 Me3 hP3 => ?_)
    refine r_ild1 f_N_least_37 ?_
    refine r_ic_le f_N_least_38 (fun h38 => ?_) (fun h38 => ?_)
    · rw [if_neg (Int32.not_lt.mpr h38)] at hk
      refine r_ic f_N_least_48 ?_
      refine r_ist2 f_N_least_49 rfl ?_
      refine r_ic f_N_least_50 ?_
      refine r_ist3 f_N_least_52 rfl ?_
      refine r_ic f_N_least_53 ?_
      refine r_ist4 f_N_least_54 rfl ?_
      exact k_N_least_loop hC hW hk 32 0 99999 0 I3 _ _ rfl (by decide) (by decide) rfl hP3
    · rw [if_pos (Int32.not_le.mp h38)] at hk
      refine r_ald0 f_N_least_41 ?_
      refine r_ic f_N_least_42 ?_
      refine c_N_finding f_N_least_44 (s_0) (Nat.le_of_ble_eq_true rfl) (Nat.le_refl _) (Nat.le_refl _) ?_
      replace hC := hC.trial hP3.2.2
      refine k_N_finding (k := 3) (by decide) (by decide) hC (fun I9 hC9 hi9 => ?_)
      refine r_iret f_N_least_47 ⟨_, rfl, rfl⟩ (Nat.le_refl _) (Nat.le_refl _) ?_
      exact hk _ _ hC9 ((q_hi.trial hP3.2.2).tr hi9)
  · rw [if_neg hx] at hk
    refine r_if_ne f_N_least_7 (fun h => absurd h (by decide)) (fun _ => ?_)
    refine r_ald0 f_N_least_10 ?_
    refine r_ic f_N_least_11 ?_
    refine c_N_finding f_N_least_13 (s_0) (Nat.le_of_ble_eq_true rfl) (Nat.le_refl _) (Nat.le_refl _) ?_
    refine k_N_finding (k := 0) (by decide) (by decide) hC (fun I9 hC9 hi9 => ?_)
    refine r_iret f_N_least_16 ⟨_, rfl, rfl⟩ (Nat.le_refl _) (Nat.le_refl _) ?_
    exact hk _ _ hC9 hi9
def op_ahead (σ : St) (n w : Int32) : Int32 × St := if (1 ≤ n ∧ n ≤ 50) ∧ (0 ≤ w ∧ w ≤ 1 + nI (dC σ.1)) then let E := sp_nights n.toNatClampNeg σ.1; ((if w = 0 then E.2.2.2.1 3 - σ.1.2.2.2.1 3 else if w = 1 then E.2.2.2.1 4 - σ.1.2.2.2.1 4 else E.1 (w - 2).toNatClampNeg 5), σ) else fnd σ (-1000000001) 0
theorem k_N_ahead {n w : Int32} (hC : RepC I L σ) (hW : WFs σ) (hk : CK K I L (op_ahead σ n w)) : WW G (d + 6) mt_N_ahead 0 [some (.ref 0), some (.int n), some (.int w)] [] SH RF I L 0 0 0 0 K := by
  unfold op_ahead at hk
  have hcnt := hC.cnt hW
  have hc8 := hW.1.1.1
  refine r_ild1 f_N_ahead_0 ?_
  refine r_ic f_N_ahead_1 ?_
  refine r_ic f_N_ahead_2 ?_
  refine c_N_isWithin f_N_ahead_4 (Nat.le_of_ble_eq_true rfl) (Nat.le_refl _) (Nat.le_refl _) ?_
  refine k_N_isWithin (fun hxa hxb => ?_) (fun hx => ?_)
  · refine r_if_eq f_N_ahead_7 (fun h => absurd h (by decide)) (fun _ => ?_)
    refine r_ild2 f_N_ahead_10 ?_
    refine r_ic f_N_ahead_11 ?_
    refine r_ic f_N_ahead_12 ?_
    refine r_ald0 f_N_ahead_13 ?_
    refine r_gr f_N_ahead_14 (s_0) (r_0_0) ?_
    refine r_gi f_N_ahead_17 (sD q_D1) ?_
    rw [hcnt]
    refine r_iadd f_N_ahead_20 ?_
    refine c_N_isWithin f_N_ahead_21 (Nat.le_of_ble_eq_true rfl) (Nat.le_refl _) (Nat.le_refl _) ?_
    refine k_N_isWithin (fun hya hyb => ?_) (fun hy => ?_)
    · rw [if_pos ⟨⟨hxa, hxb⟩, hya, hyb⟩] at hk
      obtain ⟨m, hm, em⟩ := nI_of2 (M := 50) (n := 50) (by decide) (Int32.not_lt.mpr (Int32.le_trans (by decide) hxa)) hxb
      subst em
      rw [nI_clamp (by omega)] at hk
      dsimp only at hk
      refine r_if_ne f_N_ahead_24 (fun _ => ?_) (fun h => absurd h (by decide))
      refine r_ald0 f_N_ahead_34 ?_
      refine r_gr f_N_ahead_35 (s_0) (r_0_2) ?_
      refine r_ald0 f_N_ahead_38 ?_
      refine r_gr f_N_ahead_39 (s_0) (r_0_0) ?_
      refine c_D_become f_N_ahead_42 (sD q_D3) (Nat.le_of_ble_eq_true rfl) (Nat.le_refl _) (Nat.le_refl _) ?_
      refine k_D_become q_D3 q_D1 (by decide) hC.1 hW.1.2.2.2.2.2.2.2.1 (fun I1 hR1 h1 => ?_)
      have hP1 : PD I I1 51 σ.1 (fun i k => I1 (51 + 10 + 2 * i) k) := ⟨hR1, fun _ _ _ => rfl, h1⟩
      refine r_ald0 f_N_ahead_45 ?_
      refine r_gr f_N_ahead_46 (s_0) (r_0_2) ?_
      refine r_ild1 f_N_ahead_49 ?_
      refine c_D_passNights f_N_ahead_50 (sD q_D3) (Nat.le_of_ble_eq_true rfl) (Nat.le_refl _) (Nat.le_refl _) ?_
      refine k_D_passNights q_D3 hm hW.1 hP1 (fun I3 Me3 hP3 => ?_)
      have hC3 := hC.trial hP3.2.2
      have hP0 := PD.rf hC3.1
      refine r_ild2 f_N_ahead_53 ?_
      refine r_sw f_N_ahead_54 ?_
      refine r_swc (k := 0) (by decide) (fun e54_0 => ?_) (fun e54_0 => ?_)
      · rw [if_pos e54_0] at hk
        refine r_ald0 f_N_ahead_80 ?_
        refine r_gr f_N_ahead_81 (s_0) (r_0_2) ?_
        refine r_gi f_N_ahead_84 (sD q_D3) ?_
        refine r_ald0 f_N_ahead_87 ?_
        refine r_gr f_N_ahead_88 (s_0) (r_0_0) ?_
        refine r_gi f_N_ahead_91 (sD q_D1) ?_
        rw [show I3 51 8 = _ from hP3.s (k := 3) (by decide), show I3 1 8 = _ from hP0.s (k := 3) (by decide)]
        refine r_isub f_N_ahead_94 ?_
        refine r_iret f_N_ahead_95 ⟨_, rfl, rfl⟩ (Nat.le_refl _) (Nat.le_refl _) ?_
        exact hk _ _ hC3 (q_hi.trial hP3.2.2)
      refine r_swc (k := 1) (by decide) (fun e54_1 => ?_) (fun e54_1 => ?_)
      · rw [if_neg e54_0, if_pos e54_1] at hk
        refine r_ald0 f_N_ahead_96 ?_
        refine r_gr f_N_ahead_97 (s_0) (r_0_2) ?_
        refine r_gi f_N_ahead_100 (sD q_D3) ?_
        refine r_ald0 f_N_ahead_103 ?_
        refine r_gr f_N_ahead_104 (s_0) (r_0_0) ?_
        refine r_gi f_N_ahead_107 (sD q_D1) ?_
        rw [show I3 51 9 = _ from hP3.s (k := 4) (by decide), show I3 1 9 = _ from hP0.s (k := 4) (by decide)]
        refine r_isub f_N_ahead_110 ?_
        refine r_iret f_N_ahead_111 ⟨_, rfl, rfl⟩ (Nat.le_refl _) (Nat.le_refl _) ?_
        exact hk _ _ hC3 (q_hi.trial hP3.2.2)
      refine r_swn ?_
      rw [if_neg e54_0, if_neg e54_1] at hk
      obtain ⟨y, y1, y2⟩ := nI_of (Int32.not_lt.mpr hya)
      subst y2
      have y3 : y ≤ 1 + dC σ.1 := (nI_leI y1 (by omega)).mp (by rw [← nI_add]; exact hyb)
      have y4 : ¬ y = 0 := fun q => e54_0 (by rw [q]; rfl)
      have y5 : ¬ y = 1 := fun q => e54_1 (by rw [q]; rfl)
      have y6 : nI y - 2 = nI (y - 2) := pk_sub (b := 2) (by omega)
      rw [y6, nI_clamp (by omega)] at hk
      refine r_ald0 f_N_ahead_112 ?_
      refine r_gr f_N_ahead_113 (s_0) (r_0_2) ?_
      refine r_gr f_N_ahead_116 (sD q_D3) (rD0 q_D3) ?_
      refine r_ild2 f_N_ahead_119 ?_
      refine r_ic f_N_ahead_120 ?_
      refine r_isub f_N_ahead_121 ?_
      rw [y6]
      refine r_aald f_N_ahead_122 (Or.inl rfl) (sD1 q_D3) (q_ix.nI (by omega) (by decide)) (rDF q_D3 (by omega)) ?_
      refine r_gi f_N_ahead_123 (sDF q_D3 (by omega)) ?_
      rw [hP3.f (f := y - 2) (k := 5) (by omega) (by decide)]
      refine r_iret f_N_ahead_126 ⟨_, rfl, rfl⟩ (Nat.le_refl _) (Nat.le_refl _) ?_
      exact hk _ _ hC3 (q_hi.trial hP3.2.2)
    · rw [if_neg (fun q => hy q.2)] at hk
      refine r_if_ne f_N_ahead_24 (fun h => absurd h (by decide)) (fun _ => ?_)
      refine r_ald0 f_N_ahead_27 ?_
      refine r_ic f_N_ahead_28 ?_
      refine c_N_finding f_N_ahead_30 (s_0) (Nat.le_of_ble_eq_true rfl) (Nat.le_refl _) (Nat.le_refl _) ?_
      refine k_N_finding (k := 0) (by decide) (by decide) hC (fun I9 hC9 hi9 => ?_)
      refine r_iret f_N_ahead_33 ⟨_, rfl, rfl⟩ (Nat.le_refl _) (Nat.le_refl _) ?_
      exact hk _ _ hC9 hi9
  · rw [if_neg (fun q => hx q.1)] at hk
    refine r_if_eq f_N_ahead_7 (fun _ => ?_) (fun h => absurd h (by decide))
    refine r_ald0 f_N_ahead_27 ?_
    refine r_ic f_N_ahead_28 ?_
    refine c_N_finding f_N_ahead_30 (s_0) (Nat.le_of_ble_eq_true rfl) (Nat.le_refl _) (Nat.le_refl _) ?_
    refine k_N_finding (k := 0) (by decide) (by decide) hC (fun I9 hC9 hi9 => ?_)
    refine r_iret f_N_ahead_33 ⟨_, rfl, rfl⟩ (Nat.le_refl _) (Nat.le_refl _) ?_
    exact hk _ _ hC9 hi9
end L37
