section L51
variable {G : Gx} {d : Nat} {I I' I2 : Rn} {L L' L2 : Rl} {K : Kt} {σ : St} {D : Dst}
theorem q_lw.n96 (hg : q_ag (fun x _ => x = 96) I I') : q_lw I I' L L := q_lw.ag hg (fun x y w => by omega)
theorem k_R_set {x w v : Int32} (hC : RepM I L σ) (hW : WFs σ) (hk : MK K I L (op_set σ x w v)) : WW G (d + 2) mt_R_set 0 [some (.ref 95), some (.int x), some (.int w), some (.int v), none] [] SH RF I L 0 0 0 0 K := by
  unfold op_set at hk
  have hcnt := hC.1.cnt hW.1
  have hc8 := hW.1.1.1
  refine r_ald0 f_R_set_0 ?_
  refine r_ild1 f_R_set_1 ?_
  refine c_R_isFarm f_R_set_2 (s_95) (Nat.le_of_ble_eq_true rfl) (Nat.le_refl _) (Nat.le_refl _) ?_
  refine k_R_isFarm hcnt hc8 (fun hx u hu eu => ?_) (fun hx => ?_)
  · rw [if_pos hx] at hk
    subst eu
    rw [nI_clamp (by omega)] at hk
    refine r_if_eq f_R_set_5 (fun h => absurd h (by decide)) (fun _ => ?_)
    refine r_ild2 f_R_set_8 ?_
    refine r_ic f_R_set_9 ?_
    refine r_ic f_R_set_10 ?_
    refine c_R_in f_R_set_11 (Nat.le_of_ble_eq_true rfl) (Nat.le_refl _) (Nat.le_refl _) ?_
    refine k_R_in (fun hwa hwb => ?_) (fun hw => ?_)
    · rw [if_pos ⟨hwa, hwb⟩] at hk
      obtain ⟨t, ht, et⟩ := q_inC (c := 4) (by omega) hwa hwb
      subst et
      rw [nI_clamp (by omega)] at hk
      refine r_if_eq f_R_set_14 (fun h => absurd h (by decide)) (fun _ => ?_)
      rcases (show t = 0 ∨ t = 1 ∨ t = 2 ∨ t = 3 by omega) with rfl | rfl | rfl | rfl
      · refine r_ild3 f_R_set_17 ?_
        refine r_ild2 f_R_set_18 ?_
        refine r_if_ne f_R_set_19 (fun h => absurd h (by decide)) (fun _ => ?_)
        refine r_ic f_R_set_22 ?_
        refine r_goto f_R_set_23 ?_
        refine r_ild2 f_R_set_27 ?_
        refine r_if_ne f_R_set_28 (fun h => absurd h (by decide)) (fun _ => ?_)
        refine r_ic f_R_set_31 ?_
        refine r_goto f_R_set_33 ?_
        refine c_R_in f_R_set_49 (Nat.le_of_ble_eq_true rfl) (Nat.le_refl _) (Nat.le_refl _) ?_
        refine k_R_in (fun hva hvb => ?_) (fun hv => ?_)
        · rw [if_pos (show q_sv 2 0 ≤ v ∧ v ≤ q_sv 3 0 from ⟨hva, hvb⟩)] at hk
          refine r_if_ne f_R_set_52 (fun _ => ?_) (fun h => absurd h (by decide))
          refine r_ald0 f_R_set_62 ?_
          refine r_ild1 f_R_set_63 ?_
          refine r_ic f_R_set_64 ?_
          refine r_ild2 f_R_set_65 ?_
          refine r_iadd f_R_set_66 ?_
          refine c_R_get f_R_set_67 (s_95) (Nat.le_of_ble_eq_true rfl) (Nat.le_refl _) (Nat.le_refl _) ?_
          rw [show (1 : Int32) + nI 0 = nI 1 from by decide]
          refine k_R_get (show u < 8 by omega) (by decide) hC.1 ?_
          refine r_ist4 f_R_set_70 rfl ?_
          refine r_ald0 f_R_set_72 ?_
          refine r_ild1 f_R_set_73 ?_
          refine r_ic f_R_set_74 ?_
          refine r_ild2 f_R_set_75 ?_
          refine r_iadd f_R_set_76 ?_
          refine r_ild3 f_R_set_77 ?_
          refine c_R_put f_R_set_78 (s_95) (Nat.le_of_ble_eq_true rfl) (Nat.le_refl _) (Nat.le_refl _) ?_
          rw [show (1 : Int32) + nI 0 = nI 1 from by decide]
          refine k_R_put (show u < 8 by omega) (by decide) hC.1 (fun I9 hR9 hg9 => ?_)
          refine r_ild4 f_R_set_81 ?_
          refine r_iret f_R_set_83 ⟨_, rfl, rfl⟩ (Nat.le_refl _) (Nat.le_refl _) ?_
          exact hk _ _ (hC.n96 hW hR9 hg9) (q_lw.n96 hg9)
        · rw [if_neg (show ¬ (q_sv 2 0 ≤ v ∧ v ≤ q_sv 3 0) from hv)] at hk
          refine r_if_ne f_R_set_52 (fun h => absurd h (by decide)) (fun _ => ?_)
          refine r_ald0 f_R_set_55 ?_
          refine r_ic f_R_set_56 ?_
          refine c_R_finds f_R_set_58 (s_95) (Nat.le_of_ble_eq_true rfl) (Nat.le_refl _) (Nat.le_refl _) ?_
          refine k_R_finds (k := 0) (by decide) (by decide) hC hW (fun I9 hC9 hi9 => ?_)
          refine r_iret f_R_set_61 ⟨_, rfl, rfl⟩ (Nat.le_refl _) (Nat.le_refl _) ?_
          exact hk _ _ hC9 hi9
      · refine r_ild3 f_R_set_17 ?_
        refine r_ild2 f_R_set_18 ?_
        refine r_if_ne f_R_set_19 (fun _ => ?_) (fun h => absurd h (by decide))
        refine r_ic f_R_set_26 ?_
        refine r_ild2 f_R_set_27 ?_
        refine r_if_ne f_R_set_28 (fun _ => ?_) (fun h => absurd h (by decide))
        refine r_ild2 f_R_set_36 ?_
        refine r_ic f_R_set_37 ?_
        refine r_ic_ne f_R_set_38 (fun _ => ?_) (fun h => absurd h (by decide))
        refine r_ic f_R_set_46 ?_
        refine c_R_in f_R_set_49 (Nat.le_of_ble_eq_true rfl) (Nat.le_refl _) (Nat.le_refl _) ?_
        refine k_R_in (fun hva hvb => ?_) (fun hv => ?_)
        · rw [if_pos (show q_sv 2 1 ≤ v ∧ v ≤ q_sv 3 1 from ⟨hva, hvb⟩)] at hk
          refine r_if_ne f_R_set_52 (fun _ => ?_) (fun h => absurd h (by decide))
          refine r_ald0 f_R_set_62 ?_
          refine r_ild1 f_R_set_63 ?_
          refine r_ic f_R_set_64 ?_
          refine r_ild2 f_R_set_65 ?_
          refine r_iadd f_R_set_66 ?_
          refine c_R_get f_R_set_67 (s_95) (Nat.le_of_ble_eq_true rfl) (Nat.le_refl _) (Nat.le_refl _) ?_
          rw [show (1 : Int32) + nI 1 = nI 2 from by decide]
          refine k_R_get (show u < 8 by omega) (by decide) hC.1 ?_
          refine r_ist4 f_R_set_70 rfl ?_
          refine r_ald0 f_R_set_72 ?_
          refine r_ild1 f_R_set_73 ?_
          refine r_ic f_R_set_74 ?_
          refine r_ild2 f_R_set_75 ?_
          refine r_iadd f_R_set_76 ?_
          refine r_ild3 f_R_set_77 ?_
          refine c_R_put f_R_set_78 (s_95) (Nat.le_of_ble_eq_true rfl) (Nat.le_refl _) (Nat.le_refl _) ?_
          rw [show (1 : Int32) + nI 1 = nI 2 from by decide]
          refine k_R_put (show u < 8 by omega) (by decide) hC.1 (fun I9 hR9 hg9 => ?_)
          refine r_ild4 f_R_set_81 ?_
          refine r_iret f_R_set_83 ⟨_, rfl, rfl⟩ (Nat.le_refl _) (Nat.le_refl _) ?_
          exact hk _ _ (hC.n96 hW hR9 hg9) (q_lw.n96 hg9)
        · rw [if_neg (show ¬ (q_sv 2 1 ≤ v ∧ v ≤ q_sv 3 1) from hv)] at hk
          refine r_if_ne f_R_set_52 (fun h => absurd h (by decide)) (fun _ => ?_)
          refine r_ald0 f_R_set_55 ?_
          refine r_ic f_R_set_56 ?_
          refine c_R_finds f_R_set_58 (s_95) (Nat.le_of_ble_eq_true rfl) (Nat.le_refl _) (Nat.le_refl _) ?_
          refine k_R_finds (k := 0) (by decide) (by decide) hC hW (fun I9 hC9 hi9 => ?_)
          refine r_iret f_R_set_61 ⟨_, rfl, rfl⟩ (Nat.le_refl _) (Nat.le_refl _) ?_
          exact hk _ _ hC9 hi9
      · refine r_ild3 f_R_set_17 ?_
        refine r_ild2 f_R_set_18 ?_
        refine r_if_ne f_R_set_19 (fun _ => ?_) (fun h => absurd h (by decide))
        refine r_ic f_R_set_26 ?_
        refine r_ild2 f_R_set_27 ?_
        refine r_if_ne f_R_set_28 (fun _ => ?_) (fun h => absurd h (by decide))
        refine r_ild2 f_R_set_36 ?_
        refine r_ic f_R_set_37 ?_
        refine r_ic_ne f_R_set_38 (fun _ => ?_) (fun h => absurd h (by decide))
        refine r_ic f_R_set_46 ?_
        refine c_R_in f_R_set_49 (Nat.le_of_ble_eq_true rfl) (Nat.le_refl _) (Nat.le_refl _) ?_
        refine k_R_in (fun hva hvb => ?_) (fun hv => ?_)
        · rw [if_pos (show q_sv 2 2 ≤ v ∧ v ≤ q_sv 3 2 from ⟨hva, hvb⟩)] at hk
          refine r_if_ne f_R_set_52 (fun _ => ?_) (fun h => absurd h (by decide))
          refine r_ald0 f_R_set_62 ?_
          refine r_ild1 f_R_set_63 ?_
          refine r_ic f_R_set_64 ?_
          refine r_ild2 f_R_set_65 ?_
          refine r_iadd f_R_set_66 ?_
          refine c_R_get f_R_set_67 (s_95) (Nat.le_of_ble_eq_true rfl) (Nat.le_refl _) (Nat.le_refl _) ?_
          rw [show (1 : Int32) + nI 2 = nI 3 from by decide]
          refine k_R_get (show u < 8 by omega) (by decide) hC.1 ?_
          refine r_ist4 f_R_set_70 rfl ?_
          refine r_ald0 f_R_set_72 ?_
          refine r_ild1 f_R_set_73 ?_
          refine r_ic f_R_set_74 ?_
          refine r_ild2 f_R_set_75 ?_
          refine r_iadd f_R_set_76 ?_
          refine r_ild3 f_R_set_77 ?_
          refine c_R_put f_R_set_78 (s_95) (Nat.le_of_ble_eq_true rfl) (Nat.le_refl _) (Nat.le_refl _) ?_
          rw [show (1 : Int32) + nI 2 = nI 3 from by decide]
          refine k_R_put (show u < 8 by omega) (by decide) hC.1 (fun I9 hR9 hg9 => ?_)
          refine r_ild4 f_R_set_81 ?_
          refine r_iret f_R_set_83 ⟨_, rfl, rfl⟩ (Nat.le_refl _) (Nat.le_refl _) ?_
          exact hk _ _ (hC.n96 hW hR9 hg9) (q_lw.n96 hg9)
        · rw [if_neg (show ¬ (q_sv 2 2 ≤ v ∧ v ≤ q_sv 3 2) from hv)] at hk
          refine r_if_ne f_R_set_52 (fun h => absurd h (by decide)) (fun _ => ?_)
          refine r_ald0 f_R_set_55 ?_
          refine r_ic f_R_set_56 ?_
          refine c_R_finds f_R_set_58 (s_95) (Nat.le_of_ble_eq_true rfl) (Nat.le_refl _) (Nat.le_refl _) ?_
          refine k_R_finds (k := 0) (by decide) (by decide) hC hW (fun I9 hC9 hi9 => ?_)
          refine r_iret f_R_set_61 ⟨_, rfl, rfl⟩ (Nat.le_refl _) (Nat.le_refl _) ?_
          exact hk _ _ hC9 hi9
      · refine r_ild3 f_R_set_17 ?_
        refine r_ild2 f_R_set_18 ?_
        refine r_if_ne f_R_set_19 (fun _ => ?_) (fun h => absurd h (by decide))
        refine r_ic f_R_set_26 ?_
        refine r_ild2 f_R_set_27 ?_
        refine r_if_ne f_R_set_28 (fun _ => ?_) (fun h => absurd h (by decide))
        refine r_ild2 f_R_set_36 ?_
        refine r_ic f_R_set_37 ?_
        refine r_ic_ne f_R_set_38 (fun h => absurd h (by decide)) (fun _ => ?_)
        refine r_ic f_R_set_41 ?_
        refine r_goto f_R_set_43 ?_
        refine c_R_in f_R_set_49 (Nat.le_of_ble_eq_true rfl) (Nat.le_refl _) (Nat.le_refl _) ?_
        refine k_R_in (fun hva hvb => ?_) (fun hv => ?_)
        · rw [if_pos (show q_sv 2 3 ≤ v ∧ v ≤ q_sv 3 3 from ⟨hva, hvb⟩)] at hk
          refine r_if_ne f_R_set_52 (fun _ => ?_) (fun h => absurd h (by decide))
          refine r_ald0 f_R_set_62 ?_
          refine r_ild1 f_R_set_63 ?_
          refine r_ic f_R_set_64 ?_
          refine r_ild2 f_R_set_65 ?_
          refine r_iadd f_R_set_66 ?_
          refine c_R_get f_R_set_67 (s_95) (Nat.le_of_ble_eq_true rfl) (Nat.le_refl _) (Nat.le_refl _) ?_
          rw [show (1 : Int32) + nI 3 = nI 4 from by decide]
          refine k_R_get (show u < 8 by omega) (by decide) hC.1 ?_
          refine r_ist4 f_R_set_70 rfl ?_
          refine r_ald0 f_R_set_72 ?_
          refine r_ild1 f_R_set_73 ?_
          refine r_ic f_R_set_74 ?_
          refine r_ild2 f_R_set_75 ?_
          refine r_iadd f_R_set_76 ?_
          refine r_ild3 f_R_set_77 ?_
          refine c_R_put f_R_set_78 (s_95) (Nat.le_of_ble_eq_true rfl) (Nat.le_refl _) (Nat.le_refl _) ?_
          rw [show (1 : Int32) + nI 3 = nI 4 from by decide]
          refine k_R_put (show u < 8 by omega) (by decide) hC.1 (fun I9 hR9 hg9 => ?_)
          refine r_ild4 f_R_set_81 ?_
          refine r_iret f_R_set_83 ⟨_, rfl, rfl⟩ (Nat.le_refl _) (Nat.le_refl _) ?_
          exact hk _ _ (hC.n96 hW hR9 hg9) (q_lw.n96 hg9)
        · rw [if_neg (show ¬ (q_sv 2 3 ≤ v ∧ v ≤ q_sv 3 3) from hv)] at hk
          refine r_if_ne f_R_set_52 (fun h => absurd h (by decide)) (fun _ => ?_)
          refine r_ald0 f_R_set_55 ?_
          refine r_ic f_R_set_56 ?_
          refine c_R_finds f_R_set_58 (s_95) (Nat.le_of_ble_eq_true rfl) (Nat.le_refl _) (Nat.le_refl _) ?_
          refine k_R_finds (k := 0) (by decide) (by decide) hC hW (fun I9 hC9 hi9 => ?_)
          refine r_iret f_R_set_61 ⟨_, rfl, rfl⟩ (Nat.le_refl _) (Nat.le_refl _) ?_
          exact hk _ _ hC9 hi9
    · rw [if_neg hw] at hk
      refine r_if_eq f_R_set_14 (fun _ => ?_) (fun h => absurd h (by decide))
      refine r_ald0 f_R_set_55 ?_
      refine r_ic f_R_set_56 ?_
      refine c_R_finds f_R_set_58 (s_95) (Nat.le_of_ble_eq_true rfl) (Nat.le_refl _) (Nat.le_refl _) ?_
      refine k_R_finds (k := 0) (by decide) (by decide) hC hW (fun I9 hC9 hi9 => ?_)
      refine r_iret f_R_set_61 ⟨_, rfl, rfl⟩ (Nat.le_refl _) (Nat.le_refl _) ?_
      exact hk _ _ hC9 hi9
  · rw [if_neg hx] at hk
    refine r_if_eq f_R_set_5 (fun _ => ?_) (fun h => absurd h (by decide))
    refine r_ald0 f_R_set_55 ?_
    refine r_ic f_R_set_56 ?_
    refine c_R_finds f_R_set_58 (s_95) (Nat.le_of_ble_eq_true rfl) (Nat.le_refl _) (Nat.le_refl _) ?_
    refine k_R_finds (k := 0) (by decide) (by decide) hC hW (fun I9 hC9 hi9 => ?_)
    refine r_iret f_R_set_61 ⟨_, rfl, rfl⟩ (Nat.le_refl _) (Nat.le_refl _) ?_
    exact hk _ _ hC9 hi9
theorem k_R_rule {w v : Int32} (hC : RepM I L σ) (hW : WFs σ) (hk : MK K I L (op_rule σ w v)) : WW G (d + 1) mt_R_rule 0 [some (.ref 95), some (.int w), some (.int v), none] [] SH RF I L 0 0 0 0 K := by
  unfold op_rule at hk
  have hcnt := hC.1.cnt hW.1
  have hc8 := hW.1.1.1
  refine r_ild1 f_R_rule_0 ?_
  refine r_ic f_R_rule_1 ?_
  refine r_ic f_R_rule_2 ?_
  refine c_R_in f_R_rule_3 (Nat.le_of_ble_eq_true rfl) (Nat.le_refl _) (Nat.le_refl _) ?_
  refine k_R_in (fun hwa hwb => ?_) (fun hw => ?_)
  · rw [if_pos ⟨hwa, hwb⟩] at hk
    obtain ⟨t, ht, et⟩ := q_inC (c := 5) (by omega) hwa hwb
    subst et
    rw [nI_clamp (by omega)] at hk
    refine r_if_eq f_R_rule_6 (fun h => absurd h (by decide)) (fun _ => ?_)
    rcases (show t = 0 ∨ t = 1 ∨ t = 2 ∨ t = 3 ∨ t = 4 by omega) with rfl | rfl | rfl | rfl | rfl
    · refine r_ild2 f_R_rule_9 ?_
      refine r_ic f_R_rule_10 ?_
      refine r_ild1 f_R_rule_11 ?_
      refine r_if_ne f_R_rule_12 (fun h => absurd h (by decide)) (fun _ => ?_)
      refine r_ic f_R_rule_15 ?_
      refine r_goto f_R_rule_17 ?_
      refine c_R_in f_R_rule_33 (Nat.le_of_ble_eq_true rfl) (Nat.le_refl _) (Nat.le_refl _) ?_
      refine k_R_in (fun hva hvb => ?_) (fun hv => ?_)
      · rw [if_pos (show 0 ≤ v ∧ v ≤ q_sv 1 0 from ⟨hva, hvb⟩)] at hk
        refine r_if_ne f_R_rule_36 (fun _ => ?_) (fun h => absurd h (by decide))
        refine r_ald0 f_R_rule_46 ?_
        refine r_gr f_R_rule_47 (s_95) (r_95_0) ?_
        refine r_ic f_R_rule_50 ?_
        refine r_ild1 f_R_rule_51 ?_
        refine r_iadd f_R_rule_52 ?_
        rw [show (5 : Int32) + nI 0 = nI (5 + 0) from by decide]
        refine r_iald f_R_rule_53 (s_96) (q_ix.nI (show 5 + 0 < 136 by decide) (by decide)) ?_
        rw [hC.1.u (k := 0) (by decide)]
        refine r_ist3 f_R_rule_54 rfl ?_
        refine r_ald0 f_R_rule_55 ?_
        refine r_gr f_R_rule_56 (s_95) (r_95_0) ?_
        refine r_ic f_R_rule_59 ?_
        refine r_ild1 f_R_rule_60 ?_
        refine r_iadd f_R_rule_61 ?_
        rw [show (5 : Int32) + nI 0 = nI (5 + 0) from by decide]
        refine r_ild2 f_R_rule_62 ?_
        refine r_iast f_R_rule_63 (s_96) (q_ix.nI (show 5 + 0 < 136 by decide) (by decide)) ?_
        refine r_ild3 f_R_rule_64 ?_
        refine r_iret f_R_rule_65 ⟨_, rfl, rfl⟩ (Nat.le_refl _) (Nat.le_refl _) ?_
        exact hk _ _ (hC.n96 hW (hC.1.toU (k := 0) (by decide)) (q_ag.rf.u2 rfl)) (q_lw.rf.u2 (by decide))
      · rw [if_neg (show ¬ (0 ≤ v ∧ v ≤ q_sv 1 0) from hv)] at hk
        refine r_if_ne f_R_rule_36 (fun h => absurd h (by decide)) (fun _ => ?_)
        refine r_ald0 f_R_rule_39 ?_
        refine r_ic f_R_rule_40 ?_
        refine c_R_finds f_R_rule_42 (s_95) (Nat.le_of_ble_eq_true rfl) (Nat.le_refl _) (Nat.le_refl _) ?_
        refine k_R_finds (k := 0) (by decide) (by decide) hC hW (fun I9 hC9 hi9 => ?_)
        refine r_iret f_R_rule_45 ⟨_, rfl, rfl⟩ (Nat.le_refl _) (Nat.le_refl _) ?_
        exact hk _ _ hC9 hi9
    · refine r_ild2 f_R_rule_9 ?_
      refine r_ic f_R_rule_10 ?_
      refine r_ild1 f_R_rule_11 ?_
      refine r_if_ne f_R_rule_12 (fun _ => ?_) (fun h => absurd h (by decide))
      refine r_ild1 f_R_rule_20 ?_
      refine r_ic f_R_rule_21 ?_
      refine r_ic_ne f_R_rule_22 (fun _ => ?_) (fun h => absurd h (by decide))
      refine r_ic f_R_rule_31 ?_
      refine c_R_in f_R_rule_33 (Nat.le_of_ble_eq_true rfl) (Nat.le_refl _) (Nat.le_refl _) ?_
      refine k_R_in (fun hva hvb => ?_) (fun hv => ?_)
      · rw [if_pos (show 0 ≤ v ∧ v ≤ q_sv 1 1 from ⟨hva, hvb⟩)] at hk
        refine r_if_ne f_R_rule_36 (fun _ => ?_) (fun h => absurd h (by decide))
        refine r_ald0 f_R_rule_46 ?_
        refine r_gr f_R_rule_47 (s_95) (r_95_0) ?_
        refine r_ic f_R_rule_50 ?_
        refine r_ild1 f_R_rule_51 ?_
        refine r_iadd f_R_rule_52 ?_
        rw [show (5 : Int32) + nI 1 = nI (5 + 1) from by decide]
        refine r_iald f_R_rule_53 (s_96) (q_ix.nI (show 5 + 1 < 136 by decide) (by decide)) ?_
        rw [hC.1.u (k := 1) (by decide)]
        refine r_ist3 f_R_rule_54 rfl ?_
        refine r_ald0 f_R_rule_55 ?_
        refine r_gr f_R_rule_56 (s_95) (r_95_0) ?_
        refine r_ic f_R_rule_59 ?_
        refine r_ild1 f_R_rule_60 ?_
        refine r_iadd f_R_rule_61 ?_
        rw [show (5 : Int32) + nI 1 = nI (5 + 1) from by decide]
        refine r_ild2 f_R_rule_62 ?_
        refine r_iast f_R_rule_63 (s_96) (q_ix.nI (show 5 + 1 < 136 by decide) (by decide)) ?_
        refine r_ild3 f_R_rule_64 ?_
        refine r_iret f_R_rule_65 ⟨_, rfl, rfl⟩ (Nat.le_refl _) (Nat.le_refl _) ?_
        exact hk _ _ (hC.n96 hW (hC.1.toU (k := 1) (by decide)) (q_ag.rf.u2 rfl)) (q_lw.rf.u2 (by decide))
      · rw [if_neg (show ¬ (0 ≤ v ∧ v ≤ q_sv 1 1) from hv)] at hk
        refine r_if_ne f_R_rule_36 (fun h => absurd h (by decide)) (fun _ => ?_)
        refine r_ald0 f_R_rule_39 ?_
        refine r_ic f_R_rule_40 ?_
        refine c_R_finds f_R_rule_42 (s_95) (Nat.le_of_ble_eq_true rfl) (Nat.le_refl _) (Nat.le_refl _) ?_
        refine k_R_finds (k := 0) (by decide) (by decide) hC hW (fun I9 hC9 hi9 => ?_)
        refine r_iret f_R_rule_45 ⟨_, rfl, rfl⟩ (Nat.le_refl _) (Nat.le_refl _) ?_
        exact hk _ _ hC9 hi9
    · refine r_ild2 f_R_rule_9 ?_
      refine r_ic f_R_rule_10 ?_
      refine r_ild1 f_R_rule_11 ?_
      refine r_if_ne f_R_rule_12 (fun _ => ?_) (fun h => absurd h (by decide))
      refine r_ild1 f_R_rule_20 ?_
      refine r_ic f_R_rule_21 ?_
      refine r_ic_ne f_R_rule_22 (fun h => absurd h (by decide)) (fun _ => ?_)
      refine r_ic f_R_rule_25 ?_
      refine r_goto f_R_rule_28 ?_
      refine c_R_in f_R_rule_33 (Nat.le_of_ble_eq_true rfl) (Nat.le_refl _) (Nat.le_refl _) ?_
      refine k_R_in (fun hva hvb => ?_) (fun hv => ?_)
      · rw [if_pos (show 0 ≤ v ∧ v ≤ q_sv 1 2 from ⟨hva, hvb⟩)] at hk
        refine r_if_ne f_R_rule_36 (fun _ => ?_) (fun h => absurd h (by decide))
        refine r_ald0 f_R_rule_46 ?_
        refine r_gr f_R_rule_47 (s_95) (r_95_0) ?_
        refine r_ic f_R_rule_50 ?_
        refine r_ild1 f_R_rule_51 ?_
        refine r_iadd f_R_rule_52 ?_
        rw [show (5 : Int32) + nI 2 = nI (5 + 2) from by decide]
        refine r_iald f_R_rule_53 (s_96) (q_ix.nI (show 5 + 2 < 136 by decide) (by decide)) ?_
        rw [hC.1.u (k := 2) (by decide)]
        refine r_ist3 f_R_rule_54 rfl ?_
        refine r_ald0 f_R_rule_55 ?_
        refine r_gr f_R_rule_56 (s_95) (r_95_0) ?_
        refine r_ic f_R_rule_59 ?_
        refine r_ild1 f_R_rule_60 ?_
        refine r_iadd f_R_rule_61 ?_
        rw [show (5 : Int32) + nI 2 = nI (5 + 2) from by decide]
        refine r_ild2 f_R_rule_62 ?_
        refine r_iast f_R_rule_63 (s_96) (q_ix.nI (show 5 + 2 < 136 by decide) (by decide)) ?_
        refine r_ild3 f_R_rule_64 ?_
        refine r_iret f_R_rule_65 ⟨_, rfl, rfl⟩ (Nat.le_refl _) (Nat.le_refl _) ?_
        exact hk _ _ (hC.n96 hW (hC.1.toU (k := 2) (by decide)) (q_ag.rf.u2 rfl)) (q_lw.rf.u2 (by decide))
      · rw [if_neg (show ¬ (0 ≤ v ∧ v ≤ q_sv 1 2) from hv)] at hk
        refine r_if_ne f_R_rule_36 (fun h => absurd h (by decide)) (fun _ => ?_)
        refine r_ald0 f_R_rule_39 ?_
        refine r_ic f_R_rule_40 ?_
        refine c_R_finds f_R_rule_42 (s_95) (Nat.le_of_ble_eq_true rfl) (Nat.le_refl _) (Nat.le_refl _) ?_
        refine k_R_finds (k := 0) (by decide) (by decide) hC hW (fun I9 hC9 hi9 => ?_)
        refine r_iret f_R_rule_45 ⟨_, rfl, rfl⟩ (Nat.le_refl _) (Nat.le_refl _) ?_
        exact hk _ _ hC9 hi9
    · refine r_ild2 f_R_rule_9 ?_
      refine r_ic f_R_rule_10 ?_
      refine r_ild1 f_R_rule_11 ?_
      refine r_if_ne f_R_rule_12 (fun _ => ?_) (fun h => absurd h (by decide))
      refine r_ild1 f_R_rule_20 ?_
      refine r_ic f_R_rule_21 ?_
      refine r_ic_ne f_R_rule_22 (fun _ => ?_) (fun h => absurd h (by decide))
      refine r_ic f_R_rule_31 ?_
      refine c_R_in f_R_rule_33 (Nat.le_of_ble_eq_true rfl) (Nat.le_refl _) (Nat.le_refl _) ?_
      refine k_R_in (fun hva hvb => ?_) (fun hv => ?_)
      · rw [if_pos (show 0 ≤ v ∧ v ≤ q_sv 1 3 from ⟨hva, hvb⟩)] at hk
        refine r_if_ne f_R_rule_36 (fun _ => ?_) (fun h => absurd h (by decide))
        refine r_ald0 f_R_rule_46 ?_
        refine r_gr f_R_rule_47 (s_95) (r_95_0) ?_
        refine r_ic f_R_rule_50 ?_
        refine r_ild1 f_R_rule_51 ?_
        refine r_iadd f_R_rule_52 ?_
        rw [show (5 : Int32) + nI 3 = nI (5 + 3) from by decide]
        refine r_iald f_R_rule_53 (s_96) (q_ix.nI (show 5 + 3 < 136 by decide) (by decide)) ?_
        rw [hC.1.u (k := 3) (by decide)]
        refine r_ist3 f_R_rule_54 rfl ?_
        refine r_ald0 f_R_rule_55 ?_
        refine r_gr f_R_rule_56 (s_95) (r_95_0) ?_
        refine r_ic f_R_rule_59 ?_
        refine r_ild1 f_R_rule_60 ?_
        refine r_iadd f_R_rule_61 ?_
        rw [show (5 : Int32) + nI 3 = nI (5 + 3) from by decide]
        refine r_ild2 f_R_rule_62 ?_
        refine r_iast f_R_rule_63 (s_96) (q_ix.nI (show 5 + 3 < 136 by decide) (by decide)) ?_
        refine r_ild3 f_R_rule_64 ?_
        refine r_iret f_R_rule_65 ⟨_, rfl, rfl⟩ (Nat.le_refl _) (Nat.le_refl _) ?_
        exact hk _ _ (hC.n96 hW (hC.1.toU (k := 3) (by decide)) (q_ag.rf.u2 rfl)) (q_lw.rf.u2 (by decide))
      · rw [if_neg (show ¬ (0 ≤ v ∧ v ≤ q_sv 1 3) from hv)] at hk
        refine r_if_ne f_R_rule_36 (fun h => absurd h (by decide)) (fun _ => ?_)
        refine r_ald0 f_R_rule_39 ?_
        refine r_ic f_R_rule_40 ?_
        refine c_R_finds f_R_rule_42 (s_95) (Nat.le_of_ble_eq_true rfl) (Nat.le_refl _) (Nat.le_refl _) ?_
        refine k_R_finds (k := 0) (by decide) (by decide) hC hW (fun I9 hC9 hi9 => ?_)
        refine r_iret f_R_rule_45 ⟨_, rfl, rfl⟩ (Nat.le_refl _) (Nat.le_refl _) ?_
        exact hk _ _ hC9 hi9
    · refine r_ild2 f_R_rule_9 ?_
      refine r_ic f_R_rule_10 ?_
      refine r_ild1 f_R_rule_11 ?_
      refine r_if_ne f_R_rule_12 (fun _ => ?_) (fun h => absurd h (by decide))
      refine r_ild1 f_R_rule_20 ?_
      refine r_ic f_R_rule_21 ?_
      refine r_ic_ne f_R_rule_22 (fun _ => ?_) (fun h => absurd h (by decide))
      refine r_ic f_R_rule_31 ?_
      refine c_R_in f_R_rule_33 (Nat.le_of_ble_eq_true rfl) (Nat.le_refl _) (Nat.le_refl _) ?_
      refine k_R_in (fun hva hvb => ?_) (fun hv => ?_)
      · rw [if_pos (show 0 ≤ v ∧ v ≤ q_sv 1 4 from ⟨hva, hvb⟩)] at hk
        refine r_if_ne f_R_rule_36 (fun _ => ?_) (fun h => absurd h (by decide))
        refine r_ald0 f_R_rule_46 ?_
        refine r_gr f_R_rule_47 (s_95) (r_95_0) ?_
        refine r_ic f_R_rule_50 ?_
        refine r_ild1 f_R_rule_51 ?_
        refine r_iadd f_R_rule_52 ?_
        rw [show (5 : Int32) + nI 4 = nI (5 + 4) from by decide]
        refine r_iald f_R_rule_53 (s_96) (q_ix.nI (show 5 + 4 < 136 by decide) (by decide)) ?_
        rw [hC.1.u (k := 4) (by decide)]
        refine r_ist3 f_R_rule_54 rfl ?_
        refine r_ald0 f_R_rule_55 ?_
        refine r_gr f_R_rule_56 (s_95) (r_95_0) ?_
        refine r_ic f_R_rule_59 ?_
        refine r_ild1 f_R_rule_60 ?_
        refine r_iadd f_R_rule_61 ?_
        rw [show (5 : Int32) + nI 4 = nI (5 + 4) from by decide]
        refine r_ild2 f_R_rule_62 ?_
        refine r_iast f_R_rule_63 (s_96) (q_ix.nI (show 5 + 4 < 136 by decide) (by decide)) ?_
        refine r_ild3 f_R_rule_64 ?_
        refine r_iret f_R_rule_65 ⟨_, rfl, rfl⟩ (Nat.le_refl _) (Nat.le_refl _) ?_
        exact hk _ _ (hC.n96 hW (hC.1.toU (k := 4) (by decide)) (q_ag.rf.u2 rfl)) (q_lw.rf.u2 (by decide))
      · rw [if_neg (show ¬ (0 ≤ v ∧ v ≤ q_sv 1 4) from hv)] at hk
        refine r_if_ne f_R_rule_36 (fun h => absurd h (by decide)) (fun _ => ?_)
        refine r_ald0 f_R_rule_39 ?_
        refine r_ic f_R_rule_40 ?_
        refine c_R_finds f_R_rule_42 (s_95) (Nat.le_of_ble_eq_true rfl) (Nat.le_refl _) (Nat.le_refl _) ?_
        refine k_R_finds (k := 0) (by decide) (by decide) hC hW (fun I9 hC9 hi9 => ?_)
        refine r_iret f_R_rule_45 ⟨_, rfl, rfl⟩ (Nat.le_refl _) (Nat.le_refl _) ?_
        exact hk _ _ hC9 hi9
  · rw [if_neg hw] at hk
    refine r_if_eq f_R_rule_6 (fun _ => ?_) (fun h => absurd h (by decide))
    refine r_ald0 f_R_rule_39 ?_
    refine r_ic f_R_rule_40 ?_
    refine c_R_finds f_R_rule_42 (s_95) (Nat.le_of_ble_eq_true rfl) (Nat.le_refl _) (Nat.le_refl _) ?_
    refine k_R_finds (k := 0) (by decide) (by decide) hC hW (fun I9 hC9 hi9 => ?_)
    refine r_iret f_R_rule_45 ⟨_, rfl, rfl⟩ (Nat.le_refl _) (Nat.le_refl _) ?_
    exact hk _ _ hC9 hi9
theorem k_R_dry {v : Int32} (hC : RepM I L σ) (hW : WFs σ) (hk : MK K I L (op_dry σ v)) : WW G (d + 1) mt_R_dry 0 [some (.ref 95), some (.int v), none] [] SH RF I L 0 0 0 0 K := by
  unfold op_dry at hk
  have hcnt := hC.1.cnt hW.1
  have hc8 := hW.1.1.1
  refine r_ild1 f_R_dry_0 ?_
  refine r_ic f_R_dry_1 ?_
  refine r_ic f_R_dry_2 ?_
  refine c_R_in f_R_dry_4 (Nat.le_of_ble_eq_true rfl) (Nat.le_refl _) (Nat.le_refl _) ?_
  refine k_R_in (fun hva hvb => ?_) (fun hv => ?_)
  · rw [if_pos ⟨hva, hvb⟩] at hk
    refine r_if_ne f_R_dry_7 (fun _ => ?_) (fun h => absurd h (by decide))
    refine r_ald0 f_R_dry_17 ?_
    refine r_gr f_R_dry_18 (s_95) (r_95_0) ?_
    refine r_ic f_R_dry_21 ?_
    refine r_iald f_R_dry_22 (s_96) (show q_ix 1 1 136 from ⟨by decide, by decide⟩) ?_
    rw [hC.1.s (k := 1) (by decide)]
    refine r_ist2 f_R_dry_23 rfl ?_
    refine r_ald0 f_R_dry_24 ?_
    refine r_gr f_R_dry_25 (s_95) (r_95_0) ?_
    refine r_ic f_R_dry_28 ?_
    refine r_ild1 f_R_dry_29 ?_
    refine r_iast f_R_dry_30 (s_96) (show q_ix 1 1 136 from ⟨by decide, by decide⟩) ?_
    refine r_ild2 f_R_dry_31 ?_
    refine r_iret f_R_dry_32 ⟨_, rfl, rfl⟩ (Nat.le_refl _) (Nat.le_refl _) ?_
    exact hk _ _ (hC.n96 hW (hC.1.toS (k := 1) (by decide) rfl) (q_ag.rf.u2 rfl)) (q_lw.rf.u2 (by decide))
  · rw [if_neg hv] at hk
    refine r_if_ne f_R_dry_7 (fun h => absurd h (by decide)) (fun _ => ?_)
    refine r_ald0 f_R_dry_10 ?_
    refine r_ic f_R_dry_11 ?_
    refine c_R_finds f_R_dry_13 (s_95) (Nat.le_of_ble_eq_true rfl) (Nat.le_refl _) (Nat.le_refl _) ?_
    refine k_R_finds (k := 0) (by decide) (by decide) hC hW (fun I9 hC9 hi9 => ?_)
    refine r_iret f_R_dry_16 ⟨_, rfl, rfl⟩ (Nat.le_refl _) (Nat.le_refl _) ?_
    exact hk _ _ hC9 hi9
theorem k_R_turn {x : Int32} (hC : RepM I L σ) (hW : WFs σ) (hk : MK K I L (op_turn σ x)) : WW G (d + 2) mt_R_turn 0 [some (.ref 95), some (.int x)] [] SH RF I L 0 0 0 0 K := by
  unfold op_turn at hk
  have hcnt := hC.1.cnt hW.1
  have hc8 := hW.1.1.1
  refine r_ald0 f_R_turn_0 ?_
  refine r_ild1 f_R_turn_1 ?_
  refine c_R_isFarm f_R_turn_2 (s_95) (Nat.le_of_ble_eq_true rfl) (Nat.le_refl _) (Nat.le_refl _) ?_
  refine k_R_isFarm hcnt hc8 (fun hx u hu eu => ?_) (fun hx => ?_)
  · rw [if_pos hx] at hk
    subst eu
    rw [nI_clamp (by omega)] at hk
    refine r_if_eq f_R_turn_5 (fun h => absurd h (by decide)) (fun _ => ?_)
    refine r_ald0 f_R_turn_8 ?_
    refine r_gr f_R_turn_9 (s_95) (r_95_0) ?_
    refine r_ic f_R_turn_12 ?_
    refine r_ild1 f_R_turn_14 ?_
    refine r_iadd f_R_turn_15 ?_
    rw [show (68 : Int32) + nI u = nI (68 + u) from nI_add 68 u]
    refine r_iald f_R_turn_16 (s_96) (q_ix.nI (show 68 + u < 136 by omega) (by decide)) ?_
    rw [hC.1.o (p := u) (by omega)]
    refine r_goto f_R_turn_17 ?_
    refine r_iret f_R_turn_26 ⟨_, rfl, rfl⟩ (Nat.le_refl _) (Nat.le_refl _) ?_
    first | exact hk _ _ hC q_lw.rf | exact hk _ _ hC9 hi9
  · rw [if_neg hx] at hk
    refine r_if_eq f_R_turn_5 (fun _ => ?_) (fun h => absurd h (by decide))
    refine r_ald0 f_R_turn_20 ?_
    refine r_ic f_R_turn_21 ?_
    refine c_R_finds f_R_turn_23 (s_95) (Nat.le_of_ble_eq_true rfl) (Nat.le_refl _) (Nat.le_refl _) ?_
    refine k_R_finds (k := 0) (by decide) (by decide) hC hW (fun I9 hC9 hi9 => ?_)
    refine r_iret f_R_turn_26 ⟨_, rfl, rfl⟩ (Nat.le_refl _) (Nat.le_refl _) ?_
    first | exact hk _ _ hC q_lw.rf | exact hk _ _ hC9 hi9
theorem k_R_swap {x y : Int32} (hC : RepM I L σ) (hW : WFs σ) (hk : MK K I L (op_swap σ x y)) : WW G (d + 2) mt_R_swap 0 [some (.ref 95), some (.int x), some (.int y), none] [] SH RF I L 0 0 0 0 K := by
  unfold op_swap at hk
  have hcnt := hC.1.cnt hW.1
  have hc8 := hW.1.1.1
  refine r_ald0 f_R_swap_0 ?_
  refine r_ild1 f_R_swap_1 ?_
  refine c_R_isFarm f_R_swap_2 (s_95) (Nat.le_of_ble_eq_true rfl) (Nat.le_refl _) (Nat.le_refl _) ?_
  refine k_R_isFarm hcnt hc8 (fun hx u hu eu => ?_) (fun hx => ?_)
  · rw [if_pos hx] at hk
    subst eu
    rw [nI_clamp (by omega)] at hk
    refine r_if_eq f_R_swap_5 (fun h => absurd h (by decide)) (fun _ => ?_)
    refine r_ald0 f_R_swap_8 ?_
    refine r_ild2 f_R_swap_9 ?_
    refine c_R_isFarm f_R_swap_10 (s_95) (Nat.le_of_ble_eq_true rfl) (Nat.le_refl _) (Nat.le_refl _) ?_
    refine k_R_isFarm hcnt hc8 (fun hy t ht et => ?_) (fun hy => ?_)
    · rw [if_pos hy] at hk
      subst et
      rw [nI_clamp (by omega)] at hk
      refine r_if_ne f_R_swap_13 (fun _ => ?_) (fun h => absurd h (by decide))
      refine r_ald0 f_R_swap_23 ?_
      refine r_gr f_R_swap_24 (s_95) (r_95_0) ?_
      refine r_ic f_R_swap_27 ?_
      refine r_ild1 f_R_swap_29 ?_
      refine r_iadd f_R_swap_30 ?_
      rw [show (68 : Int32) + nI u = nI (68 + u) from nI_add 68 u]
      refine r_iald f_R_swap_31 (s_96) (q_ix.nI (show 68 + u < 136 by omega) (by decide)) ?_
      rw [hC.1.o (p := u) (by omega)]
      refine r_ist3 f_R_swap_32 rfl ?_
      refine r_ald0 f_R_swap_33 ?_
      refine r_gr f_R_swap_34 (s_95) (r_95_0) ?_
      refine r_ic f_R_swap_37 ?_
      refine r_ild1 f_R_swap_39 ?_
      refine r_iadd f_R_swap_40 ?_
      rw [show (68 : Int32) + nI u = nI (68 + u) from nI_add 68 u]
      refine r_ald0 f_R_swap_41 ?_
      refine r_gr f_R_swap_42 (s_95) (r_95_0) ?_
      refine r_ic f_R_swap_45 ?_
      refine r_ild2 f_R_swap_47 ?_
      refine r_iadd f_R_swap_48 ?_
      rw [show (68 : Int32) + nI t = nI (68 + t) from nI_add 68 t]
      refine r_iald f_R_swap_49 (s_96) (q_ix.nI (show 68 + t < 136 by omega) (by decide)) ?_
      rw [hC.1.o (p := t) (by omega)]
      refine r_iast f_R_swap_50 (s_96) (q_ix.nI (show 68 + u < 136 by omega) (by decide)) ?_
      have hR1 := hC.1.toO (p := u) (v := σ.1.2.1 t) (by omega)
      refine r_ald0 f_R_swap_51 ?_
      refine r_gr f_R_swap_52 (s_95) (r_95_0) ?_
      refine r_ic f_R_swap_55 ?_
      refine r_ild2 f_R_swap_57 ?_
      refine r_iadd f_R_swap_58 ?_
      rw [show (68 : Int32) + nI t = nI (68 + t) from nI_add 68 t]
      refine r_ild3 f_R_swap_59 ?_
      refine r_iast f_R_swap_60 (s_96) (q_ix.nI (show 68 + t < 136 by omega) (by decide)) ?_
      have hR2 := hR1.toO (p := t) (v := σ.1.2.1 u) (by omega)
      refine r_ald0 f_R_swap_61 ?_
      refine r_gr f_R_swap_62 (s_95) (r_95_0) ?_
      refine r_ic f_R_swap_65 ?_
      refine r_ild1 f_R_swap_67 ?_
      refine r_iadd f_R_swap_68 ?_
      rw [show (68 : Int32) + nI u = nI (68 + u) from nI_add 68 u]
      refine r_iald f_R_swap_69 (s_96) (q_ix.nI (show 68 + u < 136 by omega) (by decide)) ?_
      rw [hR2.o (p := u) (by omega)]
      refine r_iret f_R_swap_70 ⟨_, rfl, rfl⟩ (Nat.le_refl _) (Nat.le_refl _) ?_
      exact hk _ _ (hC.n96 hW hR2 (((q_ag.rf (P := fun x _ => x = 96)).u2 rfl).u2 rfl)) ((q_lw.rf.u2 (by decide)).u2 (by decide))
    · rw [if_neg hy] at hk
      refine r_if_ne f_R_swap_13 (fun h => absurd h (by decide)) (fun _ => ?_)
      refine r_ald0 f_R_swap_16 ?_
      refine r_ic f_R_swap_17 ?_
      refine c_R_finds f_R_swap_19 (s_95) (Nat.le_of_ble_eq_true rfl) (Nat.le_refl _) (Nat.le_refl _) ?_
      refine k_R_finds (k := 0) (by decide) (by decide) hC hW (fun I9 hC9 hi9 => ?_)
      refine r_iret f_R_swap_22 ⟨_, rfl, rfl⟩ (Nat.le_refl _) (Nat.le_refl _) ?_
      exact hk _ _ hC9 hi9
  · rw [if_neg hx] at hk
    refine r_if_eq f_R_swap_5 (fun _ => ?_) (fun h => absurd h (by decide))
    refine r_ald0 f_R_swap_16 ?_
    refine r_ic f_R_swap_17 ?_
    refine c_R_finds f_R_swap_19 (s_95) (Nat.le_of_ble_eq_true rfl) (Nat.le_refl _) (Nat.le_refl _) ?_
    refine k_R_finds (k := 0) (by decide) (by decide) hC hW (fun I9 hC9 hi9 => ?_)
    refine r_iret f_R_swap_22 ⟨_, rfl, rfl⟩ (Nat.le_refl _) (Nat.le_refl _) ?_
    exact hk _ _ hC9 hi9
theorem k_R_seed {v : Int32} (hC : RepM I L σ) (hW : WFs σ) (hk : MK K I L (op_seed σ v)) : WW G d mt_R_seed 0 [some (.ref 95), some (.int v), none] [] SH RF I L 0 0 0 0 K := by
  unfold op_seed at hk
  have hcnt := hC.1.cnt hW.1
  have hc8 := hW.1.1.1
  refine r_ald0 f_R_seed_0 ?_
  refine r_gr f_R_seed_1 (s_95) (r_95_0) ?_
  refine r_ic f_R_seed_4 ?_
  refine r_iald f_R_seed_5 (s_96) (show q_ix 2 2 136 from ⟨by decide, by decide⟩) ?_
  rw [hC.1.s (k := 2) (by decide)]
  refine r_ist2 f_R_seed_6 rfl ?_
  refine r_ald0 f_R_seed_7 ?_
  refine r_gr f_R_seed_8 (s_95) (r_95_0) ?_
  refine r_ic f_R_seed_11 ?_
  refine r_ild1 f_R_seed_12 ?_
  refine r_iast f_R_seed_13 (s_96) (show q_ix 2 2 136 from ⟨by decide, by decide⟩) ?_
  refine r_ild2 f_R_seed_14 ?_
  refine r_iret f_R_seed_15 ⟨_, rfl, rfl⟩ (Nat.le_refl _) (Nat.le_refl _) ?_
  exact hk _ _ (hC.n96 hW (hC.1.toS (k := 2) (by decide) rfl) (q_ag.rf.u2 rfl)) (q_lw.rf.u2 (by decide))
end L51
