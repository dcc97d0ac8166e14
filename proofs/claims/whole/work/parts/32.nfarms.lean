section L32
variable {G : Gx} {d : Nat} {I : Rn} {L : Rl} {K : Kt} {σ : St}
theorem k_N_finding {x : Int32} {k : Nat} (hk7 : k < 7) (hx : (-1000000001 : Int32) - x = nI k) (hC : RepC I L σ) (hk : ∀ I', RepC I' L (zF σ k) → q_hi I I' L L → K (some (.int x)) SH RF I' L) : WW G (d + 1) mt_N_finding 0 [some (.ref 0), some (.int x), none] [] SH RF I L 0 0 0 0 K := by
  refine r_ic f_N_finding_0 ?_
  refine r_ild1 f_N_finding_2 ?_
  refine r_isub f_N_finding_3 ?_
  rw [hx]
  refine r_ist2 f_N_finding_4 rfl ?_
  refine r_ild2 f_N_finding_5 ?_
  refine r_ic f_N_finding_6 ?_
  refine r_ic f_N_finding_7 ?_
  refine c_N_isWithin f_N_finding_9 (Nat.le_of_ble_eq_true rfl) (Nat.le_refl _) (Nat.le_refl _) ?_
  refine k_N_isWithin (fun h9 h10 => ?_) (fun h9 => ?_)
  · refine r_if_eq f_N_finding_12 (fun h => absurd h (by decide)) (fun _ => ?_)
    refine r_ald0 f_N_finding_15 ?_
    refine r_gr f_N_finding_16 (s_0) (r_0_6) ?_
    refine r_ild2 f_N_finding_19 ?_
    refine r_dup2 f_N_finding_20 ?_
    refine r_iald f_N_finding_21 (s_94) (q_ix.nI (by omega) (by decide)) ?_
    rw [hC.2.2.1 k hk7]
    refine r_ic f_N_finding_22 ?_
    refine r_iadd f_N_finding_23 ?_
    refine r_iast f_N_finding_24 (s_94) (q_ix.nI (by omega) (by decide)) ?_
    refine r_ild1 f_N_finding_25 ?_
    refine r_iret f_N_finding_26 ⟨_, rfl, rfl⟩ (Nat.le_refl _) (Nat.le_refl _) ?_
    first | exact hk _ (hC.fndU hk7) (fun x y hx => ⟨u2_ne (Or.inl (by omega)), rfl⟩) | exact absurd ⟨nI_pos' (by omega), nI_le (b := 6) (by omega) (by decide)⟩ h9
  · refine r_if_eq f_N_finding_12 (fun _ => ?_) (fun h => absurd h (by decide))
    refine r_ild1 f_N_finding_25 ?_
    refine r_iret f_N_finding_26 ⟨_, rfl, rfl⟩ (Nat.le_refl _) (Nat.le_refl _) ?_
    first | exact hk _ (hC.fndU hk7) (fun x y hx => ⟨u2_ne (Or.inl (by omega)), rfl⟩) | exact absurd ⟨nI_pos' (by omega), nI_le (b := 6) (by omega) (by decide)⟩ h9
def op_farm (σ : St) (x y z : Int32) : Int32 × St := if 0 ≤ x ∧ x ≤ 5 then if q_sv 2 0 ≤ y ∧ y ≤ q_sv 3 0 then if q_sv 2 1 ≤ z ∧ z ≤ q_sv 3 1 then if dC σ.1 = 8 then fnd σ (-1000000002) 1 else (nI (dC σ.1), zN σ (sp_farm σ.1 x y z)) else fnd σ (-1000000001) 0 else fnd σ (-1000000001) 0 else fnd σ (-1000000001) 0
theorem k_N_farm {x y z : Int32} (hC : RepC I L σ) (hW : WFs σ) (hk : CK K I L (op_farm σ x y z)) : WW G (d + 3) mt_N_farm 0 [some (.ref 0), some (.int x), some (.int y), some (.int z)] [] SH RF I L 0 0 0 0 K := by
  unfold op_farm at hk
  have hcnt := hC.cnt hW
  have hc8 := hW.1.1.1
  refine r_ild1 f_N_farm_0 ?_
  refine r_ic f_N_farm_1 ?_
  refine r_ic f_N_farm_2 ?_
  refine c_N_isWithin f_N_farm_3 (Nat.le_of_ble_eq_true rfl) (Nat.le_refl _) (Nat.le_refl _) ?_
  refine k_N_isWithin (fun haa hab => ?_) (fun ha => ?_)
  · rw [if_pos ⟨haa, hab⟩] at hk
    refine r_if_eq f_N_farm_6 (fun h => absurd h (by decide)) (fun _ => ?_)
    refine r_ic f_N_farm_9 ?_
    refine r_ild2 f_N_farm_10 ?_
    refine c_N_isPart f_N_farm_11 (Nat.le_of_ble_eq_true rfl) (Nat.le_refl _) (Nat.le_refl _) ?_
    refine k_N_isPart (k := 0) ⟨by decide, by decide⟩ (fun hba hbb => ?_) (fun hb => ?_)
    · rw [if_pos ⟨hba, hbb⟩] at hk
      refine r_if_eq f_N_farm_14 (fun h => absurd h (by decide)) (fun _ => ?_)
      refine r_ic f_N_farm_17 ?_
      refine r_ild3 f_N_farm_18 ?_
      refine c_N_isPart f_N_farm_19 (Nat.le_of_ble_eq_true rfl) (Nat.le_refl _) (Nat.le_refl _) ?_
      refine k_N_isPart (k := 1) ⟨by decide, by decide⟩ (fun hca hcb => ?_) (fun hc => ?_)
      · rw [if_pos ⟨hca, hcb⟩] at hk
        refine r_if_ne f_N_farm_22 (fun _ => ?_) (fun h => absurd h (by decide))
        refine r_ald0 f_N_farm_32 ?_
        refine r_gr f_N_farm_33 (s_0) (r_0_0) ?_
        refine r_gi f_N_farm_36 (sD q_D1) ?_
        rw [hcnt]
        refine r_ic f_N_farm_39 ?_
        refine r_ic_lt f_N_farm_41 (fun h41 => ?_) (fun h41 => ?_)
        · refine r_ald0 f_N_farm_51 ?_
          refine r_gr f_N_farm_52 (s_0) (r_0_0) ?_
          refine r_ild1 f_N_farm_55 ?_
          refine r_ild2 f_N_farm_56 ?_
          refine r_ild3 f_N_farm_57 ?_
          refine c_D_settleFarm f_N_farm_58 (sD q_D1) (Nat.le_of_ble_eq_true rfl) (Nat.le_refl _) (Nat.le_refl _) ?_
          have h8 : dC σ.1 < 8 := by
            rcases Nat.lt_or_ge (dC σ.1) 8 with q | q
            · exact q
            · exact absurd (show nI (dC σ.1) < 8 from h41) (Int32.not_lt.mpr (nI_le (a := 8) q (by omega)))
          rw [if_neg (by omega)] at hk
          refine k_D_settleFarm q_D1 hW.1 h8 (PD.rf hC.1) (fun I9 hP9 => ?_)
          refine r_iret f_N_farm_61 ⟨_, rfl, rfl⟩ (Nat.le_refl _) (Nat.le_refl _) ?_
          exact hk _ _ (hC.ofPD hP9) hP9.hi
        · have h8 : dC σ.1 = 8 := by
            rcases Nat.lt_or_ge (dC σ.1) 8 with q | q
            · exact absurd (nI_lt (b := 8) q (by decide)) h41
            · omega
          rw [if_pos h8] at hk
          refine r_ald0 f_N_farm_44 ?_
          refine r_ic f_N_farm_45 ?_
          refine c_N_finding f_N_farm_47 (s_0) (Nat.le_of_ble_eq_true rfl) (Nat.le_refl _) (Nat.le_refl _) ?_
          refine k_N_finding (k := 1) (by decide) (by decide) hC (fun I9 hC9 hi9 => ?_)
          refine r_iret f_N_farm_50 ⟨_, rfl, rfl⟩ (Nat.le_refl _) (Nat.le_refl _) ?_
          exact hk _ _ hC9 hi9
      · rw [if_neg hc] at hk
        refine r_if_ne f_N_farm_22 (fun h => absurd h (by decide)) (fun _ => ?_)
        refine r_ald0 f_N_farm_25 ?_
        refine r_ic f_N_farm_26 ?_
        refine c_N_finding f_N_farm_28 (s_0) (Nat.le_of_ble_eq_true rfl) (Nat.le_refl _) (Nat.le_refl _) ?_
        refine k_N_finding (k := 0) (by decide) (by decide) hC (fun I9 hC9 hi9 => ?_)
        refine r_iret f_N_farm_31 ⟨_, rfl, rfl⟩ (Nat.le_refl _) (Nat.le_refl _) ?_
        exact hk _ _ hC9 hi9
    · rw [if_neg hb] at hk
      refine r_if_eq f_N_farm_14 (fun _ => ?_) (fun h => absurd h (by decide))
      refine r_ald0 f_N_farm_25 ?_
      refine r_ic f_N_farm_26 ?_
      refine c_N_finding f_N_farm_28 (s_0) (Nat.le_of_ble_eq_true rfl) (Nat.le_refl _) (Nat.le_refl _) ?_
      refine k_N_finding (k := 0) (by decide) (by decide) hC (fun I9 hC9 hi9 => ?_)
      refine r_iret f_N_farm_31 ⟨_, rfl, rfl⟩ (Nat.le_refl _) (Nat.le_refl _) ?_
      exact hk _ _ hC9 hi9
  · rw [if_neg ha] at hk
    refine r_if_eq f_N_farm_6 (fun _ => ?_) (fun h => absurd h (by decide))
    refine r_ald0 f_N_farm_25 ?_
    refine r_ic f_N_farm_26 ?_
    refine c_N_finding f_N_farm_28 (s_0) (Nat.le_of_ble_eq_true rfl) (Nat.le_refl _) (Nat.le_refl _) ?_
    refine k_N_finding (k := 0) (by decide) (by decide) hC (fun I9 hC9 hi9 => ?_)
    refine r_iret f_N_farm_31 ⟨_, rfl, rfl⟩ (Nat.le_refl _) (Nat.le_refl _) ?_
    exact hk _ _ hC9 hi9
def op_set (σ : St) (x w v : Int32) : Int32 × St := if 0 ≤ x ∧ x ≤ nI (dC σ.1) - 1 then if 0 ≤ w ∧ w ≤ 3 then if q_sv 2 w.toNatClampNeg ≤ v ∧ v ≤ q_sv 3 w.toNatClampNeg then (σ.1.1 x.toNatClampNeg (w.toNatClampNeg + 1), zN σ (eF σ.1 x.toNatClampNeg (w.toNatClampNeg + 1) v)) else fnd σ (-1000000001) 0 else fnd σ (-1000000001) 0 else fnd σ (-1000000001) 0
theorem k_N_set {x w v : Int32} (hC : RepC I L σ) (hW : WFs σ) (hk : CK K I L (op_set σ x w v)) : WW G (d + 3) mt_N_set 0 [some (.ref 0), some (.int x), some (.int w), some (.int v)] [] SH RF I L 0 0 0 0 K := by
  unfold op_set at hk
  have hcnt := hC.cnt hW
  have hc8 := hW.1.1.1
  refine r_ald0 f_N_set_0 ?_
  refine r_gr f_N_set_1 (s_0) (r_0_0) ?_
  refine r_ild1 f_N_set_4 ?_
  refine c_D_hasFarm f_N_set_5 (sD q_D1) (Nat.le_of_ble_eq_true rfl) (Nat.le_refl _) (Nat.le_refl _) ?_
  refine p_D_hasFarm q_D1 hcnt hc8 (fun hx u hu eu => ?_) (fun hx => ?_)
  · rw [if_pos hx] at hk
    subst eu
    rw [nI_clamp (by omega)] at hk
    refine r_if_eq f_N_set_8 (fun h => absurd h (by decide)) (fun _ => ?_)
    refine r_ild2 f_N_set_11 ?_
    refine r_ic f_N_set_12 ?_
    refine r_gst f_N_set_13 ?_
    refine r_alens f_N_set_16 (by decide) ?_
    refine r_ic f_N_set_17 ?_
    refine r_isub f_N_set_18 ?_
    rw [show Int32.ofNat (q_sl 3) - 1 = 3 from by decide]
    refine c_N_isWithin f_N_set_19 (Nat.le_of_ble_eq_true rfl) (Nat.le_refl _) (Nat.le_refl _) ?_
    refine k_N_isWithin (fun hwa hwb => ?_) (fun hw => ?_)
    · rw [if_pos ⟨hwa, hwb⟩] at hk
      obtain ⟨j, hj, ej⟩ := q_inC (c := 4) (by omega) hwa hwb
      subst ej
      rw [nI_clamp (by omega)] at hk
      refine r_if_eq f_N_set_22 (fun h => absurd h (by decide)) (fun _ => ?_)
      refine r_ild2 f_N_set_25 ?_
      refine r_ild3 f_N_set_26 ?_
      refine c_N_isPart f_N_set_27 (Nat.le_of_ble_eq_true rfl) (Nat.le_refl _) (Nat.le_refl _) ?_
      refine k_N_isPart (q_ix.nI hj (by decide)) (fun hva hvb => ?_) (fun hv => ?_)
      · rw [if_pos ⟨hva, hvb⟩] at hk
        refine r_if_ne f_N_set_30 (fun _ => ?_) (fun h => absurd h (by decide))
        refine r_ald0 f_N_set_40 ?_
        refine r_gr f_N_set_41 (s_0) (r_0_0) ?_
        refine r_gr f_N_set_44 (sD q_D1) (rD0 q_D1) ?_
        refine r_ild1 f_N_set_47 ?_
        refine r_aald f_N_set_48 (Or.inl rfl) (sD1 q_D1) (q_ix.nI (by omega) (by decide)) (rDF q_D1 (by omega)) ?_
        refine r_ild2 f_N_set_49 ?_
        refine r_ild3 f_N_set_50 ?_
        refine c_F_change f_N_set_51 (sDF q_D1 (by omega)) (Nat.le_of_ble_eq_true rfl) (Nat.le_refl _) (Nat.le_refl _) ?_
        refine k_F_change (sDF q_D1 (by omega)) j hj ?_
        have hP9 := (PD.rf hC.1).toF (f := u) (k := j + 1) (v := v) (by omega) (by omega)
        have e9 : I (1 + 9 + 2 * u) (j + 1) = σ.1.1 u (j + 1) := hC.1.fr (by omega) (by omega)
        refine r_iret f_N_set_54 ⟨_, rfl, rfl⟩ (Nat.le_refl _) (Nat.le_refl _) ?_
        rw [e9]
        exact hk _ _ (hC.ofPD hP9) hP9.hi
      · rw [if_neg hv] at hk
        refine r_if_ne f_N_set_30 (fun h => absurd h (by decide)) (fun _ => ?_)
        refine r_ald0 f_N_set_33 ?_
        refine r_ic f_N_set_34 ?_
        refine c_N_finding f_N_set_36 (s_0) (Nat.le_of_ble_eq_true rfl) (Nat.le_refl _) (Nat.le_refl _) ?_
        refine k_N_finding (k := 0) (by decide) (by decide) hC (fun I9 hC9 hi9 => ?_)
        refine r_iret f_N_set_39 ⟨_, rfl, rfl⟩ (Nat.le_refl _) (Nat.le_refl _) ?_
        exact hk _ _ hC9 hi9
    · rw [if_neg hw] at hk
      refine r_if_eq f_N_set_22 (fun _ => ?_) (fun h => absurd h (by decide))
      refine r_ald0 f_N_set_33 ?_
      refine r_ic f_N_set_34 ?_
      refine c_N_finding f_N_set_36 (s_0) (Nat.le_of_ble_eq_true rfl) (Nat.le_refl _) (Nat.le_refl _) ?_
      refine k_N_finding (k := 0) (by decide) (by decide) hC (fun I9 hC9 hi9 => ?_)
      refine r_iret f_N_set_39 ⟨_, rfl, rfl⟩ (Nat.le_refl _) (Nat.le_refl _) ?_
      exact hk _ _ hC9 hi9
  · rw [if_neg hx] at hk
    refine r_if_eq f_N_set_8 (fun _ => ?_) (fun h => absurd h (by decide))
    refine r_ald0 f_N_set_33 ?_
    refine r_ic f_N_set_34 ?_
    refine c_N_finding f_N_set_36 (s_0) (Nat.le_of_ble_eq_true rfl) (Nat.le_refl _) (Nat.le_refl _) ?_
    refine k_N_finding (k := 0) (by decide) (by decide) hC (fun I9 hC9 hi9 => ?_)
    refine r_iret f_N_set_39 ⟨_, rfl, rfl⟩ (Nat.le_refl _) (Nat.le_refl _) ?_
    exact hk _ _ hC9 hi9
def op_of (σ : St) (x w : Int32) : Int32 × St := if 0 ≤ x ∧ x ≤ nI (dC σ.1) - 1 then if 0 ≤ w ∧ w ≤ 10 then (if w = 7 then sp_paysOf σ.1 x.toNatClampNeg else if w = 8 then sp_wantsOf σ.1 x.toNatClampNeg else if w = 9 then sp_minds (σ.1.1 x.toNatClampNeg 0) (σ.1.1 x.toNatClampNeg 3) (σ.1.1 x.toNatClampNeg 6) else if w = 10 then nI (sp_place σ.1 x.toNatClampNeg) else σ.1.1 x.toNatClampNeg w.toNatClampNeg, σ) else fnd σ (-1000000001) 0 else fnd σ (-1000000001) 0
theorem k_N_of {x w : Int32} (hC : RepC I L σ) (hW : WFs σ) (hk : CK K I L (op_of σ x w)) : WW G (d + 6) mt_N_of 0 [some (.ref 0), some (.int x), some (.int w)] [] SH RF I L 0 0 0 0 K := by
  unfold op_of at hk
  have hcnt := hC.cnt hW
  have hc8 := hW.1.1.1
  refine r_ald0 f_N_of_0 ?_
  refine r_gr f_N_of_1 (s_0) (r_0_0) ?_
  refine r_ild1 f_N_of_4 ?_
  refine c_D_hasFarm f_N_of_5 (sD q_D1) (Nat.le_of_ble_eq_true rfl) (Nat.le_refl _) (Nat.le_refl _) ?_
  refine p_D_hasFarm q_D1 hcnt hc8 (fun hx u hu eu => ?_) (fun hx => ?_)
  · rw [if_pos hx] at hk
    subst eu
    rw [nI_clamp (by omega)] at hk
    refine r_if_eq f_N_of_8 (fun h => absurd h (by decide)) (fun _ => ?_)
    refine r_ild2 f_N_of_11 ?_
    refine r_ic f_N_of_12 ?_
    refine r_ic f_N_of_13 ?_
    refine c_N_isWithin f_N_of_15 (Nat.le_of_ble_eq_true rfl) (Nat.le_refl _) (Nat.le_refl _) ?_
    refine k_N_isWithin (fun hwa hwb => ?_) (fun hw => ?_)
    · rw [if_pos ⟨hwa, hwb⟩] at hk
      refine r_if_ne f_N_of_18 (fun _ => ?_) (fun h => absurd h (by decide))
      refine r_ild2 f_N_of_28 ?_
      refine r_sw f_N_of_29 ?_
      refine r_swc (k := 7) (by decide) (fun e29_7 => ?_) (fun e29_7 => ?_)
      · refine r_ald0 f_N_of_60 ?_
        refine r_gr f_N_of_61 (s_0) (r_0_0) ?_
        refine r_ild1 f_N_of_64 ?_
        refine c_D_paysOf f_N_of_65 (sD q_D1) (Nat.le_of_ble_eq_true rfl) (Nat.le_refl _) (Nat.le_refl _) ?_
        refine k_D_paysOf q_D1 (by omega) hC.1 hW.1 (fun I9 hg9 => ?_)
        rw [if_pos e29_7] at hk
        refine r_iret f_N_of_68 ⟨_, rfl, rfl⟩ (Nat.le_refl _) (Nat.le_refl _) ?_
        exact hk _ _ (hC.ofT hg9) (q_hi.ofT hg9)
      refine r_swc (k := 8) (by decide) (fun e29_8 => ?_) (fun e29_8 => ?_)
      · refine r_ald0 f_N_of_69 ?_
        refine r_gr f_N_of_70 (s_0) (r_0_0) ?_
        refine r_ild1 f_N_of_73 ?_
        refine c_D_wantsOf f_N_of_74 (sD q_D1) (Nat.le_of_ble_eq_true rfl) (Nat.le_refl _) (Nat.le_refl _) ?_
        refine k_D_wantsOf q_D1 (by omega) hC.1 hW.1 (fun I9 hg9 => ?_)
        rw [if_neg e29_7, if_pos e29_8] at hk
        refine r_iret f_N_of_77 ⟨_, rfl, rfl⟩ (Nat.le_refl _) (Nat.le_refl _) ?_
        exact hk _ _ (hC.ofT hg9) (q_hi.ofT hg9)
      refine r_swc (k := 9) (by decide) (fun e29_9 => ?_) (fun e29_9 => ?_)
      · refine r_ald0 f_N_of_78 ?_
        refine r_gr f_N_of_79 (s_0) (r_0_0) ?_
        refine r_gr f_N_of_82 (sD q_D1) (rD0 q_D1) ?_
        refine r_ild1 f_N_of_85 ?_
        refine r_aald f_N_of_86 (Or.inl rfl) (sD1 q_D1) (q_ix.nI (by omega) (by decide)) (rDF q_D1 (by omega)) ?_
        refine c_F_minds f_N_of_87 (sDF q_D1 (by omega)) (Nat.le_of_ble_eq_true rfl) (Nat.le_refl _) (Nat.le_refl _) ?_
        refine k_F_minds (sDF q_D1 (by omega)) ?_
        rw [if_neg e29_7, if_neg e29_8, if_pos e29_9] at hk
        rw [hC.1.fr (f := u) (k := 0) (by omega) (by decide), hC.1.fr (f := u) (k := 3) (by omega) (by decide), hC.1.fr (f := u) (k := 6) (by omega) (by decide)]
        refine r_iret f_N_of_90 ⟨_, rfl, rfl⟩ (Nat.le_refl _) (Nat.le_refl _) ?_
        exact hk _ _ hC q_hi.rf
      refine r_swc (k := 10) (by decide) (fun e29_10 => ?_) (fun e29_10 => ?_)
      · refine r_ald0 f_N_of_91 ?_
        refine r_gr f_N_of_92 (s_0) (r_0_0) ?_
        refine r_ild1 f_N_of_95 ?_
        refine c_D_placeOf f_N_of_96 (sD q_D1) (Nat.le_of_ble_eq_true rfl) (Nat.le_refl _) (Nat.le_refl _) ?_
        refine k_D_placeOf q_D1 (by omega) hC.1.1 hW.1 hcnt ?_
        rw [if_neg e29_7, if_neg e29_8, if_neg e29_9, if_pos e29_10] at hk
        refine r_iret f_N_of_99 ⟨_, rfl, rfl⟩ (Nat.le_refl _) (Nat.le_refl _) ?_
        exact hk _ _ hC q_hi.rf
      refine r_swn ?_
      refine r_ald0 f_N_of_100 ?_
      refine r_gr f_N_of_101 (s_0) (r_0_0) ?_
      refine r_gr f_N_of_104 (sD q_D1) (rD0 q_D1) ?_
      refine r_ild1 f_N_of_107 ?_
      refine r_aald f_N_of_108 (Or.inl rfl) (sD1 q_D1) (q_ix.nI (by omega) (by decide)) (rDF q_D1 (by omega)) ?_
      refine r_ild2 f_N_of_109 ?_
      refine c_F_tell f_N_of_110 (sDF q_D1 (by omega)) (Nat.le_of_ble_eq_true rfl) (Nat.le_refl _) (Nat.le_refl _) ?_
      rw [if_neg e29_7, if_neg e29_8, if_neg e29_9, if_neg e29_10] at hk
      obtain ⟨j, hj, ej⟩ := q_inC (c := 11) (by omega) hwa hwb
      subst ej
      have hj7 : j < 7 := by
        rcases (show j < 7 ∨ j = 7 ∨ j = 8 ∨ j = 9 ∨ j = 10 by omega) with q | q | q | q | q
        · exact q
        · exact absurd (by rw [q]; rfl) e29_7
        · exact absurd (by rw [q]; rfl) e29_8
        · exact absurd (by rw [q]; rfl) e29_9
        · exact absurd (by rw [q]; rfl) e29_10
      refine k_F_tell (sDF q_D1 (by omega)) j hj7 ?_
      rw [nI_clamp (by omega)] at hk
      rw [hC.1.fr (f := u) (k := j) (by omega) hj7]
      refine r_iret f_N_of_113 ⟨_, rfl, rfl⟩ (Nat.le_refl _) (Nat.le_refl _) ?_
      exact hk _ _ hC q_hi.rf
    · rw [if_neg hw] at hk
      refine r_if_ne f_N_of_18 (fun h => absurd h (by decide)) (fun _ => ?_)
      refine r_ald0 f_N_of_21 ?_
      refine r_ic f_N_of_22 ?_
      refine c_N_finding f_N_of_24 (s_0) (Nat.le_of_ble_eq_true rfl) (Nat.le_refl _) (Nat.le_refl _) ?_
      refine k_N_finding (k := 0) (by decide) (by decide) hC (fun I9 hC9 hi9 => ?_)
      refine r_iret f_N_of_27 ⟨_, rfl, rfl⟩ (Nat.le_refl _) (Nat.le_refl _) ?_
      exact hk _ _ hC9 hi9
  · rw [if_neg hx] at hk
    refine r_if_eq f_N_of_8 (fun _ => ?_) (fun h => absurd h (by decide))
    refine r_ald0 f_N_of_21 ?_
    refine r_ic f_N_of_22 ?_
    refine c_N_finding f_N_of_24 (s_0) (Nat.le_of_ble_eq_true rfl) (Nat.le_refl _) (Nat.le_refl _) ?_
    refine k_N_finding (k := 0) (by decide) (by decide) hC (fun I9 hC9 hi9 => ?_)
    refine r_iret f_N_of_27 ⟨_, rfl, rfl⟩ (Nat.le_refl _) (Nat.le_refl _) ?_
    exact hk _ _ hC9 hi9
def sp_un (kd q : Int32) : Prop := q = 0 ∨ kd = q ∨ (q = 1 ∧ kd = 5) ∨ (q = 2 ∧ (kd = 3 ∨ kd = 4))
theorem k_F_isOf {S : Shp} {R : Rf} {f : Nat} {x : Int32} (hf : S[f]? = some (1, 7)) (hkd : q_le (I f 0) 0 5) (h1 : sp_un (I f 0) x → K (some (.int 1)) S R I L) (h0 : ¬ sp_un (I f 0) x → K (some (.int 0)) S R I L) : WW G d mt_F_isOf 0 [some (.ref f), some (.int x), none, none] [] S R I L 0 0 0 0 K := by
  obtain ⟨n, -, hn5, hn⟩ := hkd
  rw [hn] at h1 h0
  match n, hn5 with
  | 0, _ =>
    refine r_ald0 f_F_isOf_0 ?_
    refine r_gi f_F_isOf_1 (hf) ?_
    rw [hn]
    refine r_ist2 f_F_isOf_4 rfl ?_
    refine r_ic f_F_isOf_5 ?_
    refine r_ist3 f_F_isOf_6 rfl ?_
    refine r_ild3 f_F_isOf_7 ?_
    refine r_ic f_F_isOf_8 ?_
    refine r_ic_ge f_F_isOf_10 (fun h => absurd h (by decide)) (fun _ => ?_)
    refine r_ild2 f_F_isOf_13 ?_
    refine r_if_lt f_F_isOf_14 (fun h => absurd h (by decide)) (fun _ => ?_)
    refine r_ild2 f_F_isOf_17 ?_
    refine r_ild1 f_F_isOf_18 ?_
    refine r_ic_ne f_F_isOf_19 (fun h19 => ?_) (fun h19 => ?_)
    · refine r_gst f_F_isOf_24 ?_
      refine r_ild2 f_F_isOf_27 ?_
      refine r_ialds f_F_isOf_28 (by decide) (j := 0) ⟨by decide, by decide⟩ ?_
      refine r_ist2 f_F_isOf_29 rfl ?_
      refine r_inc3 f_F_isOf_30 rfl ?_
      refine r_goto f_F_isOf_33 ?_
      refine r_ild3 f_F_isOf_7 ?_
      refine r_ic f_F_isOf_8 ?_
      refine r_ic_ge f_F_isOf_10 (fun h => absurd h (by decide)) (fun _ => ?_)
      refine r_ild2 f_F_isOf_13 ?_
      refine r_if_lt f_F_isOf_14 (fun _ => ?_) (fun h => absurd h (by decide))
      refine r_ic f_F_isOf_36 ?_
      refine r_iret f_F_isOf_37 ⟨_, rfl, rfl⟩ (Nat.le_refl _) (Nat.le_refl _) ?_
      refine h0 ?_
      unfold sp_un
      intro q
      rcases q with rfl | rfl | ⟨rfl, q⟩ | ⟨rfl, q⟩ <;> first | exact absurd rfl (by assumption) | exact absurd q (by decide) | (revert q; decide) | simp_all
    · refine r_ic f_F_isOf_22 ?_
      refine r_iret f_F_isOf_23 ⟨_, rfl, rfl⟩ (Nat.le_refl _) (Nat.le_refl _) ?_
      refine h1 ?_
      unfold sp_un
      first | (left; exact h19.symm) | (right; left; exact h19) | (right; right; left; exact ⟨h19.symm, rfl⟩) | (right; right; right; exact ⟨h19.symm, by decide⟩)
  | 1, _ =>
    refine r_ald0 f_F_isOf_0 ?_
    refine r_gi f_F_isOf_1 (hf) ?_
    rw [hn]
    refine r_ist2 f_F_isOf_4 rfl ?_
    refine r_ic f_F_isOf_5 ?_
    refine r_ist3 f_F_isOf_6 rfl ?_
    refine r_ild3 f_F_isOf_7 ?_
    refine r_ic f_F_isOf_8 ?_
    refine r_ic_ge f_F_isOf_10 (fun h => absurd h (by decide)) (fun _ => ?_)
    refine r_ild2 f_F_isOf_13 ?_
    refine r_if_lt f_F_isOf_14 (fun h => absurd h (by decide)) (fun _ => ?_)
    refine r_ild2 f_F_isOf_17 ?_
    refine r_ild1 f_F_isOf_18 ?_
    refine r_ic_ne f_F_isOf_19 (fun h19 => ?_) (fun h19 => ?_)
    · refine r_gst f_F_isOf_24 ?_
      refine r_ild2 f_F_isOf_27 ?_
      refine r_ialds f_F_isOf_28 (by decide) (j := 1) ⟨by decide, by decide⟩ ?_
      refine r_ist2 f_F_isOf_29 rfl ?_
      refine r_inc3 f_F_isOf_30 rfl ?_
      refine r_goto f_F_isOf_33 ?_
      refine r_ild3 f_F_isOf_7 ?_
      refine r_ic f_F_isOf_8 ?_
      refine r_ic_ge f_F_isOf_10 (fun h => absurd h (by decide)) (fun _ => ?_)
      refine r_ild2 f_F_isOf_13 ?_
      refine r_if_lt f_F_isOf_14 (fun h => absurd h (by decide)) (fun _ => ?_)
      refine r_ild2 f_F_isOf_17 ?_
      refine r_ild1 f_F_isOf_18 ?_
      refine r_ic_ne f_F_isOf_19 (fun h19 => ?_) (fun h19 => ?_)
      · refine r_gst f_F_isOf_24 ?_
        refine r_ild2 f_F_isOf_27 ?_
        refine r_ialds f_F_isOf_28 (by decide) (j := 0) ⟨by decide, by decide⟩ ?_
        refine r_ist2 f_F_isOf_29 rfl ?_
        refine r_inc3 f_F_isOf_30 rfl ?_
        refine r_goto f_F_isOf_33 ?_
        refine r_ild3 f_F_isOf_7 ?_
        refine r_ic f_F_isOf_8 ?_
        refine r_ic_ge f_F_isOf_10 (fun h => absurd h (by decide)) (fun _ => ?_)
        refine r_ild2 f_F_isOf_13 ?_
        refine r_if_lt f_F_isOf_14 (fun _ => ?_) (fun h => absurd h (by decide))
        refine r_ic f_F_isOf_36 ?_
        refine r_iret f_F_isOf_37 ⟨_, rfl, rfl⟩ (Nat.le_refl _) (Nat.le_refl _) ?_
        refine h0 ?_
        unfold sp_un
        intro q
        rcases q with rfl | rfl | ⟨rfl, q⟩ | ⟨rfl, q⟩ <;> first | exact absurd rfl (by assumption) | exact absurd q (by decide) | (revert q; decide) | simp_all
      · refine r_ic f_F_isOf_22 ?_
        refine r_iret f_F_isOf_23 ⟨_, rfl, rfl⟩ (Nat.le_refl _) (Nat.le_refl _) ?_
        refine h1 ?_
        unfold sp_un
        first | (left; exact h19.symm) | (right; left; exact h19) | (right; right; left; exact ⟨h19.symm, rfl⟩) | (right; right; right; exact ⟨h19.symm, by decide⟩)
    · refine r_ic f_F_isOf_22 ?_
      refine r_iret f_F_isOf_23 ⟨_, rfl, rfl⟩ (Nat.le_refl _) (Nat.le_refl _) ?_
      refine h1 ?_
      unfold sp_un
      first | (left; exact h19.symm) | (right; left; exact h19) | (right; right; left; exact ⟨h19.symm, rfl⟩) | (right; right; right; exact ⟨h19.symm, by decide⟩)
  | 2, _ =>
    refine r_ald0 f_F_isOf_0 ?_
    refine r_gi f_F_isOf_1 (hf) ?_
    rw [hn]
    refine r_ist2 f_F_isOf_4 rfl ?_
    refine r_ic f_F_isOf_5 ?_
    refine r_ist3 f_F_isOf_6 rfl ?_
    refine r_ild3 f_F_isOf_7 ?_
    refine r_ic f_F_isOf_8 ?_
    refine r_ic_ge f_F_isOf_10 (fun h => absurd h (by decide)) (fun _ => ?_)
    refine r_ild2 f_F_isOf_13 ?_
    refine r_if_lt f_F_isOf_14 (fun h => absurd h (by decide)) (fun _ => ?_)
    refine r_ild2 f_F_isOf_17 ?_
    refine r_ild1 f_F_isOf_18 ?_
    refine r_ic_ne f_F_isOf_19 (fun h19 => ?_) (fun h19 => ?_)
    · refine r_gst f_F_isOf_24 ?_
      refine r_ild2 f_F_isOf_27 ?_
      refine r_ialds f_F_isOf_28 (by decide) (j := 2) ⟨by decide, by decide⟩ ?_
      refine r_ist2 f_F_isOf_29 rfl ?_
      refine r_inc3 f_F_isOf_30 rfl ?_
      refine r_goto f_F_isOf_33 ?_
      refine r_ild3 f_F_isOf_7 ?_
      refine r_ic f_F_isOf_8 ?_
      refine r_ic_ge f_F_isOf_10 (fun h => absurd h (by decide)) (fun _ => ?_)
      refine r_ild2 f_F_isOf_13 ?_
      refine r_if_lt f_F_isOf_14 (fun h => absurd h (by decide)) (fun _ => ?_)
      refine r_ild2 f_F_isOf_17 ?_
      refine r_ild1 f_F_isOf_18 ?_
      refine r_ic_ne f_F_isOf_19 (fun h19 => ?_) (fun h19 => ?_)
      · refine r_gst f_F_isOf_24 ?_
        refine r_ild2 f_F_isOf_27 ?_
        refine r_ialds f_F_isOf_28 (by decide) (j := 0) ⟨by decide, by decide⟩ ?_
        refine r_ist2 f_F_isOf_29 rfl ?_
        refine r_inc3 f_F_isOf_30 rfl ?_
        refine r_goto f_F_isOf_33 ?_
        refine r_ild3 f_F_isOf_7 ?_
        refine r_ic f_F_isOf_8 ?_
        refine r_ic_ge f_F_isOf_10 (fun h => absurd h (by decide)) (fun _ => ?_)
        refine r_ild2 f_F_isOf_13 ?_
        refine r_if_lt f_F_isOf_14 (fun _ => ?_) (fun h => absurd h (by decide))
        refine r_ic f_F_isOf_36 ?_
        refine r_iret f_F_isOf_37 ⟨_, rfl, rfl⟩ (Nat.le_refl _) (Nat.le_refl _) ?_
        refine h0 ?_
        unfold sp_un
        intro q
        rcases q with rfl | rfl | ⟨rfl, q⟩ | ⟨rfl, q⟩ <;> first | exact absurd rfl (by assumption) | exact absurd q (by decide) | (revert q; decide) | simp_all
      · refine r_ic f_F_isOf_22 ?_
        refine r_iret f_F_isOf_23 ⟨_, rfl, rfl⟩ (Nat.le_refl _) (Nat.le_refl _) ?_
        refine h1 ?_
        unfold sp_un
        first | (left; exact h19.symm) | (right; left; exact h19) | (right; right; left; exact ⟨h19.symm, rfl⟩) | (right; right; right; exact ⟨h19.symm, by decide⟩)
    · refine r_ic f_F_isOf_22 ?_
      refine r_iret f_F_isOf_23 ⟨_, rfl, rfl⟩ (Nat.le_refl _) (Nat.le_refl _) ?_
      refine h1 ?_
      unfold sp_un
      first | (left; exact h19.symm) | (right; left; exact h19) | (right; right; left; exact ⟨h19.symm, rfl⟩) | (right; right; right; exact ⟨h19.symm, by decide⟩)
  | 3, _ =>
    refine r_ald0 f_F_isOf_0 ?_
    refine r_gi f_F_isOf_1 (hf) ?_
    rw [hn]
    refine r_ist2 f_F_isOf_4 rfl ?_
    refine r_ic f_F_isOf_5 ?_
    refine r_ist3 f_F_isOf_6 rfl ?_
    refine r_ild3 f_F_isOf_7 ?_
    refine r_ic f_F_isOf_8 ?_
    refine r_ic_ge f_F_isOf_10 (fun h => absurd h (by decide)) (fun _ => ?_)
    refine r_ild2 f_F_isOf_13 ?_
    refine r_if_lt f_F_isOf_14 (fun h => absurd h (by decide)) (fun _ => ?_)
    refine r_ild2 f_F_isOf_17 ?_
    refine r_ild1 f_F_isOf_18 ?_
    refine r_ic_ne f_F_isOf_19 (fun h19 => ?_) (fun h19 => ?_)
    · refine r_gst f_F_isOf_24 ?_
      refine r_ild2 f_F_isOf_27 ?_
      refine r_ialds f_F_isOf_28 (by decide) (j := 3) ⟨by decide, by decide⟩ ?_
      refine r_ist2 f_F_isOf_29 rfl ?_
      refine r_inc3 f_F_isOf_30 rfl ?_
      refine r_goto f_F_isOf_33 ?_
      refine r_ild3 f_F_isOf_7 ?_
      refine r_ic f_F_isOf_8 ?_
      refine r_ic_ge f_F_isOf_10 (fun h => absurd h (by decide)) (fun _ => ?_)
      refine r_ild2 f_F_isOf_13 ?_
      refine r_if_lt f_F_isOf_14 (fun h => absurd h (by decide)) (fun _ => ?_)
      refine r_ild2 f_F_isOf_17 ?_
      refine r_ild1 f_F_isOf_18 ?_
      refine r_ic_ne f_F_isOf_19 (fun h19 => ?_) (fun h19 => ?_)
      · refine r_gst f_F_isOf_24 ?_
        refine r_ild2 f_F_isOf_27 ?_
        refine r_ialds f_F_isOf_28 (by decide) (j := 2) ⟨by decide, by decide⟩ ?_
        refine r_ist2 f_F_isOf_29 rfl ?_
        refine r_inc3 f_F_isOf_30 rfl ?_
        refine r_goto f_F_isOf_33 ?_
        refine r_ild3 f_F_isOf_7 ?_
        refine r_ic f_F_isOf_8 ?_
        refine r_ic_ge f_F_isOf_10 (fun h => absurd h (by decide)) (fun _ => ?_)
        refine r_ild2 f_F_isOf_13 ?_
        refine r_if_lt f_F_isOf_14 (fun h => absurd h (by decide)) (fun _ => ?_)
        refine r_ild2 f_F_isOf_17 ?_
        refine r_ild1 f_F_isOf_18 ?_
        refine r_ic_ne f_F_isOf_19 (fun h19 => ?_) (fun h19 => ?_)
        · refine r_gst f_F_isOf_24 ?_
          refine r_ild2 f_F_isOf_27 ?_
          refine r_ialds f_F_isOf_28 (by decide) (j := 0) ⟨by decide, by decide⟩ ?_
          refine r_ist2 f_F_isOf_29 rfl ?_
          refine r_inc3 f_F_isOf_30 rfl ?_
          refine r_goto f_F_isOf_33 ?_
          refine r_ild3 f_F_isOf_7 ?_
          refine r_ic f_F_isOf_8 ?_
          refine r_ic_ge f_F_isOf_10 (fun h => absurd h (by decide)) (fun _ => ?_)
          refine r_ild2 f_F_isOf_13 ?_
          refine r_if_lt f_F_isOf_14 (fun _ => ?_) (fun h => absurd h (by decide))
          refine r_ic f_F_isOf_36 ?_
          refine r_iret f_F_isOf_37 ⟨_, rfl, rfl⟩ (Nat.le_refl _) (Nat.le_refl _) ?_
          refine h0 ?_
          unfold sp_un
          intro q
          rcases q with rfl | rfl | ⟨rfl, q⟩ | ⟨rfl, q⟩ <;> first | exact absurd rfl (by assumption) | exact absurd q (by decide) | (revert q; decide) | simp_all
        · refine r_ic f_F_isOf_22 ?_
          refine r_iret f_F_isOf_23 ⟨_, rfl, rfl⟩ (Nat.le_refl _) (Nat.le_refl _) ?_
          refine h1 ?_
          unfold sp_un
          first | (left; exact h19.symm) | (right; left; exact h19) | (right; right; left; exact ⟨h19.symm, rfl⟩) | (right; right; right; exact ⟨h19.symm, by decide⟩)
      · refine r_ic f_F_isOf_22 ?_
        refine r_iret f_F_isOf_23 ⟨_, rfl, rfl⟩ (Nat.le_refl _) (Nat.le_refl _) ?_
        refine h1 ?_
        unfold sp_un
        first | (left; exact h19.symm) | (right; left; exact h19) | (right; right; left; exact ⟨h19.symm, rfl⟩) | (right; right; right; exact ⟨h19.symm, by decide⟩)
    · refine r_ic f_F_isOf_22 ?_
      refine r_iret f_F_isOf_23 ⟨_, rfl, rfl⟩ (Nat.le_refl _) (Nat.le_refl _) ?_
      refine h1 ?_
      unfold sp_un
      first | (left; exact h19.symm) | (right; left; exact h19) | (right; right; left; exact ⟨h19.symm, rfl⟩) | (right; right; right; exact ⟨h19.symm, by decide⟩)
  | 4, _ =>
    refine r_ald0 f_F_isOf_0 ?_
    refine r_gi f_F_isOf_1 (hf) ?_
    rw [hn]
    refine r_ist2 f_F_isOf_4 rfl ?_
    refine r_ic f_F_isOf_5 ?_
    refine r_ist3 f_F_isOf_6 rfl ?_
    refine r_ild3 f_F_isOf_7 ?_
    refine r_ic f_F_isOf_8 ?_
    refine r_ic_ge f_F_isOf_10 (fun h => absurd h (by decide)) (fun _ => ?_)
    refine r_ild2 f_F_isOf_13 ?_
    refine r_if_lt f_F_isOf_14 (fun h => absurd h (by decide)) (fun _ => ?_)
    refine r_ild2 f_F_isOf_17 ?_
    refine r_ild1 f_F_isOf_18 ?_
    refine r_ic_ne f_F_isOf_19 (fun h19 => ?_) (fun h19 => ?_)
    · refine r_gst f_F_isOf_24 ?_
      refine r_ild2 f_F_isOf_27 ?_
      refine r_ialds f_F_isOf_28 (by decide) (j := 4) ⟨by decide, by decide⟩ ?_
      refine r_ist2 f_F_isOf_29 rfl ?_
      refine r_inc3 f_F_isOf_30 rfl ?_
      refine r_goto f_F_isOf_33 ?_
      refine r_ild3 f_F_isOf_7 ?_
      refine r_ic f_F_isOf_8 ?_
      refine r_ic_ge f_F_isOf_10 (fun h => absurd h (by decide)) (fun _ => ?_)
      refine r_ild2 f_F_isOf_13 ?_
      refine r_if_lt f_F_isOf_14 (fun h => absurd h (by decide)) (fun _ => ?_)
      refine r_ild2 f_F_isOf_17 ?_
      refine r_ild1 f_F_isOf_18 ?_
      refine r_ic_ne f_F_isOf_19 (fun h19 => ?_) (fun h19 => ?_)
      · refine r_gst f_F_isOf_24 ?_
        refine r_ild2 f_F_isOf_27 ?_
        refine r_ialds f_F_isOf_28 (by decide) (j := 2) ⟨by decide, by decide⟩ ?_
        refine r_ist2 f_F_isOf_29 rfl ?_
        refine r_inc3 f_F_isOf_30 rfl ?_
        refine r_goto f_F_isOf_33 ?_
        refine r_ild3 f_F_isOf_7 ?_
        refine r_ic f_F_isOf_8 ?_
        refine r_ic_ge f_F_isOf_10 (fun h => absurd h (by decide)) (fun _ => ?_)
        refine r_ild2 f_F_isOf_13 ?_
        refine r_if_lt f_F_isOf_14 (fun h => absurd h (by decide)) (fun _ => ?_)
        refine r_ild2 f_F_isOf_17 ?_
        refine r_ild1 f_F_isOf_18 ?_
        refine r_ic_ne f_F_isOf_19 (fun h19 => ?_) (fun h19 => ?_)
        · refine r_gst f_F_isOf_24 ?_
          refine r_ild2 f_F_isOf_27 ?_
          refine r_ialds f_F_isOf_28 (by decide) (j := 0) ⟨by decide, by decide⟩ ?_
          refine r_ist2 f_F_isOf_29 rfl ?_
          refine r_inc3 f_F_isOf_30 rfl ?_
          refine r_goto f_F_isOf_33 ?_
          refine r_ild3 f_F_isOf_7 ?_
          refine r_ic f_F_isOf_8 ?_
          refine r_ic_ge f_F_isOf_10 (fun h => absurd h (by decide)) (fun _ => ?_)
          refine r_ild2 f_F_isOf_13 ?_
          refine r_if_lt f_F_isOf_14 (fun _ => ?_) (fun h => absurd h (by decide))
          refine r_ic f_F_isOf_36 ?_
          refine r_iret f_F_isOf_37 ⟨_, rfl, rfl⟩ (Nat.le_refl _) (Nat.le_refl _) ?_
          refine h0 ?_
          unfold sp_un
          intro q
          rcases q with rfl | rfl | ⟨rfl, q⟩ | ⟨rfl, q⟩ <;> first | exact absurd rfl (by assumption) | exact absurd q (by decide) | (revert q; decide) | simp_all
        · refine r_ic f_F_isOf_22 ?_
          refine r_iret f_F_isOf_23 ⟨_, rfl, rfl⟩ (Nat.le_refl _) (Nat.le_refl _) ?_
          refine h1 ?_
          unfold sp_un
          first | (left; exact h19.symm) | (right; left; exact h19) | (right; right; left; exact ⟨h19.symm, rfl⟩) | (right; right; right; exact ⟨h19.symm, by decide⟩)
      · refine r_ic f_F_isOf_22 ?_
        refine r_iret f_F_isOf_23 ⟨_, rfl, rfl⟩ (Nat.le_refl _) (Nat.le_refl _) ?_
        refine h1 ?_
        unfold sp_un
        first | (left; exact h19.symm) | (right; left; exact h19) | (right; right; left; exact ⟨h19.symm, rfl⟩) | (right; right; right; exact ⟨h19.symm, by decide⟩)
    · refine r_ic f_F_isOf_22 ?_
      refine r_iret f_F_isOf_23 ⟨_, rfl, rfl⟩ (Nat.le_refl _) (Nat.le_refl _) ?_
      refine h1 ?_
      unfold sp_un
      first | (left; exact h19.symm) | (right; left; exact h19) | (right; right; left; exact ⟨h19.symm, rfl⟩) | (right; right; right; exact ⟨h19.symm, by decide⟩)
  | 5, _ =>
    refine r_ald0 f_F_isOf_0 ?_
    refine r_gi f_F_isOf_1 (hf) ?_
    rw [hn]
    refine r_ist2 f_F_isOf_4 rfl ?_
    refine r_ic f_F_isOf_5 ?_
    refine r_ist3 f_F_isOf_6 rfl ?_
    refine r_ild3 f_F_isOf_7 ?_
    refine r_ic f_F_isOf_8 ?_
    refine r_ic_ge f_F_isOf_10 (fun h => absurd h (by decide)) (fun _ => ?_)
    refine r_ild2 f_F_isOf_13 ?_
    refine r_if_lt f_F_isOf_14 (fun h => absurd h (by decide)) (fun _ => ?_)
    refine r_ild2 f_F_isOf_17 ?_
    refine r_ild1 f_F_isOf_18 ?_
    refine r_ic_ne f_F_isOf_19 (fun h19 => ?_) (fun h19 => ?_)
    · refine r_gst f_F_isOf_24 ?_
      refine r_ild2 f_F_isOf_27 ?_
      refine r_ialds f_F_isOf_28 (by decide) (j := 5) ⟨by decide, by decide⟩ ?_
      refine r_ist2 f_F_isOf_29 rfl ?_
      refine r_inc3 f_F_isOf_30 rfl ?_
      refine r_goto f_F_isOf_33 ?_
      refine r_ild3 f_F_isOf_7 ?_
      refine r_ic f_F_isOf_8 ?_
      refine r_ic_ge f_F_isOf_10 (fun h => absurd h (by decide)) (fun _ => ?_)
      refine r_ild2 f_F_isOf_13 ?_
      refine r_if_lt f_F_isOf_14 (fun h => absurd h (by decide)) (fun _ => ?_)
      refine r_ild2 f_F_isOf_17 ?_
      refine r_ild1 f_F_isOf_18 ?_
      refine r_ic_ne f_F_isOf_19 (fun h19 => ?_) (fun h19 => ?_)
      · refine r_gst f_F_isOf_24 ?_
        refine r_ild2 f_F_isOf_27 ?_
        refine r_ialds f_F_isOf_28 (by decide) (j := 1) ⟨by decide, by decide⟩ ?_
        refine r_ist2 f_F_isOf_29 rfl ?_
        refine r_inc3 f_F_isOf_30 rfl ?_
        refine r_goto f_F_isOf_33 ?_
        refine r_ild3 f_F_isOf_7 ?_
        refine r_ic f_F_isOf_8 ?_
        refine r_ic_ge f_F_isOf_10 (fun h => absurd h (by decide)) (fun _ => ?_)
        refine r_ild2 f_F_isOf_13 ?_
        refine r_if_lt f_F_isOf_14 (fun h => absurd h (by decide)) (fun _ => ?_)
        refine r_ild2 f_F_isOf_17 ?_
        refine r_ild1 f_F_isOf_18 ?_
        refine r_ic_ne f_F_isOf_19 (fun h19 => ?_) (fun h19 => ?_)
        · refine r_gst f_F_isOf_24 ?_
          refine r_ild2 f_F_isOf_27 ?_
          refine r_ialds f_F_isOf_28 (by decide) (j := 0) ⟨by decide, by decide⟩ ?_
          refine r_ist2 f_F_isOf_29 rfl ?_
          refine r_inc3 f_F_isOf_30 rfl ?_
          refine r_goto f_F_isOf_33 ?_
          refine r_ild3 f_F_isOf_7 ?_
          refine r_ic f_F_isOf_8 ?_
          refine r_ic_ge f_F_isOf_10 (fun h => absurd h (by decide)) (fun _ => ?_)
          refine r_ild2 f_F_isOf_13 ?_
          refine r_if_lt f_F_isOf_14 (fun _ => ?_) (fun h => absurd h (by decide))
          refine r_ic f_F_isOf_36 ?_
          refine r_iret f_F_isOf_37 ⟨_, rfl, rfl⟩ (Nat.le_refl _) (Nat.le_refl _) ?_
          refine h0 ?_
          unfold sp_un
          intro q
          rcases q with rfl | rfl | ⟨rfl, q⟩ | ⟨rfl, q⟩ <;> first | exact absurd rfl (by assumption) | exact absurd q (by decide) | (revert q; decide) | simp_all
        · refine r_ic f_F_isOf_22 ?_
          refine r_iret f_F_isOf_23 ⟨_, rfl, rfl⟩ (Nat.le_refl _) (Nat.le_refl _) ?_
          refine h1 ?_
          unfold sp_un
          first | (left; exact h19.symm) | (right; left; exact h19) | (right; right; left; exact ⟨h19.symm, rfl⟩) | (right; right; right; exact ⟨h19.symm, by decide⟩)
      · refine r_ic f_F_isOf_22 ?_
        refine r_iret f_F_isOf_23 ⟨_, rfl, rfl⟩ (Nat.le_refl _) (Nat.le_refl _) ?_
        refine h1 ?_
        unfold sp_un
        first | (left; exact h19.symm) | (right; left; exact h19) | (right; right; left; exact ⟨h19.symm, rfl⟩) | (right; right; right; exact ⟨h19.symm, by decide⟩)
    · refine r_ic f_F_isOf_22 ?_
      refine r_iret f_F_isOf_23 ⟨_, rfl, rfl⟩ (Nat.le_refl _) (Nat.le_refl _) ?_
      refine h1 ?_
      unfold sp_un
      first | (left; exact h19.symm) | (right; left; exact h19) | (right; right; left; exact ⟨h19.symm, rfl⟩) | (right; right; right; exact ⟨h19.symm, by decide⟩)
def sp_unb (kd q : Int32) : Bool := decide (q = 0) || decide (kd = q) || (decide (q = 1) && decide (kd = 5)) || (decide (q = 2) && (decide (kd = 3) || decide (kd = 4)))
theorem sp_unb_iff {kd q : Int32} : sp_unb kd q = true ↔ sp_un kd q := by
  unfold sp_unb sp_un
  simp only [Bool.or_eq_true, Bool.and_eq_true, decide_eq_true_eq, or_assoc]
def op_as (σ : St) (x w : Int32) : Int32 × St := if 0 ≤ x ∧ x ≤ nI (dC σ.1) - 1 then if 0 ≤ w ∧ w ≤ 5 then if sp_unb (σ.1.1 x.toNatClampNeg 0) w = true then (sp_wantsOf σ.1 x.toNatClampNeg, σ) else fnd σ (-1000000003) 2 else fnd σ (-1000000001) 0 else fnd σ (-1000000001) 0
theorem k_N_as {x w : Int32} (hC : RepC I L σ) (hW : WFs σ) (hk : CK K I L (op_as σ x w)) : WW G (d + 6) mt_N_as 0 [some (.ref 0), some (.int x), some (.int w)] [] SH RF I L 0 0 0 0 K := by
  unfold op_as at hk
  have hcnt := hC.cnt hW
  have hc8 := hW.1.1.1
  refine r_ald0 f_N_as_0 ?_
  refine r_gr f_N_as_1 (s_0) (r_0_0) ?_
  refine r_ild1 f_N_as_4 ?_
  refine c_D_hasFarm f_N_as_5 (sD q_D1) (Nat.le_of_ble_eq_true rfl) (Nat.le_refl _) (Nat.le_refl _) ?_
  refine p_D_hasFarm q_D1 hcnt hc8 (fun hx u hu eu => ?_) (fun hx => ?_)
  · rw [if_pos hx] at hk
    subst eu
    rw [nI_clamp (by omega)] at hk
    refine r_if_eq f_N_as_8 (fun h => absurd h (by decide)) (fun _ => ?_)
    refine r_ild2 f_N_as_11 ?_
    refine r_ic f_N_as_12 ?_
    refine r_ic f_N_as_13 ?_
    refine c_N_isWithin f_N_as_14 (Nat.le_of_ble_eq_true rfl) (Nat.le_refl _) (Nat.le_refl _) ?_
    refine k_N_isWithin (fun hwa hwb => ?_) (fun hw => ?_)
    · rw [if_pos ⟨hwa, hwb⟩] at hk
      refine r_if_ne f_N_as_17 (fun _ => ?_) (fun h => absurd h (by decide))
      refine r_ald0 f_N_as_27 ?_
      refine r_gr f_N_as_28 (s_0) (r_0_0) ?_
      refine r_gr f_N_as_31 (sD q_D1) (rD0 q_D1) ?_
      refine r_ild1 f_N_as_34 ?_
      refine r_aald f_N_as_35 (Or.inl rfl) (sD1 q_D1) (q_ix.nI (by omega) (by decide)) (rDF q_D1 (by omega)) ?_
      refine r_ild2 f_N_as_36 ?_
      refine c_F_isOf f_N_as_37 (sDF q_D1 (by omega)) (Nat.le_of_ble_eq_true rfl) (Nat.le_refl _) (Nat.le_refl _) ?_
      have ek : I (1 + 9 + 2 * u) 0 = σ.1.1 u 0 := hC.1.fr (by omega) (by decide)
      have hkd : q_le (I (1 + 9 + 2 * u) 0) 0 5 := by
        rw [ek]
        exact hW.1.fs u 0 (by omega) (by decide) (by decide)
      refine k_F_isOf (sDF q_D1 (by omega)) hkd (fun hu1 => ?_) (fun hu1 => ?_)
      · rw [ek] at hu1
        rw [if_pos (sp_unb_iff.mpr hu1)] at hk
        refine r_if_ne f_N_as_40 (fun _ => ?_) (fun h => absurd h (by decide))
        refine r_ald0 f_N_as_50 ?_
        refine r_gr f_N_as_51 (s_0) (r_0_0) ?_
        refine r_ild1 f_N_as_54 ?_
        refine c_D_wantsOf f_N_as_55 (sD q_D1) (Nat.le_of_ble_eq_true rfl) (Nat.le_refl _) (Nat.le_refl _) ?_
        refine k_D_wantsOf q_D1 (by omega) hC.1 hW.1 (fun I9 hg9 => ?_)
        refine r_iret f_N_as_58 ⟨_, rfl, rfl⟩ (Nat.le_refl _) (Nat.le_refl _) ?_
        exact hk _ _ (hC.ofT hg9) (q_hi.ofT hg9)
      · rw [ek] at hu1
        rw [if_neg (fun q => hu1 (sp_unb_iff.mp q))] at hk
        refine r_if_ne f_N_as_40 (fun h => absurd h (by decide)) (fun _ => ?_)
        refine r_ald0 f_N_as_43 ?_
        refine r_ic f_N_as_44 ?_
        refine c_N_finding f_N_as_46 (s_0) (Nat.le_of_ble_eq_true rfl) (Nat.le_refl _) (Nat.le_refl _) ?_
        refine k_N_finding (k := 2) (by decide) (by decide) hC (fun I9 hC9 hi9 => ?_)
        refine r_iret f_N_as_49 ⟨_, rfl, rfl⟩ (Nat.le_refl _) (Nat.le_refl _) ?_
        exact hk _ _ hC9 hi9
    · rw [if_neg hw] at hk
      refine r_if_ne f_N_as_17 (fun h => absurd h (by decide)) (fun _ => ?_)
      refine r_ald0 f_N_as_20 ?_
      refine r_ic f_N_as_21 ?_
      refine c_N_finding f_N_as_23 (s_0) (Nat.le_of_ble_eq_true rfl) (Nat.le_refl _) (Nat.le_refl _) ?_
      refine k_N_finding (k := 0) (by decide) (by decide) hC (fun I9 hC9 hi9 => ?_)
      refine r_iret f_N_as_26 ⟨_, rfl, rfl⟩ (Nat.le_refl _) (Nat.le_refl _) ?_
      exact hk _ _ hC9 hi9
  · rw [if_neg hx] at hk
    refine r_if_eq f_N_as_8 (fun _ => ?_) (fun h => absurd h (by decide))
    refine r_ald0 f_N_as_20 ?_
    refine r_ic f_N_as_21 ?_
    refine c_N_finding f_N_as_23 (s_0) (Nat.le_of_ble_eq_true rfl) (Nat.le_refl _) (Nat.le_refl _) ?_
    refine k_N_finding (k := 0) (by decide) (by decide) hC (fun I9 hC9 hi9 => ?_)
    refine r_iret f_N_as_26 ⟨_, rfl, rfl⟩ (Nat.le_refl _) (Nat.le_refl _) ?_
    exact hk _ _ hC9 hi9
def op_rule (σ : St) (w v : Int32) : Int32 × St := if 0 ≤ w ∧ w ≤ 4 then if 0 ≤ v ∧ v ≤ q_sv 1 w.toNatClampNeg then (σ.1.2.2.1 w.toNatClampNeg, zN σ (eU σ.1 w.toNatClampNeg v)) else fnd σ (-1000000001) 0 else fnd σ (-1000000001) 0
theorem k_N_rule {w v : Int32} (hC : RepC I L σ) (hW : WFs σ) (hk : CK K I L (op_rule σ w v)) : WW G (d + 2) mt_N_rule 0 [some (.ref 0), some (.int w), some (.int v), none] [] SH RF I L 0 0 0 0 K := by
  unfold op_rule at hk
  have hcnt := hC.cnt hW
  have hc8 := hW.1.1.1
  refine r_ild1 f_N_rule_0 ?_
  refine r_ic f_N_rule_1 ?_
  refine r_ic f_N_rule_2 ?_
  refine c_N_isWithin f_N_rule_3 (Nat.le_of_ble_eq_true rfl) (Nat.le_refl _) (Nat.le_refl _) ?_
  refine k_N_isWithin (fun hwa hwb => ?_) (fun hw => ?_)
  · rw [if_pos ⟨hwa, hwb⟩] at hk
    obtain ⟨j, hj, ej⟩ := q_inC (c := 5) (by omega) hwa hwb
    subst ej
    rw [nI_clamp (by omega)] at hk
    refine r_if_eq f_N_rule_6 (fun h => absurd h (by decide)) (fun _ => ?_)
    refine r_ild2 f_N_rule_9 ?_
    refine r_ic f_N_rule_10 ?_
    refine r_gst f_N_rule_11 ?_
    refine r_ild1 f_N_rule_14 ?_
    refine r_ialds f_N_rule_15 (by decide) (q_ix.nI (n := q_sl 1) hj (by decide)) ?_
    refine c_N_isWithin f_N_rule_16 (Nat.le_of_ble_eq_true rfl) (Nat.le_refl _) (Nat.le_refl _) ?_
    refine k_N_isWithin (fun hva hvb => ?_) (fun hv => ?_)
    · rw [if_pos ⟨hva, hvb⟩] at hk
      refine r_if_ne f_N_rule_19 (fun _ => ?_) (fun h => absurd h (by decide))
      refine r_ald0 f_N_rule_29 ?_
      refine r_gr f_N_rule_30 (s_0) (r_0_0) ?_
      refine r_gr f_N_rule_33 (sD q_D1) (rD2 q_D1) ?_
      refine r_ild1 f_N_rule_36 ?_
      refine r_iald f_N_rule_37 (sD3 q_D1) (q_ix.nI (by omega) (by decide)) ?_
      rw [show I (1 + 3) j = σ.1.2.2.1 j from (PD.rf hC.1).u hj]
      refine r_ist3 f_N_rule_38 rfl ?_
      refine r_ald0 f_N_rule_39 ?_
      refine r_gr f_N_rule_40 (s_0) (r_0_0) ?_
      refine r_gr f_N_rule_43 (sD q_D1) (rD2 q_D1) ?_
      refine r_ild1 f_N_rule_46 ?_
      refine r_ild2 f_N_rule_47 ?_
      refine r_pU f_N_rule_48 q_D1 (q_ix.nI hj (by decide)) (PD.rf hC.1) (fun I9 hP9 => ?_)
      refine r_ild3 f_N_rule_49 ?_
      refine r_iret f_N_rule_50 ⟨_, rfl, rfl⟩ (Nat.le_refl _) (Nat.le_refl _) ?_
      exact hk _ _ (hC.ofPD hP9) hP9.hi
    · rw [if_neg hv] at hk
      refine r_if_ne f_N_rule_19 (fun h => absurd h (by decide)) (fun _ => ?_)
      refine r_ald0 f_N_rule_22 ?_
      refine r_ic f_N_rule_23 ?_
      refine c_N_finding f_N_rule_25 (s_0) (Nat.le_of_ble_eq_true rfl) (Nat.le_refl _) (Nat.le_refl _) ?_
      refine k_N_finding (k := 0) (by decide) (by decide) hC (fun I9 hC9 hi9 => ?_)
      refine r_iret f_N_rule_28 ⟨_, rfl, rfl⟩ (Nat.le_refl _) (Nat.le_refl _) ?_
      exact hk _ _ hC9 hi9
  · rw [if_neg hw] at hk
    refine r_if_eq f_N_rule_6 (fun _ => ?_) (fun h => absurd h (by decide))
    refine r_ald0 f_N_rule_22 ?_
    refine r_ic f_N_rule_23 ?_
    refine c_N_finding f_N_rule_25 (s_0) (Nat.le_of_ble_eq_true rfl) (Nat.le_refl _) (Nat.le_refl _) ?_
    refine k_N_finding (k := 0) (by decide) (by decide) hC (fun I9 hC9 hi9 => ?_)
    refine r_iret f_N_rule_28 ⟨_, rfl, rfl⟩ (Nat.le_refl _) (Nat.le_refl _) ?_
    exact hk _ _ hC9 hi9
def op_dry (σ : St) (v : Int32) : Int32 × St := if 1 ≤ v ∧ v ≤ 9 then (σ.1.2.2.2.1 1, zN σ (eS σ.1 1 v)) else fnd σ (-1000000001) 0
theorem k_N_dry {v : Int32} (hC : RepC I L σ) (hW : WFs σ) (hk : CK K I L (op_dry σ v)) : WW G (d + 2) mt_N_dry 0 [some (.ref 0), some (.int v), none] [] SH RF I L 0 0 0 0 K := by
  unfold op_dry at hk
  have hcnt := hC.cnt hW
  have hc8 := hW.1.1.1
  refine r_ild1 f_N_dry_0 ?_
  refine r_ic f_N_dry_1 ?_
  refine r_ic f_N_dry_2 ?_
  refine c_N_isWithin f_N_dry_4 (Nat.le_of_ble_eq_true rfl) (Nat.le_refl _) (Nat.le_refl _) ?_
  refine k_N_isWithin (fun hva hvb => ?_) (fun hv => ?_)
  · rw [if_pos ⟨hva, hvb⟩] at hk
    refine r_if_ne f_N_dry_7 (fun _ => ?_) (fun h => absurd h (by decide))
    refine r_ald0 f_N_dry_17 ?_
    refine r_gr f_N_dry_18 (s_0) (r_0_0) ?_
    refine r_gi f_N_dry_21 (sD q_D1) ?_
    rw [show I 1 6 = σ.1.2.2.2.1 1 from (PD.rf hC.1).s (k := 1) (by decide)]
    refine r_ist2 f_N_dry_24 rfl ?_
    refine r_ald0 f_N_dry_25 ?_
    refine r_gr f_N_dry_26 (s_0) (r_0_0) ?_
    refine r_ild1 f_N_dry_29 ?_
    refine r_pS f_N_dry_30 q_D1 (k := 1) (by decide) rfl (PD.rf hC.1) (fun I9 hP9 => ?_)
    refine r_ild2 f_N_dry_33 ?_
    refine r_iret f_N_dry_34 ⟨_, rfl, rfl⟩ (Nat.le_refl _) (Nat.le_refl _) ?_
    exact hk _ _ (hC.ofPD hP9) hP9.hi
  · rw [if_neg hv] at hk
    refine r_if_ne f_N_dry_7 (fun h => absurd h (by decide)) (fun _ => ?_)
    refine r_ald0 f_N_dry_10 ?_
    refine r_ic f_N_dry_11 ?_
    refine c_N_finding f_N_dry_13 (s_0) (Nat.le_of_ble_eq_true rfl) (Nat.le_refl _) (Nat.le_refl _) ?_
    refine k_N_finding (k := 0) (by decide) (by decide) hC (fun I9 hC9 hi9 => ?_)
    refine r_iret f_N_dry_16 ⟨_, rfl, rfl⟩ (Nat.le_refl _) (Nat.le_refl _) ?_
    exact hk _ _ hC9 hi9
def op_year (σ : St) : Int32 × St := if σ.1.2.2.2.1 0 = 99 then fnd σ (-1000000005) 4 else (σ.1.2.2.2.1 0 + 1, zN σ (sp_year σ.1))
theorem k_N_year (hC : RepC I L σ) (hW : WFs σ) (hk : CK K I L (op_year σ)) : WW G (d + 2) mt_N_year 0 [some (.ref 0)] [] SH RF I L 0 0 0 0 K := by
  unfold op_year at hk
  have hcnt := hC.cnt hW
  have hc8 := hW.1.1.1
  obtain ⟨yn, -, hy99, hyn⟩ := hW.1.2.2.2.2.2.2.1
  refine r_ald0 f_N_year_0 ?_
  refine r_gr f_N_year_1 (s_0) (r_0_0) ?_
  refine r_gi f_N_year_4 (sD q_D1) ?_
  rw [show I 1 5 = σ.1.2.2.2.1 0 from (PD.rf hC.1).s (k := 0) (by decide), hyn]
  refine r_ic f_N_year_7 ?_
  refine r_ic_lt f_N_year_9 (fun h9 => ?_) (fun h9 => ?_)
  · refine r_ald0 f_N_year_19 ?_
    refine r_gr f_N_year_20 (s_0) (r_0_0) ?_
    refine c_D_passYear f_N_year_23 (sD q_D1) (Nat.le_of_ble_eq_true rfl) (Nat.le_refl _) (Nat.le_refl _) ?_
    refine k_D_passYear q_D1 hW.1 (PD.rf hC.1) (fun I9 hP9 => ?_)
    have hne : ¬ σ.1.2.2.2.1 0 = 99 := fun q => by
      rw [hyn] at q
      have := (nI_eq (b := 99) (by omega) (by decide)).mp q
      exact absurd h9 (Int32.not_lt.mpr (nI_le (a := 99) (by omega) (by omega)))
    rw [if_neg hne] at hk
    refine r_ald0 f_N_year_26 ?_
    refine r_gr f_N_year_27 (s_0) (r_0_0) ?_
    refine r_gi f_N_year_30 (sD q_D1) ?_
    refine r_iret f_N_year_33 ⟨_, rfl, rfl⟩ (Nat.le_refl _) (Nat.le_refl _) ?_
    have e9 : I9 1 5 = σ.1.2.2.2.1 0 + 1 := by
      have h8 := hP9.s (k := 0) (by decide)
      unfold sp_year at h8
      rw [sp_yl_5] at h8
      exact h8
    rw [e9]
    exact hk _ _ (hC.ofPD hP9) hP9.hi
  · have hyq : yn = 99 := by
      rcases Nat.lt_or_ge yn 99 with q | q
      · exact absurd (nI_lt (b := 99) q (by decide)) h9
      · omega
    rw [if_pos (by rw [hyn, hyq]; rfl)] at hk
    refine r_ald0 f_N_year_12 ?_
    refine r_ic f_N_year_13 ?_
    refine c_N_finding f_N_year_15 (s_0) (Nat.le_of_ble_eq_true rfl) (Nat.le_refl _) (Nat.le_refl _) ?_
    refine k_N_finding (k := 4) (by decide) (by decide) hC (fun I9 hC9 hi9 => ?_)
    refine r_iret f_N_year_18 ⟨_, rfl, rfl⟩ (Nat.le_refl _) (Nat.le_refl _) ?_
    exact hk _ _ hC9 hi9
end L32
