section L33
variable {G : Gx} {d : Nat} {I I' : Rn} {L : Rl} {K : Kt} {σ : St}
theorem q_obs_FW {x y : Nat} (q : q_obs x y) : ¬ FW 1 x y := by
  unfold q_obs at q
  intro h
  rcases h with h | h | ⟨i, h1, h2⟩
  · unfold FT at h
    omega
  · omega
  · omega
theorem RepC.ofW (h : RepC I L σ) (hg : q_ag (FW 1) I I') : RepC I' L σ := h.same (h.1.agW q_D1 hg) (fun x y q => hg x y (q_obs_FW q))
theorem q_hi.ofW (hg : q_ag (FW 1) I I') : q_hi I I' L L := fun x y hx => ⟨hg x y (fun h => by
  rcases h with h | h | ⟨i, h1, h2⟩
  · unfold FT at h
    omega
  · omega
  · omega), rfl⟩
def fndL (σ : St) (x : Int32) (k : Nat) : Int64 × St := (x.toInt64, zF σ k)
def op_turn (σ : St) (x : Int32) : Int32 × St := if 0 ≤ x ∧ x ≤ nI (dC σ.1) - 1 then (σ.1.2.1 x.toNatClampNeg, σ) else fnd σ (-1000000001) 0
theorem k_N_turn {x : Int32} (hC : RepC I L σ) (hW : WFs σ) (hk : CK K I L (op_turn σ x)) : WW G (d + 2) mt_N_turn 0 [some (.ref 0), some (.int x)] [] SH RF I L 0 0 0 0 K := by
  unfold op_turn at hk
  have hcnt := hC.cnt hW
  have hc8 := hW.1.1.1
  refine r_ald0 f_N_turn_0 ?_
  refine r_gr f_N_turn_1 (s_0) (r_0_0) ?_
  refine r_ild1 f_N_turn_4 ?_
  refine c_D_hasFarm f_N_turn_5 (sD q_D1) (Nat.le_of_ble_eq_true rfl) (Nat.le_refl _) (Nat.le_refl _) ?_
  refine p_D_hasFarm q_D1 hcnt hc8 (fun hx u hu eu => ?_) (fun hx => ?_)
  · rw [if_pos hx] at hk
    subst eu
    rw [nI_clamp (by omega)] at hk
    refine r_if_ne f_N_turn_8 (fun _ => ?_) (fun h => absurd h (by decide))
    refine r_ald0 f_N_turn_18 ?_
    refine r_gr f_N_turn_19 (s_0) (r_0_0) ?_
    refine r_gr f_N_turn_22 (sD q_D1) (rD1 q_D1) ?_
    refine r_ild1 f_N_turn_25 ?_
    refine r_iald f_N_turn_26 (sD2 q_D1) (q_ix.nI (by omega) (by decide)) ?_
    rw [show I (1 + 2) u = σ.1.2.1 u from (PD.rf hC.1).o (by omega)]
    refine r_iret f_N_turn_27 ⟨_, rfl, rfl⟩ (Nat.le_refl _) (Nat.le_refl _) ?_
    exact hk _ _ hC q_hi.rf
  · rw [if_neg hx] at hk
    refine r_if_ne f_N_turn_8 (fun h => absurd h (by decide)) (fun _ => ?_)
    refine r_ald0 f_N_turn_11 ?_
    refine r_ic f_N_turn_12 ?_
    refine c_N_finding f_N_turn_14 (s_0) (Nat.le_of_ble_eq_true rfl) (Nat.le_refl _) (Nat.le_refl _) ?_
    refine k_N_finding (k := 0) (by decide) (by decide) hC (fun I9 hC9 hi9 => ?_)
    refine r_iret f_N_turn_17 ⟨_, rfl, rfl⟩ (Nat.le_refl _) (Nat.le_refl _) ?_
    exact hk _ _ hC9 hi9
def op_swap (σ : St) (x y : Int32) : Int32 × St := if 0 ≤ x ∧ x ≤ nI (dC σ.1) - 1 then if 0 ≤ y ∧ y ≤ nI (dC σ.1) - 1 then ((eO (eO σ.1 x.toNatClampNeg (σ.1.2.1 y.toNatClampNeg)) y.toNatClampNeg (σ.1.2.1 x.toNatClampNeg)).2.1 x.toNatClampNeg, zN σ (eO (eO σ.1 x.toNatClampNeg (σ.1.2.1 y.toNatClampNeg)) y.toNatClampNeg (σ.1.2.1 x.toNatClampNeg))) else fnd σ (-1000000001) 0 else fnd σ (-1000000001) 0
theorem k_N_swap {x y : Int32} (hC : RepC I L σ) (hW : WFs σ) (hk : CK K I L (op_swap σ x y)) : WW G (d + 2) mt_N_swap 0 [some (.ref 0), some (.int x), some (.int y), none] [] SH RF I L 0 0 0 0 K := by
  unfold op_swap at hk
  have hcnt := hC.cnt hW
  have hc8 := hW.1.1.1
  refine r_ald0 f_N_swap_0 ?_
  refine r_gr f_N_swap_1 (s_0) (r_0_0) ?_
  refine r_ild1 f_N_swap_4 ?_
  refine c_D_hasFarm f_N_swap_5 (sD q_D1) (Nat.le_of_ble_eq_true rfl) (Nat.le_refl _) (Nat.le_refl _) ?_
  refine p_D_hasFarm q_D1 hcnt hc8 (fun hx u hu eu => ?_) (fun hx => ?_)
  · rw [if_pos hx] at hk
    subst eu
    rw [nI_clamp (by omega)] at hk
    refine r_if_eq f_N_swap_8 (fun h => absurd h (by decide)) (fun _ => ?_)
    refine r_ald0 f_N_swap_11 ?_
    refine r_gr f_N_swap_12 (s_0) (r_0_0) ?_
    refine r_ild2 f_N_swap_15 ?_
    refine c_D_hasFarm f_N_swap_16 (sD q_D1) (Nat.le_of_ble_eq_true rfl) (Nat.le_refl _) (Nat.le_refl _) ?_
    refine p_D_hasFarm q_D1 hcnt hc8 (fun hy t ht et => ?_) (fun hy => ?_)
    · rw [if_pos hy] at hk
      subst et
      rw [nI_clamp (by omega)] at hk
      refine r_if_ne f_N_swap_19 (fun _ => ?_) (fun h => absurd h (by decide))
      refine r_ald0 f_N_swap_29 ?_
      refine r_gr f_N_swap_30 (s_0) (r_0_0) ?_
      refine r_gr f_N_swap_33 (sD q_D1) (rD1 q_D1) ?_
      refine r_ild1 f_N_swap_36 ?_
      refine r_iald f_N_swap_37 (sD2 q_D1) (q_ix.nI (by omega) (by decide)) ?_
      rw [show I (1 + 2) u = σ.1.2.1 u from (PD.rf hC.1).o (by omega)]
      refine r_ist3 f_N_swap_38 rfl ?_
      refine r_ald0 f_N_swap_39 ?_
      refine r_gr f_N_swap_40 (s_0) (r_0_0) ?_
      refine r_gr f_N_swap_43 (sD q_D1) (rD1 q_D1) ?_
      refine r_ild1 f_N_swap_46 ?_
      refine r_ald0 f_N_swap_47 ?_
      refine r_gr f_N_swap_48 (s_0) (r_0_0) ?_
      refine r_gr f_N_swap_51 (sD q_D1) (rD1 q_D1) ?_
      refine r_ild2 f_N_swap_54 ?_
      refine r_iald f_N_swap_55 (sD2 q_D1) (q_ix.nI (by omega) (by decide)) ?_
      rw [show I (1 + 2) t = σ.1.2.1 t from (PD.rf hC.1).o (by omega)]
      refine r_pO f_N_swap_56 q_D1 (q_ix.nI (by omega) (by decide)) (PD.rf hC.1) (fun I8 hP8 => ?_)
      refine r_ald0 f_N_swap_57 ?_
      refine r_gr f_N_swap_58 (s_0) (r_0_0) ?_
      refine r_gr f_N_swap_61 (sD q_D1) (rD1 q_D1) ?_
      refine r_ild2 f_N_swap_64 ?_
      refine r_ild3 f_N_swap_65 ?_
      refine r_pO f_N_swap_66 q_D1 (q_ix.nI (by omega) (by decide)) hP8 (fun I9 hP9 => ?_)
      refine r_ald0 f_N_swap_67 ?_
      refine r_gr f_N_swap_68 (s_0) (r_0_0) ?_
      refine r_gr f_N_swap_71 (sD q_D1) (rD1 q_D1) ?_
      refine r_ild1 f_N_swap_74 ?_
      refine r_iald f_N_swap_75 (sD2 q_D1) (q_ix.nI (by omega) (by decide)) ?_
      rw [show I9 (1 + 2) u = _ from hP9.o (by omega)]
      refine r_iret f_N_swap_76 ⟨_, rfl, rfl⟩ (Nat.le_refl _) (Nat.le_refl _) ?_
      exact hk _ _ (hC.ofPD hP9) hP9.hi
    · rw [if_neg hy] at hk
      refine r_if_ne f_N_swap_19 (fun h => absurd h (by decide)) (fun _ => ?_)
      refine r_ald0 f_N_swap_22 ?_
      refine r_ic f_N_swap_23 ?_
      refine c_N_finding f_N_swap_25 (s_0) (Nat.le_of_ble_eq_true rfl) (Nat.le_refl _) (Nat.le_refl _) ?_
      refine k_N_finding (k := 0) (by decide) (by decide) hC (fun I9 hC9 hi9 => ?_)
      refine r_iret f_N_swap_28 ⟨_, rfl, rfl⟩ (Nat.le_refl _) (Nat.le_refl _) ?_
      exact hk _ _ hC9 hi9
  · rw [if_neg hx] at hk
    refine r_if_eq f_N_swap_8 (fun _ => ?_) (fun h => absurd h (by decide))
    refine r_ald0 f_N_swap_22 ?_
    refine r_ic f_N_swap_23 ?_
    refine c_N_finding f_N_swap_25 (s_0) (Nat.le_of_ble_eq_true rfl) (Nat.le_refl _) (Nat.le_refl _) ?_
    refine k_N_finding (k := 0) (by decide) (by decide) hC (fun I9 hC9 hi9 => ?_)
    refine r_iret f_N_swap_28 ⟨_, rfl, rfl⟩ (Nat.le_refl _) (Nat.le_refl _) ?_
    exact hk _ _ hC9 hi9
def op_turns (σ : St) (x : Int32) : Int32 × St := if x < 0 then fnd σ (-1000000001) 0 else if x < (1 : Int32) <<< (3 * nI (dC σ.1) &&& 31) then if sp_met (dC σ.1) x (dC σ.1) = (1 : Int32) <<< (nI (dC σ.1) &&& 31) - 1 then (1, zN σ (sp_po σ.1 x (dC σ.1))) else fnd σ (-1000000003) 2 else fnd σ (-1000000001) 0
theorem k_N_turns {x : Int32} (hC : RepC I L σ) (hW : WFs σ) (hk : CK K I L (op_turns σ x)) : WW G (d + 3) mt_N_turns 0 [some (.ref 0), some (.int x)] [] SH RF I L 0 0 0 0 K := by
  unfold op_turns at hk
  have hcnt := hC.cnt hW
  have hc8 := hW.1.1.1
  refine r_ild1 f_N_turns_0 ?_
  refine r_if_lt f_N_turns_1 (fun h1 => ?_) (fun h1 => ?_)
  · refine r_ald0 f_N_turns_19 ?_
    refine r_ic f_N_turns_20 ?_
    first | rw [if_pos h1] at hk | rw [if_neg h16] at hk
    refine c_N_finding f_N_turns_22 (s_0) (Nat.le_of_ble_eq_true rfl) (Nat.le_refl _) (Nat.le_refl _) ?_
    refine k_N_finding (k := 0) (by decide) (by decide) hC (fun I9 hC9 hi9 => ?_)
    refine r_iret f_N_turns_25 ⟨_, rfl, rfl⟩ (Nat.le_refl _) (Nat.le_refl _) ?_
    exact hk _ _ hC9 hi9
  · rw [if_neg h1] at hk
    refine r_ild1 f_N_turns_4 ?_
    refine r_ic f_N_turns_5 ?_
    refine r_ic f_N_turns_6 ?_
    refine r_ald0 f_N_turns_7 ?_
    refine r_gr f_N_turns_8 (s_0) (r_0_0) ?_
    refine r_gi f_N_turns_11 (sD q_D1) ?_
    rw [hcnt]
    refine r_imul f_N_turns_14 ?_
    refine r_ishl f_N_turns_15 ?_
    refine r_ic_lt f_N_turns_16 (fun h16 => ?_) (fun h16 => ?_)
    · rw [if_pos h16] at hk
      refine r_ald0 f_N_turns_26 ?_
      refine r_gr f_N_turns_27 (s_0) (r_0_0) ?_
      refine r_ild1 f_N_turns_30 ?_
      refine c_D_isOrder f_N_turns_31 (sD q_D1) (Nat.le_of_ble_eq_true rfl) (Nat.le_refl _) (Nat.le_refl _) ?_
      refine k_D_isOrder q_D1 hcnt hc8 (fun ho => ?_) (fun ho => ?_)
      · rw [if_pos ho] at hk
        refine r_if_ne f_N_turns_34 (fun _ => ?_) (fun h => absurd h (by decide))
        refine r_ald0 f_N_turns_44 ?_
        refine r_gr f_N_turns_45 (s_0) (r_0_0) ?_
        refine r_ild1 f_N_turns_48 ?_
        refine c_D_putOrder f_N_turns_49 (sD q_D1) (Nat.le_of_ble_eq_true rfl) (Nat.le_refl _) (Nat.le_refl _) ?_
        refine k_D_putOrder q_D1 hW.1 (PD.rf hC.1) (fun I9 hP9 => ?_)
        refine r_ic f_N_turns_52 ?_
        refine r_iret f_N_turns_53 ⟨_, rfl, rfl⟩ (Nat.le_refl _) (Nat.le_refl _) ?_
        exact hk _ _ (hC.ofPD hP9) hP9.hi
      · rw [if_neg ho] at hk
        refine r_if_ne f_N_turns_34 (fun h => absurd h (by decide)) (fun _ => ?_)
        refine r_ald0 f_N_turns_37 ?_
        refine r_ic f_N_turns_38 ?_
        refine c_N_finding f_N_turns_40 (s_0) (Nat.le_of_ble_eq_true rfl) (Nat.le_refl _) (Nat.le_refl _) ?_
        refine k_N_finding (k := 2) (by decide) (by decide) hC (fun I9 hC9 hi9 => ?_)
        refine r_iret f_N_turns_43 ⟨_, rfl, rfl⟩ (Nat.le_refl _) (Nat.le_refl _) ?_
        exact hk _ _ hC9 hi9
    · refine r_ald0 f_N_turns_19 ?_
      refine r_ic f_N_turns_20 ?_
      first | rw [if_pos h1] at hk | rw [if_neg h16] at hk
      refine c_N_finding f_N_turns_22 (s_0) (Nat.le_of_ble_eq_true rfl) (Nat.le_refl _) (Nat.le_refl _) ?_
      refine k_N_finding (k := 0) (by decide) (by decide) hC (fun I9 hC9 hi9 => ?_)
      refine r_iret f_N_turns_25 ⟨_, rfl, rfl⟩ (Nat.le_refl _) (Nat.le_refl _) ?_
      exact hk _ _ hC9 hi9
def op_told (σ : St) : Int32 × St := if dC σ.1 = 0 then fnd σ (-1000000004) 3 else (sp_num σ.1 (dC σ.1), σ)
theorem k_N_told (hC : RepC I L σ) (hW : WFs σ) (hk : CK K I L (op_told σ)) : WW G (d + 2) mt_N_told 0 [some (.ref 0)] [] SH RF I L 0 0 0 0 K := by
  unfold op_told at hk
  have hcnt := hC.cnt hW
  have hc8 := hW.1.1.1
  refine r_ald0 f_N_told_0 ?_
  refine r_gr f_N_told_1 (s_0) (r_0_0) ?_
  refine r_gi f_N_told_4 (sD q_D1) ?_
  rw [hcnt]
  refine r_if_ne f_N_told_7 (fun h7 => ?_) (fun h7 => ?_)
  · rw [if_neg (fun q => h7 (by rw [q]; rfl))] at hk
    refine r_ald0 f_N_told_17 ?_
    refine r_gr f_N_told_18 (s_0) (r_0_0) ?_
    refine c_D_orderNumber f_N_told_21 (sD q_D1) (Nat.le_of_ble_eq_true rfl) (Nat.le_refl _) (Nat.le_refl _) ?_
    refine k_D_orderNumber q_D1 hC.1 hW.1 ?_
    refine r_iret f_N_told_24 ⟨_, rfl, rfl⟩ (Nat.le_refl _) (Nat.le_refl _) ?_
    exact hk _ _ hC q_hi.rf
  · rw [if_pos ((nI_eq (b := 0) (by omega) (by decide)).mp h7)] at hk
    refine r_ald0 f_N_told_10 ?_
    refine r_ic f_N_told_11 ?_
    refine c_N_finding f_N_told_13 (s_0) (Nat.le_of_ble_eq_true rfl) (Nat.le_refl _) (Nat.le_refl _) ?_
    refine k_N_finding (k := 3) (by decide) (by decide) hC (fun I9 hC9 hi9 => ?_)
    refine r_iret f_N_told_16 ⟨_, rfl, rfl⟩ (Nat.le_refl _) (Nat.le_refl _) ?_
    exact hk _ _ hC9 hi9
def op_share (σ : St) (x : Int32) : Int32 × St := if 0 ≤ x ∧ x ≤ nI (dC σ.1) - 1 then (if sp_hsum σ.1 (dC σ.1) = 0 then 0 else σ.1.1 x.toNatClampNeg 1 * 100 / sp_hsum σ.1 (dC σ.1), σ) else fnd σ (-1000000001) 0
theorem k_N_share {x : Int32} (hC : RepC I L σ) (hW : WFs σ) (hk : CK K I L (op_share σ x)) : WW G (d + 2) mt_N_share 0 [some (.ref 0), some (.int x), none] [] SH RF I L 0 0 0 0 K := by
  unfold op_share at hk
  have hcnt := hC.cnt hW
  have hc8 := hW.1.1.1
  refine r_ald0 f_N_share_0 ?_
  refine r_gr f_N_share_1 (s_0) (r_0_0) ?_
  refine r_ild1 f_N_share_4 ?_
  refine c_D_hasFarm f_N_share_5 (sD q_D1) (Nat.le_of_ble_eq_true rfl) (Nat.le_refl _) (Nat.le_refl _) ?_
  refine p_D_hasFarm q_D1 hcnt hc8 (fun hx u hu eu => ?_) (fun hx => ?_)
  · rw [if_pos hx] at hk
    subst eu
    rw [nI_clamp (by omega)] at hk
    refine r_if_ne f_N_share_8 (fun _ => ?_) (fun h => absurd h (by decide))
    refine r_ald0 f_N_share_18 ?_
    refine r_gr f_N_share_19 (s_0) (r_0_0) ?_
    refine c_D_allHours f_N_share_22 (sD q_D1) (Nat.le_of_ble_eq_true rfl) (Nat.le_refl _) (Nat.le_refl _) ?_
    refine k_D_allHours q_D1 hC.1.1 hcnt hc8 ?_
    refine r_ist2 f_N_share_25 rfl ?_
    refine r_ild2 f_N_share_26 ?_
    refine r_if_ne f_N_share_27 (fun h27 => ?_) (fun h27 => ?_)
    · rw [if_neg h27] at hk
      refine r_ald0 f_N_share_34 ?_
      refine r_gr f_N_share_35 (s_0) (r_0_0) ?_
      refine r_gr f_N_share_38 (sD q_D1) (rD0 q_D1) ?_
      refine r_ild1 f_N_share_41 ?_
      refine r_aald f_N_share_42 (Or.inl rfl) (sD1 q_D1) (q_ix.nI (by omega) (by decide)) (rDF q_D1 (by omega)) ?_
      refine r_gi f_N_share_43 (sDF q_D1 (by omega)) ?_
      rw [hC.1.fr (f := u) (k := 1) (by omega) (by decide)]
      refine r_ic f_N_share_46 ?_
      refine r_imul f_N_share_48 ?_
      refine r_ild2 f_N_share_49 ?_
      refine r_idiv f_N_share_50 h27 ?_
      refine r_iret f_N_share_51 ⟨_, rfl, rfl⟩ (Nat.le_refl _) (Nat.le_refl _) ?_
      exact hk _ _ hC q_hi.rf
    · rw [if_pos h27] at hk
      refine r_ic f_N_share_30 ?_
      refine r_goto f_N_share_31 ?_
      refine r_iret f_N_share_51 ⟨_, rfl, rfl⟩ (Nat.le_refl _) (Nat.le_refl _) ?_
      exact hk _ _ hC q_hi.rf
  · rw [if_neg hx] at hk
    refine r_if_ne f_N_share_8 (fun h => absurd h (by decide)) (fun _ => ?_)
    refine r_ald0 f_N_share_11 ?_
    refine r_ic f_N_share_12 ?_
    refine c_N_finding f_N_share_14 (s_0) (Nat.le_of_ble_eq_true rfl) (Nat.le_refl _) (Nat.le_refl _) ?_
    refine k_N_finding (k := 0) (by decide) (by decide) hC (fun I9 hC9 hi9 => ?_)
    refine r_iret f_N_share_17 ⟨_, rfl, rfl⟩ (Nat.le_refl _) (Nat.le_refl _) ?_
    exact hk _ _ hC9 hi9
def op_lost (σ : St) (x : Int32) : Int64 × St := if -1 ≤ x ∧ x ≤ nI (sp_mc (dC σ.1)) - 1 then if 0 ≤ x then (sp_lm σ.1 x.toNatClampNeg, σ) else (sp_lost σ.1, σ) else fndL σ (-1000000001) 0
theorem k_N_lost {x : Int32} (hC : RepC I L σ) (hW : WFs σ) (hk : CKl K I L (op_lost σ x)) : WW G (d + 5) mt_N_lost 0 [some (.ref 0), some (.int x)] [] SH RF I L 0 0 0 0 K := by
  unfold op_lost at hk
  have hcnt := hC.cnt hW
  have hc8 := hW.1.1.1
  have hmc := sp_mc_le (dC σ.1)
  refine r_ild1 f_N_lost_0 ?_
  refine r_ic f_N_lost_1 ?_
  refine r_ald0 f_N_lost_2 ?_
  refine r_gr f_N_lost_3 (s_0) (r_0_0) ?_
  refine c_D_meetCount f_N_lost_6 (sD q_D1) (Nat.le_of_ble_eq_true rfl) (Nat.le_refl _) (Nat.le_refl _) ?_
  refine k_D_meetCount q_D1 hcnt hc8 ?_
  refine r_ic f_N_lost_9 ?_
  refine r_isub f_N_lost_10 ?_
  refine c_N_isWithin f_N_lost_11 (Nat.le_of_ble_eq_true rfl) (Nat.le_refl _) (Nat.le_refl _) ?_
  refine k_N_isWithin (fun hxa hxb => ?_) (fun hx => ?_)
  · rw [if_pos ⟨hxa, hxb⟩] at hk
    refine r_if_ne f_N_lost_14 (fun _ => ?_) (fun h => absurd h (by decide))
    refine r_ald0 f_N_lost_25 ?_
    refine r_gr f_N_lost_26 (s_0) (r_0_0) ?_
    refine c_D_weigh f_N_lost_29 (sD q_D1) (Nat.le_of_ble_eq_true rfl) (Nat.le_refl _) (Nat.le_refl _) ?_
    refine k_D_weigh q_D1 hC.1 hW.1 (fun I9 g9 m9 => ?_)
    have hR9 := hC.1.agW q_D1 g9
    refine r_ild1 f_N_lost_32 ?_
    refine r_if_ge f_N_lost_33 (fun h33 => ?_) (fun h33 => ?_)
    · rw [if_pos h33] at hk
      obtain ⟨u, hu, eu⟩ := q_inC (c := sp_mc (dC σ.1)) (by omega) h33 hxb
      subst eu
      refine r_ald0 f_N_lost_46 ?_
      refine r_gr f_N_lost_47 (s_0) (r_0_0) ?_
      refine r_gr f_N_lost_50 (sD q_D1) (rD10 q_D1) ?_
      refine r_ild1 f_N_lost_53 ?_
      refine r_aald f_N_lost_54 (Or.inr (Or.inl rfl)) (sD7 q_D1) (q_ix.nI (by omega) (by decide)) (rDM q_D1 (by omega)) ?_
      refine r_ald0 f_N_lost_55 ?_
      refine r_gr f_N_lost_56 (s_0) (r_0_0) ?_
      refine r_gr f_N_lost_59 (sD q_D1) (rD2 q_D1) ?_
      refine r_ic f_N_lost_62 ?_
      refine r_iald f_N_lost_63 (sD3 q_D1) (show q_ix 2 2 5 from ⟨by decide, by decide⟩) ?_
      refine c_M_loses f_N_lost_64 (sDM q_D1 (by omega)) (Nat.le_of_ble_eq_true rfl) (Nat.le_refl _) (Nat.le_refl _) ?_
      rw [show I9 (1 + 3) 2 = σ.1.2.2.1 2 from (PD.rf hR9).u (by decide)]
      refine k_M_loses (sDM q_D1 (by omega)) ?_
      rw [m9 u 11 hu (by decide), m9 u 12 hu (by decide), m9 u 6 hu (by decide), m9 u 5 hu (by decide)]
      rw [nI_clamp (by omega)] at hk
      refine r_lret f_N_lost_67 rfl (Nat.le_refl _) (Nat.le_refl _) ?_
      exact hk _ _ (hC.ofW g9) (q_hi.ofW g9)
    · refine r_ald0 f_N_lost_36 ?_
      refine r_gr f_N_lost_37 (s_0) (r_0_0) ?_
      refine c_D_loses f_N_lost_40 (sD q_D1) (Nat.le_of_ble_eq_true rfl) (Nat.le_refl _) (Nat.le_refl _) ?_
      rw [if_neg h33] at hk
      refine k_D_loses q_D1 hR9 hW.1 m9 ?_
      refine r_goto f_N_lost_43 ?_
      refine r_lret f_N_lost_67 rfl (Nat.le_refl _) (Nat.le_refl _) ?_
      exact hk _ _ (hC.ofW g9) (q_hi.ofW g9)
  · rw [if_neg hx] at hk
    refine r_if_ne f_N_lost_14 (fun h => absurd h (by decide)) (fun _ => ?_)
    refine r_ald0 f_N_lost_17 ?_
    refine r_ic f_N_lost_18 ?_
    refine c_N_finding f_N_lost_20 (s_0) (Nat.le_of_ble_eq_true rfl) (Nat.le_refl _) (Nat.le_refl _) ?_
    refine k_N_finding (k := 0) (by decide) (by decide) hC (fun I9 hC9 hi9 => ?_)
    refine r_i2l f_N_lost_23 ?_
    refine r_lret f_N_lost_24 rfl (Nat.le_refl _) (Nat.le_refl _) ?_
    exact hk _ _ hC9 hi9
def op_gives (σ : St) (x : Int32) : Int32 × St := if 0 ≤ x ∧ x ≤ nI (dC σ.1) - 1 then (sp_gives σ.1 x.toNatClampNeg (sp_place σ.1 x.toNatClampNeg), σ) else fnd σ (-1000000001) 0
theorem k_N_gives {x : Int32} (hC : RepC I L σ) (hW : WFs σ) (hk : CK K I L (op_gives σ x)) : WW G (d + 3) mt_N_gives 0 [some (.ref 0), some (.int x)] [] SH RF I L 0 0 0 0 K := by
  unfold op_gives at hk
  have hcnt := hC.cnt hW
  have hc8 := hW.1.1.1
  refine r_ald0 f_N_gives_0 ?_
  refine r_gr f_N_gives_1 (s_0) (r_0_0) ?_
  refine r_ild1 f_N_gives_4 ?_
  refine c_D_hasFarm f_N_gives_5 (sD q_D1) (Nat.le_of_ble_eq_true rfl) (Nat.le_refl _) (Nat.le_refl _) ?_
  refine p_D_hasFarm q_D1 hcnt hc8 (fun hx u hu eu => ?_) (fun hx => ?_)
  · rw [if_pos hx] at hk
    subst eu
    rw [nI_clamp (by omega)] at hk
    refine r_if_ne f_N_gives_8 (fun _ => ?_) (fun h => absurd h (by decide))
    refine r_ald0 f_N_gives_18 ?_
    refine r_gr f_N_gives_19 (s_0) (r_0_0) ?_
    refine r_gr f_N_gives_22 (sD q_D1) (rD3 q_D1) ?_
    refine r_ald0 f_N_gives_25 ?_
    refine r_gr f_N_gives_26 (s_0) (r_0_0) ?_
    refine r_ild1 f_N_gives_29 ?_
    refine r_ald0 f_N_gives_30 ?_
    refine r_gr f_N_gives_31 (s_0) (r_0_0) ?_
    refine r_ild1 f_N_gives_34 ?_
    refine c_D_placeOf f_N_gives_35 (sD q_D1) (Nat.le_of_ble_eq_true rfl) (Nat.le_refl _) (Nat.le_refl _) ?_
    refine k_D_placeOf q_D1 (by omega) hC.1.1 hW.1 hcnt ?_
    refine c_T_valueFor f_N_gives_38 (sT (q_TD q_D1)) (Nat.le_of_ble_eq_true rfl) (Nat.le_refl _) (Nat.le_refl _) ?_
    refine k_T_valueFor (b := 1) q_D1 (by omega) hC.1 hW.1.2.2.2.2.2.2.2 (fun I9 g9 => ?_)
    refine r_iret f_N_gives_41 ⟨_, rfl, rfl⟩ (Nat.le_refl _) (Nat.le_refl _) ?_
    exact hk _ _ (hC.ofT g9) (q_hi.ofT g9)
  · rw [if_neg hx] at hk
    refine r_if_ne f_N_gives_8 (fun h => absurd h (by decide)) (fun _ => ?_)
    refine r_ald0 f_N_gives_11 ?_
    refine r_ic f_N_gives_12 ?_
    refine c_N_finding f_N_gives_14 (s_0) (Nat.le_of_ble_eq_true rfl) (Nat.le_refl _) (Nat.le_refl _) ?_
    refine k_N_finding (k := 0) (by decide) (by decide) hC (fun I9 hC9 hi9 => ?_)
    refine r_iret f_N_gives_17 ⟨_, rfl, rfl⟩ (Nat.le_refl _) (Nat.le_refl _) ?_
    exact hk _ _ hC9 hi9
def op_seed (σ : St) (v : Int32) : Int32 × St := (σ.1.2.2.2.1 2, zN σ (eS σ.1 2 v))
theorem k_N_seed {v : Int32} (hC : RepC I L σ) (hW : WFs σ) (hk : CK K I L (op_seed σ v)) : WW G d mt_N_seed 0 [some (.ref 0), some (.int v), none] [] SH RF I L 0 0 0 0 K := by
  unfold op_seed at hk
  have hcnt := hC.cnt hW
  have hc8 := hW.1.1.1
  refine r_ald0 f_N_seed_0 ?_
  refine r_gr f_N_seed_1 (s_0) (r_0_0) ?_
  refine r_gi f_N_seed_4 (sD q_D1) ?_
  rw [show I 1 7 = σ.1.2.2.2.1 2 from (PD.rf hC.1).s (k := 2) (by decide)]
  refine r_ist2 f_N_seed_7 rfl ?_
  refine r_ald0 f_N_seed_8 ?_
  refine r_gr f_N_seed_9 (s_0) (r_0_0) ?_
  refine r_ild1 f_N_seed_12 ?_
  refine r_pS f_N_seed_13 q_D1 (k := 2) (by decide) rfl (PD.rf hC.1) (fun I9 hP9 => ?_)
  refine r_ild2 f_N_seed_16 ?_
  refine r_iret f_N_seed_17 ⟨_, rfl, rfl⟩ (Nat.le_refl _) (Nat.le_refl _) ?_
  exact hk _ _ (hC.ofPD hP9) hP9.hi
def op_nights (σ : St) (x : Int32) : Int32 × St := if 1 ≤ x ∧ x ≤ 50 then ((sp_nights x.toNatClampNeg σ.1).2.2.2.1 3 - σ.1.2.2.2.1 3, zN σ (sp_nights x.toNatClampNeg σ.1)) else fnd σ (-1000000001) 0
theorem k_N_nights {x : Int32} (hC : RepC I L σ) (hW : WFs σ) (hk : CK K I L (op_nights σ x)) : WW G (d + 6) mt_N_nights 0 [some (.ref 0), some (.int x), none] [] SH RF I L 0 0 0 0 K := by
  unfold op_nights at hk
  have hcnt := hC.cnt hW
  have hc8 := hW.1.1.1
  refine r_ild1 f_N_nights_0 ?_
  refine r_ic f_N_nights_1 ?_
  refine r_ic f_N_nights_2 ?_
  refine c_N_isWithin f_N_nights_4 (Nat.le_of_ble_eq_true rfl) (Nat.le_refl _) (Nat.le_refl _) ?_
  refine k_N_isWithin (fun hxa hxb => ?_) (fun hx => ?_)
  · rw [if_pos ⟨hxa, hxb⟩] at hk
    obtain ⟨n, hn, en⟩ := q_inC (c := 51) (by omega) (Int32.le_trans (by decide) hxa) hxb
    subst en
    rw [nI_clamp (by omega)] at hk
    refine r_if_ne f_N_nights_7 (fun _ => ?_) (fun h => absurd h (by decide))
    refine r_ald0 f_N_nights_17 ?_
    refine r_gr f_N_nights_18 (s_0) (r_0_0) ?_
    refine r_gi f_N_nights_21 (sD q_D1) ?_
    rw [show I 1 8 = σ.1.2.2.2.1 3 from (PD.rf hC.1).s (k := 3) (by decide)]
    refine r_ist2 f_N_nights_24 rfl ?_
    refine r_ald0 f_N_nights_25 ?_
    refine r_gr f_N_nights_26 (s_0) (r_0_0) ?_
    refine r_ild1 f_N_nights_29 ?_
    refine c_D_passNights f_N_nights_30 (sD q_D1) (Nat.le_of_ble_eq_true rfl) (Nat.le_refl _) (Nat.le_refl _) ?_
    refine k_D_passNights q_D1 (by omega) hW.1 (PD.rf hC.1) (fun I9 Me9 hP9 => ?_)
    refine r_ald0 f_N_nights_33 ?_
    refine r_gr f_N_nights_34 (s_0) (r_0_0) ?_
    refine r_gi f_N_nights_37 (sD q_D1) ?_
    rw [show I9 1 8 = _ from hP9.s (k := 3) (by decide)]
    refine r_ild2 f_N_nights_40 ?_
    refine r_isub f_N_nights_41 ?_
    refine r_iret f_N_nights_42 ⟨_, rfl, rfl⟩ (Nat.le_refl _) (Nat.le_refl _) ?_
    exact hk _ _ (hC.ofPD hP9) hP9.hi
  · rw [if_neg hx] at hk
    refine r_if_ne f_N_nights_7 (fun h => absurd h (by decide)) (fun _ => ?_)
    refine r_ald0 f_N_nights_10 ?_
    refine r_ic f_N_nights_11 ?_
    refine c_N_finding f_N_nights_13 (s_0) (Nat.le_of_ble_eq_true rfl) (Nat.le_refl _) (Nat.le_refl _) ?_
    refine k_N_finding (k := 0) (by decide) (by decide) hC (fun I9 hC9 hi9 => ?_)
    refine r_iret f_N_nights_16 ⟨_, rfl, rfl⟩ (Nat.le_refl _) (Nat.le_refl _) ?_
    exact hk _ _ hC9 hi9
def op_purse (σ : St) (w : Int32) : Int32 × St := if 0 ≤ w ∧ w ≤ 1 then if dC σ.1 = 0 then fnd σ (-1000000004) 3 else if w = 0 then (nI (sp_rich σ.1 (dC σ.1)), σ) else (nI (sp_poor σ.1 (dC σ.1)), σ) else fnd σ (-1000000001) 0
theorem k_N_purse {w : Int32} (hC : RepC I L σ) (hW : WFs σ) (hk : CK K I L (op_purse σ w)) : WW G (d + 2) mt_N_purse 0 [some (.ref 0), some (.int w)] [] SH RF I L 0 0 0 0 K := by
  unfold op_purse at hk
  have hcnt := hC.cnt hW
  have hc8 := hW.1.1.1
  refine r_ild1 f_N_purse_0 ?_
  refine r_ic f_N_purse_1 ?_
  refine r_ic f_N_purse_2 ?_
  refine c_N_isWithin f_N_purse_3 (Nat.le_of_ble_eq_true rfl) (Nat.le_refl _) (Nat.le_refl _) ?_
  refine k_N_isWithin (fun hwa hwb => ?_) (fun hw => ?_)
  · rw [if_pos ⟨hwa, hwb⟩] at hk
    refine r_if_ne f_N_purse_6 (fun _ => ?_) (fun h => absurd h (by decide))
    refine r_ald0 f_N_purse_16 ?_
    refine r_gr f_N_purse_17 (s_0) (r_0_0) ?_
    refine r_gi f_N_purse_20 (sD q_D1) ?_
    rw [hcnt]
    refine r_if_ne f_N_purse_23 (fun h23 => ?_) (fun h23 => ?_)
    · have hc0 : ¬ dC σ.1 = 0 := fun q => h23 (by rw [q]; rfl)
      rw [if_neg hc0] at hk
      refine r_ild1 f_N_purse_33 ?_
      refine r_if_ne f_N_purse_34 (fun h34 => ?_) (fun h34 => ?_)
      · refine r_ald0 f_N_purse_47 ?_
        refine r_gr f_N_purse_48 (s_0) (r_0_0) ?_
        refine c_D_poorest f_N_purse_51 (sD q_D1) (Nat.le_of_ble_eq_true rfl) (Nat.le_refl _) (Nat.le_refl _) ?_
        rw [if_neg h34] at hk
        refine k_D_poorest q_D1 hC.1 hW.1 (by omega) ?_
        refine r_iret f_N_purse_54 ⟨_, rfl, rfl⟩ (Nat.le_refl _) (Nat.le_refl _) ?_
        exact hk _ _ hC q_hi.rf
      · refine r_ald0 f_N_purse_37 ?_
        refine r_gr f_N_purse_38 (s_0) (r_0_0) ?_
        refine c_D_richest f_N_purse_41 (sD q_D1) (Nat.le_of_ble_eq_true rfl) (Nat.le_refl _) (Nat.le_refl _) ?_
        rw [if_pos h34] at hk
        refine k_D_richest q_D1 hC.1 hW.1 (by omega) ?_
        refine r_goto f_N_purse_44 ?_
        refine r_iret f_N_purse_54 ⟨_, rfl, rfl⟩ (Nat.le_refl _) (Nat.le_refl _) ?_
        exact hk _ _ hC q_hi.rf
    · rw [if_pos ((nI_eq (b := 0) (by omega) (by decide)).mp h23)] at hk
      refine r_ald0 f_N_purse_26 ?_
      refine r_ic f_N_purse_27 ?_
      refine c_N_finding f_N_purse_29 (s_0) (Nat.le_of_ble_eq_true rfl) (Nat.le_refl _) (Nat.le_refl _) ?_
      refine k_N_finding (k := 3) (by decide) (by decide) hC (fun I9 hC9 hi9 => ?_)
      refine r_iret f_N_purse_32 ⟨_, rfl, rfl⟩ (Nat.le_refl _) (Nat.le_refl _) ?_
      exact hk _ _ hC9 hi9
  · rw [if_neg hw] at hk
    refine r_if_ne f_N_purse_6 (fun h => absurd h (by decide)) (fun _ => ?_)
    refine r_ald0 f_N_purse_9 ?_
    refine r_ic f_N_purse_10 ?_
    refine c_N_finding f_N_purse_12 (s_0) (Nat.le_of_ble_eq_true rfl) (Nat.le_refl _) (Nat.le_refl _) ?_
    refine k_N_finding (k := 0) (by decide) (by decide) hC (fun I9 hC9 hi9 => ?_)
    refine r_iret f_N_purse_15 ⟨_, rfl, rfl⟩ (Nat.le_refl _) (Nat.le_refl _) ?_
    exact hk _ _ hC9 hi9
end L33
