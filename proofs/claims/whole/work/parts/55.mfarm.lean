section L55
variable {G : Gx} {d : Nat} {I I' I2 : Rn} {L L' L2 : Rl} {K : Kt} {σ : St} {D : Dst}
theorem k_R_purse_hi {w : Int32} (hw : w = 0) (hW : WFd D) (hR : RR I 96 D) (hk : K (some (.int (nI (sp_rich D (dC D))))) SH RF I L) : ∀ (m f : Nat), m + f = dC D → 0 < f → WW G (d + 1) mt_R_purse 37 [some (.ref 95), some (.int 0), some (.int (nI (sp_rich D f))), some (.int (nI f)), none] [] SH RF I L 0 0 0 0 K
  | 0, f, h, h0 => by
    have ef : f = dC D := by omega
    subst ef
    refine r_ild3 f_R_purse_37 ?_
    refine r_ald0 f_R_purse_38 ?_
    refine r_gr f_R_purse_39 (s_95) (r_95_0) ?_
    refine r_ic f_R_purse_42 ?_
    refine r_iald f_R_purse_44 (s_96) (show q_ix 10 10 136 from ⟨by decide, by decide⟩) ?_
    rw [hR.cnt hW]
    refine r_ic_ge f_R_purse_45 (fun h45 => ?_) (fun h45 => absurd h45 (fun q => q (Int32.le_refl _)))
    refine r_ild2 f_R_purse_114 ?_
    refine r_iret f_R_purse_115 ⟨_, rfl, rfl⟩ (Nat.le_refl _) (Nat.le_refl _) ?_
    exact hk
  | m + 1, f, h, h0 => by
    have hc8 := hW.1.1
    have hs := sp_rich_lt D f h0
    refine r_ild3 f_R_purse_37 ?_
    refine r_ald0 f_R_purse_38 ?_
    refine r_gr f_R_purse_39 (s_95) (r_95_0) ?_
    refine r_ic f_R_purse_42 ?_
    refine r_iald f_R_purse_44 (s_96) (show q_ix 10 10 136 from ⟨by decide, by decide⟩) ?_
    rw [hR.cnt hW]
    refine r_ic_ge f_R_purse_45 (fun h45 => absurd h45 (nI_ge (by omega) (by omega))) (fun h45 => ?_)
    refine r_ild1 f_R_purse_48 ?_
    refine r_if_ne f_R_purse_49 (fun h => absurd h (by decide)) (fun _ => ?_)
    refine r_ald0 f_R_purse_52 ?_
    refine r_ild3 f_R_purse_53 ?_
    refine r_ic f_R_purse_54 ?_
    refine c_R_get f_R_purse_55 (s_95) (Nat.le_of_ble_eq_true rfl) (Nat.le_refl _) (Nat.le_refl _) ?_
    refine k_R_get (k := 5) (show f < 8 by omega) (by decide) hR ?_
    refine r_ald0 f_R_purse_58 ?_
    refine r_ild2 f_R_purse_59 ?_
    refine r_ic f_R_purse_60 ?_
    refine c_R_get f_R_purse_61 (s_95) (Nat.le_of_ble_eq_true rfl) (Nat.le_refl _) (Nat.le_refl _) ?_
    refine k_R_get (k := 5) (show sp_rich D f < 8 by omega) (by decide) hR ?_
    refine r_ic_le f_R_purse_64 (fun h64 => ?_) (fun h64 => ?_)
    · refine r_ic f_R_purse_71 ?_
      refine r_goto f_R_purse_72 ?_
      refine r_ist4 f_R_purse_95 rfl ?_
      refine r_ild4 f_R_purse_97 ?_
      refine r_if_eq f_R_purse_99 (fun _ => ?_) (fun h => absurd h (by decide))
      refine r_ild2 f_R_purse_106 ?_
      refine r_ist2 f_R_purse_107 rfl ?_
      refine r_inc3 f_R_purse_108 rfl ?_
      rw [nI_1]
      refine r_goto f_R_purse_111 ?_
      refine r_drop4 ?_
      have e9 := k_R_purse_hi hw hW hR hk m (f + 1) (by omega) (by omega)
      first
        | rw [show sp_rich D (f + 1) = f from if_pos (Int32.not_le.mp h64)] at e9
          exact e9
        | rw [show sp_rich D (f + 1) = sp_rich D f from if_neg (Int32.not_lt.mpr h64)] at e9
          exact e9
    · refine r_ic f_R_purse_67 ?_
      refine r_goto f_R_purse_68 ?_
      refine r_ist4 f_R_purse_95 rfl ?_
      refine r_ild4 f_R_purse_97 ?_
      refine r_if_eq f_R_purse_99 (fun h => absurd h (by decide)) (fun _ => ?_)
      refine r_ild3 f_R_purse_102 ?_
      refine r_goto f_R_purse_103 ?_
      refine r_ist2 f_R_purse_107 rfl ?_
      refine r_inc3 f_R_purse_108 rfl ?_
      rw [nI_1]
      refine r_goto f_R_purse_111 ?_
      refine r_drop4 ?_
      have e9 := k_R_purse_hi hw hW hR hk m (f + 1) (by omega) (by omega)
      first
        | rw [show sp_rich D (f + 1) = f from if_pos (Int32.not_le.mp h64)] at e9
          exact e9
        | rw [show sp_rich D (f + 1) = sp_rich D f from if_neg (Int32.not_lt.mpr h64)] at e9
          exact e9
theorem k_R_purse_lo {w : Int32} (hw : ¬ w = 0) (hW : WFd D) (hR : RR I 96 D) (hk : K (some (.int (nI (sp_poor D (dC D))))) SH RF I L) : ∀ (m f : Nat), m + f = dC D → 0 < f → WW G (d + 1) mt_R_purse 37 [some (.ref 95), some (.int w), some (.int (nI (sp_poor D f))), some (.int (nI f)), none] [] SH RF I L 0 0 0 0 K
  | 0, f, h, h0 => by
    have ef : f = dC D := by omega
    subst ef
    refine r_ild3 f_R_purse_37 ?_
    refine r_ald0 f_R_purse_38 ?_
    refine r_gr f_R_purse_39 (s_95) (r_95_0) ?_
    refine r_ic f_R_purse_42 ?_
    refine r_iald f_R_purse_44 (s_96) (show q_ix 10 10 136 from ⟨by decide, by decide⟩) ?_
    rw [hR.cnt hW]
    refine r_ic_ge f_R_purse_45 (fun h45 => ?_) (fun h45 => absurd h45 (fun q => q (Int32.le_refl _)))
    refine r_ild2 f_R_purse_114 ?_
    refine r_iret f_R_purse_115 ⟨_, rfl, rfl⟩ (Nat.le_refl _) (Nat.le_refl _) ?_
    exact hk
  | m + 1, f, h, h0 => by
    have hc8 := hW.1.1
    have hs := sp_poor_lt D f h0
    refine r_ild3 f_R_purse_37 ?_
    refine r_ald0 f_R_purse_38 ?_
    refine r_gr f_R_purse_39 (s_95) (r_95_0) ?_
    refine r_ic f_R_purse_42 ?_
    refine r_iald f_R_purse_44 (s_96) (show q_ix 10 10 136 from ⟨by decide, by decide⟩) ?_
    rw [hR.cnt hW]
    refine r_ic_ge f_R_purse_45 (fun h45 => absurd h45 (nI_ge (by omega) (by omega))) (fun h45 => ?_)
    refine r_ild1 f_R_purse_48 ?_
    refine r_if_ne f_R_purse_49 (fun h49 => ?_) (fun h49 => absurd h49 hw)
    refine r_ald0 f_R_purse_75 ?_
    refine r_ild3 f_R_purse_76 ?_
    refine r_ic f_R_purse_77 ?_
    refine c_R_get f_R_purse_78 (s_95) (Nat.le_of_ble_eq_true rfl) (Nat.le_refl _) (Nat.le_refl _) ?_
    refine k_R_get (k := 5) (show f < 8 by omega) (by decide) hR ?_
    refine r_ald0 f_R_purse_81 ?_
    refine r_ild2 f_R_purse_82 ?_
    refine r_ic f_R_purse_83 ?_
    refine c_R_get f_R_purse_84 (s_95) (Nat.le_of_ble_eq_true rfl) (Nat.le_refl _) (Nat.le_refl _) ?_
    refine k_R_get (k := 5) (show sp_poor D f < 8 by omega) (by decide) hR ?_
    refine r_ic_ge f_R_purse_87 (fun h87 => ?_) (fun h87 => ?_)
    · refine r_ic f_R_purse_94 ?_
      refine r_ist4 f_R_purse_95 rfl ?_
      refine r_ild4 f_R_purse_97 ?_
      refine r_if_eq f_R_purse_99 (fun _ => ?_) (fun h => absurd h (by decide))
      refine r_ild2 f_R_purse_106 ?_
      refine r_ist2 f_R_purse_107 rfl ?_
      refine r_inc3 f_R_purse_108 rfl ?_
      rw [nI_1]
      refine r_goto f_R_purse_111 ?_
      refine r_drop4 ?_
      have e9 := k_R_purse_lo hw hW hR hk m (f + 1) (by omega) (by omega)
      first
        | rw [show sp_poor D (f + 1) = f from if_pos (Int32.not_le.mp h87)] at e9
          exact e9
        | rw [show sp_poor D (f + 1) = sp_poor D f from if_neg (Int32.not_lt.mpr h87)] at e9
          exact e9
    · refine r_ic f_R_purse_90 ?_
      refine r_goto f_R_purse_91 ?_
      refine r_ist4 f_R_purse_95 rfl ?_
      refine r_ild4 f_R_purse_97 ?_
      refine r_if_eq f_R_purse_99 (fun h => absurd h (by decide)) (fun _ => ?_)
      refine r_ild3 f_R_purse_102 ?_
      refine r_goto f_R_purse_103 ?_
      refine r_ist2 f_R_purse_107 rfl ?_
      refine r_inc3 f_R_purse_108 rfl ?_
      rw [nI_1]
      refine r_goto f_R_purse_111 ?_
      refine r_drop4 ?_
      have e9 := k_R_purse_lo hw hW hR hk m (f + 1) (by omega) (by omega)
      first
        | rw [show sp_poor D (f + 1) = f from if_pos (Int32.not_le.mp h87)] at e9
          exact e9
        | rw [show sp_poor D (f + 1) = sp_poor D f from if_neg (Int32.not_lt.mpr h87)] at e9
          exact e9
theorem k_R_purse {w : Int32} (hC : RepM I L σ) (hW : WFs σ) (hk : MK K I L (op_purse σ w)) : WW G (d + 1) mt_R_purse 0 [some (.ref 95), some (.int w), none, none, none] [] SH RF I L 0 0 0 0 K := by
  unfold op_purse at hk
  have hcnt := hC.1.cnt hW.1
  have hc8 := hW.1.1.1
  refine r_ild1 f_R_purse_0 ?_
  refine r_ic f_R_purse_1 ?_
  refine r_ic f_R_purse_2 ?_
  refine c_R_in f_R_purse_3 (Nat.le_of_ble_eq_true rfl) (Nat.le_refl _) (Nat.le_refl _) ?_
  refine k_R_in (fun hwa hwb => ?_) (fun hw => ?_)
  · rw [if_pos ⟨hwa, hwb⟩] at hk
    refine r_if_ne f_R_purse_6 (fun _ => ?_) (fun h => absurd h (by decide))
    refine r_ald0 f_R_purse_16 ?_
    refine r_gr f_R_purse_17 (s_95) (r_95_0) ?_
    refine r_ic f_R_purse_20 ?_
    refine r_iald f_R_purse_22 (s_96) (show q_ix 10 10 136 from ⟨by decide, by decide⟩) ?_
    rw [hcnt]
    refine r_if_ne f_R_purse_23 (fun h23 => ?_) (fun h23 => ?_)
    · rw [if_neg (fun q => h23 (by rw [q]; rfl))] at hk
      have hpos : 0 < dC σ.1 := Nat.pos_of_ne_zero (fun q => h23 (by rw [q]; rfl))
      by_cases h0 : w = 0
      · rw [if_pos h0] at hk
        subst h0
        refine r_ic f_R_purse_33 ?_
        refine r_ist2 f_R_purse_34 rfl ?_
        refine r_ic f_R_purse_35 ?_
        refine r_ist3 f_R_purse_36 rfl ?_
        have e9 := k_R_purse_hi (d := d) (G := G) (w := 0) rfl hW.1 hC.1 (hk _ _ hC q_lw.rf) (dC σ.1 - 1) 1 (by omega) (by decide)
        rw [show sp_rich σ.1 1 = 0 from if_neg (fun q => Int32.lt_irrefl q)] at e9
        exact e9
      · rw [if_neg h0] at hk
        refine r_ic f_R_purse_33 ?_
        refine r_ist2 f_R_purse_34 rfl ?_
        refine r_ic f_R_purse_35 ?_
        refine r_ist3 f_R_purse_36 rfl ?_
        have e9 := k_R_purse_lo (d := d) (G := G) (w := w) h0 hW.1 hC.1 (hk _ _ hC q_lw.rf) (dC σ.1 - 1) 1 (by omega) (by decide)
        rw [show sp_poor σ.1 1 = 0 from if_neg (fun q => Int32.lt_irrefl q)] at e9
        exact e9
    · rw [if_pos ((nI_eq (b := 0) (by omega) (by decide)).mp h23)] at hk
      refine r_ald0 f_R_purse_26 ?_
      refine r_ic f_R_purse_27 ?_
      refine c_R_finds f_R_purse_29 (s_95) (Nat.le_of_ble_eq_true rfl) (Nat.le_refl _) (Nat.le_refl _) ?_
      refine k_R_finds (k := 3) (by decide) (by decide) hC hW (fun I9 hC9 hi9 => ?_)
      refine r_iret f_R_purse_32 ⟨_, rfl, rfl⟩ (Nat.le_refl _) (Nat.le_refl _) ?_
      exact hk _ _ hC9 hi9
  · rw [if_neg hw] at hk
    refine r_if_ne f_R_purse_6 (fun h => absurd h (by decide)) (fun _ => ?_)
    refine r_ald0 f_R_purse_9 ?_
    refine r_ic f_R_purse_10 ?_
    refine c_R_finds f_R_purse_12 (s_95) (Nat.le_of_ble_eq_true rfl) (Nat.le_refl _) (Nat.le_refl _) ?_
    refine k_R_finds (k := 0) (by decide) (by decide) hC hW (fun I9 hC9 hi9 => ?_)
    refine r_iret f_R_purse_15 ⟨_, rfl, rfl⟩ (Nat.le_refl _) (Nat.le_refl _) ?_
    exact hk _ _ hC9 hi9
theorem sp_farm_m {x y z : Int32} : eS (eO (eF (eF (eF (eF (eF (eF (eF (eF (eF (eF D (dC D) 0 0) (dC D) 1 0) (dC D) 2 0) (dC D) 3 0) (dC D) 4 0) (dC D) 5 0) (dC D) 6 0) (dC D) 0 x) (dC D) 1 y) (dC D) 2 z) (dC D) (nI (dC D))) 5 (nI (dC D + 1)) = sp_farm D x y z := by
  unfold sp_farm
  have e : ∀ (f : Nat → Nat → Int32) (c : Nat), u2 (u2 (u2 (u2 (u2 (u2 (u2 (u2 (u2 (u2 f c 0 0) c 1 0) c 2 0) c 3 0) c 4 0) c 5 0) c 6 0) c 0 x) c 1 y) c 2 z = u2 (u2 (u2 (u2 (u2 (u2 (u2 f c 0 x) c 1 y) c 2 z) c 3 0) c 4 0) c 5 0) c 6 0 := by
    intro f c
    funext i k
    unfold u2
    by_cases hi : i = c
    · rcases (show k = 0 ∨ k = 1 ∨ k = 2 ∨ k = 3 ∨ k = 4 ∨ k = 5 ∨ k = 6 ∨ 6 < k by omega) with e | e | e | e | e | e | e | e <;> simp [hi, e] <;> (repeat rw [if_neg (show ¬ _ by omega)])
    · simp [hi]
  refine Prod.ext ?_ rfl
  exact e D.1 (dC D)
theorem k_R_farm {x y z : Int32} (hC : RepM I L σ) (hW : WFs σ) (hk : MK K I L (op_farm σ x y z)) : WW G (d + 1) mt_R_farm 0 [some (.ref 95), some (.int x), some (.int y), some (.int z), none, none] [] SH RF I L 0 0 0 0 K := by
  unfold op_farm at hk
  have hcnt := hC.1.cnt hW.1
  have hc8 := hW.1.1.1
  refine r_ild1 f_R_farm_0 ?_
  refine r_ic f_R_farm_1 ?_
  refine r_ic f_R_farm_2 ?_
  refine c_R_in f_R_farm_3 (Nat.le_of_ble_eq_true rfl) (Nat.le_refl _) (Nat.le_refl _) ?_
  refine k_R_in (fun hxa hxb => ?_) (fun hx => ?_)
  · rw [if_pos ⟨hxa, hxb⟩] at hk
    refine r_if_eq f_R_farm_6 (fun h => absurd h (by decide)) (fun _ => ?_)
    refine r_ild2 f_R_farm_9 ?_
    refine r_ic f_R_farm_10 ?_
    refine r_ic f_R_farm_11 ?_
    refine c_R_in f_R_farm_13 (Nat.le_of_ble_eq_true rfl) (Nat.le_refl _) (Nat.le_refl _) ?_
    refine k_R_in (fun hya hyb => ?_) (fun hy => ?_)
    · rw [if_pos (show q_sv 2 0 ≤ y ∧ y ≤ q_sv 3 0 from ⟨hya, hyb⟩)] at hk
      refine r_if_eq f_R_farm_16 (fun h => absurd h (by decide)) (fun _ => ?_)
      refine r_ild3 f_R_farm_19 ?_
      refine r_ic f_R_farm_20 ?_
      refine r_ic f_R_farm_21 ?_
      refine c_R_in f_R_farm_24 (Nat.le_of_ble_eq_true rfl) (Nat.le_refl _) (Nat.le_refl _) ?_
      refine k_R_in (fun hza hzb => ?_) (fun hz => ?_)
      · rw [if_pos (show q_sv 2 1 ≤ z ∧ z ≤ q_sv 3 1 from ⟨hza, hzb⟩)] at hk
        refine r_if_ne f_R_farm_27 (fun _ => ?_) (fun h => absurd h (by decide))
        refine r_ald0 f_R_farm_37 ?_
        refine r_gr f_R_farm_38 (s_95) (r_95_0) ?_
        refine r_ic f_R_farm_41 ?_
        refine r_iald f_R_farm_43 (s_96) (show q_ix 10 10 136 from ⟨by decide, by decide⟩) ?_
        refine r_ic f_R_farm_44 ?_
        rw [hcnt]
        refine r_ic_ne f_R_farm_46 (fun h46 => ?_) (fun h46 => ?_)
        · have hne : ¬ dC σ.1 = 8 := fun q => h46 (by rw [q]; rfl)
          rw [if_neg hne] at hk
          have hlt : dC σ.1 < 8 := by omega
          refine r_ald0 f_R_farm_56 ?_
          refine r_gr f_R_farm_57 (s_95) (r_95_0) ?_
          refine r_ic f_R_farm_60 ?_
          refine r_iald f_R_farm_62 (s_96) (show q_ix 10 10 136 from ⟨by decide, by decide⟩) ?_
          rw [hcnt]
          refine r_ist4 f_R_farm_63 rfl ?_
          refine r_ic f_R_farm_65 ?_
          refine r_ist5 f_R_farm_66 rfl ?_
          refine r_ild5 f_R_farm_68 ?_
          refine r_ic f_R_farm_70 ?_
          refine r_ic_ge f_R_farm_72 (fun h => absurd h (by decide)) (fun _ => ?_)
          refine r_ald0 f_R_farm_75 ?_
          refine r_ild4 f_R_farm_76 ?_
          refine r_ild5 f_R_farm_78 ?_
          refine r_ic f_R_farm_80 ?_
          refine c_R_put f_R_farm_81 (s_95) (Nat.le_of_ble_eq_true rfl) (Nat.le_refl _) (Nat.le_refl _) ?_
          refine k_R_put (k := 0) hlt (by decide) hC.1 (fun I10 R0 g0 => ?_)
          refine r_inc5 f_R_farm_84 rfl ?_
          rw [show (0 : Int32) + 1 = 1 from by decide]
          refine r_goto f_R_farm_87 ?_
          refine r_ild5 f_R_farm_68 ?_
          refine r_ic f_R_farm_70 ?_
          refine r_ic_ge f_R_farm_72 (fun h => absurd h (by decide)) (fun _ => ?_)
          refine r_ald0 f_R_farm_75 ?_
          refine r_ild4 f_R_farm_76 ?_
          refine r_ild5 f_R_farm_78 ?_
          refine r_ic f_R_farm_80 ?_
          refine c_R_put f_R_farm_81 (s_95) (Nat.le_of_ble_eq_true rfl) (Nat.le_refl _) (Nat.le_refl _) ?_
          refine k_R_put (k := 1) hlt (by decide) R0 (fun I11 R1 g1 => ?_)
          refine r_inc5 f_R_farm_84 rfl ?_
          rw [show (1 : Int32) + 1 = 2 from by decide]
          refine r_goto f_R_farm_87 ?_
          refine r_ild5 f_R_farm_68 ?_
          refine r_ic f_R_farm_70 ?_
          refine r_ic_ge f_R_farm_72 (fun h => absurd h (by decide)) (fun _ => ?_)
          refine r_ald0 f_R_farm_75 ?_
          refine r_ild4 f_R_farm_76 ?_
          refine r_ild5 f_R_farm_78 ?_
          refine r_ic f_R_farm_80 ?_
          refine c_R_put f_R_farm_81 (s_95) (Nat.le_of_ble_eq_true rfl) (Nat.le_refl _) (Nat.le_refl _) ?_
          refine k_R_put (k := 2) hlt (by decide) R1 (fun I12 R2 g2 => ?_)
          refine r_inc5 f_R_farm_84 rfl ?_
          rw [show (2 : Int32) + 1 = 3 from by decide]
          refine r_goto f_R_farm_87 ?_
          refine r_ild5 f_R_farm_68 ?_
          refine r_ic f_R_farm_70 ?_
          refine r_ic_ge f_R_farm_72 (fun h => absurd h (by decide)) (fun _ => ?_)
          refine r_ald0 f_R_farm_75 ?_
          refine r_ild4 f_R_farm_76 ?_
          refine r_ild5 f_R_farm_78 ?_
          refine r_ic f_R_farm_80 ?_
          refine c_R_put f_R_farm_81 (s_95) (Nat.le_of_ble_eq_true rfl) (Nat.le_refl _) (Nat.le_refl _) ?_
          refine k_R_put (k := 3) hlt (by decide) R2 (fun I13 R3 g3 => ?_)
          refine r_inc5 f_R_farm_84 rfl ?_
          rw [show (3 : Int32) + 1 = 4 from by decide]
          refine r_goto f_R_farm_87 ?_
          refine r_ild5 f_R_farm_68 ?_
          refine r_ic f_R_farm_70 ?_
          refine r_ic_ge f_R_farm_72 (fun h => absurd h (by decide)) (fun _ => ?_)
          refine r_ald0 f_R_farm_75 ?_
          refine r_ild4 f_R_farm_76 ?_
          refine r_ild5 f_R_farm_78 ?_
          refine r_ic f_R_farm_80 ?_
          refine c_R_put f_R_farm_81 (s_95) (Nat.le_of_ble_eq_true rfl) (Nat.le_refl _) (Nat.le_refl _) ?_
          refine k_R_put (k := 4) hlt (by decide) R3 (fun I14 R4 g4 => ?_)
          refine r_inc5 f_R_farm_84 rfl ?_
          rw [show (4 : Int32) + 1 = 5 from by decide]
          refine r_goto f_R_farm_87 ?_
          refine r_ild5 f_R_farm_68 ?_
          refine r_ic f_R_farm_70 ?_
          refine r_ic_ge f_R_farm_72 (fun h => absurd h (by decide)) (fun _ => ?_)
          refine r_ald0 f_R_farm_75 ?_
          refine r_ild4 f_R_farm_76 ?_
          refine r_ild5 f_R_farm_78 ?_
          refine r_ic f_R_farm_80 ?_
          refine c_R_put f_R_farm_81 (s_95) (Nat.le_of_ble_eq_true rfl) (Nat.le_refl _) (Nat.le_refl _) ?_
          refine k_R_put (k := 5) hlt (by decide) R4 (fun I15 R5 g5 => ?_)
          refine r_inc5 f_R_farm_84 rfl ?_
          rw [show (5 : Int32) + 1 = 6 from by decide]
          refine r_goto f_R_farm_87 ?_
          refine r_ild5 f_R_farm_68 ?_
          refine r_ic f_R_farm_70 ?_
          refine r_ic_ge f_R_farm_72 (fun h => absurd h (by decide)) (fun _ => ?_)
          refine r_ald0 f_R_farm_75 ?_
          refine r_ild4 f_R_farm_76 ?_
          refine r_ild5 f_R_farm_78 ?_
          refine r_ic f_R_farm_80 ?_
          refine c_R_put f_R_farm_81 (s_95) (Nat.le_of_ble_eq_true rfl) (Nat.le_refl _) (Nat.le_refl _) ?_
          refine k_R_put (k := 6) hlt (by decide) R5 (fun I16 R6 g6 => ?_)
          refine r_inc5 f_R_farm_84 rfl ?_
          rw [show (6 : Int32) + 1 = 7 from by decide]
          refine r_goto f_R_farm_87 ?_
          refine r_ild5 f_R_farm_68 ?_
          refine r_ic f_R_farm_70 ?_
          refine r_ic_ge f_R_farm_72 (fun _ => ?_) (fun h => absurd h (by decide))
          refine r_ald0 f_R_farm_90 ?_
          refine r_ild4 f_R_farm_91 ?_
          refine r_ic f_R_farm_93 ?_
          refine r_ild1 f_R_farm_94 ?_
          refine c_R_put f_R_farm_95 (s_95) (Nat.le_of_ble_eq_true rfl) (Nat.le_refl _) (Nat.le_refl _) ?_
          refine k_R_put (k := 0) hlt (by decide) R6 (fun I17 R7 g7 => ?_)
          refine r_ald0 f_R_farm_98 ?_
          refine r_ild4 f_R_farm_99 ?_
          refine r_ic f_R_farm_101 ?_
          refine r_ild2 f_R_farm_102 ?_
          refine c_R_put f_R_farm_103 (s_95) (Nat.le_of_ble_eq_true rfl) (Nat.le_refl _) (Nat.le_refl _) ?_
          refine k_R_put (k := 1) hlt (by decide) R7 (fun I18 R8 g8 => ?_)
          refine r_ald0 f_R_farm_106 ?_
          refine r_ild4 f_R_farm_107 ?_
          refine r_ic f_R_farm_109 ?_
          refine r_ild3 f_R_farm_110 ?_
          refine c_R_put f_R_farm_111 (s_95) (Nat.le_of_ble_eq_true rfl) (Nat.le_refl _) (Nat.le_refl _) ?_
          refine k_R_put (k := 2) hlt (by decide) R8 (fun I19 R9 g9 => ?_)
          refine r_ald0 f_R_farm_114 ?_
          refine r_gr f_R_farm_115 (s_95) (r_95_0) ?_
          refine r_ic f_R_farm_118 ?_
          refine r_ild4 f_R_farm_120 ?_
          refine r_iadd f_R_farm_122 ?_
          rw [show (68 : Int32) + nI (dC σ.1) = nI (68 + dC σ.1) from nI_add 68 _]
          refine r_ild4 f_R_farm_123 ?_
          refine r_iast f_R_farm_125 (s_96) (q_ix.nI (show 68 + dC σ.1 < 136 by omega) (by decide)) ?_
          have hRo := R9.toO (p := dC σ.1) (v := nI (dC σ.1)) hlt
          refine r_ald0 f_R_farm_126 ?_
          refine r_gr f_R_farm_127 (s_95) (r_95_0) ?_
          refine r_ic f_R_farm_130 ?_
          refine r_dup2 f_R_farm_132 ?_
          refine r_iald f_R_farm_133 (s_96) (show q_ix 10 10 136 from ⟨by decide, by decide⟩) ?_
          rw [show u2 I19 96 (68 + dC σ.1) (nI (dC σ.1)) 96 10 = nI (dC σ.1) from hRo.c.trans hW.1.1.2]
          refine r_ic f_R_farm_134 ?_
          refine r_iadd f_R_farm_135 ?_
          rw [nI_1]
          have hRs := hRo.toS (k := 5) (v := nI (dC σ.1 + 1)) (by decide) rfl
          refine r_iast f_R_farm_136 (s_96) (show q_ix 10 10 136 from ⟨by decide, by decide⟩) ?_
          rw [← sp_farm_m] at hk
          refine r_ild4 f_R_farm_137 ?_
          refine r_iret f_R_farm_139 ⟨_, rfl, rfl⟩ (Nat.le_refl _) (Nat.le_refl _) ?_
          have g := (((((((((((g0.tr g1).tr g2).tr g3).tr g4).tr g5).tr g6).tr g7).tr g8).tr g9).u2 (i := 96) (j := 68 + dC σ.1) (v := nI (dC σ.1)) rfl).u2 (i := 96) (j := 10) (v := nI (dC σ.1 + 1)) rfl)
          exact hk _ _ (hC.n96 hW hRs g) (q_lw.n96 g)
        · rw [if_pos ((nI_eq (b := 8) (by omega) (by decide)).mp h46)] at hk
          refine r_ald0 f_R_farm_49 ?_
          refine r_ic f_R_farm_50 ?_
          refine c_R_finds f_R_farm_52 (s_95) (Nat.le_of_ble_eq_true rfl) (Nat.le_refl _) (Nat.le_refl _) ?_
          refine k_R_finds (k := 1) (by decide) (by decide) hC hW (fun I9 hC9 hi9 => ?_)
          refine r_iret f_R_farm_55 ⟨_, rfl, rfl⟩ (Nat.le_refl _) (Nat.le_refl _) ?_
          exact hk _ _ hC9 hi9
      · rw [if_neg (show ¬ (q_sv 2 1 ≤ z ∧ z ≤ q_sv 3 1) from hz)] at hk
        refine r_if_ne f_R_farm_27 (fun h => absurd h (by decide)) (fun _ => ?_)
        refine r_ald0 f_R_farm_30 ?_
        refine r_ic f_R_farm_31 ?_
        refine c_R_finds f_R_farm_33 (s_95) (Nat.le_of_ble_eq_true rfl) (Nat.le_refl _) (Nat.le_refl _) ?_
        refine k_R_finds (k := 0) (by decide) (by decide) hC hW (fun I9 hC9 hi9 => ?_)
        refine r_iret f_R_farm_36 ⟨_, rfl, rfl⟩ (Nat.le_refl _) (Nat.le_refl _) ?_
        exact hk _ _ hC9 hi9
    · rw [if_neg (show ¬ (q_sv 2 0 ≤ y ∧ y ≤ q_sv 3 0) from hy)] at hk
      refine r_if_eq f_R_farm_16 (fun _ => ?_) (fun h => absurd h (by decide))
      refine r_ald0 f_R_farm_30 ?_
      refine r_ic f_R_farm_31 ?_
      refine c_R_finds f_R_farm_33 (s_95) (Nat.le_of_ble_eq_true rfl) (Nat.le_refl _) (Nat.le_refl _) ?_
      refine k_R_finds (k := 0) (by decide) (by decide) hC hW (fun I9 hC9 hi9 => ?_)
      refine r_iret f_R_farm_36 ⟨_, rfl, rfl⟩ (Nat.le_refl _) (Nat.le_refl _) ?_
      exact hk _ _ hC9 hi9
  · rw [if_neg hx] at hk
    refine r_if_eq f_R_farm_6 (fun _ => ?_) (fun h => absurd h (by decide))
    refine r_ald0 f_R_farm_30 ?_
    refine r_ic f_R_farm_31 ?_
    refine c_R_finds f_R_farm_33 (s_95) (Nat.le_of_ble_eq_true rfl) (Nat.le_refl _) (Nat.le_refl _) ?_
    refine k_R_finds (k := 0) (by decide) (by decide) hC hW (fun I9 hC9 hi9 => ?_)
    refine r_iret f_R_farm_36 ⟨_, rfl, rfl⟩ (Nat.le_refl _) (Nat.le_refl _) ?_
    exact hk _ _ hC9 hi9
theorem q_dn9 {x : Int32} (h : q_le x 0 9) : q_le (sp_dn x) 0 9 ∧ q_within (x - 1) 0 9 = sp_dn x := by
  obtain ⟨n, _, h9, rfl⟩ := h
  have e : ∀ n, n < 10 → (∃ k, k < 10 ∧ sp_dn (nI n) = nI k) ∧ q_within (nI n - 1) 0 9 = sp_dn (nI n) := by
    unfold sp_dn q_within
    decide +kernel
  obtain ⟨⟨k, k1, k2⟩, e2⟩ := e n (by omega)
  exact ⟨⟨k, Nat.zero_le _, by omega, k2⟩, e2⟩
theorem WFd.yl (h : WFd D) : ∀ k, k ≤ dC D → WFd (sp_yl D k) ∧ dC (sp_yl D k) = dC D
  | 0, _ => ⟨h, rfl⟩
  | k + 1, hk => by
    obtain ⟨h1, h2⟩ := h.yl k (by omega)
    exact ⟨h1.an (q_dn9 (h1.fs k 6 (by omega) (by decide) (by decide))).1, h2⟩
theorem WFd.yr (h : WFd D) (hn : ¬ D.2.2.2.1 0 = 99) : WFd (eS D 0 (D.2.2.2.1 0 + 1)) := by
  obtain ⟨h1, h2, h3, h4, h5, h6, ⟨n, n1, n2, n3⟩, h8⟩ := h
  refine ⟨h1, h2, h3, h4, h5, h6, ⟨n + 1, by omega, ?_, ?_⟩, h8⟩
  · have : n ≠ 99 := fun q => hn (by rw [n3, q]; rfl)
    omega
  · show (if (0 : Nat) = 0 then D.2.2.2.1 0 + 1 else D.2.2.2.1 0) = nI (n + 1)
    rw [if_pos rfl, n3, nI_1]
theorem k_R_year_loop {x : Int32} (hW : WFd D) (hx : D.2.2.2.1 0 = x) (hk : ∀ I', RR I' 96 (sp_yl D (dC D)) → q_ag (fun x _ => x = 96) I I' → K (some (.int x)) SH RF I' L) : ∀ (m f : Nat) (I' : Rn), m + f = dC D → RR I' 96 (sp_yl D f) → q_ag (fun x _ => x = 96) I I' → WW G (d + 1) mt_R_year 30 [some (.ref 95), some (.int (nI f))] [] SH RF I' L 0 0 0 0 K
  | 0, f, I', h, hR, hg => by
    have ef : f = dC D := by omega
    subst ef
    obtain ⟨w1, w2⟩ := hW.yl _ (Nat.le_refl _)
    refine r_ild1 f_R_year_30 ?_
    refine r_ald0 f_R_year_31 ?_
    refine r_gr f_R_year_32 (s_95) (r_95_0) ?_
    refine r_ic f_R_year_35 ?_
    refine r_iald f_R_year_37 (s_96) (show q_ix 10 10 136 from ⟨by decide, by decide⟩) ?_
    rw [hR.cnt w1, w2]
    refine r_ic_ge f_R_year_38 (fun h38 => ?_) (fun h38 => absurd h38 (fun q => q (Int32.le_refl _)))
    refine r_ald0 f_R_year_69 ?_
    refine r_gr f_R_year_70 (s_95) (r_95_0) ?_
    refine r_ic f_R_year_73 ?_
    refine r_iald f_R_year_74 (s_96) (show q_ix 0 0 136 from ⟨by decide, by decide⟩) ?_
    rw [hR.s (k := 0) (by decide), sp_yl_5, hx]
    refine r_iret f_R_year_75 ⟨_, rfl, rfl⟩ (Nat.le_refl _) (Nat.le_refl _) ?_
    exact hk I' hR hg
  | m + 1, f, I', h, hR, hg => by
    have hc8 := hW.1.1
    obtain ⟨w1, w2⟩ := hW.yl f (by omega)
    refine r_ild1 f_R_year_30 ?_
    refine r_ald0 f_R_year_31 ?_
    refine r_gr f_R_year_32 (s_95) (r_95_0) ?_
    refine r_ic f_R_year_35 ?_
    refine r_iald f_R_year_37 (s_96) (show q_ix 10 10 136 from ⟨by decide, by decide⟩) ?_
    rw [hR.cnt w1, w2]
    refine r_ic_ge f_R_year_38 (fun h38 => absurd h38 (nI_ge (by omega) (by omega))) (fun h38 => ?_)
    refine r_ald0 f_R_year_41 ?_
    refine r_ild1 f_R_year_42 ?_
    refine r_ic f_R_year_43 ?_
    refine r_ald0 f_R_year_45 ?_
    refine r_ild1 f_R_year_46 ?_
    refine r_ic f_R_year_47 ?_
    refine c_R_get f_R_year_49 (s_95) (Nat.le_of_ble_eq_true rfl) (Nat.le_refl _) (Nat.le_refl _) ?_
    refine k_R_get (k := 6) (show f < 8 by omega) (by decide) hR ?_
    refine r_ic f_R_year_52 ?_
    refine r_isub f_R_year_53 ?_
    refine r_ic f_R_year_54 ?_
    refine r_ic f_R_year_55 ?_
    refine c_R_within f_R_year_57 (Nat.le_of_ble_eq_true rfl) (Nat.le_refl _) (Nat.le_refl _) ?_
    refine k_R_within ?_
    rw [(q_dn9 (w1.fs f 6 (by omega) (by decide) (by decide))).2]
    refine c_R_put f_R_year_60 (s_95) (Nat.le_of_ble_eq_true rfl) (Nat.le_refl _) (Nat.le_refl _) ?_
    refine k_R_put (k := 6) (show f < 8 by omega) (by decide) hR (fun I2 hR2 hg2 => ?_)
    refine r_inc1 f_R_year_63 rfl ?_
    rw [nI_1]
    refine r_goto f_R_year_66 ?_
    exact k_R_year_loop hW hx hk m (f + 1) I2 (by omega) hR2 (hg.tr hg2)
theorem k_R_year (hC : RepM I L σ) (hW : WFs σ) (hk : MK K I L (op_year σ)) : WW G (d + 1) mt_R_year 0 [some (.ref 95), none] [] SH RF I L 0 0 0 0 K := by
  unfold op_year at hk
  have hcnt := hC.1.cnt hW.1
  have hc8 := hW.1.1.1
  refine r_ald0 f_R_year_0 ?_
  refine r_gr f_R_year_1 (s_95) (r_95_0) ?_
  refine r_ic f_R_year_4 ?_
  refine r_iald f_R_year_5 (s_96) (show q_ix 0 0 136 from ⟨by decide, by decide⟩) ?_
  rw [hC.1.s (k := 0) (by decide)]
  refine r_ic f_R_year_6 ?_
  refine r_ic_ne f_R_year_8 (fun h8 => ?_) (fun h8 => ?_)
  · rw [if_neg h8] at hk
    refine r_ald0 f_R_year_18 ?_
    refine r_gr f_R_year_19 (s_95) (r_95_0) ?_
    refine r_ic f_R_year_22 ?_
    refine r_dup2 f_R_year_23 ?_
    refine r_iald f_R_year_24 (s_96) (show q_ix 0 0 136 from ⟨by decide, by decide⟩) ?_
    rw [hC.1.s (k := 0) (by decide)]
    refine r_ic f_R_year_25 ?_
    refine r_iadd f_R_year_26 ?_
    refine r_iast f_R_year_27 (s_96) (show q_ix 0 0 136 from ⟨by decide, by decide⟩) ?_
    have hRs := hC.1.toS (k := 0) (v := σ.1.2.2.2.1 0 + 1) (by decide) rfl
    refine r_ic f_R_year_28 ?_
    refine r_ist1 f_R_year_29 rfl ?_
    exact k_R_year_loop (hW.1.yr h8) (show (if (0 : Nat) = 0 then σ.1.2.2.2.1 0 + 1 else σ.1.2.2.2.1 0) = _ from if_pos rfl) (fun I9 hR9 hg9 => hk _ _ (hC.n96 hW hR9 (((q_ag.rf (P := fun x _ => x = 96)).u2 rfl).tr hg9)) (q_lw.n96 (((q_ag.rf (P := fun x _ => x = 96)).u2 rfl).tr hg9))) _ 0 _ (Nat.add_zero _) hRs q_ag.rf
  · rw [if_pos h8] at hk
    refine r_ald0 f_R_year_11 ?_
    refine r_ic f_R_year_12 ?_
    refine c_R_finds f_R_year_14 (s_95) (Nat.le_of_ble_eq_true rfl) (Nat.le_refl _) (Nat.le_refl _) ?_
    refine k_R_finds (k := 4) (by decide) (by decide) hC hW (fun I9 hC9 hi9 => ?_)
    refine r_iret f_R_year_17 ⟨_, rfl, rfl⟩ (Nat.le_refl _) (Nat.le_refl _) ?_
    exact hk _ _ hC9 hi9
theorem q_s3 : ∀ n, n < 9 → ((3 * nI n &&& 31 : Int32).toBitVec.smod 32).toNat = 3 * n := by decide +kernel
theorem q_s3d : ∀ n, n < 9 → ∀ p, p < n → ((3 * (nI n - 1 - nI p) &&& 31 : Int32).toBitVec.smod 32).toNat = 3 * (n - 1 - p) ∧ (((3 * (nI n - 1 - nI p)).toUInt32 &&& Int32.toUInt32 31).toBitVec % 32).toNat = 3 * (n - 1 - p) := by decide +kernel
theorem q_shr0 {x : Int32} {n : Nat} (hx : 0 ≤ x) (hn : n ≤ 8) : x >>> (3 * nI n &&& 31) = 0 ↔ x < (1 : Int32) <<< (3 * nI n &&& 31) := by
  obtain ⟨X, hX, rfl⟩ := nI_of (Int32.not_lt.mpr hx)
  have hs := q_s3 n (by omega)
  have hp : 2 ^ (3 * n) ≤ 2 ^ 24 := Nat.pow_le_pow_right (by decide) (by omega)
  have hp0 : 0 < 2 ^ (3 * n) := Nat.two_pow_pos _
  rw [pk_shrN hX _ _ hs, show (1 : Int32) = nI 1 from rfl, pk_shlN (n := 1) _ _ hs (by omega), show (0 : Int32) = nI 0 from rfl, nI_eq (Nat.lt_of_le_of_lt (Nat.div_le_self _ _) hX) (by decide), nI_ltI hX (by omega), Nat.one_mul]
  exact Nat.div_eq_zero_iff_lt hp0
theorem q_dig {x : Int32} {n p : Nat} (hx : 0 ≤ x) (hn : n ≤ 8) (hp : p < n) : x >>> (3 * (nI n - 1 - nI p) &&& 31) &&& 7 = sp_dig n p x := by
  obtain ⟨X, hX, rfl⟩ := nI_of (Int32.not_lt.mpr hx)
  obtain ⟨h1, h2⟩ := q_s3d n (by omega) p hp
  unfold sp_dig
  rw [pk_shrN hX _ _ h1, pk_ushrN (by omega) _ _ h2]
def F100 : Nat → Nat → Prop := fun x _ => x = 100
theorem k_R_turns_l1 {x : Int32} {n : Nat} (hx0 : 0 ≤ x) (hn : n ≤ 8) (hk : ∀ I', (∀ j, j < n → I' 100 j = sp_dig n j x) → q_ag F100 I I' → WW G (d + 1) mt_R_turns 76 [some (.ref 95), some (.int x), some (.int (nI n)), some (.int (sp_met n x n)), none] [] SH RF I' L 0 0 0 0 K) : ∀ (m k : Nat) (I' : Rn), m + k = n → (∀ j, j < k → I' 100 j = sp_dig n j x) → q_ag F100 I I' → WW G (d + 1) mt_R_turns 32 [some (.ref 95), some (.int x), some (.int (nI n)), some (.int (sp_met n x k)), some (.int (nI k))] [] SH RF I' L 0 0 0 0 K
  | 0, k, I', h, hd, hg => by
    have ek : k = n := by omega
    subst ek
    refine r_ild4 f_R_turns_32 ?_
    refine r_ild2 f_R_turns_34 ?_
    refine r_ic_ge f_R_turns_35 (fun h35 => ?_) (fun h35 => absurd h35 (fun q => q (Int32.le_refl _)))
    refine r_drop4 ?_
    exact hk I' hd hg
  | m + 1, k, I', h, hd, hg => by
    refine r_ild4 f_R_turns_32 ?_
    refine r_ild2 f_R_turns_34 ?_
    refine r_ic_ge f_R_turns_35 (fun h35 => absurd h35 (nI_ge (by omega) (by omega))) (fun h35 => ?_)
    refine r_ald0 f_R_turns_38 ?_
    refine r_gr f_R_turns_39 (s_95) (r_95_6) ?_
    refine r_ild4 f_R_turns_42 ?_
    refine r_ild1 f_R_turns_44 ?_
    refine r_ic f_R_turns_45 ?_
    refine r_ild2 f_R_turns_46 ?_
    refine r_ic f_R_turns_47 ?_
    refine r_isub f_R_turns_48 ?_
    refine r_ild4 f_R_turns_49 ?_
    refine r_isub f_R_turns_51 ?_
    refine r_imul f_R_turns_52 ?_
    refine r_ishr f_R_turns_53 ?_
    refine r_ic f_R_turns_54 ?_
    refine r_iand f_R_turns_56 ?_
    rw [q_dig hx0 hn (show k < n by omega)]
    refine r_iast f_R_turns_57 (s_100) (q_ix.nI (show k < 8 by omega) (by decide)) ?_
    refine r_ild3 f_R_turns_58 ?_
    refine r_ic f_R_turns_59 ?_
    refine r_ald0 f_R_turns_60 ?_
    refine r_gr f_R_turns_61 (s_95) (r_95_6) ?_
    refine r_ild4 f_R_turns_64 ?_
    refine r_iald f_R_turns_66 (s_100) (q_ix.nI (show k < 8 by omega) (by decide)) ?_
    rw [u2_self]
    refine r_ishl f_R_turns_67 ?_
    refine r_ior f_R_turns_68 ?_
    refine r_ist3 f_R_turns_69 rfl ?_
    refine r_inc4 f_R_turns_70 rfl ?_
    rw [nI_1]
    refine r_goto f_R_turns_73 ?_
    refine k_R_turns_l1 hx0 hn hk m (k + 1) _ (by omega) (fun j hj => ?_) (hg.u2 (show F100 100 k from rfl))
    by_cases e : j = k
    · rw [e, u2_self]
    · rw [u2_ne (Or.inr e)]
      exact hd j (by omega)
theorem k_R_turns_l2 {x : Int32} (hW : WFd D) (hk : ∀ I', RR I' 96 (sp_po D x (dC D)) → q_ag (fun x _ => x = 96) I I' → K (some (.int 1)) SH RF I' L) (hd : ∀ j, j < dC D → I 100 j = sp_dig (dC D) j x) : ∀ (m k : Nat) (I' : Rn), m + k = dC D → RR I' 96 (sp_po D x k) → q_ag (fun x _ => x = 96) I I' → WW G (d + 1) mt_R_turns 95 [some (.ref 95), some (.int x), some (.int (nI (dC D))), some (.int (sp_met (dC D) x (dC D))), some (.int (nI k))] [] SH RF I' L 0 0 0 0 K
  | 0, k, I', h, hR, hg => by
    have ek : k = dC D := by omega
    subst ek
    refine r_ild4 f_R_turns_95 ?_
    refine r_ild2 f_R_turns_97 ?_
    refine r_ic_ge f_R_turns_98 (fun h98 => ?_) (fun h98 => absurd h98 (fun q => q (Int32.le_refl _)))
    refine r_ic f_R_turns_124 ?_
    refine r_iret f_R_turns_125 ⟨_, rfl, rfl⟩ (Nat.le_refl _) (Nat.le_refl _) ?_
    exact hk I' hR hg
  | m + 1, k, I', h, hR, hg => by
    have hc8 := hW.1.1
    refine r_ild4 f_R_turns_95 ?_
    refine r_ild2 f_R_turns_97 ?_
    refine r_ic_ge f_R_turns_98 (fun h98 => absurd h98 (nI_ge (by omega) (by omega))) (fun h98 => ?_)
    refine r_ald0 f_R_turns_101 ?_
    refine r_gr f_R_turns_102 (s_95) (r_95_0) ?_
    refine r_ic f_R_turns_105 ?_
    refine r_ild4 f_R_turns_107 ?_
    refine r_iadd f_R_turns_109 ?_
    rw [show (68 : Int32) + nI k = nI (68 + k) from nI_add 68 k]
    refine r_ald0 f_R_turns_110 ?_
    refine r_gr f_R_turns_111 (s_95) (r_95_6) ?_
    refine r_ild4 f_R_turns_114 ?_
    refine r_iald f_R_turns_116 (s_100) (q_ix.nI (show k < 8 by omega) (by decide)) ?_
    rw [hg 100 k (show ¬ (100 : Nat) = 96 by decide), hd k (by omega)]
    refine r_iast f_R_turns_117 (s_96) (q_ix.nI (show 68 + k < 136 by omega) (by decide)) ?_
    refine r_inc4 f_R_turns_118 rfl ?_
    rw [nI_1]
    refine r_goto f_R_turns_121 ?_
    have hR2 := hR.toO (p := k) (v := sp_dig (dC D) k x) (by omega)
    exact k_R_turns_l2 hW hk hd m (k + 1) _ (by omega) hR2 (hg.u2 rfl)
theorem RepM.d100 (h : RepM I L σ) (hW : WFs σ) (hg : q_ag F100 I I') : RepM I' L σ := h.same hW (h.1.rows hW.1.2.2.2.2.2.2.2.1 (fun x y w => hg x y (by unfold F100; omega))) (fun x y q => hg x y (by unfold m_obs at q; unfold F100; omega))
theorem q_lw.d100 (hg : q_ag F100 I I') : q_lw I I' L L := q_lw.ag hg (fun x y w => by unfold F100 at w; omega)
theorem k_R_turns {x : Int32} (hC : RepM I L σ) (hW : WFs σ) (hk : MK K I L (op_turns σ x)) : WW G (d + 1) mt_R_turns 0 [some (.ref 95), some (.int x), none, none, none] [] SH RF I L 0 0 0 0 K := by
  unfold op_turns at hk
  have hcnt := hC.1.cnt hW.1
  have hc8 := hW.1.1.1
  refine r_ald0 f_R_turns_0 ?_
  refine r_gr f_R_turns_1 (s_95) (r_95_0) ?_
  refine r_ic f_R_turns_4 ?_
  refine r_iald f_R_turns_6 (s_96) (show q_ix 10 10 136 from ⟨by decide, by decide⟩) ?_
  rw [hcnt]
  refine r_ist2 f_R_turns_7 rfl ?_
  refine r_ild1 f_R_turns_8 ?_
  refine r_if_lt f_R_turns_9 (fun h9 => ?_) (fun h9 => ?_)
  · first | rw [if_pos h9] at hk | rw [if_neg (fun q => h17 ((q_shr0 hx0 hc8).mpr q))] at hk
    refine r_ald0 f_R_turns_20 ?_
    refine r_ic f_R_turns_21 ?_
    refine c_R_finds f_R_turns_23 (s_95) (Nat.le_of_ble_eq_true rfl) (Nat.le_refl _) (Nat.le_refl _) ?_
    refine k_R_finds (k := 0) (by decide) (by decide) hC hW (fun I9 hC9 hi9 => ?_)
    refine r_iret f_R_turns_26 ⟨_, rfl, rfl⟩ (Nat.le_refl _) (Nat.le_refl _) ?_
    exact hk _ _ hC9 hi9
  · have hx0 : 0 ≤ x := Int32.not_lt.mp h9
    rw [if_neg h9] at hk
    refine r_ild1 f_R_turns_12 ?_
    refine r_ic f_R_turns_13 ?_
    refine r_ild2 f_R_turns_14 ?_
    refine r_imul f_R_turns_15 ?_
    refine r_ishr f_R_turns_16 ?_
    refine r_if_eq f_R_turns_17 (fun h17 => ?_) (fun h17 => ?_)
    · rw [if_pos ((q_shr0 hx0 hc8).mp h17)] at hk
      refine r_ic f_R_turns_27 ?_
      refine r_ist3 f_R_turns_28 rfl ?_
      refine r_ic f_R_turns_29 ?_
      refine r_ist4 f_R_turns_30 rfl ?_
      refine k_R_turns_l1 hx0 hc8 (fun I1 hd1 hg1 => ?_) (dC σ.1) 0 I (Nat.add_zero _) (fun j hj => absurd hj (Nat.not_lt_zero j)) q_ag.rf
      have hC1 := hC.d100 hW hg1
      refine r_ild3 f_R_turns_76 ?_
      refine r_ic f_R_turns_77 ?_
      refine r_ild2 f_R_turns_78 ?_
      refine r_ishl f_R_turns_79 ?_
      refine r_ic f_R_turns_80 ?_
      refine r_isub f_R_turns_81 ?_
      refine r_ic_eq f_R_turns_82 (fun h82 => ?_) (fun h82 => ?_)
      · rw [if_pos h82] at hk
        refine r_ic f_R_turns_92 ?_
        refine r_ist4 f_R_turns_93 rfl ?_
        exact k_R_turns_l2 hW.1 (fun I9 hR9 hg9 => hk _ _ (hC1.n96 hW hR9 hg9) ((q_lw.d100 hg1).tr (q_lw.n96 hg9))) hd1 (dC σ.1) 0 I1 (Nat.add_zero _) hC1.1 q_ag.rf
      · rw [if_neg h82] at hk
        refine r_ald0 f_R_turns_85 ?_
        refine r_ic f_R_turns_86 ?_
        refine c_R_finds f_R_turns_88 (s_95) (Nat.le_of_ble_eq_true rfl) (Nat.le_refl _) (Nat.le_refl _) ?_
        refine k_R_finds (k := 2) (by decide) (by decide) hC1 hW (fun I9 hC9 hi9 => ?_)
        refine r_iret f_R_turns_91 ⟨_, rfl, rfl⟩ (Nat.le_refl _) (Nat.le_refl _) ?_
        exact hk _ _ hC9 ((q_lw.d100 hg1).tr hi9)
    · first | rw [if_pos h9] at hk | rw [if_neg (fun q => h17 ((q_shr0 hx0 hc8).mpr q))] at hk
      refine r_ald0 f_R_turns_20 ?_
      refine r_ic f_R_turns_21 ?_
      refine c_R_finds f_R_turns_23 (s_95) (Nat.le_of_ble_eq_true rfl) (Nat.le_refl _) (Nat.le_refl _) ?_
      refine k_R_finds (k := 0) (by decide) (by decide) hC hW (fun I9 hC9 hi9 => ?_)
      refine r_iret f_R_turns_26 ⟨_, rfl, rfl⟩ (Nat.le_refl _) (Nat.le_refl _) ?_
      exact hk _ _ hC9 hi9
theorem k_R_count {w : Int32} (hC : RepM I L σ) (hW : WFs σ) (hk : MK K I L (op_count σ w)) : WW G (d + 2) mt_R_count 0 [some (.ref 95), some (.int w)] [] SH RF I L 0 0 0 0 K := by
  unfold op_count at hk
  have hcnt := hC.1.cnt hW.1
  have hc8 := hW.1.1.1
  have hl := hW.1.2.2.2.2.2.2.2.1
  refine r_ild1 f_R_count_0 ?_
  refine r_sw f_R_count_1 ?_
  refine r_swc (k := 0) (by decide) (fun e1_0 => ?_) (fun e1_0 => ?_)
  · rw [if_pos e1_0] at hk
    refine r_ald0 f_R_count_52 ?_
    refine r_gr f_R_count_53 (s_95) (r_95_0) ?_
    refine r_ic f_R_count_56 ?_
    refine r_iald f_R_count_58 (s_96) (show q_ix 10 10 136 from ⟨by decide, by decide⟩) ?_
    rw [hcnt]
    refine r_iret f_R_count_59 ⟨_, rfl, rfl⟩ (Nat.le_refl _) (Nat.le_refl _) ?_
    exact hk _ _ hC q_lw.rf
  refine r_swc (k := 1) (by decide) (fun e1_1 => ?_) (fun e1_1 => ?_)
  · rw [if_neg e1_0, if_pos e1_1] at hk
    refine r_ald0 f_R_count_60 ?_
    refine r_gr f_R_count_61 (s_95) (r_95_0) ?_
    refine r_ic f_R_count_64 ?_
    refine r_iald f_R_count_65 (s_96) (show q_ix 0 0 136 from ⟨by decide, by decide⟩) ?_
    rw [hC.1.s (k := 0) (by decide)]
    refine r_iret f_R_count_66 ⟨_, rfl, rfl⟩ (Nat.le_refl _) (Nat.le_refl _) ?_
    exact hk _ _ hC q_lw.rf
  refine r_swc (k := 2) (by decide) (fun e1_2 => ?_) (fun e1_2 => ?_)
  · rw [if_neg e1_0, if_neg e1_1, if_pos e1_2] at hk
    refine r_ald0 f_R_count_67 ?_
    refine r_gr f_R_count_68 (s_95) (r_95_0) ?_
    refine r_ic f_R_count_71 ?_
    refine r_iald f_R_count_72 (s_96) (show q_ix 1 1 136 from ⟨by decide, by decide⟩) ?_
    rw [hC.1.s (k := 1) (by decide)]
    refine r_iret f_R_count_73 ⟨_, rfl, rfl⟩ (Nat.le_refl _) (Nat.le_refl _) ?_
    exact hk _ _ hC q_lw.rf
  refine r_swc (k := 3) (by decide) (fun e1_3 => ?_) (fun e1_3 => ?_)
  · rw [if_neg e1_0, if_neg e1_1, if_neg e1_2, if_pos e1_3] at hk
    refine r_ald0 f_R_count_74 ?_
    refine r_gr f_R_count_75 (s_95) (r_95_0) ?_
    refine r_ic f_R_count_78 ?_
    refine r_iald f_R_count_79 (s_96) (show q_ix 3 3 136 from ⟨by decide, by decide⟩) ?_
    rw [hC.1.s (k := 3) (by decide)]
    refine r_iret f_R_count_80 ⟨_, rfl, rfl⟩ (Nat.le_refl _) (Nat.le_refl _) ?_
    exact hk _ _ hC q_lw.rf
  refine r_swc (k := 4) (by decide) (fun e1_4 => ?_) (fun e1_4 => ?_)
  · rw [if_neg e1_0, if_neg e1_1, if_neg e1_2, if_neg e1_3, if_pos e1_4] at hk
    refine r_ald0 f_R_count_81 ?_
    refine r_gr f_R_count_82 (s_95) (r_95_0) ?_
    refine r_ic f_R_count_85 ?_
    refine r_iald f_R_count_86 (s_96) (show q_ix 4 4 136 from ⟨by decide, by decide⟩) ?_
    rw [hC.1.s (k := 4) (by decide)]
    refine r_iret f_R_count_87 ⟨_, rfl, rfl⟩ (Nat.le_refl _) (Nat.le_refl _) ?_
    exact hk _ _ hC q_lw.rf
  refine r_swc (k := 5) (by decide) (fun e1_5 => ?_) (fun e1_5 => ?_)
  · rw [if_neg e1_0, if_neg e1_1, if_neg e1_2, if_neg e1_3, if_neg e1_4, if_pos e1_5] at hk
    refine r_ald0 f_R_count_88 ?_
    refine r_gr f_R_count_89 (s_95) (r_95_0) ?_
    refine r_ic f_R_count_92 ?_
    refine r_iald f_R_count_94 (s_96) (show q_ix 11 11 136 from ⟨by decide, by decide⟩) ?_
    rw [hC.1.2]
    refine r_if_le f_R_count_95 (fun h95 => ?_) (fun h95 => ?_)
    · rw [if_pos ((hC.1.n0 hl).mp h95)] at hk
      refine r_ic f_R_count_102 ?_
      refine r_iret f_R_count_103 ⟨_, rfl, rfl⟩ (Nat.le_refl _) (Nat.le_refl _) ?_
      exact hk _ _ hC q_lw.rf
    · rw [if_neg (fun q => h95 ((hC.1.n0 hl).mpr q))] at hk
      refine r_ic f_R_count_98 ?_
      refine r_goto f_R_count_99 ?_
      refine r_iret f_R_count_103 ⟨_, rfl, rfl⟩ (Nat.le_refl _) (Nat.le_refl _) ?_
      exact hk _ _ hC q_lw.rf
  refine r_swc (k := 6) (by decide) (fun e1_6 => ?_) (fun e1_6 => ?_)
  · rw [if_neg e1_0, if_neg e1_1, if_neg e1_2, if_neg e1_3, if_neg e1_4, if_neg e1_5, if_pos e1_6] at hk
    refine r_ald0 f_R_count_104 ?_
    refine r_gi f_R_count_105 (s_95) ?_
    rw [hC.2.2.2.1.1]
    refine r_iret f_R_count_108 ⟨_, rfl, rfl⟩ (Nat.le_refl _) (Nat.le_refl _) ?_
    exact hk _ _ hC q_lw.rf
  refine r_swc (k := 7) (by decide) (fun e1_7 => ?_) (fun e1_7 => ?_)
  · rw [if_neg e1_0, if_neg e1_1, if_neg e1_2, if_neg e1_3, if_neg e1_4, if_neg e1_5, if_neg e1_6, if_pos e1_7] at hk
    refine r_ald0 f_R_count_109 ?_
    refine r_gr f_R_count_110 (s_95) (r_95_0) ?_
    refine r_ic f_R_count_113 ?_
    refine r_iald f_R_count_114 (s_96) (show q_ix 2 2 136 from ⟨by decide, by decide⟩) ?_
    rw [hC.1.s (k := 2) (by decide)]
    refine r_iret f_R_count_115 ⟨_, rfl, rfl⟩ (Nat.le_refl _) (Nat.le_refl _) ?_
    exact hk _ _ hC q_lw.rf
  refine r_swc (k := 8) (by decide) (fun e1_8 => ?_) (fun e1_8 => ?_)
  · rw [if_neg e1_0, if_neg e1_1, if_neg e1_2, if_neg e1_3, if_neg e1_4, if_neg e1_5, if_neg e1_6, if_neg e1_7, if_pos e1_8] at hk
    refine r_ald0 f_R_count_116 ?_
    refine c_R_hoursAll f_R_count_117 (s_95) (Nat.le_of_ble_eq_true rfl) (Nat.le_refl _) (Nat.le_refl _) ?_
    refine k_R_hoursAll hW.1 hC.1 ?_
    refine r_iret f_R_count_120 ⟨_, rfl, rfl⟩ (Nat.le_refl _) (Nat.le_refl _) ?_
    exact hk _ _ hC q_lw.rf
  refine r_swn ?_
  rw [if_neg e1_0, if_neg e1_1, if_neg e1_2, if_neg e1_3, if_neg e1_4, if_neg e1_5, if_neg e1_6, if_neg e1_7, if_neg e1_8] at hk
  refine r_ald0 f_R_count_121 ?_
  refine r_ic f_R_count_122 ?_
  refine c_R_finds f_R_count_124 (s_95) (Nat.le_of_ble_eq_true rfl) (Nat.le_refl _) (Nat.le_refl _) ?_
  refine k_R_finds (k := 0) (by decide) (by decide) hC hW (fun I9 hC9 hi9 => ?_)
  refine r_iret f_R_count_127 ⟨_, rfl, rfl⟩ (Nat.le_refl _) (Nat.le_refl _) ?_
  exact hk _ _ hC9 hi9
end L55
