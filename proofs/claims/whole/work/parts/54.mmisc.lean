section L54
variable {G : Gx} {d : Nat} {I I' I2 : Rn} {L L' L2 : Rl} {K : Kt} {σ : St} {D : Dst}
theorem RepM.mk' {k : Option Dst} {t : List Int32} (h : RepM I L σ) (h1 : RR I' 96 σ.1) (h2 : match k with
    | none => I' 95 3 = 0
    | some D => I' 95 3 = 1 ∧ RR I' 97 D) (h3 : ∀ x y, (x = 99 ∨ x = 109 ∨ x = 110 ∨ (x = 95 ∧ y = 5)) → I' x y = I x y) (h4 : I' 95 25 = nI t.length ∧ ∀ (j : Nat) (x : Int32), t[j]? = some x → I' 104 j = x) : RepM I' L (σ.1, k, σ.2.2.1, t, σ.2.2.2.2) :=
  ⟨h1, h2, ⟨fun j hj => (h3 99 j (by omega)).trans (h.2.2.1.1 j hj), (h3 95 5 (by omega)).trans h.2.2.1.2⟩, h4, fun s hs => ⟨(h3 109 s (by omega)).trans (h.2.2.2.2 s hs).1, (h3 110 s (by omega)).trans (h.2.2.2.2 s hs).2.1, (h.2.2.2.2 s hs).2.2⟩⟩
theorem RepM.kp (h : RepM I L σ) (hW : WFs σ) (e3 : I' 95 3 = I 95 3) (e : ∀ x y, x = 97 → I' x y = I x y) : match σ.2.1 with
    | none => I' 95 3 = 0
    | some D => I' 95 3 = 1 ∧ RR I' 97 D := by
  have h2 := h.2.1
  cases hk : σ.2.1 with
  | none =>
    rw [hk] at h2
    exact e3.trans h2
  | some E =>
    rw [hk] at h2
    exact ⟨e3.trans h2.1, h2.2.rows (hW.2.1 E hk).2.2.2.2.2.2.2.1 e⟩
theorem k_R_wipe (hC : RepM I L σ) (hW : WFs σ) (hk : MK K I L (op_wipe σ)) : WW G d mt_R_wipe 0 [some (.ref 95), none] [] SH RF I L 0 0 0 0 K := by
  unfold op_wipe at hk
  have hcnt := hC.1.cnt hW.1
  have hc8 := hW.1.1.1
  refine r_ald0 f_R_wipe_0 ?_
  refine r_gi f_R_wipe_1 (s_95) ?_
  rw [hC.2.2.2.1.1]
  refine r_ist1 f_R_wipe_4 rfl ?_
  refine r_ald0 f_R_wipe_5 ?_
  refine r_ic f_R_wipe_6 ?_
  refine r_pi f_R_wipe_7 (s_95) ?_
  refine r_ild1 f_R_wipe_10 ?_
  refine r_iret f_R_wipe_11 ⟨_, rfl, rfl⟩ (Nat.le_refl _) (Nat.le_refl _) ?_
  exact hk _ _ (hC.mk' (hC.1.rows hW.1.2.2.2.2.2.2.2.1 (fun x y w => u2_ne (Or.inl (by omega)))) (hC.kp hW (u2_ne (Or.inr (by decide))) (fun x y w => u2_ne (Or.inl (by omega)))) (fun x y w => u2_ne (by omega)) ⟨u2_self, fun j x hx => by cases hx⟩) (q_lw.rf.u2 (by decide))
theorem RR.toX0 (h : RR I 96 D) : RR (u2 I 96 11 0) 96 (eX D []) := by
  refine ⟨?_, u2_self⟩
  rw [← h.1]
  unfold vR eX
  rw [u2_self]
  refine Prod.ext ?_ (Prod.ext ?_ (Prod.ext ?_ (Prod.ext ?_ rfl)))
  · funext i k
    dsimp only
    rw [u2_ne (Or.inr (by omega))]
  · funext p
    dsimp only
    rw [u2_ne (Or.inr (by omega))]
  · funext p
    dsimp only
    by_cases hp : p < 5
    · rw [if_pos hp, if_pos hp, u2_ne (Or.inr (by omega))]
    · rw [if_neg hp, if_neg hp]
  · funext p
    dsimp only
    by_cases hp : p = 5
    · rw [if_pos hp, if_pos hp, u2_ne (Or.inr (by decide))]
    · rw [if_neg hp, if_neg hp]
      by_cases h5 : p < 5
      · rw [if_pos h5, if_pos h5, u2_ne (Or.inr (by omega))]
      · rw [if_neg h5, if_neg h5]
theorem k_R_plain (hC : RepM I L σ) (hW : WFs σ) (hk : MK K I L (op_plain σ)) : WW G d mt_R_plain 0 [some (.ref 95), none] [] SH RF I L 0 0 0 0 K := by
  unfold op_plain at hk
  have hcnt := hC.1.cnt hW.1
  have hc8 := hW.1.1.1
  have hl := hW.1.2.2.2.2.2.2.2.1
  refine r_ald0 f_R_plain_0 ?_
  refine r_gr f_R_plain_1 (s_95) (r_95_0) ?_
  refine r_ic f_R_plain_4 ?_
  refine r_iald f_R_plain_6 (s_96) (show q_ix 11 11 136 from ⟨by decide, by decide⟩) ?_
  rw [hC.1.2]
  refine r_if_le f_R_plain_7 (fun h7 => ?_) (fun h7 => ?_)
  · rw [if_pos ((hC.1.n0 hl).mp h7)] at hk
    refine r_ic f_R_plain_14 ?_
    refine r_ist1 f_R_plain_15 rfl ?_
    refine r_ald0 f_R_plain_16 ?_
    refine r_gr f_R_plain_17 (s_95) (r_95_0) ?_
    refine r_ic f_R_plain_20 ?_
    refine r_ic f_R_plain_22 ?_
    refine r_iast f_R_plain_23 (s_96) (show q_ix 11 11 136 from ⟨by decide, by decide⟩) ?_
    refine r_ild1 f_R_plain_24 ?_
    refine r_iret f_R_plain_25 ⟨_, rfl, rfl⟩ (Nat.le_refl _) (Nat.le_refl _) ?_
    exact hk _ _ (hC.n96 hW hC.1.toX0 (q_ag.rf.u2 rfl)) (q_lw.rf.u2 (by decide))
  · rw [if_neg (fun q => h7 ((hC.1.n0 hl).mpr q))] at hk
    refine r_ic f_R_plain_10 ?_
    refine r_goto f_R_plain_11 ?_
    refine r_ist1 f_R_plain_15 rfl ?_
    refine r_ald0 f_R_plain_16 ?_
    refine r_gr f_R_plain_17 (s_95) (r_95_0) ?_
    refine r_ic f_R_plain_20 ?_
    refine r_ic f_R_plain_22 ?_
    refine r_iast f_R_plain_23 (s_96) (show q_ix 11 11 136 from ⟨by decide, by decide⟩) ?_
    refine r_ild1 f_R_plain_24 ?_
    refine r_iret f_R_plain_25 ⟨_, rfl, rfl⟩ (Nat.le_refl _) (Nat.le_refl _) ?_
    exact hk _ _ (hC.n96 hW hC.1.toX0 (q_ag.rf.u2 rfl)) (q_lw.rf.u2 (by decide))
theorem k_R_status {w : Int32} (hC : RepM I L σ) (hW : WFs σ) (hk : MK K I L (op_status σ w)) : WW G (d + 1) mt_R_status 0 [some (.ref 95), some (.int w)] [] SH RF I L 0 0 0 0 K := by
  unfold op_status at hk
  have hcnt := hC.1.cnt hW.1
  have hc8 := hW.1.1.1
  refine r_ild1 f_R_status_0 ?_
  refine r_ic f_R_status_1 ?_
  refine r_ic f_R_status_2 ?_
  refine c_R_in f_R_status_4 (Nat.le_of_ble_eq_true rfl) (Nat.le_refl _) (Nat.le_refl _) ?_
  refine k_R_in (fun hwa hwb => ?_) (fun hw => ?_)
  · rw [if_pos ⟨hwa, hwb⟩] at hk
    refine r_if_ne f_R_status_7 (fun _ => ?_) (fun h => absurd h (by decide))
    refine r_ild1 f_R_status_17 ?_
    refine r_if_ge f_R_status_18 (fun h18 => ?_) (fun h18 => ?_)
    · rw [if_neg (Int32.not_lt.mpr h18)] at hk
      obtain ⟨u, hu, eu⟩ := q_inC (c := 7) (by omega) h18 hwb
      subst eu
      rw [nI_clamp (by omega)] at hk
      refine r_ald0 f_R_status_28 ?_
      refine r_gr f_R_status_29 (s_95) (r_95_4) ?_
      refine r_ild1 f_R_status_32 ?_
      refine r_iald f_R_status_33 (s_99) (q_ix.nI (show u < 7 by omega) (by decide)) ?_
      refine r_iret f_R_status_34 ⟨_, rfl, rfl⟩ (Nat.le_refl _) (Nat.le_refl _) ?_
      first | exact hk _ _ hC q_lw.rf | (rw [hC.2.2.1.1 u hu]; exact hk _ _ hC q_lw.rf)
    · rw [if_pos (Int32.not_le.mp h18)] at hk
      refine r_ald0 f_R_status_21 ?_
      refine r_gi f_R_status_22 (s_95) ?_
      rw [hC.2.2.1.2]
      refine r_goto f_R_status_25 ?_
      refine r_iret f_R_status_34 ⟨_, rfl, rfl⟩ (Nat.le_refl _) (Nat.le_refl _) ?_
      first | exact hk _ _ hC q_lw.rf | (rw [hC.2.2.1.1 u hu]; exact hk _ _ hC q_lw.rf)
  · rw [if_neg hw] at hk
    refine r_if_ne f_R_status_7 (fun h => absurd h (by decide)) (fun _ => ?_)
    refine r_ald0 f_R_status_10 ?_
    refine r_ic f_R_status_11 ?_
    refine c_R_finds f_R_status_13 (s_95) (Nat.le_of_ble_eq_true rfl) (Nat.le_refl _) (Nat.le_refl _) ?_
    refine k_R_finds (k := 0) (by decide) (by decide) hC hW (fun I9 hC9 hi9 => ?_)
    refine r_iret f_R_status_16 ⟨_, rfl, rfl⟩ (Nat.le_refl _) (Nat.le_refl _) ?_
    exact hk _ _ hC9 hi9
end L54
