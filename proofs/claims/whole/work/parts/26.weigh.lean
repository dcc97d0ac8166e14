section L26
variable {G : Gx} {d : Nat} {I : Rn} {L : Rl} {K : Kt}
/-- what weighing writes: the text's scratch, the row of pays, the meets -/
def FW (b : Nat) : Nat → Nat → Prop := fun x y => FT (b + 4) x y ∨ x = b + 8 ∨ ∃ i, i < 8 ∧ x = b + 10 + 2 * i
theorem RD.eqs {b : Nat} {D : Dst} {I' : Rn} (h : RD I b D) (e1 : ∀ i k, i < 8 → I' (b + 9 + 2 * i) k = I (b + 9 + 2 * i) k) (e2 : ∀ p, I' (b + 2) p = I (b + 2) p) (e3 : ∀ p, I' (b + 3) p = I (b + 3) p) (e4 : ∀ p, I' b p = I b p) (e5 : I' (b + 4) 3 = I (b + 4) 3) (e6 : ∀ p, I' (b + 5) p = I (b + 5) p) : RD I' b D := by
  refine ⟨?_, e5.trans h.2.1, fun j hj => by rw [e6 j]; exact h.2.2 j hj⟩
  rw [← h.1]
  unfold vD
  simp only [e2, e3, e4, e5, e6]
  congr 1
  funext i k
  by_cases hi : i < 8 ∧ k < 7
  · rw [if_pos hi, if_pos hi, e1 i k hi.1]
  · rw [if_neg hi, if_neg hi]
theorem RD.agW {b : Nat} {D : Dst} {I' : Rn} (hb : q_D b) (h : RD I b D) (hg : q_ag (FW b) I I') : RD I' b D := by
  have nf : ∀ x y, (x < b + 4 ∨ x = b + 5 ∨ (x = b + 4 ∧ y = 3)) → ¬ FW b x y := by
    intro x y hx hq
    rcases hq with hq | hq | ⟨i, h1, h2⟩
    · unfold FT at hq
      omega
    · omega
    · omega
  have nf2 : ∀ i y, i < 8 → ¬ FW b (b + 9 + 2 * i) y := by
    intro i y hi hq
    rcases hq with hq | hq | ⟨j, h1, h2⟩
    · unfold FT at hq
      omega
    · omega
    · omega
  exact h.eqs (fun i k hi => hg _ _ (nf2 i k hi)) (fun p => hg _ _ (nf _ _ (by omega))) (fun p => hg _ _ (nf _ _ (by omega))) (fun p => hg _ _ (nf _ _ (by omega))) (hg _ _ (nf _ _ (by omega))) (fun p => hg _ _ (nf _ _ (by omega)))
/-- what is at rest between an owner and a taker: a MEET's fields -/
def sp_mrow (D : Dst) (o t : Nat) (x y : Int32) : Nat → Int32 :=
  let w := sp_wants (D.1 t 0) (D.1 t 6) y (D.2.2.2.1 1)
  let g := D.2.2.1 0 * D.2.2.1 1 / 100
  let mi := sp_minds (D.1 o 0) (D.1 o 3) (D.1 o 6)
  let si := if 100 < D.1 o 4 + D.2.2.1 3 then 100 else D.1 o 4 + D.2.2.1 3
  let ch := sp_set w x g mi si (D.2.2.1 0)
  fun k => ([nI o, nI t, w, x, g, mi, si, ch.1, ch.2.1, ch.2.2.1, ch.2.2.2, q_mill ch.1.toInt64 ch.2.1.toInt64, q_mill ch.2.2.1.toInt64 ch.2.2.2.toInt64] : List Int32).getD k 0
theorem k_D_weighMeet {b q ow tk : Nat} {x y : Int32} {D : Dst} (hb : q_D b) (hq : SH[q]? = some (2, 13)) (ho : ow < 8) (ht : tk < 8) (hR : RD I b D) (hk : ∀ I', q_ag (fun x _ => x = q) I I' → (∀ k, k < 13 → I' q k = sp_mrow D ow tk x y k) → K none SH RF I' L) : WW G (d + 3) mt_D_weighMeet 0 [some (.ref b), some (.ref q), some (.int (nI ow)), some (.int x), some (.int (nI tk)), some (.int y)] [] SH RF I L 0 0 0 0 K := by
  have n1 : b ≠ q := fun e => by rw [← e, sD hb] at hq; cases hq
  have n2 : b + 3 ≠ q := fun e => by rw [← e, sD3 hb] at hq; cases hq
  have n3 : b + 9 + 2 * tk ≠ q := fun e => by rw [← e, sDF hb ht] at hq; cases hq
  have n4 : b + 9 + 2 * ow ≠ q := fun e => by rw [← e, sDF hb ho] at hq; cases hq
  have t0 : I (b + 9 + 2 * tk) 0 = D.1 tk 0 := by rw [← hR.1]; exact (vD_f ht (by decide)).symm
  have t6 : I (b + 9 + 2 * tk) 6 = D.1 tk 6 := by rw [← hR.1]; exact (vD_f ht (by decide)).symm
  have o0 : I (b + 9 + 2 * ow) 0 = D.1 ow 0 := by rw [← hR.1]; exact (vD_f ho (by decide)).symm
  have o3 : I (b + 9 + 2 * ow) 3 = D.1 ow 3 := by rw [← hR.1]; exact (vD_f ho (by decide)).symm
  have o4 : I (b + 9 + 2 * ow) 4 = D.1 ow 4 := by rw [← hR.1]; exact (vD_f ho (by decide)).symm
  have o6 : I (b + 9 + 2 * ow) 6 = D.1 ow 6 := by rw [← hR.1]; exact (vD_f ho (by decide)).symm
  have u0 : I (b + 3) 0 = D.2.2.1 0 := by rw [← hR.1]; rfl
  have u1 : I (b + 3) 1 = D.2.2.1 1 := by rw [← hR.1]; rfl
  have u3 : I (b + 3) 3 = D.2.2.1 3 := by rw [← hR.1]; rfl
  have s1 : I b 6 = D.2.2.2.1 1 := by rw [← hR.1]; rfl
  refine r_ald1 f_D_weighMeet_0 ?_
  refine r_ild2 f_D_weighMeet_1 ?_
  refine r_pi f_D_weighMeet_2 (hq) ?_
  refine r_ald1 f_D_weighMeet_5 ?_
  refine r_ild4 f_D_weighMeet_6 ?_
  refine r_pi f_D_weighMeet_8 (hq) ?_
  refine r_ald1 f_D_weighMeet_11 ?_
  refine r_ald0 f_D_weighMeet_12 ?_
  refine r_gr f_D_weighMeet_13 (sD hb) (rD0 hb) ?_
  refine r_ild4 f_D_weighMeet_16 ?_
  refine r_aald f_D_weighMeet_18 (Or.inl rfl) (sD1 hb) (q_ix.nI (by omega) (by decide)) (rDF hb (by omega)) ?_
  refine r_ild5 f_D_weighMeet_19 ?_
  refine r_ald0 f_D_weighMeet_21 ?_
  refine r_gi f_D_weighMeet_22 (sD hb) ?_
  simp only [u2_row n1, s1]
  refine c_F_wants f_D_weighMeet_25 (sDF hb (by omega)) (Nat.le_of_ble_eq_true rfl) (Nat.le_refl _) (Nat.le_refl _) ?_
  refine k_F_wants (sDF hb ht) ?_
  simp only [u2_row n3, t0, t6]
  refine r_pi f_D_weighMeet_28 (hq) ?_
  refine r_ald1 f_D_weighMeet_31 ?_
  refine r_ild3 f_D_weighMeet_32 ?_
  refine r_pi f_D_weighMeet_33 (hq) ?_
  refine r_ald1 f_D_weighMeet_36 ?_
  refine r_ald0 f_D_weighMeet_37 ?_
  refine r_gr f_D_weighMeet_38 (sD hb) (rD2 hb) ?_
  refine r_ic f_D_weighMeet_41 ?_
  refine r_iald f_D_weighMeet_42 (sD3 hb) (show q_ix 0 0 5 from ⟨by decide, by decide⟩) ?_
  simp only [u2_row n2, u0]
  refine r_ald0 f_D_weighMeet_43 ?_
  refine r_gr f_D_weighMeet_44 (sD hb) (rD2 hb) ?_
  refine r_ic f_D_weighMeet_47 ?_
  refine r_iald f_D_weighMeet_48 (sD3 hb) (show q_ix 1 1 5 from ⟨by decide, by decide⟩) ?_
  simp only [u2_row n2, u1]
  refine r_imul f_D_weighMeet_49 ?_
  refine r_ic f_D_weighMeet_50 ?_
  refine r_idiv f_D_weighMeet_52 (by decide) ?_
  refine r_pi f_D_weighMeet_53 (hq) ?_
  refine r_ald1 f_D_weighMeet_56 ?_
  refine r_ald0 f_D_weighMeet_57 ?_
  refine r_gr f_D_weighMeet_58 (sD hb) (rD0 hb) ?_
  refine r_ild2 f_D_weighMeet_61 ?_
  refine r_aald f_D_weighMeet_62 (Or.inl rfl) (sD1 hb) (q_ix.nI (by omega) (by decide)) (rDF hb (by omega)) ?_
  refine c_F_minds f_D_weighMeet_63 (sDF hb (by omega)) (Nat.le_of_ble_eq_true rfl) (Nat.le_refl _) (Nat.le_refl _) ?_
  refine k_F_minds (sDF hb ho) ?_
  simp only [u2_row n4, o0, o3, o6]
  refine r_pi f_D_weighMeet_66 (hq) ?_
  refine r_ald1 f_D_weighMeet_69 ?_
  refine r_ald0 f_D_weighMeet_70 ?_
  refine r_gr f_D_weighMeet_71 (sD hb) (rD0 hb) ?_
  refine r_ild2 f_D_weighMeet_74 ?_
  refine r_aald f_D_weighMeet_75 (Or.inl rfl) (sD1 hb) (q_ix.nI (by omega) (by decide)) (rDF hb (by omega)) ?_
  refine r_gi f_D_weighMeet_76 (sDF hb (by omega)) ?_
  simp only [u2_row n4, o4]
  refine r_ald0 f_D_weighMeet_79 ?_
  refine r_gr f_D_weighMeet_80 (sD hb) (rD2 hb) ?_
  refine r_ic f_D_weighMeet_83 ?_
  refine r_iald f_D_weighMeet_84 (sD3 hb) (show q_ix 3 3 5 from ⟨by decide, by decide⟩) ?_
  simp only [u2_row n2, u3]
  refine r_iadd f_D_weighMeet_85 ?_
  refine r_ic f_D_weighMeet_86 ?_
  refine r_minI f_D_weighMeet_88 (Nat.le_of_ble_eq_true rfl) (Nat.le_refl _) (Nat.le_refl _) ?_
  refine r_pi f_D_weighMeet_91 (hq) ?_
  refine r_ald1 f_D_weighMeet_94 ?_
  refine r_ald0 f_D_weighMeet_95 ?_
  refine r_gr f_D_weighMeet_96 (sD hb) (rD2 hb) ?_
  refine r_ic f_D_weighMeet_99 ?_
  refine r_iald f_D_weighMeet_100 (sD3 hb) (show q_ix 0 0 5 from ⟨by decide, by decide⟩) ?_
  simp only [u2_row n2, u0]
  refine c_M_settle f_D_weighMeet_101 (hq) (Nat.le_of_ble_eq_true rfl) (Nat.le_refl _) (Nat.le_refl _) ?_
  refine k_M_settle hq ?_
  refine r_ret f_D_weighMeet_104 rfl (Nat.le_refl _) (Nat.le_refl _) ?_
  refine hk _ ?_ ?_
  · unfold up_st up_ch
    iterate 13 refine q_ag.u2 ?_ rfl
    exact q_ag.rf
  · intro k hk13
    unfold up_st up_ch sp_mrow
    match k, hk13 with
    | 0, _ => simp [u2]
    | 1, _ => simp [u2]
    | 2, _ => simp [u2]
    | 3, _ => simp [u2]
    | 4, _ => simp [u2]
    | 5, _ => simp [u2]
    | 6, _ => simp [u2]
    | 7, _ => simp [u2]
    | 8, _ => simp [u2]
    | 9, _ => simp [u2]
    | 10, _ => simp [u2]
    | 11, _ => simp [u2]
    | 12, _ => simp [u2]
def sp_PA (D : Dst) (p : Nat) : Int32 := sp_pays (D.1 (dO D p) 2) (sp_gives D (dO D p) p)
def sp_nx (D : Dst) (p : Nat) : Nat := if p + 1 < dC D then p + 1 else 0
def sp_mt (D : Dst) (p : Nat) : Nat → Int32 := sp_mrow D (dO D p) (dO D (sp_nx D p)) (sp_PA D p) (sp_PA D (sp_nx D p))
theorem k_D_weigh_2 {b : Nat} {D : Dst} (hb : q_D b) (hR : RD I b D) (hW : WFd D) (hk : ∀ I', q_ag (FW b) I I' → (∀ p k, p < sp_mc (dC D) → k < 13 → I' (b + 10 + 2 * p) k = sp_mt D p k) → K none SH RF I' L) :
    ∀ (n p : Nat) (I' : Rn), sp_mc (dC D) - p < n → p ≤ sp_mc (dC D) → q_ag (FW b) I I' → (∀ i, i < dC D → I' (b + 8) i = sp_PA D i) → (∀ i k, i < p → k < 13 → I' (b + 10 + 2 * i) k = sp_mt D i k) → WW G (d + 4) mt_D_weigh 35 [some (.ref b), some (.int (nI p)), none] [] SH RF I' L 0 0 0 0 K
  | 0, p, I', hn, hp, hg, hpa, hm => by omega
  | n + 1, p, I', hn, hp, hg, hpa, hm => by
    have hc8 := hW.1.1
    have hR' := hR.agW hb hg
    have hmc : sp_mc (dC D) ≤ dC D := by unfold sp_mc; split <;> omega
    refine r_ild1 f_D_weigh_35 ?_
    refine r_ald0 f_D_weigh_36 ?_
    refine c_D_meetCount f_D_weigh_37 (sD hb) (Nat.le_of_ble_eq_true rfl) (Nat.le_refl _) (Nat.le_refl _) ?_
    refine k_D_meetCount hb (hR'.cnt hW) hc8 ?_
    refine r_ic_ge f_D_weigh_40 (fun h40 => ?_) (fun h40 => ?_)
    · refine r_ret f_D_weigh_101 rfl (Nat.le_refl _) (Nat.le_refl _) ?_
      have e : p = sp_mc (dC D) := by
        have := q_le2 h40 (by omega)
        omega
      subst e
      exact hk I' hg hm
    · have hpm : p < sp_mc (dC D) := q_lt2 h40 (by omega)
      have hpc : p < dC D := by omega
      have hmc2 : sp_mc (dC D) = dC D ∧ 2 ≤ dC D := by
        unfold sp_mc at hpm ⊢
        split at hpm
        · omega
        · rename_i hq
          rw [if_neg hq]
          omega
      have hnx : sp_nx D p < dC D := by unfold sp_nx; split <;> omega
      refine r_ild1 f_D_weigh_43 ?_
      refine r_ic f_D_weigh_44 ?_
      refine r_iadd f_D_weigh_45 ?_
      refine r_ald0 f_D_weigh_46 ?_
      refine r_gi f_D_weigh_47 (sD hb) ?_
      rw [hR'.cnt hW, nI_1]
      refine r_ic_ge f_D_weigh_50 (fun h50 => ?_) (fun h50 => ?_)
      · refine r_ic f_D_weigh_59 ?_
        first | rw [nI_1] | skip
        have enx : (0 : Int32) = nI (sp_nx D p) := by
          unfold sp_nx
          first | rw [if_pos (q_lt2 h50 (by omega))] | (rw [if_neg (Nat.not_lt.mpr (q_le2 h50 (by omega)))]; rfl)
        rw [enx]
        refine r_ist2 f_D_weigh_60 rfl ?_
        refine r_ald0 f_D_weigh_61 ?_
        refine r_ald0 f_D_weigh_62 ?_
        refine r_gr f_D_weigh_63 (sD hb) (rD10 hb) ?_
        refine r_ild1 f_D_weigh_66 ?_
        refine r_aald f_D_weigh_67 (Or.inr (Or.inl rfl)) (sD7 hb) (q_ix.nI (by omega) (by decide)) (rDM hb (by omega)) ?_
        refine r_ald0 f_D_weigh_68 ?_
        refine r_gr f_D_weigh_69 (sD hb) (rD1 hb) ?_
        refine r_ild1 f_D_weigh_72 ?_
        refine r_iald f_D_weigh_73 (sD2 hb) (q_ix.nI (by omega) (by decide)) ?_
        refine r_ald0 f_D_weigh_74 ?_
        refine r_gr f_D_weigh_75 (sD hb) (rD11 hb) ?_
        refine r_ild1 f_D_weigh_78 ?_
        refine r_iald f_D_weigh_79 (sD8 hb) (q_ix.nI (by omega) (by decide)) ?_
        refine r_ald0 f_D_weigh_80 ?_
        refine r_gr f_D_weigh_81 (sD hb) (rD1 hb) ?_
        refine r_ild2 f_D_weigh_84 ?_
        refine r_iald f_D_weigh_85 (sD2 hb) (q_ix.nI (show sp_nx D p < 8 by omega) (by decide)) ?_
        refine r_ald0 f_D_weigh_86 ?_
        refine r_gr f_D_weigh_87 (sD hb) (rD11 hb) ?_
        refine r_ild2 f_D_weigh_90 ?_
        refine r_iald f_D_weigh_91 (sD8 hb) (q_ix.nI (show sp_nx D p < 8 by omega) (by decide)) ?_
        refine c_D_weighMeet f_D_weigh_92 (sD hb) (Nat.le_of_ble_eq_true rfl) (Nat.le_refl _) (Nat.le_refl _) ?_
        rw [q_dOn hR'.1 hW hpc, q_dOn hR'.1 hW hnx, hpa p hpc, hpa _ hnx]
        refine k_D_weighMeet hb (sDM hb (by omega)) (by have := (hW.2.1 p hpc).1; omega) (by have := (hW.2.1 _ hnx).1; omega) hR' (fun I2 g2 m2 => ?_)
        refine r_inc1 f_D_weigh_95 rfl ?_
        refine r_goto f_D_weigh_98 ?_
        refine r_drop2 ?_
        rw [nI_1]
        have hd2 : ∀ x y, x ≠ b + 10 + 2 * p → I2 x y = I' x y := fun x y hx => g2 x y hx
        refine k_D_weigh_2 hb hR hW hk n (p + 1) I2 (by omega) (by omega) (hg.tr (g2.mo (fun x y hx => Or.inr (Or.inr ⟨p, by omega, hx⟩)))) (fun i hi => ?_) (fun i k hi hk13 => ?_)
        · rw [hd2 _ _ (by omega)]
          exact hpa i hi
        · by_cases e : i = p
          · subst e
            exact m2 k hk13
          · rw [hd2 _ _ (by omega)]
            exact hm i k (by omega) hk13
      · refine r_ild1 f_D_weigh_53 ?_
        refine r_ic f_D_weigh_54 ?_
        refine r_iadd f_D_weigh_55 ?_
        refine r_goto f_D_weigh_56 ?_
        first | rw [nI_1] | skip
        have enx : (nI (p + 1) : Int32) = nI (sp_nx D p) := by
          unfold sp_nx
          first | rw [if_pos (q_lt2 h50 (by omega))] | (rw [if_neg (Nat.not_lt.mpr (q_le2 h50 (by omega)))]; rfl)
        rw [enx]
        refine r_ist2 f_D_weigh_60 rfl ?_
        refine r_ald0 f_D_weigh_61 ?_
        refine r_ald0 f_D_weigh_62 ?_
        refine r_gr f_D_weigh_63 (sD hb) (rD10 hb) ?_
        refine r_ild1 f_D_weigh_66 ?_
        refine r_aald f_D_weigh_67 (Or.inr (Or.inl rfl)) (sD7 hb) (q_ix.nI (by omega) (by decide)) (rDM hb (by omega)) ?_
        refine r_ald0 f_D_weigh_68 ?_
        refine r_gr f_D_weigh_69 (sD hb) (rD1 hb) ?_
        refine r_ild1 f_D_weigh_72 ?_
        refine r_iald f_D_weigh_73 (sD2 hb) (q_ix.nI (by omega) (by decide)) ?_
        refine r_ald0 f_D_weigh_74 ?_
        refine r_gr f_D_weigh_75 (sD hb) (rD11 hb) ?_
        refine r_ild1 f_D_weigh_78 ?_
        refine r_iald f_D_weigh_79 (sD8 hb) (q_ix.nI (by omega) (by decide)) ?_
        refine r_ald0 f_D_weigh_80 ?_
        refine r_gr f_D_weigh_81 (sD hb) (rD1 hb) ?_
        refine r_ild2 f_D_weigh_84 ?_
        refine r_iald f_D_weigh_85 (sD2 hb) (q_ix.nI (show sp_nx D p < 8 by omega) (by decide)) ?_
        refine r_ald0 f_D_weigh_86 ?_
        refine r_gr f_D_weigh_87 (sD hb) (rD11 hb) ?_
        refine r_ild2 f_D_weigh_90 ?_
        refine r_iald f_D_weigh_91 (sD8 hb) (q_ix.nI (show sp_nx D p < 8 by omega) (by decide)) ?_
        refine c_D_weighMeet f_D_weigh_92 (sD hb) (Nat.le_of_ble_eq_true rfl) (Nat.le_refl _) (Nat.le_refl _) ?_
        rw [q_dOn hR'.1 hW hpc, q_dOn hR'.1 hW hnx, hpa p hpc, hpa _ hnx]
        refine k_D_weighMeet hb (sDM hb (by omega)) (by have := (hW.2.1 p hpc).1; omega) (by have := (hW.2.1 _ hnx).1; omega) hR' (fun I2 g2 m2 => ?_)
        refine r_inc1 f_D_weigh_95 rfl ?_
        refine r_goto f_D_weigh_98 ?_
        refine r_drop2 ?_
        rw [nI_1]
        have hd2 : ∀ x y, x ≠ b + 10 + 2 * p → I2 x y = I' x y := fun x y hx => g2 x y hx
        refine k_D_weigh_2 hb hR hW hk n (p + 1) I2 (by omega) (by omega) (hg.tr (g2.mo (fun x y hx => Or.inr (Or.inr ⟨p, by omega, hx⟩)))) (fun i hi => ?_) (fun i k hi hk13 => ?_)
        · rw [hd2 _ _ (by omega)]
          exact hpa i hi
        · by_cases e : i = p
          · subst e
            exact m2 k hk13
          · rw [hd2 _ _ (by omega)]
            exact hm i k (by omega) hk13
theorem k_D_weigh_1 {b : Nat} {D : Dst} (hb : q_D b) (hR : RD I b D) (hW : WFd D) (hk : ∀ I', q_ag (FW b) I I' → (∀ p k, p < sp_mc (dC D) → k < 13 → I' (b + 10 + 2 * p) k = sp_mt D p k) → K none SH RF I' L) :
    ∀ (n p : Nat) (I' : Rn), dC D - p < n → p ≤ dC D → q_ag (FW b) I I' → (∀ i, i < p → I' (b + 8) i = sp_PA D i) → WW G (d + 4) mt_D_weigh 2 [some (.ref b), some (.int (nI p)), none] [] SH RF I' L 0 0 0 0 K
  | 0, p, I', hn, hp, hg, hpa => by omega
  | n + 1, p, I', hn, hp, hg, hpa => by
    have hc8 := hW.1.1
    have hR' := hR.agW hb hg
    refine r_ild1 f_D_weigh_2 ?_
    refine r_ald0 f_D_weigh_3 ?_
    refine r_gi f_D_weigh_4 (sD hb) ?_
    rw [hR'.cnt hW]
    refine r_ic_ge f_D_weigh_7 (fun h7 => ?_) (fun h7 => ?_)
    · refine r_ic f_D_weigh_33 ?_
      refine r_ist1 f_D_weigh_34 rfl ?_
      have e : p = dC D := by
        have := q_le2 h7 (by omega)
        omega
      subst e
      have e0 : (0 : Int32) = nI 0 := rfl
      rw [e0]
      exact k_D_weigh_2 hb hR hW hk (sp_mc (dC D) + 1) 0 I' (by omega) (Nat.zero_le _) hg hpa (fun i k hi => absurd hi (Nat.not_lt_zero i))
    · have hpc : p < dC D := q_lt2 h7 (by omega)
      have hof := (hW.2.1 p hpc).1
      refine r_ald0 f_D_weigh_10 ?_
      refine r_gr f_D_weigh_11 (sD hb) (rD11 hb) ?_
      refine r_ild1 f_D_weigh_14 ?_
      refine r_ald0 f_D_weigh_15 ?_
      refine r_ald0 f_D_weigh_16 ?_
      refine r_gr f_D_weigh_17 (sD hb) (rD1 hb) ?_
      refine r_ild1 f_D_weigh_20 ?_
      refine r_iald f_D_weigh_21 (sD2 hb) (q_ix.nI (by omega) (by decide)) ?_
      refine r_ild1 f_D_weigh_22 ?_
      refine c_D_paysAt f_D_weigh_23 (sD hb) (Nat.le_of_ble_eq_true rfl) (Nat.le_refl _) (Nat.le_refl _) ?_
      rw [q_dOn hR'.1 hW hpc]
      refine k_D_paysAt hb (by omega) hR' hW.2.2.2.2.2.2.2 (fun I2 g2 => ?_)
      refine r_iast f_D_weigh_26 (sD8 hb) (q_ix.nI (by omega) (by decide)) ?_
      refine r_inc1 f_D_weigh_27 rfl ?_
      refine r_goto f_D_weigh_30 ?_
      rw [nI_1]
      have g2' : ∀ x y, ¬ FT (b + 4) x y → I2 x y = I' x y := g2
      refine k_D_weigh_1 hb hR hW hk n (p + 1) _ (by omega) (by omega) ((hg.tr (g2.mo (fun x y h => Or.inl h))).u2 (Or.inr (Or.inl rfl))) (fun i hi => ?_)
      by_cases e : i = p
      · subst e
        exact u2_self
      · rw [u2_ne (Or.inr e), g2' _ _ (by unfold FT; omega)]
        exact hpa i (by omega)
theorem k_D_weigh {b : Nat} {D : Dst} (hb : q_D b) (hR : RD I b D) (hW : WFd D) (hk : ∀ I', q_ag (FW b) I I' → (∀ p k, p < sp_mc (dC D) → k < 13 → I' (b + 10 + 2 * p) k = sp_mt D p k) → K none SH RF I' L) : WW G (d + 4) mt_D_weigh 0 [some (.ref b), none, none] [] SH RF I L 0 0 0 0 K := by
  refine r_ic f_D_weigh_0 ?_
  refine r_ist1 f_D_weigh_1 rfl ?_
  have e0 : (0 : Int32) = nI 0 := rfl
  rw [e0]
  exact k_D_weigh_1 hb hR hW hk (dC D + 1) 0 I (by omega) (Nat.zero_le _) q_ag.rf (fun i hi => absurd hi (Nat.not_lt_zero i))
end L26
