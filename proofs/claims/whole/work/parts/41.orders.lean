section L41
variable {G : Gx} {d : Nat} {I I' I2 : Rn} {L L' L2 : Rl} {K : Kt} {σ : St} {D : Dst} {c : Nat}
def sp_pa (D : Dst) (f p : Nat) : Int32 := sp_pays (D.1 f 2) (sp_gives D f p)
def sp_lo (D : Dst) (x y p : Nat) : Int64 :=
  let r := sp_mrow D x y (sp_pa D x p) (sp_pa D y (sp_nx D p))
  sp_loses (r 11) (r 12) (r 6) (r 5) (D.2.2.1 2)
def FO : Nat → Nat → Prop := fun x y => FT 5 x y ∨ x = 77 ∨ x = 80 ∨ x = 79 ∨ (x = 76 ∧ y ≠ 4)
def OV (I I' : Rn) (D : Dst) (c : Nat) : Prop := RD I' 1 D ∧ I' 76 4 = nI c ∧ q_ag FO I I'
theorem RD.fo (h : RD I 1 D) (hg : q_ag FO I I') : RD I' 1 D := by
  have e : ∀ x y, ¬ FO x y → I' x y = I x y := hg
  refine h.eqs (fun i k hi => e _ _ ?_) (fun p => e _ _ ?_) (fun p => e _ _ ?_) (fun p => e _ _ ?_) (e _ _ ?_) (fun p => e _ _ ?_)
  all_goals unfold FO FT
  all_goals omega
theorem OV.st (h : OV I I' D c) (hg : q_ag FO I' I2) : OV I I2 D c := ⟨h.1.fo hg, (hg _ _ (by unfold FO FT; omega)).trans h.2.1, h.2.2.tr hg⟩
def q_py (D : Dst) (c : Nat) (I : Rn) (f p : Nat) : Prop := ∀ f' p', f' < c → p' < c → (f' < f ∨ (f' = f ∧ p' < p)) → I 77 (7 * f' + p') = sp_pa D f' p' 
theorem k_O_fp_in {f : Nat} (hW : WFd D) (hc7 : c ≤ 7) (hf : f < c) (hnext : ∀ I', OV I I' D c → q_py D c I' (f + 1) 0 → WW G (d + 4) mt_O_fillPays 2 [some (.ref 76), some (.ref 1), some (.int (nI (f + 1))), none] [] SH RF I' L 0 0 0 0 K) : ∀ (m p : Nat) (I' : Rn), m + p = c → OV I I' D c → q_py D c I' f p → WW G (d + 4) mt_O_fillPays 12 [some (.ref 76), some (.ref 1), some (.int (nI f)), some (.int (nI p))] [] SH RF I' L 0 0 0 0 K
  | 0, p, I', h, hv, hy => by
    have ep : p = c := by omega
    subst ep
    refine r_ild3 f_O_fillPays_12 ?_
    refine r_ald0 f_O_fillPays_13 ?_
    refine r_gi f_O_fillPays_14 (s_76) ?_
    rw [hv.2.1]
    refine r_ic_ge f_O_fillPays_17 (fun h17 => ?_) (fun h17 => absurd h17 (fun q => q (Int32.le_refl _)))
    refine r_inc2 f_O_fillPays_43 rfl ?_
    rw [nI_1]
    refine r_goto f_O_fillPays_46 ?_
    refine r_drop3 ?_
    exact hnext I' hv (fun f' p' h1 h2 h3 => hy f' p' h1 h2 (by omega))
  | m + 1, p, I', h, hv, hy => by
    refine r_ild3 f_O_fillPays_12 ?_
    refine r_ald0 f_O_fillPays_13 ?_
    refine r_gi f_O_fillPays_14 (s_76) ?_
    rw [hv.2.1]
    refine r_ic_ge f_O_fillPays_17 (fun h17 => absurd h17 (nI_ge (by omega) (by omega))) (fun h17 => ?_)
    refine r_ald0 f_O_fillPays_20 ?_
    refine r_gr f_O_fillPays_21 (s_76) (r_76_0) ?_
    refine r_ild2 f_O_fillPays_24 ?_
    refine r_ic f_O_fillPays_25 ?_
    refine r_imul f_O_fillPays_27 ?_
    refine r_ild3 f_O_fillPays_28 ?_
    refine r_iadd f_O_fillPays_29 ?_
    rw [show nI f * 7 = nI (7 * f) from by rw [Nat.mul_comm]; exact pk_mul f 7, nI_add]
    refine r_ald1 f_O_fillPays_30 ?_
    refine r_ild2 f_O_fillPays_31 ?_
    refine r_ild3 f_O_fillPays_32 ?_
    refine c_D_paysAt f_O_fillPays_33 (sD q_D1) (Nat.le_of_ble_eq_true rfl) (Nat.le_refl _) (Nat.le_refl _) ?_
    refine k_D_paysAt q_D1 (show f < 8 by omega) hv.1 hW.2.2.2.2.2.2.2 (fun I2 hg2 => ?_)
    refine r_iast f_O_fillPays_36 (s_77) (q_ix.nI (show 7 * f + p < 49 by omega) (by decide)) ?_
    refine r_inc3 f_O_fillPays_37 rfl ?_
    rw [nI_1]
    refine r_goto f_O_fillPays_40 ?_
    refine k_O_fp_in hW hc7 hf hnext m (p + 1) _ (by omega) ((hv.st (hg2.mo (fun x y q => Or.inl q))).st (q_ag.rf.u2 (Or.inr (Or.inl rfl)))) (fun f' p' h1 h2 h3 => ?_)
    by_cases e : f' = f ∧ p' = p
    · rw [e.1, e.2, u2_self]
      rfl
    · rw [u2_ne (Or.inr (by omega)), hg2 _ _ (by unfold FT; omega)]
      exact hy f' p' h1 h2 (by omega)
theorem k_O_fp_out (hW : WFd D) (hc7 : c ≤ 7) (hk : ∀ I', OV I I' D c → q_py D c I' c 0 → K none SH RF I' L) : ∀ (m f : Nat) (I' : Rn), m + f = c → OV I I' D c → q_py D c I' f 0 → WW G (d + 4) mt_O_fillPays 2 [some (.ref 76), some (.ref 1), some (.int (nI f)), none] [] SH RF I' L 0 0 0 0 K
  | 0, f, I', h, hv, hy => by
    have ep : f = c := by omega
    subst ep
    refine r_ild2 f_O_fillPays_2 ?_
    refine r_ald0 f_O_fillPays_3 ?_
    refine r_gi f_O_fillPays_4 (s_76) ?_
    rw [hv.2.1]
    refine r_ic_ge f_O_fillPays_7 (fun h7 => ?_) (fun h7 => absurd h7 (fun q => q (Int32.le_refl _)))
    refine r_ret f_O_fillPays_49 rfl (Nat.le_refl _) (Nat.le_refl _) ?_
    exact hk I' hv hy
  | m + 1, f, I', h, hv, hy => by
    refine r_ild2 f_O_fillPays_2 ?_
    refine r_ald0 f_O_fillPays_3 ?_
    refine r_gi f_O_fillPays_4 (s_76) ?_
    rw [hv.2.1]
    refine r_ic_ge f_O_fillPays_7 (fun h7 => absurd h7 (nI_ge (by omega) (by omega))) (fun h7 => ?_)
    refine r_ic f_O_fillPays_10 ?_
    refine r_ist3 f_O_fillPays_11 rfl ?_
    exact k_O_fp_in hW hc7 (by omega) (fun I2 hv2 hy2 => k_O_fp_out hW hc7 hk m (f + 1) I2 (by omega) hv2 hy2) c 0 I' rfl hv hy
theorem k_O_fillPays (hW : WFd D) (hc7 : c ≤ 7) (hv : OV I I D c) (hk : ∀ I', OV I I' D c → q_py D c I' c 0 → K none SH RF I' L) : WW G (d + 4) mt_O_fillPays 0 [some (.ref 76), some (.ref 1), none, none] [] SH RF I L 0 0 0 0 K := by
  refine r_ic f_O_fillPays_0 ?_
  refine r_ist2 f_O_fillPays_1 rfl ?_
  exact k_O_fp_out hW hc7 hk c 0 I rfl hv (fun f' p' h1 h2 h3 => by omega)
theorem k_O_index {x y p : Nat} (hk : K (some (.int (nI ((x * 7 + y) * 7 + p)))) SH RF I L) : WW G d mt_O_index 0 [some (.int (nI x)), some (.int (nI y)), some (.int (nI p))] [] SH RF I L 0 0 0 0 K := by
  refine r_ild0 f_O_index_0 ?_
  refine r_ic f_O_index_1 ?_
  refine r_imul f_O_index_3 ?_
  refine r_ild1 f_O_index_4 ?_
  refine r_iadd f_O_index_5 ?_
  refine r_ic f_O_index_6 ?_
  refine r_imul f_O_index_8 ?_
  refine r_ild2 f_O_index_9 ?_
  refine r_iadd f_O_index_10 ?_
  rw [show nI x * 7 = nI (x * 7) from pk_mul x 7, nI_add, show nI (x * 7 + y) * 7 = nI ((x * 7 + y) * 7) from pk_mul _ 7, nI_add]
  refine r_iret f_O_index_11 ⟨_, rfl, rfl⟩ (Nat.le_refl _) (Nat.le_refl _) ?_
  exact hk
def q_lo (lo : Nat → Nat → Nat → Int64) (c : Nat) (L : Rl) (x y p : Nat) : Prop := ∀ x' y' p', x' < c → y' < c → p' < c → (x' < x ∨ (x' = x ∧ (y' < y ∨ (y' = y ∧ p' < p)))) → L 78 ((x' * 7 + y') * 7 + p') = lo x' y' p'
def q_aL (P : Nat → Nat → Prop) (L L' : Rl) : Prop := ∀ x y, ¬ P x y → L' x y = L x y
theorem q_aL.rf {P : Nat → Nat → Prop} : q_aL P L L := fun _ _ _ => rfl
theorem q_aL.tr {P : Nat → Nat → Prop} (h : q_aL P L L') (h2 : q_aL P L' L2) : q_aL P L L2 := fun x y hp => (h2 x y hp).trans (h x y hp)
theorem q_aL.u2 {P : Nat → Nat → Prop} {i j : Nat} {v : Int64} (h : q_aL P L L') (hp : P i j) : q_aL P L (u2 L' i j v) := fun x y hn => by
  rw [u2_ne (by
    by_cases e : x = i
    · by_cases e2 : y = j
      · exact absurd (e ▸ e2 ▸ hp) hn
      · exact Or.inr e2
    · exact Or.inl e)]
  exact h x y hn
def F7 : Nat → Nat → Prop := fun x _ => x = 78
theorem k_O_fillLost_loop {x y : Nat} (hc : dC D = c) (hW : WFd D) (hc7 : c ≤ 7) (hx : x < c) (hy : y < c) (hk : ∀ I' L', OV I I' D c → q_py D c I' c 0 → q_aL F7 L L' → q_lo (sp_lo D) c L' x (y + 1) 0 → K none SH RF I' L') : ∀ (m p : Nat) (I' : Rn) (L' : Rl), m + p = c → OV I I' D c → q_py D c I' c 0 → q_aL F7 L L' → q_lo (sp_lo D) c L' x y p → WW G (d + 4) mt_O_fillLost 3 [some (.ref 76), some (.ref 1), some (.int (nI x)), some (.int (nI y)), some (.int (nI p)), none, none, none] [] SH RF I' L' 0 0 0 0 K
  | 0, p, I', L', h, hv, hpy, hl, hlo => by
    have ep : p = c := by omega
    subst ep
    refine r_ild4 f_O_fillLost_3 ?_
    refine r_ald0 f_O_fillLost_5 ?_
    refine r_gi f_O_fillLost_6 (s_76) ?_
    rw [hv.2.1]
    refine r_ic_ge f_O_fillLost_9 (fun h9 => ?_) (fun h9 => absurd h9 (fun q => q (Int32.le_refl _)))
    refine r_ret f_O_fillLost_106 rfl (Nat.le_refl _) (Nat.le_refl _) ?_
    exact hk I' L' hv hpy hl (fun x' y' p' h1 h2 h3 h4 => hlo x' y' p' h1 h2 h3 (by omega))
  | m + 1, p, I', L', h, hv, hpy, hl, hlo => by
    have hnx : sp_nx D p < c := by
      unfold sp_nx
      split <;> omega
    have hgo : WW G (d + 4) mt_O_fillLost 31 [some (.ref 76), some (.ref 1), some (.int (nI x)), some (.int (nI y)), some (.int (nI p)), none, none, none] [.int (nI (sp_nx D p))] SH RF I' L' 0 0 0 0 K := by
      refine r_ist5 f_O_fillLost_31 rfl ?_
      refine r_ald0 f_O_fillLost_33 ?_
      refine r_gr f_O_fillLost_34 (s_76) (r_76_0) ?_
      refine r_ild2 f_O_fillLost_37 ?_
      refine r_ic f_O_fillLost_38 ?_
      refine r_imul f_O_fillLost_40 ?_
      refine r_ild4 f_O_fillLost_41 ?_
      refine r_iadd f_O_fillLost_43 ?_
      rw [show nI x * 7 = nI (7 * x) from by rw [Nat.mul_comm]; exact pk_mul x 7, nI_add]
      refine r_iald f_O_fillLost_44 (s_77) (q_ix.nI (show 7 * x + p < 49 by omega) (by decide)) ?_
      rw [hpy x p hx (by omega) (by omega)]
      refine r_ist6 f_O_fillLost_45 rfl ?_
      refine r_ald0 f_O_fillLost_47 ?_
      refine r_gr f_O_fillLost_48 (s_76) (r_76_0) ?_
      refine r_ild3 f_O_fillLost_51 ?_
      refine r_ic f_O_fillLost_52 ?_
      refine r_imul f_O_fillLost_54 ?_
      refine r_ild5 f_O_fillLost_55 ?_
      refine r_iadd f_O_fillLost_57 ?_
      rw [show nI y * 7 = nI (7 * y) from by rw [Nat.mul_comm]; exact pk_mul y 7, nI_add]
      refine r_iald f_O_fillLost_58 (s_77) (q_ix.nI (show 7 * y + sp_nx D p < 49 by omega) (by decide)) ?_
      rw [hpy y (sp_nx D p) hy hnx (by omega)]
      refine r_ist7 f_O_fillLost_59 rfl ?_
      refine r_ald1 f_O_fillLost_61 ?_
      refine r_ald0 f_O_fillLost_62 ?_
      refine r_gr f_O_fillLost_63 (s_76) (r_76_3) ?_
      refine r_ild2 f_O_fillLost_66 ?_
      refine r_ild6 f_O_fillLost_67 ?_
      refine r_ild3 f_O_fillLost_69 ?_
      refine r_ild7 f_O_fillLost_70 ?_
      refine c_D_weighMeet f_O_fillLost_72 (sD q_D1) (Nat.le_of_ble_eq_true rfl) (Nat.le_refl _) (Nat.le_refl _) ?_
      refine k_D_weighMeet q_D1 s_80 (show x < 8 by omega) (show y < 8 by omega) hv.1 (fun I2 hg2 hm2 => ?_)
      have hv2 := hv.st (hg2.mo (fun x y q => Or.inr (Or.inr (Or.inl q))))
      refine r_ald0 f_O_fillLost_75 ?_
      refine r_gr f_O_fillLost_76 (s_76) (r_76_1) ?_
      refine r_ild2 f_O_fillLost_79 ?_
      refine r_ild3 f_O_fillLost_80 ?_
      refine r_ild4 f_O_fillLost_81 ?_
      refine c_O_index f_O_fillLost_83 (Nat.le_of_ble_eq_true rfl) (Nat.le_refl _) (Nat.le_refl _) ?_
      refine k_O_index ?_
      refine r_ald0 f_O_fillLost_86 ?_
      refine r_gr f_O_fillLost_87 (s_76) (r_76_3) ?_
      refine r_ald1 f_O_fillLost_90 ?_
      refine r_gr f_O_fillLost_91 (sD q_D1) (rD2 q_D1) ?_
      refine r_ic f_O_fillLost_94 ?_
      refine r_iald f_O_fillLost_95 (sD3 q_D1) (show q_ix 2 2 5 from ⟨by decide, by decide⟩) ?_
      rw [show I2 (1 + 3) 2 = D.2.2.1 2 from (PD.rf hv2.1).u (by decide)]
      refine c_M_loses f_O_fillLost_96 (s_80) (Nat.le_of_ble_eq_true rfl) (Nat.le_refl _) (Nat.le_refl _) ?_
      refine k_M_loses s_80 ?_
      rw [hm2 11 (by decide), hm2 12 (by decide), hm2 6 (by decide), hm2 5 (by decide)]
      refine r_last f_O_fillLost_99 (s_78) (q_ix.nI (show (x * 7 + y) * 7 + p < 343 by omega) (by decide)) ?_
      refine r_inc4 f_O_fillLost_100 rfl ?_
      rw [nI_1]
      refine r_goto f_O_fillLost_103 ?_
      refine r_drop5 ?_
      refine r_drop6 ?_
      refine r_drop7 ?_
      refine k_O_fillLost_loop hc hW hc7 hx hy hk m (p + 1) I2 _ (by omega) hv2 (fun f' p' h1 h2 h3 => ?_) (hl.u2 (show F7 78 _ from rfl)) (fun x' y' p' h1 h2 h3 h4 => ?_)
      · rw [hg2 77 _ (by omega)]
        exact hpy f' p' h1 h2 h3
      · by_cases e : x' = x ∧ y' = y ∧ p' = p
        · rw [e.1, e.2.1, e.2.2, u2_self]
          rfl
        · rw [u2_ne (Or.inr (by omega))]
          exact hlo x' y' p' h1 h2 h3 (by omega)
    refine r_ild4 f_O_fillLost_3 ?_
    refine r_ald0 f_O_fillLost_5 ?_
    refine r_gi f_O_fillLost_6 (s_76) ?_
    rw [hv.2.1]
    refine r_ic_ge f_O_fillLost_9 (fun h9 => absurd h9 (nI_ge (by omega) (by omega))) (fun h9 => ?_)
    refine r_ild4 f_O_fillLost_12 ?_
    refine r_ic f_O_fillLost_14 ?_
    refine r_iadd f_O_fillLost_15 ?_
    refine r_ald0 f_O_fillLost_16 ?_
    refine r_gi f_O_fillLost_17 (s_76) ?_
    rw [hv.2.1, nI_1]
    refine r_ic_ge f_O_fillLost_20 (fun h20 => ?_) (fun h20 => ?_)
    · refine r_ic f_O_fillLost_30 ?_
      first
        | rw [show sp_nx D p = 0 from if_neg (by rw [hc]; exact Nat.not_lt.mpr ((nI_leI (by omega) (by omega)).mp h20))] at hgo
          exact hgo
        | rw [show sp_nx D p = p + 1 from if_pos (by rw [hc]; exact q_lt2 h20 (by omega))] at hgo
          exact hgo
    · refine r_ild4 f_O_fillLost_23 ?_
      refine r_ic f_O_fillLost_25 ?_
      refine r_iadd f_O_fillLost_26 ?_
      rw [nI_1]
      refine r_goto f_O_fillLost_27 ?_
      first
        | rw [show sp_nx D p = 0 from if_neg (by rw [hc]; exact Nat.not_lt.mpr ((nI_leI (by omega) (by omega)).mp h20))] at hgo
          exact hgo
        | rw [show sp_nx D p = p + 1 from if_pos (by rw [hc]; exact q_lt2 h20 (by omega))] at hgo
          exact hgo
theorem k_O_fillLost {x y : Nat} (hc : dC D = c) (hW : WFd D) (hc7 : c ≤ 7) (hx : x < c) (hy : y < c) (hv : OV I I D c) (hpy : q_py D c I c 0) (hlo : q_lo (sp_lo D) c L x y 0) (hk : ∀ I' L', OV I I' D c → q_py D c I' c 0 → q_aL F7 L L' → q_lo (sp_lo D) c L' x (y + 1) 0 → K none SH RF I' L') : WW G (d + 4) mt_O_fillLost 0 [some (.ref 76), some (.ref 1), some (.int (nI x)), some (.int (nI y)), none, none, none, none] [] SH RF I L 0 0 0 0 K := by
  refine r_ic f_O_fillLost_0 ?_
  refine r_ist4 f_O_fillLost_1 rfl ?_
  exact k_O_fillLost_loop hc hW hc7 hx hy hk c 0 I L rfl hv hpy q_aL.rf hlo
end L41
