section L28
variable {G : Gx} {d : Nat} {I I0 : Rn} {L : Rl} {K : Kt} {b : Nat} {D : Dst} {Me : Nat → Nat → Int32}
theorem sp_mc_le (c : Nat) : sp_mc c ≤ c := by unfold sp_mc; split <;> omega
def sp_lm (D : Dst) (p : Nat) : Int64 := sp_loses (sp_mt D p 11) (sp_mt D p 12) (sp_mt D p 6) (sp_mt D p 5) (D.2.2.1 2)
def sp_lsum (D : Dst) : Nat → Int64
  | 0 => 0
  | p + 1 => sp_lsum D p + sp_lm D p
def sp_lost (D : Dst) : Int64 := sp_lsum D (sp_mc (dC D))
theorem k_D_loses_loop (hb : q_D b) (hR : RD I b D) (hW : WFd D) (hm : ∀ p k, p < sp_mc (dC D) → k < 13 → I (b + 10 + 2 * p) k = sp_mt D p k) (hk : K (some (.long (sp_lost D))) SH RF I L) : ∀ (n p : Nat), sp_mc (dC D) - p < n → p ≤ sp_mc (dC D) → WW G (d + 2) mt_D_loses 4 [some (.ref b), some (.long (sp_lsum D p)), none, some (.int (nI p))] [] SH RF I L 0 0 0 0 K
  | 0, p, hn, hp => by omega
  | n + 1, p, hn, hp => by
    have hc8 := hW.1.1
    have hmc := sp_mc_le (dC D)
    refine r_ild3 f_D_loses_4 ?_
    refine r_ald0 f_D_loses_5 ?_
    refine c_D_meetCount f_D_loses_6 (sD hb) (Nat.le_of_ble_eq_true rfl) (Nat.le_refl _) (Nat.le_refl _) ?_
    refine k_D_meetCount hb (hR.cnt hW) hc8 ?_
    refine r_ic_ge f_D_loses_9 (fun h9 => ?_) (fun h9 => ?_)
    · refine r_lld1 f_D_loses_36 ?_
      refine r_lret f_D_loses_37 rfl (Nat.le_refl _) (Nat.le_refl _) ?_
      have e : p = sp_mc (dC D) := by
        have := q_le2 h9 (by omega)
        omega
      rw [e]
      exact hk
    · have hlt : p < sp_mc (dC D) := q_lt2 h9 (by omega)
      refine r_lld1 f_D_loses_12 ?_
      refine r_ald0 f_D_loses_13 ?_
      refine r_gr f_D_loses_14 (sD hb) (rD10 hb) ?_
      refine r_ild3 f_D_loses_17 ?_
      refine r_aald f_D_loses_18 (Or.inr (Or.inl rfl)) (sD7 hb) (q_ix.nI (by omega) (by decide)) (rDM hb (by omega)) ?_
      refine r_ald0 f_D_loses_19 ?_
      refine r_gr f_D_loses_20 (sD hb) (rD2 hb) ?_
      refine r_ic f_D_loses_23 ?_
      refine r_iald f_D_loses_24 (sD3 hb) (show q_ix 2 2 5 from ⟨by decide, by decide⟩) ?_
      refine c_M_loses f_D_loses_25 (sDM hb (by omega)) (Nat.le_of_ble_eq_true rfl) (Nat.le_refl _) (Nat.le_refl _) ?_
      have u2' : I (b + 3) 2 = D.2.2.1 2 := by rw [← hR.1]; rfl
      rw [u2']
      refine k_M_loses (sDM hb (by omega)) ?_
      rw [hm p 11 hlt (by decide), hm p 12 hlt (by decide), hm p 6 hlt (by decide), hm p 5 hlt (by decide)]
      refine r_ladd f_D_loses_28 ?_
      refine r_lst1 f_D_loses_29 (by decide) rfl ?_
      refine r_inc3 f_D_loses_30 rfl ?_
      refine r_goto f_D_loses_33 ?_
      rw [nI_1]
      exact k_D_loses_loop hb hR hW hm hk n (p + 1) (by omega) (by omega)
theorem k_D_loses (hb : q_D b) (hR : RD I b D) (hW : WFd D) (hm : ∀ p k, p < sp_mc (dC D) → k < 13 → I (b + 10 + 2 * p) k = sp_mt D p k) (hk : K (some (.long (sp_lost D))) SH RF I L) : WW G (d + 2) mt_D_loses 0 [some (.ref b), none, none, none] [] SH RF I L 0 0 0 0 K := by
  refine r_lc f_D_loses_0 ?_
  refine r_lst1 f_D_loses_1 (by decide) rfl ?_
  refine r_ic f_D_loses_2 ?_
  refine r_ist3 f_D_loses_3 rfl ?_
  exact k_D_loses_loop hb hR hW hm hk (sp_mc (dC D) + 1) 0 (by omega) (Nat.zero_le _)
def sp_gt (D : Dst) : Nat → Int32
  | 0 => 0
  | p + 1 => if sp_gt D p < sp_mt D p 11 then sp_mt D p 11 else sp_gt D p
def sp_great (D : Dst) : Int32 := sp_gt D (sp_mc (dC D))
theorem k_D_great_loop (hb : q_D b) (hR : RD I b D) (hW : WFd D) (hm : ∀ p k, p < sp_mc (dC D) → k < 13 → I (b + 10 + 2 * p) k = sp_mt D p k) (hk : K (some (.int (sp_great D))) SH RF I L) : ∀ (n p : Nat), sp_mc (dC D) - p < n → p ≤ sp_mc (dC D) → WW G (d + 1) mt_D_greatestTakes 4 [some (.ref b), some (.int (sp_gt D p)), some (.int (nI p))] [] SH RF I L 0 0 0 0 K
  | 0, p, hn, hp => by omega
  | n + 1, p, hn, hp => by
    have hc8 := hW.1.1
    have hmc := sp_mc_le (dC D)
    refine r_ild2 f_D_greatestTakes_4 ?_
    refine r_ald0 f_D_greatestTakes_5 ?_
    refine c_D_meetCount f_D_greatestTakes_6 (sD hb) (Nat.le_of_ble_eq_true rfl) (Nat.le_refl _) (Nat.le_refl _) ?_
    refine k_D_meetCount hb (hR.cnt hW) hc8 ?_
    refine r_ic_ge f_D_greatestTakes_9 (fun h9 => ?_) (fun h9 => ?_)
    · refine r_ild1 f_D_greatestTakes_32 ?_
      refine r_iret f_D_greatestTakes_33 ⟨_, rfl, rfl⟩ (Nat.le_refl _) (Nat.le_refl _) ?_
      have e : p = sp_mc (dC D) := by
        have := q_le2 h9 (by omega)
        omega
      rw [e]
      exact hk
    · have hlt : p < sp_mc (dC D) := q_lt2 h9 (by omega)
      refine r_ild1 f_D_greatestTakes_12 ?_
      refine r_ald0 f_D_greatestTakes_13 ?_
      refine r_gr f_D_greatestTakes_14 (sD hb) (rD10 hb) ?_
      refine r_ild2 f_D_greatestTakes_17 ?_
      refine r_aald f_D_greatestTakes_18 (Or.inr (Or.inl rfl)) (sD7 hb) (q_ix.nI (by omega) (by decide)) (rDM hb (by omega)) ?_
      refine r_gi f_D_greatestTakes_19 (sDM hb (by omega)) ?_
      rw [hm p 11 hlt (by decide)]
      refine r_maxI f_D_greatestTakes_22 (Nat.le_of_ble_eq_true rfl) (Nat.le_refl _) (Nat.le_refl _) ?_
      refine r_ist1 f_D_greatestTakes_25 rfl ?_
      refine r_inc2 f_D_greatestTakes_26 rfl ?_
      refine r_goto f_D_greatestTakes_29 ?_
      rw [nI_1]
      exact k_D_great_loop hb hR hW hm hk n (p + 1) (by omega) (by omega)
theorem k_D_greatestTakes (hb : q_D b) (hR : RD I b D) (hW : WFd D) (hm : ∀ p k, p < sp_mc (dC D) → k < 13 → I (b + 10 + 2 * p) k = sp_mt D p k) (hk : K (some (.int (sp_great D))) SH RF I L) : WW G (d + 1) mt_D_greatestTakes 0 [some (.ref b), none, none] [] SH RF I L 0 0 0 0 K := by
  refine r_ic f_D_greatestTakes_0 ?_
  refine r_ist1 f_D_greatestTakes_1 rfl ?_
  refine r_ic f_D_greatestTakes_2 ?_
  refine r_ist2 f_D_greatestTakes_3 rfl ?_
  exact k_D_great_loop hb hR hW hm hk (sp_mc (dC D) + 1) 0 (by omega) (Nat.zero_le _)
theorem k_D_takesAtMost {x : Int32} (hb : q_D b) (hP : PD I0 I b D Me) (hW : WFd (eU D 0 x)) (hk : ∀ I' Me', PD I0 I' b (eU D 0 x) Me' → K (some (.int (sp_great (eU D 0 x)))) SH RF I' L) : WW G (d + 5) mt_D_takesAtMost 0 [some (.ref b), some (.int x)] [] SH RF I L 0 0 0 0 K := by
  refine r_ald0 f_D_takesAtMost_0 ?_
  refine r_gr f_D_takesAtMost_1 (sD hb) (rD2 hb) ?_
  refine r_ic f_D_takesAtMost_4 ?_
  refine r_ild1 f_D_takesAtMost_5 ?_
  refine r_pU f_D_takesAtMost_6 hb (show q_ix 0 0 5 from ⟨by decide, by decide⟩) hP (fun I1 hP1 => ?_)
  refine r_ald0 f_D_takesAtMost_7 ?_
  refine c_D_weigh f_D_takesAtMost_8 (sD hb) (Nat.le_of_ble_eq_true rfl) (Nat.le_refl _) (Nat.le_refl _) ?_
  refine k_D_weigh hb hP1.1 hW (fun I2 g2 m2 => ?_)
  have hP2 := hP1.weigh hb g2
  refine r_ald0 f_D_takesAtMost_11 ?_
  refine c_D_greatestTakes f_D_takesAtMost_12 (sD hb) (Nat.le_of_ble_eq_true rfl) (Nat.le_refl _) (Nat.le_refl _) ?_
  refine k_D_greatestTakes hb hP2.1 hW m2 ?_
  refine r_iret f_D_takesAtMost_15 ⟨_, rfl, rfl⟩ (Nat.le_refl _) (Nat.le_refl _) ?_
  exact hk I2 _ hP2
def sp_z (z : Int32) : Int32 := z * 1103515245 + 12345
def sp_dr (z : Int32) : Int32 := (z.toUInt32 >>> ((8 : Int32).toUInt32 &&& Int32.toUInt32 31)).toInt32
def sp_rem (x y : Int32) : Int32 := x - x / y * y
theorem k_D_draw (hb : q_D b) (hP : PD I0 I b D Me) (hk : ∀ I', PD I0 I' b (eS D 2 (sp_z (D.2.2.2.1 2))) Me → K (some (.int (sp_dr (sp_z (D.2.2.2.1 2))))) SH RF I' L) : WW G d mt_D_draw 0 [some (.ref b)] [] SH RF I L 0 0 0 0 K := by
  refine r_ald0 f_D_draw_0 ?_
  refine r_ald0 f_D_draw_1 ?_
  refine r_gi f_D_draw_2 (sD hb) ?_
  rw [show I b 7 = D.2.2.2.1 2 from hP.s (k := 2) (by decide)]
  refine r_ic f_D_draw_5 ?_
  refine r_imul f_D_draw_7 ?_
  refine r_ic f_D_draw_8 ?_
  refine r_iadd f_D_draw_11 ?_
  refine r_pS f_D_draw_12 hb (k := 2) (by decide) rfl hP (fun I1 hP1 => ?_)
  refine r_ald0 f_D_draw_15 ?_
  refine r_gi f_D_draw_16 (sD hb) ?_
  rw [show I1 b 7 = sp_z (D.2.2.2.1 2) from hP1.s (k := 2) (by decide)]
  refine r_ic f_D_draw_19 ?_
  refine r_iushr f_D_draw_21 ?_
  refine r_iret f_D_draw_22 ⟨_, rfl, rfl⟩ (Nat.le_refl _) (Nat.le_refl _) ?_
  exact hk I1 hP1
/-- a meet in a night: whether water is taken, watched, would be seen -/
def sp_pass3 (D : Dst) (r : Nat → Int32) (o t : Nat) (tk wt se : Bool) : Dst :=
  let D2 := if wt = true then eF D o 5 (D.1 o 5 - r 5) else D
  if tk = true then
    (if (wt && se) = true then
      (let A := eS D2 3 (D2.2.2.2.1 3 + 1)
       let B := eS A 4 (A.2.2.2.1 4 + 1)
       let C := eF B t 5 (B.1 t 5 - B.2.2.1 0)
       let E := eF C o 5 (C.1 o 5 + r 4)
       eF E t 6 0)
    else
      (let A := eS D2 3 (D2.2.2.2.1 3 + 1)
       let C := eF A t 5 (A.1 t 5 + r 2)
       let E := eF C o 5 (C.1 o 5 - r 3)
       eF E o 6 (if 9 < E.1 o 6 + 1 then 9 else E.1 o 6 + 1)))
  else D2
def sp_z3 (D : Dst) : Dst := eS (eS (eS D 2 (sp_z (D.2.2.2.1 2))) 2 (sp_z (sp_z (D.2.2.2.1 2)))) 2 (sp_z (sp_z (sp_z (D.2.2.2.1 2))))
def sp_pass (D : Dst) (r : Nat → Int32) (o t : Nat) : Dst :=
  sp_pass3 (sp_z3 D) r o t (decide (sp_rem (sp_dr (sp_z (D.2.2.2.1 2))) 1000000 < r 11)) (decide (sp_rem (sp_dr (sp_z (sp_z (D.2.2.2.1 2)))) 1000000 < r 12)) (decide (sp_rem (sp_dr (sp_z (sp_z (sp_z (D.2.2.2.1 2))))) 100 < r 6))
theorem k_D_passMeet {p ow tk : Nat} (hb : q_D b) (hp : p < 8) (ho : ow < 8) (ht : tk < 8) (hP : PD I0 I b D Me) (e0 : Me p 0 = nI ow) (e1 : Me p 1 = nI tk) (hk : ∀ I', PD I0 I' b (sp_pass D (Me p) ow tk) Me → K none SH RF I' L) : WW G (d + 1) mt_D_passMeet 0 [some (.ref b), some (.ref (b + 10 + 2 * p)), none, none, none, none, none] [] SH RF I L 0 0 0 0 K := by
  refine r_ald0 f_D_passMeet_0 ?_
  refine r_gr f_D_passMeet_1 (sD hb) (rD0 hb) ?_
  refine r_ald1 f_D_passMeet_4 ?_
  refine r_gi f_D_passMeet_5 (sDM hb hp) ?_
  rw [hP.2.1 p 0 hp]
  rw [e0]
  refine r_aald f_D_passMeet_8 (Or.inl rfl) (sD1 hb) (q_ix.nI ho (by decide)) (rDF hb ho) ?_
  refine r_ast2 f_D_passMeet_9 rfl ?_
  refine r_ald0 f_D_passMeet_10 ?_
  refine r_gr f_D_passMeet_11 (sD hb) (rD0 hb) ?_
  refine r_ald1 f_D_passMeet_14 ?_
  refine r_gi f_D_passMeet_15 (sDM hb hp) ?_
  rw [hP.2.1 p 1 hp]
  rw [e1]
  refine r_aald f_D_passMeet_18 (Or.inl rfl) (sD1 hb) (q_ix.nI ht (by decide)) (rDF hb ht) ?_
  refine r_ast3 f_D_passMeet_19 rfl ?_
  refine r_ald0 f_D_passMeet_20 ?_
  refine c_D_draw f_D_passMeet_21 (sD hb) (Nat.le_of_ble_eq_true rfl) (Nat.le_refl _) (Nat.le_refl _) ?_
  refine k_D_draw hb hP (fun I1 hP1 => ?_)
  refine r_ic f_D_passMeet_24 ?_
  refine r_irem f_D_passMeet_26 (by decide) ?_
  refine r_ald1 f_D_passMeet_27 ?_
  refine r_gi f_D_passMeet_28 (sDM hb hp) ?_
  rw [hP1.2.1 p 11 hp]
  refine r_ic_ge f_D_passMeet_31 (fun h31 => ?_) (fun h31 => ?_)
  · have b1 : decide (sp_rem (sp_dr (sp_z (D.2.2.2.1 2))) 1000000 < Me p 11) = false := decide_eq_false (Int32.not_lt.mpr h31)
    refine r_ic f_D_passMeet_38 ?_
    refine r_ist4 f_D_passMeet_39 rfl ?_
    refine r_ald0 f_D_passMeet_41 ?_
    refine c_D_draw f_D_passMeet_42 (sD hb) (Nat.le_of_ble_eq_true rfl) (Nat.le_refl _) (Nat.le_refl _) ?_
    refine k_D_draw hb hP1 (fun I2 hP2 => ?_)
    refine r_ic f_D_passMeet_45 ?_
    refine r_irem f_D_passMeet_47 (by decide) ?_
    refine r_ald1 f_D_passMeet_48 ?_
    refine r_gi f_D_passMeet_49 (sDM hb hp) ?_
    rw [hP2.2.1 p 12 hp]
    refine r_ic_ge f_D_passMeet_52 (fun h52 => ?_) (fun h52 => ?_)
    · have b2 : decide (sp_rem (sp_dr (sp_z (sp_z (D.2.2.2.1 2)))) 1000000 < Me p 12) = false := decide_eq_false (Int32.not_lt.mpr h52)
      refine r_ic f_D_passMeet_59 ?_
      refine r_ist5 f_D_passMeet_60 rfl ?_
      refine r_ald0 f_D_passMeet_62 ?_
      refine c_D_draw f_D_passMeet_63 (sD hb) (Nat.le_of_ble_eq_true rfl) (Nat.le_refl _) (Nat.le_refl _) ?_
      refine k_D_draw hb hP2 (fun I3 hP3 => ?_)
      refine r_ic f_D_passMeet_66 ?_
      refine r_irem f_D_passMeet_68 (by decide) ?_
      refine r_ald1 f_D_passMeet_69 ?_
      refine r_gi f_D_passMeet_70 (sDM hb hp) ?_
      rw [hP3.2.1 p 6 hp]
      refine r_ic_ge f_D_passMeet_73 (fun h73 => ?_) (fun h73 => ?_)
      · have b3 : decide (sp_rem (sp_dr (sp_z (sp_z (sp_z (D.2.2.2.1 2))))) 100 < Me p 6) = false := decide_eq_false (Int32.not_lt.mpr h73)
        refine r_ic f_D_passMeet_80 ?_
        refine r_ist6 f_D_passMeet_81 rfl ?_
        have hP3 : PD I0 I3 b (sp_z3 D) Me := hP3
        refine r_ild5 f_D_passMeet_83 ?_
        refine r_if_eq f_D_passMeet_85 (fun _ => ?_) (fun h => absurd h (by decide))
        refine r_ild4 f_D_passMeet_101 ?_
        refine r_if_eq f_D_passMeet_103 (fun _ => ?_) (fun h => absurd h (by decide))
        refine r_ild4 f_D_passMeet_172 ?_
        refine r_if_eq f_D_passMeet_174 (fun _ => ?_) (fun h => absurd h (by decide))
        refine r_ret f_D_passMeet_228 rfl (Nat.le_refl _) (Nat.le_refl _) ?_
        refine hk I3 ?_
        unfold sp_pass
        rw [b1, b2, b3]
        exact hP3
      · have b3 : decide (sp_rem (sp_dr (sp_z (sp_z (sp_z (D.2.2.2.1 2))))) 100 < Me p 6) = true := decide_eq_true (Int32.not_le.mp h73)
        refine r_ic f_D_passMeet_76 ?_
        refine r_goto f_D_passMeet_77 ?_
        refine r_ist6 f_D_passMeet_81 rfl ?_
        have hP3 : PD I0 I3 b (sp_z3 D) Me := hP3
        refine r_ild5 f_D_passMeet_83 ?_
        refine r_if_eq f_D_passMeet_85 (fun _ => ?_) (fun h => absurd h (by decide))
        refine r_ild4 f_D_passMeet_101 ?_
        refine r_if_eq f_D_passMeet_103 (fun _ => ?_) (fun h => absurd h (by decide))
        refine r_ild4 f_D_passMeet_172 ?_
        refine r_if_eq f_D_passMeet_174 (fun _ => ?_) (fun h => absurd h (by decide))
        refine r_ret f_D_passMeet_228 rfl (Nat.le_refl _) (Nat.le_refl _) ?_
        refine hk I3 ?_
        unfold sp_pass
        rw [b1, b2, b3]
        exact hP3
    · have b2 : decide (sp_rem (sp_dr (sp_z (sp_z (D.2.2.2.1 2)))) 1000000 < Me p 12) = true := decide_eq_true (Int32.not_le.mp h52)
      refine r_ic f_D_passMeet_55 ?_
      refine r_goto f_D_passMeet_56 ?_
      refine r_ist5 f_D_passMeet_60 rfl ?_
      refine r_ald0 f_D_passMeet_62 ?_
      refine c_D_draw f_D_passMeet_63 (sD hb) (Nat.le_of_ble_eq_true rfl) (Nat.le_refl _) (Nat.le_refl _) ?_
      refine k_D_draw hb hP2 (fun I3 hP3 => ?_)
      refine r_ic f_D_passMeet_66 ?_
      refine r_irem f_D_passMeet_68 (by decide) ?_
      refine r_ald1 f_D_passMeet_69 ?_
      refine r_gi f_D_passMeet_70 (sDM hb hp) ?_
      rw [hP3.2.1 p 6 hp]
      refine r_ic_ge f_D_passMeet_73 (fun h73 => ?_) (fun h73 => ?_)
      · have b3 : decide (sp_rem (sp_dr (sp_z (sp_z (sp_z (D.2.2.2.1 2))))) 100 < Me p 6) = false := decide_eq_false (Int32.not_lt.mpr h73)
        refine r_ic f_D_passMeet_80 ?_
        refine r_ist6 f_D_passMeet_81 rfl ?_
        have hP3 : PD I0 I3 b (sp_z3 D) Me := hP3
        refine r_ild5 f_D_passMeet_83 ?_
        refine r_if_eq f_D_passMeet_85 (fun h => absurd h (by decide)) (fun _ => ?_)
        refine r_ald2 f_D_passMeet_88 ?_
        refine r_dupr f_D_passMeet_89 ?_
        refine r_gi f_D_passMeet_90 (sDF hb ho) ?_
        rw [hP3.f ho (by decide)]
        refine r_ald1 f_D_passMeet_93 ?_
        refine r_gi f_D_passMeet_94 (sDM hb hp) ?_
        rw [hP3.2.1 p 5 hp]
        refine r_isub f_D_passMeet_97 ?_
        refine r_pF f_D_passMeet_98 hb ho (by decide) hP3 (fun I4 hP4 => ?_)
        refine r_ild4 f_D_passMeet_101 ?_
        refine r_if_eq f_D_passMeet_103 (fun _ => ?_) (fun h => absurd h (by decide))
        refine r_ild4 f_D_passMeet_172 ?_
        refine r_if_eq f_D_passMeet_174 (fun _ => ?_) (fun h => absurd h (by decide))
        refine r_ret f_D_passMeet_228 rfl (Nat.le_refl _) (Nat.le_refl _) ?_
        refine hk I4 ?_
        unfold sp_pass
        rw [b1, b2, b3]
        exact hP4
      · have b3 : decide (sp_rem (sp_dr (sp_z (sp_z (sp_z (D.2.2.2.1 2))))) 100 < Me p 6) = true := decide_eq_true (Int32.not_le.mp h73)
        refine r_ic f_D_passMeet_76 ?_
        refine r_goto f_D_passMeet_77 ?_
        refine r_ist6 f_D_passMeet_81 rfl ?_
        have hP3 : PD I0 I3 b (sp_z3 D) Me := hP3
        refine r_ild5 f_D_passMeet_83 ?_
        refine r_if_eq f_D_passMeet_85 (fun h => absurd h (by decide)) (fun _ => ?_)
        refine r_ald2 f_D_passMeet_88 ?_
        refine r_dupr f_D_passMeet_89 ?_
        refine r_gi f_D_passMeet_90 (sDF hb ho) ?_
        rw [hP3.f ho (by decide)]
        refine r_ald1 f_D_passMeet_93 ?_
        refine r_gi f_D_passMeet_94 (sDM hb hp) ?_
        rw [hP3.2.1 p 5 hp]
        refine r_isub f_D_passMeet_97 ?_
        refine r_pF f_D_passMeet_98 hb ho (by decide) hP3 (fun I4 hP4 => ?_)
        refine r_ild4 f_D_passMeet_101 ?_
        refine r_if_eq f_D_passMeet_103 (fun _ => ?_) (fun h => absurd h (by decide))
        refine r_ild4 f_D_passMeet_172 ?_
        refine r_if_eq f_D_passMeet_174 (fun _ => ?_) (fun h => absurd h (by decide))
        refine r_ret f_D_passMeet_228 rfl (Nat.le_refl _) (Nat.le_refl _) ?_
        refine hk I4 ?_
        unfold sp_pass
        rw [b1, b2, b3]
        exact hP4
  · have b1 : decide (sp_rem (sp_dr (sp_z (D.2.2.2.1 2))) 1000000 < Me p 11) = true := decide_eq_true (Int32.not_le.mp h31)
    refine r_ic f_D_passMeet_34 ?_
    refine r_goto f_D_passMeet_35 ?_
    refine r_ist4 f_D_passMeet_39 rfl ?_
    refine r_ald0 f_D_passMeet_41 ?_
    refine c_D_draw f_D_passMeet_42 (sD hb) (Nat.le_of_ble_eq_true rfl) (Nat.le_refl _) (Nat.le_refl _) ?_
    refine k_D_draw hb hP1 (fun I2 hP2 => ?_)
    refine r_ic f_D_passMeet_45 ?_
    refine r_irem f_D_passMeet_47 (by decide) ?_
    refine r_ald1 f_D_passMeet_48 ?_
    refine r_gi f_D_passMeet_49 (sDM hb hp) ?_
    rw [hP2.2.1 p 12 hp]
    refine r_ic_ge f_D_passMeet_52 (fun h52 => ?_) (fun h52 => ?_)
    · have b2 : decide (sp_rem (sp_dr (sp_z (sp_z (D.2.2.2.1 2)))) 1000000 < Me p 12) = false := decide_eq_false (Int32.not_lt.mpr h52)
      refine r_ic f_D_passMeet_59 ?_
      refine r_ist5 f_D_passMeet_60 rfl ?_
      refine r_ald0 f_D_passMeet_62 ?_
      refine c_D_draw f_D_passMeet_63 (sD hb) (Nat.le_of_ble_eq_true rfl) (Nat.le_refl _) (Nat.le_refl _) ?_
      refine k_D_draw hb hP2 (fun I3 hP3 => ?_)
      refine r_ic f_D_passMeet_66 ?_
      refine r_irem f_D_passMeet_68 (by decide) ?_
      refine r_ald1 f_D_passMeet_69 ?_
      refine r_gi f_D_passMeet_70 (sDM hb hp) ?_
      rw [hP3.2.1 p 6 hp]
      refine r_ic_ge f_D_passMeet_73 (fun h73 => ?_) (fun h73 => ?_)
      · have b3 : decide (sp_rem (sp_dr (sp_z (sp_z (sp_z (D.2.2.2.1 2))))) 100 < Me p 6) = false := decide_eq_false (Int32.not_lt.mpr h73)
        refine r_ic f_D_passMeet_80 ?_
        refine r_ist6 f_D_passMeet_81 rfl ?_
        have hP3 : PD I0 I3 b (sp_z3 D) Me := hP3
        refine r_ild5 f_D_passMeet_83 ?_
        refine r_if_eq f_D_passMeet_85 (fun _ => ?_) (fun h => absurd h (by decide))
        refine r_ild4 f_D_passMeet_101 ?_
        refine r_if_eq f_D_passMeet_103 (fun h => absurd h (by decide)) (fun _ => ?_)
        refine r_ild5 f_D_passMeet_106 ?_
        refine r_if_eq f_D_passMeet_108 (fun _ => ?_) (fun h => absurd h (by decide))
        refine r_ild4 f_D_passMeet_172 ?_
        refine r_if_eq f_D_passMeet_174 (fun h => absurd h (by decide)) (fun _ => ?_)
        refine r_ald0 f_D_passMeet_177 ?_
        refine r_dupr f_D_passMeet_178 ?_
        refine r_gi f_D_passMeet_179 (sD hb) ?_
        rw [show I3 b 8 = _ from hP3.s (k := 3) (by decide)]
        refine r_ic f_D_passMeet_182 ?_
        refine r_iadd f_D_passMeet_183 ?_
        refine r_pS f_D_passMeet_184 hb (k := 3) (by decide) rfl hP3 (fun I4 hP4 => ?_)
        refine r_ald3 f_D_passMeet_187 ?_
        refine r_dupr f_D_passMeet_188 ?_
        refine r_gi f_D_passMeet_189 (sDF hb ht) ?_
        rw [hP4.f ht (by decide)]
        refine r_ald1 f_D_passMeet_192 ?_
        refine r_gi f_D_passMeet_193 (sDM hb hp) ?_
        rw [hP4.2.1 p 2 hp]
        refine r_iadd f_D_passMeet_196 ?_
        refine r_pF f_D_passMeet_197 hb ht (by decide) hP4 (fun I5 hP5 => ?_)
        refine r_ald2 f_D_passMeet_200 ?_
        refine r_dupr f_D_passMeet_201 ?_
        refine r_gi f_D_passMeet_202 (sDF hb ho) ?_
        rw [hP5.f ho (by decide)]
        refine r_ald1 f_D_passMeet_205 ?_
        refine r_gi f_D_passMeet_206 (sDM hb hp) ?_
        rw [hP5.2.1 p 3 hp]
        refine r_isub f_D_passMeet_209 ?_
        refine r_pF f_D_passMeet_210 hb ho (by decide) hP5 (fun I6 hP6 => ?_)
        refine r_ald2 f_D_passMeet_213 ?_
        refine r_ald2 f_D_passMeet_214 ?_
        refine r_gi f_D_passMeet_215 (sDF hb ho) ?_
        rw [hP6.f ho (by decide)]
        refine r_ic f_D_passMeet_218 ?_
        refine r_iadd f_D_passMeet_219 ?_
        refine r_ic f_D_passMeet_220 ?_
        refine r_minI f_D_passMeet_222 (Nat.le_of_ble_eq_true rfl) (Nat.le_refl _) (Nat.le_refl _) ?_
        refine r_pF f_D_passMeet_225 hb ho (by decide) hP6 (fun I7 hP7 => ?_)
        refine r_ret f_D_passMeet_228 rfl (Nat.le_refl _) (Nat.le_refl _) ?_
        refine hk I7 ?_
        unfold sp_pass
        rw [b1, b2, b3]
        exact hP7
      · have b3 : decide (sp_rem (sp_dr (sp_z (sp_z (sp_z (D.2.2.2.1 2))))) 100 < Me p 6) = true := decide_eq_true (Int32.not_le.mp h73)
        refine r_ic f_D_passMeet_76 ?_
        refine r_goto f_D_passMeet_77 ?_
        refine r_ist6 f_D_passMeet_81 rfl ?_
        have hP3 : PD I0 I3 b (sp_z3 D) Me := hP3
        refine r_ild5 f_D_passMeet_83 ?_
        refine r_if_eq f_D_passMeet_85 (fun _ => ?_) (fun h => absurd h (by decide))
        refine r_ild4 f_D_passMeet_101 ?_
        refine r_if_eq f_D_passMeet_103 (fun h => absurd h (by decide)) (fun _ => ?_)
        refine r_ild5 f_D_passMeet_106 ?_
        refine r_if_eq f_D_passMeet_108 (fun _ => ?_) (fun h => absurd h (by decide))
        refine r_ild4 f_D_passMeet_172 ?_
        refine r_if_eq f_D_passMeet_174 (fun h => absurd h (by decide)) (fun _ => ?_)
        refine r_ald0 f_D_passMeet_177 ?_
        refine r_dupr f_D_passMeet_178 ?_
        refine r_gi f_D_passMeet_179 (sD hb) ?_
        rw [show I3 b 8 = _ from hP3.s (k := 3) (by decide)]
        refine r_ic f_D_passMeet_182 ?_
        refine r_iadd f_D_passMeet_183 ?_
        refine r_pS f_D_passMeet_184 hb (k := 3) (by decide) rfl hP3 (fun I4 hP4 => ?_)
        refine r_ald3 f_D_passMeet_187 ?_
        refine r_dupr f_D_passMeet_188 ?_
        refine r_gi f_D_passMeet_189 (sDF hb ht) ?_
        rw [hP4.f ht (by decide)]
        refine r_ald1 f_D_passMeet_192 ?_
        refine r_gi f_D_passMeet_193 (sDM hb hp) ?_
        rw [hP4.2.1 p 2 hp]
        refine r_iadd f_D_passMeet_196 ?_
        refine r_pF f_D_passMeet_197 hb ht (by decide) hP4 (fun I5 hP5 => ?_)
        refine r_ald2 f_D_passMeet_200 ?_
        refine r_dupr f_D_passMeet_201 ?_
        refine r_gi f_D_passMeet_202 (sDF hb ho) ?_
        rw [hP5.f ho (by decide)]
        refine r_ald1 f_D_passMeet_205 ?_
        refine r_gi f_D_passMeet_206 (sDM hb hp) ?_
        rw [hP5.2.1 p 3 hp]
        refine r_isub f_D_passMeet_209 ?_
        refine r_pF f_D_passMeet_210 hb ho (by decide) hP5 (fun I6 hP6 => ?_)
        refine r_ald2 f_D_passMeet_213 ?_
        refine r_ald2 f_D_passMeet_214 ?_
        refine r_gi f_D_passMeet_215 (sDF hb ho) ?_
        rw [hP6.f ho (by decide)]
        refine r_ic f_D_passMeet_218 ?_
        refine r_iadd f_D_passMeet_219 ?_
        refine r_ic f_D_passMeet_220 ?_
        refine r_minI f_D_passMeet_222 (Nat.le_of_ble_eq_true rfl) (Nat.le_refl _) (Nat.le_refl _) ?_
        refine r_pF f_D_passMeet_225 hb ho (by decide) hP6 (fun I7 hP7 => ?_)
        refine r_ret f_D_passMeet_228 rfl (Nat.le_refl _) (Nat.le_refl _) ?_
        refine hk I7 ?_
        unfold sp_pass
        rw [b1, b2, b3]
        exact hP7
    · have b2 : decide (sp_rem (sp_dr (sp_z (sp_z (D.2.2.2.1 2)))) 1000000 < Me p 12) = true := decide_eq_true (Int32.not_le.mp h52)
      refine r_ic f_D_passMeet_55 ?_
      refine r_goto f_D_passMeet_56 ?_
      refine r_ist5 f_D_passMeet_60 rfl ?_
      refine r_ald0 f_D_passMeet_62 ?_
      refine c_D_draw f_D_passMeet_63 (sD hb) (Nat.le_of_ble_eq_true rfl) (Nat.le_refl _) (Nat.le_refl _) ?_
      refine k_D_draw hb hP2 (fun I3 hP3 => ?_)
      refine r_ic f_D_passMeet_66 ?_
      refine r_irem f_D_passMeet_68 (by decide) ?_
      refine r_ald1 f_D_passMeet_69 ?_
      refine r_gi f_D_passMeet_70 (sDM hb hp) ?_
      rw [hP3.2.1 p 6 hp]
      refine r_ic_ge f_D_passMeet_73 (fun h73 => ?_) (fun h73 => ?_)
      · have b3 : decide (sp_rem (sp_dr (sp_z (sp_z (sp_z (D.2.2.2.1 2))))) 100 < Me p 6) = false := decide_eq_false (Int32.not_lt.mpr h73)
        refine r_ic f_D_passMeet_80 ?_
        refine r_ist6 f_D_passMeet_81 rfl ?_
        have hP3 : PD I0 I3 b (sp_z3 D) Me := hP3
        refine r_ild5 f_D_passMeet_83 ?_
        refine r_if_eq f_D_passMeet_85 (fun h => absurd h (by decide)) (fun _ => ?_)
        refine r_ald2 f_D_passMeet_88 ?_
        refine r_dupr f_D_passMeet_89 ?_
        refine r_gi f_D_passMeet_90 (sDF hb ho) ?_
        rw [hP3.f ho (by decide)]
        refine r_ald1 f_D_passMeet_93 ?_
        refine r_gi f_D_passMeet_94 (sDM hb hp) ?_
        rw [hP3.2.1 p 5 hp]
        refine r_isub f_D_passMeet_97 ?_
        refine r_pF f_D_passMeet_98 hb ho (by decide) hP3 (fun I4 hP4 => ?_)
        refine r_ild4 f_D_passMeet_101 ?_
        refine r_if_eq f_D_passMeet_103 (fun h => absurd h (by decide)) (fun _ => ?_)
        refine r_ild5 f_D_passMeet_106 ?_
        refine r_if_eq f_D_passMeet_108 (fun h => absurd h (by decide)) (fun _ => ?_)
        refine r_ild6 f_D_passMeet_111 ?_
        refine r_if_eq f_D_passMeet_113 (fun _ => ?_) (fun h => absurd h (by decide))
        refine r_ild4 f_D_passMeet_172 ?_
        refine r_if_eq f_D_passMeet_174 (fun h => absurd h (by decide)) (fun _ => ?_)
        refine r_ald0 f_D_passMeet_177 ?_
        refine r_dupr f_D_passMeet_178 ?_
        refine r_gi f_D_passMeet_179 (sD hb) ?_
        rw [show I4 b 8 = _ from hP4.s (k := 3) (by decide)]
        refine r_ic f_D_passMeet_182 ?_
        refine r_iadd f_D_passMeet_183 ?_
        refine r_pS f_D_passMeet_184 hb (k := 3) (by decide) rfl hP4 (fun I5 hP5 => ?_)
        refine r_ald3 f_D_passMeet_187 ?_
        refine r_dupr f_D_passMeet_188 ?_
        refine r_gi f_D_passMeet_189 (sDF hb ht) ?_
        rw [hP5.f ht (by decide)]
        refine r_ald1 f_D_passMeet_192 ?_
        refine r_gi f_D_passMeet_193 (sDM hb hp) ?_
        rw [hP5.2.1 p 2 hp]
        refine r_iadd f_D_passMeet_196 ?_
        refine r_pF f_D_passMeet_197 hb ht (by decide) hP5 (fun I6 hP6 => ?_)
        refine r_ald2 f_D_passMeet_200 ?_
        refine r_dupr f_D_passMeet_201 ?_
        refine r_gi f_D_passMeet_202 (sDF hb ho) ?_
        rw [hP6.f ho (by decide)]
        refine r_ald1 f_D_passMeet_205 ?_
        refine r_gi f_D_passMeet_206 (sDM hb hp) ?_
        rw [hP6.2.1 p 3 hp]
        refine r_isub f_D_passMeet_209 ?_
        refine r_pF f_D_passMeet_210 hb ho (by decide) hP6 (fun I7 hP7 => ?_)
        refine r_ald2 f_D_passMeet_213 ?_
        refine r_ald2 f_D_passMeet_214 ?_
        refine r_gi f_D_passMeet_215 (sDF hb ho) ?_
        rw [hP7.f ho (by decide)]
        refine r_ic f_D_passMeet_218 ?_
        refine r_iadd f_D_passMeet_219 ?_
        refine r_ic f_D_passMeet_220 ?_
        refine r_minI f_D_passMeet_222 (Nat.le_of_ble_eq_true rfl) (Nat.le_refl _) (Nat.le_refl _) ?_
        refine r_pF f_D_passMeet_225 hb ho (by decide) hP7 (fun I8 hP8 => ?_)
        refine r_ret f_D_passMeet_228 rfl (Nat.le_refl _) (Nat.le_refl _) ?_
        refine hk I8 ?_
        unfold sp_pass
        rw [b1, b2, b3]
        exact hP8
      · have b3 : decide (sp_rem (sp_dr (sp_z (sp_z (sp_z (D.2.2.2.1 2))))) 100 < Me p 6) = true := decide_eq_true (Int32.not_le.mp h73)
        refine r_ic f_D_passMeet_76 ?_
        refine r_goto f_D_passMeet_77 ?_
        refine r_ist6 f_D_passMeet_81 rfl ?_
        have hP3 : PD I0 I3 b (sp_z3 D) Me := hP3
        refine r_ild5 f_D_passMeet_83 ?_
        refine r_if_eq f_D_passMeet_85 (fun h => absurd h (by decide)) (fun _ => ?_)
        refine r_ald2 f_D_passMeet_88 ?_
        refine r_dupr f_D_passMeet_89 ?_
        refine r_gi f_D_passMeet_90 (sDF hb ho) ?_
        rw [hP3.f ho (by decide)]
        refine r_ald1 f_D_passMeet_93 ?_
        refine r_gi f_D_passMeet_94 (sDM hb hp) ?_
        rw [hP3.2.1 p 5 hp]
        refine r_isub f_D_passMeet_97 ?_
        refine r_pF f_D_passMeet_98 hb ho (by decide) hP3 (fun I4 hP4 => ?_)
        refine r_ild4 f_D_passMeet_101 ?_
        refine r_if_eq f_D_passMeet_103 (fun h => absurd h (by decide)) (fun _ => ?_)
        refine r_ild5 f_D_passMeet_106 ?_
        refine r_if_eq f_D_passMeet_108 (fun h => absurd h (by decide)) (fun _ => ?_)
        refine r_ild6 f_D_passMeet_111 ?_
        refine r_if_eq f_D_passMeet_113 (fun h => absurd h (by decide)) (fun _ => ?_)
        refine r_ald0 f_D_passMeet_116 ?_
        refine r_dupr f_D_passMeet_117 ?_
        refine r_gi f_D_passMeet_118 (sD hb) ?_
        rw [show I4 b 8 = _ from hP4.s (k := 3) (by decide)]
        refine r_ic f_D_passMeet_121 ?_
        refine r_iadd f_D_passMeet_122 ?_
        refine r_pS f_D_passMeet_123 hb (k := 3) (by decide) rfl hP4 (fun I5 hP5 => ?_)
        refine r_ald0 f_D_passMeet_126 ?_
        refine r_dupr f_D_passMeet_127 ?_
        refine r_gi f_D_passMeet_128 (sD hb) ?_
        rw [show I5 b 9 = _ from hP5.s (k := 4) (by decide)]
        refine r_ic f_D_passMeet_131 ?_
        refine r_iadd f_D_passMeet_132 ?_
        refine r_pS f_D_passMeet_133 hb (k := 4) (by decide) rfl hP5 (fun I6 hP6 => ?_)
        refine r_ald3 f_D_passMeet_136 ?_
        refine r_dupr f_D_passMeet_137 ?_
        refine r_gi f_D_passMeet_138 (sDF hb ht) ?_
        rw [hP6.f ht (by decide)]
        refine r_ald0 f_D_passMeet_141 ?_
        refine r_gr f_D_passMeet_142 (sD hb) (rD2 hb) ?_
        refine r_ic f_D_passMeet_145 ?_
        refine r_iald f_D_passMeet_146 (sD3 hb) (show q_ix 0 0 5 from ⟨by decide, by decide⟩) ?_
        rw [hP6.u (by decide)]
        refine r_isub f_D_passMeet_147 ?_
        refine r_pF f_D_passMeet_148 hb ht (by decide) hP6 (fun I7 hP7 => ?_)
        refine r_ald2 f_D_passMeet_151 ?_
        refine r_dupr f_D_passMeet_152 ?_
        refine r_gi f_D_passMeet_153 (sDF hb ho) ?_
        rw [hP7.f ho (by decide)]
        refine r_ald1 f_D_passMeet_156 ?_
        refine r_gi f_D_passMeet_157 (sDM hb hp) ?_
        rw [hP7.2.1 p 4 hp]
        refine r_iadd f_D_passMeet_160 ?_
        refine r_pF f_D_passMeet_161 hb ho (by decide) hP7 (fun I8 hP8 => ?_)
        refine r_ald3 f_D_passMeet_164 ?_
        refine r_ic f_D_passMeet_165 ?_
        refine r_pF f_D_passMeet_166 hb ht (by decide) hP8 (fun I9 hP9 => ?_)
        refine r_goto f_D_passMeet_169 ?_
        refine r_ret f_D_passMeet_228 rfl (Nat.le_refl _) (Nat.le_refl _) ?_
        refine hk I9 ?_
        unfold sp_pass
        rw [b1, b2, b3]
        exact hP9
end L28
