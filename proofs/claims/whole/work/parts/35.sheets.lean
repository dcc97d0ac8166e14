section L35
variable {G : Gx} {d : Nat} {I I' : Rn} {L L' : Rl} {K : Kt} {σ : St}
abbrev sp_wd (w : Int32) : Prop := w = 0 ∨ w = 8 ∨ w = 16 ∨ w = 64
def sp_low (w : Int32) (x : Int64) : Int64 := if w = 8 then x.toInt32.toInt8.toInt32.toInt64 else if w = 16 then x.toInt32.toInt16.toInt32.toInt64 else x
theorem k_S_has {x : Int32} (y1 : 0 ≤ x → x ≤ 3 → K (some (.int 1)) SH RF I L) (y0 : ¬ (0 ≤ x ∧ x ≤ 3) → K (some (.int 0)) SH RF I L) : WW G (d + 1) mt_S_has 0 [some (.ref 86), some (.int x)] [] SH RF I L 0 0 0 0 K := by
  refine r_ild1 f_S_has_0 ?_
  refine r_ic f_S_has_1 ?_
  refine r_ic f_S_has_2 ?_
  refine c_N_isWithin f_S_has_3 (Nat.le_of_ble_eq_true rfl) (Nat.le_refl _) (Nat.le_refl _) ?_
  refine k_N_isWithin (fun ha hb => ?_) (fun h => ?_)
  · refine r_iret f_S_has_6 ⟨_, rfl, rfl⟩ (Nat.le_refl _) (Nat.le_refl _) ?_
    first | exact y1 ha hb | exact y0 h
  · refine r_iret f_S_has_6 ⟨_, rfl, rfl⟩ (Nat.le_refl _) (Nat.le_refl _) ?_
    first | exact y1 ha hb | exact y0 h
theorem k_S_isWidth {w : Int32} (y1 : sp_wd w → K (some (.int 1)) SH RF I L) (y0 : ¬ sp_wd w → K (some (.int 0)) SH RF I L) : WW G d mt_S_isWidth 0 [some (.ref 86), some (.int w)] [] SH RF I L 0 0 0 0 K := by
  refine r_ild1 f_S_isWidth_0 ?_
  refine r_if_eq f_S_isWidth_1 (fun h1 => ?_) (fun h1 => ?_)
  · refine r_ic f_S_isWidth_22 ?_
    refine r_goto f_S_isWidth_23 ?_
    refine r_iret f_S_isWidth_27 ⟨_, rfl, rfl⟩ (Nat.le_refl _) (Nat.le_refl _) ?_
    first | exact y1 (Or.inl (by assumption)) | exact y1 (Or.inr (Or.inl (by assumption))) | exact y1 (Or.inr (Or.inr (Or.inl (by assumption)))) | exact y1 (Or.inr (Or.inr (Or.inr (by first | assumption | exact Classical.not_not.mp (by assumption))))) | exact y0 (by unfold sp_wd; simp only [not_or]; exact ⟨by assumption, by assumption, by assumption, by assumption⟩)
  · refine r_ild1 f_S_isWidth_4 ?_
    refine r_ic f_S_isWidth_5 ?_
    refine r_ic_eq f_S_isWidth_7 (fun h7 => ?_) (fun h7 => ?_)
    · refine r_ic f_S_isWidth_22 ?_
      refine r_goto f_S_isWidth_23 ?_
      refine r_iret f_S_isWidth_27 ⟨_, rfl, rfl⟩ (Nat.le_refl _) (Nat.le_refl _) ?_
      first | exact y1 (Or.inl (by assumption)) | exact y1 (Or.inr (Or.inl (by assumption))) | exact y1 (Or.inr (Or.inr (Or.inl (by assumption)))) | exact y1 (Or.inr (Or.inr (Or.inr (by first | assumption | exact Classical.not_not.mp (by assumption))))) | exact y0 (by unfold sp_wd; simp only [not_or]; exact ⟨by assumption, by assumption, by assumption, by assumption⟩)
    · refine r_ild1 f_S_isWidth_10 ?_
      refine r_ic f_S_isWidth_11 ?_
      refine r_ic_eq f_S_isWidth_13 (fun h13 => ?_) (fun h13 => ?_)
      · refine r_ic f_S_isWidth_22 ?_
        refine r_goto f_S_isWidth_23 ?_
        refine r_iret f_S_isWidth_27 ⟨_, rfl, rfl⟩ (Nat.le_refl _) (Nat.le_refl _) ?_
        first | exact y1 (Or.inl (by assumption)) | exact y1 (Or.inr (Or.inl (by assumption))) | exact y1 (Or.inr (Or.inr (Or.inl (by assumption)))) | exact y1 (Or.inr (Or.inr (Or.inr (by first | assumption | exact Classical.not_not.mp (by assumption))))) | exact y0 (by unfold sp_wd; simp only [not_or]; exact ⟨by assumption, by assumption, by assumption, by assumption⟩)
      · refine r_ild1 f_S_isWidth_16 ?_
        refine r_ic f_S_isWidth_17 ?_
        refine r_ic_ne f_S_isWidth_19 (fun h19 => ?_) (fun h19 => ?_)
        · refine r_ic f_S_isWidth_26 ?_
          refine r_iret f_S_isWidth_27 ⟨_, rfl, rfl⟩ (Nat.le_refl _) (Nat.le_refl _) ?_
          first | exact y1 (Or.inl (by assumption)) | exact y1 (Or.inr (Or.inl (by assumption))) | exact y1 (Or.inr (Or.inr (Or.inl (by assumption)))) | exact y1 (Or.inr (Or.inr (Or.inr (by first | assumption | exact Classical.not_not.mp (by assumption))))) | exact y0 (by unfold sp_wd; simp only [not_or]; exact ⟨by assumption, by assumption, by assumption, by assumption⟩)
        · refine r_ic f_S_isWidth_22 ?_
          refine r_goto f_S_isWidth_23 ?_
          refine r_iret f_S_isWidth_27 ⟨_, rfl, rfl⟩ (Nat.le_refl _) (Nat.le_refl _) ?_
          first | exact y1 (Or.inl (by assumption)) | exact y1 (Or.inr (Or.inl (by assumption))) | exact y1 (Or.inr (Or.inr (Or.inl (by assumption)))) | exact y1 (Or.inr (Or.inr (Or.inr (by first | assumption | exact Classical.not_not.mp (by assumption))))) | exact y0 (by unfold sp_wd; simp only [not_or]; exact ⟨by assumption, by assumption, by assumption, by assumption⟩)
theorem k_S_isMissing {s : Nat} (hs : s < 4) (y1 : I 92 s = 0 → K (some (.int 1)) SH RF I L) (y0 : I 92 s ≠ 0 → K (some (.int 0)) SH RF I L) : WW G d mt_S_isMissing 0 [some (.ref 86), some (.int (nI s))] [] SH RF I L 0 0 0 0 K := by
  refine r_ald0 f_S_isMissing_0 ?_
  refine r_gr f_S_isMissing_1 (s_86) (r_86_1) ?_
  refine r_ild1 f_S_isMissing_4 ?_
  refine r_iald f_S_isMissing_5 (s_92) (q_ix.nI (by omega) (by decide)) ?_
  refine r_if_ne f_S_isMissing_6 (fun h6 => ?_) (fun h6 => ?_)
  · refine r_ic f_S_isMissing_13 ?_
    refine r_iret f_S_isMissing_14 ⟨_, rfl, rfl⟩ (Nat.le_refl _) (Nat.le_refl _) ?_
    first | exact y0 h6 | exact y1 h6
  · refine r_ic f_S_isMissing_9 ?_
    refine r_goto f_S_isMissing_10 ?_
    refine r_iret f_S_isMissing_14 ⟨_, rfl, rfl⟩ (Nat.le_refl _) (Nat.le_refl _) ?_
    first | exact y0 h6 | exact y1 h6
def q_zr (L : Rl) (s j : Nat) : Rl := fun x y => if x = 88 + s ∧ y < j then 0 else L x y
theorem q_zr_s {s j : Nat} : u2 (q_zr L s j) (88 + s) j 0 = q_zr L s (j + 1) := by
  funext x y
  by_cases e : x = 88 + s ∧ y = j
  · rw [e.1, e.2, u2_self]
    unfold q_zr
    rw [if_pos ⟨rfl, Nat.lt_succ_self j⟩]
  · rw [u2_ne (by omega)]
    unfold q_zr
    by_cases h : x = 88 + s ∧ y < j
    · rw [if_pos h, if_pos ⟨h.1, by omega⟩]
    · rw [if_neg h, if_neg (by omega)]
theorem q_zr_0 {s : Nat} : q_zr L s 0 = L := by
  funext x y
  unfold q_zr
  rw [if_neg (by omega)]
theorem k_S_lay_loop {s : Nat} {w n : Int32} (hs : s < 4) (hk : K (some (.int (I 93 s))) SH RF I (q_zr L s 40)) : ∀ (m j : Nat), m + j = 40 → WW G d mt_S_lay 25 [some (.ref 86), some (.int (nI s)), some (.int w), some (.int n), some (.int (nI j))] [] SH RF I (q_zr L s j) 0 0 0 0 K
  | 0, j, h => by
    have ej : j = 40 := by omega
    subst ej
    refine r_ild4 f_S_lay_25 ?_
    refine r_ic f_S_lay_27 ?_
    refine r_ic_ge f_S_lay_29 (fun h29 => ?_) (fun h29 => absurd h29 (fun q => q (by decide)))
    refine r_ald0 f_S_lay_48 ?_
    refine r_gr f_S_lay_49 (s_86) (r_86_2) ?_
    refine r_ild1 f_S_lay_52 ?_
    refine r_iald f_S_lay_53 (s_93) (q_ix.nI (by omega) (by decide)) ?_
    refine r_iret f_S_lay_54 ⟨_, rfl, rfl⟩ (Nat.le_refl _) (Nat.le_refl _) ?_
    exact hk
  | m + 1, j, h => by
    refine r_ild4 f_S_lay_25 ?_
    refine r_ic f_S_lay_27 ?_
    refine r_ic_ge f_S_lay_29 (fun h29 => absurd h29 (nI_ge (b := 40) (by omega) (by decide))) (fun h29 => ?_)
    refine r_ald0 f_S_lay_32 ?_
    refine r_gr f_S_lay_33 (s_86) (r_86_0) ?_
    refine r_ild1 f_S_lay_36 ?_
    refine r_aald f_S_lay_37 (Or.inr (Or.inr rfl)) (s_87) (q_ix.nI (by omega) (by decide)) (rS (by omega)) ?_
    refine r_ild4 f_S_lay_38 ?_
    refine r_lc f_S_lay_40 ?_
    refine r_last f_S_lay_41 (sS (by omega)) (q_ix.nI (by omega) (by decide)) ?_
    rw [q_zr_s]
    refine r_inc4 f_S_lay_42 rfl ?_
    rw [nI_1]
    refine r_goto f_S_lay_45 ?_
    exact k_S_lay_loop hs hk m (j + 1) (by omega)
theorem k_S_lay {s : Nat} {w n : Int32} (hs : s < 4) (hk : K (some (.int (if w = 0 then 0 else n))) SH RF (u2 (u2 I 92 s w) 93 s (if w = 0 then 0 else n)) (q_zr L s 40)) : WW G d mt_S_lay 0 [some (.ref 86), some (.int (nI s)), some (.int w), some (.int n), none] [] SH RF I L 0 0 0 0 K := by
  refine r_ald0 f_S_lay_0 ?_
  refine r_gr f_S_lay_1 (s_86) (r_86_1) ?_
  refine r_ild1 f_S_lay_4 ?_
  refine r_ild2 f_S_lay_5 ?_
  refine r_iast f_S_lay_6 (s_92) (q_ix.nI (by omega) (by decide)) ?_
  refine r_ald0 f_S_lay_7 ?_
  refine r_gr f_S_lay_8 (s_86) (r_86_2) ?_
  refine r_ild1 f_S_lay_11 ?_
  refine r_ild2 f_S_lay_12 ?_
  refine r_if_ne f_S_lay_13 (fun h13 => ?_) (fun h13 => ?_)
  · rw [if_neg h13] at hk
    refine r_ild3 f_S_lay_20 ?_
    refine r_iast f_S_lay_21 (s_93) (q_ix.nI (by omega) (by decide)) ?_
    refine r_ic f_S_lay_22 ?_
    refine r_ist4 f_S_lay_23 rfl ?_
    have e0 := k_S_lay_loop (G := G) (d := d) (K := K) (w := w) (n := n) (I := u2 (u2 I 92 s w) 93 s _) (L := L) hs (by rw [u2_self]; exact hk) 40 0 rfl
    rw [q_zr_0] at e0
    exact e0
  · rw [if_pos h13] at hk
    refine r_ic f_S_lay_16 ?_
    refine r_goto f_S_lay_17 ?_
    refine r_iast f_S_lay_21 (s_93) (q_ix.nI (by omega) (by decide)) ?_
    refine r_ic f_S_lay_22 ?_
    refine r_ist4 f_S_lay_23 rfl ?_
    have e0 := k_S_lay_loop (G := G) (d := d) (K := K) (w := w) (n := n) (I := u2 (u2 I 92 s w) 93 s _) (L := L) hs (by rw [u2_self]; exact hk) 40 0 rfl
    rw [q_zr_0] at e0
    exact e0
theorem k_S_lowest {w : Int32} {x : Int64} (hk : K (some (.long (sp_low w x))) SH RF I L) : WW G d mt_S_lowest 0 [some (.int w), some (.long x), none] [] SH RF I L 0 0 0 0 K := by
  refine r_ild0 f_S_lowest_0 ?_
  refine r_sw f_S_lowest_1 ?_
  refine r_swc (k := 8) (by decide) (fun e1_8 => ?_) (fun e1_8 => ?_)
  · rw [show sp_low w x = _ from if_pos e1_8] at hk
    refine r_lld1 f_S_lowest_28 ?_
    refine r_l2i f_S_lowest_29 ?_
    refine r_i2b f_S_lowest_30 ?_
    refine r_i2l f_S_lowest_31 ?_
    refine r_lret f_S_lowest_32 rfl (Nat.le_refl _) (Nat.le_refl _) ?_
    exact hk
  refine r_swc (k := 16) (by decide) (fun e1_16 => ?_) (fun e1_16 => ?_)
  · rw [show sp_low w x = _ from (if_neg e1_8).trans (if_pos e1_16)] at hk
    refine r_lld1 f_S_lowest_33 ?_
    refine r_l2i f_S_lowest_34 ?_
    refine r_i2s f_S_lowest_35 ?_
    refine r_i2l f_S_lowest_36 ?_
    refine r_lret f_S_lowest_37 rfl (Nat.le_refl _) (Nat.le_refl _) ?_
    exact hk
  refine r_swn ?_
  rw [show sp_low w x = _ from (if_neg e1_8).trans (if_neg e1_16)] at hk
  refine r_lld1 f_S_lowest_38 ?_
  refine r_lret f_S_lowest_39 rfl (Nat.le_refl _) (Nat.le_refl _) ?_
  exact hk
theorem k_S_put {s j : Nat} {x : Int64} (hs : s < 4) (hj : j < 40) (hk : K (some (.long (L (88 + s) j))) SH RF I (u2 L (88 + s) j (sp_low (I 92 s) x))) : WW G (d + 1) mt_S_put 0 [some (.ref 86), some (.int (nI s)), some (.int (nI j)), some (.long x), none, none, none] [] SH RF I L 0 0 0 0 K := by
  refine r_ald0 f_S_put_0 ?_
  refine r_gr f_S_put_1 (s_86) (r_86_0) ?_
  refine r_ild1 f_S_put_4 ?_
  refine r_aald f_S_put_5 (Or.inr (Or.inr rfl)) (s_87) (q_ix.nI (by omega) (by decide)) (rS (by omega)) ?_
  refine r_ild2 f_S_put_6 ?_
  refine r_lald f_S_put_7 (sS (by omega)) (q_ix.nI (by omega) (by decide)) ?_
  refine r_lst5 f_S_put_8 (by decide) rfl ?_
  refine r_ald0 f_S_put_10 ?_
  refine r_gr f_S_put_11 (s_86) (r_86_0) ?_
  refine r_ild1 f_S_put_14 ?_
  refine r_aald f_S_put_15 (Or.inr (Or.inr rfl)) (s_87) (q_ix.nI (by omega) (by decide)) (rS (by omega)) ?_
  refine r_ild2 f_S_put_16 ?_
  refine r_ald0 f_S_put_17 ?_
  refine r_gr f_S_put_18 (s_86) (r_86_1) ?_
  refine r_ild1 f_S_put_21 ?_
  refine r_iald f_S_put_22 (s_92) (q_ix.nI (by omega) (by decide)) ?_
  refine r_lld3 f_S_put_23 ?_
  refine c_S_lowest f_S_put_24 (Nat.le_of_ble_eq_true rfl) (Nat.le_refl _) (Nat.le_refl _) ?_
  refine k_S_lowest ?_
  refine r_last f_S_put_27 (sS (by omega)) (q_ix.nI (by omega) (by decide)) ?_
  refine r_lld5 f_S_put_28 ?_
  refine r_lret f_S_put_30 rfl (Nat.le_refl _) (Nat.le_refl _) ?_
  exact hk
theorem k_S_holds {s : Nat} {j n : Int32} (hs : s < 4) (y1 : 0 ≤ n ∧ n ≤ I 93 s ∧ 0 ≤ j ∧ j ≤ I 93 s - n → K (some (.int 1)) SH RF I L) (y0 : ¬ (0 ≤ n ∧ n ≤ I 93 s ∧ 0 ≤ j ∧ j ≤ I 93 s - n) → K (some (.int 0)) SH RF I L) : WW G (d + 1) mt_S_holds 0 [some (.ref 86), some (.int (nI s)), some (.int j), some (.int n)] [] SH RF I L 0 0 0 0 K := by
  refine r_ild3 f_S_holds_0 ?_
  refine r_if_lt f_S_holds_1 (fun h1 => ?_) (fun h1 => ?_)
  · refine r_ic f_S_holds_34 ?_
    refine r_iret f_S_holds_35 ⟨_, rfl, rfl⟩ (Nat.le_refl _) (Nat.le_refl _) ?_
    first
      | exact y1 ⟨Int32.not_lt.mp h1, Int32.not_lt.mp h11, ha, hb⟩
      | exact y0 (fun q => h ⟨q.2.2.1, q.2.2.2⟩)
      | exact y0 (fun q => Int32.not_le.mpr h11 q.2.1)
      | exact y0 (fun q => Int32.not_le.mpr h1 q.1)
  · refine r_ild3 f_S_holds_4 ?_
    refine r_ald0 f_S_holds_5 ?_
    refine r_gr f_S_holds_6 (s_86) (r_86_2) ?_
    refine r_ild1 f_S_holds_9 ?_
    refine r_iald f_S_holds_10 (s_93) (q_ix.nI (by omega) (by decide)) ?_
    refine r_ic_gt f_S_holds_11 (fun h11 => ?_) (fun h11 => ?_)
    · refine r_ic f_S_holds_34 ?_
      refine r_iret f_S_holds_35 ⟨_, rfl, rfl⟩ (Nat.le_refl _) (Nat.le_refl _) ?_
      first
        | exact y1 ⟨Int32.not_lt.mp h1, Int32.not_lt.mp h11, ha, hb⟩
        | exact y0 (fun q => h ⟨q.2.2.1, q.2.2.2⟩)
        | exact y0 (fun q => Int32.not_le.mpr h11 q.2.1)
        | exact y0 (fun q => Int32.not_le.mpr h1 q.1)
    · refine r_ild2 f_S_holds_14 ?_
      refine r_ic f_S_holds_15 ?_
      refine r_ald0 f_S_holds_16 ?_
      refine r_gr f_S_holds_17 (s_86) (r_86_2) ?_
      refine r_ild1 f_S_holds_20 ?_
      refine r_iald f_S_holds_21 (s_93) (q_ix.nI (by omega) (by decide)) ?_
      refine r_ild3 f_S_holds_22 ?_
      refine r_isub f_S_holds_23 ?_
      refine c_N_isWithin f_S_holds_24 (Nat.le_of_ble_eq_true rfl) (Nat.le_refl _) (Nat.le_refl _) ?_
      refine k_N_isWithin (fun ha hb => ?_) (fun h => ?_)
      · refine r_if_eq f_S_holds_27 (fun h => absurd h (by decide)) (fun _ => ?_)
        refine r_ic f_S_holds_30 ?_
        refine r_goto f_S_holds_31 ?_
        refine r_iret f_S_holds_35 ⟨_, rfl, rfl⟩ (Nat.le_refl _) (Nat.le_refl _) ?_
        first
          | exact y1 ⟨Int32.not_lt.mp h1, Int32.not_lt.mp h11, ha, hb⟩
          | exact y0 (fun q => h ⟨q.2.2.1, q.2.2.2⟩)
          | exact y0 (fun q => Int32.not_le.mpr h11 q.2.1)
          | exact y0 (fun q => Int32.not_le.mpr h1 q.1)
      · refine r_if_eq f_S_holds_27 (fun _ => ?_) (fun h => absurd h (by decide))
        refine r_ic f_S_holds_34 ?_
        refine r_iret f_S_holds_35 ⟨_, rfl, rfl⟩ (Nat.le_refl _) (Nat.le_refl _) ?_
        first
          | exact y1 ⟨Int32.not_lt.mp h1, Int32.not_lt.mp h11, ha, hb⟩
          | exact y0 (fun q => h ⟨q.2.2.1, q.2.2.2⟩)
          | exact y0 (fun q => Int32.not_le.mpr h11 q.2.1)
          | exact y0 (fun q => Int32.not_le.mpr h1 q.1)
theorem q_04 {k : Nat} (h : k < 4) : 0 ≤ nI k ∧ nI k ≤ 3 := ⟨nI_pos' (by omega), nI_le (b := 3) (by omega) (by decide)⟩
def op_sheet (σ : St) (s w n : Int32) : Int32 × St := if (0 ≤ s ∧ s ≤ 3) ∧ sp_wd w then if n < 0 then fnd σ (-1000000007) 6 else if n ≤ 40 then ((if w = 0 then 0 else n), zS σ (fun t => if t = s.toNatClampNeg then w else σ.2.2.2.2.1 t) (fun t => if t = s.toNatClampNeg then (if w = 0 then 0 else n) else σ.2.2.2.2.2.1 t) (fun t j => if t = s.toNatClampNeg then 0 else σ.2.2.2.2.2.2 t j)) else fnd σ (-1000000001) 0 else fnd σ (-1000000001) 0
theorem RepC.lay {s : Nat} {w n : Int32} (hC : RepC I L σ) (hs : s < 4) : RepC (u2 (u2 I 92 s w) 93 s n) (q_zr L s 40) (zS σ (fun t => if t = s then w else σ.2.2.2.2.1 t) (fun t => if t = s then n else σ.2.2.2.2.2.1 t) (fun t j => if t = s then 0 else σ.2.2.2.2.2.2 t j)) := by
  refine hC.sh (fun x y a1 a2 => by rw [u2_ne (Or.inl a2), u2_ne (Or.inl a1)]) (fun t ht => ⟨?_, ?_, fun j hj => ?_⟩)
  · rw [u2_ne (Or.inl (by decide))]
    try dsimp only
    by_cases e : t = s
    · subst e
      rw [u2_self, if_pos rfl]
    · rw [u2_ne (Or.inr e), if_neg e]
      exact (hC.2.2.2.2 t ht).1
  · try dsimp only
    by_cases e : t = s
    · subst e
      rw [u2_self, if_pos rfl]
    · rw [u2_ne (Or.inr e), u2_ne (Or.inl (by decide)), if_neg e]
      exact (hC.2.2.2.2 t ht).2.1
  · try dsimp only
    unfold q_zr
    by_cases e : t = s
    · subst e
      rw [if_pos ⟨rfl, hj⟩, if_pos rfl]
    · rw [if_neg (by omega), if_neg e]
      exact (hC.2.2.2.2 t ht).2.2 j hj
theorem k_N_sheet {s w n : Int32} (hC : RepC I L σ) (hW : WFs σ) (hk : CK K I L (op_sheet σ s w n)) : WW G (d + 2) mt_N_sheet 0 [some (.ref 0), some (.int s), some (.int w), some (.int n)] [] SH RF I L 0 0 0 0 K := by
  unfold op_sheet at hk
  have hcnt := hC.cnt hW
  have hc8 := hW.1.1.1
  refine r_ald0 f_N_sheet_0 ?_
  refine r_gr f_N_sheet_1 (s_0) (r_0_5) ?_
  refine r_ild1 f_N_sheet_4 ?_
  refine c_S_has f_N_sheet_5 (s_86) (Nat.le_of_ble_eq_true rfl) (Nat.le_refl _) (Nat.le_refl _) ?_
  refine k_S_has (fun hsa hsb => ?_) (fun hs => ?_)
  · obtain ⟨k, hk', ek⟩ := q_inC (c := 4) (by omega) hsa hsb
    subst ek
    refine r_if_eq f_N_sheet_8 (fun h => absurd h (by decide)) (fun _ => ?_)
    refine r_ald0 f_N_sheet_11 ?_
    refine r_gr f_N_sheet_12 (s_0) (r_0_5) ?_
    refine r_ild2 f_N_sheet_15 ?_
    refine c_S_isWidth f_N_sheet_16 (s_86) (Nat.le_of_ble_eq_true rfl) (Nat.le_refl _) (Nat.le_refl _) ?_
    refine k_S_isWidth (fun hw => ?_) (fun hw => ?_)
    · rw [if_pos ⟨q_04 hk', hw⟩, nI_clamp (by omega)] at hk
      refine r_if_ne f_N_sheet_19 (fun _ => ?_) (fun h => absurd h (by decide))
      refine r_ild3 f_N_sheet_29 ?_
      refine r_if_ge f_N_sheet_30 (fun h30 => ?_) (fun h30 => ?_)
      · rw [if_neg (Int32.not_lt.mpr h30)] at hk
        refine r_ild3 f_N_sheet_41 ?_
        refine r_ic f_N_sheet_42 ?_
        refine r_ic_le f_N_sheet_44 (fun h44 => ?_) (fun h44 => ?_)
        · rw [if_pos h44] at hk
          refine r_ald0 f_N_sheet_54 ?_
          refine r_gr f_N_sheet_55 (s_0) (r_0_5) ?_
          refine r_ild1 f_N_sheet_58 ?_
          refine r_ild2 f_N_sheet_59 ?_
          refine r_ild3 f_N_sheet_60 ?_
          refine c_S_lay f_N_sheet_61 (s_86) (Nat.le_of_ble_eq_true rfl) (Nat.le_refl _) (Nat.le_refl _) ?_
          refine k_S_lay hk' ?_
          refine r_iret f_N_sheet_64 ⟨_, rfl, rfl⟩ (Nat.le_refl _) (Nat.le_refl _) ?_
          exact hk _ _ (hC.lay hk') (fun x y hx => ⟨by rw [u2_ne (Or.inl (by omega)), u2_ne (Or.inl (by omega))], by unfold q_zr; rw [if_neg (by omega)]⟩)
        · rw [if_neg h44] at hk
          refine r_ald0 f_N_sheet_47 ?_
          refine r_ic f_N_sheet_48 ?_
          refine c_N_finding f_N_sheet_50 (s_0) (Nat.le_of_ble_eq_true rfl) (Nat.le_refl _) (Nat.le_refl _) ?_
          refine k_N_finding (k := 0) (by decide) (by decide) hC (fun I9 hC9 hi9 => ?_)
          refine r_iret f_N_sheet_53 ⟨_, rfl, rfl⟩ (Nat.le_refl _) (Nat.le_refl _) ?_
          exact hk _ _ hC9 hi9
      · rw [if_pos (Int32.not_le.mp h30)] at hk
        refine r_ald0 f_N_sheet_33 ?_
        refine r_ic f_N_sheet_34 ?_
        refine c_N_finding f_N_sheet_37 (s_0) (Nat.le_of_ble_eq_true rfl) (Nat.le_refl _) (Nat.le_refl _) ?_
        refine k_N_finding (k := 6) (by decide) (by decide) hC (fun I9 hC9 hi9 => ?_)
        refine r_iret f_N_sheet_40 ⟨_, rfl, rfl⟩ (Nat.le_refl _) (Nat.le_refl _) ?_
        exact hk _ _ hC9 hi9
    · rw [if_neg (fun q => hw q.2)] at hk
      refine r_if_ne f_N_sheet_19 (fun h => absurd h (by decide)) (fun _ => ?_)
      refine r_ald0 f_N_sheet_22 ?_
      refine r_ic f_N_sheet_23 ?_
      refine c_N_finding f_N_sheet_25 (s_0) (Nat.le_of_ble_eq_true rfl) (Nat.le_refl _) (Nat.le_refl _) ?_
      refine k_N_finding (k := 0) (by decide) (by decide) hC (fun I9 hC9 hi9 => ?_)
      refine r_iret f_N_sheet_28 ⟨_, rfl, rfl⟩ (Nat.le_refl _) (Nat.le_refl _) ?_
      exact hk _ _ hC9 hi9
  · rw [if_neg (fun q => hs q.1)] at hk
    refine r_if_eq f_N_sheet_8 (fun _ => ?_) (fun h => absurd h (by decide))
    refine r_ald0 f_N_sheet_22 ?_
    refine r_ic f_N_sheet_23 ?_
    refine c_N_finding f_N_sheet_25 (s_0) (Nat.le_of_ble_eq_true rfl) (Nat.le_refl _) (Nat.le_refl _) ?_
    refine k_N_finding (k := 0) (by decide) (by decide) hC (fun I9 hC9 hi9 => ?_)
    refine r_iret f_N_sheet_28 ⟨_, rfl, rfl⟩ (Nat.le_refl _) (Nat.le_refl _) ?_
    exact hk _ _ hC9 hi9
def op_write (σ : St) (s j : Int32) (x : Int64) : Int64 × St := if 0 ≤ s ∧ s ≤ 3 then if σ.2.2.2.2.1 s.toNatClampNeg = 0 then fndL σ (-1000000006) 5 else if 0 ≤ j ∧ j ≤ σ.2.2.2.2.2.1 s.toNatClampNeg - 1 then (σ.2.2.2.2.2.2 s.toNatClampNeg j.toNatClampNeg, zS σ σ.2.2.2.2.1 σ.2.2.2.2.2.1 (fun t i => if t = s.toNatClampNeg ∧ i = j.toNatClampNeg then sp_low (σ.2.2.2.2.1 s.toNatClampNeg) x else σ.2.2.2.2.2.2 t i)) else fndL σ (-1000000001) 0 else fndL σ (-1000000001) 0
theorem k_N_write {s j : Int32} {x : Int64} (hC : RepC I L σ) (hW : WFs σ) (hk : CKl K I L (op_write σ s j x)) : WW G (d + 2) mt_N_write 0 [some (.ref 0), some (.int s), some (.int j), some (.long x), none] [] SH RF I L 0 0 0 0 K := by
  unfold op_write at hk
  have hcnt := hC.cnt hW
  have hc8 := hW.1.1.1
  refine r_ald0 f_N_write_0 ?_
  refine r_gr f_N_write_1 (s_0) (r_0_5) ?_
  refine r_ild1 f_N_write_4 ?_
  refine c_S_has f_N_write_5 (s_86) (Nat.le_of_ble_eq_true rfl) (Nat.le_refl _) (Nat.le_refl _) ?_
  refine k_S_has (fun hsa hsb => ?_) (fun hs => ?_)
  · obtain ⟨k, hk', ek⟩ := q_inC (c := 4) (by omega) hsa hsb
    subst ek
    rw [if_pos ⟨hsa, hsb⟩, nI_clamp (by omega)] at hk
    have hC5 := hC.2.2.2.2 k hk'
    refine r_if_ne f_N_write_8 (fun _ => ?_) (fun h => absurd h (by decide))
    refine r_ald0 f_N_write_19 ?_
    refine r_gr f_N_write_20 (s_0) (r_0_5) ?_
    refine r_ild1 f_N_write_23 ?_
    refine c_S_isMissing f_N_write_24 (s_86) (Nat.le_of_ble_eq_true rfl) (Nat.le_refl _) (Nat.le_refl _) ?_
    refine k_S_isMissing hk' (fun hm => ?_) (fun hm => ?_)
    · rw [hC5.1] at hm
      rw [if_pos hm] at hk
      refine r_if_eq f_N_write_27 (fun h => absurd h (by decide)) (fun _ => ?_)
      refine r_ald0 f_N_write_30 ?_
      refine r_ic f_N_write_31 ?_
      refine c_N_finding f_N_write_34 (s_0) (Nat.le_of_ble_eq_true rfl) (Nat.le_refl _) (Nat.le_refl _) ?_
      refine k_N_finding (k := 5) (by decide) (by decide) hC (fun I9 hC9 hi9 => ?_)
      refine r_i2l f_N_write_37 ?_
      refine r_lret f_N_write_38 rfl (Nat.le_refl _) (Nat.le_refl _) ?_
      exact hk _ _ hC9 hi9
    · rw [hC5.1] at hm
      rw [if_neg hm] at hk
      refine r_if_eq f_N_write_27 (fun _ => ?_) (fun h => absurd h (by decide))
      refine r_ild2 f_N_write_39 ?_
      refine r_ic f_N_write_40 ?_
      refine r_ald0 f_N_write_41 ?_
      refine r_gr f_N_write_42 (s_0) (r_0_5) ?_
      refine r_gr f_N_write_45 (s_86) (r_86_2) ?_
      refine r_ild1 f_N_write_48 ?_
      refine r_iald f_N_write_49 (s_93) (q_ix.nI (by omega) (by decide)) ?_
      rw [hC5.2.1]
      refine r_ic f_N_write_50 ?_
      refine r_isub f_N_write_51 ?_
      refine c_N_isWithin f_N_write_52 (Nat.le_of_ble_eq_true rfl) (Nat.le_refl _) (Nat.le_refl _) ?_
      refine k_N_isWithin (fun hxa hxb => ?_) (fun hx => ?_)
      · rw [if_pos ⟨hxa, hxb⟩] at hk
        obtain ⟨z, z1, z2, z3⟩ := (hW.2.2.2 k hk').2
        rw [z3] at hxb
        obtain ⟨u, hu, eu⟩ := q_inC (c := z) (by omega) hxa hxb
        subst eu
        rw [nI_clamp (by omega)] at hk
        refine r_if_ne f_N_write_55 (fun _ => ?_) (fun h => absurd h (by decide))
        refine r_ald0 f_N_write_66 ?_
        refine r_gr f_N_write_67 (s_0) (r_0_5) ?_
        refine r_ild1 f_N_write_70 ?_
        refine r_ild2 f_N_write_71 ?_
        refine r_lld3 f_N_write_72 ?_
        refine c_S_put f_N_write_73 (s_86) (Nat.le_of_ble_eq_true rfl) (Nat.le_refl _) (Nat.le_refl _) ?_
        refine k_S_put hk' (show u < 40 by omega) ?_
        refine r_lret f_N_write_76 rfl (Nat.le_refl _) (Nat.le_refl _) ?_
        rw [hC5.2.2 u (by omega)]
        refine hk _ _ (hC.sh (fun x y _ _ => rfl) (fun t ht => ⟨(hC.2.2.2.2 t ht).1, (hC.2.2.2.2 t ht).2.1, fun i hi => ?_⟩)) (fun x y hx => ⟨rfl, u2_ne (Or.inl (by omega))⟩)
        try dsimp only
        by_cases e : t = k ∧ i = u
        · rw [if_pos e, e.1, e.2, u2_self, hC5.1]
        · rw [if_neg e, u2_ne (by omega)]
          exact (hC.2.2.2.2 t ht).2.2 i hi
      · rw [if_neg hx] at hk
        refine r_if_ne f_N_write_55 (fun h => absurd h (by decide)) (fun _ => ?_)
        refine r_ald0 f_N_write_58 ?_
        refine r_ic f_N_write_59 ?_
        refine c_N_finding f_N_write_61 (s_0) (Nat.le_of_ble_eq_true rfl) (Nat.le_refl _) (Nat.le_refl _) ?_
        refine k_N_finding (k := 0) (by decide) (by decide) hC (fun I9 hC9 hi9 => ?_)
        refine r_i2l f_N_write_64 ?_
        refine r_lret f_N_write_65 rfl (Nat.le_refl _) (Nat.le_refl _) ?_
        exact hk _ _ hC9 hi9
  · rw [if_neg hs] at hk
    refine r_if_ne f_N_write_8 (fun h => absurd h (by decide)) (fun _ => ?_)
    refine r_ald0 f_N_write_11 ?_
    refine r_ic f_N_write_12 ?_
    refine c_N_finding f_N_write_14 (s_0) (Nat.le_of_ble_eq_true rfl) (Nat.le_refl _) (Nat.le_refl _) ?_
    refine k_N_finding (k := 0) (by decide) (by decide) hC (fun I9 hC9 hi9 => ?_)
    refine r_i2l f_N_write_17 ?_
    refine r_lret f_N_write_18 rfl (Nat.le_refl _) (Nat.le_refl _) ?_
    exact hk _ _ hC9 hi9
abbrev sp_holds (z j n : Int32) : Prop := 0 ≤ n ∧ n ≤ z ∧ 0 ≤ j ∧ j ≤ z - n
theorem sp_holds_nat {z j n : Int32} (hz : q_le z 0 40) (h : sp_holds z j n) : ∃ Z J N : Nat, Z ≤ 40 ∧ J + N ≤ Z ∧ z = nI Z ∧ j = nI J ∧ n = nI N := by
  obtain ⟨Z, z1, z2, z3⟩ := hz
  obtain ⟨h1, h2, h3, h4⟩ := h
  subst z3
  obtain ⟨N, n1, n2⟩ := nI_of (Int32.not_lt.mpr h1)
  obtain ⟨J, j1, j2⟩ := nI_of (Int32.not_lt.mpr h3)
  subst n2
  subst j2
  have h5 := (nI_leI n1 (by omega)).mp h2
  rw [pk_sub h5] at h4
  have h6 := (nI_leI j1 (by omega)).mp h4
  exact ⟨Z, J, N, z2, by omega, rfl, rfl, rfl⟩
def op_copy (σ : St) (s i t j n : Int32) : Int32 × St := if (0 ≤ s ∧ s ≤ 3) ∧ (0 ≤ t ∧ t ≤ 3) then if σ.2.2.2.2.1 s.toNatClampNeg = 0 ∨ σ.2.2.2.2.1 t.toNatClampNeg = 0 then fnd σ (-1000000006) 5 else if σ.2.2.2.2.1 s.toNatClampNeg = σ.2.2.2.2.1 t.toNatClampNeg then
  if sp_holds (σ.2.2.2.2.2.1 s.toNatClampNeg) i n ∧ sp_holds (σ.2.2.2.2.2.1 t.toNatClampNeg) j n then (n, zS σ σ.2.2.2.2.1 σ.2.2.2.2.2.1 (fun u y => if u = t.toNatClampNeg ∧ j.toNatClampNeg ≤ y ∧ y < j.toNatClampNeg + n.toNatClampNeg then σ.2.2.2.2.2.2 s.toNatClampNeg (i.toNatClampNeg + (y - j.toNatClampNeg)) else σ.2.2.2.2.2.2 u y)) else fnd σ (-1000000001) 0 else fnd σ (-1000000003) 2 else fnd σ (-1000000001) 0
theorem k_N_copy {s i t j n : Int32} (hC : RepC I L σ) (hW : WFs σ) (hk : CK K I L (op_copy σ s i t j n)) : WW G (d + 2) mt_N_copy 0 [some (.ref 0), some (.int s), some (.int i), some (.int t), some (.int j), some (.int n)] [] SH RF I L 0 0 0 0 K := by
  unfold op_copy at hk
  have hcnt := hC.cnt hW
  have hc8 := hW.1.1.1
  refine r_ald0 f_N_copy_0 ?_
  refine r_gr f_N_copy_1 (s_0) (r_0_5) ?_
  refine r_ild1 f_N_copy_4 ?_
  refine c_S_has f_N_copy_5 (s_86) (Nat.le_of_ble_eq_true rfl) (Nat.le_refl _) (Nat.le_refl _) ?_
  refine k_S_has (fun hsa hsb => ?_) (fun hs => ?_)
  · obtain ⟨p, hp, ep⟩ := q_inC (c := 4) (by omega) hsa hsb
    subst ep
    refine r_if_eq f_N_copy_8 (fun h => absurd h (by decide)) (fun _ => ?_)
    refine r_ald0 f_N_copy_11 ?_
    refine r_gr f_N_copy_12 (s_0) (r_0_5) ?_
    refine r_ild3 f_N_copy_15 ?_
    refine c_S_has f_N_copy_16 (s_86) (Nat.le_of_ble_eq_true rfl) (Nat.le_refl _) (Nat.le_refl _) ?_
    refine k_S_has (fun hta htb => ?_) (fun ht => ?_)
    · obtain ⟨q, hq, eq⟩ := q_inC (c := 4) (by omega) hta htb
      subst eq
      rw [if_pos ⟨q_04 hp, q_04 hq⟩, nI_clamp (n := p) (by omega), nI_clamp (n := q) (by omega)] at hk
      have hCp := hC.2.2.2.2 p hp
      have hCq := hC.2.2.2.2 q hq
      refine r_if_ne f_N_copy_19 (fun _ => ?_) (fun h => absurd h (by decide))
      refine r_ald0 f_N_copy_29 ?_
      refine r_gr f_N_copy_30 (s_0) (r_0_5) ?_
      refine r_ild1 f_N_copy_33 ?_
      refine c_S_isMissing f_N_copy_34 (s_86) (Nat.le_of_ble_eq_true rfl) (Nat.le_refl _) (Nat.le_refl _) ?_
      refine k_S_isMissing hp (fun hm => ?_) (fun hm => ?_)
      · rw [hCp.1] at hm
        rw [if_pos (Or.inl hm)] at hk
        refine r_if_ne f_N_copy_37 (fun _ => ?_) (fun h => absurd h (by decide))
        refine r_ald0 f_N_copy_51 ?_
        refine r_ic f_N_copy_52 ?_
        refine c_N_finding f_N_copy_55 (s_0) (Nat.le_of_ble_eq_true rfl) (Nat.le_refl _) (Nat.le_refl _) ?_
        refine k_N_finding (k := 5) (by decide) (by decide) hC (fun I9 hC9 hi9 => ?_)
        refine r_iret f_N_copy_58 ⟨_, rfl, rfl⟩ (Nat.le_refl _) (Nat.le_refl _) ?_
        exact hk _ _ hC9 hi9
      · rw [hCp.1] at hm
        refine r_if_ne f_N_copy_37 (fun h => absurd h (by decide)) (fun _ => ?_)
        refine r_ald0 f_N_copy_40 ?_
        refine r_gr f_N_copy_41 (s_0) (r_0_5) ?_
        refine r_ild3 f_N_copy_44 ?_
        refine c_S_isMissing f_N_copy_45 (s_86) (Nat.le_of_ble_eq_true rfl) (Nat.le_refl _) (Nat.le_refl _) ?_
        refine k_S_isMissing hq (fun hn => ?_) (fun hn => ?_)
        · rw [hCq.1] at hn
          rw [if_pos (Or.inr hn)] at hk
          refine r_if_eq f_N_copy_48 (fun h => absurd h (by decide)) (fun _ => ?_)
          refine r_ald0 f_N_copy_51 ?_
          refine r_ic f_N_copy_52 ?_
          refine c_N_finding f_N_copy_55 (s_0) (Nat.le_of_ble_eq_true rfl) (Nat.le_refl _) (Nat.le_refl _) ?_
          refine k_N_finding (k := 5) (by decide) (by decide) hC (fun I9 hC9 hi9 => ?_)
          refine r_iret f_N_copy_58 ⟨_, rfl, rfl⟩ (Nat.le_refl _) (Nat.le_refl _) ?_
          exact hk _ _ hC9 hi9
        · rw [hCq.1] at hn
          rw [if_neg (fun w => w.elim hm hn)] at hk
          refine r_if_eq f_N_copy_48 (fun _ => ?_) (fun h => absurd h (by decide))
          refine r_ald0 f_N_copy_59 ?_
          refine r_gr f_N_copy_60 (s_0) (r_0_5) ?_
          refine r_gr f_N_copy_63 (s_86) (r_86_1) ?_
          refine r_ild1 f_N_copy_66 ?_
          refine r_iald f_N_copy_67 (s_92) (q_ix.nI (by omega) (by decide)) ?_
          refine r_ald0 f_N_copy_68 ?_
          refine r_gr f_N_copy_69 (s_0) (r_0_5) ?_
          refine r_gr f_N_copy_72 (s_86) (r_86_1) ?_
          refine r_ild3 f_N_copy_75 ?_
          refine r_iald f_N_copy_76 (s_92) (q_ix.nI (by omega) (by decide)) ?_
          rw [hCp.1, hCq.1]
          refine r_ic_eq f_N_copy_77 (fun h77 => ?_) (fun h77 => ?_)
          · rw [if_pos h77] at hk
            refine r_ald0 f_N_copy_87 ?_
            refine r_gr f_N_copy_88 (s_0) (r_0_5) ?_
            refine r_ild1 f_N_copy_91 ?_
            refine r_ild2 f_N_copy_92 ?_
            refine r_ild5 f_N_copy_93 ?_
            refine c_S_holds f_N_copy_95 (s_86) (Nat.le_of_ble_eq_true rfl) (Nat.le_refl _) (Nat.le_refl _) ?_
            refine k_S_holds hp (fun hh => ?_) (fun hh => ?_)
            · rw [hCp.2.1] at hh
              refine r_if_eq f_N_copy_98 (fun h => absurd h (by decide)) (fun _ => ?_)
              refine r_ald0 f_N_copy_101 ?_
              refine r_gr f_N_copy_102 (s_0) (r_0_5) ?_
              refine r_ild3 f_N_copy_105 ?_
              refine r_ild4 f_N_copy_106 ?_
              refine r_ild5 f_N_copy_108 ?_
              refine c_S_holds f_N_copy_110 (s_86) (Nat.le_of_ble_eq_true rfl) (Nat.le_refl _) (Nat.le_refl _) ?_
              refine k_S_holds hq (fun hg => ?_) (fun hg => ?_)
              · rw [hCq.2.1] at hg
                rw [if_pos ⟨hh, hg⟩] at hk
                obtain ⟨Z, J, N, a1, a2, a3, a4, a5⟩ := sp_holds_nat (hW.2.2.2 p hp).2 hh
                obtain ⟨Z2, J2, N2, b1, b2, b3, b4, b5⟩ := sp_holds_nat (hW.2.2.2 q hq).2 hg
                subst a4
                subst b4
                subst a5
                obtain rfl := (nI_eq (by omega) (by omega)).mp b5
                rw [nI_clamp (n := J) (by omega), nI_clamp (n := J2) (by omega), nI_clamp (n := N) (by omega)] at hk
                refine r_if_ne f_N_copy_113 (fun _ => ?_) (fun h => absurd h (by decide))
                refine r_ald0 f_N_copy_123 ?_
                refine r_gr f_N_copy_124 (s_0) (r_0_5) ?_
                refine r_gr f_N_copy_127 (s_86) (r_86_0) ?_
                refine r_ild1 f_N_copy_130 ?_
                refine r_aald f_N_copy_131 (Or.inr (Or.inr rfl)) (s_87) (q_ix.nI (by omega) (by decide)) (rS (by omega)) ?_
                refine r_ild2 f_N_copy_132 ?_
                refine r_ald0 f_N_copy_133 ?_
                refine r_gr f_N_copy_134 (s_0) (r_0_5) ?_
                refine r_gr f_N_copy_137 (s_86) (r_86_0) ?_
                refine r_ild3 f_N_copy_140 ?_
                refine r_aald f_N_copy_141 (Or.inr (Or.inr rfl)) (s_87) (q_ix.nI (by omega) (by decide)) (rS (by omega)) ?_
                refine r_ild4 f_N_copy_142 ?_
                refine r_ild5 f_N_copy_144 ?_
                refine r_cpl f_N_copy_146 (sS (by omega)) (sS (by omega)) (nI_toInt (by omega)) (nI_toInt (by omega)) (nI_toInt (by omega)) (show J + N ≤ 40 by omega) (show J2 + N ≤ 40 by omega) (Nat.le_of_ble_eq_true rfl) ?_
                refine r_ild5 f_N_copy_149 ?_
                refine r_iret f_N_copy_151 ⟨_, rfl, rfl⟩ (Nat.le_refl _) (Nat.le_refl _) ?_
                refine hk _ _ (hC.sh (fun x y _ _ => rfl) (fun u hu => ⟨(hC.2.2.2.2 u hu).1, (hC.2.2.2.2 u hu).2.1, fun y hy => ?_⟩)) (fun x y hx => ⟨rfl, congrFun (q_cpy_row (by omega)) y⟩)
                try dsimp only
                unfold q_cpy
                by_cases e : u = q ∧ J2 ≤ y ∧ y < J2 + N
                · rw [if_pos e, if_pos ⟨by omega, e.2⟩]
                  exact hCp.2.2 _ (by omega)
                · rw [if_neg e, if_neg (by omega)]
                  exact (hC.2.2.2.2 u hu).2.2 y hy
              · rw [hCq.2.1] at hg
                rw [if_neg (fun w => hg w.2)] at hk
                refine r_if_ne f_N_copy_113 (fun h => absurd h (by decide)) (fun _ => ?_)
                refine r_ald0 f_N_copy_116 ?_
                refine r_ic f_N_copy_117 ?_
                refine c_N_finding f_N_copy_119 (s_0) (Nat.le_of_ble_eq_true rfl) (Nat.le_refl _) (Nat.le_refl _) ?_
                refine k_N_finding (k := 0) (by decide) (by decide) hC (fun I9 hC9 hi9 => ?_)
                refine r_iret f_N_copy_122 ⟨_, rfl, rfl⟩ (Nat.le_refl _) (Nat.le_refl _) ?_
                exact hk _ _ hC9 hi9
            · rw [hCp.2.1] at hh
              rw [if_neg (fun w => hh w.1)] at hk
              refine r_if_eq f_N_copy_98 (fun _ => ?_) (fun h => absurd h (by decide))
              refine r_ald0 f_N_copy_116 ?_
              refine r_ic f_N_copy_117 ?_
              refine c_N_finding f_N_copy_119 (s_0) (Nat.le_of_ble_eq_true rfl) (Nat.le_refl _) (Nat.le_refl _) ?_
              refine k_N_finding (k := 0) (by decide) (by decide) hC (fun I9 hC9 hi9 => ?_)
              refine r_iret f_N_copy_122 ⟨_, rfl, rfl⟩ (Nat.le_refl _) (Nat.le_refl _) ?_
              exact hk _ _ hC9 hi9
          · rw [if_neg h77] at hk
            refine r_ald0 f_N_copy_80 ?_
            refine r_ic f_N_copy_81 ?_
            refine c_N_finding f_N_copy_83 (s_0) (Nat.le_of_ble_eq_true rfl) (Nat.le_refl _) (Nat.le_refl _) ?_
            refine k_N_finding (k := 2) (by decide) (by decide) hC (fun I9 hC9 hi9 => ?_)
            refine r_iret f_N_copy_86 ⟨_, rfl, rfl⟩ (Nat.le_refl _) (Nat.le_refl _) ?_
            exact hk _ _ hC9 hi9
    · rw [if_neg (fun q => ht q.2)] at hk
      refine r_if_ne f_N_copy_19 (fun h => absurd h (by decide)) (fun _ => ?_)
      refine r_ald0 f_N_copy_22 ?_
      refine r_ic f_N_copy_23 ?_
      refine c_N_finding f_N_copy_25 (s_0) (Nat.le_of_ble_eq_true rfl) (Nat.le_refl _) (Nat.le_refl _) ?_
      refine k_N_finding (k := 0) (by decide) (by decide) hC (fun I9 hC9 hi9 => ?_)
      refine r_iret f_N_copy_28 ⟨_, rfl, rfl⟩ (Nat.le_refl _) (Nat.le_refl _) ?_
      exact hk _ _ hC9 hi9
  · rw [if_neg (fun q => hs q.1)] at hk
    refine r_if_eq f_N_copy_8 (fun _ => ?_) (fun h => absurd h (by decide))
    refine r_ald0 f_N_copy_22 ?_
    refine r_ic f_N_copy_23 ?_
    refine c_N_finding f_N_copy_25 (s_0) (Nat.le_of_ble_eq_true rfl) (Nat.le_refl _) (Nat.le_refl _) ?_
    refine k_N_finding (k := 0) (by decide) (by decide) hC (fun I9 hC9 hi9 => ?_)
    refine r_iret f_N_copy_28 ⟨_, rfl, rfl⟩ (Nat.le_refl _) (Nat.le_refl _) ?_
    exact hk _ _ hC9 hi9
def sp_wl (c : Nat → Int64) (D : Dst) : Nat → Dst × Int32
  | 0 => (D, 0)
  | j + 1 => if 0 ≤ c j ∧ c j ≤ 999 then (eF (sp_wl c D j).1 j 2 (c j).toInt32, (sp_wl c D j).2 + 1) else sp_wl c D j
theorem sp_wl_cnt {c : Nat → Int64} {D : Dst} : ∀ j, dC (sp_wl c D j).1 = dC D
  | 0 => rfl
  | j + 1 => by
    show dC (if 0 ≤ c j ∧ c j ≤ 999 then (eF (sp_wl c D j).1 j 2 (c j).toInt32, (sp_wl c D j).2 + 1) else sp_wl c D j).1 = _
    by_cases h : 0 ≤ c j ∧ c j ≤ 999
    · rw [if_pos h]
      exact sp_wl_cnt j
    · rw [if_neg h]
      exact sp_wl_cnt j
def op_worths (σ : St) (s : Int32) : Int32 × St := if 0 ≤ s ∧ s ≤ 3 then if σ.2.2.2.2.1 s.toNatClampNeg = 0 then fnd σ (-1000000006) 5 else let r := sp_wl (σ.2.2.2.2.2.2 s.toNatClampNeg) σ.1 (min (σ.2.2.2.2.2.1 s.toNatClampNeg).toNatClampNeg (dC σ.1)); (r.2, zN σ r.1) else fnd σ (-1000000001) 0
theorem sp_wl_f5 {c : Nat → Int64} {D : Dst} : ∀ j, (sp_wl c D j).1.2.2.2.1 5 = D.2.2.2.1 5
  | 0 => rfl
  | j + 1 => by
    show (if 0 ≤ c j ∧ c j ≤ 999 then (eF (sp_wl c D j).1 j 2 (c j).toInt32, (sp_wl c D j).2 + 1) else sp_wl c D j).1.2.2.2.1 5 = _
    by_cases h : 0 ≤ c j ∧ c j ≤ 999
    · rw [if_pos h]
      exact sp_wl_f5 j
    · rw [if_neg h]
      exact sp_wl_f5 j
theorem sp_wl_y {c : Nat → Int64} {D : Dst} {j : Nat} (h : 0 ≤ c j ∧ c j ≤ 999) : sp_wl c D (j + 1) = (eF (sp_wl c D j).1 j 2 (c j).toInt32, (sp_wl c D j).2 + 1) := if_pos h
theorem sp_wl_n {c : Nat → Int64} {D : Dst} {j : Nat} (h : ¬ (0 ≤ c j ∧ c j ≤ 999)) : sp_wl c D (j + 1) = sp_wl c D j := if_neg h
theorem k_N_worths_loop {s Z : Nat} (hs : s < 4) (hC : RepC I L σ) (hW : WFs σ) (hZ : σ.2.2.2.2.2.1 s = nI Z) (hZ4 : Z ≤ 40) (hk : CK K I L ((sp_wl (σ.2.2.2.2.2.2 s) σ.1 (min Z (dC σ.1))).2, zN σ (sp_wl (σ.2.2.2.2.2.2 s) σ.1 (min Z (dC σ.1))).1)) : ∀ (m j : Nat) (I' : Rn), m + j = min Z (dC σ.1) → PD I I' 1 (sp_wl (σ.2.2.2.2.2.2 s) σ.1 j).1 (fun i k => I (1 + 10 + 2 * i) k) → WW G d mt_N_worths 41 [some (.ref 0), some (.int (nI s)), some (.int (sp_wl (σ.2.2.2.2.2.2 s) σ.1 j).2), some (.int (nI j)), none, none] [] SH RF I' L 0 0 0 0 K
  | 0, j, I', hm, hP => by
    have hC5 := hC.2.2.2.2 s hs
    have hc8 := hW.1.1.1
    have hsz : I' 93 s = nI Z := by rw [hP.2.2 93 s (by omega), hC5.2.1, hZ]
    have hcn : I' 1 4 = nI (dC σ.1) := by rw [show I' 1 4 = _ from hP.s (k := 5) (by decide), sp_wl_f5, hW.1.1.2]
    have hj : j = min Z (dC σ.1) := by omega
    rw [← hj] at hk
    by_cases hzj : Z ≤ j
    · refine r_ild3 f_N_worths_41 ?_
      refine r_ald0 f_N_worths_42 ?_
      refine r_gr f_N_worths_43 (s_0) (r_0_5) ?_
      refine r_gr f_N_worths_46 (s_86) (r_86_2) ?_
      refine r_ild1 f_N_worths_49 ?_
      refine r_iald f_N_worths_50 (s_93) (q_ix.nI (by omega) (by decide)) ?_
      rw [hsz]
      refine r_ic_ge f_N_worths_51 (fun h51 => ?_) (fun h51 => absurd h51 (fun q => q (nI_le hzj (by omega))))
      refine r_ild2 f_N_worths_126 ?_
      refine r_iret f_N_worths_127 ⟨_, rfl, rfl⟩ (Nat.le_refl _) (Nat.le_refl _) ?_
      exact hk I' L (hC.ofPD hP) hP.hi
    · refine r_ild3 f_N_worths_41 ?_
      refine r_ald0 f_N_worths_42 ?_
      refine r_gr f_N_worths_43 (s_0) (r_0_5) ?_
      refine r_gr f_N_worths_46 (s_86) (r_86_2) ?_
      refine r_ild1 f_N_worths_49 ?_
      refine r_iald f_N_worths_50 (s_93) (q_ix.nI (by omega) (by decide)) ?_
      rw [hsz]
      refine r_ic_ge f_N_worths_51 (fun h51 => absurd h51 (nI_ge (by omega) (by omega))) (fun h51 => ?_)
      refine r_ild3 f_N_worths_54 ?_
      refine r_ald0 f_N_worths_55 ?_
      refine r_gr f_N_worths_56 (s_0) (r_0_0) ?_
      refine r_gi f_N_worths_59 (sD q_D1) ?_
      rw [hcn]
      refine r_ic_ge f_N_worths_62 (fun h62 => ?_) (fun h62 => absurd h62 (fun q => q (nI_le (by omega) (by omega))))
      refine r_ild2 f_N_worths_126 ?_
      refine r_iret f_N_worths_127 ⟨_, rfl, rfl⟩ (Nat.le_refl _) (Nat.le_refl _) ?_
      exact hk I' L (hC.ofPD hP) hP.hi
  | m + 1, j, I', hm, hP => by
    have hC5 := hC.2.2.2.2 s hs
    have hc8 := hW.1.1.1
    have hsz : I' 93 s = nI Z := by rw [hP.2.2 93 s (by omega), hC5.2.1, hZ]
    have hcn : I' 1 4 = nI (dC σ.1) := by rw [show I' 1 4 = _ from hP.s (k := 5) (by decide), sp_wl_f5, hW.1.1.2]
    refine r_ild3 f_N_worths_41 ?_
    refine r_ald0 f_N_worths_42 ?_
    refine r_gr f_N_worths_43 (s_0) (r_0_5) ?_
    refine r_gr f_N_worths_46 (s_86) (r_86_2) ?_
    refine r_ild1 f_N_worths_49 ?_
    refine r_iald f_N_worths_50 (s_93) (q_ix.nI (by omega) (by decide)) ?_
    rw [hsz]
    refine r_ic_ge f_N_worths_51 (fun h51 => absurd h51 (nI_ge (by omega) (by omega))) (fun h51 => ?_)
    refine r_ild3 f_N_worths_54 ?_
    refine r_ald0 f_N_worths_55 ?_
    refine r_gr f_N_worths_56 (s_0) (r_0_0) ?_
    refine r_gi f_N_worths_59 (sD q_D1) ?_
    rw [hcn]
    refine r_ic_ge f_N_worths_62 (fun h62 => absurd h62 (nI_ge (by omega) (by omega))) (fun h62 => ?_)
    refine r_ald0 f_N_worths_65 ?_
    refine r_gr f_N_worths_66 (s_0) (r_0_5) ?_
    refine r_gr f_N_worths_69 (s_86) (r_86_0) ?_
    refine r_ild1 f_N_worths_72 ?_
    refine r_aald f_N_worths_73 (Or.inr (Or.inr rfl)) (s_87) (q_ix.nI (by omega) (by decide)) (rS (by omega)) ?_
    refine r_ild3 f_N_worths_74 ?_
    refine r_lald f_N_worths_75 (sS (by omega)) (q_ix.nI (show j < 40 by omega) (by decide)) ?_
    rw [hC5.2.2 j (by omega)]
    refine r_lst4 f_N_worths_76 (by decide) rfl ?_
    refine r_lld4 f_N_worths_78 ?_
    refine r_gst f_N_worths_80 ?_
    refine r_ic f_N_worths_83 ?_
    refine r_ialds f_N_worths_84 (by decide) (j := 1) ⟨by decide, by decide⟩ ?_
    refine r_i2l f_N_worths_85 ?_
    refine r_lcmp f_N_worths_86 ?_
    rw [show (q_sv 2 1).toInt64 = 0 from by decide]
    refine r_if_lt f_N_worths_87 (fun h87 => ?_) (fun h87 => ?_)
    · refine r_inc3 f_N_worths_120 rfl ?_
      refine r_goto f_N_worths_123 ?_
      refine r_drop4 ?_
      rw [nI_1]
      first
        | have hy := sp_wl_y (D := σ.1) (c := σ.2.2.2.2.2.2 s) (j := j) ⟨Int64.not_lt.mp (fun q => h87 (q_lcmp.2.1.mpr q)), Int64.not_lt.mp (fun q => h99 (q_lcmp.2.2.2.1.mpr q))⟩
          have e := k_N_worths_loop hs hC hW hZ hZ4 hk m (j + 1) I2 (by omega) (by rw [hy]; exact hP2)
          rw [hy] at e
          exact e
        | have hy := sp_wl_n (D := σ.1) (c := σ.2.2.2.2.2.2 s) (j := j) (fun q => Int64.not_le.mpr (q_lcmp.2.1.mp h87) q.1)
          have e := k_N_worths_loop hs hC hW hZ hZ4 hk m (j + 1) I' (by omega) (by rw [hy]; exact hP)
          rw [hy] at e
          exact e
        | have hy := sp_wl_n (D := σ.1) (c := σ.2.2.2.2.2.2 s) (j := j) (fun q => Int64.not_le.mpr (q_lcmp.2.2.2.1.mp h99) q.2)
          have e := k_N_worths_loop hs hC hW hZ hZ4 hk m (j + 1) I' (by omega) (by rw [hy]; exact hP)
          rw [hy] at e
          exact e
    · refine r_lld4 f_N_worths_90 ?_
      refine r_gst f_N_worths_92 ?_
      refine r_ic f_N_worths_95 ?_
      refine r_ialds f_N_worths_96 (by decide) (j := 1) ⟨by decide, by decide⟩ ?_
      refine r_i2l f_N_worths_97 ?_
      refine r_lcmp f_N_worths_98 ?_
      rw [show (q_sv 3 1).toInt64 = 999 from by decide]
      refine r_if_gt f_N_worths_99 (fun h99 => ?_) (fun h99 => ?_)
      · refine r_inc3 f_N_worths_120 rfl ?_
        refine r_goto f_N_worths_123 ?_
        refine r_drop4 ?_
        rw [nI_1]
        first
          | have hy := sp_wl_y (D := σ.1) (c := σ.2.2.2.2.2.2 s) (j := j) ⟨Int64.not_lt.mp (fun q => h87 (q_lcmp.2.1.mpr q)), Int64.not_lt.mp (fun q => h99 (q_lcmp.2.2.2.1.mpr q))⟩
            have e := k_N_worths_loop hs hC hW hZ hZ4 hk m (j + 1) I2 (by omega) (by rw [hy]; exact hP2)
            rw [hy] at e
            exact e
          | have hy := sp_wl_n (D := σ.1) (c := σ.2.2.2.2.2.2 s) (j := j) (fun q => Int64.not_le.mpr (q_lcmp.2.1.mp h87) q.1)
            have e := k_N_worths_loop hs hC hW hZ hZ4 hk m (j + 1) I' (by omega) (by rw [hy]; exact hP)
            rw [hy] at e
            exact e
          | have hy := sp_wl_n (D := σ.1) (c := σ.2.2.2.2.2.2 s) (j := j) (fun q => Int64.not_le.mpr (q_lcmp.2.2.2.1.mp h99) q.2)
            have e := k_N_worths_loop hs hC hW hZ hZ4 hk m (j + 1) I' (by omega) (by rw [hy]; exact hP)
            rw [hy] at e
            exact e
      · refine r_ald0 f_N_worths_102 ?_
        refine r_gr f_N_worths_103 (s_0) (r_0_0) ?_
        refine r_gr f_N_worths_106 (sD q_D1) (rD0 q_D1) ?_
        refine r_ild3 f_N_worths_109 ?_
        refine r_aald f_N_worths_110 (Or.inl rfl) (sD1 q_D1) (q_ix.nI (by omega) (by decide)) (rDF q_D1 (by omega)) ?_
        refine r_lld4 f_N_worths_111 ?_
        refine r_l2i f_N_worths_113 ?_
        refine r_pF f_N_worths_114 q_D1 (show j < 8 by omega) (by decide) hP (fun I2 hP2 => ?_)
        refine r_inc2 f_N_worths_117 rfl ?_
        refine r_inc3 f_N_worths_120 rfl ?_
        refine r_goto f_N_worths_123 ?_
        refine r_drop4 ?_
        rw [nI_1]
        first
          | have hy := sp_wl_y (D := σ.1) (c := σ.2.2.2.2.2.2 s) (j := j) ⟨Int64.not_lt.mp (fun q => h87 (q_lcmp.2.1.mpr q)), Int64.not_lt.mp (fun q => h99 (q_lcmp.2.2.2.1.mpr q))⟩
            have e := k_N_worths_loop hs hC hW hZ hZ4 hk m (j + 1) I2 (by omega) (by rw [hy]; exact hP2)
            rw [hy] at e
            exact e
          | have hy := sp_wl_n (D := σ.1) (c := σ.2.2.2.2.2.2 s) (j := j) (fun q => Int64.not_le.mpr (q_lcmp.2.1.mp h87) q.1)
            have e := k_N_worths_loop hs hC hW hZ hZ4 hk m (j + 1) I' (by omega) (by rw [hy]; exact hP)
            rw [hy] at e
            exact e
          | have hy := sp_wl_n (D := σ.1) (c := σ.2.2.2.2.2.2 s) (j := j) (fun q => Int64.not_le.mpr (q_lcmp.2.2.2.1.mp h99) q.2)
            have e := k_N_worths_loop hs hC hW hZ hZ4 hk m (j + 1) I' (by omega) (by rw [hy]; exact hP)
            rw [hy] at e
            exact e
theorem k_N_worths {s : Int32} (hC : RepC I L σ) (hW : WFs σ) (hk : CK K I L (op_worths σ s)) : WW G (d + 2) mt_N_worths 0 [some (.ref 0), some (.int s), none, none, none, none] [] SH RF I L 0 0 0 0 K := by
  unfold op_worths at hk
  have hcnt := hC.cnt hW
  have hc8 := hW.1.1.1
  refine r_ald0 f_N_worths_0 ?_
  refine r_gr f_N_worths_1 (s_0) (r_0_5) ?_
  refine r_ild1 f_N_worths_4 ?_
  refine c_S_has f_N_worths_5 (s_86) (Nat.le_of_ble_eq_true rfl) (Nat.le_refl _) (Nat.le_refl _) ?_
  refine k_S_has (fun hsa hsb => ?_) (fun hs => ?_)
  · obtain ⟨p, hp, ep⟩ := q_inC (c := 4) (by omega) hsa hsb
    subst ep
    rw [if_pos ⟨hsa, hsb⟩, nI_clamp (by omega)] at hk
    have hC5 := hC.2.2.2.2 p hp
    refine r_if_ne f_N_worths_8 (fun _ => ?_) (fun h => absurd h (by decide))
    refine r_ald0 f_N_worths_18 ?_
    refine r_gr f_N_worths_19 (s_0) (r_0_5) ?_
    refine r_ild1 f_N_worths_22 ?_
    refine c_S_isMissing f_N_worths_23 (s_86) (Nat.le_of_ble_eq_true rfl) (Nat.le_refl _) (Nat.le_refl _) ?_
    refine k_S_isMissing hp (fun hm => ?_) (fun hm => ?_)
    · rw [hC5.1] at hm
      rw [if_pos hm] at hk
      refine r_if_eq f_N_worths_26 (fun h => absurd h (by decide)) (fun _ => ?_)
      refine r_ald0 f_N_worths_29 ?_
      refine r_ic f_N_worths_30 ?_
      refine c_N_finding f_N_worths_33 (s_0) (Nat.le_of_ble_eq_true rfl) (Nat.le_refl _) (Nat.le_refl _) ?_
      refine k_N_finding (k := 5) (by decide) (by decide) hC (fun I9 hC9 hi9 => ?_)
      refine r_iret f_N_worths_36 ⟨_, rfl, rfl⟩ (Nat.le_refl _) (Nat.le_refl _) ?_
      exact hk _ _ hC9 hi9
    · rw [hC5.1] at hm
      rw [if_neg hm] at hk
      refine r_if_eq f_N_worths_26 (fun _ => ?_) (fun h => absurd h (by decide))
      refine r_ic f_N_worths_37 ?_
      refine r_ist2 f_N_worths_38 rfl ?_
      refine r_ic f_N_worths_39 ?_
      refine r_ist3 f_N_worths_40 rfl ?_
      obtain ⟨Z, _, z2, z3⟩ := (hW.2.2.2 p hp).2
      rw [z3, nI_clamp (by omega)] at hk
      exact k_N_worths_loop hp hC hW z3 z2 hk _ 0 I (Nat.add_zero _) (PD.rf hC.1)
  · rw [if_neg hs] at hk
    refine r_if_ne f_N_worths_8 (fun h => absurd h (by decide)) (fun _ => ?_)
    refine r_ald0 f_N_worths_11 ?_
    refine r_ic f_N_worths_12 ?_
    refine c_N_finding f_N_worths_14 (s_0) (Nat.le_of_ble_eq_true rfl) (Nat.le_refl _) (Nat.le_refl _) ?_
    refine k_N_finding (k := 0) (by decide) (by decide) hC (fun I9 hC9 hi9 => ?_)
    refine r_iret f_N_worths_17 ⟨_, rfl, rfl⟩ (Nat.le_refl _) (Nat.le_refl _) ?_
    exact hk _ _ hC9 hi9
end L35
