theorem q_lcmp {x y : Int64} : (lg_cmp x y = 0 ↔ x = y) ∧ (lg_cmp x y < 0 ↔ x < y) ∧ (0 ≤ lg_cmp x y ↔ y ≤ x) ∧ (0 < lg_cmp x y ↔ y < x) ∧ (lg_cmp x y ≤ 0 ↔ x ≤ y) := by
  unfold lg_cmp
  by_cases h1 : x > y
  · rw [if_pos h1]
    have e : ¬ x = y := fun e => by rw [e] at h1; exact Int64.lt_irrefl h1
    have e2 : ¬ x < y := Int64.not_lt.mpr (Int64.le_of_lt h1)
    exact ⟨⟨fun h => absurd h (by decide), fun h => absurd h e⟩, ⟨fun h => absurd h (by decide), fun h => absurd h e2⟩, ⟨fun _ => Int64.le_of_lt h1, fun _ => by decide⟩, ⟨fun _ => h1, fun _ => by decide⟩, ⟨fun h => absurd h (by decide), fun h => absurd h1 (Int64.not_lt.mpr h)⟩⟩
  · rw [if_neg h1]
    by_cases h2 : x = y
    · subst h2
      rw [if_pos rfl]
      exact ⟨⟨fun _ => rfl, fun _ => rfl⟩, ⟨fun h => absurd h (by decide), fun h => absurd h h1⟩, ⟨fun _ => Int64.le_refl x, fun _ => by decide⟩, ⟨fun h => absurd h (by decide), fun h => absurd h h1⟩, ⟨fun _ => Int64.le_refl x, fun _ => by decide⟩⟩
    · rw [if_neg h2]
      have h3 : x ≤ y := Int64.not_lt.mp h1
      have h4 : x < y := by
        rcases Int64.lt_or_eq_of_le h3 with h | h
        · exact h
        · exact absurd h h2
      exact ⟨⟨fun h => absurd h (by decide), fun h => absurd h h2⟩, ⟨fun _ => h4, fun _ => by decide⟩, ⟨fun h => absurd h (by decide), fun h => absurd h4 (Int64.not_lt.mpr h)⟩, ⟨fun h => absurd h (by decide), fun h => absurd h h1⟩, ⟨fun _ => h3, fun _ => by decide⟩⟩
section L20
variable {G : Gx} {d : Nat} {S : Shp} {R : Rf} {I : Rn} {L : Rl} {K : Kt}

theorem k_N_isWithin {v lo hi : Int32} (ht : lo ≤ v → v ≤ hi → K (some (.int 1)) S R I L) (hf : ¬ (lo ≤ v ∧ v ≤ hi) → K (some (.int 0)) S R I L) : WW G d mt_N_isWithin 0 [some (.int v), some (.int lo), some (.int hi)] [] S R I L 0 0 0 0 K := by
  refine r_ild0 f_N_isWithin_0 ?_
  refine r_ild1 f_N_isWithin_1 ?_
  refine r_ic_lt f_N_isWithin_2 (fun h2 => ?_) (fun h2 => ?_)
  · refine r_ic f_N_isWithin_14 ?_
    refine r_iret f_N_isWithin_15 ⟨_, rfl, rfl⟩ (Nat.le_refl _) (Nat.le_refl _) ?_
    first | exact hf (fun q => absurd h2 (Int32.not_lt.mpr q.1)) | exact hf (fun q => absurd h7 (Int32.not_lt.mpr q.2)) | exact ht (Int32.not_lt.mp h2) (Int32.not_lt.mp h7)
  · refine r_ild0 f_N_isWithin_5 ?_
    refine r_ild2 f_N_isWithin_6 ?_
    refine r_ic_gt f_N_isWithin_7 (fun h7 => ?_) (fun h7 => ?_)
    · refine r_ic f_N_isWithin_14 ?_
      refine r_iret f_N_isWithin_15 ⟨_, rfl, rfl⟩ (Nat.le_refl _) (Nat.le_refl _) ?_
      first | exact hf (fun q => absurd h2 (Int32.not_lt.mpr q.1)) | exact hf (fun q => absurd h7 (Int32.not_lt.mpr q.2)) | exact ht (Int32.not_lt.mp h2) (Int32.not_lt.mp h7)
    · refine r_ic f_N_isWithin_10 ?_
      refine r_goto f_N_isWithin_11 ?_
      refine r_iret f_N_isWithin_15 ⟨_, rfl, rfl⟩ (Nat.le_refl _) (Nat.le_refl _) ?_
      first | exact hf (fun q => absurd h2 (Int32.not_lt.mpr q.1)) | exact hf (fun q => absurd h7 (Int32.not_lt.mpr q.2)) | exact ht (Int32.not_lt.mp h2) (Int32.not_lt.mp h7)
theorem k_R_in {v lo hi : Int32} (ht : lo ≤ v → v ≤ hi → K (some (.int 1)) S R I L) (hf : ¬ (lo ≤ v ∧ v ≤ hi) → K (some (.int 0)) S R I L) : WW G d mt_R_in 0 [some (.int v), some (.int lo), some (.int hi)] [] S R I L 0 0 0 0 K := by
  refine r_ild0 f_R_in_0 ?_
  refine r_ild1 f_R_in_1 ?_
  refine r_ic_lt f_R_in_2 (fun h2 => ?_) (fun h2 => ?_)
  · refine r_ic f_R_in_14 ?_
    refine r_iret f_R_in_15 ⟨_, rfl, rfl⟩ (Nat.le_refl _) (Nat.le_refl _) ?_
    first | exact hf (fun q => absurd h2 (Int32.not_lt.mpr q.1)) | exact hf (fun q => absurd h7 (Int32.not_lt.mpr q.2)) | exact ht (Int32.not_lt.mp h2) (Int32.not_lt.mp h7)
  · refine r_ild0 f_R_in_5 ?_
    refine r_ild2 f_R_in_6 ?_
    refine r_ic_gt f_R_in_7 (fun h7 => ?_) (fun h7 => ?_)
    · refine r_ic f_R_in_14 ?_
      refine r_iret f_R_in_15 ⟨_, rfl, rfl⟩ (Nat.le_refl _) (Nat.le_refl _) ?_
      first | exact hf (fun q => absurd h2 (Int32.not_lt.mpr q.1)) | exact hf (fun q => absurd h7 (Int32.not_lt.mpr q.2)) | exact ht (Int32.not_lt.mp h2) (Int32.not_lt.mp h7)
    · refine r_ic f_R_in_10 ?_
      refine r_goto f_R_in_11 ?_
      refine r_iret f_R_in_15 ⟨_, rfl, rfl⟩ (Nat.le_refl _) (Nat.le_refl _) ?_
      first | exact hf (fun q => absurd h2 (Int32.not_lt.mpr q.1)) | exact hf (fun q => absurd h7 (Int32.not_lt.mpr q.2)) | exact ht (Int32.not_lt.mp h2) (Int32.not_lt.mp h7)
def q_within (v lo hi : Int32) : Int32 := if lo ≤ v then (if v ≤ hi then v else hi) else lo
theorem k_R_within {v lo hi : Int32} (hk : K (some (.int (q_within v lo hi))) S R I L) : WW G d mt_R_within 0 [some (.int v), some (.int lo), some (.int hi)] [] S R I L 0 0 0 0 K := by
  unfold q_within at hk
  refine r_ild0 f_R_within_0 ?_
  refine r_ild1 f_R_within_1 ?_
  refine r_ic_ge f_R_within_2 (fun h2 => ?_) (fun h2 => ?_)
  · refine r_ild0 f_R_within_9 ?_
    refine r_ild2 f_R_within_10 ?_
    refine r_ic_le f_R_within_11 (fun h11 => ?_) (fun h11 => ?_)
    · refine r_ild0 f_R_within_18 ?_
      refine r_iret f_R_within_19 ⟨_, rfl, rfl⟩ (Nat.le_refl _) (Nat.le_refl _) ?_
      first | (rw [if_pos h2, if_pos h11] at hk; exact hk) | (rw [if_pos h2, if_neg h11] at hk; exact hk) | (rw [if_neg h2] at hk; exact hk)
    · refine r_ild2 f_R_within_14 ?_
      refine r_goto f_R_within_15 ?_
      refine r_iret f_R_within_19 ⟨_, rfl, rfl⟩ (Nat.le_refl _) (Nat.le_refl _) ?_
      first | (rw [if_pos h2, if_pos h11] at hk; exact hk) | (rw [if_pos h2, if_neg h11] at hk; exact hk) | (rw [if_neg h2] at hk; exact hk)
  · refine r_ild1 f_R_within_5 ?_
    refine r_goto f_R_within_6 ?_
    refine r_iret f_R_within_19 ⟨_, rfl, rfl⟩ (Nat.le_refl _) (Nat.le_refl _) ?_
    first | (rw [if_pos h2, if_pos h11] at hk; exact hk) | (rw [if_pos h2, if_neg h11] at hk; exact hk) | (rw [if_neg h2] at hk; exact hk)
theorem k_N_isPart {w v : Int32} {k : Nat} (hw : q_ix w k 4) (ht : q_sv 2 k ≤ v → v ≤ q_sv 3 k → K (some (.int 1)) S R I L) (hf : ¬ (q_sv 2 k ≤ v ∧ v ≤ q_sv 3 k) → K (some (.int 0)) S R I L) : WW G (d + 1) mt_N_isPart 0 [some (.int w), some (.int v)] [] S R I L 0 0 0 0 K := by
  refine r_ild1 f_N_isPart_0 ?_
  refine r_gst f_N_isPart_1 ?_
  refine r_ild0 f_N_isPart_4 ?_
  refine r_ialds f_N_isPart_5 (by decide) hw ?_
  refine r_gst f_N_isPart_6 ?_
  refine r_ild0 f_N_isPart_9 ?_
  refine r_ialds f_N_isPart_10 (by decide) hw ?_
  refine c_N_isWithin f_N_isPart_11 (Nat.le_of_ble_eq_true rfl) (Nat.le_refl _) (Nat.le_refl _) ?_
  refine k_N_isWithin (fun h h2 => ?_) (fun h => ?_)
  · refine r_iret f_N_isPart_14 ⟨_, rfl, rfl⟩ (Nat.le_refl _) (Nat.le_refl _) ?_
    first | exact ht h h2 | exact hf h
  · refine r_iret f_N_isPart_14 ⟨_, rfl, rfl⟩ (Nat.le_refl _) (Nat.le_refl _) ?_
    first | exact ht h h2 | exact hf h
def q_mill (a b : Int64) : Int32 := if b = 0 then 0 else (a * 1000000 / b).toInt32
theorem k_N_millionths {x y : Int64} (hk : K (some (.int (q_mill x y))) S R I L) : WW G d mt_N_millionths 0 [some (.long x), none, some (.long y), none] [] S R I L 0 0 0 0 K := by
  unfold q_mill at hk
  refine r_lld2 f_N_millionths_0 ?_
  refine r_lc f_N_millionths_1 ?_
  refine r_lcmp f_N_millionths_2 ?_
  refine r_if_ne f_N_millionths_3 (fun h3 => ?_) (fun h3 => ?_)
  · refine r_lld0 f_N_millionths_10 ?_
    refine r_lc f_N_millionths_11 ?_
    refine r_lmul f_N_millionths_14 ?_
    refine r_lld2 f_N_millionths_15 ?_
    refine r_ldiv f_N_millionths_16 (fun e => h3 (q_lcmp.1.mpr e)) ?_
    refine r_l2i f_N_millionths_17 ?_
    refine r_iret f_N_millionths_18 ⟨_, rfl, rfl⟩ (Nat.le_refl _) (Nat.le_refl _) ?_
    first | (rw [if_neg (fun e => h3 (q_lcmp.1.mpr e))] at hk; exact hk) | (rw [if_pos (q_lcmp.1.mp h3)] at hk; exact hk)
  · refine r_ic f_N_millionths_6 ?_
    refine r_goto f_N_millionths_7 ?_
    refine r_iret f_N_millionths_18 ⟨_, rfl, rfl⟩ (Nat.le_refl _) (Nat.le_refl _) ?_
    first | (rw [if_neg (fun e => h3 (q_lcmp.1.mpr e))] at hk; exact hk) | (rw [if_pos (q_lcmp.1.mp h3)] at hk; exact hk)
theorem k_F_tell {f : Nat} (hf : S[f]? = some (1, 7)) : ∀ (k : Nat), k < 7 → K (some (.int (I f k))) S R I L → WW G d mt_F_tell 0 [some (.ref f), some (.int (nI k))] [] S R I L 0 0 0 0 K
  | 0, _, hk => by
    refine r_ild1 f_F_tell_0 ?_
    refine r_swl f_F_tell_1 (show q_swt _ _ _ = 40 by decide) ?_
    refine r_ald0 f_F_tell_40 ?_
    refine r_gi f_F_tell_41 (hf) ?_
    refine r_iret f_F_tell_44 ⟨_, rfl, rfl⟩ (Nat.le_refl _) (Nat.le_refl _) ?_
    exact hk
  | 1, _, hk => by
    refine r_ild1 f_F_tell_0 ?_
    refine r_swl f_F_tell_1 (show q_swt _ _ _ = 45 by decide) ?_
    refine r_ald0 f_F_tell_45 ?_
    refine r_gi f_F_tell_46 (hf) ?_
    refine r_iret f_F_tell_49 ⟨_, rfl, rfl⟩ (Nat.le_refl _) (Nat.le_refl _) ?_
    exact hk
  | 2, _, hk => by
    refine r_ild1 f_F_tell_0 ?_
    refine r_swl f_F_tell_1 (show q_swt _ _ _ = 50 by decide) ?_
    refine r_ald0 f_F_tell_50 ?_
    refine r_gi f_F_tell_51 (hf) ?_
    refine r_iret f_F_tell_54 ⟨_, rfl, rfl⟩ (Nat.le_refl _) (Nat.le_refl _) ?_
    exact hk
  | 3, _, hk => by
    refine r_ild1 f_F_tell_0 ?_
    refine r_swl f_F_tell_1 (show q_swt _ _ _ = 55 by decide) ?_
    refine r_ald0 f_F_tell_55 ?_
    refine r_gi f_F_tell_56 (hf) ?_
    refine r_iret f_F_tell_59 ⟨_, rfl, rfl⟩ (Nat.le_refl _) (Nat.le_refl _) ?_
    exact hk
  | 4, _, hk => by
    refine r_ild1 f_F_tell_0 ?_
    refine r_swl f_F_tell_1 (show q_swt _ _ _ = 60 by decide) ?_
    refine r_ald0 f_F_tell_60 ?_
    refine r_gi f_F_tell_61 (hf) ?_
    refine r_iret f_F_tell_64 ⟨_, rfl, rfl⟩ (Nat.le_refl _) (Nat.le_refl _) ?_
    exact hk
  | 5, _, hk => by
    refine r_ild1 f_F_tell_0 ?_
    refine r_swl f_F_tell_1 (show q_swt _ _ _ = 65 by decide) ?_
    refine r_ald0 f_F_tell_65 ?_
    refine r_gi f_F_tell_66 (hf) ?_
    refine r_iret f_F_tell_69 ⟨_, rfl, rfl⟩ (Nat.le_refl _) (Nat.le_refl _) ?_
    exact hk
  | 6, _, hk => by
    refine r_ild1 f_F_tell_0 ?_
    refine r_swl f_F_tell_1 (show q_swt _ _ _ = 70 by decide) ?_
    refine r_ald0 f_F_tell_70 ?_
    refine r_gi f_F_tell_71 (hf) ?_
    refine r_iret f_F_tell_74 ⟨_, rfl, rfl⟩ (Nat.le_refl _) (Nat.le_refl _) ?_
    exact hk
theorem k_F_change {f : Nat} {v : Int32} (hf : S[f]? = some (1, 7)) : ∀ (k : Nat), k < 4 → K (some (.int (I f (k + 1)))) S R (u2 I f (k + 1) v) L → WW G (d + 1) mt_F_change 0 [some (.ref f), some (.int (nI k)), some (.int v), none] [] S R I L 0 0 0 0 K
  | 0, _, hk => by
    refine r_ald0 f_F_change_0 ?_
    refine r_ild1 f_F_change_1 ?_
    refine r_ic f_F_change_2 ?_
    refine r_iadd f_F_change_3 ?_
    refine c_F_tell f_F_change_4 (hf) (Nat.le_of_ble_eq_true rfl) (Nat.le_refl _) (Nat.le_refl _) ?_
    rw [show nI 0 + (1 : Int32) = nI 1 from by decide]
    refine k_F_tell hf 1 (by decide) ?_
    refine r_ist3 f_F_change_7 rfl ?_
    refine r_ild1 f_F_change_8 ?_
    refine r_swl f_F_change_9 (show q_swt _ _ _ = 36 by decide) ?_
    refine r_ald0 f_F_change_36 ?_
    refine r_ild2 f_F_change_37 ?_
    refine r_pi f_F_change_38 (hf) ?_
    refine r_goto f_F_change_41 ?_
    refine r_ild3 f_F_change_65 ?_
    refine r_iret f_F_change_66 ⟨_, rfl, rfl⟩ (Nat.le_refl _) (Nat.le_refl _) ?_
    exact hk
  | 1, _, hk => by
    refine r_ald0 f_F_change_0 ?_
    refine r_ild1 f_F_change_1 ?_
    refine r_ic f_F_change_2 ?_
    refine r_iadd f_F_change_3 ?_
    refine c_F_tell f_F_change_4 (hf) (Nat.le_of_ble_eq_true rfl) (Nat.le_refl _) (Nat.le_refl _) ?_
    rw [show nI 1 + (1 : Int32) = nI 2 from by decide]
    refine k_F_tell hf 2 (by decide) ?_
    refine r_ist3 f_F_change_7 rfl ?_
    refine r_ild1 f_F_change_8 ?_
    refine r_swl f_F_change_9 (show q_swt _ _ _ = 44 by decide) ?_
    refine r_ald0 f_F_change_44 ?_
    refine r_ild2 f_F_change_45 ?_
    refine r_pi f_F_change_46 (hf) ?_
    refine r_goto f_F_change_49 ?_
    refine r_ild3 f_F_change_65 ?_
    refine r_iret f_F_change_66 ⟨_, rfl, rfl⟩ (Nat.le_refl _) (Nat.le_refl _) ?_
    exact hk
  | 2, _, hk => by
    refine r_ald0 f_F_change_0 ?_
    refine r_ild1 f_F_change_1 ?_
    refine r_ic f_F_change_2 ?_
    refine r_iadd f_F_change_3 ?_
    refine c_F_tell f_F_change_4 (hf) (Nat.le_of_ble_eq_true rfl) (Nat.le_refl _) (Nat.le_refl _) ?_
    rw [show nI 2 + (1 : Int32) = nI 3 from by decide]
    refine k_F_tell hf 3 (by decide) ?_
    refine r_ist3 f_F_change_7 rfl ?_
    refine r_ild1 f_F_change_8 ?_
    refine r_swl f_F_change_9 (show q_swt _ _ _ = 52 by decide) ?_
    refine r_ald0 f_F_change_52 ?_
    refine r_ild2 f_F_change_53 ?_
    refine r_pi f_F_change_54 (hf) ?_
    refine r_goto f_F_change_57 ?_
    refine r_ild3 f_F_change_65 ?_
    refine r_iret f_F_change_66 ⟨_, rfl, rfl⟩ (Nat.le_refl _) (Nat.le_refl _) ?_
    exact hk
  | 3, _, hk => by
    refine r_ald0 f_F_change_0 ?_
    refine r_ild1 f_F_change_1 ?_
    refine r_ic f_F_change_2 ?_
    refine r_iadd f_F_change_3 ?_
    refine c_F_tell f_F_change_4 (hf) (Nat.le_of_ble_eq_true rfl) (Nat.le_refl _) (Nat.le_refl _) ?_
    rw [show nI 3 + (1 : Int32) = nI 4 from by decide]
    refine k_F_tell hf 4 (by decide) ?_
    refine r_ist3 f_F_change_7 rfl ?_
    refine r_ild1 f_F_change_8 ?_
    refine r_swl f_F_change_9 (show q_swt _ _ _ = 60 by decide) ?_
    refine r_ald0 f_F_change_60 ?_
    refine r_ild2 f_F_change_61 ?_
    refine r_pi f_F_change_62 (hf) ?_
    refine r_ild3 f_F_change_65 ?_
    refine r_iret f_F_change_66 ⟨_, rfl, rfl⟩ (Nat.le_refl _) (Nat.le_refl _) ?_
    exact hk
def sp_wants (kd an pays dry : Int32) : Int32 := if kd = 1 then 0 else if kd = 5 then 0 else if kd = 3 then pays + pays / 2 * (if 4 < an then 4 else an) else if kd = 4 then pays * dry else pays
theorem k_F_wants {f : Nat} {x y : Int32} (hf : S[f]? = some (1, 7)) (hk : K (some (.int (sp_wants (I f 0) (I f 6) x y))) S R I L) : WW G d mt_F_wants 0 [some (.ref f), some (.int x), some (.int y)] [] S R I L 0 0 0 0 K := by
  unfold sp_wants at hk
  refine r_ald0 f_F_wants_0 ?_
  refine r_gi f_F_wants_1 (hf) ?_
  refine r_sw f_F_wants_4 ?_
  refine r_swc (k := 1) (by decide) (fun e4_1 => ?_) (fun e4_1 => ?_)
  · refine r_ic f_F_wants_40 ?_
    refine r_iret f_F_wants_41 ⟨_, rfl, rfl⟩ (Nat.le_refl _) (Nat.le_refl _) ?_
    simp only [*] at hk
    exact hk
  refine r_swc (k := 2) (by decide) (fun e4_2 => ?_) (fun e4_2 => ?_)
  · refine r_ild1 f_F_wants_61 ?_
    refine r_iret f_F_wants_62 ⟨_, rfl, rfl⟩ (Nat.le_refl _) (Nat.le_refl _) ?_
    simp only [*] at hk
    exact hk
  refine r_swc (k := 3) (by decide) (fun e4_3 => ?_) (fun e4_3 => ?_)
  · refine r_ild1 f_F_wants_42 ?_
    refine r_ild1 f_F_wants_43 ?_
    refine r_ic f_F_wants_44 ?_
    refine r_idiv f_F_wants_45 (by decide) ?_
    refine r_ald0 f_F_wants_46 ?_
    refine r_gi f_F_wants_47 (hf) ?_
    refine r_ic f_F_wants_50 ?_
    refine r_minI f_F_wants_51 (Nat.le_of_ble_eq_true rfl) (Nat.le_refl _) (Nat.le_refl _) ?_
    refine r_imul f_F_wants_54 ?_
    refine r_iadd f_F_wants_55 ?_
    refine r_iret f_F_wants_56 ⟨_, rfl, rfl⟩ (Nat.le_refl _) (Nat.le_refl _) ?_
    simp only [*] at hk
    exact hk
  refine r_swc (k := 4) (by decide) (fun e4_4 => ?_) (fun e4_4 => ?_)
  · refine r_ild1 f_F_wants_57 ?_
    refine r_ild2 f_F_wants_58 ?_
    refine r_imul f_F_wants_59 ?_
    refine r_iret f_F_wants_60 ⟨_, rfl, rfl⟩ (Nat.le_refl _) (Nat.le_refl _) ?_
    simp only [*] at hk
    exact hk
  refine r_swc (k := 5) (by decide) (fun e4_5 => ?_) (fun e4_5 => ?_)
  · refine r_ic f_F_wants_40 ?_
    refine r_iret f_F_wants_41 ⟨_, rfl, rfl⟩ (Nat.le_refl _) (Nat.le_refl _) ?_
    simp only [*] at hk
    exact hk
  refine r_swn ?_
  refine r_ild1 f_F_wants_61 ?_
  refine r_iret f_F_wants_62 ⟨_, rfl, rfl⟩ (Nat.le_refl _) (Nat.le_refl _) ?_
  simp only [*] at hk
  exact hk
def sp_minds (kd sl an : Int32) : Int32 := if kd = 5 then sl / 2 else if kd = 3 then (if sl - 10 * an < 0 then 0 else sl - 10 * an) else sl
theorem k_F_minds {f : Nat} (hf : S[f]? = some (1, 7)) (hk : K (some (.int (sp_minds (I f 0) (I f 3) (I f 6)))) S R I L) : WW G d mt_F_minds 0 [some (.ref f)] [] S R I L 0 0 0 0 K := by
  unfold sp_minds at hk
  refine r_ald0 f_F_minds_0 ?_
  refine r_gi f_F_minds_1 (hf) ?_
  refine r_sw f_F_minds_4 ?_
  refine r_swc (k := 3) (by decide) (fun e4_3 => ?_) (fun e4_3 => ?_)
  · refine r_ald0 f_F_minds_39 ?_
    refine r_gi f_F_minds_40 (hf) ?_
    refine r_ic f_F_minds_43 ?_
    refine r_ald0 f_F_minds_45 ?_
    refine r_gi f_F_minds_46 (hf) ?_
    refine r_imul f_F_minds_49 ?_
    refine r_isub f_F_minds_50 ?_
    refine r_ic f_F_minds_51 ?_
    refine r_maxI f_F_minds_52 (Nat.le_of_ble_eq_true rfl) (Nat.le_refl _) (Nat.le_refl _) ?_
    refine r_iret f_F_minds_55 ⟨_, rfl, rfl⟩ (Nat.le_refl _) (Nat.le_refl _) ?_
    simp only [*] at hk
    exact hk
  refine r_swc (k := 5) (by decide) (fun e4_5 => ?_) (fun e4_5 => ?_)
  · refine r_ald0 f_F_minds_32 ?_
    refine r_gi f_F_minds_33 (hf) ?_
    refine r_ic f_F_minds_36 ?_
    refine r_idiv f_F_minds_37 (by decide) ?_
    refine r_iret f_F_minds_38 ⟨_, rfl, rfl⟩ (Nat.le_refl _) (Nat.le_refl _) ?_
    simp only [*] at hk
    exact hk
  refine r_swn ?_
  refine r_ald0 f_F_minds_56 ?_
  refine r_gi f_F_minds_57 (hf) ?_
  refine r_iret f_F_minds_60 ⟨_, rfl, rfl⟩ (Nat.le_refl _) (Nat.le_refl _) ?_
  simp only [*] at hk
  exact hk
theorem k_F_begin {f : Nat} {x y z : Int32} (hf : S[f]? = some (1, 7)) (hk : K none S R (u2 (u2 (u2 (u2 (u2 (u2 (u2 I f 0 x) f 1 y) f 2 z) f 3 0) f 4 0) f 5 0) f 6 0) L) : WW G d mt_F_begin 0 [some (.ref f), some (.int x), some (.int y), some (.int z)] [] S R I L 0 0 0 0 K := by
  refine r_ald0 f_F_begin_0 ?_
  refine r_ild1 f_F_begin_1 ?_
  refine r_pi f_F_begin_2 (hf) ?_
  refine r_ald0 f_F_begin_5 ?_
  refine r_ild2 f_F_begin_6 ?_
  refine r_pi f_F_begin_7 (hf) ?_
  refine r_ald0 f_F_begin_10 ?_
  refine r_ild3 f_F_begin_11 ?_
  refine r_pi f_F_begin_12 (hf) ?_
  refine r_ald0 f_F_begin_15 ?_
  refine r_ic f_F_begin_16 ?_
  refine r_pi f_F_begin_17 (hf) ?_
  refine r_ald0 f_F_begin_20 ?_
  refine r_ic f_F_begin_21 ?_
  refine r_pi f_F_begin_22 (hf) ?_
  refine r_ald0 f_F_begin_25 ?_
  refine r_ic f_F_begin_26 ?_
  refine r_pi f_F_begin_27 (hf) ?_
  refine r_ald0 f_F_begin_30 ?_
  refine r_ic f_F_begin_31 ?_
  refine r_pi f_F_begin_32 (hf) ?_
  refine r_ret f_F_begin_35 rfl (Nat.le_refl _) (Nat.le_refl _) ?_
  exact hk
end L20
