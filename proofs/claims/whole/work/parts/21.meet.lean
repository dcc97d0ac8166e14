section L21
variable {G : Gx} {d : Nat} {S : Shp} {R : Rf} {I : Rn} {L : Rl} {K : Kt}
def up_ch (I : Rn) (q : Nat) (a b c e : Int32) : Rn := u2 (u2 (u2 (u2 (u2 (u2 I q 7 a) q 8 b) q 9 c) q 10 e) q 11 (q_mill a.toInt64 b.toInt64)) q 12 (q_mill c.toInt64 e.toInt64)
theorem k_M_putChances {q : Nat} {a b c e : Int32} (hq : S[q]? = some (2, 13)) (hk : K none S R (up_ch I q a b c e) L) : WW G (d + 1) mt_M_putChances 0 [some (.ref q), some (.int a), some (.int b), some (.int c), some (.int e)] [] S R I L 0 0 0 0 K := by
  refine r_ald0 f_M_putChances_0 ?_
  refine r_ild1 f_M_putChances_1 ?_
  refine r_pi f_M_putChances_2 (hq) ?_
  refine r_ald0 f_M_putChances_5 ?_
  refine r_ild2 f_M_putChances_6 ?_
  refine r_pi f_M_putChances_7 (hq) ?_
  refine r_ald0 f_M_putChances_10 ?_
  refine r_ild3 f_M_putChances_11 ?_
  refine r_pi f_M_putChances_12 (hq) ?_
  refine r_ald0 f_M_putChances_15 ?_
  refine r_ild4 f_M_putChances_16 ?_
  refine r_pi f_M_putChances_18 (hq) ?_
  refine r_ald0 f_M_putChances_21 ?_
  refine r_ild1 f_M_putChances_22 ?_
  refine r_i2l f_M_putChances_23 ?_
  refine r_ild2 f_M_putChances_24 ?_
  refine r_i2l f_M_putChances_25 ?_
  refine c_N_millionths f_M_putChances_26 (Nat.le_of_ble_eq_true rfl) (Nat.le_refl _) (Nat.le_refl _) ?_
  refine k_N_millionths ?_
  refine r_pi f_M_putChances_29 (hq) ?_
  refine r_ald0 f_M_putChances_32 ?_
  refine r_ild3 f_M_putChances_33 ?_
  refine r_i2l f_M_putChances_34 ?_
  refine r_ild4 f_M_putChances_35 ?_
  refine r_i2l f_M_putChances_37 ?_
  refine c_N_millionths f_M_putChances_38 (Nat.le_of_ble_eq_true rfl) (Nat.le_refl _) (Nat.le_refl _) ?_
  refine k_N_millionths ?_
  refine r_pi f_M_putChances_41 (hq) ?_
  refine r_ret f_M_putChances_44 rfl (Nat.le_refl _) (Nat.le_refl _) ?_
  exact hk
/-- the chances of a MEET, not in lowest terms -/
def sp_set (w p g mi si fine : Int32) : Int32 × Int32 × Int32 × Int32 := if w = 0 then (0, 1, 0, 1) else if si * (p + g) ≤ 100 * mi then (1, 1, 0, 1) else if si * (w + fine) ≤ 100 * w then (1, 1, 1, 1) else (100 * mi, si * (p + g), 100 * w, si * (w + fine))
def up_st (I : Rn) (q : Nat) (t : Int32 × Int32 × Int32 × Int32) : Rn := up_ch I q t.1 t.2.1 t.2.2.1 t.2.2.2
theorem k_M_settle {q : Nat} {x : Int32} (hq : S[q]? = some (2, 13)) (hk : K none S R (up_st I q (sp_set (I q 2) (I q 3) (I q 4) (I q 5) (I q 6) x)) L) : WW G (d + 2) mt_M_settle 0 [some (.ref q), some (.int x), none, none, none, none] [] S R I L 0 0 0 0 K := by
  unfold up_st sp_set at hk
  refine r_ic f_M_settle_0 ?_
  refine r_ald0 f_M_settle_2 ?_
  refine r_gi f_M_settle_3 (hq) ?_
  refine r_imul f_M_settle_6 ?_
  refine r_ist2 f_M_settle_7 rfl ?_
  refine r_ald0 f_M_settle_8 ?_
  refine r_gi f_M_settle_9 (hq) ?_
  refine r_ald0 f_M_settle_12 ?_
  refine r_gi f_M_settle_13 (hq) ?_
  refine r_ald0 f_M_settle_16 ?_
  refine r_gi f_M_settle_17 (hq) ?_
  refine r_iadd f_M_settle_20 ?_
  refine r_imul f_M_settle_21 ?_
  refine r_ist3 f_M_settle_22 rfl ?_
  refine r_ic f_M_settle_23 ?_
  refine r_ald0 f_M_settle_25 ?_
  refine r_gi f_M_settle_26 (hq) ?_
  refine r_imul f_M_settle_29 ?_
  refine r_ist4 f_M_settle_30 rfl ?_
  refine r_ald0 f_M_settle_32 ?_
  refine r_gi f_M_settle_33 (hq) ?_
  refine r_ald0 f_M_settle_36 ?_
  refine r_gi f_M_settle_37 (hq) ?_
  refine r_ild1 f_M_settle_40 ?_
  refine r_iadd f_M_settle_41 ?_
  refine r_imul f_M_settle_42 ?_
  refine r_ist5 f_M_settle_43 rfl ?_
  refine r_ald0 f_M_settle_45 ?_
  refine r_gi f_M_settle_46 (hq) ?_
  refine r_if_ne f_M_settle_49 (fun h49 => ?_) (fun h49 => ?_)
  · refine r_ild2 f_M_settle_63 ?_
    refine r_ild3 f_M_settle_64 ?_
    refine r_ic_lt f_M_settle_65 (fun h65 => ?_) (fun h65 => ?_)
    · refine r_ild4 f_M_settle_79 ?_
      refine r_ild5 f_M_settle_81 ?_
      refine r_ic_lt f_M_settle_83 (fun h83 => ?_) (fun h83 => ?_)
      · refine r_ald0 f_M_settle_97 ?_
        refine r_ild2 f_M_settle_98 ?_
        refine r_ild3 f_M_settle_99 ?_
        refine r_ild4 f_M_settle_100 ?_
        refine r_ild5 f_M_settle_102 ?_
        refine c_M_putChances f_M_settle_104 (hq) (Nat.le_of_ble_eq_true rfl) (Nat.le_refl _) (Nat.le_refl _) ?_
        refine k_M_putChances hq ?_
        refine r_ret f_M_settle_107 rfl (Nat.le_refl _) (Nat.le_refl _) ?_
        first | (rw [if_pos h49] at hk; exact hk) | (rw [if_neg h49, if_pos (Int32.not_lt.mp h65)] at hk; exact hk) | (rw [if_neg h49, if_neg (Int32.not_le.mpr h65), if_pos (Int32.not_lt.mp h83)] at hk; exact hk) | (rw [if_neg h49, if_neg (Int32.not_le.mpr h65), if_neg (Int32.not_le.mpr h83)] at hk; exact hk)
      · refine r_ald0 f_M_settle_86 ?_
        refine r_ic f_M_settle_87 ?_
        refine r_ic f_M_settle_88 ?_
        refine r_ic f_M_settle_89 ?_
        refine r_ic f_M_settle_90 ?_
        refine c_M_putChances f_M_settle_91 (hq) (Nat.le_of_ble_eq_true rfl) (Nat.le_refl _) (Nat.le_refl _) ?_
        refine k_M_putChances hq ?_
        refine r_goto f_M_settle_94 ?_
        refine r_ret f_M_settle_107 rfl (Nat.le_refl _) (Nat.le_refl _) ?_
        first | (rw [if_pos h49] at hk; exact hk) | (rw [if_neg h49, if_pos (Int32.not_lt.mp h65)] at hk; exact hk) | (rw [if_neg h49, if_neg (Int32.not_le.mpr h65), if_pos (Int32.not_lt.mp h83)] at hk; exact hk) | (rw [if_neg h49, if_neg (Int32.not_le.mpr h65), if_neg (Int32.not_le.mpr h83)] at hk; exact hk)
    · refine r_ald0 f_M_settle_68 ?_
      refine r_ic f_M_settle_69 ?_
      refine r_ic f_M_settle_70 ?_
      refine r_ic f_M_settle_71 ?_
      refine r_ic f_M_settle_72 ?_
      refine c_M_putChances f_M_settle_73 (hq) (Nat.le_of_ble_eq_true rfl) (Nat.le_refl _) (Nat.le_refl _) ?_
      refine k_M_putChances hq ?_
      refine r_goto f_M_settle_76 ?_
      refine r_ret f_M_settle_107 rfl (Nat.le_refl _) (Nat.le_refl _) ?_
      first | (rw [if_pos h49] at hk; exact hk) | (rw [if_neg h49, if_pos (Int32.not_lt.mp h65)] at hk; exact hk) | (rw [if_neg h49, if_neg (Int32.not_le.mpr h65), if_pos (Int32.not_lt.mp h83)] at hk; exact hk) | (rw [if_neg h49, if_neg (Int32.not_le.mpr h65), if_neg (Int32.not_le.mpr h83)] at hk; exact hk)
  · refine r_ald0 f_M_settle_52 ?_
    refine r_ic f_M_settle_53 ?_
    refine r_ic f_M_settle_54 ?_
    refine r_ic f_M_settle_55 ?_
    refine r_ic f_M_settle_56 ?_
    refine c_M_putChances f_M_settle_57 (hq) (Nat.le_of_ble_eq_true rfl) (Nat.le_refl _) (Nat.le_refl _) ?_
    refine k_M_putChances hq ?_
    refine r_goto f_M_settle_60 ?_
    refine r_ret f_M_settle_107 rfl (Nat.le_refl _) (Nat.le_refl _) ?_
    first | (rw [if_pos h49] at hk; exact hk) | (rw [if_neg h49, if_pos (Int32.not_lt.mp h65)] at hk; exact hk) | (rw [if_neg h49, if_neg (Int32.not_le.mpr h65), if_pos (Int32.not_lt.mp h83)] at hk; exact hk) | (rw [if_neg h49, if_neg (Int32.not_le.mpr h65), if_neg (Int32.not_le.mpr h83)] at hk; exact hk)
def sp_open (tk wa si : Int32) : Int32 := (tk.toInt64 * (100000000 - wa.toInt64 * si.toInt64) / 100000000).toInt32
theorem k_M_open {q : Nat} (hq : S[q]? = some (2, 13)) (hk : K (some (.int (sp_open (I q 11) (I q 12) (I q 6)))) S R I L) : WW G d mt_M_open 0 [some (.ref q)] [] S R I L 0 0 0 0 K := by
  refine r_ald0 f_M_open_0 ?_
  refine r_gi f_M_open_1 (hq) ?_
  refine r_i2l f_M_open_4 ?_
  refine r_lc f_M_open_5 ?_
  refine r_ald0 f_M_open_8 ?_
  refine r_gi f_M_open_9 (hq) ?_
  refine r_i2l f_M_open_12 ?_
  refine r_ald0 f_M_open_13 ?_
  refine r_gi f_M_open_14 (hq) ?_
  refine r_i2l f_M_open_17 ?_
  refine r_lmul f_M_open_18 ?_
  refine r_lsub f_M_open_19 ?_
  refine r_lmul f_M_open_20 ?_
  refine r_lc f_M_open_21 ?_
  refine r_ldiv f_M_open_24 (by decide) ?_
  refine r_l2i f_M_open_25 ?_
  refine r_iret f_M_open_26 ⟨_, rfl, rfl⟩ (Nat.le_refl _) (Nat.le_refl _) ?_
  exact hk
def sp_loses (tk wa si mi spill : Int32) : Int64 := wa.toInt64 * mi.toInt64 + (sp_open tk wa si).toInt64 * spill.toInt64
theorem k_M_loses {q : Nat} {x : Int32} (hq : S[q]? = some (2, 13)) (hk : K (some (.long (sp_loses (I q 11) (I q 12) (I q 6) (I q 5) x))) S R I L) : WW G (d + 1) mt_M_loses 0 [some (.ref q), some (.int x)] [] S R I L 0 0 0 0 K := by
  refine r_ald0 f_M_loses_0 ?_
  refine r_gi f_M_loses_1 (hq) ?_
  refine r_i2l f_M_loses_4 ?_
  refine r_ald0 f_M_loses_5 ?_
  refine r_gi f_M_loses_6 (hq) ?_
  refine r_i2l f_M_loses_9 ?_
  refine r_lmul f_M_loses_10 ?_
  refine r_ald0 f_M_loses_11 ?_
  refine c_M_open f_M_loses_12 (hq) (Nat.le_of_ble_eq_true rfl) (Nat.le_refl _) (Nat.le_refl _) ?_
  refine k_M_open hq ?_
  refine r_i2l f_M_loses_15 ?_
  refine r_ild1 f_M_loses_16 ?_
  refine r_i2l f_M_loses_17 ?_
  refine r_lmul f_M_loses_18 ?_
  refine r_ladd f_M_loses_19 ?_
  refine r_lret f_M_loses_20 rfl (Nat.le_refl _) (Nat.le_refl _) ?_
  exact hk
theorem q_half {x y : Nat} (h : y ≤ x) (h0 : 0 < y) : 2 * (x % y) ≤ x := by
  have h1 := Nat.mod_lt x h0
  have h2 := Nat.div_add_mod x y
  have h3 : 1 ≤ x / y := (Nat.le_div_iff_mul_le h0).mpr (by omega)
  have h4 : y * 1 ≤ y * (x / y) := Nat.mul_le_mul_left y h3
  omega
/-- the pair and the step of Euclid's loop: it ends within 64 steps -/
def q_euc (s x y : Nat) : Prop := x < 2 ^ 31 ∧ y < 2 ^ 31 ∧ s ≤ 64 ∧ (1 ≤ s → y ≤ x ∧ x * y * 2 ^ (s - 1) < 2 ^ 62)
theorem q_euc.step {s x y : Nat} (h : q_euc s x y) (h0 : 0 < y) : s < 64 ∧ q_euc (s + 1) y (x % y) := by
  obtain ⟨h1, h2, h3, h4⟩ := h
  have hr := Nat.mod_lt x h0
  have hs : s < 64 := by
    rcases Nat.lt_or_ge s 64 with h | h
    · exact h
    · have e : s = 64 := by omega
      subst e
      obtain ⟨h5, h6⟩ := h4 (by omega)
      have h7 : 1 ≤ x * y := Nat.mul_pos (by omega) h0
      have h8 : 1 * 2 ^ (64 - 1) ≤ x * y * 2 ^ (64 - 1) := Nat.mul_le_mul_right _ h7
      have h9 : (1 : Nat) * 2 ^ (64 - 1) < 2 ^ 62 := Nat.lt_of_le_of_lt h8 h6
      exact absurd h9 (by decide)
  refine ⟨hs, h2, by omega, by omega, fun _ => ⟨Nat.le_of_lt hr, ?_⟩⟩
  rw [Nat.add_sub_cancel]
  rcases Nat.eq_zero_or_pos s with e | e
  · subst e
    rw [Nat.pow_zero, Nat.mul_one]
    have h5 : y * (x % y) < 2 ^ 31 * 2 ^ 31 := Nat.mul_lt_mul'' h2 (by omega)
    exact Nat.lt_of_lt_of_eq h5 (by decide)
  · obtain ⟨h5, h6⟩ := h4 e
    have h7 : 2 ^ s = 2 * 2 ^ (s - 1) := by
      rw [← Nat.pow_succ']
      congr 1
      omega
    have h8 : y * (x % y) * 2 ≤ x * y := by
      have := Nat.mul_le_mul_left y (q_half h5 h0)
      rw [Nat.mul_comm x y, Nat.mul_assoc, Nat.mul_comm (x % y) 2]
      exact this
    rw [h7, ← Nat.mul_assoc]
    exact Nat.lt_of_le_of_lt (Nat.mul_le_mul_right _ h8) h6
theorem q_euc.zero {x y : Nat} (h1 : x < 2 ^ 31) (h2 : y < 2 ^ 31) : q_euc 0 x y := ⟨h1, h2, by omega, fun h => by omega⟩
theorem q_max1 {g : Nat} (h : g < 2 ^ 31) : (if nI g < 1 then (1 : Int32) else nI g) = nI (max g 1) := by
  rcases Nat.eq_zero_or_pos g with e | e
  · subst e
    decide
  · rw [if_neg (Int32.not_lt.mpr (show (1 : Int32) ≤ nI g from nI_le e h)), Nat.max_eq_left e]
theorem k_M_common_loop {g : Nat} (hk : K (some (.int (nI (max g 1)))) S R I L) : ∀ (n s x y : Nat), 64 - s < n → q_euc s x y → Nat.gcd x y = g → WW G d mt_M_common 7 [none, none, some (.int (nI x)), some (.int (nI y)), some (.int (nI s)), none] [] S R I L 0 0 0 0 K
  | 0, s, x, y, hn, h, hg => by omega
  | n + 1, s, x, y, hn, h, hg => by
    have hgx : x < 2 ^ 31 := h.1
    refine r_ild3 f_M_common_7 ?_
    refine r_if_le f_M_common_8 (fun h8 => ?_) (fun h8 => ?_)
    · have hy : y = 0 := by
        rcases Nat.eq_zero_or_pos y with e | e
        · exact e
        · exact absurd h8 (nI_nle e h.2.1)
      subst hy
      rw [Nat.gcd_zero_right] at hg
      subst hg
      refine r_ild2 f_M_common_34 ?_
      refine r_ic f_M_common_35 ?_
      refine r_maxI f_M_common_36 (Nat.le_of_ble_eq_true rfl) (Nat.le_refl _) (Nat.le_refl _) ?_
      refine r_iret f_M_common_39 ⟨_, rfl, rfl⟩ (Nat.le_refl _) (Nat.le_refl _) ?_
      rw [q_max1 hgx]
      exact hk
    · have hy : 0 < y := by
        rcases Nat.eq_zero_or_pos y with e | e
        · subst e
          exact absurd (by decide) h8
        · exact e
      obtain ⟨hs, he⟩ := h.step hy
      refine r_ild4 f_M_common_11 ?_
      refine r_ic f_M_common_13 ?_
      refine r_ic_ge f_M_common_15 (fun h15 => absurd h15 (nI_ge hs (by decide))) (fun h15 => ?_)
      refine r_ild2 f_M_common_18 ?_
      refine r_ild3 f_M_common_19 ?_
      refine r_irem f_M_common_20 (nI_ne0 hy h.2.1) ?_
      rw [pk_rem hgx hy h.2.1]
      refine r_ist5 f_M_common_21 rfl ?_
      refine r_ild3 f_M_common_23 ?_
      refine r_ist2 f_M_common_24 rfl ?_
      refine r_ild5 f_M_common_25 ?_
      refine r_ist3 f_M_common_27 rfl ?_
      refine r_inc4 f_M_common_28 rfl ?_
      refine r_goto f_M_common_31 ?_
      refine r_drop5 ?_
      rw [nI_1]
      exact k_M_common_loop hk n (s + 1) y (x % y) (by omega) he (by rw [Nat.gcd_comm, ← Nat.gcd_rec, Nat.gcd_comm]; exact hg) 
theorem k_M_common {x y : Nat} (hx : x < 2 ^ 31) (hy : y < 2 ^ 31) (hk : K (some (.int (nI (max (Nat.gcd x y) 1)))) S R I L) : WW G d mt_M_common 0 [some (.int (nI x)), some (.int (nI y)), none, none, none, none] [] S R I L 0 0 0 0 K := by
  refine r_ild0 f_M_common_0 ?_
  refine r_ist2 f_M_common_1 rfl ?_
  refine r_ild1 f_M_common_2 ?_
  refine r_ist3 f_M_common_3 rfl ?_
  refine r_ic f_M_common_4 ?_
  refine r_ist4 f_M_common_5 rfl ?_
  refine r_drop0 ?_
  refine r_drop1 ?_
  exact k_M_common_loop hk 65 0 x y (by omega) (q_euc.zero hx hy) rfl
end L21
