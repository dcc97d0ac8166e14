section L36
variable {G : Gx} {d : Nat} {I I' I0 : Rn} {L L' : Rl} {K : Kt} {σ : St} {D : Dst} {Me : Nat → Nat → Int32}
theorem q_l2i {v : Int64} {n : Nat} (h : v.toInt = (n : Int)) (hn : n < 2 ^ 31) : v.toInt32 = nI n := by
  apply Int32.toInt_inj.mp
  rw [Int64.toInt_toInt32, h, nI_toInt hn]
  exact Int.bmod_eq_of_le (by omega) (by omega)
theorem sp_clamp_nat (v : Int64) : ∃ n, n ≤ 99999 ∧ sp_clamp v = nI n := by
  unfold sp_clamp
  by_cases h1 : 99999 < v
  · rw [if_pos h1]
    exact ⟨99999, Nat.le_refl _, by decide⟩
  · rw [if_neg h1]
    by_cases h2 : v < 0
    · rw [if_pos h2]
      exact ⟨0, by omega, by decide⟩
    · rw [if_neg h2]
      have e1 := Int64.le_iff_toInt_le.mp (Int64.not_lt.mp h1)
      have e2 := Int64.le_iff_toInt_le.mp (Int64.not_lt.mp h2)
      have e3 : (99999 : Int64).toInt = 99999 := by decide
      have e4 : (0 : Int64).toInt = 0 := by decide
      rw [e3] at e1
      rw [e4] at e2
      exact ⟨v.toInt.toNat, by omega, q_l2i (by omega) (by omega)⟩
theorem sp_pays_nat (w g : Int32) : ∃ n, n ≤ 99999 ∧ sp_pays w g = nI n := sp_clamp_nat _
def sp_wantsN (kd an p dry : Nat) : Nat := if kd = 1 then 0 else if kd = 5 then 0 else if kd = 3 then p + p / 2 * min an 4 else if kd = 4 then p * dry else p
theorem nI_if {c c' : Prop} [Decidable c] [Decidable c'] {x y : Int32} {n m : Nat} (h : c ↔ c') (h1 : x = nI n) (h2 : y = nI m) : (if c then x else y) = nI (if c' then n else m) := by
  by_cases hc : c
  · rw [if_pos hc, if_pos (h.mp hc), h1]
  · rw [if_neg hc, if_neg (fun q => hc (h.mpr q)), h2]
theorem sp_wants_nat {kd an p dry : Nat} (h1 : kd ≤ 5) (h2 : an ≤ 9) (h3 : p ≤ 99999) (h4 : dry ≤ 9) : sp_wants (nI kd) (nI an) (nI p) (nI dry) = nI (sp_wantsN kd an p dry) ∧ sp_wantsN kd an p dry ≤ 899991 := by
  have e2 : nI p / 2 = nI (p / 2) := pk_div (d := 2) (by omega) (by decide) (by decide)
  have e3 : (if 4 < nI an then (4 : Int32) else nI an) = nI (min an 4) := by
    by_cases h : 4 < an
    · rw [if_pos (show 4 < nI an from nI_lt (a := 4) h (by omega)), Nat.min_eq_right (by omega)]
      rfl
    · rw [if_neg (show ¬ 4 < nI an from nI_nlt (b := an) (a := 4) (by omega) (by decide)), Nat.min_eq_left (by omega)]
  constructor
  · unfold sp_wants sp_wantsN
    rw [e2, e3, pk_mul, nI_add, pk_mul]
    refine nI_if (nI_eq (b := 1) (by omega) (by decide)) rfl (nI_if (nI_eq (b := 5) (by omega) (by decide)) rfl (nI_if (nI_eq (b := 3) (by omega) (by decide)) rfl (nI_if (nI_eq (b := 4) (by omega) (by decide)) rfl rfl)))
  · unfold sp_wantsN
    have h5 : p / 2 * min an 4 ≤ 49999 * 4 := Nat.mul_le_mul (by omega) (by omega)
    have h6 : p * dry ≤ 99999 * 9 := Nat.mul_le_mul h3 h4
    repeat' split
    all_goals omega
def sp_mindsN (kd sl an : Nat) : Nat := if kd = 5 then sl / 2 else if kd = 3 then sl - 10 * an else sl
theorem sp_minds_nat {kd sl an : Nat} (h1 : kd ≤ 5) (h2 : an ≤ 9) (h3 : sl ≤ 999) : sp_minds (nI kd) (nI sl) (nI an) = nI (sp_mindsN kd sl an) ∧ sp_mindsN kd sl an ≤ 999 := by
  have e2 : nI sl / 2 = nI (sl / 2) := pk_div (d := 2) (by omega) (by decide) (by decide)
  have e1 : (10 : Int32) * nI an = nI (10 * an) := pk_mul 10 an
  have e3 : (if nI sl - nI (10 * an) < 0 then (0 : Int32) else nI sl - nI (10 * an)) = nI (sl - 10 * an) := by
    by_cases h : 10 * an ≤ sl
    · rw [pk_sub h, if_neg (nI_pos (by omega))]
    · rw [if_pos ?_, show sl - 10 * an = 0 by omega]
      · rfl
      · apply Int32.lt_iff_toInt_lt.mpr
        rw [pk_sub_toInt (by omega) (by omega)]
        have e4 : (0 : Int32).toInt = 0 := by decide
        omega
  constructor
  · unfold sp_minds sp_mindsN
    rw [e2, e1, e3]
    exact nI_if (nI_eq (b := 5) (by omega) (by decide)) rfl (nI_if (nI_eq (b := 3) (by omega) (by decide)) rfl rfl)
  · unfold sp_mindsN
    repeat' split
    all_goals omega
def sp_setN (w p g mi si f : Nat) : Nat × Nat × Nat × Nat := if w = 0 then (0, 1, 0, 1) else if si * (p + g) ≤ 100 * mi then (1, 1, 0, 1) else if si * (w + f) ≤ 100 * w then (1, 1, 1, 1) else (100 * mi, si * (p + g), 100 * w, si * (w + f))
def q_n4 (t : Nat × Nat × Nat × Nat) : Int32 × Int32 × Int32 × Int32 := (nI t.1, nI t.2.1, nI t.2.2.1, nI t.2.2.2)
theorem sp_set_nat {w p g mi si f : Nat} (hw : w ≤ 899991) (hp : p ≤ 99999) (hg : g ≤ 99999) (hm : mi ≤ 999) (hs : si ≤ 100) (hf : f ≤ 99999) : sp_set (nI w) (nI p) (nI g) (nI mi) (nI si) (nI f) = q_n4 (sp_setN w p g mi si f) ∧ (sp_setN w p g mi si f).1 ≤ 100000000 ∧ (sp_setN w p g mi si f).2.1 ≤ 100000000 ∧ (sp_setN w p g mi si f).2.2.1 ≤ 100000000 ∧ (sp_setN w p g mi si f).2.2.2 ≤ 100000000 := by
  have b1 : si * (p + g) ≤ 100 * 199998 := Nat.mul_le_mul hs (by omega)
  have b2 : si * (w + f) ≤ 100 * 999990 := Nat.mul_le_mul hs (by omega)
  have e1 : (100 : Int32) * nI mi = nI (100 * mi) := pk_mul 100 mi
  have e2 : (100 : Int32) * nI w = nI (100 * w) := pk_mul 100 w
  unfold sp_set sp_setN
  rw [nI_add, nI_add, pk_mul, pk_mul, e1, e2]
  by_cases h0 : w = 0
  · rw [if_pos h0, if_pos (show nI w = 0 from (nI_eq (b := 0) (by omega) (by decide)).mpr h0)]
    exact ⟨rfl, by decide, by decide, by decide, by decide⟩
  · rw [if_neg h0, if_neg (show ¬ nI w = 0 from fun q => h0 ((nI_eq (b := 0) (by omega) (by decide)).mp q))]
    by_cases h1 : si * (p + g) ≤ 100 * mi
    · rw [if_pos h1, if_pos (nI_le h1 (by omega))]
      exact ⟨rfl, by decide, by decide, by decide, by decide⟩
    · rw [if_neg h1, if_neg (fun q => h1 ((nI_leI (by omega) (by omega)).mp q))]
      by_cases h2 : si * (w + f) ≤ 100 * w
      · rw [if_pos h2, if_pos (nI_le h2 (by omega))]
        exact ⟨rfl, by decide, by decide, by decide, by decide⟩
      · rw [if_neg h2, if_neg (fun q => h2 ((nI_leI (by omega) (by omega)).mp q))]
        refine ⟨rfl, ?_, ?_, ?_, ?_⟩
        all_goals dsimp only
        all_goals omega
/-- what is at rest between farms o and t, in naturals: wants, given, minds, sight, fine -/
theorem sp_mrow_nat {ow tk P Q : Nat} (hW : WFd D) (ho : ow < dC D) (ht : tk < dC D) (hP : P ≤ 99999) (hQ : Q ≤ 99999) : ∃ w g mi si f : Nat, w ≤ 899991 ∧ g ≤ 99999 ∧ mi ≤ 999 ∧ si ≤ 100 ∧ f ≤ 99999 ∧
    sp_wants (D.1 tk 0) (D.1 tk 6) (nI Q) (D.2.2.2.1 1) = nI w ∧ D.2.2.1 0 * D.2.2.1 1 / 100 = nI g ∧ sp_minds (D.1 ow 0) (D.1 ow 3) (D.1 ow 6) = nI mi ∧ (if 100 < D.1 ow 4 + D.2.2.1 3 then (100 : Int32) else D.1 ow 4 + D.2.2.1 3) = nI si ∧ D.2.2.1 0 = nI f := by
  obtain ⟨_, _, _, hF, hU, ⟨dr, d1, d2, d3⟩, _, _⟩ := hW
  obtain ⟨k1, _, a2, a3⟩ := hF tk 0 ht (by decide) (by decide)
  obtain ⟨n1, _, b2, b3⟩ := hF tk 6 ht (by decide) (by decide)
  obtain ⟨k2, _, c2, c3⟩ := hF ow 0 ho (by decide) (by decide)
  obtain ⟨s2, _, e2, e3⟩ := hF ow 3 ho (by decide) (by decide)
  obtain ⟨n2, _, f2, f3⟩ := hF ow 6 ho (by decide) (by decide)
  obtain ⟨s4, _, g2, g3⟩ := hF ow 4 ho (by decide) (by decide)
  obtain ⟨u0, _, i2, i3⟩ := hU 0 (by decide)
  obtain ⟨u1, _, j2, j3⟩ := hU 1 (by decide)
  obtain ⟨u3, _, k2', k3⟩ := hU 3 (by decide)
  have z1 : q_fmax 0 = 5 := rfl
  have z2 : q_fmax 6 = 9 := rfl
  have z3 : q_fmax 3 = 999 := rfl
  have z4 : q_fmax 4 = 100 := rfl
  have z5 : q_umax 0 = 99999 := rfl
  have z6 : q_umax 1 = 100 := rfl
  have z7 : q_umax 3 = 200 := rfl
  rw [z1] at a2 c2
  rw [z2] at b2 f2
  rw [z3] at e2
  rw [z4] at g2
  rw [z5] at i2
  rw [z6] at j2
  rw [z7] at k2'
  obtain ⟨w1, w2⟩ := sp_wants_nat (kd := k1) (an := n1) (p := Q) (dry := dr) a2 b2 hQ d2
  obtain ⟨m1, m2⟩ := sp_minds_nat (kd := k2) (sl := s2) (an := n2) c2 f2 e2
  have hmul : u0 * u1 ≤ 99999 * 100 := Nat.mul_le_mul i2 j2
  have hdiv : u0 * u1 / 100 ≤ 99999 := by omega
  refine ⟨_, u0 * u1 / 100, _, min (s4 + u3) 100, u0, w2, hdiv, m2, Nat.min_le_right _ _, i2, ?_, ?_, ?_, ?_, i3⟩
  · rw [a3, b3, d3]
    exact w1
  · rw [i3, j3, pk_mul]
    exact pk_div (d := 100) (by omega) (by decide) (by decide)
  · rw [c3, e3, f3]
    exact m1
  · rw [g3, k3, nI_add]
    by_cases h : 100 < s4 + u3
    · rw [if_pos (show 100 < nI (s4 + u3) from nI_lt (a := 100) h (by omega)), Nat.min_eq_right (by omega)]
      rfl
    · rw [if_neg (show ¬ 100 < nI (s4 + u3) from nI_nlt (a := 100) (by omega) (by decide)), Nat.min_eq_left (by omega)]
theorem sp_mrow_ch {ow tk P Q : Nat} (hW : WFd D) (ho : ow < dC D) (ht : tk < dC D) (hP : P ≤ 99999) (hQ : Q ≤ 99999) : ∃ c : Nat × Nat × Nat × Nat, c.1 ≤ 100000000 ∧ c.2.1 ≤ 100000000 ∧ c.2.2.1 ≤ 100000000 ∧ c.2.2.2 ≤ 100000000 ∧ sp_mrow D ow tk (nI P) (nI Q) 7 = nI c.1 ∧ sp_mrow D ow tk (nI P) (nI Q) 8 = nI c.2.1 ∧ sp_mrow D ow tk (nI P) (nI Q) 9 = nI c.2.2.1 ∧ sp_mrow D ow tk (nI P) (nI Q) 10 = nI c.2.2.2 := by
  obtain ⟨w, g, mi, si, f, h1, h2, h3, h4, h5, e1, e2, e3, e4, e5⟩ := sp_mrow_nat hW ho ht hP hQ
  obtain ⟨s1, s2, s3, s4, s5⟩ := sp_set_nat h1 hP h2 h3 h4 h5
  refine ⟨sp_setN w P g mi si f, s2, s3, s4, s5, ?_⟩
  unfold sp_mrow
  rw [e1, e2, e3, e4, e5, s1]
  exact ⟨rfl, rfl, rfl, rfl⟩
theorem sp_mt_ch {p : Nat} (hW : WFd D) (hp : p < dC D) : ∃ c : Nat × Nat × Nat × Nat, c.1 ≤ 100000000 ∧ c.2.1 ≤ 100000000 ∧ c.2.2.1 ≤ 100000000 ∧ c.2.2.2 ≤ 100000000 ∧ sp_mt D p 7 = nI c.1 ∧ sp_mt D p 8 = nI c.2.1 ∧ sp_mt D p 9 = nI c.2.2.1 ∧ sp_mt D p 10 = nI c.2.2.2 := by
  have hn : sp_nx D p < dC D := by
    unfold sp_nx
    split <;> omega
  unfold sp_mt sp_PA
  obtain ⟨P, hP, eP⟩ := sp_pays_nat (D.1 (dO D p) 2) (sp_gives D (dO D p) p)
  obtain ⟨Q, hQ, eQ⟩ := sp_pays_nat (D.1 (dO D (sp_nx D p)) 2) (sp_gives D (dO D (sp_nx D p)) (sp_nx D p))
  rw [eP, eQ]
  exact sp_mrow_ch hW (hW.2.1 p hp).1 (hW.2.1 _ hn).1 hP hQ
def sp_gcd (x y : Int32) : Int32 := nI (max (Nat.gcd x.toNatClampNeg y.toNatClampNeg) 1)
def sp_tell (r : Nat → Int32) (k : Nat) : Int32 := if k = 0 then r 7 / sp_gcd (r 7) (r 8) else if k = 1 then r 8 / sp_gcd (r 7) (r 8) else if k = 2 then r 9 / sp_gcd (r 9) (r 10) else if k = 3 then r 10 / sp_gcd (r 9) (r 10) else if k = 4 then r 11 else if k = 5 then r 12 else sp_open (r 11) (r 12) (r 6)
theorem q_gcd0 {x y : Nat} (hx : x ≤ 100000000) (hy : y ≤ 100000000) : ¬ nI (max (Nat.gcd x y) 1) = 0 := by
  refine nI_ne0 (by omega) ?_
  by_cases h : y = 0
  · subst h
    rw [Nat.gcd_zero_right]
    omega
  · have := Nat.gcd_le_right x (Nat.pos_of_ne_zero h)
    omega
theorem sp_gcd_n {x y : Nat} (hx : x ≤ 100000000) (hy : y ≤ 100000000) : sp_gcd (nI x) (nI y) = nI (max (Nat.gcd x y) 1) := by
  unfold sp_gcd
  rw [nI_clamp (by omega), nI_clamp (by omega)]
theorem k_M_tell {q : Nat} {c : Nat × Nat × Nat × Nat} (hq : SH[q]? = some (2, 13)) (hc : c.1 ≤ 100000000 ∧ c.2.1 ≤ 100000000 ∧ c.2.2.1 ≤ 100000000 ∧ c.2.2.2 ≤ 100000000 ∧ I q 7 = nI c.1 ∧ I q 8 = nI c.2.1 ∧ I q 9 = nI c.2.2.1 ∧ I q 10 = nI c.2.2.2) : ∀ (k : Nat), k < 7 → K (some (.int (sp_tell (I q) k))) SH RF I L → WW G (d + 1) mt_M_tell 0 [some (.ref q), some (.int (nI k))] [] SH RF I L 0 0 0 0 K
  | 0, _, hk => by
    obtain ⟨n1, n2, n3, n4, g7, g8, g9, g10⟩ := hc
    rw [show sp_tell (I q) 0 = I q 7 / sp_gcd (I q 7) (I q 8) from rfl, g7, g8, sp_gcd_n n1 n2] at hk
    refine r_ild1 f_M_tell_0 ?_
    refine r_swl f_M_tell_1 (show q_swt _ _ _ = 40 by decide) ?_
    refine r_ald0 f_M_tell_40 ?_
    refine r_gi f_M_tell_41 (hq) ?_
    refine r_ald0 f_M_tell_44 ?_
    refine r_gi f_M_tell_45 (hq) ?_
    refine r_ald0 f_M_tell_48 ?_
    refine r_gi f_M_tell_49 (hq) ?_
    refine c_M_common f_M_tell_52 (Nat.le_of_ble_eq_true rfl) (Nat.le_refl _) (Nat.le_refl _) ?_
    rw [g7, g8]
    refine k_M_common (show c.1 < 2 ^ 31 by omega) (show c.2.1 < 2 ^ 31 by omega) ?_
    refine r_idiv f_M_tell_55 (q_gcd0 n1 n2) ?_
    refine r_iret f_M_tell_56 ⟨_, rfl, rfl⟩ (Nat.le_refl _) (Nat.le_refl _) ?_
    exact hk
  | 1, _, hk => by
    obtain ⟨n1, n2, n3, n4, g7, g8, g9, g10⟩ := hc
    rw [show sp_tell (I q) 1 = I q 8 / sp_gcd (I q 7) (I q 8) from rfl, g7, g8, sp_gcd_n n1 n2] at hk
    refine r_ild1 f_M_tell_0 ?_
    refine r_swl f_M_tell_1 (show q_swt _ _ _ = 57 by decide) ?_
    refine r_ald0 f_M_tell_57 ?_
    refine r_gi f_M_tell_58 (hq) ?_
    refine r_ald0 f_M_tell_61 ?_
    refine r_gi f_M_tell_62 (hq) ?_
    refine r_ald0 f_M_tell_65 ?_
    refine r_gi f_M_tell_66 (hq) ?_
    refine c_M_common f_M_tell_69 (Nat.le_of_ble_eq_true rfl) (Nat.le_refl _) (Nat.le_refl _) ?_
    rw [g7, g8]
    refine k_M_common (show c.1 < 2 ^ 31 by omega) (show c.2.1 < 2 ^ 31 by omega) ?_
    refine r_idiv f_M_tell_72 (q_gcd0 n1 n2) ?_
    refine r_iret f_M_tell_73 ⟨_, rfl, rfl⟩ (Nat.le_refl _) (Nat.le_refl _) ?_
    exact hk
  | 2, _, hk => by
    obtain ⟨n1, n2, n3, n4, g7, g8, g9, g10⟩ := hc
    rw [show sp_tell (I q) 2 = I q 9 / sp_gcd (I q 9) (I q 10) from rfl, g9, g10, sp_gcd_n n3 n4] at hk
    refine r_ild1 f_M_tell_0 ?_
    refine r_swl f_M_tell_1 (show q_swt _ _ _ = 74 by decide) ?_
    refine r_ald0 f_M_tell_74 ?_
    refine r_gi f_M_tell_75 (hq) ?_
    refine r_ald0 f_M_tell_78 ?_
    refine r_gi f_M_tell_79 (hq) ?_
    refine r_ald0 f_M_tell_82 ?_
    refine r_gi f_M_tell_83 (hq) ?_
    refine c_M_common f_M_tell_86 (Nat.le_of_ble_eq_true rfl) (Nat.le_refl _) (Nat.le_refl _) ?_
    rw [g9, g10]
    refine k_M_common (show c.2.2.1 < 2 ^ 31 by omega) (show c.2.2.2 < 2 ^ 31 by omega) ?_
    refine r_idiv f_M_tell_89 (q_gcd0 n3 n4) ?_
    refine r_iret f_M_tell_90 ⟨_, rfl, rfl⟩ (Nat.le_refl _) (Nat.le_refl _) ?_
    exact hk
  | 3, _, hk => by
    obtain ⟨n1, n2, n3, n4, g7, g8, g9, g10⟩ := hc
    rw [show sp_tell (I q) 3 = I q 10 / sp_gcd (I q 9) (I q 10) from rfl, g9, g10, sp_gcd_n n3 n4] at hk
    refine r_ild1 f_M_tell_0 ?_
    refine r_swl f_M_tell_1 (show q_swt _ _ _ = 91 by decide) ?_
    refine r_ald0 f_M_tell_91 ?_
    refine r_gi f_M_tell_92 (hq) ?_
    refine r_ald0 f_M_tell_95 ?_
    refine r_gi f_M_tell_96 (hq) ?_
    refine r_ald0 f_M_tell_99 ?_
    refine r_gi f_M_tell_100 (hq) ?_
    refine c_M_common f_M_tell_103 (Nat.le_of_ble_eq_true rfl) (Nat.le_refl _) (Nat.le_refl _) ?_
    rw [g9, g10]
    refine k_M_common (show c.2.2.1 < 2 ^ 31 by omega) (show c.2.2.2 < 2 ^ 31 by omega) ?_
    refine r_idiv f_M_tell_106 (q_gcd0 n3 n4) ?_
    refine r_iret f_M_tell_107 ⟨_, rfl, rfl⟩ (Nat.le_refl _) (Nat.le_refl _) ?_
    exact hk
  | 4, _, hk => by
    refine r_ild1 f_M_tell_0 ?_
    refine r_swl f_M_tell_1 (show q_swt _ _ _ = 108 by decide) ?_
    refine r_ald0 f_M_tell_108 ?_
    refine r_gi f_M_tell_109 (hq) ?_
    refine r_iret f_M_tell_112 ⟨_, rfl, rfl⟩ (Nat.le_refl _) (Nat.le_refl _) ?_
    exact hk
  | 5, _, hk => by
    refine r_ild1 f_M_tell_0 ?_
    refine r_swl f_M_tell_1 (show q_swt _ _ _ = 113 by decide) ?_
    refine r_ald0 f_M_tell_113 ?_
    refine r_gi f_M_tell_114 (hq) ?_
    refine r_iret f_M_tell_117 ⟨_, rfl, rfl⟩ (Nat.le_refl _) (Nat.le_refl _) ?_
    exact hk
  | 6, _, hk => by
    refine r_ild1 f_M_tell_0 ?_
    refine r_swl f_M_tell_1 (show q_swt _ _ _ = 118 by decide) ?_
    refine r_ald0 f_M_tell_118 ?_
    refine c_M_open f_M_tell_119 (hq) (Nat.le_of_ble_eq_true rfl) (Nat.le_refl _) (Nat.le_refl _) ?_
    refine k_M_open hq ?_
    refine r_iret f_M_tell_122 ⟨_, rfl, rfl⟩ (Nat.le_refl _) (Nat.le_refl _) ?_
    exact hk
  | n + 7, h, _ => absurd h (by omega)
theorem sp_tell_eq {r r' : Nat → Int32} (h : ∀ k, k < 13 → r k = r' k) (k : Nat) : sp_tell r k = sp_tell r' k := by
  unfold sp_tell
  rw [h 7 (by decide), h 8 (by decide), h 9 (by decide), h 10 (by decide), h 11 (by decide), h 12 (by decide), h 6 (by decide)]
def op_rest (σ : St) (x w : Int32) : Int32 × St := if (0 ≤ x ∧ x ≤ nI (dC σ.1) - 1) ∧ (0 ≤ w ∧ w ≤ 6) then if sp_mc (dC σ.1) = 0 then fnd σ (-1000000004) 3 else (sp_tell (sp_mt σ.1 x.toNatClampNeg) w.toNatClampNeg, σ) else fnd σ (-1000000001) 0
theorem sp_mc_eq {c : Nat} (h : ¬ sp_mc c = 0) : sp_mc c = c := by
  unfold sp_mc at h ⊢
  split
  · rename_i q
    rw [if_pos q] at h
    exact absurd rfl h
  · rfl
theorem sp_mc_z {c : Nat} (hc : c ≤ 8) (h : nI (sp_mc c) = 0) : sp_mc c = 0 := by
  have := sp_mc_le c
  exact (nI_eq (b := 0) (by omega) (by decide)).mp h
theorem k_N_rest {x w : Int32} (hC : RepC I L σ) (hW : WFs σ) (hk : CK K I L (op_rest σ x w)) : WW G (d + 5) mt_N_rest 0 [some (.ref 0), some (.int x), some (.int w)] [] SH RF I L 0 0 0 0 K := by
  unfold op_rest at hk
  have hcnt := hC.cnt hW
  have hc8 := hW.1.1.1
  refine r_ald0 f_N_rest_0 ?_
  refine r_gr f_N_rest_1 (s_0) (r_0_0) ?_
  refine r_ild1 f_N_rest_4 ?_
  refine c_D_hasFarm f_N_rest_5 (sD q_D1) (Nat.le_of_ble_eq_true rfl) (Nat.le_refl _) (Nat.le_refl _) ?_
  refine p_D_hasFarm q_D1 hcnt hc8 (fun hx u hu eu => ?_) (fun hx => ?_)
  · subst eu
    refine r_if_eq f_N_rest_8 (fun h => absurd h (by decide)) (fun _ => ?_)
    refine r_ild2 f_N_rest_11 ?_
    refine r_ic f_N_rest_12 ?_
    refine r_ic f_N_rest_13 ?_
    refine c_N_isWithin f_N_rest_15 (Nat.le_of_ble_eq_true rfl) (Nat.le_refl _) (Nat.le_refl _) ?_
    refine k_N_isWithin (fun hya hyb => ?_) (fun hy => ?_)
    · rw [if_pos ⟨hx, hya, hyb⟩] at hk
      obtain ⟨t, ht, et⟩ := q_inC (c := 7) (by omega) hya hyb
      subst et
      rw [nI_clamp (n := u) (by omega), nI_clamp (n := t) (by omega)] at hk
      refine r_if_ne f_N_rest_18 (fun _ => ?_) (fun h => absurd h (by decide))
      refine r_ald0 f_N_rest_28 ?_
      refine r_gr f_N_rest_29 (s_0) (r_0_0) ?_
      refine c_D_meetCount f_N_rest_32 (sD q_D1) (Nat.le_of_ble_eq_true rfl) (Nat.le_refl _) (Nat.le_refl _) ?_
      refine k_D_meetCount q_D1 hcnt hc8 ?_
      refine r_if_ne f_N_rest_35 (fun h35 => ?_) (fun h35 => ?_)
      · have hmc : ¬ sp_mc (dC σ.1) = 0 := fun q => h35 (by rw [q]; rfl)
        rw [if_neg hmc] at hk
        have hmc2 : sp_mc (dC σ.1) = dC σ.1 := sp_mc_eq hmc
        refine r_ald0 f_N_rest_45 ?_
        refine r_gr f_N_rest_46 (s_0) (r_0_0) ?_
        refine c_D_weigh f_N_rest_49 (sD q_D1) (Nat.le_of_ble_eq_true rfl) (Nat.le_refl _) (Nat.le_refl _) ?_
        refine k_D_weigh q_D1 hC.1 hW.1 (fun I9 g9 m9 => ?_)
        have hR9 := hC.1.agW q_D1 g9
        refine r_ald0 f_N_rest_52 ?_
        refine r_gr f_N_rest_53 (s_0) (r_0_0) ?_
        refine r_gr f_N_rest_56 (sD q_D1) (rD10 q_D1) ?_
        refine r_ild1 f_N_rest_59 ?_
        refine r_aald f_N_rest_60 (Or.inr (Or.inl rfl)) (sD7 q_D1) (q_ix.nI (by omega) (by decide)) (rDM q_D1 (by omega)) ?_
        refine r_ild2 f_N_rest_61 ?_
        refine c_M_tell f_N_rest_62 (sDM q_D1 (by omega)) (Nat.le_of_ble_eq_true rfl) (Nat.le_refl _) (Nat.le_refl _) ?_
        obtain ⟨c, hc⟩ := sp_mt_ch hW.1 hu
        refine k_M_tell (sDM q_D1 (by omega)) (c := c) ?_ t ht ?_
        · rw [m9 u 7 (by omega) (by decide), m9 u 8 (by omega) (by decide), m9 u 9 (by omega) (by decide), m9 u 10 (by omega) (by decide)]
          exact hc
        rw [sp_tell_eq (m9 u · (by omega) ·)]
        refine r_iret f_N_rest_65 ⟨_, rfl, rfl⟩ (Nat.le_refl _) (Nat.le_refl _) ?_
        exact hk _ _ (hC.ofW g9) (q_hi.ofW g9)
      · have hmc : sp_mc (dC σ.1) = 0 := sp_mc_z hc8 (h35)
        rw [if_pos hmc] at hk
        refine r_ald0 f_N_rest_38 ?_
        refine r_ic f_N_rest_39 ?_
        refine c_N_finding f_N_rest_41 (s_0) (Nat.le_of_ble_eq_true rfl) (Nat.le_refl _) (Nat.le_refl _) ?_
        refine k_N_finding (k := 3) (by decide) (by decide) hC (fun I9 hC9 hi9 => ?_)
        refine r_iret f_N_rest_44 ⟨_, rfl, rfl⟩ (Nat.le_refl _) (Nat.le_refl _) ?_
        exact hk _ _ hC9 hi9
    · rw [if_neg (fun q => hy q.2)] at hk
      refine r_if_ne f_N_rest_18 (fun h => absurd h (by decide)) (fun _ => ?_)
      refine r_ald0 f_N_rest_21 ?_
      refine r_ic f_N_rest_22 ?_
      refine c_N_finding f_N_rest_24 (s_0) (Nat.le_of_ble_eq_true rfl) (Nat.le_refl _) (Nat.le_refl _) ?_
      refine k_N_finding (k := 0) (by decide) (by decide) hC (fun I9 hC9 hi9 => ?_)
      refine r_iret f_N_rest_27 ⟨_, rfl, rfl⟩ (Nat.le_refl _) (Nat.le_refl _) ?_
      exact hk _ _ hC9 hi9
  · rw [if_neg (fun q => hx q.1)] at hk
    refine r_if_eq f_N_rest_8 (fun _ => ?_) (fun h => absurd h (by decide))
    refine r_ald0 f_N_rest_21 ?_
    refine r_ic f_N_rest_22 ?_
    refine c_N_finding f_N_rest_24 (s_0) (Nat.le_of_ble_eq_true rfl) (Nat.le_refl _) (Nat.le_refl _) ?_
    refine k_N_finding (k := 0) (by decide) (by decide) hC (fun I9 hC9 hi9 => ?_)
    refine r_iret f_N_rest_27 ⟨_, rfl, rfl⟩ (Nat.le_refl _) (Nat.le_refl _) ?_
    exact hk _ _ hC9 hi9
end L36
