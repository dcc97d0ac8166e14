section L25
variable {G : Gx} {d : Nat} {I : Rn} {L : Rl} {K : Kt}
theorem k_T_valueFor {b f p : Nat} {D : Dst} (hb : q_D b) (hf : f < 8) (hR : RD I b D) (hT : WFt D.2.2.2.2) (hk : ∀ I', q_ag (FT (b + 4)) I I' → K (some (.int (sp_gives D f p))) SH RF I' L) : WW G (d + 2) mt_T_valueFor 0 [some (.ref (b + 4)), some (.ref b), some (.int (nI f)), some (.int (nI p)), none, none] [] SH RF I L 0 0 0 0 K := by
  have ht := q_TD hb
  refine r_ald0 f_T_valueFor_0 ?_
  refine c_T_isThere f_T_valueFor_1 (sT ht) (Nat.le_of_ble_eq_true rfl) (Nat.le_refl _) (Nat.le_refl _) ?_
  refine k_T_isThere ht hR.2.1 (by have := hT.1; omega) (fun hn => ?_) (fun hn => ?_)
  · refine r_if_ne f_T_valueFor_4 (fun _ => ?_) (fun h => absurd h (by decide))
    refine r_ald0 f_T_valueFor_10 ?_
    refine r_ic f_T_valueFor_11 ?_
    refine r_pi f_T_valueFor_12 (sT ht) ?_
    refine r_ic f_T_valueFor_15 ?_
    refine r_ist4 f_T_valueFor_16 rfl ?_
    have hne : D.2.2.2.2 ≠ [] := fun e => by rw [e] at hn; exact absurd hn (by decide)
    have hg0 : q_ag (FT (b + 4)) I (u2 I (b + 4) 2 0) := q_ag.rf.u2 (Or.inl ⟨rfl, rfl⟩)
    have hdep : q_dep D.2.2.2.2 0 = some 1 := by
      rcases hT.2.2 with h | h
      · exact absurd h hne
      · exact h
    refine p_T_valueFor_loop hb hf hR hT (fun I2 x g2 hx => ?_) (D.2.2.2.2.length + 1) 0 _ (by omega) (Nat.zero_le _) hg0 ⟨u2_self, fun j x h => by simp [sp_run] at h⟩ (Nat.le_refl _) hdep
    have e : sp_gives D f p = x := by
      unfold sp_gives
      rw [if_neg hne, hx]
      rfl
    rw [← e]
    exact hk I2 g2
  · refine r_if_ne f_T_valueFor_4 (fun h => absurd h (by decide)) (fun _ => ?_)
    refine r_ic f_T_valueFor_7 ?_
    refine r_iret f_T_valueFor_9 ⟨_, rfl, rfl⟩ (Nat.le_refl _) (Nat.le_refl _) ?_
    have e : sp_gives D f p = 100 := if_pos (List.length_eq_zero_iff.mp hn)
    rw [← e]
    exact hk I q_ag.rf
theorem q_inC {x : Int32} {c : Nat} (hc : c ≤ 1000) (h0 : 0 ≤ x) (h1 : x ≤ nI c - 1) : ∃ k, k < c ∧ x = nI k := by
  rcases pk_ix x (n := c) (by omega) with h | h | h
  · exact absurd h (Int32.not_lt.mpr h0)
  · exfalso
    have a1 := Int32.le_iff_toInt_le.mp h
    have a2 := Int32.le_iff_toInt_le.mp h1
    have a3 : (nI c - 1).toInt = (c : Int) - 1 := pk_sub_toInt (a := c) (b := 1) (by omega) (by decide)
    rw [nI_toInt (by omega)] at a1
    rw [a3] at a2
    omega
  · exact h
theorem q_notC {x : Int32} {c : Nat} (hc : c ≤ 1000) (h : ¬ (0 ≤ x ∧ x ≤ nI c - 1)) : ∀ k, k < c → x ≠ nI k := by
  intro k hk e
  refine h ⟨by rw [e]; exact nI_pos' (by omega), ?_⟩
  refine Int32.le_iff_toInt_le.mpr ?_
  have a3 : (nI c - 1).toInt = (c : Int) - 1 := pk_sub_toInt (a := c) (b := 1) (by omega) (by decide)
  rw [a3, e, nI_toInt (by omega)]
  omega
theorem k_D_hasFarm {b c : Nat} {x : Int32} (hb : q_D b) (hc : I b 4 = nI c) (hc8 : c ≤ 8) (h1 : ∀ k, k < c → x = nI k → K (some (.int 1)) SH RF I L) (h0 : (∀ k, k < c → x ≠ nI k) → K (some (.int 0)) SH RF I L) : WW G (d + 1) mt_D_hasFarm 0 [some (.ref b), some (.int x)] [] SH RF I L 0 0 0 0 K := by
  refine r_ild1 f_D_hasFarm_0 ?_
  refine r_ic f_D_hasFarm_1 ?_
  refine r_ald0 f_D_hasFarm_2 ?_
  refine r_gi f_D_hasFarm_3 (sD hb) ?_
  rw [hc]
  refine r_ic f_D_hasFarm_6 ?_
  refine r_isub f_D_hasFarm_7 ?_
  refine c_N_isWithin f_D_hasFarm_8 (Nat.le_of_ble_eq_true rfl) (Nat.le_refl _) (Nat.le_refl _) ?_
  refine k_N_isWithin (fun h9 h10 => ?_) (fun h9 => ?_)
  · refine r_iret f_D_hasFarm_11 ⟨_, rfl, rfl⟩ (Nat.le_refl _) (Nat.le_refl _) ?_
    first | (obtain ⟨k, e1, e2⟩ := q_inC (by omega) h9 h10
             exact h1 k e1 e2) | exact h0 (q_notC (by omega) h9)
  · refine r_iret f_D_hasFarm_11 ⟨_, rfl, rfl⟩ (Nat.le_refl _) (Nat.le_refl _) ?_
    first | (obtain ⟨k, e1, e2⟩ := q_inC (by omega) h9 h10
             exact h1 k e1 e2) | exact h0 (q_notC (by omega) h9)
theorem q_le2 {c m : Nat} (h : nI m ≤ nI c) (hc : c < 2 ^ 31 ∧ m < 2 ^ 31) : m ≤ c := (nI_leI hc.2 hc.1).mp h
theorem q_lt2 {c m : Nat} (h : ¬ nI m ≤ nI c) (hc : c < 2 ^ 31 ∧ m < 2 ^ 31) : c < m := Nat.not_le.mp (fun q => h ((nI_leI hc.2 hc.1).mpr q))
def sp_mc (c : Nat) : Nat := if c < 2 then 0 else c
theorem k_D_meetCount {b c : Nat} (hb : q_D b) (hc : I b 4 = nI c) (hc8 : c ≤ 8) (hk : K (some (.int (nI (sp_mc c)))) SH RF I L) : WW G d mt_D_meetCount 0 [some (.ref b)] [] SH RF I L 0 0 0 0 K := by
  unfold sp_mc at hk
  refine r_ald0 f_D_meetCount_0 ?_
  refine r_gi f_D_meetCount_1 (sD hb) ?_
  rw [hc]
  refine r_ic f_D_meetCount_4 ?_
  refine r_ic_ge f_D_meetCount_5 (fun h5 => ?_) (fun h5 => ?_)
  · refine r_ald0 f_D_meetCount_12 ?_
    refine r_gi f_D_meetCount_13 (sD hb) ?_
    refine r_iret f_D_meetCount_16 ⟨_, rfl, rfl⟩ (Nat.le_refl _) (Nat.le_refl _) ?_
    first | (rw [if_neg (Nat.not_lt.mpr (q_le2 (m := 2) h5 (by omega)))] at hk; rw [hc]; exact hk) | (rw [if_pos (q_lt2 (m := 2) h5 (by omega))] at hk; exact hk)
  · refine r_ic f_D_meetCount_8 ?_
    refine r_goto f_D_meetCount_9 ?_
    refine r_iret f_D_meetCount_16 ⟨_, rfl, rfl⟩ (Nat.le_refl _) (Nat.le_refl _) ?_
    first | (rw [if_neg (Nat.not_lt.mpr (q_le2 (m := 2) h5 (by omega)))] at hk; rw [hc]; exact hk) | (rw [if_pos (q_lt2 (m := 2) h5 (by omega))] at hk; exact hk)
def sp_hsum (D : Dst) : Nat → Int32
  | 0 => 0
  | k + 1 => sp_hsum D k + D.1 k 1
theorem k_D_allHours_loop {b : Nat} {D : Dst} (hb : q_D b) (hV : vD I b = D) (hc : I b 4 = nI (dC D)) (hc8 : dC D ≤ 8) (hk : K (some (.int (sp_hsum D (dC D)))) SH RF I L) : ∀ (n k : Nat), dC D - k < n → k ≤ dC D → WW G d mt_D_allHours 4 [some (.ref b), some (.int (sp_hsum D k)), some (.int (nI k))] [] SH RF I L 0 0 0 0 K
  | 0, k, hn, hkn => by omega
  | n + 1, k, hn, hkn => by
    refine r_ild2 f_D_allHours_4 ?_
    refine r_ald0 f_D_allHours_5 ?_
    refine r_gi f_D_allHours_6 (sD hb) ?_
    rw [hc]
    refine r_ic_ge f_D_allHours_9 (fun h9 => ?_) (fun h9 => ?_)
    · refine r_ild1 f_D_allHours_30 ?_
      refine r_iret f_D_allHours_31 ⟨_, rfl, rfl⟩ (Nat.le_refl _) (Nat.le_refl _) ?_
      have e : k = dC D := by
        have := q_le2 h9 (by omega)
        omega
      rw [e]
      exact hk
    · have hlt : k < dC D := q_lt2 h9 (by omega)
      refine r_ild1 f_D_allHours_12 ?_
      refine r_ald0 f_D_allHours_13 ?_
      refine r_gr f_D_allHours_14 (sD hb) (rD0 hb) ?_
      refine r_ild2 f_D_allHours_17 ?_
      refine r_aald f_D_allHours_18 (Or.inl rfl) (sD1 hb) (q_ix.nI (by omega) (by decide)) (rDF hb (by omega)) ?_
      refine r_gi f_D_allHours_19 (sDF hb (by omega)) ?_
      have e : I (b + 9 + 2 * k) 1 = D.1 k 1 := by
        rw [← hV]
        exact (vD_f (by omega) (by decide)).symm
      rw [e]
      refine r_iadd f_D_allHours_22 ?_
      refine r_ist1 f_D_allHours_23 rfl ?_
      refine r_inc2 f_D_allHours_24 rfl ?_
      refine r_goto f_D_allHours_27 ?_
      rw [nI_1]
      exact k_D_allHours_loop hb hV hc hc8 hk n (k + 1) (by omega) (by omega)
theorem k_D_allHours {b : Nat} {D : Dst} (hb : q_D b) (hV : vD I b = D) (hc : I b 4 = nI (dC D)) (hc8 : dC D ≤ 8) (hk : K (some (.int (sp_hsum D (dC D)))) SH RF I L) : WW G d mt_D_allHours 0 [some (.ref b), none, none] [] SH RF I L 0 0 0 0 K := by
  refine r_ic f_D_allHours_0 ?_
  refine r_ist1 f_D_allHours_1 rfl ?_
  refine r_ic f_D_allHours_2 ?_
  refine r_ist2 f_D_allHours_3 rfl ?_
  exact k_D_allHours_loop hb hV hc hc8 hk (dC D + 1) 0 (by omega) (Nat.zero_le _)
def sp_plc (D : Dst) (f : Nat) : Nat → Nat → Nat
  | 0, _ => 0
  | n + 1, p => if dO D p = f then p else sp_plc D f n (p + 1)
def sp_place (D : Dst) (f : Nat) : Nat := sp_plc D f (dC D) 0
theorem q_dOn {b p : Nat} {D : Dst} (hV : vD I b = D) (hW : WFd D) (hp : p < dC D) : I (b + 2) p = nI (dO D p) := by
  have h := (hW.2.1 p hp).2
  have hc := hW.1.1
  rw [← h, ← hV]
  exact (vD_o (by omega)).symm
theorem k_D_placeOf_loop {b f r : Nat} {D : Dst} (hb : q_D b) (hf : f < 8) (hV : vD I b = D) (hW : WFd D) (hc : I b 4 = nI (dC D)) (hk : K (some (.int (nI r))) SH RF I L) : ∀ (n p : Nat), n + p = dC D → sp_plc D f n p = r → WW G d mt_D_placeOf 2 [some (.ref b), some (.int (nI f)), some (.int (nI p))] [] SH RF I L 0 0 0 0 K
  | 0, p, hn, hr => by
    have hc8 := hW.1.1
    refine r_ild2 f_D_placeOf_2 ?_
    refine r_ald0 f_D_placeOf_3 ?_
    refine r_gi f_D_placeOf_4 (sD hb) ?_
    rw [hc]
    refine r_ic_ge f_D_placeOf_7 (fun h7 => ?_) (fun h7 => absurd h7 (fun q => q (nI_le (by omega) (by omega))))
    refine r_ic f_D_placeOf_28 ?_
    refine r_iret f_D_placeOf_29 ⟨_, rfl, rfl⟩ (Nat.le_refl _) (Nat.le_refl _) ?_
    have e : r = 0 := hr.symm
    rw [e] at hk
    exact hk
  | n + 1, p, hn, hr => by
    have hc8 := hW.1.1
    have ho := hW.2.1 p (by omega)
    refine r_ild2 f_D_placeOf_2 ?_
    refine r_ald0 f_D_placeOf_3 ?_
    refine r_gi f_D_placeOf_4 (sD hb) ?_
    rw [hc]
    refine r_ic_ge f_D_placeOf_7 (fun h7 => absurd h7 (nI_ge (by omega) (by omega))) (fun h7 => ?_)
    refine r_ald0 f_D_placeOf_10 ?_
    refine r_gr f_D_placeOf_11 (sD hb) (rD1 hb) ?_
    refine r_ild2 f_D_placeOf_14 ?_
    refine r_iald f_D_placeOf_15 (sD2 hb) (q_ix.nI (by omega) (by decide)) ?_
    rw [q_dOn hV hW (by omega)]
    refine r_ild1 f_D_placeOf_16 ?_
    refine r_ic_ne f_D_placeOf_17 (fun h17 => ?_) (fun h17 => ?_)
    · refine r_inc2 f_D_placeOf_22 rfl ?_
      refine r_goto f_D_placeOf_25 ?_
      rw [nI_1]
      refine k_D_placeOf_loop hb hf hV hW hc hk n (p + 1) (by omega) ?_
      rw [← hr]
      exact (if_neg (fun e => h17 (by rw [e]))).symm
    · refine r_ild2 f_D_placeOf_20 ?_
      refine r_iret f_D_placeOf_21 ⟨_, rfl, rfl⟩ (Nat.le_refl _) (Nat.le_refl _) ?_
      have e : dO D p = f := (nI_eq (by omega) (by omega)).mp h17
      have e2 : r = p := by
        rw [← hr]
        exact if_pos e
      rw [e2] at hk
      exact hk
theorem k_D_placeOf {b f : Nat} {D : Dst} (hb : q_D b) (hf : f < 8) (hV : vD I b = D) (hW : WFd D) (hc : I b 4 = nI (dC D)) (hk : K (some (.int (nI (sp_place D f)))) SH RF I L) : WW G d mt_D_placeOf 0 [some (.ref b), some (.int (nI f)), none] [] SH RF I L 0 0 0 0 K := by
  refine r_ic f_D_placeOf_0 ?_
  refine r_ist2 f_D_placeOf_1 rfl ?_
  exact k_D_placeOf_loop hb hf hV hW hc hk (dC D) 0 (by omega) rfl
def sp_clamp (v : Int64) : Int32 := (if (if 99999 < v then 99999 else v) < 0 then 0 else if 99999 < v then 99999 else v).toInt32
def sp_pays (w g : Int32) : Int32 := sp_clamp (w.toInt64 * g.toInt64 / 100)
theorem k_D_paysAt {b f p : Nat} {D : Dst} (hb : q_D b) (hf : f < 8) (hR : RD I b D) (hT : WFt D.2.2.2.2) (hk : ∀ I', q_ag (FT (b + 4)) I I' → K (some (.int (sp_pays (D.1 f 2) (sp_gives D f p)))) SH RF I' L) : WW G (d + 3) mt_D_paysAt 0 [some (.ref b), some (.int (nI f)), some (.int (nI p)), none, none] [] SH RF I L 0 0 0 0 K := by
  have e1 : I (b + 9 + 2 * f) 2 = D.1 f 2 := by
    rw [← hR.1]
    exact (vD_f hf (by decide)).symm
  refine r_ald0 f_D_paysAt_0 ?_
  refine r_gr f_D_paysAt_1 (sD hb) (rD0 hb) ?_
  refine r_ild1 f_D_paysAt_4 ?_
  refine r_aald f_D_paysAt_5 (Or.inl rfl) (sD1 hb) (q_ix.nI (by omega) (by decide)) (rDF hb (by omega)) ?_
  refine r_gi f_D_paysAt_6 (sDF hb (by omega)) ?_
  rw [e1]
  refine r_i2l f_D_paysAt_9 ?_
  refine r_ald0 f_D_paysAt_10 ?_
  refine r_gr f_D_paysAt_11 (sD hb) (rD3 hb) ?_
  refine r_ald0 f_D_paysAt_14 ?_
  refine r_ild1 f_D_paysAt_15 ?_
  refine r_ild2 f_D_paysAt_16 ?_
  refine c_T_valueFor f_D_paysAt_17 (sT (q_TD hb)) (Nat.le_of_ble_eq_true rfl) (Nat.le_refl _) (Nat.le_refl _) ?_
  refine k_T_valueFor hb hf hR hT (fun I' hg => ?_)
  refine r_i2l f_D_paysAt_20 ?_
  refine r_lmul f_D_paysAt_21 ?_
  refine r_lc f_D_paysAt_22 ?_
  refine r_ldiv f_D_paysAt_25 (by decide) ?_
  refine r_lst3 f_D_paysAt_26 (by decide) rfl ?_
  refine r_lc f_D_paysAt_27 ?_
  refine r_lld3 f_D_paysAt_28 ?_
  refine r_lc f_D_paysAt_29 ?_
  refine r_minJ f_D_paysAt_32 (Nat.le_of_ble_eq_true rfl) (Nat.le_refl _) (Nat.le_refl _) ?_
  refine r_maxJ f_D_paysAt_35 (Nat.le_of_ble_eq_true rfl) (Nat.le_refl _) (Nat.le_refl _) ?_
  refine r_l2i f_D_paysAt_38 ?_
  refine r_iret f_D_paysAt_39 ⟨_, rfl, rfl⟩ (Nat.le_refl _) (Nat.le_refl _) ?_
  exact hk I' hg
theorem RD.ag {b : Nat} {D : Dst} {I' : Rn} (hb : q_D b) (h : RD I b D) (hg : q_ag (FT (b + 4)) I I') : RD I' b D := by
  refine ⟨(vD_ag hb hg).trans h.1, (hg _ _ (by unfold FT; omega)).trans h.2.1, fun j hj => ?_⟩
  rw [show I' (b + 5) j = I (b + 5) j from hg _ _ (by unfold FT; omega)]
  exact h.2.2 j hj
theorem RD.cnt {b : Nat} {D : Dst} (h : RD I b D) (hW : WFd D) : I b 4 = nI (dC D) := by
  rw [← hW.1.2, ← h.1]
  rfl
def sp_paysOf (D : Dst) (f : Nat) : Int32 := sp_pays (D.1 f 2) (sp_gives D f (sp_place D f))
theorem k_D_paysOf {b f : Nat} {D : Dst} (hb : q_D b) (hf : f < 8) (hR : RD I b D) (hW : WFd D) (hk : ∀ I', q_ag (FT (b + 4)) I I' → K (some (.int (sp_paysOf D f))) SH RF I' L) : WW G (d + 4) mt_D_paysOf 0 [some (.ref b), some (.int (nI f))] [] SH RF I L 0 0 0 0 K := by
  refine r_ald0 f_D_paysOf_0 ?_
  refine r_ild1 f_D_paysOf_1 ?_
  refine r_ald0 f_D_paysOf_2 ?_
  refine r_ild1 f_D_paysOf_3 ?_
  refine c_D_placeOf f_D_paysOf_4 (sD hb) (Nat.le_of_ble_eq_true rfl) (Nat.le_refl _) (Nat.le_refl _) ?_
  refine k_D_placeOf hb hf hR.1 hW (hR.cnt hW) ?_
  refine c_D_paysAt f_D_paysOf_7 (sD hb) (Nat.le_of_ble_eq_true rfl) (Nat.le_refl _) (Nat.le_refl _) ?_
  refine k_D_paysAt hb hf hR hW.2.2.2.2.2.2.2 (fun I' hg => ?_)
  refine r_iret f_D_paysOf_10 ⟨_, rfl, rfl⟩ (Nat.le_refl _) (Nat.le_refl _) ?_
  exact hk I' hg
def sp_wantsOf (D : Dst) (f : Nat) : Int32 := sp_wants (D.1 f 0) (D.1 f 6) (sp_paysOf D f) (D.2.2.2.1 1)
theorem k_D_wantsOf {b f : Nat} {D : Dst} (hb : q_D b) (hf : f < 8) (hR : RD I b D) (hW : WFd D) (hk : ∀ I', q_ag (FT (b + 4)) I I' → K (some (.int (sp_wantsOf D f))) SH RF I' L) : WW G (d + 5) mt_D_wantsOf 0 [some (.ref b), some (.int (nI f))] [] SH RF I L 0 0 0 0 K := by
  refine r_ald0 f_D_wantsOf_0 ?_
  refine r_gr f_D_wantsOf_1 (sD hb) (rD0 hb) ?_
  refine r_ild1 f_D_wantsOf_4 ?_
  refine r_aald f_D_wantsOf_5 (Or.inl rfl) (sD1 hb) (q_ix.nI (by omega) (by decide)) (rDF hb (by omega)) ?_
  refine r_ald0 f_D_wantsOf_6 ?_
  refine r_ild1 f_D_wantsOf_7 ?_
  refine c_D_paysOf f_D_wantsOf_8 (sD hb) (Nat.le_of_ble_eq_true rfl) (Nat.le_refl _) (Nat.le_refl _) ?_
  refine k_D_paysOf hb hf hR hW (fun I' hg => ?_)
  refine r_ald0 f_D_wantsOf_11 ?_
  refine r_gi f_D_wantsOf_12 (sD hb) ?_
  refine c_F_wants f_D_wantsOf_15 (sDF hb (by omega)) (Nat.le_of_ble_eq_true rfl) (Nat.le_refl _) (Nat.le_refl _) ?_
  have hR' := hR.ag hb hg
  refine k_F_wants (sDF hb (by omega)) ?_
  have e1 : I' (b + 9 + 2 * f) 0 = D.1 f 0 := by
    rw [← hR'.1]
    exact (vD_f hf (by decide)).symm
  have e2 : I' (b + 9 + 2 * f) 6 = D.1 f 6 := by
    rw [← hR'.1]
    exact (vD_f hf (by decide)).symm
  have e3 : I' b 6 = D.2.2.2.1 1 := by
    rw [← hR'.1]
    rfl
  rw [e1, e2, e3]
  refine r_iret f_D_wantsOf_18 ⟨_, rfl, rfl⟩ (Nat.le_refl _) (Nat.le_refl _) ?_
  exact hk I' hg
end L25
