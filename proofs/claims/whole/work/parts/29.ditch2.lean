section L29
variable {G : Gx} {d : Nat} {S : Shp} {R : Rf} {I I0 : Rn} {L : Rl} {K : Kt} {b : Nat} {D : Dst} {Me : Nat → Nat → Int32}
theorem WFd.like {D D' : Dst} (h : WFd D) (h5 : D'.2.2.2.1 5 = D.2.2.2.1 5) (ho : D'.2.1 = D.2.1) (hu : D'.2.2.1 = D.2.2.1) (h1 : D'.2.2.2.1 1 = D.2.2.2.1 1) (h0 : D'.2.2.2.1 0 = D.2.2.2.1 0) (hx : D'.2.2.2.2 = D.2.2.2.2) (hf : ∀ f k, f < dC D → k < 7 → k ≠ 5 → q_le (D'.1 f k) (if k = 1 then 1 else 0) (q_fmax k)) : WFd D' := by
  have ec : dC D' = dC D := by unfold dC; rw [h5]
  have eo : ∀ p, dO D' p = dO D p := fun p => by unfold dO; rw [ho]
  obtain ⟨a1, a2, a3, a4, a5, a6, a7, a8⟩ := h
  refine ⟨by rw [ec, h5]; exact a1, fun p hp => ?_, fun k hk => ?_, fun f k hf' hk hk5 => ?_, fun k hk => by rw [hu]; exact a5 k hk, by rw [h1]; exact a6, by rw [h0]; exact a7, by rw [hx]; exact a8⟩
  · rw [ec] at hp ⊢
    rw [eo, ho]
    exact a2 p hp
  · rw [ec] at hk
    obtain ⟨p, p1, p2⟩ := a3 k hk
    exact ⟨p, by rw [ec]; exact p1, by rw [eo]; exact p2⟩
  · rw [ec] at hf'
    exact hf f k hf' hk hk5
theorem WFd.fs (h : WFd D) : ∀ f k, f < dC D → k < 7 → k ≠ 5 → q_le (D.1 f k) (if k = 1 then 1 else 0) (q_fmax k) := h.2.2.2.1
theorem WFd.sc {k : Nat} {v : Int32} (h : WFd D) (hk : k = 2 ∨ k = 3 ∨ k = 4) : WFd (eS D k v) := by
  rcases hk with rfl | rfl | rfl <;> exact h.like rfl rfl rfl rfl rfl rfl h.fs
theorem WFd.pu {f : Nat} {v : Int32} (h : WFd D) : WFd (eF D f 5 v) := h.like rfl rfl rfl rfl rfl rfl (fun f' k h1 h2 h3 => by
  show q_le (u2 D.1 f 5 v f' k) _ _
  rw [u2_ne (Or.inr h3)]
  exact h.fs f' k h1 h2 h3)
theorem WFd.an {f : Nat} {v : Int32} (h : WFd D) (hv : q_le v 0 9) : WFd (eF D f 6 v) := h.like rfl rfl rfl rfl rfl rfl (fun f' k h1 h2 h3 => by
  show q_le (u2 D.1 f 6 v f' k) _ _
  by_cases e : f' = f ∧ k = 6
  · obtain ⟨rfl, rfl⟩ := e
    rw [u2_self]
    exact hv
  · rw [u2_ne (by omega)]
    exact h.fs f' k h1 h2 h3)
theorem q_up9 {x : Int32} (h : q_le x 0 9) : q_le (if 9 < x + 1 then 9 else x + 1) 0 9 := by
  obtain ⟨n, h1, h2, rfl⟩ := h
  rw [nI_1]
  by_cases e : (9 : Int32) < nI (n + 1)
  · rw [if_pos e]
    exact ⟨9, by omega, by omega, rfl⟩
  · rw [if_neg e]
    refine ⟨n + 1, by omega, ?_, rfl⟩
    rcases Nat.lt_or_ge 9 (n + 1) with h | h
    · exact absurd (nI_lt (a := 9) h (by omega)) e
    · exact h
theorem WFd.pass {r : Nat → Int32} {o t : Nat} (h : WFd D) (ho : o < dC D) : WFd (sp_pass D r o t) ∧ dC (sp_pass D r o t) = dC D := by
  have hz : WFd (sp_z3 D) := ((h.sc (Or.inl rfl)).sc (Or.inl rfl)).sc (Or.inl rfl)
  have ec : dC (sp_z3 D) = dC D := rfl
  unfold sp_pass
  generalize decide (sp_rem (sp_dr (sp_z (D.2.2.2.1 2))) 1000000 < r 11) = tk
  generalize decide (sp_rem (sp_dr (sp_z (sp_z (D.2.2.2.1 2)))) 1000000 < r 12) = wt
  generalize decide (sp_rem (sp_dr (sp_z (sp_z (sp_z (D.2.2.2.1 2))))) 100 < r 6) = se
  have h6 : ∀ (X : Dst), WFd X → dC X = dC D → q_le (X.1 o 6) 0 9 := fun X hX hc => hX.fs o 6 (by omega) (by decide) (by decide)
  have main : ∀ (X : Dst), WFd X → dC X = dC D → (WFd (eF (eF (eF (eS (eS X 3 (X.2.2.2.1 3 + 1)) 4 ((eS X 3 (X.2.2.2.1 3 + 1)).2.2.2.1 4 + 1)) t 5 ((eS (eS X 3 (X.2.2.2.1 3 + 1)) 4 ((eS X 3 (X.2.2.2.1 3 + 1)).2.2.2.1 4 + 1)).1 t 5 - X.2.2.1 0)) o 5 ((eF (eS (eS X 3 (X.2.2.2.1 3 + 1)) 4 ((eS X 3 (X.2.2.2.1 3 + 1)).2.2.2.1 4 + 1)) t 5 ((eS (eS X 3 (X.2.2.2.1 3 + 1)) 4 ((eS X 3 (X.2.2.2.1 3 + 1)).2.2.2.1 4 + 1)).1 t 5 - X.2.2.1 0)).1 o 5 + r 4)) t 6 0)) := fun X hX _ => ((((hX.sc (Or.inr (Or.inl rfl))).sc (Or.inr (Or.inr rfl))).pu).pu).an ⟨0, by omega, by omega, rfl⟩
  have p2 : ∀ (X : Dst) (hX : WFd X) (hc : dC X = dC D), WFd (eF (eF (eF (eS X 3 (X.2.2.2.1 3 + 1)) t 5 ((eS X 3 (X.2.2.2.1 3 + 1)).1 t 5 + r 2)) o 5 ((eF (eS X 3 (X.2.2.2.1 3 + 1)) t 5 ((eS X 3 (X.2.2.2.1 3 + 1)).1 t 5 + r 2)).1 o 5 - r 3)) o 6 (if 9 < (eF (eF (eS X 3 (X.2.2.2.1 3 + 1)) t 5 ((eS X 3 (X.2.2.2.1 3 + 1)).1 t 5 + r 2)) o 5 ((eF (eS X 3 (X.2.2.2.1 3 + 1)) t 5 ((eS X 3 (X.2.2.2.1 3 + 1)).1 t 5 + r 2)).1 o 5 - r 3)).1 o 6 + 1 then 9 else (eF (eF (eS X 3 (X.2.2.2.1 3 + 1)) t 5 ((eS X 3 (X.2.2.2.1 3 + 1)).1 t 5 + r 2)) o 5 ((eF (eS X 3 (X.2.2.2.1 3 + 1)) t 5 ((eS X 3 (X.2.2.2.1 3 + 1)).1 t 5 + r 2)).1 o 5 - r 3)).1 o 6 + 1)) := fun X hX hc => (((hX.sc (Or.inr (Or.inl rfl))).pu).pu).an (q_up9 (h6 _ (((hX.sc (Or.inr (Or.inl rfl))).pu).pu) hc))
  cases tk
  · cases wt
    · cases se <;> exact ⟨hz, ec⟩
    · cases se <;> exact ⟨hz.pu, ec⟩
  · cases wt
    · cases se <;> exact ⟨p2 _ hz ec, by simp [sp_pass3, dC, eF, eS, sp_z3]⟩
    · cases se
      · exact ⟨p2 _ hz.pu ec, by simp [sp_pass3, dC, eF, eS, sp_z3]⟩
      · exact ⟨main _ hz.pu ec, by simp [sp_pass3, dC, eF, eS, sp_z3]⟩
theorem RD.fr {f k : Nat} (h : RD I b D) (hf : f < 8) (hk : k < 7) : I (b + 9 + 2 * f) k = D.1 f k := by
  rw [← h.1]
  exact (vD_f hf hk).symm
theorem sp_pass_cg {r r' : Nat → Int32} {o t : Nat} (h : ∀ k, k < 13 → r k = r' k) : sp_pass D r o t = sp_pass D r' o t := by
  unfold sp_pass sp_pass3
  rw [h 2 (by decide), h 3 (by decide), h 4 (by decide), h 5 (by decide), h 6 (by decide), h 11 (by decide), h 12 (by decide)]
def sp_nl (D : Dst) : Nat → Dst
  | 0 => D
  | p + 1 => sp_pass (sp_nl D p) (sp_mt D p) (dO D p) (dO D (sp_nx D p))
def sp_night (D : Dst) : Dst := sp_nl D (sp_mc (dC D))
def sp_nights : Nat → Dst → Dst
  | 0, D => D
  | n + 1, D => sp_nights n (sp_night D)
theorem WFd.nl (h : WFd D) : ∀ p, p ≤ sp_mc (dC D) → WFd (sp_nl D p) ∧ dC (sp_nl D p) = dC D
  | 0, _ => ⟨h, rfl⟩
  | p + 1, hp => by
    obtain ⟨h1, h2⟩ := WFd.nl h p (by omega)
    have h3 := (h.2.1 p (Nat.lt_of_lt_of_le hp (sp_mc_le _))).1
    obtain ⟨h4, h5⟩ := h1.pass (r := sp_mt D p) (o := dO D p) (t := dO D (sp_nx D p)) (by omega)
    exact ⟨h4, h5.trans h2⟩
theorem WFd.night (h : WFd D) : WFd (sp_night D) ∧ dC (sp_night D) = dC D := h.nl _ (Nat.le_refl _)
theorem WFd.nights : ∀ (n : Nat) {D : Dst}, WFd D → WFd (sp_nights n D) ∧ dC (sp_nights n D) = dC D
  | 0, _, h => ⟨h, rfl⟩
  | n + 1, _, h => by
    obtain ⟨h1, h2⟩ := WFd.nights n h.night.1
    exact ⟨h1, h2.trans h.night.2⟩
theorem k_D_pn_in {N k : Nat} (hb : q_D b) (hW : WFd D) (hm : ∀ p k, p < sp_mc (dC D) → k < 13 → Me p k = sp_mt D p k) (next : ∀ I', PD I0 I' b (sp_night D) Me → WW G (d + 5) mt_D_passNights 2 [some (.ref b), some (.int (nI N)), some (.int (nI (k + 1))), none] [] SH RF I' L 0 0 0 0 K) : ∀ (n p : Nat) (I' : Rn), sp_mc (dC D) - p < n → p ≤ sp_mc (dC D) → PD I0 I' b (sp_nl D p) Me → WW G (d + 5) mt_D_passNights 13 [some (.ref b), some (.int (nI N)), some (.int (nI k)), some (.int (nI p))] [] SH RF I' L 0 0 0 0 K
  | 0, p, I', hn, hp, hP => by omega
  | n + 1, p, I', hn, hp, hP => by
    obtain ⟨hW', hc'⟩ := hW.nl p hp
    have hc8 := hW.1.1
    have hmc := sp_mc_le (dC D)
    have hcnt : I' b 4 = nI (dC D) := by rw [← hc']; exact hP.1.cnt hW'
    refine r_ild3 f_D_passNights_13 ?_
    refine r_ald0 f_D_passNights_14 ?_
    refine c_D_meetCount f_D_passNights_15 (sD hb) (Nat.le_of_ble_eq_true rfl) (Nat.le_refl _) (Nat.le_refl _) ?_
    refine k_D_meetCount hb hcnt hc8 ?_
    refine r_ic_ge f_D_passNights_18 (fun h18 => ?_) (fun h18 => ?_)
    · refine r_inc2 f_D_passNights_37 rfl ?_
      refine r_goto f_D_passNights_40 ?_
      refine r_drop3 ?_
      have e : p = sp_mc (dC D) := by
        have := q_le2 h18 (by omega)
        omega
      rw [nI_1]
      subst e
      exact next I' hP
    · have hlt : p < sp_mc (dC D) := q_lt2 h18 (by omega)
      refine r_ald0 f_D_passNights_21 ?_
      refine r_ald0 f_D_passNights_22 ?_
      refine r_gr f_D_passNights_23 (sD hb) (rD10 hb) ?_
      refine r_ild3 f_D_passNights_26 ?_
      refine r_aald f_D_passNights_27 (Or.inr (Or.inl rfl)) (sD7 hb) (q_ix.nI (by omega) (by decide)) (rDM hb (by omega)) ?_
      refine c_D_passMeet f_D_passNights_28 (sD hb) (Nat.le_of_ble_eq_true rfl) (Nat.le_refl _) (Nat.le_refl _) ?_
      have hop := (hW.2.1 p (by omega)).1
      have hnx : sp_nx D p < dC D := by unfold sp_nx; split <;> omega
      have hot := (hW.2.1 _ hnx).1
      refine k_D_passMeet hb (by omega) (show dO D p < 8 by omega) (show dO D (sp_nx D p) < 8 by omega) hP (hm p 0 hlt (by decide)) (hm p 1 hlt (by decide)) (fun I2 hP2 => ?_)
      rw [sp_pass_cg (fun k hk13 => hm p k hlt hk13)] at hP2
      refine r_inc3 f_D_passNights_31 rfl ?_
      refine r_goto f_D_passNights_34 ?_
      rw [nI_1]
      exact k_D_pn_in hb hW hm next n (p + 1) I2 (by omega) (by omega) hP2
theorem k_D_pn_out {N : Nat} {E : Dst} (hb : q_D b) (hN : N ≤ 50) (hk : ∀ I' Me', PD I0 I' b E Me' → K none SH RF I' L) : ∀ (n k : Nat) (I' : Rn) (D : Dst) (Me : Nat → Nat → Int32), n + k = N → WFd D → PD I0 I' b D Me → sp_nights n D = E → WW G (d + 5) mt_D_passNights 2 [some (.ref b), some (.int (nI N)), some (.int (nI k)), none] [] SH RF I' L 0 0 0 0 K
  | 0, k, I', D, Me, hn, hW, hP, hE => by
    refine r_ild2 f_D_passNights_2 ?_
    refine r_ild1 f_D_passNights_3 ?_
    refine r_ic_ge f_D_passNights_4 (fun h4 => ?_) (fun h4 => absurd h4 (fun q => q (nI_le (by omega) (by omega))))
    refine r_ret f_D_passNights_43 rfl (Nat.le_refl _) (Nat.le_refl _) ?_
    subst hE
    exact hk I' Me hP
  | n + 1, k, I', D, Me, hn, hW, hP, hE => by
    refine r_ild2 f_D_passNights_2 ?_
    refine r_ild1 f_D_passNights_3 ?_
    refine r_ic_ge f_D_passNights_4 (fun h4 => absurd h4 (nI_ge (by omega) (by omega))) (fun h4 => ?_)
    refine r_ald0 f_D_passNights_7 ?_
    refine c_D_weigh f_D_passNights_8 (sD hb) (Nat.le_of_ble_eq_true rfl) (Nat.le_refl _) (Nat.le_refl _) ?_
    refine k_D_weigh hb hP.1 hW (fun I2 g2 m2 => ?_)
    have hP2 := hP.weigh hb g2
    refine r_ic f_D_passNights_11 ?_
    refine r_ist3 f_D_passNights_12 rfl ?_
    have e0 : (0 : Int32) = nI 0 := rfl
    rw [e0]
    refine k_D_pn_in hb hW m2 (fun I3 hP3 => ?_) (sp_mc (dC D) + 1) 0 I2 (by omega) (Nat.zero_le _) hP2
    exact k_D_pn_out hb hN hk n (k + 1) I3 (sp_night D) _ (by omega) hW.night.1 hP3 hE
theorem k_D_passNights {N : Nat} (hb : q_D b) (hN : N ≤ 50) (hW : WFd D) (hP : PD I0 I b D Me) (hk : ∀ I' Me', PD I0 I' b (sp_nights N D) Me' → K none SH RF I' L) : WW G (d + 5) mt_D_passNights 0 [some (.ref b), some (.int (nI N)), none, none] [] SH RF I L 0 0 0 0 K := by
  refine r_ic f_D_passNights_0 ?_
  refine r_ist2 f_D_passNights_1 rfl ?_
  have e0 : (0 : Int32) = nI 0 := rfl
  rw [e0]
  exact k_D_pn_out hb hN hk N 0 I D Me (by omega) hW hP rfl
def sp_farm (D : Dst) (x y z : Int32) : Dst := eS (eO (eF (eF (eF (eF (eF (eF (eF D (dC D) 0 x) (dC D) 1 y) (dC D) 2 z) (dC D) 3 0) (dC D) 4 0) (dC D) 5 0) (dC D) 6 0) (dC D) (nI (dC D))) 5 (nI (dC D + 1))
theorem k_D_settleFarm {x y z : Int32} (hb : q_D b) (hW : WFd D) (h8 : dC D < 8) (hP : PD I0 I b D Me) (hk : ∀ I', PD I0 I' b (sp_farm D x y z) Me → K (some (.int (nI (dC D)))) SH RF I' L) : WW G (d + 1) mt_D_settleFarm 0 [some (.ref b), some (.int x), some (.int y), some (.int z), none] [] SH RF I L 0 0 0 0 K := by
  have hcnt := hP.1.cnt hW
  refine r_ald0 f_D_settleFarm_0 ?_
  refine r_gi f_D_settleFarm_1 (sD hb) ?_
  rw [hcnt]
  refine r_ist4 f_D_settleFarm_4 rfl ?_
  refine r_ild4 f_D_settleFarm_6 ?_
  refine r_ic f_D_settleFarm_8 ?_
  refine r_ic_ge f_D_settleFarm_10 (fun h10 => absurd h10 (nI_ge h8 (by decide))) (fun h10 => ?_)
  refine r_ald0 f_D_settleFarm_13 ?_
  refine r_gr f_D_settleFarm_14 (sD hb) (rD0 hb) ?_
  refine r_ild4 f_D_settleFarm_17 ?_
  refine r_aald f_D_settleFarm_19 (Or.inl rfl) (sD1 hb) (q_ix.nI (by omega) (by decide)) (rDF hb (by omega)) ?_
  refine r_ild1 f_D_settleFarm_20 ?_
  refine r_ild2 f_D_settleFarm_21 ?_
  refine r_ild3 f_D_settleFarm_22 ?_
  refine c_F_begin f_D_settleFarm_23 (sDF hb (by omega)) (Nat.le_of_ble_eq_true rfl) (Nat.le_refl _) (Nat.le_refl _) ?_
  refine k_F_begin (sDF hb h8) ?_
  have hP1 := ((((((hP.toF (v := x) h8 (show 0 < 7 by decide)).toF (v := y) h8 (show 1 < 7 by decide)).toF (v := z) h8 (show 2 < 7 by decide)).toF (v := 0) h8 (show 3 < 7 by decide)).toF (v := 0) h8 (show 4 < 7 by decide)).toF (v := 0) h8 (show 5 < 7 by decide)).toF (v := 0) h8 (show 6 < 7 by decide)
  refine r_ald0 f_D_settleFarm_26 ?_
  refine r_gr f_D_settleFarm_27 (sD hb) (rD1 hb) ?_
  refine r_ild4 f_D_settleFarm_30 ?_
  refine r_ild4 f_D_settleFarm_32 ?_
  refine r_pO f_D_settleFarm_34 hb (q_ix.nI h8 (by decide)) hP1 (fun I2 hP2 => ?_)
  refine r_ald0 f_D_settleFarm_35 ?_
  refine r_dupr f_D_settleFarm_36 ?_
  refine r_gi f_D_settleFarm_37 (sD hb) ?_
  rw [show I2 b 4 = nI (dC D) from (hP2.s (k := 5) (by decide)).trans hW.1.2]
  refine r_ic f_D_settleFarm_40 ?_
  refine r_iadd f_D_settleFarm_41 ?_
  rw [nI_1]
  refine r_pS f_D_settleFarm_42 hb (k := 5) (by decide) rfl hP2 (fun I3 hP3 => ?_)
  refine r_ild4 f_D_settleFarm_45 ?_
  refine r_iret f_D_settleFarm_47 ⟨_, rfl, rfl⟩ (Nat.le_refl _) (Nat.le_refl _) ?_
  exact hk I3 hP3
def sp_dn (x : Int32) : Int32 := if x - 1 < 0 then 0 else x - 1
def sp_yl (D : Dst) : Nat → Dst
  | 0 => D
  | k + 1 => eF (sp_yl D k) k 6 (sp_dn ((sp_yl D k).1 k 6))
def sp_year (D : Dst) : Dst := sp_yl (eS D 0 (D.2.2.2.1 0 + 1)) (dC D)
theorem sp_yl_5 (D : Dst) : ∀ k, (sp_yl D k).2 = D.2
  | 0 => rfl
  | k + 1 => sp_yl_5 D k
theorem k_D_passYear_loop {c : Nat} {E : Dst} (hb : q_D b) (hc8 : c ≤ 8) (hc : D.2.2.2.1 5 = nI c) (hk : ∀ I', PD I0 I' b (sp_yl D c) Me → K none SH RF I' L) : ∀ (n k : Nat) (I' : Rn), c - k < n → k ≤ c → PD I0 I' b (sp_yl D k) Me → WW G d mt_D_passYear 12 [some (.ref b), some (.int (nI k))] [] SH RF I' L 0 0 0 0 K
  | 0, k, I', hn, hkc, hP => by omega
  | n + 1, k, I', hn, hkc, hP => by
    have hcnt : I' b 4 = nI c := by rw [← hc, ← sp_yl_5 D k]; exact hP.s (k := 5) (by decide)
    refine r_ild1 f_D_passYear_12 ?_
    refine r_ald0 f_D_passYear_13 ?_
    refine r_gi f_D_passYear_14 (sD hb) ?_
    rw [hcnt]
    refine r_ic_ge f_D_passYear_17 (fun h17 => ?_) (fun h17 => ?_)
    · refine r_ret f_D_passYear_50 rfl (Nat.le_refl _) (Nat.le_refl _) ?_
      have e : k = c := by
        have := q_le2 h17 (by omega)
        omega
      subst e
      exact hk I' hP
    · have hlt : k < c := q_lt2 h17 (by omega)
      refine r_ald0 f_D_passYear_20 ?_
      refine r_gr f_D_passYear_21 (sD hb) (rD0 hb) ?_
      refine r_ild1 f_D_passYear_24 ?_
      refine r_aald f_D_passYear_25 (Or.inl rfl) (sD1 hb) (q_ix.nI (by omega) (by decide)) (rDF hb (by omega)) ?_
      refine r_ald0 f_D_passYear_26 ?_
      refine r_gr f_D_passYear_27 (sD hb) (rD0 hb) ?_
      refine r_ild1 f_D_passYear_30 ?_
      refine r_aald f_D_passYear_31 (Or.inl rfl) (sD1 hb) (q_ix.nI (by omega) (by decide)) (rDF hb (by omega)) ?_
      refine r_gi f_D_passYear_32 (sDF hb (by omega)) ?_
      rw [hP.f (by omega) (by decide)]
      refine r_ic f_D_passYear_35 ?_
      refine r_isub f_D_passYear_36 ?_
      refine r_ic f_D_passYear_37 ?_
      refine r_maxI f_D_passYear_38 (Nat.le_of_ble_eq_true rfl) (Nat.le_refl _) (Nat.le_refl _) ?_
      refine r_pF f_D_passYear_41 hb (show k < 8 by omega) (by decide) hP (fun I2 hP2 => ?_)
      refine r_inc1 f_D_passYear_44 rfl ?_
      refine r_goto f_D_passYear_47 ?_
      rw [nI_1]
      exact k_D_passYear_loop (E := E) hb hc8 hc hk n (k + 1) I2 (by omega) (by omega) hP2
theorem k_D_passYear (hb : q_D b) (hW : WFd D) (hP : PD I0 I b D Me) (hk : ∀ I', PD I0 I' b (sp_year D) Me → K none SH RF I' L) : WW G d mt_D_passYear 0 [some (.ref b), none] [] SH RF I L 0 0 0 0 K := by
  refine r_ald0 f_D_passYear_0 ?_
  refine r_dupr f_D_passYear_1 ?_
  refine r_gi f_D_passYear_2 (sD hb) ?_
  rw [show I b 5 = D.2.2.2.1 0 from hP.s (k := 0) (by decide)]
  refine r_ic f_D_passYear_5 ?_
  refine r_iadd f_D_passYear_6 ?_
  refine r_pS f_D_passYear_7 hb (k := 0) (by decide) rfl hP (fun I1 hP1 => ?_)
  refine r_ic f_D_passYear_10 ?_
  refine r_ist1 f_D_passYear_11 rfl ?_
  have e0 : (0 : Int32) = nI 0 := rfl
  rw [e0]
  exact k_D_passYear_loop (D := eS D 0 (D.2.2.2.1 0 + 1)) (c := dC D) (E := D) hb hW.1.1 hW.1.2 hk (dC D + 1) 0 I1 (by omega) (Nat.zero_le _) hP1
def sp_dig (c p : Nat) (x : Int32) : Int32 := (x.toUInt32 >>> ((3 * (nI c - 1 - nI p)).toUInt32 &&& Int32.toUInt32 31)).toInt32 &&& 7
theorem k_D_digit {c p : Nat} {x : Int32} (hb : q_D b) (hc : I b 4 = nI c) (hk : K (some (.int (sp_dig c p x))) SH RF I L) : WW G d mt_D_digit 0 [some (.ref b), some (.int x), some (.int (nI p))] [] SH RF I L 0 0 0 0 K := by
  refine r_ild1 f_D_digit_0 ?_
  refine r_ic f_D_digit_1 ?_
  refine r_ald0 f_D_digit_2 ?_
  refine r_gi f_D_digit_3 (sD hb) ?_
  rw [hc]
  refine r_ic f_D_digit_6 ?_
  refine r_isub f_D_digit_7 ?_
  refine r_ild2 f_D_digit_8 ?_
  refine r_isub f_D_digit_9 ?_
  refine r_imul f_D_digit_10 ?_
  refine r_iushr f_D_digit_11 ?_
  refine r_ic f_D_digit_12 ?_
  refine r_iand f_D_digit_14 ?_
  refine r_iret f_D_digit_15 ⟨_, rfl, rfl⟩ (Nat.le_refl _) (Nat.le_refl _) ?_
  exact hk
def sp_met (c : Nat) (x : Int32) : Nat → Int32
  | 0 => 0
  | p + 1 => sp_met c x p ||| (1 : Int32) <<< (sp_dig c p x &&& 31)
theorem k_D_isOrder_loop {c : Nat} {x : Int32} (hb : q_D b) (hc : I b 4 = nI c) (hc8 : c ≤ 8) (h1 : sp_met c x c = (1 : Int32) <<< (nI c &&& 31) - 1 → K (some (.int 1)) SH RF I L) (h0 : ¬ sp_met c x c = (1 : Int32) <<< (nI c &&& 31) - 1 → K (some (.int 0)) SH RF I L) : ∀ (n p : Nat), c - p < n → p ≤ c → WW G (d + 1) mt_D_isOrder 4 [some (.ref b), some (.int x), some (.int (sp_met c x p)), some (.int (nI p))] [] SH RF I L 0 0 0 0 K
  | 0, p, hn, hp => by omega
  | n + 1, p, hn, hp => by
    refine r_ild3 f_D_isOrder_4 ?_
    refine r_ald0 f_D_isOrder_5 ?_
    refine r_gi f_D_isOrder_6 (sD hb) ?_
    rw [hc]
    refine r_ic_ge f_D_isOrder_9 (fun h9 => ?_) (fun h9 => ?_)
    · have e : p = c := by
        have := q_le2 h9 (by omega)
        omega
      subst e
      refine r_ild2 f_D_isOrder_29 ?_
      refine r_ic f_D_isOrder_30 ?_
      refine r_ald0 f_D_isOrder_31 ?_
      refine r_gi f_D_isOrder_32 (sD hb) ?_
      rw [hc]
      refine r_ishl f_D_isOrder_35 ?_
      refine r_ic f_D_isOrder_36 ?_
      refine r_isub f_D_isOrder_37 ?_
      refine r_ic_ne f_D_isOrder_38 (fun h38 => ?_) (fun h38 => ?_)
      · refine r_ic f_D_isOrder_45 ?_
        refine r_iret f_D_isOrder_46 ⟨_, rfl, rfl⟩ (Nat.le_refl _) (Nat.le_refl _) ?_
        first | exact h0 h38 | exact h1 h38
      · refine r_ic f_D_isOrder_41 ?_
        refine r_goto f_D_isOrder_42 ?_
        refine r_iret f_D_isOrder_46 ⟨_, rfl, rfl⟩ (Nat.le_refl _) (Nat.le_refl _) ?_
        first | exact h0 h38 | exact h1 h38
    · have hlt : p < c := q_lt2 h9 (by omega)
      refine r_ild2 f_D_isOrder_12 ?_
      refine r_ic f_D_isOrder_13 ?_
      refine r_ald0 f_D_isOrder_14 ?_
      refine r_ild1 f_D_isOrder_15 ?_
      refine r_ild3 f_D_isOrder_16 ?_
      refine c_D_digit f_D_isOrder_17 (sD hb) (Nat.le_of_ble_eq_true rfl) (Nat.le_refl _) (Nat.le_refl _) ?_
      refine k_D_digit hb hc ?_
      refine r_ishl f_D_isOrder_20 ?_
      refine r_ior f_D_isOrder_21 ?_
      refine r_ist2 f_D_isOrder_22 rfl ?_
      refine r_inc3 f_D_isOrder_23 rfl ?_
      refine r_goto f_D_isOrder_26 ?_
      rw [nI_1]
      exact k_D_isOrder_loop hb hc hc8 h1 h0 n (p + 1) (by omega) (by omega)
theorem k_D_isOrder {c : Nat} {x : Int32} (hb : q_D b) (hc : I b 4 = nI c) (hc8 : c ≤ 8) (h1 : sp_met c x c = (1 : Int32) <<< (nI c &&& 31) - 1 → K (some (.int 1)) SH RF I L) (h0 : ¬ sp_met c x c = (1 : Int32) <<< (nI c &&& 31) - 1 → K (some (.int 0)) SH RF I L) : WW G (d + 1) mt_D_isOrder 0 [some (.ref b), some (.int x), none, none] [] SH RF I L 0 0 0 0 K := by
  refine r_ic f_D_isOrder_0 ?_
  refine r_ist2 f_D_isOrder_1 rfl ?_
  refine r_ic f_D_isOrder_2 ?_
  refine r_ist3 f_D_isOrder_3 rfl ?_
  exact k_D_isOrder_loop hb hc hc8 h1 h0 (c + 1) 0 (by omega) (Nat.zero_le _)
def sp_po (D : Dst) (x : Int32) : Nat → Dst
  | 0 => D
  | p + 1 => eO (sp_po D x p) p (sp_dig (dC D) p x)
theorem sp_po_5 (D : Dst) (x : Int32) : ∀ k, (sp_po D x k).2.2 = D.2.2
  | 0 => rfl
  | k + 1 => sp_po_5 D x k
theorem k_D_putOrder_loop {x : Int32} (hb : q_D b) (hc8 : dC D ≤ 8) (hc : D.2.2.2.1 5 = nI (dC D)) (hk : ∀ I', PD I0 I' b (sp_po D x (dC D)) Me → K none SH RF I' L) : ∀ (n p : Nat) (I' : Rn), dC D - p < n → p ≤ dC D → PD I0 I' b (sp_po D x p) Me → WW G (d + 1) mt_D_putOrder 2 [some (.ref b), some (.int x), some (.int (nI p))] [] SH RF I' L 0 0 0 0 K
  | 0, p, I', hn, hp, hP => by omega
  | n + 1, p, I', hn, hp, hP => by
    have hcnt : I' b 4 = nI (dC D) := by rw [← hc, ← sp_po_5 D x p]; exact hP.s (k := 5) (by decide)
    refine r_ild2 f_D_putOrder_2 ?_
    refine r_ald0 f_D_putOrder_3 ?_
    refine r_gi f_D_putOrder_4 (sD hb) ?_
    rw [hcnt]
    refine r_ic_ge f_D_putOrder_7 (fun h7 => ?_) (fun h7 => ?_)
    · refine r_ret f_D_putOrder_28 rfl (Nat.le_refl _) (Nat.le_refl _) ?_
      have e : p = dC D := by
        have := q_le2 h7 (by omega)
        omega
      subst e
      exact hk I' hP
    · have hlt : p < dC D := q_lt2 h7 (by omega)
      refine r_ald0 f_D_putOrder_10 ?_
      refine r_gr f_D_putOrder_11 (sD hb) (rD1 hb) ?_
      refine r_ild2 f_D_putOrder_14 ?_
      refine r_ald0 f_D_putOrder_15 ?_
      refine r_ild1 f_D_putOrder_16 ?_
      refine r_ild2 f_D_putOrder_17 ?_
      refine c_D_digit f_D_putOrder_18 (sD hb) (Nat.le_of_ble_eq_true rfl) (Nat.le_refl _) (Nat.le_refl _) ?_
      refine k_D_digit hb hcnt ?_
      refine r_pO f_D_putOrder_21 hb (q_ix.nI (show p < 8 by omega) (by decide)) hP (fun I2 hP2 => ?_)
      refine r_inc2 f_D_putOrder_22 rfl ?_
      refine r_goto f_D_putOrder_25 ?_
      rw [nI_1]
      exact k_D_putOrder_loop hb hc8 hc hk n (p + 1) I2 (by omega) (by omega) hP2
theorem k_D_putOrder {x : Int32} (hb : q_D b) (hW : WFd D) (hP : PD I0 I b D Me) (hk : ∀ I', PD I0 I' b (sp_po D x (dC D)) Me → K none SH RF I' L) : WW G (d + 1) mt_D_putOrder 0 [some (.ref b), some (.int x), none] [] SH RF I L 0 0 0 0 K := by
  refine r_ic f_D_putOrder_0 ?_
  refine r_ist2 f_D_putOrder_1 rfl ?_
  have e0 : (0 : Int32) = nI 0 := rfl
  rw [e0]
  exact k_D_putOrder_loop hb hW.1.1 hW.1.2 hk (dC D + 1) 0 I (by omega) (Nat.zero_le _) hP
def sp_num (D : Dst) : Nat → Int32
  | 0 => 0
  | k + 1 => sp_num D k * 8 + D.2.1 k
theorem k_D_orderNumber_loop (hb : q_D b) (hR : RD I b D) (hW : WFd D) (hk : K (some (.int (sp_num D (dC D)))) SH RF I L) : ∀ (n k : Nat), dC D - k < n → k ≤ dC D → WW G d mt_D_orderNumber 4 [some (.ref b), some (.int (sp_num D k)), some (.int (nI k))] [] SH RF I L 0 0 0 0 K
  | 0, k, hn, hkn => by omega
  | n + 1, k, hn, hkn => by
    have hc8 := hW.1.1
    refine r_ild2 f_D_orderNumber_4 ?_
    refine r_ald0 f_D_orderNumber_5 ?_
    refine r_gi f_D_orderNumber_6 (sD hb) ?_
    rw [hR.cnt hW]
    refine r_ic_ge f_D_orderNumber_9 (fun h9 => ?_) (fun h9 => ?_)
    · refine r_ild1 f_D_orderNumber_30 ?_
      refine r_iret f_D_orderNumber_31 ⟨_, rfl, rfl⟩ (Nat.le_refl _) (Nat.le_refl _) ?_
      have e : k = dC D := by
        have := q_le2 h9 (by omega)
        omega
      rw [e]
      exact hk
    · have hlt : k < dC D := q_lt2 h9 (by omega)
      refine r_ild1 f_D_orderNumber_12 ?_
      refine r_ic f_D_orderNumber_13 ?_
      refine r_imul f_D_orderNumber_15 ?_
      refine r_ald0 f_D_orderNumber_16 ?_
      refine r_gr f_D_orderNumber_17 (sD hb) (rD1 hb) ?_
      refine r_ild2 f_D_orderNumber_20 ?_
      refine r_iald f_D_orderNumber_21 (sD2 hb) (q_ix.nI (by omega) (by decide)) ?_
      rw [show I (b + 2) k = D.2.1 k by rw [← hR.1]; exact (vD_o (by omega)).symm]
      refine r_iadd f_D_orderNumber_22 ?_
      refine r_ist1 f_D_orderNumber_23 rfl ?_
      refine r_inc2 f_D_orderNumber_24 rfl ?_
      refine r_goto f_D_orderNumber_27 ?_
      rw [nI_1]
      exact k_D_orderNumber_loop hb hR hW hk n (k + 1) (by omega) (by omega)
theorem k_D_orderNumber (hb : q_D b) (hR : RD I b D) (hW : WFd D) (hk : K (some (.int (sp_num D (dC D)))) SH RF I L) : WW G d mt_D_orderNumber 0 [some (.ref b), none, none] [] SH RF I L 0 0 0 0 K := by
  refine r_ic f_D_orderNumber_0 ?_
  refine r_ist1 f_D_orderNumber_1 rfl ?_
  refine r_ic f_D_orderNumber_2 ?_
  refine r_ist2 f_D_orderNumber_3 rfl ?_
  exact k_D_orderNumber_loop hb hR hW hk (dC D + 1) 0 (by omega) (Nat.zero_le _)
def sp_rich (D : Dst) : Nat → Nat
  | 0 => 0
  | k + 1 => if D.1 (sp_rich D k) 5 < D.1 k 5 then k else sp_rich D k
theorem sp_rich_lt (D : Dst) : ∀ k, 0 < k → sp_rich D k < k
  | 0, h => absurd h (by decide)
  | k + 1, _ => by
    show (if D.1 (sp_rich D k) 5 < D.1 k 5 then k else sp_rich D k) < k + 1
    split
    · omega
    · rcases Nat.eq_zero_or_pos k with e | e
      · subst e
        exact Nat.zero_lt_one
      · have := sp_rich_lt D k e
        omega
theorem k_D_richest_loop (hb : q_D b) (hR : RD I b D) (hW : WFd D) (hk : K (some (.int (nI (sp_rich D (dC D))))) SH RF I L) : ∀ (n k : Nat), dC D - k < n → 1 ≤ k → k ≤ dC D → WW G d mt_D_richest 4 [some (.ref b), some (.int (nI (sp_rich D k))), some (.int (nI k))] [] SH RF I L 0 0 0 0 K
  | 0, k, hn, h1, hkn => by omega
  | n + 1, k, hn, h1, hkn => by
    have hc8 := hW.1.1
    have hfd := sp_rich_lt D k (by omega)
    refine r_ild2 f_D_richest_4 ?_
    refine r_ald0 f_D_richest_5 ?_
    refine r_gi f_D_richest_6 (sD hb) ?_
    rw [hR.cnt hW]
    refine r_ic_ge f_D_richest_9 (fun h9 => ?_) (fun h9 => ?_)
    · refine r_ild1 f_D_richest_41 ?_
      refine r_iret f_D_richest_42 ⟨_, rfl, rfl⟩ (Nat.le_refl _) (Nat.le_refl _) ?_
      have e : k = dC D := by
        have := q_le2 h9 (by omega)
        omega
      rw [e]
      exact hk
    · have hlt : k < dC D := q_lt2 h9 (by omega)
      refine r_ald0 f_D_richest_12 ?_
      refine r_gr f_D_richest_13 (sD hb) (rD0 hb) ?_
      refine r_ild2 f_D_richest_16 ?_
      refine r_aald f_D_richest_17 (Or.inl rfl) (sD1 hb) (q_ix.nI (by omega) (by decide)) (rDF hb (by omega)) ?_
      refine r_gi f_D_richest_18 (sDF hb (by omega)) ?_
      rw [show I (b + 9 + 2 * k) 5 = D.1 k 5 by rw [← hR.1]; exact (vD_f (by omega) (by decide)).symm]
      refine r_ald0 f_D_richest_21 ?_
      refine r_gr f_D_richest_22 (sD hb) (rD0 hb) ?_
      refine r_ild1 f_D_richest_25 ?_
      refine r_aald f_D_richest_26 (Or.inl rfl) (sD1 hb) (q_ix.nI (by omega) (by decide)) (rDF hb (by omega)) ?_
      refine r_gi f_D_richest_27 (sDF hb (by omega)) ?_
      rw [hR.fr (f := sp_rich D k) (by omega) (by decide)]
      refine r_ic_le f_D_richest_30 (fun h30 => ?_) (fun h30 => ?_)
      · refine r_inc2 f_D_richest_35 rfl ?_
        refine r_goto f_D_richest_38 ?_
        rw [nI_1]
        first
          | (have e : sp_rich D (k + 1) = k := if_pos (Int32.not_le.mp h30)
             rw [show nI k = nI (sp_rich D (k + 1)) by rw [e]]
             exact k_D_richest_loop hb hR hW hk n (k + 1) (by omega) (by omega) (by omega))
          | (have e : sp_rich D (k + 1) = sp_rich D k := if_neg (Int32.not_lt.mpr h30)
             rw [← e]
             exact k_D_richest_loop hb hR hW hk n (k + 1) (by omega) (by omega) (by omega))
      · refine r_ild2 f_D_richest_33 ?_
        refine r_ist1 f_D_richest_34 rfl ?_
        refine r_inc2 f_D_richest_35 rfl ?_
        refine r_goto f_D_richest_38 ?_
        rw [nI_1]
        first
          | (have e : sp_rich D (k + 1) = k := if_pos (Int32.not_le.mp h30)
             rw [show nI k = nI (sp_rich D (k + 1)) by rw [e]]
             exact k_D_richest_loop hb hR hW hk n (k + 1) (by omega) (by omega) (by omega))
          | (have e : sp_rich D (k + 1) = sp_rich D k := if_neg (Int32.not_lt.mpr h30)
             rw [← e]
             exact k_D_richest_loop hb hR hW hk n (k + 1) (by omega) (by omega) (by omega))
theorem k_D_richest (hb : q_D b) (hR : RD I b D) (hW : WFd D) (h1 : 1 ≤ dC D) (hk : K (some (.int (nI (sp_rich D (dC D))))) SH RF I L) : WW G d mt_D_richest 0 [some (.ref b), none, none] [] SH RF I L 0 0 0 0 K := by
  refine r_ic f_D_richest_0 ?_
  refine r_ist1 f_D_richest_1 rfl ?_
  refine r_ic f_D_richest_2 ?_
  refine r_ist2 f_D_richest_3 rfl ?_
  have e0 : (0 : Int32) = nI (sp_rich D 1) := by
    have e : sp_rich D 1 = 0 := by
      show (if _ then 0 else 0) = 0
      split <;> rfl
    rw [e]
    rfl
  have e1 : (1 : Int32) = nI 1 := rfl
  rw [e0, e1]
  exact k_D_richest_loop hb hR hW hk (dC D + 1) 1 (by omega) (by omega) h1
def sp_poor (D : Dst) : Nat → Nat
  | 0 => 0
  | k + 1 => if D.1 k 5 < D.1 (sp_poor D k) 5 then k else sp_poor D k
theorem sp_poor_lt (D : Dst) : ∀ k, 0 < k → sp_poor D k < k
  | 0, h => absurd h (by decide)
  | k + 1, _ => by
    show (if D.1 k 5 < D.1 (sp_poor D k) 5 then k else sp_poor D k) < k + 1
    split
    · omega
    · rcases Nat.eq_zero_or_pos k with e | e
      · subst e
        exact Nat.zero_lt_one
      · have := sp_poor_lt D k e
        omega
theorem k_D_poorest_loop (hb : q_D b) (hR : RD I b D) (hW : WFd D) (hk : K (some (.int (nI (sp_poor D (dC D))))) SH RF I L) : ∀ (n k : Nat), dC D - k < n → 1 ≤ k → k ≤ dC D → WW G d mt_D_poorest 4 [some (.ref b), some (.int (nI (sp_poor D k))), some (.int (nI k))] [] SH RF I L 0 0 0 0 K
  | 0, k, hn, h1, hkn => by omega
  | n + 1, k, hn, h1, hkn => by
    have hc8 := hW.1.1
    have hfd := sp_poor_lt D k (by omega)
    refine r_ild2 f_D_poorest_4 ?_
    refine r_ald0 f_D_poorest_5 ?_
    refine r_gi f_D_poorest_6 (sD hb) ?_
    rw [hR.cnt hW]
    refine r_ic_ge f_D_poorest_9 (fun h9 => ?_) (fun h9 => ?_)
    · refine r_ild1 f_D_poorest_41 ?_
      refine r_iret f_D_poorest_42 ⟨_, rfl, rfl⟩ (Nat.le_refl _) (Nat.le_refl _) ?_
      have e : k = dC D := by
        have := q_le2 h9 (by omega)
        omega
      rw [e]
      exact hk
    · have hlt : k < dC D := q_lt2 h9 (by omega)
      refine r_ald0 f_D_poorest_12 ?_
      refine r_gr f_D_poorest_13 (sD hb) (rD0 hb) ?_
      refine r_ild2 f_D_poorest_16 ?_
      refine r_aald f_D_poorest_17 (Or.inl rfl) (sD1 hb) (q_ix.nI (by omega) (by decide)) (rDF hb (by omega)) ?_
      refine r_gi f_D_poorest_18 (sDF hb (by omega)) ?_
      rw [show I (b + 9 + 2 * k) 5 = D.1 k 5 by rw [← hR.1]; exact (vD_f (by omega) (by decide)).symm]
      refine r_ald0 f_D_poorest_21 ?_
      refine r_gr f_D_poorest_22 (sD hb) (rD0 hb) ?_
      refine r_ild1 f_D_poorest_25 ?_
      refine r_aald f_D_poorest_26 (Or.inl rfl) (sD1 hb) (q_ix.nI (by omega) (by decide)) (rDF hb (by omega)) ?_
      refine r_gi f_D_poorest_27 (sDF hb (by omega)) ?_
      rw [hR.fr (f := sp_poor D k) (by omega) (by decide)]
      refine r_ic_ge f_D_poorest_30 (fun h30 => ?_) (fun h30 => ?_)
      · refine r_inc2 f_D_poorest_35 rfl ?_
        refine r_goto f_D_poorest_38 ?_
        rw [nI_1]
        first
          | (have e : sp_poor D (k + 1) = k := if_pos (Int32.not_le.mp h30)
             rw [show nI k = nI (sp_poor D (k + 1)) by rw [e]]
             exact k_D_poorest_loop hb hR hW hk n (k + 1) (by omega) (by omega) (by omega))
          | (have e : sp_poor D (k + 1) = sp_poor D k := if_neg (Int32.not_lt.mpr h30)
             rw [← e]
             exact k_D_poorest_loop hb hR hW hk n (k + 1) (by omega) (by omega) (by omega))
      · refine r_ild2 f_D_poorest_33 ?_
        refine r_ist1 f_D_poorest_34 rfl ?_
        refine r_inc2 f_D_poorest_35 rfl ?_
        refine r_goto f_D_poorest_38 ?_
        rw [nI_1]
        first
          | (have e : sp_poor D (k + 1) = k := if_pos (Int32.not_le.mp h30)
             rw [show nI k = nI (sp_poor D (k + 1)) by rw [e]]
             exact k_D_poorest_loop hb hR hW hk n (k + 1) (by omega) (by omega) (by omega))
          | (have e : sp_poor D (k + 1) = sp_poor D k := if_neg (Int32.not_lt.mpr h30)
             rw [← e]
             exact k_D_poorest_loop hb hR hW hk n (k + 1) (by omega) (by omega) (by omega))
theorem k_D_poorest (hb : q_D b) (hR : RD I b D) (hW : WFd D) (h1 : 1 ≤ dC D) (hk : K (some (.int (nI (sp_poor D (dC D))))) SH RF I L) : WW G d mt_D_poorest 0 [some (.ref b), none, none] [] SH RF I L 0 0 0 0 K := by
  refine r_ic f_D_poorest_0 ?_
  refine r_ist1 f_D_poorest_1 rfl ?_
  refine r_ic f_D_poorest_2 ?_
  refine r_ist2 f_D_poorest_3 rfl ?_
  have e0 : (0 : Int32) = nI (sp_poor D 1) := by
    have e : sp_poor D 1 = 0 := by
      show (if _ then 0 else 0) = 0
      split <;> rfl
    rw [e]
    rfl
  have e1 : (1 : Int32) = nI 1 := rfl
  rw [e0, e1]
  exact k_D_poorest_loop hb hR hW hk (dC D + 1) 1 (by omega) (by omega) h1
end L29
