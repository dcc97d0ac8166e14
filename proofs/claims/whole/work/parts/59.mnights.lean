section L59
variable {G : Gx} {d : Nat} {I I' I2 : Rn} {L L' L2 : Rl} {K : Kt} {σ : St} {D E : Dst}
theorem q_7p (p j : Nat) : (7 : Int32) * nI p + nI j = nI (7 * p + j) := by rw [show (7 : Int32) * nI p = nI (7 * p) from pk_mul 7 p, nI_add]
def G96 : Nat → Nat → Prop := fun x _ => x = 96
theorem k_R_draw (hR : RR I 96 D) (hk : ∀ I', RR I' 96 (eS D 2 (sp_z (D.2.2.2.1 2))) → q_ag G96 I I' → K (some (.int (sp_dr (sp_z (D.2.2.2.1 2))))) SH RF I' L) : WW G d mt_R_draw 0 [some (.ref 95)] [] SH RF I L 0 0 0 0 K := by
  refine r_ald0 f_R_draw_0 ?_
  refine r_gr f_R_draw_1 (s_95) (r_95_0) ?_
  refine r_ic f_R_draw_4 ?_
  refine r_ald0 f_R_draw_5 ?_
  refine r_gr f_R_draw_6 (s_95) (r_95_0) ?_
  refine r_ic f_R_draw_9 ?_
  refine r_iald f_R_draw_10 (s_96) (show q_ix 2 2 136 from ⟨by decide, by decide⟩) ?_
  rw [hR.s (k := 2) (by decide)]
  refine r_ic f_R_draw_11 ?_
  refine r_imul f_R_draw_14 ?_
  refine r_ic f_R_draw_15 ?_
  refine r_iadd f_R_draw_18 ?_
  refine r_iast f_R_draw_19 (s_96) (show q_ix 2 2 136 from ⟨by decide, by decide⟩) ?_
  refine r_ald0 f_R_draw_20 ?_
  refine r_gr f_R_draw_21 (s_95) (r_95_0) ?_
  refine r_ic f_R_draw_24 ?_
  refine r_iald f_R_draw_25 (s_96) (show q_ix 2 2 136 from ⟨by decide, by decide⟩) ?_
  rw [u2_self]
  refine r_ic f_R_draw_26 ?_
  refine r_iushr f_R_draw_28 ?_
  refine r_iret f_R_draw_29 ⟨_, rfl, rfl⟩ (Nat.le_refl _) (Nat.le_refl _) ?_
  exact hk _ (hR.toS (k := 2) (by decide) rfl) (q_ag.rf.u2 rfl)
def ab (r : Nat → Int32) (j : Nat) : Int32 := ([r 11, r 12, r 6, r 2, r 3, r 4, r 5] : List Int32).getD j 0
def AB (I : Rn) (p n : Nat) (r : Nat → Int32) : Prop := ∀ j, j < n → I 108 (7 * p + j) = ab r j
theorem AB.put {p n : Nat} {r : Nat → Int32} {v : Int32} (h : AB I p n r) (hv : v = ab r n) : AB (u2 I 108 (7 * p + n) v) p (n + 1) r := fun j hj => by
  by_cases e : j = n
  · rw [e, u2_self, hv]
  · rw [u2_ne (Or.inr (by omega))]
    exact h j (by omega)
theorem AB.keep {p n : Nat} {r : Nat → Int32} (h : AB I p n r) (e : ∀ j, j < n → I' 108 (7 * p + j) = I 108 (7 * p + j)) : AB I' p n r := fun j hj => (e j hj).trans (h j hj)
theorem q_up9w {x : Int32} (h : q_le x 0 9) : q_within (x + 1) 0 9 = if 9 < x + 1 then 9 else x + 1 := by
  obtain ⟨n, _, h9, rfl⟩ := h
  have e : ∀ n, n < 10 → q_within (nI n + 1) 0 9 = if 9 < nI n + 1 then 9 else nI n + 1 := by
    unfold q_within
    decide +kernel
  exact e n (by omega)
theorem eF_id {f k : Nat} : eF D f k (D.1 f k) = D := by
  refine Prod.ext ?_ rfl
  funext x y
  show u2 D.1 f k (D.1 f k) x y = D.1 x y
  unfold u2
  by_cases e : x = f ∧ y = k
  · rw [if_pos e, e.1, e.2]
  · rw [if_neg e]
theorem eS34 {u v : Int32} : eS (eS D 4 u) 3 v = eS (eS D 3 v) 4 u := by
  refine Prod.ext rfl (Prod.ext rfl (Prod.ext rfl (Prod.ext ?_ rfl)))
  funext q
  show (if q = 3 then v else if q = 4 then u else D.2.2.2.1 q) = if q = 4 then u else if q = 3 then v else D.2.2.2.1 q
  by_cases e : q = 3
  · rw [if_pos e, if_neg (by omega), if_pos e]
  · rw [if_neg e, if_neg e]
theorem sp_pass_o {r : Nat → Int32} {o t : Nat} : (sp_pass D r o t).2.1 = D.2.1 := by
  unfold sp_pass
  generalize decide (sp_rem (sp_dr (sp_z (D.2.2.2.1 2))) 1000000 < r 11) = b1
  generalize decide (sp_rem (sp_dr (sp_z (sp_z (D.2.2.2.1 2)))) 1000000 < r 12) = b2
  generalize decide (sp_rem (sp_dr (sp_z (sp_z (sp_z (D.2.2.2.1 2))))) 100 < r 6) = b3
  cases b1 <;> cases b2 <;> cases b3 <;> rfl
theorem sp_nl_o : ∀ p, (sp_nl D p).2.1 = D.2.1
  | 0 => rfl
  | p + 1 => sp_pass_o.trans (sp_nl_o p)
def sp_took (W : Dst) (r : Nat → Int32) (o t : Nat) : Dst :=
  let A := eS W 3 (W.2.2.2.1 3 + 1)
  let C := eF A t 5 (A.1 t 5 + r 2)
  let E := eF C o 5 (C.1 o 5 - r 3)
  eF E o 6 (if 9 < E.1 o 6 + 1 then 9 else E.1 o 6 + 1)
def sp_seen (W : Dst) (r : Nat → Int32) (o t : Nat) : Dst :=
  let A := eS W 3 (W.2.2.2.1 3 + 1)
  let B := eS A 4 (A.2.2.2.1 4 + 1)
  let C := eF B t 5 (B.1 t 5 - B.2.2.1 0)
  let E := eF C o 5 (C.1 o 5 + r 4)
  eF E t 6 0
theorem p3_ttt {r : Nat → Int32} {o t : Nat} : sp_pass3 D r o t true true true = sp_seen (eF D o 5 (D.1 o 5 - r 5)) r o t := rfl
theorem p3_ttf {r : Nat → Int32} {o t : Nat} : sp_pass3 D r o t true true false = sp_took (eF D o 5 (D.1 o 5 - r 5)) r o t := rfl
theorem p3_tf {r : Nat → Int32} {o t : Nat} {b : Bool} : sp_pass3 D r o t true false b = sp_took D r o t := rfl
theorem p3_ft {r : Nat → Int32} {o t : Nat} {b : Bool} : sp_pass3 D r o t false true b = eF D o 5 (D.1 o 5 - r 5) := rfl
theorem p3_ff {r : Nat → Int32} {o t : Nat} {b : Bool} : sp_pass3 D r o t false false b = D := rfl
theorem hT0 (h : RR I 96 D) : RR (u2 I 96 3 (D.2.2.2.1 3 + 0)) 96 D := by
  rw [Int32.add_zero]
  have e := h.toS (k := 3) (v := D.2.2.2.1 3) (by decide) rfl
  rw [eS_id] at e
  exact e
theorem hT2 {r : Nat → Int32} {o t : Nat} (h : RR I 96 (eF (eF (eF D t 5 (D.1 t 5 + r 2)) o 5 ((eF D t 5 (D.1 t 5 + r 2)).1 o 5 - r 3)) o 6 (if 9 < (eF (eF D t 5 (D.1 t 5 + r 2)) o 5 ((eF D t 5 (D.1 t 5 + r 2)).1 o 5 - r 3)).1 o 6 + 1 then 9 else (eF (eF D t 5 (D.1 t 5 + r 2)) o 5 ((eF D t 5 (D.1 t 5 + r 2)).1 o 5 - r 3)).1 o 6 + 1))) : RR (u2 I 96 3 (D.2.2.2.1 3 + 1)) 96 (sp_took D r o t) := h.toS (k := 3) (v := D.2.2.2.1 3 + 1) (by decide) rfl
theorem hT1 {r : Nat → Int32} {o t : Nat} (h : RR I 96 (eS (eF (eF (eF D t 5 (D.1 t 5 - D.2.2.1 0)) o 5 ((eF D t 5 (D.1 t 5 - D.2.2.1 0)).1 o 5 + r 4)) t 6 0) 4 (D.2.2.2.1 4 + 1))) : RR (u2 I 96 3 (D.2.2.2.1 3 + 1)) 96 (sp_seen D r o t) := by
  have e := h.toS (k := 3) (v := D.2.2.2.1 3 + 1) (by decide) rfl
  rw [eS34] at e
  exact e
theorem s3_seen {a b e f h i : Nat} {c g j v : Int32} : (eS (eF (eF (eF D a b c) e f g) h i j) 4 v).2.2.2.1 3 = D.2.2.2.1 3 := rfl
theorem WFd.z3 (h : WFd D) : WFd (sp_z3 D) := ((h.sc (Or.inl rfl)).sc (Or.inl rfl)).sc (Or.inl rfl)
theorem k_R_meet39 {p o t : Nat} {r : Nat → Int32} (hp : p < 8) (ho : o < dC D) (ht : t < dC D) (hA : AB I p 7 r) (hR : RR I 96 D) (hW : WFd D) (hk : ∀ I', RR I' 96 (sp_pass D r o t) → q_ag G96 I I' → K none SH RF I' L) : WW G (d + 1) mt_R_meet 39 [some (.ref 95), some (.int (nI p)), some (.int (nI o)), some (.int (nI t)), none, none, none] [] SH RF I L 0 0 0 0 K := by
  have hc8 := hW.1.1
  have ho8 : o < 8 := by omega
  have ht8 : t < 8 := by omega
  have hWz := hW.z3
  refine r_ald0 f_R_meet_39 ?_
  refine c_R_draw f_R_meet_40 (s_95) (Nat.le_of_ble_eq_true rfl) (Nat.le_refl _) (Nat.le_refl _) ?_
  refine k_R_draw hR (fun I1 hR1 g1 => ?_)
  refine r_ic f_R_meet_43 ?_
  refine r_irem f_R_meet_45 (by decide) ?_
  refine r_ald0 f_R_meet_46 ?_
  refine r_gr f_R_meet_47 (s_95) (r_95_34) ?_
  refine r_ic f_R_meet_50 ?_
  refine r_ild1 f_R_meet_52 ?_
  refine r_imul f_R_meet_53 ?_
  rw [show (7 : Int32) * nI p = nI (7 * p + 0) from pk_mul 7 p]
  refine r_iald f_R_meet_54 (s_108) (q_ix.nI (show 7 * p + 0 < 56 by omega) (by decide)) ?_
  rw [g1 108 (7 * p + 0) (show ¬ (108 : Nat) = 96 by decide), hA 0 (by decide), show ab r 0 = r 11 from rfl]
  refine r_ic_ge f_R_meet_55 (fun h55 => ?_) (fun h55 => ?_)
  · have b1 : decide (sp_rem (sp_dr (sp_z (D.2.2.2.1 2))) 1000000 < r 11) = false := decide_eq_false (Int32.not_lt.mpr h55)
    refine r_ic f_R_meet_62 ?_
    refine r_ist4 f_R_meet_63 rfl ?_
    refine r_ald0 f_R_meet_65 ?_
    refine c_R_draw f_R_meet_66 (s_95) (Nat.le_of_ble_eq_true rfl) (Nat.le_refl _) (Nat.le_refl _) ?_
    refine k_R_draw hR1 (fun I2 hR2 g2 => ?_)
    refine r_ic f_R_meet_69 ?_
    refine r_irem f_R_meet_71 (by decide) ?_
    refine r_ald0 f_R_meet_72 ?_
    refine r_gr f_R_meet_73 (s_95) (r_95_34) ?_
    refine r_ic f_R_meet_76 ?_
    refine r_ild1 f_R_meet_78 ?_
    refine r_imul f_R_meet_79 ?_
    refine r_ic f_R_meet_80 ?_
    refine r_iadd f_R_meet_81 ?_
    rw [show (7 : Int32) * nI p + 1 = nI (7 * p + 1) from q_7p p 1]
    refine r_iald f_R_meet_82 (s_108) (q_ix.nI (show 7 * p + 1 < 56 by omega) (by decide)) ?_
    rw [g2 108 (7 * p + 1) (show ¬ (108 : Nat) = 96 by decide), g1 108 (7 * p + 1) (show ¬ (108 : Nat) = 96 by decide), hA 1 (by decide), show ab r 1 = r 12 from rfl]
    refine r_ic_ge f_R_meet_83 (fun h83 => ?_) (fun h83 => ?_)
    · have b2 : decide (sp_rem (sp_dr (sp_z (sp_z (D.2.2.2.1 2)))) 1000000 < r 12) = false := decide_eq_false (Int32.not_lt.mpr h83)
      refine r_ic f_R_meet_90 ?_
      refine r_ist5 f_R_meet_91 rfl ?_
      refine r_ald0 f_R_meet_93 ?_
      refine c_R_draw f_R_meet_94 (s_95) (Nat.le_of_ble_eq_true rfl) (Nat.le_refl _) (Nat.le_refl _) ?_
      refine k_R_draw hR2 (fun I3 hR3 g3 => ?_)
      refine r_ic f_R_meet_97 ?_
      refine r_irem f_R_meet_99 (by decide) ?_
      refine r_ald0 f_R_meet_100 ?_
      refine r_gr f_R_meet_101 (s_95) (r_95_34) ?_
      refine r_ic f_R_meet_104 ?_
      refine r_ild1 f_R_meet_106 ?_
      refine r_imul f_R_meet_107 ?_
      refine r_ic f_R_meet_108 ?_
      refine r_iadd f_R_meet_109 ?_
      rw [show (7 : Int32) * nI p + 2 = nI (7 * p + 2) from q_7p p 2]
      refine r_iald f_R_meet_110 (s_108) (q_ix.nI (show 7 * p + 2 < 56 by omega) (by decide)) ?_
      rw [g3 108 (7 * p + 2) (show ¬ (108 : Nat) = 96 by decide), g2 108 (7 * p + 2) (show ¬ (108 : Nat) = 96 by decide), g1 108 (7 * p + 2) (show ¬ (108 : Nat) = 96 by decide), hA 2 (by decide), show ab r 2 = r 6 from rfl]
      refine r_ic_ge f_R_meet_111 (fun h111 => ?_) (fun h111 => ?_)
      · refine r_ic f_R_meet_123 ?_
        refine r_ist6 f_R_meet_124 rfl ?_
        have gA := (g1.tr g2).tr g3
        have hRA : RR I3 96 (sp_z3 D) := hR3
        refine r_ald0 f_R_meet_126 ?_
        refine r_ild2 f_R_meet_127 ?_
        refine r_ic f_R_meet_128 ?_
        refine r_ald0 f_R_meet_129 ?_
        refine r_ild2 f_R_meet_130 ?_
        refine r_ic f_R_meet_131 ?_
        refine c_R_get f_R_meet_132 (s_95) (Nat.le_of_ble_eq_true rfl) (Nat.le_refl _) (Nat.le_refl _) ?_
        refine k_R_get (k := 5) ho8 (by decide) hRA ?_
        refine r_ild5 f_R_meet_135 ?_
        refine r_if_eq f_R_meet_137 (fun _ => ?_) (fun h => absurd h (by decide))
        refine r_ic f_R_meet_155 ?_
        refine r_isub f_R_meet_156 ?_
        rw [Int32.sub_zero]
        refine c_R_put f_R_meet_157 (s_95) (Nat.le_of_ble_eq_true rfl) (Nat.le_refl _) (Nat.le_refl _) ?_
        refine k_R_put (k := 5) ho8 (by decide) hRA (fun I4 hRB g4 => ?_)
        have gB := gA.tr g4
        rw [eF_id] at hRB
        have hWB := hWz
        refine r_ild4 f_R_meet_160 ?_
        refine r_if_eq f_R_meet_162 (fun _ => ?_) (fun h => absurd h (by decide))
        refine r_ild4 f_R_meet_234 ?_
        refine r_if_eq f_R_meet_236 (fun _ => ?_) (fun h => absurd h (by decide))
        have hRY := hRB
        have gY := gB
        refine r_ald0 f_R_meet_309 ?_
        refine r_gr f_R_meet_310 (s_95) (r_95_0) ?_
        refine r_ic f_R_meet_313 ?_
        refine r_dup2 f_R_meet_314 ?_
        refine r_iald f_R_meet_315 (s_96) (show q_ix 3 3 136 from ⟨by decide, by decide⟩) ?_
        rw [hRY.s (k := 3) (by decide)]
        refine r_ild4 f_R_meet_316 ?_
        refine r_if_eq f_R_meet_318 (fun _ => ?_) (fun h => absurd h (by decide))
        refine r_ic f_R_meet_325 ?_
        refine r_iadd f_R_meet_326 ?_
        refine r_iast f_R_meet_327 (s_96) (show q_ix 3 3 136 from ⟨by decide, by decide⟩) ?_
        refine r_ret f_R_meet_328 rfl (Nat.le_refl _) (Nat.le_refl _) ?_
        refine hk _ ?_ (gY.u2 rfl)
        unfold sp_pass
        rw [b1, b2]
        first
          | rw [show decide (sp_rem (sp_dr (sp_z (sp_z (sp_z (D.2.2.2.1 2))))) 100 < r 6) = true from decide_eq_true (Int32.not_le.mp h111), p3_ff]
          | rw [show decide (sp_rem (sp_dr (sp_z (sp_z (sp_z (D.2.2.2.1 2))))) 100 < r 6) = false from decide_eq_false (Int32.not_lt.mpr h111), p3_ff]
        exact hT0 hRY
      · refine r_ild5 f_R_meet_114 ?_
        refine r_if_eq f_R_meet_116 (fun _ => ?_) (fun h => absurd h (by decide))
        refine r_ic f_R_meet_123 ?_
        refine r_ist6 f_R_meet_124 rfl ?_
        have gA := (g1.tr g2).tr g3
        have hRA : RR I3 96 (sp_z3 D) := hR3
        refine r_ald0 f_R_meet_126 ?_
        refine r_ild2 f_R_meet_127 ?_
        refine r_ic f_R_meet_128 ?_
        refine r_ald0 f_R_meet_129 ?_
        refine r_ild2 f_R_meet_130 ?_
        refine r_ic f_R_meet_131 ?_
        refine c_R_get f_R_meet_132 (s_95) (Nat.le_of_ble_eq_true rfl) (Nat.le_refl _) (Nat.le_refl _) ?_
        refine k_R_get (k := 5) ho8 (by decide) hRA ?_
        refine r_ild5 f_R_meet_135 ?_
        refine r_if_eq f_R_meet_137 (fun _ => ?_) (fun h => absurd h (by decide))
        refine r_ic f_R_meet_155 ?_
        refine r_isub f_R_meet_156 ?_
        rw [Int32.sub_zero]
        refine c_R_put f_R_meet_157 (s_95) (Nat.le_of_ble_eq_true rfl) (Nat.le_refl _) (Nat.le_refl _) ?_
        refine k_R_put (k := 5) ho8 (by decide) hRA (fun I4 hRB g4 => ?_)
        have gB := gA.tr g4
        rw [eF_id] at hRB
        have hWB := hWz
        refine r_ild4 f_R_meet_160 ?_
        refine r_if_eq f_R_meet_162 (fun _ => ?_) (fun h => absurd h (by decide))
        refine r_ild4 f_R_meet_234 ?_
        refine r_if_eq f_R_meet_236 (fun _ => ?_) (fun h => absurd h (by decide))
        have hRY := hRB
        have gY := gB
        refine r_ald0 f_R_meet_309 ?_
        refine r_gr f_R_meet_310 (s_95) (r_95_0) ?_
        refine r_ic f_R_meet_313 ?_
        refine r_dup2 f_R_meet_314 ?_
        refine r_iald f_R_meet_315 (s_96) (show q_ix 3 3 136 from ⟨by decide, by decide⟩) ?_
        rw [hRY.s (k := 3) (by decide)]
        refine r_ild4 f_R_meet_316 ?_
        refine r_if_eq f_R_meet_318 (fun _ => ?_) (fun h => absurd h (by decide))
        refine r_ic f_R_meet_325 ?_
        refine r_iadd f_R_meet_326 ?_
        refine r_iast f_R_meet_327 (s_96) (show q_ix 3 3 136 from ⟨by decide, by decide⟩) ?_
        refine r_ret f_R_meet_328 rfl (Nat.le_refl _) (Nat.le_refl _) ?_
        refine hk _ ?_ (gY.u2 rfl)
        unfold sp_pass
        rw [b1, b2]
        first
          | rw [show decide (sp_rem (sp_dr (sp_z (sp_z (sp_z (D.2.2.2.1 2))))) 100 < r 6) = true from decide_eq_true (Int32.not_le.mp h111), p3_ff]
          | rw [show decide (sp_rem (sp_dr (sp_z (sp_z (sp_z (D.2.2.2.1 2))))) 100 < r 6) = false from decide_eq_false (Int32.not_lt.mpr h111), p3_ff]
        exact hT0 hRY
    · have b2 : decide (sp_rem (sp_dr (sp_z (sp_z (D.2.2.2.1 2)))) 1000000 < r 12) = true := decide_eq_true (Int32.not_le.mp h83)
      refine r_ic f_R_meet_86 ?_
      refine r_goto f_R_meet_87 ?_
      refine r_ist5 f_R_meet_91 rfl ?_
      refine r_ald0 f_R_meet_93 ?_
      refine c_R_draw f_R_meet_94 (s_95) (Nat.le_of_ble_eq_true rfl) (Nat.le_refl _) (Nat.le_refl _) ?_
      refine k_R_draw hR2 (fun I3 hR3 g3 => ?_)
      refine r_ic f_R_meet_97 ?_
      refine r_irem f_R_meet_99 (by decide) ?_
      refine r_ald0 f_R_meet_100 ?_
      refine r_gr f_R_meet_101 (s_95) (r_95_34) ?_
      refine r_ic f_R_meet_104 ?_
      refine r_ild1 f_R_meet_106 ?_
      refine r_imul f_R_meet_107 ?_
      refine r_ic f_R_meet_108 ?_
      refine r_iadd f_R_meet_109 ?_
      rw [show (7 : Int32) * nI p + 2 = nI (7 * p + 2) from q_7p p 2]
      refine r_iald f_R_meet_110 (s_108) (q_ix.nI (show 7 * p + 2 < 56 by omega) (by decide)) ?_
      rw [g3 108 (7 * p + 2) (show ¬ (108 : Nat) = 96 by decide), g2 108 (7 * p + 2) (show ¬ (108 : Nat) = 96 by decide), g1 108 (7 * p + 2) (show ¬ (108 : Nat) = 96 by decide), hA 2 (by decide), show ab r 2 = r 6 from rfl]
      refine r_ic_ge f_R_meet_111 (fun h111 => ?_) (fun h111 => ?_)
      · refine r_ic f_R_meet_123 ?_
        refine r_ist6 f_R_meet_124 rfl ?_
        have gA := (g1.tr g2).tr g3
        have hRA : RR I3 96 (sp_z3 D) := hR3
        refine r_ald0 f_R_meet_126 ?_
        refine r_ild2 f_R_meet_127 ?_
        refine r_ic f_R_meet_128 ?_
        refine r_ald0 f_R_meet_129 ?_
        refine r_ild2 f_R_meet_130 ?_
        refine r_ic f_R_meet_131 ?_
        refine c_R_get f_R_meet_132 (s_95) (Nat.le_of_ble_eq_true rfl) (Nat.le_refl _) (Nat.le_refl _) ?_
        refine k_R_get (k := 5) ho8 (by decide) hRA ?_
        refine r_ild5 f_R_meet_135 ?_
        refine r_if_eq f_R_meet_137 (fun h => absurd h (by decide)) (fun _ => ?_)
        refine r_ald0 f_R_meet_140 ?_
        refine r_gr f_R_meet_141 (s_95) (r_95_34) ?_
        refine r_ic f_R_meet_144 ?_
        refine r_ild1 f_R_meet_146 ?_
        refine r_imul f_R_meet_147 ?_
        refine r_ic f_R_meet_148 ?_
        refine r_iadd f_R_meet_150 ?_
        rw [show (7 : Int32) * nI p + 6 = nI (7 * p + 6) from q_7p p 6]
        refine r_iald f_R_meet_151 (s_108) (q_ix.nI (show 7 * p + 6 < 56 by omega) (by decide)) ?_
        rw [gA 108 (7 * p + 6) (show ¬ (108 : Nat) = 96 by decide), hA 6 (by decide), show ab r 6 = r 5 from rfl]
        refine r_goto f_R_meet_152 ?_
        refine r_isub f_R_meet_156 ?_
        refine c_R_put f_R_meet_157 (s_95) (Nat.le_of_ble_eq_true rfl) (Nat.le_refl _) (Nat.le_refl _) ?_
        refine k_R_put (k := 5) ho8 (by decide) hRA (fun I4 hRB g4 => ?_)
        have gB := gA.tr g4
        have hWB : WFd (eF (sp_z3 D) o 5 ((sp_z3 D).1 o 5 - r 5)) := hWz.pu
        refine r_ild4 f_R_meet_160 ?_
        refine r_if_eq f_R_meet_162 (fun _ => ?_) (fun h => absurd h (by decide))
        refine r_ild4 f_R_meet_234 ?_
        refine r_if_eq f_R_meet_236 (fun _ => ?_) (fun h => absurd h (by decide))
        have hRY := hRB
        have gY := gB
        refine r_ald0 f_R_meet_309 ?_
        refine r_gr f_R_meet_310 (s_95) (r_95_0) ?_
        refine r_ic f_R_meet_313 ?_
        refine r_dup2 f_R_meet_314 ?_
        refine r_iald f_R_meet_315 (s_96) (show q_ix 3 3 136 from ⟨by decide, by decide⟩) ?_
        rw [hRY.s (k := 3) (by decide)]
        refine r_ild4 f_R_meet_316 ?_
        refine r_if_eq f_R_meet_318 (fun _ => ?_) (fun h => absurd h (by decide))
        refine r_ic f_R_meet_325 ?_
        refine r_iadd f_R_meet_326 ?_
        refine r_iast f_R_meet_327 (s_96) (show q_ix 3 3 136 from ⟨by decide, by decide⟩) ?_
        refine r_ret f_R_meet_328 rfl (Nat.le_refl _) (Nat.le_refl _) ?_
        refine hk _ ?_ (gY.u2 rfl)
        unfold sp_pass
        rw [b1, b2]
        first
          | rw [show decide (sp_rem (sp_dr (sp_z (sp_z (sp_z (D.2.2.2.1 2))))) 100 < r 6) = true from decide_eq_true (Int32.not_le.mp h111), p3_ft]
          | rw [show decide (sp_rem (sp_dr (sp_z (sp_z (sp_z (D.2.2.2.1 2))))) 100 < r 6) = false from decide_eq_false (Int32.not_lt.mpr h111), p3_ft]
        exact hT0 hRY
      · refine r_ild5 f_R_meet_114 ?_
        refine r_if_eq f_R_meet_116 (fun h => absurd h (by decide)) (fun _ => ?_)
        refine r_ic f_R_meet_119 ?_
        refine r_goto f_R_meet_120 ?_
        refine r_ist6 f_R_meet_124 rfl ?_
        have gA := (g1.tr g2).tr g3
        have hRA : RR I3 96 (sp_z3 D) := hR3
        refine r_ald0 f_R_meet_126 ?_
        refine r_ild2 f_R_meet_127 ?_
        refine r_ic f_R_meet_128 ?_
        refine r_ald0 f_R_meet_129 ?_
        refine r_ild2 f_R_meet_130 ?_
        refine r_ic f_R_meet_131 ?_
        refine c_R_get f_R_meet_132 (s_95) (Nat.le_of_ble_eq_true rfl) (Nat.le_refl _) (Nat.le_refl _) ?_
        refine k_R_get (k := 5) ho8 (by decide) hRA ?_
        refine r_ild5 f_R_meet_135 ?_
        refine r_if_eq f_R_meet_137 (fun h => absurd h (by decide)) (fun _ => ?_)
        refine r_ald0 f_R_meet_140 ?_
        refine r_gr f_R_meet_141 (s_95) (r_95_34) ?_
        refine r_ic f_R_meet_144 ?_
        refine r_ild1 f_R_meet_146 ?_
        refine r_imul f_R_meet_147 ?_
        refine r_ic f_R_meet_148 ?_
        refine r_iadd f_R_meet_150 ?_
        rw [show (7 : Int32) * nI p + 6 = nI (7 * p + 6) from q_7p p 6]
        refine r_iald f_R_meet_151 (s_108) (q_ix.nI (show 7 * p + 6 < 56 by omega) (by decide)) ?_
        rw [gA 108 (7 * p + 6) (show ¬ (108 : Nat) = 96 by decide), hA 6 (by decide), show ab r 6 = r 5 from rfl]
        refine r_goto f_R_meet_152 ?_
        refine r_isub f_R_meet_156 ?_
        refine c_R_put f_R_meet_157 (s_95) (Nat.le_of_ble_eq_true rfl) (Nat.le_refl _) (Nat.le_refl _) ?_
        refine k_R_put (k := 5) ho8 (by decide) hRA (fun I4 hRB g4 => ?_)
        have gB := gA.tr g4
        have hWB : WFd (eF (sp_z3 D) o 5 ((sp_z3 D).1 o 5 - r 5)) := hWz.pu
        refine r_ild4 f_R_meet_160 ?_
        refine r_if_eq f_R_meet_162 (fun _ => ?_) (fun h => absurd h (by decide))
        refine r_ild4 f_R_meet_234 ?_
        refine r_if_eq f_R_meet_236 (fun _ => ?_) (fun h => absurd h (by decide))
        have hRY := hRB
        have gY := gB
        refine r_ald0 f_R_meet_309 ?_
        refine r_gr f_R_meet_310 (s_95) (r_95_0) ?_
        refine r_ic f_R_meet_313 ?_
        refine r_dup2 f_R_meet_314 ?_
        refine r_iald f_R_meet_315 (s_96) (show q_ix 3 3 136 from ⟨by decide, by decide⟩) ?_
        rw [hRY.s (k := 3) (by decide)]
        refine r_ild4 f_R_meet_316 ?_
        refine r_if_eq f_R_meet_318 (fun _ => ?_) (fun h => absurd h (by decide))
        refine r_ic f_R_meet_325 ?_
        refine r_iadd f_R_meet_326 ?_
        refine r_iast f_R_meet_327 (s_96) (show q_ix 3 3 136 from ⟨by decide, by decide⟩) ?_
        refine r_ret f_R_meet_328 rfl (Nat.le_refl _) (Nat.le_refl _) ?_
        refine hk _ ?_ (gY.u2 rfl)
        unfold sp_pass
        rw [b1, b2]
        first
          | rw [show decide (sp_rem (sp_dr (sp_z (sp_z (sp_z (D.2.2.2.1 2))))) 100 < r 6) = true from decide_eq_true (Int32.not_le.mp h111), p3_ft]
          | rw [show decide (sp_rem (sp_dr (sp_z (sp_z (sp_z (D.2.2.2.1 2))))) 100 < r 6) = false from decide_eq_false (Int32.not_lt.mpr h111), p3_ft]
        exact hT0 hRY
  · have b1 : decide (sp_rem (sp_dr (sp_z (D.2.2.2.1 2))) 1000000 < r 11) = true := decide_eq_true (Int32.not_le.mp h55)
    refine r_ic f_R_meet_58 ?_
    refine r_goto f_R_meet_59 ?_
    refine r_ist4 f_R_meet_63 rfl ?_
    refine r_ald0 f_R_meet_65 ?_
    refine c_R_draw f_R_meet_66 (s_95) (Nat.le_of_ble_eq_true rfl) (Nat.le_refl _) (Nat.le_refl _) ?_
    refine k_R_draw hR1 (fun I2 hR2 g2 => ?_)
    refine r_ic f_R_meet_69 ?_
    refine r_irem f_R_meet_71 (by decide) ?_
    refine r_ald0 f_R_meet_72 ?_
    refine r_gr f_R_meet_73 (s_95) (r_95_34) ?_
    refine r_ic f_R_meet_76 ?_
    refine r_ild1 f_R_meet_78 ?_
    refine r_imul f_R_meet_79 ?_
    refine r_ic f_R_meet_80 ?_
    refine r_iadd f_R_meet_81 ?_
    rw [show (7 : Int32) * nI p + 1 = nI (7 * p + 1) from q_7p p 1]
    refine r_iald f_R_meet_82 (s_108) (q_ix.nI (show 7 * p + 1 < 56 by omega) (by decide)) ?_
    rw [g2 108 (7 * p + 1) (show ¬ (108 : Nat) = 96 by decide), g1 108 (7 * p + 1) (show ¬ (108 : Nat) = 96 by decide), hA 1 (by decide), show ab r 1 = r 12 from rfl]
    refine r_ic_ge f_R_meet_83 (fun h83 => ?_) (fun h83 => ?_)
    · have b2 : decide (sp_rem (sp_dr (sp_z (sp_z (D.2.2.2.1 2)))) 1000000 < r 12) = false := decide_eq_false (Int32.not_lt.mpr h83)
      refine r_ic f_R_meet_90 ?_
      refine r_ist5 f_R_meet_91 rfl ?_
      refine r_ald0 f_R_meet_93 ?_
      refine c_R_draw f_R_meet_94 (s_95) (Nat.le_of_ble_eq_true rfl) (Nat.le_refl _) (Nat.le_refl _) ?_
      refine k_R_draw hR2 (fun I3 hR3 g3 => ?_)
      refine r_ic f_R_meet_97 ?_
      refine r_irem f_R_meet_99 (by decide) ?_
      refine r_ald0 f_R_meet_100 ?_
      refine r_gr f_R_meet_101 (s_95) (r_95_34) ?_
      refine r_ic f_R_meet_104 ?_
      refine r_ild1 f_R_meet_106 ?_
      refine r_imul f_R_meet_107 ?_
      refine r_ic f_R_meet_108 ?_
      refine r_iadd f_R_meet_109 ?_
      rw [show (7 : Int32) * nI p + 2 = nI (7 * p + 2) from q_7p p 2]
      refine r_iald f_R_meet_110 (s_108) (q_ix.nI (show 7 * p + 2 < 56 by omega) (by decide)) ?_
      rw [g3 108 (7 * p + 2) (show ¬ (108 : Nat) = 96 by decide), g2 108 (7 * p + 2) (show ¬ (108 : Nat) = 96 by decide), g1 108 (7 * p + 2) (show ¬ (108 : Nat) = 96 by decide), hA 2 (by decide), show ab r 2 = r 6 from rfl]
      refine r_ic_ge f_R_meet_111 (fun h111 => ?_) (fun h111 => ?_)
      · refine r_ic f_R_meet_123 ?_
        refine r_ist6 f_R_meet_124 rfl ?_
        have gA := (g1.tr g2).tr g3
        have hRA : RR I3 96 (sp_z3 D) := hR3
        refine r_ald0 f_R_meet_126 ?_
        refine r_ild2 f_R_meet_127 ?_
        refine r_ic f_R_meet_128 ?_
        refine r_ald0 f_R_meet_129 ?_
        refine r_ild2 f_R_meet_130 ?_
        refine r_ic f_R_meet_131 ?_
        refine c_R_get f_R_meet_132 (s_95) (Nat.le_of_ble_eq_true rfl) (Nat.le_refl _) (Nat.le_refl _) ?_
        refine k_R_get (k := 5) ho8 (by decide) hRA ?_
        refine r_ild5 f_R_meet_135 ?_
        refine r_if_eq f_R_meet_137 (fun _ => ?_) (fun h => absurd h (by decide))
        refine r_ic f_R_meet_155 ?_
        refine r_isub f_R_meet_156 ?_
        rw [Int32.sub_zero]
        refine c_R_put f_R_meet_157 (s_95) (Nat.le_of_ble_eq_true rfl) (Nat.le_refl _) (Nat.le_refl _) ?_
        refine k_R_put (k := 5) ho8 (by decide) hRA (fun I4 hRB g4 => ?_)
        have gB := gA.tr g4
        rw [eF_id] at hRB
        have hWB := hWz
        refine r_ild4 f_R_meet_160 ?_
        refine r_if_eq f_R_meet_162 (fun h => absurd h (by decide)) (fun _ => ?_)
        refine r_ild6 f_R_meet_165 ?_
        refine r_if_eq f_R_meet_167 (fun _ => ?_) (fun h => absurd h (by decide))
        refine r_ild4 f_R_meet_234 ?_
        refine r_if_eq f_R_meet_236 (fun h => absurd h (by decide)) (fun _ => ?_)
        refine r_ald0 f_R_meet_239 ?_
        refine r_ild3 f_R_meet_240 ?_
        refine r_ic f_R_meet_241 ?_
        refine r_ald0 f_R_meet_242 ?_
        refine r_ild3 f_R_meet_243 ?_
        refine r_ic f_R_meet_244 ?_
        refine c_R_get f_R_meet_245 (s_95) (Nat.le_of_ble_eq_true rfl) (Nat.le_refl _) (Nat.le_refl _) ?_
        refine k_R_get (k := 5) ht8 (by decide) hRB ?_
        refine r_ald0 f_R_meet_248 ?_
        refine r_gr f_R_meet_249 (s_95) (r_95_34) ?_
        refine r_ic f_R_meet_252 ?_
        refine r_ild1 f_R_meet_254 ?_
        refine r_imul f_R_meet_255 ?_
        refine r_ic f_R_meet_256 ?_
        refine r_iadd f_R_meet_257 ?_
        rw [show (7 : Int32) * nI p + 3 = nI (7 * p + 3) from q_7p p 3]
        refine r_iald f_R_meet_258 (s_108) (q_ix.nI (show 7 * p + 3 < 56 by omega) (by decide)) ?_
        rw [gB 108 (7 * p + 3) (show ¬ (108 : Nat) = 96 by decide), hA 3 (by decide), show ab r 3 = r 2 from rfl]
        refine r_iadd f_R_meet_259 ?_
        refine c_R_put f_R_meet_260 (s_95) (Nat.le_of_ble_eq_true rfl) (Nat.le_refl _) (Nat.le_refl _) ?_
        refine k_R_put (k := 5) ht8 (by decide) hRB (fun I5 hR5 g5 => ?_)
        refine r_ald0 f_R_meet_263 ?_
        refine r_ild2 f_R_meet_264 ?_
        refine r_ic f_R_meet_265 ?_
        refine r_ald0 f_R_meet_266 ?_
        refine r_ild2 f_R_meet_267 ?_
        refine r_ic f_R_meet_268 ?_
        refine c_R_get f_R_meet_269 (s_95) (Nat.le_of_ble_eq_true rfl) (Nat.le_refl _) (Nat.le_refl _) ?_
        refine k_R_get (k := 5) ho8 (by decide) hR5 ?_
        refine r_ald0 f_R_meet_272 ?_
        refine r_gr f_R_meet_273 (s_95) (r_95_34) ?_
        refine r_ic f_R_meet_276 ?_
        refine r_ild1 f_R_meet_278 ?_
        refine r_imul f_R_meet_279 ?_
        refine r_ic f_R_meet_280 ?_
        refine r_iadd f_R_meet_281 ?_
        rw [show (7 : Int32) * nI p + 4 = nI (7 * p + 4) from q_7p p 4]
        refine r_iald f_R_meet_282 (s_108) (q_ix.nI (show 7 * p + 4 < 56 by omega) (by decide)) ?_
        rw [g5 108 (7 * p + 4) (show ¬ (108 : Nat) = 96 by decide), gB 108 (7 * p + 4) (show ¬ (108 : Nat) = 96 by decide), hA 4 (by decide), show ab r 4 = r 3 from rfl]
        refine r_isub f_R_meet_283 ?_
        refine c_R_put f_R_meet_284 (s_95) (Nat.le_of_ble_eq_true rfl) (Nat.le_refl _) (Nat.le_refl _) ?_
        refine k_R_put (k := 5) ho8 (by decide) hR5 (fun I6 hR6 g6 => ?_)
        refine r_ald0 f_R_meet_287 ?_
        refine r_ild2 f_R_meet_288 ?_
        refine r_ic f_R_meet_289 ?_
        refine r_ald0 f_R_meet_291 ?_
        refine r_ild2 f_R_meet_292 ?_
        refine r_ic f_R_meet_293 ?_
        refine c_R_get f_R_meet_295 (s_95) (Nat.le_of_ble_eq_true rfl) (Nat.le_refl _) (Nat.le_refl _) ?_
        refine k_R_get (k := 6) ho8 (by decide) hR6 ?_
        refine r_ic f_R_meet_298 ?_
        refine r_iadd f_R_meet_299 ?_
        refine r_ic f_R_meet_300 ?_
        refine r_ic f_R_meet_301 ?_
        refine c_R_within f_R_meet_303 (Nat.le_of_ble_eq_true rfl) (Nat.le_refl _) (Nat.le_refl _) ?_
        refine k_R_within ?_
        rw [q_up9w ((WFd.pu (WFd.pu hWB)).fs o 6 ho (by decide) (by decide))]
        refine c_R_put f_R_meet_306 (s_95) (Nat.le_of_ble_eq_true rfl) (Nat.le_refl _) (Nat.le_refl _) ?_
        refine k_R_put (k := 6) ho8 (by decide) hR6 (fun I7 hR7 g7 => ?_)
        have hRY := hR7
        have gY := ((gB.tr g5).tr g6).tr g7
        refine r_ald0 f_R_meet_309 ?_
        refine r_gr f_R_meet_310 (s_95) (r_95_0) ?_
        refine r_ic f_R_meet_313 ?_
        refine r_dup2 f_R_meet_314 ?_
        refine r_iald f_R_meet_315 (s_96) (show q_ix 3 3 136 from ⟨by decide, by decide⟩) ?_
        rw [hRY.s (k := 3) (by decide)]
        refine r_ild4 f_R_meet_316 ?_
        refine r_if_eq f_R_meet_318 (fun h => absurd h (by decide)) (fun _ => ?_)
        refine r_ic f_R_meet_321 ?_
        refine r_goto f_R_meet_322 ?_
        refine r_iadd f_R_meet_326 ?_
        refine r_iast f_R_meet_327 (s_96) (show q_ix 3 3 136 from ⟨by decide, by decide⟩) ?_
        refine r_ret f_R_meet_328 rfl (Nat.le_refl _) (Nat.le_refl _) ?_
        refine hk _ ?_ (gY.u2 rfl)
        unfold sp_pass
        rw [b1, b2]
        first
          | rw [show decide (sp_rem (sp_dr (sp_z (sp_z (sp_z (D.2.2.2.1 2))))) 100 < r 6) = true from decide_eq_true (Int32.not_le.mp h111), p3_tf]
          | rw [show decide (sp_rem (sp_dr (sp_z (sp_z (sp_z (D.2.2.2.1 2))))) 100 < r 6) = false from decide_eq_false (Int32.not_lt.mpr h111), p3_tf]
        exact hT2 (D := sp_z3 D) (r := r) (o := o) (t := t) hRY
      · refine r_ild5 f_R_meet_114 ?_
        refine r_if_eq f_R_meet_116 (fun _ => ?_) (fun h => absurd h (by decide))
        refine r_ic f_R_meet_123 ?_
        refine r_ist6 f_R_meet_124 rfl ?_
        have gA := (g1.tr g2).tr g3
        have hRA : RR I3 96 (sp_z3 D) := hR3
        refine r_ald0 f_R_meet_126 ?_
        refine r_ild2 f_R_meet_127 ?_
        refine r_ic f_R_meet_128 ?_
        refine r_ald0 f_R_meet_129 ?_
        refine r_ild2 f_R_meet_130 ?_
        refine r_ic f_R_meet_131 ?_
        refine c_R_get f_R_meet_132 (s_95) (Nat.le_of_ble_eq_true rfl) (Nat.le_refl _) (Nat.le_refl _) ?_
        refine k_R_get (k := 5) ho8 (by decide) hRA ?_
        refine r_ild5 f_R_meet_135 ?_
        refine r_if_eq f_R_meet_137 (fun _ => ?_) (fun h => absurd h (by decide))
        refine r_ic f_R_meet_155 ?_
        refine r_isub f_R_meet_156 ?_
        rw [Int32.sub_zero]
        refine c_R_put f_R_meet_157 (s_95) (Nat.le_of_ble_eq_true rfl) (Nat.le_refl _) (Nat.le_refl _) ?_
        refine k_R_put (k := 5) ho8 (by decide) hRA (fun I4 hRB g4 => ?_)
        have gB := gA.tr g4
        rw [eF_id] at hRB
        have hWB := hWz
        refine r_ild4 f_R_meet_160 ?_
        refine r_if_eq f_R_meet_162 (fun h => absurd h (by decide)) (fun _ => ?_)
        refine r_ild6 f_R_meet_165 ?_
        refine r_if_eq f_R_meet_167 (fun _ => ?_) (fun h => absurd h (by decide))
        refine r_ild4 f_R_meet_234 ?_
        refine r_if_eq f_R_meet_236 (fun h => absurd h (by decide)) (fun _ => ?_)
        refine r_ald0 f_R_meet_239 ?_
        refine r_ild3 f_R_meet_240 ?_
        refine r_ic f_R_meet_241 ?_
        refine r_ald0 f_R_meet_242 ?_
        refine r_ild3 f_R_meet_243 ?_
        refine r_ic f_R_meet_244 ?_
        refine c_R_get f_R_meet_245 (s_95) (Nat.le_of_ble_eq_true rfl) (Nat.le_refl _) (Nat.le_refl _) ?_
        refine k_R_get (k := 5) ht8 (by decide) hRB ?_
        refine r_ald0 f_R_meet_248 ?_
        refine r_gr f_R_meet_249 (s_95) (r_95_34) ?_
        refine r_ic f_R_meet_252 ?_
        refine r_ild1 f_R_meet_254 ?_
        refine r_imul f_R_meet_255 ?_
        refine r_ic f_R_meet_256 ?_
        refine r_iadd f_R_meet_257 ?_
        rw [show (7 : Int32) * nI p + 3 = nI (7 * p + 3) from q_7p p 3]
        refine r_iald f_R_meet_258 (s_108) (q_ix.nI (show 7 * p + 3 < 56 by omega) (by decide)) ?_
        rw [gB 108 (7 * p + 3) (show ¬ (108 : Nat) = 96 by decide), hA 3 (by decide), show ab r 3 = r 2 from rfl]
        refine r_iadd f_R_meet_259 ?_
        refine c_R_put f_R_meet_260 (s_95) (Nat.le_of_ble_eq_true rfl) (Nat.le_refl _) (Nat.le_refl _) ?_
        refine k_R_put (k := 5) ht8 (by decide) hRB (fun I5 hR5 g5 => ?_)
        refine r_ald0 f_R_meet_263 ?_
        refine r_ild2 f_R_meet_264 ?_
        refine r_ic f_R_meet_265 ?_
        refine r_ald0 f_R_meet_266 ?_
        refine r_ild2 f_R_meet_267 ?_
        refine r_ic f_R_meet_268 ?_
        refine c_R_get f_R_meet_269 (s_95) (Nat.le_of_ble_eq_true rfl) (Nat.le_refl _) (Nat.le_refl _) ?_
        refine k_R_get (k := 5) ho8 (by decide) hR5 ?_
        refine r_ald0 f_R_meet_272 ?_
        refine r_gr f_R_meet_273 (s_95) (r_95_34) ?_
        refine r_ic f_R_meet_276 ?_
        refine r_ild1 f_R_meet_278 ?_
        refine r_imul f_R_meet_279 ?_
        refine r_ic f_R_meet_280 ?_
        refine r_iadd f_R_meet_281 ?_
        rw [show (7 : Int32) * nI p + 4 = nI (7 * p + 4) from q_7p p 4]
        refine r_iald f_R_meet_282 (s_108) (q_ix.nI (show 7 * p + 4 < 56 by omega) (by decide)) ?_
        rw [g5 108 (7 * p + 4) (show ¬ (108 : Nat) = 96 by decide), gB 108 (7 * p + 4) (show ¬ (108 : Nat) = 96 by decide), hA 4 (by decide), show ab r 4 = r 3 from rfl]
        refine r_isub f_R_meet_283 ?_
        refine c_R_put f_R_meet_284 (s_95) (Nat.le_of_ble_eq_true rfl) (Nat.le_refl _) (Nat.le_refl _) ?_
        refine k_R_put (k := 5) ho8 (by decide) hR5 (fun I6 hR6 g6 => ?_)
        refine r_ald0 f_R_meet_287 ?_
        refine r_ild2 f_R_meet_288 ?_
        refine r_ic f_R_meet_289 ?_
        refine r_ald0 f_R_meet_291 ?_
        refine r_ild2 f_R_meet_292 ?_
        refine r_ic f_R_meet_293 ?_
        refine c_R_get f_R_meet_295 (s_95) (Nat.le_of_ble_eq_true rfl) (Nat.le_refl _) (Nat.le_refl _) ?_
        refine k_R_get (k := 6) ho8 (by decide) hR6 ?_
        refine r_ic f_R_meet_298 ?_
        refine r_iadd f_R_meet_299 ?_
        refine r_ic f_R_meet_300 ?_
        refine r_ic f_R_meet_301 ?_
        refine c_R_within f_R_meet_303 (Nat.le_of_ble_eq_true rfl) (Nat.le_refl _) (Nat.le_refl _) ?_
        refine k_R_within ?_
        rw [q_up9w ((WFd.pu (WFd.pu hWB)).fs o 6 ho (by decide) (by decide))]
        refine c_R_put f_R_meet_306 (s_95) (Nat.le_of_ble_eq_true rfl) (Nat.le_refl _) (Nat.le_refl _) ?_
        refine k_R_put (k := 6) ho8 (by decide) hR6 (fun I7 hR7 g7 => ?_)
        have hRY := hR7
        have gY := ((gB.tr g5).tr g6).tr g7
        refine r_ald0 f_R_meet_309 ?_
        refine r_gr f_R_meet_310 (s_95) (r_95_0) ?_
        refine r_ic f_R_meet_313 ?_
        refine r_dup2 f_R_meet_314 ?_
        refine r_iald f_R_meet_315 (s_96) (show q_ix 3 3 136 from ⟨by decide, by decide⟩) ?_
        rw [hRY.s (k := 3) (by decide)]
        refine r_ild4 f_R_meet_316 ?_
        refine r_if_eq f_R_meet_318 (fun h => absurd h (by decide)) (fun _ => ?_)
        refine r_ic f_R_meet_321 ?_
        refine r_goto f_R_meet_322 ?_
        refine r_iadd f_R_meet_326 ?_
        refine r_iast f_R_meet_327 (s_96) (show q_ix 3 3 136 from ⟨by decide, by decide⟩) ?_
        refine r_ret f_R_meet_328 rfl (Nat.le_refl _) (Nat.le_refl _) ?_
        refine hk _ ?_ (gY.u2 rfl)
        unfold sp_pass
        rw [b1, b2]
        first
          | rw [show decide (sp_rem (sp_dr (sp_z (sp_z (sp_z (D.2.2.2.1 2))))) 100 < r 6) = true from decide_eq_true (Int32.not_le.mp h111), p3_tf]
          | rw [show decide (sp_rem (sp_dr (sp_z (sp_z (sp_z (D.2.2.2.1 2))))) 100 < r 6) = false from decide_eq_false (Int32.not_lt.mpr h111), p3_tf]
        exact hT2 (D := sp_z3 D) (r := r) (o := o) (t := t) hRY
    · have b2 : decide (sp_rem (sp_dr (sp_z (sp_z (D.2.2.2.1 2)))) 1000000 < r 12) = true := decide_eq_true (Int32.not_le.mp h83)
      refine r_ic f_R_meet_86 ?_
      refine r_goto f_R_meet_87 ?_
      refine r_ist5 f_R_meet_91 rfl ?_
      refine r_ald0 f_R_meet_93 ?_
      refine c_R_draw f_R_meet_94 (s_95) (Nat.le_of_ble_eq_true rfl) (Nat.le_refl _) (Nat.le_refl _) ?_
      refine k_R_draw hR2 (fun I3 hR3 g3 => ?_)
      refine r_ic f_R_meet_97 ?_
      refine r_irem f_R_meet_99 (by decide) ?_
      refine r_ald0 f_R_meet_100 ?_
      refine r_gr f_R_meet_101 (s_95) (r_95_34) ?_
      refine r_ic f_R_meet_104 ?_
      refine r_ild1 f_R_meet_106 ?_
      refine r_imul f_R_meet_107 ?_
      refine r_ic f_R_meet_108 ?_
      refine r_iadd f_R_meet_109 ?_
      rw [show (7 : Int32) * nI p + 2 = nI (7 * p + 2) from q_7p p 2]
      refine r_iald f_R_meet_110 (s_108) (q_ix.nI (show 7 * p + 2 < 56 by omega) (by decide)) ?_
      rw [g3 108 (7 * p + 2) (show ¬ (108 : Nat) = 96 by decide), g2 108 (7 * p + 2) (show ¬ (108 : Nat) = 96 by decide), g1 108 (7 * p + 2) (show ¬ (108 : Nat) = 96 by decide), hA 2 (by decide), show ab r 2 = r 6 from rfl]
      refine r_ic_ge f_R_meet_111 (fun h111 => ?_) (fun h111 => ?_)
      · refine r_ic f_R_meet_123 ?_
        refine r_ist6 f_R_meet_124 rfl ?_
        have gA := (g1.tr g2).tr g3
        have hRA : RR I3 96 (sp_z3 D) := hR3
        refine r_ald0 f_R_meet_126 ?_
        refine r_ild2 f_R_meet_127 ?_
        refine r_ic f_R_meet_128 ?_
        refine r_ald0 f_R_meet_129 ?_
        refine r_ild2 f_R_meet_130 ?_
        refine r_ic f_R_meet_131 ?_
        refine c_R_get f_R_meet_132 (s_95) (Nat.le_of_ble_eq_true rfl) (Nat.le_refl _) (Nat.le_refl _) ?_
        refine k_R_get (k := 5) ho8 (by decide) hRA ?_
        refine r_ild5 f_R_meet_135 ?_
        refine r_if_eq f_R_meet_137 (fun h => absurd h (by decide)) (fun _ => ?_)
        refine r_ald0 f_R_meet_140 ?_
        refine r_gr f_R_meet_141 (s_95) (r_95_34) ?_
        refine r_ic f_R_meet_144 ?_
        refine r_ild1 f_R_meet_146 ?_
        refine r_imul f_R_meet_147 ?_
        refine r_ic f_R_meet_148 ?_
        refine r_iadd f_R_meet_150 ?_
        rw [show (7 : Int32) * nI p + 6 = nI (7 * p + 6) from q_7p p 6]
        refine r_iald f_R_meet_151 (s_108) (q_ix.nI (show 7 * p + 6 < 56 by omega) (by decide)) ?_
        rw [gA 108 (7 * p + 6) (show ¬ (108 : Nat) = 96 by decide), hA 6 (by decide), show ab r 6 = r 5 from rfl]
        refine r_goto f_R_meet_152 ?_
        refine r_isub f_R_meet_156 ?_
        refine c_R_put f_R_meet_157 (s_95) (Nat.le_of_ble_eq_true rfl) (Nat.le_refl _) (Nat.le_refl _) ?_
        refine k_R_put (k := 5) ho8 (by decide) hRA (fun I4 hRB g4 => ?_)
        have gB := gA.tr g4
        have hWB : WFd (eF (sp_z3 D) o 5 ((sp_z3 D).1 o 5 - r 5)) := hWz.pu
        refine r_ild4 f_R_meet_160 ?_
        refine r_if_eq f_R_meet_162 (fun h => absurd h (by decide)) (fun _ => ?_)
        refine r_ild6 f_R_meet_165 ?_
        refine r_if_eq f_R_meet_167 (fun _ => ?_) (fun h => absurd h (by decide))
        refine r_ild4 f_R_meet_234 ?_
        refine r_if_eq f_R_meet_236 (fun h => absurd h (by decide)) (fun _ => ?_)
        refine r_ald0 f_R_meet_239 ?_
        refine r_ild3 f_R_meet_240 ?_
        refine r_ic f_R_meet_241 ?_
        refine r_ald0 f_R_meet_242 ?_
        refine r_ild3 f_R_meet_243 ?_
        refine r_ic f_R_meet_244 ?_
        refine c_R_get f_R_meet_245 (s_95) (Nat.le_of_ble_eq_true rfl) (Nat.le_refl _) (Nat.le_refl _) ?_
        refine k_R_get (k := 5) ht8 (by decide) hRB ?_
        refine r_ald0 f_R_meet_248 ?_
        refine r_gr f_R_meet_249 (s_95) (r_95_34) ?_
        refine r_ic f_R_meet_252 ?_
        refine r_ild1 f_R_meet_254 ?_
        refine r_imul f_R_meet_255 ?_
        refine r_ic f_R_meet_256 ?_
        refine r_iadd f_R_meet_257 ?_
        rw [show (7 : Int32) * nI p + 3 = nI (7 * p + 3) from q_7p p 3]
        refine r_iald f_R_meet_258 (s_108) (q_ix.nI (show 7 * p + 3 < 56 by omega) (by decide)) ?_
        rw [gB 108 (7 * p + 3) (show ¬ (108 : Nat) = 96 by decide), hA 3 (by decide), show ab r 3 = r 2 from rfl]
        refine r_iadd f_R_meet_259 ?_
        refine c_R_put f_R_meet_260 (s_95) (Nat.le_of_ble_eq_true rfl) (Nat.le_refl _) (Nat.le_refl _) ?_
        refine k_R_put (k := 5) ht8 (by decide) hRB (fun I5 hR5 g5 => ?_)
        refine r_ald0 f_R_meet_263 ?_
        refine r_ild2 f_R_meet_264 ?_
        refine r_ic f_R_meet_265 ?_
        refine r_ald0 f_R_meet_266 ?_
        refine r_ild2 f_R_meet_267 ?_
        refine r_ic f_R_meet_268 ?_
        refine c_R_get f_R_meet_269 (s_95) (Nat.le_of_ble_eq_true rfl) (Nat.le_refl _) (Nat.le_refl _) ?_
        refine k_R_get (k := 5) ho8 (by decide) hR5 ?_
        refine r_ald0 f_R_meet_272 ?_
        refine r_gr f_R_meet_273 (s_95) (r_95_34) ?_
        refine r_ic f_R_meet_276 ?_
        refine r_ild1 f_R_meet_278 ?_
        refine r_imul f_R_meet_279 ?_
        refine r_ic f_R_meet_280 ?_
        refine r_iadd f_R_meet_281 ?_
        rw [show (7 : Int32) * nI p + 4 = nI (7 * p + 4) from q_7p p 4]
        refine r_iald f_R_meet_282 (s_108) (q_ix.nI (show 7 * p + 4 < 56 by omega) (by decide)) ?_
        rw [g5 108 (7 * p + 4) (show ¬ (108 : Nat) = 96 by decide), gB 108 (7 * p + 4) (show ¬ (108 : Nat) = 96 by decide), hA 4 (by decide), show ab r 4 = r 3 from rfl]
        refine r_isub f_R_meet_283 ?_
        refine c_R_put f_R_meet_284 (s_95) (Nat.le_of_ble_eq_true rfl) (Nat.le_refl _) (Nat.le_refl _) ?_
        refine k_R_put (k := 5) ho8 (by decide) hR5 (fun I6 hR6 g6 => ?_)
        refine r_ald0 f_R_meet_287 ?_
        refine r_ild2 f_R_meet_288 ?_
        refine r_ic f_R_meet_289 ?_
        refine r_ald0 f_R_meet_291 ?_
        refine r_ild2 f_R_meet_292 ?_
        refine r_ic f_R_meet_293 ?_
        refine c_R_get f_R_meet_295 (s_95) (Nat.le_of_ble_eq_true rfl) (Nat.le_refl _) (Nat.le_refl _) ?_
        refine k_R_get (k := 6) ho8 (by decide) hR6 ?_
        refine r_ic f_R_meet_298 ?_
        refine r_iadd f_R_meet_299 ?_
        refine r_ic f_R_meet_300 ?_
        refine r_ic f_R_meet_301 ?_
        refine c_R_within f_R_meet_303 (Nat.le_of_ble_eq_true rfl) (Nat.le_refl _) (Nat.le_refl _) ?_
        refine k_R_within ?_
        rw [q_up9w ((WFd.pu (WFd.pu hWB)).fs o 6 ho (by decide) (by decide))]
        refine c_R_put f_R_meet_306 (s_95) (Nat.le_of_ble_eq_true rfl) (Nat.le_refl _) (Nat.le_refl _) ?_
        refine k_R_put (k := 6) ho8 (by decide) hR6 (fun I7 hR7 g7 => ?_)
        have hRY := hR7
        have gY := ((gB.tr g5).tr g6).tr g7
        refine r_ald0 f_R_meet_309 ?_
        refine r_gr f_R_meet_310 (s_95) (r_95_0) ?_
        refine r_ic f_R_meet_313 ?_
        refine r_dup2 f_R_meet_314 ?_
        refine r_iald f_R_meet_315 (s_96) (show q_ix 3 3 136 from ⟨by decide, by decide⟩) ?_
        rw [hRY.s (k := 3) (by decide)]
        refine r_ild4 f_R_meet_316 ?_
        refine r_if_eq f_R_meet_318 (fun h => absurd h (by decide)) (fun _ => ?_)
        refine r_ic f_R_meet_321 ?_
        refine r_goto f_R_meet_322 ?_
        refine r_iadd f_R_meet_326 ?_
        refine r_iast f_R_meet_327 (s_96) (show q_ix 3 3 136 from ⟨by decide, by decide⟩) ?_
        refine r_ret f_R_meet_328 rfl (Nat.le_refl _) (Nat.le_refl _) ?_
        refine hk _ ?_ (gY.u2 rfl)
        unfold sp_pass
        rw [b1, b2]
        first
          | rw [show decide (sp_rem (sp_dr (sp_z (sp_z (sp_z (D.2.2.2.1 2))))) 100 < r 6) = false from decide_eq_false (Int32.not_lt.mpr h111), p3_ttf]
        exact hT2 (D := (eF (sp_z3 D) o 5 ((sp_z3 D).1 o 5 - r 5))) (r := r) (o := o) (t := t) hRY
      · refine r_ild5 f_R_meet_114 ?_
        refine r_if_eq f_R_meet_116 (fun h => absurd h (by decide)) (fun _ => ?_)
        refine r_ic f_R_meet_119 ?_
        refine r_goto f_R_meet_120 ?_
        refine r_ist6 f_R_meet_124 rfl ?_
        have gA := (g1.tr g2).tr g3
        have hRA : RR I3 96 (sp_z3 D) := hR3
        refine r_ald0 f_R_meet_126 ?_
        refine r_ild2 f_R_meet_127 ?_
        refine r_ic f_R_meet_128 ?_
        refine r_ald0 f_R_meet_129 ?_
        refine r_ild2 f_R_meet_130 ?_
        refine r_ic f_R_meet_131 ?_
        refine c_R_get f_R_meet_132 (s_95) (Nat.le_of_ble_eq_true rfl) (Nat.le_refl _) (Nat.le_refl _) ?_
        refine k_R_get (k := 5) ho8 (by decide) hRA ?_
        refine r_ild5 f_R_meet_135 ?_
        refine r_if_eq f_R_meet_137 (fun h => absurd h (by decide)) (fun _ => ?_)
        refine r_ald0 f_R_meet_140 ?_
        refine r_gr f_R_meet_141 (s_95) (r_95_34) ?_
        refine r_ic f_R_meet_144 ?_
        refine r_ild1 f_R_meet_146 ?_
        refine r_imul f_R_meet_147 ?_
        refine r_ic f_R_meet_148 ?_
        refine r_iadd f_R_meet_150 ?_
        rw [show (7 : Int32) * nI p + 6 = nI (7 * p + 6) from q_7p p 6]
        refine r_iald f_R_meet_151 (s_108) (q_ix.nI (show 7 * p + 6 < 56 by omega) (by decide)) ?_
        rw [gA 108 (7 * p + 6) (show ¬ (108 : Nat) = 96 by decide), hA 6 (by decide), show ab r 6 = r 5 from rfl]
        refine r_goto f_R_meet_152 ?_
        refine r_isub f_R_meet_156 ?_
        refine c_R_put f_R_meet_157 (s_95) (Nat.le_of_ble_eq_true rfl) (Nat.le_refl _) (Nat.le_refl _) ?_
        refine k_R_put (k := 5) ho8 (by decide) hRA (fun I4 hRB g4 => ?_)
        have gB := gA.tr g4
        have hWB : WFd (eF (sp_z3 D) o 5 ((sp_z3 D).1 o 5 - r 5)) := hWz.pu
        refine r_ild4 f_R_meet_160 ?_
        refine r_if_eq f_R_meet_162 (fun h => absurd h (by decide)) (fun _ => ?_)
        refine r_ild6 f_R_meet_165 ?_
        refine r_if_eq f_R_meet_167 (fun h => absurd h (by decide)) (fun _ => ?_)
        refine r_ald0 f_R_meet_170 ?_
        refine r_ild3 f_R_meet_171 ?_
        refine r_ic f_R_meet_172 ?_
        refine r_ald0 f_R_meet_173 ?_
        refine r_ild3 f_R_meet_174 ?_
        refine r_ic f_R_meet_175 ?_
        refine c_R_get f_R_meet_176 (s_95) (Nat.le_of_ble_eq_true rfl) (Nat.le_refl _) (Nat.le_refl _) ?_
        refine k_R_get (k := 5) ht8 (by decide) hRB ?_
        refine r_ald0 f_R_meet_179 ?_
        refine r_gr f_R_meet_180 (s_95) (r_95_0) ?_
        refine r_ic f_R_meet_183 ?_
        refine r_iald f_R_meet_184 (s_96) (show q_ix 5 5 136 from ⟨by decide, by decide⟩) ?_
        rw [hRB.u (k := 0) (by decide)]
        refine r_isub f_R_meet_185 ?_
        refine c_R_put f_R_meet_186 (s_95) (Nat.le_of_ble_eq_true rfl) (Nat.le_refl _) (Nat.le_refl _) ?_
        refine k_R_put (k := 5) ht8 (by decide) hRB (fun I5 hR5 g5 => ?_)
        refine r_ald0 f_R_meet_189 ?_
        refine r_ild2 f_R_meet_190 ?_
        refine r_ic f_R_meet_191 ?_
        refine r_ald0 f_R_meet_192 ?_
        refine r_ild2 f_R_meet_193 ?_
        refine r_ic f_R_meet_194 ?_
        refine c_R_get f_R_meet_195 (s_95) (Nat.le_of_ble_eq_true rfl) (Nat.le_refl _) (Nat.le_refl _) ?_
        refine k_R_get (k := 5) ho8 (by decide) hR5 ?_
        refine r_ald0 f_R_meet_198 ?_
        refine r_gr f_R_meet_199 (s_95) (r_95_34) ?_
        refine r_ic f_R_meet_202 ?_
        refine r_ild1 f_R_meet_204 ?_
        refine r_imul f_R_meet_205 ?_
        refine r_ic f_R_meet_206 ?_
        refine r_iadd f_R_meet_207 ?_
        rw [show (7 : Int32) * nI p + 5 = nI (7 * p + 5) from q_7p p 5]
        refine r_iald f_R_meet_208 (s_108) (q_ix.nI (show 7 * p + 5 < 56 by omega) (by decide)) ?_
        rw [g5 108 (7 * p + 5) (show ¬ (108 : Nat) = 96 by decide), gB 108 (7 * p + 5) (show ¬ (108 : Nat) = 96 by decide), hA 5 (by decide), show ab r 5 = r 4 from rfl]
        refine r_iadd f_R_meet_209 ?_
        refine c_R_put f_R_meet_210 (s_95) (Nat.le_of_ble_eq_true rfl) (Nat.le_refl _) (Nat.le_refl _) ?_
        refine k_R_put (k := 5) ho8 (by decide) hR5 (fun I6 hR6 g6 => ?_)
        refine r_ald0 f_R_meet_213 ?_
        refine r_ild3 f_R_meet_214 ?_
        refine r_ic f_R_meet_215 ?_
        refine r_ic f_R_meet_217 ?_
        refine c_R_put f_R_meet_218 (s_95) (Nat.le_of_ble_eq_true rfl) (Nat.le_refl _) (Nat.le_refl _) ?_
        refine k_R_put (k := 6) ht8 (by decide) hR6 (fun I7 hR7 g7 => ?_)
        refine r_ald0 f_R_meet_221 ?_
        refine r_gr f_R_meet_222 (s_95) (r_95_0) ?_
        refine r_ic f_R_meet_225 ?_
        refine r_dup2 f_R_meet_226 ?_
        refine r_iald f_R_meet_227 (s_96) (show q_ix 4 4 136 from ⟨by decide, by decide⟩) ?_
        rw [show I7 96 4 = (eF (sp_z3 D) o 5 ((sp_z3 D).1 o 5 - r 5)).2.2.2.1 4 from hR7.s (k := 4) (by decide)]
        refine r_ic f_R_meet_228 ?_
        refine r_iadd f_R_meet_229 ?_
        refine r_iast f_R_meet_230 (s_96) (show q_ix 4 4 136 from ⟨by decide, by decide⟩) ?_
        refine r_goto f_R_meet_231 ?_
        have hRY := hR7.toS (k := 4) (y := 4) (v := (eF (sp_z3 D) o 5 ((sp_z3 D).1 o 5 - r 5)).2.2.2.1 4 + 1) (by decide) rfl
        have gY := (((gB.tr g5).tr g6).tr g7).u2 (i := 96) (j := 4) (v := (eF (sp_z3 D) o 5 ((sp_z3 D).1 o 5 - r 5)).2.2.2.1 4 + 1) rfl
        refine r_ald0 f_R_meet_309 ?_
        refine r_gr f_R_meet_310 (s_95) (r_95_0) ?_
        refine r_ic f_R_meet_313 ?_
        refine r_dup2 f_R_meet_314 ?_
        refine r_iald f_R_meet_315 (s_96) (show q_ix 3 3 136 from ⟨by decide, by decide⟩) ?_
        rw [hRY.s (k := 3) (by decide), s3_seen]
        refine r_ild4 f_R_meet_316 ?_
        refine r_if_eq f_R_meet_318 (fun h => absurd h (by decide)) (fun _ => ?_)
        refine r_ic f_R_meet_321 ?_
        refine r_goto f_R_meet_322 ?_
        refine r_iadd f_R_meet_326 ?_
        refine r_iast f_R_meet_327 (s_96) (show q_ix 3 3 136 from ⟨by decide, by decide⟩) ?_
        refine r_ret f_R_meet_328 rfl (Nat.le_refl _) (Nat.le_refl _) ?_
        refine hk _ ?_ (gY.u2 rfl)
        unfold sp_pass
        rw [b1, b2]
        first
          | rw [show decide (sp_rem (sp_dr (sp_z (sp_z (sp_z (D.2.2.2.1 2))))) 100 < r 6) = true from decide_eq_true (Int32.not_le.mp h111), p3_ttt]
        exact hT1 (D := (eF (sp_z3 D) o 5 ((sp_z3 D).1 o 5 - r 5))) (r := r) (o := o) (t := t) hRY
theorem k_R_meet {p : Nat} {r : Nat → Int32} (hp : p < dC D) (hA : AB I p 7 r) (hR : RR I 96 D) (hW : WFd D) (hk : ∀ I', RR I' 96 (sp_pass D r (dO D p) (dO D (sp_nx D p))) → q_ag G96 I I' → K none SH RF I' L) : WW G (d + 1) mt_R_meet 0 [some (.ref 95), some (.int (nI p)), none, none, none, none, none] [] SH RF I L 0 0 0 0 K := by
  have hc8 := hW.1.1
  have hn := sp_nx_lt (D := D) (p := p) (by omega)
  obtain ⟨a1, a2⟩ := hW.2.1 p hp
  obtain ⟨b1, b2⟩ := hW.2.1 _ hn
  refine r_ald0 f_R_meet_0 ?_
  refine r_gr f_R_meet_1 (s_95) (r_95_0) ?_
  refine r_ic f_R_meet_4 ?_
  refine r_ild1 f_R_meet_6 ?_
  refine r_iadd f_R_meet_7 ?_
  rw [show (68 : Int32) + nI p = nI (68 + p) from nI_add 68 p]
  refine r_iald f_R_meet_8 (s_96) (q_ix.nI (show 68 + p < 136 by omega) (by decide)) ?_
  rw [hR.o (p := p) (by omega), a2]
  refine r_ist2 f_R_meet_9 rfl ?_
  refine r_ald0 f_R_meet_10 ?_
  refine r_gr f_R_meet_11 (s_95) (r_95_0) ?_
  refine r_ic f_R_meet_14 ?_
  refine r_ild1 f_R_meet_16 ?_
  refine r_ic f_R_meet_17 ?_
  refine r_iadd f_R_meet_18 ?_
  rw [nI_1]
  refine r_ald0 f_R_meet_19 ?_
  refine r_gr f_R_meet_20 (s_95) (r_95_0) ?_
  refine r_ic f_R_meet_23 ?_
  refine r_iald f_R_meet_25 (s_96) (show q_ix 10 10 136 from ⟨by decide, by decide⟩) ?_
  rw [hR.cnt hW]
  refine r_ic_ne f_R_meet_26 (fun h26 => ?_) (fun h26 => ?_)
  · have en : sp_nx D p = p + 1 := if_pos (by have : ¬ p + 1 = dC D := fun q => h26 (by rw [q]); omega)
    refine r_ild1 f_R_meet_33 ?_
    refine r_ic f_R_meet_34 ?_
    refine r_iadd f_R_meet_35 ?_
    rw [nI_1, ← en]
    have e1 : (68 : Int32) + nI (sp_nx D p) = nI (68 + sp_nx D p) := nI_add 68 _
    refine r_iadd f_R_meet_36 ?_
    rw [e1]
    refine r_iald f_R_meet_37 (s_96) (q_ix.nI (show 68 + sp_nx D p < 136 by omega) (by decide)) ?_
    rw [hR.o (p := sp_nx D p) (by omega), b2]
    refine r_ist3 f_R_meet_38 rfl ?_
    exact k_R_meet39 (by omega) a1 b1 hA hR hW hk
  · have en : sp_nx D p = 0 := if_neg (by have := (nI_eq (by omega) (by omega)).mp h26; omega)
    refine r_ic f_R_meet_29 ?_
    refine r_goto f_R_meet_30 ?_
    have e1 : (68 : Int32) + 0 = nI (68 + sp_nx D p) := by rw [en]; rfl
    refine r_iadd f_R_meet_36 ?_
    rw [e1]
    refine r_iald f_R_meet_37 (s_96) (q_ix.nI (show 68 + sp_nx D p < 136 by omega) (by decide)) ?_
    rw [hR.o (p := sp_nx D p) (by omega), b2]
    refine r_ist3 f_R_meet_38 rfl ?_
    exact k_R_meet39 (by omega) a1 b1 hA hR hW hk
def F8 : Nat → Nat → Prop := fun x y => FRm x y ∨ x = 108
def F9 : Nat → Nat → Prop := fun x y => x = 96 ∨ FRm x y ∨ x = 108
def FA (p : Nat) : Nat → Nat → Prop := fun x y => x = 108 ∧ 7 * p ≤ y
theorem RR.f8 (h : RR I 96 D) (hW : WFd D) (hg : q_ag F8 I I') : RR I' 96 D := h.rows hW.2.2.2.2.2.2.2.1 (fun x y w => hg x y (by unfold F8 FRm; omega))
theorem F9_FN (x y : Nat) (h : F9 x y) : FN x y := by unfold F9 FRm at h; unfold FN FM; omega
theorem FA.st {p n : Nat} {r : Nat → Int32} {v : Int32} (h : AB I' p n r) (hg : q_ag (FA p) I I') (hv : v = ab r n) : ∃ J, u2 I' 108 (7 * p + n) v = J ∧ AB J p (n + 1) r ∧ q_ag (FA p) I J := ⟨_, rfl, h.put hv, hg.u2 ⟨rfl, by omega⟩⟩
theorem k_R_night_fill {p : Nat} {r : Nat → Int32} (hp : p < 8) (hm : MR I L r) (hk : ∀ I', AB I' p 7 r → q_ag (FA p) I I' → WW G d mt_R_night 121 [some (.ref 95), some (.int (nI p))] [] SH RF I' L 0 0 0 0 K) : WW G d mt_R_night 15 [some (.ref 95), some (.int (nI p))] [] SH RF I L 0 0 0 0 K := by
  have A0 : AB I p 0 r := fun j hj => absurd hj (Nat.not_lt_zero j)
  refine r_ald0 f_R_night_15 ?_
  refine r_gr f_R_night_16 (s_95) (r_95_34) ?_
  refine r_ic f_R_night_19 ?_
  refine r_ild1 f_R_night_21 ?_
  refine r_imul f_R_night_22 ?_
  rw [show (7 : Int32) * nI p = nI (7 * p + 0) from pk_mul 7 p]
  refine r_ald0 f_R_night_23 ?_
  refine r_gl f_R_night_24 (s_95) ?_
  rw [hm.2.1.1]
  refine r_l2i f_R_night_27 ?_
  rw [Int32.toInt32_toInt64]
  refine r_iast f_R_night_28 (s_108) (q_ix.nI (show 7 * p + 0 < 56 by omega) (by decide)) ?_
  obtain ⟨J1, e1, A1, g1⟩ := FA.st (v := r 11) A0 q_ag.rf rfl
  rw [e1]
  refine r_ald0 f_R_night_29 ?_
  refine r_gr f_R_night_30 (s_95) (r_95_34) ?_
  refine r_ic f_R_night_33 ?_
  refine r_ild1 f_R_night_35 ?_
  refine r_imul f_R_night_36 ?_
  refine r_ic f_R_night_37 ?_
  refine r_iadd f_R_night_38 ?_
  rw [show (7 : Int32) * nI p + 1 = nI (7 * p + 1) from q_7p p 1]
  refine r_ald0 f_R_night_39 ?_
  refine r_gl f_R_night_40 (s_95) ?_
  rw [hm.2.1.2.1]
  refine r_l2i f_R_night_43 ?_
  rw [Int32.toInt32_toInt64]
  refine r_iast f_R_night_44 (s_108) (q_ix.nI (show 7 * p + 1 < 56 by omega) (by decide)) ?_
  obtain ⟨J2, e2, A2, g2⟩ := FA.st (v := r 12) A1 g1 rfl
  rw [e2]
  refine r_ald0 f_R_night_45 ?_
  refine r_gr f_R_night_46 (s_95) (r_95_34) ?_
  refine r_ic f_R_night_49 ?_
  refine r_ild1 f_R_night_51 ?_
  refine r_imul f_R_night_52 ?_
  refine r_ic f_R_night_53 ?_
  refine r_iadd f_R_night_54 ?_
  rw [show (7 : Int32) * nI p + 2 = nI (7 * p + 2) from q_7p p 2]
  refine r_ald0 f_R_night_55 ?_
  refine r_gi f_R_night_56 (s_95) ?_
  rw [g2 95 18 (fun q => absurd q.1 (by decide))]
  rw [hm.2.2.2.2.2.2]
  refine r_iast f_R_night_59 (s_108) (q_ix.nI (show 7 * p + 2 < 56 by omega) (by decide)) ?_
  obtain ⟨J3, e3, A3, g3⟩ := FA.st (v := r 6) A2 g2 rfl
  rw [e3]
  refine r_ald0 f_R_night_60 ?_
  refine r_gr f_R_night_61 (s_95) (r_95_34) ?_
  refine r_ic f_R_night_64 ?_
  refine r_ild1 f_R_night_66 ?_
  refine r_imul f_R_night_67 ?_
  refine r_ic f_R_night_68 ?_
  refine r_iadd f_R_night_69 ?_
  rw [show (7 : Int32) * nI p + 3 = nI (7 * p + 3) from q_7p p 3]
  refine r_ald0 f_R_night_70 ?_
  refine r_gi f_R_night_71 (s_95) ?_
  rw [g3 95 14 (fun q => absurd q.1 (by decide))]
  rw [hm.2.2.1]
  refine r_iast f_R_night_74 (s_108) (q_ix.nI (show 7 * p + 3 < 56 by omega) (by decide)) ?_
  obtain ⟨J4, e4, A4, g4⟩ := FA.st (v := r 2) A3 g3 rfl
  rw [e4]
  refine r_ald0 f_R_night_75 ?_
  refine r_gr f_R_night_76 (s_95) (r_95_34) ?_
  refine r_ic f_R_night_79 ?_
  refine r_ild1 f_R_night_81 ?_
  refine r_imul f_R_night_82 ?_
  refine r_ic f_R_night_83 ?_
  refine r_iadd f_R_night_84 ?_
  rw [show (7 : Int32) * nI p + 4 = nI (7 * p + 4) from q_7p p 4]
  refine r_ald0 f_R_night_85 ?_
  refine r_gi f_R_night_86 (s_95) ?_
  rw [g4 95 15 (fun q => absurd q.1 (by decide))]
  rw [hm.2.2.2.1]
  refine r_iast f_R_night_89 (s_108) (q_ix.nI (show 7 * p + 4 < 56 by omega) (by decide)) ?_
  obtain ⟨J5, e5, A5, g5⟩ := FA.st (v := r 3) A4 g4 rfl
  rw [e5]
  refine r_ald0 f_R_night_90 ?_
  refine r_gr f_R_night_91 (s_95) (r_95_34) ?_
  refine r_ic f_R_night_94 ?_
  refine r_ild1 f_R_night_96 ?_
  refine r_imul f_R_night_97 ?_
  refine r_ic f_R_night_98 ?_
  refine r_iadd f_R_night_99 ?_
  rw [show (7 : Int32) * nI p + 5 = nI (7 * p + 5) from q_7p p 5]
  refine r_ald0 f_R_night_100 ?_
  refine r_gi f_R_night_101 (s_95) ?_
  rw [g5 95 16 (fun q => absurd q.1 (by decide))]
  rw [hm.2.2.2.2.1]
  refine r_iast f_R_night_104 (s_108) (q_ix.nI (show 7 * p + 5 < 56 by omega) (by decide)) ?_
  obtain ⟨J6, e6, A6, g6⟩ := FA.st (v := r 4) A5 g5 rfl
  rw [e6]
  refine r_ald0 f_R_night_105 ?_
  refine r_gr f_R_night_106 (s_95) (r_95_34) ?_
  refine r_ic f_R_night_109 ?_
  refine r_ild1 f_R_night_111 ?_
  refine r_imul f_R_night_112 ?_
  refine r_ic f_R_night_113 ?_
  refine r_iadd f_R_night_115 ?_
  rw [show (7 : Int32) * nI p + 6 = nI (7 * p + 6) from q_7p p 6]
  refine r_ald0 f_R_night_116 ?_
  refine r_gi f_R_night_117 (s_95) ?_
  rw [g6 95 17 (fun q => absurd q.1 (by decide))]
  rw [hm.2.2.2.2.2.1]
  refine r_iast f_R_night_120 (s_108) (q_ix.nI (show 7 * p + 6 < 56 by omega) (by decide)) ?_
  obtain ⟨J7, e7, A7, g7⟩ := FA.st (v := r 5) A6 g6 rfl
  rw [e7]
  exact hk J7 A7 g7
theorem k_R_night_l1 (hW : WFd D) (hk : ∀ I' L', RR I' 96 D → (∀ p, p < sp_mc (dC D) → AB I' p 7 (sp_mt D p)) → q_ag F8 I I' → q_aL FRl L L' → WW G (d + 6) mt_R_night 127 [some (.ref 95), none] [] SH RF I' L' 0 0 0 0 K) : ∀ (m p : Nat) (I' : Rn) (L' : Rl), m + p = sp_mc (dC D) → RR I' 96 D → (∀ i, i < p → AB I' i 7 (sp_mt D i)) → q_ag F8 I I' → q_aL FRl L L' → WW G (d + 6) mt_R_night 2 [some (.ref 95), some (.int (nI p))] [] SH RF I' L' 0 0 0 0 K
  | 0, p, I', L', h, hR, hA, hg, hl => by
    have ep : p = sp_mc (dC D) := by omega
    have hc8 := hW.1.1
    subst ep
    refine r_ild1 f_R_night_2 ?_
    refine r_ald0 f_R_night_3 ?_
    refine c_R_meets f_R_night_4 (s_95) (Nat.le_of_ble_eq_true rfl) (Nat.le_refl _) (Nat.le_refl _) ?_
    refine k_R_meets (hR.cnt hW) hc8 ?_
    refine r_ic_ge f_R_night_7 (fun h7 => ?_) (fun h7 => absurd h7 (fun q => q (Int32.le_refl _)))
    refine r_drop1 ?_
    exact hk I' L' hR hA hg hl
  | m + 1, p, I', L', h, hR, hA, hg, hl => by
    have hc8 := hW.1.1
    have hmc := sp_mc_le (dC D)
    refine r_ild1 f_R_night_2 ?_
    refine r_ald0 f_R_night_3 ?_
    refine c_R_meets f_R_night_4 (s_95) (Nat.le_of_ble_eq_true rfl) (Nat.le_refl _) (Nat.le_refl _) ?_
    refine k_R_meets (hR.cnt hW) hc8 ?_
    refine r_ic_ge f_R_night_7 (fun h7 => absurd h7 (nI_ge (by omega) (by omega))) (fun h7 => ?_)
    refine r_ald0 f_R_night_10 ?_
    refine r_ild1 f_R_night_11 ?_
    refine c_R_findMeet f_R_night_12 (s_95) (Nat.le_of_ble_eq_true rfl) (Nat.le_refl _) (Nat.le_refl _) ?_
    refine k_R_findMeet (show p < dC D by omega) hR hW (fun I9 L9 m9 g9 l9 => ?_)
    have hR9 := hR.frm hW g9
    refine k_R_night_fill (show p < 8 by omega) m9 (fun J A7 gN => ?_)
    refine r_inc1 f_R_night_121 rfl ?_
    rw [nI_1]
    refine r_goto f_R_night_124 ?_
    have gF := g9.mo (P2 := F8) (fun x y q => Or.inl q)
    have gM := gN.mo (P2 := F8) (fun x y q => Or.inr q.1)
    refine k_R_night_l1 hW hk m (p + 1) J L9 (by omega) (hR9.f8 hW gM) (fun i hi => ?_) ((hg.tr gF).tr gM) (hl.tr l9)
    by_cases e : i = p
    · subst e
      exact A7
    · exact (hA i (by omega)).keep (fun j hj => (gN 108 (7 * i + j) (by unfold FA; omega)).trans (g9 108 _ (by unfold FRm; omega)))
theorem k_R_night_l2 (hW : WFd D) (hA : ∀ p, p < sp_mc (dC D) → AB I p 7 (sp_mt D p)) (hk : ∀ I', RR I' 96 (sp_night D) → q_ag G96 I I' → K none SH RF I' L) : ∀ (m p : Nat) (I' : Rn), m + p = sp_mc (dC D) → RR I' 96 (sp_nl D p) → q_ag G96 I I' → WW G (d + 6) mt_R_night 129 [some (.ref 95), some (.int (nI p))] [] SH RF I' L 0 0 0 0 K
  | 0, p, I', h, hR, hg => by
    have ep : p = sp_mc (dC D) := by omega
    have hc8 := hW.1.1
    subst ep
    obtain ⟨w1, w2⟩ := hW.nl _ (Nat.le_refl _)
    have hcn : I' 96 10 = nI (dC D) := by rw [hR.cnt w1, w2]
    refine r_ild1 f_R_night_129 ?_
    refine r_ald0 f_R_night_130 ?_
    refine c_R_meets f_R_night_131 (s_95) (Nat.le_of_ble_eq_true rfl) (Nat.le_refl _) (Nat.le_refl _) ?_
    refine k_R_meets hcn hc8 ?_
    refine r_ic_ge f_R_night_134 (fun h134 => ?_) (fun h134 => absurd h134 (fun q => q (Int32.le_refl _)))
    refine r_ret f_R_night_148 rfl (Nat.le_refl _) (Nat.le_refl _) ?_
    exact hk I' hR hg
  | m + 1, p, I', h, hR, hg => by
    have hc8 := hW.1.1
    have hmc := sp_mc_le (dC D)
    obtain ⟨w1, w2⟩ := hW.nl p (by omega)
    have hcn : I' 96 10 = nI (dC D) := by rw [hR.cnt w1, w2]
    have hO : (sp_nl D p).2.1 = D.2.1 := sp_nl_o p
    have e1 : dO (sp_nl D p) p = dO D p := by
      unfold dO
      rw [hO]
    have e2 : dO (sp_nl D p) (sp_nx (sp_nl D p) p) = dO D (sp_nx D p) := by
      unfold dO sp_nx
      rw [hO, w2]
    refine r_ild1 f_R_night_129 ?_
    refine r_ald0 f_R_night_130 ?_
    refine c_R_meets f_R_night_131 (s_95) (Nat.le_of_ble_eq_true rfl) (Nat.le_refl _) (Nat.le_refl _) ?_
    refine k_R_meets hcn hc8 ?_
    refine r_ic_ge f_R_night_134 (fun h134 => absurd h134 (nI_ge (by omega) (by omega))) (fun h134 => ?_)
    refine r_ald0 f_R_night_137 ?_
    refine r_ild1 f_R_night_138 ?_
    refine c_R_meet f_R_night_139 (s_95) (Nat.le_of_ble_eq_true rfl) (Nat.le_refl _) (Nat.le_refl _) ?_
    refine k_R_meet (show p < dC (sp_nl D p) by omega) ((hA p (by omega)).keep (fun j hj => hg 108 _ (show ¬ (108 : Nat) = 96 by decide))) hR w1 (fun I9 hR9 g9 => ?_)
    rw [e1, e2] at hR9
    refine r_inc1 f_R_night_142 rfl ?_
    rw [nI_1]
    refine r_goto f_R_night_145 ?_
    exact k_R_night_l2 hW hA hk m (p + 1) I9 (by omega) hR9 (hg.tr g9)
theorem k_R_night (hW : WFd D) (hR : RR I 96 D) (hk : ∀ I' L', RR I' 96 (sp_night D) → q_ag F9 I I' → q_aL FRl L L' → K none SH RF I' L') : WW G (d + 6) mt_R_night 0 [some (.ref 95), none] [] SH RF I L 0 0 0 0 K := by
  refine r_ic f_R_night_0 ?_
  refine r_ist1 f_R_night_1 rfl ?_
  refine k_R_night_l1 hW (fun I1 L1 hR1 hA1 g1 l1 => ?_) _ 0 I L (Nat.add_zero _) hR (fun i hi => absurd hi (Nat.not_lt_zero i)) q_ag.rf q_aL.rf
  refine r_ic f_R_night_127 ?_
  refine r_ist1 f_R_night_128 rfl ?_
  exact k_R_night_l2 hW hA1 (fun I9 hR9 g9 => hk I9 L1 hR9 ((g1.mo (fun x y q => Or.inr q)).tr (g9.mo (fun x y q => Or.inl q))) l1) _ 0 I1 (Nat.add_zero _) hR1 q_ag.rf
theorem k_R_goesOn_loop {n : Nat} {x : Int32} (hn : n ≤ 50) (hk : ∀ I' L', RR I' 96 E → q_ag F9 I I' → q_aL FRl L L' → K (some (.int (E.2.2.2.1 3 - x))) SH RF I' L') : ∀ (m k : Nat) (D : Dst) (I' : Rn) (L' : Rl), m + k = n → WFd D → sp_nights m D = E → RR I' 96 D → q_ag F9 I I' → q_aL FRl L L' → WW G (d + 7) mt_R_goesOn 9 [some (.ref 95), some (.int (nI n)), some (.int x), some (.int (nI k))] [] SH RF I' L' 0 0 0 0 K
  | 0, k, D, I', L', h, hW, hE, hR, hg, hl => by
    have ek : k = n := by omega
    subst ek
    have e0 : D = E := hE
    subst e0
    refine r_ild3 f_R_goesOn_9 ?_
    refine r_ild1 f_R_goesOn_10 ?_
    refine r_ic_ge f_R_goesOn_11 (fun h11 => ?_) (fun h11 => absurd h11 (fun q => q (Int32.le_refl _)))
    refine r_ald0 f_R_goesOn_24 ?_
    refine r_gr f_R_goesOn_25 (s_95) (r_95_0) ?_
    refine r_ic f_R_goesOn_28 ?_
    refine r_iald f_R_goesOn_29 (s_96) (show q_ix 3 3 136 from ⟨by decide, by decide⟩) ?_
    rw [hR.s (k := 3) (by decide)]
    refine r_ild2 f_R_goesOn_30 ?_
    refine r_isub f_R_goesOn_31 ?_
    refine r_iret f_R_goesOn_32 ⟨_, rfl, rfl⟩ (Nat.le_refl _) (Nat.le_refl _) ?_
    exact hk I' L' hR hg hl
  | m + 1, k, D, I', L', h, hW, hE, hR, hg, hl => by
    refine r_ild3 f_R_goesOn_9 ?_
    refine r_ild1 f_R_goesOn_10 ?_
    refine r_ic_ge f_R_goesOn_11 (fun h11 => absurd h11 (nI_ge (by omega) (by omega))) (fun h11 => ?_)
    refine r_ald0 f_R_goesOn_14 ?_
    refine c_R_night f_R_goesOn_15 (s_95) (Nat.le_of_ble_eq_true rfl) (Nat.le_refl _) (Nat.le_refl _) ?_
    refine k_R_night hW hR (fun I9 L9 hR9 g9 l9 => ?_)
    refine r_inc3 f_R_goesOn_18 rfl ?_
    rw [nI_1]
    refine r_goto f_R_goesOn_21 ?_
    exact k_R_goesOn_loop hn hk m (k + 1) (sp_night D) I9 L9 (by omega) hW.night.1 hE hR9 (hg.tr g9) (hl.tr l9)
theorem k_R_goesOn {n : Nat} (hn : n ≤ 50) (hW : WFd D) (hR : RR I 96 D) (hk : ∀ I' L', RR I' 96 (sp_nights n D) → q_ag F9 I I' → q_aL FRl L L' → K (some (.int ((sp_nights n D).2.2.2.1 3 - D.2.2.2.1 3))) SH RF I' L') : WW G (d + 7) mt_R_goesOn 0 [some (.ref 95), some (.int (nI n)), none, none] [] SH RF I L 0 0 0 0 K := by
  refine r_ald0 f_R_goesOn_0 ?_
  refine r_gr f_R_goesOn_1 (s_95) (r_95_0) ?_
  refine r_ic f_R_goesOn_4 ?_
  refine r_iald f_R_goesOn_5 (s_96) (show q_ix 3 3 136 from ⟨by decide, by decide⟩) ?_
  rw [hR.s (k := 3) (by decide)]
  refine r_ist2 f_R_goesOn_6 rfl ?_
  refine r_ic f_R_goesOn_7 ?_
  refine r_ist3 f_R_goesOn_8 rfl ?_
  exact k_R_goesOn_loop hn hk n 0 D I L (Nat.add_zero _) hW rfl hR q_ag.rf q_aL.rf
theorem k_R_nights {x : Int32} (hC : RepM I L σ) (hW : WFs σ) (hk : MK K I L (op_nights σ x)) : WW G (d + 8) mt_R_nights 0 [some (.ref 95), some (.int x)] [] SH RF I L 0 0 0 0 K := by
  unfold op_nights at hk
  have hcnt := hC.1.cnt hW.1
  have hc8 := hW.1.1.1
  refine r_ild1 f_R_nights_0 ?_
  refine r_ic f_R_nights_1 ?_
  refine r_ic f_R_nights_2 ?_
  refine c_R_in f_R_nights_4 (Nat.le_of_ble_eq_true rfl) (Nat.le_refl _) (Nat.le_refl _) ?_
  refine k_R_in (fun hxa hxb => ?_) (fun hx => ?_)
  · rw [if_pos ⟨hxa, hxb⟩] at hk
    obtain ⟨n, hn, en⟩ := q_inC (c := 51) (by omega) (Int32.le_trans (by decide) hxa) hxb
    subst en
    rw [nI_clamp (by omega)] at hk
    refine r_if_eq f_R_nights_7 (fun h => absurd h (by decide)) (fun _ => ?_)
    refine r_ald0 f_R_nights_10 ?_
    refine r_ild1 f_R_nights_11 ?_
    refine c_R_goesOn f_R_nights_12 (s_95) (Nat.le_of_ble_eq_true rfl) (Nat.le_refl _) (Nat.le_refl _) ?_
    refine k_R_goesOn (show n ≤ 50 by omega) hW.1 hC.1 (fun I8 L8 hR8 g8 l8 => ?_)
    refine r_goto f_R_nights_15 ?_
    refine r_iret f_R_nights_24 ⟨_, rfl, rfl⟩ (Nat.le_refl _) (Nat.le_refl _) ?_
    first | exact hk _ _ hC9 hi9 | exact hk _ _ (hC.fmN hW hR8 (g8.mo F9_FN) (l8.mo FRl_FML)) (q_lw.fmN (g8.mo F9_FN) (l8.mo FRl_FML))
  · rw [if_neg hx] at hk
    refine r_if_eq f_R_nights_7 (fun _ => ?_) (fun h => absurd h (by decide))
    refine r_ald0 f_R_nights_18 ?_
    refine r_ic f_R_nights_19 ?_
    refine c_R_finds f_R_nights_21 (s_95) (Nat.le_of_ble_eq_true rfl) (Nat.le_refl _) (Nat.le_refl _) ?_
    refine k_R_finds (k := 0) (by decide) (by decide) hC hW (fun I9 hC9 hi9 => ?_)
    refine r_iret f_R_nights_24 ⟨_, rfl, rfl⟩ (Nat.le_refl _) (Nat.le_refl _) ?_
    first | exact hk _ _ hC9 hi9 | exact hk _ _ (hC.fmN hW hR8 (g8.mo F9_FN) (l8.mo FRl_FML)) (q_lw.fmN (g8.mo F9_FN) (l8.mo FRl_FML))
theorem k_R_ahead_l1 {x w : Int32} (hk : WW G (d + 1) mt_R_ahead 61 [some (.ref 95), some (.int x), some (.int w), none, none, none] [] SH RF (q_cpy I 96 0 98 0 136) L 0 0 0 0 K) : ∀ (m n : Nat), m + n = 136 → WW G (d + 1) mt_R_ahead 36 [some (.ref 95), some (.int x), some (.int w), some (.int (nI n)), none, none] [] SH RF (q_cpy I 96 0 98 0 n) L 0 0 0 0 K
  | 0, n, h => by
    have en : n = 136 := by omega
    subst en
    refine r_ild3 f_R_ahead_36 ?_
    refine r_ic f_R_ahead_37 ?_
    refine r_ic_ge f_R_ahead_40 (fun h40 => ?_) (fun h40 => absurd h40 (fun q => q (Int32.le_refl _)))
    refine r_drop3 ?_
    exact hk
  | m + 1, n, h => by
    refine r_ild3 f_R_ahead_36 ?_
    refine r_ic f_R_ahead_37 ?_
    refine r_ic_ge f_R_ahead_40 (fun h40 => absurd h40 (nI_ge (b := 136) (by omega) (by decide))) (fun h40 => ?_)
    refine r_ald0 f_R_ahead_43 ?_
    refine r_gr f_R_ahead_44 (s_95) (r_95_2) ?_
    refine r_ild3 f_R_ahead_47 ?_
    refine r_ald0 f_R_ahead_48 ?_
    refine r_gr f_R_ahead_49 (s_95) (r_95_0) ?_
    refine r_ild3 f_R_ahead_52 ?_
    refine r_iald f_R_ahead_53 (s_96) (q_ix.nI (show n < 136 by omega) (by decide)) ?_
    rw [show q_cpy I 96 0 98 0 n 96 n = I 96 n from by rw [q_cpy_row (by decide)]]
    refine r_iast f_R_ahead_54 (s_98) (q_ix.nI (show n < 136 by omega) (by decide)) ?_
    rw [q_cpy_s0]
    refine r_inc3 f_R_ahead_55 rfl ?_
    rw [nI_1]
    refine r_goto f_R_ahead_58 ?_
    exact k_R_ahead_l1 hk m (n + 1) (by omega)
theorem k_R_ahead_l2 {x w y v : Int32} (hk : WW G (d + 1) mt_R_ahead 137 [some (.ref 95), some (.int x), some (.int w), some (.int y), some (.int v), none] [] SH RF (q_cpy I 98 0 96 0 136) L 0 0 0 0 K) : ∀ (m n : Nat), m + n = 136 → WW G (d + 1) mt_R_ahead 109 [some (.ref 95), some (.int x), some (.int w), some (.int y), some (.int v), some (.int (nI n))] [] SH RF (q_cpy I 98 0 96 0 n) L 0 0 0 0 K
  | 0, n, h => by
    have en : n = 136 := by omega
    subst en
    refine r_ild5 f_R_ahead_109 ?_
    refine r_ic f_R_ahead_111 ?_
    refine r_ic_ge f_R_ahead_114 (fun h114 => ?_) (fun h114 => absurd h114 (fun q => q (Int32.le_refl _)))
    refine r_drop5 ?_
    exact hk
  | m + 1, n, h => by
    refine r_ild5 f_R_ahead_109 ?_
    refine r_ic f_R_ahead_111 ?_
    refine r_ic_ge f_R_ahead_114 (fun h114 => absurd h114 (nI_ge (b := 136) (by omega) (by decide))) (fun h114 => ?_)
    refine r_ald0 f_R_ahead_117 ?_
    refine r_gr f_R_ahead_118 (s_95) (r_95_0) ?_
    refine r_ild5 f_R_ahead_121 ?_
    refine r_ald0 f_R_ahead_123 ?_
    refine r_gr f_R_ahead_124 (s_95) (r_95_2) ?_
    refine r_ild5 f_R_ahead_127 ?_
    refine r_iald f_R_ahead_129 (s_98) (q_ix.nI (show n < 136 by omega) (by decide)) ?_
    rw [show q_cpy I 98 0 96 0 n 98 n = I 98 n from by rw [q_cpy_row (by decide)]]
    refine r_iast f_R_ahead_130 (s_96) (q_ix.nI (show n < 136 by omega) (by decide)) ?_
    rw [q_cpy_s0]
    refine r_inc5 f_R_ahead_131 rfl ?_
    rw [nI_1]
    refine r_goto f_R_ahead_134 ?_
    exact k_R_ahead_l2 hk m (n + 1) (by omega)
theorem k_R_ahead104 {x w y v : Int32} {J : Rn} (hC : RepM I L σ) (hW : WFs σ) (h98 : RR J 98 σ.1) (hg : q_ag FN I J) (hl : q_aL FML L L') (hk : ∀ I' L', RepM I' L' σ → q_lw I I' L L' → K (some (.int v)) SH RF I' L') : WW G (d + 1) mt_R_ahead 104 [some (.ref 95), some (.int x), some (.int w), some (.int y), none, none] [.int v] SH RF J L' 0 0 0 0 K := by
  refine r_ist4 f_R_ahead_104 rfl ?_
  refine r_ic f_R_ahead_106 ?_
  refine r_ist5 f_R_ahead_107 rfl ?_
  rw [← q_cpy_0 (f := J) (a := 98) (sp := 0) (b := 96) (dp := 0)]
  refine k_R_ahead_l2 ?_ 136 0 rfl
  have hR9 := h98.copy (q2 := 96) hW.1.2.2.2.2.2.2.2.1
  have g9 : q_ag FN I (q_cpy J 98 0 96 0 136) := hg.tr (fun x y q => by rw [q_cpy_row (fun e => q (Or.inl e))])
  refine r_ild4 f_R_ahead_137 ?_
  refine r_iret f_R_ahead_139 ⟨_, rfl, rfl⟩ (Nat.le_refl _) (Nat.le_refl _) ?_
  exact hk _ _ (hC.fmN hW hR9 g9 hl) (q_lw.fmN g9 hl)
theorem k_R_ahead {x w : Int32} (hC : RepM I L σ) (hW : WFs σ) (hk : MK K I L (op_ahead σ x w)) : WW G (d + 8) mt_R_ahead 0 [some (.ref 95), some (.int x), some (.int w), none, none, none] [] SH RF I L 0 0 0 0 K := by
  unfold op_ahead at hk
  have hcnt := hC.1.cnt hW.1
  have hc8 := hW.1.1.1
  refine r_ild1 f_R_ahead_0 ?_
  refine r_ic f_R_ahead_1 ?_
  refine r_ic f_R_ahead_2 ?_
  refine c_R_in f_R_ahead_4 (Nat.le_of_ble_eq_true rfl) (Nat.le_refl _) (Nat.le_refl _) ?_
  refine k_R_in (fun hxa hxb => ?_) (fun hx => ?_)
  · refine r_if_eq f_R_ahead_7 (fun h => absurd h (by decide)) (fun _ => ?_)
    refine r_ild2 f_R_ahead_10 ?_
    refine r_ic f_R_ahead_11 ?_
    refine r_ic f_R_ahead_12 ?_
    refine r_ald0 f_R_ahead_13 ?_
    refine r_gr f_R_ahead_14 (s_95) (r_95_0) ?_
    refine r_ic f_R_ahead_17 ?_
    refine r_iald f_R_ahead_19 (s_96) (show q_ix 10 10 136 from ⟨by decide, by decide⟩) ?_
    rw [hcnt]
    refine r_iadd f_R_ahead_20 ?_
    refine c_R_in f_R_ahead_21 (Nat.le_of_ble_eq_true rfl) (Nat.le_refl _) (Nat.le_refl _) ?_
    refine k_R_in (fun hwa hwb => ?_) (fun hw => ?_)
    · rw [if_pos (show (1 ≤ x ∧ x ≤ 50) ∧ (0 ≤ w ∧ w ≤ 1 + nI (dC σ.1)) from ⟨⟨hxa, hxb⟩, ⟨hwa, hwb⟩⟩)] at hk
      obtain ⟨n, hn, en⟩ := q_inC (c := 51) (by omega) (Int32.le_trans (by decide) hxa) hxb
      subst en
      rw [nI_clamp (by omega)] at hk
      refine r_if_ne f_R_ahead_24 (fun _ => ?_) (fun h => absurd h (by decide))
      refine r_ic f_R_ahead_34 ?_
      refine r_ist3 f_R_ahead_35 rfl ?_
      rw [← q_cpy_0 (f := I) (a := 96) (sp := 0) (b := 98) (dp := 0)]
      refine k_R_ahead_l1 ?_ 136 0 rfl
      have hl60 := hW.1.2.2.2.2.2.2.2.1
      have h98a := hC.1.copy (q2 := 98) hl60
      have gC : q_ag FN I (q_cpy I 96 0 98 0 136) := fun x y q => by rw [q_cpy_row (fun e => q (by unfold FN FM; omega))]
      have hRc : RR (q_cpy I 96 0 98 0 136) 96 σ.1 := hC.1.rows hl60 (fun x y q => by rw [q_cpy_row (by omega)])
      refine r_ald0 f_R_ahead_61 ?_
      refine r_ild1 f_R_ahead_62 ?_
      refine c_R_goesOn f_R_ahead_63 (s_95) (Nat.le_of_ble_eq_true rfl) (Nat.le_refl _) (Nat.le_refl _) ?_
      refine k_R_goesOn (show n ≤ 50 by omega) hW.1 hRc (fun I8 L8 hR8 g8 l8 => ?_)
      have h98 : RR I8 98 σ.1 := h98a.rows hl60 (fun x y q => g8 x y (by unfold F9 FRm; omega))
      have gA : q_ag FN I I8 := gC.tr (g8.mo F9_FN)
      obtain ⟨hW8, hC8⟩ := hW.1.nights n
      dsimp only at hk
      refine r_ist3 f_R_ahead_66 rfl ?_
      refine r_ild2 f_R_ahead_67 ?_
      refine r_if_ne f_R_ahead_68 (fun h68 => ?_) (fun h68 => ?_)
      · refine r_ild2 f_R_ahead_75 ?_
        refine r_ic f_R_ahead_76 ?_
        refine r_ic_ne f_R_ahead_77 (fun h77 => ?_) (fun h77 => ?_)
        · rw [if_neg h68, if_neg h77] at hk
          obtain ⟨u, hu, eu⟩ : ∃ u, u < dC σ.1 ∧ w - 2 = nI u := by
            obtain ⟨t, ht, et⟩ := nI_of (Int32.not_lt.mpr hwa)
            subst et
            rw [show (1 : Int32) + nI (dC σ.1) = nI (1 + dC σ.1) from nI_add 1 _] at hwb
            have h2 := (nI_leI ht (by omega)).mp hwb
            have n0 : t ≠ 0 := fun q => h68 (by rw [q]; rfl)
            have n1 : t ≠ 1 := fun q => h77 (by rw [q]; rfl)
            refine ⟨t - 2, by omega, ?_⟩
            rw [show nI t = nI (t - 2) + 2 from by rw [show (2 : Int32) = nI 2 from rfl, nI_add]; congr 1; omega, Int32.add_sub_cancel]
          rw [eu, nI_clamp (by omega)] at hk
          refine r_ald0 f_R_ahead_96 ?_
          refine r_ild2 f_R_ahead_97 ?_
          refine r_ic f_R_ahead_98 ?_
          refine r_isub f_R_ahead_99 ?_
          rw [eu]
          refine r_ic f_R_ahead_100 ?_
          refine c_R_get f_R_ahead_101 (s_95) (Nat.le_of_ble_eq_true rfl) (Nat.le_refl _) (Nat.le_refl _) ?_
          refine k_R_get (f := u) (k := 5) (show u < 8 by omega) (by decide) hR8 ?_
          exact k_R_ahead104 hC hW h98 gA (l8.mo FRl_FML) (fun I7 L7 a b => hk I7 L7 a b)
        · rw [if_neg h68, if_pos h77] at hk
          refine r_ald0 f_R_ahead_80 ?_
          refine r_gr f_R_ahead_81 (s_95) (r_95_0) ?_
          refine r_ic f_R_ahead_84 ?_
          refine r_iald f_R_ahead_85 (s_96) (show q_ix 4 4 136 from ⟨by decide, by decide⟩) ?_
          rw [hR8.s (k := 4) (by decide)]
          refine r_ald0 f_R_ahead_86 ?_
          refine r_gr f_R_ahead_87 (s_95) (r_95_2) ?_
          refine r_ic f_R_ahead_90 ?_
          refine r_iald f_R_ahead_91 (s_98) (show q_ix 4 4 136 from ⟨by decide, by decide⟩) ?_
          rw [h98.s (k := 4) (by decide)]
          refine r_isub f_R_ahead_92 ?_
          refine r_goto f_R_ahead_93 ?_
          exact k_R_ahead104 hC hW h98 gA (l8.mo FRl_FML) (fun I7 L7 a b => hk I7 L7 a b)
      · rw [if_pos h68] at hk
        refine r_ild3 f_R_ahead_71 ?_
        refine r_goto f_R_ahead_72 ?_
        exact k_R_ahead104 hC hW h98 gA (l8.mo FRl_FML) (fun I7 L7 a b => hk I7 L7 a b)
    · rw [if_neg (fun q => hw q.2)] at hk
      refine r_if_ne f_R_ahead_24 (fun h => absurd h (by decide)) (fun _ => ?_)
      refine r_ald0 f_R_ahead_27 ?_
      refine r_ic f_R_ahead_28 ?_
      refine c_R_finds f_R_ahead_30 (s_95) (Nat.le_of_ble_eq_true rfl) (Nat.le_refl _) (Nat.le_refl _) ?_
      refine k_R_finds (k := 0) (by decide) (by decide) hC hW (fun I9 hC9 hi9 => ?_)
      refine r_iret f_R_ahead_33 ⟨_, rfl, rfl⟩ (Nat.le_refl _) (Nat.le_refl _) ?_
      exact hk _ _ hC9 hi9
  · rw [if_neg (fun q => hx q.1)] at hk
    refine r_if_eq f_R_ahead_7 (fun _ => ?_) (fun h => absurd h (by decide))
    refine r_ald0 f_R_ahead_27 ?_
    refine r_ic f_R_ahead_28 ?_
    refine c_R_finds f_R_ahead_30 (s_95) (Nat.le_of_ble_eq_true rfl) (Nat.le_refl _) (Nat.le_refl _) ?_
    refine k_R_finds (k := 0) (by decide) (by decide) hC hW (fun I9 hC9 hi9 => ?_)
    refine r_iret f_R_ahead_33 ⟨_, rfl, rfl⟩ (Nat.le_refl _) (Nat.le_refl _) ?_
    exact hk _ _ hC9 hi9
end L59
