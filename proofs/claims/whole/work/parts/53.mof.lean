section L53
variable {G : Gx} {d : Nat} {I I' I2 : Rn} {L L' L2 : Rl} {K : Kt} {σ : St} {D : Dst}
theorem k_R_placeOf_loop {f : Nat} (hf : f < dC D) (hW : WFd D) (hR : RR I 96 D) (hk : K (some (.int (nI (sp_place D f)))) SH RF I L) : ∀ (m p : Nat), m + p = dC D → sp_plc D f m p = sp_place D f → (∀ j, j < p → ¬ dO D j = f) → WW G d mt_R_placeOf 2 [some (.ref 95), some (.int (nI f)), some (.int (nI p))] [] SH RF I L 0 0 0 0 K
  | 0, p, h, he, hj => by
    obtain ⟨j, j1, j2⟩ := hW.2.2.1 f hf
    exact absurd j2 (hj j (by omega))
  | m + 1, p, h, he, hj => by
    have hc8 := hW.1.1
    have ho : I 96 (68 + p) = nI (dO D p) := by rw [hR.o (by omega)]; exact (hW.2.1 p (by omega)).2
    have ho2 := (hW.2.1 p (by omega)).1
    refine r_ald0 f_R_placeOf_2 ?_
    refine r_gr f_R_placeOf_3 (s_95) (r_95_0) ?_
    refine r_ic f_R_placeOf_6 ?_
    refine r_ild2 f_R_placeOf_8 ?_
    refine r_iadd f_R_placeOf_9 ?_
    rw [show (68 : Int32) + nI p = nI (68 + p) from nI_add 68 p]
    refine r_iald f_R_placeOf_10 (s_96) (q_ix.nI (show 68 + p < 136 by omega) (by decide)) ?_
    rw [ho]
    refine r_ild1 f_R_placeOf_11 ?_
    refine r_ic_eq f_R_placeOf_12 (fun h12 => ?_) (fun h12 => ?_)
    · refine r_ild2 f_R_placeOf_21 ?_
      refine r_iret f_R_placeOf_22 ⟨_, rfl, rfl⟩ (Nat.le_refl _) (Nat.le_refl _) ?_
      rw [← he, show sp_plc D f (m + 1) p = p from if_pos ((nI_eq (by omega) (by omega)).mp h12)] at hk
      exact hk
    · refine r_inc2 f_R_placeOf_15 rfl ?_
      rw [nI_1]
      refine r_goto f_R_placeOf_18 ?_
      have hne : ¬ dO D p = f := fun q => h12 (by rw [q])
      rw [show sp_plc D f (m + 1) p = sp_plc D f m (p + 1) from if_neg hne] at he
      refine k_R_placeOf_loop hf hW hR hk m (p + 1) (by omega) he (fun j hj2 => ?_)
      by_cases e : j = p
      · rw [e]
        exact hne
      · exact hj j (by omega)
theorem k_R_placeOf {f : Nat} (hf : f < dC D) (hW : WFd D) (hR : RR I 96 D) (hk : K (some (.int (nI (sp_place D f)))) SH RF I L) : WW G d mt_R_placeOf 0 [some (.ref 95), some (.int (nI f)), none] [] SH RF I L 0 0 0 0 K := by
  refine r_ic f_R_placeOf_0 ?_
  refine r_ist2 f_R_placeOf_1 rfl ?_
  exact k_R_placeOf_loop hf hW hR hk (dC D) 0 rfl rfl (fun j hj => absurd hj (Nat.not_lt_zero j))
theorem k_R_isUnder {x y : Int32} (y1 : sp_un x y → K (some (.int 1)) SH RF I L) (y0 : ¬ sp_un x y → K (some (.int 0)) SH RF I L) : WW G d mt_R_isUnder 0 [some (.int x), some (.int y)] [] SH RF I L 0 0 0 0 K := by
  refine r_ild1 f_R_isUnder_0 ?_
  refine r_if_eq f_R_isUnder_1 (fun h1 => ?_) (fun h1 => ?_)
  · refine r_ic f_R_isUnder_34 ?_
    refine r_goto f_R_isUnder_35 ?_
    refine r_iret f_R_isUnder_39 ⟨_, rfl, rfl⟩ (Nat.le_refl _) (Nat.le_refl _) ?_
    first
      | exact y1 (Or.inl h1)
      | exact y1 (Or.inr (Or.inl h6))
      | exact y1 (Or.inr (Or.inr (Or.inl ⟨h11, h16⟩)))
      | exact y1 (Or.inr (Or.inr (Or.inr ⟨h21, Or.inl h26⟩)))
      | exact y1 (Or.inr (Or.inr (Or.inr ⟨h21, Or.inr h31⟩)))
      | exact y0 (fun q => q.elim h1 (fun q => q.elim h6 (fun q => q.elim (fun q => by first | exact h16 q.2 | exact h11 q.1) (fun q => by first | exact q.2.elim h26 h31 | exact h21 q.1))))
  · refine r_ild0 f_R_isUnder_4 ?_
    refine r_ild1 f_R_isUnder_5 ?_
    refine r_ic_eq f_R_isUnder_6 (fun h6 => ?_) (fun h6 => ?_)
    · refine r_ic f_R_isUnder_34 ?_
      refine r_goto f_R_isUnder_35 ?_
      refine r_iret f_R_isUnder_39 ⟨_, rfl, rfl⟩ (Nat.le_refl _) (Nat.le_refl _) ?_
      first
        | exact y1 (Or.inl h1)
        | exact y1 (Or.inr (Or.inl h6))
        | exact y1 (Or.inr (Or.inr (Or.inl ⟨h11, h16⟩)))
        | exact y1 (Or.inr (Or.inr (Or.inr ⟨h21, Or.inl h26⟩)))
        | exact y1 (Or.inr (Or.inr (Or.inr ⟨h21, Or.inr h31⟩)))
        | exact y0 (fun q => q.elim h1 (fun q => q.elim h6 (fun q => q.elim (fun q => by first | exact h16 q.2 | exact h11 q.1) (fun q => by first | exact q.2.elim h26 h31 | exact h21 q.1))))
    · refine r_ild1 f_R_isUnder_9 ?_
      refine r_ic f_R_isUnder_10 ?_
      refine r_ic_ne f_R_isUnder_11 (fun h11 => ?_) (fun h11 => ?_)
      · refine r_ild1 f_R_isUnder_19 ?_
        refine r_ic f_R_isUnder_20 ?_
        refine r_ic_ne f_R_isUnder_21 (fun h21 => ?_) (fun h21 => ?_)
        · refine r_ic f_R_isUnder_38 ?_
          refine r_iret f_R_isUnder_39 ⟨_, rfl, rfl⟩ (Nat.le_refl _) (Nat.le_refl _) ?_
          first
            | exact y1 (Or.inl h1)
            | exact y1 (Or.inr (Or.inl h6))
            | exact y1 (Or.inr (Or.inr (Or.inl ⟨h11, h16⟩)))
            | exact y1 (Or.inr (Or.inr (Or.inr ⟨h21, Or.inl h26⟩)))
            | exact y1 (Or.inr (Or.inr (Or.inr ⟨h21, Or.inr h31⟩)))
            | exact y0 (fun q => q.elim h1 (fun q => q.elim h6 (fun q => q.elim (fun q => by first | exact h16 q.2 | exact h11 q.1) (fun q => by first | exact q.2.elim h26 h31 | exact h21 q.1))))
        · refine r_ild0 f_R_isUnder_24 ?_
          refine r_ic f_R_isUnder_25 ?_
          refine r_ic_eq f_R_isUnder_26 (fun h26 => ?_) (fun h26 => ?_)
          · refine r_ic f_R_isUnder_34 ?_
            refine r_goto f_R_isUnder_35 ?_
            refine r_iret f_R_isUnder_39 ⟨_, rfl, rfl⟩ (Nat.le_refl _) (Nat.le_refl _) ?_
            first
              | exact y1 (Or.inl h1)
              | exact y1 (Or.inr (Or.inl h6))
              | exact y1 (Or.inr (Or.inr (Or.inl ⟨h11, h16⟩)))
              | exact y1 (Or.inr (Or.inr (Or.inr ⟨h21, Or.inl h26⟩)))
              | exact y1 (Or.inr (Or.inr (Or.inr ⟨h21, Or.inr h31⟩)))
              | exact y0 (fun q => q.elim h1 (fun q => q.elim h6 (fun q => q.elim (fun q => by first | exact h16 q.2 | exact h11 q.1) (fun q => by first | exact q.2.elim h26 h31 | exact h21 q.1))))
          · refine r_ild0 f_R_isUnder_29 ?_
            refine r_ic f_R_isUnder_30 ?_
            refine r_ic_ne f_R_isUnder_31 (fun h31 => ?_) (fun h31 => ?_)
            · refine r_ic f_R_isUnder_38 ?_
              refine r_iret f_R_isUnder_39 ⟨_, rfl, rfl⟩ (Nat.le_refl _) (Nat.le_refl _) ?_
              first
                | exact y1 (Or.inl h1)
                | exact y1 (Or.inr (Or.inl h6))
                | exact y1 (Or.inr (Or.inr (Or.inl ⟨h11, h16⟩)))
                | exact y1 (Or.inr (Or.inr (Or.inr ⟨h21, Or.inl h26⟩)))
                | exact y1 (Or.inr (Or.inr (Or.inr ⟨h21, Or.inr h31⟩)))
                | exact y0 (fun q => q.elim h1 (fun q => q.elim h6 (fun q => q.elim (fun q => by first | exact h16 q.2 | exact h11 q.1) (fun q => by first | exact q.2.elim h26 h31 | exact h21 q.1))))
            · refine r_ic f_R_isUnder_34 ?_
              refine r_goto f_R_isUnder_35 ?_
              refine r_iret f_R_isUnder_39 ⟨_, rfl, rfl⟩ (Nat.le_refl _) (Nat.le_refl _) ?_
              first
                | exact y1 (Or.inl h1)
                | exact y1 (Or.inr (Or.inl h6))
                | exact y1 (Or.inr (Or.inr (Or.inl ⟨h11, h16⟩)))
                | exact y1 (Or.inr (Or.inr (Or.inr ⟨h21, Or.inl h26⟩)))
                | exact y1 (Or.inr (Or.inr (Or.inr ⟨h21, Or.inr h31⟩)))
                | exact y0 (fun q => q.elim h1 (fun q => q.elim h6 (fun q => q.elim (fun q => by first | exact h16 q.2 | exact h11 q.1) (fun q => by first | exact q.2.elim h26 h31 | exact h21 q.1))))
      · refine r_ild0 f_R_isUnder_14 ?_
        refine r_ic f_R_isUnder_15 ?_
        refine r_ic_eq f_R_isUnder_16 (fun h16 => ?_) (fun h16 => ?_)
        · refine r_ic f_R_isUnder_34 ?_
          refine r_goto f_R_isUnder_35 ?_
          refine r_iret f_R_isUnder_39 ⟨_, rfl, rfl⟩ (Nat.le_refl _) (Nat.le_refl _) ?_
          first
            | exact y1 (Or.inl h1)
            | exact y1 (Or.inr (Or.inl h6))
            | exact y1 (Or.inr (Or.inr (Or.inl ⟨h11, h16⟩)))
            | exact y1 (Or.inr (Or.inr (Or.inr ⟨h21, Or.inl h26⟩)))
            | exact y1 (Or.inr (Or.inr (Or.inr ⟨h21, Or.inr h31⟩)))
            | exact y0 (fun q => q.elim h1 (fun q => q.elim h6 (fun q => q.elim (fun q => by first | exact h16 q.2 | exact h11 q.1) (fun q => by first | exact q.2.elim h26 h31 | exact h21 q.1))))
        · refine r_ild1 f_R_isUnder_19 ?_
          refine r_ic f_R_isUnder_20 ?_
          refine r_ic_ne f_R_isUnder_21 (fun h21 => ?_) (fun h21 => ?_)
          · refine r_ic f_R_isUnder_38 ?_
            refine r_iret f_R_isUnder_39 ⟨_, rfl, rfl⟩ (Nat.le_refl _) (Nat.le_refl _) ?_
            first
              | exact y1 (Or.inl h1)
              | exact y1 (Or.inr (Or.inl h6))
              | exact y1 (Or.inr (Or.inr (Or.inl ⟨h11, h16⟩)))
              | exact y1 (Or.inr (Or.inr (Or.inr ⟨h21, Or.inl h26⟩)))
              | exact y1 (Or.inr (Or.inr (Or.inr ⟨h21, Or.inr h31⟩)))
              | exact y0 (fun q => q.elim h1 (fun q => q.elim h6 (fun q => q.elim (fun q => by first | exact h16 q.2 | exact h11 q.1) (fun q => by first | exact q.2.elim h26 h31 | exact h21 q.1))))
          · refine r_ild0 f_R_isUnder_24 ?_
            refine r_ic f_R_isUnder_25 ?_
            refine r_ic_eq f_R_isUnder_26 (fun h26 => ?_) (fun h26 => ?_)
            · refine r_ic f_R_isUnder_34 ?_
              refine r_goto f_R_isUnder_35 ?_
              refine r_iret f_R_isUnder_39 ⟨_, rfl, rfl⟩ (Nat.le_refl _) (Nat.le_refl _) ?_
              first
                | exact y1 (Or.inl h1)
                | exact y1 (Or.inr (Or.inl h6))
                | exact y1 (Or.inr (Or.inr (Or.inl ⟨h11, h16⟩)))
                | exact y1 (Or.inr (Or.inr (Or.inr ⟨h21, Or.inl h26⟩)))
                | exact y1 (Or.inr (Or.inr (Or.inr ⟨h21, Or.inr h31⟩)))
                | exact y0 (fun q => q.elim h1 (fun q => q.elim h6 (fun q => q.elim (fun q => by first | exact h16 q.2 | exact h11 q.1) (fun q => by first | exact q.2.elim h26 h31 | exact h21 q.1))))
            · refine r_ild0 f_R_isUnder_29 ?_
              refine r_ic f_R_isUnder_30 ?_
              refine r_ic_ne f_R_isUnder_31 (fun h31 => ?_) (fun h31 => ?_)
              · refine r_ic f_R_isUnder_38 ?_
                refine r_iret f_R_isUnder_39 ⟨_, rfl, rfl⟩ (Nat.le_refl _) (Nat.le_refl _) ?_
                first
                  | exact y1 (Or.inl h1)
                  | exact y1 (Or.inr (Or.inl h6))
                  | exact y1 (Or.inr (Or.inr (Or.inl ⟨h11, h16⟩)))
                  | exact y1 (Or.inr (Or.inr (Or.inr ⟨h21, Or.inl h26⟩)))
                  | exact y1 (Or.inr (Or.inr (Or.inr ⟨h21, Or.inr h31⟩)))
                  | exact y0 (fun q => q.elim h1 (fun q => q.elim h6 (fun q => q.elim (fun q => by first | exact h16 q.2 | exact h11 q.1) (fun q => by first | exact q.2.elim h26 h31 | exact h21 q.1))))
              · refine r_ic f_R_isUnder_34 ?_
                refine r_goto f_R_isUnder_35 ?_
                refine r_iret f_R_isUnder_39 ⟨_, rfl, rfl⟩ (Nat.le_refl _) (Nat.le_refl _) ?_
                first
                  | exact y1 (Or.inl h1)
                  | exact y1 (Or.inr (Or.inl h6))
                  | exact y1 (Or.inr (Or.inr (Or.inl ⟨h11, h16⟩)))
                  | exact y1 (Or.inr (Or.inr (Or.inr ⟨h21, Or.inl h26⟩)))
                  | exact y1 (Or.inr (Or.inr (Or.inr ⟨h21, Or.inr h31⟩)))
                  | exact y0 (fun q => q.elim h1 (fun q => q.elim h6 (fun q => q.elim (fun q => by first | exact h16 q.2 | exact h11 q.1) (fun q => by first | exact q.2.elim h26 h31 | exact h21 q.1))))
theorem RepM.l107 (h : RepM I L σ) (hW : WFs σ) (hg : q_ag (fun x _ => x = 107) I I') : RepM I' L σ := h.same hW (h.1.l107 hW.1.2.2.2.2.2.2.2.1 hg) (fun x y q => hg x y (by unfold m_obs at q; omega))
theorem q_lw.l107 (hg : q_ag (fun x _ => x = 107) I I') : q_lw I I' L L := q_lw.ag hg (fun x y w => by omega)
theorem k_R_of {x w : Int32} (hC : RepM I L σ) (hW : WFs σ) (hk : MK K I L (op_of σ x w)) : WW G (d + 4) mt_R_of 0 [some (.ref 95), some (.int x), some (.int w), none] [] SH RF I L 0 0 0 0 K := by
  unfold op_of at hk
  have hcnt := hC.1.cnt hW.1
  have hc8 := hW.1.1.1
  refine r_ald0 f_R_of_0 ?_
  refine r_ild1 f_R_of_1 ?_
  refine c_R_isFarm f_R_of_2 (s_95) (Nat.le_of_ble_eq_true rfl) (Nat.le_refl _) (Nat.le_refl _) ?_
  refine k_R_isFarm hcnt hc8 (fun hx u hu eu => ?_) (fun hx => ?_)
  · rw [if_pos hx] at hk
    subst eu
    rw [nI_clamp (by omega)] at hk
    refine r_if_eq f_R_of_5 (fun h => absurd h (by decide)) (fun _ => ?_)
    refine r_ild2 f_R_of_8 ?_
    refine r_ic f_R_of_9 ?_
    refine r_ic f_R_of_10 ?_
    refine c_R_in f_R_of_12 (Nat.le_of_ble_eq_true rfl) (Nat.le_refl _) (Nat.le_refl _) ?_
    refine k_R_in (fun hwa hwb => ?_) (fun hw => ?_)
    · rw [if_pos ⟨hwa, hwb⟩] at hk
      refine r_if_ne f_R_of_15 (fun _ => ?_) (fun h => absurd h (by decide))
      refine r_ald0 f_R_of_25 ?_
      refine r_ild1 f_R_of_26 ?_
      refine c_R_placeOf f_R_of_27 (s_95) (Nat.le_of_ble_eq_true rfl) (Nat.le_refl _) (Nat.le_refl _) ?_
      refine k_R_placeOf hu hW.1 hC.1 ?_
      refine r_ist3 f_R_of_30 rfl ?_
      refine r_ild2 f_R_of_31 ?_
      refine r_sw f_R_of_32 ?_
      refine r_swc (k := 7) (by decide) (fun e32_7 => ?_) (fun e32_7 => ?_)
      · rw [if_pos e32_7] at hk
        refine r_ald0 f_R_of_64 ?_
        refine r_ild1 f_R_of_65 ?_
        refine r_ild3 f_R_of_66 ?_
        refine c_R_paysAt f_R_of_67 (s_95) (Nat.le_of_ble_eq_true rfl) (Nat.le_refl _) (Nat.le_refl _) ?_
        refine k_R_paysAt (show u < 8 by omega) hC.1 hW.1 (fun I9 g9 => ?_)
        refine r_iret f_R_of_70 ⟨_, rfl, rfl⟩ (Nat.le_refl _) (Nat.le_refl _) ?_
        exact hk _ _ (hC.l107 hW g9) (q_lw.l107 g9)
      refine r_swc (k := 8) (by decide) (fun e32_8 => ?_) (fun e32_8 => ?_)
      · rw [if_neg e32_7, if_pos e32_8] at hk
        refine r_ald0 f_R_of_71 ?_
        refine r_ild1 f_R_of_72 ?_
        refine r_ald0 f_R_of_73 ?_
        refine r_ild1 f_R_of_74 ?_
        refine r_ild3 f_R_of_75 ?_
        refine c_R_paysAt f_R_of_76 (s_95) (Nat.le_of_ble_eq_true rfl) (Nat.le_refl _) (Nat.le_refl _) ?_
        refine k_R_paysAt (show u < 8 by omega) hC.1 hW.1 (fun I9 g9 => ?_)
        refine c_R_wantsBy f_R_of_79 (s_95) (Nat.le_of_ble_eq_true rfl) (Nat.le_refl _) (Nat.le_refl _) ?_
        refine k_R_wantsBy hu (hC.1.l107 hW.1.2.2.2.2.2.2.2.1 g9) hW.1 ?_
        refine r_iret f_R_of_82 ⟨_, rfl, rfl⟩ (Nat.le_refl _) (Nat.le_refl _) ?_
        exact hk _ _ (hC.l107 hW g9) (q_lw.l107 g9)
      refine r_swc (k := 9) (by decide) (fun e32_9 => ?_) (fun e32_9 => ?_)
      · rw [if_neg e32_7, if_neg e32_8, if_pos e32_9] at hk
        refine r_ald0 f_R_of_83 ?_
        refine r_ild1 f_R_of_84 ?_
        refine c_R_minds f_R_of_85 (s_95) (Nat.le_of_ble_eq_true rfl) (Nat.le_refl _) (Nat.le_refl _) ?_
        refine k_R_minds hu hC.1 hW.1 ?_
        refine r_iret f_R_of_88 ⟨_, rfl, rfl⟩ (Nat.le_refl _) (Nat.le_refl _) ?_
        exact hk _ _ hC q_lw.rf
      refine r_swc (k := 10) (by decide) (fun e32_10 => ?_) (fun e32_10 => ?_)
      · rw [if_neg e32_7, if_neg e32_8, if_neg e32_9, if_pos e32_10] at hk
        refine r_ild3 f_R_of_89 ?_
        refine r_iret f_R_of_90 ⟨_, rfl, rfl⟩ (Nat.le_refl _) (Nat.le_refl _) ?_
        exact hk _ _ hC q_lw.rf
      refine r_swn ?_
      rw [if_neg e32_7, if_neg e32_8, if_neg e32_9, if_neg e32_10] at hk
      refine r_ald0 f_R_of_91 ?_
      refine r_ild1 f_R_of_92 ?_
      refine r_ild2 f_R_of_93 ?_
      refine c_R_get f_R_of_94 (s_95) (Nat.le_of_ble_eq_true rfl) (Nat.le_refl _) (Nat.le_refl _) ?_
      obtain ⟨t, ht, et⟩ := q_inC (c := 11) (by omega) hwa hwb
      subst et
      have h7 : t < 7 := by
        refine Nat.lt_of_not_le (fun q => ?_)
        rcases (show t = 7 ∨ t = 8 ∨ t = 9 ∨ t = 10 by omega) with e | e | e | e
        · exact e32_7 (by rw [e]; rfl)
        · exact e32_8 (by rw [e]; rfl)
        · exact e32_9 (by rw [e]; rfl)
        · exact e32_10 (by rw [e]; rfl)
      rw [nI_clamp (by omega)] at hk
      refine k_R_get (show u < 8 by omega) h7 hC.1 ?_
      refine r_iret f_R_of_97 ⟨_, rfl, rfl⟩ (Nat.le_refl _) (Nat.le_refl _) ?_
      exact hk _ _ hC q_lw.rf
    · rw [if_neg hw] at hk
      refine r_if_ne f_R_of_15 (fun h => absurd h (by decide)) (fun _ => ?_)
      refine r_ald0 f_R_of_18 ?_
      refine r_ic f_R_of_19 ?_
      refine c_R_finds f_R_of_21 (s_95) (Nat.le_of_ble_eq_true rfl) (Nat.le_refl _) (Nat.le_refl _) ?_
      refine k_R_finds (k := 0) (by decide) (by decide) hC hW (fun I9 hC9 hi9 => ?_)
      refine r_iret f_R_of_24 ⟨_, rfl, rfl⟩ (Nat.le_refl _) (Nat.le_refl _) ?_
      exact hk _ _ hC9 hi9
  · rw [if_neg hx] at hk
    refine r_if_eq f_R_of_5 (fun _ => ?_) (fun h => absurd h (by decide))
    refine r_ald0 f_R_of_18 ?_
    refine r_ic f_R_of_19 ?_
    refine c_R_finds f_R_of_21 (s_95) (Nat.le_of_ble_eq_true rfl) (Nat.le_refl _) (Nat.le_refl _) ?_
    refine k_R_finds (k := 0) (by decide) (by decide) hC hW (fun I9 hC9 hi9 => ?_)
    refine r_iret f_R_of_24 ⟨_, rfl, rfl⟩ (Nat.le_refl _) (Nat.le_refl _) ?_
    exact hk _ _ hC9 hi9
theorem k_R_as {x w : Int32} (hC : RepM I L σ) (hW : WFs σ) (hk : MK K I L (op_as σ x w)) : WW G (d + 4) mt_R_as 0 [some (.ref 95), some (.int x), some (.int w)] [] SH RF I L 0 0 0 0 K := by
  unfold op_as at hk
  have hcnt := hC.1.cnt hW.1
  have hc8 := hW.1.1.1
  refine r_ald0 f_R_as_0 ?_
  refine r_ild1 f_R_as_1 ?_
  refine c_R_isFarm f_R_as_2 (s_95) (Nat.le_of_ble_eq_true rfl) (Nat.le_refl _) (Nat.le_refl _) ?_
  refine k_R_isFarm hcnt hc8 (fun hx u hu eu => ?_) (fun hx => ?_)
  · rw [if_pos hx] at hk
    subst eu
    rw [nI_clamp (by omega)] at hk
    refine r_if_eq f_R_as_5 (fun h => absurd h (by decide)) (fun _ => ?_)
    refine r_ild2 f_R_as_8 ?_
    refine r_ic f_R_as_9 ?_
    refine r_ic f_R_as_10 ?_
    refine c_R_in f_R_as_11 (Nat.le_of_ble_eq_true rfl) (Nat.le_refl _) (Nat.le_refl _) ?_
    refine k_R_in (fun hwa hwb => ?_) (fun hw => ?_)
    · rw [if_pos ⟨hwa, hwb⟩] at hk
      refine r_if_ne f_R_as_14 (fun _ => ?_) (fun h => absurd h (by decide))
      refine r_ald0 f_R_as_24 ?_
      refine r_ild1 f_R_as_25 ?_
      refine r_ic f_R_as_26 ?_
      refine c_R_get f_R_as_27 (s_95) (Nat.le_of_ble_eq_true rfl) (Nat.le_refl _) (Nat.le_refl _) ?_
      refine k_R_get (k := 0) (show u < 8 by omega) (by decide) hC.1 ?_
      refine r_ild2 f_R_as_30 ?_
      refine c_R_isUnder f_R_as_31 (Nat.le_of_ble_eq_true rfl) (Nat.le_refl _) (Nat.le_refl _) ?_
      refine k_R_isUnder (fun hu2 => ?_) (fun hu2 => ?_)
      · rw [if_pos (sp_unb_iff.mpr hu2)] at hk
        refine r_if_eq f_R_as_34 (fun h => absurd h (by decide)) (fun _ => ?_)
        refine r_ald0 f_R_as_37 ?_
        refine r_ild1 f_R_as_38 ?_
        refine r_ald0 f_R_as_39 ?_
        refine r_ild1 f_R_as_40 ?_
        refine r_ald0 f_R_as_41 ?_
        refine r_ild1 f_R_as_42 ?_
        refine c_R_placeOf f_R_as_43 (s_95) (Nat.le_of_ble_eq_true rfl) (Nat.le_refl _) (Nat.le_refl _) ?_
        refine k_R_placeOf hu hW.1 hC.1 ?_
        refine c_R_paysAt f_R_as_46 (s_95) (Nat.le_of_ble_eq_true rfl) (Nat.le_refl _) (Nat.le_refl _) ?_
        refine k_R_paysAt (show u < 8 by omega) hC.1 hW.1 (fun I9 g9 => ?_)
        refine c_R_wantsBy f_R_as_49 (s_95) (Nat.le_of_ble_eq_true rfl) (Nat.le_refl _) (Nat.le_refl _) ?_
        refine k_R_wantsBy hu (hC.1.l107 hW.1.2.2.2.2.2.2.2.1 g9) hW.1 ?_
        refine r_goto f_R_as_52 ?_
        refine r_iret f_R_as_61 ⟨_, rfl, rfl⟩ (Nat.le_refl _) (Nat.le_refl _) ?_
        first | exact hk _ _ hC9 hi9 | exact hk _ _ (hC.l107 hW g9) (q_lw.l107 g9)
      · rw [if_neg (fun q => hu2 (sp_unb_iff.mp q))] at hk
        refine r_if_eq f_R_as_34 (fun _ => ?_) (fun h => absurd h (by decide))
        refine r_ald0 f_R_as_55 ?_
        refine r_ic f_R_as_56 ?_
        refine c_R_finds f_R_as_58 (s_95) (Nat.le_of_ble_eq_true rfl) (Nat.le_refl _) (Nat.le_refl _) ?_
        refine k_R_finds (k := 2) (by decide) (by decide) hC hW (fun I9 hC9 hi9 => ?_)
        refine r_iret f_R_as_61 ⟨_, rfl, rfl⟩ (Nat.le_refl _) (Nat.le_refl _) ?_
        first | exact hk _ _ hC9 hi9 | exact hk _ _ (hC.l107 hW g9) (q_lw.l107 g9)
    · rw [if_neg hw] at hk
      refine r_if_ne f_R_as_14 (fun h => absurd h (by decide)) (fun _ => ?_)
      refine r_ald0 f_R_as_17 ?_
      refine r_ic f_R_as_18 ?_
      refine c_R_finds f_R_as_20 (s_95) (Nat.le_of_ble_eq_true rfl) (Nat.le_refl _) (Nat.le_refl _) ?_
      refine k_R_finds (k := 0) (by decide) (by decide) hC hW (fun I9 hC9 hi9 => ?_)
      refine r_iret f_R_as_23 ⟨_, rfl, rfl⟩ (Nat.le_refl _) (Nat.le_refl _) ?_
      exact hk _ _ hC9 hi9
  · rw [if_neg hx] at hk
    refine r_if_eq f_R_as_5 (fun _ => ?_) (fun h => absurd h (by decide))
    refine r_ald0 f_R_as_17 ?_
    refine r_ic f_R_as_18 ?_
    refine c_R_finds f_R_as_20 (s_95) (Nat.le_of_ble_eq_true rfl) (Nat.le_refl _) (Nat.le_refl _) ?_
    refine k_R_finds (k := 0) (by decide) (by decide) hC hW (fun I9 hC9 hi9 => ?_)
    refine r_iret f_R_as_23 ⟨_, rfl, rfl⟩ (Nat.le_refl _) (Nat.le_refl _) ?_
    exact hk _ _ hC9 hi9
theorem k_R_gives {x : Int32} (hC : RepM I L σ) (hW : WFs σ) (hk : MK K I L (op_gives σ x)) : WW G (d + 3) mt_R_gives 0 [some (.ref 95), some (.int x)] [] SH RF I L 0 0 0 0 K := by
  unfold op_gives at hk
  have hcnt := hC.1.cnt hW.1
  have hc8 := hW.1.1.1
  refine r_ald0 f_R_gives_0 ?_
  refine r_ild1 f_R_gives_1 ?_
  refine c_R_isFarm f_R_gives_2 (s_95) (Nat.le_of_ble_eq_true rfl) (Nat.le_refl _) (Nat.le_refl _) ?_
  refine k_R_isFarm hcnt hc8 (fun hx u hu eu => ?_) (fun hx => ?_)
  · rw [if_pos hx] at hk
    subst eu
    rw [nI_clamp (by omega)] at hk
    refine r_if_ne f_R_gives_5 (fun _ => ?_) (fun h => absurd h (by decide))
    refine r_ald0 f_R_gives_15 ?_
    refine r_gr f_R_gives_16 (s_95) (r_95_0) ?_
    refine r_ic f_R_gives_19 ?_
    refine r_iald f_R_gives_21 (s_96) (show q_ix 11 11 136 from ⟨by decide, by decide⟩) ?_
    rw [hC.1.2]
    refine r_if_le f_R_gives_22 (fun h22 => ?_) (fun h22 => ?_)
    · rw [show sp_gives σ.1 u (sp_place σ.1 u) = 100 from if_pos ((hC.1.n0 hW.1.2.2.2.2.2.2.2.1).mp h22)] at hk
      refine r_ic f_R_gives_38 ?_
      refine r_iret f_R_gives_40 ⟨_, rfl, rfl⟩ (Nat.le_refl _) (Nat.le_refl _) ?_
      first | exact hk _ _ (hC.l107 hW g9) (q_lw.l107 g9) | exact hk _ _ hC q_lw.rf
    · refine r_ald0 f_R_gives_25 ?_
      refine r_ild1 f_R_gives_26 ?_
      refine r_ald0 f_R_gives_27 ?_
      refine r_ild1 f_R_gives_28 ?_
      refine c_R_placeOf f_R_gives_29 (s_95) (Nat.le_of_ble_eq_true rfl) (Nat.le_refl _) (Nat.le_refl _) ?_
      refine k_R_placeOf hu hW.1 hC.1 ?_
      refine c_R_says f_R_gives_32 (s_95) (Nat.le_of_ble_eq_true rfl) (Nat.le_refl _) (Nat.le_refl _) ?_
      refine k_R_says (show u < 8 by omega) hC.1 hW.1 (fun q => h22 ((hC.1.n0 hW.1.2.2.2.2.2.2.2.1).mpr q)) (fun I9 g9 => ?_)
      refine r_goto f_R_gives_35 ?_
      refine r_iret f_R_gives_40 ⟨_, rfl, rfl⟩ (Nat.le_refl _) (Nat.le_refl _) ?_
      first | exact hk _ _ (hC.l107 hW g9) (q_lw.l107 g9) | exact hk _ _ hC q_lw.rf
  · rw [if_neg hx] at hk
    refine r_if_ne f_R_gives_5 (fun h => absurd h (by decide)) (fun _ => ?_)
    refine r_ald0 f_R_gives_8 ?_
    refine r_ic f_R_gives_9 ?_
    refine c_R_finds f_R_gives_11 (s_95) (Nat.le_of_ble_eq_true rfl) (Nat.le_refl _) (Nat.le_refl _) ?_
    refine k_R_finds (k := 0) (by decide) (by decide) hC hW (fun I9 hC9 hi9 => ?_)
    refine r_iret f_R_gives_14 ⟨_, rfl, rfl⟩ (Nat.le_refl _) (Nat.le_refl _) ?_
    exact hk _ _ hC9 hi9
theorem k_R_told_loop (hW : WFd D) (hR : RR I 96 D) (hk : K (some (.int (sp_num D (dC D)))) SH RF I L) : ∀ (m p : Nat), m + p = dC D → WW G d mt_R_told 21 [some (.ref 95), some (.int (sp_num D p)), some (.int (nI p))] [] SH RF I L 0 0 0 0 K
  | 0, p, h => by
    have ep : p = dC D := by omega
    subst ep
    refine r_ild2 f_R_told_21 ?_
    refine r_ald0 f_R_told_22 ?_
    refine r_gr f_R_told_23 (s_95) (r_95_0) ?_
    refine r_ic f_R_told_26 ?_
    refine r_iald f_R_told_28 (s_96) (show q_ix 10 10 136 from ⟨by decide, by decide⟩) ?_
    rw [hR.cnt hW]
    refine r_ic_ge f_R_told_29 (fun h29 => ?_) (fun h29 => absurd h29 (fun q => q (Int32.le_refl _)))
    refine r_ild1 f_R_told_53 ?_
    refine r_iret f_R_told_54 ⟨_, rfl, rfl⟩ (Nat.le_refl _) (Nat.le_refl _) ?_
    exact hk
  | m + 1, p, h => by
    have hc8 := hW.1.1
    refine r_ild2 f_R_told_21 ?_
    refine r_ald0 f_R_told_22 ?_
    refine r_gr f_R_told_23 (s_95) (r_95_0) ?_
    refine r_ic f_R_told_26 ?_
    refine r_iald f_R_told_28 (s_96) (show q_ix 10 10 136 from ⟨by decide, by decide⟩) ?_
    rw [hR.cnt hW]
    refine r_ic_ge f_R_told_29 (fun h29 => absurd h29 (nI_ge (by omega) (by omega))) (fun h29 => ?_)
    refine r_ic f_R_told_32 ?_
    refine r_ild1 f_R_told_34 ?_
    refine r_imul f_R_told_35 ?_
    refine r_ald0 f_R_told_36 ?_
    refine r_gr f_R_told_37 (s_95) (r_95_0) ?_
    refine r_ic f_R_told_40 ?_
    refine r_ild2 f_R_told_42 ?_
    refine r_iadd f_R_told_43 ?_
    rw [show (68 : Int32) + nI p = nI (68 + p) from nI_add 68 p]
    refine r_iald f_R_told_44 (s_96) (q_ix.nI (show 68 + p < 136 by omega) (by decide)) ?_
    rw [hR.o (p := p) (by omega)]
    refine r_iadd f_R_told_45 ?_
    rw [Int32.mul_comm 8 (sp_num D p)]
    refine r_ist1 f_R_told_46 rfl ?_
    refine r_inc2 f_R_told_47 rfl ?_
    rw [nI_1]
    refine r_goto f_R_told_50 ?_
    exact k_R_told_loop hW hR hk m (p + 1) (by omega)
theorem k_R_told (hC : RepM I L σ) (hW : WFs σ) (hk : MK K I L (op_told σ)) : WW G (d + 1) mt_R_told 0 [some (.ref 95), none, none] [] SH RF I L 0 0 0 0 K := by
  unfold op_told at hk
  have hcnt := hC.1.cnt hW.1
  have hc8 := hW.1.1.1
  refine r_ald0 f_R_told_0 ?_
  refine r_gr f_R_told_1 (s_95) (r_95_0) ?_
  refine r_ic f_R_told_4 ?_
  refine r_iald f_R_told_6 (s_96) (show q_ix 10 10 136 from ⟨by decide, by decide⟩) ?_
  rw [hcnt]
  refine r_if_ne f_R_told_7 (fun h7 => ?_) (fun h7 => ?_)
  · rw [if_neg (fun q => h7 (by rw [q]; rfl))] at hk
    refine r_ic f_R_told_17 ?_
    refine r_ist1 f_R_told_18 rfl ?_
    refine r_ic f_R_told_19 ?_
    refine r_ist2 f_R_told_20 rfl ?_
    exact k_R_told_loop hW.1 hC.1 (hk _ _ hC q_lw.rf) _ 0 (Nat.add_zero _)
  · rw [if_pos ((nI_eq (b := 0) (by omega) (by decide)).mp h7)] at hk
    refine r_ald0 f_R_told_10 ?_
    refine r_ic f_R_told_11 ?_
    refine c_R_finds f_R_told_13 (s_95) (Nat.le_of_ble_eq_true rfl) (Nat.le_refl _) (Nat.le_refl _) ?_
    refine (k_R_finds (k := 3) (by decide) (by decide) hC hW (fun I9 hC9 hi9 => ?_))
    refine r_iret f_R_told_16 ⟨_, rfl, rfl⟩ (Nat.le_refl _) (Nat.le_refl _) ?_
    exact hk _ _ hC9 hi9
theorem k_R_hoursAll_loop (hW : WFd D) (hR : RR I 96 D) (hk : K (some (.int (sp_hsum D (dC D)))) SH RF I L) : ∀ (m p : Nat), m + p = dC D → WW G (d + 1) mt_R_hoursAll 4 [some (.ref 95), some (.int (sp_hsum D p)), some (.int (nI p))] [] SH RF I L 0 0 0 0 K
  | 0, p, h => by
    have ep : p = dC D := by omega
    subst ep
    refine r_ild2 f_R_hoursAll_4 ?_
    refine r_ald0 f_R_hoursAll_5 ?_
    refine r_gr f_R_hoursAll_6 (s_95) (r_95_0) ?_
    refine r_ic f_R_hoursAll_9 ?_
    refine r_iald f_R_hoursAll_11 (s_96) (show q_ix 10 10 136 from ⟨by decide, by decide⟩) ?_
    rw [hR.cnt hW]
    refine r_ic_ge f_R_hoursAll_12 (fun h12 => ?_) (fun h12 => absurd h12 (fun q => q (Int32.le_refl _)))
    refine r_ild1 f_R_hoursAll_30 ?_
    refine r_iret f_R_hoursAll_31 ⟨_, rfl, rfl⟩ (Nat.le_refl _) (Nat.le_refl _) ?_
    exact hk
  | m + 1, p, h => by
    have hc8 := hW.1.1
    refine r_ild2 f_R_hoursAll_4 ?_
    refine r_ald0 f_R_hoursAll_5 ?_
    refine r_gr f_R_hoursAll_6 (s_95) (r_95_0) ?_
    refine r_ic f_R_hoursAll_9 ?_
    refine r_iald f_R_hoursAll_11 (s_96) (show q_ix 10 10 136 from ⟨by decide, by decide⟩) ?_
    rw [hR.cnt hW]
    refine r_ic_ge f_R_hoursAll_12 (fun h12 => absurd h12 (nI_ge (by omega) (by omega))) (fun h12 => ?_)
    refine r_ild1 f_R_hoursAll_15 ?_
    refine r_ald0 f_R_hoursAll_16 ?_
    refine r_ild2 f_R_hoursAll_17 ?_
    refine r_ic f_R_hoursAll_18 ?_
    refine c_R_get f_R_hoursAll_19 (s_95) (Nat.le_of_ble_eq_true rfl) (Nat.le_refl _) (Nat.le_refl _) ?_
    refine k_R_get (k := 1) (show p < 8 by omega) (by decide) hR ?_
    refine r_iadd f_R_hoursAll_22 ?_
    refine r_ist1 f_R_hoursAll_23 rfl ?_
    refine r_inc2 f_R_hoursAll_24 rfl ?_
    rw [nI_1]
    refine r_goto f_R_hoursAll_27 ?_
    exact k_R_hoursAll_loop hW hR hk m (p + 1) (by omega)
theorem k_R_hoursAll (hW : WFd D) (hR : RR I 96 D) (hk : K (some (.int (sp_hsum D (dC D)))) SH RF I L) : WW G (d + 1) mt_R_hoursAll 0 [some (.ref 95), none, none] [] SH RF I L 0 0 0 0 K := by
  refine r_ic f_R_hoursAll_0 ?_
  refine r_ist1 f_R_hoursAll_1 rfl ?_
  refine r_ic f_R_hoursAll_2 ?_
  refine r_ist2 f_R_hoursAll_3 rfl ?_
  exact k_R_hoursAll_loop hW hR hk _ 0 (Nat.add_zero _)
theorem sp_hsum_nat (hW : WFd D) : ∀ k, k ≤ dC D → ∃ n, k ≤ n ∧ n ≤ 24 * k ∧ sp_hsum D k = nI n
  | 0, _ => ⟨0, Nat.le_refl _, Nat.le_refl _, rfl⟩
  | k + 1, h => by
    obtain ⟨n, n1, n2, n3⟩ := sp_hsum_nat hW k (by omega)
    obtain ⟨x, x1, x2, x3⟩ := hW.2.2.2.1 k 1 (by omega) (by decide) (by decide)
    have z : q_fmax 1 = 24 := rfl
    rw [if_pos rfl] at x1
    refine ⟨n + x, by omega, by omega, ?_⟩
    show sp_hsum D k + D.1 k 1 = _
    rw [n3, x3, nI_add]
theorem k_R_share {x : Int32} (hC : RepM I L σ) (hW : WFs σ) (hk : MK K I L (op_share σ x)) : WW G (d + 2) mt_R_share 0 [some (.ref 95), some (.int x)] [] SH RF I L 0 0 0 0 K := by
  unfold op_share at hk
  have hcnt := hC.1.cnt hW.1
  have hc8 := hW.1.1.1
  refine r_ald0 f_R_share_0 ?_
  refine r_ild1 f_R_share_1 ?_
  refine c_R_isFarm f_R_share_2 (s_95) (Nat.le_of_ble_eq_true rfl) (Nat.le_refl _) (Nat.le_refl _) ?_
  refine k_R_isFarm hcnt hc8 (fun hx u hu eu => ?_) (fun hx => ?_)
  · rw [if_pos hx] at hk
    subst eu
    rw [nI_clamp (by omega)] at hk
    refine r_if_eq f_R_share_5 (fun h => absurd h (by decide)) (fun _ => ?_)
    refine r_ic f_R_share_8 ?_
    refine r_ald0 f_R_share_10 ?_
    refine r_ild1 f_R_share_11 ?_
    refine r_ic f_R_share_12 ?_
    refine c_R_get f_R_share_13 (s_95) (Nat.le_of_ble_eq_true rfl) (Nat.le_refl _) (Nat.le_refl _) ?_
    refine k_R_get (k := 1) (show u < 8 by omega) (by decide) hC.1 ?_
    refine r_imul f_R_share_16 ?_
    refine r_ald0 f_R_share_17 ?_
    refine c_R_hoursAll f_R_share_18 (s_95) (Nat.le_of_ble_eq_true rfl) (Nat.le_refl _) (Nat.le_refl _) ?_
    have hne : ¬ sp_hsum σ.1 (dC σ.1) = 0 := by
      obtain ⟨n, n1, n2, n3⟩ := sp_hsum_nat hW.1 _ (Nat.le_refl _)
      rw [n3]
      exact nI_ne0 (by omega) (by omega)
    refine k_R_hoursAll hW.1 hC.1 ?_
    refine r_idiv f_R_share_21 hne ?_
    refine r_goto f_R_share_22 ?_
    refine r_iret f_R_share_31 ⟨_, rfl, rfl⟩ (Nat.le_refl _) (Nat.le_refl _) ?_
    first | exact hk _ _ hC9 hi9 | (rw [if_neg hne, Int32.mul_comm] at hk; exact hk _ _ hC q_lw.rf)
  · rw [if_neg hx] at hk
    refine r_if_eq f_R_share_5 (fun _ => ?_) (fun h => absurd h (by decide))
    refine r_ald0 f_R_share_25 ?_
    refine r_ic f_R_share_26 ?_
    refine c_R_finds f_R_share_28 (s_95) (Nat.le_of_ble_eq_true rfl) (Nat.le_refl _) (Nat.le_refl _) ?_
    refine k_R_finds (k := 0) (by decide) (by decide) hC hW (fun I9 hC9 hi9 => ?_)
    refine r_iret f_R_share_31 ⟨_, rfl, rfl⟩ (Nat.le_refl _) (Nat.le_refl _) ?_
    first | exact hk _ _ hC9 hi9 | (rw [if_neg hne, Int32.mul_comm] at hk; exact hk _ _ hC q_lw.rf)
end L53
