section L43
variable {G : Gx} {d : Nat} {I I' I2 : Rn} {L L' L2 : Rl} {K : Kt} {σ : St} {D : Dst} {c : Nat} {lo : Nat → Nat → Nat → Int64}
def o_one (c : Nat) (lo : Nat → Nat → Nat → Int64) (f : Nat) (b : Int64 × Int32) : Int64 × Int32 := o_from c lo (c - 1) 1 (1 <<< (nI f &&& 31)) 0 (nI f) (fun _ => f) b
theorem OS.z {pl : Nat} {la la' : Nat → Nat} {b : Int64 × Int32} (h : OS lo c I L pl la b) : OS lo c I L 0 la' b := ⟨h.1, h.2.1, fun j hj => absurd hj (Nat.not_lt_zero j), h.2.2.2⟩
theorem OS.f {f : Nat} {la : Nat → Nat} {b : Int64 × Int32} (h : OS lo c I L 0 la b) (hf : f < c) : OS lo c (u2 I 79 0 (nI f)) L 1 (fun _ => f) b := by
  have := h.lay hf
  refine ⟨this.1, this.2.1, fun j hj => ?_, this.2.2.2⟩
  have h3 := this.2.2.1 j hj
  dsimp only at h3
  rw [if_pos (by omega)] at h3
  exact h3
theorem k_O_layFirst_loop {F : Nat} (hc1 : 1 ≤ c) (hc7 : c ≤ 7) (hF : F ≤ c) : ∀ (k f : Nat) (b : Int64 × Int32) (I : Rn) (L : Rl), k + f = F → OS lo c I L 0 (fun _ => 0) b → (∀ I' L', OS lo c I' L' 0 (fun _ => 0) (o_fold (o_one c lo) k f b) → q_ag F6 I I' → q_aL F5 L L' → K none SH RF I' L') → WW G (d + 10) mt_O_layFirst 2 [some (.ref 76), some (.int (nI F)), some (.int (nI f))] [] SH RF I L 0 0 0 0 K
  | 0, f, b, I, L, h, hO, hk => by
    have ef : f = F := by omega
    subst ef
    refine r_ild2 f_O_layFirst_2 ?_
    refine r_ild1 f_O_layFirst_3 ?_
    refine r_ic_ge f_O_layFirst_4 (fun h4 => ?_) (fun h4 => absurd h4 (fun q => q (Int32.le_refl _)))
    refine r_ret f_O_layFirst_30 rfl (Nat.le_refl _) (Nat.le_refl _) ?_
    exact hk I L hO q_ag.rf q_aL.rf
  | k + 1, f, b, I, L, h, hO, hk => by
    refine r_ild2 f_O_layFirst_2 ?_
    refine r_ild1 f_O_layFirst_3 ?_
    refine r_ic_ge f_O_layFirst_4 (fun h4 => absurd h4 (nI_ge (by omega) (by omega))) (fun h4 => ?_)
    refine r_ald0 f_O_layFirst_7 ?_
    refine r_gr f_O_layFirst_8 (s_76) (r_76_2) ?_
    refine r_ic f_O_layFirst_11 ?_
    refine r_ild2 f_O_layFirst_12 ?_
    refine r_iast f_O_layFirst_13 (s_79) (show q_ix 0 0 7 from ⟨by decide, by decide⟩) ?_
    refine r_ald0 f_O_layFirst_14 ?_
    refine r_ic f_O_layFirst_15 ?_
    refine r_ic f_O_layFirst_16 ?_
    refine r_ild2 f_O_layFirst_17 ?_
    refine r_ishl f_O_layFirst_18 ?_
    refine r_lc f_O_layFirst_19 ?_
    refine r_ild2 f_O_layFirst_20 ?_
    refine c_O_layFrom f_O_layFirst_21 (Nat.le_of_ble_eq_true rfl) (Nat.le_refl _) (Nat.le_refl _) ?_
    refine (k_O_layFrom (d := 0) hc1 hc7 (c - 1) 1 _ _ _ (fun _ => f) b _ _ _ (by omega) (Nat.le_refl _) (hO.f (show f < c by omega)) (fun I2 L2 hO2 hi2 hl2 => ?_)).up (by omega)
    refine r_inc2 f_O_layFirst_24 rfl ?_
    rw [nI_1]
    refine r_goto f_O_layFirst_27 ?_
    exact k_O_layFirst_loop hc1 hc7 hF k (f + 1) _ I2 L2 (by omega) hO2.z (fun I3 L3 hO3 hi3 hl3 => hk I3 L3 hO3 (((q_ag.rf (P := F6) (I := I)).u2 (i := 79) (Or.inl rfl)).tr (hi2.tr hi3)) (hl2.tr hl3))
theorem k_O_layFirst {F : Nat} {b : Int64 × Int32} (hc1 : 1 ≤ c) (hc7 : c ≤ 7) (hF : F ≤ c) (hO : OS lo c I L 0 (fun _ => 0) b) (hk : ∀ I' L', OS lo c I' L' 0 (fun _ => 0) (o_fold (o_one c lo) F 0 b) → q_ag F6 I I' → q_aL F5 L L' → K none SH RF I' L') : WW G (d + 10) mt_O_layFirst 0 [some (.ref 76), some (.int (nI F)), none] [] SH RF I L 0 0 0 0 K := by
  refine r_ic f_O_layFirst_0 ?_
  refine r_ist2 f_O_layFirst_1 rfl ?_
  exact k_O_layFirst_loop hc1 hc7 hF F 0 b I L rfl hO hk
theorem k_T_asks_loop {n : Nat} (hn : n ≤ 60) (hl : I 5 3 = nI n) (y1 : (∃ j, j < n ∧ I 6 j = -111) → K (some (.int 1)) SH RF I L) (y0 : (∀ j, j < n → ¬ I 6 j = -111) → K (some (.int 0)) SH RF I L) : ∀ (m j : Nat), m + j = n → (∀ i, i < j → ¬ I 6 i = -111) → WW G d mt_T_asksPlace 2 [some (.ref 5), some (.int (nI j))] [] SH RF I L 0 0 0 0 K
  | 0, j, h, hj => by
    have ej : j = n := by omega
    subst ej
    refine r_ild1 f_T_asksPlace_2 ?_
    refine r_ald0 f_T_asksPlace_3 ?_
    refine r_gi f_T_asksPlace_4 (sT (q_TD q_D1)) ?_
    rw [hl]
    refine r_ic_ge f_T_asksPlace_7 (fun h7 => ?_) (fun h7 => absurd h7 (fun q => q (Int32.le_refl _)))
    refine r_ic f_T_asksPlace_29 ?_
    refine r_iret f_T_asksPlace_30 ⟨_, rfl, rfl⟩ (Nat.le_refl _) (Nat.le_refl _) ?_
    exact y0 hj
  | m + 1, j, h, hj => by
    refine r_ild1 f_T_asksPlace_2 ?_
    refine r_ald0 f_T_asksPlace_3 ?_
    refine r_gi f_T_asksPlace_4 (sT (q_TD q_D1)) ?_
    rw [hl]
    refine r_ic_ge f_T_asksPlace_7 (fun h7 => absurd h7 (nI_ge (by omega) (by omega))) (fun h7 => ?_)
    refine r_ald0 f_T_asksPlace_10 ?_
    refine r_gr f_T_asksPlace_11 (sT (q_TD q_D1)) (rT0 (q_TD q_D1)) ?_
    refine r_ild1 f_T_asksPlace_14 ?_
    refine r_iald f_T_asksPlace_15 (sT1 (q_TD q_D1)) (q_ix.nI (show j < 60 by omega) (by decide)) ?_
    refine r_ic f_T_asksPlace_16 ?_
    refine r_ic_ne f_T_asksPlace_18 (fun h18 => ?_) (fun h18 => ?_)
    · refine r_inc1 f_T_asksPlace_23 rfl ?_
      rw [nI_1]
      refine r_goto f_T_asksPlace_26 ?_
      refine k_T_asks_loop hn hl y1 y0 m (j + 1) (by omega) (fun i hi => ?_)
      by_cases e : i = j
      · rw [e]
        exact h18
      · exact hj i (by omega)
    · refine r_ic f_T_asksPlace_21 ?_
      refine r_iret f_T_asksPlace_22 ⟨_, rfl, rfl⟩ (Nat.le_refl _) (Nat.le_refl _) ?_
      exact y1 ⟨j, by omega, h18⟩
theorem k_T_asksPlace {n : Nat} (hn : n ≤ 60) (hl : I 5 3 = nI n) (y1 : (∃ j, j < n ∧ I 6 j = -111) → K (some (.int 1)) SH RF I L) (y0 : (∀ j, j < n → ¬ I 6 j = -111) → K (some (.int 0)) SH RF I L) : WW G d mt_T_asksPlace 0 [some (.ref 5), none] [] SH RF I L 0 0 0 0 K := by
  refine r_ic f_T_asksPlace_0 ?_
  refine r_ist1 f_T_asksPlace_1 rfl ?_
  exact k_T_asks_loop hn hl y1 y0 n 0 rfl (fun i hi => absurd hi (Nat.not_lt_zero i))
theorem q_tr_o {x : Int32} (h : q_code x) : q_tr x = 10005 ↔ x = -111 := by
  constructor
  · intro e
    rcases h with ⟨n, _, h2, h3⟩ | h | h | h | h
    · subst h3
      rw [show q_tr (nI n) = nI n from if_pos (nI_pos' (by omega))] at e
      have := (nI_eq (b := 10005) (by omega) (by decide)).mp e
      omega
    · have hx : x = -(-x) := (Int32.neg_neg).symm
      rcases h with h | h | h | h | h | h <;> rw [h] at hx <;> subst hx <;> revert e <;> decide
    · have hx : x = -(-x) := (Int32.neg_neg).symm
      rcases h with h | h | h | h <;> rw [h] at hx <;> subst hx <;> revert e <;> decide
    · have hx : x = -(-x) := (Int32.neg_neg).symm
      rw [h] at hx
      subst hx
      revert e
      decide
    · have hx : x = -(-x) := (Int32.neg_neg).symm
      rw [h] at hx
      subst hx
      revert e
      decide
  · rintro rfl
    decide
theorem RD.asks (h : RD I 1 D) (hl : D.2.2.2.2.length ≤ 60) : 10005 ∈ D.2.2.2.2 ↔ ∃ j, j < D.2.2.2.2.length ∧ I 6 j = -111 := by
  have e : D.2.2.2.2 = (List.range D.2.2.2.2.length).map (fun j => q_tr (I 6 j)) := by
    have h2 := h.2.1
    have e1 : D.2.2.2.2 = (List.range (I (1 + 4) 3).toNatClampNeg).map (fun j => q_tr (I (1 + 5) j)) := by
      rw [← h.1]
      rfl
    rw [h2, nI_clamp (by omega)] at e1
    exact e1
  constructor
  · intro hm
    rw [e] at hm
    obtain ⟨j, j1, j2⟩ := List.mem_map.mp hm
    have j3 := List.mem_range.mp j1
    exact ⟨j, j3, (q_tr_o (h.2.2 j j3)).mp j2⟩
  · rintro ⟨j, j1, j2⟩
    rw [e]
    exact List.mem_map.mpr ⟨j, List.mem_range.mpr j1, (q_tr_o (h.2.2 j j1)).mpr j2⟩
def o_best (D : Dst) : Int64 × Int32 := o_fold (o_one (dC D) (sp_lo D)) (if 10005 ∈ D.2.2.2.2 then dC D else 1) 0 (1152921504606846976, 0)
def FQ : Nat → Nat → Prop := fun x y => FT 5 x y ∨ (76 ≤ x ∧ x ≤ 80)
def FL : Nat → Nat → Prop := fun x _ => x = 76 ∨ x = 78
theorem k_O_search_2 {I0 : Rn} {L0 : Rl} (hc : dC D = c) (hW : WFd D) (hc2 : 2 ≤ c) (hc7 : c ≤ 7) (hk : ∀ I' L', L' 76 5 = (o_best D).1 → I' 76 6 = (o_best D).2 → q_ag FQ I0 I' → q_aL FL L0 L' → K none SH RF I' L') (hR : RD I 1 D) (h4 : I 76 4 = nI c) (hg : q_ag FQ I0 I) (hl : q_aL FL L0 L) (hlo : q_lo (sp_lo D) c L c 0 0) : WW G (d + 12) mt_O_search 52 [some (.ref 76), some (.ref 1), none, none] [] SH RF I L 0 0 0 0 K := by
  have hlen := hW.2.2.2.2.2.2.2.1
  have hRu : RD (u2 I 76 6 0) 1 D := hR.rows (fun x y a1 a2 => u2_ne (Or.inl (by omega)))
  have hOS : OS (sp_lo D) c (u2 I 76 6 0) (u2 L 76 5 1152921504606846976) 0 (fun _ => 0) (1152921504606846976, 0) := ⟨(u2_ne (Or.inr (by decide))).trans h4, fun x y p a1 a2 a3 => (u2_ne (Or.inl (by decide))).trans (hlo x y p a1 a2 a3 (Or.inl a1)), fun j hj => absurd hj (Nat.not_lt_zero j), u2_self, u2_self⟩
  have hgo : ∀ I' L', OS (sp_lo D) c I' L' 0 (fun _ => 0) (o_best D) → q_ag F6 (u2 I 76 6 0) I' → q_aL F5 (u2 L 76 5 1152921504606846976) L' → K none SH RF I' L' := fun I' L' hO hi hl2 => hk I' L' hO.2.2.2.1 hO.2.2.2.2 ((hg.tr (q_ag.rf.u2 (show FQ 76 6 from Or.inr ⟨by decide, by decide⟩))).tr (hi.mo (fun x y q => by unfold F6 at q; unfold FQ; omega))) ((hl.tr (q_aL.rf.u2 (show FL 76 5 from Or.inl rfl))).tr (fun x y q => hl2 x y (fun w => q (by unfold F5 at w; unfold FL; omega))))
  unfold o_best at hgo
  rw [hc] at hgo
  refine r_ald0 f_O_search_52 ?_
  refine r_lc f_O_search_53 ?_
  refine r_pl f_O_search_56 (s_76) ?_
  refine r_ald0 f_O_search_59 ?_
  refine r_ic f_O_search_60 ?_
  refine r_pi f_O_search_61 (s_76) ?_
  refine r_ald0 f_O_search_64 ?_
  refine r_ald1 f_O_search_65 ?_
  refine r_gr f_O_search_66 (sD q_D1) (rD3 q_D1) ?_
  refine c_T_asksPlace f_O_search_69 (sT (q_TD q_D1)) (Nat.le_of_ble_eq_true rfl) (Nat.le_refl _) (Nat.le_refl _) ?_
  refine k_T_asksPlace hlen hRu.2.1 (fun hy => ?_) (fun hy => ?_)
  · rw [if_pos ((hRu.asks hlen).mpr hy)] at hgo
    refine r_if_eq f_O_search_72 (fun h => absurd h (by decide)) (fun _ => ?_)
    refine r_ald0 f_O_search_75 ?_
    refine r_gi f_O_search_76 (s_76) ?_
    rw [hOS.1]
    refine r_goto f_O_search_79 ?_
    refine c_O_layFirst f_O_search_83 (s_76) (Nat.le_of_ble_eq_true rfl) (Nat.le_refl _) (Nat.le_refl _) ?_
    refine k_O_layFirst (by omega) hc7 (F := c) (by omega) hOS (fun I3 L3 hO3 hi3 hl3 => ?_)
    refine r_ret f_O_search_86 rfl (Nat.le_refl _) (Nat.le_refl _) ?_
    exact hgo _ _ hO3 hi3 hl3
  · rw [if_neg (fun q => by obtain ⟨j, j1, j2⟩ := (hRu.asks hlen).mp q; exact hy j j1 j2)] at hgo
    refine r_if_eq f_O_search_72 (fun _ => ?_) (fun h => absurd h (by decide))
    refine r_ic f_O_search_82 ?_
    refine c_O_layFirst f_O_search_83 (s_76) (Nat.le_of_ble_eq_true rfl) (Nat.le_refl _) (Nat.le_refl _) ?_
    refine k_O_layFirst (by omega) hc7 (F := 1) (by omega) hOS (fun I3 L3 hO3 hi3 hl3 => ?_)
    refine r_ret f_O_search_86 rfl (Nat.le_refl _) (Nat.le_refl _) ?_
    exact hgo _ _ hO3 hi3 hl3
theorem k_O_search_in {x : Nat} (hc : dC D = c) (hW : WFd D) (hc7 : c ≤ 7) (hx : x < c) (hnext : ∀ I' L', OV I I' D c → q_py D c I' c 0 → q_aL F7 L L' → q_lo (sp_lo D) c L' (x + 1) 0 0 → WW G (d + 12) mt_O_search 15 [some (.ref 76), some (.ref 1), some (.int (nI (x + 1))), none] [] SH RF I' L' 0 0 0 0 K) : ∀ (m y : Nat) (I' : Rn) (L' : Rl), m + y = c → OV I I' D c → q_py D c I' c 0 → q_aL F7 L L' → q_lo (sp_lo D) c L' x y 0 → WW G (d + 12) mt_O_search 25 [some (.ref 76), some (.ref 1), some (.int (nI x)), some (.int (nI y))] [] SH RF I' L' 0 0 0 0 K
  | 0, y, I', L', h, hv, hpy, hl, hlo => by
    have ey : y = c := by omega
    subst ey
    refine r_ild3 f_O_search_25 ?_
    refine r_ald0 f_O_search_26 ?_
    refine r_gi f_O_search_27 (s_76) ?_
    rw [hv.2.1]
    refine r_ic_ge f_O_search_30 (fun h30 => ?_) (fun h30 => absurd h30 (fun q => q (Int32.le_refl _)))
    refine r_inc2 f_O_search_46 rfl ?_
    rw [nI_1]
    refine r_goto f_O_search_49 ?_
    refine r_drop3 ?_
    exact hnext I' L' hv hpy hl (fun x' y' p' h1 h2 h3 h4 => hlo x' y' p' h1 h2 h3 (by omega))
  | m + 1, y, I', L', h, hv, hpy, hl, hlo => by
    refine r_ild3 f_O_search_25 ?_
    refine r_ald0 f_O_search_26 ?_
    refine r_gi f_O_search_27 (s_76) ?_
    rw [hv.2.1]
    refine r_ic_ge f_O_search_30 (fun h30 => absurd h30 (nI_ge (by omega) (by omega))) (fun h30 => ?_)
    refine r_ald0 f_O_search_33 ?_
    refine r_ald1 f_O_search_34 ?_
    refine r_ild2 f_O_search_35 ?_
    refine r_ild3 f_O_search_36 ?_
    refine c_O_fillLost f_O_search_37 (s_76) (Nat.le_of_ble_eq_true rfl) (Nat.le_refl _) (Nat.le_refl _) ?_
    refine (k_O_fillLost (d := 0) (I := I') (L := L') hc hW hc7 hx (show y < c by omega) ⟨hv.1, hv.2.1, q_ag.rf⟩ hpy hlo (fun I2 L2 hv2 hpy2 hl2 hlo2 => ?_)).up (by omega)
    refine r_inc3 f_O_search_40 rfl ?_
    rw [nI_1]
    refine r_goto f_O_search_43 ?_
    exact k_O_search_in hc hW hc7 hx hnext m (y + 1) I2 L2 (by omega) (hv.st hv2.2.2) hpy2 (hl.tr hl2) hlo2
theorem k_O_search_out (hc : dC D = c) (hW : WFd D) (hc7 : c ≤ 7) (hnext : ∀ I' L', OV I I' D c → q_py D c I' c 0 → q_aL F7 L L' → q_lo (sp_lo D) c L' c 0 0 → WW G (d + 12) mt_O_search 52 [some (.ref 76), some (.ref 1), none, none] [] SH RF I' L' 0 0 0 0 K) : ∀ (m x : Nat) (I' : Rn) (L' : Rl), m + x = c → OV I I' D c → q_py D c I' c 0 → q_aL F7 L L' → q_lo (sp_lo D) c L' x 0 0 → WW G (d + 12) mt_O_search 15 [some (.ref 76), some (.ref 1), some (.int (nI x)), none] [] SH RF I' L' 0 0 0 0 K
  | 0, x, I', L', h, hv, hpy, hl, hlo => by
    have ey : x = c := by omega
    subst ey
    refine r_ild2 f_O_search_15 ?_
    refine r_ald0 f_O_search_16 ?_
    refine r_gi f_O_search_17 (s_76) ?_
    rw [hv.2.1]
    refine r_ic_ge f_O_search_20 (fun h20 => ?_) (fun h20 => absurd h20 (fun q => q (Int32.le_refl _)))
    refine r_drop2 ?_
    exact hnext I' L' hv hpy hl hlo
  | m + 1, x, I', L', h, hv, hpy, hl, hlo => by
    refine r_ild2 f_O_search_15 ?_
    refine r_ald0 f_O_search_16 ?_
    refine r_gi f_O_search_17 (s_76) ?_
    rw [hv.2.1]
    refine r_ic_ge f_O_search_20 (fun h20 => absurd h20 (nI_ge (by omega) (by omega))) (fun h20 => ?_)
    refine r_ic f_O_search_23 ?_
    refine r_ist3 f_O_search_24 rfl ?_
    exact k_O_search_in hc hW hc7 (show x < c by omega) (fun I2 L2 a1 a2 a3 a4 => k_O_search_out hc hW hc7 hnext m (x + 1) I2 L2 (by omega) a1 a2 a3 a4) c 0 I' L' rfl hv hpy hl hlo
theorem FO_FQ {x y : Nat} (h : FO x y) : FQ x y := by
  unfold FO at h
  unfold FQ
  rcases h with h | h
  · exact Or.inl h
  · exact Or.inr (by omega)
theorem k_O_search (hc : dC D = c) (hW : WFd D) (hc2 : 2 ≤ c) (hc7 : c ≤ 7) (hR : RD I 1 D) (hk : ∀ I' L', L' 76 5 = (o_best D).1 → I' 76 6 = (o_best D).2 → q_ag FQ I I' → q_aL FL L L' → K none SH RF I' L') : WW G (d + 12) mt_O_search 0 [some (.ref 76), some (.ref 1), none, none] [] SH RF I L 0 0 0 0 K := by
  have hcn : I 1 4 = nI c := by rw [hR.cnt hW, hc]
  have hRu : RD (u2 I 76 4 (nI c)) 1 D := hR.rows (fun x y a1 a2 => u2_ne (Or.inl (by omega)))
  have hgu : q_ag FQ I (u2 I 76 4 (nI c)) := q_ag.rf.u2 (Or.inr ⟨by decide, by decide⟩)
  refine r_ald0 f_O_search_0 ?_
  refine r_ald1 f_O_search_1 ?_
  refine r_gi f_O_search_2 (sD q_D1) ?_
  rw [hcn]
  refine r_pi f_O_search_5 (s_76) ?_
  refine r_ald0 f_O_search_8 ?_
  refine r_ald1 f_O_search_9 ?_
  refine c_O_fillPays f_O_search_10 (s_76) (Nat.le_of_ble_eq_true rfl) (Nat.le_refl _) (Nat.le_refl _) ?_
  refine (k_O_fillPays (d := 0) (I := u2 I 76 4 (nI c)) hW hc7 ⟨hRu, u2_self, q_ag.rf⟩ (fun I2 hv2 hpy2 => ?_)).up (by omega)
  refine r_ic f_O_search_13 ?_
  refine r_ist2 f_O_search_14 rfl ?_
  refine k_O_search_out (I := I2) (L := L) hc hW hc7 (fun I3 L3 hv3 hpy3 hl3 hlo3 => ?_) c 0 I2 L rfl ⟨hv2.1, hv2.2.1, q_ag.rf⟩ hpy2 q_aL.rf (fun x' y' p' h1 h2 h3 h4 => absurd h4 (by omega))
  exact k_O_search_2 hc hW hc2 hc7 hk hv3.1 hv3.2.1 ((hgu.tr (hv2.2.2.mo (fun _ _ q => FO_FQ q))).tr (hv3.2.2.mo (fun _ _ q => FO_FQ q))) (fun x y q => hl3 x y (fun w => q (Or.inr w))) hlo3
theorem RepC.fq (h : RepC I L σ) (hg : q_ag FQ I I') (hl : q_aL FL L L') : RepC I' L' σ := by
  have e : ∀ x y, ¬ FQ x y → I' x y = I x y := hg
  have hR : RD I' 1 σ.1 := by
    refine h.1.eqs (fun i k hi => e _ _ ?_) (fun p => e _ _ ?_) (fun p => e _ _ ?_) (fun p => e _ _ ?_) (e _ _ ?_) (fun p => e _ _ ?_)
    all_goals unfold FQ FT
    all_goals omega
  obtain ⟨a1, a2, a3, a4, a5⟩ := h.same hR (fun x y q => e x y (by unfold q_obs at q; unfold FQ FT; omega))
  refine ⟨a1, a2, a3, a4, fun s hs => ⟨(a5 s hs).1, (a5 s hs).2.1, fun j hj => ?_⟩⟩
  rw [hl (88 + s) j (by unfold FL; omega)]
  exact (a5 s hs).2.2 j hj
theorem q_hi.fq (hg : q_ag FQ I I') (hl : q_aL FL L L') : q_hi I I' L L' := fun x y hx => ⟨hg x y (by unfold FQ FT; omega), hl x y (by unfold FL; omega)⟩
def op_best (σ : St) (w : Int32) : Int64 × St := if 0 ≤ w ∧ w ≤ 1 then if 2 ≤ nI (dC σ.1) ∧ nI (dC σ.1) ≤ 7 then (if w = 0 then (o_best σ.1).2.toInt64 else (o_best σ.1).1, σ) else fndL σ (-1000000004) 3 else fndL σ (-1000000001) 0
theorem k_N_best {w : Int32} (hC : RepC I L σ) (hW : WFs σ) (hk : CKl K I L (op_best σ w)) : WW G (d + 13) mt_N_best 0 [some (.ref 0), some (.int w)] [] SH RF I L 0 0 0 0 K := by
  unfold op_best at hk
  have hcnt := hC.cnt hW
  have hc8 := hW.1.1.1
  refine r_ild1 f_N_best_0 ?_
  refine r_ic f_N_best_1 ?_
  refine r_ic f_N_best_2 ?_
  refine c_N_isWithin f_N_best_3 (Nat.le_of_ble_eq_true rfl) (Nat.le_refl _) (Nat.le_refl _) ?_
  refine k_N_isWithin (fun hwa hwb => ?_) (fun hw => ?_)
  · rw [if_pos ⟨hwa, hwb⟩] at hk
    refine r_if_ne f_N_best_6 (fun _ => ?_) (fun h => absurd h (by decide))
    refine r_ald0 f_N_best_17 ?_
    refine r_gr f_N_best_18 (s_0) (r_0_0) ?_
    refine r_gi f_N_best_21 (sD q_D1) ?_
    rw [hcnt]
    refine r_ic f_N_best_24 ?_
    refine r_ic f_N_best_25 ?_
    refine c_N_isWithin f_N_best_27 (Nat.le_of_ble_eq_true rfl) (Nat.le_refl _) (Nat.le_refl _) ?_
    refine k_N_isWithin (fun hca hcb => ?_) (fun hc => ?_)
    · rw [if_pos ⟨hca, hcb⟩] at hk
      have hc2 : 2 ≤ dC σ.1 := (nI_leI (a := 2) (by decide) (by omega)).mp hca
      have hc7 : dC σ.1 ≤ 7 := (nI_leI (b := 7) (by omega) (by decide)).mp hcb
      refine r_if_ne f_N_best_30 (fun _ => ?_) (fun h => absurd h (by decide))
      refine r_ald0 f_N_best_41 ?_
      refine r_gr f_N_best_42 (s_0) (r_0_3) ?_
      refine r_ald0 f_N_best_45 ?_
      refine r_gr f_N_best_46 (s_0) (r_0_0) ?_
      refine c_O_search f_N_best_49 (s_76) (Nat.le_of_ble_eq_true rfl) (Nat.le_refl _) (Nat.le_refl _) ?_
      refine k_O_search rfl hW.1 hc2 hc7 hC.1 (fun I2 L2 e5 e6 hg2 hl2 => ?_)
      refine r_ild1 f_N_best_52 ?_
      refine r_if_ne f_N_best_53 (fun h53 => ?_) (fun h53 => ?_)
      · rw [if_neg h53] at hk
        refine r_ald0 f_N_best_67 ?_
        refine r_gr f_N_best_68 (s_0) (r_0_3) ?_
        refine r_gl f_N_best_71 (s_76) ?_
        refine r_lret f_N_best_74 rfl (Nat.le_refl _) (Nat.le_refl _) ?_
        first | exact hk _ _ (hC.fq hg2 hl2) (q_hi.fq hg2 hl2) | (rw [e5]; exact hk _ _ (hC.fq hg2 hl2) (q_hi.fq hg2 hl2))
      · refine r_ald0 f_N_best_56 ?_
        refine r_gr f_N_best_57 (s_0) (r_0_3) ?_
        refine r_gi f_N_best_60 (s_76) ?_
        rw [e6]
        rw [if_pos h53] at hk
        refine r_i2l f_N_best_63 ?_
        refine r_goto f_N_best_64 ?_
        refine r_lret f_N_best_74 rfl (Nat.le_refl _) (Nat.le_refl _) ?_
        first | exact hk _ _ (hC.fq hg2 hl2) (q_hi.fq hg2 hl2) | (rw [e5]; exact hk _ _ (hC.fq hg2 hl2) (q_hi.fq hg2 hl2))
    · rw [if_neg hc] at hk
      refine r_if_ne f_N_best_30 (fun h => absurd h (by decide)) (fun _ => ?_)
      refine r_ald0 f_N_best_33 ?_
      refine r_ic f_N_best_34 ?_
      refine c_N_finding f_N_best_36 (s_0) (Nat.le_of_ble_eq_true rfl) (Nat.le_refl _) (Nat.le_refl _) ?_
      refine k_N_finding (k := 3) (by decide) (by decide) hC (fun I9 hC9 hi9 => ?_)
      refine r_i2l f_N_best_39 ?_
      refine r_lret f_N_best_40 rfl (Nat.le_refl _) (Nat.le_refl _) ?_
      exact hk _ _ hC9 hi9
  · rw [if_neg hw] at hk
    refine r_if_ne f_N_best_6 (fun h => absurd h (by decide)) (fun _ => ?_)
    refine r_ald0 f_N_best_9 ?_
    refine r_ic f_N_best_10 ?_
    refine c_N_finding f_N_best_12 (s_0) (Nat.le_of_ble_eq_true rfl) (Nat.le_refl _) (Nat.le_refl _) ?_
    refine k_N_finding (k := 0) (by decide) (by decide) hC (fun I9 hC9 hi9 => ?_)
    refine r_i2l f_N_best_15 ?_
    refine r_lret f_N_best_16 rfl (Nat.le_refl _) (Nat.le_refl _) ?_
    exact hk _ _ hC9 hi9
end L43
