section L34
variable {G : Gx} {d : Nat} {I I' : Rn} {L L' : Rl} {K : Kt} {σ : St}
/-- a change of the parts but now, said part by part -/
theorem RepC.mk' {k : Option Dst} {t : List Int32} {w z : Nat → Int32} {c : Nat → Nat → Int64} (h : RepC I L σ) (h1 : RD I' 1 σ.1) (h2 : match k with
    | none => I' 0 7 = 0
    | some D => I' 0 7 = 1 ∧ RD I' 26 D) (h3 : ∀ j, I' 94 j = I 94 j) (h4 : I' 81 2 = nI t.length ∧ ∀ (j : Nat) (x : Int32), t[j]? = some x → I' 82 j = x) (h5 : ∀ s, s < 4 → I' 92 s = w s ∧ I' 93 s = z s ∧ ∀ j, j < 40 → L' (88 + s) j = c s j) : RepC I' L' (σ.1, k, σ.2.2.1, t, w, z, c) :=
  ⟨h1, h2, fun j hj => (h3 j).trans (h.2.2.1 j hj), h4, h5⟩
theorem RepC.kp (h : RepC I L σ) (e7 : I' 0 7 = I 0 7) (e : ∀ x y, 26 ≤ x → x < 51 → I' x y = I x y) : match σ.2.1 with
    | none => I' 0 7 = 0
    | some D => I' 0 7 = 1 ∧ RD I' 26 D := by
  have h2 := h.2.1
  cases hk : σ.2.1 with
  | none =>
    rw [hk] at h2
    exact e7.trans h2
  | some E =>
    rw [hk] at h2
    exact ⟨e7.trans h2.1, h2.2.rows e⟩
theorem RepC.sh {w z : Nat → Int32} {c : Nat → Nat → Int64} (h : RepC I L σ) (e : ∀ x y, x ≠ 92 → x ≠ 93 → I' x y = I x y) (hs : ∀ s, s < 4 → I' 92 s = w s ∧ I' 93 s = z s ∧ ∀ j, j < 40 → L' (88 + s) j = c s j) : RepC I' L' (zS σ w z c) :=
  h.mk' (h.1.rows (fun x y a1 a2 => e x y (by omega) (by omega))) (h.kp (e _ _ (by omega) (by omega)) (fun x y a1 a2 => e x y (by omega) (by omega))) (fun j => e _ _ (by omega) (by omega)) ⟨(e _ _ (by omega) (by omega)).trans h.2.2.2.1.1, fun j x hx => (e _ _ (by omega) (by omega)).trans (h.2.2.2.1.2 j x hx)⟩ hs
def TP (I : Rn) (t : List Int32) : Prop := I 81 2 = nI t.length ∧ ∀ (j : Nat) (x : Int32), t[j]? = some x → I 82 j = x
def FTP : Nat → Nat → Prop := fun x y => (x = 81 ∧ y = 2) ∨ x = 82
theorem RepC.tp {t : List Int32} (h : RepC I L σ) (hg : q_ag FTP I I') (ht : TP I' t) : RepC I' L (zT σ t) := by
  have e : ∀ x y, x ≠ 82 → x ≠ 81 → I' x y = I x y := fun x y h1 h2 => hg x y (by unfold FTP; omega)
  exact h.mk' (h.1.rows (fun x y a1 a2 => e x y (by omega) (by omega))) (h.kp (e _ _ (by omega) (by omega)) (fun x y a1 a2 => e x y (by omega) (by omega))) (fun j => e _ _ (by omega) (by omega)) ht (fun s hs => by
    rw [e 92 s (by omega) (by omega), e 93 s (by omega) (by omega)]
    exact h.2.2.2.2 s hs)
theorem q_hi.tp (hg : q_ag FTP I I') : q_hi I I' L L := fun x y hx => ⟨hg x y (by unfold FTP; omega), rfl⟩
theorem k_P_append {n : Nat} {x : Int32} (hn : I 81 2 = nI n) (hn2 : n < 60) (hk : K none SH RF (u2 (u2 I 82 n x) 81 2 (nI (n + 1))) L) : WW G d mt_P_append 0 [some (.ref 81), some (.int x)] [] SH RF I L 0 0 0 0 K := by
  refine r_ald0 f_P_append_0 ?_
  refine r_gi f_P_append_1 (s_81) ?_
  rw [hn]
  refine r_ic f_P_append_4 ?_
  refine r_ic_ge f_P_append_6 (fun h6 => absurd h6 (nI_ge hn2 (by decide))) (fun h6 => ?_)
  refine r_ald0 f_P_append_9 ?_
  refine r_gr f_P_append_10 (s_81) (r_81_0) ?_
  refine r_ald0 f_P_append_13 ?_
  refine r_gi f_P_append_14 (s_81) ?_
  rw [hn]
  refine r_ild1 f_P_append_17 ?_
  refine r_iast f_P_append_18 (s_82) (q_ix.nI hn2 (by decide)) ?_
  refine r_ald0 f_P_append_19 ?_
  refine r_dupr f_P_append_20 ?_
  refine r_gi f_P_append_21 (s_81) ?_
  rw [u2_ne (Or.inl (by omega)), hn]
  refine r_ic f_P_append_24 ?_
  refine r_iadd f_P_append_25 ?_
  rw [nI_1]
  refine r_pi f_P_append_26 (s_81) ?_
  refine r_ret f_P_append_29 rfl (Nat.le_refl _) (Nat.le_refl _) ?_
  exact hk
theorem p_P_append {t : List Int32} {x : Int32} (ht : TP I t) (hl : t.length < 60) (hk : ∀ I', TP I' (t ++ [x]) → q_ag FTP I I' → K none SH RF I' L) : WW G d mt_P_append 0 [some (.ref 81), some (.int x)] [] SH RF I L 0 0 0 0 K := by
  refine k_P_append ht.1 hl (hk _ ⟨?_, fun j y hj => ?_⟩ ((q_ag.rf.u2 (Or.inr rfl)).u2 (Or.inl ⟨rfl, rfl⟩)))
  · rw [u2_self, List.length_append]
    rfl
  · rw [u2_ne (Or.inl (by omega))]
    by_cases e : j = t.length
    · subst e
      rw [List.getElem?_append_right (by omega), Nat.sub_self] at hj
      cases hj
      exact u2_self
    · have hl2 : j < t.length := by
        have := (List.getElem?_eq_some_iff.mp hj).1
        rw [List.length_append] at this
        have h1 : [x].length = 1 := rfl
        omega
      rw [List.getElem?_append_left hl2] at hj
      rw [u2_ne (Or.inr e)]
      exact ht.2 j y hj
def sp_by (x : Int32) (i : Nat) : Int32 := (x.toUInt32 >>> ((8 * nI i).toUInt32 &&& Int32.toUInt32 31)).toInt32 &&& 255
def sp_fd (x : Int32) : Nat → List Int32
  | 0 => []
  | n + 1 => sp_by x n :: sp_fd x n
theorem sp_fd_len (x : Int32) : ∀ n, (sp_fd x n).length = n
  | 0 => rfl
  | n + 1 => by
    show (sp_fd x n).length + 1 = n + 1
    rw [sp_fd_len x n]
theorem k_N_feed_loop {x y : Int32} {T : List Int32} (hT60 : T.length ≤ 60) (hk : ∀ I', TP I' T → q_ag FTP I I' → K (some (.int (nI T.length))) SH RF I' L) : ∀ (m : Nat) (I' : Rn) (t : List Int32), m ≤ 4 → t ++ sp_fd x m = T → TP I' t → q_ag FTP I I' → WW G (d + 1) mt_N_feed 41 [some (.ref 0), some (.int x), some (.int y), some (.int (nI m - 1))] [] SH RF I' L 0 0 0 0 K
  | 0, I', t, hm, hT, ht, hg => by
    have eT : t = T := by rw [← hT]; exact (List.append_nil t).symm
    subst eT
    refine r_ild3 f_N_feed_41 ?_
    refine r_if_lt f_N_feed_42 (fun h42 => ?_) (fun h42 => absurd h42 (fun q => q (by decide)))
    refine r_ald0 f_N_feed_68 ?_
    refine r_gr f_N_feed_69 (s_0) (r_0_4) ?_
    refine r_gi f_N_feed_72 (s_81) ?_
    rw [ht.1]
    refine r_iret f_N_feed_75 ⟨_, rfl, rfl⟩ (Nat.le_refl _) (Nat.le_refl _) ?_
    exact hk I' ht hg
  | m + 1, I', t, hm, hT, ht, hg => by
    have hlen : t.length + (m + 1) = T.length := by rw [← hT, List.length_append, sp_fd_len]
    rw [nI_pred]
    refine r_ild3 f_N_feed_41 ?_
    refine r_if_lt f_N_feed_42 (fun h42 => absurd h42 (nI_pos (by omega))) (fun h42 => ?_)
    refine r_ald0 f_N_feed_45 ?_
    refine r_gr f_N_feed_46 (s_0) (r_0_4) ?_
    refine r_ild1 f_N_feed_49 ?_
    refine r_ic f_N_feed_50 ?_
    refine r_ild3 f_N_feed_52 ?_
    refine r_imul f_N_feed_53 ?_
    refine r_iushr f_N_feed_54 ?_
    refine r_ic f_N_feed_55 ?_
    refine r_iand f_N_feed_58 ?_
    refine c_P_append f_N_feed_59 (s_81) (Nat.le_of_ble_eq_true rfl) (Nat.le_refl _) (Nat.le_refl _) ?_
    refine p_P_append ht (by omega) (fun I2 ht2 hg2 => ?_)
    refine r_inc3 f_N_feed_62 rfl ?_
    refine r_goto f_N_feed_65 ?_
    rw [show nI m + -1 = nI m - 1 from (Int32.sub_eq_add_neg _ _).symm]
    refine k_N_feed_loop hT60 hk m I2 (t ++ [sp_by x m]) (by omega) ?_ ht2 (hg.tr hg2)
    rw [List.append_assoc]
    exact hT
def op_feed (σ : St) (x n : Int32) : Int32 × St := if 1 ≤ n ∧ n ≤ 4 then if nI σ.2.2.2.1.length ≤ 60 - n then (nI (σ.2.2.2.1.length + n.toNatClampNeg), zT σ (σ.2.2.2.1 ++ sp_fd x n.toNatClampNeg)) else fnd σ (-1000000002) 1 else fnd σ (-1000000001) 0
theorem k_N_feed {x n : Int32} (hC : RepC I L σ) (hW : WFs σ) (hk : CK K I L (op_feed σ x n)) : WW G (d + 2) mt_N_feed 0 [some (.ref 0), some (.int x), some (.int n), none] [] SH RF I L 0 0 0 0 K := by
  unfold op_feed at hk
  have hcnt := hC.cnt hW
  have hc8 := hW.1.1.1
  have ht0 : TP I σ.2.2.2.1 := hC.2.2.2.1
  have h60 := hW.2.2.1.1
  refine r_ild2 f_N_feed_0 ?_
  refine r_ic f_N_feed_1 ?_
  refine r_ic f_N_feed_2 ?_
  refine c_N_isWithin f_N_feed_3 (Nat.le_of_ble_eq_true rfl) (Nat.le_refl _) (Nat.le_refl _) ?_
  refine k_N_isWithin (fun hxa hxb => ?_) (fun hx => ?_)
  · rw [if_pos ⟨hxa, hxb⟩] at hk
    obtain ⟨m, hm, em⟩ := q_inC (c := 5) (by omega) (Int32.le_trans (by decide) hxa) hxb
    subst em
    rw [nI_clamp (by omega)] at hk
    refine r_if_ne f_N_feed_6 (fun _ => ?_) (fun h => absurd h (by decide))
    refine r_ald0 f_N_feed_16 ?_
    refine r_gr f_N_feed_17 (s_0) (r_0_4) ?_
    refine r_gi f_N_feed_20 (s_81) ?_
    rw [ht0.1]
    refine r_ic f_N_feed_23 ?_
    refine r_ild2 f_N_feed_25 ?_
    refine r_isub f_N_feed_26 ?_
    refine r_ic_le f_N_feed_27 (fun h27 => ?_) (fun h27 => ?_)
    · rw [if_pos h27] at hk
      refine r_ild2 f_N_feed_37 ?_
      refine r_ic f_N_feed_38 ?_
      refine r_isub f_N_feed_39 ?_
      refine r_ist3 f_N_feed_40 rfl ?_
      have h9 : σ.2.2.2.1.length + m ≤ 60 := by
        have h8 : (60 : Int32) - nI m = nI (60 - m) := pk_sub (a := 60) (by omega)
        rw [h8] at h27
        have := (nI_leI (by omega) (by omega)).mp h27
        omega
      refine k_N_feed_loop (T := σ.2.2.2.1 ++ sp_fd x m) (by rw [List.length_append, sp_fd_len]; exact h9) (fun I9 ht9 hg9 => ?_) m I σ.2.2.2.1 (by omega) rfl ht0 q_ag.rf
      rw [List.length_append, sp_fd_len]
      exact hk _ _ (hC.tp hg9 ht9) (q_hi.tp hg9)
    · rw [if_neg h27] at hk
      refine r_ald0 f_N_feed_30 ?_
      refine r_ic f_N_feed_31 ?_
      refine c_N_finding f_N_feed_33 (s_0) (Nat.le_of_ble_eq_true rfl) (Nat.le_refl _) (Nat.le_refl _) ?_
      refine k_N_finding (k := 1) (by decide) (by decide) hC (fun I9 hC9 hi9 => ?_)
      refine r_iret f_N_feed_36 ⟨_, rfl, rfl⟩ (Nat.le_refl _) (Nat.le_refl _) ?_
      exact hk _ _ hC9 hi9
  · rw [if_neg hx] at hk
    refine r_if_ne f_N_feed_6 (fun h => absurd h (by decide)) (fun _ => ?_)
    refine r_ald0 f_N_feed_9 ?_
    refine r_ic f_N_feed_10 ?_
    refine c_N_finding f_N_feed_12 (s_0) (Nat.le_of_ble_eq_true rfl) (Nat.le_refl _) (Nat.le_refl _) ?_
    refine k_N_finding (k := 0) (by decide) (by decide) hC (fun I9 hC9 hi9 => ?_)
    refine r_iret f_N_feed_15 ⟨_, rfl, rfl⟩ (Nat.le_refl _) (Nat.le_refl _) ?_
    exact hk _ _ hC9 hi9
def op_wipe (σ : St) : Int32 × St := (nI σ.2.2.2.1.length, zT σ [])
theorem k_N_wipe (hC : RepC I L σ) (hW : WFs σ) (hk : CK K I L (op_wipe σ)) : WW G d mt_N_wipe 0 [some (.ref 0), none] [] SH RF I L 0 0 0 0 K := by
  unfold op_wipe at hk
  have hcnt := hC.cnt hW
  have hc8 := hW.1.1.1
  refine r_ald0 f_N_wipe_0 ?_
  refine r_gr f_N_wipe_1 (s_0) (r_0_4) ?_
  refine r_gi f_N_wipe_4 (s_81) ?_
  rw [hC.2.2.2.1.1]
  refine r_ist1 f_N_wipe_7 rfl ?_
  refine r_ald0 f_N_wipe_8 ?_
  refine r_gr f_N_wipe_9 (s_0) (r_0_4) ?_
  refine r_ic f_N_wipe_12 ?_
  refine r_pi f_N_wipe_13 (s_81) ?_
  refine r_ild1 f_N_wipe_16 ?_
  refine r_iret f_N_wipe_17 ⟨_, rfl, rfl⟩ (Nat.le_refl _) (Nat.le_refl _) ?_
  exact hk _ _ (hC.tp (q_ag.rf.u2 (Or.inl ⟨rfl, rfl⟩)) ⟨u2_self, fun j x hx => by simp at hx⟩) (q_hi.tp (q_ag.rf.u2 (Or.inl ⟨rfl, rfl⟩)))
theorem RD.toX0 {b : Nat} {D : Dst} (h : RD I b D) : RD (u2 I (b + 4) 3 0) b (eX D []) := by
  refine ⟨?_, u2_self, fun j hj => absurd hj (Nat.not_lt_zero j)⟩
  rw [← h.1]
  unfold vD eX
  have e1 : ∀ i k, u2 I (b + 4) 3 0 (b + 9 + 2 * i) k = I (b + 9 + 2 * i) k := fun i k => u2_ne (Or.inl (by omega))
  have e2 : ∀ p, u2 I (b + 4) 3 0 (b + 2) p = I (b + 2) p := fun p => u2_ne (Or.inl (by omega))
  have e3 : ∀ p, u2 I (b + 4) 3 0 (b + 3) p = I (b + 3) p := fun p => u2_ne (Or.inl (by omega))
  have e4 : ∀ p, u2 I (b + 4) 3 0 b p = I b p := fun p => u2_ne (Or.inl (by omega))
  simp only [e1, e2, e3, e4, u2_self]
  rfl
def op_plain (σ : St) : Int32 × St := (if σ.1.2.2.2.2 = [] then 0 else 1, zN σ (eX σ.1 []))
theorem k_N_plain (hC : RepC I L σ) (hW : WFs σ) (hk : CK K I L (op_plain σ)) : WW G (d + 1) mt_N_plain 0 [some (.ref 0), none] [] SH RF I L 0 0 0 0 K := by
  unfold op_plain at hk
  have hcnt := hC.cnt hW
  have hc8 := hW.1.1.1
  refine r_ald0 f_N_plain_0 ?_
  refine r_gr f_N_plain_1 (s_0) (r_0_0) ?_
  refine r_gr f_N_plain_4 (sD q_D1) (rD3 q_D1) ?_
  refine c_T_isThere f_N_plain_7 (sT (q_TD q_D1)) (Nat.le_of_ble_eq_true rfl) (Nat.le_refl _) (Nat.le_refl _) ?_
  refine k_T_isThere (q_TD q_D1) hC.1.2.1 (by have := hW.1.2.2.2.2.2.2.2.1; omega) (fun hn => ?_) (fun hn => ?_)
  · rw [if_neg (fun q => by rw [q] at hn; exact absurd hn (by decide))] at hk
    refine r_if_eq f_N_plain_10 (fun h => absurd h (by decide)) (fun _ => ?_)
    refine r_ic f_N_plain_13 ?_
    refine r_goto f_N_plain_14 ?_
    refine r_ist1 f_N_plain_18 rfl ?_
    refine r_ald0 f_N_plain_19 ?_
    refine r_gr f_N_plain_20 (s_0) (r_0_0) ?_
    refine r_gr f_N_plain_23 (sD q_D1) (rD3 q_D1) ?_
    refine r_ic f_N_plain_26 ?_
    refine r_pi f_N_plain_27 (sT (q_TD q_D1)) ?_
    refine r_ild1 f_N_plain_30 ?_
    refine r_iret f_N_plain_31 ⟨_, rfl, rfl⟩ (Nat.le_refl _) (Nat.le_refl _) ?_
    exact hk _ _ (hC.now hC.1.toX0 (fun x y q => u2_ne (Or.inl (by unfold q_obs at q; omega)))) (fun x y hx => ⟨u2_ne (Or.inl (by omega)), rfl⟩)
  · rw [if_pos (List.length_eq_zero_iff.mp hn)] at hk
    refine r_if_eq f_N_plain_10 (fun _ => ?_) (fun h => absurd h (by decide))
    refine r_ic f_N_plain_17 ?_
    refine r_ist1 f_N_plain_18 rfl ?_
    refine r_ald0 f_N_plain_19 ?_
    refine r_gr f_N_plain_20 (s_0) (r_0_0) ?_
    refine r_gr f_N_plain_23 (sD q_D1) (rD3 q_D1) ?_
    refine r_ic f_N_plain_26 ?_
    refine r_pi f_N_plain_27 (sT (q_TD q_D1)) ?_
    refine r_ild1 f_N_plain_30 ?_
    refine r_iret f_N_plain_31 ⟨_, rfl, rfl⟩ (Nat.le_refl _) (Nat.le_refl _) ?_
    exact hk _ _ (hC.now hC.1.toX0 (fun x y q => u2_ne (Or.inl (by unfold q_obs at q; omega)))) (fun x y hx => ⟨u2_ne (Or.inl (by omega)), rfl⟩)
def op_image (σ : St) : Int32 × St := (1, zK σ (some σ.1))
theorem k_N_image (hC : RepC I L σ) (hW : WFs σ) (hk : CK K I L (op_image σ)) : WW G (d + 4) mt_N_image 0 [some (.ref 0)] [] SH RF I L 0 0 0 0 K := by
  unfold op_image at hk
  have hcnt := hC.cnt hW
  have hc8 := hW.1.1.1
  refine r_ald0 f_N_image_0 ?_
  refine r_gr f_N_image_1 (s_0) (r_0_1) ?_
  refine r_ald0 f_N_image_4 ?_
  refine r_gr f_N_image_5 (s_0) (r_0_0) ?_
  refine c_D_become f_N_image_8 (sD q_D2) (Nat.le_of_ble_eq_true rfl) (Nat.le_refl _) (Nat.le_refl _) ?_
  refine k_D_become q_D2 q_D1 (by decide) hC.1 hW.1.2.2.2.2.2.2.2.1 (fun I9 hR9 h9 => ?_)
  refine r_ald0 f_N_image_11 ?_
  refine r_ic f_N_image_12 ?_
  refine r_pz f_N_image_13 (s_0) (Or.inr rfl) ?_
  refine r_ic f_N_image_16 ?_
  refine r_iret f_N_image_17 ⟨_, rfl, rfl⟩ (Nat.le_refl _) (Nat.le_refl _) ?_
  have e : ∀ x y, (x < 26 ∨ 51 ≤ x) → (x ≠ 0 ∨ y ≠ 7) → u2 I9 0 7 1 x y = I x y := fun x y hx hq => (u2_ne hq).trans (h9 x y (by omega))
  exact hk _ _ (hC.mk' (hC.1.rows (fun x y a1 a2 => e x y (by omega) (by omega))) (k := some σ.1) ⟨u2_self, hR9.rows (fun x y a1 a2 => u2_ne (Or.inl (by omega)))⟩ (fun j => e _ _ (by omega) (by omega)) ⟨(e _ _ (by omega) (by omega)).trans hC.2.2.2.1.1, fun j x hx => (e _ _ (by omega) (by omega)).trans (hC.2.2.2.1.2 j x hx)⟩ (fun s hs => by rw [e 92 s (by omega) (by omega), e 93 s (by omega) (by omega)]; exact hC.2.2.2.2 s hs)) (fun x y hx => ⟨e x y (by omega) (by omega), rfl⟩)
def op_undo (σ : St) : Int32 × St := match σ.2.1 with
  | none => fnd σ (-1000000004) 3
  | some D => (nI (dC D), zN σ D)
theorem q_kept0 (hC : RepC I L σ) : (σ.2.1 = none ∧ I 0 7 = 0) ∨ ∃ D, σ.2.1 = some D ∧ I 0 7 = 1 ∧ RD I 26 D := by
  have h2 := hC.2.1
  cases hk : σ.2.1 with
  | none =>
    rw [hk] at h2
    exact Or.inl ⟨rfl, h2⟩
  | some E =>
    rw [hk] at h2
    exact Or.inr ⟨E, rfl, h2⟩
theorem k_N_undo (hC : RepC I L σ) (hW : WFs σ) (hk : CK K I L (op_undo σ)) : WW G (d + 4) mt_N_undo 0 [some (.ref 0)] [] SH RF I L 0 0 0 0 K := by
  unfold op_undo at hk
  rcases q_kept0 hC with ⟨hn, h7⟩ | ⟨E, hn, h7, hR26⟩
  · rw [hn] at hk
    dsimp only at hk
    refine r_ald0 f_N_undo_0 ?_
    refine r_gi f_N_undo_1 (s_0) ?_
    rw [h7]
    refine r_if_ne f_N_undo_4 (fun h => absurd h (by decide)) (fun _ => ?_)
    refine r_ald0 f_N_undo_7 ?_
    refine r_ic f_N_undo_8 ?_
    refine c_N_finding f_N_undo_10 (s_0) (Nat.le_of_ble_eq_true rfl) (Nat.le_refl _) (Nat.le_refl _) ?_
    refine k_N_finding (k := 3) (by decide) (by decide) hC (fun I9 hC9 hi9 => ?_)
    refine r_iret f_N_undo_13 ⟨_, rfl, rfl⟩ (Nat.le_refl _) (Nat.le_refl _) ?_
    exact hk _ _ hC9 hi9
  · rw [hn] at hk
    dsimp only at hk
    have hWE := hW.2.1 E hn
    refine r_ald0 f_N_undo_0 ?_
    refine r_gi f_N_undo_1 (s_0) ?_
    rw [h7]
    refine r_if_ne f_N_undo_4 (fun _ => ?_) (fun h => absurd h (by decide))
    refine r_ald0 f_N_undo_14 ?_
    refine r_gr f_N_undo_15 (s_0) (r_0_0) ?_
    refine r_ald0 f_N_undo_18 ?_
    refine r_gr f_N_undo_19 (s_0) (r_0_1) ?_
    refine c_D_become f_N_undo_22 (sD q_D1) (Nat.le_of_ble_eq_true rfl) (Nat.le_refl _) (Nat.le_refl _) ?_
    refine k_D_become q_D1 q_D2 (by decide) hR26 hWE.2.2.2.2.2.2.2.1 (fun I9 hR9 h9 => ?_)
    refine r_ald0 f_N_undo_25 ?_
    refine r_gr f_N_undo_26 (s_0) (r_0_0) ?_
    refine r_gi f_N_undo_29 (sD q_D1) ?_
    refine r_iret f_N_undo_32 ⟨_, rfl, rfl⟩ (Nat.le_refl _) (Nat.le_refl _) ?_
    rw [hR9.cnt hWE]
    exact hk _ _ (hC.now hR9 (fun x y q => h9 x y (by unfold q_obs at q; omega))) (fun x y hx => ⟨h9 x y (by omega), rfl⟩)
def op_tear (σ : St) : Int32 × St := match σ.2.1 with
  | none => (0, zK σ none)
  | some _ => (1, zK σ none)
theorem k_N_tear (hC : RepC I L σ) (hW : WFs σ) (hk : CK K I L (op_tear σ)) : WW G d mt_N_tear 0 [some (.ref 0), none] [] SH RF I L 0 0 0 0 K := by
  unfold op_tear at hk
  rcases q_kept0 hC with ⟨hn, h7⟩ | ⟨E, hn, h7, hR26⟩
  · rw [hn] at hk
    dsimp only at hk
    refine r_ald0 f_N_tear_0 ?_
    refine r_gi f_N_tear_1 (s_0) ?_
    rw [h7]
    refine r_if_eq f_N_tear_4 (fun _ => ?_) (fun h => absurd h (by decide))
    refine r_ic f_N_tear_11 ?_
    refine r_ist1 f_N_tear_12 rfl ?_
    refine r_ald0 f_N_tear_13 ?_
    refine r_ic f_N_tear_14 ?_
    refine r_pz f_N_tear_15 (s_0) (Or.inl rfl) ?_
    refine r_ild1 f_N_tear_18 ?_
    refine r_iret f_N_tear_19 ⟨_, rfl, rfl⟩ (Nat.le_refl _) (Nat.le_refl _) ?_
    have e : ∀ x y, (x ≠ 0 ∨ y ≠ 7) → u2 I 0 7 0 x y = I x y := fun x y hq => u2_ne hq
    exact hk _ _ (hC.mk' (hC.1.rows (fun x y a1 a2 => e x y (by omega))) (k := none) u2_self (fun j => e _ _ (by omega)) ⟨(e _ _ (by omega)).trans hC.2.2.2.1.1, fun j x hx => (e _ _ (by omega)).trans (hC.2.2.2.1.2 j x hx)⟩ (fun s hs => by rw [e 92 s (by omega), e 93 s (by omega)]; exact hC.2.2.2.2 s hs)) (fun x y hx => ⟨e x y (by omega), rfl⟩)
  · rw [hn] at hk
    dsimp only at hk
    refine r_ald0 f_N_tear_0 ?_
    refine r_gi f_N_tear_1 (s_0) ?_
    rw [h7]
    refine r_if_eq f_N_tear_4 (fun h => absurd h (by decide)) (fun _ => ?_)
    refine r_ic f_N_tear_7 ?_
    refine r_goto f_N_tear_8 ?_
    refine r_ist1 f_N_tear_12 rfl ?_
    refine r_ald0 f_N_tear_13 ?_
    refine r_ic f_N_tear_14 ?_
    refine r_pz f_N_tear_15 (s_0) (Or.inl rfl) ?_
    refine r_ild1 f_N_tear_18 ?_
    refine r_iret f_N_tear_19 ⟨_, rfl, rfl⟩ (Nat.le_refl _) (Nat.le_refl _) ?_
    have e : ∀ x y, (x ≠ 0 ∨ y ≠ 7) → u2 I 0 7 0 x y = I x y := fun x y hq => u2_ne hq
    exact hk _ _ (hC.mk' (hC.1.rows (fun x y a1 a2 => e x y (by omega))) (k := none) u2_self (fun j => e _ _ (by omega)) ⟨(e _ _ (by omega)).trans hC.2.2.2.1.1, fun j x hx => (e _ _ (by omega)).trans (hC.2.2.2.1.2 j x hx)⟩ (fun s hs => by rw [e 92 s (by omega), e 93 s (by omega)]; exact hC.2.2.2.2 s hs)) (fun x y hx => ⟨e x y (by omega), rfl⟩)
def op_count (σ : St) (w : Int32) : Int32 × St := if w = 0 then (nI (dC σ.1), σ) else if w = 1 then (σ.1.2.2.2.1 0, σ) else if w = 2 then (σ.1.2.2.2.1 1, σ) else if w = 3 then (σ.1.2.2.2.1 3, σ) else if w = 4 then (σ.1.2.2.2.1 4, σ) else if w = 5 then ((if σ.1.2.2.2.2 = [] then 0 else 1), σ) else if w = 6 then (nI σ.2.2.2.1.length, σ) else if w = 7 then (σ.1.2.2.2.1 2, σ) else if w = 8 then (sp_hsum σ.1 (dC σ.1), σ) else fnd σ (-1000000001) 0
theorem k_N_count {w : Int32} (hC : RepC I L σ) (hW : WFs σ) (hk : CK K I L (op_count σ w)) : WW G (d + 2) mt_N_count 0 [some (.ref 0), some (.int w)] [] SH RF I L 0 0 0 0 K := by
  unfold op_count at hk
  have hcnt := hC.cnt hW
  have hc8 := hW.1.1.1
  refine r_ild1 f_N_count_0 ?_
  refine r_sw f_N_count_1 ?_
  refine r_swc (k := 0) (by decide) (fun e1_0 => ?_) (fun e1_0 => ?_)
  · refine r_ald0 f_N_count_52 ?_
    refine r_gr f_N_count_53 (s_0) (r_0_0) ?_
    refine r_gi f_N_count_56 (sD q_D1) ?_
    rw [hcnt]
    rw [if_pos e1_0] at hk
    refine r_iret f_N_count_59 ⟨_, rfl, rfl⟩ (Nat.le_refl _) (Nat.le_refl _) ?_
    exact hk _ _ hC q_hi.rf
  refine r_swc (k := 1) (by decide) (fun e1_1 => ?_) (fun e1_1 => ?_)
  · refine r_ald0 f_N_count_60 ?_
    refine r_gr f_N_count_61 (s_0) (r_0_0) ?_
    refine r_gi f_N_count_64 (sD q_D1) ?_
    rw [show I 1 5 = σ.1.2.2.2.1 0 from (PD.rf hC.1).s (k := 0) (by decide)]
    rw [if_neg e1_0, if_pos e1_1] at hk
    refine r_iret f_N_count_67 ⟨_, rfl, rfl⟩ (Nat.le_refl _) (Nat.le_refl _) ?_
    exact hk _ _ hC q_hi.rf
  refine r_swc (k := 2) (by decide) (fun e1_2 => ?_) (fun e1_2 => ?_)
  · refine r_ald0 f_N_count_68 ?_
    refine r_gr f_N_count_69 (s_0) (r_0_0) ?_
    refine r_gi f_N_count_72 (sD q_D1) ?_
    rw [show I 1 6 = σ.1.2.2.2.1 1 from (PD.rf hC.1).s (k := 1) (by decide)]
    rw [if_neg e1_0, if_neg e1_1, if_pos e1_2] at hk
    refine r_iret f_N_count_75 ⟨_, rfl, rfl⟩ (Nat.le_refl _) (Nat.le_refl _) ?_
    exact hk _ _ hC q_hi.rf
  refine r_swc (k := 3) (by decide) (fun e1_3 => ?_) (fun e1_3 => ?_)
  · refine r_ald0 f_N_count_76 ?_
    refine r_gr f_N_count_77 (s_0) (r_0_0) ?_
    refine r_gi f_N_count_80 (sD q_D1) ?_
    rw [show I 1 8 = σ.1.2.2.2.1 3 from (PD.rf hC.1).s (k := 3) (by decide)]
    rw [if_neg e1_0, if_neg e1_1, if_neg e1_2, if_pos e1_3] at hk
    refine r_iret f_N_count_83 ⟨_, rfl, rfl⟩ (Nat.le_refl _) (Nat.le_refl _) ?_
    exact hk _ _ hC q_hi.rf
  refine r_swc (k := 4) (by decide) (fun e1_4 => ?_) (fun e1_4 => ?_)
  · refine r_ald0 f_N_count_84 ?_
    refine r_gr f_N_count_85 (s_0) (r_0_0) ?_
    refine r_gi f_N_count_88 (sD q_D1) ?_
    rw [show I 1 9 = σ.1.2.2.2.1 4 from (PD.rf hC.1).s (k := 4) (by decide)]
    rw [if_neg e1_0, if_neg e1_1, if_neg e1_2, if_neg e1_3, if_pos e1_4] at hk
    refine r_iret f_N_count_91 ⟨_, rfl, rfl⟩ (Nat.le_refl _) (Nat.le_refl _) ?_
    exact hk _ _ hC q_hi.rf
  refine r_swc (k := 5) (by decide) (fun e1_5 => ?_) (fun e1_5 => ?_)
  · refine r_ald0 f_N_count_92 ?_
    refine r_gr f_N_count_93 (s_0) (r_0_0) ?_
    refine r_gr f_N_count_96 (sD q_D1) (rD3 q_D1) ?_
    refine c_T_isThere f_N_count_99 (sT (q_TD q_D1)) (Nat.le_of_ble_eq_true rfl) (Nat.le_refl _) (Nat.le_refl _) ?_
    rw [if_neg e1_0, if_neg e1_1, if_neg e1_2, if_neg e1_3, if_neg e1_4, if_pos e1_5] at hk
    refine k_T_isThere (q_TD q_D1) hC.1.2.1 (by have := hW.1.2.2.2.2.2.2.2.1; omega) (fun hn => ?_) (fun hn => ?_)
    · rw [if_neg (fun q => by rw [q] at hn; exact absurd hn (by decide))] at hk
      refine r_if_eq f_N_count_102 (fun h => absurd h (by decide)) (fun _ => ?_)
      refine r_ic f_N_count_105 ?_
      refine r_goto f_N_count_106 ?_
      refine r_iret f_N_count_110 ⟨_, rfl, rfl⟩ (Nat.le_refl _) (Nat.le_refl _) ?_
      exact hk _ _ hC q_hi.rf
    · rw [if_pos (List.length_eq_zero_iff.mp hn)] at hk
      refine r_if_eq f_N_count_102 (fun _ => ?_) (fun h => absurd h (by decide))
      refine r_ic f_N_count_109 ?_
      refine r_iret f_N_count_110 ⟨_, rfl, rfl⟩ (Nat.le_refl _) (Nat.le_refl _) ?_
      exact hk _ _ hC q_hi.rf
  refine r_swc (k := 6) (by decide) (fun e1_6 => ?_) (fun e1_6 => ?_)
  · refine r_ald0 f_N_count_111 ?_
    refine r_gr f_N_count_112 (s_0) (r_0_4) ?_
    refine r_gi f_N_count_115 (s_81) ?_
    rw [hC.2.2.2.1.1]
    rw [if_neg e1_0, if_neg e1_1, if_neg e1_2, if_neg e1_3, if_neg e1_4, if_neg e1_5, if_pos e1_6] at hk
    refine r_iret f_N_count_118 ⟨_, rfl, rfl⟩ (Nat.le_refl _) (Nat.le_refl _) ?_
    exact hk _ _ hC q_hi.rf
  refine r_swc (k := 7) (by decide) (fun e1_7 => ?_) (fun e1_7 => ?_)
  · refine r_ald0 f_N_count_119 ?_
    refine r_gr f_N_count_120 (s_0) (r_0_0) ?_
    refine r_gi f_N_count_123 (sD q_D1) ?_
    rw [show I 1 7 = σ.1.2.2.2.1 2 from (PD.rf hC.1).s (k := 2) (by decide)]
    rw [if_neg e1_0, if_neg e1_1, if_neg e1_2, if_neg e1_3, if_neg e1_4, if_neg e1_5, if_neg e1_6, if_pos e1_7] at hk
    refine r_iret f_N_count_126 ⟨_, rfl, rfl⟩ (Nat.le_refl _) (Nat.le_refl _) ?_
    exact hk _ _ hC q_hi.rf
  refine r_swc (k := 8) (by decide) (fun e1_8 => ?_) (fun e1_8 => ?_)
  · refine r_ald0 f_N_count_127 ?_
    refine r_gr f_N_count_128 (s_0) (r_0_0) ?_
    refine c_D_allHours f_N_count_131 (sD q_D1) (Nat.le_of_ble_eq_true rfl) (Nat.le_refl _) (Nat.le_refl _) ?_
    refine k_D_allHours q_D1 hC.1.1 hcnt hc8 ?_
    rw [if_neg e1_0, if_neg e1_1, if_neg e1_2, if_neg e1_3, if_neg e1_4, if_neg e1_5, if_neg e1_6, if_neg e1_7, if_pos e1_8] at hk
    refine r_iret f_N_count_134 ⟨_, rfl, rfl⟩ (Nat.le_refl _) (Nat.le_refl _) ?_
    exact hk _ _ hC q_hi.rf
  refine r_swn ?_
  refine r_ald0 f_N_count_135 ?_
  refine r_ic f_N_count_136 ?_
  refine c_N_finding f_N_count_138 (s_0) (Nat.le_of_ble_eq_true rfl) (Nat.le_refl _) (Nat.le_refl _) ?_
  rw [if_neg e1_0, if_neg e1_1, if_neg e1_2, if_neg e1_3, if_neg e1_4, if_neg e1_5, if_neg e1_6, if_neg e1_7, if_neg e1_8] at hk
  refine k_N_finding (k := 0) (by decide) (by decide) hC (fun I9 hC9 hi9 => ?_)
  refine r_iret f_N_count_141 ⟨_, rfl, rfl⟩ (Nat.le_refl _) (Nat.le_refl _) ?_
  exact hk _ _ hC9 hi9
def sp_fs (f : Nat → Int32) : Nat → Int32
  | 0 => 0
  | k + 1 => sp_fs f k + f k
theorem k_N_status_loop {y : Int32} (hC : RepC I L σ) (hk : CK K I L (sp_fs σ.2.2.1 7, σ)) : ∀ (n k : Nat), 7 - k < n → k ≤ 7 → WW G d mt_N_status 42 [some (.ref 0), some (.int y), some (.int (sp_fs σ.2.2.1 k)), some (.ref 94), some (.int 7), some (.int (nI k)), none] [] SH RF I L 0 0 0 0 K
  | 0, k, hn, hk7 => by omega
  | n + 1, k, hn, hk7 => by
    refine r_ild5 f_N_status_42 ?_
    refine r_ild4 f_N_status_44 ?_
    refine r_ic_ge f_N_status_46 (fun h46 => ?_) (fun h46 => ?_)
    · refine r_ild2 f_N_status_66 ?_
      refine r_iret f_N_status_67 ⟨_, rfl, rfl⟩ (Nat.le_refl _) (Nat.le_refl _) ?_
      have e : k = 7 := by
        have := q_le2 (c := k) (m := 7) h46 (by omega)
        omega
      rw [e]
      exact hk _ _ hC q_hi.rf
    · have hlt : k < 7 := q_lt2 (c := k) (m := 7) h46 (by omega)
      refine r_ald3 f_N_status_49 ?_
      refine r_ild5 f_N_status_50 ?_
      refine r_iald f_N_status_52 (s_94) (q_ix.nI (by omega) (by decide)) ?_
      rw [hC.2.2.1 k hlt]
      refine r_ist6 f_N_status_53 rfl ?_
      refine r_ild2 f_N_status_55 ?_
      refine r_ild6 f_N_status_56 ?_
      refine r_iadd f_N_status_58 ?_
      refine r_ist2 f_N_status_59 rfl ?_
      refine r_inc5 f_N_status_60 rfl ?_
      refine r_goto f_N_status_63 ?_
      refine r_drop6 ?_
      rw [nI_1]
      exact k_N_status_loop hC hk n (k + 1) (by omega) (by omega)
def op_status (σ : St) (w : Int32) : Int32 × St := if -1 ≤ w ∧ w ≤ 6 then if w < 0 then (sp_fs σ.2.2.1 7, σ) else (σ.2.2.1 w.toNatClampNeg, σ) else fnd σ (-1000000001) 0
theorem k_N_status {w : Int32} (hC : RepC I L σ) (hW : WFs σ) (hk : CK K I L (op_status σ w)) : WW G (d + 2) mt_N_status 0 [some (.ref 0), some (.int w), none, none, none, none, none] [] SH RF I L 0 0 0 0 K := by
  unfold op_status at hk
  have hcnt := hC.cnt hW
  have hc8 := hW.1.1.1
  refine r_ild1 f_N_status_0 ?_
  refine r_ic f_N_status_1 ?_
  refine r_ic f_N_status_2 ?_
  refine c_N_isWithin f_N_status_4 (Nat.le_of_ble_eq_true rfl) (Nat.le_refl _) (Nat.le_refl _) ?_
  refine k_N_isWithin (fun hwa hwb => ?_) (fun hw => ?_)
  · rw [if_pos ⟨hwa, hwb⟩] at hk
    refine r_if_ne f_N_status_7 (fun _ => ?_) (fun h => absurd h (by decide))
    refine r_ild1 f_N_status_17 ?_
    refine r_if_lt f_N_status_18 (fun h18 => ?_) (fun h18 => ?_)
    · rw [if_pos h18] at hk
      refine r_ic f_N_status_28 ?_
      refine r_ist2 f_N_status_29 rfl ?_
      refine r_ald0 f_N_status_30 ?_
      refine r_gr f_N_status_31 (s_0) (r_0_6) ?_
      refine r_ast3 f_N_status_34 rfl ?_
      refine r_ald3 f_N_status_35 ?_
      refine r_alen f_N_status_36 (Or.inl rfl) (s_94) ?_
      refine r_ist4 f_N_status_37 rfl ?_
      refine r_ic f_N_status_39 ?_
      refine r_ist5 f_N_status_40 rfl ?_
      exact k_N_status_loop hC hk 8 0 (by omega) (by omega)
    · rw [if_neg h18] at hk
      obtain ⟨u, hu, eu⟩ := q_inC (c := 7) (by omega) (Int32.not_lt.mp h18) hwb
      subst eu
      rw [nI_clamp (by omega)] at hk
      refine r_ald0 f_N_status_21 ?_
      refine r_gr f_N_status_22 (s_0) (r_0_6) ?_
      refine r_ild1 f_N_status_25 ?_
      refine r_iald f_N_status_26 (s_94) (q_ix.nI (by omega) (by decide)) ?_
      rw [hC.2.2.1 u hu]
      refine r_iret f_N_status_27 ⟨_, rfl, rfl⟩ (Nat.le_refl _) (Nat.le_refl _) ?_
      exact hk _ _ hC q_hi.rf
  · rw [if_neg hw] at hk
    refine r_if_ne f_N_status_7 (fun h => absurd h (by decide)) (fun _ => ?_)
    refine r_ald0 f_N_status_10 ?_
    refine r_ic f_N_status_11 ?_
    refine c_N_finding f_N_status_13 (s_0) (Nat.le_of_ble_eq_true rfl) (Nat.le_refl _) (Nat.le_refl _) ?_
    refine k_N_finding (k := 0) (by decide) (by decide) hC (fun I9 hC9 hi9 => ?_)
    refine r_iret f_N_status_16 ⟨_, rfl, rfl⟩ (Nat.le_refl _) (Nat.le_refl _) ?_
    exact hk _ _ hC9 hi9
end L34
