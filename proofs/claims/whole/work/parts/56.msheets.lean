section L56
variable {G : Gx} {d : Nat} {I I' I2 : Rn} {L L' L2 : Rl} {K : Kt} {σ : St} {D : Dst}
theorem q_byt1 {x s : Int32} {k : Nat} (hk : k = 0 ∨ k = 8 ∨ k = 16 ∨ k = 24) (h1 : ((s &&& 31).toBitVec.smod 32).toNat = k) (h2 : ((s.toUInt32 &&& Int32.toUInt32 31).toBitVec % 32).toNat = k) : x >>> (s &&& 31) &&& 255 = (x.toUInt32 >>> (s.toUInt32 &&& Int32.toUInt32 31)).toInt32 &&& 255 := by
  rw [pk_and (x >>> (s &&& 31)) 8 (by decide), pk_and ((x.toUInt32 >>> (s.toUInt32 &&& Int32.toUInt32 31)).toInt32) 8 (by decide), pk_ushr x s k h2]
  have e1 := pk_shr x (s &&& 31) k h1
  rw [Int.shiftRight_eq_div_pow] at e1
  have c1 : x.toInt = if 2 * x.toBitVec.toNat < 4294967296 then (x.toBitVec.toNat : Int) else (x.toBitVec.toNat : Int) - 4294967296 := BitVec.toInt_eq_toNat_cond _
  have c2 : (x >>> (s &&& 31)).toInt = if 2 * (x >>> (s &&& 31)).toBitVec.toNat < 4294967296 then ((x >>> (s &&& 31)).toBitVec.toNat : Int) else ((x >>> (s &&& 31)).toBitVec.toNat : Int) - 4294967296 := BitVec.toInt_eq_toNat_cond _
  have b1 : x.toBitVec.toNat < 4294967296 := x.toBitVec.isLt
  have b2 : (x >>> (s &&& 31)).toBitVec.toNat < 4294967296 := (x >>> (s &&& 31)).toBitVec.isLt
  rw [c1, c2] at e1
  clear c1 c2
  generalize x.toBitVec.toNat = A at *
  generalize (x >>> (s &&& 31)).toBitVec.toNat = B at *
  obtain ⟨p, hp, hq⟩ : ∃ p : Nat, 2 ^ k = p ∧ (p = 1 ∨ p = 256 ∨ p = 65536 ∨ p = 16777216) := ⟨_, rfl, by rcases hk with rfl | rfl | rfl | rfl <;> simp⟩
  rw [hp] at e1 ⊢
  congr 1
  rcases hq with rfl | rfl | rfl | rfl <;> split at e1 <;> split at e1 <;> omega
theorem q_byt {x : Int32} {m : Nat} (hm : m < 4) : x >>> (8 * nI m &&& 31) &&& 255 = sp_by x m := by
  unfold sp_by
  have e : ∀ m, m < 4 → (8 * m = 0 ∨ 8 * m = 8 ∨ 8 * m = 16 ∨ 8 * m = 24) ∧ ((8 * nI m &&& 31 : Int32).toBitVec.smod 32).toNat = 8 * m ∧ (((8 * nI m).toUInt32 &&& Int32.toUInt32 31).toBitVec % 32).toNat = 8 * m := by decide +kernel
  obtain ⟨e1, e2, e3⟩ := e m hm
  exact q_byt1 e1 e2 e3
def TPm (I : Rn) (t : List Int32) : Prop := I 95 25 = nI t.length ∧ ∀ (j : Nat) (x : Int32), t[j]? = some x → I 104 j = x
def FTm : Nat → Nat → Prop := fun x y => (x = 95 ∧ y = 25) ∨ x = 104
theorem TPm.push {t : List Int32} {x : Int32} (h : TPm I t) : TPm (u2 (u2 I 104 t.length x) 95 25 (nI (t.length + 1))) (t ++ [x]) := by
  refine ⟨?_, fun j y hj => ?_⟩
  · rw [u2_self, List.length_append]
    rfl
  · rw [u2_ne (Or.inl (by decide))]
    by_cases e : j = t.length
    · subst e
      rw [List.getElem?_concat_length] at hj
      cases hj
      exact u2_self
    · rw [u2_ne (Or.inr e)]
      have hl := (List.getElem?_eq_some_iff.mp hj).1
      rw [List.length_append] at hl
      have hl2 : ([x] : List Int32).length = 1 := rfl
      rw [List.getElem?_append_left (by omega)] at hj
      exact h.2 j y hj
theorem RepM.tp {t : List Int32} (h : RepM I L σ) (hW : WFs σ) (hg : q_ag FTm I I') (ht : TPm I' t) : RepM I' L (zT σ t) :=
  h.mk' (h.1.rows hW.1.2.2.2.2.2.2.2.1 (fun x y w => hg x y (by unfold FTm; omega))) (h.kp hW (hg _ _ (by unfold FTm; omega)) (fun x y w => hg x y (by unfold FTm; omega))) (fun x y w => hg x y (by unfold FTm; omega)) ht
theorem q_lw.tp (hg : q_ag FTm I I') : q_lw I I' L L := q_lw.ag hg (fun x y w => by unfold FTm at w; omega)
theorem k_R_feed_loop {x y : Int32} {T : List Int32} (hT60 : T.length ≤ 60) (hk : ∀ I', TPm I' T → q_ag FTm I I' → K (some (.int (nI T.length))) SH RF I' L) : ∀ (m : Nat) (I' : Rn) (t : List Int32), m ≤ 4 → t ++ sp_fd x m = T → TPm I' t → q_ag FTm I I' → WW G (d + 1) mt_R_feed 38 [some (.ref 95), some (.int x), some (.int y), some (.int (nI m - 1))] [] SH RF I' L 0 0 0 0 K
  | 0, I', t, hm, e, ht, hg => by
    rw [show sp_fd x 0 = [] from rfl, List.append_nil] at e
    subst e
    refine r_ild3 f_R_feed_38 ?_
    refine r_if_lt f_R_feed_39 (fun h39 => ?_) (fun h39 => absurd h39 (fun q => q (by decide)))
    refine r_ald0 f_R_feed_77 ?_
    refine r_gi f_R_feed_78 (s_95) ?_
    rw [ht.1]
    refine r_iret f_R_feed_81 ⟨_, rfl, rfl⟩ (Nat.le_refl _) (Nat.le_refl _) ?_
    exact hk I' ht hg
  | m + 1, I', t, hm, e, ht, hg => by
    have hl : t.length + (m + 1) ≤ 60 := by
      have := congrArg List.length e
      rw [List.length_append, sp_fd_len] at this
      omega
    rw [nI_pred]
    refine r_ild3 f_R_feed_38 ?_
    refine r_if_lt f_R_feed_39 (fun h39 => absurd h39 (nI_pos (by omega))) (fun h39 => ?_)
    refine r_ald0 f_R_feed_42 ?_
    refine r_gr f_R_feed_43 (s_95) (r_95_24) ?_
    refine r_ald0 f_R_feed_46 ?_
    refine r_gi f_R_feed_47 (s_95) ?_
    rw [ht.1]
    refine r_ild1 f_R_feed_50 ?_
    refine r_ic f_R_feed_51 ?_
    refine r_ild3 f_R_feed_53 ?_
    refine r_imul f_R_feed_54 ?_
    refine r_ishr f_R_feed_55 ?_
    refine r_ic f_R_feed_56 ?_
    refine r_iand f_R_feed_59 ?_
    rw [q_byt (show m < 4 by omega)]
    refine r_iast f_R_feed_60 (s_104) (q_ix.nI (show t.length < 60 by omega) (by decide)) ?_
    refine r_ald0 f_R_feed_61 ?_
    refine r_dupr f_R_feed_62 ?_
    refine r_gi f_R_feed_63 (s_95) ?_
    rw [show u2 I' 104 t.length (sp_by x m) 95 25 = nI t.length from (u2_ne (Or.inl (by decide))).trans ht.1]
    refine r_ic f_R_feed_66 ?_
    refine r_iadd f_R_feed_67 ?_
    rw [nI_1]
    refine r_pi f_R_feed_68 (s_95) ?_
    refine r_inc3 f_R_feed_71 rfl ?_
    refine r_goto f_R_feed_74 ?_
    rw [show nI m + -1 = nI m - 1 from (Int32.sub_eq_add_neg _ _).symm]
    refine k_R_feed_loop hT60 hk m _ (t ++ [sp_by x m]) (by omega) ?_ ht.push ((hg.u2 (Or.inr rfl)).u2 (Or.inl ⟨rfl, rfl⟩))
    rw [List.append_assoc]
    exact e
theorem k_R_feed {x n : Int32} (hC : RepM I L σ) (hW : WFs σ) (hk : MK K I L (op_feed σ x n)) : WW G (d + 1) mt_R_feed 0 [some (.ref 95), some (.int x), some (.int n), none] [] SH RF I L 0 0 0 0 K := by
  unfold op_feed at hk
  have hcnt := hC.1.cnt hW.1
  have hc8 := hW.1.1.1
  have ht0 : TPm I σ.2.2.2.1 := hC.2.2.2.1
  have h60 := hW.2.2.1.1
  refine r_ild2 f_R_feed_0 ?_
  refine r_ic f_R_feed_1 ?_
  refine r_ic f_R_feed_2 ?_
  refine c_R_in f_R_feed_3 (Nat.le_of_ble_eq_true rfl) (Nat.le_refl _) (Nat.le_refl _) ?_
  refine k_R_in (fun hxa hxb => ?_) (fun hx => ?_)
  · rw [if_pos ⟨hxa, hxb⟩] at hk
    obtain ⟨m, hm, em⟩ := q_inC (c := 5) (by omega) (Int32.le_trans (by decide) hxa) hxb
    subst em
    rw [nI_clamp (by omega)] at hk
    have hcmp : nI σ.2.2.2.1.length ≤ 60 - nI m ↔ σ.2.2.2.1.length + m ≤ 60 := by
      rw [Int32.le_iff_toInt_le, nI_toInt (by omega), show (60 : Int32) = nI 60 from rfl, pk_sub_toInt (by omega) (by omega)]
      omega
    refine r_if_ne f_R_feed_6 (fun _ => ?_) (fun h => absurd h (by decide))
    refine r_ald0 f_R_feed_16 ?_
    refine r_gi f_R_feed_17 (s_95) ?_
    rw [ht0.1]
    refine r_ild2 f_R_feed_20 ?_
    refine r_iadd f_R_feed_21 ?_
    rw [nI_add]
    refine r_ic f_R_feed_22 ?_
    refine r_ic_le f_R_feed_24 (fun h24 => ?_) (fun h24 => ?_)
    · have hle : σ.2.2.2.1.length + m ≤ 60 := (nI_leI (b := 60) (by omega) (by decide)).mp h24
      rw [if_pos (hcmp.mpr hle)] at hk
      refine r_ild2 f_R_feed_34 ?_
      refine r_ic f_R_feed_35 ?_
      refine r_isub f_R_feed_36 ?_
      refine r_ist3 f_R_feed_37 rfl ?_
      refine k_R_feed_loop (T := σ.2.2.2.1 ++ sp_fd x m) (by rw [List.length_append, sp_fd_len]; exact hle) (fun I9 ht9 hg9 => ?_) m I σ.2.2.2.1 (by omega) rfl ht0 q_ag.rf
      rw [List.length_append, sp_fd_len]
      exact hk _ _ (hC.tp hW hg9 ht9) (q_lw.tp hg9)
    · rw [if_neg (fun q => h24 ((nI_leI (b := 60) (by omega) (by decide)).mpr (hcmp.mp q)))] at hk
      refine r_ald0 f_R_feed_27 ?_
      refine r_ic f_R_feed_28 ?_
      refine c_R_finds f_R_feed_30 (s_95) (Nat.le_of_ble_eq_true rfl) (Nat.le_refl _) (Nat.le_refl _) ?_
      refine k_R_finds (k := 1) (by decide) (by decide) hC hW (fun I9 hC9 hi9 => ?_)
      refine r_iret f_R_feed_33 ⟨_, rfl, rfl⟩ (Nat.le_refl _) (Nat.le_refl _) ?_
      exact hk _ _ hC9 hi9
  · rw [if_neg hx] at hk
    refine r_if_ne f_R_feed_6 (fun h => absurd h (by decide)) (fun _ => ?_)
    refine r_ald0 f_R_feed_9 ?_
    refine r_ic f_R_feed_10 ?_
    refine c_R_finds f_R_feed_12 (s_95) (Nat.le_of_ble_eq_true rfl) (Nat.le_refl _) (Nat.le_refl _) ?_
    refine k_R_finds (k := 0) (by decide) (by decide) hC hW (fun I9 hC9 hi9 => ?_)
    refine r_iret f_R_feed_15 ⟨_, rfl, rfl⟩ (Nat.le_refl _) (Nat.le_refl _) ?_
    exact hk _ _ hC9 hi9
theorem q_cpy_0 {α : Type} {f : Nat → Nat → α} {a sp b dp : Nat} : q_cpy f a sp b dp 0 = f := by
  funext x y
  unfold q_cpy
  rw [if_neg (by omega)]
theorem q_cpy_s {α : Type} {f : Nat → Nat → α} {a sp b dp n : Nat} : u2 (q_cpy f a sp b dp n) b (dp + n) (f a (sp + n)) = q_cpy f a sp b dp (n + 1) := by
  funext x y
  unfold u2 q_cpy
  by_cases e : x = b ∧ y = dp + n
  · rw [if_pos e, if_pos (by omega), show sp + (y - dp) = sp + n by omega]
  · rw [if_neg e]
    by_cases e2 : x = b ∧ dp ≤ y ∧ y < dp + n
    · rw [if_pos e2, if_pos (by omega)]
    · rw [if_neg e2, if_neg (by omega)]
theorem q_cpy_s0 {α : Type} {f : Nat → Nat → α} {a b n : Nat} : u2 (q_cpy f a 0 b 0 n) b n (f a n) = q_cpy f a 0 b 0 (n + 1) := by
  have e := q_cpy_s (f := f) (a := a) (sp := 0) (b := b) (dp := 0) (n := n)
  rw [Nat.zero_add] at e
  exact e
theorem RR.copy {q q2 : Nat} (h : RR I q D) (hl : D.2.2.2.2.length ≤ 60) : RR (q_cpy I q 0 q2 0 136) q2 D := h.eqs hl (fun y hy => q_cpy_in hy)
theorem k_R_image_loop {z0 : Int32} (hk : WW G (d + 1) mt_R_image 27 [some (.ref 95), none] [] SH RF (q_cpy I 96 0 97 0 136) L 0 0 0 0 K) : ∀ (m n : Nat), m + n = 136 → WW G (d + 1) mt_R_image 2 [some (.ref 95), some (.int (nI n))] [] SH RF (q_cpy I 96 0 97 0 n) L 0 0 0 0 K
  | 0, n, h => by
    have en : n = 136 := by omega
    subst en
    refine r_ild1 f_R_image_2 ?_
    refine r_ic f_R_image_3 ?_
    refine r_ic_ge f_R_image_6 (fun h6 => ?_) (fun h6 => absurd h6 (fun q => q (Int32.le_refl _)))
    refine r_drop1 ?_
    exact hk
  | m + 1, n, h => by
    refine r_ild1 f_R_image_2 ?_
    refine r_ic f_R_image_3 ?_
    refine r_ic_ge f_R_image_6 (fun h6 => absurd h6 (nI_ge (b := 136) (by omega) (by decide))) (fun h6 => ?_)
    refine r_ald0 f_R_image_9 ?_
    refine r_gr f_R_image_10 (s_95) (r_95_1) ?_
    refine r_ild1 f_R_image_13 ?_
    refine r_ald0 f_R_image_14 ?_
    refine r_gr f_R_image_15 (s_95) (r_95_0) ?_
    refine r_ild1 f_R_image_18 ?_
    refine r_iald f_R_image_19 (s_96) (q_ix.nI (show n < 136 by omega) (by decide)) ?_
    rw [show q_cpy I 96 0 97 0 n 96 n = I 96 n from by rw [q_cpy_row (by decide)]]
    refine r_iast f_R_image_20 (s_97) (q_ix.nI (show n < 136 by omega) (by decide)) ?_
    rw [q_cpy_s0]
    refine r_inc1 f_R_image_21 rfl ?_
    rw [nI_1]
    refine r_goto f_R_image_24 ?_
    exact k_R_image_loop (z0 := 0) hk m (n + 1) (by omega)
theorem k_R_image (hC : RepM I L σ) (hW : WFs σ) (hk : MK K I L (op_image σ)) : WW G (d + 1) mt_R_image 0 [some (.ref 95), none] [] SH RF I L 0 0 0 0 K := by
  unfold op_image at hk
  have hcnt := hC.1.cnt hW.1
  have hc8 := hW.1.1.1
  refine r_ic f_R_image_0 ?_
  refine r_ist1 f_R_image_1 rfl ?_
  rw [← q_cpy_0 (f := I) (a := 96) (sp := 0) (b := 97) (dp := 0)]
  refine k_R_image_loop (z0 := 0) ?_ 136 0 rfl
  refine r_ald0 f_R_image_27 ?_
  refine r_ic f_R_image_28 ?_
  refine r_pz f_R_image_29 (s_95) (Or.inr rfl) ?_
  refine r_ic f_R_image_32 ?_
  refine r_iret f_R_image_33 ⟨_, rfl, rfl⟩ (Nat.le_refl _) (Nat.le_refl _) ?_
  have hl := hW.1.2.2.2.2.2.2.2.1
  have e : ∀ x y, x ≠ 97 → (x ≠ 95 ∨ y ≠ 3) → u2 (q_cpy I 96 0 97 0 136) 95 3 1 x y = I x y := fun x y a1 a2 => (u2_ne a2).trans (by rw [q_cpy_row a1])
  refine hk _ _ (hC.mk' (hC.1.rows hl (fun x y w => e x y (by omega) (by omega))) ⟨u2_self, (hC.1.copy (q2 := 97) hl).rows hl (fun x y w => u2_ne (by omega))⟩ (fun x y w => e x y (by omega) (by omega)) ⟨(e _ _ (by decide) (by decide)).trans hC.2.2.2.1.1, fun j x hx => (e 104 j (by decide) (Or.inl (by decide))).trans (hC.2.2.2.1.2 j x hx)⟩) ?_
  exact fun x y hx => ⟨e x y (by omega) (by omega), rfl⟩
theorem m_kept0 (hC : RepM I L σ) : (σ.2.1 = none ∧ I 95 3 = 0) ∨ ∃ D, σ.2.1 = some D ∧ I 95 3 = 1 ∧ RR I 97 D := by
  have h2 := hC.2.1
  cases hk : σ.2.1 with
  | none =>
    rw [hk] at h2
    exact Or.inl ⟨rfl, h2⟩
  | some E =>
    rw [hk] at h2
    exact Or.inr ⟨E, rfl, h2.1, h2.2⟩
theorem k_R_undo_loop {z0 : Int32} (hk : WW G (d + 1) mt_R_undo 41 [some (.ref 95), none] [] SH RF (q_cpy I 97 0 96 0 136) L 0 0 0 0 K) : ∀ (m n : Nat), m + n = 136 → WW G (d + 1) mt_R_undo 16 [some (.ref 95), some (.int (nI n))] [] SH RF (q_cpy I 97 0 96 0 n) L 0 0 0 0 K
  | 0, n, h => by
    have en : n = 136 := by omega
    subst en
    refine r_ild1 f_R_undo_16 ?_
    refine r_ic f_R_undo_17 ?_
    refine r_ic_ge f_R_undo_20 (fun h20 => ?_) (fun h20 => absurd h20 (fun q => q (Int32.le_refl _)))
    refine r_drop1 ?_
    exact hk
  | m + 1, n, h => by
    refine r_ild1 f_R_undo_16 ?_
    refine r_ic f_R_undo_17 ?_
    refine r_ic_ge f_R_undo_20 (fun h20 => absurd h20 (nI_ge (b := 136) (by omega) (by decide))) (fun h20 => ?_)
    refine r_ald0 f_R_undo_23 ?_
    refine r_gr f_R_undo_24 (s_95) (r_95_0) ?_
    refine r_ild1 f_R_undo_27 ?_
    refine r_ald0 f_R_undo_28 ?_
    refine r_gr f_R_undo_29 (s_95) (r_95_1) ?_
    refine r_ild1 f_R_undo_32 ?_
    refine r_iald f_R_undo_33 (s_97) (q_ix.nI (show n < 136 by omega) (by decide)) ?_
    rw [show q_cpy I 97 0 96 0 n 97 n = I 97 n from by rw [q_cpy_row (by decide)]]
    refine r_iast f_R_undo_34 (s_96) (q_ix.nI (show n < 136 by omega) (by decide)) ?_
    rw [q_cpy_s0]
    refine r_inc1 f_R_undo_35 rfl ?_
    rw [nI_1]
    refine r_goto f_R_undo_38 ?_
    exact k_R_undo_loop (z0 := 0) hk m (n + 1) (by omega)
theorem k_R_undo (hC : RepM I L σ) (hW : WFs σ) (hk : MK K I L (op_undo σ)) : WW G (d + 1) mt_R_undo 0 [some (.ref 95), none] [] SH RF I L 0 0 0 0 K := by
  unfold op_undo at hk
  rcases m_kept0 hC with ⟨e1, e2⟩ | ⟨D, e1, e2, hR⟩
  · simp only [e1] at hk
    refine r_ald0 f_R_undo_0 ?_
    refine r_gi f_R_undo_1 (s_95) ?_
    rw [e2]
    refine r_if_ne f_R_undo_4 (fun h4 => absurd rfl h4) (fun h4 => ?_)
    refine r_ald0 f_R_undo_7 ?_
    refine r_ic f_R_undo_8 ?_
    refine c_R_finds f_R_undo_10 (s_95) (Nat.le_of_ble_eq_true rfl) (Nat.le_refl _) (Nat.le_refl _) ?_
    refine k_R_finds (k := 3) (by decide) (by decide) hC hW (fun I9 hC9 hi9 => ?_)
    refine r_iret f_R_undo_13 ⟨_, rfl, rfl⟩ (Nat.le_refl _) (Nat.le_refl _) ?_
    exact hk _ _ hC9 hi9
  · simp only [e1] at hk
    have hWD := hW.2.1 D e1
    have hl := hWD.2.2.2.2.2.2.2.1
    refine r_ald0 f_R_undo_0 ?_
    refine r_gi f_R_undo_1 (s_95) ?_
    rw [e2]
    refine r_if_ne f_R_undo_4 (fun h4 => ?_) (fun h4 => absurd h4 (by decide))
    refine r_ic f_R_undo_14 ?_
    refine r_ist1 f_R_undo_15 rfl ?_
    rw [← q_cpy_0 (f := I) (a := 97) (sp := 0) (b := 96) (dp := 0)]
    refine k_R_undo_loop (z0 := 0) ?_ 136 0 rfl
    have hR9 := hR.copy (q2 := 96) hl
    refine r_ald0 f_R_undo_41 ?_
    refine r_gr f_R_undo_42 (s_95) (r_95_0) ?_
    refine r_ic f_R_undo_45 ?_
    refine r_iald f_R_undo_47 (s_96) (show q_ix 10 10 136 from ⟨by decide, by decide⟩) ?_
    rw [hR9.cnt hWD]
    refine r_iret f_R_undo_48 ⟨_, rfl, rfl⟩ (Nat.le_refl _) (Nat.le_refl _) ?_
    refine hk _ _ (hC.now hW hR9 (fun x y q => by rw [q_cpy_row (by unfold m_obs at q; omega)])) ?_
    exact fun x y hx => ⟨by rw [q_cpy_row (by omega)], rfl⟩
theorem k_R_tear (hC : RepM I L σ) (hW : WFs σ) (hk : MK K I L (op_tear σ)) : WW G d mt_R_tear 0 [some (.ref 95), none] [] SH RF I L 0 0 0 0 K := by
  unfold op_tear at hk
  have hl := hW.1.2.2.2.2.2.2.2.1
  have e : ∀ x y, (x ≠ 95 ∨ y ≠ 3) → u2 I 95 3 0 x y = I x y := fun x y a1 => u2_ne a1
  have hC9 : RepM (u2 I 95 3 0) L (zK σ none) := hC.mk' (hC.1.rows hl (fun x y w => e x y (by omega))) u2_self (fun x y w => e x y (by omega)) ⟨(e _ _ (by decide)).trans hC.2.2.2.1.1, fun j x hx => (e 104 j (Or.inl (by decide))).trans (hC.2.2.2.1.2 j x hx)⟩
  have hi9 : q_lw I (u2 I 95 3 0) L L := q_lw.rf.u2 (by decide)
  rcases m_kept0 hC with ⟨e1, e2⟩ | ⟨D, e1, e2, hR⟩
  · simp only [e1] at hk
    refine r_ald0 f_R_tear_0 ?_
    refine r_gi f_R_tear_1 (s_95) ?_
    rw [e2]
    refine r_ist1 f_R_tear_4 rfl ?_
    refine r_ald0 f_R_tear_5 ?_
    refine r_ic f_R_tear_6 ?_
    refine r_pz f_R_tear_7 (s_95) (Or.inl rfl) ?_
    refine r_ild1 f_R_tear_10 ?_
    refine r_if_eq f_R_tear_11 (fun h11 => ?_) (fun h11 => absurd rfl h11)
    refine r_ic f_R_tear_18 ?_
    refine r_iret f_R_tear_19 ⟨_, rfl, rfl⟩ (Nat.le_refl _) (Nat.le_refl _) ?_
    exact hk _ _ hC9 hi9
  · simp only [e1] at hk
    refine r_ald0 f_R_tear_0 ?_
    refine r_gi f_R_tear_1 (s_95) ?_
    rw [e2]
    refine r_ist1 f_R_tear_4 rfl ?_
    refine r_ald0 f_R_tear_5 ?_
    refine r_ic f_R_tear_6 ?_
    refine r_pz f_R_tear_7 (s_95) (Or.inl rfl) ?_
    refine r_ild1 f_R_tear_10 ?_
    refine r_if_eq f_R_tear_11 (fun h11 => absurd h11 (by decide)) (fun h11 => ?_)
    refine r_ic f_R_tear_14 ?_
    refine r_goto f_R_tear_15 ?_
    refine r_iret f_R_tear_19 ⟨_, rfl, rfl⟩ (Nat.le_refl _) (Nat.le_refl _) ?_
    exact hk _ _ hC9 hi9
theorem RepM.sh {w z : Nat → Int32} {c : Nat → Nat → Int64} (h : RepM I L σ) (hW : WFs σ) (e : ∀ x y, x ≠ 109 → x ≠ 110 → I' x y = I x y) (hs : ∀ s, s < 4 → I' 109 s = w s ∧ I' 110 s = z s ∧ ∀ j, j < 40 → L' 111 (40 * s + j) = c s j) : RepM I' L' (zS σ w z c) := by
  refine ⟨h.1.rows hW.1.2.2.2.2.2.2.2.1 (fun x y w => e x y (by omega) (by omega)), ?_, ⟨fun j hj => (e 99 j (by omega) (by omega)).trans (h.2.2.1.1 j hj), (e 95 5 (by omega) (by omega)).trans h.2.2.1.2⟩, ⟨(e _ _ (by omega) (by omega)).trans h.2.2.2.1.1, fun j x hx => (e _ _ (by omega) (by omega)).trans (h.2.2.2.1.2 j x hx)⟩, hs⟩
  exact h.kp hW (e _ _ (by omega) (by omega)) (fun x y w => e x y (by omega) (by omega))
theorem RepM.cl {c : Nat → Nat → Int64} (h : RepM I L σ) (hW : WFs σ) (hs : ∀ s, s < 4 → ∀ j, j < 40 → L' 111 (40 * s + j) = c s j) : RepM I L' (zS σ σ.2.2.2.2.1 σ.2.2.2.2.2.1 c) :=
  h.sh hW (fun _ _ _ _ => rfl) (fun s h4 => ⟨(h.2.2.2.2 s h4).1, (h.2.2.2.2 s h4).2.1, hs s h4⟩)
theorem q_40 (s k : Nat) : (40 : Int32) * nI s + nI k = nI (40 * s + k) := by rw [show (40 : Int32) * nI s = nI (40 * s) from pk_mul 40 s, nI_add]
theorem k_R_isSheet {x : Int32} (h1 : 0 ≤ x → x ≤ 3 → K (some (.int 1)) SH RF I L) (h0 : ¬ (0 ≤ x ∧ x ≤ 3) → K (some (.int 0)) SH RF I L) : WW G (d + 1) mt_R_isSheet 0 [some (.int x)] [] SH RF I L 0 0 0 0 K := by
  refine r_ild0 f_R_isSheet_0 ?_
  refine r_ic f_R_isSheet_1 ?_
  refine r_ic f_R_isSheet_2 ?_
  refine c_R_in f_R_isSheet_3 (Nat.le_of_ble_eq_true rfl) (Nat.le_refl _) (Nat.le_refl _) ?_
  refine k_R_in (fun ha hb => ?_) (fun h => ?_)
  · refine r_iret f_R_isSheet_6 ⟨_, rfl, rfl⟩ (Nat.le_refl _) (Nat.le_refl _) ?_
    first | exact h1 ha hb | exact h0 h
  · refine r_iret f_R_isSheet_6 ⟨_, rfl, rfl⟩ (Nat.le_refl _) (Nat.le_refl _) ?_
    first | exact h1 ha hb | exact h0 h
def q_z1 (L : Rl) (t n : Nat) : Rl := fun x y => if x = 111 ∧ 40 * t ≤ y ∧ y < 40 * t + n then 0 else L x y
theorem q_z1_s {t n : Nat} : u2 (q_z1 L t n) 111 (40 * t + n) 0 = q_z1 L t (n + 1) := by
  funext x y
  unfold u2 q_z1
  by_cases e : x = 111 ∧ y = 40 * t + n
  · rw [if_pos e, if_pos (by omega)]
  · rw [if_neg e]
    by_cases e2 : x = 111 ∧ 40 * t ≤ y ∧ y < 40 * t + n
    · rw [if_pos e2, if_pos (by omega)]
    · rw [if_neg e2, if_neg (by omega)]
theorem k_R_sheet_loop {t : Nat} {w n : Int32} (ht : t < 4) (hk : K (some (.int (I 110 t))) SH RF I (q_z1 L t 40)) : ∀ (m k : Nat), m + k = 40 → WW G (d + 1) mt_R_sheet 86 [some (.ref 95), some (.int (nI t)), some (.int w), some (.int n), some (.int (nI k))] [] SH RF I (q_z1 L t k) 0 0 0 0 K
  | 0, k, h => by
    have ek : k = 40 := by omega
    subst ek
    refine r_ild4 f_R_sheet_86 ?_
    refine r_ic f_R_sheet_88 ?_
    refine r_ic_ge f_R_sheet_90 (fun h90 => ?_) (fun h90 => absurd h90 (fun q => q (Int32.le_refl _)))
    refine r_ald0 f_R_sheet_112 ?_
    refine r_gr f_R_sheet_113 (s_95) (r_95_36) ?_
    refine r_ild1 f_R_sheet_116 ?_
    refine r_iald f_R_sheet_117 (s_110) (q_ix.nI (show t < 4 from ht) (by decide)) ?_
    refine r_iret f_R_sheet_118 ⟨_, rfl, rfl⟩ (Nat.le_refl _) (Nat.le_refl _) ?_
    exact hk
  | m + 1, k, h => by
    refine r_ild4 f_R_sheet_86 ?_
    refine r_ic f_R_sheet_88 ?_
    refine r_ic_ge f_R_sheet_90 (fun h90 => absurd h90 (nI_ge (b := 40) (by omega) (by decide))) (fun h90 => ?_)
    refine r_ald0 f_R_sheet_93 ?_
    refine r_gr f_R_sheet_94 (s_95) (r_95_37) ?_
    refine r_ic f_R_sheet_97 ?_
    refine r_ild1 f_R_sheet_99 ?_
    refine r_imul f_R_sheet_100 ?_
    refine r_ild4 f_R_sheet_101 ?_
    refine r_iadd f_R_sheet_103 ?_
    rw [q_40]
    refine r_lc f_R_sheet_104 ?_
    refine r_last f_R_sheet_105 (s_111) (q_ix.nI (show 40 * t + k < 160 by omega) (by decide)) ?_
    rw [q_z1_s]
    refine r_inc4 f_R_sheet_106 rfl ?_
    rw [nI_1]
    refine r_goto f_R_sheet_109 ?_
    exact k_R_sheet_loop ht hk m (k + 1) (by omega)
theorem k_R_sheet36 {t : Nat} {w n : Int32} (ht : t < 4) (hC : RepM I L σ) (hW : WFs σ) (hk : MK K I L (if n < 0 then fnd σ (-1000000007) 6 else if n ≤ 40 then ((if w = 0 then 0 else n), zS σ (fun u => if u = t then w else σ.2.2.2.2.1 u) (fun u => if u = t then (if w = 0 then 0 else n) else σ.2.2.2.2.2.1 u) (fun u j => if u = t then 0 else σ.2.2.2.2.2.2 u j)) else fnd σ (-1000000001) 0)) : WW G (d + 1) mt_R_sheet 36 [some (.ref 95), some (.int (nI t)), some (.int w), some (.int n), none] [] SH RF I L 0 0 0 0 K := by
  have hfin : ∀ v : Int32, MK K I L (v, zS σ (fun u => if u = t then w else σ.2.2.2.2.1 u) (fun u => if u = t then v else σ.2.2.2.2.2.1 u) (fun u j => if u = t then 0 else σ.2.2.2.2.2.2 u j)) → K (some (.int (u2 (u2 I 109 t w) 110 t v 110 t))) SH RF (u2 (u2 I 109 t w) 110 t v) (q_z1 L t 40) := by
    intro v hk
    rw [u2_self]
    refine hk _ _ (hC.sh hW (fun x y a1 a2 => (u2_ne (Or.inl a2)).trans (u2_ne (Or.inl a1))) (fun s hs => ?_)) (fun x y hx => ⟨(u2_ne (Or.inl (by omega))).trans (u2_ne (Or.inl (by omega))), if_neg (by omega)⟩)
    obtain ⟨e1, e2, e3⟩ := hC.2.2.2.2 s hs
    by_cases e : s = t
    · subst e
      refine ⟨?_, ?_, fun j hj => ?_⟩
      · rw [if_pos rfl, u2_ne (Or.inl (by decide)), u2_self]
      · rw [if_pos rfl, u2_self]
      · rw [if_pos rfl]
        exact if_pos (by omega)
    · refine ⟨?_, ?_, fun j hj => ?_⟩
      · rw [if_neg e, u2_ne (Or.inl (by decide)), u2_ne (Or.inr e), e1]
      · rw [if_neg e, u2_ne (Or.inr e), u2_ne (Or.inl (by decide)), e2]
      · rw [if_neg e, ← e3 j hj]
        exact if_neg (by omega)
  refine r_ild3 f_R_sheet_36 ?_
  refine r_if_ge f_R_sheet_37 (fun h37 => ?_) (fun h37 => ?_)
  · rw [if_neg (Int32.not_lt.mpr h37)] at hk
    refine r_ild3 f_R_sheet_48 ?_
    refine r_ic f_R_sheet_49 ?_
    refine r_ic_le f_R_sheet_51 (fun h51 => ?_) (fun h51 => ?_)
    · rw [if_pos h51] at hk
      refine r_ald0 f_R_sheet_61 ?_
      refine r_gr f_R_sheet_62 (s_95) (r_95_35) ?_
      refine r_ild1 f_R_sheet_65 ?_
      refine r_ild2 f_R_sheet_66 ?_
      refine r_iast f_R_sheet_67 (s_109) (q_ix.nI (show t < 4 from ht) (by decide)) ?_
      refine r_ald0 f_R_sheet_68 ?_
      refine r_gr f_R_sheet_69 (s_95) (r_95_36) ?_
      refine r_ild1 f_R_sheet_72 ?_
      refine r_ild2 f_R_sheet_73 ?_
      refine r_if_ne f_R_sheet_74 (fun h74 => ?_) (fun h74 => ?_)
      · rw [if_neg h74] at hk
        refine r_ild3 f_R_sheet_81 ?_
        refine r_iast f_R_sheet_82 (s_110) (q_ix.nI (show t < 4 from ht) (by decide)) ?_
        refine r_ic f_R_sheet_83 ?_
        refine r_ist4 f_R_sheet_84 rfl ?_
        have e0 : q_z1 L t 0 = L := by
          funext x y
          exact if_neg (by omega)
        have e9 := k_R_sheet_loop (G := G) (d := d) (w := w) (n := n) ht (hfin _ hk) 40 0 rfl
        rw [e0] at e9
        exact e9
      · rw [if_pos h74] at hk
        refine r_ic f_R_sheet_77 ?_
        refine r_goto f_R_sheet_78 ?_
        refine r_iast f_R_sheet_82 (s_110) (q_ix.nI (show t < 4 from ht) (by decide)) ?_
        refine r_ic f_R_sheet_83 ?_
        refine r_ist4 f_R_sheet_84 rfl ?_
        have e0 : q_z1 L t 0 = L := by
          funext x y
          exact if_neg (by omega)
        have e9 := k_R_sheet_loop (G := G) (d := d) (w := w) (n := n) ht (hfin _ hk) 40 0 rfl
        rw [e0] at e9
        exact e9
    · rw [if_neg h51] at hk
      refine r_ald0 f_R_sheet_54 ?_
      refine r_ic f_R_sheet_55 ?_
      refine c_R_finds f_R_sheet_57 (s_95) (Nat.le_of_ble_eq_true rfl) (Nat.le_refl _) (Nat.le_refl _) ?_
      refine k_R_finds (k := 0) (by decide) (by decide) hC hW (fun I9 hC9 hi9 => ?_)
      refine r_iret f_R_sheet_60 ⟨_, rfl, rfl⟩ (Nat.le_refl _) (Nat.le_refl _) ?_
      exact hk _ _ hC9 hi9
  · rw [if_pos (Int32.not_le.mp h37)] at hk
    refine r_ald0 f_R_sheet_40 ?_
    refine r_ic f_R_sheet_41 ?_
    refine c_R_finds f_R_sheet_44 (s_95) (Nat.le_of_ble_eq_true rfl) (Nat.le_refl _) (Nat.le_refl _) ?_
    refine k_R_finds (k := 6) (by decide) (by decide) hC hW (fun I9 hC9 hi9 => ?_)
    refine r_iret f_R_sheet_47 ⟨_, rfl, rfl⟩ (Nat.le_refl _) (Nat.le_refl _) ?_
    exact hk _ _ hC9 hi9
theorem k_R_sheet {s w n : Int32} (hC : RepM I L σ) (hW : WFs σ) (hk : MK K I L (op_sheet σ s w n)) : WW G (d + 2) mt_R_sheet 0 [some (.ref 95), some (.int s), some (.int w), some (.int n), none] [] SH RF I L 0 0 0 0 K := by
  unfold op_sheet at hk
  have hcnt := hC.1.cnt hW.1
  have hc8 := hW.1.1.1
  refine r_ild1 f_R_sheet_0 ?_
  refine c_R_isSheet f_R_sheet_1 (Nat.le_of_ble_eq_true rfl) (Nat.le_refl _) (Nat.le_refl _) ?_
  refine k_R_isSheet (fun hsa hsb => ?_) (fun hs => ?_)
  · refine r_if_eq f_R_sheet_4 (fun h => absurd h (by decide)) (fun _ => ?_)
    refine r_ild2 f_R_sheet_7 ?_
    refine r_if_eq f_R_sheet_8 (fun h8 => ?_) (fun h8 => ?_)
    · have hwd : sp_wd w := by first | exact Or.inl h8 | exact Or.inr (Or.inl h14) | exact Or.inr (Or.inr (Or.inl h20)) | exact Or.inr (Or.inr (Or.inr h26))
      rw [if_pos (show (0 ≤ s ∧ s ≤ 3) ∧ sp_wd w from ⟨⟨hsa, hsb⟩, hwd⟩)] at hk
      obtain ⟨t, ht, et⟩ := q_inC (c := 4) (by omega) hsa hsb
      subst et
      rw [nI_clamp (by omega)] at hk
      exact k_R_sheet36 ht hC hW hk
    · refine r_ild2 f_R_sheet_11 ?_
      refine r_ic f_R_sheet_12 ?_
      refine r_ic_eq f_R_sheet_14 (fun h14 => ?_) (fun h14 => ?_)
      · have hwd : sp_wd w := by first | exact Or.inl h8 | exact Or.inr (Or.inl h14) | exact Or.inr (Or.inr (Or.inl h20)) | exact Or.inr (Or.inr (Or.inr h26))
        rw [if_pos (show (0 ≤ s ∧ s ≤ 3) ∧ sp_wd w from ⟨⟨hsa, hsb⟩, hwd⟩)] at hk
        obtain ⟨t, ht, et⟩ := q_inC (c := 4) (by omega) hsa hsb
        subst et
        rw [nI_clamp (by omega)] at hk
        exact k_R_sheet36 ht hC hW hk
      · refine r_ild2 f_R_sheet_17 ?_
        refine r_ic f_R_sheet_18 ?_
        refine r_ic_eq f_R_sheet_20 (fun h20 => ?_) (fun h20 => ?_)
        · have hwd : sp_wd w := by first | exact Or.inl h8 | exact Or.inr (Or.inl h14) | exact Or.inr (Or.inr (Or.inl h20)) | exact Or.inr (Or.inr (Or.inr h26))
          rw [if_pos (show (0 ≤ s ∧ s ≤ 3) ∧ sp_wd w from ⟨⟨hsa, hsb⟩, hwd⟩)] at hk
          obtain ⟨t, ht, et⟩ := q_inC (c := 4) (by omega) hsa hsb
          subst et
          rw [nI_clamp (by omega)] at hk
          exact k_R_sheet36 ht hC hW hk
        · refine r_ild2 f_R_sheet_23 ?_
          refine r_ic f_R_sheet_24 ?_
          refine r_ic_eq f_R_sheet_26 (fun h26 => ?_) (fun h26 => ?_)
          · have hwd : sp_wd w := by first | exact Or.inl h8 | exact Or.inr (Or.inl h14) | exact Or.inr (Or.inr (Or.inl h20)) | exact Or.inr (Or.inr (Or.inr h26))
            rw [if_pos (show (0 ≤ s ∧ s ≤ 3) ∧ sp_wd w from ⟨⟨hsa, hsb⟩, hwd⟩)] at hk
            obtain ⟨t, ht, et⟩ := q_inC (c := 4) (by omega) hsa hsb
            subst et
            rw [nI_clamp (by omega)] at hk
            exact k_R_sheet36 ht hC hW hk
          · first | rw [if_neg (show ¬ ((0 ≤ s ∧ s ≤ 3) ∧ sp_wd w) from fun q => q.2.elim h8 (fun q => q.elim h14 (fun q => q.elim h20 h26)))] at hk | skip
            refine r_ald0 f_R_sheet_29 ?_
            refine r_ic f_R_sheet_30 ?_
            refine c_R_finds f_R_sheet_32 (s_95) (Nat.le_of_ble_eq_true rfl) (Nat.le_refl _) (Nat.le_refl _) ?_
            refine k_R_finds (k := 0) (by decide) (by decide) hC hW (fun I9 hC9 hi9 => ?_)
            refine r_iret f_R_sheet_35 ⟨_, rfl, rfl⟩ (Nat.le_refl _) (Nat.le_refl _) ?_
            exact hk _ _ hC9 hi9
  · rw [if_neg (show ¬ ((0 ≤ s ∧ s ≤ 3) ∧ sp_wd w) from fun q => hs q.1)] at hk
    refine r_if_eq f_R_sheet_4 (fun _ => ?_) (fun h => absurd h (by decide))
    first | rw [if_neg (show ¬ ((0 ≤ s ∧ s ≤ 3) ∧ sp_wd w) from fun q => q.2.elim h8 (fun q => q.elim h14 (fun q => q.elim h20 h26)))] at hk | skip
    refine r_ald0 f_R_sheet_29 ?_
    refine r_ic f_R_sheet_30 ?_
    refine c_R_finds f_R_sheet_32 (s_95) (Nat.le_of_ble_eq_true rfl) (Nat.le_refl _) (Nat.le_refl _) ?_
    refine k_R_finds (k := 0) (by decide) (by decide) hC hW (fun I9 hC9 hi9 => ?_)
    refine r_iret f_R_sheet_35 ⟨_, rfl, rfl⟩ (Nat.le_refl _) (Nat.le_refl _) ?_
    exact hk _ _ hC9 hi9
theorem RepM.wdt {t : Nat} (h : RepM I L σ) (ht : t < 4) : I 109 t = σ.2.2.2.2.1 t := (h.2.2.2.2 t ht).1
theorem RepM.siz {t : Nat} (h : RepM I L σ) (ht : t < 4) : I 110 t = σ.2.2.2.2.2.1 t := (h.2.2.2.2 t ht).2.1
theorem RepM.cel {t j : Nat} (h : RepM I L σ) (ht : t < 4) (hj : j < 40) : L 111 (40 * t + j) = σ.2.2.2.2.2.2 t j := (h.2.2.2.2 t ht).2.2 j hj
theorem RepM.put1 {t u : Nat} {x : Int64} (h : RepM I L σ) (hW : WFs σ) (ht : t < 4) (hu : u < 40) : RepM I (u2 L 111 (40 * t + u) x) (zS σ σ.2.2.2.2.1 σ.2.2.2.2.2.1 (fun s j => if s = t ∧ j = u then x else σ.2.2.2.2.2.2 s j)) := h.cl hW (fun s hs j hj => by
  by_cases e : s = t ∧ j = u
  · rw [if_pos e, e.1, e.2, u2_self]
  · rw [if_neg e, u2_ne (by omega), h.cel hs hj])
theorem k_R_write {s j : Int32} {x : Int64} (hC : RepM I L σ) (hW : WFs σ) (hk : MKl K I L (op_write σ s j x)) : WW G (d + 2) mt_R_write 0 [some (.ref 95), some (.int s), some (.int j), some (.long x), none, none, none] [] SH RF I L 0 0 0 0 K := by
  unfold op_write at hk
  have hcnt := hC.1.cnt hW.1
  have hc8 := hW.1.1.1
  refine r_ild1 f_R_write_0 ?_
  refine c_R_isSheet f_R_write_1 (Nat.le_of_ble_eq_true rfl) (Nat.le_refl _) (Nat.le_refl _) ?_
  refine k_R_isSheet (fun hsa hsb => ?_) (fun hs => ?_)
  · rw [if_pos ⟨hsa, hsb⟩] at hk
    obtain ⟨t, ht, et⟩ := q_inC (c := 4) (by omega) hsa hsb
    subst et
    rw [nI_clamp (by omega)] at hk
    obtain ⟨Z, _, hZ, eZ⟩ := (hW.2.2.2 t ht).2
    refine r_if_ne f_R_write_4 (fun _ => ?_) (fun h => absurd h (by decide))
    refine r_ald0 f_R_write_15 ?_
    refine r_gr f_R_write_16 (s_95) (r_95_35) ?_
    refine r_ild1 f_R_write_19 ?_
    refine r_iald f_R_write_20 (s_109) (q_ix.nI (show t < 4 from ht) (by decide)) ?_
    rw [hC.wdt ht]
    refine r_if_ne f_R_write_21 (fun h21 => ?_) (fun h21 => ?_)
    · rw [if_neg h21] at hk
      refine r_ild2 f_R_write_33 ?_
      refine r_ic f_R_write_34 ?_
      refine r_ald0 f_R_write_35 ?_
      refine r_gr f_R_write_36 (s_95) (r_95_36) ?_
      refine r_ild1 f_R_write_39 ?_
      refine r_iald f_R_write_40 (s_110) (q_ix.nI (show t < 4 from ht) (by decide)) ?_
      rw [hC.siz ht]
      refine r_ic f_R_write_41 ?_
      refine r_isub f_R_write_42 ?_
      refine c_R_in f_R_write_43 (Nat.le_of_ble_eq_true rfl) (Nat.le_refl _) (Nat.le_refl _) ?_
      refine k_R_in (fun hja hjb => ?_) (fun hj => ?_)
      · rw [if_pos ⟨hja, hjb⟩] at hk
        obtain ⟨u, hu, eu⟩ := q_inC (c := Z) (by omega) hja (by rw [← eZ]; exact hjb)
        subst eu
        rw [nI_clamp (by omega)] at hk
        refine r_if_ne f_R_write_46 (fun _ => ?_) (fun h => absurd h (by decide))
        refine r_ald0 f_R_write_57 ?_
        refine r_gr f_R_write_58 (s_95) (r_95_37) ?_
        refine r_ic f_R_write_61 ?_
        refine r_ild1 f_R_write_63 ?_
        refine r_imul f_R_write_64 ?_
        refine r_ild2 f_R_write_65 ?_
        refine r_iadd f_R_write_66 ?_
        rw [q_40]
        refine r_lald f_R_write_67 (s_111) (q_ix.nI (show 40 * t + u < 160 by omega) (by decide)) ?_
        rw [hC.cel ht (show u < 40 by omega)]
        refine r_lst5 f_R_write_68 (by decide) rfl ?_
        refine r_ald0 f_R_write_70 ?_
        refine r_gr f_R_write_71 (s_95) (r_95_37) ?_
        refine r_ic f_R_write_74 ?_
        refine r_ild1 f_R_write_76 ?_
        refine r_imul f_R_write_77 ?_
        refine r_ild2 f_R_write_78 ?_
        refine r_iadd f_R_write_79 ?_
        rw [q_40]
        refine r_ald0 f_R_write_80 ?_
        refine r_gr f_R_write_81 (s_95) (r_95_35) ?_
        refine r_ild1 f_R_write_84 ?_
        refine r_iald f_R_write_85 (s_109) (q_ix.nI (show t < 4 from ht) (by decide)) ?_
        rw [hC.wdt ht]
        refine r_ic f_R_write_86 ?_
        refine r_ic_ne f_R_write_88 (fun h88 => ?_) (fun h88 => ?_)
        · refine r_ald0 f_R_write_98 ?_
          refine r_gr f_R_write_99 (s_95) (r_95_35) ?_
          refine r_ild1 f_R_write_102 ?_
          refine r_iald f_R_write_103 (s_109) (q_ix.nI (show t < 4 from ht) (by decide)) ?_
          rw [hC.wdt ht]
          refine r_ic f_R_write_104 ?_
          refine r_ic_ne f_R_write_106 (fun h106 => ?_) (fun h106 => ?_)
          · rw [show sp_low (σ.2.2.2.2.1 t) x = x from (if_neg h88).trans (if_neg h106)] at hk
            refine r_lld3 f_R_write_116 ?_
            refine r_last f_R_write_117 (s_111) (q_ix.nI (show 40 * t + u < 160 by omega) (by decide)) ?_
            refine r_lld5 f_R_write_118 ?_
            refine r_lret f_R_write_120 rfl (Nat.le_refl _) (Nat.le_refl _) ?_
            exact hk _ _ (hC.put1 hW ht (by omega)) (fun x y hx => ⟨rfl, u2_ne (Or.inl (by omega))⟩)
          · rw [show sp_low (σ.2.2.2.2.1 t) x = _ from (if_neg h88).trans (if_pos h106)] at hk
            refine r_lld3 f_R_write_109 ?_
            refine r_l2i f_R_write_110 ?_
            refine r_i2s f_R_write_111 ?_
            refine r_i2l f_R_write_112 ?_
            refine r_goto f_R_write_113 ?_
            refine r_last f_R_write_117 (s_111) (q_ix.nI (show 40 * t + u < 160 by omega) (by decide)) ?_
            refine r_lld5 f_R_write_118 ?_
            refine r_lret f_R_write_120 rfl (Nat.le_refl _) (Nat.le_refl _) ?_
            exact hk _ _ (hC.put1 hW ht (by omega)) (fun x y hx => ⟨rfl, u2_ne (Or.inl (by omega))⟩)
        · rw [show sp_low (σ.2.2.2.2.1 t) x = _ from if_pos h88] at hk
          refine r_lld3 f_R_write_91 ?_
          refine r_l2i f_R_write_92 ?_
          refine r_i2b f_R_write_93 ?_
          refine r_i2l f_R_write_94 ?_
          refine r_goto f_R_write_95 ?_
          refine r_last f_R_write_117 (s_111) (q_ix.nI (show 40 * t + u < 160 by omega) (by decide)) ?_
          refine r_lld5 f_R_write_118 ?_
          refine r_lret f_R_write_120 rfl (Nat.le_refl _) (Nat.le_refl _) ?_
          exact hk _ _ (hC.put1 hW ht (by omega)) (fun x y hx => ⟨rfl, u2_ne (Or.inl (by omega))⟩)
      · rw [if_neg hj] at hk
        refine r_if_ne f_R_write_46 (fun h => absurd h (by decide)) (fun _ => ?_)
        refine r_ald0 f_R_write_49 ?_
        refine r_ic f_R_write_50 ?_
        refine c_R_finds f_R_write_52 (s_95) (Nat.le_of_ble_eq_true rfl) (Nat.le_refl _) (Nat.le_refl _) ?_
        refine k_R_finds (k := 0) (by decide) (by decide) hC hW (fun I9 hC9 hi9 => ?_)
        refine r_i2l f_R_write_55 ?_
        refine r_lret f_R_write_56 rfl (Nat.le_refl _) (Nat.le_refl _) ?_
        exact hk _ _ hC9 hi9
    · rw [if_pos h21] at hk
      refine r_ald0 f_R_write_24 ?_
      refine r_ic f_R_write_25 ?_
      refine c_R_finds f_R_write_28 (s_95) (Nat.le_of_ble_eq_true rfl) (Nat.le_refl _) (Nat.le_refl _) ?_
      refine k_R_finds (k := 5) (by decide) (by decide) hC hW (fun I9 hC9 hi9 => ?_)
      refine r_i2l f_R_write_31 ?_
      refine r_lret f_R_write_32 rfl (Nat.le_refl _) (Nat.le_refl _) ?_
      exact hk _ _ hC9 hi9
  · rw [if_neg hs] at hk
    refine r_if_ne f_R_write_4 (fun h => absurd h (by decide)) (fun _ => ?_)
    refine r_ald0 f_R_write_7 ?_
    refine r_ic f_R_write_8 ?_
    refine c_R_finds f_R_write_10 (s_95) (Nat.le_of_ble_eq_true rfl) (Nat.le_refl _) (Nat.le_refl _) ?_
    refine k_R_finds (k := 0) (by decide) (by decide) hC hW (fun I9 hC9 hi9 => ?_)
    refine r_i2l f_R_write_13 ?_
    refine r_lret f_R_write_14 rfl (Nat.le_refl _) (Nat.le_refl _) ?_
    exact hk _ _ hC9 hi9
theorem sp_has_iff {z j n : Int32} (hz : q_le z 0 40) : sp_holds z j n ↔ (0 ≤ j ∧ 0 ≤ n ∧ j ≤ z - n) := by
  constructor
  · exact fun q => ⟨q.2.2.1, q.1, q.2.2.2⟩
  · rintro ⟨h1, h2, h3⟩
    refine ⟨h2, ?_, h1, h3⟩
    obtain ⟨Z, _, hZ, rfl⟩ := hz
    obtain ⟨N, hN, rfl⟩ := nI_of (Int32.not_lt.mpr h2)
    have e : (nI Z - nI N).toInt = (Z : Int) - (N : Int) := by
      rw [Int32.toInt_sub, nI_toInt (by omega), nI_toInt hN]
      exact Int.bmod_eq_of_le (by omega) (by omega)
    rw [Int32.le_iff_toInt_le, e] at h3
    have h4 := Int32.le_iff_toInt_le.mp h1
    rw [show (0 : Int32).toInt = 0 from rfl] at h4
    exact (nI_leI hN (by omega)).mpr (by omega)
theorem k_R_has {t : Nat} {j n : Int32} (ht : t < 4) (hC : RepM I L σ) (hW : WFs σ) (y1 : sp_holds (σ.2.2.2.2.2.1 t) j n → K (some (.int 1)) SH RF I L) (y0 : ¬ sp_holds (σ.2.2.2.2.2.1 t) j n → K (some (.int 0)) SH RF I L) : WW G d mt_R_has 0 [some (.ref 95), some (.int (nI t)), some (.int j), some (.int n)] [] SH RF I L 0 0 0 0 K := by
  have hi := sp_has_iff (j := j) (n := n) (hW.2.2.2 t ht).2
  refine r_ild2 f_R_has_0 ?_
  refine r_if_lt f_R_has_1 (fun h1 => ?_) (fun h1 => ?_)
  · refine r_ic f_R_has_24 ?_
    refine r_iret f_R_has_25 ⟨_, rfl, rfl⟩ (Nat.le_refl _) (Nat.le_refl _) ?_
    first
      | exact y1 (hi.mpr ⟨Int32.not_lt.mp h1, Int32.not_lt.mp h5, Int32.not_lt.mp h17⟩)
      | exact y0 (fun q => absurd (hi.mp q).1 (Int32.not_le.mpr h1))
      | exact y0 (fun q => absurd (hi.mp q).2.1 (Int32.not_le.mpr h5))
      | exact y0 (fun q => absurd (hi.mp q).2.2 (Int32.not_le.mpr h17))
  · refine r_ild3 f_R_has_4 ?_
    refine r_if_lt f_R_has_5 (fun h5 => ?_) (fun h5 => ?_)
    · refine r_ic f_R_has_24 ?_
      refine r_iret f_R_has_25 ⟨_, rfl, rfl⟩ (Nat.le_refl _) (Nat.le_refl _) ?_
      first
        | exact y1 (hi.mpr ⟨Int32.not_lt.mp h1, Int32.not_lt.mp h5, Int32.not_lt.mp h17⟩)
        | exact y0 (fun q => absurd (hi.mp q).1 (Int32.not_le.mpr h1))
        | exact y0 (fun q => absurd (hi.mp q).2.1 (Int32.not_le.mpr h5))
        | exact y0 (fun q => absurd (hi.mp q).2.2 (Int32.not_le.mpr h17))
    · refine r_ild2 f_R_has_8 ?_
      refine r_ald0 f_R_has_9 ?_
      refine r_gr f_R_has_10 (s_95) (r_95_36) ?_
      refine r_ild1 f_R_has_13 ?_
      refine r_iald f_R_has_14 (s_110) (q_ix.nI (show t < 4 from ht) (by decide)) ?_
      rw [hC.siz ht]
      refine r_ild3 f_R_has_15 ?_
      refine r_isub f_R_has_16 ?_
      refine r_ic_gt f_R_has_17 (fun h17 => ?_) (fun h17 => ?_)
      · refine r_ic f_R_has_24 ?_
        refine r_iret f_R_has_25 ⟨_, rfl, rfl⟩ (Nat.le_refl _) (Nat.le_refl _) ?_
        first
          | exact y1 (hi.mpr ⟨Int32.not_lt.mp h1, Int32.not_lt.mp h5, Int32.not_lt.mp h17⟩)
          | exact y0 (fun q => absurd (hi.mp q).1 (Int32.not_le.mpr h1))
          | exact y0 (fun q => absurd (hi.mp q).2.1 (Int32.not_le.mpr h5))
          | exact y0 (fun q => absurd (hi.mp q).2.2 (Int32.not_le.mpr h17))
      · refine r_ic f_R_has_20 ?_
        refine r_goto f_R_has_21 ?_
        refine r_iret f_R_has_25 ⟨_, rfl, rfl⟩ (Nat.le_refl _) (Nat.le_refl _) ?_
        first
          | exact y1 (hi.mpr ⟨Int32.not_lt.mp h1, Int32.not_lt.mp h5, Int32.not_lt.mp h17⟩)
          | exact y0 (fun q => absurd (hi.mp q).1 (Int32.not_le.mpr h1))
          | exact y0 (fun q => absurd (hi.mp q).2.1 (Int32.not_le.mpr h5))
          | exact y0 (fun q => absurd (hi.mp q).2.2 (Int32.not_le.mpr h17))
theorem k_R_copy_l1 {s t S J : Nat} {i j n : Int32} (hs : s < 4) (hJ : J ≤ 40) (hi : i = nI S) (hn : n = nI J) (hb : S + J ≤ 40) (hk : WW G (d + 1) mt_R_copy 136 [some (.ref 95), some (.int (nI s)), some (.int i), some (.int (nI t)), some (.int j), some (.int n), none] [] SH RF I (q_cpy L 111 (40 * s + S) 112 0 J) 0 0 0 0 K) : ∀ (m k : Nat), m + k = J → WW G (d + 1) mt_R_copy 102 [some (.ref 95), some (.int (nI s)), some (.int i), some (.int (nI t)), some (.int j), some (.int n), some (.int (nI k))] [] SH RF I (q_cpy L 111 (40 * s + S) 112 0 k) 0 0 0 0 K
  | 0, k, h => by
    have ek : k = J := by omega
    subst ek
    refine r_ild6 f_R_copy_102 ?_
    refine r_ild5 f_R_copy_104 ?_
    rw [hn]
    refine r_ic_ge f_R_copy_106 (fun h106 => ?_) (fun h106 => absurd h106 (fun q => q (Int32.le_refl _)))
    refine r_drop6 ?_
    rw [hn] at hk
    exact hk
  | m + 1, k, h => by
    refine r_ild6 f_R_copy_102 ?_
    refine r_ild5 f_R_copy_104 ?_
    rw [hn]
    refine r_ic_ge f_R_copy_106 (fun h106 => absurd h106 (nI_ge (by omega) (by omega))) (fun h106 => ?_)
    refine r_ald0 f_R_copy_109 ?_
    refine r_gr f_R_copy_110 (s_95) (r_95_38) ?_
    refine r_ild6 f_R_copy_113 ?_
    refine r_ald0 f_R_copy_115 ?_
    refine r_gr f_R_copy_116 (s_95) (r_95_37) ?_
    refine r_ic f_R_copy_119 ?_
    refine r_ild1 f_R_copy_121 ?_
    refine r_imul f_R_copy_122 ?_
    refine r_ild2 f_R_copy_123 ?_
    refine r_iadd f_R_copy_124 ?_
    rw [hi, q_40]
    refine r_ild6 f_R_copy_125 ?_
    refine r_iadd f_R_copy_127 ?_
    rw [nI_add]
    refine r_lald f_R_copy_128 (s_111) (q_ix.nI (show 40 * s + S + k < 160 by omega) (by decide)) ?_
    rw [show q_cpy L 111 (40 * s + S) 112 0 k 111 (40 * s + S + k) = L 111 (40 * s + S + k) from by rw [q_cpy_row (by decide)]]
    refine r_last f_R_copy_129 (s_112) (q_ix.nI (show k < 40 by omega) (by decide)) ?_
    rw [show u2 (q_cpy L 111 (40 * s + S) 112 0 k) 112 k (L 111 (40 * s + S + k)) = q_cpy L 111 (40 * s + S) 112 0 (k + 1) from by rw [← q_cpy_s, Nat.zero_add]]
    refine r_inc6 f_R_copy_130 rfl ?_
    rw [nI_1]
    refine r_goto f_R_copy_133 ?_
    rw [← hn, ← hi]
    exact k_R_copy_l1 hs hJ hi hn hb hk m (k + 1) (by omega)
theorem k_R_copy_l2 {s t S J : Nat} {i j n : Int32} (ht : t < 4) (hJ : J ≤ 40) (hj : j = nI S) (hn : n = nI J) (hb : S + J ≤ 40) (hk : K (some (.int n)) SH RF I (q_cpy L 112 0 111 (40 * t + S) J)) : ∀ (m k : Nat), m + k = J → WW G (d + 1) mt_R_copy 139 [some (.ref 95), some (.int (nI s)), some (.int i), some (.int (nI t)), some (.int j), some (.int n), some (.int (nI k))] [] SH RF I (q_cpy L 112 0 111 (40 * t + S) k) 0 0 0 0 K
  | 0, k, h => by
    have ek : k = J := by omega
    subst ek
    refine r_ild6 f_R_copy_139 ?_
    refine r_ild5 f_R_copy_141 ?_
    rw [hn]
    refine r_ic_ge f_R_copy_143 (fun h143 => ?_) (fun h143 => absurd h143 (fun q => q (Int32.le_refl _)))
    refine r_ild5 f_R_copy_174 ?_
    refine r_iret f_R_copy_176 ⟨_, rfl, rfl⟩ (Nat.le_refl _) (Nat.le_refl _) ?_
    rw [hn] at hk
    exact hk
  | m + 1, k, h => by
    refine r_ild6 f_R_copy_139 ?_
    refine r_ild5 f_R_copy_141 ?_
    rw [hn]
    refine r_ic_ge f_R_copy_143 (fun h143 => absurd h143 (nI_ge (by omega) (by omega))) (fun h143 => ?_)
    refine r_ald0 f_R_copy_146 ?_
    refine r_gr f_R_copy_147 (s_95) (r_95_37) ?_
    refine r_ic f_R_copy_150 ?_
    refine r_ild3 f_R_copy_152 ?_
    refine r_imul f_R_copy_153 ?_
    refine r_ild4 f_R_copy_154 ?_
    refine r_iadd f_R_copy_156 ?_
    rw [hj, q_40]
    refine r_ild6 f_R_copy_157 ?_
    refine r_iadd f_R_copy_159 ?_
    rw [nI_add]
    refine r_ald0 f_R_copy_160 ?_
    refine r_gr f_R_copy_161 (s_95) (r_95_38) ?_
    refine r_ild6 f_R_copy_164 ?_
    refine r_lald f_R_copy_166 (s_112) (q_ix.nI (show k < 40 by omega) (by decide)) ?_
    rw [show q_cpy L 112 0 111 (40 * t + S) k 112 k = L 112 k from by rw [q_cpy_row (by decide)]]
    refine r_last f_R_copy_167 (s_111) (q_ix.nI (show 40 * t + S + k < 160 by omega) (by decide)) ?_
    rw [show u2 (q_cpy L 112 0 111 (40 * t + S) k) 111 (40 * t + S + k) (L 112 k) = q_cpy L 112 0 111 (40 * t + S) (k + 1) from by rw [← q_cpy_s, Nat.zero_add]]
    refine r_inc6 f_R_copy_168 rfl ?_
    rw [nI_1]
    refine r_goto f_R_copy_171 ?_
    rw [← hn, ← hj]
    exact k_R_copy_l2 ht hJ hj hn hb hk m (k + 1) (by omega)
theorem RepM.cpy {s t A B N : Nat} (h : RepM I L σ) (hW : WFs σ) (hs : s < 4) (ht : t < 4) (hA : A + N ≤ 40) (hB : B + N ≤ 40) : RepM I (q_cpy (q_cpy L 111 (40 * s + A) 112 0 N) 112 0 111 (40 * t + B) N) (zS σ σ.2.2.2.2.1 σ.2.2.2.2.2.1 (fun u y => if u = t ∧ B ≤ y ∧ y < B + N then σ.2.2.2.2.2.2 s (A + (y - B)) else σ.2.2.2.2.2.2 u y)) := h.cl hW (fun u hu y hy => by
  unfold q_cpy
  by_cases e : u = t ∧ B ≤ y ∧ y < B + N
  · rw [if_pos e, if_pos (by omega), if_pos (by omega), ← h.cel hs (show A + (y - B) < 40 by omega)]
    congr 1
    omega
  · rw [if_neg e, if_neg (by omega), if_neg (by omega), h.cel hu hy])
theorem k_R_copy {s i t j n : Int32} (hC : RepM I L σ) (hW : WFs σ) (hk : MK K I L (op_copy σ s i t j n)) : WW G (d + 2) mt_R_copy 0 [some (.ref 95), some (.int s), some (.int i), some (.int t), some (.int j), some (.int n), none] [] SH RF I L 0 0 0 0 K := by
  unfold op_copy at hk
  have hcnt := hC.1.cnt hW.1
  have hc8 := hW.1.1.1
  refine r_ild1 f_R_copy_0 ?_
  refine c_R_isSheet f_R_copy_1 (Nat.le_of_ble_eq_true rfl) (Nat.le_refl _) (Nat.le_refl _) ?_
  refine k_R_isSheet (fun hsa hsb => ?_) (fun hs => ?_)
  · refine r_if_eq f_R_copy_4 (fun h => absurd h (by decide)) (fun _ => ?_)
    refine r_ild3 f_R_copy_7 ?_
    refine c_R_isSheet f_R_copy_8 (Nat.le_of_ble_eq_true rfl) (Nat.le_refl _) (Nat.le_refl _) ?_
    refine k_R_isSheet (fun hta htb => ?_) (fun ht => ?_)
    · rw [if_pos (show (0 ≤ s ∧ s ≤ 3) ∧ (0 ≤ t ∧ t ≤ 3) from ⟨⟨hsa, hsb⟩, ⟨hta, htb⟩⟩)] at hk
      obtain ⟨S, hS, eS⟩ := q_inC (c := 4) (by omega) hsa hsb
      subst eS
      obtain ⟨T, hT, eT⟩ := q_inC (c := 4) (by omega) hta htb
      subst eT
      rw [nI_clamp (show S < 2 ^ 31 by omega), nI_clamp (show T < 2 ^ 31 by omega)] at hk
      refine r_if_ne f_R_copy_11 (fun _ => ?_) (fun h => absurd h (by decide))
      refine r_ald0 f_R_copy_21 ?_
      refine r_gr f_R_copy_22 (s_95) (r_95_35) ?_
      refine r_ild1 f_R_copy_25 ?_
      refine r_iald f_R_copy_26 (s_109) (q_ix.nI (show S < 4 from hS) (by decide)) ?_
      rw [hC.wdt hS]
      refine r_if_eq f_R_copy_27 (fun h27 => ?_) (fun h27 => ?_)
      · first | rw [if_pos (Or.inl h27)] at hk | rw [if_pos (Or.inr h36)] at hk
        refine r_ald0 f_R_copy_39 ?_
        refine r_ic f_R_copy_40 ?_
        refine c_R_finds f_R_copy_43 (s_95) (Nat.le_of_ble_eq_true rfl) (Nat.le_refl _) (Nat.le_refl _) ?_
        refine k_R_finds (k := 5) (by decide) (by decide) hC hW (fun I9 hC9 hi9 => ?_)
        refine r_iret f_R_copy_46 ⟨_, rfl, rfl⟩ (Nat.le_refl _) (Nat.le_refl _) ?_
        exact hk _ _ hC9 hi9
      · refine r_ald0 f_R_copy_30 ?_
        refine r_gr f_R_copy_31 (s_95) (r_95_35) ?_
        refine r_ild3 f_R_copy_34 ?_
        refine r_iald f_R_copy_35 (s_109) (q_ix.nI (show T < 4 from hT) (by decide)) ?_
        rw [hC.wdt hT]
        refine r_if_ne f_R_copy_36 (fun h36 => ?_) (fun h36 => ?_)
        · rw [if_neg (fun q => q.elim h27 h36)] at hk
          refine r_ald0 f_R_copy_47 ?_
          refine r_gr f_R_copy_48 (s_95) (r_95_35) ?_
          refine r_ild1 f_R_copy_51 ?_
          refine r_iald f_R_copy_52 (s_109) (q_ix.nI (show S < 4 from hS) (by decide)) ?_
          rw [hC.wdt hS]
          refine r_ald0 f_R_copy_53 ?_
          refine r_gr f_R_copy_54 (s_95) (r_95_35) ?_
          refine r_ild3 f_R_copy_57 ?_
          refine r_iald f_R_copy_58 (s_109) (q_ix.nI (show T < 4 from hT) (by decide)) ?_
          rw [hC.wdt hT]
          refine r_ic_eq f_R_copy_59 (fun h59 => ?_) (fun h59 => ?_)
          · rw [if_pos h59] at hk
            refine r_ald0 f_R_copy_69 ?_
            refine r_ild1 f_R_copy_70 ?_
            refine r_ild2 f_R_copy_71 ?_
            refine r_ild5 f_R_copy_72 ?_
            refine c_R_has f_R_copy_74 (s_95) (Nat.le_of_ble_eq_true rfl) (Nat.le_refl _) (Nat.le_refl _) ?_
            refine k_R_has hS hC hW (fun hp => ?_) (fun hp => ?_)
            · refine r_if_eq f_R_copy_77 (fun h => absurd h (by decide)) (fun _ => ?_)
              refine r_ald0 f_R_copy_80 ?_
              refine r_ild3 f_R_copy_81 ?_
              refine r_ild4 f_R_copy_82 ?_
              refine r_ild5 f_R_copy_84 ?_
              refine c_R_has f_R_copy_86 (s_95) (Nat.le_of_ble_eq_true rfl) (Nat.le_refl _) (Nat.le_refl _) ?_
              refine k_R_has hT hC hW (fun hq => ?_) (fun hq => ?_)
              · rw [if_pos ⟨hp, hq⟩] at hk
                refine r_if_ne f_R_copy_89 (fun _ => ?_) (fun h => absurd h (by decide))
                refine r_ic f_R_copy_99 ?_
                refine r_ist6 f_R_copy_100 rfl ?_
                obtain ⟨Z1, A, N, z1, z2, z3, z4, z5⟩ := sp_holds_nat (hW.2.2.2 S hS).2 hp
                obtain ⟨Z2, B, N2, y1, y2, y3, y4, y5⟩ := sp_holds_nat (hW.2.2.2 T hT).2 hq
                have eN : N2 = N := (nI_eq (by omega) (by omega)).mp (y5.symm.trans z5)
                subst eN
                rw [z4, y4, z5, nI_clamp (show A < 2 ^ 31 by omega), nI_clamp (show B < 2 ^ 31 by omega), nI_clamp (show N2 < 2 ^ 31 by omega)] at hk
                rw [← q_cpy_0 (f := L) (a := 111) (sp := 40 * S + A) (b := 112) (dp := 0)]
                refine k_R_copy_l1 (J := N2) hS (by omega) z4 z5 (by omega) ?_ N2 0 (Nat.add_zero _)
                refine r_ic f_R_copy_136 ?_
                refine r_ist6 f_R_copy_137 rfl ?_
                rw [← q_cpy_0 (f := q_cpy L 111 (40 * S + A) 112 0 N2) (a := 112) (sp := 0) (b := 111) (dp := 40 * T + B)]
                refine k_R_copy_l2 (J := N2) hT (by omega) y4 z5 (by omega) ?_ N2 0 (Nat.add_zero _)
                rw [z5]
                refine hk _ _ (hC.cpy hW hS hT (by omega) (by omega)) (fun x y hx => ⟨rfl, ?_⟩)
                rw [q_cpy_row (by omega), q_cpy_row (by omega)]
              · rw [if_neg (fun q => hq q.2)] at hk
                refine r_if_ne f_R_copy_89 (fun h => absurd h (by decide)) (fun _ => ?_)
                refine r_ald0 f_R_copy_92 ?_
                refine r_ic f_R_copy_93 ?_
                refine c_R_finds f_R_copy_95 (s_95) (Nat.le_of_ble_eq_true rfl) (Nat.le_refl _) (Nat.le_refl _) ?_
                refine k_R_finds (k := 0) (by decide) (by decide) hC hW (fun I9 hC9 hi9 => ?_)
                refine r_iret f_R_copy_98 ⟨_, rfl, rfl⟩ (Nat.le_refl _) (Nat.le_refl _) ?_
                exact hk _ _ hC9 hi9
            · rw [if_neg (fun q => hp q.1)] at hk
              refine r_if_eq f_R_copy_77 (fun _ => ?_) (fun h => absurd h (by decide))
              refine r_ald0 f_R_copy_92 ?_
              refine r_ic f_R_copy_93 ?_
              refine c_R_finds f_R_copy_95 (s_95) (Nat.le_of_ble_eq_true rfl) (Nat.le_refl _) (Nat.le_refl _) ?_
              refine k_R_finds (k := 0) (by decide) (by decide) hC hW (fun I9 hC9 hi9 => ?_)
              refine r_iret f_R_copy_98 ⟨_, rfl, rfl⟩ (Nat.le_refl _) (Nat.le_refl _) ?_
              exact hk _ _ hC9 hi9
          · rw [if_neg h59] at hk
            refine r_ald0 f_R_copy_62 ?_
            refine r_ic f_R_copy_63 ?_
            refine c_R_finds f_R_copy_65 (s_95) (Nat.le_of_ble_eq_true rfl) (Nat.le_refl _) (Nat.le_refl _) ?_
            refine k_R_finds (k := 2) (by decide) (by decide) hC hW (fun I9 hC9 hi9 => ?_)
            refine r_iret f_R_copy_68 ⟨_, rfl, rfl⟩ (Nat.le_refl _) (Nat.le_refl _) ?_
            exact hk _ _ hC9 hi9
        · first | rw [if_pos (Or.inl h27)] at hk | rw [if_pos (Or.inr h36)] at hk
          refine r_ald0 f_R_copy_39 ?_
          refine r_ic f_R_copy_40 ?_
          refine c_R_finds f_R_copy_43 (s_95) (Nat.le_of_ble_eq_true rfl) (Nat.le_refl _) (Nat.le_refl _) ?_
          refine k_R_finds (k := 5) (by decide) (by decide) hC hW (fun I9 hC9 hi9 => ?_)
          refine r_iret f_R_copy_46 ⟨_, rfl, rfl⟩ (Nat.le_refl _) (Nat.le_refl _) ?_
          exact hk _ _ hC9 hi9
    · rw [if_neg (show ¬ ((0 ≤ s ∧ s ≤ 3) ∧ (0 ≤ t ∧ t ≤ 3)) from fun q => ht q.2)] at hk
      refine r_if_ne f_R_copy_11 (fun h => absurd h (by decide)) (fun _ => ?_)
      refine r_ald0 f_R_copy_14 ?_
      refine r_ic f_R_copy_15 ?_
      refine c_R_finds f_R_copy_17 (s_95) (Nat.le_of_ble_eq_true rfl) (Nat.le_refl _) (Nat.le_refl _) ?_
      refine k_R_finds (k := 0) (by decide) (by decide) hC hW (fun I9 hC9 hi9 => ?_)
      refine r_iret f_R_copy_20 ⟨_, rfl, rfl⟩ (Nat.le_refl _) (Nat.le_refl _) ?_
      exact hk _ _ hC9 hi9
  · rw [if_neg (show ¬ ((0 ≤ s ∧ s ≤ 3) ∧ (0 ≤ t ∧ t ≤ 3)) from fun q => hs q.1)] at hk
    refine r_if_eq f_R_copy_4 (fun _ => ?_) (fun h => absurd h (by decide))
    refine r_ald0 f_R_copy_14 ?_
    refine r_ic f_R_copy_15 ?_
    refine c_R_finds f_R_copy_17 (s_95) (Nat.le_of_ble_eq_true rfl) (Nat.le_refl _) (Nat.le_refl _) ?_
    refine k_R_finds (k := 0) (by decide) (by decide) hC hW (fun I9 hC9 hi9 => ?_)
    refine r_iret f_R_copy_20 ⟨_, rfl, rfl⟩ (Nat.le_refl _) (Nat.le_refl _) ?_
    exact hk _ _ hC9 hi9
theorem k_R_worths_loop {t Z : Nat} {c : Nat → Int64} (ht : t < 4) (hZ : Z ≤ 40) (hz : I 110 t = nI Z) (hc : ∀ j, j < 40 → L 111 (40 * t + j) = c j) (hW : WFd D) (hk : ∀ I', RR I' 96 (sp_wl c D (min Z (dC D))).1 → q_ag (fun x _ => x = 96) I I' → K (some (.int (sp_wl c D (min Z (dC D))).2)) SH RF I' L) : ∀ (m k : Nat) (I' : Rn), m + k = min Z (dC D) → RR I' 96 (sp_wl c D k).1 → q_ag (fun x _ => x = 96) I I' → WW G (d + 1) mt_R_worths 35 [some (.ref 95), some (.int (nI t)), some (.int (sp_wl c D k).2), some (.int (nI k)), none, none] [] SH RF I' L 0 0 0 0 K
  | 0, k, I', h, hR, hg => by
    have ek : k = min Z (dC D) := by omega
    have hc8 := hW.1.1
    have hcn : I' 96 10 = nI (dC D) := by rw [hR.c, sp_wl_f5]; exact hW.1.2
    subst ek
    by_cases hlt : min Z (dC D) < Z
    · refine r_ild3 f_R_worths_35 ?_
      refine r_ald0 f_R_worths_36 ?_
      refine r_gr f_R_worths_37 (s_95) (r_95_36) ?_
      refine r_ild1 f_R_worths_40 ?_
      refine r_iald f_R_worths_41 (s_110) (q_ix.nI (show t < 4 from ht) (by decide)) ?_
      rw [hg 110 t (show ¬ (110 : Nat) = 96 by decide), hz]
      refine r_ic_ge f_R_worths_42 (fun h42 => absurd h42 (nI_ge hlt (by omega))) (fun h42 => ?_)
      refine r_ild3 f_R_worths_45 ?_
      refine r_ald0 f_R_worths_46 ?_
      refine r_gr f_R_worths_47 (s_95) (r_95_0) ?_
      refine r_ic f_R_worths_50 ?_
      refine r_iald f_R_worths_52 (s_96) (show q_ix 10 10 136 from ⟨by decide, by decide⟩) ?_
      rw [hcn]
      refine r_ic_ge f_R_worths_53 (fun h53 => ?_) (fun h53 => absurd h53 (fun q => q (nI_le (by omega) (by omega))))
      refine r_ild2 f_R_worths_103 ?_
      refine r_iret f_R_worths_104 ⟨_, rfl, rfl⟩ (Nat.le_refl _) (Nat.le_refl _) ?_
      exact hk I' hR hg
    · refine r_ild3 f_R_worths_35 ?_
      refine r_ald0 f_R_worths_36 ?_
      refine r_gr f_R_worths_37 (s_95) (r_95_36) ?_
      refine r_ild1 f_R_worths_40 ?_
      refine r_iald f_R_worths_41 (s_110) (q_ix.nI (show t < 4 from ht) (by decide)) ?_
      rw [hg 110 t (show ¬ (110 : Nat) = 96 by decide), hz]
      refine r_ic_ge f_R_worths_42 (fun h42 => ?_) (fun h42 => absurd h42 (fun q => q (nI_le (by omega) (by omega))))
      refine r_ild2 f_R_worths_103 ?_
      refine r_iret f_R_worths_104 ⟨_, rfl, rfl⟩ (Nat.le_refl _) (Nat.le_refl _) ?_
      exact hk I' hR hg
  | m + 1, k, I', h, hR, hg => by
    have hc8 := hW.1.1
    have hcn : I' 96 10 = nI (dC D) := by rw [hR.c, sp_wl_f5]; exact hW.1.2
    have h1 : k < Z := by omega
    have h2 : k < dC D := by omega
    refine r_ild3 f_R_worths_35 ?_
    refine r_ald0 f_R_worths_36 ?_
    refine r_gr f_R_worths_37 (s_95) (r_95_36) ?_
    refine r_ild1 f_R_worths_40 ?_
    refine r_iald f_R_worths_41 (s_110) (q_ix.nI (show t < 4 from ht) (by decide)) ?_
    rw [hg 110 t (show ¬ (110 : Nat) = 96 by decide), hz]
    refine r_ic_ge f_R_worths_42 (fun h42 => absurd h42 (nI_ge h1 (by omega))) (fun h42 => ?_)
    refine r_ild3 f_R_worths_45 ?_
    refine r_ald0 f_R_worths_46 ?_
    refine r_gr f_R_worths_47 (s_95) (r_95_0) ?_
    refine r_ic f_R_worths_50 ?_
    refine r_iald f_R_worths_52 (s_96) (show q_ix 10 10 136 from ⟨by decide, by decide⟩) ?_
    rw [hcn]
    refine r_ic_ge f_R_worths_53 (fun h53 => absurd h53 (nI_ge h2 (by omega))) (fun h53 => ?_)
    refine r_ald0 f_R_worths_56 ?_
    refine r_gr f_R_worths_57 (s_95) (r_95_37) ?_
    refine r_ic f_R_worths_60 ?_
    refine r_ild1 f_R_worths_62 ?_
    refine r_imul f_R_worths_63 ?_
    refine r_ild3 f_R_worths_64 ?_
    refine r_iadd f_R_worths_65 ?_
    rw [q_40]
    refine r_lald f_R_worths_66 (s_111) (q_ix.nI (show 40 * t + k < 160 by omega) (by decide)) ?_
    rw [hc k (by omega)]
    refine r_lst4 f_R_worths_67 (by decide) rfl ?_
    refine r_lld4 f_R_worths_69 ?_
    refine r_lc f_R_worths_71 ?_
    refine r_lcmp f_R_worths_72 ?_
    refine r_if_lt f_R_worths_73 (fun h73 => ?_) (fun h73 => ?_)
    · refine r_inc3 f_R_worths_97 rfl ?_
      rw [nI_1]
      refine r_goto f_R_worths_100 ?_
      refine r_drop4 ?_
      first
        | (have hy := sp_wl_y (D := D) ⟨q_lcmp.2.2.1.mp (Int32.not_lt.mp h73), q_lcmp.2.2.2.2.mp (Int32.not_lt.mp h82)⟩
           have e9 := k_R_worths_loop ht hZ hz hc hW hk m (k + 1) I2 (by omega) (by rw [hy]; exact hR2) (hg.tr hg2)
           rw [show (sp_wl c D (k + 1)).2 = (sp_wl c D k).2 + 1 from by rw [hy]] at e9
           exact e9)
        | (have hy := sp_wl_n (c := c) (D := D) (j := k) (fun q => by first | exact absurd q.1 (Int64.not_le.mpr (q_lcmp.2.1.mp h73)) | exact absurd q.2 (Int64.not_le.mpr (q_lcmp.2.2.2.1.mp h82)))
           have e9 := k_R_worths_loop ht hZ hz hc hW hk m (k + 1) I' (by omega) (by rw [hy]; exact hR) hg
           rw [hy] at e9
           exact e9)
    · refine r_lld4 f_R_worths_76 ?_
      refine r_lc f_R_worths_78 ?_
      refine r_lcmp f_R_worths_81 ?_
      refine r_if_gt f_R_worths_82 (fun h82 => ?_) (fun h82 => ?_)
      · refine r_inc3 f_R_worths_97 rfl ?_
        rw [nI_1]
        refine r_goto f_R_worths_100 ?_
        refine r_drop4 ?_
        first
          | (have hy := sp_wl_y (D := D) ⟨q_lcmp.2.2.1.mp (Int32.not_lt.mp h73), q_lcmp.2.2.2.2.mp (Int32.not_lt.mp h82)⟩
             have e9 := k_R_worths_loop ht hZ hz hc hW hk m (k + 1) I2 (by omega) (by rw [hy]; exact hR2) (hg.tr hg2)
             rw [show (sp_wl c D (k + 1)).2 = (sp_wl c D k).2 + 1 from by rw [hy]] at e9
             exact e9)
          | (have hy := sp_wl_n (c := c) (D := D) (j := k) (fun q => by first | exact absurd q.1 (Int64.not_le.mpr (q_lcmp.2.1.mp h73)) | exact absurd q.2 (Int64.not_le.mpr (q_lcmp.2.2.2.1.mp h82)))
             have e9 := k_R_worths_loop ht hZ hz hc hW hk m (k + 1) I' (by omega) (by rw [hy]; exact hR) hg
             rw [hy] at e9
             exact e9)
      · refine r_ald0 f_R_worths_85 ?_
        refine r_ild3 f_R_worths_86 ?_
        refine r_ic f_R_worths_87 ?_
        refine r_lld4 f_R_worths_88 ?_
        refine r_l2i f_R_worths_90 ?_
        refine c_R_put f_R_worths_91 (s_95) (Nat.le_of_ble_eq_true rfl) (Nat.le_refl _) (Nat.le_refl _) ?_
        refine k_R_put (k := 2) (show k < 8 by omega) (by decide) hR (fun I2 hR2 hg2 => ?_)
        refine r_inc2 f_R_worths_94 rfl ?_
        refine r_inc3 f_R_worths_97 rfl ?_
        rw [nI_1]
        refine r_goto f_R_worths_100 ?_
        refine r_drop4 ?_
        first
          | (have hy := sp_wl_y (D := D) ⟨q_lcmp.2.2.1.mp (Int32.not_lt.mp h73), q_lcmp.2.2.2.2.mp (Int32.not_lt.mp h82)⟩
             have e9 := k_R_worths_loop ht hZ hz hc hW hk m (k + 1) I2 (by omega) (by rw [hy]; exact hR2) (hg.tr hg2)
             rw [show (sp_wl c D (k + 1)).2 = (sp_wl c D k).2 + 1 from by rw [hy]] at e9
             exact e9)
          | (have hy := sp_wl_n (c := c) (D := D) (j := k) (fun q => by first | exact absurd q.1 (Int64.not_le.mpr (q_lcmp.2.1.mp h73)) | exact absurd q.2 (Int64.not_le.mpr (q_lcmp.2.2.2.1.mp h82)))
             have e9 := k_R_worths_loop ht hZ hz hc hW hk m (k + 1) I' (by omega) (by rw [hy]; exact hR) hg
             rw [hy] at e9
             exact e9)
theorem k_R_worths {s : Int32} (hC : RepM I L σ) (hW : WFs σ) (hk : MK K I L (op_worths σ s)) : WW G (d + 2) mt_R_worths 0 [some (.ref 95), some (.int s), none, none, none, none] [] SH RF I L 0 0 0 0 K := by
  unfold op_worths at hk
  have hcnt := hC.1.cnt hW.1
  have hc8 := hW.1.1.1
  refine r_ild1 f_R_worths_0 ?_
  refine c_R_isSheet f_R_worths_1 (Nat.le_of_ble_eq_true rfl) (Nat.le_refl _) (Nat.le_refl _) ?_
  refine k_R_isSheet (fun hsa hsb => ?_) (fun hs => ?_)
  · rw [if_pos ⟨hsa, hsb⟩] at hk
    obtain ⟨t, ht, et⟩ := q_inC (c := 4) (by omega) hsa hsb
    subst et
    rw [nI_clamp (by omega)] at hk
    obtain ⟨Z, _, hZ, eZ⟩ := (hW.2.2.2 t ht).2
    rw [eZ, nI_clamp (by omega)] at hk
    refine r_if_ne f_R_worths_4 (fun _ => ?_) (fun h => absurd h (by decide))
    refine r_ald0 f_R_worths_14 ?_
    refine r_gr f_R_worths_15 (s_95) (r_95_35) ?_
    refine r_ild1 f_R_worths_18 ?_
    refine r_iald f_R_worths_19 (s_109) (q_ix.nI (show t < 4 from ht) (by decide)) ?_
    rw [hC.wdt ht]
    refine r_if_ne f_R_worths_20 (fun h20 => ?_) (fun h20 => ?_)
    · rw [if_neg h20] at hk
      refine r_ic f_R_worths_31 ?_
      refine r_ist2 f_R_worths_32 rfl ?_
      refine r_ic f_R_worths_33 ?_
      refine r_ist3 f_R_worths_34 rfl ?_
      exact k_R_worths_loop ht hZ ((hC.siz ht).trans eZ) (fun j hj => hC.cel ht hj) hW.1 (fun I9 hR9 hg9 => hk _ _ (hC.n96 hW hR9 hg9) (q_lw.n96 hg9)) _ 0 I (Nat.add_zero _) hC.1 q_ag.rf
    · rw [if_pos h20] at hk
      refine r_ald0 f_R_worths_23 ?_
      refine r_ic f_R_worths_24 ?_
      refine c_R_finds f_R_worths_27 (s_95) (Nat.le_of_ble_eq_true rfl) (Nat.le_refl _) (Nat.le_refl _) ?_
      refine k_R_finds (k := 5) (by decide) (by decide) hC hW (fun I9 hC9 hi9 => ?_)
      refine r_iret f_R_worths_30 ⟨_, rfl, rfl⟩ (Nat.le_refl _) (Nat.le_refl _) ?_
      exact hk _ _ hC9 hi9
  · rw [if_neg hs] at hk
    refine r_if_ne f_R_worths_4 (fun h => absurd h (by decide)) (fun _ => ?_)
    refine r_ald0 f_R_worths_7 ?_
    refine r_ic f_R_worths_8 ?_
    refine c_R_finds f_R_worths_10 (s_95) (Nat.le_of_ble_eq_true rfl) (Nat.le_refl _) (Nat.le_refl _) ?_
    refine k_R_finds (k := 0) (by decide) (by decide) hC hW (fun I9 hC9 hi9 => ?_)
    refine r_iret f_R_worths_13 ⟨_, rfl, rfl⟩ (Nat.le_refl _) (Nat.le_refl _) ?_
    exact hk _ _ hC9 hi9
end L56
