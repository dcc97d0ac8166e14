section L30
variable {G : Gx} {d : Nat} {S : Shp} {R : Rf} {I I0 : Rn} {L : Rl} {K : Kt} {b : Nat} {D : Dst} {Me : Nat → Nat → Int32}
theorem k_F_become {f f2 : Nat} (hf : S[f]? = some (1, 7)) (hf2 : S[f2]? = some (1, 7)) (hne : f2 ≠ f) (hk : ∀ I', q_ag (fun x _ => x = f) I I' → (∀ k, k < 7 → I' f k = I f2 k) → K none S R I' L) : WW G (d + 1) mt_F_become 0 [some (.ref f), some (.ref f2)] [] S R I L 0 0 0 0 K := by
  refine r_ald0 f_F_become_0 ?_
  refine r_ald1 f_F_become_1 ?_
  refine r_gi f_F_become_2 (hf2) ?_
  refine r_ald1 f_F_become_5 ?_
  refine r_gi f_F_become_6 (hf2) ?_
  refine r_ald1 f_F_become_9 ?_
  refine r_gi f_F_become_10 (hf2) ?_
  refine c_F_begin f_F_become_13 (hf) (Nat.le_of_ble_eq_true rfl) (Nat.le_refl _) (Nat.le_refl _) ?_
  refine k_F_begin hf ?_
  refine r_ald0 f_F_become_16 ?_
  refine r_ald1 f_F_become_17 ?_
  refine r_gi f_F_become_18 (hf2) ?_
  simp only [u2_row hne]
  refine r_pi f_F_become_21 (hf) ?_
  refine r_ald0 f_F_become_24 ?_
  refine r_ald1 f_F_become_25 ?_
  refine r_gi f_F_become_26 (hf2) ?_
  simp only [u2_row hne]
  refine r_pi f_F_become_29 (hf) ?_
  refine r_ald0 f_F_become_32 ?_
  refine r_ald1 f_F_become_33 ?_
  refine r_gi f_F_become_34 (hf2) ?_
  simp only [u2_row hne]
  refine r_pi f_F_become_37 (hf) ?_
  refine r_ald0 f_F_become_40 ?_
  refine r_ald1 f_F_become_41 ?_
  refine r_gi f_F_become_42 (hf2) ?_
  simp only [u2_row hne]
  refine r_pi f_F_become_45 (hf) ?_
  refine r_ret f_F_become_48 rfl (Nat.le_refl _) (Nat.le_refl _) ?_
  refine hk _ ?_ ?_
  · iterate 11 refine q_ag.u2 ?_ rfl
    exact q_ag.rf
  · intro k hk7
    match k, hk7 with
    | 0, _ => simp [u2]
    | 1, _ => simp [u2]
    | 2, _ => simp [u2]
    | 3, _ => simp [u2]
    | 4, _ => simp [u2]
    | 5, _ => simp [u2]
    | 6, _ => simp [u2]
theorem q_cpy_in {α : Type} {f : Nat → Nat → α} {a b n y : Nat} (h : y < n) : q_cpy f a 0 b 0 n b y = f a y := by
  unfold q_cpy
  rw [if_pos ⟨rfl, by omega, by omega⟩]
  congr 1
  omega
theorem q_cpy_ne {α : Type} {f : Nat → Nat → α} {a b n x y : Nat} (h : x ≠ b) : q_cpy f a 0 b 0 n x y = f x y := by rw [q_cpy_row h]
theorem RD.copy {b2 : Nat} {J : Rn} (h : RD I b2 D) (hlen : D.2.2.2.2.length ≤ 60) (e1 : ∀ i k, i < 8 → k < 7 → J (b + 9 + 2 * i) k = I (b2 + 9 + 2 * i) k) (e2 : ∀ p, p < 8 → J (b + 2) p = I (b2 + 2) p) (e3 : ∀ k, k < 5 → J (b + 3) k = I (b2 + 3) k) (e4 : ∀ k, 4 ≤ k → k ≤ 9 → J b k = I b2 k) (e5 : J (b + 4) 3 = I (b2 + 4) 3) (e6 : ∀ j, j < 60 → J (b + 5) j = I (b2 + 5) j) : RD J b D := by
  refine ⟨?_, e5.trans h.2.1, fun j hj => by rw [e6 j (by omega)]; exact h.2.2 j hj⟩
  rw [← h.1]
  unfold vD
  refine Prod.ext ?_ (Prod.ext ?_ (Prod.ext ?_ (Prod.ext ?_ ?_)))
  · funext i k
    dsimp only
    by_cases hi : i < 8 ∧ k < 7
    · rw [if_pos hi, if_pos hi, e1 i k hi.1 hi.2]
    · rw [if_neg hi, if_neg hi]
  · funext p
    dsimp only
    by_cases hp : p < 8
    · rw [if_pos hp, if_pos hp, e2 p hp]
    · rw [if_neg hp, if_neg hp]
  · funext p
    dsimp only
    by_cases hp : p < 5
    · rw [if_pos hp, if_pos hp, e3 p hp]
    · rw [if_neg hp, if_neg hp]
  · funext k
    dsimp only
    by_cases h5 : k = 5
    · rw [if_pos h5, if_pos h5, e4 4 (by omega) (by omega)]
    · rw [if_neg h5, if_neg h5]
      by_cases hp : k < 5
      · rw [if_pos hp, if_pos hp, e4 (k + 5) (by omega) (by omega)]
      · rw [if_neg hp, if_neg hp]
  · dsimp only
    rw [e5]
    refine List.map_congr_left (fun j hj => ?_)
    have h9 := List.mem_range.mp hj
    rw [h.2.1, nI_clamp (by omega)] at h9
    rw [e6 j (by omega)]
theorem k_D_become_loop {b2 : Nat} (hb : q_D b) (hb2 : q_D b2) (hne : b ≠ b2)
    (next : ∀ I', q_ag (fun x _ => x = b + 2 ∨ ∃ i, i < 8 ∧ x = b + 9 + 2 * i) I I' → (∀ i k, i < 8 → k < 7 → I' (b + 9 + 2 * i) k = I (b2 + 9 + 2 * i) k) → (∀ i, i < 8 → I' (b + 2) i = I (b2 + 2) i) → WW G (d + 3) mt_D_become 41 [some (.ref b), some (.ref b2), none] [] SH RF I' L 0 0 0 0 K) :
    ∀ (n p : Nat) (I' : Rn), 8 - p < n → p ≤ 8 → q_ag (fun x _ => x = b + 2 ∨ ∃ i, i < 8 ∧ x = b + 9 + 2 * i) I I' → (∀ i k, i < p → k < 7 → I' (b + 9 + 2 * i) k = I (b2 + 9 + 2 * i) k) → (∀ i, i < p → I' (b + 2) i = I (b2 + 2) i) → WW G (d + 3) mt_D_become 2 [some (.ref b), some (.ref b2), some (.int (nI p))] [] SH RF I' L 0 0 0 0 K
  | 0, p, I', hn, hp, hg, h1, h2 => by omega
  | n + 1, p, I', hn, hp, hg, h1, h2 => by
    have far : b + 25 ≤ b2 ∨ b2 + 25 ≤ b := by rcases hb with rfl | rfl | rfl <;> rcases hb2 with rfl | rfl | rfl <;> first | omega | exact absurd rfl hne
    refine r_ild2 f_D_become_2 ?_
    refine r_ic f_D_become_3 ?_
    refine r_ic_ge f_D_become_5 (fun h5 => ?_) (fun h5 => ?_)
    · refine r_drop2 ?_
      have e : p = 8 := by
        have := q_le2 (c := p) (m := 8) h5 (by omega)
        omega
      subst e
      exact next I' hg h1 h2
    · have hlt : p < 8 := q_lt2 (c := p) (m := 8) h5 (by omega)
      refine r_ald0 f_D_become_8 ?_
      refine r_gr f_D_become_9 (sD hb) (rD0 hb) ?_
      refine r_ild2 f_D_become_12 ?_
      refine r_aald f_D_become_13 (Or.inl rfl) (sD1 hb) (q_ix.nI (by omega) (by decide)) (rDF hb (by omega)) ?_
      refine r_ald1 f_D_become_14 ?_
      refine r_gr f_D_become_15 (sD hb2) (rD0 hb2) ?_
      refine r_ild2 f_D_become_18 ?_
      refine r_aald f_D_become_19 (Or.inl rfl) (sD1 hb2) (q_ix.nI (by omega) (by decide)) (rDF hb2 (by omega)) ?_
      refine c_F_become f_D_become_20 (sDF hb (by omega)) (Nat.le_of_ble_eq_true rfl) (Nat.le_refl _) (Nat.le_refl _) ?_
      refine k_F_become (sDF hb (by omega)) (sDF hb2 (by omega)) (by omega) (fun I2 g2 m2 => ?_)
      have hd2 : ∀ x y, x ≠ b + 9 + 2 * p → I2 x y = I' x y := fun x y hx => g2 x y hx
      refine r_ald0 f_D_become_23 ?_
      refine r_gr f_D_become_24 (sD hb) (rD1 hb) ?_
      refine r_ild2 f_D_become_27 ?_
      refine r_ald1 f_D_become_28 ?_
      refine r_gr f_D_become_29 (sD hb2) (rD1 hb2) ?_
      refine r_ild2 f_D_become_32 ?_
      refine r_iald f_D_become_33 (sD2 hb2) (q_ix.nI (by omega) (by decide)) ?_
      refine r_iast f_D_become_34 (sD2 hb) (q_ix.nI (by omega) (by decide)) ?_
      refine r_inc2 f_D_become_35 rfl ?_
      refine r_goto f_D_become_38 ?_
      rw [nI_1]
      refine k_D_become_loop hb hb2 hne next n (p + 1) _ (by omega) (by omega) ((hg.tr (g2.mo (fun x y hx => Or.inr ⟨p, hlt, hx⟩))).u2 (Or.inl rfl)) (fun i k hi hk7 => ?_) (fun i hi => ?_)
      · rw [u2_ne (Or.inl (by omega))]
        by_cases e : i = p
        · subst e
          rw [m2 k hk7]
          exact hg _ _ (by intro q; rcases q with q | ⟨j, j1, j2⟩ <;> omega)
        · rw [hd2 _ _ (by omega)]
          exact h1 i k (by omega) hk7
      · by_cases e : i = p
        · subst e
          rw [u2_self, hd2 _ _ (by omega)]
          exact hg _ _ (by intro q; rcases q with q | ⟨j, j1, j2⟩ <;> omega)
        · rw [u2_ne (Or.inr e), hd2 _ _ (by omega)]
          exact h2 i (by omega)
theorem k_D_become {b2 : Nat} (hb : q_D b) (hb2 : q_D b2) (hne : b ≠ b2) (hR : RD I b2 D) (hlen : D.2.2.2.2.length ≤ 60) (hk : ∀ I', RD I' b D → (∀ x y, (x < b ∨ b + 25 ≤ x) → I' x y = I x y) → K none SH RF I' L) : WW G (d + 3) mt_D_become 0 [some (.ref b), some (.ref b2), none] [] SH RF I L 0 0 0 0 K := by
  have far : b + 25 ≤ b2 ∨ b2 + 25 ≤ b := by rcases hb with rfl | rfl | rfl <;> rcases hb2 with rfl | rfl | rfl <;> first | omega | exact absurd rfl hne
  refine r_ic f_D_become_0 ?_
  refine r_ist2 f_D_become_1 rfl ?_
  have e0 : (0 : Int32) = nI 0 := rfl
  rw [e0]
  refine k_D_become_loop hb hb2 hne (fun I1 g1 m1 m2 => ?_) 9 0 I (by omega) (by omega) q_ag.rf (fun i k hi => absurd hi (Nat.not_lt_zero i)) (fun i hi => absurd hi (Nat.not_lt_zero i))
  have g1' : ∀ x y, ¬ (x = b + 2 ∨ ∃ i, i < 8 ∧ x = b + 9 + 2 * i) → I1 x y = I x y := g1
  have far1 : ∀ x y, (b2 ≤ x ∧ x < b2 + 25) → I1 x y = I x y := fun x y hx => g1' x y (by intro q; rcases q with q | ⟨j, j1, j2⟩ <;> omega)
  refine r_ald1 f_D_become_41 ?_
  refine r_gr f_D_become_42 (sD hb2) (rD2 hb2) ?_
  refine r_ic f_D_become_45 ?_
  refine r_ald0 f_D_become_46 ?_
  refine r_gr f_D_become_47 (sD hb) (rD2 hb) ?_
  refine r_ic f_D_become_50 ?_
  refine r_ic f_D_become_51 ?_
  refine r_cpi f_D_become_52 (sD3 hb2) (sD3 hb) (jn := 5) (sp := 0) (dp := 0) (by decide) (by decide) (by decide) (by decide) (by decide) (Nat.le_of_ble_eq_true rfl) ?_
  refine r_ald0 f_D_become_55 ?_
  refine r_gr f_D_become_56 (sD hb) (rD3 hb) ?_
  refine r_ald1 f_D_become_59 ?_
  refine r_gr f_D_become_60 (sD hb2) (rD3 hb2) ?_
  refine c_T_become f_D_become_63 (sT (q_TD hb)) (Nat.le_of_ble_eq_true rfl) (Nat.le_refl _) (Nat.le_refl _) ?_
  refine k_T_become (q_TD hb) (q_TD hb2) ?_
  refine r_ald0 f_D_become_66 ?_
  refine r_ald1 f_D_become_67 ?_
  refine r_gi f_D_become_68 (sD hb2) ?_
  refine r_pi f_D_become_71 (sD hb) ?_
  refine r_ald0 f_D_become_74 ?_
  refine r_ald1 f_D_become_75 ?_
  refine r_gi f_D_become_76 (sD hb2) ?_
  refine r_pi f_D_become_79 (sD hb) ?_
  refine r_ald0 f_D_become_82 ?_
  refine r_ald1 f_D_become_83 ?_
  refine r_gi f_D_become_84 (sD hb2) ?_
  refine r_pi f_D_become_87 (sD hb) ?_
  refine r_ald0 f_D_become_90 ?_
  refine r_ald1 f_D_become_91 ?_
  refine r_gi f_D_become_92 (sD hb2) ?_
  refine r_pi f_D_become_95 (sD hb) ?_
  refine r_ald0 f_D_become_98 ?_
  refine r_ald1 f_D_become_99 ?_
  refine r_gi f_D_become_100 (sD hb2) ?_
  refine r_pi f_D_become_103 (sD hb) ?_
  refine r_ald0 f_D_become_106 ?_
  refine r_ald1 f_D_become_107 ?_
  refine r_gi f_D_become_108 (sD hb2) ?_
  refine r_pi f_D_become_111 (sD hb) ?_
  refine r_ret f_D_become_114 rfl (Nat.le_refl _) (Nat.le_refl _) ?_
  refine hk _ (hR.copy hlen (fun i k hi hk7 => ?_) (fun p hp => ?_) (fun k hk5 => ?_) (fun k k1 k2 => ?_) ?_ (fun j hj => ?_)) (fun x y hx => ?_)
  · iterate 7 rw [u2_ne (by omega)]
    rw [q_cpy_ne (by omega), q_cpy_ne (by omega)]
    exact m1 i k hi hk7
  · iterate 7 rw [u2_ne (by omega)]
    rw [q_cpy_ne (by omega), q_cpy_ne (by omega)]
    exact m2 p hp
  · iterate 7 rw [u2_ne (by omega)]
    rw [q_cpy_ne (by omega), q_cpy_in (by omega)]
    exact far1 _ _ (by omega)
  · rcases (show k = 4 ∨ k = 5 ∨ k = 6 ∨ k = 7 ∨ k = 8 ∨ k = 9 by omega) with rfl | rfl | rfl | rfl | rfl | rfl
    · iterate 5 rw [u2_ne (by omega)]
      rw [u2_self]
      iterate 1 rw [u2_ne (by omega)]
      rw [q_cpy_ne (by omega), q_cpy_ne (by omega)]
      exact far1 _ _ (by omega)
    · iterate 4 rw [u2_ne (by omega)]
      rw [u2_self]
      iterate 2 rw [u2_ne (by omega)]
      rw [q_cpy_ne (by omega), q_cpy_ne (by omega)]
      exact far1 _ _ (by omega)
    · iterate 3 rw [u2_ne (by omega)]
      rw [u2_self]
      iterate 3 rw [u2_ne (by omega)]
      rw [q_cpy_ne (by omega), q_cpy_ne (by omega)]
      exact far1 _ _ (by omega)
    · iterate 2 rw [u2_ne (by omega)]
      rw [u2_self]
      iterate 4 rw [u2_ne (by omega)]
      rw [q_cpy_ne (by omega), q_cpy_ne (by omega)]
      exact far1 _ _ (by omega)
    · iterate 1 rw [u2_ne (by omega)]
      rw [u2_self]
      iterate 5 rw [u2_ne (by omega)]
      rw [q_cpy_ne (by omega), q_cpy_ne (by omega)]
      exact far1 _ _ (by omega)
    · rw [u2_self]
      iterate 6 rw [u2_ne (by omega)]
      rw [q_cpy_ne (by omega), q_cpy_ne (by omega)]
      exact far1 _ _ (by omega)
  · iterate 6 rw [u2_ne (by omega)]
    rw [u2_self, q_cpy_ne (by omega), q_cpy_ne (by omega)]
    exact far1 _ _ (by omega)
  · iterate 7 rw [u2_ne (by omega)]
    rw [show b + 5 = b + 4 + 1 from rfl, q_cpy_in (by omega), q_cpy_ne (by omega)]
    exact far1 _ _ (by omega)
  · iterate 7 rw [u2_ne (by omega)]
    rw [q_cpy_ne (by omega), q_cpy_ne (by omega)]
    exact g1' x y (by intro q; rcases q with q | ⟨j, j1, j2⟩ <;> omega)
end L30
