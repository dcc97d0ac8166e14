/-! WHAT EVERY ACT KEEPS -/
def WFx (σ : St) : Prop := WFs σ ∧ q_le (σ.1.2.2.1 3) 0 100 ∧ ∀ D, σ.2.1 = some D → q_le (D.2.2.1 3) 0 100
section L65
variable {σ : St} {D : Dst} {t : List Int32} {f g : Ps → Bool × Ps}
theorem WFx.now (h : WFx σ) (hD : WFd D) (hm : q_le (D.2.2.1 3) 0 100) : WFx (zN σ D) := ⟨⟨hD, h.1.2⟩, hm, h.2.2⟩
theorem WFx.nowS (h : WFx σ) (hD : WFd D) (hm : D.2.2.1 = σ.1.2.2.1) : WFx (zN σ D) := h.now hD (by rw [hm]; exact h.2.1)
theorem WFx.tp (h : WFx σ) (ht : t.length ≤ 60 ∧ ∀ x ∈ t, q_le x 0 255) : WFx (zT σ t) := ⟨⟨h.1.1, h.1.2.1, ht, h.1.2.2.2⟩, h.2⟩
theorem WFx.sh {w z : Nat → Int32} {c : Nat → Nat → Int64} (h : WFx σ) (hs : ∀ s, s < 4 → (w s = 0 ∨ w s = 8 ∨ w s = 16 ∨ w s = 64) ∧ q_le (z s) 0 40) : WFx (zS σ w z c) := ⟨⟨h.1.1, h.1.2.1, h.1.2.2.1, hs⟩, h.2⟩
theorem q_leI {x : Int32} {lo hi : Nat} (h0 : nI lo ≤ x) (h1 : x ≤ nI hi) (hl : lo < 2 ^ 31) (hh : hi < 2 ^ 31) : q_le x lo hi := by
  obtain ⟨j, j1, rfl⟩ := nI_of (Int32.not_lt.mpr (Int32.le_trans (nI_pos' hl) h0))
  exact ⟨j, (nI_leI hl j1).mp h0, (nI_leI j1 hh).mp h1, rfl⟩
theorem WFd.eF {f k : Nat} {v : Int32} (h : WFd D) (hv : q_le v (if k = 1 then 1 else 0) (q_fmax k)) : WFd (eF D f k v) := h.like rfl rfl rfl rfl rfl rfl (fun f' k' h1 h2 h3 => by
  show q_le (u2 D.1 f k v f' k') _ _
  by_cases e : f' = f ∧ k' = k
  · rw [e.1, e.2, u2_self]
    exact hv
  · rw [u2_ne (by omega)]
    exact h.fs f' k' h1 h2 h3)
theorem wx_of {x w : Int32} (h : WFx σ) : WFx (op_of σ x w).2 := by
  unfold op_of
  (repeat' split) <;> exact h
theorem wx_as {x w : Int32} (h : WFx σ) : WFx (op_as σ x w).2 := by
  unfold op_as
  (repeat' split) <;> exact h
theorem wx_turn {x : Int32} (h : WFx σ) : WFx (op_turn σ x).2 := by
  unfold op_turn
  (repeat' split) <;> exact h
theorem wx_told (h : WFx σ) : WFx (op_told σ).2 := by
  unfold op_told
  (repeat' split) <;> exact h
theorem wx_best {x : Int32} (h : WFx σ) : WFx (op_best σ x).2 := by
  unfold op_best
  (repeat' split) <;> exact h
theorem wx_share {x : Int32} (h : WFx σ) : WFx (op_share σ x).2 := by
  unfold op_share
  (repeat' split) <;> exact h
theorem wx_rest {x w : Int32} (h : WFx σ) : WFx (op_rest σ x w).2 := by
  unfold op_rest
  (repeat' split) <;> exact h
theorem wx_lost {x : Int32} (h : WFx σ) : WFx (op_lost σ x).2 := by
  unfold op_lost
  (repeat' split) <;> exact h
theorem wx_least {x : Int32} (h : WFx σ) : WFx (op_least σ x).2 := by
  unfold op_least
  (repeat' split) <;> exact h
theorem wx_hire {x : Int32} (h : WFx σ) : WFx (op_hire σ x).2 := by
  unfold op_hire
  (repeat' split) <;> exact h
theorem wx_breaks {x : Int32} (h : WFx σ) : WFx (op_breaks σ x).2 := by
  unfold op_breaks
  (repeat' split) <;> exact h
theorem wx_blame {x : Int32} (h : WFx σ) : WFx (op_blame σ x).2 := by
  unfold op_blame
  (repeat' split) <;> exact h
theorem wx_always (h : WFx σ) : WFx (op_always σ).2 := h
theorem wx_gives {x : Int32} (h : WFx σ) : WFx (op_gives σ x).2 := by
  unfold op_gives
  (repeat' split) <;> exact h
theorem wx_ahead {x w : Int32} (h : WFx σ) : WFx (op_ahead σ x w).2 := by
  unfold op_ahead
  split <;> exact h
theorem wx_purse {x : Int32} (h : WFx σ) : WFx (op_purse σ x).2 := by
  unfold op_purse
  (repeat' split) <;> exact h
theorem wx_read {x : Int32} (h : WFx σ) : WFx (op_read σ x).2 := by
  unfold op_read
  (repeat' split) <;> exact h
theorem wx_count {x : Int32} (h : WFx σ) : WFx (op_count σ x).2 := by
  unfold op_count
  (repeat' split) <;> exact h
theorem wx_status {x : Int32} (h : WFx σ) : WFx (op_status σ x).2 := by
  unfold op_status
  (repeat' split) <;> exact h
theorem wx_farm {x y z : Int32} (h : WFx σ) : WFx (op_farm σ x y z).2 := by
  unfold op_farm
  by_cases h1 : 0 ≤ x ∧ x ≤ 5
  · rw [if_pos h1]
    by_cases h2 : q_sv 2 0 ≤ y ∧ y ≤ q_sv 3 0
    · rw [if_pos h2]
      by_cases h3 : q_sv 2 1 ≤ z ∧ z ≤ q_sv 3 1
      · rw [if_pos h3]
        by_cases h8 : dC σ.1 = 8
        · rw [if_pos h8]
          exact h
        · rw [if_neg h8]
          refine h.nowS ?_ rfl
          have qx : q_le x 0 5 := q_leI h1.1 h1.2 (by decide) (by decide)
          have qy : q_le y 1 24 := q_leI h2.1 h2.2 (by decide) (by decide)
          have qz : q_le z 0 999 := q_leI h3.1 h3.2 (by decide) (by decide)
          obtain ⟨a1, a2, a3, a4, a5, a6, a7, a8⟩ := h.1.1
          have hlt : dC σ.1 < 8 := by omega
          have ec : dC (sp_farm σ.1 x y z) = dC σ.1 + 1 := nI_clamp (show dC σ.1 + 1 < 2 ^ 31 by omega)
          have eo : ∀ p, (sp_farm σ.1 x y z).2.1 p = if p = dC σ.1 then nI (dC σ.1) else σ.1.2.1 p := fun p => rfl
          have edo : ∀ p, p ≠ dC σ.1 → dO (sp_farm σ.1 x y z) p = dO σ.1 p := fun p hp => by
            unfold dO
            rw [eo, if_neg hp]
          have edc : dO (sp_farm σ.1 x y z) (dC σ.1) = dC σ.1 := by
            unfold dO
            rw [eo, if_pos rfl]
            exact nI_clamp (by omega)
          refine ⟨⟨by rw [ec]; omega, by rw [ec]; rfl⟩, fun p hp => ?_, fun k hk => ?_, fun f k hf hk h5 => ?_, a5, a6, a7, a8⟩
          · rw [ec] at hp ⊢
            by_cases e : p = dC σ.1
            · rw [e, edc]
              exact ⟨by omega, by rw [eo, if_pos rfl]⟩
            · rw [edo p e]
              obtain ⟨b1, b2⟩ := a2 p (by omega)
              exact ⟨by omega, by rw [eo, if_neg e]; exact b2⟩
          · rw [ec] at hk
            by_cases e : k = dC σ.1
            · exact ⟨dC σ.1, by rw [ec]; omega, by rw [edc, e]⟩
            · obtain ⟨p, p1, p2⟩ := a3 k (by omega)
              exact ⟨p, by rw [ec]; omega, by rw [edo p (by omega)]; exact p2⟩
          · rw [ec] at hf
            have ef : ∀ a b, (sp_farm σ.1 x y z).1 a b = u2 (u2 (u2 (u2 (u2 (u2 (u2 σ.1.1 (dC σ.1) 0 x) (dC σ.1) 1 y) (dC σ.1) 2 z) (dC σ.1) 3 0) (dC σ.1) 4 0) (dC σ.1) 5 0) (dC σ.1) 6 0 a b := fun _ _ => rfl
            rw [ef]
            by_cases e : f = dC σ.1
            · subst e
              have z0 : ∀ m : Nat, q_le 0 0 m := fun m => ⟨0, Nat.le_refl _, Nat.zero_le _, rfl⟩
              rcases (show k = 0 ∨ k = 1 ∨ k = 2 ∨ k = 3 ∨ k = 4 ∨ k = 6 by omega) with rfl | rfl | rfl | rfl | rfl | rfl
              · rw [u2_ne (Or.inr (by decide)), u2_ne (Or.inr (by decide)), u2_ne (Or.inr (by decide)), u2_ne (Or.inr (by decide)), u2_ne (Or.inr (by decide)), u2_ne (Or.inr (by decide)), u2_self]
                exact qx
              · rw [u2_ne (Or.inr (by decide)), u2_ne (Or.inr (by decide)), u2_ne (Or.inr (by decide)), u2_ne (Or.inr (by decide)), u2_ne (Or.inr (by decide)), u2_self]
                exact qy
              · rw [u2_ne (Or.inr (by decide)), u2_ne (Or.inr (by decide)), u2_ne (Or.inr (by decide)), u2_ne (Or.inr (by decide)), u2_self]
                exact qz
              · rw [u2_ne (Or.inr (by decide)), u2_ne (Or.inr (by decide)), u2_ne (Or.inr (by decide)), u2_self]
                exact z0 _
              · rw [u2_ne (Or.inr (by decide)), u2_ne (Or.inr (by decide)), u2_self]
                exact z0 _
              · rw [u2_self]
                exact z0 _
            · rw [u2_ne (Or.inl e), u2_ne (Or.inl e), u2_ne (Or.inl e), u2_ne (Or.inl e), u2_ne (Or.inl e), u2_ne (Or.inl e), u2_ne (Or.inl e)]
              exact a4 f k (by omega) hk h5
      · rw [if_neg h3]
        exact h
    · rw [if_neg h2]
      exact h
  · rw [if_neg h1]
    exact h
theorem wx_set {x w v : Int32} (h : WFx σ) : WFx (op_set σ x w v).2 := by
  unfold op_set
  by_cases h1 : 0 ≤ x ∧ x ≤ nI (dC σ.1) - 1
  · rw [if_pos h1]
    by_cases h2 : 0 ≤ w ∧ w ≤ 3
    · rw [if_pos h2]
      by_cases h3 : q_sv 2 w.toNatClampNeg ≤ v ∧ v ≤ q_sv 3 w.toNatClampNeg
      · rw [if_pos h3]
        refine h.nowS (h.1.1.eF ?_) rfl
        obtain ⟨t, ht, rfl⟩ := q_inC (c := 4) (by omega) h2.1 h2.2
        rw [nI_clamp (by omega)] at h3 ⊢
        rcases (show t = 0 ∨ t = 1 ∨ t = 2 ∨ t = 3 by omega) with rfl | rfl | rfl | rfl
        · exact q_leI (lo := 1) (hi := 24) h3.1 h3.2 (by decide) (by decide)
        · exact q_leI (lo := 0) (hi := 999) h3.1 h3.2 (by decide) (by decide)
        · exact q_leI (lo := 0) (hi := 999) h3.1 h3.2 (by decide) (by decide)
        · exact q_leI (lo := 0) (hi := 100) h3.1 h3.2 (by decide) (by decide)
      · rw [if_neg h3]
        exact h
    · rw [if_neg h2]
      exact h
  · rw [if_neg h1]
    exact h
theorem wx_rule {w v : Int32} (h : WFx σ) : WFx (op_rule σ w v).2 := by
  unfold op_rule
  by_cases h2 : 0 ≤ w ∧ w ≤ 4
  · rw [if_pos h2]
    by_cases h3 : 0 ≤ v ∧ v ≤ q_sv 1 w.toNatClampNeg
    · rw [if_pos h3]
      obtain ⟨t, ht, rfl⟩ := q_inC (c := 5) (by omega) h2.1 h2.2
      rw [nI_clamp (by omega)] at h3 ⊢
      have key : q_le v 0 (q_umax t) ∧ (t = 3 → q_le v 0 100) := by
        rcases (show t = 0 ∨ t = 1 ∨ t = 2 ∨ t = 3 ∨ t = 4 by omega) with rfl | rfl | rfl | rfl | rfl
        · exact ⟨q_leI (lo := 0) (hi := 99999) h3.1 h3.2 (by decide) (by decide), fun q => by omega⟩
        · exact ⟨q_leI (lo := 0) (hi := 100) h3.1 h3.2 (by decide) (by decide), fun q => by omega⟩
        · exact ⟨q_leI (lo := 0) (hi := 999) h3.1 h3.2 (by decide) (by decide), fun q => by omega⟩
        · have q := q_leI (lo := 0) (hi := 100) h3.1 h3.2 (by decide) (by decide)
          obtain ⟨n, n1, n2, n3⟩ := q
          exact ⟨⟨n, n1, Nat.le_trans n2 (by decide), n3⟩, fun _ => ⟨n, n1, n2, n3⟩⟩
        · exact ⟨q_leI (lo := 0) (hi := 100) h3.1 h3.2 (by decide) (by decide), fun q => by omega⟩
      refine h.now (h.1.1.u (fun _ => key.1)) ?_
      show q_le (if 3 = t then v else σ.1.2.2.1 3) 0 100
      by_cases e : 3 = t
      · rw [if_pos e]
        exact key.2 e.symm
      · rw [if_neg e]
        exact h.2.1
    · rw [if_neg h3]
      exact h
  · rw [if_neg h2]
    exact h
theorem wx_dry {v : Int32} (h : WFx σ) : WFx (op_dry σ v).2 := by
  unfold op_dry
  by_cases h1 : 1 ≤ v ∧ v ≤ 9
  · rw [if_pos h1]
    exact h.nowS (h.1.1.dry (q_leI (lo := 1) (hi := 9) h1.1 h1.2 (by decide) (by decide))) rfl
  · rw [if_neg h1]
    exact h
theorem wx_year (h : WFx σ) : WFx (op_year σ).2 := by
  unfold op_year
  by_cases h1 : σ.1.2.2.2.1 0 = 99
  · rw [if_pos h1]
    exact h
  · rw [if_neg h1]
    refine h.nowS ?_ ?_
    · exact ((h.1.1.yr h1).yl _ (Nat.le_refl _)).1
    · show (sp_yl _ _).2.2.1 = _
      rw [sp_yl_5]
      rfl
theorem WFd.swap {u t : Nat} (h : WFd D) (hu : u < dC D) (ht : t < dC D) : WFd (eO (eO D u (D.2.1 t)) t (D.2.1 u)) := by
  obtain ⟨a1, a2, a3, a4, a5, a6, a7, a8⟩ := h
  have eo : ∀ p, (eO (eO D u (D.2.1 t)) t (D.2.1 u)).2.1 p = if p = t then D.2.1 u else if p = u then D.2.1 t else D.2.1 p := fun p => rfl
  have edo : ∀ p, dO (eO (eO D u (D.2.1 t)) t (D.2.1 u)) p = if p = t then dO D u else if p = u then dO D t else dO D p := fun p => by
    unfold dO
    rw [eo]
    by_cases e : p = t
    · rw [if_pos e, if_pos e]
    · rw [if_neg e, if_neg e]
      by_cases e2 : p = u
      · rw [if_pos e2, if_pos e2]
      · rw [if_neg e2, if_neg e2]
  refine ⟨a1, fun p hp => ?_, fun k hk => ?_, a4, a5, a6, a7, a8⟩
  · rw [edo, eo]
    by_cases e : p = t
    · rw [if_pos e, if_pos e]
      exact a2 u hu
    · rw [if_neg e, if_neg e]
      by_cases e2 : p = u
      · rw [if_pos e2, if_pos e2]
        exact a2 t ht
      · rw [if_neg e2, if_neg e2]
        exact a2 p hp
  · obtain ⟨p, p1, p2⟩ := a3 k hk
    by_cases e : p = u
    · exact ⟨t, ht, by rw [edo, if_pos rfl, ← e]; exact p2⟩
    · by_cases e2 : p = t
      · refine ⟨u, hu, ?_⟩
        rw [edo, if_neg (fun q => e (e2.trans q.symm)), if_pos rfl, ← e2]
        exact p2
      · exact ⟨p, p1, by rw [edo, if_neg e2, if_neg e]; exact p2⟩
theorem wx_swap {x y : Int32} (h : WFx σ) : WFx (op_swap σ x y).2 := by
  unfold op_swap
  have hc8 := h.1.1.1.1
  by_cases h1 : 0 ≤ x ∧ x ≤ nI (dC σ.1) - 1
  · rw [if_pos h1]
    by_cases h2 : 0 ≤ y ∧ y ≤ nI (dC σ.1) - 1
    · rw [if_pos h2]
      obtain ⟨u, hu, rfl⟩ := q_inC (by omega) h1.1 h1.2
      obtain ⟨t, ht, rfl⟩ := q_inC (by omega) h2.1 h2.2
      rw [nI_clamp (show u < 2 ^ 31 by omega), nI_clamp (show t < 2 ^ 31 by omega)]
      exact h.nowS (h.1.1.swap hu ht) rfl
    · rw [if_neg h2]
      exact h
  · rw [if_neg h1]
    exact h
theorem q_or8 : ∀ M, M < 256 → ∀ d, d < 8 → nI M ||| (1 <<< (nI d &&& 31)) = nI (M ||| 2 ^ d) ∧ M ||| 2 ^ d < 256 := by decide +kernel
theorem q_tb8 : ∀ M, M < 256 → ∀ d, d < 8 → ∀ j, j < 8 → (M ||| 2 ^ d).testBit j = (M.testBit j || decide (d = j)) := by decide +kernel
theorem q_full8 : ∀ c, c < 9 → (1 : Int32) <<< (nI c &&& 31) - 1 = nI (2 ^ c - 1) ∧ 2 ^ c - 1 < 256 ∧ ∀ j, j < 8 → (2 ^ c - 1).testBit j = decide (j < c) := by decide +kernel
theorem sp_dig_nat (c p : Nat) (x : Int32) : ∃ d, d < 8 ∧ sp_dig c p x = nI d := pk_andE _ 3 (by decide)
theorem sp_met_nat (c : Nat) (x : Int32) : ∀ k, ∃ M, M < 256 ∧ sp_met c x k = nI M ∧ ∀ j, j < 8 → (M.testBit j = true ↔ ∃ p, p < k ∧ sp_dig c p x = nI j)
  | 0 => ⟨0, by decide, rfl, fun j _ => ⟨fun q => (by rw [Nat.zero_testBit] at q; cases q), fun ⟨p, hp, _⟩ => absurd hp (Nat.not_lt_zero _)⟩⟩
  | k + 1 => by
    obtain ⟨M, m1, m2, m3⟩ := sp_met_nat c x k
    obtain ⟨d, d1, d2⟩ := sp_dig_nat c k x
    obtain ⟨o1, o2⟩ := q_or8 M m1 d d1
    refine ⟨M ||| 2 ^ d, o2, ?_, fun j hj => ?_⟩
    · show sp_met c x k ||| (1 : Int32) <<< (sp_dig c k x &&& 31) = _
      rw [m2, d2, o1]
    · rw [q_tb8 M m1 d d1 j hj, Bool.or_eq_true, m3 j hj, decide_eq_true_iff]
      constructor
      · rintro (⟨p, p1, p2⟩ | q)
        · exact ⟨p, by omega, p2⟩
        · exact ⟨k, by omega, by rw [d2, q]⟩
      · rintro ⟨p, p1, p2⟩
        by_cases e : p = k
        · subst e
          rw [d2] at p2
          exact Or.inr ((nI_eq (by omega) (by omega)).mp p2)
        · exact Or.inl ⟨p, by omega, p2⟩
theorem sp_po_o (D : Dst) (x : Int32) : ∀ k p, (sp_po D x k).2.1 p = if p < k then sp_dig (dC D) p x else D.2.1 p
  | 0, p => rfl
  | k + 1, p => by
    show (if p = k then sp_dig (dC D) k x else (sp_po D x k).2.1 p) = _
    by_cases e : p = k
    · rw [if_pos e, if_pos (by omega), e]
    · rw [if_neg e, sp_po_o D x k p]
      by_cases e2 : p < k
      · rw [if_pos e2, if_pos (by omega)]
      · rw [if_neg e2, if_neg (by omega)]
theorem sp_po_1 (D : Dst) (x : Int32) : ∀ k, (sp_po D x k).1 = D.1
  | 0 => rfl
  | k + 1 => sp_po_1 D x k
theorem WFd.po {x : Int32} (h : WFd D) (hm : sp_met (dC D) x (dC D) = (1 : Int32) <<< (nI (dC D) &&& 31) - 1) : WFd (sp_po D x (dC D)) := by
  obtain ⟨a1, a2, a3, a4, a5, a6, a7, a8⟩ := h
  obtain ⟨M, m1, m2, m3⟩ := sp_met_nat (dC D) x (dC D)
  obtain ⟨f1, f2, f3⟩ := q_full8 (dC D) (by omega)
  rw [m2, f1] at hm
  have eM := (nI_eq (by omega) (by omega)).mp hm
  subst eM
  have e5 := sp_po_5 D x (dC D)
  have ec : dC (sp_po D x (dC D)) = dC D := by
    unfold dC
    rw [show (sp_po D x (D.2.2.2.1 5).toNatClampNeg).2.2.2.1 = D.2.2.2.1 from congrArg (fun q => q.2.1) e5]
  have hd : ∀ p, p < dC D → ∃ d, d < dC D ∧ sp_dig (dC D) p x = nI d := fun p hp => by
    obtain ⟨d, d1, d2⟩ := sp_dig_nat (dC D) p x
    have := (m3 d d1).mpr ⟨p, hp, d2⟩
    rw [f3 d d1, decide_eq_true_iff] at this
    exact ⟨d, this, d2⟩
  have edo : ∀ p, p < dC D → dO (sp_po D x (dC D)) p = (sp_dig (dC D) p x).toNatClampNeg := fun p hp => by
    show ((sp_po D x (dC D)).2.1 p).toNatClampNeg = _
    rw [sp_po_o, if_pos hp]
  refine ⟨?_, fun p hp => ?_, fun k hk => ?_, ?_, ?_, ?_, ?_, ?_⟩
  · rw [ec, e5]
    exact a1
  · rw [ec] at hp ⊢
    obtain ⟨d, d1, d2⟩ := hd p hp
    rw [edo p hp, d2, nI_clamp (by omega), sp_po_o, if_pos hp]
    exact ⟨d1, d2⟩
  · rw [ec] at hk
    have hb : (2 ^ dC D - 1).testBit k = true := by rw [f3 k (by omega), decide_eq_true_iff]; exact hk
    obtain ⟨p, p1, p2⟩ := (m3 k (by omega)).mp hb
    exact ⟨p, by rw [ec]; exact p1, by rw [edo p p1, p2, nI_clamp (by omega)]⟩
  · rw [ec, sp_po_1]
    exact a4
  · rw [e5]
    exact a5
  · rw [e5]
    exact a6
  · rw [e5]
    exact a7
  · rw [e5]
    exact a8
theorem wx_turns {x : Int32} (h : WFx σ) : WFx (op_turns σ x).2 := by
  unfold op_turns
  by_cases h1 : x < 0
  · rw [if_pos h1]
    exact h
  · rw [if_neg h1]
    by_cases h2 : x < (1 : Int32) <<< (3 * nI (dC σ.1) &&& 31)
    · rw [if_pos h2]
      by_cases h3 : sp_met (dC σ.1) x (dC σ.1) = (1 : Int32) <<< (nI (dC σ.1) &&& 31) - 1
      · rw [if_pos h3]
        exact h.nowS (h.1.1.po h3) (congrArg (fun q => q.1) (sp_po_5 σ.1 x (dC σ.1)))
      · rw [if_neg h3]
        exact h
    · rw [if_neg h2]
      exact h
theorem sp_fd_le (x : Int32) : ∀ n, ∀ y ∈ sp_fd x n, q_le y 0 255
  | 0, y, hy => by cases hy
  | n + 1, y, hy => by
    rcases List.mem_cons.mp hy with q | q
    · rw [q]
      obtain ⟨j, j1, j2⟩ := pk_andE ((x.toUInt32 >>> ((8 * nI n).toUInt32 &&& Int32.toUInt32 31)).toInt32) (m := 255) 8 (by decide)
      exact ⟨j, Nat.zero_le _, by omega, j2⟩
    · exact sp_fd_le x n y q
theorem wx_feed {x n : Int32} (h : WFx σ) : WFx (op_feed σ x n).2 := by
  unfold op_feed
  by_cases h1 : 1 ≤ n ∧ n ≤ 4
  · rw [if_pos h1]
    by_cases h2 : nI σ.2.2.2.1.length ≤ 60 - n
    · rw [if_pos h2]
      obtain ⟨m, hm, rfl⟩ := q_inC (c := 5) (by omega) (Int32.le_trans (by decide) h1.1) h1.2
      have h60 := h.1.2.2.1
      rw [nI_clamp (by omega)]
      rw [Int32.le_iff_toInt_le, nI_toInt (by omega), show (60 : Int32) = nI 60 from rfl, pk_sub_toInt (by omega) (by omega)] at h2
      refine h.tp ⟨?_, fun y hy => ?_⟩
      · rw [List.length_append, sp_fd_len]
        omega
      · rcases List.mem_append.mp hy with q | q
        · exact h60.2 y q
        · exact sp_fd_le x m y q
    · rw [if_neg h2]
      exact h
  · rw [if_neg h1]
    exact h
theorem wx_wipe (h : WFx σ) : WFx (op_wipe σ).2 := h.tp ⟨Nat.zero_le _, fun x hx => by cases hx⟩
theorem WFd.tx {tx : List Int32} (h : WFd D) (ht : WFt tx) : WFd (eX D tx) := ⟨h.1, h.2.1, h.2.2.1, h.2.2.2.1, h.2.2.2.2.1, h.2.2.2.2.2.1, h.2.2.2.2.2.2.1, ht⟩
theorem wx_plain (h : WFx σ) : WFx (op_plain σ).2 := h.nowS (h.1.1.tx ⟨Nat.zero_le _, fun m hm => (by cases hm), Or.inl rfl⟩) rfl
theorem wx_seed {v : Int32} (h : WFx σ) : WFx (op_seed σ v).2 := h.nowS (h.1.1.sc (Or.inl rfl)) rfl
theorem sp_pass_u {r : Nat → Int32} {o t : Nat} : (sp_pass D r o t).2.2.1 = D.2.2.1 := by
  unfold sp_pass
  generalize decide (sp_rem (sp_dr (sp_z (D.2.2.2.1 2))) 1000000 < r 11) = b1
  generalize decide (sp_rem (sp_dr (sp_z (sp_z (D.2.2.2.1 2)))) 1000000 < r 12) = b2
  generalize decide (sp_rem (sp_dr (sp_z (sp_z (sp_z (D.2.2.2.1 2))))) 100 < r 6) = b3
  cases b1 <;> cases b2 <;> cases b3 <;> rfl
theorem sp_nl_u (D : Dst) : ∀ p, (sp_nl D p).2.2.1 = D.2.2.1
  | 0 => rfl
  | p + 1 => sp_pass_u.trans (sp_nl_u D p)
theorem sp_nights_u : ∀ (n : Nat) (D : Dst), (sp_nights n D).2.2.1 = D.2.2.1
  | 0, _ => rfl
  | n + 1, D => (sp_nights_u n (sp_night D)).trans (sp_nl_u D _)
theorem wx_nights {x : Int32} (h : WFx σ) : WFx (op_nights σ x).2 := by
  unfold op_nights
  by_cases h1 : 1 ≤ x ∧ x ≤ 50
  · rw [if_pos h1]
    exact h.nowS (WFd.nights x.toNatClampNeg h.1.1).1 (sp_nights_u _ _)
  · rw [if_neg h1]
    exact h
theorem wx_sheet {s w n : Int32} (h : WFx σ) : WFx (op_sheet σ s w n).2 := by
  unfold op_sheet
  by_cases h1 : (0 ≤ s ∧ s ≤ 3) ∧ sp_wd w
  · rw [if_pos h1]
    by_cases h2 : n < 0
    · rw [if_pos h2]
      exact h
    · rw [if_neg h2]
      by_cases h3 : n ≤ 40
      · rw [if_pos h3]
        refine h.sh (fun u hu => ?_)
        obtain ⟨b1, b2⟩ := h.1.2.2.2 u hu
        by_cases e : u = s.toNatClampNeg
        · rw [if_pos e, if_pos e]
          refine ⟨h1.2, ?_⟩
          by_cases e2 : w = 0
          · rw [if_pos e2]
            exact ⟨0, Nat.le_refl _, Nat.zero_le _, rfl⟩
          · rw [if_neg e2]
            exact q_leI (lo := 0) (hi := 40) (Int32.not_lt.mp h2) h3 (by decide) (by decide)
        · rw [if_neg e, if_neg e]
          exact ⟨b1, b2⟩
      · rw [if_neg h3]
        exact h
  · rw [if_neg h1]
    exact h
theorem wx_write {s j : Int32} {x : Int64} (h : WFx σ) : WFx (op_write σ s j x).2 := by
  unfold op_write
  (repeat' split) <;> first | exact h | exact h.sh h.1.2.2.2
theorem wx_copy {s i u j n : Int32} (h : WFx σ) : WFx (op_copy σ s i u j n).2 := by
  unfold op_copy
  (repeat' split) <;> first | exact h | exact h.sh h.1.2.2.2
theorem WFd.wl {c : Nat → Int64} (h : WFd D) : ∀ j, WFd (sp_wl c D j).1 ∧ (sp_wl c D j).1.2.2.1 = D.2.2.1
  | 0 => ⟨h, rfl⟩
  | j + 1 => by
    obtain ⟨h1, h2⟩ := h.wl (c := c) j
    by_cases q : 0 ≤ c j ∧ c j ≤ 999
    · rw [sp_wl_y q]
      refine ⟨h1.eF ?_, h2⟩
      obtain ⟨k, k1, k2⟩ := pk_lOf (Int64.not_lt.mpr q.1)
      have k3 : k ≤ 999 := (pk_lLE (b := 999) k1 (by decide)).mp (by rw [← k2]; exact q.2)
      rw [k2, lN_i]
      exact ⟨k, Nat.zero_le _, k3, rfl⟩
    · rw [sp_wl_n q]
      exact ⟨h1, h2⟩
theorem wx_worths {s : Int32} (h : WFx σ) : WFx (op_worths σ s).2 := by
  unfold op_worths
  by_cases h1 : 0 ≤ s ∧ s ≤ 3
  · rw [if_pos h1]
    by_cases h2 : σ.2.2.2.2.1 s.toNatClampNeg = 0
    · rw [if_pos h2]
      exact h
    · rw [if_neg h2]
      exact h.nowS (h.1.1.wl _).1 (h.1.1.wl _).2
  · rw [if_neg h1]
    exact h
theorem wx_image (h : WFx σ) : WFx (op_image σ).2 := ⟨⟨h.1.1, fun D hD => (by cases hD; exact h.1.1), h.1.2.2⟩, h.2.1, fun D hD => (by cases hD; exact h.2.1)⟩
theorem wx_undo (h : WFx σ) : WFx (op_undo σ).2 := by
  unfold op_undo
  cases hk : σ.2.1 with
  | none => exact h
  | some D => exact h.now (h.1.2.1 D hk) (h.2.2 D hk)
theorem wx_tear (h : WFx σ) : WFx (op_tear σ).2 := by
  have h0 : WFx (zK σ none) := ⟨⟨h.1.1, fun D hD => (by cases hD), h.1.2.2⟩, h.2.1, fun D hD => (by cases hD)⟩
  unfold op_tear
  cases hk : σ.2.1 with
  | none => exact h0
  | some D => exact h0
/-! what the parser lays down is a text -/
theorem q_dep_app : ∀ (xs ys : List Int32) (n : Nat), q_dep (xs ++ ys) n = (q_dep xs n).bind (fun m => q_dep ys m)
  | [], ys, n => rfl
  | x :: xs, ys, n => by
    show (if sp_need x ≤ n then q_dep (xs ++ ys) (n + 1 - sp_need x) else none) = (if sp_need x ≤ n then q_dep xs (n + 1 - sp_need x) else none).bind _
    by_cases h : sp_need x ≤ n
    · rw [if_pos h, if_pos h]
      exact q_dep_app xs ys _
    · rw [if_neg h, if_neg h]
      rfl
/-- codes that lay j things on the pile -/
def q_E (j : Nat) (ys : List Int32) : Prop := ∀ m, q_dep (ys.map q_tr) m = some (m + j)
theorem q_E.app {i j : Nat} {xs ys : List Int32} (h : q_E i xs) (h2 : q_E j ys) : q_E (i + j) (xs ++ ys) := fun m => by
  rw [List.map_append, q_dep_app, h m]
  show q_dep (ys.map q_tr) (m + i) = _
  rw [h2, Nat.add_assoc]
theorem q_E.sign {k : Nat} {xs : List Int32} {c : Int32} (h : q_E (k + 1) xs) (hc : sp_need (q_tr c) = k + 1) : q_E 1 (xs ++ [c]) := fun m => by
  rw [List.map_append, q_dep_app, h m]
  show (if sp_need (q_tr c) ≤ m + (k + 1) then q_dep [] (m + (k + 1) + 1 - sp_need (q_tr c)) else none) = _
  rw [hc, if_pos (by omega)]
  show some _ = some _
  congr 1
  omega
theorem q_E.one {c : Int32} (hc : sp_need (q_tr c) = 0) : q_E 1 [c] := fun m => by
  show (if sp_need (q_tr c) ≤ m then q_dep [] (m + 1 - sp_need (q_tr c)) else none) = _
  rw [hc, if_pos (Nat.zero_le _)]
  rfl
def q_PD (f : Ps → Bool × Ps) : Prop := ∀ s : Ps, (f s).1 = true → ∃ ys, (f s).2.2 = s.2 ++ ys ∧ q_E 1 ys
theorem p_loop_pd {x y : Int32} (hx : sp_need (q_tr (-x)) = 2) (hy : sp_need (q_tr (-y)) = 2) (hf : q_PD f) : ∀ (m : Nat) (r : Bool × Ps) (cs : List Int32), (r.1 = true → ∃ ys, r.2.2 = cs ++ ys ∧ q_E 1 ys) → (p_loop t x y f m r).1 = true → ∃ ys, (p_loop t x y f m r).2.2 = cs ++ ys ∧ q_E 1 ys
  | 0, r, cs, h, hr => h hr
  | m + 1, r, cs, h, hr => by
    by_cases hq : r.1 = true ∧ (pN t r.2.1 = x ∨ pN t r.2.1 = y)
    · have e : p_loop t x y f (m + 1) r = p_loop t x y f m (p_add (-(pN t r.2.1)) (f (r.2.1 + 1, r.2.2))) := if_pos hq
      rw [e] at hr ⊢
      refine p_loop_pd hx hy hf m _ cs (fun hr2 => ?_) hr
      obtain ⟨ys, y1, y2⟩ := h hq.1
      obtain ⟨zs, z1, z2⟩ := hf (r.2.1 + 1, r.2.2) hr2
      refine ⟨ys ++ zs ++ [-(pN t r.2.1)], ?_, (y2.app z2).sign (k := 1) (by rcases hq.2 with w | w <;> (rw [w]; assumption))⟩
      show (f (r.2.1 + 1, r.2.2)).2.2 ++ _ = _
      rw [z1]
      show r.2.2 ++ zs ++ _ = _
      rw [y1]
      simp only [List.append_assoc]
    · have e : p_loop t x y f (m + 1) r = r := if_neg hq
      rw [e] at hr ⊢
      exact h hr
theorem p_prod_pd (hf : q_PD f) : q_PD (p_prod t f) := fun s h => p_loop_pd (by decide) (by decide) hf 60 _ s.2 (hf s) h
theorem p_sum_pd (hf : q_PD f) : q_PD (p_sum t f) := fun s h => p_loop_pd (by decide) (by decide) (p_prod_pd hf) 60 _ s.2 (p_prod_pd hf s) h
theorem p_chain_pd (hg : q_PD g) : ∀ (xs : List Int32) (s : Ps), (p_chain t g xs s).1 = true → ∃ ys, (p_chain t g xs s).2.2 = s.2 ++ ys ∧ q_E xs.length ys
  | [], s, h => by
    unfold p_chain at h ⊢
    by_cases q : pN t s.1 = 41
    · rw [if_pos q]
      exact ⟨[], (List.append_nil _).symm, fun m => rfl⟩
    · rw [if_neg q] at h
      cases h
  | x :: xs, s, h => by
    unfold p_chain at h ⊢
    by_cases q : pN t s.1 = x
    · rw [if_pos q] at h ⊢
      by_cases r : (g (s.1 + 1, s.2)).1 = true
      · rw [if_pos r] at h ⊢
        obtain ⟨ys, y1, y2⟩ := hg _ r
        obtain ⟨zs, z1, z2⟩ := p_chain_pd hg xs _ h
        refine ⟨ys ++ zs, by rw [z1, y1, List.append_assoc], ?_⟩
        rw [List.length_cons, Nat.add_comm]
        exact y2.app z2
      · rw [if_neg r] at h
        exact absurd h r
    · rw [if_neg q] at h
      cases h
theorem p_br_pd (hg : q_PD g) : q_PD (p_br t g) := fun s h => by
  unfold p_br at h ⊢
  by_cases r : (g s).1 = true
  · rw [if_pos r] at h ⊢
    obtain ⟨ys, y1, y2⟩ := hg _ r
    by_cases q : pN t (g s).2.1 = 41
    · rw [if_pos q]
      exact ⟨ys, y1, y2⟩
    · rw [if_neg q] at h ⊢
      obtain ⟨zs, z1, z2⟩ := p_chain_pd hg [60, 63, 58] _ h
      refine ⟨ys ++ zs ++ [-63], ?_, (y2.app z2).sign (k := 3) (by decide)⟩
      show (p_chain t g [60, 63, 58] (g s).2).2.2 ++ [-63] = _
      rw [z1, y1]
      simp only [List.append_assoc]
  · rw [if_neg r] at h
    exact absurd h r
theorem p_leaf_pd {s : Ps} {e : Bool × Ps} (he : e.1 = true → ∃ ys, e.2.2 = s.2 ++ ys ∧ q_E 1 ys) (h : (p_leaf t s e).1 = true) : ∃ ys, (p_leaf t s e).2.2 = s.2 ++ ys ∧ q_E 1 ys := by
  unfold p_leaf at h ⊢
  by_cases hd : 48 ≤ pN t s.1 ∧ pN t s.1 ≤ 57
  · rw [if_pos hd]
    refine ⟨_, rfl, q_E.one ?_⟩
    obtain ⟨v, _, v2, v3⟩ := p_num_code (t := t) 4 0 s.1 (by decide)
    have e0 : (p_num t 4 0 s.1).1 = nI v := v3
    rw [e0, show q_tr (nI v) = nI v from if_pos (nI_pos' (by omega))]
    exact if_pos (nI_lt (b := 10100) (by omega) (by decide))
  · rw [if_neg hd] at h ⊢
    by_cases hn : p_nam (pN t s.1)
    · rw [if_pos hn]
      refine ⟨_, rfl, q_E.one ?_⟩
      rcases hn with q | q | q | q | q | q <;> (rw [q]; decide)
    · rw [if_neg hn] at h ⊢
      exact he h
theorem p_fac_pd : ∀ n, q_PD (p_fac t n)
  | 0, s, h => p_leaf_pd (fun q => by cases q) h
  | n + 1, s, h => by
    refine p_leaf_pd (fun q => ?_) h
    by_cases h45 : pN t s.1 = 45
    · rw [if_pos h45] at q ⊢
      obtain ⟨ys, y1, y2⟩ := p_fac_pd n _ q
      refine ⟨ys ++ [-126], ?_, y2.sign (k := 0) (by decide)⟩
      show (p_fac t n (s.1 + 1, s.2)).2.2 ++ [-126] = _
      rw [y1, List.append_assoc]
    · rw [if_neg h45] at q ⊢
      by_cases h40 : pN t s.1 = 40
      · rw [if_pos h40] at q ⊢
        exact p_br_pd (p_sum_pd (p_fac_pd n)) _ q
      · rw [if_neg h40] at q
        cases q
theorem q_neg {c x : Int32} (h : -c = x) : c = -x := by rw [← h, Int32.neg_neg]
theorem q_code_sign {c : Int32} (h : q_code c) : q_sign (q_tr c) := by
  rcases h with ⟨k, _, k2, rfl⟩ | h | h | h | h
  · rw [show q_tr (nI k) = nI k from if_pos (nI_pos' (by omega))]
    exact Or.inl ⟨k, Nat.zero_le _, k2, rfl⟩
  · rcases h with h | h | h | h | h | h <;> (rw [q_neg h])
    · exact Or.inr (Or.inl ⟨10000, by decide, by decide, by decide⟩)
    · exact Or.inr (Or.inl ⟨10001, by decide, by decide, by decide⟩)
    · exact Or.inr (Or.inl ⟨10002, by decide, by decide, by decide⟩)
    · exact Or.inr (Or.inl ⟨10003, by decide, by decide, by decide⟩)
    · exact Or.inr (Or.inl ⟨10004, by decide, by decide, by decide⟩)
    · exact Or.inr (Or.inl ⟨10005, by decide, by decide, by decide⟩)
  · rcases h with h | h | h | h <;> (rw [q_neg h])
    · exact Or.inr (Or.inr ⟨10100, by decide, by decide, by decide⟩)
    · exact Or.inr (Or.inr ⟨10101, by decide, by decide, by decide⟩)
    · exact Or.inr (Or.inr ⟨10102, by decide, by decide, by decide⟩)
    · exact Or.inr (Or.inr ⟨10103, by decide, by decide, by decide⟩)
  · rw [q_neg h]
    exact Or.inr (Or.inr ⟨10104, by decide, by decide, by decide⟩)
  · rw [q_neg h]
    exact Or.inr (Or.inr ⟨10105, by decide, by decide, by decide⟩)
theorem p_text_wf (h60 : t.length ≤ 60) (h : (p_text t).1 = true) : WFt ((p_text t).2.2.map q_tr) := by
  have gr := p_text_gr (t := t)
  obtain ⟨ys, y1, y2⟩ := p_sum_pd (p_fac_pd 5) (0, []) h
  refine ⟨?_, fun m hm => ?_, Or.inr ?_⟩
  · rw [List.length_map]
    have g1 := gr.1
    have g2 := gr.2.1
    simp only [List.length_nil] at g1
    omega
  · obtain ⟨c, c1, rfl⟩ := List.mem_map.mp hm
    exact q_code_sign (p_text_ok c c1)
  · have e : (p_text t).2.2 = ys := y1
    rw [e]
    exact y2 0
theorem wx_text (h : WFx σ) : WFx (op_text σ).2 := by
  unfold op_text
  by_cases hc : (p_text σ.2.2.2.1).1 = true ∧ (p_text σ.2.2.2.1).2.1 = σ.2.2.2.1.length
  · rw [if_pos hc]
    exact (h.nowS (h.1.1.tx (p_text_wf h.1.2.2.1.1 hc.1)) rfl).tp ⟨Nat.zero_le _, fun x hx => by cases hx⟩
  · rw [if_neg hc]
    exact h
end L65
