section L42
variable {G : Gx} {d : Nat} {I I' I2 : Rn} {L L' L2 : Rl} {K : Kt} {σ : St} {D : Dst} {c : Nat} {lo : Nat → Nat → Nat → Int64}
def o_close (c : Nat) (lo : Nat → Nat → Nat → Int64) (s : Int64) (n : Int32) (la : Nat → Nat) (b : Int64 × Int32) : Int64 × Int32 := if s + lo (la (c - 1)) (la 0) (c - 1) < b.1 then (s + lo (la (c - 1)) (la 0) (c - 1), n) else b
def o_fold {β : Type} (g : Nat → β → β) : Nat → Nat → β → β
  | 0, _, b => b
  | k + 1, f, b => o_fold g k (f + 1) (g f b)
def o_from (c : Nat) (lo : Nat → Nat → Nat → Int64) : Nat → Nat → Int32 → Int64 → Int32 → (Nat → Nat) → Int64 × Int32 → Int64 × Int32
  | 0, _, _, s, n, la, b => o_close c lo s n la b
  | m + 1, pl, u, s, n, la, b => o_fold (fun f b => if (u >>> (nI f &&& 31)) &&& 1 = 0 then (if s + lo (la (pl - 1)) f (pl - 1) < b.1 then o_from c lo m (pl + 1) (u ||| (1 <<< (nI f &&& 31))) (s + lo (la (pl - 1)) f (pl - 1)) (n * 8 + nI f) (fun j => if j = pl then f else la j) b else b) else b) c 0 b
def F6 : Nat → Nat → Prop := fun x y => x = 79 ∨ (x = 76 ∧ y = 6)
def F5 : Nat → Nat → Prop := fun x y => x = 76 ∧ y = 5
def q_los (lo : Nat → Nat → Nat → Int64) (c : Nat) (L : Rl) : Prop := ∀ x y p, x < c → y < c → p < c → L 78 ((x * 7 + y) * 7 + p) = lo x y p
def OS (lo : Nat → Nat → Nat → Int64) (c : Nat) (I : Rn) (L : Rl) (pl : Nat) (la : Nat → Nat) (b : Int64 × Int32) : Prop := I 76 4 = nI c ∧ q_los lo c L ∧ (∀ j, j < pl → I 79 j = nI (la j) ∧ la j < c) ∧ L 76 5 = b.1 ∧ I 76 6 = b.2
theorem k_O_closeRing {s : Int64} {n : Int32} {la : Nat → Nat} {b : Int64 × Int32} (hc1 : 1 ≤ c) (hc7 : c ≤ 7) (hO : OS lo c I L c la b) (hk : ∀ I' L', OS lo c I' L' c la (o_close c lo s n la b) → q_ag F6 I I' → q_aL F5 L L' → K none SH RF I' L') : WW G (d + 1) mt_O_closeRing 0 [some (.ref 76), some (.long s), none, some (.int n), none, none] [] SH RF I L 0 0 0 0 K := by
  obtain ⟨h1, h2, h3, h4, h5⟩ := hO
  refine r_lld1 f_O_closeRing_0 ?_
  refine r_ald0 f_O_closeRing_1 ?_
  refine r_gr f_O_closeRing_2 (s_76) (r_76_1) ?_
  refine r_ald0 f_O_closeRing_5 ?_
  refine r_gr f_O_closeRing_6 (s_76) (r_76_2) ?_
  refine r_ald0 f_O_closeRing_9 ?_
  refine r_gi f_O_closeRing_10 (s_76) ?_
  refine r_ic f_O_closeRing_13 ?_
  refine r_isub f_O_closeRing_14 ?_
  rw [h1, show nI c - 1 = nI (c - 1) from pk_sub (b := 1) hc1]
  refine r_iald f_O_closeRing_15 (s_79) (q_ix.nI (show c - 1 < 7 by omega) (by decide)) ?_
  rw [(h3 (c - 1) (by omega)).1]
  refine r_ald0 f_O_closeRing_16 ?_
  refine r_gr f_O_closeRing_17 (s_76) (r_76_2) ?_
  refine r_ic f_O_closeRing_20 ?_
  refine r_iald f_O_closeRing_21 (s_79) (show q_ix 0 0 7 from ⟨by decide, by decide⟩) ?_
  rw [(h3 0 (by omega)).1]
  refine r_ald0 f_O_closeRing_22 ?_
  refine r_gi f_O_closeRing_23 (s_76) ?_
  refine r_ic f_O_closeRing_26 ?_
  refine r_isub f_O_closeRing_27 ?_
  rw [h1, show nI c - 1 = nI (c - 1) from pk_sub (b := 1) hc1]
  refine c_O_index f_O_closeRing_28 (Nat.le_of_ble_eq_true rfl) (Nat.le_refl _) (Nat.le_refl _) ?_
  refine k_O_index ?_
  refine r_lald f_O_closeRing_31 (s_78) (q_ix.nI (show (la (c - 1) * 7 + la 0) * 7 + (c - 1) < 343 by have h8 := (h3 (c - 1) (by omega)).2; have h9 := (h3 0 (by omega)).2; omega) (by decide)) ?_
  rw [h2 _ _ _ (h3 (c - 1) (by omega)).2 (h3 0 (by omega)).2 (show c - 1 < c by omega)]
  refine r_ladd f_O_closeRing_32 ?_
  refine r_lst4 f_O_closeRing_33 (by decide) rfl ?_
  refine r_lld4 f_O_closeRing_35 ?_
  refine r_ald0 f_O_closeRing_37 ?_
  refine r_gl f_O_closeRing_38 (s_76) ?_
  rw [h4]
  refine r_lcmp f_O_closeRing_41 ?_
  refine r_if_ge f_O_closeRing_42 (fun h42 => ?_) (fun h42 => ?_)
  · refine r_ret f_O_closeRing_56 rfl (Nat.le_refl _) (Nat.le_refl _) ?_
    first
      | rw [show o_close c lo s n la b = b from if_neg (Int64.not_lt.mpr (q_lcmp.2.2.1.mp h42))] at hk
        exact hk _ _ ⟨h1, h2, h3, h4, h5⟩ q_ag.rf q_aL.rf
      | rw [show o_close c lo s n la b = _ from if_pos (Int64.not_le.mp (fun q => h42 (q_lcmp.2.2.1.mpr q)))] at hk
        refine hk _ _ ⟨(u2_ne (Or.inr (by decide))).trans h1, fun x y p a1 a2 a3 => (u2_ne (Or.inl (by decide))).trans (h2 x y p a1 a2 a3), fun j hj => ⟨(u2_ne (Or.inl (by decide))).trans (h3 j hj).1, (h3 j hj).2⟩, u2_self, u2_self⟩ (q_ag.rf.u2 (Or.inr ⟨rfl, rfl⟩)) (q_aL.rf.u2 (show F5 76 5 from ⟨rfl, rfl⟩))
  · refine r_ald0 f_O_closeRing_45 ?_
    refine r_lld4 f_O_closeRing_46 ?_
    refine r_pl f_O_closeRing_48 (s_76) ?_
    refine r_ald0 f_O_closeRing_51 ?_
    refine r_ild3 f_O_closeRing_52 ?_
    refine r_pi f_O_closeRing_53 (s_76) ?_
    refine r_ret f_O_closeRing_56 rfl (Nat.le_refl _) (Nat.le_refl _) ?_
    first
      | rw [show o_close c lo s n la b = b from if_neg (Int64.not_lt.mpr (q_lcmp.2.2.1.mp h42))] at hk
        exact hk _ _ ⟨h1, h2, h3, h4, h5⟩ q_ag.rf q_aL.rf
      | rw [show o_close c lo s n la b = _ from if_pos (Int64.not_le.mp (fun q => h42 (q_lcmp.2.2.1.mpr q)))] at hk
        refine hk _ _ ⟨(u2_ne (Or.inr (by decide))).trans h1, fun x y p a1 a2 a3 => (u2_ne (Or.inl (by decide))).trans (h2 x y p a1 a2 a3), fun j hj => ⟨(u2_ne (Or.inl (by decide))).trans (h3 j hj).1, (h3 j hj).2⟩, u2_self, u2_self⟩ (q_ag.rf.u2 (Or.inr ⟨rfl, rfl⟩)) (q_aL.rf.u2 (show F5 76 5 from ⟨rfl, rfl⟩))
theorem OS.lay {pl f : Nat} {la : Nat → Nat} {b : Int64 × Int32} (h : OS lo c I L pl la b) (hf : f < c) : OS lo c (u2 I 79 pl (nI f)) L (pl + 1) (fun j => if j = pl then f else la j) b := by
  obtain ⟨h1, h2, h3, h4, h5⟩ := h
  refine ⟨(u2_ne (Or.inl (by decide))).trans h1, h2, fun j hj => ?_, h4, (u2_ne (Or.inl (by decide))).trans h5⟩
  dsimp only
  by_cases e : j = pl
  · subst e
    rw [u2_self, if_pos rfl]
    exact ⟨rfl, hf⟩
  · rw [u2_ne (Or.inr e), if_neg e]
    exact h3 j (by omega)
theorem OS.un {pl f : Nat} {la : Nat → Nat} {b : Int64 × Int32} (h : OS lo c I L (pl + 1) (fun j => if j = pl then f else la j) b) : OS lo c I L pl la b := by
  obtain ⟨h1, h2, h3, h4, h5⟩ := h
  refine ⟨h1, h2, fun j hj => ?_, h4, h5⟩
  have := h3 j (by omega)
  dsimp only at this
  rw [if_neg (by omega)] at this
  exact this
theorem k_O_lf_loop {m pl : Nat} {u : Int32} {s : Int64} {n : Int32} {la : Nat → Nat} (hc7 : c ≤ 7) (hm : pl + (m + 1) = c) (hp : 1 ≤ pl) (ih : ∀ (pl : Nat) (u : Int32) (s : Int64) (n : Int32) (la : Nat → Nat) (b : Int64 × Int32) (I : Rn) (L : Rl) (K : Kt), pl + m = c → 1 ≤ pl → OS lo c I L pl la b → (∀ I' L', OS lo c I' L' pl la (o_from c lo m pl u s n la b) → q_ag F6 I I' → q_aL F5 L L' → K none SH RF I' L') → WW G (d + 2 + m) mt_O_layFrom 0 [some (.ref 76), some (.int (nI pl)), some (.int u), some (.long s), none, some (.int n), none, none, none] [] SH RF I L 0 0 0 0 K) : ∀ (k f : Nat) (b : Int64 × Int32) (I : Rn) (L : Rl), k + f = c → OS lo c I L pl la b → (∀ I' L', OS lo c I' L' pl la (o_fold (fun f b => if (u >>> (nI f &&& 31)) &&& 1 = 0 then (if s + lo (la (pl - 1)) f (pl - 1) < b.1 then o_from c lo m (pl + 1) (u ||| (1 <<< (nI f &&& 31))) (s + lo (la (pl - 1)) f (pl - 1)) (n * 8 + nI f) (fun j => if j = pl then f else la j) b else b) else b) k f b) → q_ag F6 I I' → q_aL F5 L L' → K none SH RF I' L') → WW G (d + 2 + m + 1) mt_O_layFrom 19 [some (.ref 76), some (.int (nI pl)), some (.int u), some (.long s), none, some (.int n), some (.int (nI f)), none, none] [] SH RF I L 0 0 0 0 K
  | 0, f, b, I, L, h, hO, hk => by
    have ef : f = c := by omega
    subst ef
    refine r_ild6 f_O_layFrom_19 ?_
    refine r_ald0 f_O_layFrom_21 ?_
    refine r_gi f_O_layFrom_22 (s_76) ?_
    rw [hO.1]
    refine r_ic_ge f_O_layFrom_25 (fun h25 => ?_) (fun h25 => absurd h25 (fun q => q (Int32.le_refl _)))
    refine r_ret f_O_layFrom_109 rfl (Nat.le_refl _) (Nat.le_refl _) ?_
    exact hk I L hO q_ag.rf q_aL.rf
  | k + 1, f, b, I, L, h, hO, hk => by
    obtain ⟨h1, h2, h3, h4, h5⟩ := hO
    have hpl := (h3 (pl - 1) (by omega))
    have hpm : nI pl - 1 = nI (pl - 1) := pk_sub (b := 1) hp
    refine r_ild6 f_O_layFrom_19 ?_
    refine r_ald0 f_O_layFrom_21 ?_
    refine r_gi f_O_layFrom_22 (s_76) ?_
    rw [h1]
    refine r_ic_ge f_O_layFrom_25 (fun h25 => absurd h25 (nI_ge (by omega) (by omega))) (fun h25 => ?_)
    refine r_ild2 f_O_layFrom_28 ?_
    refine r_ild6 f_O_layFrom_29 ?_
    refine r_ishr f_O_layFrom_31 ?_
    refine r_ic f_O_layFrom_32 ?_
    refine r_iand f_O_layFrom_33 ?_
    refine r_if_ne f_O_layFrom_34 (fun h34 => ?_) (fun h34 => ?_)
    · refine r_inc6 f_O_layFrom_103 rfl ?_
      rw [nI_1]
      refine r_goto f_O_layFrom_106 ?_
      first
        | refine k_O_lf_loop hc7 hm hp ih k (f + 1) b I L (by omega) ⟨h1, h2, h3, h4, h5⟩ (fun I3 L3 hO3 hi3 hl3 => hk I3 L3 ?_ hi3 hl3)
          rw [show o_fold (fun f b => if (u >>> (nI f &&& 31)) &&& 1 = 0 then (if s + lo (la (pl - 1)) f (pl - 1) < b.1 then o_from c lo m (pl + 1) (u ||| (1 <<< (nI f &&& 31))) (s + lo (la (pl - 1)) f (pl - 1)) (n * 8 + nI f) (fun j => if j = pl then f else la j) b else b) else b) (k + 1) f b = o_fold (fun f b => if (u >>> (nI f &&& 31)) &&& 1 = 0 then (if s + lo (la (pl - 1)) f (pl - 1) < b.1 then o_from c lo m (pl + 1) (u ||| (1 <<< (nI f &&& 31))) (s + lo (la (pl - 1)) f (pl - 1)) (n * 8 + nI f) (fun j => if j = pl then f else la j) b else b) else b) k (f + 1) b from congrArg (o_fold _ k (f + 1)) (if_neg h34)]
          exact hO3
        | refine k_O_lf_loop hc7 hm hp ih k (f + 1) b I L (by omega) ⟨h1, h2, h3, h4, h5⟩ (fun I3 L3 hO3 hi3 hl3 => hk I3 L3 ?_ hi3 hl3)
          rw [show o_fold (fun f b => if (u >>> (nI f &&& 31)) &&& 1 = 0 then (if s + lo (la (pl - 1)) f (pl - 1) < b.1 then o_from c lo m (pl + 1) (u ||| (1 <<< (nI f &&& 31))) (s + lo (la (pl - 1)) f (pl - 1)) (n * 8 + nI f) (fun j => if j = pl then f else la j) b else b) else b) (k + 1) f b = o_fold (fun f b => if (u >>> (nI f &&& 31)) &&& 1 = 0 then (if s + lo (la (pl - 1)) f (pl - 1) < b.1 then o_from c lo m (pl + 1) (u ||| (1 <<< (nI f &&& 31))) (s + lo (la (pl - 1)) f (pl - 1)) (n * 8 + nI f) (fun j => if j = pl then f else la j) b else b) else b) k (f + 1) b from congrArg (o_fold _ k (f + 1)) ((if_pos h34).trans (if_neg (Int64.not_lt.mpr (q_lcmp.2.2.1.mp h69))))]
          exact hO3
        | refine k_O_lf_loop hc7 hm hp ih k (f + 1) _ I2 L2 (by omega) hO2.un (fun I3 L3 hO3 hi3 hl3 => hk I3 L3 ?_ (((q_ag.rf (P := F6) (I := I)).u2 (i := 79) (Or.inl rfl)).tr (hi2.tr hi3)) (hl2.tr hl3))
          rw [show o_fold (fun f b => if (u >>> (nI f &&& 31)) &&& 1 = 0 then (if s + lo (la (pl - 1)) f (pl - 1) < b.1 then o_from c lo m (pl + 1) (u ||| (1 <<< (nI f &&& 31))) (s + lo (la (pl - 1)) f (pl - 1)) (n * 8 + nI f) (fun j => if j = pl then f else la j) b else b) else b) (k + 1) f b = o_fold (fun f b => if (u >>> (nI f &&& 31)) &&& 1 = 0 then (if s + lo (la (pl - 1)) f (pl - 1) < b.1 then o_from c lo m (pl + 1) (u ||| (1 <<< (nI f &&& 31))) (s + lo (la (pl - 1)) f (pl - 1)) (n * 8 + nI f) (fun j => if j = pl then f else la j) b else b) else b) k (f + 1) _ from congrArg (o_fold _ k (f + 1)) ((if_pos h34).trans (if_pos (Int64.not_le.mp (fun q => h69 (q_lcmp.2.2.1.mpr q)))))]
          exact hO3
    · refine r_lld3 f_O_layFrom_37 ?_
      refine r_ald0 f_O_layFrom_38 ?_
      refine r_gr f_O_layFrom_39 (s_76) (r_76_1) ?_
      refine r_ald0 f_O_layFrom_42 ?_
      refine r_gr f_O_layFrom_43 (s_76) (r_76_2) ?_
      refine r_ild1 f_O_layFrom_46 ?_
      refine r_ic f_O_layFrom_47 ?_
      refine r_isub f_O_layFrom_48 ?_
      rw [hpm]
      refine r_iald f_O_layFrom_49 (s_79) (q_ix.nI (show pl - 1 < 7 by omega) (by decide)) ?_
      rw [hpl.1]
      refine r_ild6 f_O_layFrom_50 ?_
      refine r_ild1 f_O_layFrom_52 ?_
      refine r_ic f_O_layFrom_53 ?_
      refine r_isub f_O_layFrom_54 ?_
      rw [hpm]
      refine c_O_index f_O_layFrom_55 (Nat.le_of_ble_eq_true rfl) (Nat.le_refl _) (Nat.le_refl _) ?_
      refine k_O_index ?_
      refine r_lald f_O_layFrom_58 (s_78) (q_ix.nI (show (la (pl - 1) * 7 + f) * 7 + (pl - 1) < 343 by have h8 := hpl.2; omega) (by decide)) ?_
      rw [h2 _ _ _ hpl.2 (show f < c by omega) (show pl - 1 < c by omega)]
      refine r_ladd f_O_layFrom_59 ?_
      refine r_lst7 f_O_layFrom_60 (by decide) rfl ?_
      refine r_lld7 f_O_layFrom_62 ?_
      refine r_ald0 f_O_layFrom_64 ?_
      refine r_gl f_O_layFrom_65 (s_76) ?_
      rw [h4]
      refine r_lcmp f_O_layFrom_68 ?_
      refine r_if_ge f_O_layFrom_69 (fun h69 => ?_) (fun h69 => ?_)
      · refine r_inc6 f_O_layFrom_103 rfl ?_
        rw [nI_1]
        refine r_goto f_O_layFrom_106 ?_
        refine r_drop7 ?_
        first
          | refine k_O_lf_loop hc7 hm hp ih k (f + 1) b I L (by omega) ⟨h1, h2, h3, h4, h5⟩ (fun I3 L3 hO3 hi3 hl3 => hk I3 L3 ?_ hi3 hl3)
            rw [show o_fold (fun f b => if (u >>> (nI f &&& 31)) &&& 1 = 0 then (if s + lo (la (pl - 1)) f (pl - 1) < b.1 then o_from c lo m (pl + 1) (u ||| (1 <<< (nI f &&& 31))) (s + lo (la (pl - 1)) f (pl - 1)) (n * 8 + nI f) (fun j => if j = pl then f else la j) b else b) else b) (k + 1) f b = o_fold (fun f b => if (u >>> (nI f &&& 31)) &&& 1 = 0 then (if s + lo (la (pl - 1)) f (pl - 1) < b.1 then o_from c lo m (pl + 1) (u ||| (1 <<< (nI f &&& 31))) (s + lo (la (pl - 1)) f (pl - 1)) (n * 8 + nI f) (fun j => if j = pl then f else la j) b else b) else b) k (f + 1) b from congrArg (o_fold _ k (f + 1)) (if_neg h34)]
            exact hO3
          | refine k_O_lf_loop hc7 hm hp ih k (f + 1) b I L (by omega) ⟨h1, h2, h3, h4, h5⟩ (fun I3 L3 hO3 hi3 hl3 => hk I3 L3 ?_ hi3 hl3)
            rw [show o_fold (fun f b => if (u >>> (nI f &&& 31)) &&& 1 = 0 then (if s + lo (la (pl - 1)) f (pl - 1) < b.1 then o_from c lo m (pl + 1) (u ||| (1 <<< (nI f &&& 31))) (s + lo (la (pl - 1)) f (pl - 1)) (n * 8 + nI f) (fun j => if j = pl then f else la j) b else b) else b) (k + 1) f b = o_fold (fun f b => if (u >>> (nI f &&& 31)) &&& 1 = 0 then (if s + lo (la (pl - 1)) f (pl - 1) < b.1 then o_from c lo m (pl + 1) (u ||| (1 <<< (nI f &&& 31))) (s + lo (la (pl - 1)) f (pl - 1)) (n * 8 + nI f) (fun j => if j = pl then f else la j) b else b) else b) k (f + 1) b from congrArg (o_fold _ k (f + 1)) ((if_pos h34).trans (if_neg (Int64.not_lt.mpr (q_lcmp.2.2.1.mp h69))))]
            exact hO3
          | refine k_O_lf_loop hc7 hm hp ih k (f + 1) _ I2 L2 (by omega) hO2.un (fun I3 L3 hO3 hi3 hl3 => hk I3 L3 ?_ (((q_ag.rf (P := F6) (I := I)).u2 (i := 79) (Or.inl rfl)).tr (hi2.tr hi3)) (hl2.tr hl3))
            rw [show o_fold (fun f b => if (u >>> (nI f &&& 31)) &&& 1 = 0 then (if s + lo (la (pl - 1)) f (pl - 1) < b.1 then o_from c lo m (pl + 1) (u ||| (1 <<< (nI f &&& 31))) (s + lo (la (pl - 1)) f (pl - 1)) (n * 8 + nI f) (fun j => if j = pl then f else la j) b else b) else b) (k + 1) f b = o_fold (fun f b => if (u >>> (nI f &&& 31)) &&& 1 = 0 then (if s + lo (la (pl - 1)) f (pl - 1) < b.1 then o_from c lo m (pl + 1) (u ||| (1 <<< (nI f &&& 31))) (s + lo (la (pl - 1)) f (pl - 1)) (n * 8 + nI f) (fun j => if j = pl then f else la j) b else b) else b) k (f + 1) _ from congrArg (o_fold _ k (f + 1)) ((if_pos h34).trans (if_pos (Int64.not_le.mp (fun q => h69 (q_lcmp.2.2.1.mpr q)))))]
            exact hO3
      · refine r_ald0 f_O_layFrom_72 ?_
        refine r_gr f_O_layFrom_73 (s_76) (r_76_2) ?_
        refine r_ild1 f_O_layFrom_76 ?_
        refine r_ild6 f_O_layFrom_77 ?_
        refine r_iast f_O_layFrom_79 (s_79) (q_ix.nI (show pl < 7 by omega) (by decide)) ?_
        refine r_ald0 f_O_layFrom_80 ?_
        refine r_ild1 f_O_layFrom_81 ?_
        refine r_ic f_O_layFrom_82 ?_
        refine r_iadd f_O_layFrom_83 ?_
        rw [nI_1]
        refine r_ild2 f_O_layFrom_84 ?_
        refine r_ic f_O_layFrom_85 ?_
        refine r_ild6 f_O_layFrom_86 ?_
        refine r_ishl f_O_layFrom_88 ?_
        refine r_ior f_O_layFrom_89 ?_
        refine r_lld7 f_O_layFrom_90 ?_
        refine r_ild5 f_O_layFrom_92 ?_
        refine r_ic f_O_layFrom_94 ?_
        refine r_imul f_O_layFrom_96 ?_
        refine r_ild6 f_O_layFrom_97 ?_
        refine r_iadd f_O_layFrom_99 ?_
        refine c_O_layFrom f_O_layFrom_100 (Nat.le_of_ble_eq_true rfl) (Nat.le_refl _) (Nat.le_refl _) ?_
        refine ih _ _ _ _ (fun j => if j = pl then f else la j) b _ _ _ (by omega) (by omega) (OS.lay ⟨h1, h2, h3, h4, h5⟩ (by omega)) (fun I2 L2 hO2 hi2 hl2 => ?_)
        refine r_inc6 f_O_layFrom_103 rfl ?_
        rw [nI_1]
        refine r_goto f_O_layFrom_106 ?_
        refine r_drop7 ?_
        first
          | refine k_O_lf_loop hc7 hm hp ih k (f + 1) b I L (by omega) ⟨h1, h2, h3, h4, h5⟩ (fun I3 L3 hO3 hi3 hl3 => hk I3 L3 ?_ hi3 hl3)
            rw [show o_fold (fun f b => if (u >>> (nI f &&& 31)) &&& 1 = 0 then (if s + lo (la (pl - 1)) f (pl - 1) < b.1 then o_from c lo m (pl + 1) (u ||| (1 <<< (nI f &&& 31))) (s + lo (la (pl - 1)) f (pl - 1)) (n * 8 + nI f) (fun j => if j = pl then f else la j) b else b) else b) (k + 1) f b = o_fold (fun f b => if (u >>> (nI f &&& 31)) &&& 1 = 0 then (if s + lo (la (pl - 1)) f (pl - 1) < b.1 then o_from c lo m (pl + 1) (u ||| (1 <<< (nI f &&& 31))) (s + lo (la (pl - 1)) f (pl - 1)) (n * 8 + nI f) (fun j => if j = pl then f else la j) b else b) else b) k (f + 1) b from congrArg (o_fold _ k (f + 1)) (if_neg h34)]
            exact hO3
          | refine k_O_lf_loop hc7 hm hp ih k (f + 1) b I L (by omega) ⟨h1, h2, h3, h4, h5⟩ (fun I3 L3 hO3 hi3 hl3 => hk I3 L3 ?_ hi3 hl3)
            rw [show o_fold (fun f b => if (u >>> (nI f &&& 31)) &&& 1 = 0 then (if s + lo (la (pl - 1)) f (pl - 1) < b.1 then o_from c lo m (pl + 1) (u ||| (1 <<< (nI f &&& 31))) (s + lo (la (pl - 1)) f (pl - 1)) (n * 8 + nI f) (fun j => if j = pl then f else la j) b else b) else b) (k + 1) f b = o_fold (fun f b => if (u >>> (nI f &&& 31)) &&& 1 = 0 then (if s + lo (la (pl - 1)) f (pl - 1) < b.1 then o_from c lo m (pl + 1) (u ||| (1 <<< (nI f &&& 31))) (s + lo (la (pl - 1)) f (pl - 1)) (n * 8 + nI f) (fun j => if j = pl then f else la j) b else b) else b) k (f + 1) b from congrArg (o_fold _ k (f + 1)) ((if_pos h34).trans (if_neg (Int64.not_lt.mpr (q_lcmp.2.2.1.mp h69))))]
            exact hO3
          | refine k_O_lf_loop hc7 hm hp ih k (f + 1) _ I2 L2 (by omega) hO2.un (fun I3 L3 hO3 hi3 hl3 => hk I3 L3 ?_ (((q_ag.rf (P := F6) (I := I)).u2 (i := 79) (Or.inl rfl)).tr (hi2.tr hi3)) (hl2.tr hl3))
            rw [show o_fold (fun f b => if (u >>> (nI f &&& 31)) &&& 1 = 0 then (if s + lo (la (pl - 1)) f (pl - 1) < b.1 then o_from c lo m (pl + 1) (u ||| (1 <<< (nI f &&& 31))) (s + lo (la (pl - 1)) f (pl - 1)) (n * 8 + nI f) (fun j => if j = pl then f else la j) b else b) else b) (k + 1) f b = o_fold (fun f b => if (u >>> (nI f &&& 31)) &&& 1 = 0 then (if s + lo (la (pl - 1)) f (pl - 1) < b.1 then o_from c lo m (pl + 1) (u ||| (1 <<< (nI f &&& 31))) (s + lo (la (pl - 1)) f (pl - 1)) (n * 8 + nI f) (fun j => if j = pl then f else la j) b else b) else b) k (f + 1) _ from congrArg (o_fold _ k (f + 1)) ((if_pos h34).trans (if_pos (Int64.not_le.mp (fun q => h69 (q_lcmp.2.2.1.mpr q)))))]
            exact hO3
theorem k_O_layFrom (hc1 : 1 ≤ c) (hc7 : c ≤ 7) : ∀ (m : Nat), ∀ (pl : Nat) (u : Int32) (s : Int64) (n : Int32) (la : Nat → Nat) (b : Int64 × Int32) (I : Rn) (L : Rl) (K : Kt), pl + m = c → 1 ≤ pl → OS lo c I L pl la b → (∀ I' L', OS lo c I' L' pl la (o_from c lo m pl u s n la b) → q_ag F6 I I' → q_aL F5 L L' → K none SH RF I' L') → WW G (d + 2 + m) mt_O_layFrom 0 [some (.ref 76), some (.int (nI pl)), some (.int u), some (.long s), none, some (.int n), none, none, none] [] SH RF I L 0 0 0 0 K
  | 0, pl, u, s, n, la, b, I, L, K, hm, hp, hO, hk => by
    have ep : pl = c := by omega
    subst ep
    refine r_ild1 f_O_layFrom_0 ?_
    refine r_ald0 f_O_layFrom_1 ?_
    refine r_gi f_O_layFrom_2 (s_76) ?_
    rw [hO.1]
    refine r_ic_lt f_O_layFrom_5 (fun h5 => absurd h5 (fun q => Int32.lt_irrefl q)) (fun h5 => ?_)
    refine r_ald0 f_O_layFrom_8 ?_
    refine r_lld3 f_O_layFrom_9 ?_
    refine r_ild5 f_O_layFrom_10 ?_
    refine c_O_closeRing f_O_layFrom_12 (s_76) (Nat.le_of_ble_eq_true rfl) (Nat.le_refl _) (Nat.le_refl _) ?_
    refine k_O_closeRing hc1 hc7 hO (fun I2 L2 hO2 hi2 hl2 => ?_)
    refine r_ret f_O_layFrom_15 rfl (Nat.le_refl _) (Nat.le_refl _) ?_
    exact hk I2 L2 hO2 hi2 hl2
  | m + 1, pl, u, s, n, la, b, I, L, K, hm, hp, hO, hk => by
    refine r_ild1 f_O_layFrom_0 ?_
    refine r_ald0 f_O_layFrom_1 ?_
    refine r_gi f_O_layFrom_2 (s_76) ?_
    rw [hO.1]
    refine r_ic_lt f_O_layFrom_5 (fun h5 => ?_) (fun h5 => absurd h5 (fun q => q (nI_lt (by omega) (by omega))))
    refine r_ic f_O_layFrom_16 ?_
    refine r_ist6 f_O_layFrom_17 rfl ?_
    exact k_O_lf_loop hc7 hm hp (k_O_layFrom hc1 hc7 m) c 0 b I L rfl hO hk
end L42
