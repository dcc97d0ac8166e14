/-! BEST: all rows of farms, the lesser first -/
def o_nx (c p : Nat) : Nat := if p + 1 = c then 0 else p + 1
def o_ts (c : Nat) (lo : Nat → Nat → Nat → Int64) (la : Nat → Nat) : Nat → Int64
  | 0 => 0
  | p + 1 => o_ts c lo la p + lo (la p) (la (o_nx c p)) p
def o_nm (la : Nat → Nat) : Nat → Int32
  | 0 => 0
  | p + 1 => 8 * o_nm la p + nI (la p)
def o_upd (t : Int64) (n : Int32) (b : Int64 × Int32) : Int64 × Int32 := if b.1 < 0 ∨ t < b.1 then (t, n) else b
def o_us (usd : Nat → Bool) (f : Nat) : Nat → Bool := fun x => if x = f then true else usd x
def o_la (la : Nat → Nat) (pl f : Nat) : Nat → Nat := fun j => if j = pl then f else la j
def o_all (c : Nat) (lo : Nat → Nat → Nat → Int64) : Nat → Nat → (Nat → Bool) → (Nat → Nat) → Int64 × Int32 → Int64 × Int32
  | 0, _, _, la, b => o_upd (o_ts c lo la c) (o_nm la c) b
  | m + 1, pl, usd, la, b => o_fold (fun f b => if usd f = true then b else o_all c lo m (pl + 1) (o_us usd f) (o_la la pl f) b) c 0 b
def q_lb (lo : Nat → Nat → Nat → Int64) (c : Nat) (L : Rl) : Prop := ∀ x y p, x < c → y < c → p < c → x ≠ y → L 101 (64 * x + 8 * y + p) = lo x y p
section L60
variable {G : Gx} {d : Nat} {I I' I2 : Rn} {L L' L2 : Rl} {K : Kt} {σ : St} {D : Dst} {c : Nat} {lo : Nat → Nat → Nat → Int64}
theorem k_R_findLost_loop (hW : WFd D) (h7 : dC D ≤ 7) (hk : ∀ I' L', q_lb (sp_lo D) (dC D) L' → q_ag FRm I I' → q_aL FML L L' → K none SH RF I' L') : ∀ (m k : Nat) (I' : Rn) (L' : Rl), m + k = 64 * dC D → (∀ x y p, x < dC D → y < dC D → p < dC D → x ≠ y → 64 * x + 8 * y + p < k → L' 101 (64 * x + 8 * y + p) = sp_lo D x y p) → RR I' 96 D → q_ag FRm I I' → q_aL FML L L' → WW G (d + 5) mt_R_findLost 10 [some (.ref 95), some (.int (nI (dC D))), some (.int (nI k)), none, none, none] [] SH RF I' L' 0 0 0 0 K
  | 0, k, I', L', h, hb, hR, hg, hl => by
    have ek : k = 64 * dC D := by omega
    subst ek
    refine r_ild2 f_R_findLost_10 ?_
    refine r_ild1 f_R_findLost_11 ?_
    refine r_ic f_R_findLost_12 ?_
    refine r_imul f_R_findLost_14 ?_
    rw [show nI (dC D) * 64 = nI (64 * dC D) from by rw [Int32.mul_comm]; exact pk_mul 64 _]
    refine r_ic_ge f_R_findLost_15 (fun h15 => ?_) (fun h15 => absurd h15 (fun q => q (Int32.le_refl _)))
    refine r_ret f_R_findLost_81 rfl (Nat.le_refl _) (Nat.le_refl _) ?_
    exact hk I' L' (fun x y p h1 h2 h3 h4 => hb x y p h1 h2 h3 h4 (by omega)) hg hl
  | m + 1, k, I', L', h, hb, hR, hg, hl => by
    refine r_ild2 f_R_findLost_10 ?_
    refine r_ild1 f_R_findLost_11 ?_
    refine r_ic f_R_findLost_12 ?_
    refine r_imul f_R_findLost_14 ?_
    rw [show nI (dC D) * 64 = nI (64 * dC D) from by rw [Int32.mul_comm]; exact pk_mul 64 _]
    refine r_ic_ge f_R_findLost_15 (fun h15 => absurd h15 (nI_ge (by omega) (by omega))) (fun h15 => ?_)
    refine r_ild2 f_R_findLost_18 ?_
    refine r_ic f_R_findLost_19 ?_
    refine r_idiv f_R_findLost_21 (by decide) ?_
    rw [show nI k / 64 = nI (k / 64) from pk_div (d := 64) (by omega) (by decide) (by decide)]
    refine r_ist3 f_R_findLost_22 rfl ?_
    refine r_ild2 f_R_findLost_23 ?_
    refine r_ic f_R_findLost_24 ?_
    refine r_idiv f_R_findLost_26 (by decide) ?_
    rw [show nI k / 8 = nI (k / 8) from pk_div (d := 8) (by omega) (by decide) (by decide)]
    refine r_ic f_R_findLost_27 ?_
    refine r_irem f_R_findLost_29 (by decide) ?_
    rw [show nI (k / 8) - nI (k / 8) / 8 * 8 = nI (k / 8 % 8) from pk_rem (d := 8) (by omega) (by decide) (by decide)]
    refine r_ist4 f_R_findLost_30 rfl ?_
    refine r_ild2 f_R_findLost_32 ?_
    refine r_ic f_R_findLost_33 ?_
    refine r_irem f_R_findLost_35 (by decide) ?_
    rw [show nI k - nI k / 8 * 8 = nI (k % 8) from pk_rem (d := 8) (by omega) (by decide) (by decide)]
    refine r_ist5 f_R_findLost_36 rfl ?_
    refine r_ild4 f_R_findLost_38 ?_
    refine r_ild1 f_R_findLost_40 ?_
    refine r_ic_ge f_R_findLost_41 (fun h41 => ?_) (fun h41 => ?_)
    · refine r_inc2 f_R_findLost_75 rfl ?_
      rw [nI_1]
      refine r_goto f_R_findLost_78 ?_
      refine r_drop3 ?_
      refine r_drop4 ?_
      refine r_drop5 ?_
      first
        | exact k_R_findLost_loop hW h7 hk m (k + 1) I' L' (by omega) (fun x y p a1 a2 a3 a4 a5 => hb x y p a1 a2 a3 a4 (by
            rcases Nat.lt_or_ge (64 * x + 8 * y + p) k with q | q
            · exact q
            · exfalso
              have e : 64 * x + 8 * y + p = k := by omega
              have ex : k / 64 = x := by omega
              have ey : k / 8 % 8 = y := by omega
              have ep : k % 8 = p := by omega
              first
                | exact absurd ((nI_leI (by omega) (by omega)).mp h41) (by omega)
                | exact absurd ((nI_leI (by omega) (by omega)).mp h47) (by omega)
                | exact absurd ((nI_eq (by omega) (by omega)).mp h53) (by omega))) hR hg hl
        | (refine k_R_findLost_loop hW h7 hk m (k + 1) I9 _ (by omega) (fun x y p a1 a2 a3 a4 a5 => ?_) hR9 (hg.tr g9) ((hl.tr (l9.mo FRl_FML)).u2 (Or.inr (Or.inl rfl)))
           by_cases e : 64 * x + 8 * y + p = k
           · have ex : x = k / 64 := by omega
             have ey : y = k / 8 % 8 := by omega
             have ep : p = k % 8 := by omega
             rw [e, u2_self, ex, ey, ep]
             rfl
           · rw [u2_ne (Or.inr e), l9 101 _ (by unfold FRl; omega)]
             exact hb x y p a1 a2 a3 a4 (by omega))
    · have h1 : k / 8 % 8 < dC D := Nat.not_le.mp (fun q => h41 (nI_le q (by omega)))
      refine r_ild5 f_R_findLost_44 ?_
      refine r_ild1 f_R_findLost_46 ?_
      refine r_ic_ge f_R_findLost_47 (fun h47 => ?_) (fun h47 => ?_)
      · refine r_inc2 f_R_findLost_75 rfl ?_
        rw [nI_1]
        refine r_goto f_R_findLost_78 ?_
        refine r_drop3 ?_
        refine r_drop4 ?_
        refine r_drop5 ?_
        first
          | exact k_R_findLost_loop hW h7 hk m (k + 1) I' L' (by omega) (fun x y p a1 a2 a3 a4 a5 => hb x y p a1 a2 a3 a4 (by
              rcases Nat.lt_or_ge (64 * x + 8 * y + p) k with q | q
              · exact q
              · exfalso
                have e : 64 * x + 8 * y + p = k := by omega
                have ex : k / 64 = x := by omega
                have ey : k / 8 % 8 = y := by omega
                have ep : k % 8 = p := by omega
                first
                  | exact absurd ((nI_leI (by omega) (by omega)).mp h41) (by omega)
                  | exact absurd ((nI_leI (by omega) (by omega)).mp h47) (by omega)
                  | exact absurd ((nI_eq (by omega) (by omega)).mp h53) (by omega))) hR hg hl
          | (refine k_R_findLost_loop hW h7 hk m (k + 1) I9 _ (by omega) (fun x y p a1 a2 a3 a4 a5 => ?_) hR9 (hg.tr g9) ((hl.tr (l9.mo FRl_FML)).u2 (Or.inr (Or.inl rfl)))
             by_cases e : 64 * x + 8 * y + p = k
             · have ex : x = k / 64 := by omega
               have ey : y = k / 8 % 8 := by omega
               have ep : p = k % 8 := by omega
               rw [e, u2_self, ex, ey, ep]
               rfl
             · rw [u2_ne (Or.inr e), l9 101 _ (by unfold FRl; omega)]
               exact hb x y p a1 a2 a3 a4 (by omega))
      · have h2 : k % 8 < dC D := Nat.not_le.mp (fun q => h47 (nI_le q (by omega)))
        refine r_ild4 f_R_findLost_50 ?_
        refine r_ild3 f_R_findLost_52 ?_
        refine r_ic_eq f_R_findLost_53 (fun h53 => ?_) (fun h53 => ?_)
        · refine r_inc2 f_R_findLost_75 rfl ?_
          rw [nI_1]
          refine r_goto f_R_findLost_78 ?_
          refine r_drop3 ?_
          refine r_drop4 ?_
          refine r_drop5 ?_
          first
            | exact k_R_findLost_loop hW h7 hk m (k + 1) I' L' (by omega) (fun x y p a1 a2 a3 a4 a5 => hb x y p a1 a2 a3 a4 (by
                rcases Nat.lt_or_ge (64 * x + 8 * y + p) k with q | q
                · exact q
                · exfalso
                  have e : 64 * x + 8 * y + p = k := by omega
                  have ex : k / 64 = x := by omega
                  have ey : k / 8 % 8 = y := by omega
                  have ep : k % 8 = p := by omega
                  first
                    | exact absurd ((nI_leI (by omega) (by omega)).mp h41) (by omega)
                    | exact absurd ((nI_leI (by omega) (by omega)).mp h47) (by omega)
                    | exact absurd ((nI_eq (by omega) (by omega)).mp h53) (by omega))) hR hg hl
            | (refine k_R_findLost_loop hW h7 hk m (k + 1) I9 _ (by omega) (fun x y p a1 a2 a3 a4 a5 => ?_) hR9 (hg.tr g9) ((hl.tr (l9.mo FRl_FML)).u2 (Or.inr (Or.inl rfl)))
               by_cases e : 64 * x + 8 * y + p = k
               · have ex : x = k / 64 := by omega
                 have ey : y = k / 8 % 8 := by omega
                 have ep : p = k % 8 := by omega
                 rw [e, u2_self, ex, ey, ep]
                 rfl
               · rw [u2_ne (Or.inr e), l9 101 _ (by unfold FRl; omega)]
                 exact hb x y p a1 a2 a3 a4 (by omega))
        · have h3 : ¬ k / 8 % 8 = k / 64 := fun q => h53 (by rw [q])
          refine r_ald0 f_R_findLost_56 ?_
          refine r_ild3 f_R_findLost_57 ?_
          refine r_ild4 f_R_findLost_58 ?_
          refine r_ild5 f_R_findLost_60 ?_
          refine c_R_findRest f_R_findLost_62 (s_95) (Nat.le_of_ble_eq_true rfl) (Nat.le_refl _) (Nat.le_refl _) ?_
          refine k_R_findRest (o := k / 64) (t := k / 8 % 8) (p := k % 8) (by omega) h1 h2 hR hW (fun I9 L9 m9 g9 l9 => ?_)
          have hR9 := hR.frm hW g9
          refine r_ald0 f_R_findLost_65 ?_
          refine r_gr f_R_findLost_66 (s_95) (r_95_19) ?_
          refine r_ild2 f_R_findLost_69 ?_
          refine r_ald0 f_R_findLost_70 ?_
          refine c_R_lostThere f_R_findLost_71 (s_95) (Nat.le_of_ble_eq_true rfl) (Nat.le_refl _) (Nat.le_refl _) ?_
          refine k_R_lostThere m9 hR9 ?_
          refine r_last f_R_findLost_74 (s_101) (q_ix.nI (show k < 512 by omega) (by decide)) ?_
          refine r_inc2 f_R_findLost_75 rfl ?_
          rw [nI_1]
          refine r_goto f_R_findLost_78 ?_
          refine r_drop3 ?_
          refine r_drop4 ?_
          refine r_drop5 ?_
          first
            | exact k_R_findLost_loop hW h7 hk m (k + 1) I' L' (by omega) (fun x y p a1 a2 a3 a4 a5 => hb x y p a1 a2 a3 a4 (by
                rcases Nat.lt_or_ge (64 * x + 8 * y + p) k with q | q
                · exact q
                · exfalso
                  have e : 64 * x + 8 * y + p = k := by omega
                  have ex : k / 64 = x := by omega
                  have ey : k / 8 % 8 = y := by omega
                  have ep : k % 8 = p := by omega
                  first
                    | exact absurd ((nI_leI (by omega) (by omega)).mp h41) (by omega)
                    | exact absurd ((nI_leI (by omega) (by omega)).mp h47) (by omega)
                    | exact absurd ((nI_eq (by omega) (by omega)).mp h53) (by omega))) hR hg hl
            | (refine k_R_findLost_loop hW h7 hk m (k + 1) I9 _ (by omega) (fun x y p a1 a2 a3 a4 a5 => ?_) hR9 (hg.tr g9) ((hl.tr (l9.mo FRl_FML)).u2 (Or.inr (Or.inl rfl)))
               by_cases e : 64 * x + 8 * y + p = k
               · have ex : x = k / 64 := by omega
                 have ey : y = k / 8 % 8 := by omega
                 have ep : p = k % 8 := by omega
                 rw [e, u2_self, ex, ey, ep]
                 rfl
               · rw [u2_ne (Or.inr e), l9 101 _ (by unfold FRl; omega)]
                 exact hb x y p a1 a2 a3 a4 (by omega))
theorem k_R_findLost (hW : WFd D) (h7 : dC D ≤ 7) (hR : RR I 96 D) (hk : ∀ I' L', q_lb (sp_lo D) (dC D) L' → q_ag FRm I I' → q_aL FML L L' → K none SH RF I' L') : WW G (d + 5) mt_R_findLost 0 [some (.ref 95), none, none, none, none, none] [] SH RF I L 0 0 0 0 K := by
  refine r_ald0 f_R_findLost_0 ?_
  refine r_gr f_R_findLost_1 (s_95) (r_95_0) ?_
  refine r_ic f_R_findLost_4 ?_
  refine r_iald f_R_findLost_6 (s_96) (show q_ix 10 10 136 from ⟨by decide, by decide⟩) ?_
  rw [hR.cnt hW]
  refine r_ist1 f_R_findLost_7 rfl ?_
  refine r_ic f_R_findLost_8 ?_
  refine r_ist2 f_R_findLost_9 rfl ?_
  exact k_R_findLost_loop hW h7 hk _ 0 I L (Nat.add_zero _) (fun x y p a1 a2 a3 a4 a5 => absurd a5 (Nat.not_lt_zero _)) hR q_ag.rf q_aL.rf
theorem o_nx_lt {p : Nat} (h : p < c) : o_nx c p < c := by
  unfold o_nx
  split <;> omega
def FT1 : Nat → Nat → Prop := fun x y => x = 95 ∧ y = 22
def FT2 : Nat → Nat → Prop := fun x y => x = 95 ∧ y = 23
theorem k_R_tryRow_loop {la : Nat → Nat} (hc : c ≤ 7) (hlb : q_lb lo c L) (hro : ∀ j, j < c → I 102 j = nI (la j) ∧ la j < c) (hne : ∀ j, j < c → la j ≠ la (o_nx c j)) (hk : WW G d mt_R_tryRow 89 [some (.ref 95), some (.int (nI c)), some (.long (o_ts c lo la c)), none, some (.int (o_nm la c)), none] [] SH RF I L 0 0 0 0 K) : ∀ (m p : Nat), m + p = c → WW G d mt_R_tryRow 16 [some (.ref 95), some (.int (nI c)), some (.long (o_ts c lo la p)), none, some (.int (o_nm la p)), some (.int (nI p))] [] SH RF I L 0 0 0 0 K
  | 0, p, h => by
    have ep : p = c := by omega
    subst ep
    refine r_ild5 f_R_tryRow_16 ?_
    refine r_ild1 f_R_tryRow_18 ?_
    refine r_ic_ge f_R_tryRow_19 (fun h19 => ?_) (fun h19 => absurd h19 (fun q => q (Int32.le_refl _)))
    refine r_drop5 ?_
    exact hk
  | m + 1, p, h => by
    obtain ⟨r1, r2⟩ := hro p (by omega)
    obtain ⟨s1, s2⟩ := hro (o_nx c p) (o_nx_lt (by omega))
    have hn := hne p (by omega)
    refine r_ild5 f_R_tryRow_16 ?_
    refine r_ild1 f_R_tryRow_18 ?_
    refine r_ic_ge f_R_tryRow_19 (fun h19 => absurd h19 (nI_ge (by omega) (by omega))) (fun h19 => ?_)
    refine r_lld2 f_R_tryRow_22 ?_
    refine r_ald0 f_R_tryRow_23 ?_
    refine r_gr f_R_tryRow_24 (s_95) (r_95_19) ?_
    refine r_ic f_R_tryRow_27 ?_
    refine r_ald0 f_R_tryRow_29 ?_
    refine r_gr f_R_tryRow_30 (s_95) (r_95_20) ?_
    refine r_ild5 f_R_tryRow_33 ?_
    refine r_iald f_R_tryRow_35 (s_102) (q_ix.nI (show p < 8 by omega) (by decide)) ?_
    rw [r1]
    refine r_imul f_R_tryRow_36 ?_
    rw [show (64 : Int32) * nI (la p) = nI (64 * la p) from pk_mul 64 _]
    refine r_ic f_R_tryRow_37 ?_
    refine r_ald0 f_R_tryRow_39 ?_
    refine r_gr f_R_tryRow_40 (s_95) (r_95_20) ?_
    refine r_ild5 f_R_tryRow_43 ?_
    refine r_ic f_R_tryRow_45 ?_
    refine r_iadd f_R_tryRow_46 ?_
    rw [nI_1]
    refine r_ild1 f_R_tryRow_47 ?_
    refine r_ic_ne f_R_tryRow_48 (fun h48 => ?_) (fun h48 => ?_)
    · have en : o_nx c p = p + 1 := if_neg (fun q => h48 (by rw [q]))
      refine r_ild5 f_R_tryRow_55 ?_
      refine r_ic f_R_tryRow_57 ?_
      refine r_iadd f_R_tryRow_58 ?_
      rw [nI_1]
      have e0 : I 102 (p + 1) = nI (la (o_nx c p)) := by rw [← s1, en]
      refine r_iald f_R_tryRow_59 (s_102) (by first | exact q_ix.nI (j := p + 1) (show p + 1 < 8 by unfold o_nx at en; omega) (by decide) | exact (show q_ix 0 0 8 from ⟨by decide, by decide⟩)) ?_
      rw [e0]
      refine r_imul f_R_tryRow_60 ?_
      rw [show (8 : Int32) * nI (la (o_nx c p)) = nI (8 * la (o_nx c p)) from pk_mul 8 _]
      refine r_iadd f_R_tryRow_61 ?_
      rw [nI_add]
      refine r_ild5 f_R_tryRow_62 ?_
      refine r_iadd f_R_tryRow_64 ?_
      rw [nI_add]
      refine r_lald f_R_tryRow_65 (s_101) (q_ix.nI (show 64 * la p + 8 * la (o_nx c p) + p < 512 by omega) (by decide)) ?_
      rw [hlb (la p) (la (o_nx c p)) p r2 s2 (by omega) hn]
      refine r_ladd f_R_tryRow_66 ?_
      refine r_lst2 f_R_tryRow_67 (by decide) rfl ?_
      refine r_ic f_R_tryRow_68 ?_
      refine r_ild4 f_R_tryRow_70 ?_
      refine r_imul f_R_tryRow_72 ?_
      refine r_ald0 f_R_tryRow_73 ?_
      refine r_gr f_R_tryRow_74 (s_95) (r_95_20) ?_
      refine r_ild5 f_R_tryRow_77 ?_
      refine r_iald f_R_tryRow_79 (s_102) (q_ix.nI (show p < 8 by omega) (by decide)) ?_
      rw [r1]
      refine r_iadd f_R_tryRow_80 ?_
      refine r_ist4 f_R_tryRow_81 rfl ?_
      refine r_inc5 f_R_tryRow_83 rfl ?_
      rw [nI_1]
      refine r_goto f_R_tryRow_86 ?_
      exact k_R_tryRow_loop hc hlb hro hne hk m (p + 1) (by omega)
    · have en : o_nx c p = 0 := if_pos ((nI_eq (by omega) (by omega)).mp h48)
      refine r_ic f_R_tryRow_51 ?_
      refine r_goto f_R_tryRow_52 ?_
      have e0 : I 102 0 = nI (la (o_nx c p)) := by rw [← s1, en]
      refine r_iald f_R_tryRow_59 (s_102) (by first | exact q_ix.nI (j := p + 1) (show p + 1 < 8 by unfold o_nx at en; omega) (by decide) | exact (show q_ix 0 0 8 from ⟨by decide, by decide⟩)) ?_
      rw [e0]
      refine r_imul f_R_tryRow_60 ?_
      rw [show (8 : Int32) * nI (la (o_nx c p)) = nI (8 * la (o_nx c p)) from pk_mul 8 _]
      refine r_iadd f_R_tryRow_61 ?_
      rw [nI_add]
      refine r_ild5 f_R_tryRow_62 ?_
      refine r_iadd f_R_tryRow_64 ?_
      rw [nI_add]
      refine r_lald f_R_tryRow_65 (s_101) (q_ix.nI (show 64 * la p + 8 * la (o_nx c p) + p < 512 by omega) (by decide)) ?_
      rw [hlb (la p) (la (o_nx c p)) p r2 s2 (by omega) hn]
      refine r_ladd f_R_tryRow_66 ?_
      refine r_lst2 f_R_tryRow_67 (by decide) rfl ?_
      refine r_ic f_R_tryRow_68 ?_
      refine r_ild4 f_R_tryRow_70 ?_
      refine r_imul f_R_tryRow_72 ?_
      refine r_ald0 f_R_tryRow_73 ?_
      refine r_gr f_R_tryRow_74 (s_95) (r_95_20) ?_
      refine r_ild5 f_R_tryRow_77 ?_
      refine r_iald f_R_tryRow_79 (s_102) (q_ix.nI (show p < 8 by omega) (by decide)) ?_
      rw [r1]
      refine r_iadd f_R_tryRow_80 ?_
      refine r_ist4 f_R_tryRow_81 rfl ?_
      refine r_inc5 f_R_tryRow_83 rfl ?_
      rw [nI_1]
      refine r_goto f_R_tryRow_86 ?_
      exact k_R_tryRow_loop hc hlb hro hne hk m (p + 1) (by omega)
theorem k_R_tryRow {la : Nat → Nat} {b : Int64 × Int32} (hc : c ≤ 7) (hcn : I 96 10 = nI c) (hlb : q_lb lo c L) (hro : ∀ j, j < c → I 102 j = nI (la j) ∧ la j < c) (hne : ∀ j, j < c → la j ≠ la (o_nx c j)) (hb1 : L 95 23 = b.1) (hb2 : I 95 22 = b.2) (hk : ∀ I' L', L' 95 23 = (o_upd (o_ts c lo la c) (o_nm la c) b).1 → I' 95 22 = (o_upd (o_ts c lo la c) (o_nm la c) b).2 → q_ag FT1 I I' → q_aL FT2 L L' → K none SH RF I' L') : WW G d mt_R_tryRow 0 [some (.ref 95), none, none, none, none, none] [] SH RF I L 0 0 0 0 K := by
  refine r_ald0 f_R_tryRow_0 ?_
  refine r_gr f_R_tryRow_1 (s_95) (r_95_0) ?_
  refine r_ic f_R_tryRow_4 ?_
  refine r_iald f_R_tryRow_6 (s_96) (show q_ix 10 10 136 from ⟨by decide, by decide⟩) ?_
  rw [hcn]
  refine r_ist1 f_R_tryRow_7 rfl ?_
  refine r_lc f_R_tryRow_8 ?_
  refine r_lst2 f_R_tryRow_9 (by decide) rfl ?_
  refine r_ic f_R_tryRow_10 ?_
  refine r_ist4 f_R_tryRow_11 rfl ?_
  refine r_ic f_R_tryRow_13 ?_
  refine r_ist5 f_R_tryRow_14 rfl ?_
  refine k_R_tryRow_loop (la := la) hc hlb hro hne ?_ c 0 (Nat.add_zero _)
  refine r_ald0 f_R_tryRow_89 ?_
  refine r_gl f_R_tryRow_90 (s_95) ?_
  rw [hb1]
  refine r_lc f_R_tryRow_93 ?_
  refine r_lcmp f_R_tryRow_94 ?_
  refine r_if_lt f_R_tryRow_95 (fun h95 => ?_) (fun h95 => ?_)
  · refine r_ald0 f_R_tryRow_107 ?_
    refine r_lld2 f_R_tryRow_108 ?_
    refine r_pl f_R_tryRow_109 (s_95) ?_
    refine r_ald0 f_R_tryRow_112 ?_
    refine r_ild4 f_R_tryRow_113 ?_
    refine r_pi f_R_tryRow_115 (s_95) ?_
    refine r_ret f_R_tryRow_118 rfl (Nat.le_refl _) (Nat.le_refl _) ?_
    first
      | (have eu : o_upd (o_ts c lo la c) (o_nm la c) b = (o_ts c lo la c, o_nm la c) := if_pos (Or.inl (q_lcmp.2.1.mp h95))
         rw [eu] at hk
         exact hk _ _ u2_self u2_self (q_ag.rf.u2 ⟨rfl, rfl⟩) (q_aL.rf.u2 ⟨rfl, rfl⟩))
      | (have eu : o_upd (o_ts c lo la c) (o_nm la c) b = (o_ts c lo la c, o_nm la c) := if_pos (Or.inr (Int64.not_le.mp (fun q => h104 (q_lcmp.2.2.1.mpr q))))
         rw [eu] at hk
         exact hk _ _ u2_self u2_self (q_ag.rf.u2 ⟨rfl, rfl⟩) (q_aL.rf.u2 ⟨rfl, rfl⟩))
      | (have eu : o_upd (o_ts c lo la c) (o_nm la c) b = b := if_neg (fun q => q.elim (fun w => h95 (q_lcmp.2.1.mpr w)) (fun w => absurd w (Int64.not_lt.mpr (q_lcmp.2.2.1.mp h104))))
         rw [eu] at hk
         exact hk _ _ hb1 hb2 q_ag.rf q_aL.rf)
  · refine r_lld2 f_R_tryRow_98 ?_
    refine r_ald0 f_R_tryRow_99 ?_
    refine r_gl f_R_tryRow_100 (s_95) ?_
    rw [hb1]
    refine r_lcmp f_R_tryRow_103 ?_
    refine r_if_ge f_R_tryRow_104 (fun h104 => ?_) (fun h104 => ?_)
    · refine r_ret f_R_tryRow_118 rfl (Nat.le_refl _) (Nat.le_refl _) ?_
      first
        | (have eu : o_upd (o_ts c lo la c) (o_nm la c) b = (o_ts c lo la c, o_nm la c) := if_pos (Or.inl (q_lcmp.2.1.mp h95))
           rw [eu] at hk
           exact hk _ _ u2_self u2_self (q_ag.rf.u2 ⟨rfl, rfl⟩) (q_aL.rf.u2 ⟨rfl, rfl⟩))
        | (have eu : o_upd (o_ts c lo la c) (o_nm la c) b = (o_ts c lo la c, o_nm la c) := if_pos (Or.inr (Int64.not_le.mp (fun q => h104 (q_lcmp.2.2.1.mpr q))))
           rw [eu] at hk
           exact hk _ _ u2_self u2_self (q_ag.rf.u2 ⟨rfl, rfl⟩) (q_aL.rf.u2 ⟨rfl, rfl⟩))
        | (have eu : o_upd (o_ts c lo la c) (o_nm la c) b = b := if_neg (fun q => q.elim (fun w => h95 (q_lcmp.2.1.mpr w)) (fun w => absurd w (Int64.not_lt.mpr (q_lcmp.2.2.1.mp h104))))
           rw [eu] at hk
           exact hk _ _ hb1 hb2 q_ag.rf q_aL.rf)
    · refine r_ald0 f_R_tryRow_107 ?_
      refine r_lld2 f_R_tryRow_108 ?_
      refine r_pl f_R_tryRow_109 (s_95) ?_
      refine r_ald0 f_R_tryRow_112 ?_
      refine r_ild4 f_R_tryRow_113 ?_
      refine r_pi f_R_tryRow_115 (s_95) ?_
      refine r_ret f_R_tryRow_118 rfl (Nat.le_refl _) (Nat.le_refl _) ?_
      first
        | (have eu : o_upd (o_ts c lo la c) (o_nm la c) b = (o_ts c lo la c, o_nm la c) := if_pos (Or.inl (q_lcmp.2.1.mp h95))
           rw [eu] at hk
           exact hk _ _ u2_self u2_self (q_ag.rf.u2 ⟨rfl, rfl⟩) (q_aL.rf.u2 ⟨rfl, rfl⟩))
        | (have eu : o_upd (o_ts c lo la c) (o_nm la c) b = (o_ts c lo la c, o_nm la c) := if_pos (Or.inr (Int64.not_le.mp (fun q => h104 (q_lcmp.2.2.1.mpr q))))
           rw [eu] at hk
           exact hk _ _ u2_self u2_self (q_ag.rf.u2 ⟨rfl, rfl⟩) (q_aL.rf.u2 ⟨rfl, rfl⟩))
        | (have eu : o_upd (o_ts c lo la c) (o_nm la c) b = b := if_neg (fun q => q.elim (fun w => h95 (q_lcmp.2.1.mpr w)) (fun w => absurd w (Int64.not_lt.mpr (q_lcmp.2.2.1.mp h104))))
           rw [eu] at hk
           exact hk _ _ hb1 hb2 q_ag.rf q_aL.rf)
/-- the search's state: the farms laid in the places before pl, x in row[pl], which are in use, the least so far -/
def BS (c : Nat) (lo : Nat → Nat → Nat → Int64) (la : Nat → Nat) (usd : Nat → Bool) (pl : Nat) (x : Int32) (b : Int64 × Int32) (I : Rn) (L : Rl) : Prop :=
  I 96 10 = nI c ∧ q_lb lo c L ∧ (∀ j, j < pl → I 102 j = nI (la j) ∧ la j < c) ∧ I 102 pl = x ∧ (∀ j, pl < j → j < 8 → I 102 j = -1) ∧ (∀ f, f < 8 → I 103 f = bI (usd f)) ∧ (∀ i j, i < pl → j < pl → la i = la j → i = j) ∧ (∀ j, j < pl → usd (la j) = true) ∧ L 95 23 = b.1 ∧ I 95 22 = b.2
theorem BS.row {la : Nat → Nat} {usd : Nat → Bool} {pl : Nat} {x y : Int32} {b : Int64 × Int32} (h : BS c lo la usd pl x b I L) : BS c lo la usd pl y b (u2 I 102 pl y) L := by
  obtain ⟨h1, h2, h3, h4, h5, h6, h7, h8, h9, h10⟩ := h
  exact ⟨(u2_ne (Or.inl (by decide))).trans h1, h2, fun j hj => ⟨(u2_ne (Or.inr (by omega))).trans (h3 j hj).1, (h3 j hj).2⟩, u2_self, fun j a1 a2 => (u2_ne (Or.inr (by omega))).trans (h5 j a1 a2), fun f hf => (u2_ne (Or.inl (by decide))).trans (h6 f hf), h7, h8, h9, (u2_ne (Or.inl (by decide))).trans h10⟩
theorem BS.down {la : Nat → Nat} {usd : Nat → Bool} {pl f : Nat} {b : Int64 × Int32} (h : BS c lo la usd pl (nI f) b I L) (hf : f < c) (hc : c ≤ 7) (hp : pl < c) (hu : usd f = false) : BS c lo (o_la la pl f) (o_us usd f) (pl + 1) (-1) b (u2 I 103 f 1) L := by
  obtain ⟨h1, h2, h3, h4, h5, h6, h7, h8, h9, h10⟩ := h
  have hlaj : ∀ j, j < pl → o_la la pl f j = la j := fun j hj => if_neg (by omega)
  have hlap : o_la la pl f pl = f := if_pos rfl
  have hnf : ∀ j, j < pl → la j ≠ f := fun j hj e => by
    have := h8 j hj
    rw [e, hu] at this
    cases this
  refine ⟨(u2_ne (Or.inl (by decide))).trans h1, h2, fun j hj => ?_, (u2_ne (Or.inl (by decide))).trans (h5 _ (by omega) (by omega)), fun j a1 a2 => (u2_ne (Or.inl (by decide))).trans (h5 j (by omega) a2), fun g hg => ?_, fun i j hi hj e => ?_, fun j hj => ?_, h9, (u2_ne (Or.inl (by decide))).trans h10⟩
  · rw [u2_ne (Or.inl (by decide))]
    by_cases e : j = pl
    · rw [e, hlap]
      exact ⟨h4, hf⟩
    · rw [hlaj j (by omega)]
      exact h3 j (by omega)
  · unfold o_us
    by_cases e : g = f
    · rw [e, u2_self, if_pos rfl]
      rfl
    · rw [u2_ne (Or.inr e), if_neg e]
      exact h6 g hg
  · by_cases ei : i = pl
    · by_cases ej : j = pl
      · omega
      · rw [ei, hlap, hlaj j (by omega)] at e
        exact absurd e.symm (hnf j (by omega))
    · by_cases ej : j = pl
      · rw [ej, hlap, hlaj i (by omega)] at e
        exact absurd e (hnf i (by omega))
      · rw [hlaj i (by omega), hlaj j (by omega)] at e
        exact h7 i j (by omega) (by omega) e
  · unfold o_us
    by_cases e : j = pl
    · rw [e, hlap, if_pos rfl]
    · rw [hlaj j (by omega)]
      by_cases e2 : la j = f
      · rw [if_pos e2]
      · rw [if_neg e2]
        exact h8 j (by omega)
theorem BS.up {la : Nat → Nat} {usd : Nat → Bool} {pl f : Nat} {b : Int64 × Int32} (h : BS c lo (o_la la pl f) (o_us usd f) (pl + 1) (-1) b I L) (h8' : ∀ j, j < pl → usd (la j) = true) (hf : f < c) (hc : c ≤ 7) (hp : pl < c) (hu : usd f = false) : I 102 pl = nI f ∧ BS c lo la usd pl (nI f) b (u2 I 103 f 0) L := by
  obtain ⟨h1, h2, h3, h4, h5, h6, h7, h8, h9, h10⟩ := h
  have hlaj : ∀ j, j < pl → o_la la pl f j = la j := fun j hj => if_neg (by omega)
  have hlap : o_la la pl f pl = f := if_pos rfl
  have e0 : I 102 pl = nI f := by
    have := (h3 pl (by omega)).1
    rw [hlap] at this
    exact this
  refine ⟨e0, (u2_ne (Or.inl (by decide))).trans h1, h2, fun j hj => ?_, (u2_ne (Or.inl (by decide))).trans e0, fun j a1 a2 => ?_, fun g hg => ?_, fun i j hi hj e => h7 i j (by omega) (by omega) (by rw [hlaj i hi, hlaj j hj]; exact e), h8', h9, (u2_ne (Or.inl (by decide))).trans h10⟩
  · rw [u2_ne (Or.inl (by decide)), ← hlaj j hj]
    exact h3 j (by omega)
  · rw [u2_ne (Or.inl (by decide))]
    by_cases e : j = pl + 1
    · rw [e]
      exact h4
    · exact h5 j (by omega) a2
  · by_cases e : g = f
    · rw [e, u2_self, hu]
      rfl
    · rw [u2_ne (Or.inr e), h6 g hg]
      unfold o_us
      rw [if_neg e]
theorem FM_102 {y : Nat} : FM 102 y := by unfold FM; omega
theorem FM_103 {y : Nat} : FM 103 y := by unfold FM; omega
theorem k_R_fbi {m pl : Nat} {la : Nat → Nat} {usd : Nat → Bool} (hc : c ≤ 7) (hpl : pl < c)
    (ih : ∀ (la : Nat → Nat) (usd : Nat → Bool) (b : Int64 × Int32) (I : Rn) (L : Rl), BS c lo la usd (pl + 1) (-1) b I L → (∀ I' L', BS c lo la usd (pl + 1) (-1) (o_all c lo m (pl + 1) usd la b) I' L' → q_ag FM I I' → q_aL FML L L' → WW G (d + 1) mt_R_findBest 49 [some (.ref 95), some (.int (nI c)), some (.int (nI (pl + 1) - 1))] [] SH RF I' L' 0 0 0 0 K) → WW G (d + 1) mt_R_findBest 49 [some (.ref 95), some (.int (nI c)), some (.int (nI (pl + 1)))] [] SH RF I L 0 0 0 0 K) :
    ∀ (k f : Nat) (b : Int64 × Int32) (I : Rn) (L : Rl), k + f = c → BS c lo la usd pl (nI f) b I L → (∀ I' L', BS c lo la usd pl (-1) (o_fold (fun f b => if usd f = true then b else o_all c lo m (pl + 1) (o_us usd f) (o_la la pl f) b) k f b) I' L' → q_ag FM I I' → q_aL FML L L' → WW G (d + 1) mt_R_findBest 49 [some (.ref 95), some (.int (nI c)), some (.int (nI pl - 1))] [] SH RF I' L' 0 0 0 0 K) → WW G (d + 1) mt_R_findBest 99 [some (.ref 95), some (.int (nI c)), some (.int (nI pl))] [] SH RF I L 0 0 0 0 K
  | 0, f, b, I, L, h, hB, hk => by
    have ef : f = c := by omega
    subst ef
    have hB4 := hB.2.2.2.1
    refine r_ald0 f_R_findBest_99 ?_
    refine r_gr f_R_findBest_100 (s_95) (r_95_20) ?_
    refine r_ild2 f_R_findBest_103 ?_
    refine r_iald f_R_findBest_104 (s_102) (q_ix.nI (show pl < 8 by omega) (by decide)) ?_
    rw [hB4]
    refine r_ild1 f_R_findBest_105 ?_
    refine r_ic_ge f_R_findBest_106 (fun h106 => ?_) (fun h106 => absurd h106 (fun q => q (Int32.le_refl _)))
    refine r_ald0 f_R_findBest_136 ?_
    refine r_gr f_R_findBest_137 (s_95) (r_95_20) ?_
    refine r_ild2 f_R_findBest_140 ?_
    refine r_iald f_R_findBest_141 (s_102) (q_ix.nI (show pl < 8 by omega) (by decide)) ?_
    rw [hB4]
    refine r_ild1 f_R_findBest_142 ?_
    refine r_ic_ne f_R_findBest_143 (fun h143 => absurd h143 (fun q => q rfl)) (fun h143 => ?_)
    refine r_ald0 f_R_findBest_146 ?_
    refine r_gr f_R_findBest_147 (s_95) (r_95_20) ?_
    refine r_ild2 f_R_findBest_150 ?_
    refine r_ic f_R_findBest_151 ?_
    refine r_iast f_R_findBest_152 (s_102) (q_ix.nI (show pl < 8 by omega) (by decide)) ?_
    refine r_inc2 f_R_findBest_153 rfl ?_
    rw [show nI pl + -1 = nI pl - 1 from (Int32.sub_eq_add_neg _ _).symm]
    refine r_goto f_R_findBest_156 ?_
    exact hk _ L hB.row (q_ag.rf.u2 FM_102) q_aL.rf
  | k + 1, f, b, I, L, h, hB, hk => by
    have hB4 := hB.2.2.2.1
    have hB6 := hB.2.2.2.2.2.1 f (by omega)
    have hfc : f < c := by omega
    cases hu : usd f with
    | true =>
      rw [hu] at hB6
      replace hB6 : I 103 f = 1 := hB6
      rw [show o_fold (fun f b => if usd f = true then b else o_all c lo m (pl + 1) (o_us usd f) (o_la la pl f) b) (k + 1) f b = o_fold (fun f b => if usd f = true then b else o_all c lo m (pl + 1) (o_us usd f) (o_la la pl f) b) k (f + 1) b from by
        show o_fold _ k (f + 1) (if usd f = true then b else _) = _
        rw [if_pos hu]] at hk
      refine r_ald0 f_R_findBest_99 ?_
      refine r_gr f_R_findBest_100 (s_95) (r_95_20) ?_
      refine r_ild2 f_R_findBest_103 ?_
      refine r_iald f_R_findBest_104 (s_102) (q_ix.nI (show pl < 8 by omega) (by decide)) ?_
      rw [hB4]
      refine r_ild1 f_R_findBest_105 ?_
      refine r_ic_ge f_R_findBest_106 (fun h106 => absurd h106 (nI_ge (by omega) (by omega))) (fun h106 => ?_)
      refine r_ald0 f_R_findBest_109 ?_
      refine r_gr f_R_findBest_110 (s_95) (r_95_21) ?_
      refine r_ald0 f_R_findBest_113 ?_
      refine r_gr f_R_findBest_114 (s_95) (r_95_20) ?_
      refine r_ild2 f_R_findBest_117 ?_
      refine r_iald f_R_findBest_118 (s_102) (q_ix.nI (show pl < 8 by omega) (by decide)) ?_
      rw [hB4]
      refine r_zald f_R_findBest_119 (s_103) (q_ix.nI (show f < 8 by omega) (by decide)) ?_
      rw [hB6]
      refine r_if_eq f_R_findBest_120 (fun h120 => absurd h120 (by decide)) (fun h120 => ?_)
      refine r_ald0 f_R_findBest_123 ?_
      refine r_gr f_R_findBest_124 (s_95) (r_95_20) ?_
      refine r_ild2 f_R_findBest_127 ?_
      refine r_dup2 f_R_findBest_128 ?_
      refine r_iald f_R_findBest_129 (s_102) (q_ix.nI (show pl < 8 by omega) (by decide)) ?_
      rw [hB4]
      refine r_ic f_R_findBest_130 ?_
      refine r_iadd f_R_findBest_131 ?_
      rw [nI_1]
      refine r_iast f_R_findBest_132 (s_102) (q_ix.nI (show pl < 8 by omega) (by decide)) ?_
      refine r_goto f_R_findBest_133 ?_
      exact k_R_fbi hc hpl ih k (f + 1) b _ L (by omega) hB.row (fun I' L' hB' hg hl => hk I' L' hB' ((q_ag.rf.u2 FM_102).tr hg) hl)
    | false =>
      rw [hu] at hB6
      replace hB6 : I 103 f = 0 := hB6
      rw [show o_fold (fun f b => if usd f = true then b else o_all c lo m (pl + 1) (o_us usd f) (o_la la pl f) b) (k + 1) f b = o_fold (fun f b => if usd f = true then b else o_all c lo m (pl + 1) (o_us usd f) (o_la la pl f) b) k (f + 1) (o_all c lo m (pl + 1) (o_us usd f) (o_la la pl f) b) from by
        show o_fold _ k (f + 1) (if usd f = true then b else _) = _
        rw [if_neg (by rw [hu]; decide)]] at hk
      refine r_ald0 f_R_findBest_99 ?_
      refine r_gr f_R_findBest_100 (s_95) (r_95_20) ?_
      refine r_ild2 f_R_findBest_103 ?_
      refine r_iald f_R_findBest_104 (s_102) (q_ix.nI (show pl < 8 by omega) (by decide)) ?_
      rw [hB4]
      refine r_ild1 f_R_findBest_105 ?_
      refine r_ic_ge f_R_findBest_106 (fun h106 => absurd h106 (nI_ge (by omega) (by omega))) (fun h106 => ?_)
      refine r_ald0 f_R_findBest_109 ?_
      refine r_gr f_R_findBest_110 (s_95) (r_95_21) ?_
      refine r_ald0 f_R_findBest_113 ?_
      refine r_gr f_R_findBest_114 (s_95) (r_95_20) ?_
      refine r_ild2 f_R_findBest_117 ?_
      refine r_iald f_R_findBest_118 (s_102) (q_ix.nI (show pl < 8 by omega) (by decide)) ?_
      rw [hB4]
      refine r_zald f_R_findBest_119 (s_103) (q_ix.nI (show f < 8 by omega) (by decide)) ?_
      rw [hB6]
      refine r_if_eq f_R_findBest_120 (fun h120 => ?_) (fun h120 => absurd rfl h120)
      refine r_ald0 f_R_findBest_136 ?_
      refine r_gr f_R_findBest_137 (s_95) (r_95_20) ?_
      refine r_ild2 f_R_findBest_140 ?_
      refine r_iald f_R_findBest_141 (s_102) (q_ix.nI (show pl < 8 by omega) (by decide)) ?_
      rw [hB4]
      refine r_ild1 f_R_findBest_142 ?_
      refine r_ic_ne f_R_findBest_143 (fun h143 => ?_) (fun h143 => absurd ((nI_eq (by omega) (by omega)).mp h143) (by omega))
      refine r_ald0 f_R_findBest_159 ?_
      refine r_gr f_R_findBest_160 (s_95) (r_95_21) ?_
      refine r_ald0 f_R_findBest_163 ?_
      refine r_gr f_R_findBest_164 (s_95) (r_95_20) ?_
      refine r_ild2 f_R_findBest_167 ?_
      refine r_iald f_R_findBest_168 (s_102) (q_ix.nI (show pl < 8 by omega) (by decide)) ?_
      rw [hB4]
      refine r_ic f_R_findBest_169 ?_
      refine r_zast f_R_findBest_170 (s_103) (q_ix.nI (show f < 8 by omega) (by decide)) (Or.inr rfl) ?_
      refine r_inc2 f_R_findBest_171 rfl ?_
      rw [nI_1]
      refine r_goto f_R_findBest_174 ?_
      refine ih (o_la la pl f) (o_us usd f) b _ L (hB.down hfc hc hpl hu) (fun I2 L2 hB2 g2 l2 => ?_)
      obtain ⟨e0, hB3⟩ := hB2.up hB.2.2.2.2.2.2.2.1 hfc hc hpl hu
      rw [nI_pred]
      refine r_ild2 f_R_findBest_49 ?_
      refine r_if_lt f_R_findBest_50 (fun h50 => absurd h50 (nI_pos (by omega))) (fun h50 => ?_)
      refine r_ild2 f_R_findBest_53 ?_
      refine r_ild1 f_R_findBest_54 ?_
      refine r_ic_ne f_R_findBest_55 (fun h55 => ?_) (fun h55 => absurd ((nI_eq (by omega) (by omega)).mp h55) (by omega))
      refine r_ald0 f_R_findBest_68 ?_
      refine r_gr f_R_findBest_69 (s_95) (r_95_20) ?_
      refine r_ild2 f_R_findBest_72 ?_
      refine r_iald f_R_findBest_73 (s_102) (q_ix.nI (show pl < 8 by omega) (by decide)) ?_
      rw [e0]
      refine r_if_lt f_R_findBest_74 (fun h74 => absurd h74 (nI_pos (by omega))) (fun h74 => ?_)
      refine r_ald0 f_R_findBest_77 ?_
      refine r_gr f_R_findBest_78 (s_95) (r_95_21) ?_
      refine r_ald0 f_R_findBest_81 ?_
      refine r_gr f_R_findBest_82 (s_95) (r_95_20) ?_
      refine r_ild2 f_R_findBest_85 ?_
      refine r_iald f_R_findBest_86 (s_102) (q_ix.nI (show pl < 8 by omega) (by decide)) ?_
      rw [e0]
      refine r_ic f_R_findBest_87 ?_
      refine r_zast f_R_findBest_88 (s_103) (q_ix.nI (show f < 8 by omega) (by decide)) (Or.inl rfl) ?_
      refine r_ald0 f_R_findBest_89 ?_
      refine r_gr f_R_findBest_90 (s_95) (r_95_20) ?_
      refine r_ild2 f_R_findBest_93 ?_
      refine r_dup2 f_R_findBest_94 ?_
      refine r_iald f_R_findBest_95 (s_102) (q_ix.nI (show pl < 8 by omega) (by decide)) ?_
      rw [show u2 I2 103 f 0 102 pl = nI f from (u2_ne (Or.inl (by decide))).trans e0]
      refine r_ic f_R_findBest_96 ?_
      refine r_iadd f_R_findBest_97 ?_
      rw [nI_1]
      refine r_iast f_R_findBest_98 (s_102) (q_ix.nI (show pl < 8 by omega) (by decide)) ?_
      exact k_R_fbi hc hpl ih k (f + 1) _ _ L2 (by omega) hB3.row (fun I' L' hB' hg hl => hk I' L' hB' ((((q_ag.rf.u2 FM_103).tr g2).tr ((q_ag.rf.u2 FM_103).u2 FM_102)).tr hg) (l2.tr hl))
theorem o_ne {la : Nat → Nat} (h2 : 2 ≤ c) (hi : ∀ i j, i < c → j < c → la i = la j → i = j) : ∀ j, j < c → la j ≠ la (o_nx c j) := fun j hj e => by
  have := hi _ _ hj (o_nx_lt hj) e
  unfold o_nx at this
  split at this <;> omega
theorem k_R_fb (hc : c ≤ 7) (h2 : 2 ≤ c) : ∀ (m pl : Nat) (la : Nat → Nat) (usd : Nat → Bool) (b : Int64 × Int32) (I : Rn) (L : Rl), m + pl = c → BS c lo la usd pl (-1) b I L → (∀ I' L', BS c lo la usd pl (-1) (o_all c lo m pl usd la b) I' L' → q_ag FM I I' → q_aL FML L L' → WW G (d + 1) mt_R_findBest 49 [some (.ref 95), some (.int (nI c)), some (.int (nI pl - 1))] [] SH RF I' L' 0 0 0 0 K) → WW G (d + 1) mt_R_findBest 49 [some (.ref 95), some (.int (nI c)), some (.int (nI pl))] [] SH RF I L 0 0 0 0 K
  | 0, pl, la, usd, b, I, L, h, hB, hk => by
    have ep : pl = c := by omega
    subst ep
    obtain ⟨h1, h2', h3, h4, h5, h6, h7, h8, h9, h10⟩ := hB
    refine r_ild2 f_R_findBest_49 ?_
    refine r_if_lt f_R_findBest_50 (fun h50 => absurd h50 (nI_pos (by omega))) (fun h50 => ?_)
    refine r_ild2 f_R_findBest_53 ?_
    refine r_ild1 f_R_findBest_54 ?_
    refine r_ic_ne f_R_findBest_55 (fun h55 => absurd h55 (fun q => q rfl)) (fun h55 => ?_)
    refine r_ald0 f_R_findBest_58 ?_
    refine c_R_tryRow f_R_findBest_59 (s_95) (Nat.le_of_ble_eq_true rfl) (Nat.le_refl _) (Nat.le_refl _) ?_
    refine k_R_tryRow (la := la) (b := b) hc h1 h2' h3 (o_ne h2 h7) h9 h10 (fun I2 L2 b1 b2 g2 l2 => ?_)
    refine r_inc2 f_R_findBest_62 rfl ?_
    rw [show nI pl + -1 = nI pl - 1 from (Int32.sub_eq_add_neg _ _).symm]
    refine r_goto f_R_findBest_65 ?_
    have gi : q_ag FM I I2 := g2.mo (fun x y q => by unfold FT1 at q; unfold FM; omega)
    have li : q_aL FML L L2 := l2.mo (fun x y q => by unfold FT2 at q; unfold FML; omega)
    refine hk I2 L2 ⟨(g2 _ _ (by unfold FT1; omega)).trans h1, fun x y p a1 a2 a3 a4 => (l2 _ _ (by unfold FT2; omega)).trans (h2' x y p a1 a2 a3 a4), fun j hj => ⟨(g2 _ _ (by unfold FT1; omega)).trans (h3 j hj).1, (h3 j hj).2⟩, (g2 _ _ (by unfold FT1; omega)).trans h4, fun j a1 a2 => (g2 _ _ (by unfold FT1; omega)).trans (h5 j a1 a2), fun f hf => (g2 _ _ (by unfold FT1; omega)).trans (h6 f hf), h7, h8, b1, b2⟩ gi li
  | m + 1, pl, la, usd, b, I, L, h, hB, hk => by
    have hB4 := hB.2.2.2.1
    have hpl : pl < c := by omega
    refine r_ild2 f_R_findBest_49 ?_
    refine r_if_lt f_R_findBest_50 (fun h50 => absurd h50 (nI_pos (by omega))) (fun h50 => ?_)
    refine r_ild2 f_R_findBest_53 ?_
    refine r_ild1 f_R_findBest_54 ?_
    refine r_ic_ne f_R_findBest_55 (fun h55 => ?_) (fun h55 => absurd ((nI_eq (by omega) (by omega)).mp h55) (by omega))
    refine r_ald0 f_R_findBest_68 ?_
    refine r_gr f_R_findBest_69 (s_95) (r_95_20) ?_
    refine r_ild2 f_R_findBest_72 ?_
    refine r_iald f_R_findBest_73 (s_102) (q_ix.nI (show pl < 8 by omega) (by decide)) ?_
    rw [hB4]
    refine r_if_lt f_R_findBest_74 (fun h74 => ?_) (fun h74 => absurd (by decide) h74)
    refine r_ald0 f_R_findBest_89 ?_
    refine r_gr f_R_findBest_90 (s_95) (r_95_20) ?_
    refine r_ild2 f_R_findBest_93 ?_
    refine r_dup2 f_R_findBest_94 ?_
    refine r_iald f_R_findBest_95 (s_102) (q_ix.nI (show pl < 8 by omega) (by decide)) ?_
    rw [hB4]
    refine r_ic f_R_findBest_96 ?_
    refine r_iadd f_R_findBest_97 ?_
    rw [show (-1 : Int32) + 1 = nI 0 from by decide]
    refine r_iast f_R_findBest_98 (s_102) (q_ix.nI (show pl < 8 by omega) (by decide)) ?_
    exact k_R_fbi (la := la) (usd := usd) hc hpl (fun la usd b I L hB hk => k_R_fb hc h2 m (pl + 1) la usd b I L (by omega) hB hk) c 0 b _ L (Nat.add_zero _) hB.row (fun I' L' hB' hg hl => hk I' L' hB' ((q_ag.rf.u2 FM_102).tr hg) hl)
theorem k_R_fb_init {J : Rn} (hJ : ∀ y, y < 8 → True) (hk : ∀ I', (∀ j, j < 8 → I' 102 j = -1 ∧ I' 103 j = 0) → q_ag (fun x _ => x = 102 ∨ x = 103) I I' → WW G (d + 1) mt_R_findBest 47 [some (.ref 95), some (.int (nI c)), none] [] SH RF I' L 0 0 0 0 K) : ∀ (m k : Nat) (I' : Rn), m + k = 8 → (∀ j, j < k → I' 102 j = -1 ∧ I' 103 j = 0) → q_ag (fun x _ => x = 102 ∨ x = 103) I I' → WW G (d + 1) mt_R_findBest 21 [some (.ref 95), some (.int (nI c)), some (.int (nI k))] [] SH RF I' L 0 0 0 0 K
  | 0, k, I', h, hj, hg => by
    have ek : k = 8 := by omega
    subst ek
    refine r_ild2 f_R_findBest_21 ?_
    refine r_ic f_R_findBest_22 ?_
    refine r_ic_ge f_R_findBest_24 (fun h24 => ?_) (fun h24 => absurd h24 (fun q => q (Int32.le_refl _)))
    refine r_drop2 ?_
    exact hk I' hj hg
  | m + 1, k, I', h, hj, hg => by
    refine r_ild2 f_R_findBest_21 ?_
    refine r_ic f_R_findBest_22 ?_
    refine r_ic_ge f_R_findBest_24 (fun h24 => absurd h24 (nI_ge (b := 8) (by omega) (by decide))) (fun h24 => ?_)
    refine r_ald0 f_R_findBest_27 ?_
    refine r_gr f_R_findBest_28 (s_95) (r_95_21) ?_
    refine r_ild2 f_R_findBest_31 ?_
    refine r_ic f_R_findBest_32 ?_
    refine r_zast f_R_findBest_33 (s_103) (q_ix.nI (show k < 8 by omega) (by decide)) (Or.inl rfl) ?_
    refine r_ald0 f_R_findBest_34 ?_
    refine r_gr f_R_findBest_35 (s_95) (r_95_20) ?_
    refine r_ild2 f_R_findBest_38 ?_
    refine r_ic f_R_findBest_39 ?_
    refine r_iast f_R_findBest_40 (s_102) (q_ix.nI (show k < 8 by omega) (by decide)) ?_
    refine r_inc2 f_R_findBest_41 rfl ?_
    rw [nI_1]
    refine r_goto f_R_findBest_44 ?_
    refine k_R_fb_init (J := J) hJ hk m (k + 1) _ (by omega) (fun j hj2 => ?_) ((hg.u2 (Or.inr rfl)).u2 (Or.inl rfl))
    by_cases e : j = k
    · rw [e]
      exact ⟨u2_self, (u2_ne (Or.inl (by decide))).trans u2_self⟩
    · exact ⟨(u2_ne (Or.inr e)).trans ((u2_ne (Or.inl (by decide))).trans (hj j (by omega)).1), (u2_ne (Or.inl (by decide))).trans ((u2_ne (Or.inr e)).trans (hj j (by omega)).2)⟩
theorem k_R_findBest (hW : WFd D) (h7 : dC D ≤ 7) (h2 : 2 ≤ dC D) (hR : RR I 96 D) (hk : ∀ I' L' x, L' 95 23 = (o_all (dC D) (sp_lo D) (dC D) 0 (fun _ => false) (fun _ => 0) (-1, x)).1 → I' 95 22 = (o_all (dC D) (sp_lo D) (dC D) 0 (fun _ => false) (fun _ => 0) (-1, x)).2 → q_ag FM I I' → q_aL FML L L' → K none SH RF I' L') : WW G (d + 6) mt_R_findBest 0 [some (.ref 95), none, none] [] SH RF I L 0 0 0 0 K := by
  generalize hc : dC D = c at h7 h2
  refine r_ald0 f_R_findBest_0 ?_
  refine r_gr f_R_findBest_1 (s_95) (r_95_0) ?_
  refine r_ic f_R_findBest_4 ?_
  refine r_iald f_R_findBest_6 (s_96) (show q_ix 10 10 136 from ⟨by decide, by decide⟩) ?_
  rw [hR.cnt hW, hc]
  refine r_ist1 f_R_findBest_7 rfl ?_
  refine r_ald0 f_R_findBest_8 ?_
  refine c_R_findLost f_R_findBest_9 (s_95) (Nat.le_of_ble_eq_true rfl) (Nat.le_refl _) (Nat.le_refl _) ?_
  refine k_R_findLost hW (by omega) hR (fun I1 L1 hb1 g1 l1 => ?_)
  rw [hc] at hb1
  refine r_ald0 f_R_findBest_12 ?_
  refine r_lc f_R_findBest_13 ?_
  refine r_pl f_R_findBest_16 (s_95) ?_
  refine r_ic f_R_findBest_19 ?_
  refine r_ist2 f_R_findBest_20 rfl ?_
  refine k_R_fb_init (J := I) (fun _ _ => trivial) (fun I3 hj3 g3 => ?_) 8 0 I1 rfl (fun j hj => absurd hj (Nat.not_lt_zero j)) q_ag.rf
  refine r_ic f_R_findBest_47 ?_
  refine r_ist2 f_R_findBest_48 rfl ?_
  have hcn : I3 96 10 = nI c := (g3 _ _ (by omega)).trans ((g1 _ _ (by unfold FRm; omega)).trans ((hR.cnt hW).trans (by rw [hc])))
  have g13 : q_ag FM I I3 := (g1.mo FRm_FM).tr (g3.mo (fun x y q => by unfold FM; omega))
  have l13 : q_aL FML L (u2 L1 95 23 (-1)) := l1.u2 (Or.inl rfl)
  refine k_R_fb (d := d + 5) (lo := sp_lo D) h7 h2 c 0 (fun _ => 0) (fun _ => false) (-1, I3 95 22) I3 _ (Nat.add_zero _) ⟨hcn, fun x y p a1 a2 a3 a4 => (u2_ne (Or.inl (by decide))).trans (hb1 x y p a1 a2 a3 a4), fun j hj => absurd hj (Nat.not_lt_zero j), (hj3 0 (by decide)).1, fun j _ a2 => (hj3 j a2).1, fun f hf => (hj3 f hf).2, fun i j hi => absurd hi (Nat.not_lt_zero i), fun j hj => absurd hj (Nat.not_lt_zero j), u2_self, rfl⟩ (fun I9 L9 hB g9 l9 => ?_)
  rw [show nI 0 - 1 = -1 from by decide]
  refine r_ild2 f_R_findBest_49 ?_
  refine r_if_lt f_R_findBest_50 (fun _ => ?_) (fun h => absurd h (by decide))
  refine r_ret f_R_findBest_177 rfl (Nat.le_refl _) (Nat.le_refl _) ?_
  exact hk I9 L9 _ (by rw [hc]; exact hB.2.2.2.2.2.2.2.2.1) (by rw [hc]; exact hB.2.2.2.2.2.2.2.2.2) (g13.tr g9) (l13.tr l9)
end L60
