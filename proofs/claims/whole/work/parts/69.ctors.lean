/-! THE CONSTRUCTORS -/
def q_tb {α : Type} (e : α) (l : List (Nat × Nat × α)) : Nat → Nat → α := fun x y => match l.find? (fun q => q.1 == x && q.2.1 == y) with
  | some q => q.2.2
  | none => e
section L69
variable {G : Gx} {d : Nat} {M : Mt} {pc nx : Nat} {ls : List (Option Value)} {st : List Value} {S : Shp} {R R' : Rf} {I I' : Rn} {L L' : Rl} {ce sl mc ms : Nat} {K : Kt} {H : Heap}
theorem WW.sh (h : WW G d M pc ls st SH R I L ce sl mc ms K) (e : S = SH) : WW G d M pc ls st S R I L ce sl mc ms K := e ▸ h
theorem q_SHl : SH.length = 113 := rfl
theorem tk_len {i : Nat} (h : i ≤ 113) : (SH.take i).length = i := by rw [List.length_take, q_SHl]; omega
theorem tk_s {i : Nat} {x : Nat × Nat} (h : SH[i]? = some x) : SH.take i ++ [x] = SH.take (i + 1) := by rw [List.take_succ, h]; rfl
theorem tk_lt {i : Nat} {x : Nat × Nat} (h : SH[i]? = some x) : i < 113 := (List.getElem?_eq_some_iff.mp h).1
theorem t_new {k n i : Nat} (hd : Fn M pc k n nx) (h1 : SH[i]? = some (k, n)) (hc : ce + 1 ≤ mc) (hs : sl + n ≤ ms) (kk : WW G d M nx ls (.ref i :: st) (SH.take (i + 1)) (q_clr R i none) (q_clr I i 0) (q_clr L i 0) (ce + 1) (sl + n) mc ms K) : WW G d M pc ls st (SH.take i) R I L ce sl mc ms K := by
  have hi := tk_lt h1
  have hl := tk_len (i := i) (by omega)
  refine r_new hd (by rw [hl]; omega) hc hs ?_
  rw [hl, tk_s h1]
  exact kk
theorem t_newa {k n i : Nat} {x : Int32} (hd : Fna M pc k nx) (h1 : SH[i]? = some (k, n)) (hx : x.toInt = (n : Int)) (hn : n ≤ 1000) (hc : ce + 1 ≤ mc) (hs : sl + n ≤ ms) (kk : WW G d M nx ls (.ref i :: st) (SH.take (i + 1)) (q_clr R i none) (q_clr I i 0) (q_clr L i 0) (ce + 1) (sl + n) mc ms K) : WW G d M pc ls (.int x :: st) (SH.take i) R I L ce sl mc ms K := by
  have hi := tk_lt h1
  have hl := tk_len (i := i) (by omega)
  refine r_newa hd hx hn (by rw [hl]; omega) hc hs ?_
  rw [hl, tk_s h1]
  exact kk
theorem t_newq {k n i : Nat} {x : Int32} (hd : Fnq M pc k nx) (h1 : SH[i]? = some (k, n)) (hx : x.toInt = (n : Int)) (hn : n ≤ 1000) (hc : ce + 1 ≤ mc) (hs : sl + n ≤ ms) (kk : WW G d M nx ls (.ref i :: st) (SH.take (i + 1)) (q_clr R i none) (q_clr I i 0) (q_clr L i 0) (ce + 1) (sl + n) mc ms K) : WW G d M pc ls (.int x :: st) (SH.take i) R I L ce sl mc ms K := by
  have hi := tk_lt h1
  have hl := tk_len (i := i) (by omega)
  refine r_newq hd hx hn (by rw [hl]; omega) hc hs ?_
  rw [hl, tk_s h1]
  exact kk
theorem t_mna {i : Nat} (hd : Fmn M pc nx) (h1 : SH.take i ++ [(25, 4), (21, 40), (21, 40), (21, 40), (21, 40)] = SH.take (i + 5)) (hc : ce + 5 ≤ mc) (hs : sl + 164 ≤ ms) (kk : WW G d M nx ls (.ref i :: st) (SH.take (i + 5)) (q_mR R i) (q_mC I i 0) (q_mC L i 0) (ce + 5) (sl + 164) mc ms K) : WW G d M pc ls (.int 40 :: .int 4 :: st) (SH.take i) R I L ce sl mc ms K := by
  have hi : i + 5 ≤ 113 := by
    have := congrArg List.length h1
    rw [List.length_append, List.length_take, List.length_take, q_SHl] at this
    simp only [List.length_cons, List.length_nil] at this
    omega
  have hl := tk_len (i := i) (by omega)
  refine r_mna hd (by rw [hl]; omega) hc hs ?_
  rw [hl, h1]
  exact kk
theorem c_F_init {i mc' ms' : Nat} (hs : q_CI M pc mt_F_init nx) (hr : (st.map fun v => v.category).sum ≤ 8) (hc : ce + mc' ≤ mc) (hl : sl + ms' ≤ ms) (h : WW G d mt_F_init 0 [some (.ref i)] [] S R I L 0 0 mc' ms' (fun v S R I L => WW G (d + 1) M nx ls (q_psh v st) S R I L (ce + mc') (sl + ms') mc ms K)) : WW G (d + 1) M pc ls (.ref i :: st) S R I L ce sl mc ms K := r_ci (as := []) hs m_F_init (Nat.le_of_ble_eq_true rfl) hr hc hl h
theorem c_M_init {i mc' ms' : Nat} (hs : q_CI M pc mt_M_init nx) (hr : (st.map fun v => v.category).sum ≤ 8) (hc : ce + mc' ≤ mc) (hl : sl + ms' ≤ ms) (h : WW G d mt_M_init 0 [some (.ref i)] [] S R I L 0 0 mc' ms' (fun v S R I L => WW G (d + 1) M nx ls (q_psh v st) S R I L (ce + mc') (sl + ms') mc ms K)) : WW G (d + 1) M pc ls (.ref i :: st) S R I L ce sl mc ms K := r_ci (as := []) hs m_M_init (Nat.le_of_ble_eq_true rfl) hr hc hl h
theorem c_T_init {i mc' ms' : Nat} (hs : q_CI M pc mt_T_init nx) (hr : (st.map fun v => v.category).sum ≤ 8) (hc : ce + mc' ≤ mc) (hl : sl + ms' ≤ ms) (h : WW G d mt_T_init 0 [some (.ref i)] [] S R I L 0 0 mc' ms' (fun v S R I L => WW G (d + 1) M nx ls (q_psh v st) S R I L (ce + mc') (sl + ms') mc ms K)) : WW G (d + 1) M pc ls (.ref i :: st) S R I L ce sl mc ms K := r_ci (as := []) hs m_T_init (Nat.le_of_ble_eq_true rfl) hr hc hl h
theorem c_D_init {i mc' ms' : Nat} (hs : q_CI M pc mt_D_init nx) (hr : (st.map fun v => v.category).sum ≤ 8) (hc : ce + mc' ≤ mc) (hl : sl + ms' ≤ ms) (h : WW G d mt_D_init 0 [some (.ref i), none] [] S R I L 0 0 mc' ms' (fun v S R I L => WW G (d + 1) M nx ls (q_psh v st) S R I L (ce + mc') (sl + ms') mc ms K)) : WW G (d + 1) M pc ls (.ref i :: st) S R I L ce sl mc ms K := r_ci (as := []) hs m_D_init (Nat.le_of_ble_eq_true rfl) hr hc hl h
theorem c_O_init {i mc' ms' : Nat} (hs : q_CI M pc mt_O_init nx) (hr : (st.map fun v => v.category).sum ≤ 8) (hc : ce + mc' ≤ mc) (hl : sl + ms' ≤ ms) (h : WW G d mt_O_init 0 [some (.ref i)] [] S R I L 0 0 mc' ms' (fun v S R I L => WW G (d + 1) M nx ls (q_psh v st) S R I L (ce + mc') (sl + ms') mc ms K)) : WW G (d + 1) M pc ls (.ref i :: st) S R I L ce sl mc ms K := r_ci (as := []) hs m_O_init (Nat.le_of_ble_eq_true rfl) hr hc hl h
theorem c_P_init {i mc' ms' : Nat} (hs : q_CI M pc mt_P_init nx) (hr : (st.map fun v => v.category).sum ≤ 8) (hc : ce + mc' ≤ mc) (hl : sl + ms' ≤ ms) (h : WW G d mt_P_init 0 [some (.ref i)] [] S R I L 0 0 mc' ms' (fun v S R I L => WW G (d + 1) M nx ls (q_psh v st) S R I L (ce + mc') (sl + ms') mc ms K)) : WW G (d + 1) M pc ls (.ref i :: st) S R I L ce sl mc ms K := r_ci (as := []) hs m_P_init (Nat.le_of_ble_eq_true rfl) hr hc hl h
theorem c_S_init {i mc' ms' : Nat} (hs : q_CI M pc mt_S_init nx) (hr : (st.map fun v => v.category).sum ≤ 8) (hc : ce + mc' ≤ mc) (hl : sl + ms' ≤ ms) (h : WW G d mt_S_init 0 [some (.ref i)] [] S R I L 0 0 mc' ms' (fun v S R I L => WW G (d + 1) M nx ls (q_psh v st) S R I L (ce + mc') (sl + ms') mc ms K)) : WW G (d + 1) M pc ls (.ref i :: st) S R I L ce sl mc ms K := r_ci (as := []) hs m_S_init (Nat.le_of_ble_eq_true rfl) hr hc hl h
theorem c_N_init {i mc' ms' : Nat} (hs : q_CI M pc mt_N_init nx) (hr : (st.map fun v => v.category).sum ≤ 8) (hc : ce + mc' ≤ mc) (hl : sl + ms' ≤ ms) (h : WW G d mt_N_init 0 [some (.ref i)] [] S R I L 0 0 mc' ms' (fun v S R I L => WW G (d + 1) M nx ls (q_psh v st) S R I L (ce + mc') (sl + ms') mc ms K)) : WW G (d + 1) M pc ls (.ref i :: st) S R I L ce sl mc ms K := r_ci (as := []) hs m_N_init (Nat.le_of_ble_eq_true rfl) hr hc hl h
theorem c_R_init {i mc' ms' : Nat} (hs : q_CI M pc mt_R_init nx) (hr : (st.map fun v => v.category).sum ≤ 8) (hc : ce + mc' ≤ mc) (hl : sl + ms' ≤ ms) (h : WW G d mt_R_init 0 [some (.ref i)] [] S R I L 0 0 mc' ms' (fun v S R I L => WW G (d + 1) M nx ls (q_psh v st) S R I L (ce + mc') (sl + ms') mc ms K)) : WW G (d + 1) M pc ls (.ref i :: st) S R I L ce sl mc ms K := r_ci (as := []) hs m_R_init (Nat.le_of_ble_eq_true rfl) hr hc hl h
def tR_n0 : Rf := q_tb none []
def tI_n0 : Rn := q_tb 0 []
def tR_a1 : Rf := q_tb none []
def tI_a1 : Rn := q_tb 0 []
def tR_b1 : Rf := q_tb none [(1, 0, some 2), (1, 1, some 3), (1, 2, some 4), (1, 3, some 5), (1, 10, some 8), (1, 11, some 9), (2, 0, some 10), (2, 1, some 12), (2, 2, some 14), (2, 3, some 16), (2, 4, some 18), (2, 5, some 20), (2, 6, some 22), (2, 7, some 24), (5, 0, some 6), (5, 1, some 7), (8, 0, some 11), (8, 1, some 13), (8, 2, some 15), (8, 3, some 17), (8, 4, some 19), (8, 5, some 21), (8, 6, some 23), (8, 7, some 25)]
def tI_b1 : Rn := q_tb 0 [(1, 6, 1), (1, 7, 1), (4, 0, 100), (4, 1, 50), (4, 2, 10), (11, 8, 1), (11, 10, 1), (13, 8, 1), (13, 10, 1), (15, 8, 1), (15, 10, 1), (17, 8, 1), (17, 10, 1), (19, 8, 1), (19, 10, 1), (21, 8, 1), (21, 10, 1), (23, 8, 1), (23, 10, 1), (25, 8, 1), (25, 10, 1)]
set_option maxHeartbeats 8000000 in
theorem ctor_D_1 (hk : ∀ R' I' L', q_agr (SH.take 26) R' tR_b1 I' tI_b1 L' (fun _ _ => 0) = true → K none (SH.take 26) R' I' L') : WW G (d + 1) mt_D_init 0 [some (.ref 1), none] [] (SH.take 2) tR_a1 tI_a1 (fun _ _ => 0) 0 0 24 321 K := by
  refine r_ald0 f_D_init_0 ?_
  refine r_obj f_D_init_1 (Nat.le_of_ble_eq_true rfl) ?_
  refine r_ald0 f_D_init_4 ?_
  refine r_ic f_D_init_5 ?_
  refine t_newq (i := 2) (n := 8) f_D_init_7 rfl (by decide) (by decide) (Nat.le_of_ble_eq_true rfl) (Nat.le_of_ble_eq_true rfl) ?_
  refine r_pr f_D_init_10 rfl rfl ?_
  refine r_ald0 f_D_init_13 ?_
  refine r_ic f_D_init_14 ?_
  refine t_newa (i := 3) (n := 8) f_D_init_16 rfl (by decide) (by decide) (Nat.le_of_ble_eq_true rfl) (Nat.le_of_ble_eq_true rfl) ?_
  refine r_pr f_D_init_18 rfl rfl ?_
  refine r_ald0 f_D_init_21 ?_
  refine r_ic f_D_init_22 ?_
  refine t_newa (i := 4) (n := 5) f_D_init_23 rfl (by decide) (by decide) (Nat.le_of_ble_eq_true rfl) (Nat.le_of_ble_eq_true rfl) ?_
  refine r_dupr f_D_init_25 ?_
  refine r_ic f_D_init_26 ?_
  refine r_ic f_D_init_27 ?_
  refine r_iast f_D_init_29 rfl (show q_ix 0 0 5 from ⟨by decide, by decide⟩) ?_
  refine r_dupr f_D_init_30 ?_
  refine r_ic f_D_init_31 ?_
  refine r_ic f_D_init_32 ?_
  refine r_iast f_D_init_34 rfl (show q_ix 1 1 5 from ⟨by decide, by decide⟩) ?_
  refine r_dupr f_D_init_35 ?_
  refine r_ic f_D_init_36 ?_
  refine r_ic f_D_init_37 ?_
  refine r_iast f_D_init_39 rfl (show q_ix 2 2 5 from ⟨by decide, by decide⟩) ?_
  refine r_dupr f_D_init_40 ?_
  refine r_ic f_D_init_41 ?_
  refine r_ic f_D_init_42 ?_
  refine r_iast f_D_init_43 rfl (show q_ix 3 3 5 from ⟨by decide, by decide⟩) ?_
  refine r_dupr f_D_init_44 ?_
  refine r_ic f_D_init_45 ?_
  refine r_ic f_D_init_46 ?_
  refine r_iast f_D_init_47 rfl (show q_ix 4 4 5 from ⟨by decide, by decide⟩) ?_
  refine r_pr f_D_init_48 rfl rfl ?_
  refine r_ald0 f_D_init_51 ?_
  refine t_new (i := 5) f_D_init_52 rfl (Nat.le_of_ble_eq_true rfl) (Nat.le_of_ble_eq_true rfl) ?_
  refine r_dupr f_D_init_55 ?_
  refine c_T_init (mc' := 2) (ms' := 120) f_D_init_56 (Nat.le_of_ble_eq_true rfl) (Nat.le_of_ble_eq_true rfl) (Nat.le_of_ble_eq_true rfl) ?_
  refine r_ald0 f_T_init_0 ?_
  refine r_obj f_T_init_1 (Nat.le_of_ble_eq_true rfl) ?_
  refine r_ald0 f_T_init_4 ?_
  refine r_ic f_T_init_5 ?_
  refine t_newa (i := 6) (n := 60) f_T_init_7 rfl (by decide) (by decide) (Nat.le_of_ble_eq_true rfl) (Nat.le_of_ble_eq_true rfl) ?_
  refine r_pr f_T_init_9 rfl rfl ?_
  refine r_ald0 f_T_init_12 ?_
  refine r_ic f_T_init_13 ?_
  refine t_newa (i := 7) (n := 60) f_T_init_15 rfl (by decide) (by decide) (Nat.le_of_ble_eq_true rfl) (Nat.le_of_ble_eq_true rfl) ?_
  refine r_pr f_T_init_17 rfl rfl ?_
  refine r_ald0 f_T_init_20 ?_
  refine r_ic f_T_init_21 ?_
  refine r_pi f_T_init_22 rfl ?_
  refine r_ald0 f_T_init_25 ?_
  refine r_ic f_T_init_26 ?_
  refine r_pi f_T_init_27 rfl ?_
  refine r_ret f_T_init_30 rfl (Nat.le_of_ble_eq_true rfl) (Nat.le_of_ble_eq_true rfl) ?_
  refine r_pr f_D_init_59 rfl rfl ?_
  refine r_ald0 f_D_init_62 ?_
  refine r_ic f_D_init_63 ?_
  refine r_pi f_D_init_64 rfl ?_
  refine r_ald0 f_D_init_67 ?_
  refine r_ic f_D_init_68 ?_
  refine r_pi f_D_init_69 rfl ?_
  refine r_ald0 f_D_init_72 ?_
  refine r_ic f_D_init_73 ?_
  refine r_pi f_D_init_74 rfl ?_
  refine r_ald0 f_D_init_77 ?_
  refine r_ic f_D_init_78 ?_
  refine r_pi f_D_init_79 rfl ?_
  refine r_ald0 f_D_init_82 ?_
  refine r_ic f_D_init_83 ?_
  refine r_pi f_D_init_84 rfl ?_
  refine r_ald0 f_D_init_87 ?_
  refine r_ic f_D_init_88 ?_
  refine r_pi f_D_init_89 rfl ?_
  refine r_ald0 f_D_init_92 ?_
  refine r_ic f_D_init_93 ?_
  refine t_newq (i := 8) (n := 8) f_D_init_95 rfl (by decide) (by decide) (Nat.le_of_ble_eq_true rfl) (Nat.le_of_ble_eq_true rfl) ?_
  refine r_pr f_D_init_98 rfl rfl ?_
  refine r_ald0 f_D_init_101 ?_
  refine r_ic f_D_init_102 ?_
  refine t_newa (i := 9) (n := 8) f_D_init_104 rfl (by decide) (by decide) (Nat.le_of_ble_eq_true rfl) (Nat.le_of_ble_eq_true rfl) ?_
  refine r_pr f_D_init_106 rfl rfl ?_
  refine r_ic f_D_init_109 ?_
  refine r_ist1 f_D_init_110 rfl ?_
  refine r_ild1 f_D_init_111 ?_
  refine r_ic f_D_init_112 ?_
  refine r_ic_ge f_D_init_114 (fun h => absurd h (by decide)) (fun _ => ?_)
  refine r_ald0 f_D_init_117 ?_
  refine r_gr f_D_init_118 rfl (r := 2) rfl ?_
  refine r_ild1 f_D_init_121 ?_
  refine t_new (i := 10) f_D_init_122 rfl (Nat.le_of_ble_eq_true rfl) (Nat.le_of_ble_eq_true rfl) ?_
  refine r_dupr f_D_init_125 ?_
  refine c_F_init (mc' := 0) (ms' := 0) f_D_init_126 (Nat.le_of_ble_eq_true rfl) (Nat.le_of_ble_eq_true rfl) (Nat.le_of_ble_eq_true rfl) ?_
  refine r_ald0 f_F_init_0 ?_
  refine r_obj f_F_init_1 (Nat.le_of_ble_eq_true rfl) ?_
  refine r_ret f_F_init_4 rfl (Nat.le_of_ble_eq_true rfl) (Nat.le_of_ble_eq_true rfl) ?_
  refine r_aast f_D_init_129 (Or.inl ⟨rfl, rfl⟩) rfl (show q_ix 0 0 8 from ⟨by decide, by decide⟩) rfl ?_
  refine r_ald0 f_D_init_130 ?_
  refine r_gr f_D_init_131 rfl (r := 8) rfl ?_
  refine r_ild1 f_D_init_134 ?_
  refine t_new (i := 11) f_D_init_135 rfl (Nat.le_of_ble_eq_true rfl) (Nat.le_of_ble_eq_true rfl) ?_
  refine r_dupr f_D_init_138 ?_
  refine c_M_init (mc' := 0) (ms' := 0) f_D_init_139 (Nat.le_of_ble_eq_true rfl) (Nat.le_of_ble_eq_true rfl) (Nat.le_of_ble_eq_true rfl) ?_
  refine r_ald0 f_M_init_0 ?_
  refine r_obj f_M_init_1 (Nat.le_of_ble_eq_true rfl) ?_
  refine r_ald0 f_M_init_4 ?_
  refine r_ic f_M_init_5 ?_
  refine r_pi f_M_init_6 rfl ?_
  refine r_ald0 f_M_init_9 ?_
  refine r_ic f_M_init_10 ?_
  refine r_pi f_M_init_11 rfl ?_
  refine r_ret f_M_init_14 rfl (Nat.le_of_ble_eq_true rfl) (Nat.le_of_ble_eq_true rfl) ?_
  refine r_aast f_D_init_142 (Or.inr ⟨rfl, rfl⟩) rfl (show q_ix 0 0 8 from ⟨by decide, by decide⟩) rfl ?_
  refine r_inc1 f_D_init_143 rfl ?_
  rw [show (0 : Int32) + 1 = 1 from by decide]
  refine r_goto f_D_init_146 ?_
  refine r_ild1 f_D_init_111 ?_
  refine r_ic f_D_init_112 ?_
  refine r_ic_ge f_D_init_114 (fun h => absurd h (by decide)) (fun _ => ?_)
  refine r_ald0 f_D_init_117 ?_
  refine r_gr f_D_init_118 rfl (r := 2) rfl ?_
  refine r_ild1 f_D_init_121 ?_
  refine t_new (i := 12) f_D_init_122 rfl (Nat.le_of_ble_eq_true rfl) (Nat.le_of_ble_eq_true rfl) ?_
  refine r_dupr f_D_init_125 ?_
  refine c_F_init (mc' := 0) (ms' := 0) f_D_init_126 (Nat.le_of_ble_eq_true rfl) (Nat.le_of_ble_eq_true rfl) (Nat.le_of_ble_eq_true rfl) ?_
  refine r_ald0 f_F_init_0 ?_
  refine r_obj f_F_init_1 (Nat.le_of_ble_eq_true rfl) ?_
  refine r_ret f_F_init_4 rfl (Nat.le_of_ble_eq_true rfl) (Nat.le_of_ble_eq_true rfl) ?_
  refine r_aast f_D_init_129 (Or.inl ⟨rfl, rfl⟩) rfl (show q_ix 1 1 8 from ⟨by decide, by decide⟩) rfl ?_
  refine r_ald0 f_D_init_130 ?_
  refine r_gr f_D_init_131 rfl (r := 8) rfl ?_
  refine r_ild1 f_D_init_134 ?_
  refine t_new (i := 13) f_D_init_135 rfl (Nat.le_of_ble_eq_true rfl) (Nat.le_of_ble_eq_true rfl) ?_
  refine r_dupr f_D_init_138 ?_
  refine c_M_init (mc' := 0) (ms' := 0) f_D_init_139 (Nat.le_of_ble_eq_true rfl) (Nat.le_of_ble_eq_true rfl) (Nat.le_of_ble_eq_true rfl) ?_
  refine r_ald0 f_M_init_0 ?_
  refine r_obj f_M_init_1 (Nat.le_of_ble_eq_true rfl) ?_
  refine r_ald0 f_M_init_4 ?_
  refine r_ic f_M_init_5 ?_
  refine r_pi f_M_init_6 rfl ?_
  refine r_ald0 f_M_init_9 ?_
  refine r_ic f_M_init_10 ?_
  refine r_pi f_M_init_11 rfl ?_
  refine r_ret f_M_init_14 rfl (Nat.le_of_ble_eq_true rfl) (Nat.le_of_ble_eq_true rfl) ?_
  refine r_aast f_D_init_142 (Or.inr ⟨rfl, rfl⟩) rfl (show q_ix 1 1 8 from ⟨by decide, by decide⟩) rfl ?_
  refine r_inc1 f_D_init_143 rfl ?_
  rw [show (1 : Int32) + 1 = 2 from by decide]
  refine r_goto f_D_init_146 ?_
  refine r_ild1 f_D_init_111 ?_
  refine r_ic f_D_init_112 ?_
  refine r_ic_ge f_D_init_114 (fun h => absurd h (by decide)) (fun _ => ?_)
  refine r_ald0 f_D_init_117 ?_
  refine r_gr f_D_init_118 rfl (r := 2) rfl ?_
  refine r_ild1 f_D_init_121 ?_
  refine t_new (i := 14) f_D_init_122 rfl (Nat.le_of_ble_eq_true rfl) (Nat.le_of_ble_eq_true rfl) ?_
  refine r_dupr f_D_init_125 ?_
  refine c_F_init (mc' := 0) (ms' := 0) f_D_init_126 (Nat.le_of_ble_eq_true rfl) (Nat.le_of_ble_eq_true rfl) (Nat.le_of_ble_eq_true rfl) ?_
  refine r_ald0 f_F_init_0 ?_
  refine r_obj f_F_init_1 (Nat.le_of_ble_eq_true rfl) ?_
  refine r_ret f_F_init_4 rfl (Nat.le_of_ble_eq_true rfl) (Nat.le_of_ble_eq_true rfl) ?_
  refine r_aast f_D_init_129 (Or.inl ⟨rfl, rfl⟩) rfl (show q_ix 2 2 8 from ⟨by decide, by decide⟩) rfl ?_
  refine r_ald0 f_D_init_130 ?_
  refine r_gr f_D_init_131 rfl (r := 8) rfl ?_
  refine r_ild1 f_D_init_134 ?_
  refine t_new (i := 15) f_D_init_135 rfl (Nat.le_of_ble_eq_true rfl) (Nat.le_of_ble_eq_true rfl) ?_
  refine r_dupr f_D_init_138 ?_
  refine c_M_init (mc' := 0) (ms' := 0) f_D_init_139 (Nat.le_of_ble_eq_true rfl) (Nat.le_of_ble_eq_true rfl) (Nat.le_of_ble_eq_true rfl) ?_
  refine r_ald0 f_M_init_0 ?_
  refine r_obj f_M_init_1 (Nat.le_of_ble_eq_true rfl) ?_
  refine r_ald0 f_M_init_4 ?_
  refine r_ic f_M_init_5 ?_
  refine r_pi f_M_init_6 rfl ?_
  refine r_ald0 f_M_init_9 ?_
  refine r_ic f_M_init_10 ?_
  refine r_pi f_M_init_11 rfl ?_
  refine r_ret f_M_init_14 rfl (Nat.le_of_ble_eq_true rfl) (Nat.le_of_ble_eq_true rfl) ?_
  refine r_aast f_D_init_142 (Or.inr ⟨rfl, rfl⟩) rfl (show q_ix 2 2 8 from ⟨by decide, by decide⟩) rfl ?_
  refine r_inc1 f_D_init_143 rfl ?_
  rw [show (2 : Int32) + 1 = 3 from by decide]
  refine r_goto f_D_init_146 ?_
  refine r_ild1 f_D_init_111 ?_
  refine r_ic f_D_init_112 ?_
  refine r_ic_ge f_D_init_114 (fun h => absurd h (by decide)) (fun _ => ?_)
  refine r_ald0 f_D_init_117 ?_
  refine r_gr f_D_init_118 rfl (r := 2) rfl ?_
  refine r_ild1 f_D_init_121 ?_
  refine t_new (i := 16) f_D_init_122 rfl (Nat.le_of_ble_eq_true rfl) (Nat.le_of_ble_eq_true rfl) ?_
  refine r_dupr f_D_init_125 ?_
  refine c_F_init (mc' := 0) (ms' := 0) f_D_init_126 (Nat.le_of_ble_eq_true rfl) (Nat.le_of_ble_eq_true rfl) (Nat.le_of_ble_eq_true rfl) ?_
  refine r_ald0 f_F_init_0 ?_
  refine r_obj f_F_init_1 (Nat.le_of_ble_eq_true rfl) ?_
  refine r_ret f_F_init_4 rfl (Nat.le_of_ble_eq_true rfl) (Nat.le_of_ble_eq_true rfl) ?_
  refine r_aast f_D_init_129 (Or.inl ⟨rfl, rfl⟩) rfl (show q_ix 3 3 8 from ⟨by decide, by decide⟩) rfl ?_
  refine r_ald0 f_D_init_130 ?_
  refine r_gr f_D_init_131 rfl (r := 8) rfl ?_
  refine r_ild1 f_D_init_134 ?_
  refine t_new (i := 17) f_D_init_135 rfl (Nat.le_of_ble_eq_true rfl) (Nat.le_of_ble_eq_true rfl) ?_
  refine r_dupr f_D_init_138 ?_
  refine c_M_init (mc' := 0) (ms' := 0) f_D_init_139 (Nat.le_of_ble_eq_true rfl) (Nat.le_of_ble_eq_true rfl) (Nat.le_of_ble_eq_true rfl) ?_
  refine r_ald0 f_M_init_0 ?_
  refine r_obj f_M_init_1 (Nat.le_of_ble_eq_true rfl) ?_
  refine r_ald0 f_M_init_4 ?_
  refine r_ic f_M_init_5 ?_
  refine r_pi f_M_init_6 rfl ?_
  refine r_ald0 f_M_init_9 ?_
  refine r_ic f_M_init_10 ?_
  refine r_pi f_M_init_11 rfl ?_
  refine r_ret f_M_init_14 rfl (Nat.le_of_ble_eq_true rfl) (Nat.le_of_ble_eq_true rfl) ?_
  refine r_aast f_D_init_142 (Or.inr ⟨rfl, rfl⟩) rfl (show q_ix 3 3 8 from ⟨by decide, by decide⟩) rfl ?_
  refine r_inc1 f_D_init_143 rfl ?_
  rw [show (3 : Int32) + 1 = 4 from by decide]
  refine r_goto f_D_init_146 ?_
  refine r_ild1 f_D_init_111 ?_
  refine r_ic f_D_init_112 ?_
  refine r_ic_ge f_D_init_114 (fun h => absurd h (by decide)) (fun _ => ?_)
  refine r_ald0 f_D_init_117 ?_
  refine r_gr f_D_init_118 rfl (r := 2) rfl ?_
  refine r_ild1 f_D_init_121 ?_
  refine t_new (i := 18) f_D_init_122 rfl (Nat.le_of_ble_eq_true rfl) (Nat.le_of_ble_eq_true rfl) ?_
  refine r_dupr f_D_init_125 ?_
  refine c_F_init (mc' := 0) (ms' := 0) f_D_init_126 (Nat.le_of_ble_eq_true rfl) (Nat.le_of_ble_eq_true rfl) (Nat.le_of_ble_eq_true rfl) ?_
  refine r_ald0 f_F_init_0 ?_
  refine r_obj f_F_init_1 (Nat.le_of_ble_eq_true rfl) ?_
  refine r_ret f_F_init_4 rfl (Nat.le_of_ble_eq_true rfl) (Nat.le_of_ble_eq_true rfl) ?_
  refine r_aast f_D_init_129 (Or.inl ⟨rfl, rfl⟩) rfl (show q_ix 4 4 8 from ⟨by decide, by decide⟩) rfl ?_
  refine r_ald0 f_D_init_130 ?_
  refine r_gr f_D_init_131 rfl (r := 8) rfl ?_
  refine r_ild1 f_D_init_134 ?_
  refine t_new (i := 19) f_D_init_135 rfl (Nat.le_of_ble_eq_true rfl) (Nat.le_of_ble_eq_true rfl) ?_
  refine r_dupr f_D_init_138 ?_
  refine c_M_init (mc' := 0) (ms' := 0) f_D_init_139 (Nat.le_of_ble_eq_true rfl) (Nat.le_of_ble_eq_true rfl) (Nat.le_of_ble_eq_true rfl) ?_
  refine r_ald0 f_M_init_0 ?_
  refine r_obj f_M_init_1 (Nat.le_of_ble_eq_true rfl) ?_
  refine r_ald0 f_M_init_4 ?_
  refine r_ic f_M_init_5 ?_
  refine r_pi f_M_init_6 rfl ?_
  refine r_ald0 f_M_init_9 ?_
  refine r_ic f_M_init_10 ?_
  refine r_pi f_M_init_11 rfl ?_
  refine r_ret f_M_init_14 rfl (Nat.le_of_ble_eq_true rfl) (Nat.le_of_ble_eq_true rfl) ?_
  refine r_aast f_D_init_142 (Or.inr ⟨rfl, rfl⟩) rfl (show q_ix 4 4 8 from ⟨by decide, by decide⟩) rfl ?_
  refine r_inc1 f_D_init_143 rfl ?_
  rw [show (4 : Int32) + 1 = 5 from by decide]
  refine r_goto f_D_init_146 ?_
  refine r_ild1 f_D_init_111 ?_
  refine r_ic f_D_init_112 ?_
  refine r_ic_ge f_D_init_114 (fun h => absurd h (by decide)) (fun _ => ?_)
  refine r_ald0 f_D_init_117 ?_
  refine r_gr f_D_init_118 rfl (r := 2) rfl ?_
  refine r_ild1 f_D_init_121 ?_
  refine t_new (i := 20) f_D_init_122 rfl (Nat.le_of_ble_eq_true rfl) (Nat.le_of_ble_eq_true rfl) ?_
  refine r_dupr f_D_init_125 ?_
  refine c_F_init (mc' := 0) (ms' := 0) f_D_init_126 (Nat.le_of_ble_eq_true rfl) (Nat.le_of_ble_eq_true rfl) (Nat.le_of_ble_eq_true rfl) ?_
  refine r_ald0 f_F_init_0 ?_
  refine r_obj f_F_init_1 (Nat.le_of_ble_eq_true rfl) ?_
  refine r_ret f_F_init_4 rfl (Nat.le_of_ble_eq_true rfl) (Nat.le_of_ble_eq_true rfl) ?_
  refine r_aast f_D_init_129 (Or.inl ⟨rfl, rfl⟩) rfl (show q_ix 5 5 8 from ⟨by decide, by decide⟩) rfl ?_
  refine r_ald0 f_D_init_130 ?_
  refine r_gr f_D_init_131 rfl (r := 8) rfl ?_
  refine r_ild1 f_D_init_134 ?_
  refine t_new (i := 21) f_D_init_135 rfl (Nat.le_of_ble_eq_true rfl) (Nat.le_of_ble_eq_true rfl) ?_
  refine r_dupr f_D_init_138 ?_
  refine c_M_init (mc' := 0) (ms' := 0) f_D_init_139 (Nat.le_of_ble_eq_true rfl) (Nat.le_of_ble_eq_true rfl) (Nat.le_of_ble_eq_true rfl) ?_
  refine r_ald0 f_M_init_0 ?_
  refine r_obj f_M_init_1 (Nat.le_of_ble_eq_true rfl) ?_
  refine r_ald0 f_M_init_4 ?_
  refine r_ic f_M_init_5 ?_
  refine r_pi f_M_init_6 rfl ?_
  refine r_ald0 f_M_init_9 ?_
  refine r_ic f_M_init_10 ?_
  refine r_pi f_M_init_11 rfl ?_
  refine r_ret f_M_init_14 rfl (Nat.le_of_ble_eq_true rfl) (Nat.le_of_ble_eq_true rfl) ?_
  refine r_aast f_D_init_142 (Or.inr ⟨rfl, rfl⟩) rfl (show q_ix 5 5 8 from ⟨by decide, by decide⟩) rfl ?_
  refine r_inc1 f_D_init_143 rfl ?_
  rw [show (5 : Int32) + 1 = 6 from by decide]
  refine r_goto f_D_init_146 ?_
  refine r_ild1 f_D_init_111 ?_
  refine r_ic f_D_init_112 ?_
  refine r_ic_ge f_D_init_114 (fun h => absurd h (by decide)) (fun _ => ?_)
  refine r_ald0 f_D_init_117 ?_
  refine r_gr f_D_init_118 rfl (r := 2) rfl ?_
  refine r_ild1 f_D_init_121 ?_
  refine t_new (i := 22) f_D_init_122 rfl (Nat.le_of_ble_eq_true rfl) (Nat.le_of_ble_eq_true rfl) ?_
  refine r_dupr f_D_init_125 ?_
  refine c_F_init (mc' := 0) (ms' := 0) f_D_init_126 (Nat.le_of_ble_eq_true rfl) (Nat.le_of_ble_eq_true rfl) (Nat.le_of_ble_eq_true rfl) ?_
  refine r_ald0 f_F_init_0 ?_
  refine r_obj f_F_init_1 (Nat.le_of_ble_eq_true rfl) ?_
  refine r_ret f_F_init_4 rfl (Nat.le_of_ble_eq_true rfl) (Nat.le_of_ble_eq_true rfl) ?_
  refine r_aast f_D_init_129 (Or.inl ⟨rfl, rfl⟩) rfl (show q_ix 6 6 8 from ⟨by decide, by decide⟩) rfl ?_
  refine r_ald0 f_D_init_130 ?_
  refine r_gr f_D_init_131 rfl (r := 8) rfl ?_
  refine r_ild1 f_D_init_134 ?_
  refine t_new (i := 23) f_D_init_135 rfl (Nat.le_of_ble_eq_true rfl) (Nat.le_of_ble_eq_true rfl) ?_
  refine r_dupr f_D_init_138 ?_
  refine c_M_init (mc' := 0) (ms' := 0) f_D_init_139 (Nat.le_of_ble_eq_true rfl) (Nat.le_of_ble_eq_true rfl) (Nat.le_of_ble_eq_true rfl) ?_
  refine r_ald0 f_M_init_0 ?_
  refine r_obj f_M_init_1 (Nat.le_of_ble_eq_true rfl) ?_
  refine r_ald0 f_M_init_4 ?_
  refine r_ic f_M_init_5 ?_
  refine r_pi f_M_init_6 rfl ?_
  refine r_ald0 f_M_init_9 ?_
  refine r_ic f_M_init_10 ?_
  refine r_pi f_M_init_11 rfl ?_
  refine r_ret f_M_init_14 rfl (Nat.le_of_ble_eq_true rfl) (Nat.le_of_ble_eq_true rfl) ?_
  refine r_aast f_D_init_142 (Or.inr ⟨rfl, rfl⟩) rfl (show q_ix 6 6 8 from ⟨by decide, by decide⟩) rfl ?_
  refine r_inc1 f_D_init_143 rfl ?_
  rw [show (6 : Int32) + 1 = 7 from by decide]
  refine r_goto f_D_init_146 ?_
  refine r_ild1 f_D_init_111 ?_
  refine r_ic f_D_init_112 ?_
  refine r_ic_ge f_D_init_114 (fun h => absurd h (by decide)) (fun _ => ?_)
  refine r_ald0 f_D_init_117 ?_
  refine r_gr f_D_init_118 rfl (r := 2) rfl ?_
  refine r_ild1 f_D_init_121 ?_
  refine t_new (i := 24) f_D_init_122 rfl (Nat.le_of_ble_eq_true rfl) (Nat.le_of_ble_eq_true rfl) ?_
  refine r_dupr f_D_init_125 ?_
  refine c_F_init (mc' := 0) (ms' := 0) f_D_init_126 (Nat.le_of_ble_eq_true rfl) (Nat.le_of_ble_eq_true rfl) (Nat.le_of_ble_eq_true rfl) ?_
  refine r_ald0 f_F_init_0 ?_
  refine r_obj f_F_init_1 (Nat.le_of_ble_eq_true rfl) ?_
  refine r_ret f_F_init_4 rfl (Nat.le_of_ble_eq_true rfl) (Nat.le_of_ble_eq_true rfl) ?_
  refine r_aast f_D_init_129 (Or.inl ⟨rfl, rfl⟩) rfl (show q_ix 7 7 8 from ⟨by decide, by decide⟩) rfl ?_
  refine r_ald0 f_D_init_130 ?_
  refine r_gr f_D_init_131 rfl (r := 8) rfl ?_
  refine r_ild1 f_D_init_134 ?_
  refine t_new (i := 25) f_D_init_135 rfl (Nat.le_of_ble_eq_true rfl) (Nat.le_of_ble_eq_true rfl) ?_
  refine r_dupr f_D_init_138 ?_
  refine c_M_init (mc' := 0) (ms' := 0) f_D_init_139 (Nat.le_of_ble_eq_true rfl) (Nat.le_of_ble_eq_true rfl) (Nat.le_of_ble_eq_true rfl) ?_
  refine r_ald0 f_M_init_0 ?_
  refine r_obj f_M_init_1 (Nat.le_of_ble_eq_true rfl) ?_
  refine r_ald0 f_M_init_4 ?_
  refine r_ic f_M_init_5 ?_
  refine r_pi f_M_init_6 rfl ?_
  refine r_ald0 f_M_init_9 ?_
  refine r_ic f_M_init_10 ?_
  refine r_pi f_M_init_11 rfl ?_
  refine r_ret f_M_init_14 rfl (Nat.le_of_ble_eq_true rfl) (Nat.le_of_ble_eq_true rfl) ?_
  refine r_aast f_D_init_142 (Or.inr ⟨rfl, rfl⟩) rfl (show q_ix 7 7 8 from ⟨by decide, by decide⟩) rfl ?_
  refine r_inc1 f_D_init_143 rfl ?_
  rw [show (7 : Int32) + 1 = 8 from by decide]
  refine r_goto f_D_init_146 ?_
  refine r_ild1 f_D_init_111 ?_
  refine r_ic f_D_init_112 ?_
  refine r_ic_ge f_D_init_114 (fun _ => ?_) (fun h => absurd h (by decide))
  refine r_ret f_D_init_149 rfl (Nat.le_of_ble_eq_true rfl) (Nat.le_of_ble_eq_true rfl) ?_
  exact hk _ _ _ (by decide +kernel)
def tR_a26 : Rf := q_tb none [(0, 0, some 1), (1, 0, some 2), (1, 1, some 3), (1, 2, some 4), (1, 3, some 5), (1, 10, some 8), (1, 11, some 9), (2, 0, some 10), (2, 1, some 12), (2, 2, some 14), (2, 3, some 16), (2, 4, some 18), (2, 5, some 20), (2, 6, some 22), (2, 7, some 24), (5, 0, some 6), (5, 1, some 7), (8, 0, some 11), (8, 1, some 13), (8, 2, some 15), (8, 3, some 17), (8, 4, some 19), (8, 5, some 21), (8, 6, some 23), (8, 7, some 25)]
def tI_a26 : Rn := q_tb 0 [(1, 6, 1), (1, 7, 1), (4, 0, 100), (4, 1, 50), (4, 2, 10), (11, 8, 1), (11, 10, 1), (13, 8, 1), (13, 10, 1), (15, 8, 1), (15, 10, 1), (17, 8, 1), (17, 10, 1), (19, 8, 1), (19, 10, 1), (21, 8, 1), (21, 10, 1), (23, 8, 1), (23, 10, 1), (25, 8, 1), (25, 10, 1)]
def tR_b26 : Rf := q_tb none [(0, 0, some 1), (1, 0, some 2), (1, 1, some 3), (1, 2, some 4), (1, 3, some 5), (1, 10, some 8), (1, 11, some 9), (2, 0, some 10), (2, 1, some 12), (2, 2, some 14), (2, 3, some 16), (2, 4, some 18), (2, 5, some 20), (2, 6, some 22), (2, 7, some 24), (5, 0, some 6), (5, 1, some 7), (8, 0, some 11), (8, 1, some 13), (8, 2, some 15), (8, 3, some 17), (8, 4, some 19), (8, 5, some 21), (8, 6, some 23), (8, 7, some 25), (26, 0, some 27), (26, 1, some 28), (26, 2, some 29), (26, 3, some 30), (26, 10, some 33), (26, 11, some 34), (27, 0, some 35), (27, 1, some 37), (27, 2, some 39), (27, 3, some 41), (27, 4, some 43), (27, 5, some 45), (27, 6, some 47), (27, 7, some 49), (30, 0, some 31), (30, 1, some 32), (33, 0, some 36), (33, 1, some 38), (33, 2, some 40), (33, 3, some 42), (33, 4, some 44), (33, 5, some 46), (33, 6, some 48), (33, 7, some 50)]
def tI_b26 : Rn := q_tb 0 [(1, 6, 1), (1, 7, 1), (4, 0, 100), (4, 1, 50), (4, 2, 10), (11, 8, 1), (11, 10, 1), (13, 8, 1), (13, 10, 1), (15, 8, 1), (15, 10, 1), (17, 8, 1), (17, 10, 1), (19, 8, 1), (19, 10, 1), (21, 8, 1), (21, 10, 1), (23, 8, 1), (23, 10, 1), (25, 8, 1), (25, 10, 1), (26, 6, 1), (26, 7, 1), (29, 0, 100), (29, 1, 50), (29, 2, 10), (36, 8, 1), (36, 10, 1), (38, 8, 1), (38, 10, 1), (40, 8, 1), (40, 10, 1), (42, 8, 1), (42, 10, 1), (44, 8, 1), (44, 10, 1), (46, 8, 1), (46, 10, 1), (48, 8, 1), (48, 10, 1), (50, 8, 1), (50, 10, 1)]
set_option maxHeartbeats 8000000 in
theorem ctor_D_26 (hk : ∀ R' I' L', q_agr (SH.take 51) R' tR_b26 I' tI_b26 L' (fun _ _ => 0) = true → K none (SH.take 51) R' I' L') : WW G (d + 1) mt_D_init 0 [some (.ref 26), none] [] (SH.take 27) tR_a26 tI_a26 (fun _ _ => 0) 0 0 24 321 K := by
  refine r_ald0 f_D_init_0 ?_
  refine r_obj f_D_init_1 (Nat.le_of_ble_eq_true rfl) ?_
  refine r_ald0 f_D_init_4 ?_
  refine r_ic f_D_init_5 ?_
  refine t_newq (i := 27) (n := 8) f_D_init_7 rfl (by decide) (by decide) (Nat.le_of_ble_eq_true rfl) (Nat.le_of_ble_eq_true rfl) ?_
  refine r_pr f_D_init_10 rfl rfl ?_
  refine r_ald0 f_D_init_13 ?_
  refine r_ic f_D_init_14 ?_
  refine t_newa (i := 28) (n := 8) f_D_init_16 rfl (by decide) (by decide) (Nat.le_of_ble_eq_true rfl) (Nat.le_of_ble_eq_true rfl) ?_
  refine r_pr f_D_init_18 rfl rfl ?_
  refine r_ald0 f_D_init_21 ?_
  refine r_ic f_D_init_22 ?_
  refine t_newa (i := 29) (n := 5) f_D_init_23 rfl (by decide) (by decide) (Nat.le_of_ble_eq_true rfl) (Nat.le_of_ble_eq_true rfl) ?_
  refine r_dupr f_D_init_25 ?_
  refine r_ic f_D_init_26 ?_
  refine r_ic f_D_init_27 ?_
  refine r_iast f_D_init_29 rfl (show q_ix 0 0 5 from ⟨by decide, by decide⟩) ?_
  refine r_dupr f_D_init_30 ?_
  refine r_ic f_D_init_31 ?_
  refine r_ic f_D_init_32 ?_
  refine r_iast f_D_init_34 rfl (show q_ix 1 1 5 from ⟨by decide, by decide⟩) ?_
  refine r_dupr f_D_init_35 ?_
  refine r_ic f_D_init_36 ?_
  refine r_ic f_D_init_37 ?_
  refine r_iast f_D_init_39 rfl (show q_ix 2 2 5 from ⟨by decide, by decide⟩) ?_
  refine r_dupr f_D_init_40 ?_
  refine r_ic f_D_init_41 ?_
  refine r_ic f_D_init_42 ?_
  refine r_iast f_D_init_43 rfl (show q_ix 3 3 5 from ⟨by decide, by decide⟩) ?_
  refine r_dupr f_D_init_44 ?_
  refine r_ic f_D_init_45 ?_
  refine r_ic f_D_init_46 ?_
  refine r_iast f_D_init_47 rfl (show q_ix 4 4 5 from ⟨by decide, by decide⟩) ?_
  refine r_pr f_D_init_48 rfl rfl ?_
  refine r_ald0 f_D_init_51 ?_
  refine t_new (i := 30) f_D_init_52 rfl (Nat.le_of_ble_eq_true rfl) (Nat.le_of_ble_eq_true rfl) ?_
  refine r_dupr f_D_init_55 ?_
  refine c_T_init (mc' := 2) (ms' := 120) f_D_init_56 (Nat.le_of_ble_eq_true rfl) (Nat.le_of_ble_eq_true rfl) (Nat.le_of_ble_eq_true rfl) ?_
  refine r_ald0 f_T_init_0 ?_
  refine r_obj f_T_init_1 (Nat.le_of_ble_eq_true rfl) ?_
  refine r_ald0 f_T_init_4 ?_
  refine r_ic f_T_init_5 ?_
  refine t_newa (i := 31) (n := 60) f_T_init_7 rfl (by decide) (by decide) (Nat.le_of_ble_eq_true rfl) (Nat.le_of_ble_eq_true rfl) ?_
  refine r_pr f_T_init_9 rfl rfl ?_
  refine r_ald0 f_T_init_12 ?_
  refine r_ic f_T_init_13 ?_
  refine t_newa (i := 32) (n := 60) f_T_init_15 rfl (by decide) (by decide) (Nat.le_of_ble_eq_true rfl) (Nat.le_of_ble_eq_true rfl) ?_
  refine r_pr f_T_init_17 rfl rfl ?_
  refine r_ald0 f_T_init_20 ?_
  refine r_ic f_T_init_21 ?_
  refine r_pi f_T_init_22 rfl ?_
  refine r_ald0 f_T_init_25 ?_
  refine r_ic f_T_init_26 ?_
  refine r_pi f_T_init_27 rfl ?_
  refine r_ret f_T_init_30 rfl (Nat.le_of_ble_eq_true rfl) (Nat.le_of_ble_eq_true rfl) ?_
  refine r_pr f_D_init_59 rfl rfl ?_
  refine r_ald0 f_D_init_62 ?_
  refine r_ic f_D_init_63 ?_
  refine r_pi f_D_init_64 rfl ?_
  refine r_ald0 f_D_init_67 ?_
  refine r_ic f_D_init_68 ?_
  refine r_pi f_D_init_69 rfl ?_
  refine r_ald0 f_D_init_72 ?_
  refine r_ic f_D_init_73 ?_
  refine r_pi f_D_init_74 rfl ?_
  refine r_ald0 f_D_init_77 ?_
  refine r_ic f_D_init_78 ?_
  refine r_pi f_D_init_79 rfl ?_
  refine r_ald0 f_D_init_82 ?_
  refine r_ic f_D_init_83 ?_
  refine r_pi f_D_init_84 rfl ?_
  refine r_ald0 f_D_init_87 ?_
  refine r_ic f_D_init_88 ?_
  refine r_pi f_D_init_89 rfl ?_
  refine r_ald0 f_D_init_92 ?_
  refine r_ic f_D_init_93 ?_
  refine t_newq (i := 33) (n := 8) f_D_init_95 rfl (by decide) (by decide) (Nat.le_of_ble_eq_true rfl) (Nat.le_of_ble_eq_true rfl) ?_
  refine r_pr f_D_init_98 rfl rfl ?_
  refine r_ald0 f_D_init_101 ?_
  refine r_ic f_D_init_102 ?_
  refine t_newa (i := 34) (n := 8) f_D_init_104 rfl (by decide) (by decide) (Nat.le_of_ble_eq_true rfl) (Nat.le_of_ble_eq_true rfl) ?_
  refine r_pr f_D_init_106 rfl rfl ?_
  refine r_ic f_D_init_109 ?_
  refine r_ist1 f_D_init_110 rfl ?_
  refine r_ild1 f_D_init_111 ?_
  refine r_ic f_D_init_112 ?_
  refine r_ic_ge f_D_init_114 (fun h => absurd h (by decide)) (fun _ => ?_)
  refine r_ald0 f_D_init_117 ?_
  refine r_gr f_D_init_118 rfl (r := 27) rfl ?_
  refine r_ild1 f_D_init_121 ?_
  refine t_new (i := 35) f_D_init_122 rfl (Nat.le_of_ble_eq_true rfl) (Nat.le_of_ble_eq_true rfl) ?_
  refine r_dupr f_D_init_125 ?_
  refine c_F_init (mc' := 0) (ms' := 0) f_D_init_126 (Nat.le_of_ble_eq_true rfl) (Nat.le_of_ble_eq_true rfl) (Nat.le_of_ble_eq_true rfl) ?_
  refine r_ald0 f_F_init_0 ?_
  refine r_obj f_F_init_1 (Nat.le_of_ble_eq_true rfl) ?_
  refine r_ret f_F_init_4 rfl (Nat.le_of_ble_eq_true rfl) (Nat.le_of_ble_eq_true rfl) ?_
  refine r_aast f_D_init_129 (Or.inl ⟨rfl, rfl⟩) rfl (show q_ix 0 0 8 from ⟨by decide, by decide⟩) rfl ?_
  refine r_ald0 f_D_init_130 ?_
  refine r_gr f_D_init_131 rfl (r := 33) rfl ?_
  refine r_ild1 f_D_init_134 ?_
  refine t_new (i := 36) f_D_init_135 rfl (Nat.le_of_ble_eq_true rfl) (Nat.le_of_ble_eq_true rfl) ?_
  refine r_dupr f_D_init_138 ?_
  refine c_M_init (mc' := 0) (ms' := 0) f_D_init_139 (Nat.le_of_ble_eq_true rfl) (Nat.le_of_ble_eq_true rfl) (Nat.le_of_ble_eq_true rfl) ?_
  refine r_ald0 f_M_init_0 ?_
  refine r_obj f_M_init_1 (Nat.le_of_ble_eq_true rfl) ?_
  refine r_ald0 f_M_init_4 ?_
  refine r_ic f_M_init_5 ?_
  refine r_pi f_M_init_6 rfl ?_
  refine r_ald0 f_M_init_9 ?_
  refine r_ic f_M_init_10 ?_
  refine r_pi f_M_init_11 rfl ?_
  refine r_ret f_M_init_14 rfl (Nat.le_of_ble_eq_true rfl) (Nat.le_of_ble_eq_true rfl) ?_
  refine r_aast f_D_init_142 (Or.inr ⟨rfl, rfl⟩) rfl (show q_ix 0 0 8 from ⟨by decide, by decide⟩) rfl ?_
  refine r_inc1 f_D_init_143 rfl ?_
  rw [show (0 : Int32) + 1 = 1 from by decide]
  refine r_goto f_D_init_146 ?_
  refine r_ild1 f_D_init_111 ?_
  refine r_ic f_D_init_112 ?_
  refine r_ic_ge f_D_init_114 (fun h => absurd h (by decide)) (fun _ => ?_)
  refine r_ald0 f_D_init_117 ?_
  refine r_gr f_D_init_118 rfl (r := 27) rfl ?_
  refine r_ild1 f_D_init_121 ?_
  refine t_new (i := 37) f_D_init_122 rfl (Nat.le_of_ble_eq_true rfl) (Nat.le_of_ble_eq_true rfl) ?_
  refine r_dupr f_D_init_125 ?_
  refine c_F_init (mc' := 0) (ms' := 0) f_D_init_126 (Nat.le_of_ble_eq_true rfl) (Nat.le_of_ble_eq_true rfl) (Nat.le_of_ble_eq_true rfl) ?_
  refine r_ald0 f_F_init_0 ?_
  refine r_obj f_F_init_1 (Nat.le_of_ble_eq_true rfl) ?_
  refine r_ret f_F_init_4 rfl (Nat.le_of_ble_eq_true rfl) (Nat.le_of_ble_eq_true rfl) ?_
  refine r_aast f_D_init_129 (Or.inl ⟨rfl, rfl⟩) rfl (show q_ix 1 1 8 from ⟨by decide, by decide⟩) rfl ?_
  refine r_ald0 f_D_init_130 ?_
  refine r_gr f_D_init_131 rfl (r := 33) rfl ?_
  refine r_ild1 f_D_init_134 ?_
  refine t_new (i := 38) f_D_init_135 rfl (Nat.le_of_ble_eq_true rfl) (Nat.le_of_ble_eq_true rfl) ?_
  refine r_dupr f_D_init_138 ?_
  refine c_M_init (mc' := 0) (ms' := 0) f_D_init_139 (Nat.le_of_ble_eq_true rfl) (Nat.le_of_ble_eq_true rfl) (Nat.le_of_ble_eq_true rfl) ?_
  refine r_ald0 f_M_init_0 ?_
  refine r_obj f_M_init_1 (Nat.le_of_ble_eq_true rfl) ?_
  refine r_ald0 f_M_init_4 ?_
  refine r_ic f_M_init_5 ?_
  refine r_pi f_M_init_6 rfl ?_
  refine r_ald0 f_M_init_9 ?_
  refine r_ic f_M_init_10 ?_
  refine r_pi f_M_init_11 rfl ?_
  refine r_ret f_M_init_14 rfl (Nat.le_of_ble_eq_true rfl) (Nat.le_of_ble_eq_true rfl) ?_
  refine r_aast f_D_init_142 (Or.inr ⟨rfl, rfl⟩) rfl (show q_ix 1 1 8 from ⟨by decide, by decide⟩) rfl ?_
  refine r_inc1 f_D_init_143 rfl ?_
  rw [show (1 : Int32) + 1 = 2 from by decide]
  refine r_goto f_D_init_146 ?_
  refine r_ild1 f_D_init_111 ?_
  refine r_ic f_D_init_112 ?_
  refine r_ic_ge f_D_init_114 (fun h => absurd h (by decide)) (fun _ => ?_)
  refine r_ald0 f_D_init_117 ?_
  refine r_gr f_D_init_118 rfl (r := 27) rfl ?_
  refine r_ild1 f_D_init_121 ?_
  refine t_new (i := 39) f_D_init_122 rfl (Nat.le_of_ble_eq_true rfl) (Nat.le_of_ble_eq_true rfl) ?_
  refine r_dupr f_D_init_125 ?_
  refine c_F_init (mc' := 0) (ms' := 0) f_D_init_126 (Nat.le_of_ble_eq_true rfl) (Nat.le_of_ble_eq_true rfl) (Nat.le_of_ble_eq_true rfl) ?_
  refine r_ald0 f_F_init_0 ?_
  refine r_obj f_F_init_1 (Nat.le_of_ble_eq_true rfl) ?_
  refine r_ret f_F_init_4 rfl (Nat.le_of_ble_eq_true rfl) (Nat.le_of_ble_eq_true rfl) ?_
  refine r_aast f_D_init_129 (Or.inl ⟨rfl, rfl⟩) rfl (show q_ix 2 2 8 from ⟨by decide, by decide⟩) rfl ?_
  refine r_ald0 f_D_init_130 ?_
  refine r_gr f_D_init_131 rfl (r := 33) rfl ?_
  refine r_ild1 f_D_init_134 ?_
  refine t_new (i := 40) f_D_init_135 rfl (Nat.le_of_ble_eq_true rfl) (Nat.le_of_ble_eq_true rfl) ?_
  refine r_dupr f_D_init_138 ?_
  refine c_M_init (mc' := 0) (ms' := 0) f_D_init_139 (Nat.le_of_ble_eq_true rfl) (Nat.le_of_ble_eq_true rfl) (Nat.le_of_ble_eq_true rfl) ?_
  refine r_ald0 f_M_init_0 ?_
  refine r_obj f_M_init_1 (Nat.le_of_ble_eq_true rfl) ?_
  refine r_ald0 f_M_init_4 ?_
  refine r_ic f_M_init_5 ?_
  refine r_pi f_M_init_6 rfl ?_
  refine r_ald0 f_M_init_9 ?_
  refine r_ic f_M_init_10 ?_
  refine r_pi f_M_init_11 rfl ?_
  refine r_ret f_M_init_14 rfl (Nat.le_of_ble_eq_true rfl) (Nat.le_of_ble_eq_true rfl) ?_
  refine r_aast f_D_init_142 (Or.inr ⟨rfl, rfl⟩) rfl (show q_ix 2 2 8 from ⟨by decide, by decide⟩) rfl ?_
  refine r_inc1 f_D_init_143 rfl ?_
  rw [show (2 : Int32) + 1 = 3 from by decide]
  refine r_goto f_D_init_146 ?_
  refine r_ild1 f_D_init_111 ?_
  refine r_ic f_D_init_112 ?_
  refine r_ic_ge f_D_init_114 (fun h => absurd h (by decide)) (fun _ => ?_)
  refine r_ald0 f_D_init_117 ?_
  refine r_gr f_D_init_118 rfl (r := 27) rfl ?_
  refine r_ild1 f_D_init_121 ?_
  refine t_new (i := 41) f_D_init_122 rfl (Nat.le_of_ble_eq_true rfl) (Nat.le_of_ble_eq_true rfl) ?_
  refine r_dupr f_D_init_125 ?_
  refine c_F_init (mc' := 0) (ms' := 0) f_D_init_126 (Nat.le_of_ble_eq_true rfl) (Nat.le_of_ble_eq_true rfl) (Nat.le_of_ble_eq_true rfl) ?_
  refine r_ald0 f_F_init_0 ?_
  refine r_obj f_F_init_1 (Nat.le_of_ble_eq_true rfl) ?_
  refine r_ret f_F_init_4 rfl (Nat.le_of_ble_eq_true rfl) (Nat.le_of_ble_eq_true rfl) ?_
  refine r_aast f_D_init_129 (Or.inl ⟨rfl, rfl⟩) rfl (show q_ix 3 3 8 from ⟨by decide, by decide⟩) rfl ?_
  refine r_ald0 f_D_init_130 ?_
  refine r_gr f_D_init_131 rfl (r := 33) rfl ?_
  refine r_ild1 f_D_init_134 ?_
  refine t_new (i := 42) f_D_init_135 rfl (Nat.le_of_ble_eq_true rfl) (Nat.le_of_ble_eq_true rfl) ?_
  refine r_dupr f_D_init_138 ?_
  refine c_M_init (mc' := 0) (ms' := 0) f_D_init_139 (Nat.le_of_ble_eq_true rfl) (Nat.le_of_ble_eq_true rfl) (Nat.le_of_ble_eq_true rfl) ?_
  refine r_ald0 f_M_init_0 ?_
  refine r_obj f_M_init_1 (Nat.le_of_ble_eq_true rfl) ?_
  refine r_ald0 f_M_init_4 ?_
  refine r_ic f_M_init_5 ?_
  refine r_pi f_M_init_6 rfl ?_
  refine r_ald0 f_M_init_9 ?_
  refine r_ic f_M_init_10 ?_
  refine r_pi f_M_init_11 rfl ?_
  refine r_ret f_M_init_14 rfl (Nat.le_of_ble_eq_true rfl) (Nat.le_of_ble_eq_true rfl) ?_
  refine r_aast f_D_init_142 (Or.inr ⟨rfl, rfl⟩) rfl (show q_ix 3 3 8 from ⟨by decide, by decide⟩) rfl ?_
  refine r_inc1 f_D_init_143 rfl ?_
  rw [show (3 : Int32) + 1 = 4 from by decide]
  refine r_goto f_D_init_146 ?_
  refine r_ild1 f_D_init_111 ?_
  refine r_ic f_D_init_112 ?_
  refine r_ic_ge f_D_init_114 (fun h => absurd h (by decide)) (fun _ => ?_)
  refine r_ald0 f_D_init_117 ?_
  refine r_gr f_D_init_118 rfl (r := 27) rfl ?_
  refine r_ild1 f_D_init_121 ?_
  refine t_new (i := 43) f_D_init_122 rfl (Nat.le_of_ble_eq_true rfl) (Nat.le_of_ble_eq_true rfl) ?_
  refine r_dupr f_D_init_125 ?_
  refine c_F_init (mc' := 0) (ms' := 0) f_D_init_126 (Nat.le_of_ble_eq_true rfl) (Nat.le_of_ble_eq_true rfl) (Nat.le_of_ble_eq_true rfl) ?_
  refine r_ald0 f_F_init_0 ?_
  refine r_obj f_F_init_1 (Nat.le_of_ble_eq_true rfl) ?_
  refine r_ret f_F_init_4 rfl (Nat.le_of_ble_eq_true rfl) (Nat.le_of_ble_eq_true rfl) ?_
  refine r_aast f_D_init_129 (Or.inl ⟨rfl, rfl⟩) rfl (show q_ix 4 4 8 from ⟨by decide, by decide⟩) rfl ?_
  refine r_ald0 f_D_init_130 ?_
  refine r_gr f_D_init_131 rfl (r := 33) rfl ?_
  refine r_ild1 f_D_init_134 ?_
  refine t_new (i := 44) f_D_init_135 rfl (Nat.le_of_ble_eq_true rfl) (Nat.le_of_ble_eq_true rfl) ?_
  refine r_dupr f_D_init_138 ?_
  refine c_M_init (mc' := 0) (ms' := 0) f_D_init_139 (Nat.le_of_ble_eq_true rfl) (Nat.le_of_ble_eq_true rfl) (Nat.le_of_ble_eq_true rfl) ?_
  refine r_ald0 f_M_init_0 ?_
  refine r_obj f_M_init_1 (Nat.le_of_ble_eq_true rfl) ?_
  refine r_ald0 f_M_init_4 ?_
  refine r_ic f_M_init_5 ?_
  refine r_pi f_M_init_6 rfl ?_
  refine r_ald0 f_M_init_9 ?_
  refine r_ic f_M_init_10 ?_
  refine r_pi f_M_init_11 rfl ?_
  refine r_ret f_M_init_14 rfl (Nat.le_of_ble_eq_true rfl) (Nat.le_of_ble_eq_true rfl) ?_
  refine r_aast f_D_init_142 (Or.inr ⟨rfl, rfl⟩) rfl (show q_ix 4 4 8 from ⟨by decide, by decide⟩) rfl ?_
  refine r_inc1 f_D_init_143 rfl ?_
  rw [show (4 : Int32) + 1 = 5 from by decide]
  refine r_goto f_D_init_146 ?_
  refine r_ild1 f_D_init_111 ?_
  refine r_ic f_D_init_112 ?_
  refine r_ic_ge f_D_init_114 (fun h => absurd h (by decide)) (fun _ => ?_)
  refine r_ald0 f_D_init_117 ?_
  refine r_gr f_D_init_118 rfl (r := 27) rfl ?_
  refine r_ild1 f_D_init_121 ?_
  refine t_new (i := 45) f_D_init_122 rfl (Nat.le_of_ble_eq_true rfl) (Nat.le_of_ble_eq_true rfl) ?_
  refine r_dupr f_D_init_125 ?_
  refine c_F_init (mc' := 0) (ms' := 0) f_D_init_126 (Nat.le_of_ble_eq_true rfl) (Nat.le_of_ble_eq_true rfl) (Nat.le_of_ble_eq_true rfl) ?_
  refine r_ald0 f_F_init_0 ?_
  refine r_obj f_F_init_1 (Nat.le_of_ble_eq_true rfl) ?_
  refine r_ret f_F_init_4 rfl (Nat.le_of_ble_eq_true rfl) (Nat.le_of_ble_eq_true rfl) ?_
  refine r_aast f_D_init_129 (Or.inl ⟨rfl, rfl⟩) rfl (show q_ix 5 5 8 from ⟨by decide, by decide⟩) rfl ?_
  refine r_ald0 f_D_init_130 ?_
  refine r_gr f_D_init_131 rfl (r := 33) rfl ?_
  refine r_ild1 f_D_init_134 ?_
  refine t_new (i := 46) f_D_init_135 rfl (Nat.le_of_ble_eq_true rfl) (Nat.le_of_ble_eq_true rfl) ?_
  refine r_dupr f_D_init_138 ?_
  refine c_M_init (mc' := 0) (ms' := 0) f_D_init_139 (Nat.le_of_ble_eq_true rfl) (Nat.le_of_ble_eq_true rfl) (Nat.le_of_ble_eq_true rfl) ?_
  refine r_ald0 f_M_init_0 ?_
  refine r_obj f_M_init_1 (Nat.le_of_ble_eq_true rfl) ?_
  refine r_ald0 f_M_init_4 ?_
  refine r_ic f_M_init_5 ?_
  refine r_pi f_M_init_6 rfl ?_
  refine r_ald0 f_M_init_9 ?_
  refine r_ic f_M_init_10 ?_
  refine r_pi f_M_init_11 rfl ?_
  refine r_ret f_M_init_14 rfl (Nat.le_of_ble_eq_true rfl) (Nat.le_of_ble_eq_true rfl) ?_
  refine r_aast f_D_init_142 (Or.inr ⟨rfl, rfl⟩) rfl (show q_ix 5 5 8 from ⟨by decide, by decide⟩) rfl ?_
  refine r_inc1 f_D_init_143 rfl ?_
  rw [show (5 : Int32) + 1 = 6 from by decide]
  refine r_goto f_D_init_146 ?_
  refine r_ild1 f_D_init_111 ?_
  refine r_ic f_D_init_112 ?_
  refine r_ic_ge f_D_init_114 (fun h => absurd h (by decide)) (fun _ => ?_)
  refine r_ald0 f_D_init_117 ?_
  refine r_gr f_D_init_118 rfl (r := 27) rfl ?_
  refine r_ild1 f_D_init_121 ?_
  refine t_new (i := 47) f_D_init_122 rfl (Nat.le_of_ble_eq_true rfl) (Nat.le_of_ble_eq_true rfl) ?_
  refine r_dupr f_D_init_125 ?_
  refine c_F_init (mc' := 0) (ms' := 0) f_D_init_126 (Nat.le_of_ble_eq_true rfl) (Nat.le_of_ble_eq_true rfl) (Nat.le_of_ble_eq_true rfl) ?_
  refine r_ald0 f_F_init_0 ?_
  refine r_obj f_F_init_1 (Nat.le_of_ble_eq_true rfl) ?_
  refine r_ret f_F_init_4 rfl (Nat.le_of_ble_eq_true rfl) (Nat.le_of_ble_eq_true rfl) ?_
  refine r_aast f_D_init_129 (Or.inl ⟨rfl, rfl⟩) rfl (show q_ix 6 6 8 from ⟨by decide, by decide⟩) rfl ?_
  refine r_ald0 f_D_init_130 ?_
  refine r_gr f_D_init_131 rfl (r := 33) rfl ?_
  refine r_ild1 f_D_init_134 ?_
  refine t_new (i := 48) f_D_init_135 rfl (Nat.le_of_ble_eq_true rfl) (Nat.le_of_ble_eq_true rfl) ?_
  refine r_dupr f_D_init_138 ?_
  refine c_M_init (mc' := 0) (ms' := 0) f_D_init_139 (Nat.le_of_ble_eq_true rfl) (Nat.le_of_ble_eq_true rfl) (Nat.le_of_ble_eq_true rfl) ?_
  refine r_ald0 f_M_init_0 ?_
  refine r_obj f_M_init_1 (Nat.le_of_ble_eq_true rfl) ?_
  refine r_ald0 f_M_init_4 ?_
  refine r_ic f_M_init_5 ?_
  refine r_pi f_M_init_6 rfl ?_
  refine r_ald0 f_M_init_9 ?_
  refine r_ic f_M_init_10 ?_
  refine r_pi f_M_init_11 rfl ?_
  refine r_ret f_M_init_14 rfl (Nat.le_of_ble_eq_true rfl) (Nat.le_of_ble_eq_true rfl) ?_
  refine r_aast f_D_init_142 (Or.inr ⟨rfl, rfl⟩) rfl (show q_ix 6 6 8 from ⟨by decide, by decide⟩) rfl ?_
  refine r_inc1 f_D_init_143 rfl ?_
  rw [show (6 : Int32) + 1 = 7 from by decide]
  refine r_goto f_D_init_146 ?_
  refine r_ild1 f_D_init_111 ?_
  refine r_ic f_D_init_112 ?_
  refine r_ic_ge f_D_init_114 (fun h => absurd h (by decide)) (fun _ => ?_)
  refine r_ald0 f_D_init_117 ?_
  refine r_gr f_D_init_118 rfl (r := 27) rfl ?_
  refine r_ild1 f_D_init_121 ?_
  refine t_new (i := 49) f_D_init_122 rfl (Nat.le_of_ble_eq_true rfl) (Nat.le_of_ble_eq_true rfl) ?_
  refine r_dupr f_D_init_125 ?_
  refine c_F_init (mc' := 0) (ms' := 0) f_D_init_126 (Nat.le_of_ble_eq_true rfl) (Nat.le_of_ble_eq_true rfl) (Nat.le_of_ble_eq_true rfl) ?_
  refine r_ald0 f_F_init_0 ?_
  refine r_obj f_F_init_1 (Nat.le_of_ble_eq_true rfl) ?_
  refine r_ret f_F_init_4 rfl (Nat.le_of_ble_eq_true rfl) (Nat.le_of_ble_eq_true rfl) ?_
  refine r_aast f_D_init_129 (Or.inl ⟨rfl, rfl⟩) rfl (show q_ix 7 7 8 from ⟨by decide, by decide⟩) rfl ?_
  refine r_ald0 f_D_init_130 ?_
  refine r_gr f_D_init_131 rfl (r := 33) rfl ?_
  refine r_ild1 f_D_init_134 ?_
  refine t_new (i := 50) f_D_init_135 rfl (Nat.le_of_ble_eq_true rfl) (Nat.le_of_ble_eq_true rfl) ?_
  refine r_dupr f_D_init_138 ?_
  refine c_M_init (mc' := 0) (ms' := 0) f_D_init_139 (Nat.le_of_ble_eq_true rfl) (Nat.le_of_ble_eq_true rfl) (Nat.le_of_ble_eq_true rfl) ?_
  refine r_ald0 f_M_init_0 ?_
  refine r_obj f_M_init_1 (Nat.le_of_ble_eq_true rfl) ?_
  refine r_ald0 f_M_init_4 ?_
  refine r_ic f_M_init_5 ?_
  refine r_pi f_M_init_6 rfl ?_
  refine r_ald0 f_M_init_9 ?_
  refine r_ic f_M_init_10 ?_
  refine r_pi f_M_init_11 rfl ?_
  refine r_ret f_M_init_14 rfl (Nat.le_of_ble_eq_true rfl) (Nat.le_of_ble_eq_true rfl) ?_
  refine r_aast f_D_init_142 (Or.inr ⟨rfl, rfl⟩) rfl (show q_ix 7 7 8 from ⟨by decide, by decide⟩) rfl ?_
  refine r_inc1 f_D_init_143 rfl ?_
  rw [show (7 : Int32) + 1 = 8 from by decide]
  refine r_goto f_D_init_146 ?_
  refine r_ild1 f_D_init_111 ?_
  refine r_ic f_D_init_112 ?_
  refine r_ic_ge f_D_init_114 (fun _ => ?_) (fun h => absurd h (by decide))
  refine r_ret f_D_init_149 rfl (Nat.le_of_ble_eq_true rfl) (Nat.le_of_ble_eq_true rfl) ?_
  exact hk _ _ _ (by decide +kernel)
def tR_a51 : Rf := q_tb none [(0, 0, some 1), (0, 1, some 26), (1, 0, some 2), (1, 1, some 3), (1, 2, some 4), (1, 3, some 5), (1, 10, some 8), (1, 11, some 9), (2, 0, some 10), (2, 1, some 12), (2, 2, some 14), (2, 3, some 16), (2, 4, some 18), (2, 5, some 20), (2, 6, some 22), (2, 7, some 24), (5, 0, some 6), (5, 1, some 7), (8, 0, some 11), (8, 1, some 13), (8, 2, some 15), (8, 3, some 17), (8, 4, some 19), (8, 5, some 21), (8, 6, some 23), (8, 7, some 25), (26, 0, some 27), (26, 1, some 28), (26, 2, some 29), (26, 3, some 30), (26, 10, some 33), (26, 11, some 34), (27, 0, some 35), (27, 1, some 37), (27, 2, some 39), (27, 3, some 41), (27, 4, some 43), (27, 5, some 45), (27, 6, some 47), (27, 7, some 49), (30, 0, some 31), (30, 1, some 32), (33, 0, some 36), (33, 1, some 38), (33, 2, some 40), (33, 3, some 42), (33, 4, some 44), (33, 5, some 46), (33, 6, some 48), (33, 7, some 50)]
def tI_a51 : Rn := q_tb 0 [(1, 6, 1), (1, 7, 1), (4, 0, 100), (4, 1, 50), (4, 2, 10), (11, 8, 1), (11, 10, 1), (13, 8, 1), (13, 10, 1), (15, 8, 1), (15, 10, 1), (17, 8, 1), (17, 10, 1), (19, 8, 1), (19, 10, 1), (21, 8, 1), (21, 10, 1), (23, 8, 1), (23, 10, 1), (25, 8, 1), (25, 10, 1), (26, 6, 1), (26, 7, 1), (29, 0, 100), (29, 1, 50), (29, 2, 10), (36, 8, 1), (36, 10, 1), (38, 8, 1), (38, 10, 1), (40, 8, 1), (40, 10, 1), (42, 8, 1), (42, 10, 1), (44, 8, 1), (44, 10, 1), (46, 8, 1), (46, 10, 1), (48, 8, 1), (48, 10, 1), (50, 8, 1), (50, 10, 1)]
def tR_b51 : Rf := q_tb none [(0, 0, some 1), (0, 1, some 26), (1, 0, some 2), (1, 1, some 3), (1, 2, some 4), (1, 3, some 5), (1, 10, some 8), (1, 11, some 9), (2, 0, some 10), (2, 1, some 12), (2, 2, some 14), (2, 3, some 16), (2, 4, some 18), (2, 5, some 20), (2, 6, some 22), (2, 7, some 24), (5, 0, some 6), (5, 1, some 7), (8, 0, some 11), (8, 1, some 13), (8, 2, some 15), (8, 3, some 17), (8, 4, some 19), (8, 5, some 21), (8, 6, some 23), (8, 7, some 25), (26, 0, some 27), (26, 1, some 28), (26, 2, some 29), (26, 3, some 30), (26, 10, some 33), (26, 11, some 34), (27, 0, some 35), (27, 1, some 37), (27, 2, some 39), (27, 3, some 41), (27, 4, some 43), (27, 5, some 45), (27, 6, some 47), (27, 7, some 49), (30, 0, some 31), (30, 1, some 32), (33, 0, some 36), (33, 1, some 38), (33, 2, some 40), (33, 3, some 42), (33, 4, some 44), (33, 5, some 46), (33, 6, some 48), (33, 7, some 50), (51, 0, some 52), (51, 1, some 53), (51, 2, some 54), (51, 3, some 55), (51, 10, some 58), (51, 11, some 59), (52, 0, some 60), (52, 1, some 62), (52, 2, some 64), (52, 3, some 66), (52, 4, some 68), (52, 5, some 70), (52, 6, some 72), (52, 7, some 74), (55, 0, some 56), (55, 1, some 57), (58, 0, some 61), (58, 1, some 63), (58, 2, some 65), (58, 3, some 67), (58, 4, some 69), (58, 5, some 71), (58, 6, some 73), (58, 7, some 75)]
def tI_b51 : Rn := q_tb 0 [(1, 6, 1), (1, 7, 1), (4, 0, 100), (4, 1, 50), (4, 2, 10), (11, 8, 1), (11, 10, 1), (13, 8, 1), (13, 10, 1), (15, 8, 1), (15, 10, 1), (17, 8, 1), (17, 10, 1), (19, 8, 1), (19, 10, 1), (21, 8, 1), (21, 10, 1), (23, 8, 1), (23, 10, 1), (25, 8, 1), (25, 10, 1), (26, 6, 1), (26, 7, 1), (29, 0, 100), (29, 1, 50), (29, 2, 10), (36, 8, 1), (36, 10, 1), (38, 8, 1), (38, 10, 1), (40, 8, 1), (40, 10, 1), (42, 8, 1), (42, 10, 1), (44, 8, 1), (44, 10, 1), (46, 8, 1), (46, 10, 1), (48, 8, 1), (48, 10, 1), (50, 8, 1), (50, 10, 1), (51, 6, 1), (51, 7, 1), (54, 0, 100), (54, 1, 50), (54, 2, 10), (61, 8, 1), (61, 10, 1), (63, 8, 1), (63, 10, 1), (65, 8, 1), (65, 10, 1), (67, 8, 1), (67, 10, 1), (69, 8, 1), (69, 10, 1), (71, 8, 1), (71, 10, 1), (73, 8, 1), (73, 10, 1), (75, 8, 1), (75, 10, 1)]
set_option maxHeartbeats 8000000 in
theorem ctor_D_51 (hk : ∀ R' I' L', q_agr (SH.take 76) R' tR_b51 I' tI_b51 L' (fun _ _ => 0) = true → K none (SH.take 76) R' I' L') : WW G (d + 1) mt_D_init 0 [some (.ref 51), none] [] (SH.take 52) tR_a51 tI_a51 (fun _ _ => 0) 0 0 24 321 K := by
  refine r_ald0 f_D_init_0 ?_
  refine r_obj f_D_init_1 (Nat.le_of_ble_eq_true rfl) ?_
  refine r_ald0 f_D_init_4 ?_
  refine r_ic f_D_init_5 ?_
  refine t_newq (i := 52) (n := 8) f_D_init_7 rfl (by decide) (by decide) (Nat.le_of_ble_eq_true rfl) (Nat.le_of_ble_eq_true rfl) ?_
  refine r_pr f_D_init_10 rfl rfl ?_
  refine r_ald0 f_D_init_13 ?_
  refine r_ic f_D_init_14 ?_
  refine t_newa (i := 53) (n := 8) f_D_init_16 rfl (by decide) (by decide) (Nat.le_of_ble_eq_true rfl) (Nat.le_of_ble_eq_true rfl) ?_
  refine r_pr f_D_init_18 rfl rfl ?_
  refine r_ald0 f_D_init_21 ?_
  refine r_ic f_D_init_22 ?_
  refine t_newa (i := 54) (n := 5) f_D_init_23 rfl (by decide) (by decide) (Nat.le_of_ble_eq_true rfl) (Nat.le_of_ble_eq_true rfl) ?_
  refine r_dupr f_D_init_25 ?_
  refine r_ic f_D_init_26 ?_
  refine r_ic f_D_init_27 ?_
  refine r_iast f_D_init_29 rfl (show q_ix 0 0 5 from ⟨by decide, by decide⟩) ?_
  refine r_dupr f_D_init_30 ?_
  refine r_ic f_D_init_31 ?_
  refine r_ic f_D_init_32 ?_
  refine r_iast f_D_init_34 rfl (show q_ix 1 1 5 from ⟨by decide, by decide⟩) ?_
  refine r_dupr f_D_init_35 ?_
  refine r_ic f_D_init_36 ?_
  refine r_ic f_D_init_37 ?_
  refine r_iast f_D_init_39 rfl (show q_ix 2 2 5 from ⟨by decide, by decide⟩) ?_
  refine r_dupr f_D_init_40 ?_
  refine r_ic f_D_init_41 ?_
  refine r_ic f_D_init_42 ?_
  refine r_iast f_D_init_43 rfl (show q_ix 3 3 5 from ⟨by decide, by decide⟩) ?_
  refine r_dupr f_D_init_44 ?_
  refine r_ic f_D_init_45 ?_
  refine r_ic f_D_init_46 ?_
  refine r_iast f_D_init_47 rfl (show q_ix 4 4 5 from ⟨by decide, by decide⟩) ?_
  refine r_pr f_D_init_48 rfl rfl ?_
  refine r_ald0 f_D_init_51 ?_
  refine t_new (i := 55) f_D_init_52 rfl (Nat.le_of_ble_eq_true rfl) (Nat.le_of_ble_eq_true rfl) ?_
  refine r_dupr f_D_init_55 ?_
  refine c_T_init (mc' := 2) (ms' := 120) f_D_init_56 (Nat.le_of_ble_eq_true rfl) (Nat.le_of_ble_eq_true rfl) (Nat.le_of_ble_eq_true rfl) ?_
  refine r_ald0 f_T_init_0 ?_
  refine r_obj f_T_init_1 (Nat.le_of_ble_eq_true rfl) ?_
  refine r_ald0 f_T_init_4 ?_
  refine r_ic f_T_init_5 ?_
  refine t_newa (i := 56) (n := 60) f_T_init_7 rfl (by decide) (by decide) (Nat.le_of_ble_eq_true rfl) (Nat.le_of_ble_eq_true rfl) ?_
  refine r_pr f_T_init_9 rfl rfl ?_
  refine r_ald0 f_T_init_12 ?_
  refine r_ic f_T_init_13 ?_
  refine t_newa (i := 57) (n := 60) f_T_init_15 rfl (by decide) (by decide) (Nat.le_of_ble_eq_true rfl) (Nat.le_of_ble_eq_true rfl) ?_
  refine r_pr f_T_init_17 rfl rfl ?_
  refine r_ald0 f_T_init_20 ?_
  refine r_ic f_T_init_21 ?_
  refine r_pi f_T_init_22 rfl ?_
  refine r_ald0 f_T_init_25 ?_
  refine r_ic f_T_init_26 ?_
  refine r_pi f_T_init_27 rfl ?_
  refine r_ret f_T_init_30 rfl (Nat.le_of_ble_eq_true rfl) (Nat.le_of_ble_eq_true rfl) ?_
  refine r_pr f_D_init_59 rfl rfl ?_
  refine r_ald0 f_D_init_62 ?_
  refine r_ic f_D_init_63 ?_
  refine r_pi f_D_init_64 rfl ?_
  refine r_ald0 f_D_init_67 ?_
  refine r_ic f_D_init_68 ?_
  refine r_pi f_D_init_69 rfl ?_
  refine r_ald0 f_D_init_72 ?_
  refine r_ic f_D_init_73 ?_
  refine r_pi f_D_init_74 rfl ?_
  refine r_ald0 f_D_init_77 ?_
  refine r_ic f_D_init_78 ?_
  refine r_pi f_D_init_79 rfl ?_
  refine r_ald0 f_D_init_82 ?_
  refine r_ic f_D_init_83 ?_
  refine r_pi f_D_init_84 rfl ?_
  refine r_ald0 f_D_init_87 ?_
  refine r_ic f_D_init_88 ?_
  refine r_pi f_D_init_89 rfl ?_
  refine r_ald0 f_D_init_92 ?_
  refine r_ic f_D_init_93 ?_
  refine t_newq (i := 58) (n := 8) f_D_init_95 rfl (by decide) (by decide) (Nat.le_of_ble_eq_true rfl) (Nat.le_of_ble_eq_true rfl) ?_
  refine r_pr f_D_init_98 rfl rfl ?_
  refine r_ald0 f_D_init_101 ?_
  refine r_ic f_D_init_102 ?_
  refine t_newa (i := 59) (n := 8) f_D_init_104 rfl (by decide) (by decide) (Nat.le_of_ble_eq_true rfl) (Nat.le_of_ble_eq_true rfl) ?_
  refine r_pr f_D_init_106 rfl rfl ?_
  refine r_ic f_D_init_109 ?_
  refine r_ist1 f_D_init_110 rfl ?_
  refine r_ild1 f_D_init_111 ?_
  refine r_ic f_D_init_112 ?_
  refine r_ic_ge f_D_init_114 (fun h => absurd h (by decide)) (fun _ => ?_)
  refine r_ald0 f_D_init_117 ?_
  refine r_gr f_D_init_118 rfl (r := 52) rfl ?_
  refine r_ild1 f_D_init_121 ?_
  refine t_new (i := 60) f_D_init_122 rfl (Nat.le_of_ble_eq_true rfl) (Nat.le_of_ble_eq_true rfl) ?_
  refine r_dupr f_D_init_125 ?_
  refine c_F_init (mc' := 0) (ms' := 0) f_D_init_126 (Nat.le_of_ble_eq_true rfl) (Nat.le_of_ble_eq_true rfl) (Nat.le_of_ble_eq_true rfl) ?_
  refine r_ald0 f_F_init_0 ?_
  refine r_obj f_F_init_1 (Nat.le_of_ble_eq_true rfl) ?_
  refine r_ret f_F_init_4 rfl (Nat.le_of_ble_eq_true rfl) (Nat.le_of_ble_eq_true rfl) ?_
  refine r_aast f_D_init_129 (Or.inl ⟨rfl, rfl⟩) rfl (show q_ix 0 0 8 from ⟨by decide, by decide⟩) rfl ?_
  refine r_ald0 f_D_init_130 ?_
  refine r_gr f_D_init_131 rfl (r := 58) rfl ?_
  refine r_ild1 f_D_init_134 ?_
  refine t_new (i := 61) f_D_init_135 rfl (Nat.le_of_ble_eq_true rfl) (Nat.le_of_ble_eq_true rfl) ?_
  refine r_dupr f_D_init_138 ?_
  refine c_M_init (mc' := 0) (ms' := 0) f_D_init_139 (Nat.le_of_ble_eq_true rfl) (Nat.le_of_ble_eq_true rfl) (Nat.le_of_ble_eq_true rfl) ?_
  refine r_ald0 f_M_init_0 ?_
  refine r_obj f_M_init_1 (Nat.le_of_ble_eq_true rfl) ?_
  refine r_ald0 f_M_init_4 ?_
  refine r_ic f_M_init_5 ?_
  refine r_pi f_M_init_6 rfl ?_
  refine r_ald0 f_M_init_9 ?_
  refine r_ic f_M_init_10 ?_
  refine r_pi f_M_init_11 rfl ?_
  refine r_ret f_M_init_14 rfl (Nat.le_of_ble_eq_true rfl) (Nat.le_of_ble_eq_true rfl) ?_
  refine r_aast f_D_init_142 (Or.inr ⟨rfl, rfl⟩) rfl (show q_ix 0 0 8 from ⟨by decide, by decide⟩) rfl ?_
  refine r_inc1 f_D_init_143 rfl ?_
  rw [show (0 : Int32) + 1 = 1 from by decide]
  refine r_goto f_D_init_146 ?_
  refine r_ild1 f_D_init_111 ?_
  refine r_ic f_D_init_112 ?_
  refine r_ic_ge f_D_init_114 (fun h => absurd h (by decide)) (fun _ => ?_)
  refine r_ald0 f_D_init_117 ?_
  refine r_gr f_D_init_118 rfl (r := 52) rfl ?_
  refine r_ild1 f_D_init_121 ?_
  refine t_new (i := 62) f_D_init_122 rfl (Nat.le_of_ble_eq_true rfl) (Nat.le_of_ble_eq_true rfl) ?_
  refine r_dupr f_D_init_125 ?_
  refine c_F_init (mc' := 0) (ms' := 0) f_D_init_126 (Nat.le_of_ble_eq_true rfl) (Nat.le_of_ble_eq_true rfl) (Nat.le_of_ble_eq_true rfl) ?_
  refine r_ald0 f_F_init_0 ?_
  refine r_obj f_F_init_1 (Nat.le_of_ble_eq_true rfl) ?_
  refine r_ret f_F_init_4 rfl (Nat.le_of_ble_eq_true rfl) (Nat.le_of_ble_eq_true rfl) ?_
  refine r_aast f_D_init_129 (Or.inl ⟨rfl, rfl⟩) rfl (show q_ix 1 1 8 from ⟨by decide, by decide⟩) rfl ?_
  refine r_ald0 f_D_init_130 ?_
  refine r_gr f_D_init_131 rfl (r := 58) rfl ?_
  refine r_ild1 f_D_init_134 ?_
  refine t_new (i := 63) f_D_init_135 rfl (Nat.le_of_ble_eq_true rfl) (Nat.le_of_ble_eq_true rfl) ?_
  refine r_dupr f_D_init_138 ?_
  refine c_M_init (mc' := 0) (ms' := 0) f_D_init_139 (Nat.le_of_ble_eq_true rfl) (Nat.le_of_ble_eq_true rfl) (Nat.le_of_ble_eq_true rfl) ?_
  refine r_ald0 f_M_init_0 ?_
  refine r_obj f_M_init_1 (Nat.le_of_ble_eq_true rfl) ?_
  refine r_ald0 f_M_init_4 ?_
  refine r_ic f_M_init_5 ?_
  refine r_pi f_M_init_6 rfl ?_
  refine r_ald0 f_M_init_9 ?_
  refine r_ic f_M_init_10 ?_
  refine r_pi f_M_init_11 rfl ?_
  refine r_ret f_M_init_14 rfl (Nat.le_of_ble_eq_true rfl) (Nat.le_of_ble_eq_true rfl) ?_
  refine r_aast f_D_init_142 (Or.inr ⟨rfl, rfl⟩) rfl (show q_ix 1 1 8 from ⟨by decide, by decide⟩) rfl ?_
  refine r_inc1 f_D_init_143 rfl ?_
  rw [show (1 : Int32) + 1 = 2 from by decide]
  refine r_goto f_D_init_146 ?_
  refine r_ild1 f_D_init_111 ?_
  refine r_ic f_D_init_112 ?_
  refine r_ic_ge f_D_init_114 (fun h => absurd h (by decide)) (fun _ => ?_)
  refine r_ald0 f_D_init_117 ?_
  refine r_gr f_D_init_118 rfl (r := 52) rfl ?_
  refine r_ild1 f_D_init_121 ?_
  refine t_new (i := 64) f_D_init_122 rfl (Nat.le_of_ble_eq_true rfl) (Nat.le_of_ble_eq_true rfl) ?_
  refine r_dupr f_D_init_125 ?_
  refine c_F_init (mc' := 0) (ms' := 0) f_D_init_126 (Nat.le_of_ble_eq_true rfl) (Nat.le_of_ble_eq_true rfl) (Nat.le_of_ble_eq_true rfl) ?_
  refine r_ald0 f_F_init_0 ?_
  refine r_obj f_F_init_1 (Nat.le_of_ble_eq_true rfl) ?_
  refine r_ret f_F_init_4 rfl (Nat.le_of_ble_eq_true rfl) (Nat.le_of_ble_eq_true rfl) ?_
  refine r_aast f_D_init_129 (Or.inl ⟨rfl, rfl⟩) rfl (show q_ix 2 2 8 from ⟨by decide, by decide⟩) rfl ?_
  refine r_ald0 f_D_init_130 ?_
  refine r_gr f_D_init_131 rfl (r := 58) rfl ?_
  refine r_ild1 f_D_init_134 ?_
  refine t_new (i := 65) f_D_init_135 rfl (Nat.le_of_ble_eq_true rfl) (Nat.le_of_ble_eq_true rfl) ?_
  refine r_dupr f_D_init_138 ?_
  refine c_M_init (mc' := 0) (ms' := 0) f_D_init_139 (Nat.le_of_ble_eq_true rfl) (Nat.le_of_ble_eq_true rfl) (Nat.le_of_ble_eq_true rfl) ?_
  refine r_ald0 f_M_init_0 ?_
  refine r_obj f_M_init_1 (Nat.le_of_ble_eq_true rfl) ?_
  refine r_ald0 f_M_init_4 ?_
  refine r_ic f_M_init_5 ?_
  refine r_pi f_M_init_6 rfl ?_
  refine r_ald0 f_M_init_9 ?_
  refine r_ic f_M_init_10 ?_
  refine r_pi f_M_init_11 rfl ?_
  refine r_ret f_M_init_14 rfl (Nat.le_of_ble_eq_true rfl) (Nat.le_of_ble_eq_true rfl) ?_
  refine r_aast f_D_init_142 (Or.inr ⟨rfl, rfl⟩) rfl (show q_ix 2 2 8 from ⟨by decide, by decide⟩) rfl ?_
  refine r_inc1 f_D_init_143 rfl ?_
  rw [show (2 : Int32) + 1 = 3 from by decide]
  refine r_goto f_D_init_146 ?_
  refine r_ild1 f_D_init_111 ?_
  refine r_ic f_D_init_112 ?_
  refine r_ic_ge f_D_init_114 (fun h => absurd h (by decide)) (fun _ => ?_)
  refine r_ald0 f_D_init_117 ?_
  refine r_gr f_D_init_118 rfl (r := 52) rfl ?_
  refine r_ild1 f_D_init_121 ?_
  refine t_new (i := 66) f_D_init_122 rfl (Nat.le_of_ble_eq_true rfl) (Nat.le_of_ble_eq_true rfl) ?_
  refine r_dupr f_D_init_125 ?_
  refine c_F_init (mc' := 0) (ms' := 0) f_D_init_126 (Nat.le_of_ble_eq_true rfl) (Nat.le_of_ble_eq_true rfl) (Nat.le_of_ble_eq_true rfl) ?_
  refine r_ald0 f_F_init_0 ?_
  refine r_obj f_F_init_1 (Nat.le_of_ble_eq_true rfl) ?_
  refine r_ret f_F_init_4 rfl (Nat.le_of_ble_eq_true rfl) (Nat.le_of_ble_eq_true rfl) ?_
  refine r_aast f_D_init_129 (Or.inl ⟨rfl, rfl⟩) rfl (show q_ix 3 3 8 from ⟨by decide, by decide⟩) rfl ?_
  refine r_ald0 f_D_init_130 ?_
  refine r_gr f_D_init_131 rfl (r := 58) rfl ?_
  refine r_ild1 f_D_init_134 ?_
  refine t_new (i := 67) f_D_init_135 rfl (Nat.le_of_ble_eq_true rfl) (Nat.le_of_ble_eq_true rfl) ?_
  refine r_dupr f_D_init_138 ?_
  refine c_M_init (mc' := 0) (ms' := 0) f_D_init_139 (Nat.le_of_ble_eq_true rfl) (Nat.le_of_ble_eq_true rfl) (Nat.le_of_ble_eq_true rfl) ?_
  refine r_ald0 f_M_init_0 ?_
  refine r_obj f_M_init_1 (Nat.le_of_ble_eq_true rfl) ?_
  refine r_ald0 f_M_init_4 ?_
  refine r_ic f_M_init_5 ?_
  refine r_pi f_M_init_6 rfl ?_
  refine r_ald0 f_M_init_9 ?_
  refine r_ic f_M_init_10 ?_
  refine r_pi f_M_init_11 rfl ?_
  refine r_ret f_M_init_14 rfl (Nat.le_of_ble_eq_true rfl) (Nat.le_of_ble_eq_true rfl) ?_
  refine r_aast f_D_init_142 (Or.inr ⟨rfl, rfl⟩) rfl (show q_ix 3 3 8 from ⟨by decide, by decide⟩) rfl ?_
  refine r_inc1 f_D_init_143 rfl ?_
  rw [show (3 : Int32) + 1 = 4 from by decide]
  refine r_goto f_D_init_146 ?_
  refine r_ild1 f_D_init_111 ?_
  refine r_ic f_D_init_112 ?_
  refine r_ic_ge f_D_init_114 (fun h => absurd h (by decide)) (fun _ => ?_)
  refine r_ald0 f_D_init_117 ?_
  refine r_gr f_D_init_118 rfl (r := 52) rfl ?_
  refine r_ild1 f_D_init_121 ?_
  refine t_new (i := 68) f_D_init_122 rfl (Nat.le_of_ble_eq_true rfl) (Nat.le_of_ble_eq_true rfl) ?_
  refine r_dupr f_D_init_125 ?_
  refine c_F_init (mc' := 0) (ms' := 0) f_D_init_126 (Nat.le_of_ble_eq_true rfl) (Nat.le_of_ble_eq_true rfl) (Nat.le_of_ble_eq_true rfl) ?_
  refine r_ald0 f_F_init_0 ?_
  refine r_obj f_F_init_1 (Nat.le_of_ble_eq_true rfl) ?_
  refine r_ret f_F_init_4 rfl (Nat.le_of_ble_eq_true rfl) (Nat.le_of_ble_eq_true rfl) ?_
  refine r_aast f_D_init_129 (Or.inl ⟨rfl, rfl⟩) rfl (show q_ix 4 4 8 from ⟨by decide, by decide⟩) rfl ?_
  refine r_ald0 f_D_init_130 ?_
  refine r_gr f_D_init_131 rfl (r := 58) rfl ?_
  refine r_ild1 f_D_init_134 ?_
  refine t_new (i := 69) f_D_init_135 rfl (Nat.le_of_ble_eq_true rfl) (Nat.le_of_ble_eq_true rfl) ?_
  refine r_dupr f_D_init_138 ?_
  refine c_M_init (mc' := 0) (ms' := 0) f_D_init_139 (Nat.le_of_ble_eq_true rfl) (Nat.le_of_ble_eq_true rfl) (Nat.le_of_ble_eq_true rfl) ?_
  refine r_ald0 f_M_init_0 ?_
  refine r_obj f_M_init_1 (Nat.le_of_ble_eq_true rfl) ?_
  refine r_ald0 f_M_init_4 ?_
  refine r_ic f_M_init_5 ?_
  refine r_pi f_M_init_6 rfl ?_
  refine r_ald0 f_M_init_9 ?_
  refine r_ic f_M_init_10 ?_
  refine r_pi f_M_init_11 rfl ?_
  refine r_ret f_M_init_14 rfl (Nat.le_of_ble_eq_true rfl) (Nat.le_of_ble_eq_true rfl) ?_
  refine r_aast f_D_init_142 (Or.inr ⟨rfl, rfl⟩) rfl (show q_ix 4 4 8 from ⟨by decide, by decide⟩) rfl ?_
  refine r_inc1 f_D_init_143 rfl ?_
  rw [show (4 : Int32) + 1 = 5 from by decide]
  refine r_goto f_D_init_146 ?_
  refine r_ild1 f_D_init_111 ?_
  refine r_ic f_D_init_112 ?_
  refine r_ic_ge f_D_init_114 (fun h => absurd h (by decide)) (fun _ => ?_)
  refine r_ald0 f_D_init_117 ?_
  refine r_gr f_D_init_118 rfl (r := 52) rfl ?_
  refine r_ild1 f_D_init_121 ?_
  refine t_new (i := 70) f_D_init_122 rfl (Nat.le_of_ble_eq_true rfl) (Nat.le_of_ble_eq_true rfl) ?_
  refine r_dupr f_D_init_125 ?_
  refine c_F_init (mc' := 0) (ms' := 0) f_D_init_126 (Nat.le_of_ble_eq_true rfl) (Nat.le_of_ble_eq_true rfl) (Nat.le_of_ble_eq_true rfl) ?_
  refine r_ald0 f_F_init_0 ?_
  refine r_obj f_F_init_1 (Nat.le_of_ble_eq_true rfl) ?_
  refine r_ret f_F_init_4 rfl (Nat.le_of_ble_eq_true rfl) (Nat.le_of_ble_eq_true rfl) ?_
  refine r_aast f_D_init_129 (Or.inl ⟨rfl, rfl⟩) rfl (show q_ix 5 5 8 from ⟨by decide, by decide⟩) rfl ?_
  refine r_ald0 f_D_init_130 ?_
  refine r_gr f_D_init_131 rfl (r := 58) rfl ?_
  refine r_ild1 f_D_init_134 ?_
  refine t_new (i := 71) f_D_init_135 rfl (Nat.le_of_ble_eq_true rfl) (Nat.le_of_ble_eq_true rfl) ?_
  refine r_dupr f_D_init_138 ?_
  refine c_M_init (mc' := 0) (ms' := 0) f_D_init_139 (Nat.le_of_ble_eq_true rfl) (Nat.le_of_ble_eq_true rfl) (Nat.le_of_ble_eq_true rfl) ?_
  refine r_ald0 f_M_init_0 ?_
  refine r_obj f_M_init_1 (Nat.le_of_ble_eq_true rfl) ?_
  refine r_ald0 f_M_init_4 ?_
  refine r_ic f_M_init_5 ?_
  refine r_pi f_M_init_6 rfl ?_
  refine r_ald0 f_M_init_9 ?_
  refine r_ic f_M_init_10 ?_
  refine r_pi f_M_init_11 rfl ?_
  refine r_ret f_M_init_14 rfl (Nat.le_of_ble_eq_true rfl) (Nat.le_of_ble_eq_true rfl) ?_
  refine r_aast f_D_init_142 (Or.inr ⟨rfl, rfl⟩) rfl (show q_ix 5 5 8 from ⟨by decide, by decide⟩) rfl ?_
  refine r_inc1 f_D_init_143 rfl ?_
  rw [show (5 : Int32) + 1 = 6 from by decide]
  refine r_goto f_D_init_146 ?_
  refine r_ild1 f_D_init_111 ?_
  refine r_ic f_D_init_112 ?_
  refine r_ic_ge f_D_init_114 (fun h => absurd h (by decide)) (fun _ => ?_)
  refine r_ald0 f_D_init_117 ?_
  refine r_gr f_D_init_118 rfl (r := 52) rfl ?_
  refine r_ild1 f_D_init_121 ?_
  refine t_new (i := 72) f_D_init_122 rfl (Nat.le_of_ble_eq_true rfl) (Nat.le_of_ble_eq_true rfl) ?_
  refine r_dupr f_D_init_125 ?_
  refine c_F_init (mc' := 0) (ms' := 0) f_D_init_126 (Nat.le_of_ble_eq_true rfl) (Nat.le_of_ble_eq_true rfl) (Nat.le_of_ble_eq_true rfl) ?_
  refine r_ald0 f_F_init_0 ?_
  refine r_obj f_F_init_1 (Nat.le_of_ble_eq_true rfl) ?_
  refine r_ret f_F_init_4 rfl (Nat.le_of_ble_eq_true rfl) (Nat.le_of_ble_eq_true rfl) ?_
  refine r_aast f_D_init_129 (Or.inl ⟨rfl, rfl⟩) rfl (show q_ix 6 6 8 from ⟨by decide, by decide⟩) rfl ?_
  refine r_ald0 f_D_init_130 ?_
  refine r_gr f_D_init_131 rfl (r := 58) rfl ?_
  refine r_ild1 f_D_init_134 ?_
  refine t_new (i := 73) f_D_init_135 rfl (Nat.le_of_ble_eq_true rfl) (Nat.le_of_ble_eq_true rfl) ?_
  refine r_dupr f_D_init_138 ?_
  refine c_M_init (mc' := 0) (ms' := 0) f_D_init_139 (Nat.le_of_ble_eq_true rfl) (Nat.le_of_ble_eq_true rfl) (Nat.le_of_ble_eq_true rfl) ?_
  refine r_ald0 f_M_init_0 ?_
  refine r_obj f_M_init_1 (Nat.le_of_ble_eq_true rfl) ?_
  refine r_ald0 f_M_init_4 ?_
  refine r_ic f_M_init_5 ?_
  refine r_pi f_M_init_6 rfl ?_
  refine r_ald0 f_M_init_9 ?_
  refine r_ic f_M_init_10 ?_
  refine r_pi f_M_init_11 rfl ?_
  refine r_ret f_M_init_14 rfl (Nat.le_of_ble_eq_true rfl) (Nat.le_of_ble_eq_true rfl) ?_
  refine r_aast f_D_init_142 (Or.inr ⟨rfl, rfl⟩) rfl (show q_ix 6 6 8 from ⟨by decide, by decide⟩) rfl ?_
  refine r_inc1 f_D_init_143 rfl ?_
  rw [show (6 : Int32) + 1 = 7 from by decide]
  refine r_goto f_D_init_146 ?_
  refine r_ild1 f_D_init_111 ?_
  refine r_ic f_D_init_112 ?_
  refine r_ic_ge f_D_init_114 (fun h => absurd h (by decide)) (fun _ => ?_)
  refine r_ald0 f_D_init_117 ?_
  refine r_gr f_D_init_118 rfl (r := 52) rfl ?_
  refine r_ild1 f_D_init_121 ?_
  refine t_new (i := 74) f_D_init_122 rfl (Nat.le_of_ble_eq_true rfl) (Nat.le_of_ble_eq_true rfl) ?_
  refine r_dupr f_D_init_125 ?_
  refine c_F_init (mc' := 0) (ms' := 0) f_D_init_126 (Nat.le_of_ble_eq_true rfl) (Nat.le_of_ble_eq_true rfl) (Nat.le_of_ble_eq_true rfl) ?_
  refine r_ald0 f_F_init_0 ?_
  refine r_obj f_F_init_1 (Nat.le_of_ble_eq_true rfl) ?_
  refine r_ret f_F_init_4 rfl (Nat.le_of_ble_eq_true rfl) (Nat.le_of_ble_eq_true rfl) ?_
  refine r_aast f_D_init_129 (Or.inl ⟨rfl, rfl⟩) rfl (show q_ix 7 7 8 from ⟨by decide, by decide⟩) rfl ?_
  refine r_ald0 f_D_init_130 ?_
  refine r_gr f_D_init_131 rfl (r := 58) rfl ?_
  refine r_ild1 f_D_init_134 ?_
  refine t_new (i := 75) f_D_init_135 rfl (Nat.le_of_ble_eq_true rfl) (Nat.le_of_ble_eq_true rfl) ?_
  refine r_dupr f_D_init_138 ?_
  refine c_M_init (mc' := 0) (ms' := 0) f_D_init_139 (Nat.le_of_ble_eq_true rfl) (Nat.le_of_ble_eq_true rfl) (Nat.le_of_ble_eq_true rfl) ?_
  refine r_ald0 f_M_init_0 ?_
  refine r_obj f_M_init_1 (Nat.le_of_ble_eq_true rfl) ?_
  refine r_ald0 f_M_init_4 ?_
  refine r_ic f_M_init_5 ?_
  refine r_pi f_M_init_6 rfl ?_
  refine r_ald0 f_M_init_9 ?_
  refine r_ic f_M_init_10 ?_
  refine r_pi f_M_init_11 rfl ?_
  refine r_ret f_M_init_14 rfl (Nat.le_of_ble_eq_true rfl) (Nat.le_of_ble_eq_true rfl) ?_
  refine r_aast f_D_init_142 (Or.inr ⟨rfl, rfl⟩) rfl (show q_ix 7 7 8 from ⟨by decide, by decide⟩) rfl ?_
  refine r_inc1 f_D_init_143 rfl ?_
  rw [show (7 : Int32) + 1 = 8 from by decide]
  refine r_goto f_D_init_146 ?_
  refine r_ild1 f_D_init_111 ?_
  refine r_ic f_D_init_112 ?_
  refine r_ic_ge f_D_init_114 (fun _ => ?_) (fun h => absurd h (by decide))
  refine r_ret f_D_init_149 rfl (Nat.le_of_ble_eq_true rfl) (Nat.le_of_ble_eq_true rfl) ?_
  exact hk _ _ _ (by decide +kernel)
def tR_n1 : Rf := q_tb none [(0, 0, some 1), (0, 1, some 26), (0, 2, some 51), (0, 3, some 76), (0, 4, some 81), (0, 5, some 86), (0, 6, some 94), (1, 0, some 2), (1, 1, some 3), (1, 2, some 4), (1, 3, some 5), (1, 10, some 8), (1, 11, some 9), (2, 0, some 10), (2, 1, some 12), (2, 2, some 14), (2, 3, some 16), (2, 4, some 18), (2, 5, some 20), (2, 6, some 22), (2, 7, some 24), (5, 0, some 6), (5, 1, some 7), (8, 0, some 11), (8, 1, some 13), (8, 2, some 15), (8, 3, some 17), (8, 4, some 19), (8, 5, some 21), (8, 6, some 23), (8, 7, some 25), (26, 0, some 27), (26, 1, some 28), (26, 2, some 29), (26, 3, some 30), (26, 10, some 33), (26, 11, some 34), (27, 0, some 35), (27, 1, some 37), (27, 2, some 39), (27, 3, some 41), (27, 4, some 43), (27, 5, some 45), (27, 6, some 47), (27, 7, some 49), (30, 0, some 31), (30, 1, some 32), (33, 0, some 36), (33, 1, some 38), (33, 2, some 40), (33, 3, some 42), (33, 4, some 44), (33, 5, some 46), (33, 6, some 48), (33, 7, some 50), (51, 0, some 52), (51, 1, some 53), (51, 2, some 54), (51, 3, some 55), (51, 10, some 58), (51, 11, some 59), (52, 0, some 60), (52, 1, some 62), (52, 2, some 64), (52, 3, some 66), (52, 4, some 68), (52, 5, some 70), (52, 6, some 72), (52, 7, some 74), (55, 0, some 56), (55, 1, some 57), (58, 0, some 61), (58, 1, some 63), (58, 2, some 65), (58, 3, some 67), (58, 4, some 69), (58, 5, some 71), (58, 6, some 73), (58, 7, some 75), (76, 0, some 77), (76, 1, some 78), (76, 2, some 79), (76, 3, some 80), (81, 0, some 82), (81, 1, some 83), (83, 0, some 84), (83, 1, some 85), (86, 0, some 87), (86, 1, some 92), (86, 2, some 93), (87, 0, some 88), (87, 1, some 89), (87, 2, some 90), (87, 3, some 91)]
def tI_n1 : Rn := q_tb 0 [(1, 6, 1), (1, 7, 1), (4, 0, 100), (4, 1, 50), (4, 2, 10), (11, 8, 1), (11, 10, 1), (13, 8, 1), (13, 10, 1), (15, 8, 1), (15, 10, 1), (17, 8, 1), (17, 10, 1), (19, 8, 1), (19, 10, 1), (21, 8, 1), (21, 10, 1), (23, 8, 1), (23, 10, 1), (25, 8, 1), (25, 10, 1), (26, 6, 1), (26, 7, 1), (29, 0, 100), (29, 1, 50), (29, 2, 10), (36, 8, 1), (36, 10, 1), (38, 8, 1), (38, 10, 1), (40, 8, 1), (40, 10, 1), (42, 8, 1), (42, 10, 1), (44, 8, 1), (44, 10, 1), (46, 8, 1), (46, 10, 1), (48, 8, 1), (48, 10, 1), (50, 8, 1), (50, 10, 1), (51, 6, 1), (51, 7, 1), (54, 0, 100), (54, 1, 50), (54, 2, 10), (61, 8, 1), (61, 10, 1), (63, 8, 1), (63, 10, 1), (65, 8, 1), (65, 10, 1), (67, 8, 1), (67, 10, 1), (69, 8, 1), (69, 10, 1), (71, 8, 1), (71, 10, 1), (73, 8, 1), (73, 10, 1), (75, 8, 1), (75, 10, 1), (80, 8, 1), (80, 10, 1)]
set_option maxHeartbeats 8000000 in
theorem ctor_N (hk : ∀ R' I' L', q_agr (SH.take 95) R' tR_n1 I' tI_n1 L' (fun _ _ => 0) = true → K none (SH.take 95) R' I' L') : WW G (d + 2) mt_N_init 0 [some (.ref 0)] [] (SH.take 1) tR_n0 tI_n0 (fun _ _ => 0) 0 0 94 1788 K := by
  refine r_ald0 f_N_init_0 ?_
  refine r_obj f_N_init_1 (Nat.le_of_ble_eq_true rfl) ?_
  refine r_ald0 f_N_init_4 ?_
  refine t_new (i := 1) f_N_init_5 rfl (Nat.le_of_ble_eq_true rfl) (Nat.le_of_ble_eq_true rfl) ?_
  refine r_dupr f_N_init_8 ?_
  refine c_D_init (mc' := 24) (ms' := 321) f_N_init_9 (Nat.le_of_ble_eq_true rfl) (Nat.le_of_ble_eq_true rfl) (Nat.le_of_ble_eq_true rfl) ?_
  refine WW.tab (R' := tR_a1) (I' := tI_a1) (L' := (fun _ _ => 0)) ?_ (by decide +kernel)
  refine ctor_D_1 (fun R9 I9 L9 e9 => ?_)
  refine WW.tab ?_ e9
  refine r_pr f_N_init_12 rfl rfl ?_
  refine r_ald0 f_N_init_15 ?_
  refine t_new (i := 26) f_N_init_16 rfl (Nat.le_of_ble_eq_true rfl) (Nat.le_of_ble_eq_true rfl) ?_
  refine r_dupr f_N_init_19 ?_
  refine c_D_init (mc' := 24) (ms' := 321) f_N_init_20 (Nat.le_of_ble_eq_true rfl) (Nat.le_of_ble_eq_true rfl) (Nat.le_of_ble_eq_true rfl) ?_
  refine WW.tab (R' := tR_a26) (I' := tI_a26) (L' := (fun _ _ => 0)) ?_ (by decide +kernel)
  refine ctor_D_26 (fun R9 I9 L9 e9 => ?_)
  refine WW.tab ?_ e9
  refine r_pr f_N_init_23 rfl rfl ?_
  refine r_ald0 f_N_init_26 ?_
  refine t_new (i := 51) f_N_init_27 rfl (Nat.le_of_ble_eq_true rfl) (Nat.le_of_ble_eq_true rfl) ?_
  refine r_dupr f_N_init_30 ?_
  refine c_D_init (mc' := 24) (ms' := 321) f_N_init_31 (Nat.le_of_ble_eq_true rfl) (Nat.le_of_ble_eq_true rfl) (Nat.le_of_ble_eq_true rfl) ?_
  refine WW.tab (R' := tR_a51) (I' := tI_a51) (L' := (fun _ _ => 0)) ?_ (by decide +kernel)
  refine ctor_D_51 (fun R9 I9 L9 e9 => ?_)
  refine WW.tab ?_ e9
  refine r_pr f_N_init_34 rfl rfl ?_
  refine r_ald0 f_N_init_37 ?_
  refine t_new (i := 76) f_N_init_38 rfl (Nat.le_of_ble_eq_true rfl) (Nat.le_of_ble_eq_true rfl) ?_
  refine r_dupr f_N_init_41 ?_
  refine c_O_init (mc' := 4) (ms' := 412) f_N_init_42 (Nat.le_of_ble_eq_true rfl) (Nat.le_of_ble_eq_true rfl) (Nat.le_of_ble_eq_true rfl) ?_
  refine r_ald0 f_O_init_0 ?_
  refine r_obj f_O_init_1 (Nat.le_of_ble_eq_true rfl) ?_
  refine r_ald0 f_O_init_4 ?_
  refine r_ic f_O_init_5 ?_
  refine t_newa (i := 77) (n := 49) f_O_init_7 rfl (by decide) (by decide) (Nat.le_of_ble_eq_true rfl) (Nat.le_of_ble_eq_true rfl) ?_
  refine r_pr f_O_init_9 rfl rfl ?_
  refine r_ald0 f_O_init_12 ?_
  refine r_ic f_O_init_13 ?_
  refine t_newa (i := 78) (n := 343) f_O_init_16 rfl (by decide) (by decide) (Nat.le_of_ble_eq_true rfl) (Nat.le_of_ble_eq_true rfl) ?_
  refine r_pr f_O_init_18 rfl rfl ?_
  refine r_ald0 f_O_init_21 ?_
  refine r_ic f_O_init_22 ?_
  refine t_newa (i := 79) (n := 7) f_O_init_24 rfl (by decide) (by decide) (Nat.le_of_ble_eq_true rfl) (Nat.le_of_ble_eq_true rfl) ?_
  refine r_pr f_O_init_26 rfl rfl ?_
  refine r_ald0 f_O_init_29 ?_
  refine t_new (i := 80) f_O_init_30 rfl (Nat.le_of_ble_eq_true rfl) (Nat.le_of_ble_eq_true rfl) ?_
  refine r_dupr f_O_init_33 ?_
  refine c_M_init (mc' := 0) (ms' := 0) f_O_init_34 (Nat.le_of_ble_eq_true rfl) (Nat.le_of_ble_eq_true rfl) (Nat.le_of_ble_eq_true rfl) ?_
  refine r_ald0 f_M_init_0 ?_
  refine r_obj f_M_init_1 (Nat.le_of_ble_eq_true rfl) ?_
  refine r_ald0 f_M_init_4 ?_
  refine r_ic f_M_init_5 ?_
  refine r_pi f_M_init_6 rfl ?_
  refine r_ald0 f_M_init_9 ?_
  refine r_ic f_M_init_10 ?_
  refine r_pi f_M_init_11 rfl ?_
  refine r_ret f_M_init_14 rfl (Nat.le_of_ble_eq_true rfl) (Nat.le_of_ble_eq_true rfl) ?_
  refine r_pr f_O_init_37 rfl rfl ?_
  refine r_ald0 f_O_init_40 ?_
  refine r_ic f_O_init_41 ?_
  refine r_pi f_O_init_42 rfl ?_
  refine r_ald0 f_O_init_45 ?_
  refine r_lc f_O_init_46 ?_
  refine r_pl f_O_init_47 rfl ?_
  refine r_ald0 f_O_init_50 ?_
  refine r_ic f_O_init_51 ?_
  refine r_pi f_O_init_52 rfl ?_
  refine r_ret f_O_init_55 rfl (Nat.le_of_ble_eq_true rfl) (Nat.le_of_ble_eq_true rfl) ?_
  refine r_pr f_N_init_45 rfl rfl ?_
  refine r_ald0 f_N_init_48 ?_
  refine t_new (i := 81) f_N_init_49 rfl (Nat.le_of_ble_eq_true rfl) (Nat.le_of_ble_eq_true rfl) ?_
  refine r_dupr f_N_init_52 ?_
  refine c_P_init (mc' := 4) (ms' := 184) f_N_init_53 (Nat.le_of_ble_eq_true rfl) (Nat.le_of_ble_eq_true rfl) (Nat.le_of_ble_eq_true rfl) ?_
  refine r_ald0 f_P_init_0 ?_
  refine r_obj f_P_init_1 (Nat.le_of_ble_eq_true rfl) ?_
  refine r_ald0 f_P_init_4 ?_
  refine r_ic f_P_init_5 ?_
  refine t_newa (i := 82) (n := 60) f_P_init_7 rfl (by decide) (by decide) (Nat.le_of_ble_eq_true rfl) (Nat.le_of_ble_eq_true rfl) ?_
  refine r_pr f_P_init_9 rfl rfl ?_
  refine r_ald0 f_P_init_12 ?_
  refine t_new (i := 83) f_P_init_13 rfl (Nat.le_of_ble_eq_true rfl) (Nat.le_of_ble_eq_true rfl) ?_
  refine r_dupr f_P_init_16 ?_
  refine c_T_init (mc' := 2) (ms' := 120) f_P_init_17 (Nat.le_of_ble_eq_true rfl) (Nat.le_of_ble_eq_true rfl) (Nat.le_of_ble_eq_true rfl) ?_
  refine r_ald0 f_T_init_0 ?_
  refine r_obj f_T_init_1 (Nat.le_of_ble_eq_true rfl) ?_
  refine r_ald0 f_T_init_4 ?_
  refine r_ic f_T_init_5 ?_
  refine t_newa (i := 84) (n := 60) f_T_init_7 rfl (by decide) (by decide) (Nat.le_of_ble_eq_true rfl) (Nat.le_of_ble_eq_true rfl) ?_
  refine r_pr f_T_init_9 rfl rfl ?_
  refine r_ald0 f_T_init_12 ?_
  refine r_ic f_T_init_13 ?_
  refine t_newa (i := 85) (n := 60) f_T_init_15 rfl (by decide) (by decide) (Nat.le_of_ble_eq_true rfl) (Nat.le_of_ble_eq_true rfl) ?_
  refine r_pr f_T_init_17 rfl rfl ?_
  refine r_ald0 f_T_init_20 ?_
  refine r_ic f_T_init_21 ?_
  refine r_pi f_T_init_22 rfl ?_
  refine r_ald0 f_T_init_25 ?_
  refine r_ic f_T_init_26 ?_
  refine r_pi f_T_init_27 rfl ?_
  refine r_ret f_T_init_30 rfl (Nat.le_of_ble_eq_true rfl) (Nat.le_of_ble_eq_true rfl) ?_
  refine r_pr f_P_init_20 rfl rfl ?_
  refine r_ald0 f_P_init_23 ?_
  refine r_ic f_P_init_24 ?_
  refine r_pi f_P_init_25 rfl ?_
  refine r_ald0 f_P_init_28 ?_
  refine r_ic f_P_init_29 ?_
  refine r_pi f_P_init_30 rfl ?_
  refine r_ret f_P_init_33 rfl (Nat.le_of_ble_eq_true rfl) (Nat.le_of_ble_eq_true rfl) ?_
  refine r_pr f_N_init_56 rfl rfl ?_
  refine r_ald0 f_N_init_59 ?_
  refine t_new (i := 86) f_N_init_60 rfl (Nat.le_of_ble_eq_true rfl) (Nat.le_of_ble_eq_true rfl) ?_
  refine r_dupr f_N_init_63 ?_
  refine c_S_init (mc' := 7) (ms' := 172) f_N_init_64 (Nat.le_of_ble_eq_true rfl) (Nat.le_of_ble_eq_true rfl) (Nat.le_of_ble_eq_true rfl) ?_
  refine r_ald0 f_S_init_0 ?_
  refine r_obj f_S_init_1 (Nat.le_of_ble_eq_true rfl) ?_
  refine r_ald0 f_S_init_4 ?_
  refine r_ic f_S_init_5 ?_
  refine r_ic f_S_init_6 ?_
  refine t_mna (i := 87) f_S_init_8 rfl (Nat.le_of_ble_eq_true rfl) (Nat.le_of_ble_eq_true rfl) ?_
  refine r_pr f_S_init_12 rfl rfl ?_
  refine r_ald0 f_S_init_15 ?_
  refine r_ic f_S_init_16 ?_
  refine t_newa (i := 92) (n := 4) f_S_init_17 rfl (by decide) (by decide) (Nat.le_of_ble_eq_true rfl) (Nat.le_of_ble_eq_true rfl) ?_
  refine r_pr f_S_init_19 rfl rfl ?_
  refine r_ald0 f_S_init_22 ?_
  refine r_ic f_S_init_23 ?_
  refine t_newa (i := 93) (n := 4) f_S_init_24 rfl (by decide) (by decide) (Nat.le_of_ble_eq_true rfl) (Nat.le_of_ble_eq_true rfl) ?_
  refine r_pr f_S_init_26 rfl rfl ?_
  refine r_ret f_S_init_29 rfl (Nat.le_of_ble_eq_true rfl) (Nat.le_of_ble_eq_true rfl) ?_
  refine r_pr f_N_init_67 rfl rfl ?_
  refine r_ald0 f_N_init_70 ?_
  refine r_ic f_N_init_71 ?_
  refine t_newa (i := 94) (n := 7) f_N_init_73 rfl (by decide) (by decide) (Nat.le_of_ble_eq_true rfl) (Nat.le_of_ble_eq_true rfl) ?_
  refine r_pr f_N_init_75 rfl rfl ?_
  refine r_ald0 f_N_init_78 ?_
  refine r_ic f_N_init_79 ?_
  refine r_pz f_N_init_80 rfl (Or.inl rfl) ?_
  refine r_ret f_N_init_83 rfl (Nat.le_of_ble_eq_true rfl) (Nat.le_of_ble_eq_true rfl) ?_
  exact hk _ _ _ (by decide +kernel)
def tR_r0 : Rf := q_tb none [(0, 0, some 1), (0, 1, some 26), (0, 2, some 51), (0, 3, some 76), (0, 4, some 81), (0, 5, some 86), (0, 6, some 94), (1, 0, some 2), (1, 1, some 3), (1, 2, some 4), (1, 3, some 5), (1, 10, some 8), (1, 11, some 9), (2, 0, some 10), (2, 1, some 12), (2, 2, some 14), (2, 3, some 16), (2, 4, some 18), (2, 5, some 20), (2, 6, some 22), (2, 7, some 24), (5, 0, some 6), (5, 1, some 7), (8, 0, some 11), (8, 1, some 13), (8, 2, some 15), (8, 3, some 17), (8, 4, some 19), (8, 5, some 21), (8, 6, some 23), (8, 7, some 25), (26, 0, some 27), (26, 1, some 28), (26, 2, some 29), (26, 3, some 30), (26, 10, some 33), (26, 11, some 34), (27, 0, some 35), (27, 1, some 37), (27, 2, some 39), (27, 3, some 41), (27, 4, some 43), (27, 5, some 45), (27, 6, some 47), (27, 7, some 49), (30, 0, some 31), (30, 1, some 32), (33, 0, some 36), (33, 1, some 38), (33, 2, some 40), (33, 3, some 42), (33, 4, some 44), (33, 5, some 46), (33, 6, some 48), (33, 7, some 50), (51, 0, some 52), (51, 1, some 53), (51, 2, some 54), (51, 3, some 55), (51, 10, some 58), (51, 11, some 59), (52, 0, some 60), (52, 1, some 62), (52, 2, some 64), (52, 3, some 66), (52, 4, some 68), (52, 5, some 70), (52, 6, some 72), (52, 7, some 74), (55, 0, some 56), (55, 1, some 57), (58, 0, some 61), (58, 1, some 63), (58, 2, some 65), (58, 3, some 67), (58, 4, some 69), (58, 5, some 71), (58, 6, some 73), (58, 7, some 75), (76, 0, some 77), (76, 1, some 78), (76, 2, some 79), (76, 3, some 80), (81, 0, some 82), (81, 1, some 83), (83, 0, some 84), (83, 1, some 85), (86, 0, some 87), (86, 1, some 92), (86, 2, some 93), (87, 0, some 88), (87, 1, some 89), (87, 2, some 90), (87, 3, some 91)]
def tI_r0 : Rn := q_tb 0 [(1, 6, 1), (1, 7, 1), (4, 0, 100), (4, 1, 50), (4, 2, 10), (11, 8, 1), (11, 10, 1), (13, 8, 1), (13, 10, 1), (15, 8, 1), (15, 10, 1), (17, 8, 1), (17, 10, 1), (19, 8, 1), (19, 10, 1), (21, 8, 1), (21, 10, 1), (23, 8, 1), (23, 10, 1), (25, 8, 1), (25, 10, 1), (26, 6, 1), (26, 7, 1), (29, 0, 100), (29, 1, 50), (29, 2, 10), (36, 8, 1), (36, 10, 1), (38, 8, 1), (38, 10, 1), (40, 8, 1), (40, 10, 1), (42, 8, 1), (42, 10, 1), (44, 8, 1), (44, 10, 1), (46, 8, 1), (46, 10, 1), (48, 8, 1), (48, 10, 1), (50, 8, 1), (50, 10, 1), (51, 6, 1), (51, 7, 1), (54, 0, 100), (54, 1, 50), (54, 2, 10), (61, 8, 1), (61, 10, 1), (63, 8, 1), (63, 10, 1), (65, 8, 1), (65, 10, 1), (67, 8, 1), (67, 10, 1), (69, 8, 1), (69, 10, 1), (71, 8, 1), (71, 10, 1), (73, 8, 1), (73, 10, 1), (75, 8, 1), (75, 10, 1), (80, 8, 1), (80, 10, 1)]
def IF : Rn := q_tb 0 [(1, 6, 1), (1, 7, 1), (4, 0, 100), (4, 1, 50), (4, 2, 10), (11, 8, 1), (11, 10, 1), (13, 8, 1), (13, 10, 1), (15, 8, 1), (15, 10, 1), (17, 8, 1), (17, 10, 1), (19, 8, 1), (19, 10, 1), (21, 8, 1), (21, 10, 1), (23, 8, 1), (23, 10, 1), (25, 8, 1), (25, 10, 1), (26, 6, 1), (26, 7, 1), (29, 0, 100), (29, 1, 50), (29, 2, 10), (36, 8, 1), (36, 10, 1), (38, 8, 1), (38, 10, 1), (40, 8, 1), (40, 10, 1), (42, 8, 1), (42, 10, 1), (44, 8, 1), (44, 10, 1), (46, 8, 1), (46, 10, 1), (48, 8, 1), (48, 10, 1), (50, 8, 1), (50, 10, 1), (51, 6, 1), (51, 7, 1), (54, 0, 100), (54, 1, 50), (54, 2, 10), (61, 8, 1), (61, 10, 1), (63, 8, 1), (63, 10, 1), (65, 8, 1), (65, 10, 1), (67, 8, 1), (67, 10, 1), (69, 8, 1), (69, 10, 1), (71, 8, 1), (71, 10, 1), (73, 8, 1), (73, 10, 1), (75, 8, 1), (75, 10, 1), (80, 8, 1), (80, 10, 1), (96, 1, 1), (96, 2, 1), (96, 5, 100), (96, 6, 50), (96, 7, 10)]
set_option maxHeartbeats 8000000 in
theorem ctor_R (hk : ∀ R' I' L', q_agr (SH.take 113) R' RF I' IF L' (fun _ _ => 0) = true → K none (SH.take 113) R' I' L') : WW G (d + 1) mt_R_init 0 [some (.ref 95)] [] (SH.take 96) tR_r0 tI_r0 (fun _ _ => 0) 0 0 17 1455 K := by
  refine r_ald0 f_R_init_0 ?_
  refine r_obj f_R_init_1 (Nat.le_of_ble_eq_true rfl) ?_
  refine r_ald0 f_R_init_4 ?_
  refine r_ic f_R_init_5 ?_
  refine t_newa (i := 96) (n := 136) f_R_init_8 rfl (by decide) (by decide) (Nat.le_of_ble_eq_true rfl) (Nat.le_of_ble_eq_true rfl) ?_
  refine r_pr f_R_init_10 rfl rfl ?_
  refine r_ald0 f_R_init_13 ?_
  refine r_ic f_R_init_14 ?_
  refine t_newa (i := 97) (n := 136) f_R_init_17 rfl (by decide) (by decide) (Nat.le_of_ble_eq_true rfl) (Nat.le_of_ble_eq_true rfl) ?_
  refine r_pr f_R_init_19 rfl rfl ?_
  refine r_ald0 f_R_init_22 ?_
  refine r_ic f_R_init_23 ?_
  refine t_newa (i := 98) (n := 136) f_R_init_26 rfl (by decide) (by decide) (Nat.le_of_ble_eq_true rfl) (Nat.le_of_ble_eq_true rfl) ?_
  refine r_pr f_R_init_28 rfl rfl ?_
  refine r_ald0 f_R_init_31 ?_
  refine r_ic f_R_init_32 ?_
  refine t_newa (i := 99) (n := 7) f_R_init_34 rfl (by decide) (by decide) (Nat.le_of_ble_eq_true rfl) (Nat.le_of_ble_eq_true rfl) ?_
  refine r_pr f_R_init_36 rfl rfl ?_
  refine r_ald0 f_R_init_39 ?_
  refine r_ic f_R_init_40 ?_
  refine t_newa (i := 100) (n := 8) f_R_init_42 rfl (by decide) (by decide) (Nat.le_of_ble_eq_true rfl) (Nat.le_of_ble_eq_true rfl) ?_
  refine r_pr f_R_init_44 rfl rfl ?_
  refine r_ald0 f_R_init_47 ?_
  refine r_ic f_R_init_48 ?_
  refine t_newa (i := 101) (n := 512) f_R_init_51 rfl (by decide) (by decide) (Nat.le_of_ble_eq_true rfl) (Nat.le_of_ble_eq_true rfl) ?_
  refine r_pr f_R_init_53 rfl rfl ?_
  refine r_ald0 f_R_init_56 ?_
  refine r_ic f_R_init_57 ?_
  refine t_newa (i := 102) (n := 8) f_R_init_59 rfl (by decide) (by decide) (Nat.le_of_ble_eq_true rfl) (Nat.le_of_ble_eq_true rfl) ?_
  refine r_pr f_R_init_61 rfl rfl ?_
  refine r_ald0 f_R_init_64 ?_
  refine r_ic f_R_init_65 ?_
  refine t_newa (i := 103) (n := 8) f_R_init_67 rfl (by decide) (by decide) (Nat.le_of_ble_eq_true rfl) (Nat.le_of_ble_eq_true rfl) ?_
  refine r_pr f_R_init_69 rfl rfl ?_
  refine r_ald0 f_R_init_72 ?_
  refine r_ic f_R_init_73 ?_
  refine t_newa (i := 104) (n := 60) f_R_init_75 rfl (by decide) (by decide) (Nat.le_of_ble_eq_true rfl) (Nat.le_of_ble_eq_true rfl) ?_
  refine r_pr f_R_init_77 rfl rfl ?_
  refine r_ald0 f_R_init_80 ?_
  refine r_ic f_R_init_81 ?_
  refine t_newa (i := 105) (n := 60) f_R_init_83 rfl (by decide) (by decide) (Nat.le_of_ble_eq_true rfl) (Nat.le_of_ble_eq_true rfl) ?_
  refine r_pr f_R_init_85 rfl rfl ?_
  refine r_ald0 f_R_init_88 ?_
  refine r_ic f_R_init_89 ?_
  refine t_newa (i := 106) (n := 60) f_R_init_91 rfl (by decide) (by decide) (Nat.le_of_ble_eq_true rfl) (Nat.le_of_ble_eq_true rfl) ?_
  refine r_pr f_R_init_93 rfl rfl ?_
  refine r_ald0 f_R_init_96 ?_
  refine r_ic f_R_init_97 ?_
  refine t_newa (i := 107) (n := 60) f_R_init_99 rfl (by decide) (by decide) (Nat.le_of_ble_eq_true rfl) (Nat.le_of_ble_eq_true rfl) ?_
  refine r_pr f_R_init_101 rfl rfl ?_
  refine r_ald0 f_R_init_104 ?_
  refine r_ic f_R_init_105 ?_
  refine t_newa (i := 108) (n := 56) f_R_init_107 rfl (by decide) (by decide) (Nat.le_of_ble_eq_true rfl) (Nat.le_of_ble_eq_true rfl) ?_
  refine r_pr f_R_init_109 rfl rfl ?_
  refine r_ald0 f_R_init_112 ?_
  refine r_ic f_R_init_113 ?_
  refine t_newa (i := 109) (n := 4) f_R_init_114 rfl (by decide) (by decide) (Nat.le_of_ble_eq_true rfl) (Nat.le_of_ble_eq_true rfl) ?_
  refine r_pr f_R_init_116 rfl rfl ?_
  refine r_ald0 f_R_init_119 ?_
  refine r_ic f_R_init_120 ?_
  refine t_newa (i := 110) (n := 4) f_R_init_121 rfl (by decide) (by decide) (Nat.le_of_ble_eq_true rfl) (Nat.le_of_ble_eq_true rfl) ?_
  refine r_pr f_R_init_123 rfl rfl ?_
  refine r_ald0 f_R_init_126 ?_
  refine r_ic f_R_init_127 ?_
  refine t_newa (i := 111) (n := 160) f_R_init_130 rfl (by decide) (by decide) (Nat.le_of_ble_eq_true rfl) (Nat.le_of_ble_eq_true rfl) ?_
  refine r_pr f_R_init_132 rfl rfl ?_
  refine r_ald0 f_R_init_135 ?_
  refine r_ic f_R_init_136 ?_
  refine t_newa (i := 112) (n := 40) f_R_init_138 rfl (by decide) (by decide) (Nat.le_of_ble_eq_true rfl) (Nat.le_of_ble_eq_true rfl) ?_
  refine r_pr f_R_init_140 rfl rfl ?_
  refine r_ald0 f_R_init_143 ?_
  refine r_gr f_R_init_144 rfl (r := 96) rfl ?_
  refine r_ic f_R_init_147 ?_
  refine r_ic f_R_init_148 ?_
  refine r_iast f_R_init_149 rfl (show q_ix 1 1 136 from ⟨by decide, by decide⟩) ?_
  refine r_ald0 f_R_init_150 ?_
  refine r_gr f_R_init_151 rfl (r := 96) rfl ?_
  refine r_ic f_R_init_154 ?_
  refine r_ic f_R_init_155 ?_
  refine r_iast f_R_init_156 rfl (show q_ix 2 2 136 from ⟨by decide, by decide⟩) ?_
  refine r_ald0 f_R_init_157 ?_
  refine r_gr f_R_init_158 rfl (r := 96) rfl ?_
  refine r_ic f_R_init_161 ?_
  refine r_ic f_R_init_162 ?_
  refine r_iast f_R_init_164 rfl (show q_ix 5 5 136 from ⟨by decide, by decide⟩) ?_
  refine r_ald0 f_R_init_165 ?_
  refine r_gr f_R_init_166 rfl (r := 96) rfl ?_
  refine r_ic f_R_init_169 ?_
  refine r_ic f_R_init_171 ?_
  refine r_iast f_R_init_173 rfl (show q_ix 6 6 136 from ⟨by decide, by decide⟩) ?_
  refine r_ald0 f_R_init_174 ?_
  refine r_gr f_R_init_175 rfl (r := 96) rfl ?_
  refine r_ic f_R_init_178 ?_
  refine r_ic f_R_init_180 ?_
  refine r_iast f_R_init_182 rfl (show q_ix 7 7 136 from ⟨by decide, by decide⟩) ?_
  refine r_ret f_R_init_183 rfl (Nat.le_of_ble_eq_true rfl) (Nat.le_of_ble_eq_true rfl) ?_
  exact hk _ _ _ (by decide +kernel)
set_option maxHeartbeats 8000000 in
theorem law_make (hmc : 600000 ≤ mc) (hms : 7302250 ≤ ms) (hk : WW G (d + 62) mt_L_law 16 [some (.ref (4 + 1000)), some (.ref 0), some (.ref 95), none] [] SH RF IF (fun _ _ => 0) 113 3290 mc ms K) : WW G (d + 62) mt_L_law 0 [some (.ref (4 + 1000)), none, none, none] [] [] (fun _ _ => none) (fun _ _ => 0) (fun _ _ => 0) 0 0 mc ms K := by
  show WW G (d + 62) mt_L_law 0 [some (.ref (4 + 1000)), none, none, none] [] (SH.take 0) (fun _ _ => none) (fun _ _ => 0) (fun _ _ => 0) 0 0 mc ms K
  refine t_new (i := 0) f_L_law_0 rfl (by omega) (by omega) ?_
  refine r_dupr f_L_law_3 ?_
  refine c_N_init (mc' := 94) (ms' := 1788) f_L_law_4 (Nat.le_of_ble_eq_true rfl) (by omega) (by omega) ?_
  refine WW.tab (R' := tR_n0) (I' := tI_n0) (L' := (fun _ _ => 0)) ?_ (by decide +kernel)
  refine ctor_N (fun R9 I9 L9 e9 => ?_)
  refine WW.tab ?_ e9
  refine r_ast1 f_L_law_7 rfl ?_
  refine t_new (i := 95) f_L_law_8 rfl (by omega) (by omega) ?_
  refine r_dupr f_L_law_11 ?_
  refine c_R_init (mc' := 17) (ms' := 1455) f_L_law_12 (Nat.le_of_ble_eq_true rfl) (by omega) (by omega) ?_
  refine WW.tab (R' := tR_r0) (I' := tI_r0) (L' := (fun _ _ => 0)) ?_ (by decide +kernel)
  refine ctor_R (fun R9 I9 L9 e9 => ?_)
  refine WW.tab ?_ e9
  refine r_ast2 f_L_law_15 rfl ?_
  exact WW.sh hk rfl
end L69
