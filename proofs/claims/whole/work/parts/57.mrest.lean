section L57
variable {G : Gx} {d : Nat} {I I' I2 : Rn} {L L' L2 : Rl} {K : Kt} {σ : St} {D : Dst}
theorem k_R_divisor_loop {g : Nat} {u v : Int32} (hk : K (some (.int (nI g))) SH RF I L) : ∀ (n x y : Nat), y < n → x < 2 ^ 31 → y < 2 ^ 31 → Nat.gcd x y = g → WW G d mt_R_divisor 4 [some (.int u), some (.int v), some (.int (nI x)), some (.int (nI y)), none] [] SH RF I L 0 0 0 0 K
  | 0, x, y, hn, hx, hy, hg => by omega
  | n + 1, x, y, hn, hx, hy, hg => by
    rcases Nat.eq_zero_or_pos y with e | e
    · subst e
      rw [Nat.gcd_zero_right] at hg
      subst hg
      refine r_ild3 f_R_divisor_4 ?_
      refine r_if_le f_R_divisor_5 (fun h5 => ?_) (fun h5 => absurd h5 (by decide))
      refine r_ild2 f_R_divisor_21 ?_
      refine r_iret f_R_divisor_22 ⟨_, rfl, rfl⟩ (Nat.le_refl _) (Nat.le_refl _) ?_
      exact hk
    · have hm := Nat.mod_lt x e
      refine r_ild3 f_R_divisor_4 ?_
      refine r_if_le f_R_divisor_5 (fun h5 => absurd h5 (nI_nle e hy)) (fun h5 => ?_)
      refine r_ild2 f_R_divisor_8 ?_
      refine r_ild3 f_R_divisor_9 ?_
      refine r_irem f_R_divisor_10 (nI_ne0 e hy) ?_
      rw [pk_rem hx e hy]
      refine r_ist4 f_R_divisor_11 rfl ?_
      refine r_ild3 f_R_divisor_13 ?_
      refine r_ist2 f_R_divisor_14 rfl ?_
      refine r_ild4 f_R_divisor_15 ?_
      refine r_ist3 f_R_divisor_17 rfl ?_
      refine r_goto f_R_divisor_18 ?_
      refine r_drop4 ?_
      exact k_R_divisor_loop hk n y (x % y) (by omega) hy (by omega) (by rw [Nat.gcd_comm, ← Nat.gcd_rec, Nat.gcd_comm]; exact hg)
theorem k_R_divisor {x y : Nat} (hx : x < 2 ^ 31) (hy : y < 2 ^ 31) (hk : K (some (.int (nI (Nat.gcd x y)))) SH RF I L) : WW G d mt_R_divisor 0 [some (.int (nI x)), some (.int (nI y)), none, none, none] [] SH RF I L 0 0 0 0 K := by
  refine r_ild0 f_R_divisor_0 ?_
  refine r_ist2 f_R_divisor_1 rfl ?_
  refine r_ild1 f_R_divisor_2 ?_
  refine r_ist3 f_R_divisor_3 rfl ?_
  exact k_R_divisor_loop hk (y + 1) x y (by omega) hx hy rfl
theorem q_lne {b : Nat} (h0 : 0 < b) (hb : b < 2 ^ 63) : ¬ lN b = 0 := fun q => by
  have := (pk_lEQ (b := 0) hb (by decide)).mp q
  omega
def q_mN (A B : Nat) : Nat := 1000000 * A / B
theorem q_mN_le {A B : Nat} (h : A ≤ B) (h0 : 0 < B) : q_mN A B ≤ 1000000 := Nat.div_le_of_le_mul (by rw [Nat.mul_comm B]; exact Nat.mul_le_mul_left _ h)
def q_oN (P Q si : Nat) : Nat := P * (100000000 - Q * si) / 100000000
theorem q_oN_le {P Q si : Nat} : q_oN P Q si ≤ P := Nat.div_le_of_le_mul (by rw [Nat.mul_comm 100000000]; exact Nat.mul_le_mul_left _ (Nat.sub_le _ _))
theorem q_mN_red {A B : Nat} (h0 : 0 < B) : q_mN (A / Nat.gcd A B) (B / Nat.gcd A B) = q_mN A B := by
  have hg : 0 < Nat.gcd A B := Nat.gcd_pos_of_pos_right A h0
  obtain ⟨x, hx⟩ := Nat.gcd_dvd_left A B
  obtain ⟨y, hy⟩ := Nat.gcd_dvd_right A B
  unfold q_mN
  have e1 : A / Nat.gcd A B = x := by rw [show A / Nat.gcd A B = (Nat.gcd A B * x) / Nat.gcd A B from by rw [← hx]]; exact Nat.mul_div_cancel_left _ hg
  have e2 : B / Nat.gcd A B = y := by rw [show B / Nat.gcd A B = (Nat.gcd A B * y) / Nat.gcd A B from by rw [← hy]]; exact Nat.mul_div_cancel_left _ hg
  rw [e1, e2]
  have e3 : 1000000 * A / B = (Nat.gcd A B * (1000000 * x)) / (Nat.gcd A B * y) := by rw [← hy, Nat.mul_left_comm, ← hx]
  rw [e3, Nat.mul_div_mul_left _ _ hg]
def FRl : Nat → Nat → Prop := fun x y => x = 95 ∧ 11 ≤ y ∧ y ≤ 13
def FRm : Nat → Nat → Prop := fun x y => (x = 95 ∧ 7 ≤ y ∧ y ≤ 18) ∨ x = 107
theorem k_R_findRest330 {TA TB WA WB si : Nat} {ls : List (Option Value)} (h1 : TA ≤ TB) (h2 : 0 < TB) (h3 : TB ≤ 100000000) (h4 : WA ≤ WB) (h5 : 0 < WB) (h6 : WB ≤ 100000000) (hs : si ≤ 100) (e7 : I 95 7 = nI TA) (e8 : I 95 8 = nI TB) (e9 : I 95 9 = nI WA) (e10 : I 95 10 = nI WB) (e18 : I 95 18 = nI si) (hk : K none SH RF I (u2 (u2 (u2 L 95 11 (lN (q_mN TA TB))) 95 12 (lN (q_mN WA WB))) 95 13 (lN (q_oN (q_mN TA TB) (q_mN WA WB) si)))) : WW G d mt_R_findRest 330 (some (.ref 95) :: ls) [] SH RF I L 0 0 0 0 K := by
  have b1 := q_mN_le h1 h2
  have b2 := q_mN_le h4 h5
  have b3 : q_mN WA WB * si ≤ 100000000 := Nat.mul_le_mul b2 hs
  have b4 : q_mN TA TB * (100000000 - q_mN WA WB * si) ≤ 1000000 * 100000000 := Nat.mul_le_mul b1 (by omega)
  refine r_ald0 f_R_findRest_330 ?_
  refine r_lc f_R_findRest_331 ?_
  refine r_ald0 f_R_findRest_334 ?_
  refine r_gi f_R_findRest_335 (s_95) ?_
  rw [e7]
  refine r_i2l f_R_findRest_338 ?_
  rw [nI_l (by omega)]
  refine r_lmul f_R_findRest_339 ?_
  rw [show (1000000 : Int64) = lN 1000000 from rfl, lN_mul]
  refine r_ald0 f_R_findRest_340 ?_
  refine r_gi f_R_findRest_341 (s_95) ?_
  rw [e8]
  refine r_i2l f_R_findRest_344 ?_
  rw [nI_l (by omega)]
  refine r_ldiv f_R_findRest_345 (q_lne h2 (by omega)) ?_
  rw [pk_lDiv (by omega) h2 (by omega), show 1000000 * TA / TB = q_mN TA TB from rfl]
  refine r_pl f_R_findRest_346 (s_95) ?_
  refine r_ald0 f_R_findRest_349 ?_
  refine r_lc f_R_findRest_350 ?_
  refine r_ald0 f_R_findRest_353 ?_
  refine r_gi f_R_findRest_354 (s_95) ?_
  rw [e9]
  refine r_i2l f_R_findRest_357 ?_
  rw [nI_l (by omega)]
  refine r_lmul f_R_findRest_358 ?_
  rw [show (1000000 : Int64) = lN 1000000 from rfl, lN_mul]
  refine r_ald0 f_R_findRest_359 ?_
  refine r_gi f_R_findRest_360 (s_95) ?_
  rw [e10]
  refine r_i2l f_R_findRest_363 ?_
  rw [nI_l (by omega)]
  refine r_ldiv f_R_findRest_364 (q_lne h5 (by omega)) ?_
  rw [pk_lDiv (by omega) h5 (by omega), show 1000000 * WA / WB = q_mN WA WB from rfl]
  refine r_pl f_R_findRest_365 (s_95) ?_
  refine r_ald0 f_R_findRest_368 ?_
  refine r_ald0 f_R_findRest_369 ?_
  refine r_gl f_R_findRest_370 (s_95) ?_
  rw [u2_ne (show (95 : Nat) ≠ 95 ∨ (11 : Nat) ≠ 12 from Or.inr (by decide)), u2_self]
  refine r_lc f_R_findRest_373 ?_
  refine r_ald0 f_R_findRest_376 ?_
  refine r_gl f_R_findRest_377 (s_95) ?_
  rw [u2_self]
  refine r_ald0 f_R_findRest_380 ?_
  refine r_gi f_R_findRest_381 (s_95) ?_
  rw [e18]
  refine r_i2l f_R_findRest_384 ?_
  rw [nI_l (by omega)]
  refine r_lmul f_R_findRest_385 ?_
  rw [lN_mul]
  refine r_lsub f_R_findRest_386 ?_
  rw [show (100000000 : Int64) = lN 100000000 from rfl, lN_sub b3]
  refine r_lmul f_R_findRest_387 ?_
  rw [lN_mul]
  refine r_lc f_R_findRest_388 ?_
  rw [show (100000000 : Int64) = lN 100000000 from rfl]
  refine r_ldiv f_R_findRest_391 (q_lne (by decide) (by decide)) ?_
  rw [pk_lDiv (by omega) (by decide) (by decide), show q_mN TA TB * (100000000 - q_mN WA WB * si) / 100000000 = q_oN (q_mN TA TB) (q_mN WA WB) si from rfl]
  refine r_pl f_R_findRest_392 (s_95) ?_
  refine r_ret f_R_findRest_395 rfl (Nat.le_refl _) (Nat.le_refl _) ?_
  exact hk
def MRN (c : Nat × Nat × Nat × Nat) (si : Nat) (I : Rn) (L : Rl) : Prop :=
  (I 95 7 = nI (c.1 / max (Nat.gcd c.1 c.2.1) 1) ∧ I 95 8 = nI (c.2.1 / max (Nat.gcd c.1 c.2.1) 1) ∧ I 95 9 = nI (c.2.2.1 / max (Nat.gcd c.2.2.1 c.2.2.2) 1) ∧ I 95 10 = nI (c.2.2.2 / max (Nat.gcd c.2.2.1 c.2.2.2) 1)) ∧
  L 95 11 = lN (q_mN c.1 c.2.1) ∧ L 95 12 = lN (q_mN c.2.2.1 c.2.2.2) ∧ L 95 13 = lN (q_oN (q_mN c.1 c.2.1) (q_mN c.2.2.1 c.2.2.2) si)
def FR4 : Nat → Nat → Prop := fun x y => x = 95 ∧ 7 ≤ y ∧ y ≤ 10
theorem q_L3 {x y z : Int64} : q_aL FRl L (u2 (u2 (u2 L 95 11 x) 95 12 y) 95 13 z) := ((q_aL.rf.u2 ⟨rfl, by decide, by decide⟩).u2 ⟨rfl, by decide, by decide⟩).u2 ⟨rfl, by decide, by decide⟩
theorem q_I4 {x y z w : Int32} : q_ag FR4 I (u2 (u2 (u2 (u2 I 95 7 x) 95 8 y) 95 9 z) 95 10 w) := (((q_ag.rf.u2 ⟨rfl, by decide, by decide⟩).u2 ⟨rfl, by decide, by decide⟩).u2 ⟨rfl, by decide, by decide⟩).u2 ⟨rfl, by decide, by decide⟩
theorem k_R_findRest102 {o t p n w P g mi si f : Nat} (hw : w ≤ 899991) (hP : P ≤ 99999) (hg : g ≤ 99999) (hm : mi ≤ 999) (hs : si ≤ 100) (hf : f ≤ 99999) (e14 : I 95 14 = nI w) (e15 : I 95 15 = nI P) (e16 : I 95 16 = nI g) (e17 : I 95 17 = nI mi) (e18 : I 95 18 = nI si) (ef : I 96 5 = nI f) (hk : ∀ I' L', MRN (sp_setN w P g mi si f) si I' L' → q_ag FR4 I I' → q_aL FRl L L' → K none SH RF I' L') : WW G (d + 1) mt_R_findRest 102 [some (.ref 95), some (.int (nI o)), some (.int (nI t)), some (.int (nI p)), some (.int (nI n)), none, none, none, none, none, none] [] SH RF I L 0 0 0 0 K := by
  have m1 : si * (P + g) ≤ 100 * (99999 + 99999) := Nat.mul_le_mul hs (by omega)
  have m2 : si * (w + f) ≤ 100 * (899991 + 99999) := Nat.mul_le_mul hs (by omega)
  refine r_ald0 f_R_findRest_102 ?_
  refine r_gi f_R_findRest_103 (s_95) ?_
  rw [e18]
  refine r_ald0 f_R_findRest_106 ?_
  refine r_gi f_R_findRest_107 (s_95) ?_
  rw [e15]
  refine r_ald0 f_R_findRest_110 ?_
  refine r_gi f_R_findRest_111 (s_95) ?_
  rw [e16]
  refine r_iadd f_R_findRest_114 ?_
  rw [nI_add]
  refine r_imul f_R_findRest_115 ?_
  rw [pk_mul]
  refine r_ist5 f_R_findRest_116 rfl ?_
  refine r_ald0 f_R_findRest_118 ?_
  refine r_gi f_R_findRest_119 (s_95) ?_
  rw [e18]
  refine r_ald0 f_R_findRest_122 ?_
  refine r_gi f_R_findRest_123 (s_95) ?_
  rw [e14]
  refine r_ald0 f_R_findRest_126 ?_
  refine r_gr f_R_findRest_127 (s_95) (r_95_0) ?_
  refine r_ic f_R_findRest_130 ?_
  refine r_iald f_R_findRest_131 (s_96) (show q_ix 5 5 136 from ⟨by decide, by decide⟩) ?_
  rw [ef]
  refine r_iadd f_R_findRest_132 ?_
  rw [nI_add]
  refine r_imul f_R_findRest_133 ?_
  rw [pk_mul]
  refine r_ist6 f_R_findRest_134 rfl ?_
  refine r_ald0 f_R_findRest_136 ?_
  refine r_gi f_R_findRest_137 (s_95) ?_
  rw [e14]
  refine r_if_ne f_R_findRest_140 (fun h140 => ?_) (fun h140 => ?_)
  · have hw0 : ¬ w = 0 := fun q => h140 (by rw [q]; rfl)
    refine r_ic f_R_findRest_147 ?_
    refine r_ist7 f_R_findRest_148 rfl ?_
    refine r_ild7 f_R_findRest_150 ?_
    refine r_if_ne f_R_findRest_152 (fun h => absurd h (by decide)) (fun _ => ?_)
    refine r_ic f_R_findRest_155 ?_
    refine r_ald0 f_R_findRest_157 ?_
    refine r_gi f_R_findRest_158 (s_95) ?_
    rw [e17]
    refine r_imul f_R_findRest_161 ?_
    rw [show (100 : Int32) * nI mi = nI (100 * mi) from pk_mul 100 mi]
    refine r_ild5 f_R_findRest_162 ?_
    refine r_ic_lt f_R_findRest_164 (fun h164 => ?_) (fun h164 => ?_)
    · have hbl : ¬ si * (P + g) ≤ 100 * mi := fun q => absurd h164 (nI_nlt q (by omega))
      refine r_ic f_R_findRest_171 ?_
      refine r_ist8 f_R_findRest_172 rfl ?_
      refine r_ild7 f_R_findRest_174 ?_
      refine r_if_ne f_R_findRest_176 (fun h => absurd h (by decide)) (fun _ => ?_)
      refine r_ild8 f_R_findRest_179 ?_
      refine r_if_ne f_R_findRest_181 (fun h => absurd h (by decide)) (fun _ => ?_)
      refine r_ic f_R_findRest_184 ?_
      refine r_ald0 f_R_findRest_186 ?_
      refine r_gi f_R_findRest_187 (s_95) ?_
      rw [e14]
      refine r_imul f_R_findRest_190 ?_
      rw [show (100 : Int32) * nI w = nI (100 * w) from pk_mul 100 w]
      refine r_ild6 f_R_findRest_191 ?_
      refine r_ic_lt f_R_findRest_193 (fun h193 => ?_) (fun h193 => ?_)
      · have hbo : ¬ si * (w + f) ≤ 100 * w := fun q => absurd h193 (nI_nlt q (by omega))
        refine r_ic f_R_findRest_200 ?_
        refine r_ist9 f_R_findRest_201 rfl ?_
        refine r_ald0 f_R_findRest_203 ?_
        refine r_ild7 f_R_findRest_204 ?_
        refine r_if_eq f_R_findRest_206 (fun _ => ?_) (fun h => absurd h (by decide))
        refine r_ic f_R_findRest_213 ?_
        refine r_pi f_R_findRest_214 (s_95) ?_
        refine r_ald0 f_R_findRest_217 ?_
        refine r_ic f_R_findRest_218 ?_
        refine r_pi f_R_findRest_219 (s_95) ?_
        refine r_ald0 f_R_findRest_222 ?_
        refine r_ild9 f_R_findRest_223 ?_
        refine r_if_eq f_R_findRest_225 (fun _ => ?_) (fun h => absurd h (by decide))
        refine r_ic f_R_findRest_232 ?_
        refine r_pi f_R_findRest_233 (s_95) ?_
        refine r_ald0 f_R_findRest_236 ?_
        refine r_ic f_R_findRest_237 ?_
        refine r_pi f_R_findRest_238 (s_95) ?_
        refine r_ild7 f_R_findRest_241 ?_
        refine r_if_ne f_R_findRest_243 (fun h => absurd h (by decide)) (fun _ => ?_)
        refine r_ild8 f_R_findRest_246 ?_
        refine r_if_ne f_R_findRest_248 (fun h => absurd h (by decide)) (fun _ => ?_)
        refine r_ild9 f_R_findRest_251 ?_
        refine r_if_ne f_R_findRest_253 (fun h => absurd h (by decide)) (fun _ => ?_)
        have g1 : 0 < Nat.gcd (100 * mi) (si * (P + g)) := Nat.gcd_pos_of_pos_right _ (by omega)
        have g2 : 0 < Nat.gcd (100 * w) (si * (w + f)) := Nat.gcd_pos_of_pos_right _ (by omega)
        have g3 := Nat.le_of_dvd (by omega) (Nat.gcd_dvd_right (100 * mi) (si * (P + g)))
        have g4 := Nat.le_of_dvd (by omega) (Nat.gcd_dvd_right (100 * w) (si * (w + f)))
        refine r_ic f_R_findRest_256 ?_
        refine r_ald0 f_R_findRest_258 ?_
        refine r_gi f_R_findRest_259 (s_95) ?_
        rw [show ∀ a b c e, u2 (u2 (u2 (u2 I 95 7 a) 95 8 b) 95 9 c) 95 10 e 95 17 = nI mi from fun _ _ _ _ => e17]
        refine r_imul f_R_findRest_262 ?_
        rw [show (100 : Int32) * nI mi = nI (100 * mi) from pk_mul 100 mi]
        refine r_ild5 f_R_findRest_263 ?_
        refine c_R_divisor f_R_findRest_265 (Nat.le_of_ble_eq_true rfl) (Nat.le_refl _) (Nat.le_refl _) ?_
        refine k_R_divisor (by omega) (by omega) ?_
        refine r_ist10 f_R_findRest_268 rfl ?_
        refine r_ald0 f_R_findRest_270 ?_
        refine r_ic f_R_findRest_271 ?_
        refine r_ald0 f_R_findRest_273 ?_
        refine r_gi f_R_findRest_274 (s_95) ?_
        rw [show ∀ a b c e, u2 (u2 (u2 (u2 I 95 7 a) 95 8 b) 95 9 c) 95 10 e 95 17 = nI mi from fun _ _ _ _ => e17]
        refine r_imul f_R_findRest_277 ?_
        rw [show (100 : Int32) * nI mi = nI (100 * mi) from pk_mul 100 mi]
        refine r_ild10 f_R_findRest_278 ?_
        refine r_idiv f_R_findRest_280 (nI_ne0 g1 (by omega)) ?_
        rw [pk_div (by omega) g1 (by omega)]
        refine r_pi f_R_findRest_281 (s_95) ?_
        refine r_ald0 f_R_findRest_284 ?_
        refine r_ild5 f_R_findRest_285 ?_
        refine r_ild10 f_R_findRest_287 ?_
        refine r_idiv f_R_findRest_289 (nI_ne0 g1 (by omega)) ?_
        rw [pk_div (by omega) g1 (by omega)]
        refine r_pi f_R_findRest_290 (s_95) ?_
        refine r_ic f_R_findRest_293 ?_
        refine r_ald0 f_R_findRest_295 ?_
        refine r_gi f_R_findRest_296 (s_95) ?_
        rw [show ∀ a b c e x y, u2 (u2 (u2 (u2 (u2 (u2 I 95 7 a) 95 8 b) 95 9 c) 95 10 e) 95 7 x) 95 8 y 95 14 = nI w from fun _ _ _ _ _ _ => e14]
        refine r_imul f_R_findRest_299 ?_
        rw [show (100 : Int32) * nI w = nI (100 * w) from pk_mul 100 w]
        refine r_ild6 f_R_findRest_300 ?_
        refine c_R_divisor f_R_findRest_302 (Nat.le_of_ble_eq_true rfl) (Nat.le_refl _) (Nat.le_refl _) ?_
        refine k_R_divisor (by omega) (by omega) ?_
        refine r_ist10 f_R_findRest_305 rfl ?_
        refine r_ald0 f_R_findRest_307 ?_
        refine r_ic f_R_findRest_308 ?_
        refine r_ald0 f_R_findRest_310 ?_
        refine r_gi f_R_findRest_311 (s_95) ?_
        rw [show ∀ a b c e x y, u2 (u2 (u2 (u2 (u2 (u2 I 95 7 a) 95 8 b) 95 9 c) 95 10 e) 95 7 x) 95 8 y 95 14 = nI w from fun _ _ _ _ _ _ => e14]
        refine r_imul f_R_findRest_314 ?_
        rw [show (100 : Int32) * nI w = nI (100 * w) from pk_mul 100 w]
        refine r_ild10 f_R_findRest_315 ?_
        refine r_idiv f_R_findRest_317 (nI_ne0 g2 (by omega)) ?_
        rw [pk_div (by omega) g2 (by omega)]
        refine r_pi f_R_findRest_318 (s_95) ?_
        refine r_ald0 f_R_findRest_321 ?_
        refine r_ild6 f_R_findRest_322 ?_
        refine r_ild10 f_R_findRest_324 ?_
        refine r_idiv f_R_findRest_326 (nI_ne0 g2 (by omega)) ?_
        rw [pk_div (by omega) g2 (by omega)]
        refine r_pi f_R_findRest_327 (s_95) ?_
        exact k_R_findRest330 (TA := 100 * mi / Nat.gcd (100 * mi) (si * (P + g))) (TB := si * (P + g) / Nat.gcd (100 * mi) (si * (P + g))) (WA := 100 * w / Nat.gcd (100 * w) (si * (w + f))) (WB := si * (w + f) / Nat.gcd (100 * w) (si * (w + f))) (Nat.div_le_div_right (by omega)) (Nat.div_pos (Nat.le_of_dvd (by omega) (Nat.gcd_dvd_right _ _)) g1) (Nat.le_trans (Nat.div_le_self _ _) (by omega)) (Nat.div_le_div_right (by omega)) (Nat.div_pos (Nat.le_of_dvd (by omega) (Nat.gcd_dvd_right _ _)) g2) (Nat.le_trans (Nat.div_le_self _ _) (by omega)) hs rfl rfl rfl rfl e18 (by
          rw [show sp_setN w P g mi si f = (100 * mi, si * (P + g), 100 * w, si * (w + f)) from (if_neg hw0).trans ((if_neg hbl).trans (if_neg hbo))] at hk
          rw [q_mN_red (by omega), q_mN_red (by omega)]
          refine hk _ _ ⟨⟨?_, ?_, ?_, ?_⟩, rfl, rfl, rfl⟩ ?_ q_L3
          · show _ = nI (100 * mi / max (Nat.gcd (100 * mi) (si * (P + g))) 1)
            rw [Nat.max_eq_left g1]
            rfl
          · show _ = nI (si * (P + g) / max (Nat.gcd (100 * mi) (si * (P + g))) 1)
            rw [Nat.max_eq_left g1]
            rfl
          · show _ = nI (100 * w / max (Nat.gcd (100 * w) (si * (w + f))) 1)
            rw [Nat.max_eq_left g2]
            rfl
          · show _ = nI (si * (w + f) / max (Nat.gcd (100 * w) (si * (w + f))) 1)
            rw [Nat.max_eq_left g2]
            rfl
          · exact (((q_I4.u2 ⟨rfl, by decide, by decide⟩).u2 ⟨rfl, by decide, by decide⟩).u2 ⟨rfl, by decide, by decide⟩).u2 ⟨rfl, by decide, by decide⟩)
      · have hbo : si * (w + f) ≤ 100 * w := (nI_leI (by omega) (by omega)).mp (Int32.not_lt.mp h193)
        refine r_ic f_R_findRest_196 ?_
        refine r_goto f_R_findRest_197 ?_
        refine r_ist9 f_R_findRest_201 rfl ?_
        refine r_ald0 f_R_findRest_203 ?_
        refine r_ild7 f_R_findRest_204 ?_
        refine r_if_eq f_R_findRest_206 (fun _ => ?_) (fun h => absurd h (by decide))
        refine r_ic f_R_findRest_213 ?_
        refine r_pi f_R_findRest_214 (s_95) ?_
        refine r_ald0 f_R_findRest_217 ?_
        refine r_ic f_R_findRest_218 ?_
        refine r_pi f_R_findRest_219 (s_95) ?_
        refine r_ald0 f_R_findRest_222 ?_
        refine r_ild9 f_R_findRest_223 ?_
        refine r_if_eq f_R_findRest_225 (fun h => absurd h (by decide)) (fun _ => ?_)
        refine r_ic f_R_findRest_228 ?_
        refine r_goto f_R_findRest_229 ?_
        refine r_pi f_R_findRest_233 (s_95) ?_
        refine r_ald0 f_R_findRest_236 ?_
        refine r_ic f_R_findRest_237 ?_
        refine r_pi f_R_findRest_238 (s_95) ?_
        refine r_ild7 f_R_findRest_241 ?_
        refine r_if_ne f_R_findRest_243 (fun h => absurd h (by decide)) (fun _ => ?_)
        refine r_ild8 f_R_findRest_246 ?_
        refine r_if_ne f_R_findRest_248 (fun h => absurd h (by decide)) (fun _ => ?_)
        refine r_ild9 f_R_findRest_251 ?_
        refine r_if_ne f_R_findRest_253 (fun _ => ?_) (fun h => absurd h (by decide))
        rw [show sp_setN w P g mi si f = (1, 1, 1, 1) from (if_neg hw0).trans ((if_neg hbl).trans (if_pos hbo))] at hk
        exact k_R_findRest330 (TA := 1) (TB := 1) (WA := 1) (WB := 1) (by decide) (by decide) (by decide) (by decide) (by decide) (by decide) hs rfl rfl rfl rfl e18 (hk _ _ ⟨⟨rfl, rfl, rfl, rfl⟩, rfl, rfl, rfl⟩ q_I4 q_L3)
    · have hbl : si * (P + g) ≤ 100 * mi := (nI_leI (by omega) (by omega)).mp (Int32.not_lt.mp h164)
      refine r_ic f_R_findRest_167 ?_
      refine r_goto f_R_findRest_168 ?_
      refine r_ist8 f_R_findRest_172 rfl ?_
      refine r_ild7 f_R_findRest_174 ?_
      refine r_if_ne f_R_findRest_176 (fun h => absurd h (by decide)) (fun _ => ?_)
      refine r_ild8 f_R_findRest_179 ?_
      refine r_if_ne f_R_findRest_181 (fun _ => ?_) (fun h => absurd h (by decide))
      refine r_ic f_R_findRest_200 ?_
      refine r_ist9 f_R_findRest_201 rfl ?_
      refine r_ald0 f_R_findRest_203 ?_
      refine r_ild7 f_R_findRest_204 ?_
      refine r_if_eq f_R_findRest_206 (fun _ => ?_) (fun h => absurd h (by decide))
      refine r_ic f_R_findRest_213 ?_
      refine r_pi f_R_findRest_214 (s_95) ?_
      refine r_ald0 f_R_findRest_217 ?_
      refine r_ic f_R_findRest_218 ?_
      refine r_pi f_R_findRest_219 (s_95) ?_
      refine r_ald0 f_R_findRest_222 ?_
      refine r_ild9 f_R_findRest_223 ?_
      refine r_if_eq f_R_findRest_225 (fun _ => ?_) (fun h => absurd h (by decide))
      refine r_ic f_R_findRest_232 ?_
      refine r_pi f_R_findRest_233 (s_95) ?_
      refine r_ald0 f_R_findRest_236 ?_
      refine r_ic f_R_findRest_237 ?_
      refine r_pi f_R_findRest_238 (s_95) ?_
      refine r_ild7 f_R_findRest_241 ?_
      refine r_if_ne f_R_findRest_243 (fun h => absurd h (by decide)) (fun _ => ?_)
      refine r_ild8 f_R_findRest_246 ?_
      refine r_if_ne f_R_findRest_248 (fun _ => ?_) (fun h => absurd h (by decide))
      rw [show sp_setN w P g mi si f = (1, 1, 0, 1) from (if_neg hw0).trans (if_pos hbl)] at hk
      exact k_R_findRest330 (TA := 1) (TB := 1) (WA := 0) (WB := 1) (by decide) (by decide) (by decide) (by decide) (by decide) (by decide) hs rfl rfl rfl rfl e18 (hk _ _ ⟨⟨rfl, rfl, rfl, rfl⟩, rfl, rfl, rfl⟩ q_I4 q_L3)
  · have hw0 : w = 0 := (nI_eq (b := 0) (by omega) (by decide)).mp h140
    refine r_ic f_R_findRest_143 ?_
    refine r_goto f_R_findRest_144 ?_
    refine r_ist7 f_R_findRest_148 rfl ?_
    refine r_ild7 f_R_findRest_150 ?_
    refine r_if_ne f_R_findRest_152 (fun _ => ?_) (fun h => absurd h (by decide))
    refine r_ic f_R_findRest_171 ?_
    refine r_ist8 f_R_findRest_172 rfl ?_
    refine r_ild7 f_R_findRest_174 ?_
    refine r_if_ne f_R_findRest_176 (fun _ => ?_) (fun h => absurd h (by decide))
    refine r_ic f_R_findRest_200 ?_
    refine r_ist9 f_R_findRest_201 rfl ?_
    refine r_ald0 f_R_findRest_203 ?_
    refine r_ild7 f_R_findRest_204 ?_
    refine r_if_eq f_R_findRest_206 (fun h => absurd h (by decide)) (fun _ => ?_)
    refine r_ic f_R_findRest_209 ?_
    refine r_goto f_R_findRest_210 ?_
    refine r_pi f_R_findRest_214 (s_95) ?_
    refine r_ald0 f_R_findRest_217 ?_
    refine r_ic f_R_findRest_218 ?_
    refine r_pi f_R_findRest_219 (s_95) ?_
    refine r_ald0 f_R_findRest_222 ?_
    refine r_ild9 f_R_findRest_223 ?_
    refine r_if_eq f_R_findRest_225 (fun _ => ?_) (fun h => absurd h (by decide))
    refine r_ic f_R_findRest_232 ?_
    refine r_pi f_R_findRest_233 (s_95) ?_
    refine r_ald0 f_R_findRest_236 ?_
    refine r_ic f_R_findRest_237 ?_
    refine r_pi f_R_findRest_238 (s_95) ?_
    refine r_ild7 f_R_findRest_241 ?_
    refine r_if_ne f_R_findRest_243 (fun _ => ?_) (fun h => absurd h (by decide))
    rw [show sp_setN w P g mi si f = (0, 1, 0, 1) from if_pos hw0] at hk
    exact k_R_findRest330 (TA := 0) (TB := 1) (WA := 0) (WB := 1) (by decide) (by decide) (by decide) (by decide) (by decide) (by decide) hs rfl rfl rfl rfl e18 (hk _ _ ⟨⟨rfl, rfl, rfl, rfl⟩, rfl, rfl, rfl⟩ q_I4 q_L3)
def MR (I : Rn) (L : Rl) (r : Nat → Int32) : Prop :=
  (I 95 7 = sp_tell r 0 ∧ I 95 8 = sp_tell r 1 ∧ I 95 9 = sp_tell r 2 ∧ I 95 10 = sp_tell r 3) ∧ (L 95 11 = (r 11).toInt64 ∧ L 95 12 = (r 12).toInt64 ∧ L 95 13 = (sp_open (r 11) (r 12) (r 6)).toInt64) ∧ I 95 14 = r 2 ∧ I 95 15 = r 3 ∧ I 95 16 = r 4 ∧ I 95 17 = r 5 ∧ I 95 18 = r 6
theorem sp_setN_ok {w P g mi si f : Nat} : (sp_setN w P g mi si f).1 ≤ (sp_setN w P g mi si f).2.1 ∧ 0 < (sp_setN w P g mi si f).2.1 ∧ (sp_setN w P g mi si f).2.2.1 ≤ (sp_setN w P g mi si f).2.2.2 ∧ 0 < (sp_setN w P g mi si f).2.2.2 := by
  unfold sp_setN
  by_cases h1 : w = 0
  · rw [if_pos h1]
    decide
  · rw [if_neg h1]
    by_cases h2 : si * (P + g) ≤ 100 * mi
    · rw [if_pos h2]
      decide
    · rw [if_neg h2]
      by_cases h3 : si * (w + f) ≤ 100 * w
      · rw [if_pos h3]
        decide
      · rw [if_neg h3]
        dsimp only
        omega
theorem q_mill_N {A B : Nat} (h1 : A ≤ B) (h2 : 0 < B) (h3 : B ≤ 100000000) : q_mill (nI A).toInt64 (nI B).toInt64 = nI (q_mN A B) := by
  unfold q_mill
  rw [nI_l (by omega), nI_l (by omega), if_neg (q_lne h2 (by omega)), show (1000000 : Int64) = lN 1000000 from rfl, lN_mul, pk_lDiv (by omega) h2 (by omega), lN_i, Nat.mul_comm A]
  rfl
theorem sp_open_N {P Q si : Nat} (hP : P ≤ 1000000) (hQ : Q ≤ 1000000) (hs : si ≤ 100) : sp_open (nI P) (nI Q) (nI si) = nI (q_oN P Q si) := by
  unfold sp_open
  have b3 : Q * si ≤ 1000000 * 100 := Nat.mul_le_mul hQ hs
  have b4 : P * (100000000 - Q * si) ≤ 1000000 * 100000000 := Nat.mul_le_mul hP (by omega)
  rw [nI_l (by omega), nI_l (by omega), nI_l (by omega), lN_mul, show (100000000 : Int64) = lN 100000000 from rfl, lN_sub (by omega), lN_mul, pk_lDiv (by omega) (by decide) (by decide), lN_i]
  rfl
theorem sp_gdiv {a b x : Nat} (ha : a ≤ 100000000) (hb : b ≤ 100000000) (hx : x ≤ 100000000) : nI x / sp_gcd (nI a) (nI b) = nI (x / max (Nat.gcd a b) 1) := by
  have h1 : Nat.gcd a b ≤ 100000000 := by
    rcases Nat.eq_zero_or_pos a with e | e
    · rw [e, Nat.gcd_zero_left]
      exact hb
    · exact Nat.le_trans (Nat.gcd_le_left b e) ha
  rw [sp_gcd_n ha hb, pk_div (by omega) (by omega) (by omega)]
/-- the row in naturals -/
theorem sp_mrow_N {ow tk P Q : Nat} (hW : WFd D) (ho : ow < dC D) (ht : tk < dC D) (hP : P ≤ 99999) (hQ : Q ≤ 99999) : ∃ w g mi si f : Nat, (w ≤ 899991 ∧ g ≤ 99999 ∧ mi ≤ 999 ∧ si ≤ 100 ∧ f ≤ 99999) ∧
    (sp_wants (D.1 tk 0) (D.1 tk 6) (nI Q) (D.2.2.2.1 1) = nI w ∧ D.2.2.1 0 * D.2.2.1 1 / 100 = nI g ∧ sp_minds (D.1 ow 0) (D.1 ow 3) (D.1 ow 6) = nI mi ∧ (if 100 < D.1 ow 4 + D.2.2.1 3 then (100 : Int32) else D.1 ow 4 + D.2.2.1 3) = nI si ∧ D.2.2.1 0 = nI f) ∧
    ∀ I L, MRN (sp_setN w P g mi si f) si I L → I 95 14 = nI w → I 95 15 = nI P → I 95 16 = nI g → I 95 17 = nI mi → I 95 18 = nI si → MR I L (sp_mrow D ow tk (nI P) (nI Q)) := by
  obtain ⟨w, g, mi, si, f, h1, h2, h3, h4, h5, e1, e2, e3, e4, e5⟩ := sp_mrow_nat hW ho ht hP hQ
  obtain ⟨s1, s2, s3, s4, s5⟩ := sp_set_nat h1 hP h2 h3 h4 h5
  obtain ⟨o1, o2, o3, o4⟩ := sp_setN_ok (w := w) (P := P) (g := g) (mi := mi) (si := si) (f := f)
  refine ⟨w, g, mi, si, f, ⟨h1, h2, h3, h4, h5⟩, ⟨e1, e2, e3, e4, e5⟩, fun I L ⟨⟨m1, m2, m3, m4⟩, m5, m6, m7⟩ i14 i15 i16 i17 i18 => ?_⟩
  have r7 : sp_mrow D ow tk (nI P) (nI Q) 7 = nI (sp_setN w P g mi si f).1 := by
    unfold sp_mrow
    rw [e1, e2, e3, e4, e5, s1]
    rfl
  have r8 : sp_mrow D ow tk (nI P) (nI Q) 8 = nI (sp_setN w P g mi si f).2.1 := by
    unfold sp_mrow
    rw [e1, e2, e3, e4, e5, s1]
    rfl
  have r9 : sp_mrow D ow tk (nI P) (nI Q) 9 = nI (sp_setN w P g mi si f).2.2.1 := by
    unfold sp_mrow
    rw [e1, e2, e3, e4, e5, s1]
    rfl
  have r10 : sp_mrow D ow tk (nI P) (nI Q) 10 = nI (sp_setN w P g mi si f).2.2.2 := by
    unfold sp_mrow
    rw [e1, e2, e3, e4, e5, s1]
    rfl
  have r2 : sp_mrow D ow tk (nI P) (nI Q) 2 = nI w := e1
  have r3 : sp_mrow D ow tk (nI P) (nI Q) 3 = nI P := rfl
  have r4 : sp_mrow D ow tk (nI P) (nI Q) 4 = nI g := e2
  have r5 : sp_mrow D ow tk (nI P) (nI Q) 5 = nI mi := e3
  have r6 : sp_mrow D ow tk (nI P) (nI Q) 6 = nI si := e4
  have r11 : sp_mrow D ow tk (nI P) (nI Q) 11 = nI (q_mN (sp_setN w P g mi si f).1 (sp_setN w P g mi si f).2.1) := by
    rw [← q_mill_N o1 o2 s3, ← r7, ← r8]
    rfl
  have r12 : sp_mrow D ow tk (nI P) (nI Q) 12 = nI (q_mN (sp_setN w P g mi si f).2.2.1 (sp_setN w P g mi si f).2.2.2) := by
    rw [← q_mill_N o3 o4 s5, ← r9, ← r10]
    rfl
  have b1 := q_mN_le o1 o2
  have b2 := q_mN_le o3 o4
  have b3 := q_oN_le (P := q_mN (sp_setN w P g mi si f).1 (sp_setN w P g mi si f).2.1) (Q := q_mN (sp_setN w P g mi si f).2.2.1 (sp_setN w P g mi si f).2.2.2) (si := si)
  refine ⟨⟨?_, ?_, ?_, ?_⟩, ⟨?_, ?_, ?_⟩, i14.trans r2.symm, i15.trans r3.symm, i16.trans r4.symm, i17.trans r5.symm, i18.trans r6.symm⟩
  · show _ = sp_mrow D ow tk (nI P) (nI Q) 7 / sp_gcd (sp_mrow D ow tk (nI P) (nI Q) 7) (sp_mrow D ow tk (nI P) (nI Q) 8)
    rw [r7, r8, sp_gdiv s2 s3 s2, m1]
  · show _ = sp_mrow D ow tk (nI P) (nI Q) 8 / sp_gcd (sp_mrow D ow tk (nI P) (nI Q) 7) (sp_mrow D ow tk (nI P) (nI Q) 8)
    rw [r7, r8, sp_gdiv s2 s3 s3, m2]
  · show _ = sp_mrow D ow tk (nI P) (nI Q) 9 / sp_gcd (sp_mrow D ow tk (nI P) (nI Q) 9) (sp_mrow D ow tk (nI P) (nI Q) 10)
    rw [r9, r10, sp_gdiv s4 s5 s4, m3]
  · show _ = sp_mrow D ow tk (nI P) (nI Q) 10 / sp_gcd (sp_mrow D ow tk (nI P) (nI Q) 9) (sp_mrow D ow tk (nI P) (nI Q) 10)
    rw [r9, r10, sp_gdiv s4 s5 s5, m4]
  · rw [r11, nI_l (by omega), m5]
  · rw [r12, nI_l (by omega), m6]
  · rw [r11, r12, r6, sp_open_N b1 b2 h4, nI_l (by omega), m7]
theorem q_wsee {ow : Nat} (hW : WFd D) (ho : ow < dC D) : q_within (D.1 ow 4 + D.2.2.1 3) 0 100 = if 100 < D.1 ow 4 + D.2.2.1 3 then 100 else D.1 ow 4 + D.2.2.1 3 := by
  obtain ⟨s4, _, g2, g3⟩ := hW.fs ow 4 ho (by decide) (by decide)
  obtain ⟨u3, _, k2, k3⟩ := hW.2.2.2.2.1 3 (by decide)
  have z4 : q_fmax 4 = 100 := rfl
  have z7 : q_umax 3 = 200 := rfl
  rw [g3, k3, nI_add]
  unfold q_within
  rw [if_pos (nI_pos' (by omega))]
  by_cases h : 100 < nI (s4 + u3)
  · rw [if_pos h, if_neg (Int32.not_le.mpr h)]
  · rw [if_neg h, if_pos (Int32.not_lt.mp h)]
theorem sp_nx_lt {p : Nat} (h : 0 < dC D) : sp_nx D p < dC D := by
  unfold sp_nx
  split <;> omega
theorem RR.ag107 {q : Nat} (h : RR I q D) (hl : D.2.2.2.2.length ≤ 60) (hq : q ≠ 107) (hg : q_ag (fun x _ => x = 107) I I') : RR I' q D := h.rows hl (fun x y w => hg x y (fun q => hq (w.symm.trans q)))
theorem k_R_findRest22 {o t p : Nat} (ho : o < dC D) (ht : t < dC D) (hR : RR I 96 D) (hW : WFd D) (hk : ∀ I' L', MR I' L' (sp_mrow D o t (sp_pa D o p) (sp_pa D t (sp_nx D p))) → q_ag FRm I I' → q_aL FRl L L' → K none SH RF I' L') : WW G (d + 4) mt_R_findRest 22 [some (.ref 95), some (.int (nI o)), some (.int (nI t)), some (.int (nI p)), some (.int (nI (sp_nx D p))), none, none, none, none, none, none] [] SH RF I L 0 0 0 0 K := by
  have hc8 := hW.1.1
  have hl := hW.2.2.2.2.2.2.2.1
  have eP0 : sp_pa D o p = sp_pays (D.1 o 2) (sp_gives D o p) := rfl
  have eQ0 : sp_pa D t (sp_nx D p) = sp_pays (D.1 t 2) (sp_gives D t (sp_nx D p)) := rfl
  obtain ⟨P, hP, eP⟩ := sp_pays_nat (D.1 o 2) (sp_gives D o p)
  obtain ⟨Q, hQ, eQ⟩ := sp_pays_nat (D.1 t 2) (sp_gives D t (sp_nx D p))
  rw [eP0, eQ0, eP, eQ] at hk
  obtain ⟨w, g, mi, si, f, ⟨h1, h2, h3, h4, h5⟩, ⟨e1, e2, e3, e4, e5⟩, hmr⟩ := sp_mrow_N hW ho ht hP hQ
  refine r_ald0 f_R_findRest_22 ?_
  refine r_ald0 f_R_findRest_23 ?_
  refine r_ild2 f_R_findRest_24 ?_
  refine r_ald0 f_R_findRest_25 ?_
  refine r_ild2 f_R_findRest_26 ?_
  refine r_ild4 f_R_findRest_27 ?_
  refine c_R_paysAt f_R_findRest_29 (s_95) (Nat.le_of_ble_eq_true rfl) (Nat.le_refl _) (Nat.le_refl _) ?_
  refine k_R_paysAt (show t < 8 by omega) hR hW (fun I1 g1 => ?_)
  rw [eQ]
  have hR1 := hR.ag107 hl (by decide) g1
  refine c_R_wantsBy f_R_findRest_32 (s_95) (Nat.le_of_ble_eq_true rfl) (Nat.le_refl _) (Nat.le_refl _) ?_
  refine k_R_wantsBy ht hR1 hW ?_
  rw [e1]
  refine r_pi f_R_findRest_35 (s_95) ?_
  refine r_ald0 f_R_findRest_38 ?_
  refine r_ald0 f_R_findRest_39 ?_
  refine r_ild1 f_R_findRest_40 ?_
  refine r_ild3 f_R_findRest_41 ?_
  refine c_R_paysAt f_R_findRest_42 (s_95) (Nat.le_of_ble_eq_true rfl) (Nat.le_refl _) (Nat.le_refl _) ?_
  have hR2 : RR (u2 I1 95 14 (nI w)) 96 D := hR1.rows hl (fun x y z => u2_ne (Or.inl (by omega)))
  refine k_R_paysAt (show o < 8 by omega) hR2 hW (fun I3 g3 => ?_)
  rw [eP]
  have hR3 := hR2.ag107 hl (by decide) g3
  refine r_pi f_R_findRest_45 (s_95) ?_
  refine r_ald0 f_R_findRest_48 ?_
  refine r_ald0 f_R_findRest_49 ?_
  refine r_gr f_R_findRest_50 (s_95) (r_95_0) ?_
  refine r_ic f_R_findRest_53 ?_
  refine r_iald f_R_findRest_54 (s_96) (show q_ix 5 5 136 from ⟨by decide, by decide⟩) ?_
  rw [u2_ne (Or.inl (by decide)), hR3.u (k := 0) (by decide)]
  refine r_ald0 f_R_findRest_55 ?_
  refine r_gr f_R_findRest_56 (s_95) (r_95_0) ?_
  refine r_ic f_R_findRest_59 ?_
  refine r_iald f_R_findRest_61 (s_96) (show q_ix 6 6 136 from ⟨by decide, by decide⟩) ?_
  rw [u2_ne (Or.inl (by decide)), hR3.u (k := 1) (by decide)]
  refine r_imul f_R_findRest_62 ?_
  refine r_ic f_R_findRest_63 ?_
  refine r_idiv f_R_findRest_65 (by decide) ?_
  rw [e2]
  refine r_pi f_R_findRest_66 (s_95) ?_
  refine r_ald0 f_R_findRest_69 ?_
  refine r_ald0 f_R_findRest_70 ?_
  refine r_ild1 f_R_findRest_71 ?_
  refine c_R_minds f_R_findRest_72 (s_95) (Nat.le_of_ble_eq_true rfl) (Nat.le_refl _) (Nat.le_refl _) ?_
  refine k_R_minds ho (hR3.rows hl (fun x y z => (u2_ne (Or.inl (by omega))).trans (u2_ne (Or.inl (by omega))))) hW ?_
  rw [e3]
  refine r_pi f_R_findRest_75 (s_95) ?_
  refine r_ald0 f_R_findRest_78 ?_
  refine r_ald0 f_R_findRest_79 ?_
  refine r_ild1 f_R_findRest_80 ?_
  refine r_ic f_R_findRest_81 ?_
  refine c_R_get f_R_findRest_82 (s_95) (Nat.le_of_ble_eq_true rfl) (Nat.le_refl _) (Nat.le_refl _) ?_
  refine k_R_get (k := 4) (show o < 8 by omega) (by decide) (hR3.rows hl (fun x y z => ((u2_ne (Or.inl (by omega))).trans (u2_ne (Or.inl (by omega)))).trans (u2_ne (Or.inl (by omega))))) ?_
  refine r_ald0 f_R_findRest_85 ?_
  refine r_gr f_R_findRest_86 (s_95) (r_95_0) ?_
  refine r_ic f_R_findRest_89 ?_
  refine r_iald f_R_findRest_91 (s_96) (show q_ix 8 8 136 from ⟨by decide, by decide⟩) ?_
  rw [show u2 (u2 (u2 I3 95 15 (nI P)) 95 16 (nI g)) 95 17 (nI mi) 96 8 = D.2.2.1 3 from hR3.u (k := 3) (by decide)]
  refine r_iadd f_R_findRest_92 ?_
  refine r_ic f_R_findRest_93 ?_
  refine r_ic f_R_findRest_94 ?_
  refine c_R_within f_R_findRest_96 (Nat.le_of_ble_eq_true rfl) (Nat.le_refl _) (Nat.le_refl _) ?_
  refine k_R_within ?_
  rw [q_wsee hW ho, e4]
  refine r_pi f_R_findRest_99 (s_95) ?_
  have e14 : I3 95 14 = nI w := (g3 95 14 (by decide)).trans u2_self
  have gA : q_ag FRm I (u2 (u2 (u2 (u2 I3 95 15 (nI P)) 95 16 (nI g)) 95 17 (nI mi)) 95 18 (nI si)) := ((((((g1.mo (fun x y z => Or.inr z)).u2 (i := 95) (j := 14) (v := nI w) (Or.inl ⟨rfl, by decide, by decide⟩)).tr (g3.mo (fun x y z => Or.inr z))).u2 (Or.inl ⟨rfl, by decide, by decide⟩)).u2 (Or.inl ⟨rfl, by decide, by decide⟩)).u2 (Or.inl ⟨rfl, by decide, by decide⟩)).u2 (Or.inl ⟨rfl, by decide, by decide⟩)
  refine k_R_findRest102 h1 hP h2 h3 h4 h5 e14 rfl rfl rfl rfl ((hR3.u (k := 0) (by decide)).trans e5) (fun I' L' hm hg4 hl4 => hk I' L' (hmr I' L' hm ?_ ?_ ?_ ?_ ?_) (gA.tr (hg4.mo (fun x y z => Or.inl ⟨z.1, z.2.1, by have := z.2.2; omega⟩))) hl4)
  · exact (hg4 95 14 (by unfold FR4; omega)).trans e14
  · exact (hg4 95 15 (by unfold FR4; omega)).trans rfl
  · exact (hg4 95 16 (by unfold FR4; omega)).trans rfl
  · exact (hg4 95 17 (by unfold FR4; omega)).trans rfl
  · exact (hg4 95 18 (by unfold FR4; omega)).trans rfl
theorem k_R_findRest {o t p : Nat} (ho : o < dC D) (ht : t < dC D) (hp : p < dC D) (hR : RR I 96 D) (hW : WFd D) (hk : ∀ I' L', MR I' L' (sp_mrow D o t (sp_pa D o p) (sp_pa D t (sp_nx D p))) → q_ag FRm I I' → q_aL FRl L L' → K none SH RF I' L') : WW G (d + 4) mt_R_findRest 0 [some (.ref 95), some (.int (nI o)), some (.int (nI t)), some (.int (nI p)), none, none, none, none, none, none, none] [] SH RF I L 0 0 0 0 K := by
  have hc8 := hW.1.1
  refine r_ild3 f_R_findRest_0 ?_
  refine r_ic f_R_findRest_1 ?_
  refine r_iadd f_R_findRest_2 ?_
  rw [nI_1]
  refine r_ald0 f_R_findRest_3 ?_
  refine r_gr f_R_findRest_4 (s_95) (r_95_0) ?_
  refine r_ic f_R_findRest_7 ?_
  refine r_iald f_R_findRest_9 (s_96) (show q_ix 10 10 136 from ⟨by decide, by decide⟩) ?_
  rw [hR.cnt hW]
  refine r_ic_ne f_R_findRest_10 (fun h10 => ?_) (fun h10 => ?_)
  · have en : sp_nx D p = p + 1 := if_pos (by have : ¬ p + 1 = dC D := fun q => h10 (by rw [q]); omega)
    refine r_ild3 f_R_findRest_17 ?_
    refine r_ic f_R_findRest_18 ?_
    refine r_iadd f_R_findRest_19 ?_
    refine r_ist4 f_R_findRest_20 rfl ?_
    first
      | exact en ▸ k_R_findRest22 ho ht hR hW hk
      | (have e9 := k_R_findRest22 (G := G) (d := d) (p := p) ho ht hR hW hk
         rw [en] at e9
         exact e9)
      | (have e9 := k_R_findRest22 (G := G) (d := d) (p := p) ho ht hR hW hk
         rw [en] at e9
         rw [nI_1]
         exact e9)
  · have en : sp_nx D p = 0 := if_neg (by have := (nI_eq (by omega) (by omega)).mp h10; omega)
    refine r_ic f_R_findRest_13 ?_
    refine r_goto f_R_findRest_14 ?_
    refine r_ist4 f_R_findRest_20 rfl ?_
    first
      | exact en ▸ k_R_findRest22 ho ht hR hW hk
      | (have e9 := k_R_findRest22 (G := G) (d := d) (p := p) ho ht hR hW hk
         rw [en] at e9
         exact e9)
      | (have e9 := k_R_findRest22 (G := G) (d := d) (p := p) ho ht hR hW hk
         rw [en] at e9
         rw [nI_1]
         exact e9)
theorem k_R_findMeet {p : Nat} (hp : p < dC D) (hR : RR I 96 D) (hW : WFd D) (hk : ∀ I' L', MR I' L' (sp_mt D p) → q_ag FRm I I' → q_aL FRl L L' → K none SH RF I' L') : WW G (d + 5) mt_R_findMeet 0 [some (.ref 95), some (.int (nI p)), none] [] SH RF I L 0 0 0 0 K := by
  have hc8 := hW.1.1
  have hn := sp_nx_lt (D := D) (p := p) (by omega)
  obtain ⟨a1, a2⟩ := hW.2.1 p hp
  obtain ⟨b1, b2⟩ := hW.2.1 _ hn
  refine r_ild1 f_R_findMeet_0 ?_
  refine r_ic f_R_findMeet_1 ?_
  refine r_iadd f_R_findMeet_2 ?_
  rw [nI_1]
  refine r_ald0 f_R_findMeet_3 ?_
  refine r_gr f_R_findMeet_4 (s_95) (r_95_0) ?_
  refine r_ic f_R_findMeet_7 ?_
  refine r_iald f_R_findMeet_9 (s_96) (show q_ix 10 10 136 from ⟨by decide, by decide⟩) ?_
  rw [hR.cnt hW]
  refine r_ic_ne f_R_findMeet_10 (fun h10 => ?_) (fun h10 => ?_)
  · have en : sp_nx D p = p + 1 := if_pos (by have : ¬ p + 1 = dC D := fun q => h10 (by rw [q]); omega)
    refine r_ild1 f_R_findMeet_17 ?_
    refine r_ic f_R_findMeet_18 ?_
    refine r_iadd f_R_findMeet_19 ?_
    rw [nI_1, ← en]
    refine r_ist2 f_R_findMeet_20 rfl ?_
    refine r_ald0 f_R_findMeet_21 ?_
    refine r_ald0 f_R_findMeet_22 ?_
    refine r_gr f_R_findMeet_23 (s_95) (r_95_0) ?_
    refine r_ic f_R_findMeet_26 ?_
    refine r_ild1 f_R_findMeet_28 ?_
    refine r_iadd f_R_findMeet_29 ?_
    rw [show (68 : Int32) + nI p = nI (68 + p) from nI_add 68 p]
    refine r_iald f_R_findMeet_30 (s_96) (q_ix.nI (show 68 + p < 136 by omega) (by decide)) ?_
    rw [hR.o (p := p) (by omega), a2]
    refine r_ald0 f_R_findMeet_31 ?_
    refine r_gr f_R_findMeet_32 (s_95) (r_95_0) ?_
    refine r_ic f_R_findMeet_35 ?_
    refine r_ild2 f_R_findMeet_37 ?_
    refine r_iadd f_R_findMeet_38 ?_
    rw [show (68 : Int32) + nI (sp_nx D p) = nI (68 + sp_nx D p) from nI_add 68 _]
    refine r_iald f_R_findMeet_39 (s_96) (q_ix.nI (show 68 + sp_nx D p < 136 by omega) (by decide)) ?_
    rw [hR.o (p := sp_nx D p) (by omega), b2]
    refine r_ild1 f_R_findMeet_40 ?_
    refine c_R_findRest f_R_findMeet_41 (s_95) (Nat.le_of_ble_eq_true rfl) (Nat.le_refl _) (Nat.le_refl _) ?_
    refine k_R_findRest a1 b1 hp hR hW (fun I9 L9 m9 g9 l9 => ?_)
    refine r_ret f_R_findMeet_44 rfl (Nat.le_refl _) (Nat.le_refl _) ?_
    exact hk I9 L9 m9 g9 l9
  · have en : sp_nx D p = 0 := if_neg (by have := (nI_eq (by omega) (by omega)).mp h10; omega)
    refine r_ic f_R_findMeet_13 ?_
    refine r_goto f_R_findMeet_14 ?_
    rw [show (0 : Int32) = nI (sp_nx D p) from by rw [en]; rfl]
    refine r_ist2 f_R_findMeet_20 rfl ?_
    refine r_ald0 f_R_findMeet_21 ?_
    refine r_ald0 f_R_findMeet_22 ?_
    refine r_gr f_R_findMeet_23 (s_95) (r_95_0) ?_
    refine r_ic f_R_findMeet_26 ?_
    refine r_ild1 f_R_findMeet_28 ?_
    refine r_iadd f_R_findMeet_29 ?_
    rw [show (68 : Int32) + nI p = nI (68 + p) from nI_add 68 p]
    refine r_iald f_R_findMeet_30 (s_96) (q_ix.nI (show 68 + p < 136 by omega) (by decide)) ?_
    rw [hR.o (p := p) (by omega), a2]
    refine r_ald0 f_R_findMeet_31 ?_
    refine r_gr f_R_findMeet_32 (s_95) (r_95_0) ?_
    refine r_ic f_R_findMeet_35 ?_
    refine r_ild2 f_R_findMeet_37 ?_
    refine r_iadd f_R_findMeet_38 ?_
    rw [show (68 : Int32) + nI (sp_nx D p) = nI (68 + sp_nx D p) from nI_add 68 _]
    refine r_iald f_R_findMeet_39 (s_96) (q_ix.nI (show 68 + sp_nx D p < 136 by omega) (by decide)) ?_
    rw [hR.o (p := sp_nx D p) (by omega), b2]
    refine r_ild1 f_R_findMeet_40 ?_
    refine c_R_findRest f_R_findMeet_41 (s_95) (Nat.le_of_ble_eq_true rfl) (Nat.le_refl _) (Nat.le_refl _) ?_
    refine k_R_findRest a1 b1 hp hR hW (fun I9 L9 m9 g9 l9 => ?_)
    refine r_ret f_R_findMeet_44 rfl (Nat.le_refl _) (Nat.le_refl _) ?_
    exact hk I9 L9 m9 g9 l9
end L57
