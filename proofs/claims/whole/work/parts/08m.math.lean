/-! Math's max and min -/
def Fm (M : Mt) (pc : Nat) (y : MethodName) (b : ByteArray) (n : Nat) (t : FieldType) (nx : Nat) : Prop := ∃ ix, decode M.2.1 pc = .ok (.invokestatic ix, 3) ∧ pc + 3 = nx ∧ Cond.methodLink M.1.cls ix y ∈ q_gw ∧ Cond.static y ∈ q_gw ∧ Cond.initialized "java/lang/Math" ∈ q_gw ∧ Cond.code y b n (some t) ∈ q_gw
section RM
variable {G : Gx} {d : Nat} {M : Mt} {pc nx : Nat} {ls : List (Option Value)} {st : List Value} {S : Shp} {R : Rf} {I : Rn} {L : Rl} {ce sl mc ms : Nat} {K : Kt}
theorem q_cat64 {G : Gx} {r : List Value} {d N : Nat} (h : (r.map fun v => v.category).sum ≤ 8) (hd : 64 * (d + 1) ≤ N) : ((r.map (q_cv G)).map fun v => v.category).sum + 15 ≤ N := by
  rw [q_cats]
  omega
theorem r_maxI {x y : Int32} (hd : Fm M pc Lib.Math.max.name Lib.Math.max.code 2 .int nx) (hr : (st.map fun v => v.category).sum ≤ 8) (hc : ce ≤ mc) (hs : sl ≤ ms) (k : WW G d M nx ls (.int (if x < y then y else x) :: st) S R I L ce sl mc ms K) : WW G d M pc ls (.int y :: .int x :: st) S R I L ce sl mc ms K := by
  intro p e Rm s m args below meth c H locs Q la hF hW hS hl hR
  obtain ⟨ix, hd, rfl, w1, w2, w3, w4⟩ := hd
  obtain ⟨f1, f2, f3, f4, f5, f6, f7, f8, f9, f10, f11, f12, f13⟩ := id hF
  exact va_mmax f1 f2 (f3.trans hl.1.symm) f7 (f8 _ w1) (f8 _ w2) (f8 _ w3) (f8 _ w4) (by omega) (by have := q_cat64 (G := G) hr f11; omega) (Nat.le_trans hc f12) (Nat.le_trans hs f13) hd (k p e Rm s m args below meth c H locs Q la hF hW hS hl hR)
theorem r_minI {x y : Int32} (hd : Fm M pc Lib.Math.min.name Lib.Math.min.code 2 .int nx) (hr : (st.map fun v => v.category).sum ≤ 8) (hc : ce ≤ mc) (hs : sl ≤ ms) (k : WW G d M nx ls (.int (if y < x then y else x) :: st) S R I L ce sl mc ms K) : WW G d M pc ls (.int y :: .int x :: st) S R I L ce sl mc ms K := by
  intro p e Rm s m args below meth c H locs Q la hF hW hS hl hR
  obtain ⟨ix, hd, rfl, w1, w2, w3, w4⟩ := hd
  obtain ⟨f1, f2, f3, f4, f5, f6, f7, f8, f9, f10, f11, f12, f13⟩ := id hF
  exact va_mmin f1 f2 (f3.trans hl.1.symm) f7 (f8 _ w1) (f8 _ w2) (f8 _ w3) (f8 _ w4) (by omega) (by have := q_cat64 (G := G) hr f11; omega) (Nat.le_trans hc f12) (Nat.le_trans hs f13) hd (k p e Rm s m args below meth c H locs Q la hF hW hS hl hR)
theorem r_maxJ {x y : Int64} (hd : Fm M pc Lib.MathLoose.max_long.x Lib.MathLoose.max_long.code 4 .long nx) (hr : (st.map fun v => v.category).sum ≤ 8) (hc : ce ≤ mc) (hs : sl ≤ ms) (k : WW G d M nx ls (.long (if y < x then x else y) :: st) S R I L ce sl mc ms K) : WW G d M pc ls (.long y :: .long x :: st) S R I L ce sl mc ms K := by
  intro p e Rm s m args below meth c H locs Q la hF hW hS hl hR
  obtain ⟨ix, hd, rfl, w1, w2, w3, w4⟩ := hd
  obtain ⟨f1, f2, f3, f4, f5, f6, f7, f8, f9, f10, f11, f12, f13⟩ := id hF
  exact va_mmax_long f1 f2 (f3.trans hl.1.symm) f7 (f8 _ w1) (f8 _ w2) (f8 _ w3) (f8 _ w4) (by omega) (q_cat64 hr f11) (Nat.le_trans hc f12) (Nat.le_trans hs f13) hd (k p e Rm s m args below meth c H locs Q la hF hW hS hl hR)
theorem r_minJ {x y : Int64} (hd : Fm M pc Lib.MathLoose.min_long.x Lib.MathLoose.min_long.code 4 .long nx) (hr : (st.map fun v => v.category).sum ≤ 8) (hc : ce ≤ mc) (hs : sl ≤ ms) (k : WW G d M nx ls (.long (if y < x then y else x) :: st) S R I L ce sl mc ms K) : WW G d M pc ls (.long y :: .long x :: st) S R I L ce sl mc ms K := by
  intro p e Rm s m args below meth c H locs Q la hF hW hS hl hR
  obtain ⟨ix, hd, rfl, w1, w2, w3, w4⟩ := hd
  obtain ⟨f1, f2, f3, f4, f5, f6, f7, f8, f9, f10, f11, f12, f13⟩ := id hF
  exact va_mmin_long f1 f2 (f3.trans hl.1.symm) f7 (f8 _ w1) (f8 _ w2) (f8 _ w3) (f8 _ w4) (by omega) (q_cat64 hr f11) (Nat.le_trans hc f12) (Nat.le_trans hs f13) hd (k p e Rm s m args below meth c H locs Q la hF hW hS hl hR)
end RM
