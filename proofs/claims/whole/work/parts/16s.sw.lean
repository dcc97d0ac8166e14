section RSW
variable {G : Gx} {d : Nat} {M : Mt} {ls : List (Option Value)} {st : List Value} {S : Shp} {R : Rf} {I : Rn} {L : Rl} {ce sl mc ms : Nat} {K : Kt}
theorem r_swc {x k : Int32} {a : Int} {t df : Nat} {cs : List (Int × Nat)} (hk : k.toInt = a) (h1 : x = k → WW G d M t ls st S R I L ce sl mc ms K) (h2 : ¬ x = k → WW G d M (q_swt cs df x.toInt) ls st S R I L ce sl mc ms K) : WW G d M (q_swt ((a, t) :: cs) df x.toInt) ls st S R I L ce sl mc ms K := by
  show WW G d M (if x.toInt = a then t else q_swt cs df x.toInt) ls st S R I L ce sl mc ms K
  by_cases h : x.toInt = a
  · rw [if_pos h]
    exact h1 (Int32.toInt_inj.mp (by rw [h, hk]))
  · rw [if_neg h]
    exact h2 (fun e => h (by rw [e, hk]))
theorem r_swn {x : Int} {df : Nat} (h : WW G d M df ls st S R I L ce sl mc ms K) : WW G d M (q_swt [] df x) ls st S R I L ce sl mc ms K := h
theorem r_swl {pc t df : Nat} {x : Int32} {cs : List (Int × Nat)} (hd : Fw M pc cs df) (ht : q_swt cs df x.toInt = t) (k : WW G d M t ls st S R I L ce sl mc ms K) : WW G d M pc ls (.int x :: st) S R I L ce sl mc ms K := r_sw hd (by rw [ht]; exact k)
/-- a value's narrowing, for methods that answer yes or no -/
theorem q_narz {M : Mt} {x : Int32} (h : M.2.2.2 = some .boolean) (hx : x = 0 ∨ x = 1) : q_nar M (some (.int x)) := ⟨.boolean, h, by rcases hx with rfl | rfl <;> rfl⟩
/-- what is known of a variable may be forgotten -/
theorem WW.drop {pc : Nat} {ls' : List (Option Value)} (h : ∀ (i : Nat) (v : Value), ls'[i]? = some (some v) → ls[i]? = some (some v)) (k : WW G d M pc ls' st S R I L ce sl mc ms K) : WW G d M pc ls st S R I L ce sl mc ms K :=
  fun p e Rm s m args below meth c H locs Q la hF hW hS hl hR => k p e Rm s m args below meth c H locs Q la hF hW hS ⟨hl.1, hl.2.1, fun q hq => hl.2.2 q (by
    obtain ⟨v, h1, h2⟩ := q_lv_mem.mp hq
    exact q_lv_mem.mpr ⟨v, h _ v h1, h2⟩)⟩ hR
theorem r_drop0 {pc : Nat} {x : Option Value} {r : List (Option Value)} (k : WW G d M pc (none :: r) st S R I L ce sl mc ms K) : WW G d M pc (x :: r) st S R I L ce sl mc ms K := WW.drop (fun i v h => by
    match i, h with
    | 0, h => cases h
    | i + 1, h => exact h) k
theorem r_drop1 {a0 : Option Value} {pc : Nat} {x : Option Value} {r : List (Option Value)} (k : WW G d M pc (a0 :: none :: r) st S R I L ce sl mc ms K) : WW G d M pc (a0 :: x :: r) st S R I L ce sl mc ms K := WW.drop (fun i v h => by
    match i, h with
    | 0, h => exact h
    | 1, h => cases h
    | i + 2, h => exact h) k
theorem r_drop2 {a0 a1 : Option Value} {pc : Nat} {x : Option Value} {r : List (Option Value)} (k : WW G d M pc (a0 :: a1 :: none :: r) st S R I L ce sl mc ms K) : WW G d M pc (a0 :: a1 :: x :: r) st S R I L ce sl mc ms K := WW.drop (fun i v h => by
    match i, h with
    | 0, h => exact h
    | 1, h => exact h
    | 2, h => cases h
    | i + 3, h => exact h) k
theorem r_drop3 {a0 a1 a2 : Option Value} {pc : Nat} {x : Option Value} {r : List (Option Value)} (k : WW G d M pc (a0 :: a1 :: a2 :: none :: r) st S R I L ce sl mc ms K) : WW G d M pc (a0 :: a1 :: a2 :: x :: r) st S R I L ce sl mc ms K := WW.drop (fun i v h => by
    match i, h with
    | 0, h => exact h
    | 1, h => exact h
    | 2, h => exact h
    | 3, h => cases h
    | i + 4, h => exact h) k
theorem r_drop4 {a0 a1 a2 a3 : Option Value} {pc : Nat} {x : Option Value} {r : List (Option Value)} (k : WW G d M pc (a0 :: a1 :: a2 :: a3 :: none :: r) st S R I L ce sl mc ms K) : WW G d M pc (a0 :: a1 :: a2 :: a3 :: x :: r) st S R I L ce sl mc ms K := WW.drop (fun i v h => by
    match i, h with
    | 0, h => exact h
    | 1, h => exact h
    | 2, h => exact h
    | 3, h => exact h
    | 4, h => cases h
    | i + 5, h => exact h) k
theorem r_drop5 {a0 a1 a2 a3 a4 : Option Value} {pc : Nat} {x : Option Value} {r : List (Option Value)} (k : WW G d M pc (a0 :: a1 :: a2 :: a3 :: a4 :: none :: r) st S R I L ce sl mc ms K) : WW G d M pc (a0 :: a1 :: a2 :: a3 :: a4 :: x :: r) st S R I L ce sl mc ms K := WW.drop (fun i v h => by
    match i, h with
    | 0, h => exact h
    | 1, h => exact h
    | 2, h => exact h
    | 3, h => exact h
    | 4, h => exact h
    | 5, h => cases h
    | i + 6, h => exact h) k
theorem r_drop6 {a0 a1 a2 a3 a4 a5 : Option Value} {pc : Nat} {x : Option Value} {r : List (Option Value)} (k : WW G d M pc (a0 :: a1 :: a2 :: a3 :: a4 :: a5 :: none :: r) st S R I L ce sl mc ms K) : WW G d M pc (a0 :: a1 :: a2 :: a3 :: a4 :: a5 :: x :: r) st S R I L ce sl mc ms K := WW.drop (fun i v h => by
    match i, h with
    | 0, h => exact h
    | 1, h => exact h
    | 2, h => exact h
    | 3, h => exact h
    | 4, h => exact h
    | 5, h => exact h
    | 6, h => cases h
    | i + 7, h => exact h) k
theorem r_drop7 {a0 a1 a2 a3 a4 a5 a6 : Option Value} {pc : Nat} {x : Option Value} {r : List (Option Value)} (k : WW G d M pc (a0 :: a1 :: a2 :: a3 :: a4 :: a5 :: a6 :: none :: r) st S R I L ce sl mc ms K) : WW G d M pc (a0 :: a1 :: a2 :: a3 :: a4 :: a5 :: a6 :: x :: r) st S R I L ce sl mc ms K := WW.drop (fun i v h => by
    match i, h with
    | 0, h => exact h
    | 1, h => exact h
    | 2, h => exact h
    | 3, h => exact h
    | 4, h => exact h
    | 5, h => exact h
    | 6, h => exact h
    | 7, h => cases h
    | i + 8, h => exact h) k
theorem r_drop8 {a0 a1 a2 a3 a4 a5 a6 a7 : Option Value} {pc : Nat} {x : Option Value} {r : List (Option Value)} (k : WW G d M pc (a0 :: a1 :: a2 :: a3 :: a4 :: a5 :: a6 :: a7 :: none :: r) st S R I L ce sl mc ms K) : WW G d M pc (a0 :: a1 :: a2 :: a3 :: a4 :: a5 :: a6 :: a7 :: x :: r) st S R I L ce sl mc ms K := WW.drop (fun i v h => by
    match i, h with
    | 0, h => exact h
    | 1, h => exact h
    | 2, h => exact h
    | 3, h => exact h
    | 4, h => exact h
    | 5, h => exact h
    | 6, h => exact h
    | 7, h => exact h
    | 8, h => cases h
    | i + 9, h => exact h) k
theorem r_drop9 {a0 a1 a2 a3 a4 a5 a6 a7 a8 : Option Value} {pc : Nat} {x : Option Value} {r : List (Option Value)} (k : WW G d M pc (a0 :: a1 :: a2 :: a3 :: a4 :: a5 :: a6 :: a7 :: a8 :: none :: r) st S R I L ce sl mc ms K) : WW G d M pc (a0 :: a1 :: a2 :: a3 :: a4 :: a5 :: a6 :: a7 :: a8 :: x :: r) st S R I L ce sl mc ms K := WW.drop (fun i v h => by
    match i, h with
    | 0, h => exact h
    | 1, h => exact h
    | 2, h => exact h
    | 3, h => exact h
    | 4, h => exact h
    | 5, h => exact h
    | 6, h => exact h
    | 7, h => exact h
    | 8, h => exact h
    | 9, h => cases h
    | i + 10, h => exact h) k
theorem r_drop10 {a0 a1 a2 a3 a4 a5 a6 a7 a8 a9 : Option Value} {pc : Nat} {x : Option Value} {r : List (Option Value)} (k : WW G d M pc (a0 :: a1 :: a2 :: a3 :: a4 :: a5 :: a6 :: a7 :: a8 :: a9 :: none :: r) st S R I L ce sl mc ms K) : WW G d M pc (a0 :: a1 :: a2 :: a3 :: a4 :: a5 :: a6 :: a7 :: a8 :: a9 :: x :: r) st S R I L ce sl mc ms K := WW.drop (fun i v h => by
    match i, h with
    | 0, h => exact h
    | 1, h => exact h
    | 2, h => exact h
    | 3, h => exact h
    | 4, h => exact h
    | 5, h => exact h
    | 6, h => exact h
    | 7, h => exact h
    | 8, h => exact h
    | 9, h => exact h
    | 10, h => cases h
    | i + 11, h => exact h) k
end RSW
