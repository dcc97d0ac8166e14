section RSW
variable {G : Gx} {d : Nat} {M : Mt} {ls : List (Option Value)} {st : List Value} {S : Shp} {R : Rf} {I : Rn} {L : Rl} {ce sl mc ms : Nat} {K : Kt}
theorem r_swc {x k : Int32} {a : Int} {t df : Nat} {cs : List (Int × Nat)} (hk : k.toInt = a) (h1 : x = k → WW G d M t ls st S R I L ce sl mc ms K) (h2 : ¬ x = k → WW G d M (q_swt cs df x.toInt) ls st S R I L ce sl mc ms K) : WW G d M (q_swt ((a, t) :: cs) df x.toInt) ls st S R I L ce sl mc ms K := by
  show WW G d M (if x.toInt = a then t else q_swt cs df x.toInt) ls st S R I L ce sl mc ms K
  by_cases h : x.toInt = a
  · rw [if_pos h]
    exact h1 (Int32.toInt_inj.mp (by rw [h, hk]))
  · rw [if_neg h]
    exact h2 (fun e => h (by rw [e, hk]))
theorem r_swn {x : Int} {df : Nat} (h : WW G d M df ls st S R I L ce sl mc ms K) : WW G d M (q_swt [] df x) ls st S R I L ce sl mc ms K := h
theorem r_swl {pc t df : Nat} {x : Int32} {cs : List (Int × Nat)} (hd : Fw M pc cs df) (ht : q_swt cs df x.toInt = t) (k : WW G d M t ls st S R I L ce sl mc ms K) : WW G d M pc ls (.int x :: st) S R I L ce sl mc ms K := r_sw hd (by rw [ht]; exact k)
/-- a value's narrowing, for methods that answer yes or no -/
theorem q_narz {M : Mt} {x : Int32} (h : M.2.2.2 = some .boolean) (hx : x = 0 ∨ x = 1) : q_nar M (some (.int x)) := ⟨.boolean, h, by rcases hx with rfl | rfl <;> rfl⟩
end RSW
