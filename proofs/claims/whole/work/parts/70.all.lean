section L70
variable {G : Gx} {d : Nat} {K : Kt} {mc ms : Nat}
def s_D0 : Dst := vD IF 1
theorem s_D0t : s_D0.2.2.2.2 = [] := by decide +kernel
theorem s_D0c : dC s_D0 = 0 := by decide +kernel
theorem s_D0w : WFd s_D0 := by
  refine ⟨⟨by rw [s_D0c]; decide, by decide +kernel⟩, fun p hp => ?_, fun k hk => ?_, fun f k hf => ?_, fun k hk => ?_, ⟨1, by decide, by decide, by decide +kernel⟩, ⟨0, by decide, by decide, by decide +kernel⟩, ?_⟩
  · rw [s_D0c] at hp
    exact absurd hp (Nat.not_lt_zero _)
  · rw [s_D0c] at hk
    exact absurd hk (Nat.not_lt_zero _)
  · rw [s_D0c] at hf
    exact absurd hf (Nat.not_lt_zero _)
  · match k, hk with
    | 0, _ => exact ⟨100, by decide, by decide, by decide +kernel⟩
    | 1, _ => exact ⟨50, by decide, by decide, by decide +kernel⟩
    | 2, _ => exact ⟨10, by decide, by decide, by decide +kernel⟩
    | 3, _ => exact ⟨0, by decide, by decide, by decide +kernel⟩
    | 4, _ => exact ⟨0, by decide, by decide, by decide +kernel⟩
    | n + 5, h => omega
  · rw [s_D0t]
    exact ⟨by decide, fun m hm => absurd hm List.not_mem_nil, Or.inl rfl⟩
theorem s_r1 : ∀ i, i < 8 → ∀ k, k < 7 → IF 96 (12 + 7 * i + k) = IF (1 + 9 + 2 * i) k := by decide +kernel
theorem s_r2 : ∀ p, p < 8 → IF 96 (68 + p) = IF (1 + 2) p := by decide +kernel
theorem s_r3 : ∀ k, k < 5 → IF 96 (5 + k) = IF (1 + 3) k := by decide +kernel
theorem s_r4 : ∀ k, k < 5 → IF 96 k = IF 1 (k + 5) := by decide +kernel
theorem s_r5 : IF 96 10 = IF 1 4 := by decide +kernel
theorem s_D0m : RR IF 96 s_D0 := by
  refine ⟨?_, by decide +kernel⟩
  unfold vR s_D0 vD
  refine Prod.ext ?_ (Prod.ext ?_ (Prod.ext ?_ (Prod.ext ?_ ?_)))
  · funext i k
    show (if i < 8 ∧ k < 7 then _ else _) = (if i < 8 ∧ k < 7 then _ else _)
    by_cases h : i < 8 ∧ k < 7
    · rw [if_pos h, if_pos h]
      exact s_r1 i h.1 k h.2
    · rw [if_neg h, if_neg h]
  · funext p
    show (if p < 8 then _ else _) = (if p < 8 then _ else _)
    by_cases h : p < 8
    · rw [if_pos h, if_pos h]
      exact s_r2 p h
    · rw [if_neg h, if_neg h]
  · funext p
    show (if p < 5 then _ else _) = (if p < 5 then _ else _)
    by_cases h : p < 5
    · rw [if_pos h, if_pos h]
      exact s_r3 p h
    · rw [if_neg h, if_neg h]
  · funext k
    show (if k = 5 then _ else if k < 5 then _ else _) = (if k = 5 then _ else if k < 5 then _ else _)
    by_cases h5 : k = 5
    · rw [if_pos h5, if_pos h5]
      exact s_r5
    · rw [if_neg h5, if_neg h5]
      by_cases h : k < 5
      · rw [if_pos h, if_pos h]
        exact s_r4 k h
      · rw [if_neg h, if_neg h]
  · decide +kernel
def s_S0 : St := (s_D0, none, fun _ => 0, [], fun _ => 0, fun _ => 0, fun _ _ => 0)
theorem s_S0w : WFx s_S0 :=
  ⟨⟨s_D0w, (fun D h => by cases h), ⟨Nat.zero_le _, fun x hx => absurd hx List.not_mem_nil⟩, fun s _ => ⟨Or.inl rfl, 0, by decide, by decide, rfl⟩⟩, ⟨0, by decide, by decide, by decide +kernel⟩, (fun D h => by cases h)⟩
theorem s_c1 : ∀ k, k < 7 → IF 94 k = 0 := by decide +kernel
theorem s_c2 : ∀ s, s < 4 → IF 92 s = 0 := by decide +kernel
theorem s_c3 : ∀ s, s < 4 → IF 93 s = 0 := by decide +kernel
theorem s_m1 : ∀ k, k < 7 → IF 99 k = 0 := by decide +kernel
theorem s_m2 : ∀ s, s < 4 → IF 109 s = 0 := by decide +kernel
theorem s_m3 : ∀ s, s < 4 → IF 110 s = 0 := by decide +kernel
theorem s_S0c : RepC IF (fun _ _ => 0) s_S0 :=
  ⟨⟨rfl, by decide +kernel, fun j hj => absurd (show j < s_D0.2.2.2.2.length from hj) (by rw [s_D0t]; exact Nat.not_lt_zero _)⟩, (by decide +kernel : IF 0 7 = 0), s_c1, ⟨by decide +kernel, fun j x h => by cases h⟩, fun s hs => ⟨s_c2 s hs, s_c3 s hs, fun j _ => rfl⟩⟩
theorem s_S0m : RepM IF (fun _ _ => 0) s_S0 :=
  ⟨s_D0m, (by decide +kernel : IF 95 3 = 0), ⟨s_m1, by decide +kernel⟩, ⟨by decide +kernel, fun j x h => by cases h⟩, fun s hs => ⟨s_m2 s hs, s_m3 s hs, fun j _ => rfl⟩⟩
/-- the law's body, from its entry to its end with 1 -/
theorem law_all (hL : G.2.2.2.2.2.2 ≤ 384) (hmc : 600000 ≤ mc) (hms : 7302250 ≤ ms) : WW G (d + 62) mt_L_law 0 [some (.ref (4 + 1000)), none, none, none] [] [] (fun _ _ => none) (fun _ _ => 0) (fun _ _ => 0) 0 0 mc ms (fun v _ _ _ _ => v = some (.int 1)) := by
  refine law_make hmc hms ?_
  refine r_ic f_L_law_16 ?_
  refine r_ist3 f_L_law_17 rfl ?_
  exact law_loop hL (by omega) (by omega) (fun _ _ => rfl) (G.2.2.2.2.2.2 + 1) 0 s_S0 IF (fun _ _ => 0) (by omega) (by omega) s_S0w s_S0c s_S0m
end L70
