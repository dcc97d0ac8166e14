/-! THE TEXT'S READING, as the class does it: a place on the tape, what is laid down so far -/
abbrev Ps : Type := Nat × List Int32
def pN (t : List Int32) (a : Nat) : Int32 := (t[a]?).getD (-1)
theorem pN_lt {t : List Int32} {a : Nat} (h : ¬ pN t a = -1) : a < t.length := by
  refine Nat.lt_of_not_le (fun q => h ?_)
  unfold pN
  rw [List.getElem?_eq_none q]
  rfl
def p_num (t : List Int32) : Nat → Int32 → Nat → Int32 × Nat
  | 0, v, a => (v, a)
  | m + 1, v, a => if 48 ≤ pN t a ∧ pN t a ≤ 57 then p_num t m (v * 10 + pN t a - 48) (a + 1) else (v, a)
abbrev p_nam (x : Int32) : Prop := x = 100 ∨ x = 104 ∨ x = 105 ∨ x = 110 ∨ x = 111 ∨ x = 121
def p_add (c : Int32) (r : Bool × Ps) : Bool × Ps := (r.1, r.2.1, r.2.2 ++ [c])
def p_loop (t : List Int32) (x y : Int32) (f : Ps → Bool × Ps) : Nat → Bool × Ps → Bool × Ps
  | 0, r => r
  | m + 1, r => if r.1 = true ∧ (pN t r.2.1 = x ∨ pN t r.2.1 = y) then p_loop t x y f m (p_add (-(pN t r.2.1)) (f (r.2.1 + 1, r.2.2))) else r
def p_prod (t : List Int32) (f : Ps → Bool × Ps) (s : Ps) : Bool × Ps := p_loop t 42 47 f 60 (f s)
def p_sum (t : List Int32) (f : Ps → Bool × Ps) (s : Ps) : Bool × Ps := p_loop t 43 45 (p_prod t f) 60 (p_prod t f s)
def p_chain (t : List Int32) (g : Ps → Bool × Ps) : List Int32 → Ps → Bool × Ps
  | [], s => if pN t s.1 = 41 then (true, s.1 + 1, s.2) else (false, s)
  | x :: xs, s => if pN t s.1 = x then (if (g (s.1 + 1, s.2)).1 = true then p_chain t g xs (g (s.1 + 1, s.2)).2 else g (s.1 + 1, s.2)) else (false, s)
def p_br (t : List Int32) (g : Ps → Bool × Ps) (s : Ps) : Bool × Ps := if (g s).1 = true then (if pN t (g s).2.1 = 41 then (true, (g s).2.1 + 1, (g s).2.2) else p_add (-63) (p_chain t g [60, 63, 58] (g s).2)) else g s
def p_leaf (t : List Int32) (s : Ps) (e : Bool × Ps) : Bool × Ps := if 48 ≤ pN t s.1 ∧ pN t s.1 ≤ 57 then (true, (p_num t 4 0 s.1).2, s.2 ++ [(p_num t 4 0 s.1).1]) else if p_nam (pN t s.1) then (true, s.1 + 1, s.2 ++ [-(pN t s.1)]) else e
def p_fac (t : List Int32) : Nat → Ps → Bool × Ps
  | 0, s => p_leaf t s (false, s)
  | n + 1, s => p_leaf t s (if pN t s.1 = 45 then p_add (-126) (p_fac t n (s.1 + 1, s.2)) else if pN t s.1 = 40 then p_br t (p_sum t (p_fac t n)) (s.1 + 1, s.2) else (false, s))
/-- no more is laid down than is read -/
def p_gr (T : Nat) (s s' : Ps) : Prop := s'.2.length + s.1 ≤ s'.1 + s.2.length ∧ s'.1 ≤ T ∧ s.1 ≤ s'.1
def p_Gr (t : List Int32) (f : Ps → Bool × Ps) : Prop := ∀ s : Ps, s.1 ≤ t.length → p_gr t.length s (f s).2
section L38
variable {t : List Int32} {f g : Ps → Bool × Ps} {T : Nat} {s s' s2 : Ps}
theorem p_gr.rf (h : s.1 ≤ T) : p_gr T s s := ⟨by omega, h, Nat.le_refl _⟩
theorem p_gr.tr (h : p_gr T s s') (h2 : p_gr T s' s2) : p_gr T s s2 := by
  unfold p_gr at *
  omega
theorem p_gr.st {a : Nat} {l : List Int32} {s' : Ps} (h : p_gr T (a + 1, l) s') : p_gr T (a, l) s' ∧ p_gr T (a, l) (s'.1, s'.2 ++ [0]) := by
  unfold p_gr at *
  simp only [List.length_append, List.length_cons, List.length_nil] at *
  omega
theorem p_gr.ad {a : Nat} {l : List Int32} {r : Bool × Ps} {c : Int32} (h : p_gr T (a + 1, l) r.2) : p_gr T (a, l) (p_add c r).2 := by
  unfold p_gr p_add at *
  simp only [List.length_append, List.length_cons, List.length_nil] at *
  omega
theorem p_num_gr : ∀ (m : Nat) (v : Int32) (a : Nat), a ≤ t.length → a ≤ (p_num t m v a).2 ∧ (p_num t m v a).2 ≤ t.length
  | 0, v, a, h => ⟨Nat.le_refl _, h⟩
  | m + 1, v, a, h => by
    unfold p_num
    by_cases hc : 48 ≤ pN t a ∧ pN t a ≤ 57
    · rw [if_pos hc]
      have hl : a < t.length := pN_lt (fun q => by rw [q] at hc; exact absurd hc.1 (by decide))
      have := p_num_gr m (v * 10 + pN t a - 48) (a + 1) hl
      omega
    · rw [if_neg hc]
      exact ⟨Nat.le_refl _, h⟩
theorem p_num_gt {m : Nat} {v : Int32} {a : Nat} (hc : 48 ≤ pN t a ∧ pN t a ≤ 57) : a + 1 ≤ (p_num t (m + 1) v a).2 := by
  have hl : a < t.length := pN_lt (fun q => by rw [q] at hc; exact absurd hc.1 (by decide))
  unfold p_num
  rw [if_pos hc]
  exact (p_num_gr m (v * 10 + pN t a - 48) (a + 1) hl).1
theorem p_nam_ne {x : Int32} (h : p_nam x) : ¬ x = -1 := by
  rcases h with rfl | rfl | rfl | rfl | rfl | rfl <;> decide
theorem p_leaf_gr {e : Bool × Ps} (h : s.1 ≤ t.length) (he : p_gr t.length s e.2) : p_gr t.length s (p_leaf t s e).2 := by
  unfold p_leaf
  by_cases hc : 48 ≤ pN t s.1 ∧ pN t s.1 ≤ 57
  · rw [if_pos hc]
    have h1 : s.1 + 1 ≤ (p_num t 4 0 s.1).2 := p_num_gt (m := 3) (v := 0) hc
    have h2 := (p_num_gr (t := t) 4 0 s.1 h).2
    unfold p_gr
    simp only [List.length_append, List.length_cons, List.length_nil]
    omega
  · rw [if_neg hc]
    by_cases hn : p_nam (pN t s.1)
    · rw [if_pos hn]
      have hl := pN_lt (p_nam_ne hn)
      unfold p_gr
      simp only [List.length_append, List.length_cons, List.length_nil]
      omega
    · rw [if_neg hn]
      exact he
theorem p_loop_gr {x y : Int32} (hx : ¬ x = -1) (hy : ¬ y = -1) (hf : p_Gr t f) : ∀ (m : Nat) (r : Bool × Ps), r.2.1 ≤ t.length → p_gr t.length r.2 (p_loop t x y f m r).2
  | 0, r, h => p_gr.rf h
  | m + 1, r, h => by
    unfold p_loop
    by_cases hc : r.1 = true ∧ (pN t r.2.1 = x ∨ pN t r.2.1 = y)
    · rw [if_pos hc]
      have hl : r.2.1 < t.length := pN_lt (fun q => by rw [q] at hc; exact hc.2.elim (fun w => hx w.symm) (fun w => hy w.symm))
      have h1 : p_gr t.length r.2 (p_add (-(pN t r.2.1)) (f (r.2.1 + 1, r.2.2))).2 := p_gr.ad (hf (r.2.1 + 1, r.2.2) hl)
      exact h1.tr (p_loop_gr hx hy hf m _ h1.2.1)
    · rw [if_neg hc]
      exact p_gr.rf h
theorem p_prod_gr (hf : p_Gr t f) : p_Gr t (p_prod t f) := fun s h => (hf s h).tr (p_loop_gr (by decide) (by decide) hf 60 _ (hf s h).2.1)
theorem p_sum_gr (hf : p_Gr t f) : p_Gr t (p_sum t f) := fun s h => (p_prod_gr hf s h).tr (p_loop_gr (by decide) (by decide) (p_prod_gr hf) 60 _ (p_prod_gr hf s h).2.1)
theorem p_gr.one {a : Nat} {l : List Int32} (h : a < T) : p_gr T (a, l) (a + 1, l) := by
  unfold p_gr
  dsimp only
  omega
theorem p_chain_gr (hg : p_Gr t g) : ∀ (xs : List Int32), (∀ x ∈ xs, ¬ x = -1) → ∀ s : Ps, s.1 ≤ t.length → p_gr t.length s (p_chain t g xs s).2
  | [], _, s, h => by
    unfold p_chain
    by_cases hc : pN t s.1 = 41
    · rw [if_pos hc]
      exact p_gr.one (pN_lt (fun q => by rw [q] at hc; exact absurd hc (by decide)))
    · rw [if_neg hc]
      exact p_gr.rf h
  | x :: xs, hx, s, h => by
    unfold p_chain
    by_cases hc : pN t s.1 = x
    · rw [if_pos hc]
      have hl : s.1 < t.length := pN_lt (fun q => hx x (List.mem_cons_self ..) (hc.symm.trans q))
      have h1 : p_gr t.length s (g (s.1 + 1, s.2)).2 := (p_gr.one hl).tr (hg (s.1 + 1, s.2) hl)
      by_cases hr : (g (s.1 + 1, s.2)).1 = true
      · rw [if_pos hr]
        exact h1.tr (p_chain_gr hg xs (fun y hy => hx y (List.mem_cons_of_mem _ hy)) _ h1.2.1)
      · rw [if_neg hr]
        exact h1
    · rw [if_neg hc]
      exact p_gr.rf h
/-- the bracket's own byte pays for what is laid down behind it -/
theorem p_br_gr (hg : p_Gr t g) {a : Nat} {l : List Int32} (h : a < t.length) : p_gr t.length (a, l) (p_br t g (a + 1, l)).2 := by
  have h1 := hg (a + 1, l) h
  unfold p_br
  by_cases hr : (g (a + 1, l)).1 = true
  · rw [if_pos hr]
    by_cases hc : pN t (g (a + 1, l)).2.1 = 41
    · rw [if_pos hc]
      exact ((p_gr.one h).tr h1).tr (p_gr.one (pN_lt (fun q => by rw [q] at hc; exact absurd hc (by decide))))
    · rw [if_neg hc]
      exact p_gr.ad (h1.tr (p_chain_gr hg [60, 63, 58] (by decide) _ h1.2.1))
  · rw [if_neg hr]
    exact (p_gr.one h).tr h1
theorem p_fac_gr : ∀ n, p_Gr t (p_fac t n)
  | 0, s, h => p_leaf_gr h (p_gr.rf h)
  | n + 1, s, h => by
    unfold p_fac
    refine p_leaf_gr h ?_
    by_cases h1 : pN t s.1 = 45
    · rw [if_pos h1]
      exact p_gr.ad (p_fac_gr n (s.1 + 1, s.2) (pN_lt (fun q => by rw [q] at h1; exact absurd h1 (by decide))))
    · rw [if_neg h1]
      by_cases h2 : pN t s.1 = 40
      · rw [if_pos h2]
        exact p_br_gr (p_sum_gr (p_fac_gr n)) (pN_lt (fun q => by rw [q] at h2; exact absurd h2 (by decide)))
      · rw [if_neg h2]
        exact p_gr.rf h
end L38
