/-! THE MATHEMATICAL STATE, and how the class's cells and the model's hold it -/
/-- a ditch: farms' parts, the order, the rule, numbers (0 year, 1 dry, 2 z, 3 taken, 4 seen, 5 how many farms), the text's signs -/
abbrev Dst : Type := (Nat → Nat → Int32) × (Nat → Int32) × (Nat → Int32) × (Nat → Int32) × List Int32
def q_le (x : Int32) (lo hi : Nat) : Prop := ∃ n : Nat, lo ≤ n ∧ n ≤ hi ∧ x = nI n
def vD (I : Rn) (b : Nat) : Dst :=
  (fun i k => if i < 8 ∧ k < 7 then I (b + 9 + 2 * i) k else 0, fun p => if p < 8 then I (b + 2) p else 0, fun k => if k < 5 then I (b + 3) k else 0,
   fun k => if k = 5 then I b 4 else if k < 5 then I b (k + 5) else 0, (List.range (I (b + 4) 3).toNatClampNeg).map (fun j => q_tr (I (b + 5) j)))
def vR (I : Rn) (a : Nat) : Dst :=
  (fun i k => if i < 8 ∧ k < 7 then I a (12 + 7 * i + k) else 0, fun p => if p < 8 then I a (68 + p) else 0, fun k => if k < 5 then I a (5 + k) else 0,
   fun k => if k = 5 then I a 10 else if k < 5 then I a k else 0, (List.range (I a 11).toNatClampNeg).map (fun j => I a (76 + j)))
/-- how many a sign takes off the stack, and whether it is one -/
def sp_need (m : Int32) : Nat := if m < 10100 then 0 else if m = 10105 then 1 else if m = 10104 then 4 else 2
def q_dep (tx : List Int32) (n : Nat) : Option Nat := match tx with
  | [] => some n
  | m :: r => if sp_need m ≤ n then q_dep r (n + 1 - sp_need m) else none
def q_sign (m : Int32) : Prop := q_le m 0 9999 ∨ q_le m 10000 10005 ∨ q_le m 10100 10105
def WFt (tx : List Int32) : Prop := tx.length ≤ 60 ∧ (∀ m ∈ tx, q_sign m) ∧ (tx = [] ∨ q_dep tx 0 = some 1)
def dC (D : Dst) : Nat := (D.2.2.2.1 5).toNatClampNeg
def dO (D : Dst) (p : Nat) : Nat := (D.2.1 p).toNatClampNeg
def q_fmax (k : Nat) : Nat := ([5, 24, 999, 999, 100, 0, 9] : List Nat).getD k 0
def q_umax (k : Nat) : Nat := ([99999, 100, 999, 200, 100] : List Nat).getD k 0
def WFd (D : Dst) : Prop :=
  (dC D ≤ 8 ∧ D.2.2.2.1 5 = nI (dC D)) ∧ (∀ p, p < dC D → dO D p < dC D ∧ D.2.1 p = nI (dO D p)) ∧ (∀ k, k < dC D → ∃ p, p < dC D ∧ dO D p = k) ∧
  (∀ f k, f < dC D → k < 7 → k ≠ 5 → q_le (D.1 f k) (if k = 1 then 1 else 0) (q_fmax k)) ∧ (∀ k, k < 5 → q_le (D.2.2.1 k) 0 (q_umax k)) ∧
  q_le (D.2.2.2.1 1) 1 9 ∧ q_le (D.2.2.2.1 0) 0 99 ∧ WFt D.2.2.2.2
/-! what a text gives -/
def sp_fact (D : Dst) (f p : Nat) (n : Int32) : Int32 := if n = 0 then D.2.2.2.1 1 else if n = 1 then D.2.2.2.1 0 else if n = 2 then D.1 f 1 else if n = 3 then nI f else if n = 4 then D.2.2.2.1 5 else nI p
def sp_step (fc : Int32 → Int32) (m : Int32) (st : List Int32) : List Int32 :=
  if m < 10100 then (if m < 10000 then m else fc (m - 10000)) :: st
  else if m = 10105 then (match st with
    | x :: r => -x :: r
    | [] => [])
  else if m = 10104 then (match st with
    | e :: t :: r :: l :: s => (if l < r then t else e) :: s
    | _ => [])
  else (match st with
    | y :: x :: s => sp_done m x y :: s
    | _ => [])
def sp_run (fc : Int32 → Int32) (tx : List Int32) (st : List Int32) : List Int32 := tx.foldl (fun s m => sp_step fc m s) st
def sp_gives (D : Dst) (f p : Nat) : Int32 := if D.2.2.2.2 = [] then 100 else (sp_run (sp_fact D f p) D.2.2.2.2 []).headD 0
theorem sp_step_len {fc : Int32 → Int32} {m : Int32} {st : List Int32} (h : sp_need m ≤ st.length) : (sp_step fc m st).length = st.length + 1 - sp_need m := by
  unfold sp_need at h ⊢
  unfold sp_step
  by_cases h1 : m < 10100
  · simp only [if_pos h1] at h ⊢
    rfl
  · simp only [if_neg h1] at h ⊢
    by_cases h2 : m = 10105
    · simp only [if_pos h2] at h ⊢
      match st, h with
      | x :: r, _ => rfl
    · simp only [if_neg h2] at h ⊢
      by_cases h3 : m = 10104
      · simp only [if_pos h3] at h ⊢
        match st, h with
        | e :: t :: r :: l :: s, _ => simp
      · simp only [if_neg h3] at h ⊢
        match st, h with
        | y :: x :: s, _ => simp
theorem nI_cl {x : Int32} {n : Nat} (h : x = nI n) (hn : n < 2 ^ 31) : x.toNatClampNeg = n := by rw [h]; exact nI_clamp hn
