/-! THE WHOLE STATE: now, kept, findings, tape, widths, sizes, numbers of the sheets -/
abbrev St : Type := Dst × Option Dst × (Nat → Int32) × List Int32 × (Nat → Int32) × (Nat → Int32) × (Nat → Nat → Int64)
def zN (σ : St) (D : Dst) : St := (D, σ.2)
def zK (σ : St) (k : Option Dst) : St := (σ.1, k, σ.2.2)
def zF (σ : St) (k : Nat) : St := (σ.1, σ.2.1, fun j => if j = k then σ.2.2.1 k + 1 else σ.2.2.1 j, σ.2.2.2)
def zT (σ : St) (t : List Int32) : St := (σ.1, σ.2.1, σ.2.2.1, t, σ.2.2.2.2)
def zS (σ : St) (w z : Nat → Int32) (c : Nat → Nat → Int64) : St := (σ.1, σ.2.1, σ.2.2.1, σ.2.2.2.1, w, z, c)
def fnd (σ : St) (x : Int32) (k : Nat) : Int32 × St := (x, zF σ k)
def RepC (I : Rn) (L : Rl) (σ : St) : Prop :=
  RD I 1 σ.1 ∧ (match σ.2.1 with
    | none => I 0 7 = 0
    | some D => I 0 7 = 1 ∧ RD I 26 D) ∧ (∀ k, k < 7 → I 94 k = σ.2.2.1 k) ∧ (I 81 2 = nI σ.2.2.2.1.length ∧ ∀ (j : Nat) (x : Int32), σ.2.2.2.1[j]? = some x → I 82 j = x) ∧
  (∀ s, s < 4 → I 92 s = σ.2.2.2.2.1 s ∧ I 93 s = σ.2.2.2.2.2.1 s ∧ ∀ j, j < 40 → L (88 + s) j = σ.2.2.2.2.2.2 s j)
def WFs (σ : St) : Prop := WFd σ.1 ∧ (∀ D, σ.2.1 = some D → WFd D) ∧ (σ.2.2.2.1.length ≤ 60 ∧ ∀ x ∈ σ.2.2.2.1, q_le x 0 255) ∧ ∀ s, s < 4 → (σ.2.2.2.2.1 s = 0 ∨ σ.2.2.2.2.1 s = 8 ∨ σ.2.2.2.2.1 s = 16 ∨ σ.2.2.2.2.1 s = 64) ∧ q_le (σ.2.2.2.2.2.1 s) 0 40
def q_hi (I I' : Rn) (L L' : Rl) : Prop := ∀ x y, 95 ≤ x → I' x y = I x y ∧ L' x y = L x y
theorem q_hi.rf {I : Rn} {L : Rl} : q_hi I I L L := fun _ _ _ => ⟨rfl, rfl⟩
/-- what a caller of the class waits for: an answer and the state behind it -/
def CK (K : Kt) (I : Rn) (L : Rl) (r : Int32 × St) : Prop := ∀ I' L', RepC I' L' r.2 → q_hi I I' L L' → K (some (.int r.1)) SH RF I' L'
def CKl (K : Kt) (I : Rn) (L : Rl) (r : Int64 × St) : Prop := ∀ I' L', RepC I' L' r.2 → q_hi I I' L L' → K (some (.long r.1)) SH RF I' L'
/-- the places that a state's parts but the present ditch stand in -/
def q_obs (x y : Nat) : Prop := (x = 0 ∧ y = 7) ∨ (26 ≤ x ∧ x < 51) ∨ x = 94 ∨ (x = 81 ∧ y = 2) ∨ x = 82 ∨ x = 92 ∨ x = 93
section L31
variable {G : Gx} {d : Nat} {I I' I0 : Rn} {L : Rl} {K : Kt} {D : Dst} {σ : St} {Me : Nat → Nat → Int32}
theorem RD.rows {b : Nat} (h : RD I b D) (e : ∀ x y, b ≤ x → x < b + 25 → I' x y = I x y) : RD I' b D :=
  h.eqs (fun i k hi => e _ _ (by omega) (by omega)) (fun p => e _ _ (by omega) (by omega)) (fun p => e _ _ (by omega) (by omega)) (fun p => e _ _ (by omega) (by omega)) (e _ _ (by omega) (by omega)) (fun p => e _ _ (by omega) (by omega))
theorem RepC.now (h : RepC I L σ) (hR : RD I' 1 D) (e : ∀ x y, q_obs x y → I' x y = I x y) : RepC I' L (zN σ D) := by
  obtain ⟨h1, h2, h3, h4, h5⟩ := h
  refine ⟨hR, ?_, fun k hk => ?_, ⟨?_, fun j x hx => ?_⟩, fun s hs => ?_⟩
  · show (match σ.2.1 with
      | none => I' 0 7 = 0
      | some D => I' 0 7 = 1 ∧ RD I' 26 D)
    cases hk : σ.2.1 with
    | none =>
      rw [hk] at h2
      exact (e 0 7 (by unfold q_obs; omega)).trans h2
    | some E =>
      rw [hk] at h2
      exact ⟨(e 0 7 (by unfold q_obs; omega)).trans h2.1, h2.2.rows (fun x y a1 a2 => e x y (by unfold q_obs; omega))⟩
  · rw [e 94 k (by unfold q_obs; omega)]
    exact h3 k hk
  · rw [e 81 2 (by unfold q_obs; omega)]
    exact h4.1
  · rw [e 82 j (by unfold q_obs; omega)]
    exact h4.2 j x hx
  · rw [e 92 s (by unfold q_obs; omega), e 93 s (by unfold q_obs; omega)]
    exact h5 s hs
theorem zN_self (σ : St) : zN σ σ.1 = σ := rfl
/-- nothing that counts has changed -/
theorem RepC.same (h : RepC I L σ) (hR : RD I' 1 σ.1) (e : ∀ x y, q_obs x y → I' x y = I x y) : RepC I' L σ := h.now hR e
theorem RepC.ofPD (h : RepC I L σ) (hP : PD I I' 1 D Me) : RepC I' L (zN σ D) := h.now hP.1 (fun x y q => hP.2.2 x y (by unfold q_obs at q; omega))
theorem PD.hi (hP : PD I I' 1 D Me) : q_hi I I' L L := fun x y hx => ⟨hP.2.2 x y (by omega), rfl⟩
theorem RepC.ofT (h : RepC I L σ) (hg : q_ag (FT 5) I I') : RepC I' L σ := h.same (RD.ag q_D1 h.1 hg) (fun x y q => hg x y (by unfold q_obs at q; unfold FT; omega))
theorem q_hi.ofT (hg : q_ag (FT 5) I I') : q_hi I I' L L := fun x y hx => ⟨hg x y (by unfold FT; omega), rfl⟩
theorem RepC.fndU {k : Nat} (h : RepC I L σ) (hk : k < 7) : RepC (u2 I 94 k (σ.2.2.1 k + 1)) L (zF σ k) := by
  obtain ⟨h1, h2, h3, h4, h5⟩ := h
  have e : ∀ x y, x ≠ 94 → u2 I 94 k (σ.2.2.1 k + 1) x y = I x y := fun x y hx => u2_ne (Or.inl hx)
  refine ⟨h1.rows (fun x y a1 a2 => e x y (by omega)), ?_, fun j hj => ?_, ⟨?_, fun j x hx => ?_⟩, fun s hs => ?_⟩
  · show (match σ.2.1 with
      | none => u2 I 94 k (σ.2.2.1 k + 1) 0 7 = 0
      | some D => u2 I 94 k (σ.2.2.1 k + 1) 0 7 = 1 ∧ RD (u2 I 94 k (σ.2.2.1 k + 1)) 26 D)
    cases hk : σ.2.1 with
    | none =>
      rw [hk] at h2
      exact (e 0 7 (by omega)).trans h2
    | some E =>
      rw [hk] at h2
      exact ⟨(e 0 7 (by omega)).trans h2.1, h2.2.rows (fun x y a1 a2 => e x y (by omega))⟩
  · show u2 I 94 k (σ.2.2.1 k + 1) 94 j = if j = k then σ.2.2.1 k + 1 else σ.2.2.1 j
    by_cases ej : j = k
    · subst ej
      rw [u2_self, if_pos rfl]
    · rw [u2_ne (Or.inr ej), if_neg ej]
      exact h3 j hj
  · rw [e 81 2 (by omega)]
    exact h4.1
  · rw [e 82 j (by omega)]
    exact h4.2 j x hx
  · rw [e 92 s (by omega), e 93 s (by omega)]
    exact h5 s hs
theorem RepC.cnt (h : RepC I L σ) (hW : WFs σ) : I 1 4 = nI (dC σ.1) := h.1.cnt hW.1
theorem p_D_hasFarm {b c : Nat} {x : Int32} (hb : q_D b) (hc : I b 4 = nI c) (hc8 : c ≤ 8) (h1 : (0 ≤ x ∧ x ≤ nI c - 1) → ∀ k, k < c → x = nI k → K (some (.int 1)) SH RF I L) (h0 : ¬ (0 ≤ x ∧ x ≤ nI c - 1) → K (some (.int 0)) SH RF I L) : WW G (d + 1) mt_D_hasFarm 0 [some (.ref b), some (.int x)] [] SH RF I L 0 0 0 0 K := by
  refine k_D_hasFarm hb hc hc8 (fun k hk e => ?_) (fun h => ?_)
  · by_cases hq : 0 ≤ x ∧ x ≤ nI c - 1
    · exact h1 hq k hk e
    · exact absurd e (q_notC (by omega) hq k hk)
  · refine h0 (fun q => ?_)
    obtain ⟨k, a1, a2⟩ := q_inC (by omega) q.1 q.2
    exact h k a1 a2
end L31
