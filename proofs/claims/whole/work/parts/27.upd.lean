/-! changes of a ditch, in the mathematical state and in the class's cells -/
def eF (D : Dst) (f k : Nat) (v : Int32) : Dst := (u2 D.1 f k v, D.2)
def eO (D : Dst) (p : Nat) (v : Int32) : Dst := (D.1, fun q => if q = p then v else D.2.1 q, D.2.2)
def eU (D : Dst) (k : Nat) (v : Int32) : Dst := (D.1, D.2.1, fun q => if q = k then v else D.2.2.1 q, D.2.2.2)
def eS (D : Dst) (k : Nat) (v : Int32) : Dst := (D.1, D.2.1, D.2.2.1, fun q => if q = k then v else D.2.2.2.1 q, D.2.2.2.2)
def eX (D : Dst) (tx : List Int32) : Dst := (D.1, D.2.1, D.2.2.1, D.2.2.2.1, tx)
section L27
variable {G : Gx} {d : Nat} {M : Mt} {pc nx : Nat} {ls : List (Option Value)} {st : List Value} {I I0 : Rn} {L : Rl} {ce sl mc ms : Nat} {K : Kt} {b : Nat} {D : Dst} {Me : Nat → Nat → Int32}
theorem RD.toF {f k : Nat} {v : Int32} (h : RD I b D) (hf : f < 8) (hk : k < 7) : RD (u2 I (b + 9 + 2 * f) k v) b (eF D f k v) := by
  refine ⟨?_, ?_, fun j hj => ?_⟩
  · rw [← h.1]
    unfold vD eF
    have e2 : ∀ p, u2 I (b + 9 + 2 * f) k v (b + 2) p = I (b + 2) p := fun p => u2_ne (Or.inl (by omega))
    have e3 : ∀ p, u2 I (b + 9 + 2 * f) k v (b + 3) p = I (b + 3) p := fun p => u2_ne (Or.inl (by omega))
    have e4 : ∀ p, u2 I (b + 9 + 2 * f) k v b p = I b p := fun p => u2_ne (Or.inl (by omega))
    have e5 : ∀ p, u2 I (b + 9 + 2 * f) k v (b + 4) p = I (b + 4) p := fun p => u2_ne (Or.inl (by omega))
    have e6 : ∀ p, u2 I (b + 9 + 2 * f) k v (b + 5) p = I (b + 5) p := fun p => u2_ne (Or.inl (by omega))
    simp only [e2, e3, e4, e5, e6]
    congr 1
    funext i j
    by_cases hi : i < 8 ∧ j < 7
    · rw [if_pos hi]
      by_cases e : i = f ∧ j = k
      · obtain ⟨rfl, rfl⟩ := e
        rw [u2_self, u2_self]
      · rw [u2_ne (by omega), u2_ne (by omega), if_pos hi]
    · rw [if_neg hi, u2_ne (by omega), if_neg hi]
  · rw [u2_ne (Or.inl (by omega))]
    exact h.2.1
  · rw [u2_ne (Or.inl (by omega))]
    exact h.2.2 j hj
theorem RD.toO {p : Nat} {v : Int32} (h : RD I b D) (hp : p < 8) : RD (u2 I (b + 2) p v) b (eO D p v) := by
  refine ⟨?_, ?_, fun j hj => ?_⟩
  · rw [← h.1]
    unfold vD eO
    have e1 : ∀ i k, u2 I (b + 2) p v (b + 9 + 2 * i) k = I (b + 9 + 2 * i) k := fun i k => u2_ne (Or.inl (by omega))
    have e3 : ∀ q, u2 I (b + 2) p v (b + 3) q = I (b + 3) q := fun q => u2_ne (Or.inl (by omega))
    have e4 : ∀ q, u2 I (b + 2) p v b q = I b q := fun q => u2_ne (Or.inl (by omega))
    have e5 : ∀ q, u2 I (b + 2) p v (b + 4) q = I (b + 4) q := fun q => u2_ne (Or.inl (by omega))
    have e6 : ∀ q, u2 I (b + 2) p v (b + 5) q = I (b + 5) q := fun q => u2_ne (Or.inl (by omega))
    simp only [e1, e3, e4, e5, e6]
    congr 2
    funext q
    by_cases e : q = p
    · subst e
      rw [if_pos hp, if_pos rfl, u2_self]
    · rw [if_neg e, u2_ne (Or.inr e)]
  · rw [u2_ne (Or.inl (by omega))]
    exact h.2.1
  · rw [u2_ne (Or.inl (by omega))]
    exact h.2.2 j hj
theorem RD.toU {k : Nat} {v : Int32} (h : RD I b D) (hk : k < 5) : RD (u2 I (b + 3) k v) b (eU D k v) := by
  refine ⟨?_, ?_, fun j hj => ?_⟩
  · rw [← h.1]
    unfold vD eU
    have e1 : ∀ i q, u2 I (b + 3) k v (b + 9 + 2 * i) q = I (b + 9 + 2 * i) q := fun i q => u2_ne (Or.inl (by omega))
    have e3 : ∀ q, u2 I (b + 3) k v (b + 2) q = I (b + 2) q := fun q => u2_ne (Or.inl (by omega))
    have e4 : ∀ q, u2 I (b + 3) k v b q = I b q := fun q => u2_ne (Or.inl (by omega))
    have e5 : ∀ q, u2 I (b + 3) k v (b + 4) q = I (b + 4) q := fun q => u2_ne (Or.inl (by omega))
    have e6 : ∀ q, u2 I (b + 3) k v (b + 5) q = I (b + 5) q := fun q => u2_ne (Or.inl (by omega))
    simp only [e1, e3, e4, e5, e6]
    congr 3
    funext q
    by_cases e : q = k
    · subst e
      rw [if_pos hk, if_pos rfl, u2_self]
    · rw [if_neg e, u2_ne (Or.inr e)]
  · rw [u2_ne (Or.inl (by omega))]
    exact h.2.1
  · rw [u2_ne (Or.inl (by omega))]
    exact h.2.2 j hj
/-- the place of a number among the ditch's fields -/
def q_sj (k : Nat) : Nat := if k = 5 then 4 else k + 5
theorem RD.toS {k : Nat} {v : Int32} (h : RD I b D) (hk : k ≤ 5) : RD (u2 I b (q_sj k) v) b (eS D k v) := by
  refine ⟨?_, ?_, fun j hj => ?_⟩
  · rw [← h.1]
    unfold vD eS
    have e1 : ∀ i q, u2 I b (q_sj k) v (b + 9 + 2 * i) q = I (b + 9 + 2 * i) q := fun i q => u2_ne (Or.inl (by omega))
    have e3 : ∀ q, u2 I b (q_sj k) v (b + 2) q = I (b + 2) q := fun q => u2_ne (Or.inl (by omega))
    have e4 : ∀ q, u2 I b (q_sj k) v (b + 3) q = I (b + 3) q := fun q => u2_ne (Or.inl (by omega))
    have e5 : ∀ q, u2 I b (q_sj k) v (b + 4) q = I (b + 4) q := fun q => u2_ne (Or.inl (by omega))
    have e6 : ∀ q, u2 I b (q_sj k) v (b + 5) q = I (b + 5) q := fun q => u2_ne (Or.inl (by omega))
    simp only [e1, e3, e4, e5, e6]
    congr 4
    funext q
    unfold q_sj
    by_cases e : q = k
    · subst e
      rw [if_pos rfl]
      by_cases e5 : q = 5
      · rw [if_pos e5, if_pos e5, u2_self]
      · rw [if_neg e5, if_neg e5, if_pos (by omega), u2_self]
    · rw [if_neg e]
      by_cases e5 : q = 5
      · rw [if_pos e5, if_pos e5, if_neg (by omega), u2_ne (Or.inr (by omega))]
      · rw [if_neg e5, if_neg e5]
        by_cases e6 : q < 5
        · rw [if_pos e6, if_pos e6]
          by_cases e7 : k = 5
          · rw [if_pos e7, u2_ne (Or.inr (by omega))]
          · rw [if_neg e7, u2_ne (Or.inr (by omega))]
        · rw [if_neg e6, if_neg e6]
  · rw [u2_ne (Or.inl (by omega))]
    exact h.2.1
  · rw [u2_ne (Or.inl (by omega))]
    exact h.2.2 j hj
/-- the class's ditch b holds D, its meets hold Me, and nothing outside of it has changed since I0 -/
def PD (I0 I : Rn) (b : Nat) (D : Dst) (Me : Nat → Nat → Int32) : Prop := RD I b D ∧ (∀ i k, i < 8 → I (b + 10 + 2 * i) k = Me i k) ∧ ∀ x y, (x < b ∨ b + 25 ≤ x) → I x y = I0 x y
theorem PD.f {f k : Nat} (h : PD I0 I b D Me) (hf : f < 8) (hk : k < 7) : I (b + 9 + 2 * f) k = D.1 f k := by rw [← h.1.1]; exact (vD_f hf hk).symm
theorem PD.o {p : Nat} (h : PD I0 I b D Me) (hp : p < 8) : I (b + 2) p = D.2.1 p := by rw [← h.1.1]; exact (vD_o hp).symm
theorem PD.u {k : Nat} (h : PD I0 I b D Me) (hk : k < 5) : I (b + 3) k = D.2.2.1 k := by rw [← h.1.1]; exact (vD_u hk).symm
theorem PD.s {k : Nat} (h : PD I0 I b D Me) (hk : k ≤ 5) : I b (q_sj k) = D.2.2.2.1 k := by
  rw [← h.1.1]
  unfold vD q_sj
  dsimp only
  by_cases e : k = 5
  · rw [if_pos e, if_pos e]
  · rw [if_neg e, if_neg e, if_pos (by omega)]
theorem PD.toF {f k : Nat} {v : Int32} (h : PD I0 I b D Me) (hf : f < 8) (hk : k < 7) : PD I0 (u2 I (b + 9 + 2 * f) k v) b (eF D f k v) Me :=
  ⟨h.1.toF hf hk, fun i j hi => by rw [u2_ne (Or.inl (by omega))]; exact h.2.1 i j hi, fun x y hx => by rw [u2_ne (Or.inl (by omega))]; exact h.2.2 x y hx⟩
theorem PD.toO {p : Nat} {v : Int32} (h : PD I0 I b D Me) (hp : p < 8) : PD I0 (u2 I (b + 2) p v) b (eO D p v) Me :=
  ⟨h.1.toO hp, fun i j hi => by rw [u2_ne (Or.inl (by omega))]; exact h.2.1 i j hi, fun x y hx => by rw [u2_ne (Or.inl (by omega))]; exact h.2.2 x y hx⟩
theorem PD.toU {k : Nat} {v : Int32} (h : PD I0 I b D Me) (hk : k < 5) : PD I0 (u2 I (b + 3) k v) b (eU D k v) Me :=
  ⟨h.1.toU hk, fun i j hi => by rw [u2_ne (Or.inl (by omega))]; exact h.2.1 i j hi, fun x y hx => by rw [u2_ne (Or.inl (by omega))]; exact h.2.2 x y hx⟩
theorem PD.toS {k : Nat} {v : Int32} (h : PD I0 I b D Me) (hk : k ≤ 5) : PD I0 (u2 I b (q_sj k) v) b (eS D k v) Me :=
  ⟨h.1.toS hk, fun i j hi => by rw [u2_ne (Or.inl (by omega))]; exact h.2.1 i j hi, fun x y hx => by rw [u2_ne (Or.inl (by omega))]; exact h.2.2 x y hx⟩
/-- stores into a ditch, said in the mathematical state -/
theorem r_pF {f k : Nat} {x : Int32} (hd : Fp M pc 1 7 k .int 0 nx) (hb : q_D b) (hf : f < 8) (hk : k < 7) (hP : PD I0 I b D Me) (kk : ∀ I', PD I0 I' b (eF D f k x) Me → WW G d M nx ls st SH RF I' L ce sl mc ms K) : WW G d M pc ls (.int x :: .ref (b + 9 + 2 * f) :: st) SH RF I L ce sl mc ms K := r_pi hd (sDF hb hf) (kk _ (hP.toF hf hk))
theorem r_pS {j k : Nat} {x : Int32} (hd : Fp M pc 0 12 j .int 0 nx) (hb : q_D b) (hk : k ≤ 5) (hj : q_sj k = j) (hP : PD I0 I b D Me) (kk : ∀ I', PD I0 I' b (eS D k x) Me → WW G d M nx ls st SH RF I' L ce sl mc ms K) : WW G d M pc ls (.int x :: .ref b :: st) SH RF I L ce sl mc ms K := r_pi hd (sD hb) (kk _ (by subst hj; exact hP.toS hk))
theorem r_pU {k : Nat} {i x : Int32} (hd : Ft M pc .iastore 1 nx) (hb : q_D b) (hi : q_ix i k 5) (hP : PD I0 I b D Me) (kk : ∀ I', PD I0 I' b (eU D k x) Me → WW G d M nx ls st SH RF I' L ce sl mc ms K) : WW G d M pc ls (.int x :: .int i :: .ref (b + 3) :: st) SH RF I L ce sl mc ms K := r_iast hd (sD3 hb) hi (kk _ (hP.toU hi.2))
theorem r_pO {k : Nat} {i x : Int32} (hd : Ft M pc .iastore 1 nx) (hb : q_D b) (hi : q_ix i k 8) (hP : PD I0 I b D Me) (kk : ∀ I', PD I0 I' b (eO D k x) Me → WW G d M nx ls st SH RF I' L ce sl mc ms K) : WW G d M pc ls (.int x :: .int i :: .ref (b + 2) :: st) SH RF I L ce sl mc ms K := r_iast hd (sD2 hb) hi (kk _ (hP.toO hi.2))
theorem PD.rf (h : RD I b D) : PD I I b D (fun i k => I (b + 10 + 2 * i) k) := ⟨h, fun _ _ _ => rfl, fun _ _ _ => rfl⟩
/-- weighing, in these words -/
theorem PD.weigh {I' : Rn} (hb : q_D b) (hP : PD I0 I b D Me) (hg : q_ag (FW b) I I') : PD I0 I' b D (fun i k => I' (b + 10 + 2 * i) k) :=
  ⟨hP.1.agW hb hg, fun _ _ _ => rfl, fun x y hx => (hg x y (fun q => by
    rcases q with q | q | ⟨i, h1, h2⟩
    · unfold FT at q
      omega
    · omega
    · omega)).trans (hP.2.2 x y hx)⟩
end L27
