section L63
variable {t : List Int32} {Pw Pn : Mq → Prop} {Pf : Nat → Prop} {Pd : List Int32 → Prop} {f g : Ps → Bool × Ps}
abbrev q_ar (x : Int32) : Prop := x = 43 ∨ x = 45 ∨ x = 42 ∨ x = 47
def q_sg (b sg z : Int32) : Prop := (b = 43 ∧ sg = 10100 ∧ z = 10100) ∨ (b = 45 ∧ sg = 10101 ∧ z = 10100) ∨ (b = 42 ∧ sg = 10102 ∧ z = 10102) ∨ (b = 47 ∧ sg = 10103 ∧ z = 10102)
def q_md (b c : Int32) : Prop := (b = 60 ∧ c = 40) ∨ (b = 63 ∧ c = 60) ∨ (b = 58 ∧ c = 63)
/-- what a predicate over the machine's states must be closed under: its steps, backwards -/
def m_Cl (t : List Int32) (Pw Pn : Mq → Prop) (Pf : Nat → Prop) (Pd : List Int32 → Prop) : Prop :=
  ((∀ n W p e, n ≤ t.length → (48 ≤ pN t n ∧ pN t n ≤ 57) → Pn ((p_num t 4 0 n).2, m_ends W p (e ++ [(p_num t 4 0 n).1])) → Pw (n, W, p, e)) ∧
  (∀ n W p e, p_nam (pN t n) → Pn (n + 1, m_ends W p (e ++ [q_tr (-(pN t n))])) → Pw (n, W, p, e)) ∧
  (∀ n W p e z, ((pN t n = 40 ∧ z = 40) ∨ (pN t n = 45 ∧ z = 10105)) → p < 5 → Pw (n + 1, z :: W, p + 1, e) → Pw (n, W, p, e)) ∧
  (∀ n W p e, n ≤ t.length → ¬ (48 ≤ pN t n ∧ pN t n ≤ 57) → ¬ p_nam (pN t n) → ¬ ((pN t n = 40 ∨ pN t n = 45) ∧ p < 5) → Pf n → Pw (n, W, p, e))) ∧
  (∀ n W p e sg z, q_sg (pN t n) sg z → Pw (n + 1, sg :: (m_set z W e).1, p, (m_set z W e).2) → Pn (n, W, p, e)) ∧
  (∀ n W p e Wr er, pN t n = 41 → m_set 10100 W e = (40 :: Wr, er) → Pn (n + 1, m_ends Wr (p - 1) er) → Pn (n, W, p, e)) ∧
  (∀ n W p e Wr er, pN t n = 41 → m_set 10100 W e = (58 :: Wr, er) → Pn (n + 1, m_ends Wr (p - 1) (er ++ [10104])) → Pn (n, W, p, e)) ∧
  (∀ n W p e b c Wr er, pN t n = b → q_md b c → m_set 10100 W e = (c :: Wr, er) → Pw (n + 1, b :: Wr, p, er) → Pn (n, W, p, e)) ∧
  (∀ n W p e, n < t.length → ¬ q_ar (pN t n) → ¬ (pN t n = 41 ∧ ((m_set 10100 W e).1.headD (-1) = 40 ∨ (m_set 10100 W e).1.headD (-1) = 58)) → ¬ q_md (pN t n) ((m_set 10100 W e).1.headD (-1)) → Pf n → Pn (n, W, p, e)) ∧
  (∀ W p e, (m_set 10100 W e).1 ≠ [] → Pf t.length → Pn (t.length, W, p, e)) ∧
  (∀ W p e e', m_set 10100 W e = ([], e') → Pd e' → Pn (t.length, W, p, e))
theorem m_set_app {z : Int32} : ∀ (pend W e : List Int32), (∀ x ∈ pend, z ≤ x) → (∀ x, W.head? = some x → ¬ z ≤ x) → m_set z (pend ++ W) e = (W, e ++ pend)
  | [], [], e, _, _ => by simp [m_set]
  | [], x :: W, e, _, h => by
    rw [List.append_nil]
    exact if_neg (h x rfl)
  | x :: pend, W, e, h1, h2 => by
    show (if z ≤ x then m_set z (pend ++ W) (e ++ [x]) else _) = _
    rw [if_pos (h1 x List.mem_cons_self), m_set_app pend W (e ++ [x]) (fun y hy => h1 y (List.mem_cons_of_mem _ hy)) h2, List.append_assoc]
    rfl
theorem m_ends_id {W e : List Int32} {p : Int32} (h : ∀ x, W.head? = some x → x ≠ 10105) : m_ends W p e = (W, p, e) := by
  cases W with
  | nil => rfl
  | cons x W => exact if_neg (h x rfl)
theorem q_sg.tr {b sg z : Int32} (h : q_sg b sg z) : q_tr (-b) = sg ∧ sg ≠ 10105 ∧ 10100 ≤ sg := by
  rcases h with ⟨rfl, rfl, _⟩ | ⟨rfl, rfl, _⟩ | ⟨rfl, rfl, _⟩ | ⟨rfl, rfl, _⟩ <;> decide
/-- a factor is read in any surroundings -/
def q_FAC (t : List Int32) (Pw Pn : Mq → Prop) (Pf : Nat → Prop) (k : Nat) (f : Ps → Bool × Ps) : Prop :=
  ∀ (a : Nat) (cs : List Int32) (W : List Int32), a ≤ t.length → ((f (a, cs)).1 = true → Pn ((f (a, cs)).2.1, m_ends W (nI k) ((f (a, cs)).2.2.map q_tr)) → Pw (a, W, nI k, cs.map q_tr)) ∧ ((f (a, cs)).1 = false → Pf (f (a, cs)).2.1 → Pw (a, W, nI k, cs.map q_tr))
theorem p_loop_f {x y : Int32} {f : Ps → Bool × Ps} : ∀ (m : Nat) (r : Bool × Ps), r.1 = false → p_loop t x y f m r = r
  | 0, _, _ => rfl
  | m + 1, r, h => if_neg (fun q => by rw [h] at q; exact absurd q.1 (by decide))
/-- what is wanted behind a product, a sum: what still waits, told behind what is told, is what was read -/
def q_beh (t : List Int32) (Pn : Mq → Prop) (k : Nat) (z : Int32) (W : List Int32) (r : Ps) : Prop := ∀ (pend out : List Int32), (∀ x ∈ pend, z ≤ x) → out ++ pend = r.2.map q_tr → ¬ (pN t r.1 = 42 ∨ pN t r.1 = 47) → (z = 10100 → ¬ (pN t r.1 = 43 ∨ pN t r.1 = 45)) → Pn (r.1, pend ++ W, nI k, out)
theorem m_prod_loop {k : Nat} {Wp : List Int32} (hc : m_Cl t Pw Pn Pf Pd) (hf : q_FAC t Pw Pn Pf k f) (hg : p_Gr t f) (hW : ∀ x, Wp.head? = some x → ¬ 10102 ≤ x) : ∀ (m a : Nat) (cs pend out : List Int32), a ≤ t.length → t.length ≤ a + m → (∀ x ∈ pend, 10102 ≤ x) → out ++ pend = cs.map q_tr →
    ((p_loop t 42 47 f m (true, a, cs)).1 = true → q_beh t Pn k 10102 Wp (p_loop t 42 47 f m (true, a, cs)).2 → Pn (a, pend ++ Wp, nI k, out)) ∧ ((p_loop t 42 47 f m (true, a, cs)).1 = false → Pf (p_loop t 42 47 f m (true, a, cs)).2.1 → Pn (a, pend ++ Wp, nI k, out))
  | 0, a, cs, pend, out, ha, hm, hp, ho => by
    refine ⟨fun _ h => ?_, fun h => by cases h⟩
    have e : pN t a = -1 := pN_ge (by omega)
    exact h pend out hp ho (by rw [show (p_loop t 42 47 f 0 (true, a, cs)).2.1 = a from rfl, e]; decide) (fun q => absurd q (by decide))
  | m + 1, a, cs, pend, out, ha, hm, hp, ho => by
    by_cases hq : pN t a = 42 ∨ pN t a = 47
    · have hl : a < t.length := pN_lt (fun q => by rw [q] at hq; revert hq; decide)
      obtain ⟨sg, hs, hsg⟩ : ∃ sg, q_sg (pN t a) sg 10102 ∧ (sg = 10102 ∨ sg = 10103) := by
        rcases hq with q | q
        · exact ⟨10102, Or.inr (Or.inr (Or.inl ⟨q, rfl, rfl⟩)), Or.inl rfl⟩
        · exact ⟨10103, Or.inr (Or.inr (Or.inr ⟨q, rfl, rfl⟩)), Or.inr rfl⟩
      obtain ⟨s1, s2, _⟩ := hs.tr
      have e1 : p_loop t 42 47 f (m + 1) (true, a, cs) = p_loop t 42 47 f m (p_add (-(pN t a)) (f (a + 1, cs))) := if_pos ⟨rfl, hq⟩
      rw [e1]
      obtain ⟨F1, F2⟩ := hf (a + 1) cs (sg :: Wp) (by omega)
      have gr := hg (a + 1, cs) (by show a + 1 ≤ _; omega)
      have step : Pw (a + 1, sg :: Wp, nI k, cs.map q_tr) → Pn (a, pend ++ Wp, nI k, out) := fun h => by
        refine hc.2.1 a _ _ _ sg 10102 hs ?_
        rw [m_set_app pend Wp out hp hW, ho]
        exact h
      cases hr : (f (a + 1, cs)).1 with
      | false =>
        rw [p_loop_f m _ (show (p_add _ (f (a + 1, cs))).1 = false from hr)]
        refine ⟨fun h => ?_, fun _ h => step (F2 hr h)⟩
        rw [show (p_add (-(pN t a)) (f (a + 1, cs))).1 = (f (a + 1, cs)).1 from rfl, hr] at h
        cases h
      | true =>
        have e2 : p_add (-(pN t a)) (f (a + 1, cs)) = (true, (f (a + 1, cs)).2.1, (f (a + 1, cs)).2.2 ++ [-(pN t a)]) := by
          unfold p_add
          rw [hr]
        rw [e2]
        obtain ⟨A, B⟩ := m_prod_loop hc hf hg hW m (f (a + 1, cs)).2.1 ((f (a + 1, cs)).2.2 ++ [-(pN t a)]) [sg] ((f (a + 1, cs)).2.2.map q_tr) gr.2.1 (by have := gr.2.2; simp only at this; omega) (fun x hx => by rw [List.mem_singleton.mp hx]; rcases hsg with q | q <;> (rw [q]; decide)) (by rw [List.map_append, List.map_singleton, s1])
        have up : Pn ((f (a + 1, cs)).2.1, [sg] ++ Wp, nI k, (f (a + 1, cs)).2.2.map q_tr) → Pn (a, pend ++ Wp, nI k, out) := fun h => step (F1 hr (by
          rw [m_ends_id (fun x hx => by cases hx; exact s2)]
          exact h))
        exact ⟨fun h1 h2 => up (A h1 h2), fun h1 h2 => up (B h1 h2)⟩
    · have e1 : p_loop t 42 47 f (m + 1) (true, a, cs) = (true, a, cs) := if_neg (fun q => hq q.2)
      rw [e1]
      exact ⟨fun _ h => h pend out hp ho hq (fun q => absurd q (by decide)), fun h => by cases h⟩
theorem m_prod {k : Nat} {Wp : List Int32} (hc : m_Cl t Pw Pn Pf Pd) (h60 : t.length ≤ 60) (hf : q_FAC t Pw Pn Pf k f) (hg : p_Gr t f) (hW : ∀ x, Wp.head? = some x → ¬ 10102 ≤ x) {a : Nat} {cs : List Int32} (ha : a ≤ t.length) :
    ((p_prod t f (a, cs)).1 = true → q_beh t Pn k 10102 Wp (p_prod t f (a, cs)).2 → Pw (a, Wp, nI k, cs.map q_tr)) ∧ ((p_prod t f (a, cs)).1 = false → Pf (p_prod t f (a, cs)).2.1 → Pw (a, Wp, nI k, cs.map q_tr)) := by
  obtain ⟨F1, F2⟩ := hf a cs Wp ha
  have gr := hg (a, cs) ha
  unfold p_prod
  cases hr : (f (a, cs)).1 with
  | false =>
    rw [p_loop_f 60 _ hr]
    exact ⟨fun h => (by rw [hr] at h; cases h), fun _ h => F2 hr h⟩
  | true =>
    have e : f (a, cs) = (true, (f (a, cs)).2.1, (f (a, cs)).2.2) := by rw [← hr]
    rw [e]
    obtain ⟨A, B⟩ := m_prod_loop hc hf hg hW 60 (f (a, cs)).2.1 (f (a, cs)).2.2 [] ((f (a, cs)).2.2.map q_tr) gr.2.1 (by omega) (fun x hx => by cases hx) (List.append_nil _)
    have up : Pn ((f (a, cs)).2.1, [] ++ Wp, nI k, (f (a, cs)).2.2.map q_tr) → Pw (a, Wp, nI k, cs.map q_tr) := fun h => F1 hr (by
      rw [m_ends_id (fun x hx q => hW x hx (by rw [q]; decide))]
      exact h)
    exact ⟨fun h1 h2 => up (A h1 h2), fun h1 h2 => up (B h1 h2)⟩
theorem m_sum_loop {k : Nat} {W0 : List Int32} (hc : m_Cl t Pw Pn Pf Pd) (h60 : t.length ≤ 60) (hf : q_FAC t Pw Pn Pf k f) (hg : p_Gr t f) (hW : ∀ x, W0.head? = some x → ¬ 10100 ≤ x) : ∀ (m a : Nat) (cs pend out : List Int32), a ≤ t.length → t.length ≤ a + m → (∀ x ∈ pend, 10100 ≤ x) → out ++ pend = cs.map q_tr → ¬ (pN t a = 42 ∨ pN t a = 47) →
    ((p_loop t 43 45 (p_prod t f) m (true, a, cs)).1 = true → q_beh t Pn k 10100 W0 (p_loop t 43 45 (p_prod t f) m (true, a, cs)).2 → Pn (a, pend ++ W0, nI k, out)) ∧ ((p_loop t 43 45 (p_prod t f) m (true, a, cs)).1 = false → Pf (p_loop t 43 45 (p_prod t f) m (true, a, cs)).2.1 → Pn (a, pend ++ W0, nI k, out))
  | 0, a, cs, pend, out, ha, hm, hp, ho, hn => by
    refine ⟨fun _ h => ?_, fun h => by cases h⟩
    have e : pN t a = -1 := pN_ge (by omega)
    exact h pend out hp ho hn (fun _ => by rw [show (p_loop t 43 45 (p_prod t f) 0 (true, a, cs)).2.1 = a from rfl, e]; decide)
  | m + 1, a, cs, pend, out, ha, hm, hp, ho, hn => by
    by_cases hq : pN t a = 43 ∨ pN t a = 45
    · have hl : a < t.length := pN_lt (fun q => by rw [q] at hq; revert hq; decide)
      obtain ⟨sg, hs, hsg⟩ : ∃ sg, q_sg (pN t a) sg 10100 ∧ (sg = 10100 ∨ sg = 10101) := by
        rcases hq with q | q
        · exact ⟨10100, Or.inl ⟨q, rfl, rfl⟩, Or.inl rfl⟩
        · exact ⟨10101, Or.inr (Or.inl ⟨q, rfl, rfl⟩), Or.inr rfl⟩
      obtain ⟨s1, s2, s3⟩ := hs.tr
      have e1 : p_loop t 43 45 (p_prod t f) (m + 1) (true, a, cs) = p_loop t 43 45 (p_prod t f) m (p_add (-(pN t a)) (p_prod t f (a + 1, cs))) := if_pos ⟨rfl, hq⟩
      rw [e1]
      obtain ⟨F1, F2⟩ := m_prod (Wp := sg :: W0) (a := a + 1) (cs := cs) hc h60 hf hg (fun x hx => by cases hx; rcases hsg with q | q <;> (rw [q]; decide)) (by omega)
      have gr := p_prod_gr hg (a + 1, cs) (by show a + 1 ≤ _; omega)
      have step : Pw (a + 1, sg :: W0, nI k, cs.map q_tr) → Pn (a, pend ++ W0, nI k, out) := fun h => by
        refine hc.2.1 a _ _ _ sg 10100 hs ?_
        rw [m_set_app pend W0 out hp hW, ho]
        exact h
      cases hr : (p_prod t f (a + 1, cs)).1 with
      | false =>
        rw [p_loop_f m _ (show (p_add _ (p_prod t f (a + 1, cs))).1 = false from hr)]
        refine ⟨fun h => ?_, fun _ h => step (F2 hr h)⟩
        rw [show (p_add (-(pN t a)) (p_prod t f (a + 1, cs))).1 = (p_prod t f (a + 1, cs)).1 from rfl, hr] at h
        cases h
      | true =>
        have e2 : p_add (-(pN t a)) (p_prod t f (a + 1, cs)) = (true, (p_prod t f (a + 1, cs)).2.1, (p_prod t f (a + 1, cs)).2.2 ++ [-(pN t a)]) := by
          unfold p_add
          rw [hr]
        rw [e2]
        have up : (∀ (pm out' : List Int32), (∀ x ∈ pm, 10102 ≤ x) → out' ++ pm = (p_prod t f (a + 1, cs)).2.2.map q_tr → ¬ (pN t (p_prod t f (a + 1, cs)).2.1 = 42 ∨ pN t (p_prod t f (a + 1, cs)).2.1 = 47) → Pn ((p_prod t f (a + 1, cs)).2.1, (pm ++ [sg]) ++ W0, nI k, out')) → Pn (a, pend ++ W0, nI k, out) := fun h => step (F1 hr (fun pm out' q1 q2 q3 _ => by
          have := h pm out' q1 q2 q3
          rw [List.append_assoc] at this
          exact this))
        have A : ∀ (pm out' : List Int32), (∀ x ∈ pm, 10102 ≤ x) → out' ++ pm = (p_prod t f (a + 1, cs)).2.2.map q_tr → ¬ (pN t (p_prod t f (a + 1, cs)).2.1 = 42 ∨ pN t (p_prod t f (a + 1, cs)).2.1 = 47) → _ := fun pm out' q1 q2 q3 => m_sum_loop hc h60 hf hg hW m (p_prod t f (a + 1, cs)).2.1 ((p_prod t f (a + 1, cs)).2.2 ++ [-(pN t a)]) (pm ++ [sg]) out' gr.2.1 (by have := gr.2.2; simp only at this; omega) (fun x hx => by
          rcases List.mem_append.mp hx with q | q
          · exact Int32.le_trans (by decide) (q1 x q)
          · rw [List.mem_singleton.mp q]; exact s3) (by rw [List.map_append, List.map_singleton, s1, ← q2, List.append_assoc]) q3
        exact ⟨fun h1 h2 => up (fun pm out' q1 q2 q3 => (A pm out' q1 q2 q3).1 h1 h2), fun h1 h2 => up (fun pm out' q1 q2 q3 => (A pm out' q1 q2 q3).2 h1 h2)⟩
    · have e1 : p_loop t 43 45 (p_prod t f) (m + 1) (true, a, cs) = (true, a, cs) := if_neg (fun q => hq q.2)
      rw [e1]
      exact ⟨fun _ h => h pend out hp ho hn (fun _ => hq), fun h => by cases h⟩
theorem m_sum {k : Nat} {W0 : List Int32} (hc : m_Cl t Pw Pn Pf Pd) (h60 : t.length ≤ 60) (hf : q_FAC t Pw Pn Pf k f) (hg : p_Gr t f) (hW : ∀ x, W0.head? = some x → ¬ 10100 ≤ x) {a : Nat} {cs : List Int32} (ha : a ≤ t.length) :
    ((p_sum t f (a, cs)).1 = true → q_beh t Pn k 10100 W0 (p_sum t f (a, cs)).2 → Pw (a, W0, nI k, cs.map q_tr)) ∧ ((p_sum t f (a, cs)).1 = false → Pf (p_sum t f (a, cs)).2.1 → Pw (a, W0, nI k, cs.map q_tr)) := by
  obtain ⟨F1, F2⟩ := m_prod (Wp := W0) (a := a) (cs := cs) hc h60 hf hg (fun x hx q => hW x hx (Int32.le_trans (by decide) q)) ha
  have gr := p_prod_gr hg (a, cs) ha
  unfold p_sum
  cases hr : (p_prod t f (a, cs)).1 with
  | false =>
    rw [p_loop_f 60 _ hr]
    exact ⟨fun h => (by rw [hr] at h; cases h), fun _ h => F2 hr h⟩
  | true =>
    have e : p_prod t f (a, cs) = (true, (p_prod t f (a, cs)).2.1, (p_prod t f (a, cs)).2.2) := by rw [← hr]
    rw [e]
    have A : ∀ (pm out' : List Int32), (∀ x ∈ pm, 10102 ≤ x) → out' ++ pm = (p_prod t f (a, cs)).2.2.map q_tr → ¬ (pN t (p_prod t f (a, cs)).2.1 = 42 ∨ pN t (p_prod t f (a, cs)).2.1 = 47) → _ := fun pm out' q1 q2 q3 => m_sum_loop hc h60 hf hg hW 60 (p_prod t f (a, cs)).2.1 (p_prod t f (a, cs)).2.2 pm out' gr.2.1 (by omega) (fun x hx => Int32.le_trans (by decide) (q1 x hx)) q2 q3
    exact ⟨fun h1 h2 => F1 hr (fun pm out' q1 q2 q3 _ => (A pm out' q1 q2 q3).1 h1 h2), fun h1 h2 => F1 hr (fun pm out' q1 q2 q3 _ => (A pm out' q1 q2 q3).2 h1 h2)⟩
def q_ch (c : Int32) : List Int32 → Prop
  | [] => c = 58
  | b :: xs => q_md b c ∧ q_ch b xs
theorem q_md_lt {b c : Int32} (h : q_md b c) : ¬ 10100 ≤ b := by
  rcases h with ⟨rfl, _⟩ | ⟨rfl, _⟩ | ⟨rfl, _⟩ <;> decide
theorem q_md_fn {b b' c : Int32} (h : q_md b c) (h' : q_md b' c) : b' = b := by
  rcases h with ⟨rfl, h1⟩ | ⟨rfl, h1⟩ | ⟨rfl, h1⟩ <;> rcases h' with ⟨rfl, h2⟩ | ⟨rfl, h2⟩ | ⟨rfl, h2⟩ <;> first | rfl | (rw [h1] at h2; exact absurd h2 (by decide))
/-- from behind the first E of a choice on -/
theorem m_chain {k : Nat} {W : List Int32} (hc : m_Cl t Pw Pn Pf Pd) (h60 : t.length ≤ 60) (hf : q_FAC t Pw Pn Pf (k + 1) f) (hg : p_Gr t f) : ∀ (xs : List Int32) (c : Int32) (a : Nat) (cs pend out : List Int32), q_ch c xs → ¬ 10100 ≤ c → a ≤ t.length → (∀ x ∈ pend, 10100 ≤ x) → out ++ pend = cs.map q_tr → ¬ q_ar (pN t a) → (c = 40 → ¬ pN t a = 41) →
    ((p_chain t (p_sum t f) xs (a, cs)).1 = true → Pn ((p_chain t (p_sum t f) xs (a, cs)).2.1, m_ends W (nI k) ((p_chain t (p_sum t f) xs (a, cs)).2.2.map q_tr ++ [10104])) → Pn (a, pend ++ c :: W, nI (k + 1), out)) ∧ ((p_chain t (p_sum t f) xs (a, cs)).1 = false → Pf (p_chain t (p_sum t f) xs (a, cs)).2.1 → Pn (a, pend ++ c :: W, nI (k + 1), out))
  | [], c, a, cs, pend, out, hch, hcl, ha, hp, ho, hn, h40 => by
    have ec : c = 58 := hch
    subst ec
    have es := m_set_app pend (58 :: W) out hp (fun x hx => by cases hx; exact hcl)
    unfold p_chain
    by_cases hq : pN t a = 41
    · rw [if_pos hq]
      refine ⟨fun _ h => ?_, fun h => by cases h⟩
      refine hc.2.2.2.1 a _ _ _ W (cs.map q_tr) hq (by rw [es, ho]) ?_
      rw [nI_pred]
      exact h
    · rw [if_neg hq]
      refine ⟨fun h => (by cases h), fun _ h => ?_⟩
      by_cases hl : a < t.length
      · refine hc.2.2.2.2.2.1 a _ _ _ hl hn (fun q => hq q.1) (fun q => ?_) h
        rw [es] at q
        rcases q with ⟨_, q⟩ | ⟨_, q⟩ | ⟨_, q⟩
        · exact absurd (show (58 : Int32) = 40 from q) (by decide)
        · exact absurd (show (58 : Int32) = 60 from q) (by decide)
        · exact absurd (show (58 : Int32) = 63 from q) (by decide)
      · have ea : a = t.length := by omega
        subst ea
        refine hc.2.2.2.2.2.2.1 _ _ _ ?_ h
        rw [es]
        exact List.cons_ne_nil _ _
  | b :: xs, c, a, cs, pend, out, hch, hcl, ha, hp, ho, hn, h40 => by
    obtain ⟨hb, hch2⟩ := hch
    have es := m_set_app pend (c :: W) out hp (fun x hx => by cases hx; exact hcl)
    have hbl := q_md_lt hb
    unfold p_chain
    by_cases hq : pN t a = b
    · rw [if_pos hq]
      have hl : a < t.length := pN_lt (fun q => by rw [q] at hq; rw [← hq] at hb; rcases hb with ⟨w, _⟩ | ⟨w, _⟩ | ⟨w, _⟩ <;> exact absurd w (by decide))
      have gr := p_sum_gr hg (a + 1, cs) (by show a + 1 ≤ _; omega)
      obtain ⟨S1, S2⟩ := m_sum (W0 := b :: W) (a := a + 1) (cs := cs) hc h60 hf hg (fun x hx => by cases hx; exact hbl) (by omega)
      have step : Pw (a + 1, b :: W, nI (k + 1), cs.map q_tr) → Pn (a, pend ++ c :: W, nI (k + 1), out) := fun h => by
        refine hc.2.2.2.2.1 a _ _ _ b c W (cs.map q_tr) hq hb ?_ h
        rw [es, ho]
      dsimp only
      cases hr : (p_sum t f (a + 1, cs)).1 with
      | false =>
        rw [if_neg (by decide)]
        exact ⟨fun h => (by rw [hr] at h; cases h), fun _ h => step (S2 hr h)⟩
      | true =>
        rw [if_pos rfl]
        have e : (p_sum t f (a + 1, cs)).2 = ((p_sum t f (a + 1, cs)).2.1, (p_sum t f (a + 1, cs)).2.2) := rfl
        rw [e]
        have A : ∀ (pm out' : List Int32), (∀ x ∈ pm, 10100 ≤ x) → out' ++ pm = (p_sum t f (a + 1, cs)).2.2.map q_tr → ¬ q_ar (pN t (p_sum t f (a + 1, cs)).2.1) → _ := fun pm out' q1 q2 q3 => m_chain (W := W) hc h60 hf hg xs b (p_sum t f (a + 1, cs)).2.1 (p_sum t f (a + 1, cs)).2.2 pm out' hch2 hbl gr.2.1 q1 q2 q3 (fun q => by rw [q] at hb; revert hb; unfold q_md; exact fun w => by rcases w with ⟨w, _⟩ | ⟨w, _⟩ | ⟨w, _⟩ <;> exact absurd w (by decide))
        exact ⟨fun h1 h2 => step (S1 hr (fun pm out' q1 q2 q3 q4 => (A pm out' q1 q2 (fun q => q.elim (fun w => q4 rfl (Or.inl w)) (fun q => q.elim (fun w => q4 rfl (Or.inr w)) q3))).1 h1 h2)), fun h1 h2 => step (S1 hr (fun pm out' q1 q2 q3 q4 => (A pm out' q1 q2 (fun q => q.elim (fun w => q4 rfl (Or.inl w)) (fun q => q.elim (fun w => q4 rfl (Or.inr w)) q3))).2 h1 h2))⟩
    · rw [if_neg hq]
      refine ⟨fun h => (by cases h), fun _ h => ?_⟩
      by_cases hl : a < t.length
      · refine hc.2.2.2.2.2.1 a _ _ _ hl hn (fun q => ?_) (fun q => ?_) h
        · rw [es] at q
          obtain ⟨q1, q2⟩ := q
          rcases q2 with q2 | q2
          · exact h40 q2 q1
          · have e58 : c = 58 := q2
            rw [e58] at hb
            rcases hb with ⟨_, w⟩ | ⟨_, w⟩ | ⟨_, w⟩ <;> exact absurd w (by decide)
        · rw [es] at q
          exact hq (q_md_fn hb q)
      · have ea : a = t.length := by omega
        subst ea
        refine hc.2.2.2.2.2.2.1 _ _ _ ?_ h
        rw [es]
        exact List.cons_ne_nil _ _
theorem m_leaf {k : Nat} {e : Ps → Bool × Ps} (hc : m_Cl t Pw Pn Pf Pd) {a : Nat} {cs W : List Int32} (ha : a ≤ t.length)
    (he : ¬ (48 ≤ pN t a ∧ pN t a ≤ 57) → ¬ p_nam (pN t a) → ((e (a, cs)).1 = true → Pn ((e (a, cs)).2.1, m_ends W (nI k) ((e (a, cs)).2.2.map q_tr)) → Pw (a, W, nI k, cs.map q_tr)) ∧ ((e (a, cs)).1 = false → Pf (e (a, cs)).2.1 → Pw (a, W, nI k, cs.map q_tr))) :
    ((p_leaf t (a, cs) (e (a, cs))).1 = true → Pn ((p_leaf t (a, cs) (e (a, cs))).2.1, m_ends W (nI k) ((p_leaf t (a, cs) (e (a, cs))).2.2.map q_tr)) → Pw (a, W, nI k, cs.map q_tr)) ∧ ((p_leaf t (a, cs) (e (a, cs))).1 = false → Pf (p_leaf t (a, cs) (e (a, cs))).2.1 → Pw (a, W, nI k, cs.map q_tr)) := by
  unfold p_leaf
  by_cases hd : 48 ≤ pN t a ∧ pN t a ≤ 57
  · rw [if_pos hd]
    refine ⟨fun _ h => hc.1.1 a _ _ _ ha hd ?_, fun h => by cases h⟩
    obtain ⟨v, _, v2, v3⟩ := p_num_code (t := t) 4 0 a (by decide)
    have ev : q_tr (p_num t 4 0 a).1 = (p_num t 4 0 a).1 := by
      have e0 : (p_num t 4 0 a).1 = nI v := v3
      rw [e0]
      exact if_pos (nI_pos' (by omega))
    simp only [List.map_append, List.map_cons, List.map_nil, ev] at h
    exact h
  · rw [if_neg hd]
    by_cases hn : p_nam (pN t a)
    · rw [if_pos hn]
      refine ⟨fun _ h => hc.1.2.1 a _ _ _ hn ?_, fun h => by cases h⟩
      simp only [List.map_append, List.map_cons, List.map_nil] at h
      exact h
    · rw [if_neg hn]
      exact he hd hn
theorem m_fac (hc : m_Cl t Pw Pn Pf Pd) (h60 : t.length ≤ 60) : ∀ (n k : Nat), k + n = 5 → q_FAC t Pw Pn Pf k (p_fac t n)
  | 0, k, hk, a, cs, W, ha => m_leaf (e := fun s => (false, s)) hc ha (fun hd hn => ⟨fun h => (by cases h), fun _ h => hc.1.2.2.2 a _ _ _ ha hd hn (fun q => by
      have e5 : k = 5 := by omega
      rw [e5] at q
      exact absurd q.2 (by decide)) h⟩)
  | n + 1, k, hk, a, cs, W, ha => by
    have hlt : nI k < 5 := nI_lt (b := 5) (by omega) (by decide)
    refine m_leaf (e := fun s => if pN t s.1 = 45 then p_add (-126) (p_fac t n (s.1 + 1, s.2)) else if pN t s.1 = 40 then p_br t (p_sum t (p_fac t n)) (s.1 + 1, s.2) else (false, s)) hc ha (fun hd hn => ?_)
    have ih := m_fac hc h60 n (k + 1) (by omega)
    dsimp only
    by_cases h45 : pN t a = 45
    · rw [if_pos h45]
      have hl : a < t.length := pN_lt (fun q => by rw [q] at h45; exact absurd h45 (by decide))
      obtain ⟨F1, F2⟩ := ih (a + 1) cs (10105 :: W) (by omega)
      have step : Pw (a + 1, 10105 :: W, nI (k + 1), cs.map q_tr) → Pw (a, W, nI k, cs.map q_tr) := fun h => hc.1.2.2.1 a _ _ _ 10105 (Or.inr ⟨h45, rfl⟩) hlt (by rw [nI_1]; exact h)
      refine ⟨fun h1 h2 => step (F1 h1 ?_), fun h1 h2 => step (F2 h1 h2)⟩
      rw [show m_ends (10105 :: W) (nI (k + 1)) ((p_fac t n (a + 1, cs)).2.2.map q_tr) = m_ends W (nI (k + 1) - 1) ((p_fac t n (a + 1, cs)).2.2.map q_tr ++ [10105]) from if_pos rfl, nI_pred]
      have e : (p_add (-126) (p_fac t n (a + 1, cs))).2.2.map q_tr = (p_fac t n (a + 1, cs)).2.2.map q_tr ++ [10105] := by
        unfold p_add
        rw [List.map_append]
        rfl
      rw [e] at h2
      exact h2
    · rw [if_neg h45]
      by_cases h40 : pN t a = 40
      · rw [if_pos h40]
        have hl : a < t.length := pN_lt (fun q => by rw [q] at h40; exact absurd h40 (by decide))
        have hg := p_fac_gr (t := t) n
        have gr := p_sum_gr hg (a + 1, cs) (by show a + 1 ≤ _; omega)
        obtain ⟨S1, S2⟩ := m_sum (W0 := 40 :: W) (a := a + 1) (cs := cs) hc h60 ih hg (fun x hx => by cases hx; decide) (by omega)
        have step : Pw (a + 1, 40 :: W, nI (k + 1), cs.map q_tr) → Pw (a, W, nI k, cs.map q_tr) := fun h => hc.1.2.2.1 a _ _ _ 40 (Or.inl ⟨h40, rfl⟩) hlt (by rw [nI_1]; exact h)
        unfold p_br
        cases hr : (p_sum t (p_fac t n) (a + 1, cs)).1 with
        | false =>
          rw [if_neg (by decide)]
          exact ⟨fun h => (by rw [hr] at h; cases h), fun _ h => step (S2 hr h)⟩
        | true =>
          rw [if_pos rfl]
          by_cases h41 : pN t (p_sum t (p_fac t n) (a + 1, cs)).2.1 = 41
          · rw [if_pos h41]
            refine ⟨fun _ h => step (S1 hr (fun pend out q1 q2 q3 q4 => ?_)), fun h => by cases h⟩
            refine hc.2.2.1 _ _ _ _ W ((p_sum t (p_fac t n) (a + 1, cs)).2.2.map q_tr) h41 ?_ ?_
            · rw [m_set_app pend (40 :: W) out q1 (fun x hx => by cases hx; decide), q2]
            · rw [nI_pred]
              exact h
          · rw [if_neg h41]
            have e : (p_sum t (p_fac t n) (a + 1, cs)).2 = ((p_sum t (p_fac t n) (a + 1, cs)).2.1, (p_sum t (p_fac t n) (a + 1, cs)).2.2) := rfl
            rw [e]
            have A : ∀ (pm out' : List Int32), (∀ x ∈ pm, 10100 ≤ x) → out' ++ pm = (p_sum t (p_fac t n) (a + 1, cs)).2.2.map q_tr → ¬ q_ar (pN t (p_sum t (p_fac t n) (a + 1, cs)).2.1) → _ := fun pm out' q1 q2 q3 => m_chain (k := k) (W := W) hc h60 ih hg [60, 63, 58] 40 (p_sum t (p_fac t n) (a + 1, cs)).2.1 (p_sum t (p_fac t n) (a + 1, cs)).2.2 pm out' ⟨Or.inl ⟨rfl, rfl⟩, Or.inr (Or.inl ⟨rfl, rfl⟩), Or.inr (Or.inr ⟨rfl, rfl⟩), rfl⟩ (by decide) gr.2.1 q1 q2 q3 (fun _ => h41)
            have N : ∀ a', ¬ (pN t a' = 42 ∨ pN t a' = 47) → ((10100 : Int32) = 10100 → ¬ (pN t a' = 43 ∨ pN t a' = 45)) → ¬ q_ar (pN t a') := fun a' q3 q4 q => q.elim (fun w => q4 rfl (Or.inl w)) (fun q => q.elim (fun w => q4 rfl (Or.inr w)) q3)
            have em : ∀ r : Bool × Ps, (p_add (-63) r).2.2.map q_tr = r.2.2.map q_tr ++ [10104] := fun r => by
              unfold p_add
              rw [List.map_append]
              rfl
            refine ⟨fun h1 h2 => step (S1 hr (fun pm out' q1 q2 q3 q4 => (A pm out' q1 q2 (N _ q3 q4)).1 h1 ?_)), fun h1 h2 => step (S1 hr (fun pm out' q1 q2 q3 q4 => (A pm out' q1 q2 (N _ q3 q4)).2 h1 h2))⟩
            rw [em] at h2
            exact h2
      · rw [if_neg h40]
        exact ⟨fun h => (by cases h), fun _ h => hc.1.2.2.2 a _ _ _ ha hd hn (fun q => q.1.elim h40 h45) h⟩
theorem m_text (hc : m_Cl t Pw Pn Pf Pd) (h60 : t.length ≤ 60) : (((p_text t).1 = true ∧ (p_text t).2.1 = t.length) → Pd ((p_text t).2.2.map q_tr) → Pw (0, [], 0, [])) ∧ (¬ ((p_text t).1 = true ∧ (p_text t).2.1 = t.length) → Pf (p_text t).2.1 → Pw (0, [], 0, [])) := by
  obtain ⟨S1, S2⟩ := m_sum (k := 0) (W0 := []) (a := 0) (cs := []) hc h60 (m_fac hc h60 5 0 rfl) (p_fac_gr 5) (fun x hx => by cases hx) (Nat.zero_le _)
  have gr := p_text_gr (t := t)
  constructor
  · intro h1 h2
    refine S1 h1.1 (fun pend out q1 q2 q3 q4 => ?_)
    have e : (p_sum t (p_fac t 5) (0, [])).2.1 = t.length := h1.2
    rw [e]
    refine hc.2.2.2.2.2.2.2 _ _ _ _ ?_ h2
    rw [m_set_app pend [] out q1 (fun x hx => by cases hx), q2]
    rfl
  · intro h1 h2
    cases hr : (p_sum t (p_fac t 5) (0, [])).1 with
    | false => exact S2 hr h2
    | true =>
      refine S1 hr (fun pend out q1 q2 q3 q4 => ?_)
      have hl : (p_sum t (p_fac t 5) (0, [])).2.1 < t.length := by
        have := gr.2.1
        have hne : (p_sum t (p_fac t 5) (0, [])).2.1 ≠ t.length := fun q => h1 ⟨hr, q⟩
        have e : (p_text t).2.1 = (p_sum t (p_fac t 5) (0, [])).2.1 := rfl
        omega
      refine hc.2.2.2.2.2.1 _ _ _ _ hl (fun q => q.elim (fun w => q4 rfl (Or.inl w)) (fun q => q.elim (fun w => q4 rfl (Or.inr w)) q3)) (fun q => ?_) (fun q => ?_) h2
      · rw [m_set_app pend [] out q1 (fun x hx => by cases hx)] at q
        rcases q.2 with w | w
        · exact absurd (show (-1 : Int32) = 40 from w) (by decide)
        · exact absurd (show (-1 : Int32) = 58 from w) (by decide)
      · rw [m_set_app pend [] out q1 (fun x hx => by cases hx)] at q
        rcases q with ⟨_, w⟩ | ⟨_, w⟩ | ⟨_, w⟩
        · exact absurd (show (-1 : Int32) = 40 from w) (by decide)
        · exact absurd (show (-1 : Int32) = 60 from w) (by decide)
        · exact absurd (show (-1 : Int32) = 63 from w) (by decide)
end L63
