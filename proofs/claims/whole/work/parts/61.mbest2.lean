section L61
variable {c : Nat} {lo : Nat → Nat → Nat → Int64} {D : Dst}
theorem o_fold_rel {α β : Type} {R : α → β → Prop} {g : Nat → α → α} {g' : Nat → β → β} : ∀ (k f : Nat) (a : α) (b : β), (∀ i a b, f ≤ i → i < f + k → R a b → R (g i a) (g' i b)) → R a b → R (o_fold g k f a) (o_fold g' k f b)
  | 0, _, _, _, _, h => h
  | k + 1, f, a, b, hg, h => o_fold_rel k (f + 1) _ _ (fun i a b h1 h2 => hg i a b (by omega) (by omega)) (hg f a b (Nat.le_refl _) (by omega) h)
theorem o_fold_id {α : Type} {g : Nat → α → α} {b : α} : ∀ (k f : Nat), (∀ i, f ≤ i → i < f + k → g i b = b) → o_fold g k f b = b
  | 0, _, _ => rfl
  | k + 1, f, h => by
    show o_fold g k (f + 1) (g f b) = b
    rw [h f (Nat.le_refl _) (by omega)]
    exact o_fold_id k (f + 1) (fun i h1 h2 => h i (by omega) (by omega))
theorem o_fold_inv {α : Type} {g : Nat → α → α} {Q : α → Prop} : ∀ (k f : Nat) (b : α), (∀ i b, f ≤ i → i < f + k → Q b → Q (g i b)) → Q b → Q (o_fold g k f b)
  | 0, _, _, _, h => h
  | k + 1, f, b, hg, h => o_fold_inv k (f + 1) _ (fun i b h1 h2 => hg i b (by omega) (by omega)) (hg f b (Nat.le_refl _) (by omega) h)
theorem o_fold_hit {α : Type} {g : Nat → α → α} {Q : α → Prop} {j : Nat} : ∀ (k f : Nat) (b : α), (∀ i b, f ≤ i → i < f + k → Q b → Q (g i b)) → (∀ b, Q (g j b)) → f ≤ j → j < f + k → Q (o_fold g k f b)
  | 0, f, _, _, _, h3, h4 => by omega
  | k + 1, f, b, h1, h2, h3, h4 => by
    by_cases e : f = j
    · subst e
      exact o_fold_inv k (f + 1) _ (fun i b a1 a2 => h1 i b (by omega) (by omega)) (h2 b)
    · exact o_fold_hit k (f + 1) _ (fun i b a1 a2 => h1 i b (by omega) (by omega)) h2 (by omega) (by omega)
def q_LB (lo : Nat → Nat → Nat → Int64) (c : Nat) : Prop := ∀ x y p, x < c → y < c → p < c → 0 ≤ (lo x y p).toInt ∧ (lo x y p).toInt ≤ 4294967296
theorem q_addI {x y : Int64} (h1 : 0 ≤ x.toInt) (h2 : x.toInt ≤ 1099511627776) (h3 : 0 ≤ y.toInt) (h4 : y.toInt ≤ 1099511627776) : (x + y).toInt = x.toInt + y.toInt := by
  rw [Int64.toInt_add]
  exact Int.bmod_eq_of_le (by omega) (by omega)
def q_Pp (c : Nat) (la : Nat → Nat) (k : Nat) : Prop := ∀ p, p < k → p < c ∧ la p < c ∧ la (o_nx c p) < c
theorem o_ts_bd {la : Nat → Nat} (hL : q_LB lo c) (hc : c ≤ 7) : ∀ k, q_Pp c la k → 0 ≤ (o_ts c lo la k).toInt ∧ (o_ts c lo la k).toInt ≤ 4294967296 * k
  | 0, _ => ⟨Int.le_refl _, Int.le_refl _⟩
  | k + 1, h => by
    obtain ⟨b1, b2⟩ := o_ts_bd hL hc k (fun p hp => h p (by omega))
    obtain ⟨h1, h2, h3⟩ := h k (by omega)
    obtain ⟨l1, l2⟩ := hL _ _ _ h2 h3 h1
    have e : (o_ts c lo la (k + 1)).toInt = (o_ts c lo la k).toInt + (lo (la k) (la (o_nx c k)) k).toInt := q_addI b1 (by omega) l1 (by omega)
    rw [e]
    omega
theorem o_ts_st {la : Nat → Nat} {k : Nat} (hL : q_LB lo c) (hc : c ≤ 7) (h : q_Pp c la (k + 1)) : (o_ts c lo la (k + 1)).toInt = (o_ts c lo la k).toInt + (lo (la k) (la (o_nx c k)) k).toInt ∧ 0 ≤ (lo (la k) (la (o_nx c k)) k).toInt := by
  obtain ⟨b1, b2⟩ := o_ts_bd hL hc k (fun p hp => h p (by omega))
  obtain ⟨h1, h2, h3⟩ := h k (by omega)
  obtain ⟨l1, l2⟩ := hL _ _ _ h2 h3 h1
  exact ⟨q_addI b1 (by omega) l1 (by omega), l1⟩
theorem o_ts_cg {la la' : Nat → Nat} : ∀ k, (∀ p, p < k → la p = la' p ∧ la (o_nx c p) = la' (o_nx c p)) → o_ts c lo la k = o_ts c lo la' k
  | 0, _ => rfl
  | k + 1, h => by
    show o_ts c lo la k + _ = o_ts c lo la' k + _
    rw [o_ts_cg k (fun p hp => h p (by omega)), (h k (by omega)).1, (h k (by omega)).2]
theorem o_nm_cg {la la' : Nat → Nat} : ∀ k, (∀ p, p < k → la p = la' p) → o_nm la k = o_nm la' k
  | 0, _ => rfl
  | k + 1, h => by
    show 8 * o_nm la k + _ = 8 * o_nm la' k + _
    rw [o_nm_cg k (fun p hp => h p (by omega)), h k (by omega)]
theorem q_Pp.all {la : Nat → Nat} {k : Nat} (h : ∀ j, j < c → la j < c) (hk : k ≤ c) : q_Pp c la k := fun p hp => ⟨by omega, h p (by omega), h _ (o_nx_lt (by omega))⟩
theorem q_Pp.pre {la : Nat → Nat} {pl k : Nat} (h : ∀ j, j < pl → la j < c) (hk : k + 1 ≤ pl) (hp : pl ≤ c) : q_Pp c la k := fun p hq => ⟨by omega, h p (by omega), h _ (by unfold o_nx; split <;> omega)⟩
theorem o_la_lt {la : Nat → Nat} {pl f j : Nat} (h : j < pl) : o_la la pl f j = la j := if_neg (by omega)
theorem o_la_self {la : Nat → Nat} {pl f : Nat} : o_la la pl f pl = f := if_pos rfl
theorem o_ts_la {la : Nat → Nat} {f e : Nat} (he : e + 1 < c) : o_ts c lo (o_la la (e + 1) f) (e + 1) = o_ts c lo la e + lo (la e) f e := by
  show o_ts c lo (o_la la (e + 1) f) e + lo (o_la la (e + 1) f e) (o_la la (e + 1) f (o_nx c e)) e = _
  rw [show o_nx c e = e + 1 from if_neg (by omega), o_la_self, o_la_lt (by omega), o_ts_cg e (la' := la) (fun p hp => ⟨o_la_lt (by omega), o_la_lt (by unfold o_nx; split <;> omega)⟩)]
theorem o_all_skip (hL : q_LB lo c) (hc : c ≤ 7) : ∀ (m pl : Nat) (usd : Nat → Bool) (la : Nat → Nat) (b : Int64 × Int32), m + pl = c → 1 ≤ pl → (∀ j, j < pl → la j < c) → 0 ≤ b.1.toInt → b.1.toInt ≤ (o_ts c lo la (pl - 1)).toInt → o_all c lo m pl usd la b = b
  | 0, pl, usd, la, b, h, h1, hla, hb0, hb => by
    have ep : pl = c := by omega
    subst ep
    obtain ⟨e, he⟩ : ∃ e, pl = e + 1 := ⟨pl - 1, by omega⟩
    have hst := o_ts_st (k := e) hL hc (q_Pp.all hla (by omega))
    rw [show pl - 1 = e by omega] at hb
    refine if_neg (fun q => ?_)
    rw [Int64.lt_iff_toInt_lt, Int64.lt_iff_toInt_lt, show (0 : Int64).toInt = 0 from rfl] at q
    rw [show o_ts pl lo la pl = o_ts pl lo la (e + 1) from by rw [he]] at q
    omega
  | m + 1, pl, usd, la, b, h, h1, hla, hb0, hb => by
    refine o_fold_id c 0 (fun f _ hf => ?_)
    by_cases hu : usd f = true
    · exact if_pos hu
    · refine (if_neg hu).trans ?_
      obtain ⟨e, he⟩ : ∃ e, pl = e + 1 := ⟨pl - 1, by omega⟩
      subst he
      have hla' : ∀ j, j < e + 1 + 1 → o_la la (e + 1) f j < c := fun j hj => by
        by_cases ej : j = e + 1
        · rw [ej, o_la_self]
          omega
        · rw [o_la_lt (by omega)]
          exact hla j (by omega)
      refine o_all_skip hL hc m (e + 1 + 1) _ _ b (by omega) (by omega) hla' hb0 ?_
      have hst := o_ts_st (la := o_la la (e + 1) f) (k := e) hL hc (q_Pp.pre hla' (by omega) (by omega))
      rw [o_ts_cg e (la' := la) (fun p hp => ⟨o_la_lt (by omega), o_la_lt (by unfold o_nx; split <;> omega)⟩)] at hst
      rw [show e + 1 + 1 - 1 = e + 1 by omega, hst.1]
      rw [show e + 1 - 1 = e by omega] at hb
      omega
def q_Rb (bm bc : Int64 × Int32) : Prop := (0 ≤ bc.1.toInt ∧ bm = bc) ∨ (bm.1 = -1 ∧ bc.1 = 1152921504606846976)
def q_BU (u : Int32) (usd : Nat → Bool) : Prop := ∃ U, U < 128 ∧ u = nI U ∧ ∀ f, f < 7 → U.testBit f = usd f
theorem q_bit7 : ∀ U, U < 128 → ∀ f, f < 7 → ((nI U >>> (nI f &&& 31)) &&& 1 = 0 ↔ U.testBit f = false) := by decide +kernel
theorem q_or7 : ∀ U, U < 128 → ∀ f, f < 7 → nI U ||| (1 <<< (nI f &&& 31)) = nI (U ||| 2 ^ f) ∧ U ||| 2 ^ f < 128 ∧ ∀ x, x < 7 → (U ||| 2 ^ f).testBit x = (decide (x = f) || U.testBit x) := by decide +kernel
theorem q_sh7 : ∀ f, f < 7 → (1 : Int32) <<< (nI f &&& 31) = nI (2 ^ f) ∧ 2 ^ f < 128 ∧ ∀ x, x < 7 → (2 ^ f).testBit x = decide (x = f) := by decide +kernel
theorem q_BU.bit {u : Int32} {usd : Nat → Bool} {f : Nat} (h : q_BU u usd) (hf : f < 7) : (u >>> (nI f &&& 31)) &&& 1 = 0 ↔ usd f = false := by
  obtain ⟨U, h1, rfl, h3⟩ := h
  rw [q_bit7 U h1 f hf, h3 f hf]
theorem q_BU.or {u : Int32} {usd : Nat → Bool} {f : Nat} (h : q_BU u usd) (hf : f < 7) : q_BU (u ||| (1 <<< (nI f &&& 31))) (o_us usd f) := by
  obtain ⟨U, h1, rfl, h3⟩ := h
  obtain ⟨e1, e2, e3⟩ := q_or7 U h1 f hf
  refine ⟨_, e2, e1, fun x hx => ?_⟩
  rw [e3 x hx, h3 x hx]
  unfold o_us
  by_cases e : x = f
  · rw [if_pos e, decide_eq_true e]
    rfl
  · rw [if_neg e, decide_eq_false e]
    rfl
theorem q_BU.one {f : Nat} (hf : f < 7) : q_BU (1 <<< (nI f &&& 31)) (o_us (fun _ => false) f) := by
  obtain ⟨e1, e2, e3⟩ := q_sh7 f hf
  refine ⟨_, e2, e1, fun x hx => ?_⟩
  rw [e3 x hx]
  unfold o_us
  by_cases e : x = f
  · rw [if_pos e, decide_eq_true e]
  · rw [if_neg e, decide_eq_false e]
theorem o_main (hL : q_LB lo c) (hc : c ≤ 7) : ∀ (m pl : Nat) (u : Int32) (s : Int64) (n : Int32) (la la' : Nat → Nat) (usd : Nat → Bool) (bm bc : Int64 × Int32), m + pl = c → 1 ≤ pl → (∀ j, j < pl → la j = la' j ∧ la' j < c) → s = o_ts c lo la' (pl - 1) → n = o_nm la' pl → q_BU u usd → q_Rb bm bc → q_Rb (o_all c lo m pl usd la' bm) (o_from c lo m pl u s n la bc)
  | 0, pl, u, s, n, la, la', usd, bm, bc, h, h1, hla, hs, hn, hu, hb => by
    have ep : pl = c := by omega
    subst ep
    obtain ⟨e, he⟩ : ∃ e, pl = e + 1 := ⟨pl - 1, by omega⟩
    have hbd := o_ts_bd (la := la') hL hc pl (q_Pp.all (fun j hj => (hla j hj).2) (Nat.le_refl _))
    have et : s + lo (la (pl - 1)) (la 0) (pl - 1) = o_ts pl lo la' pl := by
      have e1 : o_ts pl lo la' pl = o_ts pl lo la' (e + 1) := by rw [he]
      rw [e1, hs, (hla (pl - 1) (by omega)).1, (hla 0 (by omega)).1]
      show _ = o_ts pl lo la' e + lo (la' e) (la' (o_nx pl e)) e
      rw [show o_nx pl e = 0 from if_pos (by omega), show pl - 1 = e by omega]
    show q_Rb (o_upd (o_ts pl lo la' pl) (o_nm la' pl) bm) (o_close pl lo s n la bc)
    unfold o_close o_upd
    rw [et, hn]
    generalize o_ts pl lo la' pl = t at hbd
    rcases hb with ⟨b1, rfl⟩ | ⟨b1, b2⟩
    · by_cases q : t < bm.1
      · rw [if_pos (Or.inr q), if_pos q]
        exact Or.inl ⟨hbd.1, rfl⟩
      · rw [if_neg (fun w => w.elim (fun w => by rw [Int64.lt_iff_toInt_lt, show (0 : Int64).toInt = 0 from rfl] at w; omega) q), if_neg q]
        exact Or.inl ⟨b1, rfl⟩
    · rw [if_pos (Or.inl (by rw [b1]; decide)), if_pos (by rw [b2, Int64.lt_iff_toInt_lt, show (1152921504606846976 : Int64).toInt = 1152921504606846976 from rfl]; omega)]
      exact Or.inl ⟨hbd.1, rfl⟩
  | m + 1, pl, u, s, n, la, la', usd, bm, bc, h, h1, hla, hs, hn, hu, hb => by
    obtain ⟨e, he⟩ : ∃ e, pl = e + 1 := ⟨pl - 1, by omega⟩
    subst he
    refine o_fold_rel c 0 bm bc (fun f bm bc _ hf hb => ?_) hb
    have hf7 : f < 7 := by omega
    by_cases hq : usd f = true
    · rw [if_pos hq, if_neg (fun w => by rw [(hu.bit hf7).mp w] at hq; cases hq)]
      exact hb
    · have hqf : usd f = false := by cases hh : usd f with | true => exact absurd hh hq | false => rfl
      rw [if_neg hq, if_pos ((hu.bit hf7).mpr hqf)]
      have hla2 : ∀ j, j < e + 1 + 1 → o_la la (e + 1) f j = o_la la' (e + 1) f j ∧ o_la la' (e + 1) f j < c := fun j hj => by
        by_cases ej : j = e + 1
        · rw [ej, o_la_self, o_la_self]
          exact ⟨rfl, by omega⟩
        · rw [o_la_lt (by omega), o_la_lt (by omega)]
          exact hla j (by omega)
      have es : s + lo (la (e + 1 - 1)) f (e + 1 - 1) = o_ts c lo (o_la la' (e + 1) f) (e + 1) := by
        rw [o_ts_la (by omega), hs, (hla (e + 1 - 1) (by omega)).1, show e + 1 - 1 = e by omega]
      have en : n * 8 + nI f = o_nm (o_la la' (e + 1) f) (e + 1 + 1) := by
        show _ = 8 * o_nm (o_la la' (e + 1) f) (e + 1) + nI (o_la la' (e + 1) f (e + 1))
        rw [o_la_self, o_nm_cg (e + 1) (la' := la') (fun p hp => o_la_lt hp), hn, Int32.mul_comm]
      by_cases hlt : s + lo (la (e + 1 - 1)) f (e + 1 - 1) < bc.1
      · rw [if_pos hlt]
        exact o_main hL hc m (e + 1 + 1) _ _ _ _ _ _ bm bc (by omega) (by omega) hla2 (by rw [es]; rfl) en (hu.or hf7) hb
      · rw [if_neg hlt]
        have hbd := o_ts_bd (la := o_la la' (e + 1) f) hL hc (e + 1) (q_Pp.pre (pl := e + 1 + 1) (fun j hj => (hla2 j hj).2) (Nat.le_refl _) (by omega))
        rw [es, Int64.lt_iff_toInt_lt] at hlt
        rcases hb with ⟨b1, rfl⟩ | ⟨b1, b2⟩
        · rw [o_all_skip hL hc m (e + 1 + 1) _ _ bm (by omega) (by omega) (fun j hj => (hla2 j hj).2) b1 (by show _ ≤ (o_ts c lo (o_la la' (e + 1) f) (e + 1)).toInt; omega)]
          exact Or.inl ⟨b1, rfl⟩
        · rw [b2, show (1152921504606846976 : Int64).toInt = 1152921504606846976 from rfl] at hlt
          omega
/-! what the search over all rows finds -/
def q_O (b : Int64 × Int32) (t : Int64) : Prop := 0 ≤ b.1.toInt ∧ b.1.toInt ≤ t.toInt
def q_pm (c : Nat) (la : Nat → Nat) : Prop := (∀ j, j < c → la j < c) ∧ ∀ i j, i < c → j < c → la i = la j → i = j
theorem q_O.upd {b : Int64 × Int32} {t t' : Int64} {n : Int32} (h : q_O b t) (h0 : 0 ≤ t'.toInt) : q_O (o_upd t' n b) t := by
  unfold o_upd
  by_cases q : b.1 < 0 ∨ t' < b.1
  · rw [if_pos q]
    rw [Int64.lt_iff_toInt_lt, Int64.lt_iff_toInt_lt, show (0 : Int64).toInt = 0 from rfl] at q
    unfold q_O at h ⊢
    dsimp only
    omega
  · rw [if_neg q]
    exact h
theorem q_O.new {b : Int64 × Int32} {t : Int64} {n : Int32} (h0 : 0 ≤ t.toInt) : q_O (o_upd t n b) t := by
  unfold o_upd
  by_cases q : b.1 < 0 ∨ t < b.1
  · rw [if_pos q]
    exact ⟨h0, Int.le_refl _⟩
  · rw [if_neg q]
    rw [Int64.lt_iff_toInt_lt, Int64.lt_iff_toInt_lt, show (0 : Int64).toInt = 0 from rfl] at q
    unfold q_O
    omega
theorem q_O.keep {b : Int64 × Int32} {t : Int64} {n : Int32} (h : q_O b t) : o_upd t n b = b := by
  refine if_neg (fun q => ?_)
  rw [Int64.lt_iff_toInt_lt, Int64.lt_iff_toInt_lt, show (0 : Int64).toInt = 0 from rfl] at q
  unfold q_O at h
  omega
theorem o_la_all {la : Nat → Nat} {pl f : Nat} (h : ∀ j, j < pl → la j < c) (hf : f < c) : ∀ j, j < pl + 1 → o_la la pl f j < c := fun j hj => by
  by_cases e : j = pl
  · rw [e, o_la_self]
    exact hf
  · rw [o_la_lt (by omega)]
    exact h j (by omega)
theorem o_all_mono {t : Int64} (hL : q_LB lo c) (hc : c ≤ 7) : ∀ (m pl : Nat) (usd : Nat → Bool) (la : Nat → Nat) (b : Int64 × Int32), m + pl = c → (∀ j, j < pl → la j < c) → q_O b t → q_O (o_all c lo m pl usd la b) t
  | 0, pl, usd, la, b, h, hla, hb => hb.upd (o_ts_bd hL hc c (q_Pp.all (fun j hj => hla j (by omega)) (Nat.le_refl _))).1
  | m + 1, pl, usd, la, b, h, hla, hb => by
    refine o_fold_inv (Q := fun b => q_O b t) c 0 b (fun f b _ hf hb => ?_) hb
    by_cases hu : usd f = true
    · rw [if_pos hu]
      exact hb
    · rw [if_neg hu]
      exact o_all_mono hL hc m (pl + 1) _ _ b (by omega) (o_la_all hla (by omega)) hb
theorem o_all_hit {la2 : Nat → Nat} (hL : q_LB lo c) (hc : c ≤ 7) (hp : q_pm c la2) : ∀ (m pl : Nat) (usd : Nat → Bool) (la : Nat → Nat) (b : Int64 × Int32), m + pl = c → (∀ j, j < pl → la j = la2 j) → (∀ f, usd f = true → ∃ j, j < pl ∧ la2 j = f) → q_O (o_all c lo m pl usd la b) (o_ts c lo la2 c)
  | 0, pl, usd, la, b, h, hla, hu => by
    have ep : pl = c := by omega
    subst ep
    show q_O (o_upd (o_ts pl lo la pl) (o_nm la pl) b) _
    rw [o_ts_cg pl (fun p hq => ⟨hla p hq, hla _ (o_nx_lt hq)⟩)]
    exact q_O.new (o_ts_bd hL hc pl (q_Pp.all hp.1 (Nat.le_refl _))).1
  | m + 1, pl, usd, la, b, h, hla, hu => by
    have hf := hp.1 pl (by omega)
    refine o_fold_hit (Q := fun b => q_O b (o_ts c lo la2 c)) (j := la2 pl) c 0 b (fun f b _ hf hb => ?_) (fun b => ?_) (Nat.zero_le _) (by omega)
    · by_cases hq : usd f = true
      · rw [if_pos hq]
        exact hb
      · rw [if_neg hq]
        exact o_all_mono hL hc m (pl + 1) _ _ b (by omega) (o_la_all (fun j hj => by rw [hla j hj]; exact hp.1 j (by omega)) (by omega)) hb
    · rw [if_neg (fun q => by
        obtain ⟨j, j1, j2⟩ := hu _ q
        have := hp.2 j pl (by omega) (by omega) j2
        omega)]
      refine o_all_hit hL hc hp m (pl + 1) _ _ b (by omega) (fun j hj => ?_) (fun f hq => ?_)
      · by_cases e : j = pl
        · rw [e, o_la_self]
        · rw [o_la_lt (by omega)]
          exact hla j (by omega)
      · unfold o_us at hq
        by_cases e : f = la2 pl
        · exact ⟨pl, by omega, e.symm⟩
        · rw [if_neg e] at hq
          obtain ⟨j, j1, j2⟩ := hu f hq
          exact ⟨j, by omega, j2⟩
theorem o_all_keep {b : Int64 × Int32} : ∀ (m pl : Nat) (usd : Nat → Bool) (la : Nat → Nat), m + pl = c → (∀ j, j < pl → la j < c) → (∀ i j, i < pl → j < pl → la i = la j → i = j) → (∀ j, j < pl → usd (la j) = true) → (∀ la2, q_pm c la2 → (∀ j, j < pl → la2 j = la j) → q_O b (o_ts c lo la2 c)) → o_all c lo m pl usd la b = b
  | 0, pl, usd, la, h, hla, hi, hu, hO => by
    have ep : pl = c := by omega
    subst ep
    exact (hO la ⟨hla, hi⟩ (fun _ _ => rfl)).keep
  | m + 1, pl, usd, la, h, hla, hi, hu, hO => by
    refine o_fold_id c 0 (fun f _ hf => ?_)
    by_cases hq : usd f = true
    · exact if_pos hq
    · refine (if_neg hq).trans ?_
      have hnf : ∀ j, j < pl → la j ≠ f := fun j hj e => hq (by rw [← e]; exact hu j hj)
      refine o_all_keep m (pl + 1) _ _ (by omega) (o_la_all hla (by omega)) (fun i j h1 h2 e => ?_) (fun j hj => ?_) (fun la2 hp he => hO la2 hp (fun j hj => (he j (by omega)).trans (o_la_lt hj)))
      · by_cases ei : i = pl
        · by_cases ej : j = pl
          · omega
          · rw [ei, o_la_self, o_la_lt (by omega)] at e
            exact absurd e.symm (hnf j (by omega))
        · by_cases ej : j = pl
          · rw [ej, o_la_self, o_la_lt (by omega)] at e
            exact absurd e (hnf i (by omega))
          · rw [o_la_lt (by omega), o_la_lt (by omega)] at e
            exact hi i j (by omega) (by omega) e
      · unfold o_us
        by_cases ej : j = pl
        · rw [ej, o_la_self, if_pos rfl]
        · rw [o_la_lt (by omega)]
          by_cases e2 : la j = f
          · rw [if_pos e2]
          · rw [if_neg e2]
            exact hu j (by omega)
/-! a ring turned -/
def iS (F : Nat → Int) : Nat → Int
  | 0 => 0
  | k + 1 => iS F k + F k
theorem iS_split (F : Nat → Int) (a : Nat) : ∀ b, iS F (a + b) = iS F a + iS (fun p => F (a + p)) b
  | 0 => by
    show iS F a = iS F a + 0
    omega
  | b + 1 => by
    show iS F (a + b) + F (a + b) = iS F a + (iS (fun p => F (a + p)) b + F (a + b))
    rw [iS_split F a b]
    omega
theorem iS_cg {F E : Nat → Int} : ∀ k, (∀ p, p < k → F p = E p) → iS F k = iS E k
  | 0, _ => rfl
  | k + 1, h => by
    show iS F k + F k = iS E k + E k
    rw [iS_cg k (fun p hp => h p (by omega)), h k (by omega)]
theorem o_ts_iS {la : Nat → Nat} (hL : q_LB lo c) (hc : c ≤ 7) : ∀ k, q_Pp c la k → (o_ts c lo la k).toInt = iS (fun p => (lo (la p) (la (o_nx c p)) p).toInt) k
  | 0, _ => rfl
  | k + 1, h => by
    rw [(o_ts_st hL hc h).1, o_ts_iS hL hc k (fun p hp => h p (by omega))]
    rfl
def q_rot (c k p : Nat) : Nat := if p + k < c then p + k else p + k - c
theorem q_rot_lt {k p : Nat} (hk : k < c) (hp : p < c) : q_rot c k p < c := by
  unfold q_rot
  split <;> omega
theorem q_rot_nx {k p : Nat} (hk : k < c) (hp : p < c) : o_nx c (q_rot c k p) = q_rot c k (o_nx c p) := by
  unfold q_rot o_nx
  repeat' split
  all_goals omega
theorem q_rot_inj {k i j : Nat} (hk : k < c) (hi : i < c) (hj : j < c) (h : q_rot c k i = q_rot c k j) : i = j := by
  unfold q_rot at h
  split at h <;> split at h <;> omega
theorem o_ts_rot {la : Nat → Nat} {k : Nat} (hL : q_LB lo c) (hc : c ≤ 7) (hk : k < c) (hp : q_pm c la) (hlo : ∀ x y p p', x < c → y < c → p < c → p' < c → lo x y p = lo x y p') : (o_ts c lo (fun p => la (q_rot c k p)) c).toInt = (o_ts c lo la c).toInt := by
  rw [o_ts_iS hL hc c (q_Pp.all hp.1 (Nat.le_refl _)), o_ts_iS (la := fun p => la (q_rot c k p)) hL hc c (q_Pp.all (fun j hj => hp.1 _ (q_rot_lt hk hj)) (Nat.le_refl _))]
  have e : ∀ p, p < c → (lo (la (q_rot c k p)) (la (q_rot c k (o_nx c p))) p).toInt = (lo (la (q_rot c k p)) (la (o_nx c (q_rot c k p))) (q_rot c k p)).toInt := fun p hq => by
    rw [← q_rot_nx hk hq, hlo _ _ p (q_rot c k p) (hp.1 _ (q_rot_lt hk hq)) (hp.1 _ (o_nx_lt (q_rot_lt hk hq))) hq (q_rot_lt hk hq)]
  rw [iS_cg c (E := fun p => (fun q => (lo (la q) (la (o_nx c q)) q).toInt) (q_rot c k p)) e]
  generalize (fun q => (lo (la q) (la (o_nx c q)) q).toInt) = F
  have s1 := iS_split (fun p => F (q_rot c k p)) (c - k) k
  have s2 := iS_split F k (c - k)
  rw [show c - k + k = c by omega] at s1
  rw [show k + (c - k) = c by omega] at s2
  rw [s1, s2, iS_cg (c - k) (E := fun p => F (k + p)) (fun p hq => by rw [show q_rot c k p = k + p from (if_pos (by omega)).trans (Nat.add_comm _ _)]), iS_cg k (F := fun p => F (q_rot c k (c - k + p))) (E := F) (fun p hq => by rw [show q_rot c k (c - k + p) = p from (if_neg (by omega)).trans (by omega)])]
  omega
theorem q_noinj : ∀ (n : Nat) (g : Nat → Nat), (∀ i, i < n + 1 → g i < n) → ¬ ∀ i j, i < n + 1 → j < n + 1 → g i = g j → i = j
  | 0, g, h, _ => absurd (h 0 (by omega)) (Nat.not_lt_zero _)
  | n + 1, g, h, hi => by
    refine q_noinj n (fun i => if g i = n then g (n + 1) else g i) (fun i hi2 => ?_) (fun i j h1 h2 e => ?_)
    · by_cases e : g i = n
      · rw [if_pos e]
        have h1 := h (n + 1) (by omega)
        have h2 : g (n + 1) ≠ n := fun q => by
          have := hi i (n + 1) (by omega) (by omega) (e.trans q.symm)
          omega
        omega
      · rw [if_neg e]
        have := h i (by omega)
        omega
    · have n1 : ∀ i, i < n + 1 → g i ≠ g (n + 1) := fun i h q => by
        have := hi i (n + 1) (by omega) (by omega) q
        omega
      by_cases e1 : g i = n
      · by_cases e2 : g j = n
        · exact hi i j (by omega) (by omega) (e1.trans e2.symm)
        · rw [if_pos e1, if_neg e2] at e
          exact absurd e.symm (n1 j h2)
      · by_cases e2 : g j = n
        · rw [if_neg e1, if_pos e2] at e
          exact absurd e (n1 i h1)
        · rw [if_neg e1, if_neg e2] at e
          exact hi i j (by omega) (by omega) e
theorem q_pm.surj {la : Nat → Nat} (h : q_pm c la) {y : Nat} (hy : y < c) : ∃ k, k < c ∧ la k = y := by
  refine Classical.byContradiction (fun hn => ?_)
  have hne : ∀ k, k < c → la k ≠ y := fun k hk e => hn ⟨k, hk, e⟩
  obtain ⟨e, he⟩ : ∃ e, c = e + 1 := ⟨c - 1, by omega⟩
  subst he
  refine q_noinj e (fun i => if la i = e then y else la i) (fun i hi => ?_) (fun i j h1 h2 q => ?_)
  · by_cases q : la i = e
    · rw [if_pos q]
      have := hne i hi
      omega
    · rw [if_neg q]
      have := h.1 i hi
      omega
  · by_cases q1 : la i = e
    · by_cases q2 : la j = e
      · exact h.2 i j h1 h2 (q1.trans q2.symm)
      · rw [if_pos q1, if_neg q2] at q
        exact absurd q.symm (hne j h2)
    · by_cases q2 : la j = e
      · rw [if_neg q1, if_pos q2] at q
        exact absurd q (hne i h1)
      · rw [if_neg q1, if_neg q2] at q
        exact h.2 i j h1 h2 q
theorem o_first {f : Nat} {b : Int64 × Int32} (hL : q_LB lo c) (hc : c ≤ 7) (hf : f < c) (hlo : ∀ x y p p', x < c → y < c → p < c → p' < c → lo x y p = lo x y p') : o_all c lo (c - 1) 1 (o_us (fun _ => false) f) (o_la (fun _ => 0) 0 f) (o_all c lo (c - 1) 1 (o_us (fun _ => false) 0) (o_la (fun _ => 0) 0 0) b) = o_all c lo (c - 1) 1 (o_us (fun _ => false) 0) (o_la (fun _ => 0) 0 0) b := by
  refine o_all_keep (c - 1) 1 _ _ (by omega) (fun j hj => ?_) (fun i j h1 h2 _ => by omega) (fun j hj => ?_) (fun la2 hp he => ?_)
  · have ej : j = 0 := by omega
    rw [ej, o_la_self]
    exact hf
  · have ej : j = 0 := by omega
    rw [ej, o_la_self]
    exact if_pos rfl
  · obtain ⟨k, hk, ek⟩ := hp.surj (y := 0) (by omega)
    have hr := o_ts_rot hL hc hk hp hlo
    have hpr : q_pm c (fun p => la2 (q_rot c k p)) := ⟨fun j hj => hp.1 _ (q_rot_lt hk hj), fun i j h1 h2 e => q_rot_inj hk h1 h2 (hp.2 _ _ (q_rot_lt hk h1) (q_rot_lt hk h2) e)⟩
    have h0 : la2 (q_rot c k 0) = 0 := by
      rw [show q_rot c k 0 = k from (if_pos (by omega)).trans (Nat.zero_add _)]
      exact ek
    have hh := o_all_hit (la2 := fun p => la2 (q_rot c k p)) hL hc hpr (c - 1) 1 (o_us (fun _ => false) 0) (o_la (fun _ => 0) 0 0) b (by omega) (fun j hj => by
      have ej : j = 0 := by omega
      rw [ej, o_la_self]
      exact h0.symm) (fun g hg => by
      unfold o_us at hg
      by_cases e : g = 0
      · exact ⟨0, by omega, h0.trans e.symm⟩
      · rw [if_neg e] at hg
        cases hg)
    unfold q_O at hh ⊢
    rw [hr] at hh
    exact hh
/-! the text that does not ask for the place -/
theorem sp_fact_p {f p q : Nat} {n : Int32} (h : n = 0 ∨ n = 1 ∨ n = 2 ∨ n = 3 ∨ n = 4) : sp_fact D f p n = sp_fact D f q n := by
  unfold sp_fact
  by_cases h0 : n = 0
  · rw [if_pos h0, if_pos h0]
  · rw [if_neg h0, if_neg h0]
    by_cases h1 : n = 1
    · rw [if_pos h1, if_pos h1]
    · rw [if_neg h1, if_neg h1]
      by_cases h2 : n = 2
      · rw [if_pos h2, if_pos h2]
      · rw [if_neg h2, if_neg h2]
        by_cases h3 : n = 3
        · rw [if_pos h3, if_pos h3]
        · rw [if_neg h3, if_neg h3]
          by_cases h4 : n = 4
          · rw [if_pos h4, if_pos h4]
          · exact absurd h (fun w => w.elim h0 (fun w => w.elim h1 (fun w => w.elim h2 (fun w => w.elim h3 h4))))
theorem sp_step_p {f p q : Nat} {m : Int32} {st : List Int32} (hs : q_sign m) (hn : m ≠ 10005) : sp_step (sp_fact D f p) m st = sp_step (sp_fact D f q) m st := by
  unfold sp_step
  by_cases h1 : m < 10100
  · rw [if_pos h1, if_pos h1]
    by_cases h2 : m < 10000
    · rw [if_pos h2, if_pos h2]
    · rw [if_neg h2, if_neg h2]
      have e : m - 10000 = 0 ∨ m - 10000 = 1 ∨ m - 10000 = 2 ∨ m - 10000 = 3 ∨ m - 10000 = 4 := by
        rcases hs with ⟨k, k1, k2, rfl⟩ | ⟨k, k1, k2, rfl⟩ | ⟨k, k1, k2, rfl⟩
        · exact absurd (nI_lt (b := 10000) (show k < 10000 by omega) (by decide)) h2
        · rcases (show k = 10000 ∨ k = 10001 ∨ k = 10002 ∨ k = 10003 ∨ k = 10004 ∨ k = 10005 by omega) with rfl | rfl | rfl | rfl | rfl | rfl
          · exact Or.inl (by decide)
          · exact Or.inr (Or.inl (by decide))
          · exact Or.inr (Or.inr (Or.inl (by decide)))
          · exact Or.inr (Or.inr (Or.inr (Or.inl (by decide))))
          · exact Or.inr (Or.inr (Or.inr (Or.inr (by decide))))
          · exact absurd rfl hn
        · exact absurd h1 (nI_nlt (b := 10100) (by omega) (by omega))
      rw [sp_fact_p e]
  · rw [if_neg h1, if_neg h1]
theorem sp_run_p {f p q : Nat} : ∀ (tx st : List Int32), (∀ m ∈ tx, q_sign m ∧ m ≠ 10005) → sp_run (sp_fact D f p) tx st = sp_run (sp_fact D f q) tx st
  | [], st, _ => rfl
  | m :: r, st, h => by
    show sp_run (sp_fact D f p) r (sp_step (sp_fact D f p) m st) = sp_run (sp_fact D f q) r (sp_step (sp_fact D f q) m st)
    rw [sp_step_p (q := q) (h m List.mem_cons_self).1 (h m List.mem_cons_self).2]
    exact sp_run_p r _ (fun x hx => h x (List.mem_cons_of_mem _ hx))
theorem sp_pa_p {f p q : Nat} (hW : WFd D) (hn : ¬ 10005 ∈ D.2.2.2.2) : sp_pa D f p = sp_pa D f q := by
  unfold sp_pa sp_gives
  rw [sp_run_p (q := q) D.2.2.2.2 [] (fun m hm => ⟨hW.2.2.2.2.2.2.2.2.1 m hm, fun e => hn (by rw [← e]; exact hm)⟩)]
theorem sp_lo_p {x y p q : Nat} (hW : WFd D) (hn : ¬ 10005 ∈ D.2.2.2.2) : sp_lo D x y p = sp_lo D x y q := by
  unfold sp_lo
  rw [sp_pa_p (p := p) (q := q) hW hn, sp_pa_p (p := sp_nx D p) (q := sp_nx D q) hW hn]
theorem sp_lo_bd (hW : WFd D) : q_LB (sp_lo D) (dC D) := by
  intro x y p hx hy hp
  obtain ⟨P, hP, eP⟩ := sp_pays_nat (D.1 x 2) (sp_gives D x p)
  obtain ⟨Q, hQ, eQ⟩ := sp_pays_nat (D.1 y 2) (sp_gives D y (sp_nx D p))
  obtain ⟨w, g, mi, si, f, h1, h2, h3, h4, h5, e1, e2, e3, e4, e5⟩ := sp_mrow_nat hW hx hy hP hQ
  obtain ⟨s1, s2, s3, s4, s5⟩ := sp_set_nat h1 hP h2 h3 h4 h5
  obtain ⟨o1, o2, o3, o4⟩ := sp_setN_ok (w := w) (P := P) (g := g) (mi := mi) (si := si) (f := f)
  obtain ⟨sp, _, t1, t2⟩ := hW.2.2.2.2.1 2 (by decide)
  have z : q_umax 2 = 999 := rfl
  have b1 := q_mN_le o1 o2
  have b2 := q_mN_le o3 o4
  have b3 := q_oN_le (P := q_mN (sp_setN w P g mi si f).1 (sp_setN w P g mi si f).2.1) (Q := q_mN (sp_setN w P g mi si f).2.2.1 (sp_setN w P g mi si f).2.2.2) (si := si)
  have r11 : sp_mrow D x y (nI P) (nI Q) 11 = nI (q_mN (sp_setN w P g mi si f).1 (sp_setN w P g mi si f).2.1) := by
    rw [← q_mill_N o1 o2 s3]
    unfold sp_mrow
    rw [e1, e2, e3, e4, e5, s1]
    rfl
  have r12 : sp_mrow D x y (nI P) (nI Q) 12 = nI (q_mN (sp_setN w P g mi si f).2.2.1 (sp_setN w P g mi si f).2.2.2) := by
    rw [← q_mill_N o3 o4 s5]
    unfold sp_mrow
    rw [e1, e2, e3, e4, e5, s1]
    rfl
  have r5 : sp_mrow D x y (nI P) (nI Q) 5 = nI mi := e3
  have r6 : sp_mrow D x y (nI P) (nI Q) 6 = nI si := e4
  have m1 : q_mN (sp_setN w P g mi si f).2.2.1 (sp_setN w P g mi si f).2.2.2 * mi ≤ 1000000 * 999 := Nat.mul_le_mul b2 h3
  have m2 : q_oN (q_mN (sp_setN w P g mi si f).1 (sp_setN w P g mi si f).2.1) (q_mN (sp_setN w P g mi si f).2.2.1 (sp_setN w P g mi si f).2.2.2) si * sp ≤ 1000000 * 999 := Nat.mul_le_mul (by omega) (by omega)
  have e : sp_lo D x y p = lN (q_mN (sp_setN w P g mi si f).2.2.1 (sp_setN w P g mi si f).2.2.2 * mi + q_oN (q_mN (sp_setN w P g mi si f).1 (sp_setN w P g mi si f).2.1) (q_mN (sp_setN w P g mi si f).2.2.1 (sp_setN w P g mi si f).2.2.2) si * sp) := by
    unfold sp_lo sp_pa
    rw [eP, eQ]
    dsimp only
    rw [r11, r12, r5, r6, t2]
    unfold sp_loses
    rw [sp_open_N b1 b2 h4, nI_l (by omega), nI_l (by omega), nI_l (by omega), nI_l (by omega), lN_mul, lN_mul, lN_add]
  rw [e, pk_lT (by omega)]
  omega
theorem o_best_all {x : Int32} (hW : WFd D) (h2 : 2 ≤ dC D) (h7 : dC D ≤ 7) : o_all (dC D) (sp_lo D) (dC D) 0 (fun _ => false) (fun _ => 0) (-1, x) = o_best D := by
  have hL := sp_lo_bd hW
  obtain ⟨e, he⟩ : ∃ e, dC D = e + 1 := ⟨dC D - 1, by omega⟩
  have hB : o_all (dC D) (sp_lo D) (dC D) 0 (fun _ => false) (fun _ => 0) (-1, x) = o_fold (fun f b => o_all (dC D) (sp_lo D) (dC D - 1) 1 (o_us (fun _ => false) f) (o_la (fun _ => 0) 0 f) b) (dC D) 0 (-1, x) := by
    have e1 : o_all (dC D) (sp_lo D) (dC D) 0 (fun _ => false) (fun _ => 0) (-1, x) = o_all (dC D) (sp_lo D) (dC D - 1 + 1) 0 (fun _ => false) (fun _ => 0) (-1, x) := by rw [show dC D - 1 + 1 = dC D by omega]
    rw [e1]
    rfl
  have hone : ∀ f, f < dC D → ∀ bm bc, q_Rb bm bc → q_Rb (o_all (dC D) (sp_lo D) (dC D - 1) 1 (o_us (fun _ => false) f) (o_la (fun _ => 0) 0 f) bm) (o_one (dC D) (sp_lo D) f bc) := fun f hf bm bc hb => by
    refine o_main hL h7 (dC D - 1) 1 _ 0 (nI f) (fun _ => f) (o_la (fun _ => 0) 0 f) _ bm bc (by omega) (Nat.le_refl _) (fun j hj => ?_) rfl ?_ (q_BU.one (by omega)) hb
    · have ej : j = 0 := by omega
      rw [ej, o_la_self]
      exact ⟨rfl, hf⟩
    · show nI f = 8 * 0 + nI (o_la (fun _ => 0) 0 f 0)
      rw [o_la_self, Int32.mul_zero, Int32.zero_add]
  have h0 : q_Rb (-1, x) (1152921504606846976, 0) := Or.inr ⟨rfl, rfl⟩
  have hR : q_Rb (o_all (dC D) (sp_lo D) (dC D) 0 (fun _ => false) (fun _ => 0) (-1, x)) (o_best D) := by
    rw [hB]
    unfold o_best
    by_cases ho : 10005 ∈ D.2.2.2.2
    · rw [if_pos ho]
      exact o_fold_rel (dC D) 0 _ _ (fun i a b _ hi h => hone i (by omega) a b h) h0
    · rw [if_neg ho]
      have e1 : o_fold (fun f b => o_all (dC D) (sp_lo D) (dC D - 1) 1 (o_us (fun _ => false) f) (o_la (fun _ => 0) 0 f) b) (dC D) 0 (-1, x) = o_all (dC D) (sp_lo D) (dC D - 1) 1 (o_us (fun _ => false) 0) (o_la (fun _ => 0) 0 0) (-1, x) := by
        have e2 : ∀ g : Nat → Int64 × Int32 → Int64 × Int32, o_fold g (dC D) 0 (-1, x) = o_fold g e 1 (g 0 (-1, x)) := fun g => by rw [he]; rfl
        rw [e2]
        exact o_fold_id e 1 (fun i _ hi => o_first hL h7 (by omega) (fun x y p p' _ _ _ _ => sp_lo_p hW ho))
      rw [e1]
      exact hone 0 (by omega) _ _ h0
  rcases hR with ⟨_, h⟩ | ⟨h, _⟩
  · exact h
  · have hh := o_all_hit (la2 := fun p => p) hL h7 ⟨fun j hj => hj, fun i j _ _ e => e⟩ (dC D) 0 (fun _ => false) (fun _ => 0) (-1, x) (Nat.add_zero _) (fun j hj => absurd hj (Nat.not_lt_zero _)) (fun f hf => by cases hf)
    unfold q_O at hh
    rw [h, show (-1 : Int64).toInt = -1 from rfl] at hh
    omega
end L61
section L61b
variable {G : Gx} {d : Nat} {I I' I2 : Rn} {L L' L2 : Rl} {K : Kt} {σ : St} {D : Dst}
theorem k_R_best {w : Int32} (hC : RepM I L σ) (hW : WFs σ) (hk : MKl K I L (op_best σ w)) : WW G (d + 7) mt_R_best 0 [some (.ref 95), some (.int w)] [] SH RF I L 0 0 0 0 K := by
  unfold op_best at hk
  have hcnt := hC.1.cnt hW.1
  have hc8 := hW.1.1.1
  refine r_ild1 f_R_best_0 ?_
  refine r_ic f_R_best_1 ?_
  refine r_ic f_R_best_2 ?_
  refine c_R_in f_R_best_3 (Nat.le_of_ble_eq_true rfl) (Nat.le_refl _) (Nat.le_refl _) ?_
  refine k_R_in (fun hwa hwb => ?_) (fun hw => ?_)
  · rw [if_pos ⟨hwa, hwb⟩] at hk
    refine r_if_ne f_R_best_6 (fun _ => ?_) (fun h => absurd h (by decide))
    refine r_ald0 f_R_best_17 ?_
    refine r_gr f_R_best_18 (s_95) (r_95_0) ?_
    refine r_ic f_R_best_21 ?_
    refine r_iald f_R_best_23 (s_96) (show q_ix 10 10 136 from ⟨by decide, by decide⟩) ?_
    rw [hcnt]
    refine r_ic f_R_best_24 ?_
    refine r_ic f_R_best_25 ?_
    refine c_R_in f_R_best_27 (Nat.le_of_ble_eq_true rfl) (Nat.le_refl _) (Nat.le_refl _) ?_
    refine k_R_in (fun hca hcb => ?_) (fun hcc => ?_)
    · rw [if_pos ⟨hca, hcb⟩] at hk
      have h2 : 2 ≤ dC σ.1 := (nI_leI (a := 2) (by decide) (by omega)).mp hca
      have h7 : dC σ.1 ≤ 7 := (nI_leI (b := 7) (by omega) (by decide)).mp hcb
      refine r_if_ne f_R_best_30 (fun _ => ?_) (fun h => absurd h (by decide))
      refine r_ald0 f_R_best_41 ?_
      refine c_R_findBest f_R_best_42 (s_95) (Nat.le_of_ble_eq_true rfl) (Nat.le_refl _) (Nat.le_refl _) ?_
      refine k_R_findBest hW.1 h7 h2 hC.1 (fun I8 L8 x b1 b2 g8 l8 => ?_)
      rw [o_best_all hW.1 h2 h7] at b1 b2
      have hC8 := hC.fm hW g8 l8
      refine r_ild1 f_R_best_45 ?_
      refine r_if_ne f_R_best_46 (fun h46 => ?_) (fun h46 => ?_)
      · rw [if_neg h46] at hk
        refine r_ald0 f_R_best_57 ?_
        refine r_gl f_R_best_58 (s_95) ?_
        first | rw [b1] | skip
        refine r_lret f_R_best_61 rfl (Nat.le_refl _) (Nat.le_refl _) ?_
        exact hk _ _ hC8 (q_lw.fm g8 l8)
      · rw [if_pos h46] at hk
        refine r_ald0 f_R_best_49 ?_
        refine r_gi f_R_best_50 (s_95) ?_
        rw [b2]
        refine r_i2l f_R_best_53 ?_
        refine r_goto f_R_best_54 ?_
        first | rw [b1] | skip
        refine r_lret f_R_best_61 rfl (Nat.le_refl _) (Nat.le_refl _) ?_
        exact hk _ _ hC8 (q_lw.fm g8 l8)
    · rw [if_neg hcc] at hk
      refine r_if_ne f_R_best_30 (fun h => absurd h (by decide)) (fun _ => ?_)
      refine r_ald0 f_R_best_33 ?_
      refine r_ic f_R_best_34 ?_
      refine c_R_finds f_R_best_36 (s_95) (Nat.le_of_ble_eq_true rfl) (Nat.le_refl _) (Nat.le_refl _) ?_
      refine k_R_finds (k := 3) (by decide) (by decide) hC hW (fun I9 hC9 hi9 => ?_)
      refine r_i2l f_R_best_39 ?_
      refine r_lret f_R_best_40 rfl (Nat.le_refl _) (Nat.le_refl _) ?_
      exact hk _ _ hC9 hi9
  · rw [if_neg hw] at hk
    refine r_if_ne f_R_best_6 (fun h => absurd h (by decide)) (fun _ => ?_)
    refine r_ald0 f_R_best_9 ?_
    refine r_ic f_R_best_10 ?_
    refine c_R_finds f_R_best_12 (s_95) (Nat.le_of_ble_eq_true rfl) (Nat.le_refl _) (Nat.le_refl _) ?_
    refine k_R_finds (k := 0) (by decide) (by decide) hC hW (fun I9 hC9 hi9 => ?_)
    refine r_i2l f_R_best_15 ?_
    refine r_lret f_R_best_16 rfl (Nat.le_refl _) (Nat.le_refl _) ?_
    exact hk _ _ hC9 hi9
end L61b
