/-! THE ABSTRACT WORLD: all cells that the law makes, by numbers 0, 1, ..; what they hold as three functions; references by numbers (from 1000 on: the four static arrays and the script) -/
abbrev Gx : Type := Launch × Nat × (Nat → Nat) × va_G × (Nat → ClassId) × (Nat → Int32) × Nat
abbrev Rf : Type := Nat → Nat → Option Nat
abbrev Rn : Type := Nat → Nat → Int32
abbrev Rl : Type := Nat → Nat → Int64
abbrev Shp : Type := List (Nat × Nat)
def u2 {α : Type} (f : Nat → Nat → α) (i j : Nat) (v : α) : Nat → Nat → α := fun a b => if a = i ∧ b = j then v else f a b
def q_clr {α : Type} (f : Nat → Nat → α) (i : Nat) (v : α) : Nat → Nat → α := fun a b => if a = i then v else f a b
theorem u2_row {α : Type} {f : Nat → Nat → α} {i j a : Nat} {v : α} (h : a ≠ i) : u2 f i j v a = f a := by
  funext b
  unfold u2
  rw [if_neg (fun q => h q.1)]
theorem u2_self {α : Type} {f : Nat → Nat → α} {i j : Nat} {v : α} : u2 f i j v i j = v := if_pos ⟨rfl, rfl⟩
theorem u2_ne {α : Type} {f : Nat → Nat → α} {i j a b : Nat} {v : α} (h : a ≠ i ∨ b ≠ j) : u2 f i j v a b = f a b := if_neg (fun q => h.elim (fun e => e q.1) (fun e => e q.2))
theorem q_clr_row {α : Type} {f : Nat → Nat → α} {i a : Nat} {v : α} (h : a ≠ i) : q_clr f i v a = f a := by
  funext b
  unfold q_clr
  rw [if_neg h]
def q_ad (G : Gx) (i : Nat) : Nat := if i < 1000 then G.2.1 + i else G.2.2.1 (i - 1000)
def q_cv (G : Gx) (v : Value) : Value := match v with
  | .ref i => .ref (q_ad G i)
  | .int x => .int x
  | .long x => .long x
  | .float x => .float x
  | .double x => .double x
  | .null => .null
  | .retAddr x => .retAddr x
theorem q_cv_cat (G : Gx) (v : Value) : (q_cv G v).category = v.category := by cases v <;> rfl
theorem q_cv_rf (G : Gx) (r : Option Nat) : q_cv G (va_rf r) = va_rf (r.map (q_ad G)) := by cases r <;> rfl
/-- what an array of a kind holds -/
def q_aty (k : Nat) : Nat := if k = 20 ∨ k = 22 then 0 else if k = 21 then 1 else 2
def q_val (G : Gx) (R : Rf) (I : Rn) (L : Rl) (tc i j : Nat) : Value := match tc with
  | 0 => .int (I i j)
  | 1 => .long (L i j)
  | _ => va_rf ((R i j).map (q_ad G))
def q_at (G : Gx) (R : Rf) (I : Rn) (L : Rl) (sh : Nat × Nat) (i : Nat) (H : Heap) : Prop :=
  if sh.1 < 20 then t_OB (G.2.1 + i) (G.2.2.2.1.1 sh.1) sh.2 (G.2.2.2.1.2 sh.1) H (fun j => q_val G R I L (q_ft sh.1 j) i j)
  else H[G.2.1 + i]? = some (arrV (G.2.2.2.2.1 (sh.1 - 20)) sh.2 (fun j => q_val G R I L (q_aty sh.1) i j))
def q_Wd (G : Gx) (S : Shp) (R : Rf) (I : Rn) (L : Rl) (H : Heap) : Prop := H.size = G.2.1 + S.length ∧ S.length ≤ 1000 ∧ ∀ (i : Nat) (sh : Nat × Nat), S[i]? = some sh → q_at G R I L sh i H
def q_A (G : Gx) : Nat → Prop := fun q => G.2.1 ≤ q
theorem q_at_obj {G : Gx} {R : Rf} {I : Rn} {L : Rl} {k n i : Nat} {H : Heap} (hk : k < 20) : q_at G R I L (k, n) i H = t_OB (G.2.1 + i) (G.2.2.2.1.1 k) n (G.2.2.2.1.2 k) H (fun j => q_val G R I L (q_ft k j) i j) := if_pos hk
theorem q_at_arr {G : Gx} {R : Rf} {I : Rn} {L : Rl} {k n i : Nat} {H : Heap} (hk : ¬ k < 20) : q_at G R I L (k, n) i H = (H[G.2.1 + i]? = some (arrV (G.2.2.2.2.1 (k - 20)) n (fun j => q_val G R I L (q_aty k) i j))) := if_neg hk
theorem q_val_row {G : Gx} {R R' : Rf} {I I' : Rn} {L L' : Rl} {tc i j : Nat} (h1 : R' i = R i) (h2 : I' i = I i) (h3 : L' i = L i) : q_val G R' I' L' tc i j = q_val G R I L tc i j := by
  unfold q_val
  rw [h1, h2, h3]
theorem q_at_row {G : Gx} {R R' : Rf} {I I' : Rn} {L L' : Rl} {sh : Nat × Nat} {i : Nat} {H : Heap} (h1 : R' i = R i) (h2 : I' i = I i) (h3 : L' i = L i) : q_at G R' I' L' sh i H = q_at G R I L sh i H := by
  unfold q_at
  simp only [q_val_row h1 h2 h3]
theorem q_at_kept {G : Gx} {R : Rf} {I : Rn} {L : Rl} {sh : Nat × Nat} {i : Nat} {H H1 : Heap} (h : q_at G R I L sh i H) (hq : H1[G.2.1 + i]? = H[G.2.1 + i]?) : q_at G R I L sh i H1 := by
  unfold q_at at h ⊢
  split
  · rename_i hk
    rw [if_pos hk] at h
    exact h.kept hq
  · rename_i hk
    rw [if_neg hk] at h
    rw [hq]
    exact h
theorem q_lt {S : Shp} {i : Nat} {sh : Nat × Nat} (h : S[i]? = some sh) : i < S.length := (List.getElem?_eq_some_iff.mp h).1
theorem q_ad_lt {G : Gx} {S : Shp} {R : Rf} {I : Rn} {L : Rl} {H : Heap} {i : Nat} {sh : Nat × Nat} (hW : q_Wd G S R I L H) (h : S[i]? = some sh) : q_ad G i = G.2.1 + i := if_pos (Nat.lt_of_lt_of_le (q_lt h) hW.2.1)
/-- one cell has changed -/
theorem q_Wd.upd {G : Gx} {S : Shp} {R R' : Rf} {I I' : Rn} {L L' : Rl} {H H1 : Heap} {i : Nat} {sh : Nat × Nat} (hW : q_Wd G S R I L H) (hs : S[i]? = some sh) (hz : H1.size = H.size) (ho : ∀ q, q ≠ G.2.1 + i → H1[q]? = H[q]?) (hr : ∀ a, a ≠ i → R' a = R a ∧ I' a = I a ∧ L' a = L a) (hn : q_at G R' I' L' sh i H1) : q_Wd G S R' I' L' H1 := by
  refine ⟨hz.trans hW.1, hW.2.1, fun a sa ha => ?_⟩
  by_cases e : a = i
  · subst e
    have e2 : sa = sh := Option.some.inj (ha.symm.trans hs)
    subst e2
    exact hn
  · obtain ⟨r1, r2, r3⟩ := hr a e
    rw [q_at_row r1 r2 r3]
    exact q_at_kept (hW.2.2 a sa ha) (ho _ (by omega))
/-- one cell more -/
theorem q_Wd.push {G : Gx} {S : Shp} {R R' : Rf} {I I' : Rn} {L L' : Rl} {H H1 : Heap} {sh : Nat × Nat} (hW : q_Wd G S R I L H) (hb : S.length + 1 ≤ 1000) (hz : H1.size = H.size + 1) (ho : ∀ q, q < H.size → H1[q]? = H[q]?) (hr : ∀ a, a ≠ S.length → R' a = R a ∧ I' a = I a ∧ L' a = L a) (hn : q_at G R' I' L' sh S.length H1) : q_Wd G (S ++ [sh]) R' I' L' H1 := by
  refine ⟨by rw [hz, hW.1, List.length_append]; rfl, by rw [List.length_append]; exact hb, fun a sa ha => ?_⟩
  by_cases e : a < S.length
  · rw [List.getElem?_append_left e] at ha
    obtain ⟨r1, r2, r3⟩ := hr a (Nat.ne_of_lt e)
    rw [q_at_row r1 r2 r3]
    exact q_at_kept (hW.2.2 a sa ha) (ho _ (by rw [hW.1]; omega))
  · rw [List.getElem?_append_right (by omega)] at ha
    have h0 : a - S.length < 1 := (List.getElem?_eq_some_iff.mp ha).1
    have ea : a = S.length := by omega
    subst ea
    rw [Nat.sub_self] at ha
    cases ha
    exact hn
/-! THE TABLES -/
def q_gw : List Cond := lw_tbl.filter goodWord
def q_isN (w : Cond) : Bool := match w with
  | .methodLinkNest _ _ _ _ => true
  | .fieldLinkNest _ _ _ _ _ _ => true
  | _ => false
def q_nw : List Cond := tables_1.filter q_isN
theorem q_gw_in {w : Cond} (i : Nat) (h : tables_1[i]? = some w ∧ goodWord w = true) : w ∈ q_gw := List.mem_filter.mpr ⟨List.mem_append_right _ (List.mem_of_getElem? h.1), h.2⟩
theorem q_gw_sel {w : Cond} (i : Nat) (h : (k2_sels lw_privs)[i]? = some w ∧ goodWord w = true) : w ∈ q_gw := List.mem_filter.mpr ⟨List.mem_append_left _ (List.mem_of_getElem? h.1), h.2⟩
theorem q_nw_in {w : Cond} (i : Nat) (h : tables_1[i]? = some w ∧ q_isN w = true) : w ∈ q_nw := List.mem_filter.mpr ⟨List.mem_of_getElem? h.1, h.2⟩
theorem q_nw_warm {s U : State} (hW : s.WarmedH U.vm) {w : Cond} (hw : w ∈ q_nw) (h : va_Nw w s) : va_Nw w U := by
  have hn := (List.mem_filter.mp hw).2
  cases w <;> first | exact va_Nw.warmM hW h | exact va_Nw.warmF hW h | cases hn
theorem q_nw_same {u U : State} (hv : u.vm = U.vm) {w : Cond} (hw : w ∈ q_nw) (h : va_Nw w u) : va_Nw w U := by
  have hn := (List.mem_filter.mp hw).2
  cases w <;> first | exact va_Nw.same rfl hv h | cases hn
def q_tys (G : Gx) : List (ClassId × FieldType) := [(G.2.2.2.2.1 0, .int), (G.2.2.2.2.1 1, .long), (G.2.2.2.2.1 2, .boolean), (G.2.2.2.2.1 3, .object "NightDitch$Farm"), (G.2.2.2.2.1 4, .object "NightDitch$Meet"), (G.2.2.2.2.1 5, .array .long)]
/-- the four static arrays: names, lengths, values -/
def q_sn (k : Nat) : String := (["UNDER", "RULE_MOST", "FARM_LEAST", "FARM_MOST"] : List String).getD k ""
def q_sl (k : Nat) : Nat := ([6, 5, 4, 4] : List Nat).getD k 0
def q_sv (k j : Nat) : Int32 := (([[-1, 0, 0, 2, 2, 1], [99999, 100, 999, 100, 100], [1, 0, 0, 0], [24, 999, 999, 100]] : List (List Int32)).getD k []).getD j 0
def q_Tb (G : Gx) (U : State) : Prop :=
  va_K G.2.2.2.1 q_cls (q_tys G) U ∧ (∀ w ∈ q_nw, va_Nw w U) ∧ (va_AO "NightDitch$Farm" U ∧ va_AO "NightDitch$Meet" U ∧ (Cond.arrayOver (.array .long)).before #[] U = true) ∧
  (∀ k, k < 4 → va_Z "NightDitch" (q_sn k) "[I" (.ref (G.2.2.1 k)) (q_A G) U U.heap ∧ va_T .int (G.2.2.1 k) (q_sl k) (fun j => .int (q_sv k j)) (q_A G) U U.heap) ∧
  va_X (G.2.2.1 4) G.2.2.2.2.2.2 G.2.2.2.2.2.1 U U.heap ∧ G.2.2.1 4 < U.heap.size ∧ ¬ q_A G (G.2.2.1 4) ∧ G.2.1 ≤ U.heap.size
