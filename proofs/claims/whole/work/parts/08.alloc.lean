/-! RULES that make cells; arraycopy -/
def Fn (M : Mt) (pc k n nx : Nat) : Prop := ∃ (ix : Nat) (C : String) (T : u_T) (ty : Nat → FieldType), decode M.2.1 pc = .ok (.new ix, 3) ∧ pc + 3 = nx ∧ q_Kf k C T n ty ∧ Cond.classLink M.1.cls ix C ∈ q_gw ∧ Cond.instantiable C n ∈ q_gw ∧ Cond.initialized C ∈ q_gw ∧ ∀ j, j < n → defaultValue (ty j) = (match q_ft k j with | 0 => .int 0 | 1 => .long 0 | _ => .null)
def Fo (M : Mt) (pc nx : Nat) : Prop := ∃ ix, decode M.2.1 pc = .ok (.invokespecial ix, 3) ∧ pc + 3 = nx ∧ Cond.methodLink M.1.cls ix Lib.objectInit ∈ q_gw ∧ Cond.instanceMethod Lib.objectInit ∈ q_gw ∧ Cond.code Lib.objectInit ⟨#[0xb1]⟩ 1 none ∈ q_gw
def q_at_of (k : Nat) : ArrayType := if k = 20 then .int else if k = 21 then .long else .boolean
def Fna (M : Mt) (pc k nx : Nat) : Prop := decode M.2.1 pc = .ok (.newarray (q_at_of k), 2) ∧ pc + 2 = nx ∧ (k = 20 ∨ k = 21 ∨ k = 22) ∧ Cond.arrayClass (newarray.typeOf (q_at_of k)) ∈ q_gw
def q_qn (k : Nat) : String := if k = 23 then "NightDitch$Farm" else "NightDitch$Meet"
def Fnq (M : Mt) (pc k nx : Nat) : Prop := ∃ ix, decode M.2.1 pc = .ok (.anewarray ix, 3) ∧ pc + 3 = nx ∧ (k = 23 ∨ k = 24) ∧ Cond.classLink M.1.cls ix (q_qn k) ∈ q_gw
section RA
variable {G : Gx} {d : Nat} {M : Mt} {pc nx : Nat} {ls : List (Option Value)} {st : List Value} {S : Shp} {R : Rf} {I : Rn} {L : Rl} {ce sl mc ms : Nat} {K : Kt}
variable {p : Program} {e : Env} {Rm : Room} {s : State} {m : MethodId} {args : Array Value} {below : List Frame} {meth : Method} {c : Code} {H : Heap} {locs : List Loc} {Q : State → Prop} {la : Array Slot}
theorem r_obj {i : Nat} (hd : Fo M pc nx) (hr : (st.map fun v => v.category).sum ≤ 8) (kk : WW G d M nx ls st S R I L ce sl mc ms K) : WW G d M pc ls (.ref i :: st) S R I L ce sl mc ms K := by
  intro p e Rm s m args below meth c H locs Q la hF hW hS hl hR
  obtain ⟨ix, hd, rfl, w1, w2, w3⟩ := hd
  obtain ⟨f1, f2, f3, f4, f5, f6, f7, f8, f9, f10, f11, -⟩ := id hF
  refine W.objInit f1 f2 f7 (f8 _ w1) (f8 _ w2) (f8 _ w3) rfl (hl.1.trans f3.symm) (a := q_ad G i) (rest := st.map (q_cv G)) rfl hd (by omega) ?_ (kk p e Rm s m args below meth c H locs Q la hF hW hS hl hR)
  have := q_rest (G := G) (m := m) (pc := pc) (la := la) (st0 := (Value.ref i :: st).map (q_cv G)) hr
  omega
theorem q_Sput (hS : va_S (q_A G) s.heap H locs) {H1 : Heap} (hz : H1.size = H.size + 1) (ho : ∀ q, q < H.size → H1[q]? = H[q]?) : va_S (q_A G) s.heap H1 locs :=
  ⟨Nat.le_trans hS.1 (by omega), fun q h1 h2 => (ho q (Nat.lt_of_lt_of_le h1 hS.1)).trans (hS.2.1 q h1 h2), hS.2.2⟩
theorem r_new {k n : Nat} (hd : Fn M pc k n nx) (hb : S.length + 1 ≤ 1000) (hc : ce + 1 ≤ mc) (hs : sl + n ≤ ms) (kk : WW G d M nx ls (.ref S.length :: st) (S ++ [(k, n)]) (q_clr R S.length none) (q_clr I S.length 0) (q_clr L S.length 0) (ce + 1) (sl + n) mc ms K) : WW G d M pc ls st S R I L ce sl mc ms K := by
  intro p e Rm s m args below meth c H locs Q la hF hW hS hl hR
  obtain ⟨ix, C, T, ty, hd, rfl, ⟨k1, k2, k3, k4, k5⟩, w1, w2, w3, hdf⟩ := hd
  obtain ⟨f1, f2, f3, f4, f5, f6, f7, f8, f9, f10, f11, f12, f13⟩ := id hF
  have hKn := f9.1.1 k _ k1
  refine W.newcK f1 f2 f7 (f8 _ w1) (f8 _ w2) (f8 _ w3) rfl hd (Nat.le_trans hc f12) (Nat.le_trans hs f13) hKn.2.1 rfl fun H1 kC hkC e1 z1 o1 => ?_
  have hW1 : q_Wd G (S ++ [(k, n)]) (q_clr R S.length none) (q_clr I S.length 0) (q_clr L S.length 0) H1 := by
    refine hW.push hb z1 o1 (fun a ha => ⟨q_clr_row ha, q_clr_row ha, q_clr_row ha⟩) ?_
    rw [q_at_obj (by omega), ← hW.1]
    refine (u_born ty f8 k2 hKn hkC e1 k3).to (fun j hj => ?_)
    rw [hdf j hj]
    unfold q_val q_clr
    generalize q_ft k j = t
    rcases t with _ | _ | t <;> simp [va_rf]
  have k0 := kk p e Rm s m args below meth c H1 locs Q la hF hW1 (q_Sput hS z1 o1) hl hR
  have e0 : (Value.ref S.length :: st).map (q_cv G) = .ref H.size :: st.map (q_cv G) := by
    have : q_ad G S.length = H.size := by rw [hW.1]; exact if_pos (by omega)
    rw [← this]
    rfl
  rw [e0] at k0
  exact k0
theorem r_newa {k n : Nat} {x : Int32} (hd : Fna M pc k nx) (hx : x.toInt = (n : Int)) (hn : n ≤ 1000) (hb : S.length + 1 ≤ 1000) (hc : ce + 1 ≤ mc) (hs : sl + n ≤ ms) (kk : WW G d M nx ls (.ref S.length :: st) (S ++ [(k, n)]) (q_clr R S.length none) (q_clr I S.length 0) (q_clr L S.length 0) (ce + 1) (sl + n) mc ms K) : WW G d M pc ls (.int x :: st) S R I L ce sl mc ms K := by
  intro p e Rm s m args below meth c H locs Q la hF hW hS hl hR
  obtain ⟨hd, rfl, hk, w1⟩ := hd
  obtain ⟨f1, f2, f3, f4, f5, f6, f7, f8, f9, f10, f11, f12, f13⟩ := id hF
  have hcl : x.toNatClampNeg = n := by
    show x.toInt.toNat = n
    rw [hx]
    rfl
  have hneg : ¬ x < 0 := by
    intro h
    have := Int32.lt_iff_toInt_lt.mp h
    rw [hx] at this
    have h0 : (0 : Int32).toInt = 0 := by decide
    rw [h0] at this
    omega
  have e0 : (Value.ref S.length :: st).map (q_cv G) = .ref H.size :: st.map (q_cv G) := by
    have : q_ad G S.length = H.size := by rw [hW.1]; exact if_pos (by omega)
    rw [← this]
    rfl
  refine va_newaK (N := n) (rest := st.map (q_cv G)) f1 f2 (f8 _ w1) rfl hd rfl hneg hcl (by rcases hk with rfl | rfl | rfl <;> (simp [q_at_of, newarray.typeOf, componentBytes]; omega)) (Nat.le_trans hc f12) (Nat.le_trans hs f13) rfl fun H1 cA e1 z1 o1 hAr hNm => ?_
  have hW1 : q_Wd G (S ++ [(k, n)]) (q_clr R S.length none) (q_clr I S.length 0) (q_clr L S.length 0) H1 := by
    refine hW.push hb z1 o1 (fun a ha => ⟨q_clr_row ha, q_clr_row ha, q_clr_row ha⟩) ?_
    have hcA : cA = G.2.2.2.2.1 (k - 20) := by
      rcases hk with rfl | rfl | rfl
      · exact Option.some.inj (hNm.symm.trans (f9.1.2 0 _ rfl).2)
      · exact Option.some.inj (hNm.symm.trans (f9.1.2 1 _ rfl).2)
      · exact Option.some.inj (hNm.symm.trans (f9.1.2 2 _ rfl).2)
    rw [q_at_arr (by omega), ← hW.1, e1, hcA]
    congr 2
    funext j
    rcases hk with rfl | rfl | rfl <;> simp [q_at_of, newarray.typeOf, defaultValue, q_aty, q_val, q_clr]
  have k0 := kk p e Rm s m args below meth c H1 locs Q la hF hW1 (q_Sput hS z1 o1) hl hR
  rw [e0] at k0
  exact k0
theorem r_newq {k n : Nat} {x : Int32} (hd : Fnq M pc k nx) (hx : x.toInt = (n : Int)) (hn : n ≤ 1000) (hb : S.length + 1 ≤ 1000) (hc : ce + 1 ≤ mc) (hs : sl + n ≤ ms) (kk : WW G d M nx ls (.ref S.length :: st) (S ++ [(k, n)]) (q_clr R S.length none) (q_clr I S.length 0) (q_clr L S.length 0) (ce + 1) (sl + n) mc ms K) : WW G d M pc ls (.int x :: st) S R I L ce sl mc ms K := by
  intro p e Rm s m args below meth c H locs Q la hF hW hS hl hR
  obtain ⟨ix, hd, rfl, hk, w1⟩ := hd
  obtain ⟨f1, f2, f3, f4, f5, f6, f7, f8, f9, f10, f11, f12, f13⟩ := id hF
  have hcl : x.toNatClampNeg = n := by
    show x.toInt.toNat = n
    rw [hx]
    rfl
  have hneg : ¬ x < 0 := by
    intro h
    have := Int32.lt_iff_toInt_lt.mp h
    rw [hx] at this
    have h0 : (0 : Int32).toInt = 0 := by decide
    rw [h0] at this
    omega
  have e0 : (Value.ref S.length :: st).map (q_cv G) = .ref H.size :: st.map (q_cv G) := by
    have : q_ad G S.length = H.size := by rw [hW.1]; exact if_pos (by omega)
    rw [← this]
    rfl
  have hao : va_AO (q_qn k) s := by
    rcases hk with rfl | rfl
    · exact f9.2.2.1.1
    · exact f9.2.2.1.2.1
  subst hcl
  refine W.anew (rest := st.map (q_cv G)) f1 f2 f7 (f8 _ w1) (va_AO.use hao) rfl hd rfl hneg (by omega) (Nat.le_trans hc f12) (Nat.le_trans hs f13) fun cA kA comp h1 h2 h3 h4 => ?_
  have hcA : cA = G.2.2.2.2.1 (k - 20) := by
    rcases hk with rfl | rfl
    · obtain ⟨_, _, _, _, _, h9⟩ := (f9.1.2 3 _ rfl).2
      exact Option.some.inj (h1.symm.trans h9)
    · obtain ⟨_, _, _, _, _, h9⟩ := (f9.1.2 4 _ rfl).2
      exact Option.some.inj (h1.symm.trans h9)
  have ho : ∀ q, q < H.size → (H.push ({ cls := cA, slots := Array.replicate x.toNatClampNeg .null, vm := .none } : Cell))[q]? = H[q]? := fun q hq => by rw [Array.getElem?_push, if_neg (Nat.ne_of_lt hq)]
  have hW1 : q_Wd G (S ++ [(k, x.toNatClampNeg)]) (q_clr R S.length none) (q_clr I S.length 0) (q_clr L S.length 0) (H.push { cls := cA, slots := Array.replicate x.toNatClampNeg .null, vm := .none }) := by
    refine hW.push hb (by simp) ho (fun a ha => ⟨q_clr_row ha, q_clr_row ha, q_clr_row ha⟩) ?_
    rw [q_at_arr (by omega), ← hW.1, hcA, arrV_new]
    rw [Array.getElem?_push_size]
    congr 2
    funext j
    rcases hk with rfl | rfl <;> simp [q_aty, q_val, q_clr, va_rf]
  have k0 := kk p e Rm s m args below meth c _ locs Q la hF hW1 (q_Sput hS (by simp) ho) hl hR
  rw [e0] at k0
  exact k0
theorem r_aast {a n j k x nk kv : Nat} {i : Int32} (hd : Ft M pc .aastore 1 nx) (hk : (k = 23 ∧ kv = 1) ∨ (k = 24 ∧ kv = 2)) (hi : S[a]? = some (k, n)) (hj : q_ix i j n) (hv : S[x]? = some (kv, nk)) (kk : WW G d M nx ls st S (u2 R a j (some x)) I L ce sl mc ms K) : WW G d M pc ls (.ref x :: .int i :: .ref a :: st) S R I L ce sl mc ms K := by
  intro p e Rm s m args below meth c H locs Q la hF hW hS hl hR
  obtain ⟨hd, rfl⟩ := hd
  have e0 : (Value.ref x :: Value.int i :: Value.ref a :: st).map (q_cv G) = .ref (G.2.1 + x) :: .int i :: .ref (G.2.1 + a) :: st.map (q_cv G) := by rw [← q_ad_lt hW hi, ← q_ad_lt hW hv]; rfl
  rw [e0]
  have ex : q_ad G x = G.2.1 + x := q_ad_lt hW hv
  obtain ⟨f1, f2, f3, f4, f5, f6, f7, f8, f9, -⟩ := id hF
  have hvc := hW.2.2 x _ hv
  rw [q_at_obj (by omega)] at hvc
  obtain ⟨cv, v1, v2, v3, -⟩ := hvc
  have hin : ¬ i < 0 ∧ i.toNatClampNeg < n := by
    have h9 := hj.in
    refine ⟨fun h => h9 (Or.inl h), ?_⟩
    rw [hj.clamp]
    exact hj.2
  have main : ∀ (C : String) (q : vw_C), q.1 = C → q_cls[kv]? = some q → va_RA s (G.2.2.2.2.1 (k - 20)) (.object C) → W p G.1 e Rm s m args below meth c H locs ce sl Q (F0 m pc la (.ref (G.2.1 + x) :: .int i :: .ref (G.2.1 + a) :: st.map (q_cv G))) := by
    intro C q hqC hq hRA
    obtain ⟨kA, comp, r1, r2, r3, r4⟩ := hRA
    obtain ⟨-, hca⟩ := f9.1.1 kv q hq
    have hasg := va_assign hca
    obtain ⟨hfc, kC, hkC, hkind⟩ := hca
    rw [hqC] at hfc
    have ecc : comp = G.2.2.2.1.1 kv := Option.some.inj (r3.symm.trans hfc)
    refine W.aast f1 f2 (q_arr (by omega) hW hi) (fun _ h => by cases h) (fun h => by cases h) r1 r2 rfl (by rw [ecc]; exact hkC) ⟨hin.1, by rw [arrV_size]; exact hin.2⟩ v1 (fun _ h => by rw [v3] at h; cases h) (by rw [v2]; exact hkC) (by rw [v2, ecc]; exact hasg) rfl rfl hd fun H1 e1 e2 e3 => ?_
    rw [hj.clamp] at e1
    refine kk p e Rm s m args below meth c H1 _ Q la hF (q_storedA (by omega) hW hi e1 e2 e3 (fun b hb => ⟨u2_row hb, rfl, rfl⟩) ?_) (hS.put e2 e3 (show q_A G (G.2.1 + a) from Nat.le_add_right _ _)) hl hR
    rw [← ex]
    exact q_updAR (by rcases hk with ⟨rfl, -⟩ | ⟨rfl, -⟩ <;> rfl)
  rcases hk with ⟨rfl, rfl⟩ | ⟨rfl, rfl⟩
  · exact main _ _ rfl rfl (f9.1.2 3 _ rfl).2
  · exact main _ _ rfl rfl (f9.1.2 4 _ rfl).2
/-- n values of row a from place sp on, laid into row b from place dp on -/
def q_cpy {α : Type} (f : Nat → Nat → α) (a sp b dp n : Nat) : Nat → Nat → α := fun x y => if x = b ∧ dp ≤ y ∧ y < dp + n then f a (sp + (y - dp)) else f x y
theorem q_cpy_row {α : Type} {f : Nat → Nat → α} {a sp b dp n x : Nat} (h : x ≠ b) : q_cpy f a sp b dp n x = f x := by
  funext y
  unfold q_cpy
  rw [if_neg (fun q => h q.1)]
def Fac (M : Mt) (pc nx : Nat) : Prop := ∃ ix, decode M.2.1 pc = .ok (.invokestatic ix, 3) ∧ pc + 3 = nx ∧ Cond.methodLink M.1.cls ix arraycopyName ∈ q_gw ∧ Cond.native arraycopyName ∈ q_gw ∧ Cond.static arraycopyName ∈ q_gw ∧ Cond.initialized "java/lang/System" ∈ q_gw
theorem q_copy {k na nb a b jn sp dp : Nat} {n xs xd : Int32} {ty : FieldType} {R' : Rf} {I' : Rn} {L' : Rl} (hd : Fac M pc nx) (hk : (k = 20 ∧ ty = .int) ∨ (k = 21 ∧ ty = .long)) (ha : S[a]? = some (k, na)) (hb : S[b]? = some (k, nb)) (hn : n.toInt = (jn : Int)) (hs : xs.toInt = (sp : Int)) (hdp : xd.toInt = (dp : Int)) (h4 : sp + jn ≤ na) (h5 : dp + jn ≤ nb)
    (hv : ∀ y, (if dp ≤ y ∧ y < dp + jn then q_val G R I L (q_aty k) a (sp + (y - dp)) else q_val G R I L (q_aty k) b y) = q_val G R' I' L' (q_aty k) b y) (hrow : ∀ x, x ≠ b → R' x = R x ∧ I' x = I x ∧ L' x = L x) (hst : (st.map fun v => v.category).sum ≤ 8)
    (kk : WW G d M nx ls st S R' I' L' ce sl mc ms K) : WW G (d + 1) M pc ls (.int n :: .int xd :: .ref b :: .int xs :: .ref a :: st) S R I L ce sl mc ms K := by
  intro p e Rm s m args below meth c H locs Q la hF hW hS hl hR
  obtain ⟨ix, hd, rfl, w1, w2, w3, w4⟩ := hd
  obtain ⟨f1, f2, f3, f4, f5, f6, f7, f8, f9, f10, f11, f12⟩ := id hF
  have e0 : (Value.int n :: Value.int xd :: Value.ref b :: Value.int xs :: Value.ref a :: st).map (q_cv G) = .int n :: .int xd :: .ref (G.2.1 + b) :: .int xs :: .ref (G.2.1 + a) :: st.map (q_cv G) := by rw [← q_ad_lt hW ha, ← q_ad_lt hW hb]; rfl
  rw [e0]
  have clamp : ∀ {z : Int32} {t : Nat}, z.toInt = (t : Int) → z.toNatClampNeg = t := fun {z t} h => by
    show z.toInt.toNat = t
    rw [h]
    rfl
  have nneg : ∀ {z : Int32} {t : Nat}, z.toInt = (t : Int) → ¬ z < 0 := fun {z t} h q => by
    have h9 := Int32.lt_iff_toInt_lt.mp q
    rw [h, show (0 : Int32).toInt = 0 by decide] at h9
    omega
  have hca := q_arr (by omega) hW ha
  have hcb := q_arr (by omega) hW hb
  have htys : ∃ t0 : Nat, (q_tys G)[t0]? = some (G.2.2.2.2.1 (k - 20), ty) := by
    rcases hk with ⟨rfl, rfl⟩ | ⟨rfl, rfl⟩
    · exact ⟨0, rfl⟩
    · exact ⟨1, rfl⟩
  obtain ⟨t0, ht0⟩ := htys
  obtain ⟨-, k0, hk0, cm0, hkk0⟩ := (f9.1.2 t0 _ ht0).1 na (fun j => q_val G R I L (q_aty k) a j)
  intro T hT X
  obtain ⟨vm', X', step⟩ := X.arraycopy f1 f7 (f8 _ w1) (f8 _ w2) (f8 _ w3) (f8 _ w4) (src := G.2.1 + a) (dst := G.2.1 + b) (cs := arrV (G.2.2.2.2.1 (k - 20)) na (fun j => q_val G R I L (q_aty k) a j)) (cd := arrV (G.2.2.2.2.1 (k - 20)) nb (fun j => q_val G R I L (q_aty k) b j)) (srcPos := xs) (destPos := xd) (n := n) (by rw [hT]; exact hca) (by rw [hT]; exact hcb)
    (fun _ h => by cases h) (fun _ h => by cases h) (fun h => by cases h) (fun h => by cases h) hk0 hk0 hkk0 hkk0 (by rcases hk with ⟨-, rfl⟩ | ⟨-, rfl⟩ <;> rfl) (nneg hs) (nneg hdp) (nneg hn)
    (by rw [arrV_size, hs, hn]; omega) (by rw [arrV_size, hdp, hn]; omega)
    (fun vm₁ _ i hi => by
      rw [clamp hn] at hi
      have e1 : (arrV (G.2.2.2.2.1 (k - 20)) na (fun j => q_val G R I L (q_aty k) a j)).slots.getD (xs.toNatClampNeg + i) .null = q_val G R I L (q_aty k) a (sp + i) := by
        rw [clamp hs, Array.getD_eq_getD_getElem?, arrV_read _ _ (by omega)]
        rfl
      rw [e1]
      rcases hk with ⟨rfl, rfl⟩ | ⟨rfl, rfl⟩
      · exact ⟨rfl, trivial⟩
      · exact ⟨rfl, trivial⟩)
    (g := F0 m pc la (.int n :: .int xd :: .ref (G.2.1 + b) :: .int xs :: .ref (G.2.1 + a) :: st.map (q_cv G))) rfl (hl.1.trans f3.symm) (rest := st.map (q_cv G)) rfl (by rw [f2]; exact hd) (by omega) (by
      have := q_rest (G := G) (m := m) (pc := pc) (la := la) (st0 := []) hst
      have h9 : nativeFrameWords "java/lang/System" "arraycopy" 5 + 11 ≤ 64 := by decide +kernel
      show 2 * 0 + _ + _ ≤ _
      have h8 : ((st.map (q_cv G)).map fun v => v.category).sum ≤ 8 := by rw [q_cats]; exact hst
      omega)
  have e1 : copied (arrV (G.2.2.2.2.1 (k - 20)) na (fun j => q_val G R I L (q_aty k) a j)) (arrV (G.2.2.2.2.1 (k - 20)) nb (fun j => q_val G R I L (q_aty k) b j)) xs xd n = arrV (G.2.2.2.2.1 (k - 20)) nb (fun j => q_val G R' I' L' (q_aty k) b j) := by
    have h9 := va_copied (fun z : Value => z) (G.2.2.2.2.1 (k - 20)) (G.2.2.2.2.1 (k - 20)) (n0 := na) (n1 := nb) (sp := sp) (dp := dp) (n := jn) (fun j => q_val G R I L (q_aty k) a j) (fun j => q_val G R I L (q_aty k) b j) h4
    have h8 : copied (arrV (G.2.2.2.2.1 (k - 20)) na (fun j => q_val G R I L (q_aty k) a j)) (arrV (G.2.2.2.2.1 (k - 20)) nb (fun j => q_val G R I L (q_aty k) b j)) xs xd n = (arrV (G.2.2.2.2.1 (k - 20)) nb (fun j => q_val G R I L (q_aty k) b j)).storeRun dp ((arrV (G.2.2.2.2.1 (k - 20)) na (fun j => q_val G R I L (q_aty k) a j)).stretch sp jn) := by
      unfold copied
      rw [clamp hs, clamp hdp, clamp hn]
    rw [h8, h9]
    congr 1
    funext y
    exact hv y
  rw [e1] at X' step
  have hlt : G.2.1 + b < H.size := (Array.getElem?_eq_some_iff.mp hcb).1
  have hheap : ((T.setVm vm').setCell (G.2.1 + b) (arrV (G.2.2.2.2.1 (k - 20)) nb (fun j => q_val G R' I' L' (q_aty k) b j))).heap = H.setIfInBounds (G.2.1 + b) (arrV (G.2.2.2.2.1 (k - 20)) nb (fun j => q_val G R' I' L' (q_aty k) b j)) := by rw [← hT]; rfl
  have oq : ∀ q : Nat, q ≠ G.2.1 + b → (H.setIfInBounds (G.2.1 + b) (arrV (G.2.2.2.2.1 (k - 20)) nb (fun j => q_val G R' I' L' (q_aty k) b j)))[q]? = H[q]? := fun q hq => by simp [Array.getElem?_setIfInBounds, Ne.symm hq]
  have hW1 : q_Wd G S R' I' L' (H.setIfInBounds (G.2.1 + b) (arrV (G.2.2.2.2.1 (k - 20)) nb (fun j => q_val G R' I' L' (q_aty k) b j))) := by
    refine hW.upd hb (by simp) oq hrow ?_
    rw [q_at_arr (by omega)]
    simp [Array.getElem?_setIfInBounds, hlt]
  have hF' : q_Fx G d M mc ms p Rm s m args meth c := ⟨f1, f2, f3, f4, f5, f6, f7, f8, f9, by omega, by omega, f12⟩
  obtain ⟨t, a1, b1⟩ := kk p e Rm s m args below meth c _ _ Q la hF' hW1 ⟨by simp; exact hS.1, fun q g1 g2 => by
      rw [oq q (fun e => g2 (by rw [e]; exact Nat.le_add_right _ _))]
      exact hS.2.1 q g1 g2, fun q hq => by
      rcases List.mem_append.mp hq with h | h
      · exact hS.2.2 q h
      · obtain ⟨z, -, hz⟩ := List.mem_map.mp h
        rw [← hz]
        exact Nat.le_add_right _ _⟩ hl hR _ hheap X'
  exact ⟨t, step t a1, b1⟩
theorem r_cpi {na nb a b jn sp dp : Nat} {n xs xd : Int32} (hd : Fac M pc nx) (ha : S[a]? = some (20, na)) (hb : S[b]? = some (20, nb)) (hn : n.toInt = (jn : Int)) (hs : xs.toInt = (sp : Int)) (hdp : xd.toInt = (dp : Int)) (h4 : sp + jn ≤ na) (h5 : dp + jn ≤ nb) (hst : (st.map fun v => v.category).sum ≤ 8)
    (kk : WW G d M nx ls st S R (q_cpy I a sp b dp jn) L ce sl mc ms K) : WW G (d + 1) M pc ls (.int n :: .int xd :: .ref b :: .int xs :: .ref a :: st) S R I L ce sl mc ms K := by
  refine q_copy hd (Or.inl ⟨rfl, rfl⟩) ha hb hn hs hdp h4 h5 (fun y => ?_) (fun x hx => ⟨rfl, q_cpy_row hx, rfl⟩) hst kk
  show (if dp ≤ y ∧ y < dp + jn then Value.int (I a (sp + (y - dp))) else Value.int (I b y)) = Value.int (q_cpy I a sp b dp jn b y)
  unfold q_cpy
  by_cases h : dp ≤ y ∧ y < dp + jn
  · rw [if_pos h, if_pos ⟨rfl, h⟩]
  · rw [if_neg h, if_neg (fun q => h q.2)]
theorem r_cpl {na nb a b jn sp dp : Nat} {n xs xd : Int32} (hd : Fac M pc nx) (ha : S[a]? = some (21, na)) (hb : S[b]? = some (21, nb)) (hn : n.toInt = (jn : Int)) (hs : xs.toInt = (sp : Int)) (hdp : xd.toInt = (dp : Int)) (h4 : sp + jn ≤ na) (h5 : dp + jn ≤ nb) (hst : (st.map fun v => v.category).sum ≤ 8)
    (kk : WW G d M nx ls st S R I (q_cpy L a sp b dp jn) ce sl mc ms K) : WW G (d + 1) M pc ls (.int n :: .int xd :: .ref b :: .int xs :: .ref a :: st) S R I L ce sl mc ms K := by
  refine q_copy hd (Or.inr ⟨rfl, rfl⟩) ha hb hn hs hdp h4 h5 (fun y => ?_) (fun x hx => ⟨rfl, rfl, q_cpy_row hx⟩) hst kk
  show (if dp ≤ y ∧ y < dp + jn then Value.long (L a (sp + (y - dp))) else Value.long (L b y)) = Value.long (q_cpy L a sp b dp jn b y)
  unfold q_cpy
  by_cases h : dp ≤ y ∧ y < dp + jn
  · rw [if_pos h, if_pos ⟨rfl, h⟩]
  · rw [if_neg h, if_neg (fun q => h q.2)]
end RA
