/-! RULES, an instruction each -/
def Ft (M : Mt) (pc : Nat) (i : Instr) (n nx : Nat) : Prop := decode M.2.1 pc = .ok (i, n) ∧ pc + n = nx
def Fb (M : Mt) (pc : Nat) (mk : Int → Instr) (tgt nx : Nat) : Prop := ∃ off : Int, decode M.2.1 pc = .ok (mk off, 3) ∧ (pc : Int) + off = (tgt : Int) ∧ pc + 3 = nx
/-- an int is pushed -/
def Fc (M : Mt) (pc : Nat) (v : Int32) (nx : Nat) : Prop := (∃ n : Int, decode M.2.1 pc = .ok (.iconst n, 1) ∧ Int32.ofInt n = v ∧ pc + 1 = nx) ∨ (∃ n : Int, decode M.2.1 pc = .ok (.bipush n, 2) ∧ (Int8.ofInt n).toInt32 = v ∧ pc + 2 = nx) ∨ (∃ n : Int, decode M.2.1 pc = .ok (.sipush n, 3) ∧ (Int16.ofInt n).toInt32 = v ∧ pc + 3 = nx) ∨ (∃ ix : Nat, decode M.2.1 pc = .ok (.ldc ix, 2) ∧ Cond.constant M.1.cls ix v ∈ q_gw ∧ pc + 2 = nx) ∨ (∃ ix : Nat, decode M.2.1 pc = .ok (.ldc_w ix, 3) ∧ Cond.constant M.1.cls ix v ∈ q_gw ∧ pc + 3 = nx)
/-- a long is pushed -/
def Fk (M : Mt) (pc : Nat) (v : Int64) (nx : Nat) : Prop := (∃ n : Fin 2, decode M.2.1 pc = .ok (.lconst n, 1) ∧ Int64.ofNat (n : Nat) = v ∧ pc + 1 = nx) ∨ (∃ ix : Nat, decode M.2.1 pc = .ok (.ldc2_w ix, 3) ∧ Cond.constantLong M.1.cls ix v ∈ q_gw ∧ pc + 3 = nx)
/-- a variable is loaded, or stored -/
def Fvr (M : Mt) (pc : Nat) (mn : Fin 4 → Instr) (mi : Nat → Instr) (i nx : Nat) : Prop := ((∃ k : Fin 4, decode M.2.1 pc = .ok (mn k, 1) ∧ (k : Nat) = i ∧ pc + 1 = nx) ∨ (decode M.2.1 pc = .ok (mi i, 2) ∧ pc + 2 = nx)) ∧ i + 1 ≤ M.2.2.1
def Fi (M : Mt) (pc i : Nat) (v : Int32) (nx : Nat) : Prop := ∃ n : Int, decode M.2.1 pc = .ok (.iinc i n, 3) ∧ Int32.ofInt n = v ∧ pc + 3 = nx ∧ i < M.2.2.1
/-- an index: j of n places -/
def q_ix (i : Int32) (j n : Nat) : Prop := i.toInt = (j : Int) ∧ j < n
theorem q_ix.clamp {i : Int32} {j n : Nat} (h : q_ix i j n) : i.toNatClampNeg = j := by
  show i.toInt.toNat = j
  rw [h.1]
  rfl
theorem q_ix.in {i : Int32} {j n : Nat} (h : q_ix i j n) : vp_in i n := vp_in_iff.mpr ⟨by rw [h.1]; omega, by rw [h.1]; exact Int.ofNat_lt.mpr h.2⟩
theorem q_ix.nI {j n : Nat} (h : j < n) (hn : n < 2 ^ 31) : q_ix (nI j) j n := ⟨nI_toInt (by omega), h⟩
/-- not the first half of a long -/
def q_n2 (v : Option Value) : Bool := match v with
  | some (.long _) => false
  | some (.double _) => false
  | _ => true
section RU
variable {G : Gx} {d : Nat} {M : Mt} {pc nx tgt : Nat} {ls : List (Option Value)} {st : List Value} {S : Shp} {R : Rf} {I : Rn} {L : Rl} {ce sl mc ms : Nat} {K : Kt}
theorem r_iadd {x y : Int32} (hd : Ft M pc .iadd 1 nx) (k : WW G d M nx ls (.int (x + y) :: st) S R I L ce sl mc ms K) : WW G d M pc ls (.int y :: .int x :: st) S R I L ce sl mc ms K := by
  intro p e Rm s m args below meth c H locs Q la hF hW hS hl hR
  obtain ⟨hd, rfl⟩ := hd
  exact lv_iadd hF.1 hF.2.1 hd (k p e Rm s m args below meth c H locs Q la hF hW hS hl hR)
theorem r_isub {x y : Int32} (hd : Ft M pc .isub 1 nx) (k : WW G d M nx ls (.int (x - y) :: st) S R I L ce sl mc ms K) : WW G d M pc ls (.int y :: .int x :: st) S R I L ce sl mc ms K := by
  intro p e Rm s m args below meth c H locs Q la hF hW hS hl hR
  obtain ⟨hd, rfl⟩ := hd
  exact lv_isub hF.1 hF.2.1 hd (k p e Rm s m args below meth c H locs Q la hF hW hS hl hR)
theorem r_imul {x y : Int32} (hd : Ft M pc .imul 1 nx) (k : WW G d M nx ls (.int (x * y) :: st) S R I L ce sl mc ms K) : WW G d M pc ls (.int y :: .int x :: st) S R I L ce sl mc ms K := by
  intro p e Rm s m args below meth c H locs Q la hF hW hS hl hR
  obtain ⟨hd, rfl⟩ := hd
  exact lv_imul hF.1 hF.2.1 hd (k p e Rm s m args below meth c H locs Q la hF hW hS hl hR)
theorem r_iand {x y : Int32} (hd : Ft M pc .iand 1 nx) (k : WW G d M nx ls (.int (x &&& y) :: st) S R I L ce sl mc ms K) : WW G d M pc ls (.int y :: .int x :: st) S R I L ce sl mc ms K := by
  intro p e Rm s m args below meth c H locs Q la hF hW hS hl hR
  obtain ⟨hd, rfl⟩ := hd
  exact lv_iand hF.1 hF.2.1 hd (k p e Rm s m args below meth c H locs Q la hF hW hS hl hR)
theorem r_ior {x y : Int32} (hd : Ft M pc .ior 1 nx) (k : WW G d M nx ls (.int (x ||| y) :: st) S R I L ce sl mc ms K) : WW G d M pc ls (.int y :: .int x :: st) S R I L ce sl mc ms K := by
  intro p e Rm s m args below meth c H locs Q la hF hW hS hl hR
  obtain ⟨hd, rfl⟩ := hd
  exact lv_ior hF.1 hF.2.1 hd (k p e Rm s m args below meth c H locs Q la hF hW hS hl hR)
theorem r_ixor {x y : Int32} (hd : Ft M pc .ixor 1 nx) (k : WW G d M nx ls (.int (x ^^^ y) :: st) S R I L ce sl mc ms K) : WW G d M pc ls (.int y :: .int x :: st) S R I L ce sl mc ms K := by
  intro p e Rm s m args below meth c H locs Q la hF hW hS hl hR
  obtain ⟨hd, rfl⟩ := hd
  exact lv_ixor hF.1 hF.2.1 hd (k p e Rm s m args below meth c H locs Q la hF hW hS hl hR)
theorem r_ishl {x y : Int32} (hd : Ft M pc .ishl 1 nx) (k : WW G d M nx ls (.int (x <<< (y &&& 31)) :: st) S R I L ce sl mc ms K) : WW G d M pc ls (.int y :: .int x :: st) S R I L ce sl mc ms K := by
  intro p e Rm s m args below meth c H locs Q la hF hW hS hl hR
  obtain ⟨hd, rfl⟩ := hd
  exact lv_ishl hF.1 hF.2.1 hd (k p e Rm s m args below meth c H locs Q la hF hW hS hl hR)
theorem r_ishr {x y : Int32} (hd : Ft M pc .ishr 1 nx) (k : WW G d M nx ls (.int (x >>> (y &&& 31)) :: st) S R I L ce sl mc ms K) : WW G d M pc ls (.int y :: .int x :: st) S R I L ce sl mc ms K := by
  intro p e Rm s m args below meth c H locs Q la hF hW hS hl hR
  obtain ⟨hd, rfl⟩ := hd
  exact lv_ishr hF.1 hF.2.1 hd (k p e Rm s m args below meth c H locs Q la hF hW hS hl hR)
theorem r_ladd {x y : Int64} (hd : Ft M pc .ladd 1 nx) (k : WW G d M nx ls (.long (x + y) :: st) S R I L ce sl mc ms K) : WW G d M pc ls (.long y :: .long x :: st) S R I L ce sl mc ms K := by
  intro p e Rm s m args below meth c H locs Q la hF hW hS hl hR
  obtain ⟨hd, rfl⟩ := hd
  exact lv_ladd hF.1 hF.2.1 hd (k p e Rm s m args below meth c H locs Q la hF hW hS hl hR)
theorem r_lsub {x y : Int64} (hd : Ft M pc .lsub 1 nx) (k : WW G d M nx ls (.long (x - y) :: st) S R I L ce sl mc ms K) : WW G d M pc ls (.long y :: .long x :: st) S R I L ce sl mc ms K := by
  intro p e Rm s m args below meth c H locs Q la hF hW hS hl hR
  obtain ⟨hd, rfl⟩ := hd
  exact lv_lsub hF.1 hF.2.1 hd (k p e Rm s m args below meth c H locs Q la hF hW hS hl hR)
theorem r_lmul {x y : Int64} (hd : Ft M pc .lmul 1 nx) (k : WW G d M nx ls (.long (x * y) :: st) S R I L ce sl mc ms K) : WW G d M pc ls (.long y :: .long x :: st) S R I L ce sl mc ms K := by
  intro p e Rm s m args below meth c H locs Q la hF hW hS hl hR
  obtain ⟨hd, rfl⟩ := hd
  exact lv_lmul hF.1 hF.2.1 hd (k p e Rm s m args below meth c H locs Q la hF hW hS hl hR)
theorem r_land {x y : Int64} (hd : Ft M pc .land 1 nx) (k : WW G d M nx ls (.long (x &&& y) :: st) S R I L ce sl mc ms K) : WW G d M pc ls (.long y :: .long x :: st) S R I L ce sl mc ms K := by
  intro p e Rm s m args below meth c H locs Q la hF hW hS hl hR
  obtain ⟨hd, rfl⟩ := hd
  exact lv_land hF.1 hF.2.1 hd (k p e Rm s m args below meth c H locs Q la hF hW hS hl hR)
theorem r_lor {x y : Int64} (hd : Ft M pc .lor 1 nx) (k : WW G d M nx ls (.long (x ||| y) :: st) S R I L ce sl mc ms K) : WW G d M pc ls (.long y :: .long x :: st) S R I L ce sl mc ms K := by
  intro p e Rm s m args below meth c H locs Q la hF hW hS hl hR
  obtain ⟨hd, rfl⟩ := hd
  exact lv_lor hF.1 hF.2.1 hd (k p e Rm s m args below meth c H locs Q la hF hW hS hl hR)
theorem r_lxor {x y : Int64} (hd : Ft M pc .lxor 1 nx) (k : WW G d M nx ls (.long (x ^^^ y) :: st) S R I L ce sl mc ms K) : WW G d M pc ls (.long y :: .long x :: st) S R I L ce sl mc ms K := by
  intro p e Rm s m args below meth c H locs Q la hF hW hS hl hR
  obtain ⟨hd, rfl⟩ := hd
  exact lv_lxor hF.1 hF.2.1 hd (k p e Rm s m args below meth c H locs Q la hF hW hS hl hR)
theorem r_idiv {x y : Int32} (hd : Ft M pc .idiv 1 nx) (hne : ¬ y = 0) (k : WW G d M nx ls (.int (x / y) :: st) S R I L ce sl mc ms K) : WW G d M pc ls (.int y :: .int x :: st) S R I L ce sl mc ms K := by
  intro p e Rm s m args below meth c H locs Q la hF hW hS hl hR
  obtain ⟨hd, rfl⟩ := hd
  exact lv_idiv hF.1 hF.2.1 hd hne (k p e Rm s m args below meth c H locs Q la hF hW hS hl hR)
theorem r_irem {x y : Int32} (hd : Ft M pc .irem 1 nx) (hne : ¬ y = 0) (k : WW G d M nx ls (.int (x - x / y * y) :: st) S R I L ce sl mc ms K) : WW G d M pc ls (.int y :: .int x :: st) S R I L ce sl mc ms K := by
  intro p e Rm s m args below meth c H locs Q la hF hW hS hl hR
  obtain ⟨hd, rfl⟩ := hd
  exact lv_irem hF.1 hF.2.1 hd hne (k p e Rm s m args below meth c H locs Q la hF hW hS hl hR)
theorem r_ldiv {x y : Int64} (hd : Ft M pc .ldiv 1 nx) (hne : ¬ y = 0) (k : WW G d M nx ls (.long (x / y) :: st) S R I L ce sl mc ms K) : WW G d M pc ls (.long y :: .long x :: st) S R I L ce sl mc ms K := by
  intro p e Rm s m args below meth c H locs Q la hF hW hS hl hR
  obtain ⟨hd, rfl⟩ := hd
  exact lv_ldiv hF.1 hF.2.1 hd hne (k p e Rm s m args below meth c H locs Q la hF hW hS hl hR)
theorem r_lrem {x y : Int64} (hd : Ft M pc .lrem 1 nx) (hne : ¬ y = 0) (k : WW G d M nx ls (.long (x - x / y * y) :: st) S R I L ce sl mc ms K) : WW G d M pc ls (.long y :: .long x :: st) S R I L ce sl mc ms K := by
  intro p e Rm s m args below meth c H locs Q la hF hW hS hl hR
  obtain ⟨hd, rfl⟩ := hd
  exact lv_lrem hF.1 hF.2.1 hd hne (k p e Rm s m args below meth c H locs Q la hF hW hS hl hR)
theorem r_ineg {x : Int32} (hd : Ft M pc .ineg 1 nx) (k : WW G d M nx ls (.int (-x) :: st) S R I L ce sl mc ms K) : WW G d M pc ls (.int x :: st) S R I L ce sl mc ms K := by
  intro p e Rm s m args below meth c H locs Q la hF hW hS hl hR
  obtain ⟨hd, rfl⟩ := hd
  exact lv_ineg hF.1 hF.2.1 hd (k p e Rm s m args below meth c H locs Q la hF hW hS hl hR)
theorem r_iushr {x y : Int32} (hd : Ft M pc .iushr 1 nx) (k : WW G d M nx ls (.int (x.toUInt32 >>> (y.toUInt32 &&& Int32.toUInt32 31)).toInt32 :: st) S R I L ce sl mc ms K) : WW G d M pc ls (.int y :: .int x :: st) S R I L ce sl mc ms K := by
  intro p e Rm s m args below meth c H locs Q la hF hW hS hl hR
  obtain ⟨hd, rfl⟩ := hd
  exact lv_iushr hF.1 hF.2.1 hd rfl (k p e Rm s m args below meth c H locs Q la hF hW hS hl hR)
theorem r_lshl {x : Int64} {y : Int32} (hd : Ft M pc .lshl 1 nx) (k : WW G d M nx ls (.long (x <<< (y.toInt64 &&& 63)) :: st) S R I L ce sl mc ms K) : WW G d M pc ls (.int y :: .long x :: st) S R I L ce sl mc ms K := by
  intro p e Rm s m args below meth c H locs Q la hF hW hS hl hR
  obtain ⟨hd, rfl⟩ := hd
  exact lv_lshl hF.1 hF.2.1 hd rfl (k p e Rm s m args below meth c H locs Q la hF hW hS hl hR)
theorem r_i2l {x : Int32} (hd : Ft M pc .i2l 1 nx) (k : WW G d M nx ls (.long x.toInt64 :: st) S R I L ce sl mc ms K) : WW G d M pc ls (.int x :: st) S R I L ce sl mc ms K := by
  intro p e Rm s m args below meth c H locs Q la hF hW hS hl hR
  obtain ⟨hd, rfl⟩ := hd
  exact lv_i2l hF.1 hF.2.1 hd rfl (k p e Rm s m args below meth c H locs Q la hF hW hS hl hR)
theorem r_l2i {x : Int64} (hd : Ft M pc .l2i 1 nx) (k : WW G d M nx ls (.int x.toInt32 :: st) S R I L ce sl mc ms K) : WW G d M pc ls (.long x :: st) S R I L ce sl mc ms K := by
  intro p e Rm s m args below meth c H locs Q la hF hW hS hl hR
  obtain ⟨hd, rfl⟩ := hd
  exact lv_l2i hF.1 hF.2.1 hd rfl (k p e Rm s m args below meth c H locs Q la hF hW hS hl hR)
theorem r_i2b {x : Int32} (hd : Ft M pc .i2b 1 nx) (k : WW G d M nx ls (.int x.toInt8.toInt32 :: st) S R I L ce sl mc ms K) : WW G d M pc ls (.int x :: st) S R I L ce sl mc ms K := by
  intro p e Rm s m args below meth c H locs Q la hF hW hS hl hR
  obtain ⟨hd, rfl⟩ := hd
  exact lv_i2b hF.1 hF.2.1 hd rfl (k p e Rm s m args below meth c H locs Q la hF hW hS hl hR)
theorem r_i2s {x : Int32} (hd : Ft M pc .i2s 1 nx) (k : WW G d M nx ls (.int x.toInt16.toInt32 :: st) S R I L ce sl mc ms K) : WW G d M pc ls (.int x :: st) S R I L ce sl mc ms K := by
  intro p e Rm s m args below meth c H locs Q la hF hW hS hl hR
  obtain ⟨hd, rfl⟩ := hd
  exact lv_i2s hF.1 hF.2.1 hd rfl (k p e Rm s m args below meth c H locs Q la hF hW hS hl hR)
theorem r_lcmp {x y : Int64} (hd : Ft M pc .lcmp 1 nx) (k : WW G d M nx ls (.int (lg_cmp x y) :: st) S R I L ce sl mc ms K) : WW G d M pc ls (.long y :: .long x :: st) S R I L ce sl mc ms K := by
  intro p e Rm s m args below meth c H locs Q la hF hW hS hl hR
  obtain ⟨hd, rfl⟩ := hd
  exact W.lcmp hF.1 hF.2.1 hd (k p e Rm s m args below meth c H locs Q la hF hW hS hl hR)
theorem r_dupi {x : Int32} (hd : Ft M pc .dup 1 nx) (k : WW G d M nx ls (.int x :: .int x :: st) S R I L ce sl mc ms K) : WW G d M pc ls (.int x :: st) S R I L ce sl mc ms K := by
  intro p e Rm s m args below meth c H locs Q la hF hW hS hl hR
  obtain ⟨hd, rfl⟩ := hd
  exact lv_dup hF.1 hF.2.1 hd rfl (k p e Rm s m args below meth c H locs Q la hF hW hS hl hR)
theorem r_dupr {x : Nat} (hd : Ft M pc .dup 1 nx) (k : WW G d M nx ls (.ref x :: .ref x :: st) S R I L ce sl mc ms K) : WW G d M pc ls (.ref x :: st) S R I L ce sl mc ms K := by
  intro p e Rm s m args below meth c H locs Q la hF hW hS hl hR
  obtain ⟨hd, rfl⟩ := hd
  exact lv_dup hF.1 hF.2.1 hd rfl (k p e Rm s m args below meth c H locs Q la hF hW hS hl hR)
theorem r_dup2 {x : Int32} {y : Nat} (hd : Ft M pc .dup2 1 nx) (k : WW G d M nx ls (.int x :: .ref y :: .int x :: .ref y :: st) S R I L ce sl mc ms K) : WW G d M pc ls (.int x :: .ref y :: st) S R I L ce sl mc ms K := by
  intro p e Rm s m args below meth c H locs Q la hF hW hS hl hR
  obtain ⟨hd, rfl⟩ := hd
  exact lv_dup2_11 hF.1 hF.2.1 hd rfl rfl (k p e Rm s m args below meth c H locs Q la hF hW hS hl hR)
theorem r_ic {v : Int32} (hd : Fc M pc v nx) (k : WW G d M nx ls (.int v :: st) S R I L ce sl mc ms K) : WW G d M pc ls st S R I L ce sl mc ms K := by
  intro p e Rm s m args below meth c H locs Q la hF hW hS hl hR
  have kk := k p e Rm s m args below meth c H locs Q la hF hW hS hl hR
  rcases hd with ⟨n, h1, h2, rfl⟩ | ⟨n, h1, h2, rfl⟩ | ⟨n, h1, h2, rfl⟩ | ⟨n, h1, h2, rfl⟩ | ⟨n, h1, h2, rfl⟩
  · exact lv_iconst hF.1 hF.2.1 h1 h2 kk
  · exact lv_bipush hF.1 hF.2.1 h1 h2 kk
  · exact lv_sipush hF.1 hF.2.1 h1 h2 kk
  · exact lv_ldc hF.1 hF.2.1 hF.2.2.2.2.2.2.1 (hF.2.2.2.2.2.2.2.1 _ h2) h1 kk
  · exact lv_ldcw hF.1 hF.2.1 hF.2.2.2.2.2.2.1 (hF.2.2.2.2.2.2.2.1 _ h2) h1 kk
theorem r_lc {v : Int64} (hd : Fk M pc v nx) (k : WW G d M nx ls (.long v :: st) S R I L ce sl mc ms K) : WW G d M pc ls st S R I L ce sl mc ms K := by
  intro p e Rm s m args below meth c H locs Q la hF hW hS hl hR
  have kk := k p e Rm s m args below meth c H locs Q la hF hW hS hl hR
  rcases hd with ⟨n, h1, h2, rfl⟩ | ⟨n, h1, h2, rfl⟩
  · exact lv_lconst hF.1 hF.2.1 h1 h2 kk
  · exact lv_ldc2 hF.1 hF.2.1 hF.2.2.2.2.2.2.1 (hF.2.2.2.2.2.2.2.1 _ h2) h1 kk
theorem r_ild {i : Nat} {x : Int32} (hd : Fvr M pc .iload_n .iload i nx) (hv : ls[i]? = some (some (.int x))) (k : WW G d M nx ls (.int x :: st) S R I L ce sl mc ms K) : WW G d M pc ls st S R I L ce sl mc ms K := by
  intro p e Rm s m args below meth c H locs Q la hF hW hS hl hR
  have kk := k p e Rm s m args below meth c H locs Q la hF hW hS hl hR
  rcases hd.1 with ⟨n, h1, h2, rfl⟩ | ⟨h1, rfl⟩
  · exact lv_iload_n hF.1 hF.2.1 h1 h2 (q_lv_get hl hv) kk
  · exact lv_iload hF.1 hF.2.1 h1 (q_lv_get hl hv) kk
theorem r_lld {i : Nat} {x : Int64} (hd : Fvr M pc .lload_n .lload i nx) (hv : ls[i]? = some (some (.long x))) (k : WW G d M nx ls (.long x :: st) S R I L ce sl mc ms K) : WW G d M pc ls st S R I L ce sl mc ms K := by
  intro p e Rm s m args below meth c H locs Q la hF hW hS hl hR
  have kk := k p e Rm s m args below meth c H locs Q la hF hW hS hl hR
  rcases hd.1 with ⟨n, h1, h2, rfl⟩ | ⟨h1, rfl⟩
  · exact lv_lload_n hF.1 hF.2.1 h1 h2 (q_lv_get hl hv) kk
  · exact lv_lload hF.1 hF.2.1 h1 (q_lv_get hl hv) kk
theorem r_ald {i : Nat} {x : Nat} (hd : Fvr M pc .aload_n .aload i nx) (hv : ls[i]? = some (some (.ref x))) (k : WW G d M nx ls (.ref x :: st) S R I L ce sl mc ms K) : WW G d M pc ls st S R I L ce sl mc ms K := by
  intro p e Rm s m args below meth c H locs Q la hF hW hS hl hR
  have kk := k p e Rm s m args below meth c H locs Q la hF hW hS hl hR
  rcases hd.1 with ⟨n, h1, h2, rfl⟩ | ⟨h1, rfl⟩
  · exact lv_aload_n hF.1 hF.2.1 h1 h2 (q_lv_get hl hv) kk
  · exact lv_aload hF.1 hF.2.1 h1 (q_lv_get hl hv) kk
theorem q_st1 {ls : List (Option Value)} {i : Nat} {v : Value} {nL : Nat} {la : Array Slot} (hp : ∀ j, i = j + 1 → q_n2 (ls.getD j none) = true) (h : lv_has la nL ((i, q_cv G v) :: (q_lv G ls).filter (fun q => !(q.1 == i) && !(q.1 + 1 == i && q.2.category == 2)))) : lv_has la nL (q_lv G (ls.set i (some v))) := by
  refine ⟨h.1, h.2.1, fun q hq => h.2.2 q ?_⟩
  obtain ⟨w, h1, h2⟩ := q_lv_mem.mp hq
  by_cases e : q.1 = i
  · have hlt : i < (ls.set i (some v)).length := by have h9 := (List.getElem?_eq_some_iff.mp h1).1; rw [e] at h9; exact h9
    rw [e, List.getElem?_set_self (by simpa using hlt)] at h1
    cases h1
    refine List.mem_cons.mpr (Or.inl ?_)
    cases q
    cases e
    cases h2
    rfl
  · rw [List.getElem?_set_ne (Ne.symm e)] at h1
    refine List.mem_cons.mpr (Or.inr (List.mem_filter.mpr ⟨q_lv_mem.mpr ⟨w, h1, h2⟩, ?_⟩))
    simp only [Bool.and_eq_true, Bool.not_eq_true', beq_eq_false_iff_ne, ne_eq, Bool.and_eq_false_iff]
    refine ⟨e, ?_⟩
    by_cases e2 : q.1 + 1 = i
    · right
      have h3 := hp q.1 e2.symm
      rw [List.getD_eq_getElem?_getD, h1] at h3
      rw [h2, q_cv_cat]
      cases w <;> first | (intro h; cases h; done) | cases h3
    · exact Or.inl e2
theorem q_st2 {ls : List (Option Value)} {i : Nat} {v : Value} {nL : Nat} {la : Array Slot} (hp : ∀ j, i = j + 1 → q_n2 (ls.getD j none) = true) (h : lv_has la nL ((i, q_cv G v) :: (q_lv G ls).filter (fun q => !(q.1 == i) && (!(q.1 == i + 1) && !(q.1 + 1 == i && q.2.category == 2))))) : lv_has la nL (q_lv G ((ls.set i (some v)).set (i + 1) none)) := by
  refine ⟨h.1, h.2.1, fun q hq => h.2.2 q ?_⟩
  obtain ⟨w, h1, h2⟩ := q_lv_mem.mp hq
  by_cases e1 : q.1 = i + 1
  · have hlt : i + 1 < ((ls.set i (some v)).set (i + 1) none).length := by have h9 := (List.getElem?_eq_some_iff.mp h1).1; rw [e1] at h9; exact h9
    rw [e1, List.getElem?_set_self (by simpa using hlt)] at h1
    cases h1
  · rw [List.getElem?_set_ne (Ne.symm e1)] at h1
    by_cases e : q.1 = i
    · have hlt : i < (ls.set i (some v)).length := by have h9 := (List.getElem?_eq_some_iff.mp h1).1; rw [e] at h9; exact h9
      rw [e, List.getElem?_set_self (by simpa using hlt)] at h1
      cases h1
      refine List.mem_cons.mpr (Or.inl ?_)
      cases q
      cases e
      cases h2
      rfl
    · rw [List.getElem?_set_ne (Ne.symm e)] at h1
      refine List.mem_cons.mpr (Or.inr (List.mem_filter.mpr ⟨q_lv_mem.mpr ⟨w, h1, h2⟩, ?_⟩))
      simp only [Bool.and_eq_true, Bool.not_eq_true', beq_eq_false_iff_ne, ne_eq, Bool.and_eq_false_iff]
      refine ⟨e, e1, ?_⟩
      by_cases e2 : q.1 + 1 = i
      · right
        have h3 := hp q.1 e2.symm
        rw [List.getD_eq_getElem?_getD, h1] at h3
        rw [h2, q_cv_cat]
        cases w <;> first | (intro h; cases h; done) | cases h3
      · exact Or.inl e2
theorem r_ist {i : Nat} {x : Int32} (hd : Fvr M pc .istore_n .istore i nx) (hp : ∀ j, i = j + 1 → q_n2 (ls.getD j none) = true) (k : WW G d M nx (ls.set i (some (.int x))) st S R I L ce sl mc ms K) : WW G d M pc ls (.int x :: st) S R I L ce sl mc ms K := by
  intro p e Rm s m args below meth c H locs Q la hF hW hS hl hR
  obtain ⟨hd, hi⟩ := hd
  rcases hd with ⟨n, h1, h2, rfl⟩ | ⟨h1, rfl⟩
  · exact lv_istore_n hF.1 hF.2.1 h1 h2 hl hi rfl (fun la' hl' => k p e Rm s m args below meth c H locs Q la' hF hW hS (q_st1 (v := .int x) hp hl') hR)
  · exact lv_istore hF.1 hF.2.1 h1 hl hi rfl (fun la' hl' => k p e Rm s m args below meth c H locs Q la' hF hW hS (q_st1 (v := .int x) hp hl') hR)
theorem r_ast {i : Nat} {x : Nat} (hd : Fvr M pc .astore_n .astore i nx) (hp : ∀ j, i = j + 1 → q_n2 (ls.getD j none) = true) (k : WW G d M nx (ls.set i (some (.ref x))) st S R I L ce sl mc ms K) : WW G d M pc ls (.ref x :: st) S R I L ce sl mc ms K := by
  intro p e Rm s m args below meth c H locs Q la hF hW hS hl hR
  obtain ⟨hd, hi⟩ := hd
  rcases hd with ⟨n, h1, h2, rfl⟩ | ⟨h1, rfl⟩
  · exact lv_astore_n hF.1 hF.2.1 h1 h2 hl hi rfl (fun la' hl' => k p e Rm s m args below meth c H locs Q la' hF hW hS (q_st1 (v := .ref x) hp hl') hR)
  · exact lv_astore hF.1 hF.2.1 h1 hl hi rfl (fun la' hl' => k p e Rm s m args below meth c H locs Q la' hF hW hS (q_st1 (v := .ref x) hp hl') hR)
theorem r_lst {i : Nat} {x : Int64} (hd : Fvr M pc .lstore_n .lstore i nx) (hi : i + 1 < M.2.2.1) (hp : ∀ j, i = j + 1 → q_n2 (ls.getD j none) = true) (k : WW G d M nx ((ls.set i (some (.long x))).set (i + 1) none) st S R I L ce sl mc ms K) : WW G d M pc ls (.long x :: st) S R I L ce sl mc ms K := by
  intro p e Rm s m args below meth c H locs Q la hF hW hS hl hR
  rcases hd.1 with ⟨n, h1, h2, rfl⟩ | ⟨h1, rfl⟩
  · exact lv_lstore_n hF.1 hF.2.1 h1 h2 hl hi rfl (fun la' hl' => k p e Rm s m args below meth c H locs Q la' hF hW hS (q_st2 (v := .long x) hp hl') hR)
  · exact lv_lstore hF.1 hF.2.1 h1 hl hi rfl (fun la' hl' => k p e Rm s m args below meth c H locs Q la' hF hW hS (q_st2 (v := .long x) hp hl') hR)
theorem r_iinc {i : Nat} {x v : Int32} (hd : Fi M pc i v nx) (hv : ls[i]? = some (some (.int x))) (hp : ∀ j, i = j + 1 → q_n2 (ls.getD j none) = true) (k : WW G d M nx (ls.set i (some (.int (x + v)))) st S R I L ce sl mc ms K) : WW G d M pc ls st S R I L ce sl mc ms K := by
  intro p e Rm s m args below meth c H locs Q la hF hW hS hl hR
  obtain ⟨n, h1, h2, rfl, hi⟩ := hd
  obtain ⟨t, ht⟩ := List.getElem?_of_mem (q_lv_mem (G := G) (q := (i, Value.int x)).mpr ⟨.int x, hv, rfl⟩)
  exact lv_iinc (v := x + v) hF.1 hF.2.1 h1 hl ht (by rw [h2]) hi rfl (fun la' hl' => k p e Rm s m args below meth c H locs Q la' hF hW hS (q_st1 (v := .int (x + v)) hp hl') hR)
theorem r_ic_eq {x y : Int32} (hd : Fb M pc (.if_icmp .eq) tgt nx) (kt : x = y → WW G d M tgt ls st S R I L ce sl mc ms K) (kf : ¬ x = y → WW G d M nx ls st S R I L ce sl mc ms K) : WW G d M pc ls (.int y :: .int x :: st) S R I L ce sl mc ms K := by
  intro p e Rm s m args below meth c H locs Q la hF hW hS hl hR
  obtain ⟨off, h1, h2, rfl⟩ := hd
  exact lv_icmp_eq hF.1 hF.2.1 h1 h2 (fun h => kt h p e Rm s m args below meth c H locs Q la hF hW hS hl hR) (fun h => kf h p e Rm s m args below meth c H locs Q la hF hW hS hl hR)
theorem r_ic_ne {x y : Int32} (hd : Fb M pc (.if_icmp .ne) tgt nx) (kt : ¬ x = y → WW G d M tgt ls st S R I L ce sl mc ms K) (kf : x = y → WW G d M nx ls st S R I L ce sl mc ms K) : WW G d M pc ls (.int y :: .int x :: st) S R I L ce sl mc ms K := by
  intro p e Rm s m args below meth c H locs Q la hF hW hS hl hR
  obtain ⟨off, h1, h2, rfl⟩ := hd
  exact lv_icmp_ne hF.1 hF.2.1 h1 h2 (fun h => kt h p e Rm s m args below meth c H locs Q la hF hW hS hl hR) (fun h => kf h p e Rm s m args below meth c H locs Q la hF hW hS hl hR)
theorem r_ic_lt {x y : Int32} (hd : Fb M pc (.if_icmp .lt) tgt nx) (kt : x < y → WW G d M tgt ls st S R I L ce sl mc ms K) (kf : ¬ x < y → WW G d M nx ls st S R I L ce sl mc ms K) : WW G d M pc ls (.int y :: .int x :: st) S R I L ce sl mc ms K := by
  intro p e Rm s m args below meth c H locs Q la hF hW hS hl hR
  obtain ⟨off, h1, h2, rfl⟩ := hd
  exact lv_icmp_lt hF.1 hF.2.1 h1 h2 (fun h => kt h p e Rm s m args below meth c H locs Q la hF hW hS hl hR) (fun h => kf h p e Rm s m args below meth c H locs Q la hF hW hS hl hR)
theorem r_ic_ge {x y : Int32} (hd : Fb M pc (.if_icmp .ge) tgt nx) (kt : y ≤ x → WW G d M tgt ls st S R I L ce sl mc ms K) (kf : ¬ y ≤ x → WW G d M nx ls st S R I L ce sl mc ms K) : WW G d M pc ls (.int y :: .int x :: st) S R I L ce sl mc ms K := by
  intro p e Rm s m args below meth c H locs Q la hF hW hS hl hR
  obtain ⟨off, h1, h2, rfl⟩ := hd
  exact lv_icmp_ge hF.1 hF.2.1 h1 h2 (fun h => kt h p e Rm s m args below meth c H locs Q la hF hW hS hl hR) (fun h => kf h p e Rm s m args below meth c H locs Q la hF hW hS hl hR)
theorem r_ic_gt {x y : Int32} (hd : Fb M pc (.if_icmp .gt) tgt nx) (kt : y < x → WW G d M tgt ls st S R I L ce sl mc ms K) (kf : ¬ y < x → WW G d M nx ls st S R I L ce sl mc ms K) : WW G d M pc ls (.int y :: .int x :: st) S R I L ce sl mc ms K := by
  intro p e Rm s m args below meth c H locs Q la hF hW hS hl hR
  obtain ⟨off, h1, h2, rfl⟩ := hd
  exact lv_icmp_gt hF.1 hF.2.1 h1 h2 (fun h => kt h p e Rm s m args below meth c H locs Q la hF hW hS hl hR) (fun h => kf h p e Rm s m args below meth c H locs Q la hF hW hS hl hR)
theorem r_ic_le {x y : Int32} (hd : Fb M pc (.if_icmp .le) tgt nx) (kt : x ≤ y → WW G d M tgt ls st S R I L ce sl mc ms K) (kf : ¬ x ≤ y → WW G d M nx ls st S R I L ce sl mc ms K) : WW G d M pc ls (.int y :: .int x :: st) S R I L ce sl mc ms K := by
  intro p e Rm s m args below meth c H locs Q la hF hW hS hl hR
  obtain ⟨off, h1, h2, rfl⟩ := hd
  exact lv_icmp_le hF.1 hF.2.1 h1 h2 (fun h => kt h p e Rm s m args below meth c H locs Q la hF hW hS hl hR) (fun h => kf h p e Rm s m args below meth c H locs Q la hF hW hS hl hR)
theorem r_if_eq {x : Int32} (hd : Fb M pc (.ifCond .eq) tgt nx) (kt : x = 0 → WW G d M tgt ls st S R I L ce sl mc ms K) (kf : ¬ x = 0 → WW G d M nx ls st S R I L ce sl mc ms K) : WW G d M pc ls (.int x :: st) S R I L ce sl mc ms K := by
  intro p e Rm s m args below meth c H locs Q la hF hW hS hl hR
  obtain ⟨off, h1, h2, rfl⟩ := hd
  exact lv_if_eq hF.1 hF.2.1 h1 h2 (fun h => kt h p e Rm s m args below meth c H locs Q la hF hW hS hl hR) (fun h => kf h p e Rm s m args below meth c H locs Q la hF hW hS hl hR)
theorem r_if_ne {x : Int32} (hd : Fb M pc (.ifCond .ne) tgt nx) (kt : ¬ x = 0 → WW G d M tgt ls st S R I L ce sl mc ms K) (kf : x = 0 → WW G d M nx ls st S R I L ce sl mc ms K) : WW G d M pc ls (.int x :: st) S R I L ce sl mc ms K := by
  intro p e Rm s m args below meth c H locs Q la hF hW hS hl hR
  obtain ⟨off, h1, h2, rfl⟩ := hd
  exact lv_if_ne hF.1 hF.2.1 h1 h2 (fun h => kt h p e Rm s m args below meth c H locs Q la hF hW hS hl hR) (fun h => kf h p e Rm s m args below meth c H locs Q la hF hW hS hl hR)
theorem r_if_lt {x : Int32} (hd : Fb M pc (.ifCond .lt) tgt nx) (kt : x < 0 → WW G d M tgt ls st S R I L ce sl mc ms K) (kf : ¬ x < 0 → WW G d M nx ls st S R I L ce sl mc ms K) : WW G d M pc ls (.int x :: st) S R I L ce sl mc ms K := by
  intro p e Rm s m args below meth c H locs Q la hF hW hS hl hR
  obtain ⟨off, h1, h2, rfl⟩ := hd
  exact lv_if_lt hF.1 hF.2.1 h1 h2 (fun h => kt h p e Rm s m args below meth c H locs Q la hF hW hS hl hR) (fun h => kf h p e Rm s m args below meth c H locs Q la hF hW hS hl hR)
theorem r_if_ge {x : Int32} (hd : Fb M pc (.ifCond .ge) tgt nx) (kt : 0 ≤ x → WW G d M tgt ls st S R I L ce sl mc ms K) (kf : ¬ 0 ≤ x → WW G d M nx ls st S R I L ce sl mc ms K) : WW G d M pc ls (.int x :: st) S R I L ce sl mc ms K := by
  intro p e Rm s m args below meth c H locs Q la hF hW hS hl hR
  obtain ⟨off, h1, h2, rfl⟩ := hd
  exact lv_if_ge hF.1 hF.2.1 h1 h2 (fun h => kt h p e Rm s m args below meth c H locs Q la hF hW hS hl hR) (fun h => kf h p e Rm s m args below meth c H locs Q la hF hW hS hl hR)
theorem r_if_gt {x : Int32} (hd : Fb M pc (.ifCond .gt) tgt nx) (kt : 0 < x → WW G d M tgt ls st S R I L ce sl mc ms K) (kf : ¬ 0 < x → WW G d M nx ls st S R I L ce sl mc ms K) : WW G d M pc ls (.int x :: st) S R I L ce sl mc ms K := by
  intro p e Rm s m args below meth c H locs Q la hF hW hS hl hR
  obtain ⟨off, h1, h2, rfl⟩ := hd
  exact lv_if_gt hF.1 hF.2.1 h1 h2 (fun h => kt h p e Rm s m args below meth c H locs Q la hF hW hS hl hR) (fun h => kf h p e Rm s m args below meth c H locs Q la hF hW hS hl hR)
theorem r_if_le {x : Int32} (hd : Fb M pc (.ifCond .le) tgt nx) (kt : x ≤ 0 → WW G d M tgt ls st S R I L ce sl mc ms K) (kf : ¬ x ≤ 0 → WW G d M nx ls st S R I L ce sl mc ms K) : WW G d M pc ls (.int x :: st) S R I L ce sl mc ms K := by
  intro p e Rm s m args below meth c H locs Q la hF hW hS hl hR
  obtain ⟨off, h1, h2, rfl⟩ := hd
  exact lv_if_le hF.1 hF.2.1 h1 h2 (fun h => kt h p e Rm s m args below meth c H locs Q la hF hW hS hl hR) (fun h => kf h p e Rm s m args below meth c H locs Q la hF hW hS hl hR)
theorem r_goto (hd : Fb M pc .goto tgt nx) (k : WW G d M tgt ls st S R I L ce sl mc ms K) : WW G d M pc ls st S R I L ce sl mc ms K := by
  intro p e Rm s m args below meth c H locs Q la hF hW hS hl hR
  obtain ⟨off, h1, h2, rfl⟩ := hd
  exact lv_goto hF.1 hF.2.1 h1 h2 (k p e Rm s m args below meth c H locs Q la hF hW hS hl hR)
theorem r_iret {x : Int32} (hd : Ft M pc .ireturn 1 nx) (hn : q_nar M (some (.int x))) (hc : ce ≤ mc) (hs : sl ≤ ms) (hk : K (some (.int x)) S R I L) : WW G d M pc ls [.int x] S R I L ce sl mc ms K := by
  intro p e Rm s m args below meth c H locs Q la hF hW hS hl hR
  exact W.widen hc hs (hR (some (.int x)) S R I L H locs pc la hk hW hS hd.1 hn)
theorem r_lret {x : Int64} (hd : Ft M pc .lreturn 1 nx) (hn : q_nar M (some (.long x))) (hc : ce ≤ mc) (hs : sl ≤ ms) (hk : K (some (.long x)) S R I L) : WW G d M pc ls [.long x] S R I L ce sl mc ms K := by
  intro p e Rm s m args below meth c H locs Q la hF hW hS hl hR
  exact W.widen hc hs (hR (some (.long x)) S R I L H locs pc la hk hW hS hd.1 hn)
theorem r_ret (hd : Ft M pc .return_ 1 nx) (hn : q_nar M none) (hc : ce ≤ mc) (hs : sl ≤ ms) (hk : K none S R I L) : WW G d M pc ls [] S R I L ce sl mc ms K := by
  intro p e Rm s m args below meth c H locs Q la hF hW hS hl hR
  exact W.widen hc hs (hR none S R I L H locs pc la hk hW hS hd.1 hn)
/-! switches -/
def q_swt (cs : List (Int × Nat)) (df : Nat) (z : Int) : Nat := match cs with
  | [] => df
  | (a, t) :: r => if z = a then t else q_swt r df z
def q_tcs (a : Int) (ts : List Nat) : List (Int × Nat) := match ts with
  | [] => []
  | t :: r => (a, t) :: q_tcs (a + 1) r
theorem q_swt_tab (df : Nat) (z : Int) : ∀ (ts : List Nat) (a : Int), q_swt (q_tcs a ts) df z = if a ≤ z ∧ z < a + ts.length then ts.getD (z - a).toNat df else df
  | [], a => by
    rw [if_neg (by simp only [List.length_nil]; omega)]
    rfl
  | t :: r, a => by
    show (if z = a then t else q_swt (q_tcs (a + 1) r) df z) = _
    by_cases e : z = a
    · subst e
      rw [if_pos rfl, if_pos (by simp only [List.length_cons]; omega), Int.sub_self]
      rfl
    · rw [if_neg e, q_swt_tab df z r (a + 1)]
      by_cases h : a + 1 ≤ z ∧ z < a + 1 + r.length
      · rw [if_pos h, if_pos (by simp only [List.length_cons]; omega), show (z - a).toNat = (z - (a + 1)).toNat + 1 by omega, List.getD_cons_succ]
      · rw [if_neg h, if_neg (by simp only [List.length_cons]; omega)]
/-- a table of targets: the offsets as the code has them lead there -/
def Fw (M : Mt) (pc : Nat) (cs : List (Int × Nat)) (df : Nat) : Prop :=
  (∃ (dflt lo hi : Int) (offs : Array Int) (len : Nat) (ts : List Nat), decode M.2.1 pc = .ok (.tableswitch dflt lo hi offs, len) ∧ (pc : Int) + dflt = (df : Int) ∧ hi + 1 = lo + ts.length ∧ offs.toList.map (fun o => (pc : Int) + o) = ts.map (fun t : Nat => (t : Int)) ∧ cs = q_tcs lo ts) ∨
  (∃ (dflt : Int) (ps : Array (Int × Int)) (len : Nat), decode M.2.1 pc = .ok (.lookupswitch dflt ps, len) ∧ (pc : Int) + dflt = (df : Int) ∧ (ps.toList.zip (ps.toList.drop 1)).all (fun (a, next) => a.1 < next.1) = true ∧ ps.toList.map (fun q => (q.1, (pc : Int) + q.2)) = cs.map (fun t => (t.1, (t.2 : Int))))
theorem q_look {pc : Nat} {dflt : Int} {df : Nat} (hd : (pc : Int) + dflt = (df : Int)) (z : Int) : ∀ (ps : List (Int × Int)) (cs : List (Int × Nat)), ps.map (fun q => (q.1, (pc : Int) + q.2)) = cs.map (fun t => (t.1, (t.2 : Int))) → (pc : Int) + Op.lookupswitch.offset ps dflt z = (q_swt cs df z : Int)
  | [], [], _ => hd
  | [], _ :: _, h => by cases h
  | _ :: _, [], h => by cases h
  | (a, o) :: r, (b, t) :: cs, h => by
    simp only [List.map_cons, List.cons.injEq, Prod.mk.injEq] at h
    obtain ⟨⟨rfl, h2⟩, h3⟩ := h
    rw [Op.lookupswitch.offset_cons]
    show _ = ((if z = a then t else q_swt cs df z : Nat) : Int)
    by_cases e : z = a
    · rw [if_pos e, if_pos (by first | exact e | exact e.symm)]
      exact h2
    · rw [if_neg e, if_neg (by first | exact e | exact Ne.symm e)]
      exact q_look hd z r cs h3
theorem r_sw {x : Int32} {cs : List (Int × Nat)} {df : Nat} (hd : Fw M pc cs df) (k : WW G d M (q_swt cs df x.toInt) ls st S R I L ce sl mc ms K) : WW G d M pc ls (.int x :: st) S R I L ce sl mc ms K := by
  intro p e Rm s m args below meth c H locs Q la hF hW hS hl hR
  have kk := k p e Rm s m args below meth c H locs Q la hF hW hS hl hR
  rcases hd with ⟨dflt, lo, hi, offs, len, ts, h1, h2, h3, h4, rfl⟩ | ⟨dflt, ps, len, h1, h2, h3, h4⟩
  · rw [q_swt_tab] at kk
    by_cases h : lo ≤ x.toInt ∧ x.toInt < lo + ts.length
    · rw [if_pos h] at kk
      have hlen : offs.toList.length = ts.length := by
        have := congrArg List.length h4
        simpa using this
      have hj : (x.toInt - lo).toNat < ts.length := by omega
      have hjo : (x.toInt - lo).toNat < offs.toList.length := by omega
      have e1 : (offs.toList.map (fun o => (pc : Int) + o))[(x.toInt - lo).toNat]? = (ts.map (fun t : Nat => (t : Int)))[(x.toInt - lo).toNat]? := by rw [h4]
      rw [List.getElem?_map, List.getElem?_map, List.getElem?_eq_getElem hjo, List.getElem?_eq_getElem hj] at e1
      have e2 := Option.some.inj e1
      rw [List.getD_eq_getElem?_getD, List.getElem?_eq_getElem hj, Option.getD_some] at kk
      refine lv_tableIn hF.1 hF.2.1 h1 (by omega) (by omega) (off := offs.toList[(x.toInt - lo).toNat]) ?_ e2 kk
      rw [← Array.getElem?_toList]
      exact List.getElem?_eq_getElem hjo
    · rw [if_neg h] at kk
      exact lv_tableOut hF.1 hF.2.1 h1 (by omega) h2 kk
  · exact lv_lookup hF.1 hF.2.1 h1 h3 rfl (q_look h2 _ _ _ h4) kk
end RU
