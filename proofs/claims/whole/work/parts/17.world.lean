/-! the world behind the constructors: which cells there are, what refers to what -/
def SH : Shp := [(7, 8), (0, 12), (23, 8), (20, 8), (20, 5), (6, 4), (20, 60), (20, 60), (24, 8), (20, 8), (1, 7), (2, 13), (1, 7), (2, 13), (1, 7), (2, 13), (1, 7), (2, 13), (1, 7), (2, 13), (1, 7), (2, 13), (1, 7), (2, 13), (1, 7), (2, 13), (0, 12), (23, 8), (20, 8), (20, 5), (6, 4), (20, 60), (20, 60), (24, 8), (20, 8), (1, 7), (2, 13), (1, 7), (2, 13), (1, 7), (2, 13), (1, 7), (2, 13), (1, 7), (2, 13), (1, 7), (2, 13), (1, 7), (2, 13), (1, 7), (2, 13), (0, 12), (23, 8), (20, 8), (20, 5), (6, 4), (20, 60), (20, 60), (24, 8), (20, 8), (1, 7), (2, 13), (1, 7), (2, 13), (1, 7), (2, 13), (1, 7), (2, 13), (1, 7), (2, 13), (1, 7), (2, 13), (1, 7), (2, 13), (1, 7), (2, 13), (3, 7), (20, 49), (21, 343), (20, 7), (2, 13), (5, 4), (20, 60), (6, 4), (20, 60), (20, 60), (4, 3), (25, 4), (21, 40), (21, 40), (21, 40), (21, 40), (20, 4), (20, 4), (20, 7), (8, 39), (20, 136), (20, 136), (20, 136), (20, 7), (20, 8), (21, 512), (20, 8), (22, 8), (20, 60), (20, 60), (20, 60), (20, 60), (20, 56), (20, 4), (20, 4), (21, 160), (21, 40)]
def RFt : List (List (Option Nat)) := [[some 1, some 26, some 51, some 76, some 81, some 86, some 94], [some 2, some 3, some 4, some 5, none, none, none, none, none, none, some 8, some 9], [some 10, some 12, some 14, some 16, some 18, some 20, some 22, some 24], [], [], [some 6, some 7], [], [], [some 11, some 13, some 15, some 17, some 19, some 21, some 23, some 25], [], [], [], [], [], [], [], [], [], [], [], [], [], [], [], [], [], [some 27, some 28, some 29, some 30, none, none, none, none, none, none, some 33, some 34], [some 35, some 37, some 39, some 41, some 43, some 45, some 47, some 49], [], [], [some 31, some 32], [], [], [some 36, some 38, some 40, some 42, some 44, some 46, some 48, some 50], [], [], [], [], [], [], [], [], [], [], [], [], [], [], [], [], [], [some 52, some 53, some 54, some 55, none, none, none, none, none, none, some 58, some 59], [some 60, some 62, some 64, some 66, some 68, some 70, some 72, some 74], [], [], [some 56, some 57], [], [], [some 61, some 63, some 65, some 67, some 69, some 71, some 73, some 75], [], [], [], [], [], [], [], [], [], [], [], [], [], [], [], [], [], [some 77, some 78, some 79, some 80], [], [], [], [], [some 82, some 83], [], [some 84, some 85], [], [], [some 87, some 92, some 93], [some 88, some 89, some 90, some 91], [], [], [], [], [], [], [], [some 96, some 97, some 98, none, some 99, none, some 100, none, none, none, none, none, none, none, none, none, none, none, none, some 101, some 102, some 103, none, none, some 104, none, some 105, none, some 106, none, none, none, none, some 107, some 108, some 109, some 110, some 111, some 112], [], [], [], [], [], [], [], [], [], [], [], [], [], [], [], [], []]
def RF : Rf := fun x y => (RFt.getD x []).getD y none
theorem s_0 : SH[0]? = some (7, 8) := rfl
theorem s_76 : SH[76]? = some (3, 7) := rfl
theorem s_77 : SH[77]? = some (20, 49) := rfl
theorem s_78 : SH[78]? = some (21, 343) := rfl
theorem s_79 : SH[79]? = some (20, 7) := rfl
theorem s_80 : SH[80]? = some (2, 13) := rfl
theorem s_81 : SH[81]? = some (5, 4) := rfl
theorem s_82 : SH[82]? = some (20, 60) := rfl
theorem s_83 : SH[83]? = some (6, 4) := rfl
theorem s_84 : SH[84]? = some (20, 60) := rfl
theorem s_85 : SH[85]? = some (20, 60) := rfl
theorem s_86 : SH[86]? = some (4, 3) := rfl
theorem s_87 : SH[87]? = some (25, 4) := rfl
theorem s_88 : SH[88]? = some (21, 40) := rfl
theorem s_89 : SH[89]? = some (21, 40) := rfl
theorem s_90 : SH[90]? = some (21, 40) := rfl
theorem s_91 : SH[91]? = some (21, 40) := rfl
theorem s_92 : SH[92]? = some (20, 4) := rfl
theorem s_93 : SH[93]? = some (20, 4) := rfl
theorem s_94 : SH[94]? = some (20, 7) := rfl
theorem s_95 : SH[95]? = some (8, 39) := rfl
theorem s_96 : SH[96]? = some (20, 136) := rfl
theorem s_97 : SH[97]? = some (20, 136) := rfl
theorem s_98 : SH[98]? = some (20, 136) := rfl
theorem s_99 : SH[99]? = some (20, 7) := rfl
theorem s_100 : SH[100]? = some (20, 8) := rfl
theorem s_101 : SH[101]? = some (21, 512) := rfl
theorem s_102 : SH[102]? = some (20, 8) := rfl
theorem s_103 : SH[103]? = some (22, 8) := rfl
theorem s_104 : SH[104]? = some (20, 60) := rfl
theorem s_105 : SH[105]? = some (20, 60) := rfl
theorem s_106 : SH[106]? = some (20, 60) := rfl
theorem s_107 : SH[107]? = some (20, 60) := rfl
theorem s_108 : SH[108]? = some (20, 56) := rfl
theorem s_109 : SH[109]? = some (20, 4) := rfl
theorem s_110 : SH[110]? = some (20, 4) := rfl
theorem s_111 : SH[111]? = some (21, 160) := rfl
theorem s_112 : SH[112]? = some (21, 40) := rfl
theorem r_0_0 : RF 0 0 = some 1 := rfl
theorem r_0_1 : RF 0 1 = some 26 := rfl
theorem r_0_2 : RF 0 2 = some 51 := rfl
theorem r_0_3 : RF 0 3 = some 76 := rfl
theorem r_0_4 : RF 0 4 = some 81 := rfl
theorem r_0_5 : RF 0 5 = some 86 := rfl
theorem r_0_6 : RF 0 6 = some 94 := rfl
theorem r_76_0 : RF 76 0 = some 77 := rfl
theorem r_76_1 : RF 76 1 = some 78 := rfl
theorem r_76_2 : RF 76 2 = some 79 := rfl
theorem r_76_3 : RF 76 3 = some 80 := rfl
theorem r_81_0 : RF 81 0 = some 82 := rfl
theorem r_81_1 : RF 81 1 = some 83 := rfl
theorem r_83_0 : RF 83 0 = some 84 := rfl
theorem r_83_1 : RF 83 1 = some 85 := rfl
theorem r_86_0 : RF 86 0 = some 87 := rfl
theorem r_86_1 : RF 86 1 = some 92 := rfl
theorem r_86_2 : RF 86 2 = some 93 := rfl
theorem r_87_0 : RF 87 0 = some 88 := rfl
theorem r_87_1 : RF 87 1 = some 89 := rfl
theorem r_87_2 : RF 87 2 = some 90 := rfl
theorem r_87_3 : RF 87 3 = some 91 := rfl
theorem r_95_0 : RF 95 0 = some 96 := rfl
theorem r_95_1 : RF 95 1 = some 97 := rfl
theorem r_95_2 : RF 95 2 = some 98 := rfl
theorem r_95_4 : RF 95 4 = some 99 := rfl
theorem r_95_6 : RF 95 6 = some 100 := rfl
theorem r_95_19 : RF 95 19 = some 101 := rfl
theorem r_95_20 : RF 95 20 = some 102 := rfl
theorem r_95_21 : RF 95 21 = some 103 := rfl
theorem r_95_24 : RF 95 24 = some 104 := rfl
theorem r_95_26 : RF 95 26 = some 105 := rfl
theorem r_95_28 : RF 95 28 = some 106 := rfl
theorem r_95_33 : RF 95 33 = some 107 := rfl
theorem r_95_34 : RF 95 34 = some 108 := rfl
theorem r_95_35 : RF 95 35 = some 109 := rfl
theorem r_95_36 : RF 95 36 = some 110 := rfl
theorem r_95_37 : RF 95 37 = some 111 := rfl
theorem r_95_38 : RF 95 38 = some 112 := rfl
def q_D (b : Nat) : Prop := b = 1 ∨ b = 26 ∨ b = 51
theorem q_D1 : q_D 1 := Or.inl rfl
theorem q_D2 : q_D 26 := Or.inr (Or.inl rfl)
theorem q_D3 : q_D 51 := Or.inr (Or.inr rfl)
theorem sD {b : Nat} (hb : q_D b) : SH[b]? = some (0, 12) := by rcases hb with rfl | rfl | rfl <;> rfl
theorem sD1 {b : Nat} (hb : q_D b) : SH[b + 1]? = some (23, 8) := by rcases hb with rfl | rfl | rfl <;> rfl
theorem sD2 {b : Nat} (hb : q_D b) : SH[b + 2]? = some (20, 8) := by rcases hb with rfl | rfl | rfl <;> rfl
theorem sD3 {b : Nat} (hb : q_D b) : SH[b + 3]? = some (20, 5) := by rcases hb with rfl | rfl | rfl <;> rfl
theorem sD4 {b : Nat} (hb : q_D b) : SH[b + 4]? = some (6, 4) := by rcases hb with rfl | rfl | rfl <;> rfl
theorem sD5 {b : Nat} (hb : q_D b) : SH[b + 5]? = some (20, 60) := by rcases hb with rfl | rfl | rfl <;> rfl
theorem sD6 {b : Nat} (hb : q_D b) : SH[b + 6]? = some (20, 60) := by rcases hb with rfl | rfl | rfl <;> rfl
theorem sD7 {b : Nat} (hb : q_D b) : SH[b + 7]? = some (24, 8) := by rcases hb with rfl | rfl | rfl <;> rfl
theorem sD8 {b : Nat} (hb : q_D b) : SH[b + 8]? = some (20, 8) := by rcases hb with rfl | rfl | rfl <;> rfl
theorem rD0 {b : Nat} (hb : q_D b) : RF b 0 = some (b + 1) := by rcases hb with rfl | rfl | rfl <;> rfl
theorem rD1 {b : Nat} (hb : q_D b) : RF b 1 = some (b + 2) := by rcases hb with rfl | rfl | rfl <;> rfl
theorem rD2 {b : Nat} (hb : q_D b) : RF b 2 = some (b + 3) := by rcases hb with rfl | rfl | rfl <;> rfl
theorem rD3 {b : Nat} (hb : q_D b) : RF b 3 = some (b + 4) := by rcases hb with rfl | rfl | rfl <;> rfl
theorem rD10 {b : Nat} (hb : q_D b) : RF b 10 = some (b + 7) := by rcases hb with rfl | rfl | rfl <;> rfl
theorem rD11 {b : Nat} (hb : q_D b) : RF b 11 = some (b + 8) := by rcases hb with rfl | rfl | rfl <;> rfl
theorem sDF {b i : Nat} (hb : q_D b) (hi : i < 8) : SH[b + 9 + 2 * i]? = some (1, 7) := by rcases hb with rfl | rfl | rfl <;> (match i, hi with | 0, _ => rfl | 1, _ => rfl | 2, _ => rfl | 3, _ => rfl | 4, _ => rfl | 5, _ => rfl | 6, _ => rfl | 7, _ => rfl)
theorem sDM {b i : Nat} (hb : q_D b) (hi : i < 8) : SH[b + 10 + 2 * i]? = some (2, 13) := by rcases hb with rfl | rfl | rfl <;> (match i, hi with | 0, _ => rfl | 1, _ => rfl | 2, _ => rfl | 3, _ => rfl | 4, _ => rfl | 5, _ => rfl | 6, _ => rfl | 7, _ => rfl)
theorem rDF {b i : Nat} (hb : q_D b) (hi : i < 8) : RF (b + 1) i = some (b + 9 + 2 * i) := by rcases hb with rfl | rfl | rfl <;> (match i, hi with | 0, _ => rfl | 1, _ => rfl | 2, _ => rfl | 3, _ => rfl | 4, _ => rfl | 5, _ => rfl | 6, _ => rfl | 7, _ => rfl)
theorem rDM {b i : Nat} (hb : q_D b) (hi : i < 8) : RF (b + 7) i = some (b + 10 + 2 * i) := by rcases hb with rfl | rfl | rfl <;> (match i, hi with | 0, _ => rfl | 1, _ => rfl | 2, _ => rfl | 3, _ => rfl | 4, _ => rfl | 5, _ => rfl | 6, _ => rfl | 7, _ => rfl)
def q_T (t : Nat) : Prop := t = 5 ∨ t = 30 ∨ t = 55 ∨ t = 83
theorem q_TD {b : Nat} (hb : q_D b) : q_T (b + 4) := by rcases hb with rfl | rfl | rfl <;> simp [q_T]
theorem q_TP : q_T 83 := Or.inr (Or.inr (Or.inr rfl))
theorem sT {t : Nat} (ht : q_T t) : SH[t]? = some (6, 4) := by rcases ht with rfl | rfl | rfl | rfl <;> rfl
theorem rT0 {t : Nat} (ht : q_T t) : RF t 0 = some (t + 1) := by rcases ht with rfl | rfl | rfl | rfl <;> rfl
theorem sT1 {t : Nat} (ht : q_T t) : SH[t + 1]? = some (20, 60) := by rcases ht with rfl | rfl | rfl | rfl <;> rfl
theorem rT1 {t : Nat} (ht : q_T t) : RF t 1 = some (t + 2) := by rcases ht with rfl | rfl | rfl | rfl <;> rfl
theorem sT2 {t : Nat} (ht : q_T t) : SH[t + 2]? = some (20, 60) := by rcases ht with rfl | rfl | rfl | rfl <;> rfl
theorem rS {i : Nat} (hi : i < 4) : RF 87 i = some (88 + i) := by match i, hi with | 0, _ => rfl | 1, _ => rfl | 2, _ => rfl | 3, _ => rfl
theorem sS {i : Nat} (hi : i < 4) : SH[88 + i]? = some (21, 40) := by match i, hi with | 0, _ => rfl | 1, _ => rfl | 2, _ => rfl | 3, _ => rfl
