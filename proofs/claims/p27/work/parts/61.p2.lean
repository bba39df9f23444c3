section P2
/-! at most 42 readings: by the shapes of the stack; a digit a part: its type, 8 a name that can take a joiner -/
def shp (e : E3) : Nat := if e.1 = 5 then (if e.2.2 = 1 then 8 else 5) else if e.1 = 0 then 0 else if e.1 = 1 then 1 else if e.1 = 2 then 2 else if e.1 = 3 then 3 else if e.1 = 4 then 4 else if e.1 = 6 then 6 else if e.1 = 7 then 7 else 9
def nounT : List Nat → List (List Nat)
  | [] => []
  | d :: T => if d = 0 then [8 :: 1 :: T] else if d = 2 then [8 :: 3 :: T] else if d = 7 then [8 :: T] else if d = 6 then [5 :: T] else []
def nounD : List Nat → List (List Nat)
  | [] => []
  | d :: T => if d = 4 then nounT T else nounT (d :: T)
def verbD : List Nat → List (List Nat)
  | [] => []
  | d :: T => if d = 5 ∨ d = 8 then verbD T else if d = 1 then [2 :: T] else []
def adjD : List Nat → List (List Nat)
  | [] => []
  | d :: T => if d = 4 then [d :: T] else if d = 0 ∨ d = 2 ∨ d = 7 ∨ d = 6 then [4 :: d :: T] else []
def opnD : List Nat → List (List Nat)
  | [] => []
  | d :: T => if d = 2 then [0 :: 3 :: T] else []
def candD (k : Nat) : List Nat → List (List Nat)
  | [] => []
  | d :: T => if d = 5 ∨ d = 8 ∨ d = 2 ∨ d = 3 then (if k = 5 then (if d = 8 then (d :: T) :: candD k T else candD k T) else (if d = 2 ∨ d = 3 ∨ k = 4 then (d :: T) :: candD k T else candD k T)) else []
def hngD (k : Nat) : List Nat → List Nat
  | [] => []
  | d :: T => if k = 4 then 7 :: (if d = 2 then 3 else d) :: T else if k = 5 then 6 :: T else (if d = 2 then 3 else d) :: T
def sucD (k : Nat) (S : List Nat) : List (List Nat) := if k = 0 then nounD S else if k = 1 then verbD S else if k = 2 then adjD S else if k = 6 then opnD S else (candD k S).map (hngD k)
def codD : List Nat → Nat
  | [] => 0
  | d :: S => (d + 1) + 16 * codD S
def decD : Nat → Nat → List Nat
  | 0, _ => []
  | f + 1, c => if c = 0 then [] else (c % 16 - 1) :: decD f (c / 16)
theorem decD_cod : ∀ (f : Nat) (S : List Nat), S.length ≤ f → (∀ d ∈ S, d < 15) → decD f (codD S) = S
  | 0, [], _, _ => rfl
  | f + 1, [], _, _ => rfl
  | f + 1, d :: S, h, hd => by
    have h1 := hd d (by simp)
    have e1 : codD (d :: S) = (d + 1) + 16 * codD S := rfl
    have e2 : ((d + 1) + 16 * codD S) % 16 - 1 = d := by omega
    have e3 : ((d + 1) + 16 * codD S) / 16 = codD S := by omega
    rw [e1, decD, if_neg (by omega), e2, e3, decD_cod f S (by simpa using h) (fun x hx => hd x (by simp [hx]))]
theorem shp_lt (e : E3) : shp e < 15 := by
  unfold shp
  repeat' split
  all_goals omega

def tbD : List (List (Nat × Nat)) := [[(1, 0), (3, 1), (4, 1), (21, 0), (38, 0), (39, 0), (41, 0), (53, 0), (65, 0), (67, 1), (68, 1), (70, 1), (71, 0), (72, 0), (73, 1), (614, 0), (615, 0), (616, 0), (617, 0), (629, 0), (662, 0), (663, 0), (664, 0), (665, 0), (1045, 0), (1062, 0), (1063, 0), (1065, 0), (1077, 0), (1089, 0), (1091, 1), (1092, 1), (1094, 1), (1095, 0), (1096, 0), (1097, 1), (1126, 1), (1127, 0), (1128, 0), (1129, 1), (1141, 0), (1157, 0), (1174, 1), (1175, 0), (1176, 0), (1177, 1), (9830, 0), (9831, 0), (9832, 0), (9833, 0), (9845, 0), (9861, 0), (9878, 0), (9879, 0), (9880, 0), (9881, 0), (10598, 0), (10599, 0), (10600, 0), (10601, 0), (10613, 0), (10629, 0), (10646, 0), (10647, 0), (10648, 0), (10649, 0), (16998, 0), (16999, 0), (17000, 0), (17001, 0), (17013, 0), (17046, 0), (17047, 0), (17048, 0), (17049, 0), (17429, 0), (17446, 0), (17447, 0), (17449, 0), (17461, 0), (17473, 0), (17475, 1), (17476, 1), (17478, 1), (17479, 0), (17480, 0), (17481, 1), (17510, 1), (17511, 0), (17512, 0), (17513, 1), (17525, 0), (17541, 0), (17558, 1), (17559, 0), (17560, 0), (17561, 1), (18023, 0), (18024, 0), (18025, 1), (18037, 0), (18053, 0), (18070, 1), (18071, 0), (18072, 0), (18073, 1), (18790, 1), (18791, 0), (18792, 0), (18793, 1), (18805, 0), (18821, 0), (18838, 1), (18839, 0), (18840, 0), (18841, 1), (157288, 0), (157301, 0), (157317, 0), (157335, 0), (157336, 0), (157337, 0), (158055, 0), (158056, 0), (158057, 0), (158069, 0), (158085, 0), (158102, 0), (158103, 0), (158104, 0), (158105, 0), (169575, 0), (169576, 0), (169577, 0), (169589, 0), (169605, 0), (169622, 0), (169623, 0), (169624, 0), (169625, 0), (170342, 0), (170343, 0), (170344, 0), (170345, 0), (170357, 0), (170373, 0), (170390, 0), (170391, 0), (170392, 0), (170393, 0), (271976, 0), (271977, 0), (271989, 0), (272005, 0), (272022, 0), (272023, 0), (272024, 0), (272025, 0), (272742, 0), (272743, 0), (272744, 0), (272745, 0), (272757, 0), (272773, 0), (272790, 0), (272791, 0), (272792, 0), (272793, 0), (279143, 0), (279144, 0), (279145, 0), (279157, 0), (279190, 0), (279191, 0), (279192, 0), (279193, 0), (279573, 0), (279590, 0), (279591, 0), (279593, 0), (279605, 0), (279617, 0), (279624, 0), (279625, 1), (279656, 0), (279669, 0), (279685, 0), (279703, 0), (279704, 0), (279705, 1), (280181, 0), (280197, 0), (280216, 0), (280217, 1), (280936, 0), (280937, 1), (280949, 0), (280965, 0), (280982, 1), (280983, 0), (280984, 0), (280985, 1), (288389, 0), (288408, 0), (289128, 0), (289141, 0), (289157, 0), (289175, 0), (289176, 0), (289177, 1), (300648, 0), (300661, 0), (300677, 0), (300695, 0), (300696, 0), (300697, 1), (301415, 0), (301416, 0), (301417, 1), (301429, 0), (301445, 0), (301462, 1), (301463, 0), (301464, 0), (301465, 1), (2517381, 0), (2517400, 0), (2528901, 0), (2528920, 0), (2529640, 0), (2529653, 0), (2529669, 0), (2529687, 0), (2529688, 0), (2529689, 0), (2713221, 0), (2713240, 0), (2713960, 0), (2713973, 0), (2713989, 0), (2714007, 0), (2714008, 0), (2714009, 0), (2725480, 0), (2725493, 0), (2725509, 0), (2725527, 0), (2725528, 0), (2725529, 0), (2726247, 0), (2726248, 0), (2726249, 0), (2726261, 0), (2726277, 0), (2726294, 0), (2726295, 0), (2726296, 0), (2726297, 0), (4351621, 0), (4352373, 0), (4352389, 0), (4352408, 0), (4352409, 0), (4363893, 0), (4363909, 0), (4363928, 0), (4363929, 0), (4364648, 0), (4364649, 0), (4364661, 0), (4364677, 0), (4364694, 0), (4364695, 0), (4364696, 0), (4364697, 0), (4466309, 0), (4466328, 0), (4467048, 0), (4467061, 0), (4467077, 0), (4467095, 0), (4467096, 0), (4467097, 0), (4473461, 0), (4473496, 0), (4473497, 0), (4475269, 0), (4475288, 0), (4483461, 0), (4494981, 0), (4495733, 0), (4495749, 0), (4495768, 0), (4495769, 1), (4626821, 0), (4626840, 0), (4811141, 0), (4811160, 0), (4822661, 0), (4822680, 0), (4823400, 0), (4823413, 0), (4823429, 0), (4823447, 0), (4823448, 0), (4823449, 1), (40475013, 0), (40475032, 0), (43424133, 0), (43424152, 0), (43608453, 0), (43608472, 0), (43619973, 0), (43619992, 0), (43620712, 0), (43620725, 0), (43620741, 0), (43620759, 0), (43620760, 0), (43620761, 0), (69638533, 0), (69822853, 0), (69834373, 0), (69835125, 0), (69835141, 0), (69835160, 0), (69835161, 0), (71473541, 0), (71473560, 0), (71575941, 0), (71932293, 0), (77175173, 0), (77175192, 0), (697932165, 0), (697932184, 0), (1117362565, 0)],
  [(1, 0), (3, 1), (4, 1), (21, 0), (38, 1), (39, 0), (41, 1), (53, 1), (65, 0), (67, 2), (68, 2), (70, 1), (71, 1), (72, 1), (73, 1), (614, 1), (615, 0), (616, 0), (617, 1), (629, 0), (662, 1), (663, 0), (664, 0), (665, 1), (1045, 0), (1062, 1), (1063, 0), (1065, 1), (1077, 1), (1089, 0), (1091, 3), (1092, 3), (1094, 2), (1095, 1), (1096, 1), (1097, 2), (1126, 1), (1127, 1), (1128, 1), (1129, 1), (1141, 1), (1157, 1), (1174, 1), (1175, 1), (1176, 1), (1177, 1), (9830, 1), (9831, 0), (9832, 0), (9833, 1), (9845, 0), (9861, 0), (9878, 1), (9879, 0), (9880, 0), (9881, 1), (10598, 1), (10599, 0), (10600, 0), (10601, 1), (10613, 0), (10629, 0), (10646, 1), (10647, 0), (10648, 0), (10649, 1), (16998, 1), (16999, 0), (17000, 0), (17001, 1), (17013, 0), (17046, 1), (17047, 0), (17048, 0), (17049, 1), (17429, 0), (17446, 1), (17447, 0), (17449, 1), (17461, 1), (17473, 0), (17475, 4), (17478, 3), (17479, 1), (17480, 1), (17481, 3), (17511, 1), (17512, 1), (17513, 2), (17525, 1), (17541, 1), (17558, 2), (17559, 1), (17560, 1), (17561, 2), (18024, 1), (18025, 1), (18037, 1), (18053, 1), (18070, 1), (18071, 1), (18072, 1), (18073, 1), (18790, 1), (18791, 1), (18792, 1), (18793, 1), (18805, 1), (18821, 1), (18838, 1), (18839, 1), (18840, 1), (18841, 1), (157301, 0), (157317, 0), (157336, 0), (157337, 1), (158056, 0), (158057, 1), (158069, 0), (158085, 0), (158102, 1), (158103, 0), (158104, 0), (158105, 1), (169576, 0), (169577, 1), (169589, 0), (169605, 0), (169622, 1), (169623, 0), (169624, 0), (169625, 1), (170342, 1), (170343, 0), (170344, 0), (170345, 1), (170357, 0), (170373, 0), (170390, 1), (170391, 0), (170392, 0), (170393, 1), (271976, 0), (271989, 0), (272005, 0), (272023, 0), (272024, 0), (272025, 1), (272743, 0), (272744, 0), (272745, 1), (272757, 0), (272773, 0), (272790, 1), (272791, 0), (272792, 0), (272793, 1), (279144, 0), (279145, 1), (279157, 0), (279190, 1), (279191, 0), (279192, 0), (279193, 1), (279573, 0), (279591, 0), (279593, 1), (279669, 1), (279685, 1), (279704, 1), (279705, 3), (280197, 1), (280216, 1), (280936, 1), (280949, 1), (280965, 1), (280983, 1), (280984, 1), (280985, 2), (288389, 1), (289141, 1), (289157, 1), (289176, 1), (289177, 1), (300661, 1), (300677, 1), (300696, 1), (300697, 1), (301416, 1), (301417, 1), (301429, 1), (301445, 1), (301462, 1), (301463, 1), (301464, 1), (301465, 1), (2517381, 0), (2528901, 0), (2529653, 0), (2529669, 0), (2529688, 0), (2529689, 1), (2713221, 0), (2713973, 0), (2713989, 0), (2714008, 0), (2714009, 1), (2725493, 0), (2725509, 0), (2725528, 0), (2725529, 1), (2726248, 0), (2726249, 1), (2726261, 0), (2726277, 0), (2726294, 1), (2726295, 0), (2726296, 0), (2726297, 1), (4352389, 0), (4352408, 0), (4363909, 0), (4363928, 0), (4364648, 0), (4364661, 0), (4364677, 0), (4364695, 0), (4364696, 0), (4364697, 1), (4466309, 0), (4467061, 0), (4467077, 0), (4467096, 0), (4467097, 1), (4473496, 0), (4475269, 1), (4495749, 1), (4495768, 1), (4626821, 1), (4811141, 1), (4822661, 1), (4823413, 1), (4823429, 1), (4823448, 1), (4823449, 1), (40475013, 0), (43424133, 0), (43608453, 0), (43619973, 0), (43620725, 0), (43620741, 0), (43620760, 0), (43620761, 1), (69835141, 0), (69835160, 0), (71473541, 0), (77175173, 1), (697932165, 0)],
  [(1, 1), (3, 1), (4, 1), (21, 1), (38, 1), (39, 1), (41, 1), (53, 1), (65, 1), (67, 3), (68, 3), (70, 2), (71, 1), (72, 1), (73, 2), (614, 1), (615, 1), (616, 1), (617, 1), (629, 1), (662, 1), (663, 1), (664, 1), (665, 1), (1045, 1), (1062, 2), (1063, 1), (1065, 2), (1077, 2), (1089, 1), (1091, 6), (1092, 6), (1094, 3), (1095, 2), (1096, 2), (1097, 3), (1126, 3), (1127, 1), (1128, 1), (1129, 3), (1141, 1), (1157, 1), (1174, 3), (1175, 1), (1176, 1), (1177, 3), (9831, 1), (9832, 1), (9833, 1), (9845, 1), (9861, 1), (9878, 1), (9879, 1), (9880, 1), (9881, 1), (10598, 1), (10599, 1), (10600, 1), (10601, 1), (10613, 1), (10629, 1), (10646, 1), (10647, 1), (10648, 1), (10649, 1), (16998, 2), (16999, 1), (17000, 1), (17001, 2), (17013, 1), (17046, 2), (17047, 1), (17048, 1), (17049, 2), (17429, 1), (17446, 3), (17447, 1), (17449, 3), (17461, 3), (17473, 1), (17479, 3), (17480, 3), (17481, 6), (17512, 2), (17513, 4), (17525, 2), (17541, 2), (17558, 4), (17559, 2), (17560, 2), (17561, 4), (18024, 1), (18037, 1), (18053, 1), (18071, 1), (18072, 1), (18073, 4), (18791, 1), (18792, 1), (18793, 4), (18805, 1), (18821, 1), (18838, 4), (18839, 1), (18840, 1), (18841, 4), (157317, 1), (157336, 1), (158056, 1), (158069, 1), (158085, 1), (158103, 1), (158104, 1), (158105, 1), (169576, 1), (169589, 1), (169605, 1), (169623, 1), (169624, 1), (169625, 1), (170343, 1), (170344, 1), (170345, 1), (170357, 1), (170373, 1), (170390, 1), (170391, 1), (170392, 1), (170393, 1), (271989, 1), (272005, 1), (272024, 1), (272025, 2), (272744, 1), (272745, 2), (272757, 1), (272773, 1), (272790, 2), (272791, 1), (272792, 1), (272793, 2), (279144, 1), (279157, 1), (279191, 1), (279192, 1), (279193, 3), (279573, 1), (279593, 4), (279685, 3), (279704, 3), (280197, 2), (280949, 2), (280965, 2), (280984, 2), (280985, 5), (289157, 1), (289176, 1), (300677, 1), (300696, 1), (301416, 1), (301429, 1), (301445, 1), (301463, 1), (301464, 1), (301465, 5), (2529669, 1), (2529688, 1), (2713989, 1), (2714008, 1), (2725509, 1), (2725528, 1), (2726248, 1), (2726261, 1), (2726277, 1), (2726295, 1), (2726296, 1), (2726297, 1), (4352389, 1), (4363909, 1), (4364661, 1), (4364677, 1), (4364696, 1), (4364697, 2), (4467077, 1), (4467096, 1), (4495749, 2), (4823429, 1), (4823448, 1), (43620741, 1), (43620760, 1), (69835141, 1)],
  [(1, 1), (3, 2), (4, 1), (21, 1), (38, 1), (39, 1), (41, 1), (53, 2), (65, 2), (67, 4), (68, 4), (70, 2), (71, 2), (72, 2), (73, 2), (614, 2), (615, 1), (616, 1), (617, 2), (629, 1), (662, 2), (663, 1), (664, 1), (665, 2), (1045, 2), (1062, 3), (1063, 2), (1065, 3), (1077, 3), (1089, 3), (1091, 10), (1092, 10), (1094, 5), (1095, 3), (1096, 3), (1097, 5), (1126, 3), (1127, 3), (1128, 3), (1129, 3), (1141, 2), (1157, 2), (1174, 3), (1175, 3), (1176, 3), (1177, 3), (9832, 1), (9833, 3), (9845, 1), (9861, 1), (9878, 3), (9879, 1), (9880, 1), (9881, 3), (10598, 3), (10599, 1), (10600, 1), (10601, 3), (10613, 1), (10629, 1), (10646, 3), (10647, 1), (10648, 1), (10649, 3), (16999, 2), (17000, 2), (17001, 3), (17013, 2), (17046, 3), (17047, 2), (17048, 2), (17049, 3), (17429, 3), (17446, 6), (17447, 3), (17449, 6), (17461, 6), (17473, 4), (17480, 6), (17481, 10), (17512, 4), (17525, 3), (17541, 3), (17559, 4), (17560, 4), (17561, 7), (18037, 3), (18053, 3), (18072, 4), (18073, 4), (18792, 4), (18793, 4), (18805, 3), (18821, 3), (18838, 4), (18839, 4), (18840, 4), (18841, 4), (157317, 1), (158069, 1), (158085, 1), (158104, 1), (158105, 4), (169589, 1), (169605, 1), (169624, 1), (169625, 4), (170344, 1), (170345, 4), (170357, 1), (170373, 1), (170390, 4), (170391, 1), (170392, 1), (170393, 4), (272005, 2), (272024, 2), (272744, 2), (272757, 2), (272773, 2), (272791, 2), (272792, 2), (272793, 3), (279157, 3), (279192, 3), (279193, 6), (280965, 4), (280984, 5), (289157, 4), (300677, 4), (301429, 4), (301445, 4), (301464, 5), (301465, 5), (2529669, 1), (2713989, 1), (2725509, 1), (2726261, 1), (2726277, 1), (2726296, 1), (2726297, 5), (4364677, 2), (4364696, 2), (4467077, 3), (4823429, 5), (43620741, 1)],
  [(1, 1), (3, 2), (4, 2), (21, 1), (38, 2), (39, 1), (41, 2), (53, 2), (65, 3), (67, 5), (68, 5), (70, 5), (71, 2), (72, 2), (73, 5), (614, 2), (615, 2), (616, 2), (617, 2), (629, 1), (662, 2), (663, 2), (664, 2), (665, 2), (1045, 3), (1062, 4), (1063, 3), (1065, 4), (1077, 5), (1089, 6), (1091, 15), (1094, 9), (1095, 5), (1096, 5), (1097, 9), (1127, 3), (1128, 3), (1129, 9), (1141, 2), (1157, 2), (1174, 9), (1175, 3), (1176, 3), (1177, 9), (9832, 3), (9845, 2), (9861, 2), (9879, 3), (9880, 3), (9881, 3), (10599, 3), (10600, 3), (10601, 3), (10613, 2), (10629, 2), (10646, 3), (10647, 3), (10648, 3), (10649, 3), (17000, 3), (17001, 4), (17013, 3), (17046, 4), (17047, 3), (17048, 3), (17049, 4), (17429, 6), (17447, 6), (17449, 10), (17525, 5), (17541, 5), (17560, 7), (17561, 14), (18053, 3), (18072, 4), (18792, 4), (18805, 3), (18821, 3), (18839, 4), (18840, 4), (18841, 14), (158085, 3), (158104, 4), (169605, 3), (169624, 4), (170344, 4), (170357, 3), (170373, 3), (170391, 4), (170392, 4), (170393, 4), (272005, 3), (272757, 3), (272773, 3), (272792, 3), (272793, 6), (279192, 6), (280965, 7), (301445, 4), (301464, 5), (2726277, 4), (2726296, 5), (4364677, 3)],
  [(1, 2), (3, 5), (4, 2), (21, 2), (38, 2), (39, 2), (41, 2), (53, 5), (65, 4), (67, 9), (68, 7), (70, 5), (71, 5), (72, 5), (73, 5), (614, 5), (615, 2), (616, 2), (617, 5), (629, 2), (662, 5), (663, 2), (664, 2), (665, 5), (1045, 4), (1062, 5), (1063, 4), (1065, 5), (1077, 9), (1089, 10), (1095, 9), (1096, 9), (1097, 14), (1128, 9), (1129, 9), (1141, 5), (1157, 5), (1174, 9), (1175, 9), (1176, 9), (1177, 9), (9845, 2), (9861, 2), (9880, 3), (9881, 9), (10600, 3), (10601, 9), (10613, 2), (10629, 2), (10646, 9), (10647, 3), (10648, 3), (10649, 9), (17000, 4), (17013, 4), (17047, 4), (17048, 4), (17049, 6), (17429, 10), (17449, 15), (17541, 9), (17560, 14), (18053, 9), (18805, 9), (18821, 9), (18840, 14), (18841, 14), (158085, 3), (169605, 3), (170357, 3), (170373, 3), (170392, 4), (170393, 14), (272773, 4), (272792, 6), (301445, 14), (2726277, 4)],
  [(1, 2), (3, 5), (4, 5), (21, 2), (38, 5), (39, 2), (41, 5), (53, 5), (65, 5), (67, 14), (68, 14), (70, 14), (71, 5), (72, 5), (73, 14), (615, 5), (616, 5), (617, 5), (629, 2), (662, 5), (663, 5), (664, 5), (665, 5), (1045, 5), (1062, 9), (1063, 5), (1065, 9), (1077, 14), (1089, 15), (1096, 14), (1097, 28), (1128, 9), (1141, 5), (1157, 5), (1175, 9), (1176, 9), (1177, 28), (9861, 5), (9880, 9), (10600, 9), (10613, 5), (10629, 5), (10647, 9), (10648, 9), (10649, 9), (17013, 5), (17048, 6), (17049, 10), (18821, 9), (18840, 14), (170373, 9), (170392, 14), (272773, 6)],
  [(1, 5), (3, 14), (4, 5), (21, 5), (38, 5), (39, 5), (41, 5), (53, 14), (65, 9), (67, 28), (70, 14), (71, 14), (72, 14), (73, 14), (616, 5), (617, 14), (629, 5), (662, 14), (663, 5), (664, 5), (665, 14), (1045, 9), (1063, 9), (1065, 14), (1141, 14), (1157, 14), (1176, 28), (1177, 28), (9861, 5), (10613, 5), (10629, 5), (10648, 9), (10649, 28), (17048, 10), (18821, 28), (170373, 9)],
  [(1, 5), (3, 14), (4, 14), (21, 5), (38, 14), (39, 5), (41, 14), (53, 14), (65, 14), (71, 14), (72, 14), (73, 42), (616, 14), (629, 5), (663, 14), (664, 14), (665, 14), (1045, 14), (1065, 28), (1157, 14), (1176, 28), (10629, 14), (10648, 28)],
  [(1, 14), (3, 42), (4, 14), (21, 14), (38, 14), (39, 14), (41, 14), (53, 42), (65, 28), (72, 42), (73, 42), (629, 14), (664, 14), (665, 42), (10629, 14)],
  [(1, 14), (3, 42), (21, 14), (39, 14), (41, 42), (664, 42)],
  [(1, 42), (21, 42), (41, 42)],
  [(1, 42)]]

def lkD (m c : Nat) : Option Nat := (tbD.getD m []).lookup c
def smD (m : Nat) : List (List Nat) → Nat
  | [] => 0
  | S :: l => (lkD m (codD S)).getD 1000 + smD m l
def chkD : Bool := (List.range 12).all (fun m => (tbD.getD (m + 1) []).all (fun p => decide (p.2 ≤ 42) && (List.range 7).all (fun k => Nat.ble (smD m (sucD k (decD 14 p.1))) p.2)))
set_option maxRecDepth 100000 in
theorem chkD_t : chkD = true := by decide +kernel
def chk0 : Bool := (tbD.getD 0 []).all (fun p => decide (p.2 = 1) || !((decD 14 p.1).all (fun d => d == 5 || d == 8 || d == 2 || d == 3)))
set_option maxRecDepth 100000 in
theorem chk0_t : chk0 = true := by decide +kernel
theorem lkD_i : ∀ m, m ≤ 12 → ∃ b, lkD m (codD [0]) = some b ∧ b ≤ 42 := by decide +kernel
theorem lookup_mem {c b : Nat} : ∀ {l : List (Nat × Nat)}, l.lookup c = some b → (c, b) ∈ l
  | [], h => by simp at h
  | (x, y) :: l, h => by
    rw [List.lookup_cons] at h
    by_cases e : c == x
    · rw [e] at h
      have := eq_of_beq e
      subst this
      cases h
      simp
    · have e2 : (c == x) = false := by simpa using e
      rw [e2] at h
      exact List.mem_cons_of_mem _ (lookup_mem h)
theorem chkD_at {m : Nat} (hm : m < 12) {S : List Nat} (hS : S.length ≤ 14) (hd : ∀ d ∈ S, d < 15) {b : Nat} (hb : lkD (m + 1) (codD S) = some b) {k : Nat} (hk : k < 7) : b ≤ 42 ∧ smD m (sucD k S) ≤ b := by
  have h := chkD_t
  unfold chkD at h
  rw [List.all_eq_true] at h
  have h1 := h m (List.mem_range.mpr hm)
  rw [List.all_eq_true] at h1
  have h2 := h1 _ (lookup_mem hb)
  rw [Bool.and_eq_true, List.all_eq_true] at h2
  have h3 := h2.2 k (List.mem_range.mpr hk)
  rw [decD_cod 14 S hS hd] at h3
  exact ⟨of_decide_eq_true h2.1, Nat.le_of_ble_eq_true h3⟩
theorem shp4 {e : E3} : shp e = 4 ↔ e.1 = 4 := by
  unfold shp
  repeat' split
  all_goals omega
theorem shp0 {e : E3} : shp e = 0 ↔ e.1 = 0 := by
  unfold shp
  repeat' split
  all_goals omega
theorem shp1 {e : E3} : shp e = 1 ↔ e.1 = 1 := by
  unfold shp
  repeat' split
  all_goals omega
theorem shp2 {e : E3} : shp e = 2 ↔ e.1 = 2 := by
  unfold shp
  repeat' split
  all_goals omega
theorem shp3 {e : E3} : shp e = 3 ↔ e.1 = 3 := by
  unfold shp
  repeat' split
  all_goals omega
theorem shp6 {e : E3} : shp e = 6 ↔ e.1 = 6 := by
  unfold shp
  repeat' split
  all_goals omega
theorem shp7 {e : E3} : shp e = 7 ↔ e.1 = 7 := by
  unfold shp
  repeat' split
  all_goals omega
theorem shp8 {e : E3} : shp e = 8 ↔ e.1 = 5 ∧ e.2.2 = 1 := by
  unfold shp
  repeat' split
  all_goals omega
theorem shp58 {e : E3} : (shp e = 5 ∨ shp e = 8) ↔ e.1 = 5 := by
  unfold shp
  repeat' split
  all_goals omega
theorem shp_58 (w c : Int) : shp (5, w, c) = if c = 1 then 8 else 5 := by unfold shp; rw [if_pos rfl]
theorem sh_nounT {w : Int} {hd hd2 : Int → Int} : ∀ {L L2 : List E3}, nounTop w L hd = some (L2, hd2) → nounT (L.map shp) = [L2.map shp]
  | [], _, h => by simp [nounTop] at h
  | (a, b, c) :: T, L2, h => by
    simp only [nounTop] at h
    rw [List.map_cons, nounT]
    simp only [shp0, shp2, shp6, shp7]
    split at h
    · next z => cases h; rw [if_pos z]; simp [shp]
    · next z => rw [if_neg z]; split at h
                · next z => cases h; rw [if_pos z]; simp [shp]
                · next z => rw [if_neg z]; split at h
                            · next z => cases h; rw [if_pos z]; simp [shp]
                            · next z => rw [if_neg z]; split at h
                                        · next z => cases h; rw [if_pos z]; simp [shp]
                                        · cases h
theorem sh_noun {w : Int} {hd hd2 : Int → Int} : ∀ {L L2 : List E3}, nounStep w L hd = some (L2, hd2) → nounD (L.map shp) = [L2.map shp]
  | [], _, h => by simp [nounStep] at h
  | (a, b, c) :: T, L2, h => by
    simp only [nounStep] at h
    rw [List.map_cons, nounD]
    simp only [shp4]
    split at h
    · next z => rw [if_pos z]; exact sh_nounT h
    · next z => rw [if_neg z]; exact sh_nounT h
theorem sh_verb {w : Int} {hd hd2 : Int → Int} : ∀ {L L2 : List E3}, verbStep w L hd = some (L2, hd2) → verbD (L.map shp) = [L2.map shp]
  | [], _, h => by simp [verbStep] at h
  | (a, b, c) :: T, L2, h => by
    rw [verbStep] at h
    rw [List.map_cons, verbD]
    simp only [shp58, shp1]
    split at h
    · next z => rw [if_pos z]; exact sh_verb h
    · next z => rw [if_neg z]; split at h
                · next z => cases h; rw [if_pos z]; simp [shp]
                · cases h
theorem sh_adj {w : Int} {hd hd2 : Int → Int} : ∀ {L L2 : List E3}, adjStep w L hd = some (L2, hd2) → adjD (L.map shp) = [L2.map shp]
  | [], _, h => by simp [adjStep] at h
  | (a, b, c) :: T, L2, h => by
    simp only [adjStep] at h
    rw [List.map_cons, adjD]
    simp only [shp4, shp0, shp2, shp6, shp7]
    split at h
    · next z => cases h; rw [if_pos z]; simp
    · next z => rw [if_neg z]; split at h
                · next z => cases h; rw [if_pos z]; simp [shp]
                · cases h
theorem sh_open {w : Int} {hd hd2 : Int → Int} : ∀ {L L2 : List E3}, openStep w L hd = some (L2, hd2) → opnD (L.map shp) = [L2.map shp]
  | [], _, h => by simp [openStep] at h
  | (a, b, c) :: T, L2, h => by
    simp only [openStep] at h
    rw [List.map_cons, opnD]
    simp only [shp2]
    split at h
    · next z => cases h; rw [if_pos z]; simp [shp]
    · cases h
theorem sh_cand {kd : Int} (hk : 0 ≤ kd) : ∀ (L : List E3), candD kd.toNat (L.map shp) = (cands kd L).map (List.map shp)
  | [] => rfl
  | (a, b, c) :: T => by
    have ih := sh_cand hk T
    have k5 : kd.toNat = 5 ↔ kd = 5 := by omega
    have k4 : kd.toNat = 4 ↔ kd = 4 := by omega
    rw [List.map_cons, candD, cands]
    have e1 : (shp (a, b, c) = 5 ∨ shp (a, b, c) = 8 ∨ shp (a, b, c) = 2 ∨ shp (a, b, c) = 3) ↔ (a = 5 ∨ a = 2 ∨ a = 3) := by
      have := @shp58 (a, b, c); have h2 := @shp2 (a, b, c); have h3 := @shp3 (a, b, c)
      dsimp only at this h2 h3
      omega
    simp only [e1]
    simp only [shp8, shp2, shp3, k5, k4]
    by_cases z : a = 5 ∨ a = 2 ∨ a = 3
    · rw [if_pos z, if_pos z]
      by_cases z5 : kd = 5
      · rw [if_pos z5, if_pos z5]
        by_cases y : a = 5 ∧ c = 1
        · rw [if_pos y, if_pos y, ih]; simp
        · rw [if_neg y, if_neg y, ih]
      · rw [if_neg z5, if_neg z5]
        by_cases y : a ≠ 5 ∨ kd = 4
        · rw [if_pos y, if_pos (by omega), ih]; simp
        · rw [if_neg y, if_neg (by omega), ih]
    · rw [if_neg z, if_neg z]; rfl
theorem sh_step {kd w cw : Int} (hk : 0 ≤ kd ∧ kd ≤ 6) {L L2 : List E3} {hd hd2 : Int → Int} (h : stepW kd w cw L hd = some (L2, hd2)) (hc : 0 ≤ cw) : (kd = 0 ∨ kd = 1 ∨ kd = 2 ∨ kd = 6 → sucD kd.toNat (L.map shp) = [L2.map shp]) ∧ (¬ (kd = 0 ∨ kd = 1 ∨ kd = 2 ∨ kd = 6) → (sucD kd.toNat (L.map shp)).length = (cands kd L).length ∧ (sucD kd.toNat (L.map shp))[cw.toNat]? = some (L2.map shp)) := by
  unfold stepW at h
  unfold sucD
  have k0 : kd.toNat = 0 ↔ kd = 0 := by omega
  have k1 : kd.toNat = 1 ↔ kd = 1 := by omega
  have k2 : kd.toNat = 2 ↔ kd = 2 := by omega
  have k6 : kd.toNat = 6 ↔ kd = 6 := by omega
  have k5 : kd.toNat = 5 ↔ kd = 5 := by omega
  have k4 : kd.toNat = 4 ↔ kd = 4 := by omega
  simp only [k0, k1, k2, k6]
  split at h
  · next z => rw [if_pos z]; exact ⟨fun _ => sh_noun h, fun y => absurd (Or.inl z) y⟩
  · next z0 =>
    rw [if_neg z0]
    split at h
    · next z => rw [if_pos z]; exact ⟨fun _ => sh_verb h, fun y => absurd (Or.inr (Or.inl z)) y⟩
    · next z1 =>
      rw [if_neg z1]
      split at h
      · next z => rw [if_pos z]; exact ⟨fun _ => sh_adj h, fun y => absurd (Or.inr (Or.inr (Or.inl z))) y⟩
      · next z2 =>
        rw [if_neg z2]
        split at h
        · next z => rw [if_pos z]; exact ⟨fun _ => sh_open h, fun y => absurd (Or.inr (Or.inr (Or.inr z))) y⟩
        · next z6 =>
          rw [if_neg z6, sh_cand hk.1]
          refine ⟨fun y => by omega, fun _ => ⟨by simp, ?_⟩⟩
          rw [List.getElem?_map, List.getElem?_map]
          unfold hangStep at h
          split at h
          · next a b c T hS =>
            rw [hS]
            have q2 := @shp2 (a, b, c)
            dsimp only at q2
            have fx : shp ((if a = 2 then 3 else a), b, c) = if shp (a, b, c) = 2 then 3 else shp (a, b, c) := by
              by_cases e : a = 2
              · rw [if_pos e, if_pos (q2.mpr e)]; rfl
              · rw [if_neg e, if_neg (fun x => e (q2.mp x))]
            simp only [Option.map_some, List.map_cons, hngD, k4, k5]
            split at h
            · next z => cases h; rw [if_pos z]; simp only [List.map_cons, fx]; simp [shp]
            · next z4 =>
              rw [if_neg z4]
              split at h
              · next z => cases h; rw [if_pos z]; simp [shp]
              · next z => cases h; rw [if_neg z]; simp only [List.map_cons, fx]
          · cases h
theorem sm_le {m : Nat} : ∀ (l : List (List Nat)) (outs : List (List (Int → Int))), outs.length = l.length → (∀ (i : Nat) (o : List (Int → Int)) (S : List Nat), outs[i]? = some o → l[i]? = some S → ∀ b, lkD m (codD S) = some b → o.length ≤ b) → smD m l ≤ 42 → outs.reverse.flatten.length ≤ smD m l
  | [], outs, h, _, _ => by
    have : outs = [] := List.eq_nil_of_length_eq_zero h
    subst this
    simp [smD]
  | S :: l, [], h, _, _ => by simp at h
  | S :: l, o :: outs, h, hb, h42 => by
    rw [smD] at h42 ⊢
    have ih := sm_le l outs (by simpa using h) (fun i o2 S2 h1 h2 => hb (i + 1) o2 S2 (by simpa using h1) (by simpa using h2)) (by omega)
    have h0 := hb 0 o S rfl rfl
    rw [List.reverse_cons, List.flatten_append, List.length_append]
    simp only [List.flatten_cons, List.flatten_nil, List.append_nil]
    cases e : lkD m (codD S) with
    | none => rw [e] at h42; simp at h42; omega
    | some b =>
      have := h0 b e
      simp only [Option.getD_some]
      omega
/-- the length of what is laid, by the shape -/
theorem TR_len {kd : Int → Int} {n : Int} (hn : 0 ≤ n ∧ n ≤ 12) (hk : ∀ w, 0 ≤ w → w < n → 0 ≤ kd w ∧ kd w ≤ 6) : ∀ (m : Nat) (w : Int) (L : List E3) (H : (Int → Int) → Prop) (out : List (Int → Int)), 0 ≤ w → w + m = n → okL w L → (∃ hd, H hd) → TR kd n m w L H out → ∀ b, lkD m (codD (L.map shp)) = some b → out.length ≤ b
  | 0, w, L, H, out, h0, hw, hok, hH, hT, b, hb => by
    by_cases c : 0 < n ∧ ∀ e ∈ L, compl e.1
    · obtain ⟨f, rfl, -⟩ := hT.1 c
      have h := chk0_t
      unfold chk0 at h
      rw [List.all_eq_true] at h
      have h1 := h _ (lookup_mem hb)
      rw [decD_cod 14 _ (by rw [List.length_map]; have := hok.2.2.2; omega) (fun d hd => by
        obtain ⟨e, -, rfl⟩ := List.mem_map.mp hd
        exact shp_lt e)] at h1
      rw [Bool.or_eq_true] at h1
      rcases h1 with h1 | h1
      · have := of_decide_eq_true h1
        dsimp only at this
        simp [this]
      · rw [Bool.not_eq_true', List.all_eq_false] at h1
        obtain ⟨d, hd, hf⟩ := h1
        obtain ⟨e, he, rfl⟩ := List.mem_map.mp hd
        have q := c.2 e he
        have q1 := @shp58 e; have q2 := @shp2 e; have q3 := @shp3 e
        unfold compl at q
        exfalso
        apply hf
        simp only [Bool.or_eq_true, beq_iff_eq]
        omega
    · rw [hT.2 c]; simp
  | m + 1, w, L, H, out, h0, hw, hok, ⟨hd, hhd⟩, hT, b, hb => by
    have hkw := hk w h0 (by omega)
    rcases hT with ⟨rfl, hs⟩ | ⟨outs, hne, hlen, h16, rfl, hall⟩
    · simp
    · have hc := chkD_at (by omega) (S := L.map shp) (by rw [List.length_map]; have := hok.2.2.2; omega) (fun d hd => by
        obtain ⟨e, -, rfl⟩ := List.mem_map.mp hd
        exact shp_lt e) hb (k := (kd w).toNat) (by omega)
      have hl : 0 < outs.length := List.length_pos_iff.mpr hne
      have key : outs.length = (sucD (kd w).toNat (L.map shp)).length ∧ ∀ (i : Nat) (o : List (Int → Int)) (S : List Nat), outs[i]? = some o → (sucD (kd w).toNat (L.map shp))[i]? = some S → ∀ b, lkD m (codD S) = some b → o.length ≤ b := by
        by_cases z : kd w = 0 ∨ kd w = 1 ∨ kd w = 2 ∨ kd w = 6
        · have ecan : canW (kd w) L = 1 := if_pos z
          obtain ⟨L2, H2, hst, hTR⟩ := hall 0 outs[0] (List.getElem?_eq_getElem hl)
          obtain ⟨hd2, es, hH2⟩ := hst hd hhd
          have hsh := (sh_step hkw es (by omega)).1 z
          refine ⟨by rw [hsh]; simp; omega, fun i o S hi hS b2 hb2 => ?_⟩
          rw [hsh] at hS
          have i0 : i = 0 := by
            have := (List.getElem?_eq_some_iff.mp hS).1
            simp at this
            exact this
          subst i0
          rw [List.getElem?_eq_getElem hl] at hi
          cases hi
          simp at hS
          subst hS
          exact TR_len hn hk m (w + 1) L2 H2 _ (by omega) (by omega) (okL_step ⟨h0, by omega⟩ hok es) ⟨hd2, hH2⟩ hTR b2 hb2
        · have ecan : canW (kd w) L = (cands (kd w) L).length := if_neg z
          obtain ⟨L2, H2, hst, hTR⟩ := hall 0 outs[0] (List.getElem?_eq_getElem hl)
          obtain ⟨hd2, es, hH2⟩ := hst hd hhd
          have hsh := ((sh_step hkw es (by omega)).2 z).1
          refine ⟨by omega, fun i o S hi hS b2 hb2 => ?_⟩
          obtain ⟨L2, H2, hst, hTR⟩ := hall i o hi
          obtain ⟨hd2, es, hH2⟩ := hst hd hhd
          have hsh := ((sh_step hkw es (by omega)).2 z).2
          rw [Int.toNat_natCast, hS] at hsh
          cases hsh
          exact TR_len hn hk m (w + 1) L2 H2 _ (by omega) (by omega) (okL_step ⟨h0, by omega⟩ hok es) ⟨hd2, hH2⟩ hTR b2 hb2
      exact Nat.le_trans (sm_le _ _ key.1 key.2 (by omega)) hc.2
theorem TR_42 {kd : Int → Int} {n : Int} (hn : 0 ≤ n ∧ n ≤ 12) (hk : ∀ w, 0 ≤ w → w < n → 0 ≤ kd w ∧ kd w ≤ 6) {out : List (Int → Int)} (h : TR kd n n.toNat 0 [(0, 0, -1)] (fun _ => True) out) : out.length ≤ 42 := by
  obtain ⟨b, hb, h42⟩ := lkD_i n.toNat (by omega)
  have := TR_len hn hk n.toNat 0 _ _ out (Int.le_refl _) (by omega) okL_0 ⟨fun _ => 0, trivial⟩ h b hb
  omega
end P2
