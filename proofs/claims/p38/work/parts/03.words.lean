/-! what the small machine stands on: cells, classes, words -/
abbrev Dsc : Type := Nat × Nat × List Nat
/-- launch; address of a cell; the tables' numbers; array classes; string constants' addresses and their arrays' -/
abbrev Cx : Type := Launch × (Nat → Nat) × va_G × (Nat → ClassId) × (Nat → Nat) × (Nat → Nat)
def shp : List Dsc := [(0, 9, [4, 31, 32, 33, 34, 56, 63, 87, 94, 99, 0, 0, 0, 0]), (0, 6, [5, 10, 0, 11, 0, 12, 0]), (0, 7, [6, 7, 2, 2, 1, 0]), (1, 6, []), (1, 6, []), (2, 24, []), (2, 24, []), (1, 3, []), (1, 18, []), (1, 18, []), (0, 6, [14, 19, 0, 20, 0, 21, 0]), (0, 7, [15, 16, 2, 2, 1, 0]), (1, 6, []), (1, 6, []), (2, 24, []), (2, 24, []), (1, 3, []), (1, 18, []), (1, 18, []), (0, 6, [23, 28, 0, 29, 0, 30, 0]), (0, 7, [24, 25, 2, 2, 1, 0]), (1, 6, []), (1, 6, []), (2, 24, []), (2, 24, []), (1, 3, []), (1, 18, []), (1, 18, []), (4, 2, [10, 19]), (3, 2, []), (0, 2, [34, 40, 0]), (0, 8, [35, 0, 36, 37, 38, 39, 0, 0]), (1, 400, []), (1, 401, []), (1, 401, []), (1, 401, []), (1, 401, []), (0, 4, [41, 0, 42, 43, 0]), (5, 12, [41, 42, 43, 44, 45, 46, 47, 48, 49, 50, 51, 52]), (1, 400, []), (1, 400, []), (0, 0, [0, 0, 0, 0, 0, 0, 0, 0]), (0, 0, [0, 0, 0, 0, 0, 0, 0, 0]), (0, 0, [0, 0, 0, 0, 0, 0, 0, 0]), (0, 0, [0, 0, 0, 0, 0, 0, 0, 0]), (0, 0, [0, 0, 0, 0, 0, 0, 0, 0]), (0, 0, [0, 0, 0, 0, 0, 0, 0, 0]), (0, 0, [0, 0, 0, 0, 0, 0, 0, 0]), (0, 0, [0, 0, 0, 0, 0, 0, 0, 0]), (0, 0, [0, 0, 0, 0, 0, 0, 0, 0]), (0, 0, [0, 0, 0, 0, 0, 0, 0, 0]), (0, 0, [0, 0, 0, 0, 0, 0, 0, 0]), (0, 0, [0, 0, 0, 0, 0, 0, 0, 0]), (0, 3, [57, 62, 0, 0, 0]), (0, 7, [58, 59, 2, 2, 1, 0]), (1, 6, []), (1, 6, []), (2, 24, []), (2, 24, []), (2, 50, []), (0, 5, [64, 85, 86, 0, 0, 0, 0, 0, 0]), (6, 4, [62, 67, 72, 77]), (0, 7, [66, 67, 2, 2, 1, 0]), (1, 6, []), (1, 6, []), (2, 24, []), (2, 24, []), (0, 7, [71, 72, 2, 2, 1, 0]), (1, 6, []), (1, 6, []), (2, 24, []), (2, 24, []), (0, 7, [76, 77, 2, 2, 1, 0]), (1, 6, []), (1, 6, []), (2, 24, []), (2, 24, []), (0, 7, [81, 82, 2, 2, 1, 0]), (1, 6, []), (1, 6, []), (2, 24, []), (2, 24, []), (1, 9, []), (1, 9, []), (0, 1, [88, 89, 0, 90, 91, 92, 93]), (1, 6, []), (1, 6, []), (1, 7, []), (1, 7, []), (1, 7, []), (1, 7, []), (0, 7, [95, 96, 2, 2, 1, 0]), (1, 6, []), (1, 6, []), (2, 24, []), (2, 24, []), (1, 5, []), (0, 10, [0, 0, 101, 102, 103, 104, 105, 106, 107, 108, 0, 109, 0, 0, 0, 0, 1, 0, 0, 0, 110, 0, 111, 112, 0, 113, 114, 0, 0, 115, 0, 1, 0, 0, 116, 117, 0, 0, 0, 0, 0, 118, 1, 119, 0]), (1, 7, []), (1, 49, []), (1, 98, []), (2, 25, []), (2, 50, []), (3, 2, []), (2, 300, []), (2, 4, []), (1, 400, []), (1, 96, []), (1, 400, []), (1, 400, []), (1, 400, []), (1, 400, []), (2, 400, []), (1, 3, []), (1, 3, []), (1, 294147, []), (1, 24, [])]
def cls : List vw_C := [(RX0, TX0, 8), (RX1, TX1, 7), (RX2, TX2, 3), (RX3, TX3, 5), (RX4, TX4, 5), (RX5, TX5, 9), (RX6, TX6, 7), (RX7, TX7, 6), (RX8, TX8, 8), (RX9, TX9, 14), (RX10, TX10, 45)]
def tyl (X : Cx) : List (ClassId × FieldType) := [(X.2.2.2.1 0, .int), (X.2.2.2.1 1, .long), (X.2.2.2.1 2, .boolean), (X.2.2.2.1 3, .object RX6), (X.2.2.2.1 4, .object RX0), (X.2.2.2.1 5, .object RX7)]
def tb : List Cond := lw_tbl.filter goodWord
theorem tbm {w : Cond} (h : w ∈ lw_tbl) (g : goodWord w = true) : w ∈ tb := List.mem_filter.mpr ⟨h, g⟩
theorem tb_gd : ∀ w ∈ tb, (w.onTables && w.keeps) = true ∨ ∃ ty, w = .arrayClass ty := fun w h => good_of_word (List.mem_filter.mp h).2
def nbF : List (String × Nat × String × String × String × String) := [("WineSpoon", 110, "WineSpoon$Table", "lower", "J", "WineSpoon"), ("WineSpoon", 274, "WineSpoon$Table", "glasses", "I", "WineSpoon"), ("WineSpoon$Search", 45, "WineSpoon$State", "table", "LWineSpoon$Table;", "WineSpoon"), ("WineSpoon", 86, "WineSpoon$State", "table", "LWineSpoon$Table;", "WineSpoon"), ("WineSpoon$Search", 74, "WineSpoon$State", "spoons", "[I", "WineSpoon"), ("WineSpoon", 210, "WineSpoon$State", "spoons", "[I", "WineSpoon"), ("WineSpoon$Search", 67, "WineSpoon$State", "spoonCount", "I", "WineSpoon"), ("WineSpoon", 207, "WineSpoon$State", "spoonCount", "I", "WineSpoon"), ("WineSpoon$Search", 102, "WineSpoon$State", "tastings", "[I", "WineSpoon"), ("WineSpoon", 226, "WineSpoon$State", "tastings", "[I", "WineSpoon"), ("WineSpoon$Search", 105, "WineSpoon$State", "tastingCount", "I", "WineSpoon"), ("WineSpoon", 213, "WineSpoon$State", "tastingCount", "I", "WineSpoon"), ("WineSpoon$Mixer", 53, "WineSpoon$State", "wines", "[I", "WineSpoon"), ("WineSpoon", 250, "WineSpoon$State", "wines", "[I", "WineSpoon"), ("WineSpoon$Mixer", 42, "WineSpoon$State", "wineCount", "I", "WineSpoon"), ("WineSpoon", 247, "WineSpoon$State", "wineCount", "I", "WineSpoon"), ("WineSpoon", 159, "WineSpoon$Tape", "bytes", "[I", "WineSpoon"), ("WineSpoon", 147, "WineSpoon$Tape", "length", "I", "WineSpoon"), ("WineSpoon$Parser", 69, "WineSpoon$Clause", "kind", "I", "WineSpoon"), ("WineSpoon$Runner", 76, "WineSpoon$Clause", "kind", "I", "WineSpoon"), ("WineSpoon$Parser", 91, "WineSpoon$Clause", "stuff", "I", "WineSpoon"), ("WineSpoon$Runner", 93, "WineSpoon$Clause", "stuff", "I", "WineSpoon"), ("WineSpoon$Runner", 79, "WineSpoon$Clause", "from", "I", "WineSpoon"), ("WineSpoon$Parser", 106, "WineSpoon$Clause", "from", "I", "WineSpoon"), ("WineSpoon$Runner", 82, "WineSpoon$Clause", "to", "I", "WineSpoon"), ("WineSpoon$Parser", 110, "WineSpoon$Clause", "to", "I", "WineSpoon"), ("WineSpoon$Runner", 49, "WineSpoon$Clause", "times", "I", "WineSpoon"), ("WineSpoon$Parser", 114, "WineSpoon$Clause", "times", "I", "WineSpoon"), ("WineSpoon$Runner", 71, "WineSpoon$Clause", "sumStart", "I", "WineSpoon"), ("WineSpoon$Parser", 94, "WineSpoon$Clause", "sumStart", "I", "WineSpoon"), ("WineSpoon$Runner", 64, "WineSpoon$Clause", "sumEnd", "I", "WineSpoon"), ("WineSpoon$Parser", 101, "WineSpoon$Clause", "sumEnd", "I", "WineSpoon"), ("WineSpoon$Runner", 61, "WineSpoon$Clause", "testEnd", "I", "WineSpoon"), ("WineSpoon$Parser", 121, "WineSpoon$Clause", "testEnd", "I", "WineSpoon"), ("WineSpoon$Runner", 38, "WineSpoon$Script", "clauses", "[LWineSpoon$Clause;", "WineSpoon"), ("WineSpoon$Parser", 38, "WineSpoon$Script", "clauses", "[LWineSpoon$Clause;", "WineSpoon"), ("WineSpoon$Runner", 33, "WineSpoon$Script", "clauseCount", "I", "WineSpoon"), ("WineSpoon$Parser", 35, "WineSpoon$Script", "clauseCount", "I", "WineSpoon"), ("WineSpoon$Runner", 105, "WineSpoon$Script", "codes", "[I", "WineSpoon"), ("WineSpoon$Runner", 109, "WineSpoon$Script", "details", "[I", "WineSpoon"), ("WineSpoon$Parser", 29, "WineSpoon$Script", "length", "I", "WineSpoon"), ("WineSpoon$Runner", 102, "WineSpoon$Script", "length", "I", "WineSpoon"), ("WineSpoon", 31, "WineSpoon$Parser", "tape", "LWineSpoon$Tape;", "WineSpoon"), ("WineSpoon", 172, "WineSpoon$Parser", "script", "LWineSpoon$Script;", "WineSpoon"), ("WineSpoon", 180, "WineSpoon$Runner", "clause", "I", "WineSpoon"), ("WineSpoon", 260, "WineSpoon$Mixer", "best", "[I", "WineSpoon")]
def nbM : List (String × Nat × MethodName × String) := [("WineSpoon", 11, ⟨"WineSpoon$State", "<init>", "()V"⟩, "WineSpoon"), ("WineSpoon$State", 11, ⟨"WineSpoon$Table", "<init>", "()V"⟩, "WineSpoon"), ("WineSpoon", 26, ⟨"WineSpoon$Parser", "<init>", "()V"⟩, "WineSpoon"), ("WineSpoon$Parser", 11, ⟨"WineSpoon$Tape", "<init>", "()V"⟩, "WineSpoon"), ("WineSpoon$Script", 24, ⟨"WineSpoon$Clause", "<init>", "()V"⟩, "WineSpoon"), ("WineSpoon", 38, ⟨"WineSpoon$Runner", "<init>", "()V"⟩, "WineSpoon"), ("WineSpoon$Runner", 11, ⟨"WineSpoon$Table", "<init>", "()V"⟩, "WineSpoon"), ("WineSpoon$Search", 24, ⟨"WineSpoon$Table", "<init>", "()V"⟩, "WineSpoon"), ("WineSpoon", 52, ⟨"WineSpoon$Mixer", "<init>", "()V"⟩, "WineSpoon"), ("WineSpoon", 59, ⟨"WineSpoon$Table", "<init>", "()V"⟩, "WineSpoon"), ("WineSpoon$Table", 57, ⟨"WineSpoon", "isAmount", "(I)Z"⟩, "WineSpoon"), ("WineSpoon$Table", 60, ⟨"WineSpoon", "isStuff", "(I)Z"⟩, "WineSpoon"), ("WineSpoon$Table", 88, ⟨"WineSpoon", "commonDivisor", "(JJ)J"⟩, "WineSpoon"), ("WineSpoon$Search", 84, ⟨"WineSpoon", "putTriple", "([IIIII)V"⟩, "WineSpoon"), ("WineSpoon$Search", 59, ⟨"WineSpoon", "isWithin", "(III)Z"⟩, "WineSpoon"), ("WineSpoon$Mixer", 72, ⟨"WineSpoon", "isWithin", "(III)Z"⟩, "WineSpoon")]
def nb : List Cond := nbF.map (fun q => .fieldLinkNest q.1 q.2.1 q.2.2.1 q.2.2.2.1 q.2.2.2.2.1 q.2.2.2.2.2) ++ nbM.map (fun q => .methodLinkNest q.1 q.2.1 q.2.2.1 q.2.2.2)
theorem nb_on {w : Cond} (h : w ∈ nb) : w.onTables = true := by
  rcases List.mem_append.mp h with h | h
  · obtain ⟨q, -, rfl⟩ := List.mem_map.mp h; rfl
  · obtain ⟨q, -, rfl⟩ := List.mem_map.mp h; rfl
theorem nb_warm {w : Cond} {s U : State} (h : w ∈ nb) (hW : s.WarmedH U.vm) (hZ : va_Nw w s) : va_Nw w U := by
  rcases List.mem_append.mp h with h | h
  · obtain ⟨q, -, rfl⟩ := List.mem_map.mp h; exact va_Nw.warmF hW hZ
  · obtain ⟨q, -, rfl⟩ := List.mem_map.mp h; exact va_Nw.warmM hW hZ
theorem nb_in : ∀ w ∈ nb, w ∈ lw_tbl := by
  have h : nb = [138, 140, 157, 158, 160, 161, 163, 164, 166, 167, 169, 170, 172, 173, 175, 176, 206, 208, 246, 247, 248, 249, 250, 251, 252, 253, 254, 255, 256, 257, 258, 259, 260, 261, 280, 281, 282, 283, 285, 287, 289, 290, 303, 305, 327, 384, 123, 129, 195, 201, 242, 316, 321, 347, 378, 406, 536, 537, 569, 959, 966, 1039].filterMap (fun i => lw_tbl[i]?) := by decide +kernel
  intro w hw
  rw [h] at hw
  obtain ⟨i, -, hi⟩ := List.mem_filterMap.mp hw
  exact List.mem_of_getElem? hi
theorem shp_sm {c t n : Nat} {r : List Nat} (h : shp[c]? = some (t, n, r)) : n ≤ 300000 := by
  have h1 : ∀ d ∈ shp, d.2.1 ≤ 300000 := by decide +kernel
  exact h1 _ (List.mem_of_getElem? h)
theorem lay_X0 : ∀ w ∈ u_ws RX0 TX0 8, w ∈ tb := by
  have h : u_ws RX0 TX0 8 = [262, 264, 266, 268, 270, 272, 274, 276].filterMap (fun i => lw_tbl[i]?) := by decide +kernel
  have g : (u_ws RX0 TX0 8).all goodWord = true := by decide +kernel
  intro w hw
  refine tbm ?_ (List.all_eq_true.mp g w hw)
  rw [h] at hw
  obtain ⟨i, -, hi⟩ := List.mem_filterMap.mp hw
  exact List.mem_of_getElem? hi
theorem lay_X1 : ∀ w ∈ u_ws RX1 TX1 7, w ∈ tb := by
  have h : u_ws RX1 TX1 7 = [390, 392, 394, 396, 398, 400, 402].filterMap (fun i => lw_tbl[i]?) := by decide +kernel
  have g : (u_ws RX1 TX1 7).all goodWord = true := by decide +kernel
  intro w hw
  refine tbm ?_ (List.all_eq_true.mp g w hw)
  rw [h] at hw
  obtain ⟨i, -, hi⟩ := List.mem_filterMap.mp hw
  exact List.mem_of_getElem? hi
theorem lay_X2 : ∀ w ∈ u_ws RX2 TX2 3, w ∈ tb := by
  have h : u_ws RX2 TX2 3 = [307, 309, 311].filterMap (fun i => lw_tbl[i]?) := by decide +kernel
  have g : (u_ws RX2 TX2 3).all goodWord = true := by decide +kernel
  intro w hw
  refine tbm ?_ (List.all_eq_true.mp g w hw)
  rw [h] at hw
  obtain ⟨i, -, hi⟩ := List.mem_filterMap.mp hw
  exact List.mem_of_getElem? hi
theorem lay_X3 : ∀ w ∈ u_ws RX3 TX3 5, w ∈ tb := by
  have h : u_ws RX3 TX3 5 = [328, 330, 332, 334, 336].filterMap (fun i => lw_tbl[i]?) := by decide +kernel
  have g : (u_ws RX3 TX3 5).all goodWord = true := by decide +kernel
  intro w hw
  refine tbm ?_ (List.all_eq_true.mp g w hw)
  rw [h] at hw
  obtain ⟨i, -, hi⟩ := List.mem_filterMap.mp hw
  exact List.mem_of_getElem? hi
theorem lay_X4 : ∀ w ∈ u_ws RX4 TX4 5, w ∈ tb := by
  have h : u_ws RX4 TX4 5 = [291, 293, 295, 297, 299].filterMap (fun i => lw_tbl[i]?) := by decide +kernel
  have g : (u_ws RX4 TX4 5).all goodWord = true := by decide +kernel
  intro w hw
  refine tbm ?_ (List.all_eq_true.mp g w hw)
  rw [h] at hw
  obtain ⟨i, -, hi⟩ := List.mem_filterMap.mp hw
  exact List.mem_of_getElem? hi
theorem lay_X5 : ∀ w ∈ u_ws RX5 TX5 9, w ∈ tb := by
  have h : u_ws RX5 TX5 9 = [357, 359, 361, 363, 365, 367, 369, 371, 373].filterMap (fun i => lw_tbl[i]?) := by decide +kernel
  have g : (u_ws RX5 TX5 9).all goodWord = true := by decide +kernel
  intro w hw
  refine tbm ?_ (List.all_eq_true.mp g w hw)
  rw [h] at hw
  obtain ⟨i, -, hi⟩ := List.mem_filterMap.mp hw
  exact List.mem_of_getElem? hi
theorem lay_X6 : ∀ w ∈ u_ws RX6 TX6 7, w ∈ tb := by
  have h : u_ws RX6 TX6 7 = [177, 179, 181, 183, 185, 187, 189].filterMap (fun i => lw_tbl[i]?) := by decide +kernel
  have g : (u_ws RX6 TX6 7).all goodWord = true := by decide +kernel
  intro w hw
  refine tbm ?_ (List.all_eq_true.mp g w hw)
  rw [h] at hw
  obtain ⟨i, -, hi⟩ := List.mem_filterMap.mp hw
  exact List.mem_of_getElem? hi
theorem lay_X7 : ∀ w ∈ u_ws RX7 TX7 6, w ∈ tb := by
  have h : u_ws RX7 TX7 6 = [141, 143, 145, 147, 149, 151].filterMap (fun i => lw_tbl[i]?) := by decide +kernel
  have g : (u_ws RX7 TX7 6).all goodWord = true := by decide +kernel
  intro w hw
  refine tbm ?_ (List.all_eq_true.mp g w hw)
  rw [h] at hw
  obtain ⟨i, -, hi⟩ := List.mem_filterMap.mp hw
  exact List.mem_of_getElem? hi
theorem lay_X8 : ∀ w ∈ u_ws RX8 TX8 8, w ∈ tb := by
  have h : u_ws RX8 TX8 8 = [215, 217, 219, 221, 223, 225, 227, 229].filterMap (fun i => lw_tbl[i]?) := by decide +kernel
  have g : (u_ws RX8 TX8 8).all goodWord = true := by decide +kernel
  intro w hw
  refine tbm ?_ (List.all_eq_true.mp g w hw)
  rw [h] at hw
  obtain ⟨i, -, hi⟩ := List.mem_filterMap.mp hw
  exact List.mem_of_getElem? hi
theorem lay_X9 : ∀ w ∈ u_ws RX9 TX9 14, w ∈ tb := by
  have h : u_ws RX9 TX9 14 = [421, 423, 425, 427, 429, 431, 433, 435, 437, 439, 441, 443, 445, 447].filterMap (fun i => lw_tbl[i]?) := by decide +kernel
  have g : (u_ws RX9 TX9 14).all goodWord = true := by decide +kernel
  intro w hw
  refine tbm ?_ (List.all_eq_true.mp g w hw)
  rw [h] at hw
  obtain ⟨i, -, hi⟩ := List.mem_filterMap.mp hw
  exact List.mem_of_getElem? hi
theorem lay_X10 : ∀ w ∈ u_ws RX10 TX10 45, w ∈ tb := by
  have h : u_ws RX10 TX10 45 = [1154, 1156, 1158, 1160, 1162, 1164, 1166, 1168, 1170, 1172, 1174, 1176, 1178, 1180, 1182, 1184, 1186, 1188, 1190, 1192, 1194, 1196, 1198, 1200, 1202, 1204, 1206, 1208, 1210, 1212, 1214, 1216, 1218, 1220, 1222, 1224, 1226, 1228, 1230, 1232, 1234, 1236, 1238, 1240, 1242].filterMap (fun i => lw_tbl[i]?) := by decide +kernel
  have g : (u_ws RX10 TX10 45).all goodWord = true := by decide +kernel
  intro w hw
  refine tbm ?_ (List.all_eq_true.mp g w hw)
  rw [h] at hw
  obtain ⟨i, -, hi⟩ := List.mem_filterMap.mp hw
  exact List.mem_of_getElem? hi
theorem cls_in : ∀ (ci : Nat) (q : vw_C), cls[ci]? = some q → ∀ w ∈ u_ws q.1 q.2.1 q.2.2, w ∈ tb := by
  intro ci q h
  match ci, h with
  | 0, h => cases h; exact lay_X0
  | 1, h => cases h; exact lay_X1
  | 2, h => cases h; exact lay_X2
  | 3, h => cases h; exact lay_X3
  | 4, h => cases h; exact lay_X4
  | 5, h => cases h; exact lay_X5
  | 6, h => cases h; exact lay_X6
  | 7, h => cases h; exact lay_X7
  | 8, h => cases h; exact lay_X8
  | 9, h => cases h; exact lay_X9
  | 10, h => cases h; exact lay_X10
  | ci + 11, h => simp [cls] at h
theorem cls_ty : ∀ (ci : Nat) (q : vw_C), cls[ci]? = some q → ∃ ty0 : Nat → FieldType, ∀ k, k < q.2.2 → parseFieldDescriptor (q.2.1 k).2.2.1 = some (ty0 k) := by
  intro ci q h
  match ci, h with
  | 0, h => cases h; exact ⟨tyX0, tyX0_ok⟩
  | 1, h => cases h; exact ⟨tyX1, tyX1_ok⟩
  | 2, h => cases h; exact ⟨tyX2, tyX2_ok⟩
  | 3, h => cases h; exact ⟨tyX3, tyX3_ok⟩
  | 4, h => cases h; exact ⟨tyX4, tyX4_ok⟩
  | 5, h => cases h; exact ⟨tyX5, tyX5_ok⟩
  | 6, h => cases h; exact ⟨tyX6, tyX6_ok⟩
  | 7, h => cases h; exact ⟨tyX7, tyX7_ok⟩
  | 8, h => cases h; exact ⟨tyX8, tyX8_ok⟩
  | 9, h => cases h; exact ⟨tyX9, tyX9_ok⟩
  | 10, h => cases h; exact ⟨tyX10, tyX10_ok⟩
  | ci + 11, h => simp [cls] at h
theorem cls_nm : ∀ (ci : Nat) (q : vw_C), cls[ci]? = some q → ∀ a, a < q.2.2 → ∀ b, b < q.2.2 → a ≠ b → (q.2.1 a).2.1 ≠ (q.2.1 b).2.1 := by
  intro ci q h
  match ci, h with
  | 0, h => cases h; exact nmX0
  | 1, h => cases h; exact nmX1
  | 2, h => cases h; exact nmX2
  | 3, h => cases h; exact nmX3
  | 4, h => cases h; exact nmX4
  | 5, h => cases h; exact nmX5
  | 6, h => cases h; exact nmX6
  | 7, h => cases h; exact nmX7
  | 8, h => cases h; exact nmX8
  | 9, h => cases h; exact nmX9
  | 10, h => cases h; exact nmX10
  | ci + 11, h => simp [cls] at h
/-! string constants -/
def sTx : List (String × Nat × String) := [("WineSpoon$Parser", 63, "spoon"), ("WineSpoon$Parser", 162, "done"), ("WineSpoon$Parser", 164, "full"), ("WineSpoon$Parser", 170, "size"), ("WineSpoon$Parser", 172, "taste"), ("WineSpoon$Parser", 104, "from"), ("WineSpoon$Parser", 108, "to"), ("WineSpoon$Parser", 83, "lick"), ("WineSpoon$Parser", 85, "fill"), ("WineSpoon$Parser", 112, "times"), ("WineSpoon$Parser", 116, "if"), ("WineSpoon$Parser", 141, "not"), ("WineSpoon$Parser", 139, "and"), ("WineSpoon$Parser", 127, "or")]
def sLen : List Nat := [5, 4, 4, 4, 5, 4, 2, 4, 4, 5, 2, 3, 3, 2]
def sByt : List (List Int32) := [[115, 112, 111, 111, 110], [100, 111, 110, 101], [102, 117, 108, 108], [115, 105, 122, 101], [116, 97, 115, 116, 101], [102, 114, 111, 109], [116, 111], [108, 105, 99, 107], [102, 105, 108, 108], [116, 105, 109, 101, 115], [105, 102], [110, 111, 116], [97, 110, 100], [111, 114]]
def ax (X : Cx) : Nat → Prop := fun q => ∃ (c : Nat) (d : Dsc), shp[c]? = some d ∧ q = X.2.1 c
def Str (X : Cx) (U : State) (H : Heap) : Prop := vk_S 14 sLen sByt X.2.2.2.2.1 X.2.2.2.2.2 (ax X) U H ∧ (∀ (j : Nat) (q : String × Nat × String), sTx[j]? = some q → vk_R q.1 q.2.1 q.2.2 (X.2.2.2.2.1 j) U) ∧ va_Z "java/lang/String" "COMPACT_STRINGS" "Z" (.int 1) (ax X) U H ∧ va_Zq "jdk/internal/util/Preconditions" "SIOOBE_FORMATTER" "Ljava/util/function/BiFunction;" (ax X) U H
theorem Str.step {X : Cx} {s U : State} {locs : List Loc} (h : Str X s s.heap) (hW : s.WarmedH U.vm) (hS : va_S (ax X) s.heap U.heap locs) : Str X U U.heap :=
  ⟨(h.1.moved hW.alike).kept hS.2.1, fun j q hq => (h.2.1 j q hq).warm hW, (h.2.2.1.moved hW.alike).kept hS.2.1, (h.2.2.2.moved hW.alike).kept hS.2.1⟩
theorem Str.calling {X : Cx} {U : State} {g : JFrame} {mk : MethodId} {a : Array Value} (h : Str X U U.heap) : Str X (U.calling g mk a) (U.calling g mk a).heap :=
  ⟨h.1.moved (Vm.Alike.refl U.vm), fun j q hq => (h.2.1 j q hq).same rfl, h.2.2.1.moved (Vm.Alike.refl U.vm), h.2.2.2.moved (Vm.Alike.refl U.vm)⟩
