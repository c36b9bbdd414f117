def R_T : String := "TileConsole"
def F_T : u_T := fun k => match k with
  | 0 => ("TileConsole", "cartridge", "LTileConsole$Cartridge;", true)
  | 1 => ("TileConsole", "ports", "LTileConsole$Ports;", true)
  | 2 => ("TileConsole", "memory", "LTileConsole$Memory;", true)
  | 3 => ("TileConsole", "screen", "LTileConsole$Screen;", true)
  | _ => ("TileConsole", "processor", "LTileConsole$Processor;", true)
def ty_T : Nat → FieldType := fun k => match k with
  | 0 => .object "TileConsole$Cartridge"
  | 1 => .object "TileConsole$Ports"
  | 2 => .object "TileConsole$Memory"
  | 3 => .object "TileConsole$Screen"
  | _ => .object "TileConsole$Processor"
abbrev w_T : List Cond := u_ws R_T F_T 5
set_option maxRecDepth 100000 in
theorem n_T : ∀ a, a < 5 → ∀ b, b < 5 → a ≠ b → (F_T a).2.1 ≠ (F_T b).2.1 := by decide +kernel
set_option maxRecDepth 100000 in
theorem ty_T_ok : ∀ k, k < 5 → parseFieldDescriptor (F_T k).2.2.1 = some (ty_T k) := by decide +kernel
def R_K : String := "TileConsole$Cartridge"
def F_K : u_T := fun k => match k with
  | 0 => ("TileConsole$Cartridge", "rom", "[I", true)
  | 1 => ("TileConsole$Cartridge", "ram", "[I", true)
  | 2 => ("TileConsole$Cartridge", "in", "Z", false)
  | 3 => ("TileConsole$Cartridge", "kind", "I", false)
  | 4 => ("TileConsole$Cartridge", "on", "Z", false)
  | 5 => ("TileConsole$Cartridge", "highBank", "I", false)
  | 6 => ("TileConsole$Cartridge", "ramBank", "I", false)
  | 7 => ("TileConsole$Cartridge", "enabled", "Z", false)
  | 8 => ("TileConsole$Cartridge", "romNumber", "I", false)
  | 9 => ("TileConsole$Cartridge", "ramNumber", "I", false)
  | _ => ("TileConsole$Cartridge", "mode", "I", false)
def ty_K : Nat → FieldType := fun k => match k with
  | 0 => .array .int
  | 1 => .array .int
  | 2 => .boolean
  | 3 => .int
  | 4 => .boolean
  | 5 => .int
  | 6 => .int
  | 7 => .boolean
  | 8 => .int
  | 9 => .int
  | _ => .int
abbrev w_K : List Cond := u_ws R_K F_K 11
set_option maxRecDepth 100000 in
theorem n_K : ∀ a, a < 11 → ∀ b, b < 11 → a ≠ b → (F_K a).2.1 ≠ (F_K b).2.1 := by decide +kernel
set_option maxRecDepth 100000 in
theorem ty_K_ok : ∀ k, k < 11 → parseFieldDescriptor (F_K k).2.2.1 = some (ty_K k) := by decide +kernel
def R_P : String := "TileConsole$Ports"
def F_P : u_T := fun k => match k with
  | 0 => ("TileConsole$Ports", "octets", "[I", true)
  | 1 => ("TileConsole$Ports", "frames", "I", false)
  | 2 => ("TileConsole$Ports", "down", "I", false)
  | 3 => ("TileConsole$Ports", "ticks", "I", false)
  | 4 => ("TileConsole$Ports", "dot", "I", false)
  | 5 => ("TileConsole$Ports", "ly", "I", false)
  | 6 => ("TileConsole$Ports", "state", "I", false)
  | _ => ("TileConsole$Ports", "signal", "Z", false)
def ty_P : Nat → FieldType := fun k => match k with
  | 0 => .array .int
  | 1 => .int
  | 2 => .int
  | 3 => .int
  | 4 => .int
  | 5 => .int
  | 6 => .int
  | _ => .boolean
abbrev w_P : List Cond := u_ws R_P F_P 8
set_option maxRecDepth 100000 in
theorem n_P : ∀ a, a < 8 → ∀ b, b < 8 → a ≠ b → (F_P a).2.1 ≠ (F_P b).2.1 := by decide +kernel
set_option maxRecDepth 100000 in
theorem ty_P_ok : ∀ k, k < 8 → parseFieldDescriptor (F_P k).2.2.1 = some (ty_P k) := by decide +kernel
def R_Y : String := "TileConsole$Memory"
def F_Y : u_T := fun k => match k with
  | 0 => ("TileConsole$Memory", "video", "[I", true)
  | 1 => ("TileConsole$Memory", "sprites", "[I", true)
  | 2 => ("TileConsole$Memory", "work", "[I", true)
  | 3 => ("TileConsole$Memory", "high", "[I", true)
  | 4 => ("TileConsole$Memory", "cartridge", "LTileConsole$Cartridge;", true)
  | _ => ("TileConsole$Memory", "ports", "LTileConsole$Ports;", true)
def ty_Y : Nat → FieldType := fun k => match k with
  | 0 => .array .int
  | 1 => .array .int
  | 2 => .array .int
  | 3 => .array .int
  | 4 => .object "TileConsole$Cartridge"
  | _ => .object "TileConsole$Ports"
abbrev w_Y : List Cond := u_ws R_Y F_Y 6
set_option maxRecDepth 100000 in
theorem n_Y : ∀ a, a < 6 → ∀ b, b < 6 → a ≠ b → (F_Y a).2.1 ≠ (F_Y b).2.1 := by decide +kernel
set_option maxRecDepth 100000 in
theorem ty_Y_ok : ∀ k, k < 6 → parseFieldDescriptor (F_Y k).2.2.1 = some (ty_Y k) := by decide +kernel
def R_S : String := "TileConsole$Screen"
def F_S : u_T := fun k => match k with
  | 0 => ("TileConsole$Screen", "pixels", "[I", true)
  | 1 => ("TileConsole$Screen", "video", "[I", true)
  | 2 => ("TileConsole$Screen", "sprites", "[I", true)
  | 3 => ("TileConsole$Screen", "ports", "[I", true)
  | 4 => ("TileConsole$Screen", "aheadNumber", "[I", true)
  | 5 => ("TileConsole$Screen", "aheadX", "[I", true)
  | _ => ("TileConsole$Screen", "aheadFlags", "[I", true)
def ty_S : Nat → FieldType := fun k => match k with
  | 0 => .array .int
  | 1 => .array .int
  | 2 => .array .int
  | 3 => .array .int
  | 4 => .array .int
  | 5 => .array .int
  | _ => .array .int
abbrev w_S : List Cond := u_ws R_S F_S 7
set_option maxRecDepth 100000 in
theorem n_S : ∀ a, a < 7 → ∀ b, b < 7 → a ≠ b → (F_S a).2.1 ≠ (F_S b).2.1 := by decide +kernel
set_option maxRecDepth 100000 in
theorem ty_S_ok : ∀ k, k < 7 → parseFieldDescriptor (F_S k).2.2.1 = some (ty_S k) := by decide +kernel
def R_Q : String := "TileConsole$Processor"
def F_Q : u_T := fun k => match k with
  | 0 => ("TileConsole$Processor", "cycles", "I", false)
  | 1 => ("TileConsole$Processor", "done", "I", false)
  | 2 => ("TileConsole$Processor", "taken", "I", false)
  | 3 => ("TileConsole$Processor", "ime", "Z", false)
  | 4 => ("TileConsole$Processor", "halted", "Z", false)
  | 5 => ("TileConsole$Processor", "locked", "Z", false)
  | 6 => ("TileConsole$Processor", "\x72", "[I", true)
  | 7 => ("TileConsole$Processor", "sp", "I", false)
  | 8 => ("TileConsole$Processor", "pc", "I", false)
  | 9 => ("TileConsole$Processor", "armed", "Z", false)
  | 10 => ("TileConsole$Processor", "time", "I", false)
  | 11 => ("TileConsole$Processor", "memory", "LTileConsole$Memory;", true)
  | _ => ("TileConsole$Processor", "ports", "LTileConsole$Ports;", true)
def ty_Q : Nat → FieldType := fun k => match k with
  | 0 => .int
  | 1 => .int
  | 2 => .int
  | 3 => .boolean
  | 4 => .boolean
  | 5 => .boolean
  | 6 => .array .int
  | 7 => .int
  | 8 => .int
  | 9 => .boolean
  | 10 => .int
  | 11 => .object "TileConsole$Memory"
  | _ => .object "TileConsole$Ports"
abbrev w_Q : List Cond := u_ws R_Q F_Q 13
set_option maxRecDepth 100000 in
theorem n_Q : ∀ a, a < 13 → ∀ b, b < 13 → a ≠ b → (F_Q a).2.1 ≠ (F_Q b).2.1 := by decide +kernel
set_option maxRecDepth 100000 in
theorem ty_Q_ok : ∀ k, k < 13 → parseFieldDescriptor (F_Q k).2.2.1 = some (ty_Q k) := by decide +kernel
def R_R : String := "TileConsoleModel"
def F_R : u_T := fun k => match k with
  | 0 => ("TileConsoleModel", "err", "I", false)
  | 1 => ("TileConsoleModel", "rom", "[I", true)
  | 2 => ("TileConsoleModel", "ram", "[I", true)
  | 3 => ("TileConsoleModel", "video", "[I", true)
  | 4 => ("TileConsoleModel", "work", "[I", true)
  | 5 => ("TileConsoleModel", "sprites", "[I", true)
  | 6 => ("TileConsoleModel", "top", "[I", true)
  | 7 => ("TileConsoleModel", "line", "[I", true)
  | 8 => ("TileConsoleModel", "isIn", "Z", false)
  | 9 => ("TileConsoleModel", "isOn", "Z", false)
  | 10 => ("TileConsoleModel", "kind", "I", false)
  | 11 => ("TileConsoleModel", "numberA", "I", false)
  | 12 => ("TileConsoleModel", "numberB", "I", false)
  | 13 => ("TileConsoleModel", "mode", "I", false)
  | 14 => ("TileConsoleModel", "numberN", "I", false)
  | 15 => ("TileConsoleModel", "bankOfRam", "I", false)
  | 16 => ("TileConsoleModel", "bankTwo", "I", false)
  | 17 => ("TileConsoleModel", "\x72", "[I", true)
  | 18 => ("TileConsoleModel", "sp", "I", false)
  | 19 => ("TileConsoleModel", "pc", "I", false)
  | 20 => ("TileConsoleModel", "cost", "I", false)
  | 21 => ("TileConsoleModel", "ime", "Z", false)
  | 22 => ("TileConsoleModel", "halts", "Z", false)
  | 23 => ("TileConsoleModel", "locked", "Z", false)
  | 24 => ("TileConsoleModel", "soon", "Z", false)
  | 25 => ("TileConsoleModel", "keysDown", "I", false)
  | 26 => ("TileConsoleModel", "keysAsked", "I", false)
  | 27 => ("TileConsoleModel", "s", "I", false)
  | 28 => ("TileConsoleModel", "tima", "I", false)
  | 29 => ("TileConsoleModel", "tma", "I", false)
  | 30 => ("TileConsoleModel", "tac", "I", false)
  | 31 => ("TileConsoleModel", "flags", "I", false)
  | 32 => ("TileConsoleModel", "enabled", "I", false)
  | 33 => ("TileConsoleModel", "lcdc", "I", false)
  | 34 => ("TileConsoleModel", "stat", "I", false)
  | 35 => ("TileConsoleModel", "scy", "I", false)
  | 36 => ("TileConsoleModel", "scx", "I", false)
  | 37 => ("TileConsoleModel", "ly", "I", false)
  | 38 => ("TileConsoleModel", "lyc", "I", false)
  | 39 => ("TileConsoleModel", "dma", "I", false)
  | 40 => ("TileConsoleModel", "bgp", "I", false)
  | 41 => ("TileConsoleModel", "obp0", "I", false)
  | 42 => ("TileConsoleModel", "obp1", "I", false)
  | 43 => ("TileConsoleModel", "wy", "I", false)
  | 44 => ("TileConsoleModel", "wx", "I", false)
  | 45 => ("TileConsoleModel", "dot", "I", false)
  | 46 => ("TileConsoleModel", "signal", "Z", false)
  | 47 => ("TileConsoleModel", "cycles", "I", false)
  | 48 => ("TileConsoleModel", "instructions", "I", false)
  | 49 => ("TileConsoleModel", "interrupts", "I", false)
  | _ => ("TileConsoleModel", "frames", "I", false)
def ty_R : Nat → FieldType := fun k => match k with
  | 0 => .int
  | 1 => .array .int
  | 2 => .array .int
  | 3 => .array .int
  | 4 => .array .int
  | 5 => .array .int
  | 6 => .array .int
  | 7 => .array .int
  | 8 => .boolean
  | 9 => .boolean
  | 10 => .int
  | 11 => .int
  | 12 => .int
  | 13 => .int
  | 14 => .int
  | 15 => .int
  | 16 => .int
  | 17 => .array .int
  | 18 => .int
  | 19 => .int
  | 20 => .int
  | 21 => .boolean
  | 22 => .boolean
  | 23 => .boolean
  | 24 => .boolean
  | 25 => .int
  | 26 => .int
  | 27 => .int
  | 28 => .int
  | 29 => .int
  | 30 => .int
  | 31 => .int
  | 32 => .int
  | 33 => .int
  | 34 => .int
  | 35 => .int
  | 36 => .int
  | 37 => .int
  | 38 => .int
  | 39 => .int
  | 40 => .int
  | 41 => .int
  | 42 => .int
  | 43 => .int
  | 44 => .int
  | 45 => .int
  | 46 => .boolean
  | 47 => .int
  | 48 => .int
  | 49 => .int
  | _ => .int
abbrev w_R : List Cond := u_ws R_R F_R 51
set_option maxRecDepth 100000 in
theorem n_R : ∀ a, a < 51 → ∀ b, b < 51 → a ≠ b → (F_R a).2.1 ≠ (F_R b).2.1 := by decide +kernel
set_option maxRecDepth 100000 in
theorem ty_R_ok : ∀ k, k < 51 → parseFieldDescriptor (F_R k).2.2.1 = some (ty_R k) := by decide +kernel
abbrev vcl : List vw_C := [(R_T, F_T, 5), (R_K, F_K, 11), (R_P, F_P, 8), (R_Y, F_Y, 6), (R_S, F_S, 7), (R_Q, F_Q, 13), (R_R, F_R, 51)]
def WA : List Cond := lw_tbl.filter goodWord
theorem WAm {w : Cond} (i : Nat) (h : lw_tbl[i]? = some w) (hg : goodWord w = true) : w ∈ WA := List.mem_filter.mpr ⟨List.mem_of_getElem? h, hg⟩
set_option maxRecDepth 100000 in
theorem i_T : ∀ w ∈ w_T, w ∈ WA := by
  intro w hw
  have h : w ∈ [361, 363, 365, 367, 369].filterMap (fun i => lw_tbl[i]?) := hw
  obtain ⟨i, -, hi⟩ := List.mem_filterMap.mp h
  exact List.mem_filter.mpr ⟨List.mem_of_getElem? hi, List.all_eq_true.mp (show (w_T.all goodWord) = true from by decide +kernel) w hw⟩
set_option maxRecDepth 100000 in
theorem i_K : ∀ w ∈ w_K, w ∈ WA := by
  intro w hw
  have h : w ∈ [147, 149, 151, 153, 155, 157, 159, 161, 163, 165, 167].filterMap (fun i => lw_tbl[i]?) := hw
  obtain ⟨i, -, hi⟩ := List.mem_filterMap.mp h
  exact List.mem_filter.mpr ⟨List.mem_of_getElem? hi, List.all_eq_true.mp (show (w_K.all goodWord) = true from by decide +kernel) w hw⟩
set_option maxRecDepth 100000 in
theorem i_P : ∀ w ∈ w_P, w ∈ WA := by
  intro w hw
  have h : w ∈ [188, 190, 192, 194, 196, 198, 200, 202].filterMap (fun i => lw_tbl[i]?) := hw
  obtain ⟨i, -, hi⟩ := List.mem_filterMap.mp h
  exact List.mem_filter.mpr ⟨List.mem_of_getElem? hi, List.all_eq_true.mp (show (w_P.all goodWord) = true from by decide +kernel) w hw⟩
set_option maxRecDepth 100000 in
theorem i_Y : ∀ w ∈ w_Y, w ∈ WA := by
  intro w hw
  have h : w ∈ [219, 221, 223, 225, 227, 229].filterMap (fun i => lw_tbl[i]?) := hw
  obtain ⟨i, -, hi⟩ := List.mem_filterMap.mp h
  exact List.mem_filter.mpr ⟨List.mem_of_getElem? hi, List.all_eq_true.mp (show (w_Y.all goodWord) = true from by decide +kernel) w hw⟩
set_option maxRecDepth 100000 in
theorem i_S : ∀ w ∈ w_S, w ∈ WA := by
  intro w hw
  have h : w ∈ [246, 248, 250, 252, 254, 256, 258].filterMap (fun i => lw_tbl[i]?) := hw
  obtain ⟨i, -, hi⟩ := List.mem_filterMap.mp h
  exact List.mem_filter.mpr ⟨List.mem_of_getElem? hi, List.all_eq_true.mp (show (w_S.all goodWord) = true from by decide +kernel) w hw⟩
set_option maxRecDepth 100000 in
theorem i_Q : ∀ w ∈ w_Q, w ∈ WA := by
  intro w hw
  have h : w ∈ [286, 288, 290, 292, 294, 296, 298, 300, 302, 304, 306, 308, 310].filterMap (fun i => lw_tbl[i]?) := hw
  obtain ⟨i, -, hi⟩ := List.mem_filterMap.mp h
  exact List.mem_filter.mpr ⟨List.mem_of_getElem? hi, List.all_eq_true.mp (show (w_Q.all goodWord) = true from by decide +kernel) w hw⟩
set_option maxRecDepth 100000 in
theorem i_R : ∀ w ∈ w_R, w ∈ WA := by
  intro w hw
  have h : w ∈ [966, 968, 970, 972, 974, 976, 978, 980, 982, 984, 986, 988, 990, 992, 994, 996, 998, 1000, 1002, 1004, 1006, 1008, 1010, 1012, 1014, 1016, 1018, 1020, 1022, 1024, 1026, 1028, 1030, 1032, 1034, 1036, 1038, 1040, 1042, 1044, 1046, 1048, 1050, 1052, 1054, 1056, 1058, 1060, 1062, 1064, 1066].filterMap (fun i => lw_tbl[i]?) := hw
  obtain ⟨i, -, hi⟩ := List.mem_filterMap.mp h
  exact List.mem_filter.mpr ⟨List.mem_of_getElem? hi, List.all_eq_true.mp (show (w_R.all goodWord) = true from by decide +kernel) w hw⟩
def tv_c0 (k : Nat) : Int32 := [255, 3, 15, 63].getD k 0
def tv_c1 (k : Nat) : Int32 := [7, 6, 0, 1, 2, 3, 4, 5].getD k 0
def Sx (tb : Nat → Nat) (A : Nat → Prop) (U : State) (H : Heap) : Prop :=
  va_Z "TileConsole$Ports" "TIMER_MASKS" "[I" (.ref (tb 0)) A U H ∧ va_T .int (tb 0) 4 (fun k => .int (tv_c0 k)) A U H ∧ va_Z "TileConsole$Processor" "FACE_ORDER" "[I" (.ref (tb 1)) A U H ∧ va_T .int (tb 1) 8 (fun k => .int (tv_c1 k)) A U H
theorem Sx.moved {tb : Nat → Nat} {A : Nat → Prop} {u U : State} {H : Heap} (hvm : u.vm.Alike U.vm) (h : Sx tb A u H) : Sx tb A U H := ⟨va_Z.moved hvm h.1, va_T.moved hvm h.2.1, va_Z.moved hvm h.2.2.1, va_T.moved hvm h.2.2.2⟩
theorem Sx.kept {tb : Nat → Nat} {A : Nat → Prop} {U : State} {H H1 : Heap} (h : Sx tb A U H) (hq : ∀ a : Nat, a < H.size → ¬ A a → H1[a]? = H[a]?) : Sx tb A U H1 := ⟨h.1.kept hq, h.2.1.kept hq, h.2.2.1.kept hq, h.2.2.2.kept hq⟩
theorem Sx.narrow {tb : Nat → Nat} {A B : Nat → Prop} {U : State} {H : Heap} (h : Sx tb A U H) (hAB : ∀ q, B q → A q) : Sx tb B U H := ⟨h.1.narrow hAB, h.2.1.narrow hAB, h.2.2.1.narrow hAB, h.2.2.2.narrow hAB⟩
abbrev b_K_settle : ByteArray := prog_2_method_3_code
def y_K_settle : MethodName := ⟨"TileConsole$Cartridge", "settle", "()V"⟩
def ws_K_settle : List Cond := .code y_K_settle b_K_settle 1 none :: WA
def rm_K_settle : Room := { frames := 0, cells := 0, slots := 0, locals := 0 }
abbrev b_K_reset : ByteArray := prog_2_method_2_code
def y_K_reset : MethodName := ⟨"TileConsole$Cartridge", "reset", "()V"⟩
def ws_K_reset : List Cond := .code y_K_reset b_K_reset 1 none :: WA
def rm_K_reset : Room := { frames := 1, cells := 0, slots := 0, locals := 20 }
abbrev b_P_findState : ByteArray := prog_4_method_9_code
def y_P_findState : MethodName := ⟨"TileConsole$Ports", "findState", "()V"⟩
def ws_P_findState : List Cond := .code y_P_findState b_P_findState 1 none :: WA
def rm_P_findState : Room := { frames := 0, cells := 0, slots := 0, locals := 0 }
abbrev b_A_fill : ByteArray := prog_19_method_103_code
def y_A_fill : MethodName := ⟨"java/util/Arrays", "fill", "([II)V"⟩
def ws_A_fill : List Cond := .code y_A_fill b_A_fill 4 none :: WA
def rm_A_fill : Room := { frames := 0, cells := 0, slots := 0, locals := 0 }
abbrev b_P_reset : ByteArray := prog_4_method_2_code
def y_P_reset : MethodName := ⟨"TileConsole$Ports", "reset", "()V"⟩
def ws_P_reset : List Cond := .code y_P_reset b_P_reset 1 none :: WA
def rm_P_reset : Room := { frames := 1, cells := 0, slots := 0, locals := 23 }
abbrev b_Y_reset : ByteArray := prog_3_method_2_code
def y_Y_reset : MethodName := ⟨"TileConsole$Memory", "reset", "()V"⟩
def ws_Y_reset : List Cond := .code y_Y_reset b_Y_reset 1 none :: WA
def rm_Y_reset : Room := { frames := 1, cells := 0, slots := 0, locals := 23 }
abbrev b_S_reset : ByteArray := prog_6_method_2_code
def y_S_reset : MethodName := ⟨"TileConsole$Screen", "reset", "()V"⟩
def ws_S_reset : List Cond := .code y_S_reset b_S_reset 1 none :: WA
def rm_S_reset : Room := { frames := 1, cells := 0, slots := 0, locals := 23 }
abbrev b_Q_setPair : ByteArray := prog_5_method_19_code
def y_Q_setPair : MethodName := ⟨"TileConsole$Processor", "setPair", "(II)V"⟩
def ws_Q_setPair : List Cond := .code y_Q_setPair b_Q_setPair 3 none :: WA
def rm_Q_setPair : Room := { frames := 0, cells := 0, slots := 0, locals := 0 }
abbrev b_Q_reset : ByteArray := prog_5_method_2_code
def y_Q_reset : MethodName := ⟨"TileConsole$Processor", "reset", "()V"⟩
def ws_Q_reset : List Cond := .code y_Q_reset b_Q_reset 1 none :: WA
def rm_Q_reset : Room := { frames := 1, cells := 0, slots := 0, locals := 22 }
abbrev b_T_startAnew : ByteArray := prog_1_method_14_code
def y_T_startAnew : MethodName := ⟨"TileConsole", "startAnew", "()V"⟩
def ws_T_startAnew : List Cond := .code y_T_startAnew b_T_startAnew 1 none :: WA
def rm_T_startAnew : Room := { frames := 2, cells := 0, slots := 0, locals := 43 }
abbrev b_T_octetOf : ByteArray := prog_1_method_15_code
def y_T_octetOf : MethodName := ⟨"TileConsole", "octetOf", "(JI)I"⟩
def ws_T_octetOf : List Cond := .code y_T_octetOf b_T_octetOf 3 (some .int) :: WA
def rm_T_octetOf : Room := { frames := 0, cells := 0, slots := 0, locals := 0 }
abbrev b_K_headerAgrees : ByteArray := prog_2_method_4_code
def y_K_headerAgrees : MethodName := ⟨"TileConsole$Cartridge", "headerAgrees", "()Z"⟩
def ws_K_headerAgrees : List Cond := .code y_K_headerAgrees b_K_headerAgrees 3 (some .boolean) :: WA
def rm_K_headerAgrees : Room := { frames := 0, cells := 0, slots := 0, locals := 0 }
abbrev b_P_waiting : ByteArray := prog_4_method_4_code
def y_P_waiting : MethodName := ⟨"TileConsole$Ports", "waiting", "()I"⟩
def ws_P_waiting : List Cond := .code y_P_waiting b_P_waiting 1 (some .int) :: WA
def rm_P_waiting : Room := { frames := 0, cells := 0, slots := 0, locals := 0 }
abbrev b_K_controlOne : ByteArray := prog_2_method_9_code
def y_K_controlOne : MethodName := ⟨"TileConsole$Cartridge", "controlOne", "(II)V"⟩
def ws_K_controlOne : List Cond := .code y_K_controlOne b_K_controlOne 3 none :: WA
def rm_K_controlOne : Room := { frames := 0, cells := 0, slots := 0, locals := 0 }
abbrev b_K_controlTwo : ByteArray := prog_2_method_10_code
def y_K_controlTwo : MethodName := ⟨"TileConsole$Cartridge", "controlTwo", "(II)V"⟩
def ws_K_controlTwo : List Cond := .code y_K_controlTwo b_K_controlTwo 3 none :: WA
def rm_K_controlTwo : Room := { frames := 0, cells := 0, slots := 0, locals := 0 }
abbrev b_K_controlThree : ByteArray := prog_2_method_11_code
def y_K_controlThree : MethodName := ⟨"TileConsole$Cartridge", "controlThree", "(II)V"⟩
def ws_K_controlThree : List Cond := .code y_K_controlThree b_K_controlThree 3 none :: WA
def rm_K_controlThree : Room := { frames := 0, cells := 0, slots := 0, locals := 0 }
abbrev b_K_control : ByteArray := prog_2_method_8_code
def y_K_control : MethodName := ⟨"TileConsole$Cartridge", "control", "(II)V"⟩
def ws_K_control : List Cond := .code y_K_control b_K_control 3 none :: WA
def rm_K_control : Room := { frames := 1, cells := 0, slots := 0, locals := 22 }
abbrev b_K_storeRam : ByteArray := prog_2_method_7_code
def y_K_storeRam : MethodName := ⟨"TileConsole$Cartridge", "storeRam", "(II)V"⟩
def ws_K_storeRam : List Cond := .code y_K_storeRam b_K_storeRam 3 none :: WA
def rm_K_storeRam : Room := { frames := 0, cells := 0, slots := 0, locals := 0 }
abbrev b_P_clearDivider : ByteArray := prog_4_method_5_code
def y_P_clearDivider : MethodName := ⟨"TileConsole$Ports", "clearDivider", "()V"⟩
def ws_P_clearDivider : List Cond := .code y_P_clearDivider b_P_clearDivider 1 none :: WA
def rm_P_clearDivider : Room := { frames := 0, cells := 0, slots := 0, locals := 0 }
abbrev b_P_store : ByteArray := prog_4_method_7_code
def y_P_store : MethodName := ⟨"TileConsole$Ports", "store", "(II)V"⟩
def ws_P_store : List Cond := .code y_P_store b_P_store 3 none :: WA
def rm_P_store : Room := { frames := 1, cells := 0, slots := 0, locals := 20 }
abbrev b_K_loadRom : ByteArray := prog_2_method_5_code
def y_K_loadRom : MethodName := ⟨"TileConsole$Cartridge", "loadRom", "(I)I"⟩
def ws_K_loadRom : List Cond := .code y_K_loadRom b_K_loadRom 3 (some .int) :: WA
def rm_K_loadRom : Room := { frames := 0, cells := 0, slots := 0, locals := 0 }
abbrev b_K_loadRam : ByteArray := prog_2_method_6_code
def y_K_loadRam : MethodName := ⟨"TileConsole$Cartridge", "loadRam", "(I)I"⟩
def ws_K_loadRam : List Cond := .code y_K_loadRam b_K_loadRam 3 (some .int) :: WA
def rm_K_loadRam : Room := { frames := 0, cells := 0, slots := 0, locals := 0 }
abbrev b_P_load : ByteArray := prog_4_method_6_code
def y_P_load : MethodName := ⟨"TileConsole$Ports", "load", "(I)I"⟩
def ws_P_load : List Cond := .code y_P_load b_P_load 4 (some .int) :: WA
def rm_P_load : Room := { frames := 0, cells := 0, slots := 0, locals := 0 }
abbrev b_Y_load : ByteArray := prog_3_method_3_code
def y_Y_load : MethodName := ⟨"TileConsole$Memory", "load", "(I)I"⟩
def ws_Y_load : List Cond := .code y_Y_load b_Y_load 2 (some .int) :: WA
def rm_Y_load : Room := { frames := 1, cells := 0, slots := 0, locals := 23 }
abbrev b_Y_store : ByteArray := prog_3_method_4_code
def y_Y_store : MethodName := ⟨"TileConsole$Memory", "store", "(II)V"⟩
def ws_Y_store : List Cond := .code y_Y_store b_Y_store 4 none :: WA
def rm_Y_store : Room := { frames := 2, cells := 0, slots := 0, locals := 44 }
abbrev b_Q_push : ByteArray := prog_5_method_22_code
def y_Q_push : MethodName := ⟨"TileConsole$Processor", "push", "(I)V"⟩
def ws_Q_push : List Cond := .code y_Q_push b_Q_push 2 none :: WA
def rm_Q_push : Room := { frames := 3, cells := 0, slots := 0, locals := 67 }
abbrev b_Q_takeInterrupt : ByteArray := prog_5_method_8_code
def y_Q_takeInterrupt : MethodName := ⟨"TileConsole$Processor", "takeInterrupt", "(I)V"⟩
def ws_Q_takeInterrupt : List Cond := .code y_Q_takeInterrupt b_Q_takeInterrupt 3 none :: WA
def rm_Q_takeInterrupt : Room := { frames := 4, cells := 0, slots := 0, locals := 88 }
abbrev b_P_moveTimer : ByteArray := prog_4_method_10_code
def y_P_moveTimer : MethodName := ⟨"TileConsole$Ports", "moveTimer", "()V"⟩
def ws_P_moveTimer : List Cond := .code y_P_moveTimer b_P_moveTimer 2 none :: WA
def rm_P_moveTimer : Room := { frames := 0, cells := 0, slots := 0, locals := 0 }
abbrev b_P_moveDot : ByteArray := prog_4_method_11_code
def y_P_moveDot : MethodName := ⟨"TileConsole$Ports", "moveDot", "()V"⟩
def ws_P_moveDot : List Cond := .code y_P_moveDot b_P_moveDot 1 none :: WA
def rm_P_moveDot : Room := { frames := 0, cells := 0, slots := 0, locals := 0 }
abbrev b_P_rowSignals : ByteArray := prog_4_method_13_code
def y_P_rowSignals : MethodName := ⟨"TileConsole$Ports", "rowSignals", "()Z"⟩
def ws_P_rowSignals : List Cond := .code y_P_rowSignals b_P_rowSignals 1 (some .boolean) :: WA
def rm_P_rowSignals : Room := { frames := 0, cells := 0, slots := 0, locals := 0 }
abbrev b_P_stateSignals : ByteArray := prog_4_method_14_code
def y_P_stateSignals : MethodName := ⟨"TileConsole$Ports", "stateSignals", "()Z"⟩
def ws_P_stateSignals : List Cond := .code y_P_stateSignals b_P_stateSignals 1 (some .boolean) :: WA
def rm_P_stateSignals : Room := { frames := 0, cells := 0, slots := 0, locals := 0 }
abbrev b_P_lookAtSignal : ByteArray := prog_4_method_12_code
def y_P_lookAtSignal : MethodName := ⟨"TileConsole$Ports", "lookAtSignal", "()V"⟩
def ws_P_lookAtSignal : List Cond := .code y_P_lookAtSignal b_P_lookAtSignal 2 none :: WA
def rm_P_lookAtSignal : Room := { frames := 1, cells := 0, slots := 0, locals := 20 }
abbrev b_P_pass : ByteArray := prog_4_method_8_code
def y_P_pass : MethodName := ⟨"TileConsole$Ports", "pass", "(I)V"⟩
def ws_P_pass : List Cond := .code y_P_pass b_P_pass 3 none :: WA
def rm_P_pass : Room := { frames := 2, cells := 0, slots := 0, locals := 41 }
abbrev b_Q_passHalted : ByteArray := prog_5_method_6_code
def y_Q_passHalted : MethodName := ⟨"TileConsole$Processor", "passHalted", "()V"⟩
def ws_Q_passHalted : List Cond := .code y_Q_passHalted b_Q_passHalted 1 none :: WA
def rm_Q_passHalted : Room := { frames := 3, cells := 0, slots := 0, locals := 63 }
abbrev b_Q_fetch : ByteArray := prog_5_method_14_code
def y_Q_fetch : MethodName := ⟨"TileConsole$Processor", "fetch", "()I"⟩
def ws_Q_fetch : List Cond := .code y_Q_fetch b_Q_fetch 2 (some .int) :: WA
def rm_Q_fetch : Room := { frames := 2, cells := 0, slots := 0, locals := 44 }
abbrev b_Q_fetchWord : ByteArray := prog_5_method_15_code
def y_Q_fetchWord : MethodName := ⟨"TileConsole$Processor", "fetchWord", "()I"⟩
def ws_Q_fetchWord : List Cond := .code y_Q_fetchWord b_Q_fetchWord 2 (some .int) :: WA
def rm_Q_fetchWord : Room := { frames := 3, cells := 0, slots := 0, locals := 65 }
abbrev b_Q_storeStackPointer : ByteArray := prog_5_method_28_code
def y_Q_storeStackPointer : MethodName := ⟨"TileConsole$Processor", "storeStackPointer", "(I)V"⟩
def ws_Q_storeStackPointer : List Cond := .code y_Q_storeStackPointer b_Q_storeStackPointer 2 none :: WA
def rm_Q_storeStackPointer : Room := { frames := 3, cells := 0, slots := 0, locals := 67 }
abbrev b_Q_holds : ByteArray := prog_5_method_24_code
def y_Q_holds : MethodName := ⟨"TileConsole$Processor", "holds", "(I)Z"⟩
def ws_Q_holds : List Cond := .code y_Q_holds b_Q_holds 3 (some .boolean) :: WA
def rm_Q_holds : Room := { frames := 0, cells := 0, slots := 0, locals := 0 }
abbrev b_Q_jump : ByteArray := prog_5_method_25_code
def y_Q_jump : MethodName := ⟨"TileConsole$Processor", "jump", "(ZI)V"⟩
def ws_Q_jump : List Cond := .code y_Q_jump b_Q_jump 3 none :: WA
def rm_Q_jump : Room := { frames := 0, cells := 0, slots := 0, locals := 0 }
abbrev b_Q_pair : ByteArray := prog_5_method_18_code
def y_Q_pair : MethodName := ⟨"TileConsole$Processor", "pair", "(I)I"⟩
def ws_Q_pair : List Cond := .code y_Q_pair b_Q_pair 2 (some .int) :: WA
def rm_Q_pair : Room := { frames := 0, cells := 0, slots := 0, locals := 0 }
abbrev b_Q_addToHl : ByteArray := prog_5_method_31_code
def y_Q_addToHl : MethodName := ⟨"TileConsole$Processor", "addToHl", "(I)V"⟩
def ws_Q_addToHl : List Cond := .code y_Q_addToHl b_Q_addToHl 5 none :: WA
def rm_Q_addToHl : Room := { frames := 1, cells := 0, slots := 0, locals := 22 }
abbrev b_Q_copyA : ByteArray := prog_5_method_29_code
def y_Q_copyA : MethodName := ⟨"TileConsole$Processor", "copyA", "(IZ)V"⟩
def ws_Q_copyA : List Cond := .code y_Q_copyA b_Q_copyA 3 none :: WA
def rm_Q_copyA : Room := { frames := 3, cells := 0, slots := 0, locals := 67 }
abbrev b_Q_octetAt : ByteArray := prog_5_method_16_code
def y_Q_octetAt : MethodName := ⟨"TileConsole$Processor", "octetAt", "(I)I"⟩
def ws_Q_octetAt : List Cond := .code y_Q_octetAt b_Q_octetAt 2 (some .int) :: WA
def rm_Q_octetAt : Room := { frames := 2, cells := 0, slots := 0, locals := 44 }
abbrev b_Q_zero : ByteArray := prog_5_method_41_code
def y_Q_zero : MethodName := ⟨"TileConsole$Processor", "zero", "(I)I"⟩
def ws_Q_zero : List Cond := .code y_Q_zero b_Q_zero 1 (some .int) :: WA
def rm_Q_zero : Room := { frames := 0, cells := 0, slots := 0, locals := 0 }
abbrev b_Q_increased : ByteArray := prog_5_method_32_code
def y_Q_increased : MethodName := ⟨"TileConsole$Processor", "increased", "(I)I"⟩
def ws_Q_increased : List Cond := .code y_Q_increased b_Q_increased 3 (some .int) :: WA
def rm_Q_increased : Room := { frames := 1, cells := 0, slots := 0, locals := 20 }
abbrev b_Q_setOctet : ByteArray := prog_5_method_17_code
def y_Q_setOctet : MethodName := ⟨"TileConsole$Processor", "setOctet", "(II)V"⟩
def ws_Q_setOctet : List Cond := .code y_Q_setOctet b_Q_setOctet 3 none :: WA
def rm_Q_setOctet : Room := { frames := 3, cells := 0, slots := 0, locals := 67 }
abbrev b_Q_decreased : ByteArray := prog_5_method_33_code
def y_Q_decreased : MethodName := ⟨"TileConsole$Processor", "decreased", "(I)I"⟩
def ws_Q_decreased : List Cond := .code y_Q_decreased b_Q_decreased 3 (some .int) :: WA
def rm_Q_decreased : Room := { frames := 1, cells := 0, slots := 0, locals := 20 }
abbrev b_Q_adjustDecimal : ByteArray := prog_5_method_39_code
def y_Q_adjustDecimal : MethodName := ⟨"TileConsole$Processor", "adjustDecimal", "()V"⟩
def ws_Q_adjustDecimal : List Cond := .code y_Q_adjustDecimal b_Q_adjustDecimal 6 none :: WA
def rm_Q_adjustDecimal : Room := { frames := 1, cells := 0, slots := 0, locals := 20 }
abbrev b_Q_shifted : ByteArray := prog_5_method_40_code
def y_Q_shifted : MethodName := ⟨"TileConsole$Processor", "shifted", "(II)I"⟩
def ws_Q_shifted : List Cond := .code y_Q_shifted b_Q_shifted 7 (some .int) :: WA
def rm_Q_shifted : Room := { frames := 1, cells := 0, slots := 0, locals := 20 }
abbrev b_Q_changeA : ByteArray := prog_5_method_38_code
def y_Q_changeA : MethodName := ⟨"TileConsole$Processor", "changeA", "(I)V"⟩
def ws_Q_changeA : List Cond := .code y_Q_changeA b_Q_changeA 3 none :: WA
def rm_Q_changeA : Room := { frames := 2, cells := 0, slots := 0, locals := 46 }
abbrev b_Q_doLow : ByteArray := prog_5_method_9_code
def y_Q_doLow : MethodName := ⟨"TileConsole$Processor", "doLow", "(II)V"⟩
def ws_Q_doLow : List Cond := .code y_Q_doLow b_Q_doLow 6 none :: WA
def rm_Q_doLow : Room := { frames := 4, cells := 0, slots := 0, locals := 89 }
abbrev b_Q_doCopy : ByteArray := prog_5_method_10_code
def y_Q_doCopy : MethodName := ⟨"TileConsole$Processor", "doCopy", "(II)V"⟩
def ws_Q_doCopy : List Cond := .code y_Q_doCopy b_Q_doCopy 3 none :: WA
def rm_Q_doCopy : Room := { frames := 4, cells := 0, slots := 0, locals := 89 }
abbrev b_Q_add : ByteArray := prog_5_method_35_code
def y_Q_add : MethodName := ⟨"TileConsole$Processor", "add", "(II)V"⟩
def ws_Q_add : List Cond := .code y_Q_add b_Q_add 6 none :: WA
def rm_Q_add : Room := { frames := 1, cells := 0, slots := 0, locals := 20 }
abbrev b_Q_difference : ByteArray := prog_5_method_36_code
def y_Q_difference : MethodName := ⟨"TileConsole$Processor", "difference", "(II)I"⟩
def ws_Q_difference : List Cond := .code y_Q_difference b_Q_difference 6 (some .int) :: WA
def rm_Q_difference : Room := { frames := 1, cells := 0, slots := 0, locals := 20 }
abbrev b_Q_setLogic : ByteArray := prog_5_method_37_code
def y_Q_setLogic : MethodName := ⟨"TileConsole$Processor", "setLogic", "(II)V"⟩
def ws_Q_setLogic : List Cond := .code y_Q_setLogic b_Q_setLogic 3 none :: WA
def rm_Q_setLogic : Room := { frames := 1, cells := 0, slots := 0, locals := 20 }
abbrev b_Q_combine : ByteArray := prog_5_method_34_code
def y_Q_combine : MethodName := ⟨"TileConsole$Processor", "combine", "(II)V"⟩
def ws_Q_combine : List Cond := .code y_Q_combine b_Q_combine 5 none :: WA
def rm_Q_combine : Room := { frames := 2, cells := 0, slots := 0, locals := 45 }
abbrev b_Q_doPrefixed : ByteArray := prog_5_method_13_code
def y_Q_doPrefixed : MethodName := ⟨"TileConsole$Processor", "doPrefixed", "()V"⟩
def ws_Q_doPrefixed : List Cond := .code y_Q_doPrefixed b_Q_doPrefixed 5 none :: WA
def rm_Q_doPrefixed : Room := { frames := 4, cells := 0, slots := 0, locals := 89 }
abbrev b_Q_pop : ByteArray := prog_5_method_23_code
def y_Q_pop : MethodName := ⟨"TileConsole$Processor", "pop", "()I"⟩
def ws_Q_pop : List Cond := .code y_Q_pop b_Q_pop 2 (some .int) :: WA
def rm_Q_pop : Room := { frames := 2, cells := 0, slots := 0, locals := 44 }
abbrev b_Q_returnIf : ByteArray := prog_5_method_26_code
def y_Q_returnIf : MethodName := ⟨"TileConsole$Processor", "returnIf", "(Z)V"⟩
def ws_Q_returnIf : List Cond := .code y_Q_returnIf b_Q_returnIf 2 none :: WA
def rm_Q_returnIf : Room := { frames := 3, cells := 0, slots := 0, locals := 65 }
abbrev b_Q_addToStackPointer : ByteArray := prog_5_method_30_code
def y_Q_addToStackPointer : MethodName := ⟨"TileConsole$Processor", "addToStackPointer", "(II)V"⟩
def ws_Q_addToStackPointer : List Cond := .code y_Q_addToStackPointer b_Q_addToStackPointer 5 none :: WA
def rm_Q_addToStackPointer : Room := { frames := 1, cells := 0, slots := 0, locals := 22 }
abbrev b_Q_setStackPair : ByteArray := prog_5_method_21_code
def y_Q_setStackPair : MethodName := ⟨"TileConsole$Processor", "setStackPair", "(II)V"⟩
def ws_Q_setStackPair : List Cond := .code y_Q_setStackPair b_Q_setStackPair 3 none :: WA
def rm_Q_setStackPair : Room := { frames := 1, cells := 0, slots := 0, locals := 22 }
abbrev b_Q_switchInterrupts : ByteArray := prog_5_method_27_code
def y_Q_switchInterrupts : MethodName := ⟨"TileConsole$Processor", "switchInterrupts", "(Z)V"⟩
def ws_Q_switchInterrupts : List Cond := .code y_Q_switchInterrupts b_Q_switchInterrupts 2 none :: WA
def rm_Q_switchInterrupts : Room := { frames := 0, cells := 0, slots := 0, locals := 0 }
abbrev b_Q_doHigh : ByteArray := prog_5_method_11_code
def y_Q_doHigh : MethodName := ⟨"TileConsole$Processor", "doHigh", "(II)V"⟩
def ws_Q_doHigh : List Cond := .code y_Q_doHigh b_Q_doHigh 4 none :: WA
def rm_Q_doHigh : Room := { frames := 4, cells := 0, slots := 0, locals := 89 }
abbrev b_Q_stackPair : ByteArray := prog_5_method_20_code
def y_Q_stackPair : MethodName := ⟨"TileConsole$Processor", "stackPair", "(I)I"⟩
def ws_Q_stackPair : List Cond := .code y_Q_stackPair b_Q_stackPair 2 (some .int) :: WA
def rm_Q_stackPair : Room := { frames := 1, cells := 0, slots := 0, locals := 21 }
abbrev b_Q_doHighest : ByteArray := prog_5_method_12_code
def y_Q_doHighest : MethodName := ⟨"TileConsole$Processor", "doHighest", "(II)V"⟩
def ws_Q_doHighest : List Cond := .code y_Q_doHighest b_Q_doHighest 4 none :: WA
def rm_Q_doHighest : Room := { frames := 4, cells := 0, slots := 0, locals := 88 }
abbrev b_Q_finish : ByteArray := prog_5_method_7_code
def y_Q_finish : MethodName := ⟨"TileConsole$Processor", "finish", "()V"⟩
def ws_Q_finish : List Cond := .code y_Q_finish b_Q_finish 1 none :: WA
def rm_Q_finish : Room := { frames := 3, cells := 0, slots := 0, locals := 63 }
abbrev b_Q_step : ByteArray := prog_5_method_5_code
def y_Q_step : MethodName := ⟨"TileConsole$Processor", "step", "()V"⟩
def ws_Q_step : List Cond := .code y_Q_step b_Q_step 5 none :: WA
def rm_Q_step : Room := { frames := 5, cells := 0, slots := 0, locals := 114 }
abbrev b_Q_valueOf : ByteArray := prog_5_method_3_code
def y_Q_valueOf : MethodName := ⟨"TileConsole$Processor", "valueOf", "(I)I"⟩
def ws_Q_valueOf : List Cond := .code y_Q_valueOf b_Q_valueOf 2 (some .int) :: WA
def rm_Q_valueOf : Room := { frames := 0, cells := 0, slots := 0, locals := 0 }
abbrev b_Q_put : ByteArray := prog_5_method_4_code
def y_Q_put : MethodName := ⟨"TileConsole$Processor", "put", "(II)V"⟩
def ws_Q_put : List Cond := .code y_Q_put b_Q_put 3 none :: WA
def rm_Q_put : Room := { frames := 0, cells := 0, slots := 0, locals := 0 }
abbrev b_P_press : ByteArray := prog_4_method_3_code
def y_P_press : MethodName := ⟨"TileConsole$Ports", "press", "(I)I"⟩
def ws_P_press : List Cond := .code y_P_press b_P_press 3 (some .int) :: WA
def rm_P_press : Room := { frames := 0, cells := 0, slots := 0, locals := 0 }
abbrev b_S_has : ByteArray := prog_6_method_4_code
def y_S_has : MethodName := ⟨"TileConsole$Screen", "has", "(I)Z"⟩
def ws_S_has : List Cond := .code y_S_has b_S_has 2 (some .boolean) :: WA
def rm_S_has : Room := { frames := 0, cells := 0, slots := 0, locals := 0 }
abbrev b_S_numberAt : ByteArray := prog_6_method_8_code
def y_S_numberAt : MethodName := ⟨"TileConsole$Screen", "numberAt", "(II)I"⟩
def ws_S_numberAt : List Cond := .code y_S_numberAt b_S_numberAt 5 (some .int) :: WA
def rm_S_numberAt : Room := { frames := 0, cells := 0, slots := 0, locals := 0 }
abbrev b_S_placeSprite : ByteArray := prog_6_method_10_code
def y_S_placeSprite : MethodName := ⟨"TileConsole$Screen", "placeSprite", "(III)V"⟩
def ws_S_placeSprite : List Cond := .code y_S_placeSprite b_S_placeSprite 11 none :: WA
def rm_S_placeSprite : Room := { frames := 1, cells := 0, slots := 0, locals := 24 }
abbrev b_S_chooseSprites : ByteArray := prog_6_method_9_code
def y_S_chooseSprites : MethodName := ⟨"TileConsole$Screen", "chooseSprites", "(I)V"⟩
def ws_S_chooseSprites : List Cond := .code y_S_chooseSprites b_S_chooseSprites 6 none :: WA
def rm_S_chooseSprites : Room := { frames := 2, cells := 0, slots := 0, locals := 54 }
abbrev b_S_mapNumber : ByteArray := prog_6_method_7_code
def y_S_mapNumber : MethodName := ⟨"TileConsole$Screen", "mapNumber", "(ZII)I"⟩
def ws_S_mapNumber : List Cond := .code y_S_mapNumber b_S_mapNumber 6 (some .int) :: WA
def rm_S_mapNumber : Room := { frames := 1, cells := 0, slots := 0, locals := 24 }
abbrev b_S_backgroundNumber : ByteArray := prog_6_method_6_code
def y_S_backgroundNumber : MethodName := ⟨"TileConsole$Screen", "backgroundNumber", "(II)I"⟩
def ws_S_backgroundNumber : List Cond := .code y_S_backgroundNumber b_S_backgroundNumber 5 (some .int) :: WA
def rm_S_backgroundNumber : Room := { frames := 2, cells := 0, slots := 0, locals := 49 }
abbrev b_S_colour : ByteArray := prog_6_method_5_code
def y_S_colour : MethodName := ⟨"TileConsole$Screen", "colour", "(II)I"⟩
def ws_S_colour : List Cond := .code y_S_colour b_S_colour 5 (some .int) :: WA
def rm_S_colour : Room := { frames := 0, cells := 0, slots := 0, locals := 0 }
abbrev b_S_make : ByteArray := prog_6_method_3_code
def y_S_make : MethodName := ⟨"TileConsole$Screen", "make", "(I)I"⟩
def ws_S_make : List Cond := .code y_S_make b_S_make 4 (some .int) :: WA
def rm_S_make : Room := { frames := 3, cells := 0, slots := 0, locals := 79 }
abbrev b_R_zeros : ByteArray := prog_8_method_5_code
def y_R_zeros : MethodName := ⟨"TileConsoleModel", "zeros", "([I)V"⟩
def ws_R_zeros : List Cond := .code y_R_zeros b_R_zeros 2 none :: WA
def rm_R_zeros : Room := { frames := 0, cells := 0, slots := 0, locals := 0 }
abbrev b_R_reset : ByteArray := prog_8_method_6_code
def y_R_reset : MethodName := ⟨"TileConsoleModel", "reset", "()V"⟩
def ws_R_reset : List Cond := .code y_R_reset b_R_reset 1 none :: WA
def rm_R_reset : Room := { frames := 1, cells := 0, slots := 0, locals := 21 }
abbrev b_R_thrown : ByteArray := prog_8_method_2_code
def y_R_thrown : MethodName := ⟨"TileConsoleModel", "thrown", "()I"⟩
def ws_R_thrown : List Cond := .code y_R_thrown b_R_thrown 1 (some .int) :: WA
def rm_R_thrown : Room := { frames := 0, cells := 0, slots := 0, locals := 0 }
abbrev b_R_in : ByteArray := prog_8_method_3_code
def y_R_in : MethodName := ⟨"TileConsoleModel", "in", "(III)Z"⟩
def ws_R_in : List Cond := .code y_R_in b_R_in 3 (some .boolean) :: WA
def rm_R_in : Room := { frames := 0, cells := 0, slots := 0, locals := 0 }
abbrev b_R_fails : ByteArray := prog_8_method_4_code
def y_R_fails : MethodName := ⟨"TileConsoleModel", "fails", "(ZI)Z"⟩
def ws_R_fails : List Cond := .code y_R_fails b_R_fails 3 (some .boolean) :: WA
def rm_R_fails : Room := { frames := 0, cells := 0, slots := 0, locals := 0 }
abbrev b_R_bankHigh : ByteArray := prog_8_method_7_code
def y_R_bankHigh : MethodName := ⟨"TileConsoleModel", "bankHigh", "()I"⟩
def ws_R_bankHigh : List Cond := .code y_R_bankHigh b_R_bankHigh 1 (some .int) :: WA
def rm_R_bankHigh : Room := { frames := 0, cells := 0, slots := 0, locals := 0 }
abbrev b_R_bankRam : ByteArray := prog_8_method_8_code
def y_R_bankRam : MethodName := ⟨"TileConsoleModel", "bankRam", "()I"⟩
def ws_R_bankRam : List Cond := .code y_R_bankRam b_R_bankRam 1 (some .int) :: WA
def rm_R_bankRam : Room := { frames := 0, cells := 0, slots := 0, locals := 0 }
abbrev b_R_hasRam : ByteArray := prog_8_method_9_code
def y_R_hasRam : MethodName := ⟨"TileConsoleModel", "hasRam", "()Z"⟩
def ws_R_hasRam : List Cond := .code y_R_hasRam b_R_hasRam 1 (some .boolean) :: WA
def rm_R_hasRam : Room := { frames := 0, cells := 0, slots := 0, locals := 0 }
abbrev b_R_controls : ByteArray := prog_8_method_10_code
def y_R_controls : MethodName := ⟨"TileConsoleModel", "controls", "(II)V"⟩
def ws_R_controls : List Cond := .code y_R_controls b_R_controls 3 none :: WA
def rm_R_controls : Room := { frames := 0, cells := 0, slots := 0, locals := 0 }
abbrev b_R_state : ByteArray := prog_8_method_11_code
def y_R_state : MethodName := ⟨"TileConsoleModel", "state", "()I"⟩
def ws_R_state : List Cond := .code y_R_state b_R_state 1 (some .int) :: WA
def rm_R_state : Room := { frames := 0, cells := 0, slots := 0, locals := 0 }
abbrev b_R_keyBits : ByteArray := prog_8_method_12_code
def y_R_keyBits : MethodName := ⟨"TileConsoleModel", "keyBits", "()I"⟩
def ws_R_keyBits : List Cond := .code y_R_keyBits b_R_keyBits 3 (some .int) :: WA
def rm_R_keyBits : Room := { frames := 0, cells := 0, slots := 0, locals := 0 }
abbrev b_R_port : ByteArray := prog_8_method_13_code
def y_R_port : MethodName := ⟨"TileConsoleModel", "port", "(I)I"⟩
def ws_R_port : List Cond := .code y_R_port b_R_port 2 (some .int) :: WA
def rm_R_port : Room := { frames := 1, cells := 0, slots := 0, locals := 22 }
abbrev b_R_get : ByteArray := prog_8_method_14_code
def y_R_get : MethodName := ⟨"TileConsoleModel", "get", "(I)I"⟩
def ws_R_get : List Cond := .code y_R_get b_R_get 2 (some .int) :: WA
def rm_R_get : Room := { frames := 2, cells := 0, slots := 0, locals := 43 }
abbrev b_R_setPort : ByteArray := prog_8_method_15_code
def y_R_setPort : MethodName := ⟨"TileConsoleModel", "setPort", "(II)V"⟩
def ws_R_setPort : List Cond := .code y_R_setPort b_R_setPort 4 none :: WA
def rm_R_setPort : Room := { frames := 3, cells := 0, slots := 0, locals := 64 }
abbrev b_R_put : ByteArray := prog_8_method_16_code
def y_R_put : MethodName := ⟨"TileConsoleModel", "put", "(II)V"⟩
def ws_R_put : List Cond := .code y_R_put b_R_put 3 none :: WA
def rm_R_put : Room := { frames := 4, cells := 0, slots := 0, locals := 87 }
abbrev b_R_reads : ByteArray := prog_8_method_17_code
def y_R_reads : MethodName := ⟨"TileConsoleModel", "reads", "(I)I"⟩
def ws_R_reads : List Cond := .code y_R_reads b_R_reads 2 (some .int) :: WA
def rm_R_reads : Room := { frames := 3, cells := 0, slots := 0, locals := 64 }
abbrev b_R_writes : ByteArray := prog_8_method_18_code
def y_R_writes : MethodName := ⟨"TileConsoleModel", "writes", "(II)V"⟩
def ws_R_writes : List Cond := .code y_R_writes b_R_writes 3 none :: WA
def rm_R_writes : Room := { frames := 5, cells := 0, slots := 0, locals := 109 }
abbrev b_R_next : ByteArray := prog_8_method_19_code
def y_R_next : MethodName := ⟨"TileConsoleModel", "next", "()I"⟩
def ws_R_next : List Cond := .code y_R_next b_R_next 2 (some .int) :: WA
def rm_R_next : Room := { frames := 4, cells := 0, slots := 0, locals := 85 }
abbrev b_R_nextWord : ByteArray := prog_8_method_20_code
def y_R_nextWord : MethodName := ⟨"TileConsoleModel", "nextWord", "()I"⟩
def ws_R_nextWord : List Cond := .code y_R_nextWord b_R_nextWord 2 (some .int) :: WA
def rm_R_nextWord : Room := { frames := 5, cells := 0, slots := 0, locals := 106 }
abbrev b_R_signed : ByteArray := prog_8_method_21_code
def y_R_signed : MethodName := ⟨"TileConsoleModel", "signed", "(I)I"⟩
def ws_R_signed : List Cond := .code y_R_signed b_R_signed 1 (some .int) :: WA
def rm_R_signed : Room := { frames := 0, cells := 0, slots := 0, locals := 0 }
abbrev b_R_pair : ByteArray := prog_8_method_22_code
def y_R_pair : MethodName := ⟨"TileConsoleModel", "pair", "(I)I"⟩
def ws_R_pair : List Cond := .code y_R_pair b_R_pair 2 (some .int) :: WA
def rm_R_pair : Room := { frames := 0, cells := 0, slots := 0, locals := 0 }
abbrev b_R_setPair : ByteArray := prog_8_method_23_code
def y_R_setPair : MethodName := ⟨"TileConsoleModel", "setPair", "(II)V"⟩
def ws_R_setPair : List Cond := .code y_R_setPair b_R_setPair 3 none :: WA
def rm_R_setPair : Room := { frames := 0, cells := 0, slots := 0, locals := 0 }
abbrev b_R_operand : ByteArray := prog_8_method_24_code
def y_R_operand : MethodName := ⟨"TileConsoleModel", "operand", "(I)I"⟩
def ws_R_operand : List Cond := .code y_R_operand b_R_operand 2 (some .int) :: WA
def rm_R_operand : Room := { frames := 4, cells := 0, slots := 0, locals := 85 }
abbrev b_R_setOperand : ByteArray := prog_8_method_25_code
def y_R_setOperand : MethodName := ⟨"TileConsoleModel", "setOperand", "(II)V"⟩
def ws_R_setOperand : List Cond := .code y_R_setOperand b_R_setOperand 3 none :: WA
def rm_R_setOperand : Room := { frames := 6, cells := 0, slots := 0, locals := 131 }
abbrev b_R_push : ByteArray := prog_8_method_26_code
def y_R_push : MethodName := ⟨"TileConsoleModel", "push", "(I)V"⟩
def ws_R_push : List Cond := .code y_R_push b_R_push 2 none :: WA
def rm_R_push : Room := { frames := 6, cells := 0, slots := 0, locals := 131 }
abbrev b_R_pop : ByteArray := prog_8_method_27_code
def y_R_pop : MethodName := ⟨"TileConsoleModel", "pop", "()I"⟩
def ws_R_pop : List Cond := .code y_R_pop b_R_pop 3 (some .int) :: WA
def rm_R_pop : Room := { frames := 4, cells := 0, slots := 0, locals := 85 }
abbrev b_R_is : ByteArray := prog_8_method_28_code
def y_R_is : MethodName := ⟨"TileConsoleModel", "is", "(I)Z"⟩
def ws_R_is : List Cond := .code y_R_is b_R_is 2 (some .boolean) :: WA
def rm_R_is : Room := { frames := 0, cells := 0, slots := 0, locals := 0 }
abbrev b_R_flag : ByteArray := prog_8_method_29_code
def y_R_flag : MethodName := ⟨"TileConsoleModel", "flag", "(IZ)V"⟩
def ws_R_flag : List Cond := .code y_R_flag b_R_flag 3 none :: WA
def rm_R_flag : Room := { frames := 0, cells := 0, slots := 0, locals := 0 }
abbrev b_R_flagged : ByteArray := prog_8_method_30_code
def y_R_flagged : MethodName := ⟨"TileConsoleModel", "flagged", "(ZZZZ)V"⟩
def ws_R_flagged : List Cond := .code y_R_flagged b_R_flagged 5 none :: WA
def rm_R_flagged : Room := { frames := 0, cells := 0, slots := 0, locals := 0 }
abbrev b_R_holds : ByteArray := prog_8_method_31_code
def y_R_holds : MethodName := ⟨"TileConsoleModel", "holds", "(I)Z"⟩
def ws_R_holds : List Cond := .code y_R_holds b_R_holds 2 (some .boolean) :: WA
def rm_R_holds : Room := { frames := 1, cells := 0, slots := 0, locals := 21 }
abbrev b_R_reckons : ByteArray := prog_8_method_32_code
def y_R_reckons : MethodName := ⟨"TileConsoleModel", "reckons", "(II)V"⟩
def ws_R_reckons : List Cond := .code y_R_reckons b_R_reckons 6 none :: WA
def rm_R_reckons : Room := { frames := 1, cells := 0, slots := 0, locals := 24 }
abbrev b_R_turned : ByteArray := prog_8_method_33_code
def y_R_turned : MethodName := ⟨"TileConsoleModel", "turned", "(II)I"⟩
def ws_R_turned : List Cond := .code y_R_turned b_R_turned 6 (some .int) :: WA
def rm_R_turned : Room := { frames := 1, cells := 0, slots := 0, locals := 24 }
abbrev b_R_adjusts : ByteArray := prog_8_method_34_code
def y_R_adjusts : MethodName := ⟨"TileConsoleModel", "adjusts", "()V"⟩
def ws_R_adjusts : List Cond := .code y_R_adjusts b_R_adjusts 5 none :: WA
def rm_R_adjusts : Room := { frames := 1, cells := 0, slots := 0, locals := 24 }
abbrev b_R_jumps : ByteArray := prog_8_method_35_code
def y_R_jumps : MethodName := ⟨"TileConsoleModel", "jumps", "(ZI)V"⟩
def ws_R_jumps : List Cond := .code y_R_jumps b_R_jumps 3 none :: WA
def rm_R_jumps : Room := { frames := 0, cells := 0, slots := 0, locals := 0 }
abbrev b_R_calls : ByteArray := prog_8_method_36_code
def y_R_calls : MethodName := ⟨"TileConsoleModel", "calls", "(ZI)V"⟩
def ws_R_calls : List Cond := .code y_R_calls b_R_calls 3 none :: WA
def rm_R_calls : Room := { frames := 7, cells := 0, slots := 0, locals := 152 }
abbrev b_R_accumulator : ByteArray := prog_8_method_38_code
def y_R_accumulator : MethodName := ⟨"TileConsoleModel", "accumulator", "(I)V"⟩
def ws_R_accumulator : List Cond := .code y_R_accumulator b_R_accumulator 2 none :: WA
def rm_R_accumulator : Room := { frames := 2, cells := 0, slots := 0, locals := 49 }
abbrev b_R_first : ByteArray := prog_8_method_37_code
def y_R_first : MethodName := ⟨"TileConsoleModel", "first", "(II)V"⟩
def ws_R_first : List Cond := .code y_R_first b_R_first 8 none :: WA
def rm_R_first : Room := { frames := 7, cells := 0, slots := 0, locals := 153 }
abbrev b_R_spAnd : ByteArray := prog_8_method_39_code
def y_R_spAnd : MethodName := ⟨"TileConsoleModel", "spAnd", "()I"⟩
def ws_R_spAnd : List Cond := .code y_R_spAnd b_R_spAnd 2 (some .int) :: WA
def rm_R_spAnd : Room := { frames := 5, cells := 0, slots := 0, locals := 106 }
abbrev b_R_bits : ByteArray := prog_8_method_41_code
def y_R_bits : MethodName := ⟨"TileConsoleModel", "bits", "()V"⟩
def ws_R_bits : List Cond := .code y_R_bits b_R_bits 6 none :: WA
def rm_R_bits : Room := { frames := 7, cells := 0, slots := 0, locals := 153 }
abbrev b_R_third : ByteArray := prog_8_method_40_code
def y_R_third : MethodName := ⟨"TileConsoleModel", "third", "(II)V"⟩
def ws_R_third : List Cond := .code y_R_third b_R_third 6 none :: WA
def rm_R_third : Room := { frames := 8, cells := 0, slots := 0, locals := 178 }
abbrev b_R_step : ByteArray := prog_8_method_42_code
def y_R_step : MethodName := ⟨"TileConsoleModel", "step", "()Z"⟩
def ws_R_step : List Cond := .code y_R_step b_R_step 7 (some .boolean) :: WA
def rm_R_step : Room := { frames := 9, cells := 0, slots := 0, locals := 203 }
abbrev b_R_isSignal : ByteArray := prog_8_method_43_code
def y_R_isSignal : MethodName := ⟨"TileConsoleModel", "isSignal", "()Z"⟩
def ws_R_isSignal : List Cond := .code y_R_isSignal b_R_isSignal 2 (some .boolean) :: WA
def rm_R_isSignal : Room := { frames := 1, cells := 0, slots := 0, locals := 20 }
abbrev b_R_cycle : ByteArray := prog_8_method_44_code
def y_R_cycle : MethodName := ⟨"TileConsoleModel", "cycle", "()V"⟩
def ws_R_cycle : List Cond := .code y_R_cycle b_R_cycle 3 none :: WA
def rm_R_cycle : Room := { frames := 2, cells := 0, slots := 0, locals := 41 }
abbrev b_R_rom : ByteArray := prog_8_method_45_code
def y_R_rom : MethodName := ⟨"TileConsoleModel", "rom", "(IIIJ)I"⟩
def ws_R_rom : List Cond := .code y_R_rom b_R_rom 7 (some .int) :: WA
def rm_R_rom : Room := { frames := 1, cells := 0, slots := 0, locals := 22 }
abbrev b_R_insert : ByteArray := prog_8_method_46_code
def y_R_insert : MethodName := ⟨"TileConsoleModel", "insert", "(I)I"⟩
def ws_R_insert : List Cond := .code y_R_insert b_R_insert 4 (some .int) :: WA
def rm_R_insert : Room := { frames := 2, cells := 0, slots := 0, locals := 41 }
abbrev b_R_run : ByteArray := prog_8_method_47_code
def y_R_run : MethodName := ⟨"TileConsoleModel", "run", "(I)I"⟩
def ws_R_run : List Cond := .code y_R_run b_R_run 6 (some .int) :: WA
def rm_R_run : Room := { frames := 10, cells := 0, slots := 0, locals := 229 }
abbrev b_R_registerAt : ByteArray := prog_8_method_48_code
def y_R_registerAt : MethodName := ⟨"TileConsoleModel", "registerAt", "(I)I"⟩
def ws_R_registerAt : List Cond := .code y_R_registerAt b_R_registerAt 2 (some .int) :: WA
def rm_R_registerAt : Room := { frames := 0, cells := 0, slots := 0, locals := 0 }
abbrev b_R_set : ByteArray := prog_8_method_49_code
def y_R_set : MethodName := ⟨"TileConsoleModel", "set", "(II)I"⟩
def ws_R_set : List Cond := .code y_R_set b_R_set 4 (some .int) :: WA
def rm_R_set : Room := { frames := 1, cells := 0, slots := 0, locals := 22 }
abbrev b_R_register : ByteArray := prog_8_method_50_code
def y_R_register : MethodName := ⟨"TileConsoleModel", "register", "(I)I"⟩
def ws_R_register : List Cond := .code y_R_register b_R_register 2 (some .int) :: WA
def rm_R_register : Room := { frames := 1, cells := 0, slots := 0, locals := 22 }
abbrev b_R_read : ByteArray := prog_8_method_51_code
def y_R_read : MethodName := ⟨"TileConsoleModel", "read", "(I)I"⟩
def ws_R_read : List Cond := .code y_R_read b_R_read 2 (some .int) :: WA
def rm_R_read : Room := { frames := 3, cells := 0, slots := 0, locals := 64 }
abbrev b_R_write : ByteArray := prog_8_method_52_code
def y_R_write : MethodName := ⟨"TileConsoleModel", "write", "(IIJ)I"⟩
def ws_R_write : List Cond := .code y_R_write b_R_write 6 (some .int) :: WA
def rm_R_write : Room := { frames := 5, cells := 0, slots := 0, locals := 109 }
abbrev b_R_keys : ByteArray := prog_8_method_53_code
def y_R_keys : MethodName := ⟨"TileConsoleModel", "keys", "(I)I"⟩
def ws_R_keys : List Cond := .code y_R_keys b_R_keys 3 (some .int) :: WA
def rm_R_keys : Room := { frames := 1, cells := 0, slots := 0, locals := 22 }
abbrev b_R_dots : ByteArray := prog_8_method_54_code
def y_R_dots : MethodName := ⟨"TileConsoleModel", "dots", "(II)I"⟩
def ws_R_dots : List Cond := .code y_R_dots b_R_dots 3 (some .int) :: WA
def rm_R_dots : Room := { frames := 0, cells := 0, slots := 0, locals := 0 }
abbrev b_R_background : ByteArray := prog_8_method_55_code
def y_R_background : MethodName := ⟨"TileConsoleModel", "background", "(II)I"⟩
def ws_R_background : List Cond := .code y_R_background b_R_background 8 (some .int) :: WA
def rm_R_background : Room := { frames := 1, cells := 0, slots := 0, locals := 22 }
abbrev b_R_number : ByteArray := prog_8_method_57_code
def y_R_number : MethodName := ⟨"TileConsoleModel", "number", "(IIII)I"⟩
def ws_R_number : List Cond := .code y_R_number b_R_number 8 (some .int) :: WA
def rm_R_number : Room := { frames := 1, cells := 0, slots := 0, locals := 22 }
abbrev b_R_sprite : ByteArray := prog_8_method_56_code
def y_R_sprite : MethodName := ⟨"TileConsoleModel", "sprite", "(II)I"⟩
def ws_R_sprite : List Cond := .code y_R_sprite b_R_sprite 9 (some .int) :: WA
def rm_R_sprite : Room := { frames := 2, cells := 0, slots := 0, locals := 49 }
abbrev b_R_row : ByteArray := prog_8_method_58_code
def y_R_row : MethodName := ⟨"TileConsoleModel", "row", "(I)I"⟩
def ws_R_row : List Cond := .code y_R_row b_R_row 9 (some .int) :: WA
def rm_R_row : Room := { frames := 3, cells := 0, slots := 0, locals := 77 }
abbrev b_R_pixel : ByteArray := prog_8_method_59_code
def y_R_pixel : MethodName := ⟨"TileConsoleModel", "pixel", "(I)I"⟩
def ws_R_pixel : List Cond := .code y_R_pixel b_R_pixel 2 (some .int) :: WA
def rm_R_pixel : Room := { frames := 1, cells := 0, slots := 0, locals := 22 }
abbrev b_R_count : ByteArray := prog_8_method_60_code
def y_R_count : MethodName := ⟨"TileConsoleModel", "count", "(I)I"⟩
def ws_R_count : List Cond := .code y_R_count b_R_count 2 (some .int) :: WA
def rm_R_count : Room := { frames := 1, cells := 0, slots := 0, locals := 22 }
abbrev b_R_speed : ByteArray := prog_8_method_61_code
def y_R_speed : MethodName := ⟨"TileConsoleModel", "speed", "()D"⟩
def ws_R_speed : List Cond := .code y_R_speed b_R_speed 1 (some .double) :: WA
def rm_R_speed : Room := { frames := 1, cells := 0, slots := 0, locals := 22 }
