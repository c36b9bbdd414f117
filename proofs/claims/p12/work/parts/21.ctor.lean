set_option maxRecDepth 100000 in
theorem k_0 : Cond.methodLink "TileConsole$Cartridge" 1 ⟨"java/lang/Object", "<init>", "()V"⟩ ∈ WA := WAm 129 (by decide +kernel) (by decide +kernel)
set_option maxRecDepth 100000 in
theorem k_1 : Cond.instanceMethod ⟨"java/lang/Object", "<init>", "()V"⟩ ∈ WA := WAm 122 (by decide +kernel) (by decide +kernel)
set_option maxRecDepth 100000 in
theorem k_2 : Cond.code ⟨"java/lang/Object", "<init>", "()V"⟩ ⟨#[0xb1]⟩ 1 none ∈ WA := WAm 123 rfl (by decide +kernel)
set_option maxRecDepth 100000 in
theorem k_3 : Cond.arrayClass .int ∈ WA := WAm 170 (by decide +kernel) (by decide +kernel)
set_option maxRecDepth 100000 in
theorem k_4 : Cond.fieldLink "TileConsole$Cartridge" 9 "TileConsole$Cartridge" "rom" "[I" ∈ WA := WAm 130 (by decide +kernel) (by decide +kernel)
set_option maxRecDepth 100000 in
theorem k_5 : Cond.fieldLink "TileConsole$Cartridge" 13 "TileConsole$Cartridge" "ram" "[I" ∈ WA := WAm 132 (by decide +kernel) (by decide +kernel)
set_option maxRecDepth 100000 in
theorem k_6 : Cond.methodLink "TileConsole$Ports" 1 ⟨"java/lang/Object", "<init>", "()V"⟩ ∈ WA := WAm 176 (by decide +kernel) (by decide +kernel)
set_option maxRecDepth 100000 in
theorem k_7 : Cond.fieldLink "TileConsole$Ports" 7 "TileConsole$Ports" "octets" "[I" ∈ WA := WAm 177 (by decide +kernel) (by decide +kernel)
set_option maxRecDepth 100000 in
theorem k_8 : Cond.methodLink "TileConsole$Memory" 1 ⟨"java/lang/Object", "<init>", "()V"⟩ ∈ WA := WAm 210 (by decide +kernel) (by decide +kernel)
set_option maxRecDepth 100000 in
theorem k_9 : Cond.fieldLink "TileConsole$Memory" 7 "TileConsole$Memory" "video" "[I" ∈ WA := WAm 211 (by decide +kernel) (by decide +kernel)
set_option maxRecDepth 100000 in
theorem k_10 : Cond.fieldLink "TileConsole$Memory" 13 "TileConsole$Memory" "sprites" "[I" ∈ WA := WAm 213 (by decide +kernel) (by decide +kernel)
set_option maxRecDepth 100000 in
theorem k_11 : Cond.fieldLink "TileConsole$Memory" 16 "TileConsole$Memory" "work" "[I" ∈ WA := WAm 215 (by decide +kernel) (by decide +kernel)
set_option maxRecDepth 100000 in
theorem k_12 : Cond.fieldLink "TileConsole$Memory" 19 "TileConsole$Memory" "high" "[I" ∈ WA := WAm 216 (by decide +kernel) (by decide +kernel)
set_option maxRecDepth 100000 in
theorem k_13 : Cond.fieldLink "TileConsole$Memory" 22 "TileConsole$Memory" "cartridge" "LTileConsole$Cartridge;" ∈ WA := WAm 217 (by decide +kernel) (by decide +kernel)
set_option maxRecDepth 100000 in
theorem k_14 : Cond.fieldLink "TileConsole$Memory" 26 "TileConsole$Memory" "ports" "LTileConsole$Ports;" ∈ WA := WAm 218 (by decide +kernel) (by decide +kernel)
set_option maxRecDepth 100000 in
theorem k_15 : Cond.methodLink "TileConsole$Screen" 1 ⟨"java/lang/Object", "<init>", "()V"⟩ ∈ WA := WAm 237 (by decide +kernel) (by decide +kernel)
set_option maxRecDepth 100000 in
theorem k_16 : Cond.fieldLink "TileConsole$Screen" 9 "TileConsole$Screen" "pixels" "[I" ∈ WA := WAm 238 (by decide +kernel) (by decide +kernel)
set_option maxRecDepth 100000 in
theorem k_17 : Cond.fieldLink "TileConsole$Screen" 13 "TileConsole$Screen" "aheadNumber" "[I" ∈ WA := WAm 243 (by decide +kernel) (by decide +kernel)
set_option maxRecDepth 100000 in
theorem k_18 : Cond.fieldLink "TileConsole$Screen" 16 "TileConsole$Screen" "aheadX" "[I" ∈ WA := WAm 244 (by decide +kernel) (by decide +kernel)
set_option maxRecDepth 100000 in
theorem k_19 : Cond.fieldLink "TileConsole$Screen" 19 "TileConsole$Screen" "aheadFlags" "[I" ∈ WA := WAm 245 (by decide +kernel) (by decide +kernel)
set_option maxRecDepth 100000 in
theorem k_20 : Cond.fieldLink "TileConsole$Screen" 22 "TileConsole$Screen" "video" "[I" ∈ WA := WAm 240 (by decide +kernel) (by decide +kernel)
set_option maxRecDepth 100000 in
theorem k_21 : Cond.fieldLink "TileConsole$Screen" 25 "TileConsole$Screen" "sprites" "[I" ∈ WA := WAm 241 (by decide +kernel) (by decide +kernel)
set_option maxRecDepth 100000 in
theorem k_22 : Cond.fieldLink "TileConsole$Screen" 28 "TileConsole$Screen" "ports" "[I" ∈ WA := WAm 242 (by decide +kernel) (by decide +kernel)
set_option maxRecDepth 100000 in
theorem k_23 : Cond.methodLink "TileConsole$Processor" 1 ⟨"java/lang/Object", "<init>", "()V"⟩ ∈ WA := WAm 266 (by decide +kernel) (by decide +kernel)
set_option maxRecDepth 100000 in
theorem k_24 : Cond.fieldLink "TileConsole$Processor" 7 "TileConsole$Processor" "\x72" "[I" ∈ WA := WAm 279 (by decide +kernel) (by decide +kernel)
set_option maxRecDepth 100000 in
theorem k_25 : Cond.fieldLink "TileConsole$Processor" 13 "TileConsole$Processor" "memory" "LTileConsole$Memory;" ∈ WA := WAm 284 (by decide +kernel) (by decide +kernel)
set_option maxRecDepth 100000 in
theorem k_26 : Cond.fieldLink "TileConsole$Processor" 17 "TileConsole$Processor" "ports" "LTileConsole$Ports;" ∈ WA := WAm 285 (by decide +kernel) (by decide +kernel)
set_option maxRecDepth 100000 in
theorem k_27 : Cond.methodLink "TileConsole" 1 ⟨"java/lang/Object", "<init>", "()V"⟩ ∈ WA := WAm 121 (by decide +kernel) (by decide +kernel)
set_option maxRecDepth 100000 in
theorem k_28 : Cond.classLink "TileConsole" 7 "TileConsole$Cartridge" ∈ WA := WAm 124 (by decide +kernel) (by decide +kernel)
set_option maxRecDepth 100000 in
theorem k_29 : Cond.instantiable "TileConsole$Cartridge" 11 ∈ WA := WAm 125 (by decide +kernel) (by decide +kernel)
set_option maxRecDepth 100000 in
theorem k_30 : Cond.initialized "TileConsole$Cartridge" ∈ WA := WAm 100 (by decide +kernel) (by decide +kernel)
set_option maxRecDepth 100000 in
theorem k_31 : Cond.fieldLink "TileConsole" 10 "TileConsole" "cartridge" "LTileConsole$Cartridge;" ∈ WA := WAm 356 (by decide +kernel) (by decide +kernel)
set_option maxRecDepth 100000 in
theorem k_32 : Cond.classLink "TileConsole" 16 "TileConsole$Ports" ∈ WA := WAm 171 (by decide +kernel) (by decide +kernel)
set_option maxRecDepth 100000 in
theorem k_33 : Cond.instantiable "TileConsole$Ports" 8 ∈ WA := WAm 172 (by decide +kernel) (by decide +kernel)
set_option maxRecDepth 100000 in
theorem k_34 : Cond.initialized "TileConsole$Ports" ∈ WA := WAm 101 (by decide +kernel) (by decide +kernel)
set_option maxRecDepth 100000 in
theorem k_35 : Cond.fieldLink "TileConsole" 19 "TileConsole" "ports" "LTileConsole$Ports;" ∈ WA := WAm 357 (by decide +kernel) (by decide +kernel)
set_option maxRecDepth 100000 in
theorem k_36 : Cond.classLink "TileConsole" 23 "TileConsole$Memory" ∈ WA := WAm 205 (by decide +kernel) (by decide +kernel)
set_option maxRecDepth 100000 in
theorem k_37 : Cond.instantiable "TileConsole$Memory" 6 ∈ WA := WAm 206 (by decide +kernel) (by decide +kernel)
set_option maxRecDepth 100000 in
theorem k_38 : Cond.initialized "TileConsole$Memory" ∈ WA := WAm 102 (by decide +kernel) (by decide +kernel)
set_option maxRecDepth 100000 in
theorem k_39 : Cond.methodLink "TileConsole" 25 ⟨"TileConsole$Memory", "<init>", "(LTileConsole$Cartridge;LTileConsole$Ports;)V"⟩ ∈ WA := WAm 207 (by decide +kernel) (by decide +kernel)
set_option maxRecDepth 100000 in
theorem k_40 : Cond.fieldLink "TileConsole" 28 "TileConsole" "memory" "LTileConsole$Memory;" ∈ WA := WAm 358 (by decide +kernel) (by decide +kernel)
set_option maxRecDepth 100000 in
theorem k_41 : Cond.classLink "TileConsole" 32 "TileConsole$Screen" ∈ WA := WAm 232 (by decide +kernel) (by decide +kernel)
set_option maxRecDepth 100000 in
theorem k_42 : Cond.instantiable "TileConsole$Screen" 7 ∈ WA := WAm 233 (by decide +kernel) (by decide +kernel)
set_option maxRecDepth 100000 in
theorem k_43 : Cond.initialized "TileConsole$Screen" ∈ WA := WAm 103 (by decide +kernel) (by decide +kernel)
set_option maxRecDepth 100000 in
theorem k_44 : Cond.fieldLink "TileConsole" 34 "TileConsole$Memory" "video" "[I" ∈ WA := WAm 212 (by decide +kernel) (by decide +kernel)
set_option maxRecDepth 100000 in
theorem k_45 : Cond.fieldLink "TileConsole" 38 "TileConsole$Memory" "sprites" "[I" ∈ WA := WAm 214 (by decide +kernel) (by decide +kernel)
set_option maxRecDepth 100000 in
theorem k_46 : Cond.fieldLink "TileConsole" 41 "TileConsole$Ports" "octets" "[I" ∈ WA := WAm 178 (by decide +kernel) (by decide +kernel)
set_option maxRecDepth 100000 in
theorem k_47 : Cond.methodLink "TileConsole" 44 ⟨"TileConsole$Screen", "<init>", "([I[I[I)V"⟩ ∈ WA := WAm 234 (by decide +kernel) (by decide +kernel)
set_option maxRecDepth 100000 in
theorem k_48 : Cond.fieldLink "TileConsole" 47 "TileConsole" "screen" "LTileConsole$Screen;" ∈ WA := WAm 359 (by decide +kernel) (by decide +kernel)
set_option maxRecDepth 100000 in
theorem k_49 : Cond.classLink "TileConsole" 51 "TileConsole$Processor" ∈ WA := WAm 261 (by decide +kernel) (by decide +kernel)
set_option maxRecDepth 100000 in
theorem k_50 : Cond.instantiable "TileConsole$Processor" 13 ∈ WA := WAm 262 (by decide +kernel) (by decide +kernel)
set_option maxRecDepth 100000 in
theorem k_51 : Cond.initialized "TileConsole$Processor" ∈ WA := WAm 104 (by decide +kernel) (by decide +kernel)
set_option maxRecDepth 100000 in
theorem k_52 : Cond.methodLink "TileConsole" 53 ⟨"TileConsole$Processor", "<init>", "(LTileConsole$Memory;LTileConsole$Ports;)V"⟩ ∈ WA := WAm 263 (by decide +kernel) (by decide +kernel)
set_option maxRecDepth 100000 in
theorem k_53 : Cond.fieldLink "TileConsole" 56 "TileConsole" "processor" "LTileConsole$Processor;" ∈ WA := WAm 360 (by decide +kernel) (by decide +kernel)
set_option maxRecDepth 100000 in
theorem k_54 : Cond.methodLink "TileConsole" 60 ⟨"TileConsole", "startAnew", "()V"⟩ ∈ WA := WAm 313 (by decide +kernel) (by decide +kernel)
set_option maxRecDepth 100000 in
theorem k_55 : Cond.methodLink "TileConsoleModel" 1 ⟨"java/lang/Object", "<init>", "()V"⟩ ∈ WA := WAm 906 (by decide +kernel) (by decide +kernel)
set_option maxRecDepth 100000 in
theorem k_56 : Cond.fieldLink "TileConsoleModel" 7 "TileConsoleModel" "rom" "[I" ∈ WA := WAm 916 (by decide +kernel) (by decide +kernel)
set_option maxRecDepth 100000 in
theorem k_57 : Cond.fieldLink "TileConsoleModel" 13 "TileConsoleModel" "ram" "[I" ∈ WA := WAm 917 (by decide +kernel) (by decide +kernel)
set_option maxRecDepth 100000 in
theorem k_58 : Cond.fieldLink "TileConsoleModel" 16 "TileConsoleModel" "video" "[I" ∈ WA := WAm 918 (by decide +kernel) (by decide +kernel)
set_option maxRecDepth 100000 in
theorem k_59 : Cond.fieldLink "TileConsoleModel" 19 "TileConsoleModel" "work" "[I" ∈ WA := WAm 919 (by decide +kernel) (by decide +kernel)
set_option maxRecDepth 100000 in
theorem k_60 : Cond.fieldLink "TileConsoleModel" 22 "TileConsoleModel" "sprites" "[I" ∈ WA := WAm 920 (by decide +kernel) (by decide +kernel)
set_option maxRecDepth 100000 in
theorem k_61 : Cond.fieldLink "TileConsoleModel" 25 "TileConsoleModel" "top" "[I" ∈ WA := WAm 921 (by decide +kernel) (by decide +kernel)
set_option maxRecDepth 100000 in
theorem k_62 : Cond.fieldLink "TileConsoleModel" 28 "TileConsoleModel" "line" "[I" ∈ WA := WAm 922 (by decide +kernel) (by decide +kernel)
set_option maxRecDepth 100000 in
theorem k_63 : Cond.fieldLink "TileConsoleModel" 31 "TileConsoleModel" "\x72" "[I" ∈ WA := WAm 932 (by decide +kernel) (by decide +kernel)
set_option maxRecDepth 100000 in
theorem k_64 : Cond.methodLink "TileConsoleModel" 34 ⟨"TileConsoleModel", "reset", "()V"⟩ ∈ WA := WAm 907 (by decide +kernel) (by decide +kernel)
abbrev b_K_init : ByteArray := prog_2_method_1_code
def y_K_init : MethodName := ⟨"TileConsole$Cartridge", "<init>", "()V"⟩
def ws_K_init : List Cond := .code y_K_init b_K_init 1 none :: WA
theorem d_K_init_0 : decode b_K_init 0 = .ok (.aload_n 0, 1) := by decide +kernel
theorem d_K_init_1 : decode b_K_init 1 = .ok (.invokespecial 1, 3) := by decide +kernel
theorem d_K_init_4 : decode b_K_init 4 = .ok (.aload_n 0, 1) := by decide +kernel
theorem d_K_init_5 : decode b_K_init 5 = .ok (.sipush 8192, 3) := by decide +kernel
theorem d_K_init_8 : decode b_K_init 8 = .ok (.newarray .int, 2) := by decide +kernel
theorem d_K_init_10 : decode b_K_init 10 = .ok (.putfield 9, 3) := by decide +kernel
theorem d_K_init_13 : decode b_K_init 13 = .ok (.aload_n 0, 1) := by decide +kernel
theorem d_K_init_14 : decode b_K_init 14 = .ok (.sipush 1024, 3) := by decide +kernel
theorem d_K_init_17 : decode b_K_init 17 = .ok (.newarray .int, 2) := by decide +kernel
theorem d_K_init_19 : decode b_K_init 19 = .ok (.putfield 13, 3) := by decide +kernel
theorem d_K_init_22 : decode b_K_init 22 = .ok (.return_, 1) := by decide +kernel
set_option maxRecDepth 100000 in
theorem kc_K_init : Cond.code y_K_init b_K_init 1 none ∈ WA := WAm 128 rfl (by decide +kernel)
set_option maxRecDepth 100000 in
theorem ki_K_init : Cond.instanceMethod y_K_init ∈ WA := WAm 127 (by decide +kernel) (by decide +kernel)
def rm_K_init : Room := { frames := 1, cells := 2, slots := 9216, locals := 20 }
theorem in_K {l : Launch} {D : va_G} {cA : ClassId} (h0 : Nat) : Ini l y_K_init ws_K_init rm_K_init D cA [.ref h0] [(h0, .inr (1, [.null, .null, .int 0, .int 0, .int 0, .int 0, .int 0, .int 0, .int 0, .int 0, .int 0]))] (fun q => [(h0, .inr (1, [.ref (q 0), .ref (q 1), .int 0, .int 0, .int 0, .int 0, .int 0, .int 0, .int 0, .int 0, .int 0])), ((q 0), .inl (cA, 8192, .inl (fun _ => 0))), ((q 1), .inl (cA, 1024, .inl (fun _ => 0)))]) 2 9216 := by
  intro sz
  refine Met.ofW (cc := b_K_init) (maxL := 1) (ret := none) (by decide) rfl ?_
  intro p e s m args below meth c s₁ B hml hv
  obtain ⟨rfl, hsz, hP, hK, hD0⟩ := hv
  have hr := B.returns
  have hlocks := B.notSynchronized
  have hin : meth.name = "<init>" := (name_of_methodNamed B.named B.method).1
  have hts : ∀ w ∈ WA, w.before _ s = true := fun w h => atoms_spec (ws := ws_K_init) B.pre w (List.mem_cons_of_mem _ h)
  have S : CallFix p m c b_K_init 1 s _ WA "TileConsole$Cartridge" := ⟨B.exec, B.bytes, hml, findClass_of_methodNamed B.named, hts⟩
  subst hsz
  have hD := hD0.self (sz := s.heap.size)
  generalize hAe : va_A [(h0, .inr (1, [.null, .null, .int 0, .int 0, .int 0, .int 0, .int 0, .int 0, .int 0, .int 0, .int 0]))] s.heap.size = A at hD ⊢
  have hA : ∀ q : Nat, s.heap.size ≤ q → A q := fun q h => by rw [← hAe]; exact Or.inr h
  have hS : va_S A s.heap s.heap [] := va_S.rf
  have hl := lv_entry [.ref h0] (n := 1) (Nat.le_of_ble_eq_true rfl)
  rw [lg_entry_eq]
  generalize (lg_sl [.ref h0] ++ List.replicate (1 - (lg_sl [.ref h0]).length) Slot.unset).toArray = ls at hl ⊢
  have hl : lv_has ls 1 [(0, .ref h0)] := hl
  have hx := S.1
  have hb := S.2.1
  have hown := S.2.2.2.1
  refine lv_aload_n hx hb d_K_init_0 rfl (lv_at hl 0 rfl) ?_
  refine ob_init S k_0 k_1 k_2 hl.1 d_K_init_1 (Nat.le_of_ble_eq_true rfl) ⟨Nat.le_of_ble_eq_true rfl, Nat.le_of_ble_eq_true rfl⟩ ?_
  refine lv_aload_n hx hb d_K_init_4 rfl (lv_at hl 0 rfl) ?_
  refine lv_sipush hx hb d_K_init_5 rfl ?_
  refine nw_i (N := 8192) S k_3 hK hP hD hS hA (by decide) (by decide) (Nat.le_of_ble_eq_true rfl) (Nat.le_of_ble_eq_true rfl) (Nat.le_of_ble_eq_true rfl) d_K_init_8 fun q8 H hP hD hS => ?_
  have hP : va_P D vcl [(h0, .inr (1, [.null, .null, .int 0, .int 0, .int 0, .int 0, .int 0, .int 0, .int 0, .int 0, .int 0])), (q8, .inl (cA, 8192, .inl (fun _ => 0)))] H := hP
  have hD : va_D A [(h0, .inr (1, [.null, .null, .int 0, .int 0, .int 0, .int 0, .int 0, .int 0, .int 0, .int 0, .int 0])), (q8, .inl (cA, 8192, .inl (fun _ => 0)))] := hD
  refine W.widen (k := 1) (n := 8192) (by omega) (by omega) ?_
  refine va_putF (D := D) (ci := 1) (v := .ref q8) (ty := .array .int) (C := R_K) (T := F_K) (N := 11) hx hb hts i_K ty_K ty_K_ok n_K hown hK hP hD hS 0 rfl rfl 0 (by decide) (hts _ k_4) (fun _ h9 => h9) rfl hin rfl (by decide +kernel) rfl rfl (Nat.le_of_ble_eq_true rfl) d_K_init_10 (fun H locs hP hD hS => ?_)
  have hP : va_P D vcl [(h0, .inr (1, [.ref q8, .null, .int 0, .int 0, .int 0, .int 0, .int 0, .int 0, .int 0, .int 0, .int 0])), (q8, .inl (cA, 8192, .inl (fun _ => 0)))] H := hP
  have hD : va_D A [(h0, .inr (1, [.ref q8, .null, .int 0, .int 0, .int 0, .int 0, .int 0, .int 0, .int 0, .int 0, .int 0])), (q8, .inl (cA, 8192, .inl (fun _ => 0)))] := hD
  refine lv_aload_n hx hb d_K_init_13 rfl (lv_at hl 0 rfl) ?_
  refine lv_sipush hx hb d_K_init_14 rfl ?_
  refine nw_i (N := 1024) S k_3 hK hP hD hS hA (by decide) (by decide) (Nat.le_of_ble_eq_true rfl) (Nat.le_of_ble_eq_true rfl) (Nat.le_of_ble_eq_true rfl) d_K_init_17 fun q17 H hP hD hS => ?_
  have hP : va_P D vcl [(h0, .inr (1, [.ref q8, .null, .int 0, .int 0, .int 0, .int 0, .int 0, .int 0, .int 0, .int 0, .int 0])), (q8, .inl (cA, 8192, .inl (fun _ => 0))), (q17, .inl (cA, 1024, .inl (fun _ => 0)))] H := hP
  have hD : va_D A [(h0, .inr (1, [.ref q8, .null, .int 0, .int 0, .int 0, .int 0, .int 0, .int 0, .int 0, .int 0, .int 0])), (q8, .inl (cA, 8192, .inl (fun _ => 0))), (q17, .inl (cA, 1024, .inl (fun _ => 0)))] := hD
  refine W.widen (k := 2) (n := 9216) (by omega) (by omega) ?_
  refine va_putF (D := D) (ci := 1) (v := .ref q17) (ty := .array .int) (C := R_K) (T := F_K) (N := 11) hx hb hts i_K ty_K ty_K_ok n_K hown hK hP hD hS 0 rfl rfl 1 (by decide) (hts _ k_5) (fun _ h9 => h9) rfl hin rfl (by decide +kernel) rfl rfl (Nat.le_of_ble_eq_true rfl) d_K_init_19 (fun H locs hP hD hS => ?_)
  have hP : va_P D vcl [(h0, .inr (1, [.ref q8, .ref q17, .int 0, .int 0, .int 0, .int 0, .int 0, .int 0, .int 0, .int 0, .int 0])), (q8, .inl (cA, 8192, .inl (fun _ => 0))), (q17, .inl (cA, 1024, .inl (fun _ => 0)))] H := hP
  have hD : va_D A [(h0, .inr (1, [.ref q8, .ref q17, .int 0, .int 0, .int 0, .int 0, .int 0, .int 0, .int 0, .int 0, .int 0])), (q8, .inl (cA, 8192, .inl (fun _ => 0))), (q17, .inl (cA, 1024, .inl (fun _ => 0)))] := hD
  exact W.vret hx hb hr (fun t ht hW => ⟨fun i => [q8, q17].getD i 0, rfl, by rw [ht]; exact hP, hD, hS.F ht⟩) hS.2.2 d_K_init_22
abbrev b_P_init : ByteArray := prog_4_method_1_code
def y_P_init : MethodName := ⟨"TileConsole$Ports", "<init>", "()V"⟩
def ws_P_init : List Cond := .code y_P_init b_P_init 1 none :: WA
theorem d_P_init_0 : decode b_P_init 0 = .ok (.aload_n 0, 1) := by decide +kernel
theorem d_P_init_1 : decode b_P_init 1 = .ok (.invokespecial 1, 3) := by decide +kernel
theorem d_P_init_4 : decode b_P_init 4 = .ok (.aload_n 0, 1) := by decide +kernel
theorem d_P_init_5 : decode b_P_init 5 = .ok (.sipush 256, 3) := by decide +kernel
theorem d_P_init_8 : decode b_P_init 8 = .ok (.newarray .int, 2) := by decide +kernel
theorem d_P_init_10 : decode b_P_init 10 = .ok (.putfield 7, 3) := by decide +kernel
theorem d_P_init_13 : decode b_P_init 13 = .ok (.return_, 1) := by decide +kernel
set_option maxRecDepth 100000 in
theorem kc_P_init : Cond.code y_P_init b_P_init 1 none ∈ WA := WAm 175 rfl (by decide +kernel)
set_option maxRecDepth 100000 in
theorem ki_P_init : Cond.instanceMethod y_P_init ∈ WA := WAm 174 (by decide +kernel) (by decide +kernel)
def rm_P_init : Room := { frames := 1, cells := 1, slots := 256, locals := 20 }
theorem in_P {l : Launch} {D : va_G} {cA : ClassId} (h0 : Nat) : Ini l y_P_init ws_P_init rm_P_init D cA [.ref h0] [(h0, .inr (2, [.null, .int 0, .int 0, .int 0, .int 0, .int 0, .int 0, .int 0]))] (fun q => [(h0, .inr (2, [.ref (q 0), .int 0, .int 0, .int 0, .int 0, .int 0, .int 0, .int 0])), ((q 0), .inl (cA, 256, .inl (fun _ => 0)))]) 1 256 := by
  intro sz
  refine Met.ofW (cc := b_P_init) (maxL := 1) (ret := none) (by decide) rfl ?_
  intro p e s m args below meth c s₁ B hml hv
  obtain ⟨rfl, hsz, hP, hK, hD0⟩ := hv
  have hr := B.returns
  have hlocks := B.notSynchronized
  have hin : meth.name = "<init>" := (name_of_methodNamed B.named B.method).1
  have hts : ∀ w ∈ WA, w.before _ s = true := fun w h => atoms_spec (ws := ws_P_init) B.pre w (List.mem_cons_of_mem _ h)
  have S : CallFix p m c b_P_init 1 s _ WA "TileConsole$Ports" := ⟨B.exec, B.bytes, hml, findClass_of_methodNamed B.named, hts⟩
  subst hsz
  have hD := hD0.self (sz := s.heap.size)
  generalize hAe : va_A [(h0, .inr (2, [.null, .int 0, .int 0, .int 0, .int 0, .int 0, .int 0, .int 0]))] s.heap.size = A at hD ⊢
  have hA : ∀ q : Nat, s.heap.size ≤ q → A q := fun q h => by rw [← hAe]; exact Or.inr h
  have hS : va_S A s.heap s.heap [] := va_S.rf
  have hl := lv_entry [.ref h0] (n := 1) (Nat.le_of_ble_eq_true rfl)
  rw [lg_entry_eq]
  generalize (lg_sl [.ref h0] ++ List.replicate (1 - (lg_sl [.ref h0]).length) Slot.unset).toArray = ls at hl ⊢
  have hl : lv_has ls 1 [(0, .ref h0)] := hl
  have hx := S.1
  have hb := S.2.1
  have hown := S.2.2.2.1
  refine lv_aload_n hx hb d_P_init_0 rfl (lv_at hl 0 rfl) ?_
  refine ob_init S k_6 k_1 k_2 hl.1 d_P_init_1 (Nat.le_of_ble_eq_true rfl) ⟨Nat.le_of_ble_eq_true rfl, Nat.le_of_ble_eq_true rfl⟩ ?_
  refine lv_aload_n hx hb d_P_init_4 rfl (lv_at hl 0 rfl) ?_
  refine lv_sipush hx hb d_P_init_5 rfl ?_
  refine nw_i (N := 256) S k_3 hK hP hD hS hA (by decide) (by decide) (Nat.le_of_ble_eq_true rfl) (Nat.le_of_ble_eq_true rfl) (Nat.le_of_ble_eq_true rfl) d_P_init_8 fun q8 H hP hD hS => ?_
  have hP : va_P D vcl [(h0, .inr (2, [.null, .int 0, .int 0, .int 0, .int 0, .int 0, .int 0, .int 0])), (q8, .inl (cA, 256, .inl (fun _ => 0)))] H := hP
  have hD : va_D A [(h0, .inr (2, [.null, .int 0, .int 0, .int 0, .int 0, .int 0, .int 0, .int 0])), (q8, .inl (cA, 256, .inl (fun _ => 0)))] := hD
  refine W.widen (k := 1) (n := 256) (by omega) (by omega) ?_
  refine va_putF (D := D) (ci := 2) (v := .ref q8) (ty := .array .int) (C := R_P) (T := F_P) (N := 8) hx hb hts i_P ty_P ty_P_ok n_P hown hK hP hD hS 0 rfl rfl 0 (by decide) (hts _ k_7) (fun _ h9 => h9) rfl hin rfl (by decide +kernel) rfl rfl (Nat.le_of_ble_eq_true rfl) d_P_init_10 (fun H locs hP hD hS => ?_)
  have hP : va_P D vcl [(h0, .inr (2, [.ref q8, .int 0, .int 0, .int 0, .int 0, .int 0, .int 0, .int 0])), (q8, .inl (cA, 256, .inl (fun _ => 0)))] H := hP
  have hD : va_D A [(h0, .inr (2, [.ref q8, .int 0, .int 0, .int 0, .int 0, .int 0, .int 0, .int 0])), (q8, .inl (cA, 256, .inl (fun _ => 0)))] := hD
  exact W.vret hx hb hr (fun t ht hW => ⟨fun i => [q8].getD i 0, rfl, by rw [ht]; exact hP, hD, hS.F ht⟩) hS.2.2 d_P_init_13
abbrev b_Y_init : ByteArray := prog_3_method_1_code
def y_Y_init : MethodName := ⟨"TileConsole$Memory", "<init>", "(LTileConsole$Cartridge;LTileConsole$Ports;)V"⟩
def ws_Y_init : List Cond := .code y_Y_init b_Y_init 3 none :: WA
theorem d_Y_init_0 : decode b_Y_init 0 = .ok (.aload_n 0, 1) := by decide +kernel
theorem d_Y_init_1 : decode b_Y_init 1 = .ok (.invokespecial 1, 3) := by decide +kernel
theorem d_Y_init_4 : decode b_Y_init 4 = .ok (.aload_n 0, 1) := by decide +kernel
theorem d_Y_init_5 : decode b_Y_init 5 = .ok (.sipush 8192, 3) := by decide +kernel
theorem d_Y_init_8 : decode b_Y_init 8 = .ok (.newarray .int, 2) := by decide +kernel
theorem d_Y_init_10 : decode b_Y_init 10 = .ok (.putfield 7, 3) := by decide +kernel
theorem d_Y_init_13 : decode b_Y_init 13 = .ok (.aload_n 0, 1) := by decide +kernel
theorem d_Y_init_14 : decode b_Y_init 14 = .ok (.sipush 160, 3) := by decide +kernel
theorem d_Y_init_17 : decode b_Y_init 17 = .ok (.newarray .int, 2) := by decide +kernel
theorem d_Y_init_19 : decode b_Y_init 19 = .ok (.putfield 13, 3) := by decide +kernel
theorem d_Y_init_22 : decode b_Y_init 22 = .ok (.aload_n 0, 1) := by decide +kernel
theorem d_Y_init_23 : decode b_Y_init 23 = .ok (.sipush 1024, 3) := by decide +kernel
theorem d_Y_init_26 : decode b_Y_init 26 = .ok (.newarray .int, 2) := by decide +kernel
theorem d_Y_init_28 : decode b_Y_init 28 = .ok (.putfield 16, 3) := by decide +kernel
theorem d_Y_init_31 : decode b_Y_init 31 = .ok (.aload_n 0, 1) := by decide +kernel
theorem d_Y_init_32 : decode b_Y_init 32 = .ok (.sipush 128, 3) := by decide +kernel
theorem d_Y_init_35 : decode b_Y_init 35 = .ok (.newarray .int, 2) := by decide +kernel
theorem d_Y_init_37 : decode b_Y_init 37 = .ok (.putfield 19, 3) := by decide +kernel
theorem d_Y_init_40 : decode b_Y_init 40 = .ok (.aload_n 0, 1) := by decide +kernel
theorem d_Y_init_41 : decode b_Y_init 41 = .ok (.aload_n 1, 1) := by decide +kernel
theorem d_Y_init_42 : decode b_Y_init 42 = .ok (.putfield 22, 3) := by decide +kernel
theorem d_Y_init_45 : decode b_Y_init 45 = .ok (.aload_n 0, 1) := by decide +kernel
theorem d_Y_init_46 : decode b_Y_init 46 = .ok (.aload_n 2, 1) := by decide +kernel
theorem d_Y_init_47 : decode b_Y_init 47 = .ok (.putfield 26, 3) := by decide +kernel
theorem d_Y_init_50 : decode b_Y_init 50 = .ok (.return_, 1) := by decide +kernel
set_option maxRecDepth 100000 in
theorem kc_Y_init : Cond.code y_Y_init b_Y_init 3 none ∈ WA := WAm 209 rfl (by decide +kernel)
set_option maxRecDepth 100000 in
theorem ki_Y_init : Cond.instanceMethod y_Y_init ∈ WA := WAm 208 (by decide +kernel) (by decide +kernel)
def rm_Y_init : Room := { frames := 1, cells := 4, slots := 9504, locals := 20 }
theorem in_Y {l : Launch} {D : va_G} {cA : ClassId} (h0 : Nat) (a1 : Nat) (a2 : Nat) : Ini l y_Y_init ws_Y_init rm_Y_init D cA [.ref h0, .ref a1, .ref a2] [(h0, .inr (3, [.null, .null, .null, .null, .null, .null]))] (fun q => [(h0, .inr (3, [.ref (q 0), .ref (q 1), .ref (q 2), .ref (q 3), .ref a1, .ref a2])), ((q 0), .inl (cA, 8192, .inl (fun _ => 0))), ((q 1), .inl (cA, 160, .inl (fun _ => 0))), ((q 2), .inl (cA, 1024, .inl (fun _ => 0))), ((q 3), .inl (cA, 128, .inl (fun _ => 0)))]) 4 9504 := by
  intro sz
  refine Met.ofW (cc := b_Y_init) (maxL := 3) (ret := none) (by decide) rfl ?_
  intro p e s m args below meth c s₁ B hml hv
  obtain ⟨rfl, hsz, hP, hK, hD0⟩ := hv
  have hr := B.returns
  have hlocks := B.notSynchronized
  have hin : meth.name = "<init>" := (name_of_methodNamed B.named B.method).1
  have hts : ∀ w ∈ WA, w.before _ s = true := fun w h => atoms_spec (ws := ws_Y_init) B.pre w (List.mem_cons_of_mem _ h)
  have S : CallFix p m c b_Y_init 3 s _ WA "TileConsole$Memory" := ⟨B.exec, B.bytes, hml, findClass_of_methodNamed B.named, hts⟩
  subst hsz
  have hD := hD0.self (sz := s.heap.size)
  generalize hAe : va_A [(h0, .inr (3, [.null, .null, .null, .null, .null, .null]))] s.heap.size = A at hD ⊢
  have hA : ∀ q : Nat, s.heap.size ≤ q → A q := fun q h => by rw [← hAe]; exact Or.inr h
  have hS : va_S A s.heap s.heap [] := va_S.rf
  have hl := lv_entry [.ref h0, .ref a1, .ref a2] (n := 3) (Nat.le_of_ble_eq_true rfl)
  rw [lg_entry_eq]
  generalize (lg_sl [.ref h0, .ref a1, .ref a2] ++ List.replicate (3 - (lg_sl [.ref h0, .ref a1, .ref a2]).length) Slot.unset).toArray = ls at hl ⊢
  have hl : lv_has ls 3 [(0, .ref h0), (1, .ref a1), (2, .ref a2)] := hl
  have hx := S.1
  have hb := S.2.1
  have hown := S.2.2.2.1
  refine lv_aload_n hx hb d_Y_init_0 rfl (lv_at hl 0 rfl) ?_
  refine ob_init S k_8 k_1 k_2 hl.1 d_Y_init_1 (Nat.le_of_ble_eq_true rfl) ⟨Nat.le_of_ble_eq_true rfl, Nat.le_of_ble_eq_true rfl⟩ ?_
  refine lv_aload_n hx hb d_Y_init_4 rfl (lv_at hl 0 rfl) ?_
  refine lv_sipush hx hb d_Y_init_5 rfl ?_
  refine nw_i (N := 8192) S k_3 hK hP hD hS hA (by decide) (by decide) (Nat.le_of_ble_eq_true rfl) (Nat.le_of_ble_eq_true rfl) (Nat.le_of_ble_eq_true rfl) d_Y_init_8 fun q8 H hP hD hS => ?_
  have hP : va_P D vcl [(h0, .inr (3, [.null, .null, .null, .null, .null, .null])), (q8, .inl (cA, 8192, .inl (fun _ => 0)))] H := hP
  have hD : va_D A [(h0, .inr (3, [.null, .null, .null, .null, .null, .null])), (q8, .inl (cA, 8192, .inl (fun _ => 0)))] := hD
  refine W.widen (k := 1) (n := 8192) (by omega) (by omega) ?_
  refine va_putF (D := D) (ci := 3) (v := .ref q8) (ty := .array .int) (C := R_Y) (T := F_Y) (N := 6) hx hb hts i_Y ty_Y ty_Y_ok n_Y hown hK hP hD hS 0 rfl rfl 0 (by decide) (hts _ k_9) (fun _ h9 => h9) rfl hin rfl (by decide +kernel) rfl rfl (Nat.le_of_ble_eq_true rfl) d_Y_init_10 (fun H locs hP hD hS => ?_)
  have hP : va_P D vcl [(h0, .inr (3, [.ref q8, .null, .null, .null, .null, .null])), (q8, .inl (cA, 8192, .inl (fun _ => 0)))] H := hP
  have hD : va_D A [(h0, .inr (3, [.ref q8, .null, .null, .null, .null, .null])), (q8, .inl (cA, 8192, .inl (fun _ => 0)))] := hD
  refine lv_aload_n hx hb d_Y_init_13 rfl (lv_at hl 0 rfl) ?_
  refine lv_sipush hx hb d_Y_init_14 rfl ?_
  refine nw_i (N := 160) S k_3 hK hP hD hS hA (by decide) (by decide) (Nat.le_of_ble_eq_true rfl) (Nat.le_of_ble_eq_true rfl) (Nat.le_of_ble_eq_true rfl) d_Y_init_17 fun q17 H hP hD hS => ?_
  have hP : va_P D vcl [(h0, .inr (3, [.ref q8, .null, .null, .null, .null, .null])), (q8, .inl (cA, 8192, .inl (fun _ => 0))), (q17, .inl (cA, 160, .inl (fun _ => 0)))] H := hP
  have hD : va_D A [(h0, .inr (3, [.ref q8, .null, .null, .null, .null, .null])), (q8, .inl (cA, 8192, .inl (fun _ => 0))), (q17, .inl (cA, 160, .inl (fun _ => 0)))] := hD
  refine W.widen (k := 2) (n := 8352) (by omega) (by omega) ?_
  refine va_putF (D := D) (ci := 3) (v := .ref q17) (ty := .array .int) (C := R_Y) (T := F_Y) (N := 6) hx hb hts i_Y ty_Y ty_Y_ok n_Y hown hK hP hD hS 0 rfl rfl 1 (by decide) (hts _ k_10) (fun _ h9 => h9) rfl hin rfl (by decide +kernel) rfl rfl (Nat.le_of_ble_eq_true rfl) d_Y_init_19 (fun H locs hP hD hS => ?_)
  have hP : va_P D vcl [(h0, .inr (3, [.ref q8, .ref q17, .null, .null, .null, .null])), (q8, .inl (cA, 8192, .inl (fun _ => 0))), (q17, .inl (cA, 160, .inl (fun _ => 0)))] H := hP
  have hD : va_D A [(h0, .inr (3, [.ref q8, .ref q17, .null, .null, .null, .null])), (q8, .inl (cA, 8192, .inl (fun _ => 0))), (q17, .inl (cA, 160, .inl (fun _ => 0)))] := hD
  refine lv_aload_n hx hb d_Y_init_22 rfl (lv_at hl 0 rfl) ?_
  refine lv_sipush hx hb d_Y_init_23 rfl ?_
  refine nw_i (N := 1024) S k_3 hK hP hD hS hA (by decide) (by decide) (Nat.le_of_ble_eq_true rfl) (Nat.le_of_ble_eq_true rfl) (Nat.le_of_ble_eq_true rfl) d_Y_init_26 fun q26 H hP hD hS => ?_
  have hP : va_P D vcl [(h0, .inr (3, [.ref q8, .ref q17, .null, .null, .null, .null])), (q8, .inl (cA, 8192, .inl (fun _ => 0))), (q17, .inl (cA, 160, .inl (fun _ => 0))), (q26, .inl (cA, 1024, .inl (fun _ => 0)))] H := hP
  have hD : va_D A [(h0, .inr (3, [.ref q8, .ref q17, .null, .null, .null, .null])), (q8, .inl (cA, 8192, .inl (fun _ => 0))), (q17, .inl (cA, 160, .inl (fun _ => 0))), (q26, .inl (cA, 1024, .inl (fun _ => 0)))] := hD
  refine W.widen (k := 3) (n := 9376) (by omega) (by omega) ?_
  refine va_putF (D := D) (ci := 3) (v := .ref q26) (ty := .array .int) (C := R_Y) (T := F_Y) (N := 6) hx hb hts i_Y ty_Y ty_Y_ok n_Y hown hK hP hD hS 0 rfl rfl 2 (by decide) (hts _ k_11) (fun _ h9 => h9) rfl hin rfl (by decide +kernel) rfl rfl (Nat.le_of_ble_eq_true rfl) d_Y_init_28 (fun H locs hP hD hS => ?_)
  have hP : va_P D vcl [(h0, .inr (3, [.ref q8, .ref q17, .ref q26, .null, .null, .null])), (q8, .inl (cA, 8192, .inl (fun _ => 0))), (q17, .inl (cA, 160, .inl (fun _ => 0))), (q26, .inl (cA, 1024, .inl (fun _ => 0)))] H := hP
  have hD : va_D A [(h0, .inr (3, [.ref q8, .ref q17, .ref q26, .null, .null, .null])), (q8, .inl (cA, 8192, .inl (fun _ => 0))), (q17, .inl (cA, 160, .inl (fun _ => 0))), (q26, .inl (cA, 1024, .inl (fun _ => 0)))] := hD
  refine lv_aload_n hx hb d_Y_init_31 rfl (lv_at hl 0 rfl) ?_
  refine lv_sipush hx hb d_Y_init_32 rfl ?_
  refine nw_i (N := 128) S k_3 hK hP hD hS hA (by decide) (by decide) (Nat.le_of_ble_eq_true rfl) (Nat.le_of_ble_eq_true rfl) (Nat.le_of_ble_eq_true rfl) d_Y_init_35 fun q35 H hP hD hS => ?_
  have hP : va_P D vcl [(h0, .inr (3, [.ref q8, .ref q17, .ref q26, .null, .null, .null])), (q8, .inl (cA, 8192, .inl (fun _ => 0))), (q17, .inl (cA, 160, .inl (fun _ => 0))), (q26, .inl (cA, 1024, .inl (fun _ => 0))), (q35, .inl (cA, 128, .inl (fun _ => 0)))] H := hP
  have hD : va_D A [(h0, .inr (3, [.ref q8, .ref q17, .ref q26, .null, .null, .null])), (q8, .inl (cA, 8192, .inl (fun _ => 0))), (q17, .inl (cA, 160, .inl (fun _ => 0))), (q26, .inl (cA, 1024, .inl (fun _ => 0))), (q35, .inl (cA, 128, .inl (fun _ => 0)))] := hD
  refine W.widen (k := 4) (n := 9504) (by omega) (by omega) ?_
  refine va_putF (D := D) (ci := 3) (v := .ref q35) (ty := .array .int) (C := R_Y) (T := F_Y) (N := 6) hx hb hts i_Y ty_Y ty_Y_ok n_Y hown hK hP hD hS 0 rfl rfl 3 (by decide) (hts _ k_12) (fun _ h9 => h9) rfl hin rfl (by decide +kernel) rfl rfl (Nat.le_of_ble_eq_true rfl) d_Y_init_37 (fun H locs hP hD hS => ?_)
  have hP : va_P D vcl [(h0, .inr (3, [.ref q8, .ref q17, .ref q26, .ref q35, .null, .null])), (q8, .inl (cA, 8192, .inl (fun _ => 0))), (q17, .inl (cA, 160, .inl (fun _ => 0))), (q26, .inl (cA, 1024, .inl (fun _ => 0))), (q35, .inl (cA, 128, .inl (fun _ => 0)))] H := hP
  have hD : va_D A [(h0, .inr (3, [.ref q8, .ref q17, .ref q26, .ref q35, .null, .null])), (q8, .inl (cA, 8192, .inl (fun _ => 0))), (q17, .inl (cA, 160, .inl (fun _ => 0))), (q26, .inl (cA, 1024, .inl (fun _ => 0))), (q35, .inl (cA, 128, .inl (fun _ => 0)))] := hD
  refine lv_aload_n hx hb d_Y_init_40 rfl (lv_at hl 0 rfl) ?_
  refine lv_aload_n hx hb d_Y_init_41 rfl (lv_at hl 1 rfl) ?_
  refine va_putF (D := D) (ci := 3) (v := .ref a1) (ty := .object "TileConsole$Cartridge") (C := R_Y) (T := F_Y) (N := 6) hx hb hts i_Y ty_Y ty_Y_ok n_Y hown hK hP hD hS 0 rfl rfl 4 (by decide) (hts _ k_13) (fun _ h9 => h9) rfl hin rfl (by decide +kernel) rfl rfl (Nat.le_of_ble_eq_true rfl) d_Y_init_42 (fun H locs hP hD hS => ?_)
  have hP : va_P D vcl [(h0, .inr (3, [.ref q8, .ref q17, .ref q26, .ref q35, .ref a1, .null])), (q8, .inl (cA, 8192, .inl (fun _ => 0))), (q17, .inl (cA, 160, .inl (fun _ => 0))), (q26, .inl (cA, 1024, .inl (fun _ => 0))), (q35, .inl (cA, 128, .inl (fun _ => 0)))] H := hP
  have hD : va_D A [(h0, .inr (3, [.ref q8, .ref q17, .ref q26, .ref q35, .ref a1, .null])), (q8, .inl (cA, 8192, .inl (fun _ => 0))), (q17, .inl (cA, 160, .inl (fun _ => 0))), (q26, .inl (cA, 1024, .inl (fun _ => 0))), (q35, .inl (cA, 128, .inl (fun _ => 0)))] := hD
  refine lv_aload_n hx hb d_Y_init_45 rfl (lv_at hl 0 rfl) ?_
  refine lv_aload_n hx hb d_Y_init_46 rfl (lv_at hl 2 rfl) ?_
  refine va_putF (D := D) (ci := 3) (v := .ref a2) (ty := .object "TileConsole$Ports") (C := R_Y) (T := F_Y) (N := 6) hx hb hts i_Y ty_Y ty_Y_ok n_Y hown hK hP hD hS 0 rfl rfl 5 (by decide) (hts _ k_14) (fun _ h9 => h9) rfl hin rfl (by decide +kernel) rfl rfl (Nat.le_of_ble_eq_true rfl) d_Y_init_47 (fun H locs hP hD hS => ?_)
  have hP : va_P D vcl [(h0, .inr (3, [.ref q8, .ref q17, .ref q26, .ref q35, .ref a1, .ref a2])), (q8, .inl (cA, 8192, .inl (fun _ => 0))), (q17, .inl (cA, 160, .inl (fun _ => 0))), (q26, .inl (cA, 1024, .inl (fun _ => 0))), (q35, .inl (cA, 128, .inl (fun _ => 0)))] H := hP
  have hD : va_D A [(h0, .inr (3, [.ref q8, .ref q17, .ref q26, .ref q35, .ref a1, .ref a2])), (q8, .inl (cA, 8192, .inl (fun _ => 0))), (q17, .inl (cA, 160, .inl (fun _ => 0))), (q26, .inl (cA, 1024, .inl (fun _ => 0))), (q35, .inl (cA, 128, .inl (fun _ => 0)))] := hD
  exact W.vret hx hb hr (fun t ht hW => ⟨fun i => [q8, q17, q26, q35].getD i 0, rfl, by rw [ht]; exact hP, hD, hS.F ht⟩) hS.2.2 d_Y_init_50
abbrev b_S_init : ByteArray := prog_6_method_1_code
def y_S_init : MethodName := ⟨"TileConsole$Screen", "<init>", "([I[I[I)V"⟩
def ws_S_init : List Cond := .code y_S_init b_S_init 4 none :: WA
theorem d_S_init_0 : decode b_S_init 0 = .ok (.aload_n 0, 1) := by decide +kernel
theorem d_S_init_1 : decode b_S_init 1 = .ok (.invokespecial 1, 3) := by decide +kernel
theorem d_S_init_4 : decode b_S_init 4 = .ok (.aload_n 0, 1) := by decide +kernel
theorem d_S_init_5 : decode b_S_init 5 = .ok (.sipush 160, 3) := by decide +kernel
theorem d_S_init_8 : decode b_S_init 8 = .ok (.newarray .int, 2) := by decide +kernel
theorem d_S_init_10 : decode b_S_init 10 = .ok (.putfield 9, 3) := by decide +kernel
theorem d_S_init_13 : decode b_S_init 13 = .ok (.aload_n 0, 1) := by decide +kernel
theorem d_S_init_14 : decode b_S_init 14 = .ok (.sipush 160, 3) := by decide +kernel
theorem d_S_init_17 : decode b_S_init 17 = .ok (.newarray .int, 2) := by decide +kernel
theorem d_S_init_19 : decode b_S_init 19 = .ok (.putfield 13, 3) := by decide +kernel
theorem d_S_init_22 : decode b_S_init 22 = .ok (.aload_n 0, 1) := by decide +kernel
theorem d_S_init_23 : decode b_S_init 23 = .ok (.sipush 160, 3) := by decide +kernel
theorem d_S_init_26 : decode b_S_init 26 = .ok (.newarray .int, 2) := by decide +kernel
theorem d_S_init_28 : decode b_S_init 28 = .ok (.putfield 16, 3) := by decide +kernel
theorem d_S_init_31 : decode b_S_init 31 = .ok (.aload_n 0, 1) := by decide +kernel
theorem d_S_init_32 : decode b_S_init 32 = .ok (.sipush 160, 3) := by decide +kernel
theorem d_S_init_35 : decode b_S_init 35 = .ok (.newarray .int, 2) := by decide +kernel
theorem d_S_init_37 : decode b_S_init 37 = .ok (.putfield 19, 3) := by decide +kernel
theorem d_S_init_40 : decode b_S_init 40 = .ok (.aload_n 0, 1) := by decide +kernel
theorem d_S_init_41 : decode b_S_init 41 = .ok (.aload_n 1, 1) := by decide +kernel
theorem d_S_init_42 : decode b_S_init 42 = .ok (.putfield 22, 3) := by decide +kernel
theorem d_S_init_45 : decode b_S_init 45 = .ok (.aload_n 0, 1) := by decide +kernel
theorem d_S_init_46 : decode b_S_init 46 = .ok (.aload_n 2, 1) := by decide +kernel
theorem d_S_init_47 : decode b_S_init 47 = .ok (.putfield 25, 3) := by decide +kernel
theorem d_S_init_50 : decode b_S_init 50 = .ok (.aload_n 0, 1) := by decide +kernel
theorem d_S_init_51 : decode b_S_init 51 = .ok (.aload_n 3, 1) := by decide +kernel
theorem d_S_init_52 : decode b_S_init 52 = .ok (.putfield 28, 3) := by decide +kernel
theorem d_S_init_55 : decode b_S_init 55 = .ok (.return_, 1) := by decide +kernel
set_option maxRecDepth 100000 in
theorem kc_S_init : Cond.code y_S_init b_S_init 4 none ∈ WA := WAm 236 rfl (by decide +kernel)
set_option maxRecDepth 100000 in
theorem ki_S_init : Cond.instanceMethod y_S_init ∈ WA := WAm 235 (by decide +kernel) (by decide +kernel)
def rm_S_init : Room := { frames := 1, cells := 4, slots := 640, locals := 20 }
theorem in_S {l : Launch} {D : va_G} {cA : ClassId} (h0 : Nat) (a1 : Nat) (a2 : Nat) (a3 : Nat) : Ini l y_S_init ws_S_init rm_S_init D cA [.ref h0, .ref a1, .ref a2, .ref a3] [(h0, .inr (4, [.null, .null, .null, .null, .null, .null, .null]))] (fun q => [(h0, .inr (4, [.ref (q 0), .ref a1, .ref a2, .ref a3, .ref (q 1), .ref (q 2), .ref (q 3)])), ((q 0), .inl (cA, 160, .inl (fun _ => 0))), ((q 1), .inl (cA, 160, .inl (fun _ => 0))), ((q 2), .inl (cA, 160, .inl (fun _ => 0))), ((q 3), .inl (cA, 160, .inl (fun _ => 0)))]) 4 640 := by
  intro sz
  refine Met.ofW (cc := b_S_init) (maxL := 4) (ret := none) (by decide) rfl ?_
  intro p e s m args below meth c s₁ B hml hv
  obtain ⟨rfl, hsz, hP, hK, hD0⟩ := hv
  have hr := B.returns
  have hlocks := B.notSynchronized
  have hin : meth.name = "<init>" := (name_of_methodNamed B.named B.method).1
  have hts : ∀ w ∈ WA, w.before _ s = true := fun w h => atoms_spec (ws := ws_S_init) B.pre w (List.mem_cons_of_mem _ h)
  have S : CallFix p m c b_S_init 4 s _ WA "TileConsole$Screen" := ⟨B.exec, B.bytes, hml, findClass_of_methodNamed B.named, hts⟩
  subst hsz
  have hD := hD0.self (sz := s.heap.size)
  generalize hAe : va_A [(h0, .inr (4, [.null, .null, .null, .null, .null, .null, .null]))] s.heap.size = A at hD ⊢
  have hA : ∀ q : Nat, s.heap.size ≤ q → A q := fun q h => by rw [← hAe]; exact Or.inr h
  have hS : va_S A s.heap s.heap [] := va_S.rf
  have hl := lv_entry [.ref h0, .ref a1, .ref a2, .ref a3] (n := 4) (Nat.le_of_ble_eq_true rfl)
  rw [lg_entry_eq]
  generalize (lg_sl [.ref h0, .ref a1, .ref a2, .ref a3] ++ List.replicate (4 - (lg_sl [.ref h0, .ref a1, .ref a2, .ref a3]).length) Slot.unset).toArray = ls at hl ⊢
  have hl : lv_has ls 4 [(0, .ref h0), (1, .ref a1), (2, .ref a2), (3, .ref a3)] := hl
  have hx := S.1
  have hb := S.2.1
  have hown := S.2.2.2.1
  refine lv_aload_n hx hb d_S_init_0 rfl (lv_at hl 0 rfl) ?_
  refine ob_init S k_15 k_1 k_2 hl.1 d_S_init_1 (Nat.le_of_ble_eq_true rfl) ⟨Nat.le_of_ble_eq_true rfl, Nat.le_of_ble_eq_true rfl⟩ ?_
  refine lv_aload_n hx hb d_S_init_4 rfl (lv_at hl 0 rfl) ?_
  refine lv_sipush hx hb d_S_init_5 rfl ?_
  refine nw_i (N := 160) S k_3 hK hP hD hS hA (by decide) (by decide) (Nat.le_of_ble_eq_true rfl) (Nat.le_of_ble_eq_true rfl) (Nat.le_of_ble_eq_true rfl) d_S_init_8 fun q8 H hP hD hS => ?_
  have hP : va_P D vcl [(h0, .inr (4, [.null, .null, .null, .null, .null, .null, .null])), (q8, .inl (cA, 160, .inl (fun _ => 0)))] H := hP
  have hD : va_D A [(h0, .inr (4, [.null, .null, .null, .null, .null, .null, .null])), (q8, .inl (cA, 160, .inl (fun _ => 0)))] := hD
  refine W.widen (k := 1) (n := 160) (by omega) (by omega) ?_
  refine va_putF (D := D) (ci := 4) (v := .ref q8) (ty := .array .int) (C := R_S) (T := F_S) (N := 7) hx hb hts i_S ty_S ty_S_ok n_S hown hK hP hD hS 0 rfl rfl 0 (by decide) (hts _ k_16) (fun _ h9 => h9) rfl hin rfl (by decide +kernel) rfl rfl (Nat.le_of_ble_eq_true rfl) d_S_init_10 (fun H locs hP hD hS => ?_)
  have hP : va_P D vcl [(h0, .inr (4, [.ref q8, .null, .null, .null, .null, .null, .null])), (q8, .inl (cA, 160, .inl (fun _ => 0)))] H := hP
  have hD : va_D A [(h0, .inr (4, [.ref q8, .null, .null, .null, .null, .null, .null])), (q8, .inl (cA, 160, .inl (fun _ => 0)))] := hD
  refine lv_aload_n hx hb d_S_init_13 rfl (lv_at hl 0 rfl) ?_
  refine lv_sipush hx hb d_S_init_14 rfl ?_
  refine nw_i (N := 160) S k_3 hK hP hD hS hA (by decide) (by decide) (Nat.le_of_ble_eq_true rfl) (Nat.le_of_ble_eq_true rfl) (Nat.le_of_ble_eq_true rfl) d_S_init_17 fun q17 H hP hD hS => ?_
  have hP : va_P D vcl [(h0, .inr (4, [.ref q8, .null, .null, .null, .null, .null, .null])), (q8, .inl (cA, 160, .inl (fun _ => 0))), (q17, .inl (cA, 160, .inl (fun _ => 0)))] H := hP
  have hD : va_D A [(h0, .inr (4, [.ref q8, .null, .null, .null, .null, .null, .null])), (q8, .inl (cA, 160, .inl (fun _ => 0))), (q17, .inl (cA, 160, .inl (fun _ => 0)))] := hD
  refine W.widen (k := 2) (n := 320) (by omega) (by omega) ?_
  refine va_putF (D := D) (ci := 4) (v := .ref q17) (ty := .array .int) (C := R_S) (T := F_S) (N := 7) hx hb hts i_S ty_S ty_S_ok n_S hown hK hP hD hS 0 rfl rfl 4 (by decide) (hts _ k_17) (fun _ h9 => h9) rfl hin rfl (by decide +kernel) rfl rfl (Nat.le_of_ble_eq_true rfl) d_S_init_19 (fun H locs hP hD hS => ?_)
  have hP : va_P D vcl [(h0, .inr (4, [.ref q8, .null, .null, .null, .ref q17, .null, .null])), (q8, .inl (cA, 160, .inl (fun _ => 0))), (q17, .inl (cA, 160, .inl (fun _ => 0)))] H := hP
  have hD : va_D A [(h0, .inr (4, [.ref q8, .null, .null, .null, .ref q17, .null, .null])), (q8, .inl (cA, 160, .inl (fun _ => 0))), (q17, .inl (cA, 160, .inl (fun _ => 0)))] := hD
  refine lv_aload_n hx hb d_S_init_22 rfl (lv_at hl 0 rfl) ?_
  refine lv_sipush hx hb d_S_init_23 rfl ?_
  refine nw_i (N := 160) S k_3 hK hP hD hS hA (by decide) (by decide) (Nat.le_of_ble_eq_true rfl) (Nat.le_of_ble_eq_true rfl) (Nat.le_of_ble_eq_true rfl) d_S_init_26 fun q26 H hP hD hS => ?_
  have hP : va_P D vcl [(h0, .inr (4, [.ref q8, .null, .null, .null, .ref q17, .null, .null])), (q8, .inl (cA, 160, .inl (fun _ => 0))), (q17, .inl (cA, 160, .inl (fun _ => 0))), (q26, .inl (cA, 160, .inl (fun _ => 0)))] H := hP
  have hD : va_D A [(h0, .inr (4, [.ref q8, .null, .null, .null, .ref q17, .null, .null])), (q8, .inl (cA, 160, .inl (fun _ => 0))), (q17, .inl (cA, 160, .inl (fun _ => 0))), (q26, .inl (cA, 160, .inl (fun _ => 0)))] := hD
  refine W.widen (k := 3) (n := 480) (by omega) (by omega) ?_
  refine va_putF (D := D) (ci := 4) (v := .ref q26) (ty := .array .int) (C := R_S) (T := F_S) (N := 7) hx hb hts i_S ty_S ty_S_ok n_S hown hK hP hD hS 0 rfl rfl 5 (by decide) (hts _ k_18) (fun _ h9 => h9) rfl hin rfl (by decide +kernel) rfl rfl (Nat.le_of_ble_eq_true rfl) d_S_init_28 (fun H locs hP hD hS => ?_)
  have hP : va_P D vcl [(h0, .inr (4, [.ref q8, .null, .null, .null, .ref q17, .ref q26, .null])), (q8, .inl (cA, 160, .inl (fun _ => 0))), (q17, .inl (cA, 160, .inl (fun _ => 0))), (q26, .inl (cA, 160, .inl (fun _ => 0)))] H := hP
  have hD : va_D A [(h0, .inr (4, [.ref q8, .null, .null, .null, .ref q17, .ref q26, .null])), (q8, .inl (cA, 160, .inl (fun _ => 0))), (q17, .inl (cA, 160, .inl (fun _ => 0))), (q26, .inl (cA, 160, .inl (fun _ => 0)))] := hD
  refine lv_aload_n hx hb d_S_init_31 rfl (lv_at hl 0 rfl) ?_
  refine lv_sipush hx hb d_S_init_32 rfl ?_
  refine nw_i (N := 160) S k_3 hK hP hD hS hA (by decide) (by decide) (Nat.le_of_ble_eq_true rfl) (Nat.le_of_ble_eq_true rfl) (Nat.le_of_ble_eq_true rfl) d_S_init_35 fun q35 H hP hD hS => ?_
  have hP : va_P D vcl [(h0, .inr (4, [.ref q8, .null, .null, .null, .ref q17, .ref q26, .null])), (q8, .inl (cA, 160, .inl (fun _ => 0))), (q17, .inl (cA, 160, .inl (fun _ => 0))), (q26, .inl (cA, 160, .inl (fun _ => 0))), (q35, .inl (cA, 160, .inl (fun _ => 0)))] H := hP
  have hD : va_D A [(h0, .inr (4, [.ref q8, .null, .null, .null, .ref q17, .ref q26, .null])), (q8, .inl (cA, 160, .inl (fun _ => 0))), (q17, .inl (cA, 160, .inl (fun _ => 0))), (q26, .inl (cA, 160, .inl (fun _ => 0))), (q35, .inl (cA, 160, .inl (fun _ => 0)))] := hD
  refine W.widen (k := 4) (n := 640) (by omega) (by omega) ?_
  refine va_putF (D := D) (ci := 4) (v := .ref q35) (ty := .array .int) (C := R_S) (T := F_S) (N := 7) hx hb hts i_S ty_S ty_S_ok n_S hown hK hP hD hS 0 rfl rfl 6 (by decide) (hts _ k_19) (fun _ h9 => h9) rfl hin rfl (by decide +kernel) rfl rfl (Nat.le_of_ble_eq_true rfl) d_S_init_37 (fun H locs hP hD hS => ?_)
  have hP : va_P D vcl [(h0, .inr (4, [.ref q8, .null, .null, .null, .ref q17, .ref q26, .ref q35])), (q8, .inl (cA, 160, .inl (fun _ => 0))), (q17, .inl (cA, 160, .inl (fun _ => 0))), (q26, .inl (cA, 160, .inl (fun _ => 0))), (q35, .inl (cA, 160, .inl (fun _ => 0)))] H := hP
  have hD : va_D A [(h0, .inr (4, [.ref q8, .null, .null, .null, .ref q17, .ref q26, .ref q35])), (q8, .inl (cA, 160, .inl (fun _ => 0))), (q17, .inl (cA, 160, .inl (fun _ => 0))), (q26, .inl (cA, 160, .inl (fun _ => 0))), (q35, .inl (cA, 160, .inl (fun _ => 0)))] := hD
  refine lv_aload_n hx hb d_S_init_40 rfl (lv_at hl 0 rfl) ?_
  refine lv_aload_n hx hb d_S_init_41 rfl (lv_at hl 1 rfl) ?_
  refine va_putF (D := D) (ci := 4) (v := .ref a1) (ty := .array .int) (C := R_S) (T := F_S) (N := 7) hx hb hts i_S ty_S ty_S_ok n_S hown hK hP hD hS 0 rfl rfl 1 (by decide) (hts _ k_20) (fun _ h9 => h9) rfl hin rfl (by decide +kernel) rfl rfl (Nat.le_of_ble_eq_true rfl) d_S_init_42 (fun H locs hP hD hS => ?_)
  have hP : va_P D vcl [(h0, .inr (4, [.ref q8, .ref a1, .null, .null, .ref q17, .ref q26, .ref q35])), (q8, .inl (cA, 160, .inl (fun _ => 0))), (q17, .inl (cA, 160, .inl (fun _ => 0))), (q26, .inl (cA, 160, .inl (fun _ => 0))), (q35, .inl (cA, 160, .inl (fun _ => 0)))] H := hP
  have hD : va_D A [(h0, .inr (4, [.ref q8, .ref a1, .null, .null, .ref q17, .ref q26, .ref q35])), (q8, .inl (cA, 160, .inl (fun _ => 0))), (q17, .inl (cA, 160, .inl (fun _ => 0))), (q26, .inl (cA, 160, .inl (fun _ => 0))), (q35, .inl (cA, 160, .inl (fun _ => 0)))] := hD
  refine lv_aload_n hx hb d_S_init_45 rfl (lv_at hl 0 rfl) ?_
  refine lv_aload_n hx hb d_S_init_46 rfl (lv_at hl 2 rfl) ?_
  refine va_putF (D := D) (ci := 4) (v := .ref a2) (ty := .array .int) (C := R_S) (T := F_S) (N := 7) hx hb hts i_S ty_S ty_S_ok n_S hown hK hP hD hS 0 rfl rfl 2 (by decide) (hts _ k_21) (fun _ h9 => h9) rfl hin rfl (by decide +kernel) rfl rfl (Nat.le_of_ble_eq_true rfl) d_S_init_47 (fun H locs hP hD hS => ?_)
  have hP : va_P D vcl [(h0, .inr (4, [.ref q8, .ref a1, .ref a2, .null, .ref q17, .ref q26, .ref q35])), (q8, .inl (cA, 160, .inl (fun _ => 0))), (q17, .inl (cA, 160, .inl (fun _ => 0))), (q26, .inl (cA, 160, .inl (fun _ => 0))), (q35, .inl (cA, 160, .inl (fun _ => 0)))] H := hP
  have hD : va_D A [(h0, .inr (4, [.ref q8, .ref a1, .ref a2, .null, .ref q17, .ref q26, .ref q35])), (q8, .inl (cA, 160, .inl (fun _ => 0))), (q17, .inl (cA, 160, .inl (fun _ => 0))), (q26, .inl (cA, 160, .inl (fun _ => 0))), (q35, .inl (cA, 160, .inl (fun _ => 0)))] := hD
  refine lv_aload_n hx hb d_S_init_50 rfl (lv_at hl 0 rfl) ?_
  refine lv_aload_n hx hb d_S_init_51 rfl (lv_at hl 3 rfl) ?_
  refine va_putF (D := D) (ci := 4) (v := .ref a3) (ty := .array .int) (C := R_S) (T := F_S) (N := 7) hx hb hts i_S ty_S ty_S_ok n_S hown hK hP hD hS 0 rfl rfl 3 (by decide) (hts _ k_22) (fun _ h9 => h9) rfl hin rfl (by decide +kernel) rfl rfl (Nat.le_of_ble_eq_true rfl) d_S_init_52 (fun H locs hP hD hS => ?_)
  have hP : va_P D vcl [(h0, .inr (4, [.ref q8, .ref a1, .ref a2, .ref a3, .ref q17, .ref q26, .ref q35])), (q8, .inl (cA, 160, .inl (fun _ => 0))), (q17, .inl (cA, 160, .inl (fun _ => 0))), (q26, .inl (cA, 160, .inl (fun _ => 0))), (q35, .inl (cA, 160, .inl (fun _ => 0)))] H := hP
  have hD : va_D A [(h0, .inr (4, [.ref q8, .ref a1, .ref a2, .ref a3, .ref q17, .ref q26, .ref q35])), (q8, .inl (cA, 160, .inl (fun _ => 0))), (q17, .inl (cA, 160, .inl (fun _ => 0))), (q26, .inl (cA, 160, .inl (fun _ => 0))), (q35, .inl (cA, 160, .inl (fun _ => 0)))] := hD
  exact W.vret hx hb hr (fun t ht hW => ⟨fun i => [q8, q17, q26, q35].getD i 0, rfl, by rw [ht]; exact hP, hD, hS.F ht⟩) hS.2.2 d_S_init_55
abbrev b_Q_init : ByteArray := prog_5_method_1_code
def y_Q_init : MethodName := ⟨"TileConsole$Processor", "<init>", "(LTileConsole$Memory;LTileConsole$Ports;)V"⟩
def ws_Q_init : List Cond := .code y_Q_init b_Q_init 3 none :: WA
theorem d_Q_init_0 : decode b_Q_init 0 = .ok (.aload_n 0, 1) := by decide +kernel
theorem d_Q_init_1 : decode b_Q_init 1 = .ok (.invokespecial 1, 3) := by decide +kernel
theorem d_Q_init_4 : decode b_Q_init 4 = .ok (.aload_n 0, 1) := by decide +kernel
theorem d_Q_init_5 : decode b_Q_init 5 = .ok (.bipush 8, 2) := by decide +kernel
theorem d_Q_init_7 : decode b_Q_init 7 = .ok (.newarray .int, 2) := by decide +kernel
theorem d_Q_init_9 : decode b_Q_init 9 = .ok (.putfield 7, 3) := by decide +kernel
theorem d_Q_init_12 : decode b_Q_init 12 = .ok (.aload_n 0, 1) := by decide +kernel
theorem d_Q_init_13 : decode b_Q_init 13 = .ok (.aload_n 1, 1) := by decide +kernel
theorem d_Q_init_14 : decode b_Q_init 14 = .ok (.putfield 13, 3) := by decide +kernel
theorem d_Q_init_17 : decode b_Q_init 17 = .ok (.aload_n 0, 1) := by decide +kernel
theorem d_Q_init_18 : decode b_Q_init 18 = .ok (.aload_n 2, 1) := by decide +kernel
theorem d_Q_init_19 : decode b_Q_init 19 = .ok (.putfield 17, 3) := by decide +kernel
theorem d_Q_init_22 : decode b_Q_init 22 = .ok (.return_, 1) := by decide +kernel
set_option maxRecDepth 100000 in
theorem kc_Q_init : Cond.code y_Q_init b_Q_init 3 none ∈ WA := WAm 265 rfl (by decide +kernel)
set_option maxRecDepth 100000 in
theorem ki_Q_init : Cond.instanceMethod y_Q_init ∈ WA := WAm 264 (by decide +kernel) (by decide +kernel)
def rm_Q_init : Room := { frames := 1, cells := 1, slots := 8, locals := 20 }
theorem in_Q {l : Launch} {D : va_G} {cA : ClassId} (h0 : Nat) (a1 : Nat) (a2 : Nat) : Ini l y_Q_init ws_Q_init rm_Q_init D cA [.ref h0, .ref a1, .ref a2] [(h0, .inr (5, [.int 0, .int 0, .int 0, .int 0, .int 0, .int 0, .null, .int 0, .int 0, .int 0, .int 0, .null, .null]))] (fun q => [(h0, .inr (5, [.int 0, .int 0, .int 0, .int 0, .int 0, .int 0, .ref (q 0), .int 0, .int 0, .int 0, .int 0, .ref a1, .ref a2])), ((q 0), .inl (cA, 8, .inl (fun _ => 0)))]) 1 8 := by
  intro sz
  refine Met.ofW (cc := b_Q_init) (maxL := 3) (ret := none) (by decide) rfl ?_
  intro p e s m args below meth c s₁ B hml hv
  obtain ⟨rfl, hsz, hP, hK, hD0⟩ := hv
  have hr := B.returns
  have hlocks := B.notSynchronized
  have hin : meth.name = "<init>" := (name_of_methodNamed B.named B.method).1
  have hts : ∀ w ∈ WA, w.before _ s = true := fun w h => atoms_spec (ws := ws_Q_init) B.pre w (List.mem_cons_of_mem _ h)
  have S : CallFix p m c b_Q_init 3 s _ WA "TileConsole$Processor" := ⟨B.exec, B.bytes, hml, findClass_of_methodNamed B.named, hts⟩
  subst hsz
  have hD := hD0.self (sz := s.heap.size)
  generalize hAe : va_A [(h0, .inr (5, [.int 0, .int 0, .int 0, .int 0, .int 0, .int 0, .null, .int 0, .int 0, .int 0, .int 0, .null, .null]))] s.heap.size = A at hD ⊢
  have hA : ∀ q : Nat, s.heap.size ≤ q → A q := fun q h => by rw [← hAe]; exact Or.inr h
  have hS : va_S A s.heap s.heap [] := va_S.rf
  have hl := lv_entry [.ref h0, .ref a1, .ref a2] (n := 3) (Nat.le_of_ble_eq_true rfl)
  rw [lg_entry_eq]
  generalize (lg_sl [.ref h0, .ref a1, .ref a2] ++ List.replicate (3 - (lg_sl [.ref h0, .ref a1, .ref a2]).length) Slot.unset).toArray = ls at hl ⊢
  have hl : lv_has ls 3 [(0, .ref h0), (1, .ref a1), (2, .ref a2)] := hl
  have hx := S.1
  have hb := S.2.1
  have hown := S.2.2.2.1
  refine lv_aload_n hx hb d_Q_init_0 rfl (lv_at hl 0 rfl) ?_
  refine ob_init S k_23 k_1 k_2 hl.1 d_Q_init_1 (Nat.le_of_ble_eq_true rfl) ⟨Nat.le_of_ble_eq_true rfl, Nat.le_of_ble_eq_true rfl⟩ ?_
  refine lv_aload_n hx hb d_Q_init_4 rfl (lv_at hl 0 rfl) ?_
  refine lv_bipush hx hb d_Q_init_5 rfl ?_
  refine nw_i (N := 8) S k_3 hK hP hD hS hA (by decide) (by decide) (Nat.le_of_ble_eq_true rfl) (Nat.le_of_ble_eq_true rfl) (Nat.le_of_ble_eq_true rfl) d_Q_init_7 fun q7 H hP hD hS => ?_
  have hP : va_P D vcl [(h0, .inr (5, [.int 0, .int 0, .int 0, .int 0, .int 0, .int 0, .null, .int 0, .int 0, .int 0, .int 0, .null, .null])), (q7, .inl (cA, 8, .inl (fun _ => 0)))] H := hP
  have hD : va_D A [(h0, .inr (5, [.int 0, .int 0, .int 0, .int 0, .int 0, .int 0, .null, .int 0, .int 0, .int 0, .int 0, .null, .null])), (q7, .inl (cA, 8, .inl (fun _ => 0)))] := hD
  refine W.widen (k := 1) (n := 8) (by omega) (by omega) ?_
  refine va_putF (D := D) (ci := 5) (v := .ref q7) (ty := .array .int) (C := R_Q) (T := F_Q) (N := 13) hx hb hts i_Q ty_Q ty_Q_ok n_Q hown hK hP hD hS 0 rfl rfl 6 (by decide) (hts _ k_24) (fun _ h9 => h9) rfl hin rfl (by decide +kernel) rfl rfl (Nat.le_of_ble_eq_true rfl) d_Q_init_9 (fun H locs hP hD hS => ?_)
  have hP : va_P D vcl [(h0, .inr (5, [.int 0, .int 0, .int 0, .int 0, .int 0, .int 0, .ref q7, .int 0, .int 0, .int 0, .int 0, .null, .null])), (q7, .inl (cA, 8, .inl (fun _ => 0)))] H := hP
  have hD : va_D A [(h0, .inr (5, [.int 0, .int 0, .int 0, .int 0, .int 0, .int 0, .ref q7, .int 0, .int 0, .int 0, .int 0, .null, .null])), (q7, .inl (cA, 8, .inl (fun _ => 0)))] := hD
  refine lv_aload_n hx hb d_Q_init_12 rfl (lv_at hl 0 rfl) ?_
  refine lv_aload_n hx hb d_Q_init_13 rfl (lv_at hl 1 rfl) ?_
  refine va_putF (D := D) (ci := 5) (v := .ref a1) (ty := .object "TileConsole$Memory") (C := R_Q) (T := F_Q) (N := 13) hx hb hts i_Q ty_Q ty_Q_ok n_Q hown hK hP hD hS 0 rfl rfl 11 (by decide) (hts _ k_25) (fun _ h9 => h9) rfl hin rfl (by decide +kernel) rfl rfl (Nat.le_of_ble_eq_true rfl) d_Q_init_14 (fun H locs hP hD hS => ?_)
  have hP : va_P D vcl [(h0, .inr (5, [.int 0, .int 0, .int 0, .int 0, .int 0, .int 0, .ref q7, .int 0, .int 0, .int 0, .int 0, .ref a1, .null])), (q7, .inl (cA, 8, .inl (fun _ => 0)))] H := hP
  have hD : va_D A [(h0, .inr (5, [.int 0, .int 0, .int 0, .int 0, .int 0, .int 0, .ref q7, .int 0, .int 0, .int 0, .int 0, .ref a1, .null])), (q7, .inl (cA, 8, .inl (fun _ => 0)))] := hD
  refine lv_aload_n hx hb d_Q_init_17 rfl (lv_at hl 0 rfl) ?_
  refine lv_aload_n hx hb d_Q_init_18 rfl (lv_at hl 2 rfl) ?_
  refine va_putF (D := D) (ci := 5) (v := .ref a2) (ty := .object "TileConsole$Ports") (C := R_Q) (T := F_Q) (N := 13) hx hb hts i_Q ty_Q ty_Q_ok n_Q hown hK hP hD hS 0 rfl rfl 12 (by decide) (hts _ k_26) (fun _ h9 => h9) rfl hin rfl (by decide +kernel) rfl rfl (Nat.le_of_ble_eq_true rfl) d_Q_init_19 (fun H locs hP hD hS => ?_)
  have hP : va_P D vcl [(h0, .inr (5, [.int 0, .int 0, .int 0, .int 0, .int 0, .int 0, .ref q7, .int 0, .int 0, .int 0, .int 0, .ref a1, .ref a2])), (q7, .inl (cA, 8, .inl (fun _ => 0)))] H := hP
  have hD : va_D A [(h0, .inr (5, [.int 0, .int 0, .int 0, .int 0, .int 0, .int 0, .ref q7, .int 0, .int 0, .int 0, .int 0, .ref a1, .ref a2])), (q7, .inl (cA, 8, .inl (fun _ => 0)))] := hD
  exact W.vret hx hb hr (fun t ht hW => ⟨fun i => [q7].getD i 0, rfl, by rw [ht]; exact hP, hD, hS.F ht⟩) hS.2.2 d_Q_init_22
abbrev b_T_init : ByteArray := prog_1_method_1_code
def y_T_init : MethodName := ⟨"TileConsole", "<init>", "()V"⟩
def ws_T_init : List Cond := .code y_T_init b_T_init 1 none :: WA
theorem d_T_init_0 : decode b_T_init 0 = .ok (.aload_n 0, 1) := by decide +kernel
theorem d_T_init_1 : decode b_T_init 1 = .ok (.invokespecial 1, 3) := by decide +kernel
theorem d_T_init_4 : decode b_T_init 4 = .ok (.aload_n 0, 1) := by decide +kernel
theorem d_T_init_5 : decode b_T_init 5 = .ok (.new 7, 3) := by decide +kernel
theorem d_T_init_8 : decode b_T_init 8 = .ok (.dup, 1) := by decide +kernel
theorem d_T_init_9 : decode b_T_init 9 = .ok (.invokespecial 9, 3) := by decide +kernel
theorem d_T_init_12 : decode b_T_init 12 = .ok (.putfield 10, 3) := by decide +kernel
theorem d_T_init_15 : decode b_T_init 15 = .ok (.aload_n 0, 1) := by decide +kernel
theorem d_T_init_16 : decode b_T_init 16 = .ok (.new 16, 3) := by decide +kernel
theorem d_T_init_19 : decode b_T_init 19 = .ok (.dup, 1) := by decide +kernel
theorem d_T_init_20 : decode b_T_init 20 = .ok (.invokespecial 18, 3) := by decide +kernel
theorem d_T_init_23 : decode b_T_init 23 = .ok (.putfield 19, 3) := by decide +kernel
theorem d_T_init_26 : decode b_T_init 26 = .ok (.aload_n 0, 1) := by decide +kernel
theorem d_T_init_27 : decode b_T_init 27 = .ok (.new 23, 3) := by decide +kernel
theorem d_T_init_30 : decode b_T_init 30 = .ok (.dup, 1) := by decide +kernel
theorem d_T_init_31 : decode b_T_init 31 = .ok (.aload_n 0, 1) := by decide +kernel
theorem d_T_init_32 : decode b_T_init 32 = .ok (.getfield 10, 3) := by decide +kernel
theorem d_T_init_35 : decode b_T_init 35 = .ok (.aload_n 0, 1) := by decide +kernel
theorem d_T_init_36 : decode b_T_init 36 = .ok (.getfield 19, 3) := by decide +kernel
theorem d_T_init_39 : decode b_T_init 39 = .ok (.invokespecial 25, 3) := by decide +kernel
theorem d_T_init_42 : decode b_T_init 42 = .ok (.putfield 28, 3) := by decide +kernel
theorem d_T_init_45 : decode b_T_init 45 = .ok (.aload_n 0, 1) := by decide +kernel
theorem d_T_init_46 : decode b_T_init 46 = .ok (.new 32, 3) := by decide +kernel
theorem d_T_init_49 : decode b_T_init 49 = .ok (.dup, 1) := by decide +kernel
theorem d_T_init_50 : decode b_T_init 50 = .ok (.aload_n 0, 1) := by decide +kernel
theorem d_T_init_51 : decode b_T_init 51 = .ok (.getfield 28, 3) := by decide +kernel
theorem d_T_init_54 : decode b_T_init 54 = .ok (.getfield 34, 3) := by decide +kernel
theorem d_T_init_57 : decode b_T_init 57 = .ok (.aload_n 0, 1) := by decide +kernel
theorem d_T_init_58 : decode b_T_init 58 = .ok (.getfield 28, 3) := by decide +kernel
theorem d_T_init_61 : decode b_T_init 61 = .ok (.getfield 38, 3) := by decide +kernel
theorem d_T_init_64 : decode b_T_init 64 = .ok (.aload_n 0, 1) := by decide +kernel
theorem d_T_init_65 : decode b_T_init 65 = .ok (.getfield 19, 3) := by decide +kernel
theorem d_T_init_68 : decode b_T_init 68 = .ok (.getfield 41, 3) := by decide +kernel
theorem d_T_init_71 : decode b_T_init 71 = .ok (.invokespecial 44, 3) := by decide +kernel
theorem d_T_init_74 : decode b_T_init 74 = .ok (.putfield 47, 3) := by decide +kernel
theorem d_T_init_77 : decode b_T_init 77 = .ok (.aload_n 0, 1) := by decide +kernel
theorem d_T_init_78 : decode b_T_init 78 = .ok (.new 51, 3) := by decide +kernel
theorem d_T_init_81 : decode b_T_init 81 = .ok (.dup, 1) := by decide +kernel
theorem d_T_init_82 : decode b_T_init 82 = .ok (.aload_n 0, 1) := by decide +kernel
theorem d_T_init_83 : decode b_T_init 83 = .ok (.getfield 28, 3) := by decide +kernel
theorem d_T_init_86 : decode b_T_init 86 = .ok (.aload_n 0, 1) := by decide +kernel
theorem d_T_init_87 : decode b_T_init 87 = .ok (.getfield 19, 3) := by decide +kernel
theorem d_T_init_90 : decode b_T_init 90 = .ok (.invokespecial 53, 3) := by decide +kernel
theorem d_T_init_93 : decode b_T_init 93 = .ok (.putfield 56, 3) := by decide +kernel
theorem d_T_init_96 : decode b_T_init 96 = .ok (.aload_n 0, 1) := by decide +kernel
theorem d_T_init_97 : decode b_T_init 97 = .ok (.invokevirtual 60, 3) := by decide +kernel
theorem d_T_init_100 : decode b_T_init 100 = .ok (.return_, 1) := by decide +kernel
set_option maxRecDepth 100000 in
theorem kc_T_init : Cond.code y_T_init b_T_init 1 none ∈ WA := WAm 120 rfl (by decide +kernel)
set_option maxRecDepth 100000 in
theorem ki_T_init : Cond.instanceMethod y_T_init ∈ WA := WAm 119 (by decide +kernel) (by decide +kernel)
def rm_T_init : Room := { frames := 3, cells := 17, slots := 19669, locals := 63 }
theorem ij_T {l : Launch} {D : va_G} {cA : ClassId} {tb : Nat → Nat} (h0 : Nat) (Q : Mem → Prop) (hk : wp_T_startAnew (fun _ _ => 0) Q) : Inj l y_T_init ws_T_init rm_T_init D cA tb [.ref h0] h0 [(h0, .inr (0, [.null, .null, .null, .null, .null]))] (fun ad M => ceC ad cA M) Q 17 19669 := by
  intro sz
  refine Met.ofW (cc := b_T_init) (maxL := 1) (ret := none) (by decide) rfl ?_
  intro p e s m args below meth c s₁ B hml hv
  obtain ⟨rfl, hsz, hP, hK, hD0, hSx, hTn⟩ := hv
  have hr := B.returns
  have hlocks := B.notSynchronized
  have hin : meth.name = "<init>" := (name_of_methodNamed B.named B.method).1
  have hts : ∀ w ∈ WA, w.before _ s = true := fun w h => atoms_spec (ws := ws_T_init) B.pre w (List.mem_cons_of_mem _ h)
  have S : CallFix p m c b_T_init 1 s _ WA "TileConsole" := ⟨B.exec, B.bytes, hml, findClass_of_methodNamed B.named, hts⟩
  subst hsz
  have hD := hD0.self (sz := s.heap.size)
  generalize hAe : va_A [(h0, .inr (0, [.null, .null, .null, .null, .null]))] s.heap.size = A at hD hSx ⊢
  have hA : ∀ q : Nat, s.heap.size ≤ q → A q := fun q h => by rw [← hAe]; exact Or.inr h
  have hS : va_S A s.heap s.heap [] := va_S.rf
  have hl := lv_entry [.ref h0] (n := 1) (Nat.le_of_ble_eq_true rfl)
  rw [lg_entry_eq]
  generalize (lg_sl [.ref h0] ++ List.replicate (1 - (lg_sl [.ref h0]).length) Slot.unset).toArray = ls at hl ⊢
  have hl : lv_has ls 1 [(0, .ref h0)] := hl
  have hx := S.1
  have hb := S.2.1
  have hown := S.2.2.2.1
  refine lv_aload_n hx hb d_T_init_0 rfl (lv_at hl 0 rfl) ?_
  refine ob_init S k_27 k_1 k_2 hl.1 d_T_init_1 (Nat.le_of_ble_eq_true rfl) ⟨Nat.le_of_ble_eq_true rfl, Nat.le_of_ble_eq_true rfl⟩ ?_
  refine lv_aload_n hx hb d_T_init_4 rfl (lv_at hl 0 rfl) ?_
  refine va_new (ci := 1) (fs := [.null, .null, .int 0, .int 0, .int 0, .int 0, .int 0, .int 0, .int 0, .int 0, .int 0]) (C := R_K) (T := F_K) (N := 11) hx hb hts i_K ty_K ty_K_ok hown (hts _ k_28) (hts _ k_29) (hts _ k_30) hK hP hD hS hA rfl (by decide +kernel) (Nat.le_of_ble_eq_true rfl) (Nat.le_of_ble_eq_true rfl) d_T_init_5 (fun q5 H hP hD hS => ?_)
  have hP : va_P D vcl [(h0, .inr (0, [.null, .null, .null, .null, .null])), (q5, .inr (1, [.null, .null, .int 0, .int 0, .int 0, .int 0, .int 0, .int 0, .int 0, .int 0, .int 0]))] H := hP
  have hD : va_D A [(h0, .inr (0, [.null, .null, .null, .null, .null])), (q5, .inr (1, [.null, .null, .int 0, .int 0, .int 0, .int 0, .int 0, .int 0, .int 0, .int 0, .int 0]))] := hD
  refine W.widen (k := 1) (n := 11) (by omega) (by omega) ?_
  refine lv_dup hx hb d_T_init_8 rfl ?_
  refine cl_iniN (n := 0) (w := [(h0, .inr (0, [.null, .null, .null, .null, .null]))]) (As := []) (b := q5) (rest := [.ref q5, .ref h0]) S hK (in_K q5) (hTn (.methodLinkNest "TileConsole" 9 y_K_init "TileConsole") (List.mem_of_getElem? (i := 126) (by decide +kernel)) rfl) ki_K_init k_30 kc_K_init rfl rfl (by decide +kernel) ⟨rfl, rfl, Nat.le_of_ble_eq_true rfl, Nat.le_of_ble_eq_true rfl⟩ rfl hl.1 rfl (Nat.le_of_ble_eq_true rfl) d_T_init_9 ⟨Nat.le_of_ble_eq_true rfl, Nat.le_of_ble_eq_true rfl⟩ hP hD hS hA (fun z9 H locs hP hD hS => ?_)
  have hP : va_P D vcl [(h0, .inr (0, [.null, .null, .null, .null, .null])), (q5, .inr (1, [.ref (z9 0), .ref (z9 1), .int 0, .int 0, .int 0, .int 0, .int 0, .int 0, .int 0, .int 0, .int 0])), ((z9 0), .inl (cA, 8192, .inl (fun _ => 0))), ((z9 1), .inl (cA, 1024, .inl (fun _ => 0)))] H := hP
  have hD : va_D A [(h0, .inr (0, [.null, .null, .null, .null, .null])), (q5, .inr (1, [.ref (z9 0), .ref (z9 1), .int 0, .int 0, .int 0, .int 0, .int 0, .int 0, .int 0, .int 0, .int 0])), ((z9 0), .inl (cA, 8192, .inl (fun _ => 0))), ((z9 1), .inl (cA, 1024, .inl (fun _ => 0)))] := hD
  refine W.widen (k := 3) (n := 9227) (by omega) (by omega) ?_
  refine va_putF (D := D) (ci := 0) (v := .ref q5) (ty := .object "TileConsole$Cartridge") (C := R_T) (T := F_T) (N := 5) hx hb hts i_T ty_T ty_T_ok n_T hown hK hP hD hS 0 rfl rfl 0 (by decide) (hts _ k_31) (fun _ h9 => h9) rfl hin rfl (by decide +kernel) rfl rfl (Nat.le_of_ble_eq_true rfl) d_T_init_12 (fun H locs hP hD hS => ?_)
  have hP : va_P D vcl [(h0, .inr (0, [.ref q5, .null, .null, .null, .null])), (q5, .inr (1, [.ref (z9 0), .ref (z9 1), .int 0, .int 0, .int 0, .int 0, .int 0, .int 0, .int 0, .int 0, .int 0])), ((z9 0), .inl (cA, 8192, .inl (fun _ => 0))), ((z9 1), .inl (cA, 1024, .inl (fun _ => 0)))] H := hP
  have hD : va_D A [(h0, .inr (0, [.ref q5, .null, .null, .null, .null])), (q5, .inr (1, [.ref (z9 0), .ref (z9 1), .int 0, .int 0, .int 0, .int 0, .int 0, .int 0, .int 0, .int 0, .int 0])), ((z9 0), .inl (cA, 8192, .inl (fun _ => 0))), ((z9 1), .inl (cA, 1024, .inl (fun _ => 0)))] := hD
  refine lv_aload_n hx hb d_T_init_15 rfl (lv_at hl 0 rfl) ?_
  refine va_new (ci := 2) (fs := [.null, .int 0, .int 0, .int 0, .int 0, .int 0, .int 0, .int 0]) (C := R_P) (T := F_P) (N := 8) hx hb hts i_P ty_P ty_P_ok hown (hts _ k_32) (hts _ k_33) (hts _ k_34) hK hP hD hS hA rfl (by decide +kernel) (Nat.le_of_ble_eq_true rfl) (Nat.le_of_ble_eq_true rfl) d_T_init_16 (fun q16 H hP hD hS => ?_)
  have hP : va_P D vcl [(h0, .inr (0, [.ref q5, .null, .null, .null, .null])), (q5, .inr (1, [.ref (z9 0), .ref (z9 1), .int 0, .int 0, .int 0, .int 0, .int 0, .int 0, .int 0, .int 0, .int 0])), ((z9 0), .inl (cA, 8192, .inl (fun _ => 0))), ((z9 1), .inl (cA, 1024, .inl (fun _ => 0))), (q16, .inr (2, [.null, .int 0, .int 0, .int 0, .int 0, .int 0, .int 0, .int 0]))] H := hP
  have hD : va_D A [(h0, .inr (0, [.ref q5, .null, .null, .null, .null])), (q5, .inr (1, [.ref (z9 0), .ref (z9 1), .int 0, .int 0, .int 0, .int 0, .int 0, .int 0, .int 0, .int 0, .int 0])), ((z9 0), .inl (cA, 8192, .inl (fun _ => 0))), ((z9 1), .inl (cA, 1024, .inl (fun _ => 0))), (q16, .inr (2, [.null, .int 0, .int 0, .int 0, .int 0, .int 0, .int 0, .int 0]))] := hD
  refine W.widen (k := 4) (n := 9235) (by omega) (by omega) ?_
  refine lv_dup hx hb d_T_init_19 rfl ?_
  refine cl_iniN (n := 0) (w := [(h0, .inr (0, [.ref q5, .null, .null, .null, .null])), (q5, .inr (1, [.ref (z9 0), .ref (z9 1), .int 0, .int 0, .int 0, .int 0, .int 0, .int 0, .int 0, .int 0, .int 0])), ((z9 0), .inl (cA, 8192, .inl (fun _ => 0))), ((z9 1), .inl (cA, 1024, .inl (fun _ => 0)))]) (As := []) (b := q16) (rest := [.ref q16, .ref h0]) S hK (in_P q16) (hTn (.methodLinkNest "TileConsole" 18 y_P_init "TileConsole") (List.mem_of_getElem? (i := 173) (by decide +kernel)) rfl) ki_P_init k_34 kc_P_init rfl rfl (by decide +kernel) ⟨rfl, rfl, Nat.le_of_ble_eq_true rfl, Nat.le_of_ble_eq_true rfl⟩ rfl hl.1 rfl (Nat.le_of_ble_eq_true rfl) d_T_init_20 ⟨Nat.le_of_ble_eq_true rfl, Nat.le_of_ble_eq_true rfl⟩ hP hD hS hA (fun z20 H locs hP hD hS => ?_)
  have hP : va_P D vcl [(h0, .inr (0, [.ref q5, .null, .null, .null, .null])), (q5, .inr (1, [.ref (z9 0), .ref (z9 1), .int 0, .int 0, .int 0, .int 0, .int 0, .int 0, .int 0, .int 0, .int 0])), ((z9 0), .inl (cA, 8192, .inl (fun _ => 0))), ((z9 1), .inl (cA, 1024, .inl (fun _ => 0))), (q16, .inr (2, [.ref (z20 0), .int 0, .int 0, .int 0, .int 0, .int 0, .int 0, .int 0])), ((z20 0), .inl (cA, 256, .inl (fun _ => 0)))] H := hP
  have hD : va_D A [(h0, .inr (0, [.ref q5, .null, .null, .null, .null])), (q5, .inr (1, [.ref (z9 0), .ref (z9 1), .int 0, .int 0, .int 0, .int 0, .int 0, .int 0, .int 0, .int 0, .int 0])), ((z9 0), .inl (cA, 8192, .inl (fun _ => 0))), ((z9 1), .inl (cA, 1024, .inl (fun _ => 0))), (q16, .inr (2, [.ref (z20 0), .int 0, .int 0, .int 0, .int 0, .int 0, .int 0, .int 0])), ((z20 0), .inl (cA, 256, .inl (fun _ => 0)))] := hD
  refine W.widen (k := 5) (n := 9491) (by omega) (by omega) ?_
  refine va_putF (D := D) (ci := 0) (v := .ref q16) (ty := .object "TileConsole$Ports") (C := R_T) (T := F_T) (N := 5) hx hb hts i_T ty_T ty_T_ok n_T hown hK hP hD hS 0 rfl rfl 1 (by decide) (hts _ k_35) (fun _ h9 => h9) rfl hin rfl (by decide +kernel) rfl rfl (Nat.le_of_ble_eq_true rfl) d_T_init_23 (fun H locs hP hD hS => ?_)
  have hP : va_P D vcl [(h0, .inr (0, [.ref q5, .ref q16, .null, .null, .null])), (q5, .inr (1, [.ref (z9 0), .ref (z9 1), .int 0, .int 0, .int 0, .int 0, .int 0, .int 0, .int 0, .int 0, .int 0])), ((z9 0), .inl (cA, 8192, .inl (fun _ => 0))), ((z9 1), .inl (cA, 1024, .inl (fun _ => 0))), (q16, .inr (2, [.ref (z20 0), .int 0, .int 0, .int 0, .int 0, .int 0, .int 0, .int 0])), ((z20 0), .inl (cA, 256, .inl (fun _ => 0)))] H := hP
  have hD : va_D A [(h0, .inr (0, [.ref q5, .ref q16, .null, .null, .null])), (q5, .inr (1, [.ref (z9 0), .ref (z9 1), .int 0, .int 0, .int 0, .int 0, .int 0, .int 0, .int 0, .int 0, .int 0])), ((z9 0), .inl (cA, 8192, .inl (fun _ => 0))), ((z9 1), .inl (cA, 1024, .inl (fun _ => 0))), (q16, .inr (2, [.ref (z20 0), .int 0, .int 0, .int 0, .int 0, .int 0, .int 0, .int 0])), ((z20 0), .inl (cA, 256, .inl (fun _ => 0)))] := hD
  refine lv_aload_n hx hb d_T_init_26 rfl (lv_at hl 0 rfl) ?_
  refine va_new (ci := 3) (fs := [.null, .null, .null, .null, .null, .null]) (C := R_Y) (T := F_Y) (N := 6) hx hb hts i_Y ty_Y ty_Y_ok hown (hts _ k_36) (hts _ k_37) (hts _ k_38) hK hP hD hS hA rfl (by decide +kernel) (Nat.le_of_ble_eq_true rfl) (Nat.le_of_ble_eq_true rfl) d_T_init_27 (fun q27 H hP hD hS => ?_)
  have hP : va_P D vcl [(h0, .inr (0, [.ref q5, .ref q16, .null, .null, .null])), (q5, .inr (1, [.ref (z9 0), .ref (z9 1), .int 0, .int 0, .int 0, .int 0, .int 0, .int 0, .int 0, .int 0, .int 0])), ((z9 0), .inl (cA, 8192, .inl (fun _ => 0))), ((z9 1), .inl (cA, 1024, .inl (fun _ => 0))), (q16, .inr (2, [.ref (z20 0), .int 0, .int 0, .int 0, .int 0, .int 0, .int 0, .int 0])), ((z20 0), .inl (cA, 256, .inl (fun _ => 0))), (q27, .inr (3, [.null, .null, .null, .null, .null, .null]))] H := hP
  have hD : va_D A [(h0, .inr (0, [.ref q5, .ref q16, .null, .null, .null])), (q5, .inr (1, [.ref (z9 0), .ref (z9 1), .int 0, .int 0, .int 0, .int 0, .int 0, .int 0, .int 0, .int 0, .int 0])), ((z9 0), .inl (cA, 8192, .inl (fun _ => 0))), ((z9 1), .inl (cA, 1024, .inl (fun _ => 0))), (q16, .inr (2, [.ref (z20 0), .int 0, .int 0, .int 0, .int 0, .int 0, .int 0, .int 0])), ((z20 0), .inl (cA, 256, .inl (fun _ => 0))), (q27, .inr (3, [.null, .null, .null, .null, .null, .null]))] := hD
  refine W.widen (k := 6) (n := 9497) (by omega) (by omega) ?_
  refine lv_dup hx hb d_T_init_30 rfl ?_
  refine lv_aload_n hx hb d_T_init_31 rfl (lv_at hl 0 rfl) ?_
  refine va_get (D := D) (ci := 0) (C := R_T) (T := F_T) (N := 5) hx hb hts i_T hown hK hP 0 rfl rfl 0 (by decide) (hts _ k_31) (fun _ h => h) rfl d_T_init_32 ?_
  refine lv_aload_n hx hb d_T_init_35 rfl (lv_at hl 0 rfl) ?_
  refine va_get (D := D) (ci := 0) (C := R_T) (T := F_T) (N := 5) hx hb hts i_T hown hK hP 0 rfl rfl 1 (by decide) (hts _ k_35) (fun _ h => h) rfl d_T_init_36 ?_
  refine cl_iniL (n := 2) (w := [(h0, .inr (0, [.ref q5, .ref q16, .null, .null, .null])), (q5, .inr (1, [.ref (z9 0), .ref (z9 1), .int 0, .int 0, .int 0, .int 0, .int 0, .int 0, .int 0, .int 0, .int 0])), ((z9 0), .inl (cA, 8192, .inl (fun _ => 0))), ((z9 1), .inl (cA, 1024, .inl (fun _ => 0))), (q16, .inr (2, [.ref (z20 0), .int 0, .int 0, .int 0, .int 0, .int 0, .int 0, .int 0])), ((z20 0), .inl (cA, 256, .inl (fun _ => 0)))]) (As := [.ref q5, .ref q16]) (b := q27) (rest := [.ref q27, .ref h0]) S hK (in_Y q27 q5 q16) k_39 ki_Y_init k_38 kc_Y_init rfl rfl (by decide +kernel) ⟨rfl, rfl, Nat.le_of_ble_eq_true rfl, Nat.le_of_ble_eq_true rfl⟩ rfl hl.1 rfl (Nat.le_of_ble_eq_true rfl) d_T_init_39 ⟨Nat.le_of_ble_eq_true rfl, Nat.le_of_ble_eq_true rfl⟩ hP hD hS hA (fun z39 H locs hP hD hS => ?_)
  have hP : va_P D vcl [(h0, .inr (0, [.ref q5, .ref q16, .null, .null, .null])), (q5, .inr (1, [.ref (z9 0), .ref (z9 1), .int 0, .int 0, .int 0, .int 0, .int 0, .int 0, .int 0, .int 0, .int 0])), ((z9 0), .inl (cA, 8192, .inl (fun _ => 0))), ((z9 1), .inl (cA, 1024, .inl (fun _ => 0))), (q16, .inr (2, [.ref (z20 0), .int 0, .int 0, .int 0, .int 0, .int 0, .int 0, .int 0])), ((z20 0), .inl (cA, 256, .inl (fun _ => 0))), (q27, .inr (3, [.ref (z39 0), .ref (z39 1), .ref (z39 2), .ref (z39 3), .ref q5, .ref q16])), ((z39 0), .inl (cA, 8192, .inl (fun _ => 0))), ((z39 1), .inl (cA, 160, .inl (fun _ => 0))), ((z39 2), .inl (cA, 1024, .inl (fun _ => 0))), ((z39 3), .inl (cA, 128, .inl (fun _ => 0)))] H := hP
  have hD : va_D A [(h0, .inr (0, [.ref q5, .ref q16, .null, .null, .null])), (q5, .inr (1, [.ref (z9 0), .ref (z9 1), .int 0, .int 0, .int 0, .int 0, .int 0, .int 0, .int 0, .int 0, .int 0])), ((z9 0), .inl (cA, 8192, .inl (fun _ => 0))), ((z9 1), .inl (cA, 1024, .inl (fun _ => 0))), (q16, .inr (2, [.ref (z20 0), .int 0, .int 0, .int 0, .int 0, .int 0, .int 0, .int 0])), ((z20 0), .inl (cA, 256, .inl (fun _ => 0))), (q27, .inr (3, [.ref (z39 0), .ref (z39 1), .ref (z39 2), .ref (z39 3), .ref q5, .ref q16])), ((z39 0), .inl (cA, 8192, .inl (fun _ => 0))), ((z39 1), .inl (cA, 160, .inl (fun _ => 0))), ((z39 2), .inl (cA, 1024, .inl (fun _ => 0))), ((z39 3), .inl (cA, 128, .inl (fun _ => 0)))] := hD
  refine W.widen (k := 10) (n := 19001) (by omega) (by omega) ?_
  refine va_putF (D := D) (ci := 0) (v := .ref q27) (ty := .object "TileConsole$Memory") (C := R_T) (T := F_T) (N := 5) hx hb hts i_T ty_T ty_T_ok n_T hown hK hP hD hS 0 rfl rfl 2 (by decide) (hts _ k_40) (fun _ h9 => h9) rfl hin rfl (by decide +kernel) rfl rfl (Nat.le_of_ble_eq_true rfl) d_T_init_42 (fun H locs hP hD hS => ?_)
  have hP : va_P D vcl [(h0, .inr (0, [.ref q5, .ref q16, .ref q27, .null, .null])), (q5, .inr (1, [.ref (z9 0), .ref (z9 1), .int 0, .int 0, .int 0, .int 0, .int 0, .int 0, .int 0, .int 0, .int 0])), ((z9 0), .inl (cA, 8192, .inl (fun _ => 0))), ((z9 1), .inl (cA, 1024, .inl (fun _ => 0))), (q16, .inr (2, [.ref (z20 0), .int 0, .int 0, .int 0, .int 0, .int 0, .int 0, .int 0])), ((z20 0), .inl (cA, 256, .inl (fun _ => 0))), (q27, .inr (3, [.ref (z39 0), .ref (z39 1), .ref (z39 2), .ref (z39 3), .ref q5, .ref q16])), ((z39 0), .inl (cA, 8192, .inl (fun _ => 0))), ((z39 1), .inl (cA, 160, .inl (fun _ => 0))), ((z39 2), .inl (cA, 1024, .inl (fun _ => 0))), ((z39 3), .inl (cA, 128, .inl (fun _ => 0)))] H := hP
  have hD : va_D A [(h0, .inr (0, [.ref q5, .ref q16, .ref q27, .null, .null])), (q5, .inr (1, [.ref (z9 0), .ref (z9 1), .int 0, .int 0, .int 0, .int 0, .int 0, .int 0, .int 0, .int 0, .int 0])), ((z9 0), .inl (cA, 8192, .inl (fun _ => 0))), ((z9 1), .inl (cA, 1024, .inl (fun _ => 0))), (q16, .inr (2, [.ref (z20 0), .int 0, .int 0, .int 0, .int 0, .int 0, .int 0, .int 0])), ((z20 0), .inl (cA, 256, .inl (fun _ => 0))), (q27, .inr (3, [.ref (z39 0), .ref (z39 1), .ref (z39 2), .ref (z39 3), .ref q5, .ref q16])), ((z39 0), .inl (cA, 8192, .inl (fun _ => 0))), ((z39 1), .inl (cA, 160, .inl (fun _ => 0))), ((z39 2), .inl (cA, 1024, .inl (fun _ => 0))), ((z39 3), .inl (cA, 128, .inl (fun _ => 0)))] := hD
  refine lv_aload_n hx hb d_T_init_45 rfl (lv_at hl 0 rfl) ?_
  refine va_new (ci := 4) (fs := [.null, .null, .null, .null, .null, .null, .null]) (C := R_S) (T := F_S) (N := 7) hx hb hts i_S ty_S ty_S_ok hown (hts _ k_41) (hts _ k_42) (hts _ k_43) hK hP hD hS hA rfl (by decide +kernel) (Nat.le_of_ble_eq_true rfl) (Nat.le_of_ble_eq_true rfl) d_T_init_46 (fun q46 H hP hD hS => ?_)
  have hP : va_P D vcl [(h0, .inr (0, [.ref q5, .ref q16, .ref q27, .null, .null])), (q5, .inr (1, [.ref (z9 0), .ref (z9 1), .int 0, .int 0, .int 0, .int 0, .int 0, .int 0, .int 0, .int 0, .int 0])), ((z9 0), .inl (cA, 8192, .inl (fun _ => 0))), ((z9 1), .inl (cA, 1024, .inl (fun _ => 0))), (q16, .inr (2, [.ref (z20 0), .int 0, .int 0, .int 0, .int 0, .int 0, .int 0, .int 0])), ((z20 0), .inl (cA, 256, .inl (fun _ => 0))), (q27, .inr (3, [.ref (z39 0), .ref (z39 1), .ref (z39 2), .ref (z39 3), .ref q5, .ref q16])), ((z39 0), .inl (cA, 8192, .inl (fun _ => 0))), ((z39 1), .inl (cA, 160, .inl (fun _ => 0))), ((z39 2), .inl (cA, 1024, .inl (fun _ => 0))), ((z39 3), .inl (cA, 128, .inl (fun _ => 0))), (q46, .inr (4, [.null, .null, .null, .null, .null, .null, .null]))] H := hP
  have hD : va_D A [(h0, .inr (0, [.ref q5, .ref q16, .ref q27, .null, .null])), (q5, .inr (1, [.ref (z9 0), .ref (z9 1), .int 0, .int 0, .int 0, .int 0, .int 0, .int 0, .int 0, .int 0, .int 0])), ((z9 0), .inl (cA, 8192, .inl (fun _ => 0))), ((z9 1), .inl (cA, 1024, .inl (fun _ => 0))), (q16, .inr (2, [.ref (z20 0), .int 0, .int 0, .int 0, .int 0, .int 0, .int 0, .int 0])), ((z20 0), .inl (cA, 256, .inl (fun _ => 0))), (q27, .inr (3, [.ref (z39 0), .ref (z39 1), .ref (z39 2), .ref (z39 3), .ref q5, .ref q16])), ((z39 0), .inl (cA, 8192, .inl (fun _ => 0))), ((z39 1), .inl (cA, 160, .inl (fun _ => 0))), ((z39 2), .inl (cA, 1024, .inl (fun _ => 0))), ((z39 3), .inl (cA, 128, .inl (fun _ => 0))), (q46, .inr (4, [.null, .null, .null, .null, .null, .null, .null]))] := hD
  refine W.widen (k := 11) (n := 19008) (by omega) (by omega) ?_
  refine lv_dup hx hb d_T_init_49 rfl ?_
  refine lv_aload_n hx hb d_T_init_50 rfl (lv_at hl 0 rfl) ?_
  refine va_get (D := D) (ci := 0) (C := R_T) (T := F_T) (N := 5) hx hb hts i_T hown hK hP 0 rfl rfl 2 (by decide) (hts _ k_40) (fun _ h => h) rfl d_T_init_51 ?_
  refine va_get (D := D) (ci := 3) (C := R_Y) (T := F_Y) (N := 6) hx hb hts i_Y hown hK hP 6 rfl rfl 0 (by decide) (hts _ k_44) (fun _ h => h) rfl d_T_init_54 ?_
  refine lv_aload_n hx hb d_T_init_57 rfl (lv_at hl 0 rfl) ?_
  refine va_get (D := D) (ci := 0) (C := R_T) (T := F_T) (N := 5) hx hb hts i_T hown hK hP 0 rfl rfl 2 (by decide) (hts _ k_40) (fun _ h => h) rfl d_T_init_58 ?_
  refine va_get (D := D) (ci := 3) (C := R_Y) (T := F_Y) (N := 6) hx hb hts i_Y hown hK hP 6 rfl rfl 1 (by decide) (hts _ k_45) (fun _ h => h) rfl d_T_init_61 ?_
  refine lv_aload_n hx hb d_T_init_64 rfl (lv_at hl 0 rfl) ?_
  refine va_get (D := D) (ci := 0) (C := R_T) (T := F_T) (N := 5) hx hb hts i_T hown hK hP 0 rfl rfl 1 (by decide) (hts _ k_35) (fun _ h => h) rfl d_T_init_65 ?_
  refine va_get (D := D) (ci := 2) (C := R_P) (T := F_P) (N := 8) hx hb hts i_P hown hK hP 4 rfl rfl 0 (by decide) (hts _ k_46) (fun _ h => h) rfl d_T_init_68 ?_
  refine cl_iniL (n := 3) (w := [(h0, .inr (0, [.ref q5, .ref q16, .ref q27, .null, .null])), (q5, .inr (1, [.ref (z9 0), .ref (z9 1), .int 0, .int 0, .int 0, .int 0, .int 0, .int 0, .int 0, .int 0, .int 0])), ((z9 0), .inl (cA, 8192, .inl (fun _ => 0))), ((z9 1), .inl (cA, 1024, .inl (fun _ => 0))), (q16, .inr (2, [.ref (z20 0), .int 0, .int 0, .int 0, .int 0, .int 0, .int 0, .int 0])), ((z20 0), .inl (cA, 256, .inl (fun _ => 0))), (q27, .inr (3, [.ref (z39 0), .ref (z39 1), .ref (z39 2), .ref (z39 3), .ref q5, .ref q16])), ((z39 0), .inl (cA, 8192, .inl (fun _ => 0))), ((z39 1), .inl (cA, 160, .inl (fun _ => 0))), ((z39 2), .inl (cA, 1024, .inl (fun _ => 0))), ((z39 3), .inl (cA, 128, .inl (fun _ => 0)))]) (As := [.ref (z39 0), .ref (z39 1), .ref (z20 0)]) (b := q46) (rest := [.ref q46, .ref h0]) S hK (in_S q46 (z39 0) (z39 1) (z20 0)) k_47 ki_S_init k_43 kc_S_init rfl rfl (by decide +kernel) ⟨rfl, rfl, Nat.le_of_ble_eq_true rfl, Nat.le_of_ble_eq_true rfl⟩ rfl hl.1 rfl (Nat.le_of_ble_eq_true rfl) d_T_init_71 ⟨Nat.le_of_ble_eq_true rfl, Nat.le_of_ble_eq_true rfl⟩ hP hD hS hA (fun z71 H locs hP hD hS => ?_)
  have hP : va_P D vcl [(h0, .inr (0, [.ref q5, .ref q16, .ref q27, .null, .null])), (q5, .inr (1, [.ref (z9 0), .ref (z9 1), .int 0, .int 0, .int 0, .int 0, .int 0, .int 0, .int 0, .int 0, .int 0])), ((z9 0), .inl (cA, 8192, .inl (fun _ => 0))), ((z9 1), .inl (cA, 1024, .inl (fun _ => 0))), (q16, .inr (2, [.ref (z20 0), .int 0, .int 0, .int 0, .int 0, .int 0, .int 0, .int 0])), ((z20 0), .inl (cA, 256, .inl (fun _ => 0))), (q27, .inr (3, [.ref (z39 0), .ref (z39 1), .ref (z39 2), .ref (z39 3), .ref q5, .ref q16])), ((z39 0), .inl (cA, 8192, .inl (fun _ => 0))), ((z39 1), .inl (cA, 160, .inl (fun _ => 0))), ((z39 2), .inl (cA, 1024, .inl (fun _ => 0))), ((z39 3), .inl (cA, 128, .inl (fun _ => 0))), (q46, .inr (4, [.ref (z71 0), .ref (z39 0), .ref (z39 1), .ref (z20 0), .ref (z71 1), .ref (z71 2), .ref (z71 3)])), ((z71 0), .inl (cA, 160, .inl (fun _ => 0))), ((z71 1), .inl (cA, 160, .inl (fun _ => 0))), ((z71 2), .inl (cA, 160, .inl (fun _ => 0))), ((z71 3), .inl (cA, 160, .inl (fun _ => 0)))] H := hP
  have hD : va_D A [(h0, .inr (0, [.ref q5, .ref q16, .ref q27, .null, .null])), (q5, .inr (1, [.ref (z9 0), .ref (z9 1), .int 0, .int 0, .int 0, .int 0, .int 0, .int 0, .int 0, .int 0, .int 0])), ((z9 0), .inl (cA, 8192, .inl (fun _ => 0))), ((z9 1), .inl (cA, 1024, .inl (fun _ => 0))), (q16, .inr (2, [.ref (z20 0), .int 0, .int 0, .int 0, .int 0, .int 0, .int 0, .int 0])), ((z20 0), .inl (cA, 256, .inl (fun _ => 0))), (q27, .inr (3, [.ref (z39 0), .ref (z39 1), .ref (z39 2), .ref (z39 3), .ref q5, .ref q16])), ((z39 0), .inl (cA, 8192, .inl (fun _ => 0))), ((z39 1), .inl (cA, 160, .inl (fun _ => 0))), ((z39 2), .inl (cA, 1024, .inl (fun _ => 0))), ((z39 3), .inl (cA, 128, .inl (fun _ => 0))), (q46, .inr (4, [.ref (z71 0), .ref (z39 0), .ref (z39 1), .ref (z20 0), .ref (z71 1), .ref (z71 2), .ref (z71 3)])), ((z71 0), .inl (cA, 160, .inl (fun _ => 0))), ((z71 1), .inl (cA, 160, .inl (fun _ => 0))), ((z71 2), .inl (cA, 160, .inl (fun _ => 0))), ((z71 3), .inl (cA, 160, .inl (fun _ => 0)))] := hD
  refine W.widen (k := 15) (n := 19648) (by omega) (by omega) ?_
  refine va_putF (D := D) (ci := 0) (v := .ref q46) (ty := .object "TileConsole$Screen") (C := R_T) (T := F_T) (N := 5) hx hb hts i_T ty_T ty_T_ok n_T hown hK hP hD hS 0 rfl rfl 3 (by decide) (hts _ k_48) (fun _ h9 => h9) rfl hin rfl (by decide +kernel) rfl rfl (Nat.le_of_ble_eq_true rfl) d_T_init_74 (fun H locs hP hD hS => ?_)
  have hP : va_P D vcl [(h0, .inr (0, [.ref q5, .ref q16, .ref q27, .ref q46, .null])), (q5, .inr (1, [.ref (z9 0), .ref (z9 1), .int 0, .int 0, .int 0, .int 0, .int 0, .int 0, .int 0, .int 0, .int 0])), ((z9 0), .inl (cA, 8192, .inl (fun _ => 0))), ((z9 1), .inl (cA, 1024, .inl (fun _ => 0))), (q16, .inr (2, [.ref (z20 0), .int 0, .int 0, .int 0, .int 0, .int 0, .int 0, .int 0])), ((z20 0), .inl (cA, 256, .inl (fun _ => 0))), (q27, .inr (3, [.ref (z39 0), .ref (z39 1), .ref (z39 2), .ref (z39 3), .ref q5, .ref q16])), ((z39 0), .inl (cA, 8192, .inl (fun _ => 0))), ((z39 1), .inl (cA, 160, .inl (fun _ => 0))), ((z39 2), .inl (cA, 1024, .inl (fun _ => 0))), ((z39 3), .inl (cA, 128, .inl (fun _ => 0))), (q46, .inr (4, [.ref (z71 0), .ref (z39 0), .ref (z39 1), .ref (z20 0), .ref (z71 1), .ref (z71 2), .ref (z71 3)])), ((z71 0), .inl (cA, 160, .inl (fun _ => 0))), ((z71 1), .inl (cA, 160, .inl (fun _ => 0))), ((z71 2), .inl (cA, 160, .inl (fun _ => 0))), ((z71 3), .inl (cA, 160, .inl (fun _ => 0)))] H := hP
  have hD : va_D A [(h0, .inr (0, [.ref q5, .ref q16, .ref q27, .ref q46, .null])), (q5, .inr (1, [.ref (z9 0), .ref (z9 1), .int 0, .int 0, .int 0, .int 0, .int 0, .int 0, .int 0, .int 0, .int 0])), ((z9 0), .inl (cA, 8192, .inl (fun _ => 0))), ((z9 1), .inl (cA, 1024, .inl (fun _ => 0))), (q16, .inr (2, [.ref (z20 0), .int 0, .int 0, .int 0, .int 0, .int 0, .int 0, .int 0])), ((z20 0), .inl (cA, 256, .inl (fun _ => 0))), (q27, .inr (3, [.ref (z39 0), .ref (z39 1), .ref (z39 2), .ref (z39 3), .ref q5, .ref q16])), ((z39 0), .inl (cA, 8192, .inl (fun _ => 0))), ((z39 1), .inl (cA, 160, .inl (fun _ => 0))), ((z39 2), .inl (cA, 1024, .inl (fun _ => 0))), ((z39 3), .inl (cA, 128, .inl (fun _ => 0))), (q46, .inr (4, [.ref (z71 0), .ref (z39 0), .ref (z39 1), .ref (z20 0), .ref (z71 1), .ref (z71 2), .ref (z71 3)])), ((z71 0), .inl (cA, 160, .inl (fun _ => 0))), ((z71 1), .inl (cA, 160, .inl (fun _ => 0))), ((z71 2), .inl (cA, 160, .inl (fun _ => 0))), ((z71 3), .inl (cA, 160, .inl (fun _ => 0)))] := hD
  refine lv_aload_n hx hb d_T_init_77 rfl (lv_at hl 0 rfl) ?_
  refine va_new (ci := 5) (fs := [.int 0, .int 0, .int 0, .int 0, .int 0, .int 0, .null, .int 0, .int 0, .int 0, .int 0, .null, .null]) (C := R_Q) (T := F_Q) (N := 13) hx hb hts i_Q ty_Q ty_Q_ok hown (hts _ k_49) (hts _ k_50) (hts _ k_51) hK hP hD hS hA rfl (by decide +kernel) (Nat.le_of_ble_eq_true rfl) (Nat.le_of_ble_eq_true rfl) d_T_init_78 (fun q78 H hP hD hS => ?_)
  have hP : va_P D vcl [(h0, .inr (0, [.ref q5, .ref q16, .ref q27, .ref q46, .null])), (q5, .inr (1, [.ref (z9 0), .ref (z9 1), .int 0, .int 0, .int 0, .int 0, .int 0, .int 0, .int 0, .int 0, .int 0])), ((z9 0), .inl (cA, 8192, .inl (fun _ => 0))), ((z9 1), .inl (cA, 1024, .inl (fun _ => 0))), (q16, .inr (2, [.ref (z20 0), .int 0, .int 0, .int 0, .int 0, .int 0, .int 0, .int 0])), ((z20 0), .inl (cA, 256, .inl (fun _ => 0))), (q27, .inr (3, [.ref (z39 0), .ref (z39 1), .ref (z39 2), .ref (z39 3), .ref q5, .ref q16])), ((z39 0), .inl (cA, 8192, .inl (fun _ => 0))), ((z39 1), .inl (cA, 160, .inl (fun _ => 0))), ((z39 2), .inl (cA, 1024, .inl (fun _ => 0))), ((z39 3), .inl (cA, 128, .inl (fun _ => 0))), (q46, .inr (4, [.ref (z71 0), .ref (z39 0), .ref (z39 1), .ref (z20 0), .ref (z71 1), .ref (z71 2), .ref (z71 3)])), ((z71 0), .inl (cA, 160, .inl (fun _ => 0))), ((z71 1), .inl (cA, 160, .inl (fun _ => 0))), ((z71 2), .inl (cA, 160, .inl (fun _ => 0))), ((z71 3), .inl (cA, 160, .inl (fun _ => 0))), (q78, .inr (5, [.int 0, .int 0, .int 0, .int 0, .int 0, .int 0, .null, .int 0, .int 0, .int 0, .int 0, .null, .null]))] H := hP
  have hD : va_D A [(h0, .inr (0, [.ref q5, .ref q16, .ref q27, .ref q46, .null])), (q5, .inr (1, [.ref (z9 0), .ref (z9 1), .int 0, .int 0, .int 0, .int 0, .int 0, .int 0, .int 0, .int 0, .int 0])), ((z9 0), .inl (cA, 8192, .inl (fun _ => 0))), ((z9 1), .inl (cA, 1024, .inl (fun _ => 0))), (q16, .inr (2, [.ref (z20 0), .int 0, .int 0, .int 0, .int 0, .int 0, .int 0, .int 0])), ((z20 0), .inl (cA, 256, .inl (fun _ => 0))), (q27, .inr (3, [.ref (z39 0), .ref (z39 1), .ref (z39 2), .ref (z39 3), .ref q5, .ref q16])), ((z39 0), .inl (cA, 8192, .inl (fun _ => 0))), ((z39 1), .inl (cA, 160, .inl (fun _ => 0))), ((z39 2), .inl (cA, 1024, .inl (fun _ => 0))), ((z39 3), .inl (cA, 128, .inl (fun _ => 0))), (q46, .inr (4, [.ref (z71 0), .ref (z39 0), .ref (z39 1), .ref (z20 0), .ref (z71 1), .ref (z71 2), .ref (z71 3)])), ((z71 0), .inl (cA, 160, .inl (fun _ => 0))), ((z71 1), .inl (cA, 160, .inl (fun _ => 0))), ((z71 2), .inl (cA, 160, .inl (fun _ => 0))), ((z71 3), .inl (cA, 160, .inl (fun _ => 0))), (q78, .inr (5, [.int 0, .int 0, .int 0, .int 0, .int 0, .int 0, .null, .int 0, .int 0, .int 0, .int 0, .null, .null]))] := hD
  refine W.widen (k := 16) (n := 19661) (by omega) (by omega) ?_
  refine lv_dup hx hb d_T_init_81 rfl ?_
  refine lv_aload_n hx hb d_T_init_82 rfl (lv_at hl 0 rfl) ?_
  refine va_get (D := D) (ci := 0) (C := R_T) (T := F_T) (N := 5) hx hb hts i_T hown hK hP 0 rfl rfl 2 (by decide) (hts _ k_40) (fun _ h => h) rfl d_T_init_83 ?_
  refine lv_aload_n hx hb d_T_init_86 rfl (lv_at hl 0 rfl) ?_
  refine va_get (D := D) (ci := 0) (C := R_T) (T := F_T) (N := 5) hx hb hts i_T hown hK hP 0 rfl rfl 1 (by decide) (hts _ k_35) (fun _ h => h) rfl d_T_init_87 ?_
  refine cl_iniL (n := 2) (w := [(h0, .inr (0, [.ref q5, .ref q16, .ref q27, .ref q46, .null])), (q5, .inr (1, [.ref (z9 0), .ref (z9 1), .int 0, .int 0, .int 0, .int 0, .int 0, .int 0, .int 0, .int 0, .int 0])), ((z9 0), .inl (cA, 8192, .inl (fun _ => 0))), ((z9 1), .inl (cA, 1024, .inl (fun _ => 0))), (q16, .inr (2, [.ref (z20 0), .int 0, .int 0, .int 0, .int 0, .int 0, .int 0, .int 0])), ((z20 0), .inl (cA, 256, .inl (fun _ => 0))), (q27, .inr (3, [.ref (z39 0), .ref (z39 1), .ref (z39 2), .ref (z39 3), .ref q5, .ref q16])), ((z39 0), .inl (cA, 8192, .inl (fun _ => 0))), ((z39 1), .inl (cA, 160, .inl (fun _ => 0))), ((z39 2), .inl (cA, 1024, .inl (fun _ => 0))), ((z39 3), .inl (cA, 128, .inl (fun _ => 0))), (q46, .inr (4, [.ref (z71 0), .ref (z39 0), .ref (z39 1), .ref (z20 0), .ref (z71 1), .ref (z71 2), .ref (z71 3)])), ((z71 0), .inl (cA, 160, .inl (fun _ => 0))), ((z71 1), .inl (cA, 160, .inl (fun _ => 0))), ((z71 2), .inl (cA, 160, .inl (fun _ => 0))), ((z71 3), .inl (cA, 160, .inl (fun _ => 0)))]) (As := [.ref q27, .ref q16]) (b := q78) (rest := [.ref q78, .ref h0]) S hK (in_Q q78 q27 q16) k_52 ki_Q_init k_51 kc_Q_init rfl rfl (by decide +kernel) ⟨rfl, rfl, Nat.le_of_ble_eq_true rfl, Nat.le_of_ble_eq_true rfl⟩ rfl hl.1 rfl (Nat.le_of_ble_eq_true rfl) d_T_init_90 ⟨Nat.le_of_ble_eq_true rfl, Nat.le_of_ble_eq_true rfl⟩ hP hD hS hA (fun z90 H locs hP hD hS => ?_)
  have hP : va_P D vcl [(h0, .inr (0, [.ref q5, .ref q16, .ref q27, .ref q46, .null])), (q5, .inr (1, [.ref (z9 0), .ref (z9 1), .int 0, .int 0, .int 0, .int 0, .int 0, .int 0, .int 0, .int 0, .int 0])), ((z9 0), .inl (cA, 8192, .inl (fun _ => 0))), ((z9 1), .inl (cA, 1024, .inl (fun _ => 0))), (q16, .inr (2, [.ref (z20 0), .int 0, .int 0, .int 0, .int 0, .int 0, .int 0, .int 0])), ((z20 0), .inl (cA, 256, .inl (fun _ => 0))), (q27, .inr (3, [.ref (z39 0), .ref (z39 1), .ref (z39 2), .ref (z39 3), .ref q5, .ref q16])), ((z39 0), .inl (cA, 8192, .inl (fun _ => 0))), ((z39 1), .inl (cA, 160, .inl (fun _ => 0))), ((z39 2), .inl (cA, 1024, .inl (fun _ => 0))), ((z39 3), .inl (cA, 128, .inl (fun _ => 0))), (q46, .inr (4, [.ref (z71 0), .ref (z39 0), .ref (z39 1), .ref (z20 0), .ref (z71 1), .ref (z71 2), .ref (z71 3)])), ((z71 0), .inl (cA, 160, .inl (fun _ => 0))), ((z71 1), .inl (cA, 160, .inl (fun _ => 0))), ((z71 2), .inl (cA, 160, .inl (fun _ => 0))), ((z71 3), .inl (cA, 160, .inl (fun _ => 0))), (q78, .inr (5, [.int 0, .int 0, .int 0, .int 0, .int 0, .int 0, .ref (z90 0), .int 0, .int 0, .int 0, .int 0, .ref q27, .ref q16])), ((z90 0), .inl (cA, 8, .inl (fun _ => 0)))] H := hP
  have hD : va_D A [(h0, .inr (0, [.ref q5, .ref q16, .ref q27, .ref q46, .null])), (q5, .inr (1, [.ref (z9 0), .ref (z9 1), .int 0, .int 0, .int 0, .int 0, .int 0, .int 0, .int 0, .int 0, .int 0])), ((z9 0), .inl (cA, 8192, .inl (fun _ => 0))), ((z9 1), .inl (cA, 1024, .inl (fun _ => 0))), (q16, .inr (2, [.ref (z20 0), .int 0, .int 0, .int 0, .int 0, .int 0, .int 0, .int 0])), ((z20 0), .inl (cA, 256, .inl (fun _ => 0))), (q27, .inr (3, [.ref (z39 0), .ref (z39 1), .ref (z39 2), .ref (z39 3), .ref q5, .ref q16])), ((z39 0), .inl (cA, 8192, .inl (fun _ => 0))), ((z39 1), .inl (cA, 160, .inl (fun _ => 0))), ((z39 2), .inl (cA, 1024, .inl (fun _ => 0))), ((z39 3), .inl (cA, 128, .inl (fun _ => 0))), (q46, .inr (4, [.ref (z71 0), .ref (z39 0), .ref (z39 1), .ref (z20 0), .ref (z71 1), .ref (z71 2), .ref (z71 3)])), ((z71 0), .inl (cA, 160, .inl (fun _ => 0))), ((z71 1), .inl (cA, 160, .inl (fun _ => 0))), ((z71 2), .inl (cA, 160, .inl (fun _ => 0))), ((z71 3), .inl (cA, 160, .inl (fun _ => 0))), (q78, .inr (5, [.int 0, .int 0, .int 0, .int 0, .int 0, .int 0, .ref (z90 0), .int 0, .int 0, .int 0, .int 0, .ref q27, .ref q16])), ((z90 0), .inl (cA, 8, .inl (fun _ => 0)))] := hD
  refine W.widen (k := 17) (n := 19669) (by omega) (by omega) ?_
  refine va_putF (D := D) (ci := 0) (v := .ref q78) (ty := .object "TileConsole$Processor") (C := R_T) (T := F_T) (N := 5) hx hb hts i_T ty_T ty_T_ok n_T hown hK hP hD hS 0 rfl rfl 4 (by decide) (hts _ k_53) (fun _ h9 => h9) rfl hin rfl (by decide +kernel) rfl rfl (Nat.le_of_ble_eq_true rfl) d_T_init_93 (fun H locs hP hD hS => ?_)
  have hP : va_P D vcl [(h0, .inr (0, [.ref q5, .ref q16, .ref q27, .ref q46, .ref q78])), (q5, .inr (1, [.ref (z9 0), .ref (z9 1), .int 0, .int 0, .int 0, .int 0, .int 0, .int 0, .int 0, .int 0, .int 0])), ((z9 0), .inl (cA, 8192, .inl (fun _ => 0))), ((z9 1), .inl (cA, 1024, .inl (fun _ => 0))), (q16, .inr (2, [.ref (z20 0), .int 0, .int 0, .int 0, .int 0, .int 0, .int 0, .int 0])), ((z20 0), .inl (cA, 256, .inl (fun _ => 0))), (q27, .inr (3, [.ref (z39 0), .ref (z39 1), .ref (z39 2), .ref (z39 3), .ref q5, .ref q16])), ((z39 0), .inl (cA, 8192, .inl (fun _ => 0))), ((z39 1), .inl (cA, 160, .inl (fun _ => 0))), ((z39 2), .inl (cA, 1024, .inl (fun _ => 0))), ((z39 3), .inl (cA, 128, .inl (fun _ => 0))), (q46, .inr (4, [.ref (z71 0), .ref (z39 0), .ref (z39 1), .ref (z20 0), .ref (z71 1), .ref (z71 2), .ref (z71 3)])), ((z71 0), .inl (cA, 160, .inl (fun _ => 0))), ((z71 1), .inl (cA, 160, .inl (fun _ => 0))), ((z71 2), .inl (cA, 160, .inl (fun _ => 0))), ((z71 3), .inl (cA, 160, .inl (fun _ => 0))), (q78, .inr (5, [.int 0, .int 0, .int 0, .int 0, .int 0, .int 0, .ref (z90 0), .int 0, .int 0, .int 0, .int 0, .ref q27, .ref q16])), ((z90 0), .inl (cA, 8, .inl (fun _ => 0)))] H := hP
  have hD : va_D A [(h0, .inr (0, [.ref q5, .ref q16, .ref q27, .ref q46, .ref q78])), (q5, .inr (1, [.ref (z9 0), .ref (z9 1), .int 0, .int 0, .int 0, .int 0, .int 0, .int 0, .int 0, .int 0, .int 0])), ((z9 0), .inl (cA, 8192, .inl (fun _ => 0))), ((z9 1), .inl (cA, 1024, .inl (fun _ => 0))), (q16, .inr (2, [.ref (z20 0), .int 0, .int 0, .int 0, .int 0, .int 0, .int 0, .int 0])), ((z20 0), .inl (cA, 256, .inl (fun _ => 0))), (q27, .inr (3, [.ref (z39 0), .ref (z39 1), .ref (z39 2), .ref (z39 3), .ref q5, .ref q16])), ((z39 0), .inl (cA, 8192, .inl (fun _ => 0))), ((z39 1), .inl (cA, 160, .inl (fun _ => 0))), ((z39 2), .inl (cA, 1024, .inl (fun _ => 0))), ((z39 3), .inl (cA, 128, .inl (fun _ => 0))), (q46, .inr (4, [.ref (z71 0), .ref (z39 0), .ref (z39 1), .ref (z20 0), .ref (z71 1), .ref (z71 2), .ref (z71 3)])), ((z71 0), .inl (cA, 160, .inl (fun _ => 0))), ((z71 1), .inl (cA, 160, .inl (fun _ => 0))), ((z71 2), .inl (cA, 160, .inl (fun _ => 0))), ((z71 3), .inl (cA, 160, .inl (fun _ => 0))), (q78, .inr (5, [.int 0, .int 0, .int 0, .int 0, .int 0, .int 0, .ref (z90 0), .int 0, .int 0, .int 0, .int 0, .ref q27, .ref q16])), ((z90 0), .inl (cA, 8, .inl (fun _ => 0)))] := hD
  refine lv_aload_n hx hb d_T_init_96 rfl (lv_at hl 0 rfl) ?_
  have hPz : va_P D vcl (ceC (fun j => [h0, q5, q16, q27, q46, q78, (z9 0), (z9 1), (z20 0), (z39 0), (z39 1), (z39 2), (z39 3), (z71 0), (z71 1), (z71 2), (z71 3), (z90 0)].getD j 0) cA (fun _ _ => 0)) H := hP.sub [0, 1, 4, 6, 11, 16, 2, 3, 5, 7, 8, 9, 10, 12, 13, 14, 15, 17] rfl
  have hDz : va_D A (ceC (fun j => [h0, q5, q16, q27, q46, q78, (z9 0), (z9 1), (z20 0), (z39 0), (z39 1), (z39 2), (z39 3), (z71 0), (z71 1), (z71 2), (z71 3), (z90 0)].getD j 0) cA (fun _ _ => 0)) := hD.sub [0, 1, 4, 6, 11, 16, 2, 3, 5, 7, 8, 9, 10, 12, 13, 14, 15, 17] (by decide) rfl
  have h00 : (fun j : Nat => [h0, q5, q16, q27, q46, q78, (z9 0), (z9 1), (z20 0), (z39 0), (z39 1), (z39 2), (z39 3), (z71 0), (z71 1), (z71 2), (z71 3), (z90 0)].getD j 0) 0 = h0 := rfl
  generalize (fun j : Nat => [h0, q5, q16, q27, q46, q78, (z9 0), (z9 1), (z20 0), (z39 0), (z39 1), (z39 2), (z39 3), (z71 0), (z71 1), (z71 2), (z71 3), (z90 0)].getD j 0) = ad at hPz hDz h00
  have hDM : ∀ M, va_D A (ceC ad cA M) := fun M => va_D_fst hDz (ceC_fix _ _)
  refine W.eq (g2 := F0 m 97 ls [.ref (ad 0)]) (by rw [h00]) ?_
  refine hc_retC (As := []) (b := ad 0) (rest := []) (j := 0) ⟨S, hK, hDM, hA, hSx⟩ ⟨hPz, hS⟩ (ct_T_startAnew (fun _ _ => 0) Q hk) k_54 mw_T_startAnew rfl ⟨rfl, rfl, Nat.le_of_ble_eq_true rfl, Nat.le_of_ble_eq_true rfl⟩ ⟨Nat.le_of_ble_eq_true rfl, Nat.le_of_ble_eq_true rfl⟩ rfl rfl rfl hl.1 rfl (Nat.le_of_ble_eq_true rfl) d_T_init_97 fun r M' H locs hq hw hkp => ?_
  obtain ⟨rfl, hq⟩ := hq
  exact W.vret hx hb hr (fun t ht hW => ⟨ad, M', rfl, h00, hq, by rw [ht]; exact hw.1, hDM M', hw.2.F ht⟩) hw.2.2.2 d_T_init_100
abbrev b_R_init : ByteArray := prog_8_method_1_code
def y_R_init : MethodName := ⟨"TileConsoleModel", "<init>", "()V"⟩
def ws_R_init : List Cond := .code y_R_init b_R_init 1 none :: WA
theorem d_R_init_0 : decode b_R_init 0 = .ok (.aload_n 0, 1) := by decide +kernel
theorem d_R_init_1 : decode b_R_init 1 = .ok (.invokespecial 1, 3) := by decide +kernel
theorem d_R_init_4 : decode b_R_init 4 = .ok (.aload_n 0, 1) := by decide +kernel
theorem d_R_init_5 : decode b_R_init 5 = .ok (.sipush 8192, 3) := by decide +kernel
theorem d_R_init_8 : decode b_R_init 8 = .ok (.newarray .int, 2) := by decide +kernel
theorem d_R_init_10 : decode b_R_init 10 = .ok (.putfield 7, 3) := by decide +kernel
theorem d_R_init_13 : decode b_R_init 13 = .ok (.aload_n 0, 1) := by decide +kernel
theorem d_R_init_14 : decode b_R_init 14 = .ok (.sipush 1024, 3) := by decide +kernel
theorem d_R_init_17 : decode b_R_init 17 = .ok (.newarray .int, 2) := by decide +kernel
theorem d_R_init_19 : decode b_R_init 19 = .ok (.putfield 13, 3) := by decide +kernel
theorem d_R_init_22 : decode b_R_init 22 = .ok (.aload_n 0, 1) := by decide +kernel
theorem d_R_init_23 : decode b_R_init 23 = .ok (.sipush 8192, 3) := by decide +kernel
theorem d_R_init_26 : decode b_R_init 26 = .ok (.newarray .int, 2) := by decide +kernel
theorem d_R_init_28 : decode b_R_init 28 = .ok (.putfield 16, 3) := by decide +kernel
theorem d_R_init_31 : decode b_R_init 31 = .ok (.aload_n 0, 1) := by decide +kernel
theorem d_R_init_32 : decode b_R_init 32 = .ok (.sipush 1024, 3) := by decide +kernel
theorem d_R_init_35 : decode b_R_init 35 = .ok (.newarray .int, 2) := by decide +kernel
theorem d_R_init_37 : decode b_R_init 37 = .ok (.putfield 19, 3) := by decide +kernel
theorem d_R_init_40 : decode b_R_init 40 = .ok (.aload_n 0, 1) := by decide +kernel
theorem d_R_init_41 : decode b_R_init 41 = .ok (.sipush 160, 3) := by decide +kernel
theorem d_R_init_44 : decode b_R_init 44 = .ok (.newarray .int, 2) := by decide +kernel
theorem d_R_init_46 : decode b_R_init 46 = .ok (.putfield 22, 3) := by decide +kernel
theorem d_R_init_49 : decode b_R_init 49 = .ok (.aload_n 0, 1) := by decide +kernel
theorem d_R_init_50 : decode b_R_init 50 = .ok (.bipush 127, 2) := by decide +kernel
theorem d_R_init_52 : decode b_R_init 52 = .ok (.newarray .int, 2) := by decide +kernel
theorem d_R_init_54 : decode b_R_init 54 = .ok (.putfield 25, 3) := by decide +kernel
theorem d_R_init_57 : decode b_R_init 57 = .ok (.aload_n 0, 1) := by decide +kernel
theorem d_R_init_58 : decode b_R_init 58 = .ok (.sipush 160, 3) := by decide +kernel
theorem d_R_init_61 : decode b_R_init 61 = .ok (.newarray .int, 2) := by decide +kernel
theorem d_R_init_63 : decode b_R_init 63 = .ok (.putfield 28, 3) := by decide +kernel
theorem d_R_init_66 : decode b_R_init 66 = .ok (.aload_n 0, 1) := by decide +kernel
theorem d_R_init_67 : decode b_R_init 67 = .ok (.bipush 8, 2) := by decide +kernel
theorem d_R_init_69 : decode b_R_init 69 = .ok (.newarray .int, 2) := by decide +kernel
theorem d_R_init_71 : decode b_R_init 71 = .ok (.putfield 31, 3) := by decide +kernel
theorem d_R_init_74 : decode b_R_init 74 = .ok (.aload_n 0, 1) := by decide +kernel
theorem d_R_init_75 : decode b_R_init 75 = .ok (.invokevirtual 34, 3) := by decide +kernel
theorem d_R_init_78 : decode b_R_init 78 = .ok (.return_, 1) := by decide +kernel
set_option maxRecDepth 100000 in
theorem kc_R_init : Cond.code y_R_init b_R_init 1 none ∈ WA := WAm 905 rfl (by decide +kernel)
set_option maxRecDepth 100000 in
theorem ki_R_init : Cond.instanceMethod y_R_init ∈ WA := WAm 904 (by decide +kernel) (by decide +kernel)
def rm_R_init : Room := { frames := 2, cells := 8, slots := 18887, locals := 41 }
theorem ij_R {l : Launch} {D : va_G} {cA : ClassId} {tb : Nat → Nat} (h0 : Nat) (Q : Mem → Prop) (hk : wp_R_reset (fun _ _ => 0) Q) : Inj l y_R_init ws_R_init rm_R_init D cA tb [.ref h0] h0 [(h0, .inr (6, [.int 0, .null, .null, .null, .null, .null, .null, .null, .int 0, .int 0, .int 0, .int 0, .int 0, .int 0, .int 0, .int 0, .int 0, .null, .int 0, .int 0, .int 0, .int 0, .int 0, .int 0, .int 0, .int 0, .int 0, .int 0, .int 0, .int 0, .int 0, .int 0, .int 0, .int 0, .int 0, .int 0, .int 0, .int 0, .int 0, .int 0, .int 0, .int 0, .int 0, .int 0, .int 0, .int 0, .int 0, .int 0, .int 0, .int 0, .int 0]))] (fun ad M => ceR ad cA M) Q 8 18887 := by
  intro sz
  refine Met.ofW (cc := b_R_init) (maxL := 1) (ret := none) (by decide) rfl ?_
  intro p e s m args below meth c s₁ B hml hv
  obtain ⟨rfl, hsz, hP, hK, hD0, hSx, hTn⟩ := hv
  have hr := B.returns
  have hlocks := B.notSynchronized
  have hin : meth.name = "<init>" := (name_of_methodNamed B.named B.method).1
  have hts : ∀ w ∈ WA, w.before _ s = true := fun w h => atoms_spec (ws := ws_R_init) B.pre w (List.mem_cons_of_mem _ h)
  have S : CallFix p m c b_R_init 1 s _ WA "TileConsoleModel" := ⟨B.exec, B.bytes, hml, findClass_of_methodNamed B.named, hts⟩
  subst hsz
  have hD := hD0.self (sz := s.heap.size)
  generalize hAe : va_A [(h0, .inr (6, [.int 0, .null, .null, .null, .null, .null, .null, .null, .int 0, .int 0, .int 0, .int 0, .int 0, .int 0, .int 0, .int 0, .int 0, .null, .int 0, .int 0, .int 0, .int 0, .int 0, .int 0, .int 0, .int 0, .int 0, .int 0, .int 0, .int 0, .int 0, .int 0, .int 0, .int 0, .int 0, .int 0, .int 0, .int 0, .int 0, .int 0, .int 0, .int 0, .int 0, .int 0, .int 0, .int 0, .int 0, .int 0, .int 0, .int 0, .int 0]))] s.heap.size = A at hD hSx ⊢
  have hA : ∀ q : Nat, s.heap.size ≤ q → A q := fun q h => by rw [← hAe]; exact Or.inr h
  have hS : va_S A s.heap s.heap [] := va_S.rf
  have hl := lv_entry [.ref h0] (n := 1) (Nat.le_of_ble_eq_true rfl)
  rw [lg_entry_eq]
  generalize (lg_sl [.ref h0] ++ List.replicate (1 - (lg_sl [.ref h0]).length) Slot.unset).toArray = ls at hl ⊢
  have hl : lv_has ls 1 [(0, .ref h0)] := hl
  have hx := S.1
  have hb := S.2.1
  have hown := S.2.2.2.1
  refine lv_aload_n hx hb d_R_init_0 rfl (lv_at hl 0 rfl) ?_
  refine ob_init S k_55 k_1 k_2 hl.1 d_R_init_1 (Nat.le_of_ble_eq_true rfl) ⟨Nat.le_of_ble_eq_true rfl, Nat.le_of_ble_eq_true rfl⟩ ?_
  refine lv_aload_n hx hb d_R_init_4 rfl (lv_at hl 0 rfl) ?_
  refine lv_sipush hx hb d_R_init_5 rfl ?_
  refine nw_i (N := 8192) S k_3 hK hP hD hS hA (by decide) (by decide) (Nat.le_of_ble_eq_true rfl) (Nat.le_of_ble_eq_true rfl) (Nat.le_of_ble_eq_true rfl) d_R_init_8 fun q8 H hP hD hS => ?_
  have hP : va_P D vcl [(h0, .inr (6, [.int 0, .null, .null, .null, .null, .null, .null, .null, .int 0, .int 0, .int 0, .int 0, .int 0, .int 0, .int 0, .int 0, .int 0, .null, .int 0, .int 0, .int 0, .int 0, .int 0, .int 0, .int 0, .int 0, .int 0, .int 0, .int 0, .int 0, .int 0, .int 0, .int 0, .int 0, .int 0, .int 0, .int 0, .int 0, .int 0, .int 0, .int 0, .int 0, .int 0, .int 0, .int 0, .int 0, .int 0, .int 0, .int 0, .int 0, .int 0])), (q8, .inl (cA, 8192, .inl (fun _ => 0)))] H := hP
  have hD : va_D A [(h0, .inr (6, [.int 0, .null, .null, .null, .null, .null, .null, .null, .int 0, .int 0, .int 0, .int 0, .int 0, .int 0, .int 0, .int 0, .int 0, .null, .int 0, .int 0, .int 0, .int 0, .int 0, .int 0, .int 0, .int 0, .int 0, .int 0, .int 0, .int 0, .int 0, .int 0, .int 0, .int 0, .int 0, .int 0, .int 0, .int 0, .int 0, .int 0, .int 0, .int 0, .int 0, .int 0, .int 0, .int 0, .int 0, .int 0, .int 0, .int 0, .int 0])), (q8, .inl (cA, 8192, .inl (fun _ => 0)))] := hD
  refine W.widen (k := 1) (n := 8192) (by omega) (by omega) ?_
  refine va_putF (D := D) (ci := 6) (v := .ref q8) (ty := .array .int) (C := R_R) (T := F_R) (N := 51) hx hb hts i_R ty_R ty_R_ok n_R hown hK hP hD hS 0 rfl rfl 1 (by decide) (hts _ k_56) (fun _ h9 => h9) rfl hin rfl (by decide +kernel) rfl rfl (Nat.le_of_ble_eq_true rfl) d_R_init_10 (fun H locs hP hD hS => ?_)
  have hP : va_P D vcl [(h0, .inr (6, [.int 0, .ref q8, .null, .null, .null, .null, .null, .null, .int 0, .int 0, .int 0, .int 0, .int 0, .int 0, .int 0, .int 0, .int 0, .null, .int 0, .int 0, .int 0, .int 0, .int 0, .int 0, .int 0, .int 0, .int 0, .int 0, .int 0, .int 0, .int 0, .int 0, .int 0, .int 0, .int 0, .int 0, .int 0, .int 0, .int 0, .int 0, .int 0, .int 0, .int 0, .int 0, .int 0, .int 0, .int 0, .int 0, .int 0, .int 0, .int 0])), (q8, .inl (cA, 8192, .inl (fun _ => 0)))] H := hP
  have hD : va_D A [(h0, .inr (6, [.int 0, .ref q8, .null, .null, .null, .null, .null, .null, .int 0, .int 0, .int 0, .int 0, .int 0, .int 0, .int 0, .int 0, .int 0, .null, .int 0, .int 0, .int 0, .int 0, .int 0, .int 0, .int 0, .int 0, .int 0, .int 0, .int 0, .int 0, .int 0, .int 0, .int 0, .int 0, .int 0, .int 0, .int 0, .int 0, .int 0, .int 0, .int 0, .int 0, .int 0, .int 0, .int 0, .int 0, .int 0, .int 0, .int 0, .int 0, .int 0])), (q8, .inl (cA, 8192, .inl (fun _ => 0)))] := hD
  refine lv_aload_n hx hb d_R_init_13 rfl (lv_at hl 0 rfl) ?_
  refine lv_sipush hx hb d_R_init_14 rfl ?_
  refine nw_i (N := 1024) S k_3 hK hP hD hS hA (by decide) (by decide) (Nat.le_of_ble_eq_true rfl) (Nat.le_of_ble_eq_true rfl) (Nat.le_of_ble_eq_true rfl) d_R_init_17 fun q17 H hP hD hS => ?_
  have hP : va_P D vcl [(h0, .inr (6, [.int 0, .ref q8, .null, .null, .null, .null, .null, .null, .int 0, .int 0, .int 0, .int 0, .int 0, .int 0, .int 0, .int 0, .int 0, .null, .int 0, .int 0, .int 0, .int 0, .int 0, .int 0, .int 0, .int 0, .int 0, .int 0, .int 0, .int 0, .int 0, .int 0, .int 0, .int 0, .int 0, .int 0, .int 0, .int 0, .int 0, .int 0, .int 0, .int 0, .int 0, .int 0, .int 0, .int 0, .int 0, .int 0, .int 0, .int 0, .int 0])), (q8, .inl (cA, 8192, .inl (fun _ => 0))), (q17, .inl (cA, 1024, .inl (fun _ => 0)))] H := hP
  have hD : va_D A [(h0, .inr (6, [.int 0, .ref q8, .null, .null, .null, .null, .null, .null, .int 0, .int 0, .int 0, .int 0, .int 0, .int 0, .int 0, .int 0, .int 0, .null, .int 0, .int 0, .int 0, .int 0, .int 0, .int 0, .int 0, .int 0, .int 0, .int 0, .int 0, .int 0, .int 0, .int 0, .int 0, .int 0, .int 0, .int 0, .int 0, .int 0, .int 0, .int 0, .int 0, .int 0, .int 0, .int 0, .int 0, .int 0, .int 0, .int 0, .int 0, .int 0, .int 0])), (q8, .inl (cA, 8192, .inl (fun _ => 0))), (q17, .inl (cA, 1024, .inl (fun _ => 0)))] := hD
  refine W.widen (k := 2) (n := 9216) (by omega) (by omega) ?_
  refine va_putF (D := D) (ci := 6) (v := .ref q17) (ty := .array .int) (C := R_R) (T := F_R) (N := 51) hx hb hts i_R ty_R ty_R_ok n_R hown hK hP hD hS 0 rfl rfl 2 (by decide) (hts _ k_57) (fun _ h9 => h9) rfl hin rfl (by decide +kernel) rfl rfl (Nat.le_of_ble_eq_true rfl) d_R_init_19 (fun H locs hP hD hS => ?_)
  have hP : va_P D vcl [(h0, .inr (6, [.int 0, .ref q8, .ref q17, .null, .null, .null, .null, .null, .int 0, .int 0, .int 0, .int 0, .int 0, .int 0, .int 0, .int 0, .int 0, .null, .int 0, .int 0, .int 0, .int 0, .int 0, .int 0, .int 0, .int 0, .int 0, .int 0, .int 0, .int 0, .int 0, .int 0, .int 0, .int 0, .int 0, .int 0, .int 0, .int 0, .int 0, .int 0, .int 0, .int 0, .int 0, .int 0, .int 0, .int 0, .int 0, .int 0, .int 0, .int 0, .int 0])), (q8, .inl (cA, 8192, .inl (fun _ => 0))), (q17, .inl (cA, 1024, .inl (fun _ => 0)))] H := hP
  have hD : va_D A [(h0, .inr (6, [.int 0, .ref q8, .ref q17, .null, .null, .null, .null, .null, .int 0, .int 0, .int 0, .int 0, .int 0, .int 0, .int 0, .int 0, .int 0, .null, .int 0, .int 0, .int 0, .int 0, .int 0, .int 0, .int 0, .int 0, .int 0, .int 0, .int 0, .int 0, .int 0, .int 0, .int 0, .int 0, .int 0, .int 0, .int 0, .int 0, .int 0, .int 0, .int 0, .int 0, .int 0, .int 0, .int 0, .int 0, .int 0, .int 0, .int 0, .int 0, .int 0])), (q8, .inl (cA, 8192, .inl (fun _ => 0))), (q17, .inl (cA, 1024, .inl (fun _ => 0)))] := hD
  refine lv_aload_n hx hb d_R_init_22 rfl (lv_at hl 0 rfl) ?_
  refine lv_sipush hx hb d_R_init_23 rfl ?_
  refine nw_i (N := 8192) S k_3 hK hP hD hS hA (by decide) (by decide) (Nat.le_of_ble_eq_true rfl) (Nat.le_of_ble_eq_true rfl) (Nat.le_of_ble_eq_true rfl) d_R_init_26 fun q26 H hP hD hS => ?_
  have hP : va_P D vcl [(h0, .inr (6, [.int 0, .ref q8, .ref q17, .null, .null, .null, .null, .null, .int 0, .int 0, .int 0, .int 0, .int 0, .int 0, .int 0, .int 0, .int 0, .null, .int 0, .int 0, .int 0, .int 0, .int 0, .int 0, .int 0, .int 0, .int 0, .int 0, .int 0, .int 0, .int 0, .int 0, .int 0, .int 0, .int 0, .int 0, .int 0, .int 0, .int 0, .int 0, .int 0, .int 0, .int 0, .int 0, .int 0, .int 0, .int 0, .int 0, .int 0, .int 0, .int 0])), (q8, .inl (cA, 8192, .inl (fun _ => 0))), (q17, .inl (cA, 1024, .inl (fun _ => 0))), (q26, .inl (cA, 8192, .inl (fun _ => 0)))] H := hP
  have hD : va_D A [(h0, .inr (6, [.int 0, .ref q8, .ref q17, .null, .null, .null, .null, .null, .int 0, .int 0, .int 0, .int 0, .int 0, .int 0, .int 0, .int 0, .int 0, .null, .int 0, .int 0, .int 0, .int 0, .int 0, .int 0, .int 0, .int 0, .int 0, .int 0, .int 0, .int 0, .int 0, .int 0, .int 0, .int 0, .int 0, .int 0, .int 0, .int 0, .int 0, .int 0, .int 0, .int 0, .int 0, .int 0, .int 0, .int 0, .int 0, .int 0, .int 0, .int 0, .int 0])), (q8, .inl (cA, 8192, .inl (fun _ => 0))), (q17, .inl (cA, 1024, .inl (fun _ => 0))), (q26, .inl (cA, 8192, .inl (fun _ => 0)))] := hD
  refine W.widen (k := 3) (n := 17408) (by omega) (by omega) ?_
  refine va_putF (D := D) (ci := 6) (v := .ref q26) (ty := .array .int) (C := R_R) (T := F_R) (N := 51) hx hb hts i_R ty_R ty_R_ok n_R hown hK hP hD hS 0 rfl rfl 3 (by decide) (hts _ k_58) (fun _ h9 => h9) rfl hin rfl (by decide +kernel) rfl rfl (Nat.le_of_ble_eq_true rfl) d_R_init_28 (fun H locs hP hD hS => ?_)
  have hP : va_P D vcl [(h0, .inr (6, [.int 0, .ref q8, .ref q17, .ref q26, .null, .null, .null, .null, .int 0, .int 0, .int 0, .int 0, .int 0, .int 0, .int 0, .int 0, .int 0, .null, .int 0, .int 0, .int 0, .int 0, .int 0, .int 0, .int 0, .int 0, .int 0, .int 0, .int 0, .int 0, .int 0, .int 0, .int 0, .int 0, .int 0, .int 0, .int 0, .int 0, .int 0, .int 0, .int 0, .int 0, .int 0, .int 0, .int 0, .int 0, .int 0, .int 0, .int 0, .int 0, .int 0])), (q8, .inl (cA, 8192, .inl (fun _ => 0))), (q17, .inl (cA, 1024, .inl (fun _ => 0))), (q26, .inl (cA, 8192, .inl (fun _ => 0)))] H := hP
  have hD : va_D A [(h0, .inr (6, [.int 0, .ref q8, .ref q17, .ref q26, .null, .null, .null, .null, .int 0, .int 0, .int 0, .int 0, .int 0, .int 0, .int 0, .int 0, .int 0, .null, .int 0, .int 0, .int 0, .int 0, .int 0, .int 0, .int 0, .int 0, .int 0, .int 0, .int 0, .int 0, .int 0, .int 0, .int 0, .int 0, .int 0, .int 0, .int 0, .int 0, .int 0, .int 0, .int 0, .int 0, .int 0, .int 0, .int 0, .int 0, .int 0, .int 0, .int 0, .int 0, .int 0])), (q8, .inl (cA, 8192, .inl (fun _ => 0))), (q17, .inl (cA, 1024, .inl (fun _ => 0))), (q26, .inl (cA, 8192, .inl (fun _ => 0)))] := hD
  refine lv_aload_n hx hb d_R_init_31 rfl (lv_at hl 0 rfl) ?_
  refine lv_sipush hx hb d_R_init_32 rfl ?_
  refine nw_i (N := 1024) S k_3 hK hP hD hS hA (by decide) (by decide) (Nat.le_of_ble_eq_true rfl) (Nat.le_of_ble_eq_true rfl) (Nat.le_of_ble_eq_true rfl) d_R_init_35 fun q35 H hP hD hS => ?_
  have hP : va_P D vcl [(h0, .inr (6, [.int 0, .ref q8, .ref q17, .ref q26, .null, .null, .null, .null, .int 0, .int 0, .int 0, .int 0, .int 0, .int 0, .int 0, .int 0, .int 0, .null, .int 0, .int 0, .int 0, .int 0, .int 0, .int 0, .int 0, .int 0, .int 0, .int 0, .int 0, .int 0, .int 0, .int 0, .int 0, .int 0, .int 0, .int 0, .int 0, .int 0, .int 0, .int 0, .int 0, .int 0, .int 0, .int 0, .int 0, .int 0, .int 0, .int 0, .int 0, .int 0, .int 0])), (q8, .inl (cA, 8192, .inl (fun _ => 0))), (q17, .inl (cA, 1024, .inl (fun _ => 0))), (q26, .inl (cA, 8192, .inl (fun _ => 0))), (q35, .inl (cA, 1024, .inl (fun _ => 0)))] H := hP
  have hD : va_D A [(h0, .inr (6, [.int 0, .ref q8, .ref q17, .ref q26, .null, .null, .null, .null, .int 0, .int 0, .int 0, .int 0, .int 0, .int 0, .int 0, .int 0, .int 0, .null, .int 0, .int 0, .int 0, .int 0, .int 0, .int 0, .int 0, .int 0, .int 0, .int 0, .int 0, .int 0, .int 0, .int 0, .int 0, .int 0, .int 0, .int 0, .int 0, .int 0, .int 0, .int 0, .int 0, .int 0, .int 0, .int 0, .int 0, .int 0, .int 0, .int 0, .int 0, .int 0, .int 0])), (q8, .inl (cA, 8192, .inl (fun _ => 0))), (q17, .inl (cA, 1024, .inl (fun _ => 0))), (q26, .inl (cA, 8192, .inl (fun _ => 0))), (q35, .inl (cA, 1024, .inl (fun _ => 0)))] := hD
  refine W.widen (k := 4) (n := 18432) (by omega) (by omega) ?_
  refine va_putF (D := D) (ci := 6) (v := .ref q35) (ty := .array .int) (C := R_R) (T := F_R) (N := 51) hx hb hts i_R ty_R ty_R_ok n_R hown hK hP hD hS 0 rfl rfl 4 (by decide) (hts _ k_59) (fun _ h9 => h9) rfl hin rfl (by decide +kernel) rfl rfl (Nat.le_of_ble_eq_true rfl) d_R_init_37 (fun H locs hP hD hS => ?_)
  have hP : va_P D vcl [(h0, .inr (6, [.int 0, .ref q8, .ref q17, .ref q26, .ref q35, .null, .null, .null, .int 0, .int 0, .int 0, .int 0, .int 0, .int 0, .int 0, .int 0, .int 0, .null, .int 0, .int 0, .int 0, .int 0, .int 0, .int 0, .int 0, .int 0, .int 0, .int 0, .int 0, .int 0, .int 0, .int 0, .int 0, .int 0, .int 0, .int 0, .int 0, .int 0, .int 0, .int 0, .int 0, .int 0, .int 0, .int 0, .int 0, .int 0, .int 0, .int 0, .int 0, .int 0, .int 0])), (q8, .inl (cA, 8192, .inl (fun _ => 0))), (q17, .inl (cA, 1024, .inl (fun _ => 0))), (q26, .inl (cA, 8192, .inl (fun _ => 0))), (q35, .inl (cA, 1024, .inl (fun _ => 0)))] H := hP
  have hD : va_D A [(h0, .inr (6, [.int 0, .ref q8, .ref q17, .ref q26, .ref q35, .null, .null, .null, .int 0, .int 0, .int 0, .int 0, .int 0, .int 0, .int 0, .int 0, .int 0, .null, .int 0, .int 0, .int 0, .int 0, .int 0, .int 0, .int 0, .int 0, .int 0, .int 0, .int 0, .int 0, .int 0, .int 0, .int 0, .int 0, .int 0, .int 0, .int 0, .int 0, .int 0, .int 0, .int 0, .int 0, .int 0, .int 0, .int 0, .int 0, .int 0, .int 0, .int 0, .int 0, .int 0])), (q8, .inl (cA, 8192, .inl (fun _ => 0))), (q17, .inl (cA, 1024, .inl (fun _ => 0))), (q26, .inl (cA, 8192, .inl (fun _ => 0))), (q35, .inl (cA, 1024, .inl (fun _ => 0)))] := hD
  refine lv_aload_n hx hb d_R_init_40 rfl (lv_at hl 0 rfl) ?_
  refine lv_sipush hx hb d_R_init_41 rfl ?_
  refine nw_i (N := 160) S k_3 hK hP hD hS hA (by decide) (by decide) (Nat.le_of_ble_eq_true rfl) (Nat.le_of_ble_eq_true rfl) (Nat.le_of_ble_eq_true rfl) d_R_init_44 fun q44 H hP hD hS => ?_
  have hP : va_P D vcl [(h0, .inr (6, [.int 0, .ref q8, .ref q17, .ref q26, .ref q35, .null, .null, .null, .int 0, .int 0, .int 0, .int 0, .int 0, .int 0, .int 0, .int 0, .int 0, .null, .int 0, .int 0, .int 0, .int 0, .int 0, .int 0, .int 0, .int 0, .int 0, .int 0, .int 0, .int 0, .int 0, .int 0, .int 0, .int 0, .int 0, .int 0, .int 0, .int 0, .int 0, .int 0, .int 0, .int 0, .int 0, .int 0, .int 0, .int 0, .int 0, .int 0, .int 0, .int 0, .int 0])), (q8, .inl (cA, 8192, .inl (fun _ => 0))), (q17, .inl (cA, 1024, .inl (fun _ => 0))), (q26, .inl (cA, 8192, .inl (fun _ => 0))), (q35, .inl (cA, 1024, .inl (fun _ => 0))), (q44, .inl (cA, 160, .inl (fun _ => 0)))] H := hP
  have hD : va_D A [(h0, .inr (6, [.int 0, .ref q8, .ref q17, .ref q26, .ref q35, .null, .null, .null, .int 0, .int 0, .int 0, .int 0, .int 0, .int 0, .int 0, .int 0, .int 0, .null, .int 0, .int 0, .int 0, .int 0, .int 0, .int 0, .int 0, .int 0, .int 0, .int 0, .int 0, .int 0, .int 0, .int 0, .int 0, .int 0, .int 0, .int 0, .int 0, .int 0, .int 0, .int 0, .int 0, .int 0, .int 0, .int 0, .int 0, .int 0, .int 0, .int 0, .int 0, .int 0, .int 0])), (q8, .inl (cA, 8192, .inl (fun _ => 0))), (q17, .inl (cA, 1024, .inl (fun _ => 0))), (q26, .inl (cA, 8192, .inl (fun _ => 0))), (q35, .inl (cA, 1024, .inl (fun _ => 0))), (q44, .inl (cA, 160, .inl (fun _ => 0)))] := hD
  refine W.widen (k := 5) (n := 18592) (by omega) (by omega) ?_
  refine va_putF (D := D) (ci := 6) (v := .ref q44) (ty := .array .int) (C := R_R) (T := F_R) (N := 51) hx hb hts i_R ty_R ty_R_ok n_R hown hK hP hD hS 0 rfl rfl 5 (by decide) (hts _ k_60) (fun _ h9 => h9) rfl hin rfl (by decide +kernel) rfl rfl (Nat.le_of_ble_eq_true rfl) d_R_init_46 (fun H locs hP hD hS => ?_)
  have hP : va_P D vcl [(h0, .inr (6, [.int 0, .ref q8, .ref q17, .ref q26, .ref q35, .ref q44, .null, .null, .int 0, .int 0, .int 0, .int 0, .int 0, .int 0, .int 0, .int 0, .int 0, .null, .int 0, .int 0, .int 0, .int 0, .int 0, .int 0, .int 0, .int 0, .int 0, .int 0, .int 0, .int 0, .int 0, .int 0, .int 0, .int 0, .int 0, .int 0, .int 0, .int 0, .int 0, .int 0, .int 0, .int 0, .int 0, .int 0, .int 0, .int 0, .int 0, .int 0, .int 0, .int 0, .int 0])), (q8, .inl (cA, 8192, .inl (fun _ => 0))), (q17, .inl (cA, 1024, .inl (fun _ => 0))), (q26, .inl (cA, 8192, .inl (fun _ => 0))), (q35, .inl (cA, 1024, .inl (fun _ => 0))), (q44, .inl (cA, 160, .inl (fun _ => 0)))] H := hP
  have hD : va_D A [(h0, .inr (6, [.int 0, .ref q8, .ref q17, .ref q26, .ref q35, .ref q44, .null, .null, .int 0, .int 0, .int 0, .int 0, .int 0, .int 0, .int 0, .int 0, .int 0, .null, .int 0, .int 0, .int 0, .int 0, .int 0, .int 0, .int 0, .int 0, .int 0, .int 0, .int 0, .int 0, .int 0, .int 0, .int 0, .int 0, .int 0, .int 0, .int 0, .int 0, .int 0, .int 0, .int 0, .int 0, .int 0, .int 0, .int 0, .int 0, .int 0, .int 0, .int 0, .int 0, .int 0])), (q8, .inl (cA, 8192, .inl (fun _ => 0))), (q17, .inl (cA, 1024, .inl (fun _ => 0))), (q26, .inl (cA, 8192, .inl (fun _ => 0))), (q35, .inl (cA, 1024, .inl (fun _ => 0))), (q44, .inl (cA, 160, .inl (fun _ => 0)))] := hD
  refine lv_aload_n hx hb d_R_init_49 rfl (lv_at hl 0 rfl) ?_
  refine lv_bipush hx hb d_R_init_50 rfl ?_
  refine nw_i (N := 127) S k_3 hK hP hD hS hA (by decide) (by decide) (Nat.le_of_ble_eq_true rfl) (Nat.le_of_ble_eq_true rfl) (Nat.le_of_ble_eq_true rfl) d_R_init_52 fun q52 H hP hD hS => ?_
  have hP : va_P D vcl [(h0, .inr (6, [.int 0, .ref q8, .ref q17, .ref q26, .ref q35, .ref q44, .null, .null, .int 0, .int 0, .int 0, .int 0, .int 0, .int 0, .int 0, .int 0, .int 0, .null, .int 0, .int 0, .int 0, .int 0, .int 0, .int 0, .int 0, .int 0, .int 0, .int 0, .int 0, .int 0, .int 0, .int 0, .int 0, .int 0, .int 0, .int 0, .int 0, .int 0, .int 0, .int 0, .int 0, .int 0, .int 0, .int 0, .int 0, .int 0, .int 0, .int 0, .int 0, .int 0, .int 0])), (q8, .inl (cA, 8192, .inl (fun _ => 0))), (q17, .inl (cA, 1024, .inl (fun _ => 0))), (q26, .inl (cA, 8192, .inl (fun _ => 0))), (q35, .inl (cA, 1024, .inl (fun _ => 0))), (q44, .inl (cA, 160, .inl (fun _ => 0))), (q52, .inl (cA, 127, .inl (fun _ => 0)))] H := hP
  have hD : va_D A [(h0, .inr (6, [.int 0, .ref q8, .ref q17, .ref q26, .ref q35, .ref q44, .null, .null, .int 0, .int 0, .int 0, .int 0, .int 0, .int 0, .int 0, .int 0, .int 0, .null, .int 0, .int 0, .int 0, .int 0, .int 0, .int 0, .int 0, .int 0, .int 0, .int 0, .int 0, .int 0, .int 0, .int 0, .int 0, .int 0, .int 0, .int 0, .int 0, .int 0, .int 0, .int 0, .int 0, .int 0, .int 0, .int 0, .int 0, .int 0, .int 0, .int 0, .int 0, .int 0, .int 0])), (q8, .inl (cA, 8192, .inl (fun _ => 0))), (q17, .inl (cA, 1024, .inl (fun _ => 0))), (q26, .inl (cA, 8192, .inl (fun _ => 0))), (q35, .inl (cA, 1024, .inl (fun _ => 0))), (q44, .inl (cA, 160, .inl (fun _ => 0))), (q52, .inl (cA, 127, .inl (fun _ => 0)))] := hD
  refine W.widen (k := 6) (n := 18719) (by omega) (by omega) ?_
  refine va_putF (D := D) (ci := 6) (v := .ref q52) (ty := .array .int) (C := R_R) (T := F_R) (N := 51) hx hb hts i_R ty_R ty_R_ok n_R hown hK hP hD hS 0 rfl rfl 6 (by decide) (hts _ k_61) (fun _ h9 => h9) rfl hin rfl (by decide +kernel) rfl rfl (Nat.le_of_ble_eq_true rfl) d_R_init_54 (fun H locs hP hD hS => ?_)
  have hP : va_P D vcl [(h0, .inr (6, [.int 0, .ref q8, .ref q17, .ref q26, .ref q35, .ref q44, .ref q52, .null, .int 0, .int 0, .int 0, .int 0, .int 0, .int 0, .int 0, .int 0, .int 0, .null, .int 0, .int 0, .int 0, .int 0, .int 0, .int 0, .int 0, .int 0, .int 0, .int 0, .int 0, .int 0, .int 0, .int 0, .int 0, .int 0, .int 0, .int 0, .int 0, .int 0, .int 0, .int 0, .int 0, .int 0, .int 0, .int 0, .int 0, .int 0, .int 0, .int 0, .int 0, .int 0, .int 0])), (q8, .inl (cA, 8192, .inl (fun _ => 0))), (q17, .inl (cA, 1024, .inl (fun _ => 0))), (q26, .inl (cA, 8192, .inl (fun _ => 0))), (q35, .inl (cA, 1024, .inl (fun _ => 0))), (q44, .inl (cA, 160, .inl (fun _ => 0))), (q52, .inl (cA, 127, .inl (fun _ => 0)))] H := hP
  have hD : va_D A [(h0, .inr (6, [.int 0, .ref q8, .ref q17, .ref q26, .ref q35, .ref q44, .ref q52, .null, .int 0, .int 0, .int 0, .int 0, .int 0, .int 0, .int 0, .int 0, .int 0, .null, .int 0, .int 0, .int 0, .int 0, .int 0, .int 0, .int 0, .int 0, .int 0, .int 0, .int 0, .int 0, .int 0, .int 0, .int 0, .int 0, .int 0, .int 0, .int 0, .int 0, .int 0, .int 0, .int 0, .int 0, .int 0, .int 0, .int 0, .int 0, .int 0, .int 0, .int 0, .int 0, .int 0])), (q8, .inl (cA, 8192, .inl (fun _ => 0))), (q17, .inl (cA, 1024, .inl (fun _ => 0))), (q26, .inl (cA, 8192, .inl (fun _ => 0))), (q35, .inl (cA, 1024, .inl (fun _ => 0))), (q44, .inl (cA, 160, .inl (fun _ => 0))), (q52, .inl (cA, 127, .inl (fun _ => 0)))] := hD
  refine lv_aload_n hx hb d_R_init_57 rfl (lv_at hl 0 rfl) ?_
  refine lv_sipush hx hb d_R_init_58 rfl ?_
  refine nw_i (N := 160) S k_3 hK hP hD hS hA (by decide) (by decide) (Nat.le_of_ble_eq_true rfl) (Nat.le_of_ble_eq_true rfl) (Nat.le_of_ble_eq_true rfl) d_R_init_61 fun q61 H hP hD hS => ?_
  have hP : va_P D vcl [(h0, .inr (6, [.int 0, .ref q8, .ref q17, .ref q26, .ref q35, .ref q44, .ref q52, .null, .int 0, .int 0, .int 0, .int 0, .int 0, .int 0, .int 0, .int 0, .int 0, .null, .int 0, .int 0, .int 0, .int 0, .int 0, .int 0, .int 0, .int 0, .int 0, .int 0, .int 0, .int 0, .int 0, .int 0, .int 0, .int 0, .int 0, .int 0, .int 0, .int 0, .int 0, .int 0, .int 0, .int 0, .int 0, .int 0, .int 0, .int 0, .int 0, .int 0, .int 0, .int 0, .int 0])), (q8, .inl (cA, 8192, .inl (fun _ => 0))), (q17, .inl (cA, 1024, .inl (fun _ => 0))), (q26, .inl (cA, 8192, .inl (fun _ => 0))), (q35, .inl (cA, 1024, .inl (fun _ => 0))), (q44, .inl (cA, 160, .inl (fun _ => 0))), (q52, .inl (cA, 127, .inl (fun _ => 0))), (q61, .inl (cA, 160, .inl (fun _ => 0)))] H := hP
  have hD : va_D A [(h0, .inr (6, [.int 0, .ref q8, .ref q17, .ref q26, .ref q35, .ref q44, .ref q52, .null, .int 0, .int 0, .int 0, .int 0, .int 0, .int 0, .int 0, .int 0, .int 0, .null, .int 0, .int 0, .int 0, .int 0, .int 0, .int 0, .int 0, .int 0, .int 0, .int 0, .int 0, .int 0, .int 0, .int 0, .int 0, .int 0, .int 0, .int 0, .int 0, .int 0, .int 0, .int 0, .int 0, .int 0, .int 0, .int 0, .int 0, .int 0, .int 0, .int 0, .int 0, .int 0, .int 0])), (q8, .inl (cA, 8192, .inl (fun _ => 0))), (q17, .inl (cA, 1024, .inl (fun _ => 0))), (q26, .inl (cA, 8192, .inl (fun _ => 0))), (q35, .inl (cA, 1024, .inl (fun _ => 0))), (q44, .inl (cA, 160, .inl (fun _ => 0))), (q52, .inl (cA, 127, .inl (fun _ => 0))), (q61, .inl (cA, 160, .inl (fun _ => 0)))] := hD
  refine W.widen (k := 7) (n := 18879) (by omega) (by omega) ?_
  refine va_putF (D := D) (ci := 6) (v := .ref q61) (ty := .array .int) (C := R_R) (T := F_R) (N := 51) hx hb hts i_R ty_R ty_R_ok n_R hown hK hP hD hS 0 rfl rfl 7 (by decide) (hts _ k_62) (fun _ h9 => h9) rfl hin rfl (by decide +kernel) rfl rfl (Nat.le_of_ble_eq_true rfl) d_R_init_63 (fun H locs hP hD hS => ?_)
  have hP : va_P D vcl [(h0, .inr (6, [.int 0, .ref q8, .ref q17, .ref q26, .ref q35, .ref q44, .ref q52, .ref q61, .int 0, .int 0, .int 0, .int 0, .int 0, .int 0, .int 0, .int 0, .int 0, .null, .int 0, .int 0, .int 0, .int 0, .int 0, .int 0, .int 0, .int 0, .int 0, .int 0, .int 0, .int 0, .int 0, .int 0, .int 0, .int 0, .int 0, .int 0, .int 0, .int 0, .int 0, .int 0, .int 0, .int 0, .int 0, .int 0, .int 0, .int 0, .int 0, .int 0, .int 0, .int 0, .int 0])), (q8, .inl (cA, 8192, .inl (fun _ => 0))), (q17, .inl (cA, 1024, .inl (fun _ => 0))), (q26, .inl (cA, 8192, .inl (fun _ => 0))), (q35, .inl (cA, 1024, .inl (fun _ => 0))), (q44, .inl (cA, 160, .inl (fun _ => 0))), (q52, .inl (cA, 127, .inl (fun _ => 0))), (q61, .inl (cA, 160, .inl (fun _ => 0)))] H := hP
  have hD : va_D A [(h0, .inr (6, [.int 0, .ref q8, .ref q17, .ref q26, .ref q35, .ref q44, .ref q52, .ref q61, .int 0, .int 0, .int 0, .int 0, .int 0, .int 0, .int 0, .int 0, .int 0, .null, .int 0, .int 0, .int 0, .int 0, .int 0, .int 0, .int 0, .int 0, .int 0, .int 0, .int 0, .int 0, .int 0, .int 0, .int 0, .int 0, .int 0, .int 0, .int 0, .int 0, .int 0, .int 0, .int 0, .int 0, .int 0, .int 0, .int 0, .int 0, .int 0, .int 0, .int 0, .int 0, .int 0])), (q8, .inl (cA, 8192, .inl (fun _ => 0))), (q17, .inl (cA, 1024, .inl (fun _ => 0))), (q26, .inl (cA, 8192, .inl (fun _ => 0))), (q35, .inl (cA, 1024, .inl (fun _ => 0))), (q44, .inl (cA, 160, .inl (fun _ => 0))), (q52, .inl (cA, 127, .inl (fun _ => 0))), (q61, .inl (cA, 160, .inl (fun _ => 0)))] := hD
  refine lv_aload_n hx hb d_R_init_66 rfl (lv_at hl 0 rfl) ?_
  refine lv_bipush hx hb d_R_init_67 rfl ?_
  refine nw_i (N := 8) S k_3 hK hP hD hS hA (by decide) (by decide) (Nat.le_of_ble_eq_true rfl) (Nat.le_of_ble_eq_true rfl) (Nat.le_of_ble_eq_true rfl) d_R_init_69 fun q69 H hP hD hS => ?_
  have hP : va_P D vcl [(h0, .inr (6, [.int 0, .ref q8, .ref q17, .ref q26, .ref q35, .ref q44, .ref q52, .ref q61, .int 0, .int 0, .int 0, .int 0, .int 0, .int 0, .int 0, .int 0, .int 0, .null, .int 0, .int 0, .int 0, .int 0, .int 0, .int 0, .int 0, .int 0, .int 0, .int 0, .int 0, .int 0, .int 0, .int 0, .int 0, .int 0, .int 0, .int 0, .int 0, .int 0, .int 0, .int 0, .int 0, .int 0, .int 0, .int 0, .int 0, .int 0, .int 0, .int 0, .int 0, .int 0, .int 0])), (q8, .inl (cA, 8192, .inl (fun _ => 0))), (q17, .inl (cA, 1024, .inl (fun _ => 0))), (q26, .inl (cA, 8192, .inl (fun _ => 0))), (q35, .inl (cA, 1024, .inl (fun _ => 0))), (q44, .inl (cA, 160, .inl (fun _ => 0))), (q52, .inl (cA, 127, .inl (fun _ => 0))), (q61, .inl (cA, 160, .inl (fun _ => 0))), (q69, .inl (cA, 8, .inl (fun _ => 0)))] H := hP
  have hD : va_D A [(h0, .inr (6, [.int 0, .ref q8, .ref q17, .ref q26, .ref q35, .ref q44, .ref q52, .ref q61, .int 0, .int 0, .int 0, .int 0, .int 0, .int 0, .int 0, .int 0, .int 0, .null, .int 0, .int 0, .int 0, .int 0, .int 0, .int 0, .int 0, .int 0, .int 0, .int 0, .int 0, .int 0, .int 0, .int 0, .int 0, .int 0, .int 0, .int 0, .int 0, .int 0, .int 0, .int 0, .int 0, .int 0, .int 0, .int 0, .int 0, .int 0, .int 0, .int 0, .int 0, .int 0, .int 0])), (q8, .inl (cA, 8192, .inl (fun _ => 0))), (q17, .inl (cA, 1024, .inl (fun _ => 0))), (q26, .inl (cA, 8192, .inl (fun _ => 0))), (q35, .inl (cA, 1024, .inl (fun _ => 0))), (q44, .inl (cA, 160, .inl (fun _ => 0))), (q52, .inl (cA, 127, .inl (fun _ => 0))), (q61, .inl (cA, 160, .inl (fun _ => 0))), (q69, .inl (cA, 8, .inl (fun _ => 0)))] := hD
  refine W.widen (k := 8) (n := 18887) (by omega) (by omega) ?_
  refine va_putF (D := D) (ci := 6) (v := .ref q69) (ty := .array .int) (C := R_R) (T := F_R) (N := 51) hx hb hts i_R ty_R ty_R_ok n_R hown hK hP hD hS 0 rfl rfl 17 (by decide) (hts _ k_63) (fun _ h9 => h9) rfl hin rfl (by decide +kernel) rfl rfl (Nat.le_of_ble_eq_true rfl) d_R_init_71 (fun H locs hP hD hS => ?_)
  have hP : va_P D vcl [(h0, .inr (6, [.int 0, .ref q8, .ref q17, .ref q26, .ref q35, .ref q44, .ref q52, .ref q61, .int 0, .int 0, .int 0, .int 0, .int 0, .int 0, .int 0, .int 0, .int 0, .ref q69, .int 0, .int 0, .int 0, .int 0, .int 0, .int 0, .int 0, .int 0, .int 0, .int 0, .int 0, .int 0, .int 0, .int 0, .int 0, .int 0, .int 0, .int 0, .int 0, .int 0, .int 0, .int 0, .int 0, .int 0, .int 0, .int 0, .int 0, .int 0, .int 0, .int 0, .int 0, .int 0, .int 0])), (q8, .inl (cA, 8192, .inl (fun _ => 0))), (q17, .inl (cA, 1024, .inl (fun _ => 0))), (q26, .inl (cA, 8192, .inl (fun _ => 0))), (q35, .inl (cA, 1024, .inl (fun _ => 0))), (q44, .inl (cA, 160, .inl (fun _ => 0))), (q52, .inl (cA, 127, .inl (fun _ => 0))), (q61, .inl (cA, 160, .inl (fun _ => 0))), (q69, .inl (cA, 8, .inl (fun _ => 0)))] H := hP
  have hD : va_D A [(h0, .inr (6, [.int 0, .ref q8, .ref q17, .ref q26, .ref q35, .ref q44, .ref q52, .ref q61, .int 0, .int 0, .int 0, .int 0, .int 0, .int 0, .int 0, .int 0, .int 0, .ref q69, .int 0, .int 0, .int 0, .int 0, .int 0, .int 0, .int 0, .int 0, .int 0, .int 0, .int 0, .int 0, .int 0, .int 0, .int 0, .int 0, .int 0, .int 0, .int 0, .int 0, .int 0, .int 0, .int 0, .int 0, .int 0, .int 0, .int 0, .int 0, .int 0, .int 0, .int 0, .int 0, .int 0])), (q8, .inl (cA, 8192, .inl (fun _ => 0))), (q17, .inl (cA, 1024, .inl (fun _ => 0))), (q26, .inl (cA, 8192, .inl (fun _ => 0))), (q35, .inl (cA, 1024, .inl (fun _ => 0))), (q44, .inl (cA, 160, .inl (fun _ => 0))), (q52, .inl (cA, 127, .inl (fun _ => 0))), (q61, .inl (cA, 160, .inl (fun _ => 0))), (q69, .inl (cA, 8, .inl (fun _ => 0)))] := hD
  refine lv_aload_n hx hb d_R_init_74 rfl (lv_at hl 0 rfl) ?_
  have hPz : va_P D vcl (ceR (fun j => [h0, q8, q17, q26, q35, q44, q52, q61, q69].getD j 0) cA (fun _ _ => 0)) H := hP.sub [0, 1, 2, 3, 4, 5, 6, 7, 8] rfl
  have hDz : va_D A (ceR (fun j => [h0, q8, q17, q26, q35, q44, q52, q61, q69].getD j 0) cA (fun _ _ => 0)) := hD.sub [0, 1, 2, 3, 4, 5, 6, 7, 8] (by decide) rfl
  have h00 : (fun j : Nat => [h0, q8, q17, q26, q35, q44, q52, q61, q69].getD j 0) 0 = h0 := rfl
  generalize (fun j : Nat => [h0, q8, q17, q26, q35, q44, q52, q61, q69].getD j 0) = ad at hPz hDz h00
  have hDM : ∀ M, va_D A (ceR ad cA M) := fun M => va_D_fst hDz (ceR_fix _ _)
  refine W.eq (g2 := F0 m 75 ls [.ref (ad 0)]) (by rw [h00]) ?_
  refine hc_retC (As := []) (b := ad 0) (rest := []) (j := 0) ⟨S, hK, hDM, hA, hSx⟩ ⟨hPz, hS⟩ (ct_R_reset (fun _ _ => 0) Q hk) k_64 mw_R_reset rfl ⟨rfl, rfl, Nat.le_of_ble_eq_true rfl, Nat.le_of_ble_eq_true rfl⟩ ⟨Nat.le_of_ble_eq_true rfl, Nat.le_of_ble_eq_true rfl⟩ rfl rfl rfl hl.1 rfl (Nat.le_of_ble_eq_true rfl) d_R_init_75 fun r M' H locs hq hw hkp => ?_
  obtain ⟨rfl, hq⟩ := hq
  exact W.vret hx hb hr (fun t ht hW => ⟨ad, M', rfl, h00, hq, by rw [ht]; exact hw.1, hDM M', hw.2.F ht⟩) hw.2.2.2 d_R_init_78
