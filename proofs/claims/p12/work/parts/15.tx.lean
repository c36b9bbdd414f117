def xup : List String := ["java/lang/RuntimeException", "java/lang/Exception"]
theorem s_65 : Cond.stringRef "TileConsole" 65 "n is not 1 to 8" ∈ lw_tbl := List.mem_of_getElem? (i := 424) (by decide +kernel)
theorem s_70 : Cond.stringRef "TileConsole" 70 "b is not 0 to 7" ∈ lw_tbl := List.mem_of_getElem? (i := 451) (by decide +kernel)
theorem s_74 : Cond.stringRef "TileConsole" 74 "the octets do not go into the bank" ∈ lw_tbl := List.mem_of_getElem? (i := 461) (by decide +kernel)
theorem s_84 : Cond.stringRef "TileConsole" 84 "kind is not 0 to 3" ∈ lw_tbl := List.mem_of_getElem? (i := 479) (by decide +kernel)
theorem s_92 : Cond.stringRef "TileConsole" 92 "the header's check octet does not agree" ∈ lw_tbl := List.mem_of_getElem? (i := 493) (by decide +kernel)
theorem s_103 : Cond.stringRef "TileConsole" 103 "n is not 1 to 100" ∈ lw_tbl := List.mem_of_getElem? (i := 508) (by decide +kernel)
theorem s_105 : Cond.stringRef "TileConsole" 105 "nothing is in" ∈ lw_tbl := List.mem_of_getElem? (i := 509) (by decide +kernel)
theorem s_118 : Cond.stringRef "TileConsole" 118 "the processor is locked" ∈ lw_tbl := List.mem_of_getElem? (i := 756) (by decide +kernel)
theorem s_121 : Cond.stringRef "TileConsole" 121 "k is not 0 to 9" ∈ lw_tbl := List.mem_of_getElem? (i := 770) (by decide +kernel)
theorem s_132 : Cond.stringRef "TileConsole" 132 "the address is not 0 to 0xFFFF" ∈ lw_tbl := List.mem_of_getElem? (i := 796) (by decide +kernel)
theorem s_138 : Cond.stringRef "TileConsole" 138 "an address is not 0 to 0xFFFF" ∈ lw_tbl := List.mem_of_getElem? (i := 806) (by decide +kernel)
theorem s_143 : Cond.stringRef "TileConsole" 143 "the mask is not 0 to 255" ∈ lw_tbl := List.mem_of_getElem? (i := 815) (by decide +kernel)
theorem s_148 : Cond.stringRef "TileConsole" 148 "y is not 0 to 143" ∈ lw_tbl := List.mem_of_getElem? (i := 827) (by decide +kernel)
theorem s_153 : Cond.stringRef "TileConsole" 153 "x is not 0 to 159" ∈ lw_tbl := List.mem_of_getElem? (i := 867) (by decide +kernel)
theorem s_179 : Cond.stringRef "TileConsole" 179 "what is not 0 to 8" ∈ lw_tbl := List.mem_of_getElem? (i := 875) (by decide +kernel)
theorem s_183 : Cond.stringRef "TileConsole" 183 "there were no cycles" ∈ lw_tbl := List.mem_of_getElem? (i := 893) (by decide +kernel)
set_option maxRecDepth 100000 in
theorem own_0 : ∀ a ∈ Bundle.ownAtoms "TileConsole" 67 (xn 0) xup, a ∈ WA ∨ (a ∈ lw_tbl ∧ nwWord a = true) ∨ a = Cond.isRef (.static "java/lang/Throwable" "UNASSIGNED_STACK" "[Ljava/lang/StackTraceElement;") ∨ a = Cond.isRef (.static "java/lang/Throwable" "SUPPRESSED_SENTINEL" "Ljava/util/List;") ∨ a = Cond.laysStatic "java/lang/Throwable" "UNASSIGNED_STACK" "[Ljava/lang/StackTraceElement;" ∨ a = Cond.laysStatic "java/lang/Throwable" "SUPPRESSED_SENTINEL" "Ljava/util/List;" := by decide +kernel
set_option maxRecDepth 100000 in
theorem own_1 : ∀ a ∈ Bundle.ownAtoms "TileConsole" 76 (xn 1) xup, a ∈ WA ∨ (a ∈ lw_tbl ∧ nwWord a = true) ∨ a = Cond.isRef (.static "java/lang/Throwable" "UNASSIGNED_STACK" "[Ljava/lang/StackTraceElement;") ∨ a = Cond.isRef (.static "java/lang/Throwable" "SUPPRESSED_SENTINEL" "Ljava/util/List;") ∨ a = Cond.laysStatic "java/lang/Throwable" "UNASSIGNED_STACK" "[Ljava/lang/StackTraceElement;" ∨ a = Cond.laysStatic "java/lang/Throwable" "SUPPRESSED_SENTINEL" "Ljava/util/List;" := by decide +kernel
set_option maxRecDepth 100000 in
theorem own_2 : ∀ a ∈ Bundle.ownAtoms "TileConsole" 94 (xn 2) xup, a ∈ WA ∨ (a ∈ lw_tbl ∧ nwWord a = true) ∨ a = Cond.isRef (.static "java/lang/Throwable" "UNASSIGNED_STACK" "[Ljava/lang/StackTraceElement;") ∨ a = Cond.isRef (.static "java/lang/Throwable" "SUPPRESSED_SENTINEL" "Ljava/util/List;") ∨ a = Cond.laysStatic "java/lang/Throwable" "UNASSIGNED_STACK" "[Ljava/lang/StackTraceElement;" ∨ a = Cond.laysStatic "java/lang/Throwable" "SUPPRESSED_SENTINEL" "Ljava/util/List;" := by decide +kernel
set_option maxRecDepth 100000 in
theorem own_3 : ∀ a ∈ Bundle.ownAtoms "TileConsole" 120 (xn 3) xup, a ∈ WA ∨ (a ∈ lw_tbl ∧ nwWord a = true) ∨ a = Cond.isRef (.static "java/lang/Throwable" "UNASSIGNED_STACK" "[Ljava/lang/StackTraceElement;") ∨ a = Cond.isRef (.static "java/lang/Throwable" "SUPPRESSED_SENTINEL" "Ljava/util/List;") ∨ a = Cond.laysStatic "java/lang/Throwable" "UNASSIGNED_STACK" "[Ljava/lang/StackTraceElement;" ∨ a = Cond.laysStatic "java/lang/Throwable" "SUPPRESSED_SENTINEL" "Ljava/util/List;" := by decide +kernel
set_option maxRecDepth 100000 in
theorem own_4 : ∀ a ∈ Bundle.ownAtoms "TileConsole" 185 (xn 4) xup, a ∈ WA ∨ (a ∈ lw_tbl ∧ nwWord a = true) ∨ a = Cond.isRef (.static "java/lang/Throwable" "UNASSIGNED_STACK" "[Ljava/lang/StackTraceElement;") ∨ a = Cond.isRef (.static "java/lang/Throwable" "SUPPRESSED_SENTINEL" "Ljava/util/List;") ∨ a = Cond.laysStatic "java/lang/Throwable" "UNASSIGNED_STACK" "[Ljava/lang/StackTraceElement;" ∨ a = Cond.laysStatic "java/lang/Throwable" "SUPPRESSED_SENTINEL" "Ljava/util/List;" := by decide +kernel
def rx_T_rom : Room := { frames := 6, cells := 1, slots := 6, locals := 82 }
def rx_T_insert : Room := { frames := 6, cells := 1, slots := 6, locals := 82 }
def rx_T_run : Room := { frames := 6, cells := 1, slots := 6, locals := 138 }
def rx_T_set : Room := { frames := 6, cells := 1, slots := 6, locals := 82 }
def rx_T_register : Room := { frames := 6, cells := 1, slots := 6, locals := 82 }
def rx_T_read : Room := { frames := 6, cells := 1, slots := 6, locals := 82 }
def rx_T_write : Room := { frames := 6, cells := 1, slots := 6, locals := 82 }
def rx_T_keys : Room := { frames := 6, cells := 1, slots := 6, locals := 82 }
def rx_T_row : Room := { frames := 6, cells := 1, slots := 6, locals := 102 }
def rx_T_pixel : Room := { frames := 6, cells := 1, slots := 6, locals := 82 }
def rx_T_count : Room := { frames := 6, cells := 1, slots := 6, locals := 82 }
def rx_T_speed : Room := { frames := 6, cells := 1, slots := 6, locals := 82 }
set_option maxRecDepth 100000 in
theorem m_171 : Cond.classLink "TileConsole" 72 "java/lang/IndexOutOfBoundsException" ∈ WA := WAm 452 (by decide +kernel) (by decide +kernel)
set_option maxRecDepth 100000 in
theorem m_172 : Cond.initialized "java/lang/IndexOutOfBoundsException" ∈ WA := WAm 111 (by decide +kernel) (by decide +kernel)
set_option maxRecDepth 100000 in
theorem m_173 : Cond.instantiable "java/lang/IndexOutOfBoundsException" 6 ∈ WA := WAm 453 (by decide +kernel) (by decide +kernel)
set_option maxRecDepth 100000 in
theorem m_174 : Cond.classLink "TileConsole" 63 "java/lang/IllegalArgumentException" ∈ WA := WAm 381 (by decide +kernel) (by decide +kernel)
set_option maxRecDepth 100000 in
theorem m_175 : Cond.initialized "java/lang/IllegalArgumentException" ∈ WA := WAm 110 (by decide +kernel) (by decide +kernel)
set_option maxRecDepth 100000 in
theorem m_176 : Cond.instantiable "java/lang/IllegalArgumentException" 6 ∈ WA := WAm 382 (by decide +kernel) (by decide +kernel)
set_option maxRecDepth 100000 in
theorem m_177 : Cond.classLink "TileConsole" 90 "java/lang/IllegalStateException" ∈ WA := WAm 484 (by decide +kernel) (by decide +kernel)
set_option maxRecDepth 100000 in
theorem m_178 : Cond.initialized "java/lang/IllegalStateException" ∈ WA := WAm 112 (by decide +kernel) (by decide +kernel)
set_option maxRecDepth 100000 in
theorem m_179 : Cond.instantiable "java/lang/IllegalStateException" 6 ∈ WA := WAm 485 (by decide +kernel) (by decide +kernel)
set_option maxRecDepth 100000 in
theorem m_180 : Cond.classLink "TileConsole" 116 "java/lang/UnsupportedOperationException" ∈ WA := WAm 747 (by decide +kernel) (by decide +kernel)
set_option maxRecDepth 100000 in
theorem m_181 : Cond.initialized "java/lang/UnsupportedOperationException" ∈ WA := WAm 114 (by decide +kernel) (by decide +kernel)
set_option maxRecDepth 100000 in
theorem m_182 : Cond.instantiable "java/lang/UnsupportedOperationException" 6 ∈ WA := WAm 748 (by decide +kernel) (by decide +kernel)
set_option maxRecDepth 100000 in
theorem m_183 : Cond.classLink "TileConsole" 181 "java/lang/ArithmeticException" ∈ WA := WAm 884 (by decide +kernel) (by decide +kernel)
set_option maxRecDepth 100000 in
theorem m_184 : Cond.initialized "java/lang/ArithmeticException" ∈ WA := WAm 115 (by decide +kernel) (by decide +kernel)
set_option maxRecDepth 100000 in
theorem m_185 : Cond.instantiable "java/lang/ArithmeticException" 6 ∈ WA := WAm 885 (by decide +kernel) (by decide +kernel)
theorem d_T_rom_14 : decode b_T_rom 14 = .ok (.dup, 1) := by decide +kernel
theorem d_T_rom_15 : decode b_T_rom 15 = .ok (.ldc 65, 2) := by decide +kernel
theorem d_T_rom_17 : decode b_T_rom 17 = .ok (.invokespecial 67, 3) := by decide +kernel
theorem d_T_rom_20 : decode b_T_rom 20 = .ok (.athrow, 1) := by decide +kernel
theorem d_T_rom_34 : decode b_T_rom 34 = .ok (.dup, 1) := by decide +kernel
theorem d_T_rom_35 : decode b_T_rom 35 = .ok (.ldc 70, 2) := by decide +kernel
theorem d_T_rom_37 : decode b_T_rom 37 = .ok (.invokespecial 67, 3) := by decide +kernel
theorem d_T_rom_40 : decode b_T_rom 40 = .ok (.athrow, 1) := by decide +kernel
theorem d_T_rom_57 : decode b_T_rom 57 = .ok (.dup, 1) := by decide +kernel
theorem d_T_rom_58 : decode b_T_rom 58 = .ok (.ldc 74, 2) := by decide +kernel
theorem d_T_rom_60 : decode b_T_rom 60 = .ok (.invokespecial 76, 3) := by decide +kernel
theorem d_T_rom_63 : decode b_T_rom 63 = .ok (.athrow, 1) := by decide +kernel
theorem d_T_insert_12 : decode b_T_insert 12 = .ok (.dup, 1) := by decide +kernel
theorem d_T_insert_13 : decode b_T_insert 13 = .ok (.ldc 84, 2) := by decide +kernel
theorem d_T_insert_15 : decode b_T_insert 15 = .ok (.invokespecial 67, 3) := by decide +kernel
theorem d_T_insert_18 : decode b_T_insert 18 = .ok (.athrow, 1) := by decide +kernel
theorem d_T_insert_32 : decode b_T_insert 32 = .ok (.dup, 1) := by decide +kernel
theorem d_T_insert_33 : decode b_T_insert 33 = .ok (.ldc 92, 2) := by decide +kernel
theorem d_T_insert_35 : decode b_T_insert 35 = .ok (.invokespecial 94, 3) := by decide +kernel
theorem d_T_insert_38 : decode b_T_insert 38 = .ok (.athrow, 1) := by decide +kernel
theorem d_T_run_14 : decode b_T_run 14 = .ok (.dup, 1) := by decide +kernel
theorem d_T_run_15 : decode b_T_run 15 = .ok (.ldc 103, 2) := by decide +kernel
theorem d_T_run_17 : decode b_T_run 17 = .ok (.invokespecial 67, 3) := by decide +kernel
theorem d_T_run_20 : decode b_T_run 20 = .ok (.athrow, 1) := by decide +kernel
theorem d_T_run_34 : decode b_T_run 34 = .ok (.dup, 1) := by decide +kernel
theorem d_T_run_35 : decode b_T_run 35 = .ok (.ldc 105, 2) := by decide +kernel
theorem d_T_run_37 : decode b_T_run 37 = .ok (.invokespecial 94, 3) := by decide +kernel
theorem d_T_run_40 : decode b_T_run 40 = .ok (.athrow, 1) := by decide +kernel
theorem d_T_run_86 : decode b_T_run 86 = .ok (.dup, 1) := by decide +kernel
theorem d_T_run_87 : decode b_T_run 87 = .ok (.ldc 118, 2) := by decide +kernel
theorem d_T_run_89 : decode b_T_run 89 = .ok (.invokespecial 120, 3) := by decide +kernel
theorem d_T_run_92 : decode b_T_run 92 = .ok (.athrow, 1) := by decide +kernel
theorem d_T_set_13 : decode b_T_set 13 = .ok (.dup, 1) := by decide +kernel
theorem d_T_set_14 : decode b_T_set 14 = .ok (.ldc 121, 2) := by decide +kernel
theorem d_T_set_16 : decode b_T_set 16 = .ok (.invokespecial 67, 3) := by decide +kernel
theorem d_T_set_19 : decode b_T_set 19 = .ok (.athrow, 1) := by decide +kernel
theorem d_T_register_13 : decode b_T_register 13 = .ok (.dup, 1) := by decide +kernel
theorem d_T_register_14 : decode b_T_register 14 = .ok (.ldc 121, 2) := by decide +kernel
theorem d_T_register_16 : decode b_T_register 16 = .ok (.invokespecial 67, 3) := by decide +kernel
theorem d_T_register_19 : decode b_T_register 19 = .ok (.athrow, 1) := by decide +kernel
theorem d_T_read_13 : decode b_T_read 13 = .ok (.dup, 1) := by decide +kernel
theorem d_T_read_14 : decode b_T_read 14 = .ok (.ldc 132, 2) := by decide +kernel
theorem d_T_read_16 : decode b_T_read 16 = .ok (.invokespecial 67, 3) := by decide +kernel
theorem d_T_read_19 : decode b_T_read 19 = .ok (.athrow, 1) := by decide +kernel
theorem d_T_write_14 : decode b_T_write 14 = .ok (.dup, 1) := by decide +kernel
theorem d_T_write_15 : decode b_T_write 15 = .ok (.ldc 65, 2) := by decide +kernel
theorem d_T_write_17 : decode b_T_write 17 = .ok (.invokespecial 67, 3) := by decide +kernel
theorem d_T_write_20 : decode b_T_write 20 = .ok (.athrow, 1) := by decide +kernel
theorem d_T_write_36 : decode b_T_write 36 = .ok (.dup, 1) := by decide +kernel
theorem d_T_write_37 : decode b_T_write 37 = .ok (.ldc 138, 2) := by decide +kernel
theorem d_T_write_39 : decode b_T_write 39 = .ok (.invokespecial 67, 3) := by decide +kernel
theorem d_T_write_42 : decode b_T_write 42 = .ok (.athrow, 1) := by decide +kernel
theorem d_T_keys_14 : decode b_T_keys 14 = .ok (.dup, 1) := by decide +kernel
theorem d_T_keys_15 : decode b_T_keys 15 = .ok (.ldc 143, 2) := by decide +kernel
theorem d_T_keys_17 : decode b_T_keys 17 = .ok (.invokespecial 67, 3) := by decide +kernel
theorem d_T_keys_20 : decode b_T_keys 20 = .ok (.athrow, 1) := by decide +kernel
theorem d_T_row_14 : decode b_T_row 14 = .ok (.dup, 1) := by decide +kernel
theorem d_T_row_15 : decode b_T_row 15 = .ok (.ldc 148, 2) := by decide +kernel
theorem d_T_row_17 : decode b_T_row 17 = .ok (.invokespecial 67, 3) := by decide +kernel
theorem d_T_row_20 : decode b_T_row 20 = .ok (.athrow, 1) := by decide +kernel
theorem d_T_pixel_14 : decode b_T_pixel 14 = .ok (.dup, 1) := by decide +kernel
theorem d_T_pixel_15 : decode b_T_pixel 15 = .ok (.ldc 153, 2) := by decide +kernel
theorem d_T_pixel_17 : decode b_T_pixel 17 = .ok (.invokespecial 76, 3) := by decide +kernel
theorem d_T_pixel_20 : decode b_T_pixel 20 = .ok (.athrow, 1) := by decide +kernel
theorem d_T_count_187 : decode b_T_count 187 = .ok (.dup, 1) := by decide +kernel
theorem d_T_count_188 : decode b_T_count 188 = .ok (.ldc 179, 2) := by decide +kernel
theorem d_T_count_190 : decode b_T_count 190 = .ok (.invokespecial 67, 3) := by decide +kernel
theorem d_T_count_193 : decode b_T_count 193 = .ok (.athrow, 1) := by decide +kernel
theorem d_T_speed_13 : decode b_T_speed 13 = .ok (.dup, 1) := by decide +kernel
theorem d_T_speed_14 : decode b_T_speed 14 = .ok (.ldc 183, 2) := by decide +kernel
theorem d_T_speed_16 : decode b_T_speed 16 = .ok (.invokespecial 185, 3) := by decide +kernel
theorem d_T_speed_19 : decode b_T_speed 19 = .ok (.athrow, 1) := by decide +kernel
def wp_TX_rom_j1 (M0 : Mem) (Q : Nat → Mem → Prop) : Prop := Q 0 M0
def wp_TX_rom_j2 (M0 : Mem) (Q : Nat → Mem → Prop) : Prop := Q 0 M0
def wp_TX_rom_j3 (M0 : Mem) (Q : Nat → Mem → Prop) : Prop := Q 1 M0
def wp_TX_rom_l1 (a1 : Int32) (a2 : Int32) (a3 : Int32) (a4 : Int64) (Q : Nat → Mem → Prop) (n : Nat) : Int32 → Mem → Prop := Nat.rec (motive := fun _ => Int32 → Mem → Prop) (fun _ _ => False) (fun _ K1 x36 M37 => (((a3 ≤ x36) → False) ∧ ((¬ a3 ≤ x36) → wp_T_octetOf M37 a4 x36 (fun x38 => vp_in (((a1 * (1024 : Int32)) + a2) + x36) 8192 ∧ ∀ M39 : Mem, M39 = mst M37 6 ((((a1 * (1024 : Int32)) + a2) + x36)).toNatClampNeg x38 → ∀ x40 : Int32, x40 = x36 + (1 : Int32) → K1 x40 M39)))) n
def wp_TX_rom (M0 : Mem) (a1 : Int32) (a2 : Int32) (a3 : Int32) (a4 : Int64) (Q : Nat → Mem → Prop) : Prop := (((a3 < (1 : Int32)) → wp_TX_rom_j1 M0 Q) ∧ ((¬ a3 < (1 : Int32)) → (((a3 ≤ (8 : Int32)) → (((a1 < 0) → wp_TX_rom_j2 M0 Q) ∧ ((¬ a1 < 0) → (((a1 < (8 : Int32)) → (((a2 < 0) → wp_TX_rom_j3 M0 Q) ∧ ((¬ a2 < 0) → (((a2 ≤ ((1024 : Int32) - a3)) → (∃ n : Nat, wp_TX_rom_l1 a1 a2 a3 a4 Q n (0 : Int32) M0)) ∧ ((¬ a2 ≤ ((1024 : Int32) - a3)) → wp_TX_rom_j3 M0 Q))))) ∧ ((¬ a1 < (8 : Int32)) → wp_TX_rom_j2 M0 Q))))) ∧ ((¬ a3 ≤ (8 : Int32)) → wp_TX_rom_j1 M0 Q))))
def wp_TX_insert_j1 (M0 : Mem) (Q : Nat → Mem → Prop) : Prop := Q 0 M0
def wp_TX_insert (M0 : Mem) (a1 : Int32) (Q : Nat → Mem → Prop) : Prop := (((a1 < 0) → wp_TX_insert_j1 M0 Q) ∧ ((¬ a1 < 0) → (((a1 ≤ (3 : Int32)) → wp_K_headerAgrees M0 (fun x5 => (((¬ x5 = 0) → ∀ M6 : Mem, M6 = mst M0 1 2 (1 : Int32) → ∀ M7 : Mem, M7 = mst M6 1 3 a1 → wp_T_startAnew M7 (fun M8 => False)) ∧ ((x5 = 0) → Q 2 M0)))) ∧ ((¬ a1 ≤ (3 : Int32)) → wp_TX_insert_j1 M0 Q))))
def wp_TX_run_j1 (M0 : Mem) (Q : Nat → Mem → Prop) : Prop := Q 0 M0
def wp_TX_run_j2 (x11 : Int32) (K1 : Int32 → Mem → Prop) (M16 : Mem) (Q : Nat → Mem → Prop) : Prop := ((((M16 5 5) = 0) → ∀ x17 : Int32, x17 = x11 + (1 : Int32) → K1 x17 M16) ∧ ((¬ (M16 5 5) = 0) → Q 3 M16))
def wp_TX_run_l1 (a1 : Int32) (Q : Nat → Mem → Prop) (n : Nat) : Int32 → Mem → Prop := Nat.rec (motive := fun _ => Int32 → Mem → Prop) (fun _ _ => False) (fun _ K1 x11 M12 => (((a1 ≤ x11) → False) ∧ ((¬ a1 ≤ x11) → (((¬ (M12 5 5) = 0) → wp_TX_run_j2 x11 K1 M12 Q) ∧ (((M12 5 5) = 0) → wp_Q_step M12 (fun M18 => wp_TX_run_j2 x11 K1 M18 Q)))))) n
def wp_TX_run (M0 : Mem) (a1 : Int32) (Q : Nat → Mem → Prop) : Prop := (((a1 < (1 : Int32)) → wp_TX_run_j1 M0 Q) ∧ ((¬ a1 < (1 : Int32)) → (((a1 ≤ (100 : Int32)) → (((¬ (M0 1 2) = 0) → ∀ x10 : Int32, x10 = (M0 5 0) → (∃ n : Nat, wp_TX_run_l1 a1 Q n (0 : Int32) M0)) ∧ (((M0 1 2) = 0) → Q 2 M0))) ∧ ((¬ a1 ≤ (100 : Int32)) → wp_TX_run_j1 M0 Q))))
def wp_TX_set_j1 (M0 : Mem) (Q : Nat → Mem → Prop) : Prop := Q 0 M0
def wp_TX_set (M0 : Mem) (a1 : Int32) (a2 : Int32) (Q : Nat → Mem → Prop) : Prop := (((a1 < 0) → wp_TX_set_j1 M0 Q) ∧ ((¬ a1 < 0) → (((a1 ≤ (9 : Int32)) → wp_Q_valueOf M0 a1 (fun x3 => wp_Q_put M0 a1 a2 (fun M4 => False))) ∧ ((¬ a1 ≤ (9 : Int32)) → wp_TX_set_j1 M0 Q))))
def wp_TX_register_j1 (M0 : Mem) (Q : Nat → Mem → Prop) : Prop := Q 0 M0
def wp_TX_register (M0 : Mem) (a1 : Int32) (Q : Nat → Mem → Prop) : Prop := (((a1 < 0) → wp_TX_register_j1 M0 Q) ∧ ((¬ a1 < 0) → (((a1 ≤ (9 : Int32)) → wp_Q_valueOf M0 a1 (fun x2 => False)) ∧ ((¬ a1 ≤ (9 : Int32)) → wp_TX_register_j1 M0 Q))))
def wp_TX_read_j1 (M0 : Mem) (Q : Nat → Mem → Prop) : Prop := Q 0 M0
def wp_TX_read (M0 : Mem) (a1 : Int32) (Q : Nat → Mem → Prop) : Prop := (((a1 < 0) → wp_TX_read_j1 M0 Q) ∧ ((¬ a1 < 0) → (((a1 ≤ (65535 : Int32)) → wp_Y_load M0 a1 (fun x2 => False)) ∧ ((¬ a1 ≤ (65535 : Int32)) → wp_TX_read_j1 M0 Q))))
def wp_TX_write_j1 (M0 : Mem) (Q : Nat → Mem → Prop) : Prop := Q 0 M0
def wp_TX_write_j2 (M0 : Mem) (Q : Nat → Mem → Prop) : Prop := Q 0 M0
def wp_TX_write_l1 (a1 : Int32) (a2 : Int32) (a3 : Int64) (Q : Nat → Mem → Prop) (n : Nat) : Int32 → Mem → Prop := Nat.rec (motive := fun _ => Int32 → Mem → Prop) (fun _ _ => False) (fun _ K1 x16 M17 => (((a2 ≤ x16) → False) ∧ ((¬ a2 ≤ x16) → wp_T_octetOf M17 a3 x16 (fun x18 => wp_Y_store M17 (a1 + x16) x18 (fun M19 => ∀ x20 : Int32, x20 = x16 + (1 : Int32) → K1 x20 M19))))) n
def wp_TX_write (M0 : Mem) (a1 : Int32) (a2 : Int32) (a3 : Int64) (Q : Nat → Mem → Prop) : Prop := (((a2 < (1 : Int32)) → wp_TX_write_j1 M0 Q) ∧ ((¬ a2 < (1 : Int32)) → (((a2 ≤ (8 : Int32)) → (((a1 < 0) → wp_TX_write_j2 M0 Q) ∧ ((¬ a1 < 0) → (((a1 ≤ ((65536 : Int32) - a2)) → (∃ n : Nat, wp_TX_write_l1 a1 a2 a3 Q n (0 : Int32) M0)) ∧ ((¬ a1 ≤ ((65536 : Int32) - a2)) → wp_TX_write_j2 M0 Q))))) ∧ ((¬ a2 ≤ (8 : Int32)) → wp_TX_write_j1 M0 Q))))
def wp_TX_keys_j1 (M0 : Mem) (Q : Nat → Mem → Prop) : Prop := Q 0 M0
def wp_TX_keys (M0 : Mem) (a1 : Int32) (Q : Nat → Mem → Prop) : Prop := (((a1 < 0) → wp_TX_keys_j1 M0 Q) ∧ ((¬ a1 < 0) → (((a1 ≤ (255 : Int32)) → wp_P_press M0 a1 (fun x3 M4 => False)) ∧ ((¬ a1 ≤ (255 : Int32)) → wp_TX_keys_j1 M0 Q))))
def wp_TX_row_j1 (M0 : Mem) (Q : Nat → Mem → Prop) : Prop := Q 0 M0
def wp_TX_row (M0 : Mem) (a1 : Int32) (Q : Nat → Mem → Prop) : Prop := (((a1 < 0) → wp_TX_row_j1 M0 Q) ∧ ((¬ a1 < 0) → (((a1 < (144 : Int32)) → wp_S_make M0 a1 (fun x3 M4 => False)) ∧ ((¬ a1 < (144 : Int32)) → wp_TX_row_j1 M0 Q))))
def wp_TX_pixel_j1 (M0 : Mem) (Q : Nat → Mem → Prop) : Prop := Q 1 M0
def wp_TX_pixel (M0 : Mem) (a1 : Int32) (Q : Nat → Mem → Prop) : Prop := (((a1 < 0) → wp_TX_pixel_j1 M0 Q) ∧ ((¬ a1 < 0) → (((a1 < (160 : Int32)) → vp_in a1 160 ∧ False) ∧ ((¬ a1 < (160 : Int32)) → wp_TX_pixel_j1 M0 Q))))
def wp_TX_count_j1 (x2 : Int32) (Q : Nat → Mem → Prop) : Prop := False
def wp_TX_count_j2 (x4 : Int32) (Q : Nat → Mem → Prop) : Prop := False
def wp_TX_count_j3 (x6 : Int32) (Q : Nat → Mem → Prop) : Prop := False
def wp_TX_count_j4 (x8 : Int32) (Q : Nat → Mem → Prop) : Prop := False
def wp_TX_count_j5 (x10 : Int32) (Q : Nat → Mem → Prop) : Prop := False
def wp_TX_count_j6 (x12 : Int32) (Q : Nat → Mem → Prop) : Prop := False
def wp_TX_count (M0 : Mem) (a1 : Int32) (Q : Nat → Mem → Prop) : Prop := ((((a1 = (0 : Int32))) → False) ∧ ((¬ (a1 = (0 : Int32))) → ((((a1 = (1 : Int32))) → False) ∧ ((¬ (a1 = (1 : Int32))) → ((((a1 = (2 : Int32))) → ((((M0 5 3) = 0) → wp_TX_count_j1 (0 : Int32) Q) ∧ ((¬ (M0 5 3) = 0) → wp_TX_count_j1 (1 : Int32) Q))) ∧ ((¬ (a1 = (2 : Int32))) → ((((a1 = (3 : Int32))) → ((((M0 5 4) = 0) → wp_TX_count_j2 (0 : Int32) Q) ∧ ((¬ (M0 5 4) = 0) → wp_TX_count_j2 (1 : Int32) Q))) ∧ ((¬ (a1 = (3 : Int32))) → ((((a1 = (4 : Int32))) → ((((M0 5 5) = 0) → wp_TX_count_j3 (0 : Int32) Q) ∧ ((¬ (M0 5 5) = 0) → wp_TX_count_j3 (1 : Int32) Q))) ∧ ((¬ (a1 = (4 : Int32))) → ((((a1 = (5 : Int32))) → ((((M0 1 2) = 0) → wp_TX_count_j4 (0 : Int32) Q) ∧ ((¬ (M0 1 2) = 0) → wp_TX_count_j4 (M0 1 5) Q))) ∧ ((¬ (a1 = (5 : Int32))) → ((((a1 = (6 : Int32))) → ((((M0 1 2) = 0) → wp_TX_count_j5 (0 : Int32) Q) ∧ ((¬ (M0 1 2) = 0) → wp_TX_count_j5 (M0 1 6) Q))) ∧ ((¬ (a1 = (6 : Int32))) → ((((a1 = (7 : Int32))) → ((((M0 1 4) = 0) → wp_TX_count_j6 (0 : Int32) Q) ∧ ((¬ (M0 1 4) = 0) → wp_TX_count_j6 (1 : Int32) Q))) ∧ ((¬ (a1 = (7 : Int32))) → ((((a1 = (8 : Int32))) → False) ∧ ((¬ (a1 = (8 : Int32))) → Q 0 M0))))))))))))))))))
def wp_TX_speed (M0 : Mem) (Q : Nat → Mem → Prop) : Prop := (((¬ (M0 5 0) = 0) → vf_n64 (FP.ddiv (4697254411347427328 : UInt64) (FP.i2d (M0 5 0))) ∧ vf_n64 (FP.dmul (FP.ddiv (4697254411347427328 : UInt64) (FP.i2d (M0 5 0))) (FP.i2d (M0 2 1))) ∧ False) ∧ (((M0 5 0) = 0) → Q 4 M0))
set_option maxHeartbeats 4000000 in
set_option maxRecDepth 100000 in
theorem cx_TX_rom {l : Launch} {D : va_G} {cA : ClassId} {ad tb : Nat → Nat} (hl0 : l.stackTraces = false) (M0 : Mem) (a1 : Int32) (a2 : Int32) (a3 : Int32) (a4 : Int64) (Q : Nat → Mem → Prop) (hk : wp_TX_rom M0 a1 a2 a3 a4 Q) : CtX l y_T_rom ws_T_rom rx_T_rom D (ceC ad cA) cA tb [.ref (ad 0), .int a1, .int a2, .int a3, .long a4] M0 Q := by
  refine CtX.of (own := "TileConsole") (cc := b_T_rom) (maxL := 7) (ret := (some .int)) ceC_fix (by decide) rfl rfl (Nat.le_of_ble_eq_true rfl) ?_
  intro p e s m args below meth c A QQ ls H locs hQQ hC hT hnh hlk hw hl
  have hx := hC.1.1
  have hb := hC.1.2.1
  unfold wp_TX_rom at hk
  have hl : lv_has ls 7 [(0, .ref (ad 0)), (1, .int a1), (2, .int a2), (3, .int a3), (4, .long a4)] := hl
  refine lv_iload_n hx hb d_T_rom_0 rfl (lv_at hl 3 rfl) ?_
  refine lv_iconst (v := 1) hx hb d_T_rom_1 (by decide) ?_
  have hj1 : ∀ (H : Heap) (locs : List Loc) (ls : Array Slot), wp_TX_rom_j1 M0 Q → Wd D (ceC ad cA) A s H locs M0 → lv_has ls 7 [(0, .ref (ad 0)), (1, .int a1), (2, .int a2), (3, .int a3), (4, .long a4)] → W p l e rx_T_rom s m args below meth c H locs 0 0 QQ (F0 m 11 ls []) := by
    intro H locs ls  hk hw hl
    unfold wp_TX_rom_j1 at hk
    exact thr_site (k := 0) (tx := "n is not 1 to 8") xup hQQ hC hT hl0 hnh hlk hw hl.1 m_174 m_175 m_176 s_65 own_0 (by decide +kernel) (by decide +kernel) d_T_rom_11 d_T_rom_14 d_T_rom_15 d_T_rom_17 d_T_rom_20 ⟨Nat.le_of_ble_eq_true rfl, Nat.le_of_ble_eq_true rfl, Nat.le_of_ble_eq_true rfl, Nat.le_of_ble_eq_true rfl⟩ hk
  refine lv_icmp_lt (tgt := 11) hx hb d_T_rom_2 (by decide) (fun hc => ?_) (fun hc => ?_)
  · have hk := hk.1 hc
    exact hj1 _ _ _  hk hw (lv_sub hl [0, 1, 2, 3, 4] rfl)
  · have hk := hk.2 hc
    refine lv_iload_n hx hb d_T_rom_5 rfl (lv_at hl 3 rfl) ?_
    refine lv_bipush (v := 8) hx hb d_T_rom_6 (by decide) ?_
    refine lv_icmp_le (tgt := 21) hx hb d_T_rom_8 (by decide) (fun hc => ?_) (fun hc => ?_)
    · have hk := hk.1 hc
      refine lv_iload_n hx hb d_T_rom_21 rfl (lv_at hl 1 rfl) ?_
      have hj2 : ∀ (H : Heap) (locs : List Loc) (ls : Array Slot), wp_TX_rom_j2 M0 Q → Wd D (ceC ad cA) A s H locs M0 → lv_has ls 7 [(0, .ref (ad 0)), (1, .int a1), (2, .int a2), (3, .int a3), (4, .long a4)] → W p l e rx_T_rom s m args below meth c H locs 0 0 QQ (F0 m 31 ls []) := by
        intro H locs ls  hk hw hl
        unfold wp_TX_rom_j2 at hk
        exact thr_site (k := 0) (tx := "b is not 0 to 7") xup hQQ hC hT hl0 hnh hlk hw hl.1 m_174 m_175 m_176 s_70 own_0 (by decide +kernel) (by decide +kernel) d_T_rom_31 d_T_rom_34 d_T_rom_35 d_T_rom_37 d_T_rom_40 ⟨Nat.le_of_ble_eq_true rfl, Nat.le_of_ble_eq_true rfl, Nat.le_of_ble_eq_true rfl, Nat.le_of_ble_eq_true rfl⟩ hk
      refine lv_if_lt (tgt := 31) hx hb d_T_rom_22 (by decide) (fun hc => ?_) (fun hc => ?_)
      · have hk := hk.1 hc
        exact hj2 _ _ _  hk hw (lv_sub hl [0, 1, 2, 3, 4] rfl)
      · have hk := hk.2 hc
        refine lv_iload_n hx hb d_T_rom_25 rfl (lv_at hl 1 rfl) ?_
        refine lv_bipush (v := 8) hx hb d_T_rom_26 (by decide) ?_
        refine lv_icmp_lt (tgt := 41) hx hb d_T_rom_28 (by decide) (fun hc => ?_) (fun hc => ?_)
        · have hk := hk.1 hc
          refine lv_iload_n hx hb d_T_rom_41 rfl (lv_at hl 2 rfl) ?_
          have hj3 : ∀ (H : Heap) (locs : List Loc) (ls : Array Slot), wp_TX_rom_j3 M0 Q → Wd D (ceC ad cA) A s H locs M0 → lv_has ls 7 [(0, .ref (ad 0)), (1, .int a1), (2, .int a2), (3, .int a3), (4, .long a4)] → W p l e rx_T_rom s m args below meth c H locs 0 0 QQ (F0 m 54 ls []) := by
            intro H locs ls  hk hw hl
            unfold wp_TX_rom_j3 at hk
            exact thr_site (k := 1) (tx := "the octets do not go into the bank") xup hQQ hC hT hl0 hnh hlk hw hl.1 m_171 m_172 m_173 s_74 own_1 (by decide +kernel) (by decide +kernel) d_T_rom_54 d_T_rom_57 d_T_rom_58 d_T_rom_60 d_T_rom_63 ⟨Nat.le_of_ble_eq_true rfl, Nat.le_of_ble_eq_true rfl, Nat.le_of_ble_eq_true rfl, Nat.le_of_ble_eq_true rfl⟩ hk
          refine lv_if_lt (tgt := 54) hx hb d_T_rom_42 (by decide) (fun hc => ?_) (fun hc => ?_)
          · have hk := hk.1 hc
            exact hj3 _ _ _  hk hw (lv_sub hl [0, 1, 2, 3, 4] rfl)
          · have hk := hk.2 hc
            refine lv_iload_n hx hb d_T_rom_45 rfl (lv_at hl 2 rfl) ?_
            refine lv_sipush (v := 1024) hx hb d_T_rom_46 (by decide) ?_
            refine lv_iload_n hx hb d_T_rom_49 rfl (lv_at hl 3 rfl) ?_
            refine lv_isub hx hb d_T_rom_50 ?_
            refine lv_icmp_le (tgt := 64) hx hb d_T_rom_51 (by decide) (fun hc => ?_) (fun hc => ?_)
            · have hk := hk.1 hc
              refine lv_iconst (v := 0) hx hb d_T_rom_64 (by decide) ?_
              refine lv_istore (lv' := [(6, .int (0 : Int32)), (0, .ref (ad 0)), (1, .int a1), (2, .int a2), (3, .int a3), (4, .long a4)]) hx hb d_T_rom_65 hl (by decide) rfl (fun ls hl => ?_)
              have hl1 : ∀ (n : Nat) (H : Heap) (locs : List Loc) (ls : Array Slot) (x36 : Int32) (M37 : Mem), wp_TX_rom_l1 a1 a2 a3 a4 Q n x36 M37 → Wd D (ceC ad cA) A s H locs M37 → lv_has ls 7 [(0, .ref (ad 0)), (1, .int a1), (2, .int a2), (3, .int a3), (4, .long a4), (6, .int x36)] → W p l e rx_T_rom s m args below meth c H locs 0 0 QQ (F0 m 67 ls []) := by
                intro n
                induction n with
                | zero => intro H locs ls x36 M37 hk; exact False.elim hk
                | succ n1 ih1 =>
                  intro H locs ls x36 M37 hk hw hl
                  refine lv_iload hx hb d_T_rom_67 (lv_at hl 5 rfl) ?_
                  refine lv_iload_n hx hb d_T_rom_69 rfl (lv_at hl 3 rfl) ?_
                  refine lv_icmp_ge (tgt := 104) hx hb d_T_rom_70 (by decide) (fun hc => ?_) (fun hc => ?_)
                  · have hk := hk.1 hc
                    refine lv_iload_n hx hb d_T_rom_104 rfl (lv_at hl 3 rfl) ?_
                    exact False.elim hk
                  · have hk := hk.2 hc
                    refine lv_aload_n hx hb d_T_rom_73 rfl (lv_at hl 0 rfl) ?_
                    refine g_T_cartridge hC hw m_39 d_T_rom_74 ?_
                    refine g_K_rom hC hw m_144 d_T_rom_77 ?_
                    refine lv_iload_n hx hb d_T_rom_80 rfl (lv_at hl 1 rfl) ?_
                    refine lv_sipush (v := 1024) hx hb d_T_rom_81 (by decide) ?_
                    refine lv_imul hx hb d_T_rom_84 ?_
                    refine lv_iload_n hx hb d_T_rom_85 rfl (lv_at hl 2 rfl) ?_
                    refine lv_iadd hx hb d_T_rom_86 ?_
                    refine lv_iload hx hb d_T_rom_87 (lv_at hl 5 rfl) ?_
                    refine lv_iadd hx hb d_T_rom_89 ?_
                    refine lv_lload hx hb d_T_rom_90 (lv_at hl 4 rfl) ?_
                    refine lv_iload hx hb d_T_rom_92 (lv_at hl 5 rfl) ?_
                    refine cl_Sip (As := [.long a4, .int x36]) hC hw (ct_T_octetOf _ _ _ _ hk) m_145 mw_T_octetOf rfl ⟨rfl, rfl, Nat.le_of_ble_eq_true rfl, Nat.le_of_ble_eq_true rfl⟩ rfl hl.1 rfl (Nat.le_of_ble_eq_true rfl) d_T_rom_94 (fun H locs x38 hk hw => ?_)
                    obtain ⟨hin, hk⟩ := hk
                    refine st_6 hC hw hin rfl d_T_rom_97 (fun H locs M39 e_M39 hw => ?_)
                    have hk := hk M39 e_M39
                    obtain ⟨x40, e_x40⟩ : ∃ y : Int32, y = x36 + (1 : Int32) := ⟨_, rfl⟩
                    have hk := hk x40 e_x40
                    refine lv_iinc (v := x40) (lv' := [(6, .int x40), (0, .ref (ad 0)), (1, .int a1), (2, .int a2), (3, .int a3), (4, .long a4)]) hx hb d_T_rom_98 hl (k := 5) rfl (by rw [e_x40]; rfl) (by decide) rfl (fun ls hl => ?_)
                    refine lv_goto (tgt := 67) hx hb d_T_rom_101 (by decide) ?_
                    exact ih1 _ _ _ _ _ hk hw (lv_sub hl [1, 2, 3, 4, 5, 0] rfl)
              obtain ⟨n, hk⟩ := hk
              exact hl1 n _ _ _ _ _ hk hw (lv_sub hl [1, 2, 3, 4, 5, 0] rfl)
            · have hk := hk.2 hc
              exact hj3 _ _ _  hk hw (lv_sub hl [0, 1, 2, 3, 4] rfl)
        · have hk := hk.2 hc
          exact hj2 _ _ _  hk hw (lv_sub hl [0, 1, 2, 3, 4] rfl)
    · have hk := hk.2 hc
      exact hj1 _ _ _  hk hw (lv_sub hl [0, 1, 2, 3, 4] rfl)
set_option maxHeartbeats 4000000 in
set_option maxRecDepth 100000 in
theorem cx_TX_insert {l : Launch} {D : va_G} {cA : ClassId} {ad tb : Nat → Nat} (hl0 : l.stackTraces = false) (M0 : Mem) (a1 : Int32) (Q : Nat → Mem → Prop) (hk : wp_TX_insert M0 a1 Q) : CtX l y_T_insert ws_T_insert rx_T_insert D (ceC ad cA) cA tb [.ref (ad 0), .int a1] M0 Q := by
  refine CtX.of (own := "TileConsole") (cc := b_T_insert) (maxL := 2) (ret := (some .int)) ceC_fix (by decide) rfl rfl (Nat.le_of_ble_eq_true rfl) ?_
  intro p e s m args below meth c A QQ ls H locs hQQ hC hT hnh hlk hw hl
  have hx := hC.1.1
  have hb := hC.1.2.1
  unfold wp_TX_insert at hk
  have hl : lv_has ls 2 [(0, .ref (ad 0)), (1, .int a1)] := hl
  refine lv_iload_n hx hb d_T_insert_0 rfl (lv_at hl 1 rfl) ?_
  have hj1 : ∀ (H : Heap) (locs : List Loc) (ls : Array Slot), wp_TX_insert_j1 M0 Q → Wd D (ceC ad cA) A s H locs M0 → lv_has ls 2 [(0, .ref (ad 0)), (1, .int a1)] → W p l e rx_T_insert s m args below meth c H locs 0 0 QQ (F0 m 9 ls []) := by
    intro H locs ls  hk hw hl
    unfold wp_TX_insert_j1 at hk
    exact thr_site (k := 0) (tx := "kind is not 0 to 3") xup hQQ hC hT hl0 hnh hlk hw hl.1 m_174 m_175 m_176 s_84 own_0 (by decide +kernel) (by decide +kernel) d_T_insert_9 d_T_insert_12 d_T_insert_13 d_T_insert_15 d_T_insert_18 ⟨Nat.le_of_ble_eq_true rfl, Nat.le_of_ble_eq_true rfl, Nat.le_of_ble_eq_true rfl, Nat.le_of_ble_eq_true rfl⟩ hk
  refine lv_if_lt (tgt := 9) hx hb d_T_insert_1 (by decide) (fun hc => ?_) (fun hc => ?_)
  · have hk := hk.1 hc
    exact hj1 _ _ _  hk hw (lv_sub hl [0, 1] rfl)
  · have hk := hk.2 hc
    refine lv_iload_n hx hb d_T_insert_4 rfl (lv_at hl 1 rfl) ?_
    refine lv_iconst (v := 3) hx hb d_T_insert_5 (by decide) ?_
    refine lv_icmp_le (tgt := 19) hx hb d_T_insert_6 (by decide) (fun hc => ?_) (fun hc => ?_)
    · have hk := hk.1 hc
      refine lv_aload_n hx hb d_T_insert_19 rfl (lv_at hl 0 rfl) ?_
      refine g_T_cartridge hC hw m_39 d_T_insert_20 ?_
      refine cl_Vip (j := 1) (As := []) hC hw (ct_K_headerAgrees _  _ hk) m_146 mw_K_headerAgrees rfl ⟨rfl, rfl, Nat.le_of_ble_eq_true rfl, Nat.le_of_ble_eq_true rfl⟩ rfl rfl rfl hl.1 rfl (Nat.le_of_ble_eq_true rfl) d_T_insert_23 (fun H locs x5 hk hw => ?_)
      refine lv_if_ne (tgt := 39) hx hb d_T_insert_26 (by decide) (fun hc => ?_) (fun hc => ?_)
      · have hk := hk.1 hc
        refine lv_aload_n hx hb d_T_insert_39 rfl (lv_at hl 0 rfl) ?_
        refine g_T_cartridge hC hw m_39 d_T_insert_40 ?_
        refine lv_iconst (v := 1) hx hb d_T_insert_43 (by decide) ?_
        refine p_K_in hC hw (Or.inr rfl) m_147 d_T_insert_44 (fun H locs M6 e_M6 hw => ?_)
        have hk := hk M6 e_M6
        refine lv_aload_n hx hb d_T_insert_47 rfl (lv_at hl 0 rfl) ?_
        refine g_T_cartridge hC hw m_39 d_T_insert_48 ?_
        refine lv_iload_n hx hb d_T_insert_51 rfl (lv_at hl 1 rfl) ?_
        refine p_K_kind hC hw m_148 d_T_insert_52 (fun H locs M7 e_M7 hw => ?_)
        have hk := hk M7 e_M7
        refine lv_aload_n hx hb d_T_insert_55 rfl (lv_at hl 0 rfl) ?_
        refine cl_Vv (j := 0) (As := []) hC hw (ct_T_startAnew _  _ hk) m_149 mw_T_startAnew rfl ⟨rfl, rfl, Nat.le_of_ble_eq_true rfl, Nat.le_of_ble_eq_true rfl⟩ rfl rfl rfl hl.1 rfl (Nat.le_of_ble_eq_true rfl) d_T_insert_56 (fun H locs M8 hk hw => ?_)
        refine lv_iconst (v := 1) hx hb d_T_insert_59 (by decide) ?_
        exact False.elim hk
      · have hk := hk.2 hc
        exact thr_site (k := 2) (tx := "the header's check octet does not agree") xup hQQ hC hT hl0 hnh hlk hw hl.1 m_177 m_178 m_179 s_92 own_2 (by decide +kernel) (by decide +kernel) d_T_insert_29 d_T_insert_32 d_T_insert_33 d_T_insert_35 d_T_insert_38 ⟨Nat.le_of_ble_eq_true rfl, Nat.le_of_ble_eq_true rfl, Nat.le_of_ble_eq_true rfl, Nat.le_of_ble_eq_true rfl⟩ hk
    · have hk := hk.2 hc
      exact hj1 _ _ _  hk hw (lv_sub hl [0, 1] rfl)
set_option maxHeartbeats 4000000 in
set_option maxRecDepth 100000 in
theorem cx_TX_run {l : Launch} {D : va_G} {cA : ClassId} {ad tb : Nat → Nat} (hl0 : l.stackTraces = false) (M0 : Mem) (a1 : Int32) (Q : Nat → Mem → Prop) (hk : wp_TX_run M0 a1 Q) : CtX l y_T_run ws_T_run rx_T_run D (ceC ad cA) cA tb [.ref (ad 0), .int a1] M0 Q := by
  refine CtX.of (own := "TileConsole") (cc := b_T_run) (maxL := 4) (ret := (some .int)) ceC_fix (by decide) rfl rfl (Nat.le_of_ble_eq_true rfl) ?_
  intro p e s m args below meth c A QQ ls H locs hQQ hC hT hnh hlk hw hl
  have hx := hC.1.1
  have hb := hC.1.2.1
  unfold wp_TX_run at hk
  have hl : lv_has ls 4 [(0, .ref (ad 0)), (1, .int a1)] := hl
  refine lv_iload_n hx hb d_T_run_0 rfl (lv_at hl 1 rfl) ?_
  refine lv_iconst (v := 1) hx hb d_T_run_1 (by decide) ?_
  have hj1 : ∀ (H : Heap) (locs : List Loc) (ls : Array Slot), wp_TX_run_j1 M0 Q → Wd D (ceC ad cA) A s H locs M0 → lv_has ls 4 [(0, .ref (ad 0)), (1, .int a1)] → W p l e rx_T_run s m args below meth c H locs 0 0 QQ (F0 m 11 ls []) := by
    intro H locs ls  hk hw hl
    unfold wp_TX_run_j1 at hk
    exact thr_site (k := 0) (tx := "n is not 1 to 100") xup hQQ hC hT hl0 hnh hlk hw hl.1 m_174 m_175 m_176 s_103 own_0 (by decide +kernel) (by decide +kernel) d_T_run_11 d_T_run_14 d_T_run_15 d_T_run_17 d_T_run_20 ⟨Nat.le_of_ble_eq_true rfl, Nat.le_of_ble_eq_true rfl, Nat.le_of_ble_eq_true rfl, Nat.le_of_ble_eq_true rfl⟩ hk
  refine lv_icmp_lt (tgt := 11) hx hb d_T_run_2 (by decide) (fun hc => ?_) (fun hc => ?_)
  · have hk := hk.1 hc
    exact hj1 _ _ _  hk hw (lv_sub hl [0, 1] rfl)
  · have hk := hk.2 hc
    refine lv_iload_n hx hb d_T_run_5 rfl (lv_at hl 1 rfl) ?_
    refine lv_bipush (v := 100) hx hb d_T_run_6 (by decide) ?_
    refine lv_icmp_le (tgt := 21) hx hb d_T_run_8 (by decide) (fun hc => ?_) (fun hc => ?_)
    · have hk := hk.1 hc
      refine lv_aload_n hx hb d_T_run_21 rfl (lv_at hl 0 rfl) ?_
      refine g_T_cartridge hC hw m_39 d_T_run_22 ?_
      refine g_K_in hC hw m_147 d_T_run_25 ?_
      refine lv_if_ne (tgt := 41) hx hb d_T_run_28 (by decide) (fun hc => ?_) (fun hc => ?_)
      · have hk := hk.1 hc
        refine lv_aload_n hx hb d_T_run_41 rfl (lv_at hl 0 rfl) ?_
        refine g_T_processor hC hw m_47 d_T_run_42 ?_
        refine g_Q_cycles hC hw m_150 d_T_run_45 ?_
        refine lv_topi (fun x10 e_x10 => ?_)
        have hk := hk x10 e_x10
        refine lv_istore_n (lv' := [(2, .int x10), (0, .ref (ad 0)), (1, .int a1)]) hx hb d_T_run_48 rfl hl (by decide) rfl (fun ls hl => ?_)
        refine lv_iconst (v := 0) hx hb d_T_run_49 (by decide) ?_
        refine lv_istore_n (lv' := [(3, .int (0 : Int32)), (2, .int x10), (0, .ref (ad 0)), (1, .int a1)]) hx hb d_T_run_50 rfl hl (by decide) rfl (fun ls hl => ?_)
        have hl1 : ∀ (n : Nat) (H : Heap) (locs : List Loc) (ls : Array Slot) (x11 : Int32) (M12 : Mem), wp_TX_run_l1 a1 Q n x11 M12 → Wd D (ceC ad cA) A s H locs M12 → lv_has ls 4 [(0, .ref (ad 0)), (1, .int a1), (2, .int x10), (3, .int x11)] → W p l e rx_T_run s m args below meth c H locs 0 0 QQ (F0 m 51 ls []) := by
          intro n
          induction n with
          | zero => intro H locs ls x11 M12 hk; exact False.elim hk
          | succ n1 ih1 =>
            intro H locs ls x11 M12 hk hw hl
            refine lv_iload_n hx hb d_T_run_51 rfl (lv_at hl 3 rfl) ?_
            refine lv_iload_n hx hb d_T_run_52 rfl (lv_at hl 1 rfl) ?_
            refine lv_icmp_ge (tgt := 99) hx hb d_T_run_53 (by decide) (fun hc => ?_) (fun hc => ?_)
            · have hk := hk.1 hc
              refine lv_aload_n hx hb d_T_run_99 rfl (lv_at hl 0 rfl) ?_
              refine g_T_processor hC hw m_47 d_T_run_100 ?_
              refine g_Q_cycles hC hw m_150 d_T_run_103 ?_
              refine lv_iload_n hx hb d_T_run_106 rfl (lv_at hl 2 rfl) ?_
              refine lv_isub hx hb d_T_run_107 ?_
              exact False.elim hk
            · have hk := hk.2 hc
              refine lv_aload_n hx hb d_T_run_56 rfl (lv_at hl 0 rfl) ?_
              refine g_T_processor hC hw m_47 d_T_run_57 ?_
              refine g_Q_locked hC hw m_151 d_T_run_60 ?_
              have hj2 : ∀ (H : Heap) (locs : List Loc) (ls : Array Slot) (M16 : Mem), wp_TX_run_j2 x11 (wp_TX_run_l1 a1 Q n1) M16 Q → Wd D (ceC ad cA) A s H locs M16 → lv_has ls 4 [(0, .ref (ad 0)), (1, .int a1), (2, .int x10), (3, .int x11)] → W p l e rx_T_run s m args below meth c H locs 0 0 QQ (F0 m 73 ls []) := by
                intro H locs ls M16 hk hw hl
                unfold wp_TX_run_j2 at hk
                refine lv_aload_n hx hb d_T_run_73 rfl (lv_at hl 0 rfl) ?_
                refine g_T_processor hC hw m_47 d_T_run_74 ?_
                refine g_Q_locked hC hw m_151 d_T_run_77 ?_
                refine lv_if_eq (tgt := 93) hx hb d_T_run_80 (by decide) (fun hc => ?_) (fun hc => ?_)
                · have hk := hk.1 hc
                  obtain ⟨x17, e_x17⟩ : ∃ y : Int32, y = x11 + (1 : Int32) := ⟨_, rfl⟩
                  have hk := hk x17 e_x17
                  refine lv_iinc (v := x17) (lv' := [(3, .int x17), (0, .ref (ad 0)), (1, .int a1), (2, .int x10)]) hx hb d_T_run_93 hl (k := 3) rfl (by rw [e_x17]; rfl) (by decide) rfl (fun ls hl => ?_)
                  refine lv_goto (tgt := 51) hx hb d_T_run_96 (by decide) ?_
                  exact ih1 _ _ _ _ _ hk hw (lv_sub hl [1, 2, 3, 0] rfl)
                · have hk := hk.2 hc
                  exact thr_site (k := 3) (tx := "the processor is locked") xup hQQ hC hT hl0 hnh hlk hw hl.1 m_180 m_181 m_182 s_118 own_3 (by decide +kernel) (by decide +kernel) d_T_run_83 d_T_run_86 d_T_run_87 d_T_run_89 d_T_run_92 ⟨Nat.le_of_ble_eq_true rfl, Nat.le_of_ble_eq_true rfl, Nat.le_of_ble_eq_true rfl, Nat.le_of_ble_eq_true rfl⟩ hk
              refine lv_if_ne (tgt := 73) hx hb d_T_run_63 (by decide) (fun hc => ?_) (fun hc => ?_)
              · have hk := hk.1 hc
                exact hj2 _ _ _ _ hk hw (lv_sub hl [0, 1, 2, 3] rfl)
              · have hk := hk.2 hc
                refine lv_aload_n hx hb d_T_run_66 rfl (lv_at hl 0 rfl) ?_
                refine g_T_processor hC hw m_47 d_T_run_67 ?_
                refine cl_Vv (j := 5) (As := []) hC hw (ct_Q_step _  _ hk) m_152 mw_Q_step rfl ⟨rfl, rfl, Nat.le_of_ble_eq_true rfl, Nat.le_of_ble_eq_true rfl⟩ rfl rfl rfl hl.1 rfl (Nat.le_of_ble_eq_true rfl) d_T_run_70 (fun H locs M18 hk hw => ?_)
                exact hj2 _ _ _ _ hk hw (lv_sub hl [0, 1, 2, 3] rfl)
        obtain ⟨n, hk⟩ := hk
        exact hl1 n _ _ _ _ _ hk hw (lv_sub hl [2, 3, 1, 0] rfl)
      · have hk := hk.2 hc
        exact thr_site (k := 2) (tx := "nothing is in") xup hQQ hC hT hl0 hnh hlk hw hl.1 m_177 m_178 m_179 s_105 own_2 (by decide +kernel) (by decide +kernel) d_T_run_31 d_T_run_34 d_T_run_35 d_T_run_37 d_T_run_40 ⟨Nat.le_of_ble_eq_true rfl, Nat.le_of_ble_eq_true rfl, Nat.le_of_ble_eq_true rfl, Nat.le_of_ble_eq_true rfl⟩ hk
    · have hk := hk.2 hc
      exact hj1 _ _ _  hk hw (lv_sub hl [0, 1] rfl)
set_option maxHeartbeats 4000000 in
set_option maxRecDepth 100000 in
theorem cx_TX_set {l : Launch} {D : va_G} {cA : ClassId} {ad tb : Nat → Nat} (hl0 : l.stackTraces = false) (M0 : Mem) (a1 : Int32) (a2 : Int32) (Q : Nat → Mem → Prop) (hk : wp_TX_set M0 a1 a2 Q) : CtX l y_T_set ws_T_set rx_T_set D (ceC ad cA) cA tb [.ref (ad 0), .int a1, .int a2] M0 Q := by
  refine CtX.of (own := "TileConsole") (cc := b_T_set) (maxL := 4) (ret := (some .int)) ceC_fix (by decide) rfl rfl (Nat.le_of_ble_eq_true rfl) ?_
  intro p e s m args below meth c A QQ ls H locs hQQ hC hT hnh hlk hw hl
  have hx := hC.1.1
  have hb := hC.1.2.1
  unfold wp_TX_set at hk
  have hl : lv_has ls 4 [(0, .ref (ad 0)), (1, .int a1), (2, .int a2)] := hl
  refine lv_iload_n hx hb d_T_set_0 rfl (lv_at hl 1 rfl) ?_
  have hj1 : ∀ (H : Heap) (locs : List Loc) (ls : Array Slot), wp_TX_set_j1 M0 Q → Wd D (ceC ad cA) A s H locs M0 → lv_has ls 4 [(0, .ref (ad 0)), (1, .int a1), (2, .int a2)] → W p l e rx_T_set s m args below meth c H locs 0 0 QQ (F0 m 10 ls []) := by
    intro H locs ls  hk hw hl
    unfold wp_TX_set_j1 at hk
    exact thr_site (k := 0) (tx := "k is not 0 to 9") xup hQQ hC hT hl0 hnh hlk hw hl.1 m_174 m_175 m_176 s_121 own_0 (by decide +kernel) (by decide +kernel) d_T_set_10 d_T_set_13 d_T_set_14 d_T_set_16 d_T_set_19 ⟨Nat.le_of_ble_eq_true rfl, Nat.le_of_ble_eq_true rfl, Nat.le_of_ble_eq_true rfl, Nat.le_of_ble_eq_true rfl⟩ hk
  refine lv_if_lt (tgt := 10) hx hb d_T_set_1 (by decide) (fun hc => ?_) (fun hc => ?_)
  · have hk := hk.1 hc
    exact hj1 _ _ _  hk hw (lv_sub hl [0, 1, 2] rfl)
  · have hk := hk.2 hc
    refine lv_iload_n hx hb d_T_set_4 rfl (lv_at hl 1 rfl) ?_
    refine lv_bipush (v := 9) hx hb d_T_set_5 (by decide) ?_
    refine lv_icmp_le (tgt := 20) hx hb d_T_set_7 (by decide) (fun hc => ?_) (fun hc => ?_)
    · have hk := hk.1 hc
      refine lv_aload_n hx hb d_T_set_20 rfl (lv_at hl 0 rfl) ?_
      refine g_T_processor hC hw m_47 d_T_set_21 ?_
      refine lv_iload_n hx hb d_T_set_24 rfl (lv_at hl 1 rfl) ?_
      refine cl_Vip (j := 5) (As := [.int a1]) hC hw (ct_Q_valueOf _ _ _ hk) m_153 mw_Q_valueOf rfl ⟨rfl, rfl, Nat.le_of_ble_eq_true rfl, Nat.le_of_ble_eq_true rfl⟩ rfl rfl rfl hl.1 rfl (Nat.le_of_ble_eq_true rfl) d_T_set_25 (fun H locs x3 hk hw => ?_)
      refine lv_istore_n (lv' := [(3, .int x3), (0, .ref (ad 0)), (1, .int a1), (2, .int a2)]) hx hb d_T_set_28 rfl hl (by decide) rfl (fun ls hl => ?_)
      refine lv_aload_n hx hb d_T_set_29 rfl (lv_at hl 1 rfl) ?_
      refine g_T_processor hC hw m_47 d_T_set_30 ?_
      refine lv_iload_n hx hb d_T_set_33 rfl (lv_at hl 2 rfl) ?_
      refine lv_iload_n hx hb d_T_set_34 rfl (lv_at hl 3 rfl) ?_
      refine cl_Vv (j := 5) (As := [.int a1, .int a2]) hC hw (ct_Q_put _ _ _ _ hk) m_154 mw_Q_put rfl ⟨rfl, rfl, Nat.le_of_ble_eq_true rfl, Nat.le_of_ble_eq_true rfl⟩ rfl rfl rfl hl.1 rfl (Nat.le_of_ble_eq_true rfl) d_T_set_35 (fun H locs M4 hk hw => ?_)
      refine lv_iload_n hx hb d_T_set_38 rfl (lv_at hl 0 rfl) ?_
      exact False.elim hk
    · have hk := hk.2 hc
      exact hj1 _ _ _  hk hw (lv_sub hl [0, 1, 2] rfl)
set_option maxHeartbeats 4000000 in
set_option maxRecDepth 100000 in
theorem cx_TX_register {l : Launch} {D : va_G} {cA : ClassId} {ad tb : Nat → Nat} (hl0 : l.stackTraces = false) (M0 : Mem) (a1 : Int32) (Q : Nat → Mem → Prop) (hk : wp_TX_register M0 a1 Q) : CtX l y_T_register ws_T_register rx_T_register D (ceC ad cA) cA tb [.ref (ad 0), .int a1] M0 Q := by
  refine CtX.of (own := "TileConsole") (cc := b_T_register) (maxL := 2) (ret := (some .int)) ceC_fix (by decide) rfl rfl (Nat.le_of_ble_eq_true rfl) ?_
  intro p e s m args below meth c A QQ ls H locs hQQ hC hT hnh hlk hw hl
  have hx := hC.1.1
  have hb := hC.1.2.1
  unfold wp_TX_register at hk
  have hl : lv_has ls 2 [(0, .ref (ad 0)), (1, .int a1)] := hl
  refine lv_iload_n hx hb d_T_register_0 rfl (lv_at hl 1 rfl) ?_
  have hj1 : ∀ (H : Heap) (locs : List Loc) (ls : Array Slot), wp_TX_register_j1 M0 Q → Wd D (ceC ad cA) A s H locs M0 → lv_has ls 2 [(0, .ref (ad 0)), (1, .int a1)] → W p l e rx_T_register s m args below meth c H locs 0 0 QQ (F0 m 10 ls []) := by
    intro H locs ls  hk hw hl
    unfold wp_TX_register_j1 at hk
    exact thr_site (k := 0) (tx := "k is not 0 to 9") xup hQQ hC hT hl0 hnh hlk hw hl.1 m_174 m_175 m_176 s_121 own_0 (by decide +kernel) (by decide +kernel) d_T_register_10 d_T_register_13 d_T_register_14 d_T_register_16 d_T_register_19 ⟨Nat.le_of_ble_eq_true rfl, Nat.le_of_ble_eq_true rfl, Nat.le_of_ble_eq_true rfl, Nat.le_of_ble_eq_true rfl⟩ hk
  refine lv_if_lt (tgt := 10) hx hb d_T_register_1 (by decide) (fun hc => ?_) (fun hc => ?_)
  · have hk := hk.1 hc
    exact hj1 _ _ _  hk hw (lv_sub hl [0, 1] rfl)
  · have hk := hk.2 hc
    refine lv_iload_n hx hb d_T_register_4 rfl (lv_at hl 1 rfl) ?_
    refine lv_bipush (v := 9) hx hb d_T_register_5 (by decide) ?_
    refine lv_icmp_le (tgt := 20) hx hb d_T_register_7 (by decide) (fun hc => ?_) (fun hc => ?_)
    · have hk := hk.1 hc
      refine lv_aload_n hx hb d_T_register_20 rfl (lv_at hl 0 rfl) ?_
      refine g_T_processor hC hw m_47 d_T_register_21 ?_
      refine lv_iload_n hx hb d_T_register_24 rfl (lv_at hl 1 rfl) ?_
      refine cl_Vip (j := 5) (As := [.int a1]) hC hw (ct_Q_valueOf _ _ _ hk) m_153 mw_Q_valueOf rfl ⟨rfl, rfl, Nat.le_of_ble_eq_true rfl, Nat.le_of_ble_eq_true rfl⟩ rfl rfl rfl hl.1 rfl (Nat.le_of_ble_eq_true rfl) d_T_register_25 (fun H locs x2 hk hw => ?_)
      exact False.elim hk
    · have hk := hk.2 hc
      exact hj1 _ _ _  hk hw (lv_sub hl [0, 1] rfl)
set_option maxHeartbeats 4000000 in
set_option maxRecDepth 100000 in
theorem cx_TX_read {l : Launch} {D : va_G} {cA : ClassId} {ad tb : Nat → Nat} (hl0 : l.stackTraces = false) (M0 : Mem) (a1 : Int32) (Q : Nat → Mem → Prop) (hk : wp_TX_read M0 a1 Q) : CtX l y_T_read ws_T_read rx_T_read D (ceC ad cA) cA tb [.ref (ad 0), .int a1] M0 Q := by
  refine CtX.of (own := "TileConsole") (cc := b_T_read) (maxL := 2) (ret := (some .int)) ceC_fix (by decide) rfl rfl (Nat.le_of_ble_eq_true rfl) ?_
  intro p e s m args below meth c A QQ ls H locs hQQ hC hT hnh hlk hw hl
  have hx := hC.1.1
  have hb := hC.1.2.1
  unfold wp_TX_read at hk
  have hl : lv_has ls 2 [(0, .ref (ad 0)), (1, .int a1)] := hl
  refine lv_iload_n hx hb d_T_read_0 rfl (lv_at hl 1 rfl) ?_
  have hj1 : ∀ (H : Heap) (locs : List Loc) (ls : Array Slot), wp_TX_read_j1 M0 Q → Wd D (ceC ad cA) A s H locs M0 → lv_has ls 2 [(0, .ref (ad 0)), (1, .int a1)] → W p l e rx_T_read s m args below meth c H locs 0 0 QQ (F0 m 10 ls []) := by
    intro H locs ls  hk hw hl
    unfold wp_TX_read_j1 at hk
    exact thr_site (k := 0) (tx := "the address is not 0 to 0xFFFF") xup hQQ hC hT hl0 hnh hlk hw hl.1 m_174 m_175 m_176 s_132 own_0 (by decide +kernel) (by decide +kernel) d_T_read_10 d_T_read_13 d_T_read_14 d_T_read_16 d_T_read_19 ⟨Nat.le_of_ble_eq_true rfl, Nat.le_of_ble_eq_true rfl, Nat.le_of_ble_eq_true rfl, Nat.le_of_ble_eq_true rfl⟩ hk
  refine lv_if_lt (tgt := 10) hx hb d_T_read_1 (by decide) (fun hc => ?_) (fun hc => ?_)
  · have hk := hk.1 hc
    exact hj1 _ _ _  hk hw (lv_sub hl [0, 1] rfl)
  · have hk := hk.2 hc
    refine lv_iload_n hx hb d_T_read_4 rfl (lv_at hl 1 rfl) ?_
    refine lv_ldc (v := (65535 : Int32)) hx hb hC.1.2.2.2.1 (hC.1.2.2.2.2 _ m_155) d_T_read_5 ?_
    refine lv_icmp_le (tgt := 20) hx hb d_T_read_7 (by decide) (fun hc => ?_) (fun hc => ?_)
    · have hk := hk.1 hc
      refine lv_aload_n hx hb d_T_read_20 rfl (lv_at hl 0 rfl) ?_
      refine g_T_memory hC hw m_43 d_T_read_21 ?_
      refine lv_iload_n hx hb d_T_read_24 rfl (lv_at hl 1 rfl) ?_
      refine cl_Vip (j := 3) (As := [.int a1]) hC hw (ct_Y_load _ _ _ hk) m_156 mw_Y_load rfl ⟨rfl, rfl, Nat.le_of_ble_eq_true rfl, Nat.le_of_ble_eq_true rfl⟩ rfl rfl rfl hl.1 rfl (Nat.le_of_ble_eq_true rfl) d_T_read_25 (fun H locs x2 hk hw => ?_)
      exact False.elim hk
    · have hk := hk.2 hc
      exact hj1 _ _ _  hk hw (lv_sub hl [0, 1] rfl)
set_option maxHeartbeats 4000000 in
set_option maxRecDepth 100000 in
theorem cx_TX_write {l : Launch} {D : va_G} {cA : ClassId} {ad tb : Nat → Nat} (hl0 : l.stackTraces = false) (M0 : Mem) (a1 : Int32) (a2 : Int32) (a3 : Int64) (Q : Nat → Mem → Prop) (hk : wp_TX_write M0 a1 a2 a3 Q) : CtX l y_T_write ws_T_write rx_T_write D (ceC ad cA) cA tb [.ref (ad 0), .int a1, .int a2, .long a3] M0 Q := by
  refine CtX.of (own := "TileConsole") (cc := b_T_write) (maxL := 6) (ret := (some .int)) ceC_fix (by decide) rfl rfl (Nat.le_of_ble_eq_true rfl) ?_
  intro p e s m args below meth c A QQ ls H locs hQQ hC hT hnh hlk hw hl
  have hx := hC.1.1
  have hb := hC.1.2.1
  unfold wp_TX_write at hk
  have hl : lv_has ls 6 [(0, .ref (ad 0)), (1, .int a1), (2, .int a2), (3, .long a3)] := hl
  refine lv_iload_n hx hb d_T_write_0 rfl (lv_at hl 2 rfl) ?_
  refine lv_iconst (v := 1) hx hb d_T_write_1 (by decide) ?_
  have hj1 : ∀ (H : Heap) (locs : List Loc) (ls : Array Slot), wp_TX_write_j1 M0 Q → Wd D (ceC ad cA) A s H locs M0 → lv_has ls 6 [(0, .ref (ad 0)), (1, .int a1), (2, .int a2), (3, .long a3)] → W p l e rx_T_write s m args below meth c H locs 0 0 QQ (F0 m 11 ls []) := by
    intro H locs ls  hk hw hl
    unfold wp_TX_write_j1 at hk
    exact thr_site (k := 0) (tx := "n is not 1 to 8") xup hQQ hC hT hl0 hnh hlk hw hl.1 m_174 m_175 m_176 s_65 own_0 (by decide +kernel) (by decide +kernel) d_T_write_11 d_T_write_14 d_T_write_15 d_T_write_17 d_T_write_20 ⟨Nat.le_of_ble_eq_true rfl, Nat.le_of_ble_eq_true rfl, Nat.le_of_ble_eq_true rfl, Nat.le_of_ble_eq_true rfl⟩ hk
  refine lv_icmp_lt (tgt := 11) hx hb d_T_write_2 (by decide) (fun hc => ?_) (fun hc => ?_)
  · have hk := hk.1 hc
    exact hj1 _ _ _  hk hw (lv_sub hl [0, 1, 2, 3] rfl)
  · have hk := hk.2 hc
    refine lv_iload_n hx hb d_T_write_5 rfl (lv_at hl 2 rfl) ?_
    refine lv_bipush (v := 8) hx hb d_T_write_6 (by decide) ?_
    refine lv_icmp_le (tgt := 21) hx hb d_T_write_8 (by decide) (fun hc => ?_) (fun hc => ?_)
    · have hk := hk.1 hc
      refine lv_iload_n hx hb d_T_write_21 rfl (lv_at hl 1 rfl) ?_
      have hj2 : ∀ (H : Heap) (locs : List Loc) (ls : Array Slot), wp_TX_write_j2 M0 Q → Wd D (ceC ad cA) A s H locs M0 → lv_has ls 6 [(0, .ref (ad 0)), (1, .int a1), (2, .int a2), (3, .long a3)] → W p l e rx_T_write s m args below meth c H locs 0 0 QQ (F0 m 33 ls []) := by
        intro H locs ls  hk hw hl
        unfold wp_TX_write_j2 at hk
        exact thr_site (k := 0) (tx := "an address is not 0 to 0xFFFF") xup hQQ hC hT hl0 hnh hlk hw hl.1 m_174 m_175 m_176 s_138 own_0 (by decide +kernel) (by decide +kernel) d_T_write_33 d_T_write_36 d_T_write_37 d_T_write_39 d_T_write_42 ⟨Nat.le_of_ble_eq_true rfl, Nat.le_of_ble_eq_true rfl, Nat.le_of_ble_eq_true rfl, Nat.le_of_ble_eq_true rfl⟩ hk
      refine lv_if_lt (tgt := 33) hx hb d_T_write_22 (by decide) (fun hc => ?_) (fun hc => ?_)
      · have hk := hk.1 hc
        exact hj2 _ _ _  hk hw (lv_sub hl [0, 1, 2, 3] rfl)
      · have hk := hk.2 hc
        refine lv_iload_n hx hb d_T_write_25 rfl (lv_at hl 1 rfl) ?_
        refine lv_ldc (v := (65536 : Int32)) hx hb hC.1.2.2.2.1 (hC.1.2.2.2.2 _ m_157) d_T_write_26 ?_
        refine lv_iload_n hx hb d_T_write_28 rfl (lv_at hl 2 rfl) ?_
        refine lv_isub hx hb d_T_write_29 ?_
        refine lv_icmp_le (tgt := 43) hx hb d_T_write_30 (by decide) (fun hc => ?_) (fun hc => ?_)
        · have hk := hk.1 hc
          refine lv_iconst (v := 0) hx hb d_T_write_43 (by decide) ?_
          refine lv_istore (lv' := [(5, .int (0 : Int32)), (0, .ref (ad 0)), (1, .int a1), (2, .int a2), (3, .long a3)]) hx hb d_T_write_44 hl (by decide) rfl (fun ls hl => ?_)
          have hl1 : ∀ (n : Nat) (H : Heap) (locs : List Loc) (ls : Array Slot) (x16 : Int32) (M17 : Mem), wp_TX_write_l1 a1 a2 a3 Q n x16 M17 → Wd D (ceC ad cA) A s H locs M17 → lv_has ls 6 [(0, .ref (ad 0)), (1, .int a1), (2, .int a2), (3, .long a3), (5, .int x16)] → W p l e rx_T_write s m args below meth c H locs 0 0 QQ (F0 m 46 ls []) := by
            intro n
            induction n with
            | zero => intro H locs ls x16 M17 hk; exact False.elim hk
            | succ n1 ih1 =>
              intro H locs ls x16 M17 hk hw hl
              refine lv_iload hx hb d_T_write_46 (lv_at hl 4 rfl) ?_
              refine lv_iload_n hx hb d_T_write_48 rfl (lv_at hl 2 rfl) ?_
              refine lv_icmp_ge (tgt := 75) hx hb d_T_write_49 (by decide) (fun hc => ?_) (fun hc => ?_)
              · have hk := hk.1 hc
                refine lv_iload_n hx hb d_T_write_75 rfl (lv_at hl 2 rfl) ?_
                exact False.elim hk
              · have hk := hk.2 hc
                refine lv_aload_n hx hb d_T_write_52 rfl (lv_at hl 0 rfl) ?_
                refine g_T_memory hC hw m_43 d_T_write_53 ?_
                refine lv_iload_n hx hb d_T_write_56 rfl (lv_at hl 1 rfl) ?_
                refine lv_iload hx hb d_T_write_57 (lv_at hl 4 rfl) ?_
                refine lv_iadd hx hb d_T_write_59 ?_
                refine lv_lload_n hx hb d_T_write_60 rfl (lv_at hl 3 rfl) ?_
                refine lv_iload hx hb d_T_write_61 (lv_at hl 4 rfl) ?_
                refine cl_Sip (As := [.long a3, .int x16]) hC hw (ct_T_octetOf _ _ _ _ hk) m_145 mw_T_octetOf rfl ⟨rfl, rfl, Nat.le_of_ble_eq_true rfl, Nat.le_of_ble_eq_true rfl⟩ rfl hl.1 rfl (Nat.le_of_ble_eq_true rfl) d_T_write_63 (fun H locs x18 hk hw => ?_)
                refine cl_Vv (j := 3) (As := [.int (a1 + x16), .int x18]) hC hw (ct_Y_store _ _ _ _ hk) m_158 mw_Y_store rfl ⟨rfl, rfl, Nat.le_of_ble_eq_true rfl, Nat.le_of_ble_eq_true rfl⟩ rfl rfl rfl hl.1 rfl (Nat.le_of_ble_eq_true rfl) d_T_write_66 (fun H locs M19 hk hw => ?_)
                obtain ⟨x20, e_x20⟩ : ∃ y : Int32, y = x16 + (1 : Int32) := ⟨_, rfl⟩
                have hk := hk x20 e_x20
                refine lv_iinc (v := x20) (lv' := [(5, .int x20), (0, .ref (ad 0)), (1, .int a1), (2, .int a2), (3, .long a3)]) hx hb d_T_write_69 hl (k := 4) rfl (by rw [e_x20]; rfl) (by decide) rfl (fun ls hl => ?_)
                refine lv_goto (tgt := 46) hx hb d_T_write_72 (by decide) ?_
                exact ih1 _ _ _ _ _ hk hw (lv_sub hl [1, 2, 3, 4, 0] rfl)
          obtain ⟨n, hk⟩ := hk
          exact hl1 n _ _ _ _ _ hk hw (lv_sub hl [1, 2, 3, 4, 0] rfl)
        · have hk := hk.2 hc
          exact hj2 _ _ _  hk hw (lv_sub hl [0, 1, 2, 3] rfl)
    · have hk := hk.2 hc
      exact hj1 _ _ _  hk hw (lv_sub hl [0, 1, 2, 3] rfl)
set_option maxHeartbeats 4000000 in
set_option maxRecDepth 100000 in
theorem cx_TX_keys {l : Launch} {D : va_G} {cA : ClassId} {ad tb : Nat → Nat} (hl0 : l.stackTraces = false) (M0 : Mem) (a1 : Int32) (Q : Nat → Mem → Prop) (hk : wp_TX_keys M0 a1 Q) : CtX l y_T_keys ws_T_keys rx_T_keys D (ceC ad cA) cA tb [.ref (ad 0), .int a1] M0 Q := by
  refine CtX.of (own := "TileConsole") (cc := b_T_keys) (maxL := 2) (ret := (some .int)) ceC_fix (by decide) rfl rfl (Nat.le_of_ble_eq_true rfl) ?_
  intro p e s m args below meth c A QQ ls H locs hQQ hC hT hnh hlk hw hl
  have hx := hC.1.1
  have hb := hC.1.2.1
  unfold wp_TX_keys at hk
  have hl : lv_has ls 2 [(0, .ref (ad 0)), (1, .int a1)] := hl
  refine lv_iload_n hx hb d_T_keys_0 rfl (lv_at hl 1 rfl) ?_
  have hj1 : ∀ (H : Heap) (locs : List Loc) (ls : Array Slot), wp_TX_keys_j1 M0 Q → Wd D (ceC ad cA) A s H locs M0 → lv_has ls 2 [(0, .ref (ad 0)), (1, .int a1)] → W p l e rx_T_keys s m args below meth c H locs 0 0 QQ (F0 m 11 ls []) := by
    intro H locs ls  hk hw hl
    unfold wp_TX_keys_j1 at hk
    exact thr_site (k := 0) (tx := "the mask is not 0 to 255") xup hQQ hC hT hl0 hnh hlk hw hl.1 m_174 m_175 m_176 s_143 own_0 (by decide +kernel) (by decide +kernel) d_T_keys_11 d_T_keys_14 d_T_keys_15 d_T_keys_17 d_T_keys_20 ⟨Nat.le_of_ble_eq_true rfl, Nat.le_of_ble_eq_true rfl, Nat.le_of_ble_eq_true rfl, Nat.le_of_ble_eq_true rfl⟩ hk
  refine lv_if_lt (tgt := 11) hx hb d_T_keys_1 (by decide) (fun hc => ?_) (fun hc => ?_)
  · have hk := hk.1 hc
    exact hj1 _ _ _  hk hw (lv_sub hl [0, 1] rfl)
  · have hk := hk.2 hc
    refine lv_iload_n hx hb d_T_keys_4 rfl (lv_at hl 1 rfl) ?_
    refine lv_sipush (v := 255) hx hb d_T_keys_5 (by decide) ?_
    refine lv_icmp_le (tgt := 21) hx hb d_T_keys_8 (by decide) (fun hc => ?_) (fun hc => ?_)
    · have hk := hk.1 hc
      refine lv_aload_n hx hb d_T_keys_21 rfl (lv_at hl 0 rfl) ?_
      refine g_T_ports hC hw m_41 d_T_keys_22 ?_
      refine lv_iload_n hx hb d_T_keys_25 rfl (lv_at hl 1 rfl) ?_
      refine cl_Vi (j := 2) (As := [.int a1]) hC hw (ct_P_press _ _ _ hk) m_159 mw_P_press rfl ⟨rfl, rfl, Nat.le_of_ble_eq_true rfl, Nat.le_of_ble_eq_true rfl⟩ rfl rfl rfl hl.1 rfl (Nat.le_of_ble_eq_true rfl) d_T_keys_26 (fun H locs x3 M4 hk hw => ?_)
      exact False.elim hk
    · have hk := hk.2 hc
      exact hj1 _ _ _  hk hw (lv_sub hl [0, 1] rfl)
set_option maxHeartbeats 4000000 in
set_option maxRecDepth 100000 in
theorem cx_TX_row {l : Launch} {D : va_G} {cA : ClassId} {ad tb : Nat → Nat} (hl0 : l.stackTraces = false) (M0 : Mem) (a1 : Int32) (Q : Nat → Mem → Prop) (hk : wp_TX_row M0 a1 Q) : CtX l y_T_row ws_T_row rx_T_row D (ceC ad cA) cA tb [.ref (ad 0), .int a1] M0 Q := by
  refine CtX.of (own := "TileConsole") (cc := b_T_row) (maxL := 2) (ret := (some .int)) ceC_fix (by decide) rfl rfl (Nat.le_of_ble_eq_true rfl) ?_
  intro p e s m args below meth c A QQ ls H locs hQQ hC hT hnh hlk hw hl
  have hx := hC.1.1
  have hb := hC.1.2.1
  unfold wp_TX_row at hk
  have hl : lv_has ls 2 [(0, .ref (ad 0)), (1, .int a1)] := hl
  refine lv_iload_n hx hb d_T_row_0 rfl (lv_at hl 1 rfl) ?_
  have hj1 : ∀ (H : Heap) (locs : List Loc) (ls : Array Slot), wp_TX_row_j1 M0 Q → Wd D (ceC ad cA) A s H locs M0 → lv_has ls 2 [(0, .ref (ad 0)), (1, .int a1)] → W p l e rx_T_row s m args below meth c H locs 0 0 QQ (F0 m 11 ls []) := by
    intro H locs ls  hk hw hl
    unfold wp_TX_row_j1 at hk
    exact thr_site (k := 0) (tx := "y is not 0 to 143") xup hQQ hC hT hl0 hnh hlk hw hl.1 m_174 m_175 m_176 s_148 own_0 (by decide +kernel) (by decide +kernel) d_T_row_11 d_T_row_14 d_T_row_15 d_T_row_17 d_T_row_20 ⟨Nat.le_of_ble_eq_true rfl, Nat.le_of_ble_eq_true rfl, Nat.le_of_ble_eq_true rfl, Nat.le_of_ble_eq_true rfl⟩ hk
  refine lv_if_lt (tgt := 11) hx hb d_T_row_1 (by decide) (fun hc => ?_) (fun hc => ?_)
  · have hk := hk.1 hc
    exact hj1 _ _ _  hk hw (lv_sub hl [0, 1] rfl)
  · have hk := hk.2 hc
    refine lv_iload_n hx hb d_T_row_4 rfl (lv_at hl 1 rfl) ?_
    refine lv_sipush (v := 144) hx hb d_T_row_5 (by decide) ?_
    refine lv_icmp_lt (tgt := 21) hx hb d_T_row_8 (by decide) (fun hc => ?_) (fun hc => ?_)
    · have hk := hk.1 hc
      refine lv_aload_n hx hb d_T_row_21 rfl (lv_at hl 0 rfl) ?_
      refine g_T_screen hC hw m_45 d_T_row_22 ?_
      refine lv_iload_n hx hb d_T_row_25 rfl (lv_at hl 1 rfl) ?_
      refine cl_Vi (j := 4) (As := [.int a1]) hC hw (ct_S_make _ _ _ hk) m_160 mw_S_make rfl ⟨rfl, rfl, Nat.le_of_ble_eq_true rfl, Nat.le_of_ble_eq_true rfl⟩ rfl rfl rfl hl.1 rfl (Nat.le_of_ble_eq_true rfl) d_T_row_26 (fun H locs x3 M4 hk hw => ?_)
      exact False.elim hk
    · have hk := hk.2 hc
      exact hj1 _ _ _  hk hw (lv_sub hl [0, 1] rfl)
set_option maxHeartbeats 4000000 in
set_option maxRecDepth 100000 in
theorem cx_TX_pixel {l : Launch} {D : va_G} {cA : ClassId} {ad tb : Nat → Nat} (hl0 : l.stackTraces = false) (M0 : Mem) (a1 : Int32) (Q : Nat → Mem → Prop) (hk : wp_TX_pixel M0 a1 Q) : CtX l y_T_pixel ws_T_pixel rx_T_pixel D (ceC ad cA) cA tb [.ref (ad 0), .int a1] M0 Q := by
  refine CtX.of (own := "TileConsole") (cc := b_T_pixel) (maxL := 2) (ret := (some .int)) ceC_fix (by decide) rfl rfl (Nat.le_of_ble_eq_true rfl) ?_
  intro p e s m args below meth c A QQ ls H locs hQQ hC hT hnh hlk hw hl
  have hx := hC.1.1
  have hb := hC.1.2.1
  unfold wp_TX_pixel at hk
  have hl : lv_has ls 2 [(0, .ref (ad 0)), (1, .int a1)] := hl
  refine lv_iload_n hx hb d_T_pixel_0 rfl (lv_at hl 1 rfl) ?_
  have hj1 : ∀ (H : Heap) (locs : List Loc) (ls : Array Slot), wp_TX_pixel_j1 M0 Q → Wd D (ceC ad cA) A s H locs M0 → lv_has ls 2 [(0, .ref (ad 0)), (1, .int a1)] → W p l e rx_T_pixel s m args below meth c H locs 0 0 QQ (F0 m 11 ls []) := by
    intro H locs ls  hk hw hl
    unfold wp_TX_pixel_j1 at hk
    exact thr_site (k := 1) (tx := "x is not 0 to 159") xup hQQ hC hT hl0 hnh hlk hw hl.1 m_171 m_172 m_173 s_153 own_1 (by decide +kernel) (by decide +kernel) d_T_pixel_11 d_T_pixel_14 d_T_pixel_15 d_T_pixel_17 d_T_pixel_20 ⟨Nat.le_of_ble_eq_true rfl, Nat.le_of_ble_eq_true rfl, Nat.le_of_ble_eq_true rfl, Nat.le_of_ble_eq_true rfl⟩ hk
  refine lv_if_lt (tgt := 11) hx hb d_T_pixel_1 (by decide) (fun hc => ?_) (fun hc => ?_)
  · have hk := hk.1 hc
    exact hj1 _ _ _  hk hw (lv_sub hl [0, 1] rfl)
  · have hk := hk.2 hc
    refine lv_iload_n hx hb d_T_pixel_4 rfl (lv_at hl 1 rfl) ?_
    refine lv_sipush (v := 160) hx hb d_T_pixel_5 (by decide) ?_
    refine lv_icmp_lt (tgt := 21) hx hb d_T_pixel_8 (by decide) (fun hc => ?_) (fun hc => ?_)
    · have hk := hk.1 hc
      refine lv_aload_n hx hb d_T_pixel_21 rfl (lv_at hl 0 rfl) ?_
      refine g_T_screen hC hw m_45 d_T_pixel_22 ?_
      refine g_S_pixels hC hw m_161 d_T_pixel_25 ?_
      refine lv_iload_n hx hb d_T_pixel_28 rfl (lv_at hl 1 rfl) ?_
      obtain ⟨hin, hk⟩ := hk
      refine ld_13 hC hw hin rfl d_T_pixel_29 ?_
      exact False.elim hk
    · have hk := hk.2 hc
      exact hj1 _ _ _  hk hw (lv_sub hl [0, 1] rfl)
set_option maxHeartbeats 4000000 in
set_option maxRecDepth 100000 in
theorem cx_TX_count {l : Launch} {D : va_G} {cA : ClassId} {ad tb : Nat → Nat} (hl0 : l.stackTraces = false) (M0 : Mem) (a1 : Int32) (Q : Nat → Mem → Prop) (hk : wp_TX_count M0 a1 Q) : CtX l y_T_count ws_T_count rx_T_count D (ceC ad cA) cA tb [.ref (ad 0), .int a1] M0 Q := by
  refine CtX.of (own := "TileConsole") (cc := b_T_count) (maxL := 2) (ret := (some .int)) ceC_fix (by decide) rfl rfl (Nat.le_of_ble_eq_true rfl) ?_
  intro p e s m args below meth c A QQ ls H locs hQQ hC hT hnh hlk hw hl
  have hx := hC.1.1
  have hb := hC.1.2.1
  unfold wp_TX_count at hk
  have hl : lv_has ls 2 [(0, .ref (ad 0)), (1, .int a1)] := hl
  refine lv_iload_n hx hb d_T_count_0 rfl (lv_at hl 1 rfl) ?_
  by_cases hs1 : (a1 = (0 : Int32))
  · have hk := hk.1 hs1
    refine lv_tableIn (x := a1) (off := 51) (tgt := 52) hx hb d_T_count_1 (by rw [hs1]; decide) (by rw [hs1]; decide) (by rw [hs1]; decide) (by decide) ?_
    refine lv_aload_n hx hb d_T_count_52 rfl (lv_at hl 0 rfl) ?_
    refine g_T_processor hC hw m_47 d_T_count_53 ?_
    refine g_Q_cycles hC hw m_150 d_T_count_56 ?_
    exact False.elim hk
  · have hk := hk.2 hs1
    by_cases hs2 : (a1 = (1 : Int32))
    · have hk := hk.1 hs2
      refine lv_tableIn (x := a1) (off := 59) (tgt := 60) hx hb d_T_count_1 (by rw [hs2]; decide) (by rw [hs2]; decide) (by rw [hs2]; decide) (by decide) ?_
      refine lv_aload_n hx hb d_T_count_60 rfl (lv_at hl 0 rfl) ?_
      refine g_T_processor hC hw m_47 d_T_count_61 ?_
      refine g_Q_done hC hw m_162 d_T_count_64 ?_
      exact False.elim hk
    · have hk := hk.2 hs2
      by_cases hs3 : (a1 = (2 : Int32))
      · have hk := hk.1 hs3
        refine lv_tableIn (x := a1) (off := 67) (tgt := 68) hx hb d_T_count_1 (by rw [hs3]; decide) (by rw [hs3]; decide) (by rw [hs3]; decide) (by decide) ?_
        refine lv_aload_n hx hb d_T_count_68 rfl (lv_at hl 0 rfl) ?_
        refine g_T_processor hC hw m_47 d_T_count_69 ?_
        refine g_Q_ime hC hw m_163 d_T_count_72 ?_
        have hj1 : ∀ (H : Heap) (locs : List Loc) (ls : Array Slot) (x2 : Int32), wp_TX_count_j1 x2 Q → Wd D (ceC ad cA) A s H locs M0 → lv_has ls 2 [(0, .ref (ad 0)), (1, .int a1)] → W p l e rx_T_count s m args below meth c H locs 0 0 QQ (F0 m 83 ls [.int x2]) := by
          intro H locs ls x2 hk hw hl
          unfold wp_TX_count_j1 at hk
          exact False.elim hk
        refine lv_if_eq (tgt := 82) hx hb d_T_count_75 (by decide) (fun hc => ?_) (fun hc => ?_)
        · have hk := hk.1 hc
          refine lv_iconst (v := 0) hx hb d_T_count_82 (by decide) ?_
          exact hj1 _ _ _ _ hk hw (lv_sub hl [0, 1] rfl)
        · have hk := hk.2 hc
          refine lv_iconst (v := 1) hx hb d_T_count_78 (by decide) ?_
          refine lv_goto (tgt := 83) hx hb d_T_count_79 (by decide) ?_
          exact hj1 _ _ _ _ hk hw (lv_sub hl [0, 1] rfl)
      · have hk := hk.2 hs3
        by_cases hs4 : (a1 = (3 : Int32))
        · have hk := hk.1 hs4
          refine lv_tableIn (x := a1) (off := 83) (tgt := 84) hx hb d_T_count_1 (by rw [hs4]; decide) (by rw [hs4]; decide) (by rw [hs4]; decide) (by decide) ?_
          refine lv_aload_n hx hb d_T_count_84 rfl (lv_at hl 0 rfl) ?_
          refine g_T_processor hC hw m_47 d_T_count_85 ?_
          refine g_Q_halted hC hw m_164 d_T_count_88 ?_
          have hj2 : ∀ (H : Heap) (locs : List Loc) (ls : Array Slot) (x4 : Int32), wp_TX_count_j2 x4 Q → Wd D (ceC ad cA) A s H locs M0 → lv_has ls 2 [(0, .ref (ad 0)), (1, .int a1)] → W p l e rx_T_count s m args below meth c H locs 0 0 QQ (F0 m 99 ls [.int x4]) := by
            intro H locs ls x4 hk hw hl
            unfold wp_TX_count_j2 at hk
            exact False.elim hk
          refine lv_if_eq (tgt := 98) hx hb d_T_count_91 (by decide) (fun hc => ?_) (fun hc => ?_)
          · have hk := hk.1 hc
            refine lv_iconst (v := 0) hx hb d_T_count_98 (by decide) ?_
            exact hj2 _ _ _ _ hk hw (lv_sub hl [0, 1] rfl)
          · have hk := hk.2 hc
            refine lv_iconst (v := 1) hx hb d_T_count_94 (by decide) ?_
            refine lv_goto (tgt := 99) hx hb d_T_count_95 (by decide) ?_
            exact hj2 _ _ _ _ hk hw (lv_sub hl [0, 1] rfl)
        · have hk := hk.2 hs4
          by_cases hs5 : (a1 = (4 : Int32))
          · have hk := hk.1 hs5
            refine lv_tableIn (x := a1) (off := 99) (tgt := 100) hx hb d_T_count_1 (by rw [hs5]; decide) (by rw [hs5]; decide) (by rw [hs5]; decide) (by decide) ?_
            refine lv_aload_n hx hb d_T_count_100 rfl (lv_at hl 0 rfl) ?_
            refine g_T_processor hC hw m_47 d_T_count_101 ?_
            refine g_Q_locked hC hw m_151 d_T_count_104 ?_
            have hj3 : ∀ (H : Heap) (locs : List Loc) (ls : Array Slot) (x6 : Int32), wp_TX_count_j3 x6 Q → Wd D (ceC ad cA) A s H locs M0 → lv_has ls 2 [(0, .ref (ad 0)), (1, .int a1)] → W p l e rx_T_count s m args below meth c H locs 0 0 QQ (F0 m 115 ls [.int x6]) := by
              intro H locs ls x6 hk hw hl
              unfold wp_TX_count_j3 at hk
              exact False.elim hk
            refine lv_if_eq (tgt := 114) hx hb d_T_count_107 (by decide) (fun hc => ?_) (fun hc => ?_)
            · have hk := hk.1 hc
              refine lv_iconst (v := 0) hx hb d_T_count_114 (by decide) ?_
              exact hj3 _ _ _ _ hk hw (lv_sub hl [0, 1] rfl)
            · have hk := hk.2 hc
              refine lv_iconst (v := 1) hx hb d_T_count_110 (by decide) ?_
              refine lv_goto (tgt := 115) hx hb d_T_count_111 (by decide) ?_
              exact hj3 _ _ _ _ hk hw (lv_sub hl [0, 1] rfl)
          · have hk := hk.2 hs5
            by_cases hs6 : (a1 = (5 : Int32))
            · have hk := hk.1 hs6
              refine lv_tableIn (x := a1) (off := 115) (tgt := 116) hx hb d_T_count_1 (by rw [hs6]; decide) (by rw [hs6]; decide) (by rw [hs6]; decide) (by decide) ?_
              refine lv_aload_n hx hb d_T_count_116 rfl (lv_at hl 0 rfl) ?_
              refine g_T_cartridge hC hw m_39 d_T_count_117 ?_
              refine g_K_in hC hw m_147 d_T_count_120 ?_
              have hj4 : ∀ (H : Heap) (locs : List Loc) (ls : Array Slot) (x8 : Int32), wp_TX_count_j4 x8 Q → Wd D (ceC ad cA) A s H locs M0 → lv_has ls 2 [(0, .ref (ad 0)), (1, .int a1)] → W p l e rx_T_count s m args below meth c H locs 0 0 QQ (F0 m 137 ls [.int x8]) := by
                intro H locs ls x8 hk hw hl
                unfold wp_TX_count_j4 at hk
                exact False.elim hk
              refine lv_if_eq (tgt := 136) hx hb d_T_count_123 (by decide) (fun hc => ?_) (fun hc => ?_)
              · have hk := hk.1 hc
                refine lv_iconst (v := 0) hx hb d_T_count_136 (by decide) ?_
                exact hj4 _ _ _ _ hk hw (lv_sub hl [0, 1] rfl)
              · have hk := hk.2 hc
                refine lv_aload_n hx hb d_T_count_126 rfl (lv_at hl 0 rfl) ?_
                refine g_T_cartridge hC hw m_39 d_T_count_127 ?_
                refine g_K_highBank hC hw m_165 d_T_count_130 ?_
                refine lv_goto (tgt := 137) hx hb d_T_count_133 (by decide) ?_
                exact hj4 _ _ _ _ hk hw (lv_sub hl [0, 1] rfl)
            · have hk := hk.2 hs6
              by_cases hs7 : (a1 = (6 : Int32))
              · have hk := hk.1 hs7
                refine lv_tableIn (x := a1) (off := 137) (tgt := 138) hx hb d_T_count_1 (by rw [hs7]; decide) (by rw [hs7]; decide) (by rw [hs7]; decide) (by decide) ?_
                refine lv_aload_n hx hb d_T_count_138 rfl (lv_at hl 0 rfl) ?_
                refine g_T_cartridge hC hw m_39 d_T_count_139 ?_
                refine g_K_in hC hw m_147 d_T_count_142 ?_
                have hj5 : ∀ (H : Heap) (locs : List Loc) (ls : Array Slot) (x10 : Int32), wp_TX_count_j5 x10 Q → Wd D (ceC ad cA) A s H locs M0 → lv_has ls 2 [(0, .ref (ad 0)), (1, .int a1)] → W p l e rx_T_count s m args below meth c H locs 0 0 QQ (F0 m 159 ls [.int x10]) := by
                  intro H locs ls x10 hk hw hl
                  unfold wp_TX_count_j5 at hk
                  exact False.elim hk
                refine lv_if_eq (tgt := 158) hx hb d_T_count_145 (by decide) (fun hc => ?_) (fun hc => ?_)
                · have hk := hk.1 hc
                  refine lv_iconst (v := 0) hx hb d_T_count_158 (by decide) ?_
                  exact hj5 _ _ _ _ hk hw (lv_sub hl [0, 1] rfl)
                · have hk := hk.2 hc
                  refine lv_aload_n hx hb d_T_count_148 rfl (lv_at hl 0 rfl) ?_
                  refine g_T_cartridge hC hw m_39 d_T_count_149 ?_
                  refine g_K_ramBank hC hw m_166 d_T_count_152 ?_
                  refine lv_goto (tgt := 159) hx hb d_T_count_155 (by decide) ?_
                  exact hj5 _ _ _ _ hk hw (lv_sub hl [0, 1] rfl)
              · have hk := hk.2 hs7
                by_cases hs8 : (a1 = (7 : Int32))
                · have hk := hk.1 hs8
                  refine lv_tableIn (x := a1) (off := 159) (tgt := 160) hx hb d_T_count_1 (by rw [hs8]; decide) (by rw [hs8]; decide) (by rw [hs8]; decide) (by decide) ?_
                  refine lv_aload_n hx hb d_T_count_160 rfl (lv_at hl 0 rfl) ?_
                  refine g_T_cartridge hC hw m_39 d_T_count_161 ?_
                  refine g_K_on hC hw m_167 d_T_count_164 ?_
                  have hj6 : ∀ (H : Heap) (locs : List Loc) (ls : Array Slot) (x12 : Int32), wp_TX_count_j6 x12 Q → Wd D (ceC ad cA) A s H locs M0 → lv_has ls 2 [(0, .ref (ad 0)), (1, .int a1)] → W p l e rx_T_count s m args below meth c H locs 0 0 QQ (F0 m 175 ls [.int x12]) := by
                    intro H locs ls x12 hk hw hl
                    unfold wp_TX_count_j6 at hk
                    exact False.elim hk
                  refine lv_if_eq (tgt := 174) hx hb d_T_count_167 (by decide) (fun hc => ?_) (fun hc => ?_)
                  · have hk := hk.1 hc
                    refine lv_iconst (v := 0) hx hb d_T_count_174 (by decide) ?_
                    exact hj6 _ _ _ _ hk hw (lv_sub hl [0, 1] rfl)
                  · have hk := hk.2 hc
                    refine lv_iconst (v := 1) hx hb d_T_count_170 (by decide) ?_
                    refine lv_goto (tgt := 175) hx hb d_T_count_171 (by decide) ?_
                    exact hj6 _ _ _ _ hk hw (lv_sub hl [0, 1] rfl)
                · have hk := hk.2 hs8
                  by_cases hs9 : (a1 = (8 : Int32))
                  · have hk := hk.1 hs9
                    refine lv_tableIn (x := a1) (off := 175) (tgt := 176) hx hb d_T_count_1 (by rw [hs9]; decide) (by rw [hs9]; decide) (by rw [hs9]; decide) (by decide) ?_
                    refine lv_aload_n hx hb d_T_count_176 rfl (lv_at hl 0 rfl) ?_
                    refine g_T_processor hC hw m_47 d_T_count_177 ?_
                    refine g_Q_taken hC hw m_168 d_T_count_180 ?_
                    exact False.elim hk
                  · have hk := hk.2 hs9
                    refine lv_tableOut (x := a1) (tgt := 184) hx hb d_T_count_1 (by have hz := (⟨lv_neT hs1 (show ((0 : Int32)).toInt = 0 by decide), lv_neT hs2 (show ((1 : Int32)).toInt = 1 by decide), lv_neT hs3 (show ((2 : Int32)).toInt = 2 by decide), lv_neT hs4 (show ((3 : Int32)).toInt = 3 by decide), lv_neT hs5 (show ((4 : Int32)).toInt = 4 by decide), lv_neT hs6 (show ((5 : Int32)).toInt = 5 by decide), lv_neT hs7 (show ((6 : Int32)).toInt = 6 by decide), lv_neT hs8 (show ((7 : Int32)).toInt = 7 by decide), lv_neT hs9 (show ((8 : Int32)).toInt = 8 by decide)⟩ : ¬ (a1).toInt = 0 ∧ ¬ (a1).toInt = 1 ∧ ¬ (a1).toInt = 2 ∧ ¬ (a1).toInt = 3 ∧ ¬ (a1).toInt = 4 ∧ ¬ (a1).toInt = 5 ∧ ¬ (a1).toInt = 6 ∧ ¬ (a1).toInt = 7 ∧ ¬ (a1).toInt = 8); omega) (by decide) ?_
                    exact thr_site (k := 0) (tx := "what is not 0 to 8") xup hQQ hC hT hl0 hnh hlk hw hl.1 m_174 m_175 m_176 s_179 own_0 (by decide +kernel) (by decide +kernel) d_T_count_184 d_T_count_187 d_T_count_188 d_T_count_190 d_T_count_193 ⟨Nat.le_of_ble_eq_true rfl, Nat.le_of_ble_eq_true rfl, Nat.le_of_ble_eq_true rfl, Nat.le_of_ble_eq_true rfl⟩ hk
set_option maxHeartbeats 4000000 in
set_option maxRecDepth 100000 in
theorem cx_TX_speed {l : Launch} {D : va_G} {cA : ClassId} {ad tb : Nat → Nat} (hl0 : l.stackTraces = false) (M0 : Mem) (Q : Nat → Mem → Prop) (hk : wp_TX_speed M0 Q) : CtX l y_T_speed ws_T_speed rx_T_speed D (ceC ad cA) cA tb [.ref (ad 0)] M0 Q := by
  refine CtX.of (own := "TileConsole") (cc := b_T_speed) (maxL := 1) (ret := (some .double)) ceC_fix (by decide) rfl rfl (Nat.le_of_ble_eq_true rfl) ?_
  intro p e s m args below meth c A QQ ls H locs hQQ hC hT hnh hlk hw hl
  have hx := hC.1.1
  have hb := hC.1.2.1
  unfold wp_TX_speed at hk
  have hl : lv_has ls 1 [(0, .ref (ad 0))] := hl
  refine lv_aload_n hx hb d_T_speed_0 rfl (lv_at hl 0 rfl) ?_
  refine g_T_processor hC hw m_47 d_T_speed_1 ?_
  refine g_Q_cycles hC hw m_150 d_T_speed_4 ?_
  refine lv_if_ne (tgt := 20) hx hb d_T_speed_7 (by decide) (fun hc => ?_) (fun hc => ?_)
  · have hk := hk.1 hc
    refine lv_ldc2d (v := (4697254411347427328 : UInt64)) hx hb hC.1.2.2.2.1 (hC.1.2.2.2.2 _ m_169) d_T_speed_20 ?_
    refine lv_aload_n hx hb d_T_speed_23 rfl (lv_at hl 0 rfl) ?_
    refine g_T_processor hC hw m_47 d_T_speed_24 ?_
    refine g_Q_cycles hC hw m_150 d_T_speed_27 ?_
    refine lv_i2d hx hb d_T_speed_30 ?_
    obtain ⟨hn, hk⟩ := hk
    refine lv_ddiv hx hb d_T_speed_31 hn ?_
    refine lv_aload_n hx hb d_T_speed_32 rfl (lv_at hl 0 rfl) ?_
    refine g_T_ports hC hw m_41 d_T_speed_33 ?_
    refine g_P_frames hC hw m_170 d_T_speed_36 ?_
    refine lv_i2d hx hb d_T_speed_39 ?_
    obtain ⟨hn, hk⟩ := hk
    refine lv_dmul hx hb d_T_speed_40 hn ?_
    exact False.elim hk
  · have hk := hk.2 hc
    exact thr_site (k := 4) (tx := "there were no cycles") xup hQQ hC hT hl0 hnh hlk hw hl.1 m_183 m_184 m_185 s_183 own_4 (by decide +kernel) (by decide +kernel) d_T_speed_10 d_T_speed_13 d_T_speed_14 d_T_speed_16 d_T_speed_19 ⟨Nat.le_of_ble_eq_true rfl, Nat.le_of_ble_eq_true rfl, Nat.le_of_ble_eq_true rfl, Nat.le_of_ble_eq_true rfl⟩ hk
