abbrev b_T_rom : ByteArray := prog_1_method_2_code
def y_T_rom : MethodName := ⟨"TileConsole", "rom", "(IIIJ)I"⟩
def ws_T_rom : List Cond := .code y_T_rom b_T_rom 7 (some .int) :: WA
def rm_T_rom : Room := { frames := 1, cells := 0, slots := 0, locals := 22 }
abbrev b_T_insert : ByteArray := prog_1_method_3_code
def y_T_insert : MethodName := ⟨"TileConsole", "insert", "(I)I"⟩
def ws_T_insert : List Cond := .code y_T_insert b_T_insert 2 (some .int) :: WA
def rm_T_insert : Room := { frames := 3, cells := 0, slots := 0, locals := 63 }
abbrev b_T_run : ByteArray := prog_1_method_4_code
def y_T_run : MethodName := ⟨"TileConsole", "run", "(I)I"⟩
def ws_T_run : List Cond := .code y_T_run b_T_run 4 (some .int) :: WA
def rm_T_run : Room := { frames := 6, cells := 0, slots := 0, locals := 138 }
abbrev b_T_set : ByteArray := prog_1_method_5_code
def y_T_set : MethodName := ⟨"TileConsole", "set", "(II)I"⟩
def ws_T_set : List Cond := .code y_T_set b_T_set 4 (some .int) :: WA
def rm_T_set : Room := { frames := 1, cells := 0, slots := 0, locals := 22 }
abbrev b_T_register : ByteArray := prog_1_method_6_code
def y_T_register : MethodName := ⟨"TileConsole", "register", "(I)I"⟩
def ws_T_register : List Cond := .code y_T_register b_T_register 2 (some .int) :: WA
def rm_T_register : Room := { frames := 1, cells := 0, slots := 0, locals := 21 }
abbrev b_T_read : ByteArray := prog_1_method_7_code
def y_T_read : MethodName := ⟨"TileConsole", "read", "(I)I"⟩
def ws_T_read : List Cond := .code y_T_read b_T_read 2 (some .int) :: WA
def rm_T_read : Room := { frames := 2, cells := 0, slots := 0, locals := 44 }
abbrev b_T_write : ByteArray := prog_1_method_8_code
def y_T_write : MethodName := ⟨"TileConsole", "write", "(IIJ)I"⟩
def ws_T_write : List Cond := .code y_T_write b_T_write 6 (some .int) :: WA
def rm_T_write : Room := { frames := 3, cells := 0, slots := 0, locals := 67 }
abbrev b_T_keys : ByteArray := prog_1_method_9_code
def y_T_keys : MethodName := ⟨"TileConsole", "keys", "(I)I"⟩
def ws_T_keys : List Cond := .code y_T_keys b_T_keys 2 (some .int) :: WA
def rm_T_keys : Room := { frames := 1, cells := 0, slots := 0, locals := 22 }
abbrev b_T_row : ByteArray := prog_1_method_10_code
def y_T_row : MethodName := ⟨"TileConsole", "row", "(I)I"⟩
def ws_T_row : List Cond := .code y_T_row b_T_row 2 (some .int) :: WA
def rm_T_row : Room := { frames := 4, cells := 0, slots := 0, locals := 102 }
abbrev b_T_pixel : ByteArray := prog_1_method_11_code
def y_T_pixel : MethodName := ⟨"TileConsole", "pixel", "(I)I"⟩
def ws_T_pixel : List Cond := .code y_T_pixel b_T_pixel 2 (some .int) :: WA
def rm_T_pixel : Room := { frames := 0, cells := 0, slots := 0, locals := 0 }
abbrev b_T_count : ByteArray := prog_1_method_12_code
def y_T_count : MethodName := ⟨"TileConsole", "count", "(I)I"⟩
def ws_T_count : List Cond := .code y_T_count b_T_count 2 (some .int) :: WA
def rm_T_count : Room := { frames := 0, cells := 0, slots := 0, locals := 0 }
abbrev b_T_speed : ByteArray := prog_1_method_13_code
def y_T_speed : MethodName := ⟨"TileConsole", "speed", "()D"⟩
def ws_T_speed : List Cond := .code y_T_speed b_T_speed 1 (some .double) :: WA
def rm_T_speed : Room := { frames := 0, cells := 0, slots := 0, locals := 0 }
set_option maxRecDepth 100000 in
theorem m_144 : Cond.fieldLink "TileConsole" 77 "TileConsole$Cartridge" "rom" "[I" ∈ WA := WAm 131 (by decide +kernel) (by decide +kernel)
set_option maxRecDepth 100000 in
theorem m_145 : Cond.methodLink "TileConsole" 80 y_T_octetOf ∈ WA := WAm 468 (by decide +kernel) (by decide +kernel)
set_option maxRecDepth 100000 in
theorem m_146 : Cond.methodLink "TileConsole" 86 y_K_headerAgrees ∈ WA := WAm 480 (by decide +kernel) (by decide +kernel)
set_option maxRecDepth 100000 in
theorem m_147 : Cond.fieldLink "TileConsole" 95 "TileConsole$Cartridge" "in" "Z" ∈ WA := WAm 134 (by decide +kernel) (by decide +kernel)
set_option maxRecDepth 100000 in
theorem m_148 : Cond.fieldLink "TileConsole" 99 "TileConsole$Cartridge" "kind" "I" ∈ WA := WAm 136 (by decide +kernel) (by decide +kernel)
set_option maxRecDepth 100000 in
theorem m_149 : Cond.methodLink "TileConsole" 60 y_T_startAnew ∈ WA := WAm 313 (by decide +kernel) (by decide +kernel)
set_option maxRecDepth 100000 in
theorem m_150 : Cond.fieldLink "TileConsole" 107 "TileConsole$Processor" "cycles" "I" ∈ WA := WAm 268 (by decide +kernel) (by decide +kernel)
set_option maxRecDepth 100000 in
theorem m_151 : Cond.fieldLink "TileConsole" 110 "TileConsole$Processor" "locked" "Z" ∈ WA := WAm 278 (by decide +kernel) (by decide +kernel)
set_option maxRecDepth 100000 in
theorem m_152 : Cond.methodLink "TileConsole" 113 y_Q_step ∈ WA := WAm 510 (by decide +kernel) (by decide +kernel)
set_option maxRecDepth 100000 in
theorem m_153 : Cond.methodLink "TileConsole" 123 y_Q_valueOf ∈ WA := WAm 771 (by decide +kernel) (by decide +kernel)
set_option maxRecDepth 100000 in
theorem m_154 : Cond.methodLink "TileConsole" 127 y_Q_put ∈ WA := WAm 777 (by decide +kernel) (by decide +kernel)
set_option maxRecDepth 100000 in
theorem m_155 : Cond.constant "TileConsole" 131 (65535 : Int32) ∈ WA := WAm 795 (by decide +kernel) (by decide +kernel)
set_option maxRecDepth 100000 in
theorem m_156 : Cond.methodLink "TileConsole" 134 y_Y_load ∈ WA := WAm 797 (by decide +kernel) (by decide +kernel)
set_option maxRecDepth 100000 in
theorem m_157 : Cond.constant "TileConsole" 137 (65536 : Int32) ∈ WA := WAm 805 (by decide +kernel) (by decide +kernel)
set_option maxRecDepth 100000 in
theorem m_158 : Cond.methodLink "TileConsole" 140 y_Y_store ∈ WA := WAm 807 (by decide +kernel) (by decide +kernel)
set_option maxRecDepth 100000 in
theorem m_159 : Cond.methodLink "TileConsole" 145 y_P_press ∈ WA := WAm 816 (by decide +kernel) (by decide +kernel)
set_option maxRecDepth 100000 in
theorem m_160 : Cond.methodLink "TileConsole" 150 y_S_make ∈ WA := WAm 828 (by decide +kernel) (by decide +kernel)
set_option maxRecDepth 100000 in
theorem m_161 : Cond.fieldLink "TileConsole" 155 "TileConsole$Screen" "pixels" "[I" ∈ WA := WAm 239 (by decide +kernel) (by decide +kernel)
set_option maxRecDepth 100000 in
theorem m_162 : Cond.fieldLink "TileConsole" 158 "TileConsole$Processor" "done" "I" ∈ WA := WAm 270 (by decide +kernel) (by decide +kernel)
set_option maxRecDepth 100000 in
theorem m_163 : Cond.fieldLink "TileConsole" 161 "TileConsole$Processor" "ime" "Z" ∈ WA := WAm 274 (by decide +kernel) (by decide +kernel)
set_option maxRecDepth 100000 in
theorem m_164 : Cond.fieldLink "TileConsole" 164 "TileConsole$Processor" "halted" "Z" ∈ WA := WAm 276 (by decide +kernel) (by decide +kernel)
set_option maxRecDepth 100000 in
theorem m_165 : Cond.fieldLink "TileConsole" 167 "TileConsole$Cartridge" "highBank" "I" ∈ WA := WAm 140 (by decide +kernel) (by decide +kernel)
set_option maxRecDepth 100000 in
theorem m_166 : Cond.fieldLink "TileConsole" 170 "TileConsole$Cartridge" "ramBank" "I" ∈ WA := WAm 142 (by decide +kernel) (by decide +kernel)
set_option maxRecDepth 100000 in
theorem m_167 : Cond.fieldLink "TileConsole" 173 "TileConsole$Cartridge" "on" "Z" ∈ WA := WAm 138 (by decide +kernel) (by decide +kernel)
set_option maxRecDepth 100000 in
theorem m_168 : Cond.fieldLink "TileConsole" 176 "TileConsole$Processor" "taken" "I" ∈ WA := WAm 272 (by decide +kernel) (by decide +kernel)
set_option maxRecDepth 100000 in
theorem m_169 : Cond.constantDouble "TileConsole" 186 (4697254411347427328 : UInt64) ∈ WA := WAm 900 (by decide +kernel) (by decide +kernel)
set_option maxRecDepth 100000 in
theorem m_170 : Cond.fieldLink "TileConsole" 188 "TileConsole$Ports" "frames" "I" ∈ WA := WAm 181 (by decide +kernel) (by decide +kernel)
set_option maxRecDepth 100000 in
theorem mw_T_rom : Mw y_T_rom "TileConsole" b_T_rom 7 (some .int) 4 := ⟨WAm 378 (by decide +kernel) (by decide +kernel), WAm 379 (by decide +kernel) (by decide +kernel), WAm 99 (by decide +kernel) (by decide +kernel), WAm 380 rfl (by decide +kernel), by decide +kernel⟩
set_option maxRecDepth 100000 in
theorem mw_T_insert : Mw y_T_insert "TileConsole" b_T_insert 2 (some .int) 1 := ⟨WAm 476 (by decide +kernel) (by decide +kernel), WAm 477 (by decide +kernel) (by decide +kernel), WAm 99 (by decide +kernel) (by decide +kernel), WAm 478 rfl (by decide +kernel), by decide +kernel⟩
set_option maxRecDepth 100000 in
theorem mw_T_run : Mw y_T_run "TileConsole" b_T_run 4 (some .int) 1 := ⟨WAm 505 (by decide +kernel) (by decide +kernel), WAm 506 (by decide +kernel) (by decide +kernel), WAm 99 (by decide +kernel) (by decide +kernel), WAm 507 rfl (by decide +kernel), by decide +kernel⟩
set_option maxRecDepth 100000 in
theorem mw_T_set : Mw y_T_set "TileConsole" b_T_set 4 (some .int) 2 := ⟨WAm 767 (by decide +kernel) (by decide +kernel), WAm 768 (by decide +kernel) (by decide +kernel), WAm 99 (by decide +kernel) (by decide +kernel), WAm 769 rfl (by decide +kernel), by decide +kernel⟩
set_option maxRecDepth 100000 in
theorem mw_T_register : Mw y_T_register "TileConsole" b_T_register 2 (some .int) 1 := ⟨WAm 785 (by decide +kernel) (by decide +kernel), WAm 786 (by decide +kernel) (by decide +kernel), WAm 99 (by decide +kernel) (by decide +kernel), WAm 787 rfl (by decide +kernel), by decide +kernel⟩
set_option maxRecDepth 100000 in
theorem mw_T_read : Mw y_T_read "TileConsole" b_T_read 2 (some .int) 1 := ⟨WAm 792 (by decide +kernel) (by decide +kernel), WAm 793 (by decide +kernel) (by decide +kernel), WAm 99 (by decide +kernel) (by decide +kernel), WAm 794 rfl (by decide +kernel), by decide +kernel⟩
set_option maxRecDepth 100000 in
theorem mw_T_write : Mw y_T_write "TileConsole" b_T_write 6 (some .int) 3 := ⟨WAm 802 (by decide +kernel) (by decide +kernel), WAm 803 (by decide +kernel) (by decide +kernel), WAm 99 (by decide +kernel) (by decide +kernel), WAm 804 rfl (by decide +kernel), by decide +kernel⟩
set_option maxRecDepth 100000 in
theorem mw_T_keys : Mw y_T_keys "TileConsole" b_T_keys 2 (some .int) 1 := ⟨WAm 812 (by decide +kernel) (by decide +kernel), WAm 813 (by decide +kernel) (by decide +kernel), WAm 99 (by decide +kernel) (by decide +kernel), WAm 814 rfl (by decide +kernel), by decide +kernel⟩
set_option maxRecDepth 100000 in
theorem mw_T_row : Mw y_T_row "TileConsole" b_T_row 2 (some .int) 1 := ⟨WAm 824 (by decide +kernel) (by decide +kernel), WAm 825 (by decide +kernel) (by decide +kernel), WAm 99 (by decide +kernel) (by decide +kernel), WAm 826 rfl (by decide +kernel), by decide +kernel⟩
set_option maxRecDepth 100000 in
theorem mw_T_pixel : Mw y_T_pixel "TileConsole" b_T_pixel 2 (some .int) 1 := ⟨WAm 864 (by decide +kernel) (by decide +kernel), WAm 865 (by decide +kernel) (by decide +kernel), WAm 99 (by decide +kernel) (by decide +kernel), WAm 866 rfl (by decide +kernel), by decide +kernel⟩
set_option maxRecDepth 100000 in
theorem mw_T_count : Mw y_T_count "TileConsole" b_T_count 2 (some .int) 1 := ⟨WAm 872 (by decide +kernel) (by decide +kernel), WAm 873 (by decide +kernel) (by decide +kernel), WAm 99 (by decide +kernel) (by decide +kernel), WAm 874 rfl (by decide +kernel), by decide +kernel⟩
set_option maxRecDepth 100000 in
theorem mw_T_speed : Mw y_T_speed "TileConsole" b_T_speed 1 (some .double) 0 := ⟨WAm 881 (by decide +kernel) (by decide +kernel), WAm 882 (by decide +kernel) (by decide +kernel), WAm 99 (by decide +kernel) (by decide +kernel), WAm 883 rfl (by decide +kernel), by decide +kernel⟩
theorem d_T_rom_0 : decode b_T_rom 0 = .ok (.iload_n 3, 1) := by decide +kernel
theorem d_T_rom_1 : decode b_T_rom 1 = .ok (.iconst 1, 1) := by decide +kernel
theorem d_T_rom_2 : decode b_T_rom 2 = .ok (.if_icmp .lt 9, 3) := by decide +kernel
theorem d_T_rom_5 : decode b_T_rom 5 = .ok (.iload_n 3, 1) := by decide +kernel
theorem d_T_rom_6 : decode b_T_rom 6 = .ok (.bipush 8, 2) := by decide +kernel
theorem d_T_rom_8 : decode b_T_rom 8 = .ok (.if_icmp .le 13, 3) := by decide +kernel
theorem d_T_rom_11 : decode b_T_rom 11 = .ok (.new 63, 3) := by decide +kernel
theorem d_T_rom_21 : decode b_T_rom 21 = .ok (.iload_n 1, 1) := by decide +kernel
theorem d_T_rom_22 : decode b_T_rom 22 = .ok (.ifCond .lt 9, 3) := by decide +kernel
theorem d_T_rom_25 : decode b_T_rom 25 = .ok (.iload_n 1, 1) := by decide +kernel
theorem d_T_rom_26 : decode b_T_rom 26 = .ok (.bipush 8, 2) := by decide +kernel
theorem d_T_rom_28 : decode b_T_rom 28 = .ok (.if_icmp .lt 13, 3) := by decide +kernel
theorem d_T_rom_31 : decode b_T_rom 31 = .ok (.new 63, 3) := by decide +kernel
theorem d_T_rom_41 : decode b_T_rom 41 = .ok (.iload_n 2, 1) := by decide +kernel
theorem d_T_rom_42 : decode b_T_rom 42 = .ok (.ifCond .lt 12, 3) := by decide +kernel
theorem d_T_rom_45 : decode b_T_rom 45 = .ok (.iload_n 2, 1) := by decide +kernel
theorem d_T_rom_46 : decode b_T_rom 46 = .ok (.sipush 1024, 3) := by decide +kernel
theorem d_T_rom_49 : decode b_T_rom 49 = .ok (.iload_n 3, 1) := by decide +kernel
theorem d_T_rom_50 : decode b_T_rom 50 = .ok (.isub, 1) := by decide +kernel
theorem d_T_rom_51 : decode b_T_rom 51 = .ok (.if_icmp .le 13, 3) := by decide +kernel
theorem d_T_rom_54 : decode b_T_rom 54 = .ok (.new 72, 3) := by decide +kernel
theorem d_T_rom_64 : decode b_T_rom 64 = .ok (.iconst 0, 1) := by decide +kernel
theorem d_T_rom_65 : decode b_T_rom 65 = .ok (.istore 6, 2) := by decide +kernel
theorem d_T_rom_67 : decode b_T_rom 67 = .ok (.iload 6, 2) := by decide +kernel
theorem d_T_rom_69 : decode b_T_rom 69 = .ok (.iload_n 3, 1) := by decide +kernel
theorem d_T_rom_70 : decode b_T_rom 70 = .ok (.if_icmp .ge 34, 3) := by decide +kernel
theorem d_T_rom_73 : decode b_T_rom 73 = .ok (.aload_n 0, 1) := by decide +kernel
theorem d_T_rom_74 : decode b_T_rom 74 = .ok (.getfield 10, 3) := by decide +kernel
theorem d_T_rom_77 : decode b_T_rom 77 = .ok (.getfield 77, 3) := by decide +kernel
theorem d_T_rom_80 : decode b_T_rom 80 = .ok (.iload_n 1, 1) := by decide +kernel
theorem d_T_rom_81 : decode b_T_rom 81 = .ok (.sipush 1024, 3) := by decide +kernel
theorem d_T_rom_84 : decode b_T_rom 84 = .ok (.imul, 1) := by decide +kernel
theorem d_T_rom_85 : decode b_T_rom 85 = .ok (.iload_n 2, 1) := by decide +kernel
theorem d_T_rom_86 : decode b_T_rom 86 = .ok (.iadd, 1) := by decide +kernel
theorem d_T_rom_87 : decode b_T_rom 87 = .ok (.iload 6, 2) := by decide +kernel
theorem d_T_rom_89 : decode b_T_rom 89 = .ok (.iadd, 1) := by decide +kernel
theorem d_T_rom_90 : decode b_T_rom 90 = .ok (.lload 4, 2) := by decide +kernel
theorem d_T_rom_92 : decode b_T_rom 92 = .ok (.iload 6, 2) := by decide +kernel
theorem d_T_rom_94 : decode b_T_rom 94 = .ok (.invokestatic 80, 3) := by decide +kernel
theorem d_T_rom_97 : decode b_T_rom 97 = .ok (.iastore, 1) := by decide +kernel
theorem d_T_rom_98 : decode b_T_rom 98 = .ok (.iinc 6 1, 3) := by decide +kernel
theorem d_T_rom_101 : decode b_T_rom 101 = .ok (.goto (-34), 3) := by decide +kernel
theorem d_T_rom_104 : decode b_T_rom 104 = .ok (.iload_n 3, 1) := by decide +kernel
theorem d_T_rom_105 : decode b_T_rom 105 = .ok (.ireturn, 1) := by decide +kernel
theorem d_T_insert_0 : decode b_T_insert 0 = .ok (.iload_n 1, 1) := by decide +kernel
theorem d_T_insert_1 : decode b_T_insert 1 = .ok (.ifCond .lt 8, 3) := by decide +kernel
theorem d_T_insert_4 : decode b_T_insert 4 = .ok (.iload_n 1, 1) := by decide +kernel
theorem d_T_insert_5 : decode b_T_insert 5 = .ok (.iconst 3, 1) := by decide +kernel
theorem d_T_insert_6 : decode b_T_insert 6 = .ok (.if_icmp .le 13, 3) := by decide +kernel
theorem d_T_insert_9 : decode b_T_insert 9 = .ok (.new 63, 3) := by decide +kernel
theorem d_T_insert_19 : decode b_T_insert 19 = .ok (.aload_n 0, 1) := by decide +kernel
theorem d_T_insert_20 : decode b_T_insert 20 = .ok (.getfield 10, 3) := by decide +kernel
theorem d_T_insert_23 : decode b_T_insert 23 = .ok (.invokevirtual 86, 3) := by decide +kernel
theorem d_T_insert_26 : decode b_T_insert 26 = .ok (.ifCond .ne 13, 3) := by decide +kernel
theorem d_T_insert_29 : decode b_T_insert 29 = .ok (.new 90, 3) := by decide +kernel
theorem d_T_insert_39 : decode b_T_insert 39 = .ok (.aload_n 0, 1) := by decide +kernel
theorem d_T_insert_40 : decode b_T_insert 40 = .ok (.getfield 10, 3) := by decide +kernel
theorem d_T_insert_43 : decode b_T_insert 43 = .ok (.iconst 1, 1) := by decide +kernel
theorem d_T_insert_44 : decode b_T_insert 44 = .ok (.putfield 95, 3) := by decide +kernel
theorem d_T_insert_47 : decode b_T_insert 47 = .ok (.aload_n 0, 1) := by decide +kernel
theorem d_T_insert_48 : decode b_T_insert 48 = .ok (.getfield 10, 3) := by decide +kernel
theorem d_T_insert_51 : decode b_T_insert 51 = .ok (.iload_n 1, 1) := by decide +kernel
theorem d_T_insert_52 : decode b_T_insert 52 = .ok (.putfield 99, 3) := by decide +kernel
theorem d_T_insert_55 : decode b_T_insert 55 = .ok (.aload_n 0, 1) := by decide +kernel
theorem d_T_insert_56 : decode b_T_insert 56 = .ok (.invokevirtual 60, 3) := by decide +kernel
theorem d_T_insert_59 : decode b_T_insert 59 = .ok (.iconst 1, 1) := by decide +kernel
theorem d_T_insert_60 : decode b_T_insert 60 = .ok (.ireturn, 1) := by decide +kernel
theorem d_T_run_0 : decode b_T_run 0 = .ok (.iload_n 1, 1) := by decide +kernel
theorem d_T_run_1 : decode b_T_run 1 = .ok (.iconst 1, 1) := by decide +kernel
theorem d_T_run_2 : decode b_T_run 2 = .ok (.if_icmp .lt 9, 3) := by decide +kernel
theorem d_T_run_5 : decode b_T_run 5 = .ok (.iload_n 1, 1) := by decide +kernel
theorem d_T_run_6 : decode b_T_run 6 = .ok (.bipush 100, 2) := by decide +kernel
theorem d_T_run_8 : decode b_T_run 8 = .ok (.if_icmp .le 13, 3) := by decide +kernel
theorem d_T_run_11 : decode b_T_run 11 = .ok (.new 63, 3) := by decide +kernel
theorem d_T_run_21 : decode b_T_run 21 = .ok (.aload_n 0, 1) := by decide +kernel
theorem d_T_run_22 : decode b_T_run 22 = .ok (.getfield 10, 3) := by decide +kernel
theorem d_T_run_25 : decode b_T_run 25 = .ok (.getfield 95, 3) := by decide +kernel
theorem d_T_run_28 : decode b_T_run 28 = .ok (.ifCond .ne 13, 3) := by decide +kernel
theorem d_T_run_31 : decode b_T_run 31 = .ok (.new 90, 3) := by decide +kernel
theorem d_T_run_41 : decode b_T_run 41 = .ok (.aload_n 0, 1) := by decide +kernel
theorem d_T_run_42 : decode b_T_run 42 = .ok (.getfield 56, 3) := by decide +kernel
theorem d_T_run_45 : decode b_T_run 45 = .ok (.getfield 107, 3) := by decide +kernel
theorem d_T_run_48 : decode b_T_run 48 = .ok (.istore_n 2, 1) := by decide +kernel
theorem d_T_run_49 : decode b_T_run 49 = .ok (.iconst 0, 1) := by decide +kernel
theorem d_T_run_50 : decode b_T_run 50 = .ok (.istore_n 3, 1) := by decide +kernel
theorem d_T_run_51 : decode b_T_run 51 = .ok (.iload_n 3, 1) := by decide +kernel
theorem d_T_run_52 : decode b_T_run 52 = .ok (.iload_n 1, 1) := by decide +kernel
theorem d_T_run_53 : decode b_T_run 53 = .ok (.if_icmp .ge 46, 3) := by decide +kernel
theorem d_T_run_56 : decode b_T_run 56 = .ok (.aload_n 0, 1) := by decide +kernel
theorem d_T_run_57 : decode b_T_run 57 = .ok (.getfield 56, 3) := by decide +kernel
theorem d_T_run_60 : decode b_T_run 60 = .ok (.getfield 110, 3) := by decide +kernel
theorem d_T_run_63 : decode b_T_run 63 = .ok (.ifCond .ne 10, 3) := by decide +kernel
theorem d_T_run_66 : decode b_T_run 66 = .ok (.aload_n 0, 1) := by decide +kernel
theorem d_T_run_67 : decode b_T_run 67 = .ok (.getfield 56, 3) := by decide +kernel
theorem d_T_run_70 : decode b_T_run 70 = .ok (.invokevirtual 113, 3) := by decide +kernel
theorem d_T_run_73 : decode b_T_run 73 = .ok (.aload_n 0, 1) := by decide +kernel
theorem d_T_run_74 : decode b_T_run 74 = .ok (.getfield 56, 3) := by decide +kernel
theorem d_T_run_77 : decode b_T_run 77 = .ok (.getfield 110, 3) := by decide +kernel
theorem d_T_run_80 : decode b_T_run 80 = .ok (.ifCond .eq 13, 3) := by decide +kernel
theorem d_T_run_83 : decode b_T_run 83 = .ok (.new 116, 3) := by decide +kernel
theorem d_T_run_93 : decode b_T_run 93 = .ok (.iinc 3 1, 3) := by decide +kernel
theorem d_T_run_96 : decode b_T_run 96 = .ok (.goto (-45), 3) := by decide +kernel
theorem d_T_run_99 : decode b_T_run 99 = .ok (.aload_n 0, 1) := by decide +kernel
theorem d_T_run_100 : decode b_T_run 100 = .ok (.getfield 56, 3) := by decide +kernel
theorem d_T_run_103 : decode b_T_run 103 = .ok (.getfield 107, 3) := by decide +kernel
theorem d_T_run_106 : decode b_T_run 106 = .ok (.iload_n 2, 1) := by decide +kernel
theorem d_T_run_107 : decode b_T_run 107 = .ok (.isub, 1) := by decide +kernel
theorem d_T_run_108 : decode b_T_run 108 = .ok (.ireturn, 1) := by decide +kernel
theorem d_T_set_0 : decode b_T_set 0 = .ok (.iload_n 1, 1) := by decide +kernel
theorem d_T_set_1 : decode b_T_set 1 = .ok (.ifCond .lt 9, 3) := by decide +kernel
theorem d_T_set_4 : decode b_T_set 4 = .ok (.iload_n 1, 1) := by decide +kernel
theorem d_T_set_5 : decode b_T_set 5 = .ok (.bipush 9, 2) := by decide +kernel
theorem d_T_set_7 : decode b_T_set 7 = .ok (.if_icmp .le 13, 3) := by decide +kernel
theorem d_T_set_10 : decode b_T_set 10 = .ok (.new 63, 3) := by decide +kernel
theorem d_T_set_20 : decode b_T_set 20 = .ok (.aload_n 0, 1) := by decide +kernel
theorem d_T_set_21 : decode b_T_set 21 = .ok (.getfield 56, 3) := by decide +kernel
theorem d_T_set_24 : decode b_T_set 24 = .ok (.iload_n 1, 1) := by decide +kernel
theorem d_T_set_25 : decode b_T_set 25 = .ok (.invokevirtual 123, 3) := by decide +kernel
theorem d_T_set_28 : decode b_T_set 28 = .ok (.istore_n 3, 1) := by decide +kernel
theorem d_T_set_29 : decode b_T_set 29 = .ok (.aload_n 0, 1) := by decide +kernel
theorem d_T_set_30 : decode b_T_set 30 = .ok (.getfield 56, 3) := by decide +kernel
theorem d_T_set_33 : decode b_T_set 33 = .ok (.iload_n 1, 1) := by decide +kernel
theorem d_T_set_34 : decode b_T_set 34 = .ok (.iload_n 2, 1) := by decide +kernel
theorem d_T_set_35 : decode b_T_set 35 = .ok (.invokevirtual 127, 3) := by decide +kernel
theorem d_T_set_38 : decode b_T_set 38 = .ok (.iload_n 3, 1) := by decide +kernel
theorem d_T_set_39 : decode b_T_set 39 = .ok (.ireturn, 1) := by decide +kernel
theorem d_T_register_0 : decode b_T_register 0 = .ok (.iload_n 1, 1) := by decide +kernel
theorem d_T_register_1 : decode b_T_register 1 = .ok (.ifCond .lt 9, 3) := by decide +kernel
theorem d_T_register_4 : decode b_T_register 4 = .ok (.iload_n 1, 1) := by decide +kernel
theorem d_T_register_5 : decode b_T_register 5 = .ok (.bipush 9, 2) := by decide +kernel
theorem d_T_register_7 : decode b_T_register 7 = .ok (.if_icmp .le 13, 3) := by decide +kernel
theorem d_T_register_10 : decode b_T_register 10 = .ok (.new 63, 3) := by decide +kernel
theorem d_T_register_20 : decode b_T_register 20 = .ok (.aload_n 0, 1) := by decide +kernel
theorem d_T_register_21 : decode b_T_register 21 = .ok (.getfield 56, 3) := by decide +kernel
theorem d_T_register_24 : decode b_T_register 24 = .ok (.iload_n 1, 1) := by decide +kernel
theorem d_T_register_25 : decode b_T_register 25 = .ok (.invokevirtual 123, 3) := by decide +kernel
theorem d_T_register_28 : decode b_T_register 28 = .ok (.ireturn, 1) := by decide +kernel
theorem d_T_read_0 : decode b_T_read 0 = .ok (.iload_n 1, 1) := by decide +kernel
theorem d_T_read_1 : decode b_T_read 1 = .ok (.ifCond .lt 9, 3) := by decide +kernel
theorem d_T_read_4 : decode b_T_read 4 = .ok (.iload_n 1, 1) := by decide +kernel
theorem d_T_read_5 : decode b_T_read 5 = .ok (.ldc 131, 2) := by decide +kernel
theorem d_T_read_7 : decode b_T_read 7 = .ok (.if_icmp .le 13, 3) := by decide +kernel
theorem d_T_read_10 : decode b_T_read 10 = .ok (.new 63, 3) := by decide +kernel
theorem d_T_read_20 : decode b_T_read 20 = .ok (.aload_n 0, 1) := by decide +kernel
theorem d_T_read_21 : decode b_T_read 21 = .ok (.getfield 28, 3) := by decide +kernel
theorem d_T_read_24 : decode b_T_read 24 = .ok (.iload_n 1, 1) := by decide +kernel
theorem d_T_read_25 : decode b_T_read 25 = .ok (.invokevirtual 134, 3) := by decide +kernel
theorem d_T_read_28 : decode b_T_read 28 = .ok (.ireturn, 1) := by decide +kernel
theorem d_T_write_0 : decode b_T_write 0 = .ok (.iload_n 2, 1) := by decide +kernel
theorem d_T_write_1 : decode b_T_write 1 = .ok (.iconst 1, 1) := by decide +kernel
theorem d_T_write_2 : decode b_T_write 2 = .ok (.if_icmp .lt 9, 3) := by decide +kernel
theorem d_T_write_5 : decode b_T_write 5 = .ok (.iload_n 2, 1) := by decide +kernel
theorem d_T_write_6 : decode b_T_write 6 = .ok (.bipush 8, 2) := by decide +kernel
theorem d_T_write_8 : decode b_T_write 8 = .ok (.if_icmp .le 13, 3) := by decide +kernel
theorem d_T_write_11 : decode b_T_write 11 = .ok (.new 63, 3) := by decide +kernel
theorem d_T_write_21 : decode b_T_write 21 = .ok (.iload_n 1, 1) := by decide +kernel
theorem d_T_write_22 : decode b_T_write 22 = .ok (.ifCond .lt 11, 3) := by decide +kernel
theorem d_T_write_25 : decode b_T_write 25 = .ok (.iload_n 1, 1) := by decide +kernel
theorem d_T_write_26 : decode b_T_write 26 = .ok (.ldc 137, 2) := by decide +kernel
theorem d_T_write_28 : decode b_T_write 28 = .ok (.iload_n 2, 1) := by decide +kernel
theorem d_T_write_29 : decode b_T_write 29 = .ok (.isub, 1) := by decide +kernel
theorem d_T_write_30 : decode b_T_write 30 = .ok (.if_icmp .le 13, 3) := by decide +kernel
theorem d_T_write_33 : decode b_T_write 33 = .ok (.new 63, 3) := by decide +kernel
theorem d_T_write_43 : decode b_T_write 43 = .ok (.iconst 0, 1) := by decide +kernel
theorem d_T_write_44 : decode b_T_write 44 = .ok (.istore 5, 2) := by decide +kernel
theorem d_T_write_46 : decode b_T_write 46 = .ok (.iload 5, 2) := by decide +kernel
theorem d_T_write_48 : decode b_T_write 48 = .ok (.iload_n 2, 1) := by decide +kernel
theorem d_T_write_49 : decode b_T_write 49 = .ok (.if_icmp .ge 26, 3) := by decide +kernel
theorem d_T_write_52 : decode b_T_write 52 = .ok (.aload_n 0, 1) := by decide +kernel
theorem d_T_write_53 : decode b_T_write 53 = .ok (.getfield 28, 3) := by decide +kernel
theorem d_T_write_56 : decode b_T_write 56 = .ok (.iload_n 1, 1) := by decide +kernel
theorem d_T_write_57 : decode b_T_write 57 = .ok (.iload 5, 2) := by decide +kernel
theorem d_T_write_59 : decode b_T_write 59 = .ok (.iadd, 1) := by decide +kernel
theorem d_T_write_60 : decode b_T_write 60 = .ok (.lload_n 3, 1) := by decide +kernel
theorem d_T_write_61 : decode b_T_write 61 = .ok (.iload 5, 2) := by decide +kernel
theorem d_T_write_63 : decode b_T_write 63 = .ok (.invokestatic 80, 3) := by decide +kernel
theorem d_T_write_66 : decode b_T_write 66 = .ok (.invokevirtual 140, 3) := by decide +kernel
theorem d_T_write_69 : decode b_T_write 69 = .ok (.iinc 5 1, 3) := by decide +kernel
theorem d_T_write_72 : decode b_T_write 72 = .ok (.goto (-26), 3) := by decide +kernel
theorem d_T_write_75 : decode b_T_write 75 = .ok (.iload_n 2, 1) := by decide +kernel
theorem d_T_write_76 : decode b_T_write 76 = .ok (.ireturn, 1) := by decide +kernel
theorem d_T_keys_0 : decode b_T_keys 0 = .ok (.iload_n 1, 1) := by decide +kernel
theorem d_T_keys_1 : decode b_T_keys 1 = .ok (.ifCond .lt 10, 3) := by decide +kernel
theorem d_T_keys_4 : decode b_T_keys 4 = .ok (.iload_n 1, 1) := by decide +kernel
theorem d_T_keys_5 : decode b_T_keys 5 = .ok (.sipush 255, 3) := by decide +kernel
theorem d_T_keys_8 : decode b_T_keys 8 = .ok (.if_icmp .le 13, 3) := by decide +kernel
theorem d_T_keys_11 : decode b_T_keys 11 = .ok (.new 63, 3) := by decide +kernel
theorem d_T_keys_21 : decode b_T_keys 21 = .ok (.aload_n 0, 1) := by decide +kernel
theorem d_T_keys_22 : decode b_T_keys 22 = .ok (.getfield 19, 3) := by decide +kernel
theorem d_T_keys_25 : decode b_T_keys 25 = .ok (.iload_n 1, 1) := by decide +kernel
theorem d_T_keys_26 : decode b_T_keys 26 = .ok (.invokevirtual 145, 3) := by decide +kernel
theorem d_T_keys_29 : decode b_T_keys 29 = .ok (.ireturn, 1) := by decide +kernel
theorem d_T_row_0 : decode b_T_row 0 = .ok (.iload_n 1, 1) := by decide +kernel
theorem d_T_row_1 : decode b_T_row 1 = .ok (.ifCond .lt 10, 3) := by decide +kernel
theorem d_T_row_4 : decode b_T_row 4 = .ok (.iload_n 1, 1) := by decide +kernel
theorem d_T_row_5 : decode b_T_row 5 = .ok (.sipush 144, 3) := by decide +kernel
theorem d_T_row_8 : decode b_T_row 8 = .ok (.if_icmp .lt 13, 3) := by decide +kernel
theorem d_T_row_11 : decode b_T_row 11 = .ok (.new 63, 3) := by decide +kernel
theorem d_T_row_21 : decode b_T_row 21 = .ok (.aload_n 0, 1) := by decide +kernel
theorem d_T_row_22 : decode b_T_row 22 = .ok (.getfield 47, 3) := by decide +kernel
theorem d_T_row_25 : decode b_T_row 25 = .ok (.iload_n 1, 1) := by decide +kernel
theorem d_T_row_26 : decode b_T_row 26 = .ok (.invokevirtual 150, 3) := by decide +kernel
theorem d_T_row_29 : decode b_T_row 29 = .ok (.ireturn, 1) := by decide +kernel
theorem d_T_pixel_0 : decode b_T_pixel 0 = .ok (.iload_n 1, 1) := by decide +kernel
theorem d_T_pixel_1 : decode b_T_pixel 1 = .ok (.ifCond .lt 10, 3) := by decide +kernel
theorem d_T_pixel_4 : decode b_T_pixel 4 = .ok (.iload_n 1, 1) := by decide +kernel
theorem d_T_pixel_5 : decode b_T_pixel 5 = .ok (.sipush 160, 3) := by decide +kernel
theorem d_T_pixel_8 : decode b_T_pixel 8 = .ok (.if_icmp .lt 13, 3) := by decide +kernel
theorem d_T_pixel_11 : decode b_T_pixel 11 = .ok (.new 72, 3) := by decide +kernel
theorem d_T_pixel_21 : decode b_T_pixel 21 = .ok (.aload_n 0, 1) := by decide +kernel
theorem d_T_pixel_22 : decode b_T_pixel 22 = .ok (.getfield 47, 3) := by decide +kernel
theorem d_T_pixel_25 : decode b_T_pixel 25 = .ok (.getfield 155, 3) := by decide +kernel
theorem d_T_pixel_28 : decode b_T_pixel 28 = .ok (.iload_n 1, 1) := by decide +kernel
theorem d_T_pixel_29 : decode b_T_pixel 29 = .ok (.iaload, 1) := by decide +kernel
theorem d_T_pixel_30 : decode b_T_pixel 30 = .ok (.ireturn, 1) := by decide +kernel
theorem d_T_count_0 : decode b_T_count 0 = .ok (.iload_n 1, 1) := by decide +kernel
theorem d_T_count_1 : decode b_T_count 1 = .ok (.tableswitch 183 0 8 #[51, 59, 67, 83, 99, 115, 137, 159, 175], 51) := by decide +kernel
theorem d_T_count_52 : decode b_T_count 52 = .ok (.aload_n 0, 1) := by decide +kernel
theorem d_T_count_53 : decode b_T_count 53 = .ok (.getfield 56, 3) := by decide +kernel
theorem d_T_count_56 : decode b_T_count 56 = .ok (.getfield 107, 3) := by decide +kernel
theorem d_T_count_59 : decode b_T_count 59 = .ok (.ireturn, 1) := by decide +kernel
theorem d_T_count_60 : decode b_T_count 60 = .ok (.aload_n 0, 1) := by decide +kernel
theorem d_T_count_61 : decode b_T_count 61 = .ok (.getfield 56, 3) := by decide +kernel
theorem d_T_count_64 : decode b_T_count 64 = .ok (.getfield 158, 3) := by decide +kernel
theorem d_T_count_67 : decode b_T_count 67 = .ok (.ireturn, 1) := by decide +kernel
theorem d_T_count_68 : decode b_T_count 68 = .ok (.aload_n 0, 1) := by decide +kernel
theorem d_T_count_69 : decode b_T_count 69 = .ok (.getfield 56, 3) := by decide +kernel
theorem d_T_count_72 : decode b_T_count 72 = .ok (.getfield 161, 3) := by decide +kernel
theorem d_T_count_75 : decode b_T_count 75 = .ok (.ifCond .eq 7, 3) := by decide +kernel
theorem d_T_count_78 : decode b_T_count 78 = .ok (.iconst 1, 1) := by decide +kernel
theorem d_T_count_79 : decode b_T_count 79 = .ok (.goto 4, 3) := by decide +kernel
theorem d_T_count_82 : decode b_T_count 82 = .ok (.iconst 0, 1) := by decide +kernel
theorem d_T_count_83 : decode b_T_count 83 = .ok (.ireturn, 1) := by decide +kernel
theorem d_T_count_84 : decode b_T_count 84 = .ok (.aload_n 0, 1) := by decide +kernel
theorem d_T_count_85 : decode b_T_count 85 = .ok (.getfield 56, 3) := by decide +kernel
theorem d_T_count_88 : decode b_T_count 88 = .ok (.getfield 164, 3) := by decide +kernel
theorem d_T_count_91 : decode b_T_count 91 = .ok (.ifCond .eq 7, 3) := by decide +kernel
theorem d_T_count_94 : decode b_T_count 94 = .ok (.iconst 1, 1) := by decide +kernel
theorem d_T_count_95 : decode b_T_count 95 = .ok (.goto 4, 3) := by decide +kernel
theorem d_T_count_98 : decode b_T_count 98 = .ok (.iconst 0, 1) := by decide +kernel
theorem d_T_count_99 : decode b_T_count 99 = .ok (.ireturn, 1) := by decide +kernel
theorem d_T_count_100 : decode b_T_count 100 = .ok (.aload_n 0, 1) := by decide +kernel
theorem d_T_count_101 : decode b_T_count 101 = .ok (.getfield 56, 3) := by decide +kernel
theorem d_T_count_104 : decode b_T_count 104 = .ok (.getfield 110, 3) := by decide +kernel
theorem d_T_count_107 : decode b_T_count 107 = .ok (.ifCond .eq 7, 3) := by decide +kernel
theorem d_T_count_110 : decode b_T_count 110 = .ok (.iconst 1, 1) := by decide +kernel
theorem d_T_count_111 : decode b_T_count 111 = .ok (.goto 4, 3) := by decide +kernel
theorem d_T_count_114 : decode b_T_count 114 = .ok (.iconst 0, 1) := by decide +kernel
theorem d_T_count_115 : decode b_T_count 115 = .ok (.ireturn, 1) := by decide +kernel
theorem d_T_count_116 : decode b_T_count 116 = .ok (.aload_n 0, 1) := by decide +kernel
theorem d_T_count_117 : decode b_T_count 117 = .ok (.getfield 10, 3) := by decide +kernel
theorem d_T_count_120 : decode b_T_count 120 = .ok (.getfield 95, 3) := by decide +kernel
theorem d_T_count_123 : decode b_T_count 123 = .ok (.ifCond .eq 13, 3) := by decide +kernel
theorem d_T_count_126 : decode b_T_count 126 = .ok (.aload_n 0, 1) := by decide +kernel
theorem d_T_count_127 : decode b_T_count 127 = .ok (.getfield 10, 3) := by decide +kernel
theorem d_T_count_130 : decode b_T_count 130 = .ok (.getfield 167, 3) := by decide +kernel
theorem d_T_count_133 : decode b_T_count 133 = .ok (.goto 4, 3) := by decide +kernel
theorem d_T_count_136 : decode b_T_count 136 = .ok (.iconst 0, 1) := by decide +kernel
theorem d_T_count_137 : decode b_T_count 137 = .ok (.ireturn, 1) := by decide +kernel
theorem d_T_count_138 : decode b_T_count 138 = .ok (.aload_n 0, 1) := by decide +kernel
theorem d_T_count_139 : decode b_T_count 139 = .ok (.getfield 10, 3) := by decide +kernel
theorem d_T_count_142 : decode b_T_count 142 = .ok (.getfield 95, 3) := by decide +kernel
theorem d_T_count_145 : decode b_T_count 145 = .ok (.ifCond .eq 13, 3) := by decide +kernel
theorem d_T_count_148 : decode b_T_count 148 = .ok (.aload_n 0, 1) := by decide +kernel
theorem d_T_count_149 : decode b_T_count 149 = .ok (.getfield 10, 3) := by decide +kernel
theorem d_T_count_152 : decode b_T_count 152 = .ok (.getfield 170, 3) := by decide +kernel
theorem d_T_count_155 : decode b_T_count 155 = .ok (.goto 4, 3) := by decide +kernel
theorem d_T_count_158 : decode b_T_count 158 = .ok (.iconst 0, 1) := by decide +kernel
theorem d_T_count_159 : decode b_T_count 159 = .ok (.ireturn, 1) := by decide +kernel
theorem d_T_count_160 : decode b_T_count 160 = .ok (.aload_n 0, 1) := by decide +kernel
theorem d_T_count_161 : decode b_T_count 161 = .ok (.getfield 10, 3) := by decide +kernel
theorem d_T_count_164 : decode b_T_count 164 = .ok (.getfield 173, 3) := by decide +kernel
theorem d_T_count_167 : decode b_T_count 167 = .ok (.ifCond .eq 7, 3) := by decide +kernel
theorem d_T_count_170 : decode b_T_count 170 = .ok (.iconst 1, 1) := by decide +kernel
theorem d_T_count_171 : decode b_T_count 171 = .ok (.goto 4, 3) := by decide +kernel
theorem d_T_count_174 : decode b_T_count 174 = .ok (.iconst 0, 1) := by decide +kernel
theorem d_T_count_175 : decode b_T_count 175 = .ok (.ireturn, 1) := by decide +kernel
theorem d_T_count_176 : decode b_T_count 176 = .ok (.aload_n 0, 1) := by decide +kernel
theorem d_T_count_177 : decode b_T_count 177 = .ok (.getfield 56, 3) := by decide +kernel
theorem d_T_count_180 : decode b_T_count 180 = .ok (.getfield 176, 3) := by decide +kernel
theorem d_T_count_183 : decode b_T_count 183 = .ok (.ireturn, 1) := by decide +kernel
theorem d_T_count_184 : decode b_T_count 184 = .ok (.new 63, 3) := by decide +kernel
theorem d_T_speed_0 : decode b_T_speed 0 = .ok (.aload_n 0, 1) := by decide +kernel
theorem d_T_speed_1 : decode b_T_speed 1 = .ok (.getfield 56, 3) := by decide +kernel
theorem d_T_speed_4 : decode b_T_speed 4 = .ok (.getfield 107, 3) := by decide +kernel
theorem d_T_speed_7 : decode b_T_speed 7 = .ok (.ifCond .ne 13, 3) := by decide +kernel
theorem d_T_speed_10 : decode b_T_speed 10 = .ok (.new 181, 3) := by decide +kernel
theorem d_T_speed_20 : decode b_T_speed 20 = .ok (.ldc2_w 186, 3) := by decide +kernel
theorem d_T_speed_23 : decode b_T_speed 23 = .ok (.aload_n 0, 1) := by decide +kernel
theorem d_T_speed_24 : decode b_T_speed 24 = .ok (.getfield 56, 3) := by decide +kernel
theorem d_T_speed_27 : decode b_T_speed 27 = .ok (.getfield 107, 3) := by decide +kernel
theorem d_T_speed_30 : decode b_T_speed 30 = .ok (.i2d, 1) := by decide +kernel
theorem d_T_speed_31 : decode b_T_speed 31 = .ok (.ddiv, 1) := by decide +kernel
theorem d_T_speed_32 : decode b_T_speed 32 = .ok (.aload_n 0, 1) := by decide +kernel
theorem d_T_speed_33 : decode b_T_speed 33 = .ok (.getfield 19, 3) := by decide +kernel
theorem d_T_speed_36 : decode b_T_speed 36 = .ok (.getfield 188, 3) := by decide +kernel
theorem d_T_speed_39 : decode b_T_speed 39 = .ok (.i2d, 1) := by decide +kernel
theorem d_T_speed_40 : decode b_T_speed 40 = .ok (.dmul, 1) := by decide +kernel
theorem d_T_speed_41 : decode b_T_speed 41 = .ok (.dreturn, 1) := by decide +kernel
def wp_T_rom_j1 (Q : Int32 → Mem → Prop) : Prop := False
def wp_T_rom_j2 (Q : Int32 → Mem → Prop) : Prop := False
def wp_T_rom_j3 (Q : Int32 → Mem → Prop) : Prop := False
def wp_T_rom_l1 (a1 : Int32) (a2 : Int32) (a3 : Int32) (a4 : Int64) (Q : Int32 → Mem → Prop) (n : Nat) : Int32 → Mem → Prop := Nat.rec (motive := fun _ => Int32 → Mem → Prop) (fun _ _ => False) (fun _ K1 x36 M37 => (((a3 ≤ x36) → Q a3 M37) ∧ ((¬ a3 ≤ x36) → wp_T_octetOf M37 a4 x36 (fun x38 => vp_in (((a1 * (1024 : Int32)) + a2) + x36) 8192 ∧ ∀ M39 : Mem, M39 = mst M37 6 ((((a1 * (1024 : Int32)) + a2) + x36)).toNatClampNeg x38 → ∀ x40 : Int32, x40 = x36 + (1 : Int32) → K1 x40 M39)))) n
def wp_T_rom (M0 : Mem) (a1 : Int32) (a2 : Int32) (a3 : Int32) (a4 : Int64) (Q : Int32 → Mem → Prop) : Prop := (((a3 < (1 : Int32)) → wp_T_rom_j1 Q) ∧ ((¬ a3 < (1 : Int32)) → (((a3 ≤ (8 : Int32)) → (((a1 < 0) → wp_T_rom_j2 Q) ∧ ((¬ a1 < 0) → (((a1 < (8 : Int32)) → (((a2 < 0) → wp_T_rom_j3 Q) ∧ ((¬ a2 < 0) → (((a2 ≤ ((1024 : Int32) - a3)) → (∃ n : Nat, wp_T_rom_l1 a1 a2 a3 a4 Q n (0 : Int32) M0)) ∧ ((¬ a2 ≤ ((1024 : Int32) - a3)) → wp_T_rom_j3 Q))))) ∧ ((¬ a1 < (8 : Int32)) → wp_T_rom_j2 Q))))) ∧ ((¬ a3 ≤ (8 : Int32)) → wp_T_rom_j1 Q))))
def wp_T_insert_j1 (Q : Int32 → Mem → Prop) : Prop := False
def wp_T_insert (M0 : Mem) (a1 : Int32) (Q : Int32 → Mem → Prop) : Prop := (((a1 < 0) → wp_T_insert_j1 Q) ∧ ((¬ a1 < 0) → (((a1 ≤ (3 : Int32)) → wp_K_headerAgrees M0 (fun x5 => (((¬ x5 = 0) → ∀ M6 : Mem, M6 = mst M0 1 2 (1 : Int32) → ∀ M7 : Mem, M7 = mst M6 1 3 a1 → wp_T_startAnew M7 (fun M8 => Q (1 : Int32) M8)) ∧ ((x5 = 0) → False)))) ∧ ((¬ a1 ≤ (3 : Int32)) → wp_T_insert_j1 Q))))
def wp_T_run_j1 (Q : Int32 → Mem → Prop) : Prop := False
def wp_T_run_j2 (x11 : Int32) (K1 : Int32 → Mem → Prop) (M16 : Mem) (Q : Int32 → Mem → Prop) : Prop := ((((M16 5 5) = 0) → ∀ x17 : Int32, x17 = x11 + (1 : Int32) → K1 x17 M16) ∧ ((¬ (M16 5 5) = 0) → False))
def wp_T_run_l1 (a1 : Int32) (x10 : Int32) (Q : Int32 → Mem → Prop) (n : Nat) : Int32 → Mem → Prop := Nat.rec (motive := fun _ => Int32 → Mem → Prop) (fun _ _ => False) (fun _ K1 x11 M12 => (((a1 ≤ x11) → Q ((M12 5 0) - x10) M12) ∧ ((¬ a1 ≤ x11) → (((¬ (M12 5 5) = 0) → wp_T_run_j2 x11 K1 M12 Q) ∧ (((M12 5 5) = 0) → wp_Q_step M12 (fun M18 => wp_T_run_j2 x11 K1 M18 Q)))))) n
def wp_T_run (M0 : Mem) (a1 : Int32) (Q : Int32 → Mem → Prop) : Prop := (((a1 < (1 : Int32)) → wp_T_run_j1 Q) ∧ ((¬ a1 < (1 : Int32)) → (((a1 ≤ (100 : Int32)) → (((¬ (M0 1 2) = 0) → ∀ x10 : Int32, x10 = (M0 5 0) → (∃ n : Nat, wp_T_run_l1 a1 x10 Q n (0 : Int32) M0)) ∧ (((M0 1 2) = 0) → False))) ∧ ((¬ a1 ≤ (100 : Int32)) → wp_T_run_j1 Q))))
def wp_T_set_j1 (Q : Int32 → Mem → Prop) : Prop := False
def wp_T_set (M0 : Mem) (a1 : Int32) (a2 : Int32) (Q : Int32 → Mem → Prop) : Prop := (((a1 < 0) → wp_T_set_j1 Q) ∧ ((¬ a1 < 0) → (((a1 ≤ (9 : Int32)) → wp_Q_valueOf M0 a1 (fun x3 => wp_Q_put M0 a1 a2 (fun M4 => Q x3 M4))) ∧ ((¬ a1 ≤ (9 : Int32)) → wp_T_set_j1 Q))))
def wp_T_register_j1 (Q : Int32 → Prop) : Prop := False
def wp_T_register (M0 : Mem) (a1 : Int32) (Q : Int32 → Prop) : Prop := (((a1 < 0) → wp_T_register_j1 Q) ∧ ((¬ a1 < 0) → (((a1 ≤ (9 : Int32)) → wp_Q_valueOf M0 a1 (fun x2 => Q x2)) ∧ ((¬ a1 ≤ (9 : Int32)) → wp_T_register_j1 Q))))
def wp_T_read_j1 (Q : Int32 → Prop) : Prop := False
def wp_T_read (M0 : Mem) (a1 : Int32) (Q : Int32 → Prop) : Prop := (((a1 < 0) → wp_T_read_j1 Q) ∧ ((¬ a1 < 0) → (((a1 ≤ (65535 : Int32)) → wp_Y_load M0 a1 (fun x2 => Q x2)) ∧ ((¬ a1 ≤ (65535 : Int32)) → wp_T_read_j1 Q))))
def wp_T_write_j1 (Q : Int32 → Mem → Prop) : Prop := False
def wp_T_write_j2 (Q : Int32 → Mem → Prop) : Prop := False
def wp_T_write_l1 (a1 : Int32) (a2 : Int32) (a3 : Int64) (Q : Int32 → Mem → Prop) (n : Nat) : Int32 → Mem → Prop := Nat.rec (motive := fun _ => Int32 → Mem → Prop) (fun _ _ => False) (fun _ K1 x16 M17 => (((a2 ≤ x16) → Q a2 M17) ∧ ((¬ a2 ≤ x16) → wp_T_octetOf M17 a3 x16 (fun x18 => wp_Y_store M17 (a1 + x16) x18 (fun M19 => ∀ x20 : Int32, x20 = x16 + (1 : Int32) → K1 x20 M19))))) n
def wp_T_write (M0 : Mem) (a1 : Int32) (a2 : Int32) (a3 : Int64) (Q : Int32 → Mem → Prop) : Prop := (((a2 < (1 : Int32)) → wp_T_write_j1 Q) ∧ ((¬ a2 < (1 : Int32)) → (((a2 ≤ (8 : Int32)) → (((a1 < 0) → wp_T_write_j2 Q) ∧ ((¬ a1 < 0) → (((a1 ≤ ((65536 : Int32) - a2)) → (∃ n : Nat, wp_T_write_l1 a1 a2 a3 Q n (0 : Int32) M0)) ∧ ((¬ a1 ≤ ((65536 : Int32) - a2)) → wp_T_write_j2 Q))))) ∧ ((¬ a2 ≤ (8 : Int32)) → wp_T_write_j1 Q))))
def wp_T_keys_j1 (Q : Int32 → Mem → Prop) : Prop := False
def wp_T_keys (M0 : Mem) (a1 : Int32) (Q : Int32 → Mem → Prop) : Prop := (((a1 < 0) → wp_T_keys_j1 Q) ∧ ((¬ a1 < 0) → (((a1 ≤ (255 : Int32)) → wp_P_press M0 a1 (fun x3 M4 => Q x3 M4)) ∧ ((¬ a1 ≤ (255 : Int32)) → wp_T_keys_j1 Q))))
def wp_T_row_j1 (Q : Int32 → Mem → Prop) : Prop := False
def wp_T_row (M0 : Mem) (a1 : Int32) (Q : Int32 → Mem → Prop) : Prop := (((a1 < 0) → wp_T_row_j1 Q) ∧ ((¬ a1 < 0) → (((a1 < (144 : Int32)) → wp_S_make M0 a1 (fun x3 M4 => Q x3 M4)) ∧ ((¬ a1 < (144 : Int32)) → wp_T_row_j1 Q))))
def wp_T_pixel_j1 (Q : Int32 → Prop) : Prop := False
def wp_T_pixel (M0 : Mem) (a1 : Int32) (Q : Int32 → Prop) : Prop := (((a1 < 0) → wp_T_pixel_j1 Q) ∧ ((¬ a1 < 0) → (((a1 < (160 : Int32)) → vp_in a1 160 ∧ Q (M0 13 a1.toNatClampNeg)) ∧ ((¬ a1 < (160 : Int32)) → wp_T_pixel_j1 Q))))
def wp_T_count_j1 (x2 : Int32) (Q : Int32 → Prop) : Prop := Q x2
def wp_T_count_j2 (x4 : Int32) (Q : Int32 → Prop) : Prop := Q x4
def wp_T_count_j3 (x6 : Int32) (Q : Int32 → Prop) : Prop := Q x6
def wp_T_count_j4 (x8 : Int32) (Q : Int32 → Prop) : Prop := Q x8
def wp_T_count_j5 (x10 : Int32) (Q : Int32 → Prop) : Prop := Q x10
def wp_T_count_j6 (x12 : Int32) (Q : Int32 → Prop) : Prop := Q x12
def wp_T_count (M0 : Mem) (a1 : Int32) (Q : Int32 → Prop) : Prop := ((((a1 = (0 : Int32))) → Q (M0 5 0)) ∧ ((¬ (a1 = (0 : Int32))) → ((((a1 = (1 : Int32))) → Q (M0 5 1)) ∧ ((¬ (a1 = (1 : Int32))) → ((((a1 = (2 : Int32))) → ((((M0 5 3) = 0) → wp_T_count_j1 (0 : Int32) Q) ∧ ((¬ (M0 5 3) = 0) → wp_T_count_j1 (1 : Int32) Q))) ∧ ((¬ (a1 = (2 : Int32))) → ((((a1 = (3 : Int32))) → ((((M0 5 4) = 0) → wp_T_count_j2 (0 : Int32) Q) ∧ ((¬ (M0 5 4) = 0) → wp_T_count_j2 (1 : Int32) Q))) ∧ ((¬ (a1 = (3 : Int32))) → ((((a1 = (4 : Int32))) → ((((M0 5 5) = 0) → wp_T_count_j3 (0 : Int32) Q) ∧ ((¬ (M0 5 5) = 0) → wp_T_count_j3 (1 : Int32) Q))) ∧ ((¬ (a1 = (4 : Int32))) → ((((a1 = (5 : Int32))) → ((((M0 1 2) = 0) → wp_T_count_j4 (0 : Int32) Q) ∧ ((¬ (M0 1 2) = 0) → wp_T_count_j4 (M0 1 5) Q))) ∧ ((¬ (a1 = (5 : Int32))) → ((((a1 = (6 : Int32))) → ((((M0 1 2) = 0) → wp_T_count_j5 (0 : Int32) Q) ∧ ((¬ (M0 1 2) = 0) → wp_T_count_j5 (M0 1 6) Q))) ∧ ((¬ (a1 = (6 : Int32))) → ((((a1 = (7 : Int32))) → ((((M0 1 4) = 0) → wp_T_count_j6 (0 : Int32) Q) ∧ ((¬ (M0 1 4) = 0) → wp_T_count_j6 (1 : Int32) Q))) ∧ ((¬ (a1 = (7 : Int32))) → ((((a1 = (8 : Int32))) → Q (M0 5 2)) ∧ ((¬ (a1 = (8 : Int32))) → False))))))))))))))))))
def wp_T_speed (M0 : Mem) (Q : UInt64 → Prop) : Prop := (((¬ (M0 5 0) = 0) → vf_n64 (FP.ddiv (4697254411347427328 : UInt64) (FP.i2d (M0 5 0))) ∧ vf_n64 (FP.dmul (FP.ddiv (4697254411347427328 : UInt64) (FP.i2d (M0 5 0))) (FP.i2d (M0 2 1))) ∧ Q (FP.dmul (FP.ddiv (4697254411347427328 : UInt64) (FP.i2d (M0 5 0))) (FP.i2d (M0 2 1)))) ∧ (((M0 5 0) = 0) → False))
set_option maxHeartbeats 4000000 in
set_option maxRecDepth 100000 in
theorem ct_T_rom {l : Launch} {D : va_G} {cA : ClassId} {ad tb : Nat → Nat} (M0 : Mem) (a1 : Int32) (a2 : Int32) (a3 : Int32) (a4 : Int64) (Q : Int32 → Mem → Prop) (hk : wp_T_rom M0 a1 a2 a3 a4 Q) : Ct l y_T_rom ws_T_rom rm_T_rom D (ceC ad cA) cA tb [.ref (ad 0), .int a1, .int a2, .int a3, .long a4] M0 (QI Q) := by
  refine Ct.of (own := "TileConsole") (cc := b_T_rom) (maxL := 7) (ret := (some .int)) ceC_fix (by decide) rfl rfl (Nat.le_of_ble_eq_true rfl) ?_
  intro p e s m args below meth c A QQ ls H locs hQQ hC hr hlk hw hl
  have hx := hC.1.1
  have hb := hC.1.2.1
  unfold wp_T_rom at hk
  have hl : lv_has ls 7 [(0, .ref (ad 0)), (1, .int a1), (2, .int a2), (3, .int a3), (4, .long a4)] := hl
  refine lv_iload_n hx hb d_T_rom_0 rfl (lv_at hl 3 rfl) ?_
  refine lv_iconst (v := 1) hx hb d_T_rom_1 (by decide) ?_
  have hj1 : ∀ (H : Heap) (locs : List Loc) (ls : Array Slot), wp_T_rom_j1 Q → Wd D (ceC ad cA) A s H locs M0 → lv_has ls 7 [(0, .ref (ad 0)), (1, .int a1), (2, .int a2), (3, .int a3), (4, .long a4)] → W p l e rm_T_rom s m args below meth c H locs 0 0 QQ (F0 m 11 ls []) := by
    intro H locs ls  hk hw hl
    unfold wp_T_rom_j1 at hk
    exact False.elim hk
  refine lv_icmp_lt (tgt := 11) hx hb d_T_rom_2 (by decide) (fun hc => ?_) (fun hc => ?_)
  · have hk := hk.1 hc
    exact hj1 _ _ _  hk hw (lv_sub hl [0, 1, 2, 3, 4] rfl)
  · have hk := hk.2 hc
    refine lv_iload_n hx hb d_T_rom_5 rfl (lv_at hl 3 rfl) ?_
    refine lv_bipush (v := 8) hx hb d_T_rom_6 (by decide) ?_
    refine lv_icmp_le (tgt := 21) hx hb d_T_rom_8 (by decide) (fun hc => ?_) (fun hc => ?_)
    · have hk := hk.1 hc
      refine lv_iload_n hx hb d_T_rom_21 rfl (lv_at hl 1 rfl) ?_
      have hj2 : ∀ (H : Heap) (locs : List Loc) (ls : Array Slot), wp_T_rom_j2 Q → Wd D (ceC ad cA) A s H locs M0 → lv_has ls 7 [(0, .ref (ad 0)), (1, .int a1), (2, .int a2), (3, .int a3), (4, .long a4)] → W p l e rm_T_rom s m args below meth c H locs 0 0 QQ (F0 m 31 ls []) := by
        intro H locs ls  hk hw hl
        unfold wp_T_rom_j2 at hk
        exact False.elim hk
      refine lv_if_lt (tgt := 31) hx hb d_T_rom_22 (by decide) (fun hc => ?_) (fun hc => ?_)
      · have hk := hk.1 hc
        exact hj2 _ _ _  hk hw (lv_sub hl [0, 1, 2, 3, 4] rfl)
      · have hk := hk.2 hc
        refine lv_iload_n hx hb d_T_rom_25 rfl (lv_at hl 1 rfl) ?_
        refine lv_bipush (v := 8) hx hb d_T_rom_26 (by decide) ?_
        refine lv_icmp_lt (tgt := 41) hx hb d_T_rom_28 (by decide) (fun hc => ?_) (fun hc => ?_)
        · have hk := hk.1 hc
          refine lv_iload_n hx hb d_T_rom_41 rfl (lv_at hl 2 rfl) ?_
          have hj3 : ∀ (H : Heap) (locs : List Loc) (ls : Array Slot), wp_T_rom_j3 Q → Wd D (ceC ad cA) A s H locs M0 → lv_has ls 7 [(0, .ref (ad 0)), (1, .int a1), (2, .int a2), (3, .int a3), (4, .long a4)] → W p l e rm_T_rom s m args below meth c H locs 0 0 QQ (F0 m 54 ls []) := by
            intro H locs ls  hk hw hl
            unfold wp_T_rom_j3 at hk
            exact False.elim hk
          refine lv_if_lt (tgt := 54) hx hb d_T_rom_42 (by decide) (fun hc => ?_) (fun hc => ?_)
          · have hk := hk.1 hc
            exact hj3 _ _ _  hk hw (lv_sub hl [0, 1, 2, 3, 4] rfl)
          · have hk := hk.2 hc
            refine lv_iload_n hx hb d_T_rom_45 rfl (lv_at hl 2 rfl) ?_
            refine lv_sipush (v := 1024) hx hb d_T_rom_46 (by decide) ?_
            refine lv_iload_n hx hb d_T_rom_49 rfl (lv_at hl 3 rfl) ?_
            refine lv_isub hx hb d_T_rom_50 ?_
            refine lv_icmp_le (tgt := 64) hx hb d_T_rom_51 (by decide) (fun hc => ?_) (fun hc => ?_)
            · have hk := hk.1 hc
              refine lv_iconst (v := 0) hx hb d_T_rom_64 (by decide) ?_
              refine lv_istore (lv' := [(6, .int (0 : Int32)), (0, .ref (ad 0)), (1, .int a1), (2, .int a2), (3, .int a3), (4, .long a4)]) hx hb d_T_rom_65 hl (by decide) rfl (fun ls hl => ?_)
              have hl1 : ∀ (n : Nat) (H : Heap) (locs : List Loc) (ls : Array Slot) (x36 : Int32) (M37 : Mem), wp_T_rom_l1 a1 a2 a3 a4 Q n x36 M37 → Wd D (ceC ad cA) A s H locs M37 → lv_has ls 7 [(0, .ref (ad 0)), (1, .int a1), (2, .int a2), (3, .int a3), (4, .long a4), (6, .int x36)] → W p l e rm_T_rom s m args below meth c H locs 0 0 QQ (F0 m 67 ls []) := by
                intro n
                induction n with
                | zero => intro H locs ls x36 M37 hk; exact False.elim hk
                | succ n1 ih1 =>
                  intro H locs ls x36 M37 hk hw hl
                  refine lv_iload hx hb d_T_rom_67 (lv_at hl 5 rfl) ?_
                  refine lv_iload_n hx hb d_T_rom_69 rfl (lv_at hl 3 rfl) ?_
                  refine lv_icmp_ge (tgt := 104) hx hb d_T_rom_70 (by decide) (fun hc => ?_) (fun hc => ?_)
                  · have hk := hk.1 hc
                    refine lv_iload_n hx hb d_T_rom_104 rfl (lv_at hl 3 rfl) ?_
                    exact rt_i hQQ hx hb hr hlk hw ⟨_, rfl, hk⟩ d_T_rom_105
                  · have hk := hk.2 hc
                    refine lv_aload_n hx hb d_T_rom_73 rfl (lv_at hl 0 rfl) ?_
                    refine g_T_cartridge hC hw m_39 d_T_rom_74 ?_
                    refine g_K_rom hC hw m_144 d_T_rom_77 ?_
                    refine lv_iload_n hx hb d_T_rom_80 rfl (lv_at hl 1 rfl) ?_
                    refine lv_sipush (v := 1024) hx hb d_T_rom_81 (by decide) ?_
                    refine lv_imul hx hb d_T_rom_84 ?_
                    refine lv_iload_n hx hb d_T_rom_85 rfl (lv_at hl 2 rfl) ?_
                    refine lv_iadd hx hb d_T_rom_86 ?_
                    refine lv_iload hx hb d_T_rom_87 (lv_at hl 5 rfl) ?_
                    refine lv_iadd hx hb d_T_rom_89 ?_
                    refine lv_lload hx hb d_T_rom_90 (lv_at hl 4 rfl) ?_
                    refine lv_iload hx hb d_T_rom_92 (lv_at hl 5 rfl) ?_
                    refine cl_Sip (As := [.long a4, .int x36]) hC hw (ct_T_octetOf _ _ _ _ hk) m_145 mw_T_octetOf rfl ⟨rfl, rfl, Nat.le_of_ble_eq_true rfl, Nat.le_of_ble_eq_true rfl⟩ rfl hl.1 rfl (Nat.le_of_ble_eq_true rfl) d_T_rom_94 (fun H locs x38 hk hw => ?_)
                    obtain ⟨hin, hk⟩ := hk
                    refine st_6 hC hw hin rfl d_T_rom_97 (fun H locs M39 e_M39 hw => ?_)
                    have hk := hk M39 e_M39
                    obtain ⟨x40, e_x40⟩ : ∃ y : Int32, y = x36 + (1 : Int32) := ⟨_, rfl⟩
                    have hk := hk x40 e_x40
                    refine lv_iinc (v := x40) (lv' := [(6, .int x40), (0, .ref (ad 0)), (1, .int a1), (2, .int a2), (3, .int a3), (4, .long a4)]) hx hb d_T_rom_98 hl (k := 5) rfl (by rw [e_x40]; rfl) (by decide) rfl (fun ls hl => ?_)
                    refine lv_goto (tgt := 67) hx hb d_T_rom_101 (by decide) ?_
                    exact ih1 _ _ _ _ _ hk hw (lv_sub hl [1, 2, 3, 4, 5, 0] rfl)
              obtain ⟨n, hk⟩ := hk
              exact hl1 n _ _ _ _ _ hk hw (lv_sub hl [1, 2, 3, 4, 5, 0] rfl)
            · have hk := hk.2 hc
              exact hj3 _ _ _  hk hw (lv_sub hl [0, 1, 2, 3, 4] rfl)
        · have hk := hk.2 hc
          exact hj2 _ _ _  hk hw (lv_sub hl [0, 1, 2, 3, 4] rfl)
    · have hk := hk.2 hc
      exact hj1 _ _ _  hk hw (lv_sub hl [0, 1, 2, 3, 4] rfl)
set_option maxHeartbeats 4000000 in
set_option maxRecDepth 100000 in
theorem ct_T_insert {l : Launch} {D : va_G} {cA : ClassId} {ad tb : Nat → Nat} (M0 : Mem) (a1 : Int32) (Q : Int32 → Mem → Prop) (hk : wp_T_insert M0 a1 Q) : Ct l y_T_insert ws_T_insert rm_T_insert D (ceC ad cA) cA tb [.ref (ad 0), .int a1] M0 (QI Q) := by
  refine Ct.of (own := "TileConsole") (cc := b_T_insert) (maxL := 2) (ret := (some .int)) ceC_fix (by decide) rfl rfl (Nat.le_of_ble_eq_true rfl) ?_
  intro p e s m args below meth c A QQ ls H locs hQQ hC hr hlk hw hl
  have hx := hC.1.1
  have hb := hC.1.2.1
  unfold wp_T_insert at hk
  have hl : lv_has ls 2 [(0, .ref (ad 0)), (1, .int a1)] := hl
  refine lv_iload_n hx hb d_T_insert_0 rfl (lv_at hl 1 rfl) ?_
  have hj1 : ∀ (H : Heap) (locs : List Loc) (ls : Array Slot), wp_T_insert_j1 Q → Wd D (ceC ad cA) A s H locs M0 → lv_has ls 2 [(0, .ref (ad 0)), (1, .int a1)] → W p l e rm_T_insert s m args below meth c H locs 0 0 QQ (F0 m 9 ls []) := by
    intro H locs ls  hk hw hl
    unfold wp_T_insert_j1 at hk
    exact False.elim hk
  refine lv_if_lt (tgt := 9) hx hb d_T_insert_1 (by decide) (fun hc => ?_) (fun hc => ?_)
  · have hk := hk.1 hc
    exact hj1 _ _ _  hk hw (lv_sub hl [0, 1] rfl)
  · have hk := hk.2 hc
    refine lv_iload_n hx hb d_T_insert_4 rfl (lv_at hl 1 rfl) ?_
    refine lv_iconst (v := 3) hx hb d_T_insert_5 (by decide) ?_
    refine lv_icmp_le (tgt := 19) hx hb d_T_insert_6 (by decide) (fun hc => ?_) (fun hc => ?_)
    · have hk := hk.1 hc
      refine lv_aload_n hx hb d_T_insert_19 rfl (lv_at hl 0 rfl) ?_
      refine g_T_cartridge hC hw m_39 d_T_insert_20 ?_
      refine cl_Vip (j := 1) (As := []) hC hw (ct_K_headerAgrees _  _ hk) m_146 mw_K_headerAgrees rfl ⟨rfl, rfl, Nat.le_of_ble_eq_true rfl, Nat.le_of_ble_eq_true rfl⟩ rfl rfl rfl hl.1 rfl (Nat.le_of_ble_eq_true rfl) d_T_insert_23 (fun H locs x5 hk hw => ?_)
      refine lv_if_ne (tgt := 39) hx hb d_T_insert_26 (by decide) (fun hc => ?_) (fun hc => ?_)
      · have hk := hk.1 hc
        refine lv_aload_n hx hb d_T_insert_39 rfl (lv_at hl 0 rfl) ?_
        refine g_T_cartridge hC hw m_39 d_T_insert_40 ?_
        refine lv_iconst (v := 1) hx hb d_T_insert_43 (by decide) ?_
        refine p_K_in hC hw (Or.inr rfl) m_147 d_T_insert_44 (fun H locs M6 e_M6 hw => ?_)
        have hk := hk M6 e_M6
        refine lv_aload_n hx hb d_T_insert_47 rfl (lv_at hl 0 rfl) ?_
        refine g_T_cartridge hC hw m_39 d_T_insert_48 ?_
        refine lv_iload_n hx hb d_T_insert_51 rfl (lv_at hl 1 rfl) ?_
        refine p_K_kind hC hw m_148 d_T_insert_52 (fun H locs M7 e_M7 hw => ?_)
        have hk := hk M7 e_M7
        refine lv_aload_n hx hb d_T_insert_55 rfl (lv_at hl 0 rfl) ?_
        refine cl_Vv (j := 0) (As := []) hC hw (ct_T_startAnew _  _ hk) m_149 mw_T_startAnew rfl ⟨rfl, rfl, Nat.le_of_ble_eq_true rfl, Nat.le_of_ble_eq_true rfl⟩ rfl rfl rfl hl.1 rfl (Nat.le_of_ble_eq_true rfl) d_T_insert_56 (fun H locs M8 hk hw => ?_)
        refine lv_iconst (v := 1) hx hb d_T_insert_59 (by decide) ?_
        exact rt_i hQQ hx hb hr hlk hw ⟨_, rfl, hk⟩ d_T_insert_60
      · have hk := hk.2 hc
        exact False.elim hk
    · have hk := hk.2 hc
      exact hj1 _ _ _  hk hw (lv_sub hl [0, 1] rfl)
set_option maxHeartbeats 4000000 in
set_option maxRecDepth 100000 in
theorem ct_T_run {l : Launch} {D : va_G} {cA : ClassId} {ad tb : Nat → Nat} (M0 : Mem) (a1 : Int32) (Q : Int32 → Mem → Prop) (hk : wp_T_run M0 a1 Q) : Ct l y_T_run ws_T_run rm_T_run D (ceC ad cA) cA tb [.ref (ad 0), .int a1] M0 (QI Q) := by
  refine Ct.of (own := "TileConsole") (cc := b_T_run) (maxL := 4) (ret := (some .int)) ceC_fix (by decide) rfl rfl (Nat.le_of_ble_eq_true rfl) ?_
  intro p e s m args below meth c A QQ ls H locs hQQ hC hr hlk hw hl
  have hx := hC.1.1
  have hb := hC.1.2.1
  unfold wp_T_run at hk
  have hl : lv_has ls 4 [(0, .ref (ad 0)), (1, .int a1)] := hl
  refine lv_iload_n hx hb d_T_run_0 rfl (lv_at hl 1 rfl) ?_
  refine lv_iconst (v := 1) hx hb d_T_run_1 (by decide) ?_
  have hj1 : ∀ (H : Heap) (locs : List Loc) (ls : Array Slot), wp_T_run_j1 Q → Wd D (ceC ad cA) A s H locs M0 → lv_has ls 4 [(0, .ref (ad 0)), (1, .int a1)] → W p l e rm_T_run s m args below meth c H locs 0 0 QQ (F0 m 11 ls []) := by
    intro H locs ls  hk hw hl
    unfold wp_T_run_j1 at hk
    exact False.elim hk
  refine lv_icmp_lt (tgt := 11) hx hb d_T_run_2 (by decide) (fun hc => ?_) (fun hc => ?_)
  · have hk := hk.1 hc
    exact hj1 _ _ _  hk hw (lv_sub hl [0, 1] rfl)
  · have hk := hk.2 hc
    refine lv_iload_n hx hb d_T_run_5 rfl (lv_at hl 1 rfl) ?_
    refine lv_bipush (v := 100) hx hb d_T_run_6 (by decide) ?_
    refine lv_icmp_le (tgt := 21) hx hb d_T_run_8 (by decide) (fun hc => ?_) (fun hc => ?_)
    · have hk := hk.1 hc
      refine lv_aload_n hx hb d_T_run_21 rfl (lv_at hl 0 rfl) ?_
      refine g_T_cartridge hC hw m_39 d_T_run_22 ?_
      refine g_K_in hC hw m_147 d_T_run_25 ?_
      refine lv_if_ne (tgt := 41) hx hb d_T_run_28 (by decide) (fun hc => ?_) (fun hc => ?_)
      · have hk := hk.1 hc
        refine lv_aload_n hx hb d_T_run_41 rfl (lv_at hl 0 rfl) ?_
        refine g_T_processor hC hw m_47 d_T_run_42 ?_
        refine g_Q_cycles hC hw m_150 d_T_run_45 ?_
        refine lv_topi (fun x10 e_x10 => ?_)
        have hk := hk x10 e_x10
        refine lv_istore_n (lv' := [(2, .int x10), (0, .ref (ad 0)), (1, .int a1)]) hx hb d_T_run_48 rfl hl (by decide) rfl (fun ls hl => ?_)
        refine lv_iconst (v := 0) hx hb d_T_run_49 (by decide) ?_
        refine lv_istore_n (lv' := [(3, .int (0 : Int32)), (2, .int x10), (0, .ref (ad 0)), (1, .int a1)]) hx hb d_T_run_50 rfl hl (by decide) rfl (fun ls hl => ?_)
        have hl1 : ∀ (n : Nat) (H : Heap) (locs : List Loc) (ls : Array Slot) (x11 : Int32) (M12 : Mem), wp_T_run_l1 a1 x10 Q n x11 M12 → Wd D (ceC ad cA) A s H locs M12 → lv_has ls 4 [(0, .ref (ad 0)), (1, .int a1), (2, .int x10), (3, .int x11)] → W p l e rm_T_run s m args below meth c H locs 0 0 QQ (F0 m 51 ls []) := by
          intro n
          induction n with
          | zero => intro H locs ls x11 M12 hk; exact False.elim hk
          | succ n1 ih1 =>
            intro H locs ls x11 M12 hk hw hl
            refine lv_iload_n hx hb d_T_run_51 rfl (lv_at hl 3 rfl) ?_
            refine lv_iload_n hx hb d_T_run_52 rfl (lv_at hl 1 rfl) ?_
            refine lv_icmp_ge (tgt := 99) hx hb d_T_run_53 (by decide) (fun hc => ?_) (fun hc => ?_)
            · have hk := hk.1 hc
              refine lv_aload_n hx hb d_T_run_99 rfl (lv_at hl 0 rfl) ?_
              refine g_T_processor hC hw m_47 d_T_run_100 ?_
              refine g_Q_cycles hC hw m_150 d_T_run_103 ?_
              refine lv_iload_n hx hb d_T_run_106 rfl (lv_at hl 2 rfl) ?_
              refine lv_isub hx hb d_T_run_107 ?_
              exact rt_i hQQ hx hb hr hlk hw ⟨_, rfl, hk⟩ d_T_run_108
            · have hk := hk.2 hc
              refine lv_aload_n hx hb d_T_run_56 rfl (lv_at hl 0 rfl) ?_
              refine g_T_processor hC hw m_47 d_T_run_57 ?_
              refine g_Q_locked hC hw m_151 d_T_run_60 ?_
              have hj2 : ∀ (H : Heap) (locs : List Loc) (ls : Array Slot) (M16 : Mem), wp_T_run_j2 x11 (wp_T_run_l1 a1 x10 Q n1) M16 Q → Wd D (ceC ad cA) A s H locs M16 → lv_has ls 4 [(0, .ref (ad 0)), (1, .int a1), (2, .int x10), (3, .int x11)] → W p l e rm_T_run s m args below meth c H locs 0 0 QQ (F0 m 73 ls []) := by
                intro H locs ls M16 hk hw hl
                unfold wp_T_run_j2 at hk
                refine lv_aload_n hx hb d_T_run_73 rfl (lv_at hl 0 rfl) ?_
                refine g_T_processor hC hw m_47 d_T_run_74 ?_
                refine g_Q_locked hC hw m_151 d_T_run_77 ?_
                refine lv_if_eq (tgt := 93) hx hb d_T_run_80 (by decide) (fun hc => ?_) (fun hc => ?_)
                · have hk := hk.1 hc
                  obtain ⟨x17, e_x17⟩ : ∃ y : Int32, y = x11 + (1 : Int32) := ⟨_, rfl⟩
                  have hk := hk x17 e_x17
                  refine lv_iinc (v := x17) (lv' := [(3, .int x17), (0, .ref (ad 0)), (1, .int a1), (2, .int x10)]) hx hb d_T_run_93 hl (k := 3) rfl (by rw [e_x17]; rfl) (by decide) rfl (fun ls hl => ?_)
                  refine lv_goto (tgt := 51) hx hb d_T_run_96 (by decide) ?_
                  exact ih1 _ _ _ _ _ hk hw (lv_sub hl [1, 2, 3, 0] rfl)
                · have hk := hk.2 hc
                  exact False.elim hk
              refine lv_if_ne (tgt := 73) hx hb d_T_run_63 (by decide) (fun hc => ?_) (fun hc => ?_)
              · have hk := hk.1 hc
                exact hj2 _ _ _ _ hk hw (lv_sub hl [0, 1, 2, 3] rfl)
              · have hk := hk.2 hc
                refine lv_aload_n hx hb d_T_run_66 rfl (lv_at hl 0 rfl) ?_
                refine g_T_processor hC hw m_47 d_T_run_67 ?_
                refine cl_Vv (j := 5) (As := []) hC hw (ct_Q_step _  _ hk) m_152 mw_Q_step rfl ⟨rfl, rfl, Nat.le_of_ble_eq_true rfl, Nat.le_of_ble_eq_true rfl⟩ rfl rfl rfl hl.1 rfl (Nat.le_of_ble_eq_true rfl) d_T_run_70 (fun H locs M18 hk hw => ?_)
                exact hj2 _ _ _ _ hk hw (lv_sub hl [0, 1, 2, 3] rfl)
        obtain ⟨n, hk⟩ := hk
        exact hl1 n _ _ _ _ _ hk hw (lv_sub hl [2, 3, 1, 0] rfl)
      · have hk := hk.2 hc
        exact False.elim hk
    · have hk := hk.2 hc
      exact hj1 _ _ _  hk hw (lv_sub hl [0, 1] rfl)
set_option maxHeartbeats 4000000 in
set_option maxRecDepth 100000 in
theorem ct_T_set {l : Launch} {D : va_G} {cA : ClassId} {ad tb : Nat → Nat} (M0 : Mem) (a1 : Int32) (a2 : Int32) (Q : Int32 → Mem → Prop) (hk : wp_T_set M0 a1 a2 Q) : Ct l y_T_set ws_T_set rm_T_set D (ceC ad cA) cA tb [.ref (ad 0), .int a1, .int a2] M0 (QI Q) := by
  refine Ct.of (own := "TileConsole") (cc := b_T_set) (maxL := 4) (ret := (some .int)) ceC_fix (by decide) rfl rfl (Nat.le_of_ble_eq_true rfl) ?_
  intro p e s m args below meth c A QQ ls H locs hQQ hC hr hlk hw hl
  have hx := hC.1.1
  have hb := hC.1.2.1
  unfold wp_T_set at hk
  have hl : lv_has ls 4 [(0, .ref (ad 0)), (1, .int a1), (2, .int a2)] := hl
  refine lv_iload_n hx hb d_T_set_0 rfl (lv_at hl 1 rfl) ?_
  have hj1 : ∀ (H : Heap) (locs : List Loc) (ls : Array Slot), wp_T_set_j1 Q → Wd D (ceC ad cA) A s H locs M0 → lv_has ls 4 [(0, .ref (ad 0)), (1, .int a1), (2, .int a2)] → W p l e rm_T_set s m args below meth c H locs 0 0 QQ (F0 m 10 ls []) := by
    intro H locs ls  hk hw hl
    unfold wp_T_set_j1 at hk
    exact False.elim hk
  refine lv_if_lt (tgt := 10) hx hb d_T_set_1 (by decide) (fun hc => ?_) (fun hc => ?_)
  · have hk := hk.1 hc
    exact hj1 _ _ _  hk hw (lv_sub hl [0, 1, 2] rfl)
  · have hk := hk.2 hc
    refine lv_iload_n hx hb d_T_set_4 rfl (lv_at hl 1 rfl) ?_
    refine lv_bipush (v := 9) hx hb d_T_set_5 (by decide) ?_
    refine lv_icmp_le (tgt := 20) hx hb d_T_set_7 (by decide) (fun hc => ?_) (fun hc => ?_)
    · have hk := hk.1 hc
      refine lv_aload_n hx hb d_T_set_20 rfl (lv_at hl 0 rfl) ?_
      refine g_T_processor hC hw m_47 d_T_set_21 ?_
      refine lv_iload_n hx hb d_T_set_24 rfl (lv_at hl 1 rfl) ?_
      refine cl_Vip (j := 5) (As := [.int a1]) hC hw (ct_Q_valueOf _ _ _ hk) m_153 mw_Q_valueOf rfl ⟨rfl, rfl, Nat.le_of_ble_eq_true rfl, Nat.le_of_ble_eq_true rfl⟩ rfl rfl rfl hl.1 rfl (Nat.le_of_ble_eq_true rfl) d_T_set_25 (fun H locs x3 hk hw => ?_)
      refine lv_istore_n (lv' := [(3, .int x3), (0, .ref (ad 0)), (1, .int a1), (2, .int a2)]) hx hb d_T_set_28 rfl hl (by decide) rfl (fun ls hl => ?_)
      refine lv_aload_n hx hb d_T_set_29 rfl (lv_at hl 1 rfl) ?_
      refine g_T_processor hC hw m_47 d_T_set_30 ?_
      refine lv_iload_n hx hb d_T_set_33 rfl (lv_at hl 2 rfl) ?_
      refine lv_iload_n hx hb d_T_set_34 rfl (lv_at hl 3 rfl) ?_
      refine cl_Vv (j := 5) (As := [.int a1, .int a2]) hC hw (ct_Q_put _ _ _ _ hk) m_154 mw_Q_put rfl ⟨rfl, rfl, Nat.le_of_ble_eq_true rfl, Nat.le_of_ble_eq_true rfl⟩ rfl rfl rfl hl.1 rfl (Nat.le_of_ble_eq_true rfl) d_T_set_35 (fun H locs M4 hk hw => ?_)
      refine lv_iload_n hx hb d_T_set_38 rfl (lv_at hl 0 rfl) ?_
      exact rt_i hQQ hx hb hr hlk hw ⟨_, rfl, hk⟩ d_T_set_39
    · have hk := hk.2 hc
      exact hj1 _ _ _  hk hw (lv_sub hl [0, 1, 2] rfl)
set_option maxHeartbeats 4000000 in
set_option maxRecDepth 100000 in
theorem ct_T_register {l : Launch} {D : va_G} {cA : ClassId} {ad tb : Nat → Nat} (M0 : Mem) (a1 : Int32) (Q : Int32 → Prop) (hk : wp_T_register M0 a1 Q) : Ct l y_T_register ws_T_register rm_T_register D (ceC ad cA) cA tb [.ref (ad 0), .int a1] M0 (QIp M0 Q) := by
  refine Ct.of (own := "TileConsole") (cc := b_T_register) (maxL := 2) (ret := (some .int)) ceC_fix (by decide) rfl rfl (Nat.le_of_ble_eq_true rfl) ?_
  intro p e s m args below meth c A QQ ls H locs hQQ hC hr hlk hw hl
  have hx := hC.1.1
  have hb := hC.1.2.1
  unfold wp_T_register at hk
  have hl : lv_has ls 2 [(0, .ref (ad 0)), (1, .int a1)] := hl
  refine lv_iload_n hx hb d_T_register_0 rfl (lv_at hl 1 rfl) ?_
  have hj1 : ∀ (H : Heap) (locs : List Loc) (ls : Array Slot), wp_T_register_j1 Q → Wd D (ceC ad cA) A s H locs M0 → lv_has ls 2 [(0, .ref (ad 0)), (1, .int a1)] → W p l e rm_T_register s m args below meth c H locs 0 0 QQ (F0 m 10 ls []) := by
    intro H locs ls  hk hw hl
    unfold wp_T_register_j1 at hk
    exact False.elim hk
  refine lv_if_lt (tgt := 10) hx hb d_T_register_1 (by decide) (fun hc => ?_) (fun hc => ?_)
  · have hk := hk.1 hc
    exact hj1 _ _ _  hk hw (lv_sub hl [0, 1] rfl)
  · have hk := hk.2 hc
    refine lv_iload_n hx hb d_T_register_4 rfl (lv_at hl 1 rfl) ?_
    refine lv_bipush (v := 9) hx hb d_T_register_5 (by decide) ?_
    refine lv_icmp_le (tgt := 20) hx hb d_T_register_7 (by decide) (fun hc => ?_) (fun hc => ?_)
    · have hk := hk.1 hc
      refine lv_aload_n hx hb d_T_register_20 rfl (lv_at hl 0 rfl) ?_
      refine g_T_processor hC hw m_47 d_T_register_21 ?_
      refine lv_iload_n hx hb d_T_register_24 rfl (lv_at hl 1 rfl) ?_
      refine cl_Vip (j := 5) (As := [.int a1]) hC hw (ct_Q_valueOf _ _ _ hk) m_153 mw_Q_valueOf rfl ⟨rfl, rfl, Nat.le_of_ble_eq_true rfl, Nat.le_of_ble_eq_true rfl⟩ rfl rfl rfl hl.1 rfl (Nat.le_of_ble_eq_true rfl) d_T_register_25 (fun H locs x2 hk hw => ?_)
      exact rt_i hQQ hx hb hr hlk hw ⟨rfl, _, rfl, hk⟩ d_T_register_28
    · have hk := hk.2 hc
      exact hj1 _ _ _  hk hw (lv_sub hl [0, 1] rfl)
set_option maxHeartbeats 4000000 in
set_option maxRecDepth 100000 in
theorem ct_T_read {l : Launch} {D : va_G} {cA : ClassId} {ad tb : Nat → Nat} (M0 : Mem) (a1 : Int32) (Q : Int32 → Prop) (hk : wp_T_read M0 a1 Q) : Ct l y_T_read ws_T_read rm_T_read D (ceC ad cA) cA tb [.ref (ad 0), .int a1] M0 (QIp M0 Q) := by
  refine Ct.of (own := "TileConsole") (cc := b_T_read) (maxL := 2) (ret := (some .int)) ceC_fix (by decide) rfl rfl (Nat.le_of_ble_eq_true rfl) ?_
  intro p e s m args below meth c A QQ ls H locs hQQ hC hr hlk hw hl
  have hx := hC.1.1
  have hb := hC.1.2.1
  unfold wp_T_read at hk
  have hl : lv_has ls 2 [(0, .ref (ad 0)), (1, .int a1)] := hl
  refine lv_iload_n hx hb d_T_read_0 rfl (lv_at hl 1 rfl) ?_
  have hj1 : ∀ (H : Heap) (locs : List Loc) (ls : Array Slot), wp_T_read_j1 Q → Wd D (ceC ad cA) A s H locs M0 → lv_has ls 2 [(0, .ref (ad 0)), (1, .int a1)] → W p l e rm_T_read s m args below meth c H locs 0 0 QQ (F0 m 10 ls []) := by
    intro H locs ls  hk hw hl
    unfold wp_T_read_j1 at hk
    exact False.elim hk
  refine lv_if_lt (tgt := 10) hx hb d_T_read_1 (by decide) (fun hc => ?_) (fun hc => ?_)
  · have hk := hk.1 hc
    exact hj1 _ _ _  hk hw (lv_sub hl [0, 1] rfl)
  · have hk := hk.2 hc
    refine lv_iload_n hx hb d_T_read_4 rfl (lv_at hl 1 rfl) ?_
    refine lv_ldc (v := (65535 : Int32)) hx hb hC.1.2.2.2.1 (hC.1.2.2.2.2 _ m_155) d_T_read_5 ?_
    refine lv_icmp_le (tgt := 20) hx hb d_T_read_7 (by decide) (fun hc => ?_) (fun hc => ?_)
    · have hk := hk.1 hc
      refine lv_aload_n hx hb d_T_read_20 rfl (lv_at hl 0 rfl) ?_
      refine g_T_memory hC hw m_43 d_T_read_21 ?_
      refine lv_iload_n hx hb d_T_read_24 rfl (lv_at hl 1 rfl) ?_
      refine cl_Vip (j := 3) (As := [.int a1]) hC hw (ct_Y_load _ _ _ hk) m_156 mw_Y_load rfl ⟨rfl, rfl, Nat.le_of_ble_eq_true rfl, Nat.le_of_ble_eq_true rfl⟩ rfl rfl rfl hl.1 rfl (Nat.le_of_ble_eq_true rfl) d_T_read_25 (fun H locs x2 hk hw => ?_)
      exact rt_i hQQ hx hb hr hlk hw ⟨rfl, _, rfl, hk⟩ d_T_read_28
    · have hk := hk.2 hc
      exact hj1 _ _ _  hk hw (lv_sub hl [0, 1] rfl)
set_option maxHeartbeats 4000000 in
set_option maxRecDepth 100000 in
theorem ct_T_write {l : Launch} {D : va_G} {cA : ClassId} {ad tb : Nat → Nat} (M0 : Mem) (a1 : Int32) (a2 : Int32) (a3 : Int64) (Q : Int32 → Mem → Prop) (hk : wp_T_write M0 a1 a2 a3 Q) : Ct l y_T_write ws_T_write rm_T_write D (ceC ad cA) cA tb [.ref (ad 0), .int a1, .int a2, .long a3] M0 (QI Q) := by
  refine Ct.of (own := "TileConsole") (cc := b_T_write) (maxL := 6) (ret := (some .int)) ceC_fix (by decide) rfl rfl (Nat.le_of_ble_eq_true rfl) ?_
  intro p e s m args below meth c A QQ ls H locs hQQ hC hr hlk hw hl
  have hx := hC.1.1
  have hb := hC.1.2.1
  unfold wp_T_write at hk
  have hl : lv_has ls 6 [(0, .ref (ad 0)), (1, .int a1), (2, .int a2), (3, .long a3)] := hl
  refine lv_iload_n hx hb d_T_write_0 rfl (lv_at hl 2 rfl) ?_
  refine lv_iconst (v := 1) hx hb d_T_write_1 (by decide) ?_
  have hj1 : ∀ (H : Heap) (locs : List Loc) (ls : Array Slot), wp_T_write_j1 Q → Wd D (ceC ad cA) A s H locs M0 → lv_has ls 6 [(0, .ref (ad 0)), (1, .int a1), (2, .int a2), (3, .long a3)] → W p l e rm_T_write s m args below meth c H locs 0 0 QQ (F0 m 11 ls []) := by
    intro H locs ls  hk hw hl
    unfold wp_T_write_j1 at hk
    exact False.elim hk
  refine lv_icmp_lt (tgt := 11) hx hb d_T_write_2 (by decide) (fun hc => ?_) (fun hc => ?_)
  · have hk := hk.1 hc
    exact hj1 _ _ _  hk hw (lv_sub hl [0, 1, 2, 3] rfl)
  · have hk := hk.2 hc
    refine lv_iload_n hx hb d_T_write_5 rfl (lv_at hl 2 rfl) ?_
    refine lv_bipush (v := 8) hx hb d_T_write_6 (by decide) ?_
    refine lv_icmp_le (tgt := 21) hx hb d_T_write_8 (by decide) (fun hc => ?_) (fun hc => ?_)
    · have hk := hk.1 hc
      refine lv_iload_n hx hb d_T_write_21 rfl (lv_at hl 1 rfl) ?_
      have hj2 : ∀ (H : Heap) (locs : List Loc) (ls : Array Slot), wp_T_write_j2 Q → Wd D (ceC ad cA) A s H locs M0 → lv_has ls 6 [(0, .ref (ad 0)), (1, .int a1), (2, .int a2), (3, .long a3)] → W p l e rm_T_write s m args below meth c H locs 0 0 QQ (F0 m 33 ls []) := by
        intro H locs ls  hk hw hl
        unfold wp_T_write_j2 at hk
        exact False.elim hk
      refine lv_if_lt (tgt := 33) hx hb d_T_write_22 (by decide) (fun hc => ?_) (fun hc => ?_)
      · have hk := hk.1 hc
        exact hj2 _ _ _  hk hw (lv_sub hl [0, 1, 2, 3] rfl)
      · have hk := hk.2 hc
        refine lv_iload_n hx hb d_T_write_25 rfl (lv_at hl 1 rfl) ?_
        refine lv_ldc (v := (65536 : Int32)) hx hb hC.1.2.2.2.1 (hC.1.2.2.2.2 _ m_157) d_T_write_26 ?_
        refine lv_iload_n hx hb d_T_write_28 rfl (lv_at hl 2 rfl) ?_
        refine lv_isub hx hb d_T_write_29 ?_
        refine lv_icmp_le (tgt := 43) hx hb d_T_write_30 (by decide) (fun hc => ?_) (fun hc => ?_)
        · have hk := hk.1 hc
          refine lv_iconst (v := 0) hx hb d_T_write_43 (by decide) ?_
          refine lv_istore (lv' := [(5, .int (0 : Int32)), (0, .ref (ad 0)), (1, .int a1), (2, .int a2), (3, .long a3)]) hx hb d_T_write_44 hl (by decide) rfl (fun ls hl => ?_)
          have hl1 : ∀ (n : Nat) (H : Heap) (locs : List Loc) (ls : Array Slot) (x16 : Int32) (M17 : Mem), wp_T_write_l1 a1 a2 a3 Q n x16 M17 → Wd D (ceC ad cA) A s H locs M17 → lv_has ls 6 [(0, .ref (ad 0)), (1, .int a1), (2, .int a2), (3, .long a3), (5, .int x16)] → W p l e rm_T_write s m args below meth c H locs 0 0 QQ (F0 m 46 ls []) := by
            intro n
            induction n with
            | zero => intro H locs ls x16 M17 hk; exact False.elim hk
            | succ n1 ih1 =>
              intro H locs ls x16 M17 hk hw hl
              refine lv_iload hx hb d_T_write_46 (lv_at hl 4 rfl) ?_
              refine lv_iload_n hx hb d_T_write_48 rfl (lv_at hl 2 rfl) ?_
              refine lv_icmp_ge (tgt := 75) hx hb d_T_write_49 (by decide) (fun hc => ?_) (fun hc => ?_)
              · have hk := hk.1 hc
                refine lv_iload_n hx hb d_T_write_75 rfl (lv_at hl 2 rfl) ?_
                exact rt_i hQQ hx hb hr hlk hw ⟨_, rfl, hk⟩ d_T_write_76
              · have hk := hk.2 hc
                refine lv_aload_n hx hb d_T_write_52 rfl (lv_at hl 0 rfl) ?_
                refine g_T_memory hC hw m_43 d_T_write_53 ?_
                refine lv_iload_n hx hb d_T_write_56 rfl (lv_at hl 1 rfl) ?_
                refine lv_iload hx hb d_T_write_57 (lv_at hl 4 rfl) ?_
                refine lv_iadd hx hb d_T_write_59 ?_
                refine lv_lload_n hx hb d_T_write_60 rfl (lv_at hl 3 rfl) ?_
                refine lv_iload hx hb d_T_write_61 (lv_at hl 4 rfl) ?_
                refine cl_Sip (As := [.long a3, .int x16]) hC hw (ct_T_octetOf _ _ _ _ hk) m_145 mw_T_octetOf rfl ⟨rfl, rfl, Nat.le_of_ble_eq_true rfl, Nat.le_of_ble_eq_true rfl⟩ rfl hl.1 rfl (Nat.le_of_ble_eq_true rfl) d_T_write_63 (fun H locs x18 hk hw => ?_)
                refine cl_Vv (j := 3) (As := [.int (a1 + x16), .int x18]) hC hw (ct_Y_store _ _ _ _ hk) m_158 mw_Y_store rfl ⟨rfl, rfl, Nat.le_of_ble_eq_true rfl, Nat.le_of_ble_eq_true rfl⟩ rfl rfl rfl hl.1 rfl (Nat.le_of_ble_eq_true rfl) d_T_write_66 (fun H locs M19 hk hw => ?_)
                obtain ⟨x20, e_x20⟩ : ∃ y : Int32, y = x16 + (1 : Int32) := ⟨_, rfl⟩
                have hk := hk x20 e_x20
                refine lv_iinc (v := x20) (lv' := [(5, .int x20), (0, .ref (ad 0)), (1, .int a1), (2, .int a2), (3, .long a3)]) hx hb d_T_write_69 hl (k := 4) rfl (by rw [e_x20]; rfl) (by decide) rfl (fun ls hl => ?_)
                refine lv_goto (tgt := 46) hx hb d_T_write_72 (by decide) ?_
                exact ih1 _ _ _ _ _ hk hw (lv_sub hl [1, 2, 3, 4, 0] rfl)
          obtain ⟨n, hk⟩ := hk
          exact hl1 n _ _ _ _ _ hk hw (lv_sub hl [1, 2, 3, 4, 0] rfl)
        · have hk := hk.2 hc
          exact hj2 _ _ _  hk hw (lv_sub hl [0, 1, 2, 3] rfl)
    · have hk := hk.2 hc
      exact hj1 _ _ _  hk hw (lv_sub hl [0, 1, 2, 3] rfl)
set_option maxHeartbeats 4000000 in
set_option maxRecDepth 100000 in
theorem ct_T_keys {l : Launch} {D : va_G} {cA : ClassId} {ad tb : Nat → Nat} (M0 : Mem) (a1 : Int32) (Q : Int32 → Mem → Prop) (hk : wp_T_keys M0 a1 Q) : Ct l y_T_keys ws_T_keys rm_T_keys D (ceC ad cA) cA tb [.ref (ad 0), .int a1] M0 (QI Q) := by
  refine Ct.of (own := "TileConsole") (cc := b_T_keys) (maxL := 2) (ret := (some .int)) ceC_fix (by decide) rfl rfl (Nat.le_of_ble_eq_true rfl) ?_
  intro p e s m args below meth c A QQ ls H locs hQQ hC hr hlk hw hl
  have hx := hC.1.1
  have hb := hC.1.2.1
  unfold wp_T_keys at hk
  have hl : lv_has ls 2 [(0, .ref (ad 0)), (1, .int a1)] := hl
  refine lv_iload_n hx hb d_T_keys_0 rfl (lv_at hl 1 rfl) ?_
  have hj1 : ∀ (H : Heap) (locs : List Loc) (ls : Array Slot), wp_T_keys_j1 Q → Wd D (ceC ad cA) A s H locs M0 → lv_has ls 2 [(0, .ref (ad 0)), (1, .int a1)] → W p l e rm_T_keys s m args below meth c H locs 0 0 QQ (F0 m 11 ls []) := by
    intro H locs ls  hk hw hl
    unfold wp_T_keys_j1 at hk
    exact False.elim hk
  refine lv_if_lt (tgt := 11) hx hb d_T_keys_1 (by decide) (fun hc => ?_) (fun hc => ?_)
  · have hk := hk.1 hc
    exact hj1 _ _ _  hk hw (lv_sub hl [0, 1] rfl)
  · have hk := hk.2 hc
    refine lv_iload_n hx hb d_T_keys_4 rfl (lv_at hl 1 rfl) ?_
    refine lv_sipush (v := 255) hx hb d_T_keys_5 (by decide) ?_
    refine lv_icmp_le (tgt := 21) hx hb d_T_keys_8 (by decide) (fun hc => ?_) (fun hc => ?_)
    · have hk := hk.1 hc
      refine lv_aload_n hx hb d_T_keys_21 rfl (lv_at hl 0 rfl) ?_
      refine g_T_ports hC hw m_41 d_T_keys_22 ?_
      refine lv_iload_n hx hb d_T_keys_25 rfl (lv_at hl 1 rfl) ?_
      refine cl_Vi (j := 2) (As := [.int a1]) hC hw (ct_P_press _ _ _ hk) m_159 mw_P_press rfl ⟨rfl, rfl, Nat.le_of_ble_eq_true rfl, Nat.le_of_ble_eq_true rfl⟩ rfl rfl rfl hl.1 rfl (Nat.le_of_ble_eq_true rfl) d_T_keys_26 (fun H locs x3 M4 hk hw => ?_)
      exact rt_i hQQ hx hb hr hlk hw ⟨_, rfl, hk⟩ d_T_keys_29
    · have hk := hk.2 hc
      exact hj1 _ _ _  hk hw (lv_sub hl [0, 1] rfl)
set_option maxHeartbeats 4000000 in
set_option maxRecDepth 100000 in
theorem ct_T_row {l : Launch} {D : va_G} {cA : ClassId} {ad tb : Nat → Nat} (M0 : Mem) (a1 : Int32) (Q : Int32 → Mem → Prop) (hk : wp_T_row M0 a1 Q) : Ct l y_T_row ws_T_row rm_T_row D (ceC ad cA) cA tb [.ref (ad 0), .int a1] M0 (QI Q) := by
  refine Ct.of (own := "TileConsole") (cc := b_T_row) (maxL := 2) (ret := (some .int)) ceC_fix (by decide) rfl rfl (Nat.le_of_ble_eq_true rfl) ?_
  intro p e s m args below meth c A QQ ls H locs hQQ hC hr hlk hw hl
  have hx := hC.1.1
  have hb := hC.1.2.1
  unfold wp_T_row at hk
  have hl : lv_has ls 2 [(0, .ref (ad 0)), (1, .int a1)] := hl
  refine lv_iload_n hx hb d_T_row_0 rfl (lv_at hl 1 rfl) ?_
  have hj1 : ∀ (H : Heap) (locs : List Loc) (ls : Array Slot), wp_T_row_j1 Q → Wd D (ceC ad cA) A s H locs M0 → lv_has ls 2 [(0, .ref (ad 0)), (1, .int a1)] → W p l e rm_T_row s m args below meth c H locs 0 0 QQ (F0 m 11 ls []) := by
    intro H locs ls  hk hw hl
    unfold wp_T_row_j1 at hk
    exact False.elim hk
  refine lv_if_lt (tgt := 11) hx hb d_T_row_1 (by decide) (fun hc => ?_) (fun hc => ?_)
  · have hk := hk.1 hc
    exact hj1 _ _ _  hk hw (lv_sub hl [0, 1] rfl)
  · have hk := hk.2 hc
    refine lv_iload_n hx hb d_T_row_4 rfl (lv_at hl 1 rfl) ?_
    refine lv_sipush (v := 144) hx hb d_T_row_5 (by decide) ?_
    refine lv_icmp_lt (tgt := 21) hx hb d_T_row_8 (by decide) (fun hc => ?_) (fun hc => ?_)
    · have hk := hk.1 hc
      refine lv_aload_n hx hb d_T_row_21 rfl (lv_at hl 0 rfl) ?_
      refine g_T_screen hC hw m_45 d_T_row_22 ?_
      refine lv_iload_n hx hb d_T_row_25 rfl (lv_at hl 1 rfl) ?_
      refine cl_Vi (j := 4) (As := [.int a1]) hC hw (ct_S_make _ _ _ hk) m_160 mw_S_make rfl ⟨rfl, rfl, Nat.le_of_ble_eq_true rfl, Nat.le_of_ble_eq_true rfl⟩ rfl rfl rfl hl.1 rfl (Nat.le_of_ble_eq_true rfl) d_T_row_26 (fun H locs x3 M4 hk hw => ?_)
      exact rt_i hQQ hx hb hr hlk hw ⟨_, rfl, hk⟩ d_T_row_29
    · have hk := hk.2 hc
      exact hj1 _ _ _  hk hw (lv_sub hl [0, 1] rfl)
set_option maxHeartbeats 4000000 in
set_option maxRecDepth 100000 in
theorem ct_T_pixel {l : Launch} {D : va_G} {cA : ClassId} {ad tb : Nat → Nat} (M0 : Mem) (a1 : Int32) (Q : Int32 → Prop) (hk : wp_T_pixel M0 a1 Q) : Ct l y_T_pixel ws_T_pixel rm_T_pixel D (ceC ad cA) cA tb [.ref (ad 0), .int a1] M0 (QIp M0 Q) := by
  refine Ct.of (own := "TileConsole") (cc := b_T_pixel) (maxL := 2) (ret := (some .int)) ceC_fix (by decide) rfl rfl (Nat.le_of_ble_eq_true rfl) ?_
  intro p e s m args below meth c A QQ ls H locs hQQ hC hr hlk hw hl
  have hx := hC.1.1
  have hb := hC.1.2.1
  unfold wp_T_pixel at hk
  have hl : lv_has ls 2 [(0, .ref (ad 0)), (1, .int a1)] := hl
  refine lv_iload_n hx hb d_T_pixel_0 rfl (lv_at hl 1 rfl) ?_
  have hj1 : ∀ (H : Heap) (locs : List Loc) (ls : Array Slot), wp_T_pixel_j1 Q → Wd D (ceC ad cA) A s H locs M0 → lv_has ls 2 [(0, .ref (ad 0)), (1, .int a1)] → W p l e rm_T_pixel s m args below meth c H locs 0 0 QQ (F0 m 11 ls []) := by
    intro H locs ls  hk hw hl
    unfold wp_T_pixel_j1 at hk
    exact False.elim hk
  refine lv_if_lt (tgt := 11) hx hb d_T_pixel_1 (by decide) (fun hc => ?_) (fun hc => ?_)
  · have hk := hk.1 hc
    exact hj1 _ _ _  hk hw (lv_sub hl [0, 1] rfl)
  · have hk := hk.2 hc
    refine lv_iload_n hx hb d_T_pixel_4 rfl (lv_at hl 1 rfl) ?_
    refine lv_sipush (v := 160) hx hb d_T_pixel_5 (by decide) ?_
    refine lv_icmp_lt (tgt := 21) hx hb d_T_pixel_8 (by decide) (fun hc => ?_) (fun hc => ?_)
    · have hk := hk.1 hc
      refine lv_aload_n hx hb d_T_pixel_21 rfl (lv_at hl 0 rfl) ?_
      refine g_T_screen hC hw m_45 d_T_pixel_22 ?_
      refine g_S_pixels hC hw m_161 d_T_pixel_25 ?_
      refine lv_iload_n hx hb d_T_pixel_28 rfl (lv_at hl 1 rfl) ?_
      obtain ⟨hin, hk⟩ := hk
      refine ld_13 hC hw hin rfl d_T_pixel_29 ?_
      exact rt_i hQQ hx hb hr hlk hw ⟨rfl, _, rfl, hk⟩ d_T_pixel_30
    · have hk := hk.2 hc
      exact hj1 _ _ _  hk hw (lv_sub hl [0, 1] rfl)
set_option maxHeartbeats 4000000 in
set_option maxRecDepth 100000 in
theorem ct_T_count {l : Launch} {D : va_G} {cA : ClassId} {ad tb : Nat → Nat} (M0 : Mem) (a1 : Int32) (Q : Int32 → Prop) (hk : wp_T_count M0 a1 Q) : Ct l y_T_count ws_T_count rm_T_count D (ceC ad cA) cA tb [.ref (ad 0), .int a1] M0 (QIp M0 Q) := by
  refine Ct.of (own := "TileConsole") (cc := b_T_count) (maxL := 2) (ret := (some .int)) ceC_fix (by decide) rfl rfl (Nat.le_of_ble_eq_true rfl) ?_
  intro p e s m args below meth c A QQ ls H locs hQQ hC hr hlk hw hl
  have hx := hC.1.1
  have hb := hC.1.2.1
  unfold wp_T_count at hk
  have hl : lv_has ls 2 [(0, .ref (ad 0)), (1, .int a1)] := hl
  refine lv_iload_n hx hb d_T_count_0 rfl (lv_at hl 1 rfl) ?_
  by_cases hs1 : (a1 = (0 : Int32))
  · have hk := hk.1 hs1
    refine lv_tableIn (x := a1) (off := 51) (tgt := 52) hx hb d_T_count_1 (by rw [hs1]; decide) (by rw [hs1]; decide) (by rw [hs1]; decide) (by decide) ?_
    refine lv_aload_n hx hb d_T_count_52 rfl (lv_at hl 0 rfl) ?_
    refine g_T_processor hC hw m_47 d_T_count_53 ?_
    refine g_Q_cycles hC hw m_150 d_T_count_56 ?_
    exact rt_i hQQ hx hb hr hlk hw ⟨rfl, _, rfl, hk⟩ d_T_count_59
  · have hk := hk.2 hs1
    by_cases hs2 : (a1 = (1 : Int32))
    · have hk := hk.1 hs2
      refine lv_tableIn (x := a1) (off := 59) (tgt := 60) hx hb d_T_count_1 (by rw [hs2]; decide) (by rw [hs2]; decide) (by rw [hs2]; decide) (by decide) ?_
      refine lv_aload_n hx hb d_T_count_60 rfl (lv_at hl 0 rfl) ?_
      refine g_T_processor hC hw m_47 d_T_count_61 ?_
      refine g_Q_done hC hw m_162 d_T_count_64 ?_
      exact rt_i hQQ hx hb hr hlk hw ⟨rfl, _, rfl, hk⟩ d_T_count_67
    · have hk := hk.2 hs2
      by_cases hs3 : (a1 = (2 : Int32))
      · have hk := hk.1 hs3
        refine lv_tableIn (x := a1) (off := 67) (tgt := 68) hx hb d_T_count_1 (by rw [hs3]; decide) (by rw [hs3]; decide) (by rw [hs3]; decide) (by decide) ?_
        refine lv_aload_n hx hb d_T_count_68 rfl (lv_at hl 0 rfl) ?_
        refine g_T_processor hC hw m_47 d_T_count_69 ?_
        refine g_Q_ime hC hw m_163 d_T_count_72 ?_
        have hj1 : ∀ (H : Heap) (locs : List Loc) (ls : Array Slot) (x2 : Int32), wp_T_count_j1 x2 Q → Wd D (ceC ad cA) A s H locs M0 → lv_has ls 2 [(0, .ref (ad 0)), (1, .int a1)] → W p l e rm_T_count s m args below meth c H locs 0 0 QQ (F0 m 83 ls [.int x2]) := by
          intro H locs ls x2 hk hw hl
          unfold wp_T_count_j1 at hk
          exact rt_i hQQ hx hb hr hlk hw ⟨rfl, _, rfl, hk⟩ d_T_count_83
        refine lv_if_eq (tgt := 82) hx hb d_T_count_75 (by decide) (fun hc => ?_) (fun hc => ?_)
        · have hk := hk.1 hc
          refine lv_iconst (v := 0) hx hb d_T_count_82 (by decide) ?_
          exact hj1 _ _ _ _ hk hw (lv_sub hl [0, 1] rfl)
        · have hk := hk.2 hc
          refine lv_iconst (v := 1) hx hb d_T_count_78 (by decide) ?_
          refine lv_goto (tgt := 83) hx hb d_T_count_79 (by decide) ?_
          exact hj1 _ _ _ _ hk hw (lv_sub hl [0, 1] rfl)
      · have hk := hk.2 hs3
        by_cases hs4 : (a1 = (3 : Int32))
        · have hk := hk.1 hs4
          refine lv_tableIn (x := a1) (off := 83) (tgt := 84) hx hb d_T_count_1 (by rw [hs4]; decide) (by rw [hs4]; decide) (by rw [hs4]; decide) (by decide) ?_
          refine lv_aload_n hx hb d_T_count_84 rfl (lv_at hl 0 rfl) ?_
          refine g_T_processor hC hw m_47 d_T_count_85 ?_
          refine g_Q_halted hC hw m_164 d_T_count_88 ?_
          have hj2 : ∀ (H : Heap) (locs : List Loc) (ls : Array Slot) (x4 : Int32), wp_T_count_j2 x4 Q → Wd D (ceC ad cA) A s H locs M0 → lv_has ls 2 [(0, .ref (ad 0)), (1, .int a1)] → W p l e rm_T_count s m args below meth c H locs 0 0 QQ (F0 m 99 ls [.int x4]) := by
            intro H locs ls x4 hk hw hl
            unfold wp_T_count_j2 at hk
            exact rt_i hQQ hx hb hr hlk hw ⟨rfl, _, rfl, hk⟩ d_T_count_99
          refine lv_if_eq (tgt := 98) hx hb d_T_count_91 (by decide) (fun hc => ?_) (fun hc => ?_)
          · have hk := hk.1 hc
            refine lv_iconst (v := 0) hx hb d_T_count_98 (by decide) ?_
            exact hj2 _ _ _ _ hk hw (lv_sub hl [0, 1] rfl)
          · have hk := hk.2 hc
            refine lv_iconst (v := 1) hx hb d_T_count_94 (by decide) ?_
            refine lv_goto (tgt := 99) hx hb d_T_count_95 (by decide) ?_
            exact hj2 _ _ _ _ hk hw (lv_sub hl [0, 1] rfl)
        · have hk := hk.2 hs4
          by_cases hs5 : (a1 = (4 : Int32))
          · have hk := hk.1 hs5
            refine lv_tableIn (x := a1) (off := 99) (tgt := 100) hx hb d_T_count_1 (by rw [hs5]; decide) (by rw [hs5]; decide) (by rw [hs5]; decide) (by decide) ?_
            refine lv_aload_n hx hb d_T_count_100 rfl (lv_at hl 0 rfl) ?_
            refine g_T_processor hC hw m_47 d_T_count_101 ?_
            refine g_Q_locked hC hw m_151 d_T_count_104 ?_
            have hj3 : ∀ (H : Heap) (locs : List Loc) (ls : Array Slot) (x6 : Int32), wp_T_count_j3 x6 Q → Wd D (ceC ad cA) A s H locs M0 → lv_has ls 2 [(0, .ref (ad 0)), (1, .int a1)] → W p l e rm_T_count s m args below meth c H locs 0 0 QQ (F0 m 115 ls [.int x6]) := by
              intro H locs ls x6 hk hw hl
              unfold wp_T_count_j3 at hk
              exact rt_i hQQ hx hb hr hlk hw ⟨rfl, _, rfl, hk⟩ d_T_count_115
            refine lv_if_eq (tgt := 114) hx hb d_T_count_107 (by decide) (fun hc => ?_) (fun hc => ?_)
            · have hk := hk.1 hc
              refine lv_iconst (v := 0) hx hb d_T_count_114 (by decide) ?_
              exact hj3 _ _ _ _ hk hw (lv_sub hl [0, 1] rfl)
            · have hk := hk.2 hc
              refine lv_iconst (v := 1) hx hb d_T_count_110 (by decide) ?_
              refine lv_goto (tgt := 115) hx hb d_T_count_111 (by decide) ?_
              exact hj3 _ _ _ _ hk hw (lv_sub hl [0, 1] rfl)
          · have hk := hk.2 hs5
            by_cases hs6 : (a1 = (5 : Int32))
            · have hk := hk.1 hs6
              refine lv_tableIn (x := a1) (off := 115) (tgt := 116) hx hb d_T_count_1 (by rw [hs6]; decide) (by rw [hs6]; decide) (by rw [hs6]; decide) (by decide) ?_
              refine lv_aload_n hx hb d_T_count_116 rfl (lv_at hl 0 rfl) ?_
              refine g_T_cartridge hC hw m_39 d_T_count_117 ?_
              refine g_K_in hC hw m_147 d_T_count_120 ?_
              have hj4 : ∀ (H : Heap) (locs : List Loc) (ls : Array Slot) (x8 : Int32), wp_T_count_j4 x8 Q → Wd D (ceC ad cA) A s H locs M0 → lv_has ls 2 [(0, .ref (ad 0)), (1, .int a1)] → W p l e rm_T_count s m args below meth c H locs 0 0 QQ (F0 m 137 ls [.int x8]) := by
                intro H locs ls x8 hk hw hl
                unfold wp_T_count_j4 at hk
                exact rt_i hQQ hx hb hr hlk hw ⟨rfl, _, rfl, hk⟩ d_T_count_137
              refine lv_if_eq (tgt := 136) hx hb d_T_count_123 (by decide) (fun hc => ?_) (fun hc => ?_)
              · have hk := hk.1 hc
                refine lv_iconst (v := 0) hx hb d_T_count_136 (by decide) ?_
                exact hj4 _ _ _ _ hk hw (lv_sub hl [0, 1] rfl)
              · have hk := hk.2 hc
                refine lv_aload_n hx hb d_T_count_126 rfl (lv_at hl 0 rfl) ?_
                refine g_T_cartridge hC hw m_39 d_T_count_127 ?_
                refine g_K_highBank hC hw m_165 d_T_count_130 ?_
                refine lv_goto (tgt := 137) hx hb d_T_count_133 (by decide) ?_
                exact hj4 _ _ _ _ hk hw (lv_sub hl [0, 1] rfl)
            · have hk := hk.2 hs6
              by_cases hs7 : (a1 = (6 : Int32))
              · have hk := hk.1 hs7
                refine lv_tableIn (x := a1) (off := 137) (tgt := 138) hx hb d_T_count_1 (by rw [hs7]; decide) (by rw [hs7]; decide) (by rw [hs7]; decide) (by decide) ?_
                refine lv_aload_n hx hb d_T_count_138 rfl (lv_at hl 0 rfl) ?_
                refine g_T_cartridge hC hw m_39 d_T_count_139 ?_
                refine g_K_in hC hw m_147 d_T_count_142 ?_
                have hj5 : ∀ (H : Heap) (locs : List Loc) (ls : Array Slot) (x10 : Int32), wp_T_count_j5 x10 Q → Wd D (ceC ad cA) A s H locs M0 → lv_has ls 2 [(0, .ref (ad 0)), (1, .int a1)] → W p l e rm_T_count s m args below meth c H locs 0 0 QQ (F0 m 159 ls [.int x10]) := by
                  intro H locs ls x10 hk hw hl
                  unfold wp_T_count_j5 at hk
                  exact rt_i hQQ hx hb hr hlk hw ⟨rfl, _, rfl, hk⟩ d_T_count_159
                refine lv_if_eq (tgt := 158) hx hb d_T_count_145 (by decide) (fun hc => ?_) (fun hc => ?_)
                · have hk := hk.1 hc
                  refine lv_iconst (v := 0) hx hb d_T_count_158 (by decide) ?_
                  exact hj5 _ _ _ _ hk hw (lv_sub hl [0, 1] rfl)
                · have hk := hk.2 hc
                  refine lv_aload_n hx hb d_T_count_148 rfl (lv_at hl 0 rfl) ?_
                  refine g_T_cartridge hC hw m_39 d_T_count_149 ?_
                  refine g_K_ramBank hC hw m_166 d_T_count_152 ?_
                  refine lv_goto (tgt := 159) hx hb d_T_count_155 (by decide) ?_
                  exact hj5 _ _ _ _ hk hw (lv_sub hl [0, 1] rfl)
              · have hk := hk.2 hs7
                by_cases hs8 : (a1 = (7 : Int32))
                · have hk := hk.1 hs8
                  refine lv_tableIn (x := a1) (off := 159) (tgt := 160) hx hb d_T_count_1 (by rw [hs8]; decide) (by rw [hs8]; decide) (by rw [hs8]; decide) (by decide) ?_
                  refine lv_aload_n hx hb d_T_count_160 rfl (lv_at hl 0 rfl) ?_
                  refine g_T_cartridge hC hw m_39 d_T_count_161 ?_
                  refine g_K_on hC hw m_167 d_T_count_164 ?_
                  have hj6 : ∀ (H : Heap) (locs : List Loc) (ls : Array Slot) (x12 : Int32), wp_T_count_j6 x12 Q → Wd D (ceC ad cA) A s H locs M0 → lv_has ls 2 [(0, .ref (ad 0)), (1, .int a1)] → W p l e rm_T_count s m args below meth c H locs 0 0 QQ (F0 m 175 ls [.int x12]) := by
                    intro H locs ls x12 hk hw hl
                    unfold wp_T_count_j6 at hk
                    exact rt_i hQQ hx hb hr hlk hw ⟨rfl, _, rfl, hk⟩ d_T_count_175
                  refine lv_if_eq (tgt := 174) hx hb d_T_count_167 (by decide) (fun hc => ?_) (fun hc => ?_)
                  · have hk := hk.1 hc
                    refine lv_iconst (v := 0) hx hb d_T_count_174 (by decide) ?_
                    exact hj6 _ _ _ _ hk hw (lv_sub hl [0, 1] rfl)
                  · have hk := hk.2 hc
                    refine lv_iconst (v := 1) hx hb d_T_count_170 (by decide) ?_
                    refine lv_goto (tgt := 175) hx hb d_T_count_171 (by decide) ?_
                    exact hj6 _ _ _ _ hk hw (lv_sub hl [0, 1] rfl)
                · have hk := hk.2 hs8
                  by_cases hs9 : (a1 = (8 : Int32))
                  · have hk := hk.1 hs9
                    refine lv_tableIn (x := a1) (off := 175) (tgt := 176) hx hb d_T_count_1 (by rw [hs9]; decide) (by rw [hs9]; decide) (by rw [hs9]; decide) (by decide) ?_
                    refine lv_aload_n hx hb d_T_count_176 rfl (lv_at hl 0 rfl) ?_
                    refine g_T_processor hC hw m_47 d_T_count_177 ?_
                    refine g_Q_taken hC hw m_168 d_T_count_180 ?_
                    exact rt_i hQQ hx hb hr hlk hw ⟨rfl, _, rfl, hk⟩ d_T_count_183
                  · have hk := hk.2 hs9
                    refine lv_tableOut (x := a1) (tgt := 184) hx hb d_T_count_1 (by have hz := (⟨lv_neT hs1 (show ((0 : Int32)).toInt = 0 by decide), lv_neT hs2 (show ((1 : Int32)).toInt = 1 by decide), lv_neT hs3 (show ((2 : Int32)).toInt = 2 by decide), lv_neT hs4 (show ((3 : Int32)).toInt = 3 by decide), lv_neT hs5 (show ((4 : Int32)).toInt = 4 by decide), lv_neT hs6 (show ((5 : Int32)).toInt = 5 by decide), lv_neT hs7 (show ((6 : Int32)).toInt = 6 by decide), lv_neT hs8 (show ((7 : Int32)).toInt = 7 by decide), lv_neT hs9 (show ((8 : Int32)).toInt = 8 by decide)⟩ : ¬ (a1).toInt = 0 ∧ ¬ (a1).toInt = 1 ∧ ¬ (a1).toInt = 2 ∧ ¬ (a1).toInt = 3 ∧ ¬ (a1).toInt = 4 ∧ ¬ (a1).toInt = 5 ∧ ¬ (a1).toInt = 6 ∧ ¬ (a1).toInt = 7 ∧ ¬ (a1).toInt = 8); omega) (by decide) ?_
                    exact False.elim hk
set_option maxHeartbeats 4000000 in
set_option maxRecDepth 100000 in
theorem ct_T_speed {l : Launch} {D : va_G} {cA : ClassId} {ad tb : Nat → Nat} (M0 : Mem) (Q : UInt64 → Prop) (hk : wp_T_speed M0 Q) : Ct l y_T_speed ws_T_speed rm_T_speed D (ceC ad cA) cA tb [.ref (ad 0)] M0 (QDp M0 Q) := by
  refine Ct.of (own := "TileConsole") (cc := b_T_speed) (maxL := 1) (ret := (some .double)) ceC_fix (by decide) rfl rfl (Nat.le_of_ble_eq_true rfl) ?_
  intro p e s m args below meth c A QQ ls H locs hQQ hC hr hlk hw hl
  have hx := hC.1.1
  have hb := hC.1.2.1
  unfold wp_T_speed at hk
  have hl : lv_has ls 1 [(0, .ref (ad 0))] := hl
  refine lv_aload_n hx hb d_T_speed_0 rfl (lv_at hl 0 rfl) ?_
  refine g_T_processor hC hw m_47 d_T_speed_1 ?_
  refine g_Q_cycles hC hw m_150 d_T_speed_4 ?_
  refine lv_if_ne (tgt := 20) hx hb d_T_speed_7 (by decide) (fun hc => ?_) (fun hc => ?_)
  · have hk := hk.1 hc
    refine lv_ldc2d (v := (4697254411347427328 : UInt64)) hx hb hC.1.2.2.2.1 (hC.1.2.2.2.2 _ m_169) d_T_speed_20 ?_
    refine lv_aload_n hx hb d_T_speed_23 rfl (lv_at hl 0 rfl) ?_
    refine g_T_processor hC hw m_47 d_T_speed_24 ?_
    refine g_Q_cycles hC hw m_150 d_T_speed_27 ?_
    refine lv_i2d hx hb d_T_speed_30 ?_
    obtain ⟨hn, hk⟩ := hk
    refine lv_ddiv hx hb d_T_speed_31 hn ?_
    refine lv_aload_n hx hb d_T_speed_32 rfl (lv_at hl 0 rfl) ?_
    refine g_T_ports hC hw m_41 d_T_speed_33 ?_
    refine g_P_frames hC hw m_170 d_T_speed_36 ?_
    refine lv_i2d hx hb d_T_speed_39 ?_
    obtain ⟨hn, hk⟩ := hk
    refine lv_dmul hx hb d_T_speed_40 hn ?_
    exact rt_d hQQ hx hb hr hlk hw ⟨rfl, _, rfl, hk⟩ d_T_speed_41
  · have hk := hk.2 hc
    exact False.elim hk
