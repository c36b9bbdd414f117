set_option maxRecDepth 100000 in
theorem m_0 : Cond.fieldLink "TileConsole$Cartridge" 33 "TileConsole$Cartridge" "in" "Z" ∈ WA := WAm 133 (by decide +kernel) (by decide +kernel)
set_option maxRecDepth 100000 in
theorem m_1 : Cond.fieldLink "TileConsole$Cartridge" 36 "TileConsole$Cartridge" "kind" "I" ∈ WA := WAm 135 (by decide +kernel) (by decide +kernel)
set_option maxRecDepth 100000 in
theorem m_2 : Cond.fieldLink "TileConsole$Cartridge" 16 "TileConsole$Cartridge" "enabled" "Z" ∈ WA := WAm 143 (by decide +kernel) (by decide +kernel)
set_option maxRecDepth 100000 in
theorem m_3 : Cond.fieldLink "TileConsole$Cartridge" 39 "TileConsole$Cartridge" "on" "Z" ∈ WA := WAm 137 (by decide +kernel) (by decide +kernel)
set_option maxRecDepth 100000 in
theorem m_4 : Cond.fieldLink "TileConsole$Cartridge" 20 "TileConsole$Cartridge" "romNumber" "I" ∈ WA := WAm 144 (by decide +kernel) (by decide +kernel)
set_option maxRecDepth 100000 in
theorem m_5 : Cond.fieldLink "TileConsole$Cartridge" 42 "TileConsole$Cartridge" "highBank" "I" ∈ WA := WAm 139 (by decide +kernel) (by decide +kernel)
set_option maxRecDepth 100000 in
theorem m_6 : Cond.fieldLink "TileConsole$Cartridge" 27 "TileConsole$Cartridge" "mode" "I" ∈ WA := WAm 146 (by decide +kernel) (by decide +kernel)
set_option maxRecDepth 100000 in
theorem m_7 : Cond.fieldLink "TileConsole$Cartridge" 24 "TileConsole$Cartridge" "ramNumber" "I" ∈ WA := WAm 145 (by decide +kernel) (by decide +kernel)
set_option maxRecDepth 100000 in
theorem m_8 : Cond.fieldLink "TileConsole$Cartridge" 45 "TileConsole$Cartridge" "ramBank" "I" ∈ WA := WAm 141 (by decide +kernel) (by decide +kernel)
set_option maxRecDepth 100000 in
theorem m_9 : Cond.methodLink "TileConsole$Cartridge" 30 y_K_settle ∈ WA := WAm 321 (by decide +kernel) (by decide +kernel)
set_option maxRecDepth 100000 in
theorem m_10 : Cond.fieldLink "TileConsole$Ports" 7 "TileConsole$Ports" "octets" "[I" ∈ WA := WAm 177 (by decide +kernel) (by decide +kernel)
set_option maxRecDepth 100000 in
theorem m_11 : Cond.fieldLink "TileConsole$Ports" 29 "TileConsole$Ports" "ly" "I" ∈ WA := WAm 185 (by decide +kernel) (by decide +kernel)
set_option maxRecDepth 100000 in
theorem m_12 : Cond.fieldLink "TileConsole$Ports" 26 "TileConsole$Ports" "dot" "I" ∈ WA := WAm 184 (by decide +kernel) (by decide +kernel)
set_option maxRecDepth 100000 in
theorem m_13 : Cond.fieldLink "TileConsole$Ports" 42 "TileConsole$Ports" "state" "I" ∈ WA := WAm 186 (by decide +kernel) (by decide +kernel)
set_option maxRecDepth 100000 in
theorem m_14 : Cond.methodLink "TileConsole$Ports" 13 y_A_fill ∈ WA := WAm 329 (by decide +kernel) (by decide +kernel)
set_option maxRecDepth 100000 in
theorem m_15 : Cond.fieldLink "TileConsole$Ports" 19 "TileConsole$Ports" "frames" "I" ∈ WA := WAm 180 (by decide +kernel) (by decide +kernel)
set_option maxRecDepth 100000 in
theorem m_16 : Cond.fieldLink "TileConsole$Ports" 23 "TileConsole$Ports" "ticks" "I" ∈ WA := WAm 183 (by decide +kernel) (by decide +kernel)
set_option maxRecDepth 100000 in
theorem m_17 : Cond.fieldLink "TileConsole$Ports" 32 "TileConsole$Ports" "signal" "Z" ∈ WA := WAm 187 (by decide +kernel) (by decide +kernel)
set_option maxRecDepth 100000 in
theorem m_18 : Cond.methodLink "TileConsole$Ports" 36 y_P_findState ∈ WA := WAm 332 (by decide +kernel) (by decide +kernel)
set_option maxRecDepth 100000 in
theorem m_19 : Cond.fieldLink "TileConsole$Memory" 7 "TileConsole$Memory" "video" "[I" ∈ WA := WAm 211 (by decide +kernel) (by decide +kernel)
set_option maxRecDepth 100000 in
theorem m_20 : Cond.methodLink "TileConsole$Memory" 30 y_A_fill ∈ WA := WAm 340 (by decide +kernel) (by decide +kernel)
set_option maxRecDepth 100000 in
theorem m_21 : Cond.fieldLink "TileConsole$Memory" 13 "TileConsole$Memory" "sprites" "[I" ∈ WA := WAm 213 (by decide +kernel) (by decide +kernel)
set_option maxRecDepth 100000 in
theorem m_22 : Cond.fieldLink "TileConsole$Memory" 16 "TileConsole$Memory" "work" "[I" ∈ WA := WAm 215 (by decide +kernel) (by decide +kernel)
set_option maxRecDepth 100000 in
theorem m_23 : Cond.fieldLink "TileConsole$Memory" 19 "TileConsole$Memory" "high" "[I" ∈ WA := WAm 216 (by decide +kernel) (by decide +kernel)
set_option maxRecDepth 100000 in
theorem m_24 : Cond.fieldLink "TileConsole$Screen" 9 "TileConsole$Screen" "pixels" "[I" ∈ WA := WAm 238 (by decide +kernel) (by decide +kernel)
set_option maxRecDepth 100000 in
theorem m_25 : Cond.methodLink "TileConsole$Screen" 31 y_A_fill ∈ WA := WAm 345 (by decide +kernel) (by decide +kernel)
set_option maxRecDepth 100000 in
theorem m_26 : Cond.fieldLink "TileConsole$Processor" 7 "TileConsole$Processor" "\x72" "[I" ∈ WA := WAm 279 (by decide +kernel) (by decide +kernel)
set_option maxRecDepth 100000 in
theorem m_27 : Cond.constant "TileConsole$Processor" 58 (65535 : Int32) ∈ WA := WAm 354 (by decide +kernel) (by decide +kernel)
set_option maxRecDepth 100000 in
theorem m_28 : Cond.fieldLink "TileConsole$Processor" 26 "TileConsole$Processor" "sp" "I" ∈ WA := WAm 280 (by decide +kernel) (by decide +kernel)
set_option maxRecDepth 100000 in
theorem m_29 : Cond.methodLink "TileConsole$Processor" 21 y_Q_setPair ∈ WA := WAm 350 (by decide +kernel) (by decide +kernel)
set_option maxRecDepth 100000 in
theorem m_30 : Cond.constant "TileConsole$Processor" 25 (65534 : Int32) ∈ WA := WAm 355 (by decide +kernel) (by decide +kernel)
set_option maxRecDepth 100000 in
theorem m_31 : Cond.fieldLink "TileConsole$Processor" 30 "TileConsole$Processor" "pc" "I" ∈ WA := WAm 281 (by decide +kernel) (by decide +kernel)
set_option maxRecDepth 100000 in
theorem m_32 : Cond.fieldLink "TileConsole$Processor" 33 "TileConsole$Processor" "ime" "Z" ∈ WA := WAm 273 (by decide +kernel) (by decide +kernel)
set_option maxRecDepth 100000 in
theorem m_33 : Cond.fieldLink "TileConsole$Processor" 37 "TileConsole$Processor" "halted" "Z" ∈ WA := WAm 275 (by decide +kernel) (by decide +kernel)
set_option maxRecDepth 100000 in
theorem m_34 : Cond.fieldLink "TileConsole$Processor" 40 "TileConsole$Processor" "locked" "Z" ∈ WA := WAm 277 (by decide +kernel) (by decide +kernel)
set_option maxRecDepth 100000 in
theorem m_35 : Cond.fieldLink "TileConsole$Processor" 43 "TileConsole$Processor" "armed" "Z" ∈ WA := WAm 282 (by decide +kernel) (by decide +kernel)
set_option maxRecDepth 100000 in
theorem m_36 : Cond.fieldLink "TileConsole$Processor" 46 "TileConsole$Processor" "cycles" "I" ∈ WA := WAm 267 (by decide +kernel) (by decide +kernel)
set_option maxRecDepth 100000 in
theorem m_37 : Cond.fieldLink "TileConsole$Processor" 49 "TileConsole$Processor" "done" "I" ∈ WA := WAm 269 (by decide +kernel) (by decide +kernel)
set_option maxRecDepth 100000 in
theorem m_38 : Cond.fieldLink "TileConsole$Processor" 52 "TileConsole$Processor" "taken" "I" ∈ WA := WAm 271 (by decide +kernel) (by decide +kernel)
set_option maxRecDepth 100000 in
theorem m_39 : Cond.fieldLink "TileConsole" 10 "TileConsole" "cartridge" "LTileConsole$Cartridge;" ∈ WA := WAm 356 (by decide +kernel) (by decide +kernel)
set_option maxRecDepth 100000 in
theorem m_40 : Cond.methodLink "TileConsole" 191 y_K_reset ∈ WA := WAm 317 (by decide +kernel) (by decide +kernel)
set_option maxRecDepth 100000 in
theorem m_41 : Cond.fieldLink "TileConsole" 19 "TileConsole" "ports" "LTileConsole$Ports;" ∈ WA := WAm 357 (by decide +kernel) (by decide +kernel)
set_option maxRecDepth 100000 in
theorem m_42 : Cond.methodLink "TileConsole" 194 y_P_reset ∈ WA := WAm 325 (by decide +kernel) (by decide +kernel)
set_option maxRecDepth 100000 in
theorem m_43 : Cond.fieldLink "TileConsole" 28 "TileConsole" "memory" "LTileConsole$Memory;" ∈ WA := WAm 358 (by decide +kernel) (by decide +kernel)
set_option maxRecDepth 100000 in
theorem m_44 : Cond.methodLink "TileConsole" 195 y_Y_reset ∈ WA := WAm 336 (by decide +kernel) (by decide +kernel)
set_option maxRecDepth 100000 in
theorem m_45 : Cond.fieldLink "TileConsole" 47 "TileConsole" "screen" "LTileConsole$Screen;" ∈ WA := WAm 359 (by decide +kernel) (by decide +kernel)
set_option maxRecDepth 100000 in
theorem m_46 : Cond.methodLink "TileConsole" 196 y_S_reset ∈ WA := WAm 341 (by decide +kernel) (by decide +kernel)
set_option maxRecDepth 100000 in
theorem m_47 : Cond.fieldLink "TileConsole" 56 "TileConsole" "processor" "LTileConsole$Processor;" ∈ WA := WAm 360 (by decide +kernel) (by decide +kernel)
set_option maxRecDepth 100000 in
theorem m_48 : Cond.methodLink "TileConsole" 197 y_Q_reset ∈ WA := WAm 346 (by decide +kernel) (by decide +kernel)
set_option maxRecDepth 100000 in
theorem m_49 : Cond.fieldLink "TileConsole$Cartridge" 9 "TileConsole$Cartridge" "rom" "[I" ∈ WA := WAm 130 (by decide +kernel) (by decide +kernel)
set_option maxRecDepth 100000 in
theorem m_50 : Cond.methodLink "TileConsole$Cartridge" 48 y_K_controlOne ∈ WA := WAm 535 (by decide +kernel) (by decide +kernel)
set_option maxRecDepth 100000 in
theorem m_51 : Cond.methodLink "TileConsole$Cartridge" 52 y_K_controlTwo ∈ WA := WAm 539 (by decide +kernel) (by decide +kernel)
set_option maxRecDepth 100000 in
theorem m_52 : Cond.methodLink "TileConsole$Cartridge" 55 y_K_controlThree ∈ WA := WAm 543 (by decide +kernel) (by decide +kernel)
set_option maxRecDepth 100000 in
theorem m_53 : Cond.fieldLink "TileConsole$Cartridge" 13 "TileConsole$Cartridge" "ram" "[I" ∈ WA := WAm 132 (by decide +kernel) (by decide +kernel)
set_option maxRecDepth 100000 in
theorem m_54 : Cond.methodLink "TileConsole$Ports" 45 y_P_clearDivider ∈ WA := WAm 562 (by decide +kernel) (by decide +kernel)
set_option maxRecDepth 100000 in
theorem m_55 : Cond.fieldLink "TileConsole$Ports" 39 "TileConsole$Ports" "down" "I" ∈ WA := WAm 182 (by decide +kernel) (by decide +kernel)
set_option maxRecDepth 100000 in
theorem m_56 : Cond.constant "TileConsole$Memory" 36 (32768 : Int32) ∈ WA := WAm 530 (by decide +kernel) (by decide +kernel)
set_option maxRecDepth 100000 in
theorem m_57 : Cond.constant "TileConsole$Memory" 43 (40960 : Int32) ∈ WA := WAm 547 (by decide +kernel) (by decide +kernel)
set_option maxRecDepth 100000 in
theorem m_58 : Cond.constant "TileConsole$Memory" 44 (49152 : Int32) ∈ WA := WAm 548 (by decide +kernel) (by decide +kernel)
set_option maxRecDepth 100000 in
theorem m_59 : Cond.constant "TileConsole$Memory" 48 (65024 : Int32) ∈ WA := WAm 553 (by decide +kernel) (by decide +kernel)
set_option maxRecDepth 100000 in
theorem m_60 : Cond.constant "TileConsole$Memory" 49 (65184 : Int32) ∈ WA := WAm 554 (by decide +kernel) (by decide +kernel)
set_option maxRecDepth 100000 in
theorem m_61 : Cond.constant "TileConsole$Memory" 50 (65280 : Int32) ∈ WA := WAm 557 (by decide +kernel) (by decide +kernel)
set_option maxRecDepth 100000 in
theorem m_62 : Cond.constant "TileConsole$Memory" 51 (65408 : Int32) ∈ WA := WAm 555 (by decide +kernel) (by decide +kernel)
set_option maxRecDepth 100000 in
theorem m_63 : Cond.constant "TileConsole$Memory" 52 (65535 : Int32) ∈ WA := WAm 556 (by decide +kernel) (by decide +kernel)
set_option maxRecDepth 100000 in
theorem m_64 : Cond.fieldLink "TileConsole$Memory" 26 "TileConsole$Memory" "ports" "LTileConsole$Ports;" ∈ WA := WAm 218 (by decide +kernel) (by decide +kernel)
set_option maxRecDepth 100000 in
theorem m_65 : Cond.methodLink "TileConsole$Memory" 53 y_P_load ∈ WA := WAm 579 (by decide +kernel) (by decide +kernel)
set_option maxRecDepth 100000 in
theorem m_66 : Cond.fieldLink "TileConsole$Memory" 22 "TileConsole$Memory" "cartridge" "LTileConsole$Cartridge;" ∈ WA := WAm 217 (by decide +kernel) (by decide +kernel)
set_option maxRecDepth 100000 in
theorem m_67 : Cond.methodLink "TileConsole$Memory" 45 y_K_loadRam ∈ WA := WAm 575 (by decide +kernel) (by decide +kernel)
set_option maxRecDepth 100000 in
theorem m_68 : Cond.methodLink "TileConsole$Memory" 37 y_K_loadRom ∈ WA := WAm 571 (by decide +kernel) (by decide +kernel)
set_option maxRecDepth 100000 in
theorem m_69 : Cond.methodLink "TileConsole$Memory" 65 y_P_store ∈ WA := WAm 558 (by decide +kernel) (by decide +kernel)
set_option maxRecDepth 100000 in
theorem m_70 : Cond.constant "TileConsole$Memory" 68 (65350 : Int32) ∈ WA := WAm 566 (by decide +kernel) (by decide +kernel)
set_option maxRecDepth 100000 in
theorem m_71 : Cond.methodLink "TileConsole$Memory" 69 y_Y_load ∈ WA := WAm 567 (by decide +kernel) (by decide +kernel)
set_option maxRecDepth 100000 in
theorem m_72 : Cond.methodLink "TileConsole$Memory" 62 y_K_storeRam ∈ WA := WAm 549 (by decide +kernel) (by decide +kernel)
set_option maxRecDepth 100000 in
theorem m_73 : Cond.methodLink "TileConsole$Memory" 58 y_K_control ∈ WA := WAm 531 (by decide +kernel) (by decide +kernel)
set_option maxRecDepth 100000 in
theorem m_74 : Cond.fieldLink "TileConsole$Processor" 13 "TileConsole$Processor" "memory" "LTileConsole$Memory;" ∈ WA := WAm 284 (by decide +kernel) (by decide +kernel)
set_option maxRecDepth 100000 in
theorem m_75 : Cond.methodLink "TileConsole$Processor" 188 y_Y_store ∈ WA := WAm 526 (by decide +kernel) (by decide +kernel)
set_option maxRecDepth 100000 in
theorem m_76 : Cond.fieldLink "TileConsole$Processor" 65 "TileConsole$Processor" "time" "I" ∈ WA := WAm 283 (by decide +kernel) (by decide +kernel)
set_option maxRecDepth 100000 in
theorem m_77 : Cond.fieldLink "TileConsole$Processor" 17 "TileConsole$Processor" "ports" "LTileConsole$Ports;" ∈ WA := WAm 285 (by decide +kernel) (by decide +kernel)
set_option maxRecDepth 100000 in
theorem m_78 : Cond.fieldLink "TileConsole$Processor" 107 "TileConsole$Ports" "octets" "[I" ∈ WA := WAm 179 (by decide +kernel) (by decide +kernel)
set_option maxRecDepth 100000 in
theorem m_79 : Cond.methodLink "TileConsole$Processor" 110 y_Q_push ∈ WA := WAm 522 (by decide +kernel) (by decide +kernel)
set_option maxRecDepth 100000 in
theorem m_80 : Cond.fieldLink "TileConsole$Ports" 58 "TileConsole$Ports" "TIMER_MASKS" "[I" ∈ WA := WAm 596 (by decide +kernel) (by decide +kernel)
set_option maxRecDepth 100000 in
theorem m_81 : Cond.methodLink "TileConsole$Ports" 61 y_P_rowSignals ∈ WA := WAm 606 (by decide +kernel) (by decide +kernel)
set_option maxRecDepth 100000 in
theorem m_82 : Cond.methodLink "TileConsole$Ports" 65 y_P_stateSignals ∈ WA := WAm 610 (by decide +kernel) (by decide +kernel)
set_option maxRecDepth 100000 in
theorem m_83 : Cond.constant "TileConsole$Ports" 48 (65535 : Int32) ∈ WA := WAm 591 (by decide +kernel) (by decide +kernel)
set_option maxRecDepth 100000 in
theorem m_84 : Cond.methodLink "TileConsole$Ports" 49 y_P_moveTimer ∈ WA := WAm 592 (by decide +kernel) (by decide +kernel)
set_option maxRecDepth 100000 in
theorem m_85 : Cond.methodLink "TileConsole$Ports" 52 y_P_moveDot ∈ WA := WAm 598 (by decide +kernel) (by decide +kernel)
set_option maxRecDepth 100000 in
theorem m_86 : Cond.methodLink "TileConsole$Ports" 55 y_P_lookAtSignal ∈ WA := WAm 602 (by decide +kernel) (by decide +kernel)
set_option maxRecDepth 100000 in
theorem m_87 : Cond.methodLink "TileConsole$Processor" 104 y_P_pass ∈ WA := WAm 587 (by decide +kernel) (by decide +kernel)
set_option maxRecDepth 100000 in
theorem m_88 : Cond.methodLink "TileConsole$Processor" 183 y_Y_load ∈ WA := WAm 618 (by decide +kernel) (by decide +kernel)
set_option maxRecDepth 100000 in
theorem m_89 : Cond.methodLink "TileConsole$Processor" 75 y_Q_fetch ∈ WA := WAm 614 (by decide +kernel) (by decide +kernel)
set_option maxRecDepth 100000 in
theorem m_90 : Cond.methodLink "TileConsole$Processor" 130 y_Q_pair ∈ WA := WAm 640 (by decide +kernel) (by decide +kernel)
set_option maxRecDepth 100000 in
theorem m_91 : Cond.methodLink "TileConsole$Processor" 180 y_Q_zero ∈ WA := WAm 663 (by decide +kernel) (by decide +kernel)
set_option maxRecDepth 100000 in
theorem m_92 : Cond.methodLink "TileConsole$Processor" 200 y_Q_adjustDecimal ∈ WA := WAm 678 (by decide +kernel) (by decide +kernel)
set_option maxRecDepth 100000 in
theorem m_93 : Cond.methodLink "TileConsole$Processor" 177 y_Q_shifted ∈ WA := WAm 682 (by decide +kernel) (by decide +kernel)
set_option maxRecDepth 100000 in
theorem m_94 : Cond.methodLink "TileConsole$Processor" 122 y_Q_holds ∈ WA := WAm 632 (by decide +kernel) (by decide +kernel)
set_option maxRecDepth 100000 in
theorem m_95 : Cond.methodLink "TileConsole$Processor" 126 y_Q_jump ∈ WA := WAm 636 (by decide +kernel) (by decide +kernel)
set_option maxRecDepth 100000 in
theorem m_96 : Cond.methodLink "TileConsole$Processor" 119 y_P_clearDivider ∈ WA := WAm 631 (by decide +kernel) (by decide +kernel)
set_option maxRecDepth 100000 in
theorem m_97 : Cond.methodLink "TileConsole$Processor" 113 y_Q_fetchWord ∈ WA := WAm 623 (by decide +kernel) (by decide +kernel)
set_option maxRecDepth 100000 in
theorem m_98 : Cond.methodLink "TileConsole$Processor" 116 y_Q_storeStackPointer ∈ WA := WAm 627 (by decide +kernel) (by decide +kernel)
set_option maxRecDepth 100000 in
theorem m_99 : Cond.methodLink "TileConsole$Processor" 133 y_Q_addToHl ∈ WA := WAm 644 (by decide +kernel) (by decide +kernel)
set_option maxRecDepth 100000 in
theorem m_100 : Cond.methodLink "TileConsole$Processor" 136 Lib.Math.min.name ∈ WA := WAm 648 (by decide +kernel) (by decide +kernel)
set_option maxRecDepth 100000 in
theorem m_101 : Cond.static Lib.Math.min.name ∈ WA := WAm 649 (by decide +kernel) (by decide +kernel)
set_option maxRecDepth 100000 in
theorem m_102 : Cond.initialized "java/lang/Math" ∈ WA := WAm 113 (by decide +kernel) (by decide +kernel)
set_option maxRecDepth 100000 in
theorem m_103 : Cond.code Lib.Math.min.name Lib.Math.min.code 2 (some .int) ∈ WA := WAm 650 rfl (by decide +kernel)
set_option maxRecDepth 100000 in
theorem m_104 : Cond.methodLink "TileConsole$Processor" 142 y_Q_copyA ∈ WA := WAm 651 (by decide +kernel) (by decide +kernel)
set_option maxRecDepth 100000 in
theorem m_105 : Cond.methodLink "TileConsole$Processor" 84 y_Q_octetAt ∈ WA := WAm 655 (by decide +kernel) (by decide +kernel)
set_option maxRecDepth 100000 in
theorem m_106 : Cond.methodLink "TileConsole$Processor" 146 y_Q_increased ∈ WA := WAm 659 (by decide +kernel) (by decide +kernel)
set_option maxRecDepth 100000 in
theorem m_107 : Cond.methodLink "TileConsole$Processor" 149 y_Q_setOctet ∈ WA := WAm 666 (by decide +kernel) (by decide +kernel)
set_option maxRecDepth 100000 in
theorem m_108 : Cond.methodLink "TileConsole$Processor" 152 y_Q_decreased ∈ WA := WAm 670 (by decide +kernel) (by decide +kernel)
set_option maxRecDepth 100000 in
theorem m_109 : Cond.methodLink "TileConsole$Processor" 155 y_Q_changeA ∈ WA := WAm 674 (by decide +kernel) (by decide +kernel)
set_option maxRecDepth 100000 in
theorem m_110 : Cond.methodLink "TileConsole$Processor" 191 y_Q_add ∈ WA := WAm 694 (by decide +kernel) (by decide +kernel)
set_option maxRecDepth 100000 in
theorem m_111 : Cond.methodLink "TileConsole$Processor" 194 y_Q_difference ∈ WA := WAm 698 (by decide +kernel) (by decide +kernel)
set_option maxRecDepth 100000 in
theorem m_112 : Cond.methodLink "TileConsole$Processor" 197 y_Q_setLogic ∈ WA := WAm 702 (by decide +kernel) (by decide +kernel)
set_option maxRecDepth 100000 in
theorem m_113 : Cond.methodLink "TileConsole$Processor" 165 y_Q_pop ∈ WA := WAm 718 (by decide +kernel) (by decide +kernel)
set_option maxRecDepth 100000 in
theorem m_114 : Cond.constant "TileConsole$Processor" 164 (65280 : Int32) ∈ WA := WAm 726 (by decide +kernel) (by decide +kernel)
set_option maxRecDepth 100000 in
theorem m_115 : Cond.methodLink "TileConsole$Processor" 161 y_Q_addToStackPointer ∈ WA := WAm 722 (by decide +kernel) (by decide +kernel)
set_option maxRecDepth 100000 in
theorem m_116 : Cond.methodLink "TileConsole$Processor" 158 y_Q_returnIf ∈ WA := WAm 714 (by decide +kernel) (by decide +kernel)
set_option maxRecDepth 100000 in
theorem m_117 : Cond.methodLink "TileConsole$Processor" 168 y_Q_setStackPair ∈ WA := WAm 727 (by decide +kernel) (by decide +kernel)
set_option maxRecDepth 100000 in
theorem m_118 : Cond.methodLink "TileConsole$Processor" 171 y_Q_switchInterrupts ∈ WA := WAm 731 (by decide +kernel) (by decide +kernel)
set_option maxRecDepth 100000 in
theorem m_119 : Cond.methodLink "TileConsole$Processor" 174 y_Q_stackPair ∈ WA := WAm 739 (by decide +kernel) (by decide +kernel)
set_option maxRecDepth 100000 in
theorem m_120 : Cond.methodLink "TileConsole$Processor" 88 y_Q_combine ∈ WA := WAm 690 (by decide +kernel) (by decide +kernel)
set_option maxRecDepth 100000 in
theorem m_121 : Cond.methodLink "TileConsole$Processor" 59 y_P_waiting ∈ WA := WAm 514 (by decide +kernel) (by decide +kernel)
set_option maxRecDepth 100000 in
theorem m_122 : Cond.methodLink "TileConsole$Processor" 68 y_Q_takeInterrupt ∈ WA := WAm 518 (by decide +kernel) (by decide +kernel)
set_option maxRecDepth 100000 in
theorem m_123 : Cond.methodLink "TileConsole$Processor" 78 y_Q_doLow ∈ WA := WAm 619 (by decide +kernel) (by decide +kernel)
set_option maxRecDepth 100000 in
theorem m_124 : Cond.methodLink "TileConsole$Processor" 81 y_Q_doCopy ∈ WA := WAm 686 (by decide +kernel) (by decide +kernel)
set_option maxRecDepth 100000 in
theorem m_125 : Cond.methodLink "TileConsole$Processor" 97 y_Q_doHighest ∈ WA := WAm 735 (by decide +kernel) (by decide +kernel)
set_option maxRecDepth 100000 in
theorem m_126 : Cond.methodLink "TileConsole$Processor" 94 y_Q_doHigh ∈ WA := WAm 710 (by decide +kernel) (by decide +kernel)
set_option maxRecDepth 100000 in
theorem m_127 : Cond.methodLink "TileConsole$Processor" 91 y_Q_doPrefixed ∈ WA := WAm 706 (by decide +kernel) (by decide +kernel)
set_option maxRecDepth 100000 in
theorem m_128 : Cond.methodLink "TileConsole$Processor" 72 y_Q_passHalted ∈ WA := WAm 583 (by decide +kernel) (by decide +kernel)
set_option maxRecDepth 100000 in
theorem m_129 : Cond.methodLink "TileConsole$Processor" 100 y_Q_finish ∈ WA := WAm 743 (by decide +kernel) (by decide +kernel)
set_option maxRecDepth 100000 in
theorem m_130 : Cond.fieldLink "TileConsole$Processor" 55 "TileConsole$Processor" "FACE_ORDER" "[I" ∈ WA := WAm 775 (by decide +kernel) (by decide +kernel)
set_option maxRecDepth 100000 in
theorem m_131 : Cond.fieldLink "TileConsole$Screen" 28 "TileConsole$Screen" "ports" "[I" ∈ WA := WAm 242 (by decide +kernel) (by decide +kernel)
set_option maxRecDepth 100000 in
theorem m_132 : Cond.fieldLink "TileConsole$Screen" 22 "TileConsole$Screen" "video" "[I" ∈ WA := WAm 240 (by decide +kernel) (by decide +kernel)
set_option maxRecDepth 100000 in
theorem m_133 : Cond.fieldLink "TileConsole$Screen" 25 "TileConsole$Screen" "sprites" "[I" ∈ WA := WAm 241 (by decide +kernel) (by decide +kernel)
set_option maxRecDepth 100000 in
theorem m_134 : Cond.methodLink "TileConsole$Screen" 58 y_S_numberAt ∈ WA := WAm 844 (by decide +kernel) (by decide +kernel)
set_option maxRecDepth 100000 in
theorem m_135 : Cond.fieldLink "TileConsole$Screen" 13 "TileConsole$Screen" "aheadNumber" "[I" ∈ WA := WAm 243 (by decide +kernel) (by decide +kernel)
set_option maxRecDepth 100000 in
theorem m_136 : Cond.fieldLink "TileConsole$Screen" 16 "TileConsole$Screen" "aheadX" "[I" ∈ WA := WAm 244 (by decide +kernel) (by decide +kernel)
set_option maxRecDepth 100000 in
theorem m_137 : Cond.fieldLink "TileConsole$Screen" 19 "TileConsole$Screen" "aheadFlags" "[I" ∈ WA := WAm 245 (by decide +kernel) (by decide +kernel)
set_option maxRecDepth 100000 in
theorem m_138 : Cond.methodLink "TileConsole$Screen" 37 y_S_has ∈ WA := WAm 832 (by decide +kernel) (by decide +kernel)
set_option maxRecDepth 100000 in
theorem m_139 : Cond.methodLink "TileConsole$Screen" 61 y_S_placeSprite ∈ WA := WAm 840 (by decide +kernel) (by decide +kernel)
set_option maxRecDepth 100000 in
theorem m_140 : Cond.methodLink "TileConsole$Screen" 54 y_S_mapNumber ∈ WA := WAm 852 (by decide +kernel) (by decide +kernel)
set_option maxRecDepth 100000 in
theorem m_141 : Cond.methodLink "TileConsole$Screen" 41 y_S_chooseSprites ∈ WA := WAm 836 (by decide +kernel) (by decide +kernel)
set_option maxRecDepth 100000 in
theorem m_142 : Cond.methodLink "TileConsole$Screen" 45 y_S_backgroundNumber ∈ WA := WAm 848 (by decide +kernel) (by decide +kernel)
set_option maxRecDepth 100000 in
theorem m_143 : Cond.methodLink "TileConsole$Screen" 49 y_S_colour ∈ WA := WAm 856 (by decide +kernel) (by decide +kernel)
set_option maxRecDepth 100000 in
theorem mw_K_settle : Mw y_K_settle "TileConsole$Cartridge" b_K_settle 1 none 0 := ⟨WAm 323 (by decide +kernel) (by decide +kernel), WAm 1 (by decide +kernel) (by decide +kernel), WAm 100 (by decide +kernel) (by decide +kernel), WAm 324 rfl (by decide +kernel), by decide +kernel⟩
set_option maxRecDepth 100000 in
theorem mw_K_reset : Mw y_K_reset "TileConsole$Cartridge" b_K_reset 1 none 0 := ⟨WAm 318 (by decide +kernel) (by decide +kernel), WAm 319 (by decide +kernel) (by decide +kernel), WAm 100 (by decide +kernel) (by decide +kernel), WAm 320 rfl (by decide +kernel), by decide +kernel⟩
set_option maxRecDepth 100000 in
theorem mw_P_findState : Mw y_P_findState "TileConsole$Ports" b_P_findState 1 none 0 := ⟨WAm 334 (by decide +kernel) (by decide +kernel), WAm 2 (by decide +kernel) (by decide +kernel), WAm 101 (by decide +kernel) (by decide +kernel), WAm 335 rfl (by decide +kernel), by decide +kernel⟩
set_option maxRecDepth 100000 in
theorem mw_A_fill : Ms y_A_fill b_A_fill 4 none 2 := ⟨WAm 330 (by decide +kernel) (by decide +kernel), WAm 105 (by decide +kernel) (by decide +kernel), WAm 331 rfl (by decide +kernel), by decide +kernel⟩
set_option maxRecDepth 100000 in
theorem mw_P_reset : Mw y_P_reset "TileConsole$Ports" b_P_reset 1 none 0 := ⟨WAm 326 (by decide +kernel) (by decide +kernel), WAm 327 (by decide +kernel) (by decide +kernel), WAm 101 (by decide +kernel) (by decide +kernel), WAm 328 rfl (by decide +kernel), by decide +kernel⟩
set_option maxRecDepth 100000 in
theorem mw_Y_reset : Mw y_Y_reset "TileConsole$Memory" b_Y_reset 1 none 0 := ⟨WAm 337 (by decide +kernel) (by decide +kernel), WAm 338 (by decide +kernel) (by decide +kernel), WAm 102 (by decide +kernel) (by decide +kernel), WAm 339 rfl (by decide +kernel), by decide +kernel⟩
set_option maxRecDepth 100000 in
theorem mw_S_reset : Mw y_S_reset "TileConsole$Screen" b_S_reset 1 none 0 := ⟨WAm 342 (by decide +kernel) (by decide +kernel), WAm 343 (by decide +kernel) (by decide +kernel), WAm 103 (by decide +kernel) (by decide +kernel), WAm 344 rfl (by decide +kernel), by decide +kernel⟩
set_option maxRecDepth 100000 in
theorem mw_Q_setPair : Mw y_Q_setPair "TileConsole$Processor" b_Q_setPair 3 none 2 := ⟨WAm 352 (by decide +kernel) (by decide +kernel), WAm 3 (by decide +kernel) (by decide +kernel), WAm 104 (by decide +kernel) (by decide +kernel), WAm 353 rfl (by decide +kernel), by decide +kernel⟩
set_option maxRecDepth 100000 in
theorem mw_Q_reset : Mw y_Q_reset "TileConsole$Processor" b_Q_reset 1 none 0 := ⟨WAm 347 (by decide +kernel) (by decide +kernel), WAm 348 (by decide +kernel) (by decide +kernel), WAm 104 (by decide +kernel) (by decide +kernel), WAm 349 rfl (by decide +kernel), by decide +kernel⟩
set_option maxRecDepth 100000 in
theorem mw_T_startAnew : Mw y_T_startAnew "TileConsole" b_T_startAnew 1 none 0 := ⟨WAm 315 (by decide +kernel) (by decide +kernel), WAm 0 (by decide +kernel) (by decide +kernel), WAm 99 (by decide +kernel) (by decide +kernel), WAm 316 rfl (by decide +kernel), by decide +kernel⟩
set_option maxRecDepth 100000 in
theorem mw_T_octetOf : Ms y_T_octetOf b_T_octetOf 3 (some .int) 2 := ⟨WAm 469 (by decide +kernel) (by decide +kernel), WAm 99 (by decide +kernel) (by decide +kernel), WAm 470 rfl (by decide +kernel), by decide +kernel⟩
set_option maxRecDepth 100000 in
theorem mw_K_headerAgrees : Mw y_K_headerAgrees "TileConsole$Cartridge" b_K_headerAgrees 3 (some .boolean) 0 := ⟨WAm 481 (by decide +kernel) (by decide +kernel), WAm 482 (by decide +kernel) (by decide +kernel), WAm 100 (by decide +kernel) (by decide +kernel), WAm 483 rfl (by decide +kernel), by decide +kernel⟩
set_option maxRecDepth 100000 in
theorem mw_P_waiting : Mw y_P_waiting "TileConsole$Ports" b_P_waiting 1 (some .int) 0 := ⟨WAm 515 (by decide +kernel) (by decide +kernel), WAm 516 (by decide +kernel) (by decide +kernel), WAm 101 (by decide +kernel) (by decide +kernel), WAm 517 rfl (by decide +kernel), by decide +kernel⟩
set_option maxRecDepth 100000 in
theorem mw_K_controlOne : Mw y_K_controlOne "TileConsole$Cartridge" b_K_controlOne 3 none 2 := ⟨WAm 537 (by decide +kernel) (by decide +kernel), WAm 7 (by decide +kernel) (by decide +kernel), WAm 100 (by decide +kernel) (by decide +kernel), WAm 538 rfl (by decide +kernel), by decide +kernel⟩
set_option maxRecDepth 100000 in
theorem mw_K_controlTwo : Mw y_K_controlTwo "TileConsole$Cartridge" b_K_controlTwo 3 none 2 := ⟨WAm 541 (by decide +kernel) (by decide +kernel), WAm 8 (by decide +kernel) (by decide +kernel), WAm 100 (by decide +kernel) (by decide +kernel), WAm 542 rfl (by decide +kernel), by decide +kernel⟩
set_option maxRecDepth 100000 in
theorem mw_K_controlThree : Mw y_K_controlThree "TileConsole$Cartridge" b_K_controlThree 3 none 2 := ⟨WAm 545 (by decide +kernel) (by decide +kernel), WAm 9 (by decide +kernel) (by decide +kernel), WAm 100 (by decide +kernel) (by decide +kernel), WAm 546 rfl (by decide +kernel), by decide +kernel⟩
set_option maxRecDepth 100000 in
theorem mw_K_control : Mw y_K_control "TileConsole$Cartridge" b_K_control 3 none 2 := ⟨WAm 532 (by decide +kernel) (by decide +kernel), WAm 533 (by decide +kernel) (by decide +kernel), WAm 100 (by decide +kernel) (by decide +kernel), WAm 534 rfl (by decide +kernel), by decide +kernel⟩
set_option maxRecDepth 100000 in
theorem mw_K_storeRam : Mw y_K_storeRam "TileConsole$Cartridge" b_K_storeRam 3 none 2 := ⟨WAm 550 (by decide +kernel) (by decide +kernel), WAm 551 (by decide +kernel) (by decide +kernel), WAm 100 (by decide +kernel) (by decide +kernel), WAm 552 rfl (by decide +kernel), by decide +kernel⟩
set_option maxRecDepth 100000 in
theorem mw_P_clearDivider : Mw y_P_clearDivider "TileConsole$Ports" b_P_clearDivider 1 none 0 := ⟨WAm 563 (by decide +kernel) (by decide +kernel), WAm 564 (by decide +kernel) (by decide +kernel), WAm 101 (by decide +kernel) (by decide +kernel), WAm 565 rfl (by decide +kernel), by decide +kernel⟩
set_option maxRecDepth 100000 in
theorem mw_P_store : Mw y_P_store "TileConsole$Ports" b_P_store 3 none 2 := ⟨WAm 559 (by decide +kernel) (by decide +kernel), WAm 560 (by decide +kernel) (by decide +kernel), WAm 101 (by decide +kernel) (by decide +kernel), WAm 561 rfl (by decide +kernel), by decide +kernel⟩
set_option maxRecDepth 100000 in
theorem mw_K_loadRom : Mw y_K_loadRom "TileConsole$Cartridge" b_K_loadRom 3 (some .int) 1 := ⟨WAm 572 (by decide +kernel) (by decide +kernel), WAm 573 (by decide +kernel) (by decide +kernel), WAm 100 (by decide +kernel) (by decide +kernel), WAm 574 rfl (by decide +kernel), by decide +kernel⟩
set_option maxRecDepth 100000 in
theorem mw_K_loadRam : Mw y_K_loadRam "TileConsole$Cartridge" b_K_loadRam 3 (some .int) 1 := ⟨WAm 576 (by decide +kernel) (by decide +kernel), WAm 577 (by decide +kernel) (by decide +kernel), WAm 100 (by decide +kernel) (by decide +kernel), WAm 578 rfl (by decide +kernel), by decide +kernel⟩
set_option maxRecDepth 100000 in
theorem mw_P_load : Mw y_P_load "TileConsole$Ports" b_P_load 4 (some .int) 1 := ⟨WAm 580 (by decide +kernel) (by decide +kernel), WAm 581 (by decide +kernel) (by decide +kernel), WAm 101 (by decide +kernel) (by decide +kernel), WAm 582 rfl (by decide +kernel), by decide +kernel⟩
set_option maxRecDepth 100000 in
theorem mw_Y_load : Mw y_Y_load "TileConsole$Memory" b_Y_load 2 (some .int) 1 := ⟨WAm 568 (by decide +kernel) (by decide +kernel), WAm 569 (by decide +kernel) (by decide +kernel), WAm 102 (by decide +kernel) (by decide +kernel), WAm 570 rfl (by decide +kernel), by decide +kernel⟩
set_option maxRecDepth 100000 in
theorem mw_Y_store : Mw y_Y_store "TileConsole$Memory" b_Y_store 4 none 2 := ⟨WAm 527 (by decide +kernel) (by decide +kernel), WAm 528 (by decide +kernel) (by decide +kernel), WAm 102 (by decide +kernel) (by decide +kernel), WAm 529 rfl (by decide +kernel), by decide +kernel⟩
set_option maxRecDepth 100000 in
theorem mw_Q_push : Mw y_Q_push "TileConsole$Processor" b_Q_push 2 none 1 := ⟨WAm 524 (by decide +kernel) (by decide +kernel), WAm 6 (by decide +kernel) (by decide +kernel), WAm 104 (by decide +kernel) (by decide +kernel), WAm 525 rfl (by decide +kernel), by decide +kernel⟩
set_option maxRecDepth 100000 in
theorem mw_Q_takeInterrupt : Mw y_Q_takeInterrupt "TileConsole$Processor" b_Q_takeInterrupt 3 none 1 := ⟨WAm 520 (by decide +kernel) (by decide +kernel), WAm 5 (by decide +kernel) (by decide +kernel), WAm 104 (by decide +kernel) (by decide +kernel), WAm 521 rfl (by decide +kernel), by decide +kernel⟩
set_option maxRecDepth 100000 in
theorem mw_P_moveTimer : Mw y_P_moveTimer "TileConsole$Ports" b_P_moveTimer 2 none 0 := ⟨WAm 594 (by decide +kernel) (by decide +kernel), WAm 11 (by decide +kernel) (by decide +kernel), WAm 101 (by decide +kernel) (by decide +kernel), WAm 595 rfl (by decide +kernel), by decide +kernel⟩
set_option maxRecDepth 100000 in
theorem mw_P_moveDot : Mw y_P_moveDot "TileConsole$Ports" b_P_moveDot 1 none 0 := ⟨WAm 600 (by decide +kernel) (by decide +kernel), WAm 12 (by decide +kernel) (by decide +kernel), WAm 101 (by decide +kernel) (by decide +kernel), WAm 601 rfl (by decide +kernel), by decide +kernel⟩
set_option maxRecDepth 100000 in
theorem mw_P_rowSignals : Mw y_P_rowSignals "TileConsole$Ports" b_P_rowSignals 1 (some .boolean) 0 := ⟨WAm 608 (by decide +kernel) (by decide +kernel), WAm 14 (by decide +kernel) (by decide +kernel), WAm 101 (by decide +kernel) (by decide +kernel), WAm 609 rfl (by decide +kernel), by decide +kernel⟩
set_option maxRecDepth 100000 in
theorem mw_P_stateSignals : Mw y_P_stateSignals "TileConsole$Ports" b_P_stateSignals 1 (some .boolean) 0 := ⟨WAm 612 (by decide +kernel) (by decide +kernel), WAm 15 (by decide +kernel) (by decide +kernel), WAm 101 (by decide +kernel) (by decide +kernel), WAm 613 rfl (by decide +kernel), by decide +kernel⟩
set_option maxRecDepth 100000 in
theorem mw_P_lookAtSignal : Mw y_P_lookAtSignal "TileConsole$Ports" b_P_lookAtSignal 2 none 0 := ⟨WAm 604 (by decide +kernel) (by decide +kernel), WAm 13 (by decide +kernel) (by decide +kernel), WAm 101 (by decide +kernel) (by decide +kernel), WAm 605 rfl (by decide +kernel), by decide +kernel⟩
set_option maxRecDepth 100000 in
theorem mw_P_pass : Mw y_P_pass "TileConsole$Ports" b_P_pass 3 none 1 := ⟨WAm 588 (by decide +kernel) (by decide +kernel), WAm 589 (by decide +kernel) (by decide +kernel), WAm 101 (by decide +kernel) (by decide +kernel), WAm 590 rfl (by decide +kernel), by decide +kernel⟩
set_option maxRecDepth 100000 in
theorem mw_Q_passHalted : Mw y_Q_passHalted "TileConsole$Processor" b_Q_passHalted 1 none 0 := ⟨WAm 585 (by decide +kernel) (by decide +kernel), WAm 10 (by decide +kernel) (by decide +kernel), WAm 104 (by decide +kernel) (by decide +kernel), WAm 586 rfl (by decide +kernel), by decide +kernel⟩
set_option maxRecDepth 100000 in
theorem mw_Q_fetch : Mw y_Q_fetch "TileConsole$Processor" b_Q_fetch 2 (some .int) 0 := ⟨WAm 616 (by decide +kernel) (by decide +kernel), WAm 16 (by decide +kernel) (by decide +kernel), WAm 104 (by decide +kernel) (by decide +kernel), WAm 617 rfl (by decide +kernel), by decide +kernel⟩
set_option maxRecDepth 100000 in
theorem mw_Q_fetchWord : Mw y_Q_fetchWord "TileConsole$Processor" b_Q_fetchWord 2 (some .int) 0 := ⟨WAm 625 (by decide +kernel) (by decide +kernel), WAm 18 (by decide +kernel) (by decide +kernel), WAm 104 (by decide +kernel) (by decide +kernel), WAm 626 rfl (by decide +kernel), by decide +kernel⟩
set_option maxRecDepth 100000 in
theorem mw_Q_storeStackPointer : Mw y_Q_storeStackPointer "TileConsole$Processor" b_Q_storeStackPointer 2 none 1 := ⟨WAm 629 (by decide +kernel) (by decide +kernel), WAm 19 (by decide +kernel) (by decide +kernel), WAm 104 (by decide +kernel) (by decide +kernel), WAm 630 rfl (by decide +kernel), by decide +kernel⟩
set_option maxRecDepth 100000 in
theorem mw_Q_holds : Mw y_Q_holds "TileConsole$Processor" b_Q_holds 3 (some .boolean) 1 := ⟨WAm 634 (by decide +kernel) (by decide +kernel), WAm 20 (by decide +kernel) (by decide +kernel), WAm 104 (by decide +kernel) (by decide +kernel), WAm 635 rfl (by decide +kernel), by decide +kernel⟩
set_option maxRecDepth 100000 in
theorem mw_Q_jump : Mw y_Q_jump "TileConsole$Processor" b_Q_jump 3 none 2 := ⟨WAm 638 (by decide +kernel) (by decide +kernel), WAm 21 (by decide +kernel) (by decide +kernel), WAm 104 (by decide +kernel) (by decide +kernel), WAm 639 rfl (by decide +kernel), by decide +kernel⟩
set_option maxRecDepth 100000 in
theorem mw_Q_pair : Mw y_Q_pair "TileConsole$Processor" b_Q_pair 2 (some .int) 1 := ⟨WAm 642 (by decide +kernel) (by decide +kernel), WAm 22 (by decide +kernel) (by decide +kernel), WAm 104 (by decide +kernel) (by decide +kernel), WAm 643 rfl (by decide +kernel), by decide +kernel⟩
set_option maxRecDepth 100000 in
theorem mw_Q_addToHl : Mw y_Q_addToHl "TileConsole$Processor" b_Q_addToHl 5 none 1 := ⟨WAm 646 (by decide +kernel) (by decide +kernel), WAm 23 (by decide +kernel) (by decide +kernel), WAm 104 (by decide +kernel) (by decide +kernel), WAm 647 rfl (by decide +kernel), by decide +kernel⟩
set_option maxRecDepth 100000 in
theorem mw_Q_copyA : Mw y_Q_copyA "TileConsole$Processor" b_Q_copyA 3 none 2 := ⟨WAm 653 (by decide +kernel) (by decide +kernel), WAm 24 (by decide +kernel) (by decide +kernel), WAm 104 (by decide +kernel) (by decide +kernel), WAm 654 rfl (by decide +kernel), by decide +kernel⟩
set_option maxRecDepth 100000 in
theorem mw_Q_octetAt : Mw y_Q_octetAt "TileConsole$Processor" b_Q_octetAt 2 (some .int) 1 := ⟨WAm 657 (by decide +kernel) (by decide +kernel), WAm 25 (by decide +kernel) (by decide +kernel), WAm 104 (by decide +kernel) (by decide +kernel), WAm 658 rfl (by decide +kernel), by decide +kernel⟩
set_option maxRecDepth 100000 in
theorem mw_Q_zero : Ms y_Q_zero b_Q_zero 1 (some .int) 1 := ⟨WAm 664 (by decide +kernel) (by decide +kernel), WAm 104 (by decide +kernel) (by decide +kernel), WAm 665 rfl (by decide +kernel), by decide +kernel⟩
set_option maxRecDepth 100000 in
theorem mw_Q_increased : Mw y_Q_increased "TileConsole$Processor" b_Q_increased 3 (some .int) 1 := ⟨WAm 661 (by decide +kernel) (by decide +kernel), WAm 26 (by decide +kernel) (by decide +kernel), WAm 104 (by decide +kernel) (by decide +kernel), WAm 662 rfl (by decide +kernel), by decide +kernel⟩
set_option maxRecDepth 100000 in
theorem mw_Q_setOctet : Mw y_Q_setOctet "TileConsole$Processor" b_Q_setOctet 3 none 2 := ⟨WAm 668 (by decide +kernel) (by decide +kernel), WAm 27 (by decide +kernel) (by decide +kernel), WAm 104 (by decide +kernel) (by decide +kernel), WAm 669 rfl (by decide +kernel), by decide +kernel⟩
set_option maxRecDepth 100000 in
theorem mw_Q_decreased : Mw y_Q_decreased "TileConsole$Processor" b_Q_decreased 3 (some .int) 1 := ⟨WAm 672 (by decide +kernel) (by decide +kernel), WAm 28 (by decide +kernel) (by decide +kernel), WAm 104 (by decide +kernel) (by decide +kernel), WAm 673 rfl (by decide +kernel), by decide +kernel⟩
set_option maxRecDepth 100000 in
theorem mw_Q_adjustDecimal : Mw y_Q_adjustDecimal "TileConsole$Processor" b_Q_adjustDecimal 6 none 0 := ⟨WAm 680 (by decide +kernel) (by decide +kernel), WAm 30 (by decide +kernel) (by decide +kernel), WAm 104 (by decide +kernel) (by decide +kernel), WAm 681 rfl (by decide +kernel), by decide +kernel⟩
set_option maxRecDepth 100000 in
theorem mw_Q_shifted : Mw y_Q_shifted "TileConsole$Processor" b_Q_shifted 7 (some .int) 2 := ⟨WAm 684 (by decide +kernel) (by decide +kernel), WAm 31 (by decide +kernel) (by decide +kernel), WAm 104 (by decide +kernel) (by decide +kernel), WAm 685 rfl (by decide +kernel), by decide +kernel⟩
set_option maxRecDepth 100000 in
theorem mw_Q_changeA : Mw y_Q_changeA "TileConsole$Processor" b_Q_changeA 3 none 1 := ⟨WAm 676 (by decide +kernel) (by decide +kernel), WAm 29 (by decide +kernel) (by decide +kernel), WAm 104 (by decide +kernel) (by decide +kernel), WAm 677 rfl (by decide +kernel), by decide +kernel⟩
set_option maxRecDepth 100000 in
theorem mw_Q_doLow : Mw y_Q_doLow "TileConsole$Processor" b_Q_doLow 6 none 2 := ⟨WAm 621 (by decide +kernel) (by decide +kernel), WAm 17 (by decide +kernel) (by decide +kernel), WAm 104 (by decide +kernel) (by decide +kernel), WAm 622 rfl (by decide +kernel), by decide +kernel⟩
set_option maxRecDepth 100000 in
theorem mw_Q_doCopy : Mw y_Q_doCopy "TileConsole$Processor" b_Q_doCopy 3 none 2 := ⟨WAm 688 (by decide +kernel) (by decide +kernel), WAm 32 (by decide +kernel) (by decide +kernel), WAm 104 (by decide +kernel) (by decide +kernel), WAm 689 rfl (by decide +kernel), by decide +kernel⟩
set_option maxRecDepth 100000 in
theorem mw_Q_add : Mw y_Q_add "TileConsole$Processor" b_Q_add 6 none 2 := ⟨WAm 696 (by decide +kernel) (by decide +kernel), WAm 34 (by decide +kernel) (by decide +kernel), WAm 104 (by decide +kernel) (by decide +kernel), WAm 697 rfl (by decide +kernel), by decide +kernel⟩
set_option maxRecDepth 100000 in
theorem mw_Q_difference : Mw y_Q_difference "TileConsole$Processor" b_Q_difference 6 (some .int) 2 := ⟨WAm 700 (by decide +kernel) (by decide +kernel), WAm 35 (by decide +kernel) (by decide +kernel), WAm 104 (by decide +kernel) (by decide +kernel), WAm 701 rfl (by decide +kernel), by decide +kernel⟩
set_option maxRecDepth 100000 in
theorem mw_Q_setLogic : Mw y_Q_setLogic "TileConsole$Processor" b_Q_setLogic 3 none 2 := ⟨WAm 704 (by decide +kernel) (by decide +kernel), WAm 36 (by decide +kernel) (by decide +kernel), WAm 104 (by decide +kernel) (by decide +kernel), WAm 705 rfl (by decide +kernel), by decide +kernel⟩
set_option maxRecDepth 100000 in
theorem mw_Q_combine : Mw y_Q_combine "TileConsole$Processor" b_Q_combine 5 none 2 := ⟨WAm 692 (by decide +kernel) (by decide +kernel), WAm 33 (by decide +kernel) (by decide +kernel), WAm 104 (by decide +kernel) (by decide +kernel), WAm 693 rfl (by decide +kernel), by decide +kernel⟩
set_option maxRecDepth 100000 in
theorem mw_Q_doPrefixed : Mw y_Q_doPrefixed "TileConsole$Processor" b_Q_doPrefixed 5 none 0 := ⟨WAm 708 (by decide +kernel) (by decide +kernel), WAm 37 (by decide +kernel) (by decide +kernel), WAm 104 (by decide +kernel) (by decide +kernel), WAm 709 rfl (by decide +kernel), by decide +kernel⟩
set_option maxRecDepth 100000 in
theorem mw_Q_pop : Mw y_Q_pop "TileConsole$Processor" b_Q_pop 2 (some .int) 0 := ⟨WAm 720 (by decide +kernel) (by decide +kernel), WAm 40 (by decide +kernel) (by decide +kernel), WAm 104 (by decide +kernel) (by decide +kernel), WAm 721 rfl (by decide +kernel), by decide +kernel⟩
set_option maxRecDepth 100000 in
theorem mw_Q_returnIf : Mw y_Q_returnIf "TileConsole$Processor" b_Q_returnIf 2 none 1 := ⟨WAm 716 (by decide +kernel) (by decide +kernel), WAm 39 (by decide +kernel) (by decide +kernel), WAm 104 (by decide +kernel) (by decide +kernel), WAm 717 rfl (by decide +kernel), by decide +kernel⟩
set_option maxRecDepth 100000 in
theorem mw_Q_addToStackPointer : Mw y_Q_addToStackPointer "TileConsole$Processor" b_Q_addToStackPointer 5 none 2 := ⟨WAm 724 (by decide +kernel) (by decide +kernel), WAm 41 (by decide +kernel) (by decide +kernel), WAm 104 (by decide +kernel) (by decide +kernel), WAm 725 rfl (by decide +kernel), by decide +kernel⟩
set_option maxRecDepth 100000 in
theorem mw_Q_setStackPair : Mw y_Q_setStackPair "TileConsole$Processor" b_Q_setStackPair 3 none 2 := ⟨WAm 729 (by decide +kernel) (by decide +kernel), WAm 42 (by decide +kernel) (by decide +kernel), WAm 104 (by decide +kernel) (by decide +kernel), WAm 730 rfl (by decide +kernel), by decide +kernel⟩
set_option maxRecDepth 100000 in
theorem mw_Q_switchInterrupts : Mw y_Q_switchInterrupts "TileConsole$Processor" b_Q_switchInterrupts 2 none 1 := ⟨WAm 733 (by decide +kernel) (by decide +kernel), WAm 43 (by decide +kernel) (by decide +kernel), WAm 104 (by decide +kernel) (by decide +kernel), WAm 734 rfl (by decide +kernel), by decide +kernel⟩
set_option maxRecDepth 100000 in
theorem mw_Q_doHigh : Mw y_Q_doHigh "TileConsole$Processor" b_Q_doHigh 4 none 2 := ⟨WAm 712 (by decide +kernel) (by decide +kernel), WAm 38 (by decide +kernel) (by decide +kernel), WAm 104 (by decide +kernel) (by decide +kernel), WAm 713 rfl (by decide +kernel), by decide +kernel⟩
set_option maxRecDepth 100000 in
theorem mw_Q_stackPair : Mw y_Q_stackPair "TileConsole$Processor" b_Q_stackPair 2 (some .int) 1 := ⟨WAm 741 (by decide +kernel) (by decide +kernel), WAm 45 (by decide +kernel) (by decide +kernel), WAm 104 (by decide +kernel) (by decide +kernel), WAm 742 rfl (by decide +kernel), by decide +kernel⟩
set_option maxRecDepth 100000 in
theorem mw_Q_doHighest : Mw y_Q_doHighest "TileConsole$Processor" b_Q_doHighest 4 none 2 := ⟨WAm 737 (by decide +kernel) (by decide +kernel), WAm 44 (by decide +kernel) (by decide +kernel), WAm 104 (by decide +kernel) (by decide +kernel), WAm 738 rfl (by decide +kernel), by decide +kernel⟩
set_option maxRecDepth 100000 in
theorem mw_Q_finish : Mw y_Q_finish "TileConsole$Processor" b_Q_finish 2 none 1 := ⟨WAm 745 (by decide +kernel) (by decide +kernel), WAm 46 (by decide +kernel) (by decide +kernel), WAm 104 (by decide +kernel) (by decide +kernel), WAm 746 rfl (by decide +kernel), by decide +kernel⟩
set_option maxRecDepth 100000 in
theorem mw_Q_step : Mw y_Q_step "TileConsole$Processor" b_Q_step 6 none 0 := ⟨WAm 511 (by decide +kernel) (by decide +kernel), WAm 512 (by decide +kernel) (by decide +kernel), WAm 104 (by decide +kernel) (by decide +kernel), WAm 513 rfl (by decide +kernel), by decide +kernel⟩
set_option maxRecDepth 100000 in
theorem mw_Q_valueOf : Mw y_Q_valueOf "TileConsole$Processor" b_Q_valueOf 2 (some .int) 1 := ⟨WAm 772 (by decide +kernel) (by decide +kernel), WAm 773 (by decide +kernel) (by decide +kernel), WAm 104 (by decide +kernel) (by decide +kernel), WAm 774 rfl (by decide +kernel), by decide +kernel⟩
set_option maxRecDepth 100000 in
theorem mw_Q_put : Mw y_Q_put "TileConsole$Processor" b_Q_put 3 none 2 := ⟨WAm 778 (by decide +kernel) (by decide +kernel), WAm 779 (by decide +kernel) (by decide +kernel), WAm 104 (by decide +kernel) (by decide +kernel), WAm 780 rfl (by decide +kernel), by decide +kernel⟩
set_option maxRecDepth 100000 in
theorem mw_P_press : Mw y_P_press "TileConsole$Ports" b_P_press 3 (some .int) 1 := ⟨WAm 817 (by decide +kernel) (by decide +kernel), WAm 818 (by decide +kernel) (by decide +kernel), WAm 101 (by decide +kernel) (by decide +kernel), WAm 819 rfl (by decide +kernel), by decide +kernel⟩
set_option maxRecDepth 100000 in
theorem mw_S_has : Mw y_S_has "TileConsole$Screen" b_S_has 2 (some .boolean) 1 := ⟨WAm 834 (by decide +kernel) (by decide +kernel), WAm 47 (by decide +kernel) (by decide +kernel), WAm 103 (by decide +kernel) (by decide +kernel), WAm 835 rfl (by decide +kernel), by decide +kernel⟩
set_option maxRecDepth 100000 in
theorem mw_S_numberAt : Mw y_S_numberAt "TileConsole$Screen" b_S_numberAt 5 (some .int) 2 := ⟨WAm 846 (by decide +kernel) (by decide +kernel), WAm 50 (by decide +kernel) (by decide +kernel), WAm 103 (by decide +kernel) (by decide +kernel), WAm 847 rfl (by decide +kernel), by decide +kernel⟩
set_option maxRecDepth 100000 in
theorem mw_S_placeSprite : Mw y_S_placeSprite "TileConsole$Screen" b_S_placeSprite 11 none 3 := ⟨WAm 842 (by decide +kernel) (by decide +kernel), WAm 49 (by decide +kernel) (by decide +kernel), WAm 103 (by decide +kernel) (by decide +kernel), WAm 843 rfl (by decide +kernel), by decide +kernel⟩
set_option maxRecDepth 100000 in
theorem mw_S_chooseSprites : Mw y_S_chooseSprites "TileConsole$Screen" b_S_chooseSprites 6 none 1 := ⟨WAm 838 (by decide +kernel) (by decide +kernel), WAm 48 (by decide +kernel) (by decide +kernel), WAm 103 (by decide +kernel) (by decide +kernel), WAm 839 rfl (by decide +kernel), by decide +kernel⟩
set_option maxRecDepth 100000 in
theorem mw_S_mapNumber : Mw y_S_mapNumber "TileConsole$Screen" b_S_mapNumber 6 (some .int) 3 := ⟨WAm 854 (by decide +kernel) (by decide +kernel), WAm 52 (by decide +kernel) (by decide +kernel), WAm 103 (by decide +kernel) (by decide +kernel), WAm 855 rfl (by decide +kernel), by decide +kernel⟩
set_option maxRecDepth 100000 in
theorem mw_S_backgroundNumber : Mw y_S_backgroundNumber "TileConsole$Screen" b_S_backgroundNumber 5 (some .int) 2 := ⟨WAm 850 (by decide +kernel) (by decide +kernel), WAm 51 (by decide +kernel) (by decide +kernel), WAm 103 (by decide +kernel) (by decide +kernel), WAm 851 rfl (by decide +kernel), by decide +kernel⟩
set_option maxRecDepth 100000 in
theorem mw_S_colour : Mw y_S_colour "TileConsole$Screen" b_S_colour 5 (some .int) 2 := ⟨WAm 858 (by decide +kernel) (by decide +kernel), WAm 53 (by decide +kernel) (by decide +kernel), WAm 103 (by decide +kernel) (by decide +kernel), WAm 859 rfl (by decide +kernel), by decide +kernel⟩
set_option maxRecDepth 100000 in
theorem mw_S_make : Mw y_S_make "TileConsole$Screen" b_S_make 4 (some .int) 1 := ⟨WAm 829 (by decide +kernel) (by decide +kernel), WAm 830 (by decide +kernel) (by decide +kernel), WAm 103 (by decide +kernel) (by decide +kernel), WAm 831 rfl (by decide +kernel), by decide +kernel⟩
