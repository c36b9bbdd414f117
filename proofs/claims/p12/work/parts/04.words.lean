set_option maxRecDepth 100000 in
theorem m_0 : Cond.fieldLink "TileConsole$Cartridge" 33 "TileConsole$Cartridge" "in" "Z" ∈ WA := WAm 133 (by decide +kernel) (by decide +kernel)
set_option maxRecDepth 100000 in
theorem m_1 : Cond.fieldLink "TileConsole$Cartridge" 36 "TileConsole$Cartridge" "kind" "I" ∈ WA := WAm 135 (by decide +kernel) (by decide +kernel)
set_option maxRecDepth 100000 in
theorem m_2 : Cond.fieldLink "TileConsole$Cartridge" 16 "TileConsole$Cartridge" "enabled" "Z" ∈ WA := WAm 143 (by decide +kernel) (by decide +kernel)
set_option maxRecDepth 100000 in
theorem m_3 : Cond.fieldLink "TileConsole$Cartridge" 39 "TileConsole$Cartridge" "on" "Z" ∈ WA := WAm 137 (by decide +kernel) (by decide +kernel)
set_option maxRecDepth 100000 in
theorem m_4 : Cond.fieldLink "TileConsole$Cartridge" 20 "TileConsole$Cartridge" "romNumber" "I" ∈ WA := WAm 144 (by decide +kernel) (by decide +kernel)
set_option maxRecDepth 100000 in
theorem m_5 : Cond.fieldLink "TileConsole$Cartridge" 42 "TileConsole$Cartridge" "highBank" "I" ∈ WA := WAm 139 (by decide +kernel) (by decide +kernel)
set_option maxRecDepth 100000 in
theorem m_6 : Cond.fieldLink "TileConsole$Cartridge" 27 "TileConsole$Cartridge" "mode" "I" ∈ WA := WAm 146 (by decide +kernel) (by decide +kernel)
set_option maxRecDepth 100000 in
theorem m_7 : Cond.fieldLink "TileConsole$Cartridge" 24 "TileConsole$Cartridge" "ramNumber" "I" ∈ WA := WAm 145 (by decide +kernel) (by decide +kernel)
set_option maxRecDepth 100000 in
theorem m_8 : Cond.fieldLink "TileConsole$Cartridge" 45 "TileConsole$Cartridge" "ramBank" "I" ∈ WA := WAm 141 (by decide +kernel) (by decide +kernel)
set_option maxRecDepth 100000 in
theorem m_9 : Cond.methodLink "TileConsole$Cartridge" 30 y_K_settle ∈ WA := WAm 321 (by decide +kernel) (by decide +kernel)
set_option maxRecDepth 100000 in
theorem m_10 : Cond.fieldLink "TileConsole$Ports" 7 "TileConsole$Ports" "octets" "[I" ∈ WA := WAm 177 (by decide +kernel) (by decide +kernel)
set_option maxRecDepth 100000 in
theorem m_11 : Cond.fieldLink "TileConsole$Ports" 29 "TileConsole$Ports" "ly" "I" ∈ WA := WAm 185 (by decide +kernel) (by decide +kernel)
set_option maxRecDepth 100000 in
theorem m_12 : Cond.fieldLink "TileConsole$Ports" 26 "TileConsole$Ports" "dot" "I" ∈ WA := WAm 184 (by decide +kernel) (by decide +kernel)
set_option maxRecDepth 100000 in
theorem m_13 : Cond.fieldLink "TileConsole$Ports" 42 "TileConsole$Ports" "state" "I" ∈ WA := WAm 186 (by decide +kernel) (by decide +kernel)
set_option maxRecDepth 100000 in
theorem m_14 : Cond.methodLink "TileConsole$Ports" 13 y_A_fill ∈ WA := WAm 329 (by decide +kernel) (by decide +kernel)
set_option maxRecDepth 100000 in
theorem m_15 : Cond.fieldLink "TileConsole$Ports" 19 "TileConsole$Ports" "frames" "I" ∈ WA := WAm 180 (by decide +kernel) (by decide +kernel)
set_option maxRecDepth 100000 in
theorem m_16 : Cond.fieldLink "TileConsole$Ports" 23 "TileConsole$Ports" "ticks" "I" ∈ WA := WAm 183 (by decide +kernel) (by decide +kernel)
set_option maxRecDepth 100000 in
theorem m_17 : Cond.fieldLink "TileConsole$Ports" 32 "TileConsole$Ports" "signal" "Z" ∈ WA := WAm 187 (by decide +kernel) (by decide +kernel)
set_option maxRecDepth 100000 in
theorem m_18 : Cond.methodLink "TileConsole$Ports" 36 y_P_findState ∈ WA := WAm 332 (by decide +kernel) (by decide +kernel)
set_option maxRecDepth 100000 in
theorem m_19 : Cond.fieldLink "TileConsole$Memory" 7 "TileConsole$Memory" "video" "[I" ∈ WA := WAm 211 (by decide +kernel) (by decide +kernel)
set_option maxRecDepth 100000 in
theorem m_20 : Cond.methodLink "TileConsole$Memory" 30 y_A_fill ∈ WA := WAm 340 (by decide +kernel) (by decide +kernel)
set_option maxRecDepth 100000 in
theorem m_21 : Cond.fieldLink "TileConsole$Memory" 13 "TileConsole$Memory" "sprites" "[I" ∈ WA := WAm 213 (by decide +kernel) (by decide +kernel)
set_option maxRecDepth 100000 in
theorem m_22 : Cond.fieldLink "TileConsole$Memory" 16 "TileConsole$Memory" "work" "[I" ∈ WA := WAm 215 (by decide +kernel) (by decide +kernel)
set_option maxRecDepth 100000 in
theorem m_23 : Cond.fieldLink "TileConsole$Memory" 19 "TileConsole$Memory" "high" "[I" ∈ WA := WAm 216 (by decide +kernel) (by decide +kernel)
set_option maxRecDepth 100000 in
theorem m_24 : Cond.fieldLink "TileConsole$Screen" 9 "TileConsole$Screen" "pixels" "[I" ∈ WA := WAm 238 (by decide +kernel) (by decide +kernel)
set_option maxRecDepth 100000 in
theorem m_25 : Cond.methodLink "TileConsole$Screen" 31 y_A_fill ∈ WA := WAm 345 (by decide +kernel) (by decide +kernel)
set_option maxRecDepth 100000 in
theorem m_26 : Cond.fieldLink "TileConsole$Processor" 7 "TileConsole$Processor" "\x72" "[I" ∈ WA := WAm 279 (by decide +kernel) (by decide +kernel)
set_option maxRecDepth 100000 in
theorem m_27 : Cond.constant "TileConsole$Processor" 58 (65535 : Int32) ∈ WA := WAm 354 (by decide +kernel) (by decide +kernel)
set_option maxRecDepth 100000 in
theorem m_28 : Cond.fieldLink "TileConsole$Processor" 26 "TileConsole$Processor" "sp" "I" ∈ WA := WAm 280 (by decide +kernel) (by decide +kernel)
set_option maxRecDepth 100000 in
theorem m_29 : Cond.methodLink "TileConsole$Processor" 21 y_Q_setPair ∈ WA := WAm 350 (by decide +kernel) (by decide +kernel)
set_option maxRecDepth 100000 in
theorem m_30 : Cond.constant "TileConsole$Processor" 25 (65534 : Int32) ∈ WA := WAm 355 (by decide +kernel) (by decide +kernel)
set_option maxRecDepth 100000 in
theorem m_31 : Cond.fieldLink "TileConsole$Processor" 30 "TileConsole$Processor" "pc" "I" ∈ WA := WAm 281 (by decide +kernel) (by decide +kernel)
set_option maxRecDepth 100000 in
theorem m_32 : Cond.fieldLink "TileConsole$Processor" 33 "TileConsole$Processor" "ime" "Z" ∈ WA := WAm 273 (by decide +kernel) (by decide +kernel)
set_option maxRecDepth 100000 in
theorem m_33 : Cond.fieldLink "TileConsole$Processor" 37 "TileConsole$Processor" "halted" "Z" ∈ WA := WAm 275 (by decide +kernel) (by decide +kernel)
set_option maxRecDepth 100000 in
theorem m_34 : Cond.fieldLink "TileConsole$Processor" 40 "TileConsole$Processor" "locked" "Z" ∈ WA := WAm 277 (by decide +kernel) (by decide +kernel)
set_option maxRecDepth 100000 in
theorem m_35 : Cond.fieldLink "TileConsole$Processor" 43 "TileConsole$Processor" "armed" "Z" ∈ WA := WAm 282 (by decide +kernel) (by decide +kernel)
set_option maxRecDepth 100000 in
theorem m_36 : Cond.fieldLink "TileConsole$Processor" 46 "TileConsole$Processor" "cycles" "I" ∈ WA := WAm 267 (by decide +kernel) (by decide +kernel)
set_option maxRecDepth 100000 in
theorem m_37 : Cond.fieldLink "TileConsole$Processor" 49 "TileConsole$Processor" "done" "I" ∈ WA := WAm 269 (by decide +kernel) (by decide +kernel)
set_option maxRecDepth 100000 in
theorem m_38 : Cond.fieldLink "TileConsole$Processor" 52 "TileConsole$Processor" "taken" "I" ∈ WA := WAm 271 (by decide +kernel) (by decide +kernel)
set_option maxRecDepth 100000 in
theorem m_39 : Cond.fieldLink "TileConsole" 10 "TileConsole" "cartridge" "LTileConsole$Cartridge;" ∈ WA := WAm 356 (by decide +kernel) (by decide +kernel)
set_option maxRecDepth 100000 in
theorem m_40 : Cond.methodLink "TileConsole" 191 y_K_reset ∈ WA := WAm 317 (by decide +kernel) (by decide +kernel)
set_option maxRecDepth 100000 in
theorem m_41 : Cond.fieldLink "TileConsole" 19 "TileConsole" "ports" "LTileConsole$Ports;" ∈ WA := WAm 357 (by decide +kernel) (by decide +kernel)
set_option maxRecDepth 100000 in
theorem m_42 : Cond.methodLink "TileConsole" 194 y_P_reset ∈ WA := WAm 325 (by decide +kernel) (by decide +kernel)
set_option maxRecDepth 100000 in
theorem m_43 : Cond.fieldLink "TileConsole" 28 "TileConsole" "memory" "LTileConsole$Memory;" ∈ WA := WAm 358 (by decide +kernel) (by decide +kernel)
set_option maxRecDepth 100000 in
theorem m_44 : Cond.methodLink "TileConsole" 195 y_Y_reset ∈ WA := WAm 336 (by decide +kernel) (by decide +kernel)
set_option maxRecDepth 100000 in
theorem m_45 : Cond.fieldLink "TileConsole" 47 "TileConsole" "screen" "LTileConsole$Screen;" ∈ WA := WAm 359 (by decide +kernel) (by decide +kernel)
set_option maxRecDepth 100000 in
theorem m_46 : Cond.methodLink "TileConsole" 196 y_S_reset ∈ WA := WAm 341 (by decide +kernel) (by decide +kernel)
set_option maxRecDepth 100000 in
theorem m_47 : Cond.fieldLink "TileConsole" 56 "TileConsole" "processor" "LTileConsole$Processor;" ∈ WA := WAm 360 (by decide +kernel) (by decide +kernel)
set_option maxRecDepth 100000 in
theorem m_48 : Cond.methodLink "TileConsole" 197 y_Q_reset ∈ WA := WAm 346 (by decide +kernel) (by decide +kernel)
set_option maxRecDepth 100000 in
theorem m_49 : Cond.fieldLink "TileConsole$Cartridge" 9 "TileConsole$Cartridge" "rom" "[I" ∈ WA := WAm 130 (by decide +kernel) (by decide +kernel)
set_option maxRecDepth 100000 in
theorem m_50 : Cond.methodLink "TileConsole$Cartridge" 48 y_K_controlOne ∈ WA := WAm 535 (by decide +kernel) (by decide +kernel)
set_option maxRecDepth 100000 in
theorem m_51 : Cond.methodLink "TileConsole$Cartridge" 52 y_K_controlTwo ∈ WA := WAm 539 (by decide +kernel) (by decide +kernel)
set_option maxRecDepth 100000 in
theorem m_52 : Cond.methodLink "TileConsole$Cartridge" 55 y_K_controlThree ∈ WA := WAm 543 (by decide +kernel) (by decide +kernel)
set_option maxRecDepth 100000 in
theorem m_53 : Cond.fieldLink "TileConsole$Cartridge" 13 "TileConsole$Cartridge" "ram" "[I" ∈ WA := WAm 132 (by decide +kernel) (by decide +kernel)
set_option maxRecDepth 100000 in
theorem m_54 : Cond.methodLink "TileConsole$Ports" 45 y_P_clearDivider ∈ WA := WAm 562 (by decide +kernel) (by decide +kernel)
set_option maxRecDepth 100000 in
theorem m_55 : Cond.fieldLink "TileConsole$Ports" 39 "TileConsole$Ports" "down" "I" ∈ WA := WAm 182 (by decide +kernel) (by decide +kernel)
set_option maxRecDepth 100000 in
theorem m_56 : Cond.constant "TileConsole$Memory" 36 (32768 : Int32) ∈ WA := WAm 530 (by decide +kernel) (by decide +kernel)
set_option maxRecDepth 100000 in
theorem m_57 : Cond.constant "TileConsole$Memory" 43 (40960 : Int32) ∈ WA := WAm 547 (by decide +kernel) (by decide +kernel)
set_option maxRecDepth 100000 in
theorem m_58 : Cond.constant "TileConsole$Memory" 44 (49152 : Int32) ∈ WA := WAm 548 (by decide +kernel) (by decide +kernel)
set_option maxRecDepth 100000 in
theorem m_59 : Cond.constant "TileConsole$Memory" 48 (65024 : Int32) ∈ WA := WAm 553 (by decide +kernel) (by decide +kernel)
set_option maxRecDepth 100000 in
theorem m_60 : Cond.constant "TileConsole$Memory" 49 (65184 : Int32) ∈ WA := WAm 554 (by decide +kernel) (by decide +kernel)
set_option maxRecDepth 100000 in
theorem m_61 : Cond.constant "TileConsole$Memory" 50 (65280 : Int32) ∈ WA := WAm 557 (by decide +kernel) (by decide +kernel)
set_option maxRecDepth 100000 in
theorem m_62 : Cond.constant "TileConsole$Memory" 51 (65408 : Int32) ∈ WA := WAm 555 (by decide +kernel) (by decide +kernel)
set_option maxRecDepth 100000 in
theorem m_63 : Cond.constant "TileConsole$Memory" 52 (65535 : Int32) ∈ WA := WAm 556 (by decide +kernel) (by decide +kernel)
set_option maxRecDepth 100000 in
theorem m_64 : Cond.fieldLink "TileConsole$Memory" 26 "TileConsole$Memory" "ports" "LTileConsole$Ports;" ∈ WA := WAm 218 (by decide +kernel) (by decide +kernel)
set_option maxRecDepth 100000 in
theorem m_65 : Cond.methodLink "TileConsole$Memory" 53 y_P_load ∈ WA := WAm 579 (by decide +kernel) (by decide +kernel)
set_option maxRecDepth 100000 in
theorem m_66 : Cond.fieldLink "TileConsole$Memory" 22 "TileConsole$Memory" "cartridge" "LTileConsole$Cartridge;" ∈ WA := WAm 217 (by decide +kernel) (by decide +kernel)
set_option maxRecDepth 100000 in
theorem m_67 : Cond.methodLink "TileConsole$Memory" 45 y_K_loadRam ∈ WA := WAm 575 (by decide +kernel) (by decide +kernel)
set_option maxRecDepth 100000 in
theorem m_68 : Cond.methodLink "TileConsole$Memory" 37 y_K_loadRom ∈ WA := WAm 571 (by decide +kernel) (by decide +kernel)
set_option maxRecDepth 100000 in
theorem m_69 : Cond.methodLink "TileConsole$Memory" 65 y_P_store ∈ WA := WAm 558 (by decide +kernel) (by decide +kernel)
set_option maxRecDepth 100000 in
theorem m_70 : Cond.constant "TileConsole$Memory" 68 (65350 : Int32) ∈ WA := WAm 566 (by decide +kernel) (by decide +kernel)
set_option maxRecDepth 100000 in
theorem m_71 : Cond.methodLink "TileConsole$Memory" 69 y_Y_load ∈ WA := WAm 567 (by decide +kernel) (by decide +kernel)
set_option maxRecDepth 100000 in
theorem m_72 : Cond.methodLink "TileConsole$Memory" 62 y_K_storeRam ∈ WA := WAm 549 (by decide +kernel) (by decide +kernel)
set_option maxRecDepth 100000 in
theorem m_73 : Cond.methodLink "TileConsole$Memory" 58 y_K_control ∈ WA := WAm 531 (by decide +kernel) (by decide +kernel)
set_option maxRecDepth 100000 in
theorem m_74 : Cond.fieldLink "TileConsole$Processor" 13 "TileConsole$Processor" "memory" "LTileConsole$Memory;" ∈ WA := WAm 284 (by decide +kernel) (by decide +kernel)
set_option maxRecDepth 100000 in
theorem m_75 : Cond.methodLink "TileConsole$Processor" 188 y_Y_store ∈ WA := WAm 526 (by decide +kernel) (by decide +kernel)
set_option maxRecDepth 100000 in
theorem m_76 : Cond.fieldLink "TileConsole$Processor" 65 "TileConsole$Processor" "time" "I" ∈ WA := WAm 283 (by decide +kernel) (by decide +kernel)
set_option maxRecDepth 100000 in
theorem m_77 : Cond.fieldLink "TileConsole$Processor" 17 "TileConsole$Processor" "ports" "LTileConsole$Ports;" ∈ WA := WAm 285 (by decide +kernel) (by decide +kernel)
set_option maxRecDepth 100000 in
theorem m_78 : Cond.fieldLink "TileConsole$Processor" 106 "TileConsole$Ports" "octets" "[I" ∈ WA := WAm 179 (by decide +kernel) (by decide +kernel)
set_option maxRecDepth 100000 in
theorem m_79 : Cond.methodLink "TileConsole$Processor" 109 y_Q_push ∈ WA := WAm 522 (by decide +kernel) (by decide +kernel)
set_option maxRecDepth 100000 in
theorem m_80 : Cond.fieldLink "TileConsole$Ports" 58 "TileConsole$Ports" "TIMER_MASKS" "[I" ∈ WA := WAm 596 (by decide +kernel) (by decide +kernel)
set_option maxRecDepth 100000 in
theorem m_81 : Cond.methodLink "TileConsole$Ports" 61 y_P_rowSignals ∈ WA := WAm 606 (by decide +kernel) (by decide +kernel)
set_option maxRecDepth 100000 in
theorem m_82 : Cond.methodLink "TileConsole$Ports" 65 y_P_stateSignals ∈ WA := WAm 610 (by decide +kernel) (by decide +kernel)
set_option maxRecDepth 100000 in
theorem m_83 : Cond.constant "TileConsole$Ports" 48 (65535 : Int32) ∈ WA := WAm 591 (by decide +kernel) (by decide +kernel)
set_option maxRecDepth 100000 in
theorem m_84 : Cond.methodLink "TileConsole$Ports" 49 y_P_moveTimer ∈ WA := WAm 592 (by decide +kernel) (by decide +kernel)
set_option maxRecDepth 100000 in
theorem m_85 : Cond.methodLink "TileConsole$Ports" 52 y_P_moveDot ∈ WA := WAm 598 (by decide +kernel) (by decide +kernel)
set_option maxRecDepth 100000 in
theorem m_86 : Cond.methodLink "TileConsole$Ports" 55 y_P_lookAtSignal ∈ WA := WAm 602 (by decide +kernel) (by decide +kernel)
set_option maxRecDepth 100000 in
theorem m_87 : Cond.methodLink "TileConsole$Processor" 103 y_P_pass ∈ WA := WAm 587 (by decide +kernel) (by decide +kernel)
set_option maxRecDepth 100000 in
theorem m_88 : Cond.methodLink "TileConsole$Processor" 183 y_Y_load ∈ WA := WAm 618 (by decide +kernel) (by decide +kernel)
set_option maxRecDepth 100000 in
theorem m_89 : Cond.methodLink "TileConsole$Processor" 75 y_Q_fetch ∈ WA := WAm 614 (by decide +kernel) (by decide +kernel)
set_option maxRecDepth 100000 in
theorem m_90 : Cond.methodLink "TileConsole$Processor" 129 y_Q_pair ∈ WA := WAm 640 (by decide +kernel) (by decide +kernel)
set_option maxRecDepth 100000 in
theorem m_91 : Cond.methodLink "TileConsole$Processor" 180 y_Q_zero ∈ WA := WAm 663 (by decide +kernel) (by decide +kernel)
set_option maxRecDepth 100000 in
theorem m_92 : Cond.methodLink "TileConsole$Processor" 200 y_Q_adjustDecimal ∈ WA := WAm 678 (by decide +kernel) (by decide +kernel)
set_option maxRecDepth 100000 in
theorem m_93 : Cond.methodLink "TileConsole$Processor" 177 y_Q_shifted ∈ WA := WAm 682 (by decide +kernel) (by decide +kernel)
set_option maxRecDepth 100000 in
theorem m_94 : Cond.methodLink "TileConsole$Processor" 121 y_Q_holds ∈ WA := WAm 632 (by decide +kernel) (by decide +kernel)
set_option maxRecDepth 100000 in
theorem m_95 : Cond.methodLink "TileConsole$Processor" 125 y_Q_jump ∈ WA := WAm 636 (by decide +kernel) (by decide +kernel)
set_option maxRecDepth 100000 in
theorem m_96 : Cond.methodLink "TileConsole$Processor" 118 y_P_clearDivider ∈ WA := WAm 631 (by decide +kernel) (by decide +kernel)
set_option maxRecDepth 100000 in
theorem m_97 : Cond.methodLink "TileConsole$Processor" 112 y_Q_fetchWord ∈ WA := WAm 623 (by decide +kernel) (by decide +kernel)
set_option maxRecDepth 100000 in
theorem m_98 : Cond.methodLink "TileConsole$Processor" 115 y_Q_storeStackPointer ∈ WA := WAm 627 (by decide +kernel) (by decide +kernel)
set_option maxRecDepth 100000 in
theorem m_99 : Cond.methodLink "TileConsole$Processor" 132 y_Q_addToHl ∈ WA := WAm 644 (by decide +kernel) (by decide +kernel)
set_option maxRecDepth 100000 in
theorem m_100 : Cond.methodLink "TileConsole$Processor" 135 Lib.Math.min.name ∈ WA := WAm 648 (by decide +kernel) (by decide +kernel)
set_option maxRecDepth 100000 in
theorem m_101 : Cond.static Lib.Math.min.name ∈ WA := WAm 649 (by decide +kernel) (by decide +kernel)
set_option maxRecDepth 100000 in
theorem m_102 : Cond.initialized "java/lang/Math" ∈ WA := WAm 113 (by decide +kernel) (by decide +kernel)
set_option maxRecDepth 100000 in
theorem m_103 : Cond.code Lib.Math.min.name Lib.Math.min.code 2 (some .int) ∈ WA := WAm 650 rfl (by decide +kernel)
set_option maxRecDepth 100000 in
theorem m_104 : Cond.methodLink "TileConsole$Processor" 141 y_Q_copyA ∈ WA := WAm 651 (by decide +kernel) (by decide +kernel)
set_option maxRecDepth 100000 in
theorem m_105 : Cond.methodLink "TileConsole$Processor" 84 y_Q_octetAt ∈ WA := WAm 655 (by decide +kernel) (by decide +kernel)
set_option maxRecDepth 100000 in
theorem m_106 : Cond.methodLink "TileConsole$Processor" 145 y_Q_increased ∈ WA := WAm 659 (by decide +kernel) (by decide +kernel)
set_option maxRecDepth 100000 in
theorem m_107 : Cond.methodLink "TileConsole$Processor" 148 y_Q_setOctet ∈ WA := WAm 666 (by decide +kernel) (by decide +kernel)
set_option maxRecDepth 100000 in
theorem m_108 : Cond.methodLink "TileConsole$Processor" 151 y_Q_decreased ∈ WA := WAm 670 (by decide +kernel) (by decide +kernel)
set_option maxRecDepth 100000 in
theorem m_109 : Cond.methodLink "TileConsole$Processor" 154 y_Q_changeA ∈ WA := WAm 674 (by decide +kernel) (by decide +kernel)
set_option maxRecDepth 100000 in
theorem m_110 : Cond.methodLink "TileConsole$Processor" 191 y_Q_add ∈ WA := WAm 694 (by decide +kernel) (by decide +kernel)
set_option maxRecDepth 100000 in
theorem m_111 : Cond.methodLink "TileConsole$Processor" 194 y_Q_difference ∈ WA := WAm 698 (by decide +kernel) (by decide +kernel)
set_option maxRecDepth 100000 in
theorem m_112 : Cond.methodLink "TileConsole$Processor" 197 y_Q_setLogic ∈ WA := WAm 702 (by decide +kernel) (by decide +kernel)
set_option maxRecDepth 100000 in
theorem m_113 : Cond.methodLink "TileConsole$Processor" 165 y_Q_pop ∈ WA := WAm 718 (by decide +kernel) (by decide +kernel)
set_option maxRecDepth 100000 in
theorem m_114 : Cond.constant "TileConsole$Processor" 164 (65280 : Int32) ∈ WA := WAm 726 (by decide +kernel) (by decide +kernel)
set_option maxRecDepth 100000 in
theorem m_115 : Cond.methodLink "TileConsole$Processor" 161 y_Q_addToStackPointer ∈ WA := WAm 722 (by decide +kernel) (by decide +kernel)
set_option maxRecDepth 100000 in
theorem m_116 : Cond.methodLink "TileConsole$Processor" 157 y_Q_returnIf ∈ WA := WAm 714 (by decide +kernel) (by decide +kernel)
set_option maxRecDepth 100000 in
theorem m_117 : Cond.methodLink "TileConsole$Processor" 168 y_Q_setStackPair ∈ WA := WAm 727 (by decide +kernel) (by decide +kernel)
set_option maxRecDepth 100000 in
theorem m_118 : Cond.methodLink "TileConsole$Processor" 171 y_Q_switchInterrupts ∈ WA := WAm 731 (by decide +kernel) (by decide +kernel)
set_option maxRecDepth 100000 in
theorem m_119 : Cond.methodLink "TileConsole$Processor" 174 y_Q_stackPair ∈ WA := WAm 739 (by decide +kernel) (by decide +kernel)
set_option maxRecDepth 100000 in
theorem m_120 : Cond.methodLink "TileConsole$Processor" 88 y_Q_combine ∈ WA := WAm 690 (by decide +kernel) (by decide +kernel)
set_option maxRecDepth 100000 in
theorem m_121 : Cond.methodLink "TileConsole$Processor" 59 y_P_waiting ∈ WA := WAm 514 (by decide +kernel) (by decide +kernel)
set_option maxRecDepth 100000 in
theorem m_122 : Cond.methodLink "TileConsole$Processor" 68 y_Q_takeInterrupt ∈ WA := WAm 518 (by decide +kernel) (by decide +kernel)
set_option maxRecDepth 100000 in
theorem m_123 : Cond.methodLink "TileConsole$Processor" 78 y_Q_doLow ∈ WA := WAm 619 (by decide +kernel) (by decide +kernel)
set_option maxRecDepth 100000 in
theorem m_124 : Cond.methodLink "TileConsole$Processor" 81 y_Q_doCopy ∈ WA := WAm 686 (by decide +kernel) (by decide +kernel)
set_option maxRecDepth 100000 in
theorem m_125 : Cond.methodLink "TileConsole$Processor" 97 y_Q_doHighest ∈ WA := WAm 735 (by decide +kernel) (by decide +kernel)
set_option maxRecDepth 100000 in
theorem m_126 : Cond.methodLink "TileConsole$Processor" 94 y_Q_doHigh ∈ WA := WAm 710 (by decide +kernel) (by decide +kernel)
set_option maxRecDepth 100000 in
theorem m_127 : Cond.methodLink "TileConsole$Processor" 91 y_Q_doPrefixed ∈ WA := WAm 706 (by decide +kernel) (by decide +kernel)
set_option maxRecDepth 100000 in
theorem m_128 : Cond.methodLink "TileConsole$Processor" 72 y_Q_passHalted ∈ WA := WAm 583 (by decide +kernel) (by decide +kernel)
set_option maxRecDepth 100000 in
theorem m_129 : Cond.methodLink "TileConsole$Processor" 100 y_Q_finish ∈ WA := WAm 743 (by decide +kernel) (by decide +kernel)
set_option maxRecDepth 100000 in
theorem m_130 : Cond.fieldLink "TileConsole$Processor" 55 "TileConsole$Processor" "FACE_ORDER" "[I" ∈ WA := WAm 775 (by decide +kernel) (by decide +kernel)
set_option maxRecDepth 100000 in
theorem m_131 : Cond.fieldLink "TileConsole$Screen" 28 "TileConsole$Screen" "ports" "[I" ∈ WA := WAm 242 (by decide +kernel) (by decide +kernel)
set_option maxRecDepth 100000 in
theorem m_132 : Cond.fieldLink "TileConsole$Screen" 22 "TileConsole$Screen" "video" "[I" ∈ WA := WAm 240 (by decide +kernel) (by decide +kernel)
set_option maxRecDepth 100000 in
theorem m_133 : Cond.fieldLink "TileConsole$Screen" 25 "TileConsole$Screen" "sprites" "[I" ∈ WA := WAm 241 (by decide +kernel) (by decide +kernel)
set_option maxRecDepth 100000 in
theorem m_134 : Cond.methodLink "TileConsole$Screen" 58 y_S_numberAt ∈ WA := WAm 844 (by decide +kernel) (by decide +kernel)
set_option maxRecDepth 100000 in
theorem m_135 : Cond.fieldLink "TileConsole$Screen" 13 "TileConsole$Screen" "aheadNumber" "[I" ∈ WA := WAm 243 (by decide +kernel) (by decide +kernel)
set_option maxRecDepth 100000 in
theorem m_136 : Cond.fieldLink "TileConsole$Screen" 16 "TileConsole$Screen" "aheadX" "[I" ∈ WA := WAm 244 (by decide +kernel) (by decide +kernel)
set_option maxRecDepth 100000 in
theorem m_137 : Cond.fieldLink "TileConsole$Screen" 19 "TileConsole$Screen" "aheadFlags" "[I" ∈ WA := WAm 245 (by decide +kernel) (by decide +kernel)
set_option maxRecDepth 100000 in
theorem m_138 : Cond.methodLink "TileConsole$Screen" 37 y_S_has ∈ WA := WAm 832 (by decide +kernel) (by decide +kernel)
set_option maxRecDepth 100000 in
theorem m_139 : Cond.methodLink "TileConsole$Screen" 61 y_S_placeSprite ∈ WA := WAm 840 (by decide +kernel) (by decide +kernel)
set_option maxRecDepth 100000 in
theorem m_140 : Cond.methodLink "TileConsole$Screen" 54 y_S_mapNumber ∈ WA := WAm 852 (by decide +kernel) (by decide +kernel)
set_option maxRecDepth 100000 in
theorem m_141 : Cond.methodLink "TileConsole$Screen" 41 y_S_chooseSprites ∈ WA := WAm 836 (by decide +kernel) (by decide +kernel)
set_option maxRecDepth 100000 in
theorem m_142 : Cond.methodLink "TileConsole$Screen" 45 y_S_backgroundNumber ∈ WA := WAm 848 (by decide +kernel) (by decide +kernel)
set_option maxRecDepth 100000 in
theorem m_143 : Cond.methodLink "TileConsole$Screen" 49 y_S_colour ∈ WA := WAm 856 (by decide +kernel) (by decide +kernel)
set_option maxRecDepth 100000 in
theorem q_0 : Cond.fieldLink "TileConsoleModel" 16 "TileConsoleModel" "video" "[I" ∈ WA := WAm 918 (by decide +kernel) (by decide +kernel)
set_option maxRecDepth 100000 in
theorem q_1 : Cond.methodLink "TileConsoleModel" 41 y_R_zeros ∈ WA := WAm 911 (by decide +kernel) (by decide +kernel)
set_option maxRecDepth 100000 in
theorem q_2 : Cond.fieldLink "TileConsoleModel" 19 "TileConsoleModel" "work" "[I" ∈ WA := WAm 919 (by decide +kernel) (by decide +kernel)
set_option maxRecDepth 100000 in
theorem q_3 : Cond.fieldLink "TileConsoleModel" 22 "TileConsoleModel" "sprites" "[I" ∈ WA := WAm 920 (by decide +kernel) (by decide +kernel)
set_option maxRecDepth 100000 in
theorem q_4 : Cond.fieldLink "TileConsoleModel" 25 "TileConsoleModel" "top" "[I" ∈ WA := WAm 921 (by decide +kernel) (by decide +kernel)
set_option maxRecDepth 100000 in
theorem q_5 : Cond.fieldLink "TileConsoleModel" 28 "TileConsoleModel" "line" "[I" ∈ WA := WAm 922 (by decide +kernel) (by decide +kernel)
set_option maxRecDepth 100000 in
theorem q_6 : Cond.fieldLink "TileConsoleModel" 45 "TileConsoleModel" "isOn" "Z" ∈ WA := WAm 924 (by decide +kernel) (by decide +kernel)
set_option maxRecDepth 100000 in
theorem q_7 : Cond.fieldLink "TileConsoleModel" 49 "TileConsoleModel" "numberA" "I" ∈ WA := WAm 926 (by decide +kernel) (by decide +kernel)
set_option maxRecDepth 100000 in
theorem q_8 : Cond.fieldLink "TileConsoleModel" 52 "TileConsoleModel" "numberB" "I" ∈ WA := WAm 927 (by decide +kernel) (by decide +kernel)
set_option maxRecDepth 100000 in
theorem q_9 : Cond.fieldLink "TileConsoleModel" 55 "TileConsoleModel" "mode" "I" ∈ WA := WAm 928 (by decide +kernel) (by decide +kernel)
set_option maxRecDepth 100000 in
theorem q_10 : Cond.fieldLink "TileConsoleModel" 58 "TileConsoleModel" "numberN" "I" ∈ WA := WAm 929 (by decide +kernel) (by decide +kernel)
set_option maxRecDepth 100000 in
theorem q_11 : Cond.fieldLink "TileConsoleModel" 61 "TileConsoleModel" "bankOfRam" "I" ∈ WA := WAm 930 (by decide +kernel) (by decide +kernel)
set_option maxRecDepth 100000 in
theorem q_12 : Cond.fieldLink "TileConsoleModel" 64 "TileConsoleModel" "bankTwo" "I" ∈ WA := WAm 931 (by decide +kernel) (by decide +kernel)
set_option maxRecDepth 100000 in
theorem q_13 : Cond.fieldLink "TileConsoleModel" 31 "TileConsoleModel" "\x72" "[I" ∈ WA := WAm 932 (by decide +kernel) (by decide +kernel)
set_option maxRecDepth 100000 in
theorem q_14 : Cond.constant "TileConsoleModel" 67 (65534 : Int32) ∈ WA := WAm 914 (by decide +kernel) (by decide +kernel)
set_option maxRecDepth 100000 in
theorem q_15 : Cond.fieldLink "TileConsoleModel" 68 "TileConsoleModel" "sp" "I" ∈ WA := WAm 933 (by decide +kernel) (by decide +kernel)
set_option maxRecDepth 100000 in
theorem q_16 : Cond.fieldLink "TileConsoleModel" 71 "TileConsoleModel" "pc" "I" ∈ WA := WAm 934 (by decide +kernel) (by decide +kernel)
set_option maxRecDepth 100000 in
theorem q_17 : Cond.fieldLink "TileConsoleModel" 74 "TileConsoleModel" "ime" "Z" ∈ WA := WAm 936 (by decide +kernel) (by decide +kernel)
set_option maxRecDepth 100000 in
theorem q_18 : Cond.fieldLink "TileConsoleModel" 77 "TileConsoleModel" "halts" "Z" ∈ WA := WAm 937 (by decide +kernel) (by decide +kernel)
set_option maxRecDepth 100000 in
theorem q_19 : Cond.fieldLink "TileConsoleModel" 80 "TileConsoleModel" "locked" "Z" ∈ WA := WAm 938 (by decide +kernel) (by decide +kernel)
set_option maxRecDepth 100000 in
theorem q_20 : Cond.fieldLink "TileConsoleModel" 83 "TileConsoleModel" "soon" "Z" ∈ WA := WAm 939 (by decide +kernel) (by decide +kernel)
set_option maxRecDepth 100000 in
theorem q_21 : Cond.fieldLink "TileConsoleModel" 86 "TileConsoleModel" "keysAsked" "I" ∈ WA := WAm 941 (by decide +kernel) (by decide +kernel)
set_option maxRecDepth 100000 in
theorem q_22 : Cond.fieldLink "TileConsoleModel" 89 "TileConsoleModel" "s" "I" ∈ WA := WAm 942 (by decide +kernel) (by decide +kernel)
set_option maxRecDepth 100000 in
theorem q_23 : Cond.fieldLink "TileConsoleModel" 92 "TileConsoleModel" "tima" "I" ∈ WA := WAm 943 (by decide +kernel) (by decide +kernel)
set_option maxRecDepth 100000 in
theorem q_24 : Cond.fieldLink "TileConsoleModel" 95 "TileConsoleModel" "tma" "I" ∈ WA := WAm 944 (by decide +kernel) (by decide +kernel)
set_option maxRecDepth 100000 in
theorem q_25 : Cond.fieldLink "TileConsoleModel" 98 "TileConsoleModel" "tac" "I" ∈ WA := WAm 945 (by decide +kernel) (by decide +kernel)
set_option maxRecDepth 100000 in
theorem q_26 : Cond.fieldLink "TileConsoleModel" 101 "TileConsoleModel" "flags" "I" ∈ WA := WAm 946 (by decide +kernel) (by decide +kernel)
set_option maxRecDepth 100000 in
theorem q_27 : Cond.fieldLink "TileConsoleModel" 104 "TileConsoleModel" "enabled" "I" ∈ WA := WAm 947 (by decide +kernel) (by decide +kernel)
set_option maxRecDepth 100000 in
theorem q_28 : Cond.fieldLink "TileConsoleModel" 107 "TileConsoleModel" "lcdc" "I" ∈ WA := WAm 948 (by decide +kernel) (by decide +kernel)
set_option maxRecDepth 100000 in
theorem q_29 : Cond.fieldLink "TileConsoleModel" 110 "TileConsoleModel" "stat" "I" ∈ WA := WAm 949 (by decide +kernel) (by decide +kernel)
set_option maxRecDepth 100000 in
theorem q_30 : Cond.fieldLink "TileConsoleModel" 113 "TileConsoleModel" "scy" "I" ∈ WA := WAm 950 (by decide +kernel) (by decide +kernel)
set_option maxRecDepth 100000 in
theorem q_31 : Cond.fieldLink "TileConsoleModel" 116 "TileConsoleModel" "scx" "I" ∈ WA := WAm 951 (by decide +kernel) (by decide +kernel)
set_option maxRecDepth 100000 in
theorem q_32 : Cond.fieldLink "TileConsoleModel" 119 "TileConsoleModel" "ly" "I" ∈ WA := WAm 952 (by decide +kernel) (by decide +kernel)
set_option maxRecDepth 100000 in
theorem q_33 : Cond.fieldLink "TileConsoleModel" 122 "TileConsoleModel" "lyc" "I" ∈ WA := WAm 953 (by decide +kernel) (by decide +kernel)
set_option maxRecDepth 100000 in
theorem q_34 : Cond.fieldLink "TileConsoleModel" 125 "TileConsoleModel" "dma" "I" ∈ WA := WAm 954 (by decide +kernel) (by decide +kernel)
set_option maxRecDepth 100000 in
theorem q_35 : Cond.fieldLink "TileConsoleModel" 128 "TileConsoleModel" "bgp" "I" ∈ WA := WAm 955 (by decide +kernel) (by decide +kernel)
set_option maxRecDepth 100000 in
theorem q_36 : Cond.fieldLink "TileConsoleModel" 131 "TileConsoleModel" "obp0" "I" ∈ WA := WAm 956 (by decide +kernel) (by decide +kernel)
set_option maxRecDepth 100000 in
theorem q_37 : Cond.fieldLink "TileConsoleModel" 134 "TileConsoleModel" "obp1" "I" ∈ WA := WAm 957 (by decide +kernel) (by decide +kernel)
set_option maxRecDepth 100000 in
theorem q_38 : Cond.fieldLink "TileConsoleModel" 137 "TileConsoleModel" "wy" "I" ∈ WA := WAm 958 (by decide +kernel) (by decide +kernel)
set_option maxRecDepth 100000 in
theorem q_39 : Cond.fieldLink "TileConsoleModel" 140 "TileConsoleModel" "wx" "I" ∈ WA := WAm 959 (by decide +kernel) (by decide +kernel)
set_option maxRecDepth 100000 in
theorem q_40 : Cond.fieldLink "TileConsoleModel" 143 "TileConsoleModel" "dot" "I" ∈ WA := WAm 960 (by decide +kernel) (by decide +kernel)
set_option maxRecDepth 100000 in
theorem q_41 : Cond.fieldLink "TileConsoleModel" 146 "TileConsoleModel" "signal" "Z" ∈ WA := WAm 961 (by decide +kernel) (by decide +kernel)
set_option maxRecDepth 100000 in
theorem q_42 : Cond.fieldLink "TileConsoleModel" 149 "TileConsoleModel" "cycles" "I" ∈ WA := WAm 962 (by decide +kernel) (by decide +kernel)
set_option maxRecDepth 100000 in
theorem q_43 : Cond.fieldLink "TileConsoleModel" 152 "TileConsoleModel" "instructions" "I" ∈ WA := WAm 963 (by decide +kernel) (by decide +kernel)
set_option maxRecDepth 100000 in
theorem q_44 : Cond.fieldLink "TileConsoleModel" 155 "TileConsoleModel" "interrupts" "I" ∈ WA := WAm 964 (by decide +kernel) (by decide +kernel)
set_option maxRecDepth 100000 in
theorem q_45 : Cond.fieldLink "TileConsoleModel" 158 "TileConsoleModel" "frames" "I" ∈ WA := WAm 965 (by decide +kernel) (by decide +kernel)
set_option maxRecDepth 100000 in
theorem q_46 : Cond.fieldLink "TileConsoleModel" 37 "TileConsoleModel" "err" "I" ∈ WA := WAm 915 (by decide +kernel) (by decide +kernel)
set_option maxRecDepth 100000 in
theorem q_47 : Cond.fieldLink "TileConsoleModel" 161 "TileConsoleModel" "isIn" "Z" ∈ WA := WAm 923 (by decide +kernel) (by decide +kernel)
set_option maxRecDepth 100000 in
theorem q_48 : Cond.fieldLink "TileConsoleModel" 164 "TileConsoleModel" "kind" "I" ∈ WA := WAm 925 (by decide +kernel) (by decide +kernel)
set_option maxRecDepth 100000 in
theorem q_49 : Cond.fieldLink "TileConsoleModel" 167 "TileConsoleModel" "keysDown" "I" ∈ WA := WAm 940 (by decide +kernel) (by decide +kernel)
set_option maxRecDepth 100000 in
theorem q_50 : Cond.methodLink "TileConsoleModel" 170 y_R_keyBits ∈ WA := WAm 1145 (by decide +kernel) (by decide +kernel)
set_option maxRecDepth 100000 in
theorem q_51 : Cond.methodLink "TileConsoleModel" 174 y_R_state ∈ WA := WAm 1149 (by decide +kernel) (by decide +kernel)
set_option maxRecDepth 100000 in
theorem q_52 : Cond.constant "TileConsoleModel" 177 (32768 : Int32) ∈ WA := WAm 1110 (by decide +kernel) (by decide +kernel)
set_option maxRecDepth 100000 in
theorem q_53 : Cond.constant "TileConsoleModel" 181 (40960 : Int32) ∈ WA := WAm 1115 (by decide +kernel) (by decide +kernel)
set_option maxRecDepth 100000 in
theorem q_54 : Cond.constant "TileConsoleModel" 182 (49152 : Int32) ∈ WA := WAm 1116 (by decide +kernel) (by decide +kernel)
set_option maxRecDepth 100000 in
theorem q_55 : Cond.constant "TileConsoleModel" 190 (65024 : Int32) ∈ WA := WAm 1125 (by decide +kernel) (by decide +kernel)
set_option maxRecDepth 100000 in
theorem q_56 : Cond.constant "TileConsoleModel" 191 (65184 : Int32) ∈ WA := WAm 1126 (by decide +kernel) (by decide +kernel)
set_option maxRecDepth 100000 in
theorem q_57 : Cond.constant "TileConsoleModel" 192 (65280 : Int32) ∈ WA := WAm 1128 (by decide +kernel) (by decide +kernel)
set_option maxRecDepth 100000 in
theorem q_58 : Cond.constant "TileConsoleModel" 193 (65408 : Int32) ∈ WA := WAm 1127 (by decide +kernel) (by decide +kernel)
set_option maxRecDepth 100000 in
theorem q_59 : Cond.constant "TileConsoleModel" 194 (65535 : Int32) ∈ WA := WAm 1101 (by decide +kernel) (by decide +kernel)
set_option maxRecDepth 100000 in
theorem q_60 : Cond.methodLink "TileConsoleModel" 195 y_R_port ∈ WA := WAm 1141 (by decide +kernel) (by decide +kernel)
set_option maxRecDepth 100000 in
theorem q_61 : Cond.methodLink "TileConsoleModel" 183 y_R_hasRam ∈ WA := WAm 1117 (by decide +kernel) (by decide +kernel)
set_option maxRecDepth 100000 in
theorem q_62 : Cond.fieldLink "TileConsoleModel" 13 "TileConsoleModel" "ram" "[I" ∈ WA := WAm 917 (by decide +kernel) (by decide +kernel)
set_option maxRecDepth 100000 in
theorem q_63 : Cond.methodLink "TileConsoleModel" 187 y_R_bankRam ∈ WA := WAm 1121 (by decide +kernel) (by decide +kernel)
set_option maxRecDepth 100000 in
theorem q_64 : Cond.fieldLink "TileConsoleModel" 7 "TileConsoleModel" "rom" "[I" ∈ WA := WAm 916 (by decide +kernel) (by decide +kernel)
set_option maxRecDepth 100000 in
theorem q_65 : Cond.methodLink "TileConsoleModel" 178 y_R_bankHigh ∈ WA := WAm 1137 (by decide +kernel) (by decide +kernel)
set_option maxRecDepth 100000 in
theorem q_66 : Cond.methodLink "TileConsoleModel" 199 y_R_get ∈ WA := WAm 1133 (by decide +kernel) (by decide +kernel)
set_option maxRecDepth 100000 in
theorem q_67 : Cond.methodLink "TileConsoleModel" 206 y_R_setPort ∈ WA := WAm 1129 (by decide +kernel) (by decide +kernel)
set_option maxRecDepth 100000 in
theorem q_68 : Cond.methodLink "TileConsoleModel" 202 y_R_controls ∈ WA := WAm 1111 (by decide +kernel) (by decide +kernel)
set_option maxRecDepth 100000 in
theorem q_69 : Cond.fieldLink "TileConsoleModel" 209 "TileConsoleModel" "cost" "I" ∈ WA := WAm 935 (by decide +kernel) (by decide +kernel)
set_option maxRecDepth 100000 in
theorem q_70 : Cond.methodLink "TileConsoleModel" 212 y_R_put ∈ WA := WAm 1106 (by decide +kernel) (by decide +kernel)
set_option maxRecDepth 100000 in
theorem q_71 : Cond.methodLink "TileConsoleModel" 215 y_R_reads ∈ WA := WAm 1157 (by decide +kernel) (by decide +kernel)
set_option maxRecDepth 100000 in
theorem q_72 : Cond.methodLink "TileConsoleModel" 218 y_R_next ∈ WA := WAm 1153 (by decide +kernel) (by decide +kernel)
set_option maxRecDepth 100000 in
theorem q_73 : Cond.methodLink "TileConsoleModel" 221 y_R_pair ∈ WA := WAm 1188 (by decide +kernel) (by decide +kernel)
set_option maxRecDepth 100000 in
theorem q_74 : Cond.methodLink "TileConsoleModel" 224 y_R_writes ∈ WA := WAm 1102 (by decide +kernel) (by decide +kernel)
set_option maxRecDepth 100000 in
theorem q_75 : Cond.methodLink "TileConsoleModel" 227 y_R_is ∈ WA := WAm 1176 (by decide +kernel) (by decide +kernel)
set_option maxRecDepth 100000 in
theorem q_76 : Cond.methodLink "TileConsoleModel" 231 y_R_flagged ∈ WA := WAm 1212 (by decide +kernel) (by decide +kernel)
set_option maxRecDepth 100000 in
theorem q_77 : Cond.methodLink "TileConsoleModel" 235 y_R_push ∈ WA := WAm 1097 (by decide +kernel) (by decide +kernel)
set_option maxRecDepth 100000 in
theorem q_78 : Cond.methodLink "TileConsoleModel" 268 y_R_adjusts ∈ WA := WAm 1208 (by decide +kernel) (by decide +kernel)
set_option maxRecDepth 100000 in
theorem q_79 : Cond.methodLink "TileConsoleModel" 255 y_R_flag ∈ WA := WAm 1192 (by decide +kernel) (by decide +kernel)
set_option maxRecDepth 100000 in
theorem q_80 : Cond.methodLink "TileConsoleModel" 271 y_R_turned ∈ WA := WAm 1216 (by decide +kernel) (by decide +kernel)
set_option maxRecDepth 100000 in
theorem q_81 : Cond.methodLink "TileConsoleModel" 242 y_R_signed ∈ WA := WAm 1169 (by decide +kernel) (by decide +kernel)
set_option maxRecDepth 100000 in
theorem q_82 : Cond.methodLink "TileConsoleModel" 245 y_R_holds ∈ WA := WAm 1172 (by decide +kernel) (by decide +kernel)
set_option maxRecDepth 100000 in
theorem q_83 : Cond.methodLink "TileConsoleModel" 248 y_R_jumps ∈ WA := WAm 1180 (by decide +kernel) (by decide +kernel)
set_option maxRecDepth 100000 in
theorem q_84 : Cond.methodLink "TileConsoleModel" 239 y_R_nextWord ∈ WA := WAm 1165 (by decide +kernel) (by decide +kernel)
set_option maxRecDepth 100000 in
theorem q_85 : Cond.methodLink "TileConsoleModel" 252 y_R_setPair ∈ WA := WAm 1184 (by decide +kernel) (by decide +kernel)
set_option maxRecDepth 100000 in
theorem q_86 : Cond.methodLink "TileConsoleModel" 259 y_R_operand ∈ WA := WAm 1196 (by decide +kernel) (by decide +kernel)
set_option maxRecDepth 100000 in
theorem q_87 : Cond.methodLink "TileConsoleModel" 262 y_R_setOperand ∈ WA := WAm 1200 (by decide +kernel) (by decide +kernel)
set_option maxRecDepth 100000 in
theorem q_88 : Cond.methodLink "TileConsoleModel" 265 y_R_accumulator ∈ WA := WAm 1204 (by decide +kernel) (by decide +kernel)
set_option maxRecDepth 100000 in
theorem q_89 : Cond.methodLink "TileConsoleModel" 278 y_R_spAnd ∈ WA := WAm 1232 (by decide +kernel) (by decide +kernel)
set_option maxRecDepth 100000 in
theorem q_90 : Cond.methodLink "TileConsoleModel" 275 y_R_pop ∈ WA := WAm 1228 (by decide +kernel) (by decide +kernel)
set_option maxRecDepth 100000 in
theorem q_91 : Cond.methodLink "TileConsoleModel" 281 y_R_bits ∈ WA := WAm 1236 (by decide +kernel) (by decide +kernel)
set_option maxRecDepth 100000 in
theorem q_92 : Cond.methodLink "TileConsoleModel" 284 y_R_calls ∈ WA := WAm 1240 (by decide +kernel) (by decide +kernel)
set_option maxRecDepth 100000 in
theorem q_93 : Cond.methodLink "TileConsoleModel" 287 y_R_reckons ∈ WA := WAm 1220 (by decide +kernel) (by decide +kernel)
set_option maxRecDepth 100000 in
theorem q_94 : Cond.methodLink "TileConsoleModel" 293 y_R_third ∈ WA := WAm 1224 (by decide +kernel) (by decide +kernel)
set_option maxRecDepth 100000 in
theorem q_95 : Cond.methodLink "TileConsoleModel" 290 y_R_first ∈ WA := WAm 1161 (by decide +kernel) (by decide +kernel)
set_option maxRecDepth 100000 in
theorem q_96 : Cond.methodLink "TileConsoleModel" 296 y_R_isSignal ∈ WA := WAm 1248 (by decide +kernel) (by decide +kernel)
set_option maxRecDepth 100000 in
theorem q_97 : Cond.methodLink "TileConsoleModel" 299 y_R_in ∈ WA := WAm 1077 (by decide +kernel) (by decide +kernel)
set_option maxRecDepth 100000 in
theorem q_98 : Cond.methodLink "TileConsoleModel" 303 y_R_fails ∈ WA := WAm 1080 (by decide +kernel) (by decide +kernel)
set_option maxRecDepth 100000 in
theorem q_99 : Cond.constantLong "TileConsoleModel" 307 (255 : Int64) ∈ WA := WAm 1084 (by decide +kernel) (by decide +kernel)
set_option maxRecDepth 100000 in
theorem q_100 : Cond.methodLink "TileConsoleModel" 34 y_R_reset ∈ WA := WAm 907 (by decide +kernel) (by decide +kernel)
set_option maxRecDepth 100000 in
theorem q_101 : Cond.methodLink "TileConsoleModel" 309 y_R_step ∈ WA := WAm 1093 (by decide +kernel) (by decide +kernel)
set_option maxRecDepth 100000 in
theorem q_102 : Cond.methodLink "TileConsoleModel" 312 y_R_cycle ∈ WA := WAm 1244 (by decide +kernel) (by decide +kernel)
set_option maxRecDepth 100000 in
theorem q_103 : Cond.methodLink "TileConsoleModel" 315 y_R_registerAt ∈ WA := WAm 1256 (by decide +kernel) (by decide +kernel)
set_option maxRecDepth 100000 in
theorem q_104 : Cond.constant "TileConsoleModel" 318 (65536 : Int32) ∈ WA := WAm 1272 (by decide +kernel) (by decide +kernel)
set_option maxRecDepth 100000 in
theorem q_105 : Cond.constant "TileConsoleModel" 320 (38912 : Int32) ∈ WA := WAm 1286 (by decide +kernel) (by decide +kernel)
set_option maxRecDepth 100000 in
theorem q_106 : Cond.constant "TileConsoleModel" 319 (39936 : Int32) ∈ WA := WAm 1285 (by decide +kernel) (by decide +kernel)
set_option maxRecDepth 100000 in
theorem q_107 : Cond.constant "TileConsoleModel" 321 (36864 : Int32) ∈ WA := WAm 1287 (by decide +kernel) (by decide +kernel)
set_option maxRecDepth 100000 in
theorem q_108 : Cond.methodLink "TileConsoleModel" 322 y_R_dots ∈ WA := WAm 1288 (by decide +kernel) (by decide +kernel)
set_option maxRecDepth 100000 in
theorem q_109 : Cond.methodLink "TileConsoleModel" 325 y_R_number ∈ WA := WAm 1296 (by decide +kernel) (by decide +kernel)
set_option maxRecDepth 100000 in
theorem q_110 : Cond.methodLink "TileConsoleModel" 329 y_R_background ∈ WA := WAm 1281 (by decide +kernel) (by decide +kernel)
set_option maxRecDepth 100000 in
theorem q_111 : Cond.methodLink "TileConsoleModel" 332 y_R_sprite ∈ WA := WAm 1292 (by decide +kernel) (by decide +kernel)
set_option maxRecDepth 100000 in
theorem q_112 : Cond.constantDouble "TileConsoleModel" 335 (4697254411347427328 : UInt64) ∈ WA := WAm 1312 (by decide +kernel) (by decide +kernel)
set_option maxRecDepth 100000 in
theorem mw_K_settle : Mw y_K_settle "TileConsole$Cartridge" b_K_settle 1 none 0 := ⟨WAm 323 (by decide +kernel) (by decide +kernel), WAm 1 (by decide +kernel) (by decide +kernel), WAm 100 (by decide +kernel) (by decide +kernel), WAm 324 rfl (by decide +kernel), by decide +kernel⟩
set_option maxRecDepth 100000 in
theorem mw_K_reset : Mw y_K_reset "TileConsole$Cartridge" b_K_reset 1 none 0 := ⟨WAm 318 (by decide +kernel) (by decide +kernel), WAm 319 (by decide +kernel) (by decide +kernel), WAm 100 (by decide +kernel) (by decide +kernel), WAm 320 rfl (by decide +kernel), by decide +kernel⟩
set_option maxRecDepth 100000 in
theorem mw_P_findState : Mw y_P_findState "TileConsole$Ports" b_P_findState 1 none 0 := ⟨WAm 334 (by decide +kernel) (by decide +kernel), WAm 2 (by decide +kernel) (by decide +kernel), WAm 101 (by decide +kernel) (by decide +kernel), WAm 335 rfl (by decide +kernel), by decide +kernel⟩
set_option maxRecDepth 100000 in
theorem mw_A_fill : Ms y_A_fill b_A_fill 4 none 2 := ⟨WAm 330 (by decide +kernel) (by decide +kernel), WAm 105 (by decide +kernel) (by decide +kernel), WAm 331 rfl (by decide +kernel), by decide +kernel⟩
set_option maxRecDepth 100000 in
theorem mw_P_reset : Mw y_P_reset "TileConsole$Ports" b_P_reset 1 none 0 := ⟨WAm 326 (by decide +kernel) (by decide +kernel), WAm 327 (by decide +kernel) (by decide +kernel), WAm 101 (by decide +kernel) (by decide +kernel), WAm 328 rfl (by decide +kernel), by decide +kernel⟩
set_option maxRecDepth 100000 in
theorem mw_Y_reset : Mw y_Y_reset "TileConsole$Memory" b_Y_reset 1 none 0 := ⟨WAm 337 (by decide +kernel) (by decide +kernel), WAm 338 (by decide +kernel) (by decide +kernel), WAm 102 (by decide +kernel) (by decide +kernel), WAm 339 rfl (by decide +kernel), by decide +kernel⟩
set_option maxRecDepth 100000 in
theorem mw_S_reset : Mw y_S_reset "TileConsole$Screen" b_S_reset 1 none 0 := ⟨WAm 342 (by decide +kernel) (by decide +kernel), WAm 343 (by decide +kernel) (by decide +kernel), WAm 103 (by decide +kernel) (by decide +kernel), WAm 344 rfl (by decide +kernel), by decide +kernel⟩
set_option maxRecDepth 100000 in
theorem mw_Q_setPair : Mw y_Q_setPair "TileConsole$Processor" b_Q_setPair 3 none 2 := ⟨WAm 352 (by decide +kernel) (by decide +kernel), WAm 3 (by decide +kernel) (by decide +kernel), WAm 104 (by decide +kernel) (by decide +kernel), WAm 353 rfl (by decide +kernel), by decide +kernel⟩
set_option maxRecDepth 100000 in
theorem mw_Q_reset : Mw y_Q_reset "TileConsole$Processor" b_Q_reset 1 none 0 := ⟨WAm 347 (by decide +kernel) (by decide +kernel), WAm 348 (by decide +kernel) (by decide +kernel), WAm 104 (by decide +kernel) (by decide +kernel), WAm 349 rfl (by decide +kernel), by decide +kernel⟩
set_option maxRecDepth 100000 in
theorem mw_T_startAnew : Mw y_T_startAnew "TileConsole" b_T_startAnew 1 none 0 := ⟨WAm 315 (by decide +kernel) (by decide +kernel), WAm 0 (by decide +kernel) (by decide +kernel), WAm 99 (by decide +kernel) (by decide +kernel), WAm 316 rfl (by decide +kernel), by decide +kernel⟩
set_option maxRecDepth 100000 in
theorem mw_T_octetOf : Ms y_T_octetOf b_T_octetOf 3 (some .int) 2 := ⟨WAm 469 (by decide +kernel) (by decide +kernel), WAm 99 (by decide +kernel) (by decide +kernel), WAm 470 rfl (by decide +kernel), by decide +kernel⟩
set_option maxRecDepth 100000 in
theorem mw_K_headerAgrees : Mw y_K_headerAgrees "TileConsole$Cartridge" b_K_headerAgrees 3 (some .boolean) 0 := ⟨WAm 481 (by decide +kernel) (by decide +kernel), WAm 482 (by decide +kernel) (by decide +kernel), WAm 100 (by decide +kernel) (by decide +kernel), WAm 483 rfl (by decide +kernel), by decide +kernel⟩
set_option maxRecDepth 100000 in
theorem mw_P_waiting : Mw y_P_waiting "TileConsole$Ports" b_P_waiting 1 (some .int) 0 := ⟨WAm 515 (by decide +kernel) (by decide +kernel), WAm 516 (by decide +kernel) (by decide +kernel), WAm 101 (by decide +kernel) (by decide +kernel), WAm 517 rfl (by decide +kernel), by decide +kernel⟩
set_option maxRecDepth 100000 in
theorem mw_K_controlOne : Mw y_K_controlOne "TileConsole$Cartridge" b_K_controlOne 3 none 2 := ⟨WAm 537 (by decide +kernel) (by decide +kernel), WAm 7 (by decide +kernel) (by decide +kernel), WAm 100 (by decide +kernel) (by decide +kernel), WAm 538 rfl (by decide +kernel), by decide +kernel⟩
set_option maxRecDepth 100000 in
theorem mw_K_controlTwo : Mw y_K_controlTwo "TileConsole$Cartridge" b_K_controlTwo 3 none 2 := ⟨WAm 541 (by decide +kernel) (by decide +kernel), WAm 8 (by decide +kernel) (by decide +kernel), WAm 100 (by decide +kernel) (by decide +kernel), WAm 542 rfl (by decide +kernel), by decide +kernel⟩
set_option maxRecDepth 100000 in
theorem mw_K_controlThree : Mw y_K_controlThree "TileConsole$Cartridge" b_K_controlThree 3 none 2 := ⟨WAm 545 (by decide +kernel) (by decide +kernel), WAm 9 (by decide +kernel) (by decide +kernel), WAm 100 (by decide +kernel) (by decide +kernel), WAm 546 rfl (by decide +kernel), by decide +kernel⟩
set_option maxRecDepth 100000 in
theorem mw_K_control : Mw y_K_control "TileConsole$Cartridge" b_K_control 3 none 2 := ⟨WAm 532 (by decide +kernel) (by decide +kernel), WAm 533 (by decide +kernel) (by decide +kernel), WAm 100 (by decide +kernel) (by decide +kernel), WAm 534 rfl (by decide +kernel), by decide +kernel⟩
set_option maxRecDepth 100000 in
theorem mw_K_storeRam : Mw y_K_storeRam "TileConsole$Cartridge" b_K_storeRam 3 none 2 := ⟨WAm 550 (by decide +kernel) (by decide +kernel), WAm 551 (by decide +kernel) (by decide +kernel), WAm 100 (by decide +kernel) (by decide +kernel), WAm 552 rfl (by decide +kernel), by decide +kernel⟩
set_option maxRecDepth 100000 in
theorem mw_P_clearDivider : Mw y_P_clearDivider "TileConsole$Ports" b_P_clearDivider 1 none 0 := ⟨WAm 563 (by decide +kernel) (by decide +kernel), WAm 564 (by decide +kernel) (by decide +kernel), WAm 101 (by decide +kernel) (by decide +kernel), WAm 565 rfl (by decide +kernel), by decide +kernel⟩
set_option maxRecDepth 100000 in
theorem mw_P_store : Mw y_P_store "TileConsole$Ports" b_P_store 3 none 2 := ⟨WAm 559 (by decide +kernel) (by decide +kernel), WAm 560 (by decide +kernel) (by decide +kernel), WAm 101 (by decide +kernel) (by decide +kernel), WAm 561 rfl (by decide +kernel), by decide +kernel⟩
set_option maxRecDepth 100000 in
theorem mw_K_loadRom : Mw y_K_loadRom "TileConsole$Cartridge" b_K_loadRom 3 (some .int) 1 := ⟨WAm 572 (by decide +kernel) (by decide +kernel), WAm 573 (by decide +kernel) (by decide +kernel), WAm 100 (by decide +kernel) (by decide +kernel), WAm 574 rfl (by decide +kernel), by decide +kernel⟩
set_option maxRecDepth 100000 in
theorem mw_K_loadRam : Mw y_K_loadRam "TileConsole$Cartridge" b_K_loadRam 3 (some .int) 1 := ⟨WAm 576 (by decide +kernel) (by decide +kernel), WAm 577 (by decide +kernel) (by decide +kernel), WAm 100 (by decide +kernel) (by decide +kernel), WAm 578 rfl (by decide +kernel), by decide +kernel⟩
set_option maxRecDepth 100000 in
theorem mw_P_load : Mw y_P_load "TileConsole$Ports" b_P_load 4 (some .int) 1 := ⟨WAm 580 (by decide +kernel) (by decide +kernel), WAm 581 (by decide +kernel) (by decide +kernel), WAm 101 (by decide +kernel) (by decide +kernel), WAm 582 rfl (by decide +kernel), by decide +kernel⟩
set_option maxRecDepth 100000 in
theorem mw_Y_load : Mw y_Y_load "TileConsole$Memory" b_Y_load 2 (some .int) 1 := ⟨WAm 568 (by decide +kernel) (by decide +kernel), WAm 569 (by decide +kernel) (by decide +kernel), WAm 102 (by decide +kernel) (by decide +kernel), WAm 570 rfl (by decide +kernel), by decide +kernel⟩
set_option maxRecDepth 100000 in
theorem mw_Y_store : Mw y_Y_store "TileConsole$Memory" b_Y_store 4 none 2 := ⟨WAm 527 (by decide +kernel) (by decide +kernel), WAm 528 (by decide +kernel) (by decide +kernel), WAm 102 (by decide +kernel) (by decide +kernel), WAm 529 rfl (by decide +kernel), by decide +kernel⟩
set_option maxRecDepth 100000 in
theorem mw_Q_push : Mw y_Q_push "TileConsole$Processor" b_Q_push 2 none 1 := ⟨WAm 524 (by decide +kernel) (by decide +kernel), WAm 6 (by decide +kernel) (by decide +kernel), WAm 104 (by decide +kernel) (by decide +kernel), WAm 525 rfl (by decide +kernel), by decide +kernel⟩
set_option maxRecDepth 100000 in
theorem mw_Q_takeInterrupt : Mw y_Q_takeInterrupt "TileConsole$Processor" b_Q_takeInterrupt 3 none 1 := ⟨WAm 520 (by decide +kernel) (by decide +kernel), WAm 5 (by decide +kernel) (by decide +kernel), WAm 104 (by decide +kernel) (by decide +kernel), WAm 521 rfl (by decide +kernel), by decide +kernel⟩
set_option maxRecDepth 100000 in
theorem mw_P_moveTimer : Mw y_P_moveTimer "TileConsole$Ports" b_P_moveTimer 2 none 0 := ⟨WAm 594 (by decide +kernel) (by decide +kernel), WAm 11 (by decide +kernel) (by decide +kernel), WAm 101 (by decide +kernel) (by decide +kernel), WAm 595 rfl (by decide +kernel), by decide +kernel⟩
set_option maxRecDepth 100000 in
theorem mw_P_moveDot : Mw y_P_moveDot "TileConsole$Ports" b_P_moveDot 1 none 0 := ⟨WAm 600 (by decide +kernel) (by decide +kernel), WAm 12 (by decide +kernel) (by decide +kernel), WAm 101 (by decide +kernel) (by decide +kernel), WAm 601 rfl (by decide +kernel), by decide +kernel⟩
set_option maxRecDepth 100000 in
theorem mw_P_rowSignals : Mw y_P_rowSignals "TileConsole$Ports" b_P_rowSignals 1 (some .boolean) 0 := ⟨WAm 608 (by decide +kernel) (by decide +kernel), WAm 14 (by decide +kernel) (by decide +kernel), WAm 101 (by decide +kernel) (by decide +kernel), WAm 609 rfl (by decide +kernel), by decide +kernel⟩
set_option maxRecDepth 100000 in
theorem mw_P_stateSignals : Mw y_P_stateSignals "TileConsole$Ports" b_P_stateSignals 1 (some .boolean) 0 := ⟨WAm 612 (by decide +kernel) (by decide +kernel), WAm 15 (by decide +kernel) (by decide +kernel), WAm 101 (by decide +kernel) (by decide +kernel), WAm 613 rfl (by decide +kernel), by decide +kernel⟩
set_option maxRecDepth 100000 in
theorem mw_P_lookAtSignal : Mw y_P_lookAtSignal "TileConsole$Ports" b_P_lookAtSignal 2 none 0 := ⟨WAm 604 (by decide +kernel) (by decide +kernel), WAm 13 (by decide +kernel) (by decide +kernel), WAm 101 (by decide +kernel) (by decide +kernel), WAm 605 rfl (by decide +kernel), by decide +kernel⟩
set_option maxRecDepth 100000 in
theorem mw_P_pass : Mw y_P_pass "TileConsole$Ports" b_P_pass 3 none 1 := ⟨WAm 588 (by decide +kernel) (by decide +kernel), WAm 589 (by decide +kernel) (by decide +kernel), WAm 101 (by decide +kernel) (by decide +kernel), WAm 590 rfl (by decide +kernel), by decide +kernel⟩
set_option maxRecDepth 100000 in
theorem mw_Q_passHalted : Mw y_Q_passHalted "TileConsole$Processor" b_Q_passHalted 1 none 0 := ⟨WAm 585 (by decide +kernel) (by decide +kernel), WAm 10 (by decide +kernel) (by decide +kernel), WAm 104 (by decide +kernel) (by decide +kernel), WAm 586 rfl (by decide +kernel), by decide +kernel⟩
set_option maxRecDepth 100000 in
theorem mw_Q_fetch : Mw y_Q_fetch "TileConsole$Processor" b_Q_fetch 2 (some .int) 0 := ⟨WAm 616 (by decide +kernel) (by decide +kernel), WAm 16 (by decide +kernel) (by decide +kernel), WAm 104 (by decide +kernel) (by decide +kernel), WAm 617 rfl (by decide +kernel), by decide +kernel⟩
set_option maxRecDepth 100000 in
theorem mw_Q_fetchWord : Mw y_Q_fetchWord "TileConsole$Processor" b_Q_fetchWord 2 (some .int) 0 := ⟨WAm 625 (by decide +kernel) (by decide +kernel), WAm 18 (by decide +kernel) (by decide +kernel), WAm 104 (by decide +kernel) (by decide +kernel), WAm 626 rfl (by decide +kernel), by decide +kernel⟩
set_option maxRecDepth 100000 in
theorem mw_Q_storeStackPointer : Mw y_Q_storeStackPointer "TileConsole$Processor" b_Q_storeStackPointer 2 none 1 := ⟨WAm 629 (by decide +kernel) (by decide +kernel), WAm 19 (by decide +kernel) (by decide +kernel), WAm 104 (by decide +kernel) (by decide +kernel), WAm 630 rfl (by decide +kernel), by decide +kernel⟩
set_option maxRecDepth 100000 in
theorem mw_Q_holds : Mw y_Q_holds "TileConsole$Processor" b_Q_holds 3 (some .boolean) 1 := ⟨WAm 634 (by decide +kernel) (by decide +kernel), WAm 20 (by decide +kernel) (by decide +kernel), WAm 104 (by decide +kernel) (by decide +kernel), WAm 635 rfl (by decide +kernel), by decide +kernel⟩
set_option maxRecDepth 100000 in
theorem mw_Q_jump : Mw y_Q_jump "TileConsole$Processor" b_Q_jump 3 none 2 := ⟨WAm 638 (by decide +kernel) (by decide +kernel), WAm 21 (by decide +kernel) (by decide +kernel), WAm 104 (by decide +kernel) (by decide +kernel), WAm 639 rfl (by decide +kernel), by decide +kernel⟩
set_option maxRecDepth 100000 in
theorem mw_Q_pair : Mw y_Q_pair "TileConsole$Processor" b_Q_pair 2 (some .int) 1 := ⟨WAm 642 (by decide +kernel) (by decide +kernel), WAm 22 (by decide +kernel) (by decide +kernel), WAm 104 (by decide +kernel) (by decide +kernel), WAm 643 rfl (by decide +kernel), by decide +kernel⟩
set_option maxRecDepth 100000 in
theorem mw_Q_addToHl : Mw y_Q_addToHl "TileConsole$Processor" b_Q_addToHl 5 none 1 := ⟨WAm 646 (by decide +kernel) (by decide +kernel), WAm 23 (by decide +kernel) (by decide +kernel), WAm 104 (by decide +kernel) (by decide +kernel), WAm 647 rfl (by decide +kernel), by decide +kernel⟩
set_option maxRecDepth 100000 in
theorem mw_Q_copyA : Mw y_Q_copyA "TileConsole$Processor" b_Q_copyA 3 none 2 := ⟨WAm 653 (by decide +kernel) (by decide +kernel), WAm 24 (by decide +kernel) (by decide +kernel), WAm 104 (by decide +kernel) (by decide +kernel), WAm 654 rfl (by decide +kernel), by decide +kernel⟩
set_option maxRecDepth 100000 in
theorem mw_Q_octetAt : Mw y_Q_octetAt "TileConsole$Processor" b_Q_octetAt 2 (some .int) 1 := ⟨WAm 657 (by decide +kernel) (by decide +kernel), WAm 25 (by decide +kernel) (by decide +kernel), WAm 104 (by decide +kernel) (by decide +kernel), WAm 658 rfl (by decide +kernel), by decide +kernel⟩
set_option maxRecDepth 100000 in
theorem mw_Q_zero : Ms y_Q_zero b_Q_zero 1 (some .int) 1 := ⟨WAm 664 (by decide +kernel) (by decide +kernel), WAm 104 (by decide +kernel) (by decide +kernel), WAm 665 rfl (by decide +kernel), by decide +kernel⟩
set_option maxRecDepth 100000 in
theorem mw_Q_increased : Mw y_Q_increased "TileConsole$Processor" b_Q_increased 3 (some .int) 1 := ⟨WAm 661 (by decide +kernel) (by decide +kernel), WAm 26 (by decide +kernel) (by decide +kernel), WAm 104 (by decide +kernel) (by decide +kernel), WAm 662 rfl (by decide +kernel), by decide +kernel⟩
set_option maxRecDepth 100000 in
theorem mw_Q_setOctet : Mw y_Q_setOctet "TileConsole$Processor" b_Q_setOctet 3 none 2 := ⟨WAm 668 (by decide +kernel) (by decide +kernel), WAm 27 (by decide +kernel) (by decide +kernel), WAm 104 (by decide +kernel) (by decide +kernel), WAm 669 rfl (by decide +kernel), by decide +kernel⟩
set_option maxRecDepth 100000 in
theorem mw_Q_decreased : Mw y_Q_decreased "TileConsole$Processor" b_Q_decreased 3 (some .int) 1 := ⟨WAm 672 (by decide +kernel) (by decide +kernel), WAm 28 (by decide +kernel) (by decide +kernel), WAm 104 (by decide +kernel) (by decide +kernel), WAm 673 rfl (by decide +kernel), by decide +kernel⟩
set_option maxRecDepth 100000 in
theorem mw_Q_adjustDecimal : Mw y_Q_adjustDecimal "TileConsole$Processor" b_Q_adjustDecimal 6 none 0 := ⟨WAm 680 (by decide +kernel) (by decide +kernel), WAm 30 (by decide +kernel) (by decide +kernel), WAm 104 (by decide +kernel) (by decide +kernel), WAm 681 rfl (by decide +kernel), by decide +kernel⟩
set_option maxRecDepth 100000 in
theorem mw_Q_shifted : Mw y_Q_shifted "TileConsole$Processor" b_Q_shifted 7 (some .int) 2 := ⟨WAm 684 (by decide +kernel) (by decide +kernel), WAm 31 (by decide +kernel) (by decide +kernel), WAm 104 (by decide +kernel) (by decide +kernel), WAm 685 rfl (by decide +kernel), by decide +kernel⟩
set_option maxRecDepth 100000 in
theorem mw_Q_changeA : Mw y_Q_changeA "TileConsole$Processor" b_Q_changeA 3 none 1 := ⟨WAm 676 (by decide +kernel) (by decide +kernel), WAm 29 (by decide +kernel) (by decide +kernel), WAm 104 (by decide +kernel) (by decide +kernel), WAm 677 rfl (by decide +kernel), by decide +kernel⟩
set_option maxRecDepth 100000 in
theorem mw_Q_doLow : Mw y_Q_doLow "TileConsole$Processor" b_Q_doLow 6 none 2 := ⟨WAm 621 (by decide +kernel) (by decide +kernel), WAm 17 (by decide +kernel) (by decide +kernel), WAm 104 (by decide +kernel) (by decide +kernel), WAm 622 rfl (by decide +kernel), by decide +kernel⟩
set_option maxRecDepth 100000 in
theorem mw_Q_doCopy : Mw y_Q_doCopy "TileConsole$Processor" b_Q_doCopy 3 none 2 := ⟨WAm 688 (by decide +kernel) (by decide +kernel), WAm 32 (by decide +kernel) (by decide +kernel), WAm 104 (by decide +kernel) (by decide +kernel), WAm 689 rfl (by decide +kernel), by decide +kernel⟩
set_option maxRecDepth 100000 in
theorem mw_Q_add : Mw y_Q_add "TileConsole$Processor" b_Q_add 6 none 2 := ⟨WAm 696 (by decide +kernel) (by decide +kernel), WAm 34 (by decide +kernel) (by decide +kernel), WAm 104 (by decide +kernel) (by decide +kernel), WAm 697 rfl (by decide +kernel), by decide +kernel⟩
set_option maxRecDepth 100000 in
theorem mw_Q_difference : Mw y_Q_difference "TileConsole$Processor" b_Q_difference 6 (some .int) 2 := ⟨WAm 700 (by decide +kernel) (by decide +kernel), WAm 35 (by decide +kernel) (by decide +kernel), WAm 104 (by decide +kernel) (by decide +kernel), WAm 701 rfl (by decide +kernel), by decide +kernel⟩
set_option maxRecDepth 100000 in
theorem mw_Q_setLogic : Mw y_Q_setLogic "TileConsole$Processor" b_Q_setLogic 3 none 2 := ⟨WAm 704 (by decide +kernel) (by decide +kernel), WAm 36 (by decide +kernel) (by decide +kernel), WAm 104 (by decide +kernel) (by decide +kernel), WAm 705 rfl (by decide +kernel), by decide +kernel⟩
set_option maxRecDepth 100000 in
theorem mw_Q_combine : Mw y_Q_combine "TileConsole$Processor" b_Q_combine 5 none 2 := ⟨WAm 692 (by decide +kernel) (by decide +kernel), WAm 33 (by decide +kernel) (by decide +kernel), WAm 104 (by decide +kernel) (by decide +kernel), WAm 693 rfl (by decide +kernel), by decide +kernel⟩
set_option maxRecDepth 100000 in
theorem mw_Q_doPrefixed : Mw y_Q_doPrefixed "TileConsole$Processor" b_Q_doPrefixed 5 none 0 := ⟨WAm 708 (by decide +kernel) (by decide +kernel), WAm 37 (by decide +kernel) (by decide +kernel), WAm 104 (by decide +kernel) (by decide +kernel), WAm 709 rfl (by decide +kernel), by decide +kernel⟩
set_option maxRecDepth 100000 in
theorem mw_Q_pop : Mw y_Q_pop "TileConsole$Processor" b_Q_pop 2 (some .int) 0 := ⟨WAm 720 (by decide +kernel) (by decide +kernel), WAm 40 (by decide +kernel) (by decide +kernel), WAm 104 (by decide +kernel) (by decide +kernel), WAm 721 rfl (by decide +kernel), by decide +kernel⟩
set_option maxRecDepth 100000 in
theorem mw_Q_returnIf : Mw y_Q_returnIf "TileConsole$Processor" b_Q_returnIf 2 none 1 := ⟨WAm 716 (by decide +kernel) (by decide +kernel), WAm 39 (by decide +kernel) (by decide +kernel), WAm 104 (by decide +kernel) (by decide +kernel), WAm 717 rfl (by decide +kernel), by decide +kernel⟩
set_option maxRecDepth 100000 in
theorem mw_Q_addToStackPointer : Mw y_Q_addToStackPointer "TileConsole$Processor" b_Q_addToStackPointer 5 none 2 := ⟨WAm 724 (by decide +kernel) (by decide +kernel), WAm 41 (by decide +kernel) (by decide +kernel), WAm 104 (by decide +kernel) (by decide +kernel), WAm 725 rfl (by decide +kernel), by decide +kernel⟩
set_option maxRecDepth 100000 in
theorem mw_Q_setStackPair : Mw y_Q_setStackPair "TileConsole$Processor" b_Q_setStackPair 3 none 2 := ⟨WAm 729 (by decide +kernel) (by decide +kernel), WAm 42 (by decide +kernel) (by decide +kernel), WAm 104 (by decide +kernel) (by decide +kernel), WAm 730 rfl (by decide +kernel), by decide +kernel⟩
set_option maxRecDepth 100000 in
theorem mw_Q_switchInterrupts : Mw y_Q_switchInterrupts "TileConsole$Processor" b_Q_switchInterrupts 2 none 1 := ⟨WAm 733 (by decide +kernel) (by decide +kernel), WAm 43 (by decide +kernel) (by decide +kernel), WAm 104 (by decide +kernel) (by decide +kernel), WAm 734 rfl (by decide +kernel), by decide +kernel⟩
set_option maxRecDepth 100000 in
theorem mw_Q_doHigh : Mw y_Q_doHigh "TileConsole$Processor" b_Q_doHigh 4 none 2 := ⟨WAm 712 (by decide +kernel) (by decide +kernel), WAm 38 (by decide +kernel) (by decide +kernel), WAm 104 (by decide +kernel) (by decide +kernel), WAm 713 rfl (by decide +kernel), by decide +kernel⟩
set_option maxRecDepth 100000 in
theorem mw_Q_stackPair : Mw y_Q_stackPair "TileConsole$Processor" b_Q_stackPair 2 (some .int) 1 := ⟨WAm 741 (by decide +kernel) (by decide +kernel), WAm 45 (by decide +kernel) (by decide +kernel), WAm 104 (by decide +kernel) (by decide +kernel), WAm 742 rfl (by decide +kernel), by decide +kernel⟩
set_option maxRecDepth 100000 in
theorem mw_Q_doHighest : Mw y_Q_doHighest "TileConsole$Processor" b_Q_doHighest 4 none 2 := ⟨WAm 737 (by decide +kernel) (by decide +kernel), WAm 44 (by decide +kernel) (by decide +kernel), WAm 104 (by decide +kernel) (by decide +kernel), WAm 738 rfl (by decide +kernel), by decide +kernel⟩
set_option maxRecDepth 100000 in
theorem mw_Q_finish : Mw y_Q_finish "TileConsole$Processor" b_Q_finish 1 none 0 := ⟨WAm 745 (by decide +kernel) (by decide +kernel), WAm 46 (by decide +kernel) (by decide +kernel), WAm 104 (by decide +kernel) (by decide +kernel), WAm 746 rfl (by decide +kernel), by decide +kernel⟩
set_option maxRecDepth 100000 in
theorem mw_Q_step : Mw y_Q_step "TileConsole$Processor" b_Q_step 5 none 0 := ⟨WAm 511 (by decide +kernel) (by decide +kernel), WAm 512 (by decide +kernel) (by decide +kernel), WAm 104 (by decide +kernel) (by decide +kernel), WAm 513 rfl (by decide +kernel), by decide +kernel⟩
set_option maxRecDepth 100000 in
theorem mw_Q_valueOf : Mw y_Q_valueOf "TileConsole$Processor" b_Q_valueOf 2 (some .int) 1 := ⟨WAm 772 (by decide +kernel) (by decide +kernel), WAm 773 (by decide +kernel) (by decide +kernel), WAm 104 (by decide +kernel) (by decide +kernel), WAm 774 rfl (by decide +kernel), by decide +kernel⟩
set_option maxRecDepth 100000 in
theorem mw_Q_put : Mw y_Q_put "TileConsole$Processor" b_Q_put 3 none 2 := ⟨WAm 778 (by decide +kernel) (by decide +kernel), WAm 779 (by decide +kernel) (by decide +kernel), WAm 104 (by decide +kernel) (by decide +kernel), WAm 780 rfl (by decide +kernel), by decide +kernel⟩
set_option maxRecDepth 100000 in
theorem mw_P_press : Mw y_P_press "TileConsole$Ports" b_P_press 3 (some .int) 1 := ⟨WAm 817 (by decide +kernel) (by decide +kernel), WAm 818 (by decide +kernel) (by decide +kernel), WAm 101 (by decide +kernel) (by decide +kernel), WAm 819 rfl (by decide +kernel), by decide +kernel⟩
set_option maxRecDepth 100000 in
theorem mw_S_has : Mw y_S_has "TileConsole$Screen" b_S_has 2 (some .boolean) 1 := ⟨WAm 834 (by decide +kernel) (by decide +kernel), WAm 47 (by decide +kernel) (by decide +kernel), WAm 103 (by decide +kernel) (by decide +kernel), WAm 835 rfl (by decide +kernel), by decide +kernel⟩
set_option maxRecDepth 100000 in
theorem mw_S_numberAt : Mw y_S_numberAt "TileConsole$Screen" b_S_numberAt 5 (some .int) 2 := ⟨WAm 846 (by decide +kernel) (by decide +kernel), WAm 50 (by decide +kernel) (by decide +kernel), WAm 103 (by decide +kernel) (by decide +kernel), WAm 847 rfl (by decide +kernel), by decide +kernel⟩
set_option maxRecDepth 100000 in
theorem mw_S_placeSprite : Mw y_S_placeSprite "TileConsole$Screen" b_S_placeSprite 11 none 3 := ⟨WAm 842 (by decide +kernel) (by decide +kernel), WAm 49 (by decide +kernel) (by decide +kernel), WAm 103 (by decide +kernel) (by decide +kernel), WAm 843 rfl (by decide +kernel), by decide +kernel⟩
set_option maxRecDepth 100000 in
theorem mw_S_chooseSprites : Mw y_S_chooseSprites "TileConsole$Screen" b_S_chooseSprites 6 none 1 := ⟨WAm 838 (by decide +kernel) (by decide +kernel), WAm 48 (by decide +kernel) (by decide +kernel), WAm 103 (by decide +kernel) (by decide +kernel), WAm 839 rfl (by decide +kernel), by decide +kernel⟩
set_option maxRecDepth 100000 in
theorem mw_S_mapNumber : Mw y_S_mapNumber "TileConsole$Screen" b_S_mapNumber 6 (some .int) 3 := ⟨WAm 854 (by decide +kernel) (by decide +kernel), WAm 52 (by decide +kernel) (by decide +kernel), WAm 103 (by decide +kernel) (by decide +kernel), WAm 855 rfl (by decide +kernel), by decide +kernel⟩
set_option maxRecDepth 100000 in
theorem mw_S_backgroundNumber : Mw y_S_backgroundNumber "TileConsole$Screen" b_S_backgroundNumber 5 (some .int) 2 := ⟨WAm 850 (by decide +kernel) (by decide +kernel), WAm 51 (by decide +kernel) (by decide +kernel), WAm 103 (by decide +kernel) (by decide +kernel), WAm 851 rfl (by decide +kernel), by decide +kernel⟩
set_option maxRecDepth 100000 in
theorem mw_S_colour : Mw y_S_colour "TileConsole$Screen" b_S_colour 5 (some .int) 2 := ⟨WAm 858 (by decide +kernel) (by decide +kernel), WAm 53 (by decide +kernel) (by decide +kernel), WAm 103 (by decide +kernel) (by decide +kernel), WAm 859 rfl (by decide +kernel), by decide +kernel⟩
set_option maxRecDepth 100000 in
theorem mw_S_make : Mw y_S_make "TileConsole$Screen" b_S_make 4 (some .int) 1 := ⟨WAm 829 (by decide +kernel) (by decide +kernel), WAm 830 (by decide +kernel) (by decide +kernel), WAm 103 (by decide +kernel) (by decide +kernel), WAm 831 rfl (by decide +kernel), by decide +kernel⟩
set_option maxRecDepth 100000 in
theorem mw_R_zeros : Ms y_R_zeros b_R_zeros 2 none 1 := ⟨WAm 912 (by decide +kernel) (by decide +kernel), WAm 106 (by decide +kernel) (by decide +kernel), WAm 913 rfl (by decide +kernel), by decide +kernel⟩
set_option maxRecDepth 100000 in
theorem mw_R_reset : Mw y_R_reset "TileConsoleModel" b_R_reset 1 none 0 := ⟨WAm 909 (by decide +kernel) (by decide +kernel), WAm 54 (by decide +kernel) (by decide +kernel), WAm 106 (by decide +kernel) (by decide +kernel), WAm 910 rfl (by decide +kernel), by decide +kernel⟩
set_option maxRecDepth 100000 in
theorem mw_R_thrown : Mw y_R_thrown "TileConsoleModel" b_R_thrown 1 (some .int) 0 := ⟨WAm 1070 (by decide +kernel) (by decide +kernel), WAm 1071 (by decide +kernel) (by decide +kernel), WAm 106 (by decide +kernel) (by decide +kernel), WAm 1072 rfl (by decide +kernel), by decide +kernel⟩
set_option maxRecDepth 100000 in
theorem mw_R_in : Ms y_R_in b_R_in 3 (some .boolean) 3 := ⟨WAm 1078 (by decide +kernel) (by decide +kernel), WAm 106 (by decide +kernel) (by decide +kernel), WAm 1079 rfl (by decide +kernel), by decide +kernel⟩
set_option maxRecDepth 100000 in
theorem mw_R_fails : Mw y_R_fails "TileConsoleModel" b_R_fails 3 (some .boolean) 2 := ⟨WAm 1082 (by decide +kernel) (by decide +kernel), WAm 55 (by decide +kernel) (by decide +kernel), WAm 106 (by decide +kernel) (by decide +kernel), WAm 1083 rfl (by decide +kernel), by decide +kernel⟩
set_option maxRecDepth 100000 in
theorem mw_R_bankHigh : Mw y_R_bankHigh "TileConsoleModel" b_R_bankHigh 1 (some .int) 0 := ⟨WAm 1139 (by decide +kernel) (by decide +kernel), WAm 65 (by decide +kernel) (by decide +kernel), WAm 106 (by decide +kernel) (by decide +kernel), WAm 1140 rfl (by decide +kernel), by decide +kernel⟩
set_option maxRecDepth 100000 in
theorem mw_R_bankRam : Mw y_R_bankRam "TileConsoleModel" b_R_bankRam 1 (some .int) 0 := ⟨WAm 1123 (by decide +kernel) (by decide +kernel), WAm 62 (by decide +kernel) (by decide +kernel), WAm 106 (by decide +kernel) (by decide +kernel), WAm 1124 rfl (by decide +kernel), by decide +kernel⟩
set_option maxRecDepth 100000 in
theorem mw_R_hasRam : Mw y_R_hasRam "TileConsoleModel" b_R_hasRam 1 (some .boolean) 0 := ⟨WAm 1119 (by decide +kernel) (by decide +kernel), WAm 61 (by decide +kernel) (by decide +kernel), WAm 106 (by decide +kernel) (by decide +kernel), WAm 1120 rfl (by decide +kernel), by decide +kernel⟩
set_option maxRecDepth 100000 in
theorem mw_R_controls : Mw y_R_controls "TileConsoleModel" b_R_controls 3 none 2 := ⟨WAm 1113 (by decide +kernel) (by decide +kernel), WAm 60 (by decide +kernel) (by decide +kernel), WAm 106 (by decide +kernel) (by decide +kernel), WAm 1114 rfl (by decide +kernel), by decide +kernel⟩
set_option maxRecDepth 100000 in
theorem mw_R_state : Mw y_R_state "TileConsoleModel" b_R_state 1 (some .int) 0 := ⟨WAm 1151 (by decide +kernel) (by decide +kernel), WAm 68 (by decide +kernel) (by decide +kernel), WAm 106 (by decide +kernel) (by decide +kernel), WAm 1152 rfl (by decide +kernel), by decide +kernel⟩
set_option maxRecDepth 100000 in
theorem mw_R_keyBits : Mw y_R_keyBits "TileConsoleModel" b_R_keyBits 3 (some .int) 0 := ⟨WAm 1147 (by decide +kernel) (by decide +kernel), WAm 67 (by decide +kernel) (by decide +kernel), WAm 106 (by decide +kernel) (by decide +kernel), WAm 1148 rfl (by decide +kernel), by decide +kernel⟩
set_option maxRecDepth 100000 in
theorem mw_R_port : Mw y_R_port "TileConsoleModel" b_R_port 2 (some .int) 1 := ⟨WAm 1143 (by decide +kernel) (by decide +kernel), WAm 66 (by decide +kernel) (by decide +kernel), WAm 106 (by decide +kernel) (by decide +kernel), WAm 1144 rfl (by decide +kernel), by decide +kernel⟩
set_option maxRecDepth 100000 in
theorem mw_R_get : Mw y_R_get "TileConsoleModel" b_R_get 2 (some .int) 1 := ⟨WAm 1135 (by decide +kernel) (by decide +kernel), WAm 64 (by decide +kernel) (by decide +kernel), WAm 106 (by decide +kernel) (by decide +kernel), WAm 1136 rfl (by decide +kernel), by decide +kernel⟩
set_option maxRecDepth 100000 in
theorem mw_R_setPort : Mw y_R_setPort "TileConsoleModel" b_R_setPort 4 none 2 := ⟨WAm 1131 (by decide +kernel) (by decide +kernel), WAm 63 (by decide +kernel) (by decide +kernel), WAm 106 (by decide +kernel) (by decide +kernel), WAm 1132 rfl (by decide +kernel), by decide +kernel⟩
set_option maxRecDepth 100000 in
theorem mw_R_put : Mw y_R_put "TileConsoleModel" b_R_put 3 none 2 := ⟨WAm 1108 (by decide +kernel) (by decide +kernel), WAm 59 (by decide +kernel) (by decide +kernel), WAm 106 (by decide +kernel) (by decide +kernel), WAm 1109 rfl (by decide +kernel), by decide +kernel⟩
set_option maxRecDepth 100000 in
theorem mw_R_reads : Mw y_R_reads "TileConsoleModel" b_R_reads 2 (some .int) 1 := ⟨WAm 1159 (by decide +kernel) (by decide +kernel), WAm 70 (by decide +kernel) (by decide +kernel), WAm 106 (by decide +kernel) (by decide +kernel), WAm 1160 rfl (by decide +kernel), by decide +kernel⟩
set_option maxRecDepth 100000 in
theorem mw_R_writes : Mw y_R_writes "TileConsoleModel" b_R_writes 3 none 2 := ⟨WAm 1104 (by decide +kernel) (by decide +kernel), WAm 58 (by decide +kernel) (by decide +kernel), WAm 106 (by decide +kernel) (by decide +kernel), WAm 1105 rfl (by decide +kernel), by decide +kernel⟩
set_option maxRecDepth 100000 in
theorem mw_R_next : Mw y_R_next "TileConsoleModel" b_R_next 2 (some .int) 0 := ⟨WAm 1155 (by decide +kernel) (by decide +kernel), WAm 69 (by decide +kernel) (by decide +kernel), WAm 106 (by decide +kernel) (by decide +kernel), WAm 1156 rfl (by decide +kernel), by decide +kernel⟩
set_option maxRecDepth 100000 in
theorem mw_R_nextWord : Mw y_R_nextWord "TileConsoleModel" b_R_nextWord 2 (some .int) 0 := ⟨WAm 1167 (by decide +kernel) (by decide +kernel), WAm 72 (by decide +kernel) (by decide +kernel), WAm 106 (by decide +kernel) (by decide +kernel), WAm 1168 rfl (by decide +kernel), by decide +kernel⟩
set_option maxRecDepth 100000 in
theorem mw_R_signed : Ms y_R_signed b_R_signed 1 (some .int) 1 := ⟨WAm 1170 (by decide +kernel) (by decide +kernel), WAm 106 (by decide +kernel) (by decide +kernel), WAm 1171 rfl (by decide +kernel), by decide +kernel⟩
set_option maxRecDepth 100000 in
theorem mw_R_pair : Mw y_R_pair "TileConsoleModel" b_R_pair 2 (some .int) 1 := ⟨WAm 1190 (by decide +kernel) (by decide +kernel), WAm 77 (by decide +kernel) (by decide +kernel), WAm 106 (by decide +kernel) (by decide +kernel), WAm 1191 rfl (by decide +kernel), by decide +kernel⟩
set_option maxRecDepth 100000 in
theorem mw_R_setPair : Mw y_R_setPair "TileConsoleModel" b_R_setPair 3 none 2 := ⟨WAm 1186 (by decide +kernel) (by decide +kernel), WAm 76 (by decide +kernel) (by decide +kernel), WAm 106 (by decide +kernel) (by decide +kernel), WAm 1187 rfl (by decide +kernel), by decide +kernel⟩
set_option maxRecDepth 100000 in
theorem mw_R_operand : Mw y_R_operand "TileConsoleModel" b_R_operand 2 (some .int) 1 := ⟨WAm 1198 (by decide +kernel) (by decide +kernel), WAm 79 (by decide +kernel) (by decide +kernel), WAm 106 (by decide +kernel) (by decide +kernel), WAm 1199 rfl (by decide +kernel), by decide +kernel⟩
set_option maxRecDepth 100000 in
theorem mw_R_setOperand : Mw y_R_setOperand "TileConsoleModel" b_R_setOperand 3 none 2 := ⟨WAm 1202 (by decide +kernel) (by decide +kernel), WAm 80 (by decide +kernel) (by decide +kernel), WAm 106 (by decide +kernel) (by decide +kernel), WAm 1203 rfl (by decide +kernel), by decide +kernel⟩
set_option maxRecDepth 100000 in
theorem mw_R_push : Mw y_R_push "TileConsoleModel" b_R_push 2 none 1 := ⟨WAm 1099 (by decide +kernel) (by decide +kernel), WAm 57 (by decide +kernel) (by decide +kernel), WAm 106 (by decide +kernel) (by decide +kernel), WAm 1100 rfl (by decide +kernel), by decide +kernel⟩
set_option maxRecDepth 100000 in
theorem mw_R_pop : Mw y_R_pop "TileConsoleModel" b_R_pop 3 (some .int) 0 := ⟨WAm 1230 (by decide +kernel) (by decide +kernel), WAm 87 (by decide +kernel) (by decide +kernel), WAm 106 (by decide +kernel) (by decide +kernel), WAm 1231 rfl (by decide +kernel), by decide +kernel⟩
set_option maxRecDepth 100000 in
theorem mw_R_is : Mw y_R_is "TileConsoleModel" b_R_is 2 (some .boolean) 1 := ⟨WAm 1178 (by decide +kernel) (by decide +kernel), WAm 74 (by decide +kernel) (by decide +kernel), WAm 106 (by decide +kernel) (by decide +kernel), WAm 1179 rfl (by decide +kernel), by decide +kernel⟩
set_option maxRecDepth 100000 in
theorem mw_R_flag : Mw y_R_flag "TileConsoleModel" b_R_flag 3 none 2 := ⟨WAm 1194 (by decide +kernel) (by decide +kernel), WAm 78 (by decide +kernel) (by decide +kernel), WAm 106 (by decide +kernel) (by decide +kernel), WAm 1195 rfl (by decide +kernel), by decide +kernel⟩
set_option maxRecDepth 100000 in
theorem mw_R_flagged : Mw y_R_flagged "TileConsoleModel" b_R_flagged 5 none 4 := ⟨WAm 1214 (by decide +kernel) (by decide +kernel), WAm 83 (by decide +kernel) (by decide +kernel), WAm 106 (by decide +kernel) (by decide +kernel), WAm 1215 rfl (by decide +kernel), by decide +kernel⟩
set_option maxRecDepth 100000 in
theorem mw_R_holds : Mw y_R_holds "TileConsoleModel" b_R_holds 2 (some .boolean) 1 := ⟨WAm 1174 (by decide +kernel) (by decide +kernel), WAm 73 (by decide +kernel) (by decide +kernel), WAm 106 (by decide +kernel) (by decide +kernel), WAm 1175 rfl (by decide +kernel), by decide +kernel⟩
set_option maxRecDepth 100000 in
theorem mw_R_reckons : Mw y_R_reckons "TileConsoleModel" b_R_reckons 6 none 2 := ⟨WAm 1222 (by decide +kernel) (by decide +kernel), WAm 85 (by decide +kernel) (by decide +kernel), WAm 106 (by decide +kernel) (by decide +kernel), WAm 1223 rfl (by decide +kernel), by decide +kernel⟩
set_option maxRecDepth 100000 in
theorem mw_R_turned : Mw y_R_turned "TileConsoleModel" b_R_turned 6 (some .int) 2 := ⟨WAm 1218 (by decide +kernel) (by decide +kernel), WAm 84 (by decide +kernel) (by decide +kernel), WAm 106 (by decide +kernel) (by decide +kernel), WAm 1219 rfl (by decide +kernel), by decide +kernel⟩
set_option maxRecDepth 100000 in
theorem mw_R_adjusts : Mw y_R_adjusts "TileConsoleModel" b_R_adjusts 5 none 0 := ⟨WAm 1210 (by decide +kernel) (by decide +kernel), WAm 82 (by decide +kernel) (by decide +kernel), WAm 106 (by decide +kernel) (by decide +kernel), WAm 1211 rfl (by decide +kernel), by decide +kernel⟩
set_option maxRecDepth 100000 in
theorem mw_R_jumps : Mw y_R_jumps "TileConsoleModel" b_R_jumps 3 none 2 := ⟨WAm 1182 (by decide +kernel) (by decide +kernel), WAm 75 (by decide +kernel) (by decide +kernel), WAm 106 (by decide +kernel) (by decide +kernel), WAm 1183 rfl (by decide +kernel), by decide +kernel⟩
set_option maxRecDepth 100000 in
theorem mw_R_calls : Mw y_R_calls "TileConsoleModel" b_R_calls 3 none 2 := ⟨WAm 1242 (by decide +kernel) (by decide +kernel), WAm 90 (by decide +kernel) (by decide +kernel), WAm 106 (by decide +kernel) (by decide +kernel), WAm 1243 rfl (by decide +kernel), by decide +kernel⟩
set_option maxRecDepth 100000 in
theorem mw_R_accumulator : Mw y_R_accumulator "TileConsoleModel" b_R_accumulator 2 none 1 := ⟨WAm 1206 (by decide +kernel) (by decide +kernel), WAm 81 (by decide +kernel) (by decide +kernel), WAm 106 (by decide +kernel) (by decide +kernel), WAm 1207 rfl (by decide +kernel), by decide +kernel⟩
set_option maxRecDepth 100000 in
theorem mw_R_first : Mw y_R_first "TileConsoleModel" b_R_first 8 none 2 := ⟨WAm 1163 (by decide +kernel) (by decide +kernel), WAm 71 (by decide +kernel) (by decide +kernel), WAm 106 (by decide +kernel) (by decide +kernel), WAm 1164 rfl (by decide +kernel), by decide +kernel⟩
set_option maxRecDepth 100000 in
theorem mw_R_spAnd : Mw y_R_spAnd "TileConsoleModel" b_R_spAnd 2 (some .int) 0 := ⟨WAm 1234 (by decide +kernel) (by decide +kernel), WAm 88 (by decide +kernel) (by decide +kernel), WAm 106 (by decide +kernel) (by decide +kernel), WAm 1235 rfl (by decide +kernel), by decide +kernel⟩
set_option maxRecDepth 100000 in
theorem mw_R_bits : Mw y_R_bits "TileConsoleModel" b_R_bits 6 none 0 := ⟨WAm 1238 (by decide +kernel) (by decide +kernel), WAm 89 (by decide +kernel) (by decide +kernel), WAm 106 (by decide +kernel) (by decide +kernel), WAm 1239 rfl (by decide +kernel), by decide +kernel⟩
set_option maxRecDepth 100000 in
theorem mw_R_third : Mw y_R_third "TileConsoleModel" b_R_third 6 none 2 := ⟨WAm 1226 (by decide +kernel) (by decide +kernel), WAm 86 (by decide +kernel) (by decide +kernel), WAm 106 (by decide +kernel) (by decide +kernel), WAm 1227 rfl (by decide +kernel), by decide +kernel⟩
set_option maxRecDepth 100000 in
theorem mw_R_step : Mw y_R_step "TileConsoleModel" b_R_step 7 (some .boolean) 0 := ⟨WAm 1095 (by decide +kernel) (by decide +kernel), WAm 56 (by decide +kernel) (by decide +kernel), WAm 106 (by decide +kernel) (by decide +kernel), WAm 1096 rfl (by decide +kernel), by decide +kernel⟩
set_option maxRecDepth 100000 in
theorem mw_R_isSignal : Mw y_R_isSignal "TileConsoleModel" b_R_isSignal 2 (some .boolean) 0 := ⟨WAm 1250 (by decide +kernel) (by decide +kernel), WAm 92 (by decide +kernel) (by decide +kernel), WAm 106 (by decide +kernel) (by decide +kernel), WAm 1251 rfl (by decide +kernel), by decide +kernel⟩
set_option maxRecDepth 100000 in
theorem mw_R_cycle : Mw y_R_cycle "TileConsoleModel" b_R_cycle 3 none 0 := ⟨WAm 1246 (by decide +kernel) (by decide +kernel), WAm 91 (by decide +kernel) (by decide +kernel), WAm 106 (by decide +kernel) (by decide +kernel), WAm 1247 rfl (by decide +kernel), by decide +kernel⟩
set_option maxRecDepth 100000 in
theorem mw_R_rom : Mw y_R_rom "TileConsoleModel" b_R_rom 7 (some .int) 4 := ⟨WAm 1074 (by decide +kernel) (by decide +kernel), WAm 1075 (by decide +kernel) (by decide +kernel), WAm 106 (by decide +kernel) (by decide +kernel), WAm 1076 rfl (by decide +kernel), by decide +kernel⟩
set_option maxRecDepth 100000 in
theorem mw_R_insert : Mw y_R_insert "TileConsoleModel" b_R_insert 4 (some .int) 1 := ⟨WAm 1086 (by decide +kernel) (by decide +kernel), WAm 1087 (by decide +kernel) (by decide +kernel), WAm 106 (by decide +kernel) (by decide +kernel), WAm 1088 rfl (by decide +kernel), by decide +kernel⟩
set_option maxRecDepth 100000 in
theorem mw_R_run : Mw y_R_run "TileConsoleModel" b_R_run 6 (some .int) 1 := ⟨WAm 1090 (by decide +kernel) (by decide +kernel), WAm 1091 (by decide +kernel) (by decide +kernel), WAm 106 (by decide +kernel) (by decide +kernel), WAm 1092 rfl (by decide +kernel), by decide +kernel⟩
set_option maxRecDepth 100000 in
theorem mw_R_registerAt : Mw y_R_registerAt "TileConsoleModel" b_R_registerAt 2 (some .int) 1 := ⟨WAm 1258 (by decide +kernel) (by decide +kernel), WAm 93 (by decide +kernel) (by decide +kernel), WAm 106 (by decide +kernel) (by decide +kernel), WAm 1259 rfl (by decide +kernel), by decide +kernel⟩
set_option maxRecDepth 100000 in
theorem mw_R_set : Mw y_R_set "TileConsoleModel" b_R_set 4 (some .int) 2 := ⟨WAm 1253 (by decide +kernel) (by decide +kernel), WAm 1254 (by decide +kernel) (by decide +kernel), WAm 106 (by decide +kernel) (by decide +kernel), WAm 1255 rfl (by decide +kernel), by decide +kernel⟩
set_option maxRecDepth 100000 in
theorem mw_R_register : Mw y_R_register "TileConsoleModel" b_R_register 2 (some .int) 1 := ⟨WAm 1261 (by decide +kernel) (by decide +kernel), WAm 1262 (by decide +kernel) (by decide +kernel), WAm 106 (by decide +kernel) (by decide +kernel), WAm 1263 rfl (by decide +kernel), by decide +kernel⟩
set_option maxRecDepth 100000 in
theorem mw_R_read : Mw y_R_read "TileConsoleModel" b_R_read 2 (some .int) 1 := ⟨WAm 1265 (by decide +kernel) (by decide +kernel), WAm 1266 (by decide +kernel) (by decide +kernel), WAm 106 (by decide +kernel) (by decide +kernel), WAm 1267 rfl (by decide +kernel), by decide +kernel⟩
set_option maxRecDepth 100000 in
theorem mw_R_write : Mw y_R_write "TileConsoleModel" b_R_write 6 (some .int) 3 := ⟨WAm 1269 (by decide +kernel) (by decide +kernel), WAm 1270 (by decide +kernel) (by decide +kernel), WAm 106 (by decide +kernel) (by decide +kernel), WAm 1271 rfl (by decide +kernel), by decide +kernel⟩
set_option maxRecDepth 100000 in
theorem mw_R_keys : Mw y_R_keys "TileConsoleModel" b_R_keys 3 (some .int) 1 := ⟨WAm 1274 (by decide +kernel) (by decide +kernel), WAm 1275 (by decide +kernel) (by decide +kernel), WAm 106 (by decide +kernel) (by decide +kernel), WAm 1276 rfl (by decide +kernel), by decide +kernel⟩
set_option maxRecDepth 100000 in
theorem mw_R_dots : Mw y_R_dots "TileConsoleModel" b_R_dots 3 (some .int) 2 := ⟨WAm 1290 (by decide +kernel) (by decide +kernel), WAm 95 (by decide +kernel) (by decide +kernel), WAm 106 (by decide +kernel) (by decide +kernel), WAm 1291 rfl (by decide +kernel), by decide +kernel⟩
set_option maxRecDepth 100000 in
theorem mw_R_background : Mw y_R_background "TileConsoleModel" b_R_background 8 (some .int) 2 := ⟨WAm 1283 (by decide +kernel) (by decide +kernel), WAm 94 (by decide +kernel) (by decide +kernel), WAm 106 (by decide +kernel) (by decide +kernel), WAm 1284 rfl (by decide +kernel), by decide +kernel⟩
set_option maxRecDepth 100000 in
theorem mw_R_number : Mw y_R_number "TileConsoleModel" b_R_number 8 (some .int) 4 := ⟨WAm 1298 (by decide +kernel) (by decide +kernel), WAm 97 (by decide +kernel) (by decide +kernel), WAm 106 (by decide +kernel) (by decide +kernel), WAm 1299 rfl (by decide +kernel), by decide +kernel⟩
set_option maxRecDepth 100000 in
theorem mw_R_sprite : Mw y_R_sprite "TileConsoleModel" b_R_sprite 9 (some .int) 2 := ⟨WAm 1294 (by decide +kernel) (by decide +kernel), WAm 96 (by decide +kernel) (by decide +kernel), WAm 106 (by decide +kernel) (by decide +kernel), WAm 1295 rfl (by decide +kernel), by decide +kernel⟩
set_option maxRecDepth 100000 in
theorem mw_R_row : Mw y_R_row "TileConsoleModel" b_R_row 9 (some .int) 1 := ⟨WAm 1278 (by decide +kernel) (by decide +kernel), WAm 1279 (by decide +kernel) (by decide +kernel), WAm 106 (by decide +kernel) (by decide +kernel), WAm 1280 rfl (by decide +kernel), by decide +kernel⟩
set_option maxRecDepth 100000 in
theorem mw_R_pixel : Mw y_R_pixel "TileConsoleModel" b_R_pixel 2 (some .int) 1 := ⟨WAm 1301 (by decide +kernel) (by decide +kernel), WAm 1302 (by decide +kernel) (by decide +kernel), WAm 106 (by decide +kernel) (by decide +kernel), WAm 1303 rfl (by decide +kernel), by decide +kernel⟩
set_option maxRecDepth 100000 in
theorem mw_R_count : Mw y_R_count "TileConsoleModel" b_R_count 2 (some .int) 1 := ⟨WAm 1305 (by decide +kernel) (by decide +kernel), WAm 1306 (by decide +kernel) (by decide +kernel), WAm 106 (by decide +kernel) (by decide +kernel), WAm 1307 rfl (by decide +kernel), by decide +kernel⟩
set_option maxRecDepth 100000 in
theorem mw_R_speed : Mw y_R_speed "TileConsoleModel" b_R_speed 1 (some .double) 0 := ⟨WAm 1309 (by decide +kernel) (by decide +kernel), WAm 1310 (by decide +kernel) (by decide +kernel), WAm 106 (by decide +kernel) (by decide +kernel), WAm 1311 rfl (by decide +kernel), by decide +kernel⟩
