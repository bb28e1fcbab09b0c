-- words of the tables
theorem clL_7 : Cond.classLink RL 7 RX8 ∈ WT := wt_of 58 (by decide +kernel) rfl
theorem clX8_9 : Cond.classLink RX8 9 RX0 ∈ WT := wt_of 66 (by decide +kernel) rfl
theorem clX0_9 : Cond.classLink RX0 9 RX5 ∈ WT := wt_of 72 (by decide +kernel) rfl
theorem flX0_11 : Cond.fieldLink RX0 11 "ManyPens$Book" "slips" "[LManyPens$Slip;" ∈ WT := wt_of 74 (by decide +kernel) rfl
theorem flX4_48 : Cond.fieldLink RX4 48 "ManyPens$Book" "slips" "[LManyPens$Slip;" ∈ WT := wt_of 75 (by decide +kernel) rfl
theorem flX8_141 : Cond.fieldLink RX8 141 "ManyPens$Book" "slips" "[LManyPens$Slip;" ∈ WT := wt_of 76 (by decide +kernel) rfl
theorem flX3_130 : Cond.fieldLink RX3 130 "ManyPens$Book" "slips" "[LManyPens$Slip;" ∈ WT := wt_of 77 (by decide +kernel) rfl
theorem flX0_17 : Cond.fieldLink RX0 17 "ManyPens$Book" "byAge" "[LManyPens$Slip;" ∈ WT := wt_of 78 (by decide +kernel) rfl
theorem flX3_96 : Cond.fieldLink RX3 96 "ManyPens$Book" "byAge" "[LManyPens$Slip;" ∈ WT := wt_of 79 (by decide +kernel) rfl
theorem flX8_218 : Cond.fieldLink RX8 218 "ManyPens$Book" "byAge" "[LManyPens$Slip;" ∈ WT := wt_of 80 (by decide +kernel) rfl
theorem flX0_20 : Cond.fieldLink RX0 20 "ManyPens$Book" "order" "[I" ∈ WT := wt_of 81 (by decide +kernel) rfl
theorem flX3_147 : Cond.fieldLink RX3 147 "ManyPens$Book" "order" "[I" ∈ WT := wt_of 82 (by decide +kernel) rfl
theorem flX0_24 : Cond.fieldLink RX0 24 "ManyPens$Book" "count" "I" ∈ WT := wt_of 83 (by decide +kernel) rfl
theorem flX8_74 : Cond.fieldLink RX8 74 "ManyPens$Book" "count" "I" ∈ WT := wt_of 84 (by decide +kernel) rfl
theorem flX4_43 : Cond.fieldLink RX4 43 "ManyPens$Book" "count" "I" ∈ WT := wt_of 85 (by decide +kernel) rfl
theorem flX3_91 : Cond.fieldLink RX3 91 "ManyPens$Book" "count" "I" ∈ WT := wt_of 86 (by decide +kernel) rfl
theorem flX0_64 : Cond.fieldLink RX0 64 "ManyPens$Book" "orderSize" "I" ∈ WT := wt_of 87 (by decide +kernel) rfl
theorem flX3_146 : Cond.fieldLink RX3 146 "ManyPens$Book" "orderSize" "I" ∈ WT := wt_of 88 (by decide +kernel) rfl
theorem clX8_16 : Cond.classLink RX8 16 RX4 ∈ WT := wt_of 101 (by decide +kernel) rfl
theorem flX5_13 : Cond.fieldLink RX5 13 "ManyPens$Sheet" "pen" "I" ∈ WT := wt_of 111 (by decide +kernel) rfl
theorem flX4_25 : Cond.fieldLink RX4 25 "ManyPens$Sheet" "pen" "I" ∈ WT := wt_of 112 (by decide +kernel) rfl
theorem flX4_9 : Cond.fieldLink RX4 9 "ManyPens$Sheet" "held" "[I" ∈ WT := wt_of 113 (by decide +kernel) rfl
theorem flX8_148 : Cond.fieldLink RX8 148 "ManyPens$Sheet" "held" "[I" ∈ WT := wt_of 114 (by decide +kernel) rfl
theorem flX4_15 : Cond.fieldLink RX4 15 "ManyPens$Sheet" "beside" "[I" ∈ WT := wt_of 115 (by decide +kernel) rfl
theorem flX8_232 : Cond.fieldLink RX8 232 "ManyPens$Sheet" "beside" "[I" ∈ WT := wt_of 116 (by decide +kernel) rfl
theorem flX4_18 : Cond.fieldLink RX4 18 "ManyPens$Sheet" "leans" "[I" ∈ WT := wt_of 117 (by decide +kernel) rfl
theorem flX8_235 : Cond.fieldLink RX8 235 "ManyPens$Sheet" "leans" "[I" ∈ WT := wt_of 118 (by decide +kernel) rfl
theorem flX5_19 : Cond.fieldLink RX5 19 "ManyPens$Sheet" "greatestStamp" "I" ∈ WT := wt_of 119 (by decide +kernel) rfl
theorem flX4_76 : Cond.fieldLink RX4 76 "ManyPens$Sheet" "greatestStamp" "I" ∈ WT := wt_of 120 (by decide +kernel) rfl
theorem flX4_21 : Cond.fieldLink RX4 21 "ManyPens$Sheet" "lastMade" "I" ∈ WT := wt_of 121 (by decide +kernel) rfl
theorem flX5_25 : Cond.fieldLink RX5 25 "ManyPens$Sheet" "lastMade" "I" ∈ WT := wt_of 122 (by decide +kernel) rfl
theorem clX8_25 : Cond.classLink RX8 25 RX3 ∈ WT := wt_of 136 (by decide +kernel) rfl
theorem flX3_33 : Cond.fieldLink RX3 33 "ManyPens$Reading" "book" "LManyPens$Book;" ∈ WT := wt_of 143 (by decide +kernel) rfl
theorem flX3_9 : Cond.fieldLink RX3 9 "ManyPens$Reading" "standing" "[I" ∈ WT := wt_of 144 (by decide +kernel) rfl
theorem flX3_15 : Cond.fieldLink RX3 15 "ManyPens$Reading" "order" "[I" ∈ WT := wt_of 145 (by decide +kernel) rfl
theorem flX8_200 : Cond.fieldLink RX8 200 "ManyPens$Reading" "order" "[I" ∈ WT := wt_of 146 (by decide +kernel) rfl
theorem flX3_18 : Cond.fieldLink RX3 18 "ManyPens$Reading" "spots" "[I" ∈ WT := wt_of 147 (by decide +kernel) rfl
theorem flX3_21 : Cond.fieldLink RX3 21 "ManyPens$Reading" "struck" "[I" ∈ WT := wt_of 148 (by decide +kernel) rfl
theorem flX8_212 : Cond.fieldLink RX8 212 "ManyPens$Reading" "struck" "[I" ∈ WT := wt_of 149 (by decide +kernel) rfl
theorem flX3_24 : Cond.fieldLink RX3 24 "ManyPens$Reading" "ahead" "[I" ∈ WT := wt_of 150 (by decide +kernel) rfl
theorem flX8_209 : Cond.fieldLink RX8 209 "ManyPens$Reading" "ahead" "[I" ∈ WT := wt_of 151 (by decide +kernel) rfl
theorem flX3_27 : Cond.fieldLink RX3 27 "ManyPens$Reading" "seen" "[I" ∈ WT := wt_of 152 (by decide +kernel) rfl
theorem flX3_30 : Cond.fieldLink RX3 30 "ManyPens$Reading" "tints" "[I" ∈ WT := wt_of 153 (by decide +kernel) rfl
theorem flX3_88 : Cond.fieldLink RX3 88 "ManyPens$Reading" "orderSize" "I" ∈ WT := wt_of 154 (by decide +kernel) rfl
theorem flX8_197 : Cond.fieldLink RX8 197 "ManyPens$Reading" "orderSize" "I" ∈ WT := wt_of 155 (by decide +kernel) rfl
theorem flX8_58 : Cond.fieldLink RX8 58 "ManyPens$Reading" "textSize" "I" ∈ WT := wt_of 156 (by decide +kernel) rfl
theorem flX3_65 : Cond.fieldLink RX3 65 "ManyPens$Reading" "textSize" "I" ∈ WT := wt_of 157 (by decide +kernel) rfl
theorem flX8_12 : Cond.fieldLink RX8 12 "ManyPens" "book" "LManyPens$Book;" ∈ WT := wt_of 179 (by decide +kernel) rfl
theorem flX8_18 : Cond.fieldLink RX8 18 "ManyPens" "sheets" "[LManyPens$Sheet;" ∈ WT := wt_of 180 (by decide +kernel) rfl
theorem flX8_30 : Cond.fieldLink RX8 30 "ManyPens" "reading" "LManyPens$Reading;" ∈ WT := wt_of 181 (by decide +kernel) rfl
theorem flX8_34 : Cond.fieldLink RX8 34 "ManyPens" "looks" "[I" ∈ WT := wt_of 182 (by decide +kernel) rfl
theorem flX8_38 : Cond.fieldLink RX8 38 "ManyPens" "finding" "I" ∈ WT := wt_of 183 (by decide +kernel) rfl
theorem clX3_141 : Cond.classLink RX3 141 RX7 ∈ WT := wt_of 223 (by decide +kernel) rfl
theorem clX3_151 : Cond.classLink RX3 151 RX6 ∈ WT := wt_of 235 (by decide +kernel) rfl
theorem clJ7_317 : Cond.classLink RJ7 317 "[I" ∈ WT := wt_of 260 (by decide +kernel) rfl
theorem clX8_72 : Cond.classLink RX8 72 RX2 ∈ WT := wt_of 282 (by decide +kernel) rfl
theorem flX2_9 : Cond.fieldLink RX2 9 "ManyPens$Put" "left" "I" ∈ WT := wt_of 291 (by decide +kernel) rfl
theorem flX0_70 : Cond.fieldLink RX0 70 "ManyPens$Put" "left" "I" ∈ WT := wt_of 292 (by decide +kernel) rfl
theorem flX8_168 : Cond.fieldLink RX8 168 "ManyPens$Put" "left" "I" ∈ WT := wt_of 293 (by decide +kernel) rfl
theorem flX2_15 : Cond.fieldLink RX2 15 "ManyPens$Put" "codes" "[I" ∈ WT := wt_of 294 (by decide +kernel) rfl
theorem flX0_50 : Cond.fieldLink RX0 50 "ManyPens$Put" "codes" "[I" ∈ WT := wt_of 295 (by decide +kernel) rfl
theorem flX5_7 : Cond.fieldLink RX5 7 "ManyPens$Slip" "number" "I" ∈ WT := wt_of 296 (by decide +kernel) rfl
theorem flX4_34 : Cond.fieldLink RX4 34 "ManyPens$Slip" "number" "I" ∈ WT := wt_of 297 (by decide +kernel) rfl
theorem flX3_59 : Cond.fieldLink RX3 59 "ManyPens$Slip" "number" "I" ∈ WT := wt_of 298 (by decide +kernel) rfl
theorem flX2_19 : Cond.fieldLink RX2 19 "ManyPens$Put" "number" "I" ∈ WT := wt_of 299 (by decide +kernel) rfl
theorem flX8_124 : Cond.fieldLink RX8 124 "ManyPens$Slip" "number" "I" ∈ WT := wt_of 301 (by decide +kernel) rfl
theorem flX5_18 : Cond.fieldLink RX5 18 "ManyPens$Slip" "pen" "I" ∈ WT := wt_of 302 (by decide +kernel) rfl
theorem flX8_113 : Cond.fieldLink RX8 113 "ManyPens$Slip" "pen" "I" ∈ WT := wt_of 303 (by decide +kernel) rfl
theorem flX0_53 : Cond.fieldLink RX0 53 "ManyPens$Slip" "pen" "I" ∈ WT := wt_of 304 (by decide +kernel) rfl
theorem flX5_22 : Cond.fieldLink RX5 22 "ManyPens$Slip" "stamp" "I" ∈ WT := wt_of 305 (by decide +kernel) rfl
theorem flX4_79 : Cond.fieldLink RX4 79 "ManyPens$Slip" "stamp" "I" ∈ WT := wt_of 306 (by decide +kernel) rfl
theorem flX8_155 : Cond.fieldLink RX8 155 "ManyPens$Slip" "stamp" "I" ∈ WT := wt_of 307 (by decide +kernel) rfl
theorem flX3_138 : Cond.fieldLink RX3 138 "ManyPens$Slip" "stamp" "I" ∈ WT := wt_of 308 (by decide +kernel) rfl
theorem flX5_28 : Cond.fieldLink RX5 28 "ManyPens$Slip" "prior" "I" ∈ WT := wt_of 309 (by decide +kernel) rfl
theorem flX4_56 : Cond.fieldLink RX4 56 "ManyPens$Slip" "prior" "I" ∈ WT := wt_of 310 (by decide +kernel) rfl
theorem clX0_36 : Cond.classLink RX0 36 RX2 ∈ WT := wt_of 345 (by decide +kernel) rfl
theorem clX8_88 : Cond.classLink RX8 88 RX6 ∈ WT := wt_of 383 (by decide +kernel) rfl
theorem flX6_9 : Cond.fieldLink RX6 9 "ManyPens$Strike" "names" "[I" ∈ WT := wt_of 395 (by decide +kernel) rfl
theorem flX3_157 : Cond.fieldLink RX3 157 "ManyPens$Strike" "names" "[I" ∈ WT := wt_of 396 (by decide +kernel) rfl
theorem clX8_104 : Cond.classLink RX8 104 RX1 ∈ WT := wt_of 415 (by decide +kernel) rfl
theorem flX1_9 : Cond.fieldLink RX1 9 "ManyPens$Mark" "first" "I" ∈ WT := wt_of 421 (by decide +kernel) rfl
theorem flX3_113 : Cond.fieldLink RX3 113 "ManyPens$Mark" "first" "I" ∈ WT := wt_of 422 (by decide +kernel) rfl
theorem flX1_15 : Cond.fieldLink RX1 15 "ManyPens$Mark" "last" "I" ∈ WT := wt_of 423 (by decide +kernel) rfl
theorem flX3_127 : Cond.fieldLink RX3 127 "ManyPens$Mark" "last" "I" ∈ WT := wt_of 424 (by decide +kernel) rfl
theorem flX1_18 : Cond.fieldLink RX1 18 "ManyPens$Mark" "bound" "I" ∈ WT := wt_of 425 (by decide +kernel) rfl
theorem flX8_171 : Cond.fieldLink RX8 171 "ManyPens$Mark" "bound" "I" ∈ WT := wt_of 426 (by decide +kernel) rfl
theorem flX3_124 : Cond.fieldLink RX3 124 "ManyPens$Mark" "bound" "I" ∈ WT := wt_of 427 (by decide +kernel) rfl
theorem flX1_21 : Cond.fieldLink RX1 21 "ManyPens$Mark" "tint" "I" ∈ WT := wt_of 428 (by decide +kernel) rfl
theorem flX3_110 : Cond.fieldLink RX3 110 "ManyPens$Mark" "tint" "I" ∈ WT := wt_of 429 (by decide +kernel) rfl
theorem flX1_24 : Cond.fieldLink RX1 24 "ManyPens$Mark" "on" "Z" ∈ WT := wt_of 430 (by decide +kernel) rfl
theorem flX3_120 : Cond.fieldLink RX3 120 "ManyPens$Mark" "on" "Z" ∈ WT := wt_of 431 (by decide +kernel) rfl
theorem clX8_122 : Cond.classLink RX8 122 RX7 ∈ WT := wt_of 459 (by decide +kernel) rfl
theorem flX7_9 : Cond.fieldLink RX7 9 "ManyPens$Undo" "undone" "I" ∈ WT := wt_of 465 (by decide +kernel) rfl
theorem flX8_174 : Cond.fieldLink RX8 174 "ManyPens$Undo" "undone" "I" ∈ WT := wt_of 466 (by decide +kernel) rfl
theorem flX3_143 : Cond.fieldLink RX3 143 "ManyPens$Undo" "undone" "I" ∈ WT := wt_of 467 (by decide +kernel) rfl
theorem clX3_100 : Cond.classLink RX3 100 RX1 ∈ WT := wt_of 641 (by decide +kernel) rfl
theorem clL_10 : Cond.classLink RL 10 RX9 ∈ WT := wt_of 729 (by decide +kernel) rfl
theorem flX9_7 : Cond.fieldLink RX9 7 "ManyPensModel" "penOf" "[I" ∈ WT := wt_of 735 (by decide +kernel) rfl
theorem flX9_13 : Cond.fieldLink RX9 13 "ManyPensModel" "stampOf" "[I" ∈ WT := wt_of 736 (by decide +kernel) rfl
theorem flX9_16 : Cond.fieldLink RX9 16 "ManyPensModel" "kindOf" "[I" ∈ WT := wt_of 737 (by decide +kernel) rfl
theorem flX9_19 : Cond.fieldLink RX9 19 "ManyPensModel" "sizeOf" "[I" ∈ WT := wt_of 738 (by decide +kernel) rfl
theorem flX9_22 : Cond.fieldLink RX9 22 "ManyPensModel" "signOf" "[I" ∈ WT := wt_of 739 (by decide +kernel) rfl
theorem flX9_25 : Cond.fieldLink RX9 25 "ManyPensModel" "codeOf" "[I" ∈ WT := wt_of 740 (by decide +kernel) rfl
theorem flX9_28 : Cond.fieldLink RX9 28 "ManyPensModel" "linkOf" "[I" ∈ WT := wt_of 741 (by decide +kernel) rfl
theorem flX9_31 : Cond.fieldLink RX9 31 "ManyPensModel" "tintOf" "[I" ∈ WT := wt_of 742 (by decide +kernel) rfl
theorem flX9_34 : Cond.fieldLink RX9 34 "ManyPensModel" "isOn" "[Z" ∈ WT := wt_of 743 (by decide +kernel) rfl
theorem flX9_84 : Cond.fieldLink RX9 84 "ManyPensModel" "slips" "I" ∈ WT := wt_of 744 (by decide +kernel) rfl
theorem flX9_38 : Cond.fieldLink RX9 38 "ManyPensModel" "got" "[Z" ∈ WT := wt_of 745 (by decide +kernel) rfl
theorem flX9_41 : Cond.fieldLink RX9 41 "ManyPensModel" "beside" "[I" ∈ WT := wt_of 746 (by decide +kernel) rfl
theorem flX9_44 : Cond.fieldLink RX9 44 "ManyPensModel" "leanOf" "[I" ∈ WT := wt_of 747 (by decide +kernel) rfl
theorem flX9_80 : Cond.fieldLink RX9 80 "ManyPensModel" "finding" "I" ∈ WT := wt_of 748 (by decide +kernel) rfl
theorem flX9_47 : Cond.fieldLink RX9 47 "ManyPensModel" "taken" "[Z" ∈ WT := wt_of 749 (by decide +kernel) rfl
theorem flX9_50 : Cond.fieldLink RX9 50 "ManyPensModel" "works" "[Z" ∈ WT := wt_of 750 (by decide +kernel) rfl
theorem flX9_53 : Cond.fieldLink RX9 53 "ManyPensModel" "order" "[I" ∈ WT := wt_of 751 (by decide +kernel) rfl
theorem flX9_112 : Cond.fieldLink RX9 112 "ManyPensModel" "orderSize" "I" ∈ WT := wt_of 752 (by decide +kernel) rfl
theorem flX9_56 : Cond.fieldLink RX9 56 "ManyPensModel" "seen" "[Z" ∈ WT := wt_of 753 (by decide +kernel) rfl
theorem flX9_59 : Cond.fieldLink RX9 59 "ManyPensModel" "needed" "[I" ∈ WT := wt_of 754 (by decide +kernel) rfl
theorem flX9_87 : Cond.fieldLink RX9 87 "ManyPensModel" "needs" "I" ∈ WT := wt_of 755 (by decide +kernel) rfl
theorem flX9_62 : Cond.fieldLink RX9 62 "ManyPensModel" "pilePut" "[I" ∈ WT := wt_of 756 (by decide +kernel) rfl
theorem flX9_65 : Cond.fieldLink RX9 65 "ManyPensModel" "pileAt" "[I" ∈ WT := wt_of 757 (by decide +kernel) rfl
theorem flX9_105 : Cond.fieldLink RX9 105 "ManyPensModel" "piled" "I" ∈ WT := wt_of 758 (by decide +kernel) rfl
theorem flX9_68 : Cond.fieldLink RX9 68 "ManyPensModel" "three" "[I" ∈ WT := wt_of 759 (by decide +kernel) rfl
theorem flX9_71 : Cond.fieldLink RX9 71 "ManyPensModel" "other" "[Z" ∈ WT := wt_of 760 (by decide +kernel) rfl
theorem flX9_74 : Cond.fieldLink RX9 74 "ManyPensModel" "firstName" "[I" ∈ WT := wt_of 761 (by decide +kernel) rfl
theorem flX9_77 : Cond.fieldLink RX9 77 "ManyPensModel" "firstTints" "[I" ∈ WT := wt_of 762 (by decide +kernel) rfl
theorem inX8 : Cond.initialized RX8 ∈ WT := wt_of 45 (by decide +kernel) rfl
theorem inX0 : Cond.initialized RX0 ∈ WT := wt_of 46 (by decide +kernel) rfl
theorem inX1 : Cond.initialized RX1 ∈ WT := wt_of 56 (by decide +kernel) rfl
theorem inX2 : Cond.initialized RX2 ∈ WT := wt_of 54 (by decide +kernel) rfl
theorem inX3 : Cond.initialized RX3 ∈ WT := wt_of 49 (by decide +kernel) rfl
theorem inX4 : Cond.initialized RX4 ∈ WT := wt_of 47 (by decide +kernel) rfl
theorem inX5 : Cond.initialized RX5 ∈ WT := wt_of 53 (by decide +kernel) rfl
theorem inX6 : Cond.initialized RX6 ∈ WT := wt_of 55 (by decide +kernel) rfl
theorem inX7 : Cond.initialized RX7 ∈ WT := wt_of 57 (by decide +kernel) rfl
theorem inL : Cond.initialized RL ∈ WT := wt_of 44 (by decide +kernel) rfl
theorem inX9 : Cond.initialized RX9 ∈ WT := wt_of 50 (by decide +kernel) rfl
theorem inJ9 : Cond.initialized RJ9 ∈ WT := wt_of 51 (by decide +kernel) rfl
theorem inJ10 : Cond.initialized RJ10 ∈ WT := wt_of 52 (by decide +kernel) rfl
theorem inJ7 : Cond.initialized RJ7 ∈ WT := wt_of 48 (by decide +kernel) rfl
theorem isX8 : Cond.instantiable RX8 5 ∈ WT := wt_of 59 (by decide +kernel) rfl
theorem isX0 : Cond.instantiable RX0 5 ∈ WT := wt_of 67 (by decide +kernel) rfl
theorem isX4 : Cond.instantiable RX4 6 ∈ WT := wt_of 103 (by decide +kernel) rfl
theorem isX3 : Cond.instantiable RX3 10 ∈ WT := wt_of 137 (by decide +kernel) rfl
theorem isX2 : Cond.instantiable RX2 6 ∈ WT := wt_of 283 (by decide +kernel) rfl
theorem isX6 : Cond.instantiable RX6 5 ∈ WT := wt_of 384 (by decide +kernel) rfl
theorem isX1 : Cond.instantiable RX1 9 ∈ WT := wt_of 416 (by decide +kernel) rfl
theorem isX7 : Cond.instantiable RX7 5 ∈ WT := wt_of 460 (by decide +kernel) rfl
theorem isX9 : Cond.instantiable RX9 28 ∈ WT := wt_of 730 (by decide +kernel) rfl
theorem ac_int : Cond.arrayClass .int ∈ WT := wt_of 100 (by decide +kernel) rfl
theorem ac_boolean : Cond.arrayClass .boolean ∈ WT := wt_of 820 (by decide +kernel) rfl
theorem fwX0 : ∀ w ∈ u_ws RX0 TX0 5, w ∈ WT := by
  have h : (u_ws RX0 TX0 5).all (fun w => decide (w ∈ lw_tbl) && goodWord w) = true := by decide +kernel
  intro w hw
  have h2 := List.all_eq_true.mp h w hw
  simp only [Bool.and_eq_true, decide_eq_true_eq] at h2
  exact List.mem_filter.mpr ⟨h2.1, h2.2⟩
theorem fwX1 : ∀ w ∈ u_ws RX1 TX1 9, w ∈ WT := by
  have h : (u_ws RX1 TX1 9).all (fun w => decide (w ∈ lw_tbl) && goodWord w) = true := by decide +kernel
  intro w hw
  have h2 := List.all_eq_true.mp h w hw
  simp only [Bool.and_eq_true, decide_eq_true_eq] at h2
  exact List.mem_filter.mpr ⟨h2.1, h2.2⟩
theorem fwX2 : ∀ w ∈ u_ws RX2 TX2 6, w ∈ WT := by
  have h : (u_ws RX2 TX2 6).all (fun w => decide (w ∈ lw_tbl) && goodWord w) = true := by decide +kernel
  intro w hw
  have h2 := List.all_eq_true.mp h w hw
  simp only [Bool.and_eq_true, decide_eq_true_eq] at h2
  exact List.mem_filter.mpr ⟨h2.1, h2.2⟩
theorem fwX3 : ∀ w ∈ u_ws RX3 TX3 10, w ∈ WT := by
  have h : (u_ws RX3 TX3 10).all (fun w => decide (w ∈ lw_tbl) && goodWord w) = true := by decide +kernel
  intro w hw
  have h2 := List.all_eq_true.mp h w hw
  simp only [Bool.and_eq_true, decide_eq_true_eq] at h2
  exact List.mem_filter.mpr ⟨h2.1, h2.2⟩
theorem fwX4 : ∀ w ∈ u_ws RX4 TX4 6, w ∈ WT := by
  have h : (u_ws RX4 TX4 6).all (fun w => decide (w ∈ lw_tbl) && goodWord w) = true := by decide +kernel
  intro w hw
  have h2 := List.all_eq_true.mp h w hw
  simp only [Bool.and_eq_true, decide_eq_true_eq] at h2
  exact List.mem_filter.mpr ⟨h2.1, h2.2⟩
theorem fwX6 : ∀ w ∈ u_ws RX6 TX6 5, w ∈ WT := by
  have h : (u_ws RX6 TX6 5).all (fun w => decide (w ∈ lw_tbl) && goodWord w) = true := by decide +kernel
  intro w hw
  have h2 := List.all_eq_true.mp h w hw
  simp only [Bool.and_eq_true, decide_eq_true_eq] at h2
  exact List.mem_filter.mpr ⟨h2.1, h2.2⟩
theorem fwX7 : ∀ w ∈ u_ws RX7 TX7 5, w ∈ WT := by
  have h : (u_ws RX7 TX7 5).all (fun w => decide (w ∈ lw_tbl) && goodWord w) = true := by decide +kernel
  intro w hw
  have h2 := List.all_eq_true.mp h w hw
  simp only [Bool.and_eq_true, decide_eq_true_eq] at h2
  exact List.mem_filter.mpr ⟨h2.1, h2.2⟩
theorem fwX8 : ∀ w ∈ u_ws RX8 TX8 5, w ∈ WT := by
  have h : (u_ws RX8 TX8 5).all (fun w => decide (w ∈ lw_tbl) && goodWord w) = true := by decide +kernel
  intro w hw
  have h2 := List.all_eq_true.mp h w hw
  simp only [Bool.and_eq_true, decide_eq_true_eq] at h2
  exact List.mem_filter.mpr ⟨h2.1, h2.2⟩
theorem fwX9 : ∀ w ∈ u_ws RX9 TX9 28, w ∈ WT := by
  have h : (u_ws RX9 TX9 28).all (fun w => decide (w ∈ lw_tbl) && goodWord w) = true := by decide +kernel
  intro w hw
  have h2 := List.all_eq_true.mp h w hw
  simp only [Bool.and_eq_true, decide_eq_true_eq] at h2
  exact List.mem_filter.mpr ⟨h2.1, h2.2⟩
abbrev jX8_init : MD := (yX8_init, cX8_init, 2, none, { frames := 2, cells := 38, slots := 8798, locals := 45 })
theorem cd_X8_init : cdW jX8_init ∈ WT := wt_of 62 (by decide +kernel) rfl
theorem pn_X8_init : plainName jX8_init.1.cls = true := by decide +kernel
abbrev jX0_init : MD := (yX0_init, cX0_init, 1, none, { frames := 1, cells := 3, slots := 1280, locals := 24 })
theorem cd_X0_init : cdW jX0_init ∈ WT := wt_of 70 (by decide +kernel) rfl
theorem pn_X0_init : plainName jX0_init.1.cls = true := by decide +kernel
abbrev jX4_init : MD := (yX4_init, cX4_init, 2, none, { frames := 1, cells := 3, slots := 262, locals := 24 })
theorem cd_X4_init : cdW jX4_init ∈ WT := wt_of 106 (by decide +kernel) rfl
theorem pn_X4_init : plainName jX4_init.1.cls = true := by decide +kernel
abbrev jJ7_fill_53178 : MD := (yJ7_fill_53178, cJ7_fill_53178, 4, none, { frames := 0, cells := 0, slots := 0, locals := 0 })
theorem cd_J7_fill_53178 : cdW jJ7_fill_53178 ∈ WT := wt_of 110 (by decide +kernel) rfl
theorem pn_J7_fill_53178 : plainName jJ7_fill_53178.1.cls = true := by decide +kernel
abbrev jX3_init : MD := (yX3_init, cX3_init, 2, none, { frames := 1, cells := 7, slots := 5121, locals := 24 })
theorem cd_X3_init : cdW jX3_init ∈ WT := wt_of 140 (by decide +kernel) rfl
theorem pn_X3_init : plainName jX3_init.1.cls = true := by decide +kernel
abbrev jX8_type : MD := (yX8_type, cX8_type, 9, (some FieldType.int), { frames := 5, cells := 3, slots := 12, locals := 111 })
theorem cd_X8_type : cdW jX8_type ∈ WT := wt_of 198 (by decide +kernel) rfl
theorem pn_X8_type : plainName jX8_type.1.cls = true := by decide +kernel
abbrev jX8_sheetOf : MD := (yX8_sheetOf, cX8_sheetOf, 2, (some (FieldType.object "ManyPens$Sheet")), { frames := 0, cells := 0, slots := 0, locals := 0 })
theorem cd_X8_sheetOf : cdW jX8_sheetOf ∈ WT := wt_of 202 (by decide +kernel) rfl
theorem pn_X8_sheetOf : plainName jX8_sheetOf.1.cls = true := by decide +kernel
abbrev jX8_refuse : MD := (yX8_refuse, cX8_refuse, 2, (some FieldType.int), { frames := 0, cells := 0, slots := 0, locals := 0 })
theorem cd_X8_refuse : cdW jX8_refuse ∈ WT := wt_of 206 (by decide +kernel) rfl
theorem pn_X8_refuse : plainName jX8_refuse.1.cls = true := by decide +kernel
abbrev jX3_read : MD := (yX3_read, cX3_read, 3, none, { frames := 3, cells := 0, slots := 0, locals := 67 })
theorem cd_X3_read : cdW jX3_read ∈ WT := wt_of 210 (by decide +kernel) rfl
theorem pn_X3_read : plainName jX3_read.1.cls = true := by decide +kernel
abbrev jX3_findTaken : MD := (yX3_findTaken, cX3_findTaken, 6, none, { frames := 1, cells := 0, slots := 0, locals := 21 })
theorem cd_X3_findTaken : cdW jX3_findTaken ∈ WT := wt_of 214 (by decide +kernel) rfl
theorem pn_X3_findTaken : plainName jX3_findTaken.1.cls = true := by decide +kernel
abbrev jX4_hasTaken : MD := (yX4_hasTaken, cX4_hasTaken, 2, (some FieldType.boolean), { frames := 0, cells := 0, slots := 0, locals := 0 })
theorem cd_X4_hasTaken : cdW jX4_hasTaken ∈ WT := wt_of 218 (by decide +kernel) rfl
theorem pn_X4_hasTaken : plainName jX4_hasTaken.1.cls = true := by decide +kernel
abbrev jX3_findUndone : MD := (yX3_findUndone, cX3_findUndone, 4, none, { frames := 0, cells := 0, slots := 0, locals := 0 })
theorem cd_X3_findUndone : cdW jX3_findUndone ∈ WT := wt_of 222 (by decide +kernel) rfl
theorem pn_X3_findUndone : plainName jX3_findUndone.1.cls = true := by decide +kernel
abbrev jX3_findOrder : MD := (yX3_findOrder, cX3_findOrder, 3, none, { frames := 1, cells := 0, slots := 0, locals := 20 })
theorem cd_X3_findOrder : cdW jX3_findOrder ∈ WT := wt_of 227 (by decide +kernel) rfl
theorem pn_X3_findOrder : plainName jX3_findOrder.1.cls = true := by decide +kernel
abbrev jX8_putOf : MD := (yX8_putOf, cX8_putOf, 1, (some FieldType.int), { frames := 0, cells := 0, slots := 0, locals := 0 })
theorem cd_X8_putOf : cdW jX8_putOf ∈ WT := wt_of 230 (by decide +kernel) rfl
theorem pn_X8_putOf : plainName jX8_putOf.1.cls = true := by decide +kernel
abbrev jX3_findStruck : MD := (yX3_findStruck, cX3_findStruck, 4, none, { frames := 2, cells := 0, slots := 0, locals := 44 })
theorem cd_X3_findStruck : cdW jX3_findStruck ∈ WT := wt_of 234 (by decide +kernel) rfl
theorem pn_X3_findStruck : plainName jX3_findStruck.1.cls = true := by decide +kernel
abbrev jX3_countStruck : MD := (yX3_countStruck, cX3_countStruck, 4, none, { frames := 1, cells := 0, slots := 0, locals := 21 })
theorem cd_X3_countStruck : cdW jX3_countStruck ∈ WT := wt_of 239 (by decide +kernel) rfl
theorem pn_X3_countStruck : plainName jX3_countStruck.1.cls = true := by decide +kernel
abbrev jX3_spotOf : MD := (yX3_spotOf, cX3_spotOf, 2, (some FieldType.int), { frames := 0, cells := 0, slots := 0, locals := 0 })
theorem cd_X3_spotOf : cdW jX3_spotOf ∈ WT := wt_of 243 (by decide +kernel) rfl
theorem pn_X3_spotOf : plainName jX3_spotOf.1.cls = true := by decide +kernel
abbrev jX3_findSeen : MD := (yX3_findSeen, cX3_findSeen, 2, none, { frames := 1, cells := 0, slots := 0, locals := 20 })
theorem cd_X3_findSeen : cdW jX3_findSeen ∈ WT := wt_of 247 (by decide +kernel) rfl
theorem pn_X3_findSeen : plainName jX3_findSeen.1.cls = true := by decide +kernel
abbrev jX8_codesAheadOfNone : MD := (yX8_codesAheadOfNone, cX8_codesAheadOfNone, 5, (some (FieldType.array FieldType.int)), { frames := 2, cells := 2, slots := 6, locals := 46 })
theorem cd_X8_codesAheadOfNone : cdW jX8_codesAheadOfNone ∈ WT := wt_of 250 (by decide +kernel) rfl
theorem pn_X8_codesAheadOfNone : plainName jX8_codesAheadOfNone.1.cls = true := by decide +kernel
abbrev jJ7_copyOf_59c91 : MD := (yJ7_copyOf_59c91, cJ7_copyOf_59c91, 3, (some (FieldType.array FieldType.int)), { frames := 1, cells := 1, slots := 3, locals := 24 })
theorem cd_J7_copyOf_59c91 : cdW jJ7_copyOf_59c91 ∈ WT := wt_of 253 (by decide +kernel) rfl
theorem pn_J7_copyOf_59c91 : plainName jJ7_copyOf_59c91.1.cls = true := by decide +kernel
abbrev jJ9_min_7cf53 : MD := (yJ9_min_7cf53, cJ9_min_7cf53, 2, (some FieldType.int), { frames := 0, cells := 0, slots := 0, locals := 0 })
theorem cd_J9_min_7cf53 : cdW jJ9_min_7cf53 ∈ WT := wt_of 263 (by decide +kernel) rfl
abbrev jX8_arePutCodes : MD := (yX8_arePutCodes, cX8_arePutCodes, 2, (some FieldType.boolean), { frames := 0, cells := 0, slots := 0, locals := 0 })
theorem cd_X8_arePutCodes : cdW jX8_arePutCodes ∈ WT := wt_of 269 (by decide +kernel) rfl
theorem pn_X8_arePutCodes : plainName jX8_arePutCodes.1.cls = true := by decide +kernel
abbrev jX0_isFull : MD := (yX0_isFull, cX0_isFull, 1, (some FieldType.boolean), { frames := 0, cells := 0, slots := 0, locals := 0 })
theorem cd_X0_isFull : cdW jX0_isFull ∈ WT := wt_of 273 (by decide +kernel) rfl
theorem pn_X0_isFull : plainName jX0_isFull.1.cls = true := by decide +kernel
abbrev jX3_nameAt : MD := (yX3_nameAt, cX3_nameAt, 2, (some FieldType.int), { frames := 1, cells := 0, slots := 0, locals := 21 })
theorem cd_X3_nameAt : cdW jX3_nameAt ∈ WT := wt_of 277 (by decide +kernel) rfl
theorem pn_X3_nameAt : plainName jX3_nameAt.1.cls = true := by decide +kernel
abbrev jX3_isPlace : MD := (yX3_isPlace, cX3_isPlace, 2, (some FieldType.boolean), { frames := 0, cells := 0, slots := 0, locals := 0 })
theorem cd_X3_isPlace : cdW jX3_isPlace ∈ WT := wt_of 281 (by decide +kernel) rfl
theorem pn_X3_isPlace : plainName jX3_isPlace.1.cls = true := by decide +kernel
abbrev jX2_init : MD := (yX2_init, cX2_init, 5, none, { frames := 2, cells := 0, slots := 0, locals := 46 })
theorem cd_X2_init : cdW jX2_init ∈ WT := wt_of 286 (by decide +kernel) rfl
theorem pn_X2_init : plainName jX2_init.1.cls = true := by decide +kernel
abbrev jX5_init : MD := (yX5_init, cX5_init, 3, none, { frames := 1, cells := 0, slots := 0, locals := 24 })
theorem cd_X5_init : cdW jX5_init ∈ WT := wt_of 289 (by decide +kernel) rfl
theorem pn_X5_init : plainName jX5_init.1.cls = true := by decide +kernel
abbrev jX8_enter : MD := (yX8_enter, cX8_enter, 3, (some FieldType.int), { frames := 4, cells := 0, slots := 0, locals := 89 })
theorem cd_X8_enter : cdW jX8_enter ∈ WT := wt_of 327 (by decide +kernel) rfl
theorem pn_X8_enter : plainName jX8_enter.1.cls = true := by decide +kernel
abbrev jX0_add : MD := (yX0_add, cX0_add, 3, none, { frames := 3, cells := 0, slots := 0, locals := 67 })
theorem cd_X0_add : cdW jX0_add ∈ WT := wt_of 331 (by decide +kernel) rfl
theorem pn_X0_add : plainName jX0_add.1.cls = true := by decide +kernel
abbrev jX0_insertByAge : MD := (yX0_insertByAge, cX0_insertByAge, 3, none, { frames := 1, cells := 0, slots := 0, locals := 21 })
theorem cd_X0_insertByAge : cdW jX0_insertByAge ∈ WT := wt_of 336 (by decide +kernel) rfl
theorem pn_X0_insertByAge : plainName jX0_insertByAge.1.cls = true := by decide +kernel
abbrev jX5_isLaterThan : MD := (yX5_isLaterThan, cX5_isLaterThan, 2, (some FieldType.boolean), { frames := 0, cells := 0, slots := 0, locals := 0 })
theorem cd_X5_isLaterThan : cdW jX5_isLaterThan ∈ WT := wt_of 344 (by decide +kernel) rfl
theorem pn_X5_isLaterThan : plainName jX5_isLaterThan.1.cls = true := by decide +kernel
abbrev jX0_insertSigns : MD := (yX0_insertSigns, cX0_insertSigns, 5, none, { frames := 2, cells := 0, slots := 0, locals := 43 })
theorem cd_X0_insertSigns : cdW jX0_insertSigns ∈ WT := wt_of 349 (by decide +kernel) rfl
theorem pn_X0_insertSigns : plainName jX0_insertSigns.1.cls = true := by decide +kernel
abbrev jX0_spotFor : MD := (yX0_spotFor, cX0_spotFor, 3, (some FieldType.int), { frames := 1, cells := 0, slots := 0, locals := 21 })
theorem cd_X0_spotFor : cdW jX0_spotFor ∈ WT := wt_of 353 (by decide +kernel) rfl
theorem pn_X0_spotFor : plainName jX0_spotFor.1.cls = true := by decide +kernel
abbrev jX2_nameOf : MD := (yX2_nameOf, cX2_nameOf, 2, (some FieldType.int), { frames := 0, cells := 0, slots := 0, locals := 0 })
theorem cd_X2_nameOf : cdW jX2_nameOf ∈ WT := wt_of 359 (by decide +kernel) rfl
theorem pn_X2_nameOf : plainName jX2_nameOf.1.cls = true := by decide +kernel
abbrev jX4_own : MD := (yX4_own, cX4_own, 2, none, { frames := 2, cells := 0, slots := 0, locals := 42 })
theorem cd_X4_own : cdW jX4_own ∈ WT := wt_of 363 (by decide +kernel) rfl
theorem pn_X4_own : plainName jX4_own.1.cls = true := by decide +kernel
abbrev jX4_take : MD := (yX4_take, cX4_take, 2, none, { frames := 1, cells := 0, slots := 0, locals := 21 })
theorem cd_X4_take : cdW jX4_take ∈ WT := wt_of 367 (by decide +kernel) rfl
theorem pn_X4_take : plainName jX4_take.1.cls = true := by decide +kernel
abbrev jJ9_max_7cf53 : MD := (yJ9_max_7cf53, cJ9_max_7cf53, 2, (some FieldType.int), { frames := 0, cells := 0, slots := 0, locals := 0 })
theorem cd_J9_max_7cf53 : cdW jJ9_max_7cf53 ∈ WT := wt_of 370 (by decide +kernel) rfl
abbrev jX8_done : MD := (yX8_done, cX8_done, 2, (some FieldType.int), { frames := 0, cells := 0, slots := 0, locals := 0 })
theorem cd_X8_done : cdW jX8_done ∈ WT := wt_of 374 (by decide +kernel) rfl
theorem pn_X8_done : plainName jX8_done.1.cls = true := by decide +kernel
abbrev jX8_strike : MD := (yX8_strike, cX8_strike, 5, (some FieldType.int), { frames := 5, cells := 2, slots := 17, locals := 111 })
theorem cd_X8_strike : cdW jX8_strike ∈ WT := wt_of 378 (by decide +kernel) rfl
theorem pn_X8_strike : plainName jX8_strike.1.cls = true := by decide +kernel
abbrev jX3_hasStretch : MD := (yX3_hasStretch, cX3_hasStretch, 3, (some FieldType.boolean), { frames := 0, cells := 0, slots := 0, locals := 0 })
theorem cd_X3_hasStretch : cdW jX3_hasStretch ∈ WT := wt_of 382 (by decide +kernel) rfl
theorem pn_X3_hasStretch : plainName jX3_hasStretch.1.cls = true := by decide +kernel
abbrev jX3_namesFrom : MD := (yX3_namesFrom, cX3_namesFrom, 5, (some (FieldType.array FieldType.int)), { frames := 2, cells := 1, slots := 12, locals := 42 })
theorem cd_X3_namesFrom : cdW jX3_namesFrom ∈ WT := wt_of 388 (by decide +kernel) rfl
theorem pn_X3_namesFrom : plainName jX3_namesFrom.1.cls = true := by decide +kernel
abbrev jX6_init : MD := (yX6_init, cX6_init, 4, none, { frames := 2, cells := 0, slots := 0, locals := 46 })
theorem cd_X6_init : cdW jX6_init ∈ WT := wt_of 393 (by decide +kernel) rfl
theorem pn_X6_init : plainName jX6_init.1.cls = true := by decide +kernel
abbrev jX8_mark : MD := (yX8_mark, cX8_mark, 10, (some FieldType.int), { frames := 5, cells := 1, slots := 9, locals := 111 })
theorem cd_X8_mark : cdW jX8_mark ∈ WT := wt_of 407 (by decide +kernel) rfl
theorem pn_X8_mark : plainName jX8_mark.1.cls = true := by decide +kernel
abbrev jX8_isTint : MD := (yX8_isTint, cX8_isTint, 1, (some FieldType.boolean), { frames := 0, cells := 0, slots := 0, locals := 0 })
theorem cd_X8_isTint : cdW jX8_isTint ∈ WT := wt_of 410 (by decide +kernel) rfl
theorem pn_X8_isTint : plainName jX8_isTint.1.cls = true := by decide +kernel
abbrev jX3_nextBehind : MD := (yX3_nextBehind, cX3_nextBehind, 3, (some FieldType.int), { frames := 1, cells := 0, slots := 0, locals := 21 })
theorem cd_X3_nextBehind : cdW jX3_nextBehind ∈ WT := wt_of 414 (by decide +kernel) rfl
theorem pn_X3_nextBehind : plainName jX3_nextBehind.1.cls = true := by decide +kernel
abbrev jX1_init : MD := (yX1_init, cX1_init, 8, none, { frames := 2, cells := 0, slots := 0, locals := 46 })
theorem cd_X1_init : cdW jX1_init ∈ WT := wt_of 419 (by decide +kernel) rfl
theorem pn_X1_init : plainName jX1_init.1.cls = true := by decide +kernel
abbrev jX8_undo : MD := (yX8_undo, cX8_undo, 5, (some FieldType.int), { frames := 5, cells := 1, slots := 5, locals := 111 })
theorem cd_X8_undo : cdW jX8_undo ∈ WT := wt_of 450 (by decide +kernel) rfl
theorem pn_X8_undo : plainName jX8_undo.1.cls = true := by decide +kernel
abbrev jX0_find : MD := (yX0_find, cX0_find, 2, (some (FieldType.object "ManyPens$Slip")), { frames := 0, cells := 0, slots := 0, locals := 0 })
theorem cd_X0_find : cdW jX0_find ∈ WT := wt_of 454 (by decide +kernel) rfl
theorem pn_X0_find : plainName jX0_find.1.cls = true := by decide +kernel
abbrev jX3_isWorking : MD := (yX3_isWorking, cX3_isWorking, 2, (some FieldType.boolean), { frames := 0, cells := 0, slots := 0, locals := 0 })
theorem cd_X3_isWorking : cdW jX3_isWorking ∈ WT := wt_of 458 (by decide +kernel) rfl
theorem pn_X3_isWorking : plainName jX3_isWorking.1.cls = true := by decide +kernel
abbrev jX7_init : MD := (yX7_init, cX7_init, 4, none, { frames := 2, cells := 0, slots := 0, locals := 46 })
theorem cd_X7_init : cdW jX7_init ∈ WT := wt_of 463 (by decide +kernel) rfl
theorem pn_X7_init : plainName jX7_init.1.cls = true := by decide +kernel
abbrev jX8_carry : MD := (yX8_carry, cX8_carry, 5, (some FieldType.int), { frames := 4, cells := 0, slots := 0, locals := 90 })
theorem cd_X8_carry : cdW jX8_carry ∈ WT := wt_of 478 (by decide +kernel) rfl
theorem pn_X8_carry : plainName jX8_carry.1.cls = true := by decide +kernel
abbrev jX4_get : MD := (yX4_get, cX4_get, 2, none, { frames := 0, cells := 0, slots := 0, locals := 0 })
theorem cd_X4_get : cdW jX4_get ∈ WT := wt_of 482 (by decide +kernel) rfl
theorem pn_X4_get : plainName jX4_get.1.cls = true := by decide +kernel
abbrev jX4_settle : MD := (yX4_settle, cX4_settle, 4, (some FieldType.int), { frames := 3, cells := 0, slots := 0, locals := 67 })
theorem cd_X4_settle : cdW jX4_settle ∈ WT := wt_of 486 (by decide +kernel) rfl
theorem pn_X4_settle : plainName jX4_settle.1.cls = true := by decide +kernel
abbrev jX4_leastMissing : MD := (yX4_leastMissing, cX4_leastMissing, 5, (some FieldType.int), { frames := 2, cells := 0, slots := 0, locals := 43 })
theorem cd_X4_leastMissing : cdW jX4_leastMissing ∈ WT := wt_of 490 (by decide +kernel) rfl
theorem pn_X4_leastMissing : plainName jX4_leastMissing.1.cls = true := by decide +kernel
abbrev jX4_lesserMissing : MD := (yX4_lesserMissing, cX4_lesserMissing, 3, (some FieldType.int), { frames := 1, cells := 0, slots := 0, locals := 21 })
theorem cd_X4_lesserMissing : cdW jX4_lesserMissing ∈ WT := wt_of 494 (by decide +kernel) rfl
theorem pn_X4_lesserMissing : plainName jX4_lesserMissing.1.cls = true := by decide +kernel
abbrev jX1_howManyNeeds : MD := (yX1_howManyNeeds, cX1_howManyNeeds, 1, (some FieldType.int), { frames := 0, cells := 0, slots := 0, locals := 0 })
theorem cd_X1_howManyNeeds : cdW jX1_howManyNeeds ∈ WT := wt_of 501 (by decide +kernel) rfl
theorem pn_X1_howManyNeeds : plainName jX1_howManyNeeds.1.cls = true := by decide +kernel
abbrev jX2_howManyNeeds : MD := (yX2_howManyNeeds, cX2_howManyNeeds, 1, (some FieldType.int), { frames := 0, cells := 0, slots := 0, locals := 0 })
theorem cd_X2_howManyNeeds : cdW jX2_howManyNeeds ∈ WT := wt_of 504 (by decide +kernel) rfl
theorem pn_X2_howManyNeeds : plainName jX2_howManyNeeds.1.cls = true := by decide +kernel
abbrev jX6_howManyNeeds : MD := (yX6_howManyNeeds, cX6_howManyNeeds, 1, (some FieldType.int), { frames := 0, cells := 0, slots := 0, locals := 0 })
theorem cd_X6_howManyNeeds : cdW jX6_howManyNeeds ∈ WT := wt_of 507 (by decide +kernel) rfl
theorem pn_X6_howManyNeeds : plainName jX6_howManyNeeds.1.cls = true := by decide +kernel
abbrev jX7_howManyNeeds : MD := (yX7_howManyNeeds, cX7_howManyNeeds, 1, (some FieldType.int), { frames := 0, cells := 0, slots := 0, locals := 0 })
theorem cd_X7_howManyNeeds : cdW jX7_howManyNeeds ∈ WT := wt_of 510 (by decide +kernel) rfl
theorem pn_X7_howManyNeeds : plainName jX7_howManyNeeds.1.cls = true := by decide +kernel
abbrev jX1_need : MD := (yX1_need, cX1_need, 2, (some FieldType.int), { frames := 1, cells := 0, slots := 0, locals := 21 })
theorem cd_X1_need : cdW jX1_need ∈ WT := wt_of 516 (by decide +kernel) rfl
theorem pn_X1_need : plainName jX1_need.1.cls = true := by decide +kernel
abbrev jX1_nameOf : MD := (yX1_nameOf, cX1_nameOf, 2, (some FieldType.int), { frames := 0, cells := 0, slots := 0, locals := 0 })
theorem cd_X1_nameOf : cdW jX1_nameOf ∈ WT := wt_of 520 (by decide +kernel) rfl
theorem pn_X1_nameOf : plainName jX1_nameOf.1.cls = true := by decide +kernel
abbrev jX2_need : MD := (yX2_need, cX2_need, 2, (some FieldType.int), { frames := 1, cells := 0, slots := 0, locals := 20 })
theorem cd_X2_need : cdW jX2_need ∈ WT := wt_of 524 (by decide +kernel) rfl
theorem pn_X2_need : plainName jX2_need.1.cls = true := by decide +kernel
abbrev jX6_need : MD := (yX6_need, cX6_need, 2, (some FieldType.int), { frames := 1, cells := 0, slots := 0, locals := 21 })
theorem cd_X6_need : cdW jX6_need ∈ WT := wt_of 528 (by decide +kernel) rfl
theorem pn_X6_need : plainName jX6_need.1.cls = true := by decide +kernel
abbrev jX6_nameOf : MD := (yX6_nameOf, cX6_nameOf, 2, (some FieldType.int), { frames := 0, cells := 0, slots := 0, locals := 0 })
theorem cd_X6_nameOf : cdW jX6_nameOf ∈ WT := wt_of 532 (by decide +kernel) rfl
theorem pn_X6_nameOf : plainName jX6_nameOf.1.cls = true := by decide +kernel
abbrev jX7_need : MD := (yX7_need, cX7_need, 2, (some FieldType.int), { frames := 0, cells := 0, slots := 0, locals := 0 })
theorem cd_X7_need : cdW jX7_need ∈ WT := wt_of 536 (by decide +kernel) rfl
theorem pn_X7_need : plainName jX7_need.1.cls = true := by decide +kernel
abbrev jX8_all : MD := (yX8_all, cX8_all, 7, (some FieldType.int), { frames := 4, cells := 0, slots := 0, locals := 90 })
theorem cd_X8_all : cdW jX8_all ∈ WT := wt_of 540 (by decide +kernel) rfl
theorem pn_X8_all : plainName jX8_all.1.cls = true := by decide +kernel
abbrev jX8_state : MD := (yX8_state, cX8_state, 5, (some FieldType.int), { frames := 4, cells := 0, slots := 0, locals := 89 })
theorem cd_X8_state : cdW jX8_state ∈ WT := wt_of 545 (by decide +kernel) rfl
theorem pn_X8_state : plainName jX8_state.1.cls = true := by decide +kernel
abbrev jX8_lacks : MD := (yX8_lacks, cX8_lacks, 5, (some FieldType.int), { frames := 3, cells := 0, slots := 0, locals := 67 })
theorem cd_X8_lacks : cdW jX8_lacks ∈ WT := wt_of 549 (by decide +kernel) rfl
theorem pn_X8_lacks : plainName jX8_lacks.1.cls = true := by decide +kernel
abbrev jX8_slips : MD := (yX8_slips, cX8_slips, 1, (some FieldType.int), { frames := 0, cells := 0, slots := 0, locals := 0 })
theorem cd_X8_slips : cdW jX8_slips ∈ WT := wt_of 554 (by decide +kernel) rfl
theorem pn_X8_slips : plainName jX8_slips.1.cls = true := by decide +kernel
abbrev jX8_slip : MD := (yX8_slip, cX8_slip, 4, (some FieldType.int), { frames := 1, cells := 0, slots := 0, locals := 21 })
theorem cd_X8_slip : cdW jX8_slip ∈ WT := wt_of 558 (by decide +kernel) rfl
theorem pn_X8_slip : plainName jX8_slip.1.cls = true := by decide +kernel
abbrev jX1_kind : MD := (yX1_kind, cX1_kind, 1, (some FieldType.int), { frames := 0, cells := 0, slots := 0, locals := 0 })
theorem cd_X1_kind : cdW jX1_kind ∈ WT := wt_of 564 (by decide +kernel) rfl
theorem pn_X1_kind : plainName jX1_kind.1.cls = true := by decide +kernel
abbrev jX2_kind : MD := (yX2_kind, cX2_kind, 1, (some FieldType.int), { frames := 0, cells := 0, slots := 0, locals := 0 })
theorem cd_X2_kind : cdW jX2_kind ∈ WT := wt_of 567 (by decide +kernel) rfl
theorem pn_X2_kind : plainName jX2_kind.1.cls = true := by decide +kernel
abbrev jX6_kind : MD := (yX6_kind, cX6_kind, 1, (some FieldType.int), { frames := 0, cells := 0, slots := 0, locals := 0 })
theorem cd_X6_kind : cdW jX6_kind ∈ WT := wt_of 570 (by decide +kernel) rfl
theorem pn_X6_kind : plainName jX6_kind.1.cls = true := by decide +kernel
abbrev jX7_kind : MD := (yX7_kind, cX7_kind, 1, (some FieldType.int), { frames := 0, cells := 0, slots := 0, locals := 0 })
theorem cd_X7_kind : cdW jX7_kind ∈ WT := wt_of 573 (by decide +kernel) rfl
theorem pn_X7_kind : plainName jX7_kind.1.cls = true := by decide +kernel
abbrev jX1_size : MD := (yX1_size, cX1_size, 1, (some FieldType.int), { frames := 0, cells := 0, slots := 0, locals := 0 })
theorem cd_X1_size : cdW jX1_size ∈ WT := wt_of 579 (by decide +kernel) rfl
theorem pn_X1_size : plainName jX1_size.1.cls = true := by decide +kernel
abbrev jX2_size : MD := (yX2_size, cX2_size, 1, (some FieldType.int), { frames := 0, cells := 0, slots := 0, locals := 0 })
theorem cd_X2_size : cdW jX2_size ∈ WT := wt_of 582 (by decide +kernel) rfl
theorem pn_X2_size : plainName jX2_size.1.cls = true := by decide +kernel
abbrev jX6_size : MD := (yX6_size, cX6_size, 1, (some FieldType.int), { frames := 0, cells := 0, slots := 0, locals := 0 })
theorem cd_X6_size : cdW jX6_size ∈ WT := wt_of 585 (by decide +kernel) rfl
theorem pn_X6_size : plainName jX6_size.1.cls = true := by decide +kernel
abbrev jX7_size : MD := (yX7_size, cX7_size, 1, (some FieldType.int), { frames := 0, cells := 0, slots := 0, locals := 0 })
theorem cd_X7_size : cdW jX7_size ∈ WT := wt_of 588 (by decide +kernel) rfl
theorem pn_X7_size : plainName jX7_size.1.cls = true := by decide +kernel
abbrev jX8_part : MD := (yX8_part, cX8_part, 4, (some FieldType.int), { frames := 1, cells := 0, slots := 0, locals := 21 })
theorem cd_X8_part : cdW jX8_part ∈ WT := wt_of 592 (by decide +kernel) rfl
theorem pn_X8_part : plainName jX8_part.1.cls = true := by decide +kernel
abbrev jX7_nameOf : MD := (yX7_nameOf, cX7_nameOf, 2, (some FieldType.int), { frames := 0, cells := 0, slots := 0, locals := 0 })
theorem cd_X7_nameOf : cdW jX7_nameOf ∈ WT := wt_of 601 (by decide +kernel) rfl
theorem pn_X7_nameOf : plainName jX7_nameOf.1.cls = true := by decide +kernel
abbrev jX8_left : MD := (yX8_left, cX8_left, 4, (some FieldType.int), { frames := 1, cells := 0, slots := 0, locals := 21 })
theorem cd_X8_left : cdW jX8_left ∈ WT := wt_of 605 (by decide +kernel) rfl
theorem pn_X8_left : plainName jX8_left.1.cls = true := by decide +kernel
abbrev jX8_bound : MD := (yX8_bound, cX8_bound, 4, (some FieldType.int), { frames := 1, cells := 0, slots := 0, locals := 21 })
theorem cd_X8_bound : cdW jX8_bound ∈ WT := wt_of 609 (by decide +kernel) rfl
theorem pn_X8_bound : plainName jX8_bound.1.cls = true := by decide +kernel
abbrev jX8_undone : MD := (yX8_undone, cX8_undone, 4, (some FieldType.int), { frames := 1, cells := 0, slots := 0, locals := 21 })
theorem cd_X8_undone : cdW jX8_undone ∈ WT := wt_of 613 (by decide +kernel) rfl
theorem pn_X8_undone : plainName jX8_undone.1.cls = true := by decide +kernel
abbrev jX8_later : MD := (yX8_later, cX8_later, 5, (some FieldType.boolean), { frames := 1, cells := 0, slots := 0, locals := 21 })
theorem cd_X8_later : cdW jX8_later ∈ WT := wt_of 617 (by decide +kernel) rfl
theorem pn_X8_later : plainName jX8_later.1.cls = true := by decide +kernel
abbrev jX8_length : MD := (yX8_length, cX8_length, 2, (some FieldType.int), { frames := 5, cells := 0, slots := 0, locals := 111 })
theorem cd_X8_length : cdW jX8_length ∈ WT := wt_of 622 (by decide +kernel) rfl
theorem pn_X8_length : plainName jX8_length.1.cls = true := by decide +kernel
abbrev jX8_read : MD := (yX8_read, cX8_read, 3, (some FieldType.boolean), { frames := 4, cells := 0, slots := 0, locals := 89 })
theorem cd_X8_read : cdW jX8_read ∈ WT := wt_of 626 (by decide +kernel) rfl
theorem pn_X8_read : plainName jX8_read.1.cls = true := by decide +kernel
abbrev jX8_text : MD := (yX8_text, cX8_text, 4, (some FieldType.int), { frames := 5, cells := 0, slots := 0, locals := 111 })
theorem cd_X8_text : cdW jX8_text ∈ WT := wt_of 630 (by decide +kernel) rfl
theorem pn_X8_text : plainName jX8_text.1.cls = true := by decide +kernel
abbrev jX0_codeOf : MD := (yX0_codeOf, cX0_codeOf, 4, (some FieldType.int), { frames := 1, cells := 0, slots := 0, locals := 21 })
theorem cd_X0_codeOf : cdW jX0_codeOf ∈ WT := wt_of 635 (by decide +kernel) rfl
theorem pn_X0_codeOf : plainName jX0_codeOf.1.cls = true := by decide +kernel
abbrev jX3_paint : MD := (yX3_paint, cX3_paint, 4, none, { frames := 3, cells := 0, slots := 0, locals := 67 })
theorem cd_X3_paint : cdW jX3_paint ∈ WT := wt_of 640 (by decide +kernel) rfl
theorem pn_X3_paint : plainName jX3_paint.1.cls = true := by decide +kernel
abbrev jX3_lay : MD := (yX3_lay, cX3_lay, 6, none, { frames := 2, cells := 0, slots := 0, locals := 42 })
theorem cd_X3_lay : cdW jX3_lay ∈ WT := wt_of 646 (by decide +kernel) rfl
theorem pn_X3_lay : plainName jX3_lay.1.cls = true := by decide +kernel
abbrev jX3_endOf : MD := (yX3_endOf, cX3_endOf, 2, (some FieldType.int), { frames := 1, cells := 0, slots := 0, locals := 21 })
theorem cd_X3_endOf : cdW jX3_endOf ∈ WT := wt_of 650 (by decide +kernel) rfl
theorem pn_X3_endOf : plainName jX3_endOf.1.cls = true := by decide +kernel
abbrev jX3_tintsAt : MD := (yX3_tintsAt, cX3_tintsAt, 2, (some FieldType.int), { frames := 1, cells := 0, slots := 0, locals := 21 })
theorem cd_X3_tintsAt : cdW jX3_tintsAt ∈ WT := wt_of 654 (by decide +kernel) rfl
theorem pn_X3_tintsAt : plainName jX3_tintsAt.1.cls = true := by decide +kernel
abbrev jX0_penOf : MD := (yX0_penOf, cX0_penOf, 3, (some FieldType.int), { frames := 1, cells := 0, slots := 0, locals := 21 })
theorem cd_X0_penOf : cdW jX0_penOf ∈ WT := wt_of 658 (by decide +kernel) rfl
theorem pn_X0_penOf : plainName jX0_penOf.1.cls = true := by decide +kernel
abbrev jX8_signs : MD := (yX8_signs, cX8_signs, 2, (some FieldType.int), { frames := 5, cells := 0, slots := 0, locals := 111 })
theorem cd_X8_signs : cdW jX8_signs ∈ WT := wt_of 662 (by decide +kernel) rfl
theorem pn_X8_signs : plainName jX8_signs.1.cls = true := by decide +kernel
abbrev jX8_order : MD := (yX8_order, cX8_order, 3, (some FieldType.int), { frames := 5, cells := 0, slots := 0, locals := 111 })
theorem cd_X8_order : cdW jX8_order ∈ WT := wt_of 666 (by decide +kernel) rfl
theorem pn_X8_order : plainName jX8_order.1.cls = true := by decide +kernel
abbrev jX8_place : MD := (yX8_place, cX8_place, 4, (some FieldType.int), { frames := 5, cells := 0, slots := 0, locals := 111 })
theorem cd_X8_place : cdW jX8_place ∈ WT := wt_of 670 (by decide +kernel) rfl
theorem pn_X8_place : plainName jX8_place.1.cls = true := by decide +kernel
abbrev jX3_isSeen : MD := (yX3_isSeen, cX3_isSeen, 2, (some FieldType.boolean), { frames := 0, cells := 0, slots := 0, locals := 0 })
theorem cd_X3_isSeen : cdW jX3_isSeen ∈ WT := wt_of 675 (by decide +kernel) rfl
theorem pn_X3_isSeen : plainName jX3_isSeen.1.cls = true := by decide +kernel
abbrev jX8_strikers : MD := (yX8_strikers, cX8_strikers, 4, (some FieldType.int), { frames := 5, cells := 0, slots := 0, locals := 111 })
theorem cd_X8_strikers : cdW jX8_strikers ∈ WT := wt_of 679 (by decide +kernel) rfl
theorem pn_X8_strikers : plainName jX8_strikers.1.cls = true := by decide +kernel
abbrev jX8_spans : MD := (yX8_spans, cX8_spans, 3, (some FieldType.int), { frames := 5, cells := 0, slots := 0, locals := 111 })
theorem cd_X8_spans : cdW jX8_spans ∈ WT := wt_of 683 (by decide +kernel) rfl
theorem pn_X8_spans : plainName jX8_spans.1.cls = true := by decide +kernel
abbrev jX3_stretchesOf : MD := (yX3_stretchesOf, cX3_stretchesOf, 7, (some FieldType.int), { frames := 0, cells := 0, slots := 0, locals := 0 })
theorem cd_X3_stretchesOf : cdW jX3_stretchesOf ∈ WT := wt_of 687 (by decide +kernel) rfl
theorem pn_X3_stretchesOf : plainName jX3_stretchesOf.1.cls = true := by decide +kernel
abbrev jX8_history : MD := (yX8_history, cX8_history, 7, (some FieldType.int), { frames := 1, cells := 0, slots := 0, locals := 21 })
theorem cd_X8_history : cdW jX8_history ∈ WT := wt_of 691 (by decide +kernel) rfl
theorem pn_X8_history : plainName jX8_history.1.cls = true := by decide +kernel
abbrev jX8_asOf : MD := (yX8_asOf, cX8_asOf, 5, (some FieldType.int), { frames := 4, cells := 0, slots := 0, locals := 89 })
theorem cd_X8_asOf : cdW jX8_asOf ∈ WT := wt_of 695 (by decide +kernel) rfl
theorem pn_X8_asOf : plainName jX8_asOf.1.cls = true := by decide +kernel
abbrev jX8_unlike : MD := (yX8_unlike, cX8_unlike, 5, (some FieldType.int), { frames := 5, cells := 0, slots := 0, locals := 114 })
theorem cd_X8_unlike : cdW jX8_unlike ∈ WT := wt_of 699 (by decide +kernel) rfl
theorem pn_X8_unlike : plainName jX8_unlike.1.cls = true := by decide +kernel
abbrev jX8_haveSameTaken : MD := (yX8_haveSameTaken, cX8_haveSameTaken, 4, (some FieldType.boolean), { frames := 1, cells := 0, slots := 0, locals := 21 })
theorem cd_X8_haveSameTaken : cdW jX8_haveSameTaken ∈ WT := wt_of 703 (by decide +kernel) rfl
theorem pn_X8_haveSameTaken : plainName jX8_haveSameTaken.1.cls = true := by decide +kernel
abbrev jX8_placesAlike : MD := (yX8_placesAlike, cX8_placesAlike, 5, (some FieldType.int), { frames := 4, cells := 0, slots := 0, locals := 90 })
theorem cd_X8_placesAlike : cdW jX8_placesAlike ∈ WT := wt_of 707 (by decide +kernel) rfl
theorem pn_X8_placesAlike : plainName jX8_placesAlike.1.cls = true := by decide +kernel
abbrev jX3_lookAt : MD := (yX3_lookAt, cX3_lookAt, 2, (some FieldType.int), { frames := 2, cells := 0, slots := 0, locals := 42 })
theorem cd_X3_lookAt : cdW jX3_lookAt ∈ WT := wt_of 711 (by decide +kernel) rfl
theorem pn_X3_lookAt : plainName jX3_lookAt.1.cls = true := by decide +kernel
abbrev jX8_cursor : MD := (yX8_cursor, cX8_cursor, 7, (some FieldType.int), { frames := 4, cells := 0, slots := 0, locals := 89 })
theorem cd_X8_cursor : cdW jX8_cursor ∈ WT := wt_of 717 (by decide +kernel) rfl
theorem pn_X8_cursor : plainName jX8_cursor.1.cls = true := by decide +kernel
abbrev jX8_isCursor : MD := (yX8_isCursor, cX8_isCursor, 1, (some FieldType.boolean), { frames := 0, cells := 0, slots := 0, locals := 0 })
theorem cd_X8_isCursor : cdW jX8_isCursor ∈ WT := wt_of 720 (by decide +kernel) rfl
theorem pn_X8_isCursor : plainName jX8_isCursor.1.cls = true := by decide +kernel
abbrev jX8_where : MD := (yX8_where, cX8_where, 6, (some FieldType.int), { frames := 4, cells := 0, slots := 0, locals := 89 })
theorem cd_X8_where : cdW jX8_where ∈ WT := wt_of 724 (by decide +kernel) rfl
theorem pn_X8_where : plainName jX8_where.1.cls = true := by decide +kernel
abbrev jX8_status : MD := (yX8_status, cX8_status, 1, (some FieldType.int), { frames := 0, cells := 0, slots := 0, locals := 0 })
theorem cd_X8_status : cdW jX8_status ∈ WT := wt_of 728 (by decide +kernel) rfl
theorem pn_X8_status : plainName jX8_status.1.cls = true := by decide +kernel
abbrev jX9_init : MD := (yX9_init, cX9_init, 2, none, { frames := 1, cells := 23, slots := 12919, locals := 24 })
theorem cd_X9_init : cdW jX9_init ∈ WT := wt_of 733 (by decide +kernel) rfl
theorem pn_X9_init : plainName jX9_init.1.cls = true := by decide +kernel
abbrev jX9_type : MD := (yX9_type, cX9_type, 12, (some FieldType.int), { frames := 5, cells := 0, slots := 0, locals := 113 })
theorem cd_X9_type : cdW jX9_type ∈ WT := wt_of 824 (by decide +kernel) rfl
theorem pn_X9_type : plainName jX9_type.1.cls = true := by decide +kernel
abbrev jX9_isPen : MD := (yX9_isPen, cX9_isPen, 1, (some FieldType.boolean), { frames := 0, cells := 0, slots := 0, locals := 0 })
theorem cd_X9_isPen : cdW jX9_isPen ∈ WT := wt_of 827 (by decide +kernel) rfl
theorem pn_X9_isPen : plainName jX9_isPen.1.cls = true := by decide +kernel
abbrev jX9_refuse : MD := (yX9_refuse, cX9_refuse, 2, (some FieldType.int), { frames := 0, cells := 0, slots := 0, locals := 0 })
theorem cd_X9_refuse : cdW jX9_refuse ∈ WT := wt_of 831 (by decide +kernel) rfl
theorem pn_X9_refuse : plainName jX9_refuse.1.cls = true := by decide +kernel
abbrev jX9_sheet : MD := (yX9_sheet, cX9_sheet, 2, (some FieldType.int), { frames := 4, cells := 0, slots := 0, locals := 92 })
theorem cd_X9_sheet : cdW jX9_sheet ∈ WT := wt_of 835 (by decide +kernel) rfl
theorem pn_X9_sheet : plainName jX9_sheet.1.cls = true := by decide +kernel
abbrev jX9_findTaken : MD := (yX9_findTaken, cX9_findTaken, 4, (some FieldType.int), { frames := 3, cells := 0, slots := 0, locals := 69 })
theorem cd_X9_findTaken : cdW jX9_findTaken ∈ WT := wt_of 839 (by decide +kernel) rfl
theorem pn_X9_findTaken : plainName jX9_findTaken.1.cls = true := by decide +kernel
abbrev jX9_hasNeeds : MD := (yX9_hasNeeds, cX9_hasNeeds, 4, (some FieldType.boolean), { frames := 2, cells := 0, slots := 0, locals := 46 })
theorem cd_X9_hasNeeds : cdW jX9_hasNeeds ∈ WT := wt_of 843 (by decide +kernel) rfl
theorem pn_X9_hasNeeds : plainName jX9_hasNeeds.1.cls = true := by decide +kernel
abbrev jX9_findNeeds : MD := (yX9_findNeeds, cX9_findNeeds, 3, none, { frames := 1, cells := 0, slots := 0, locals := 24 })
theorem cd_X9_findNeeds : cdW jX9_findNeeds ∈ WT := wt_of 847 (by decide +kernel) rfl
theorem pn_X9_findNeeds : plainName jX9_findNeeds.1.cls = true := by decide +kernel
abbrev jX9_latestOf : MD := (yX9_latestOf, cX9_latestOf, 5, (some FieldType.int), { frames := 0, cells := 0, slots := 0, locals := 0 })
theorem cd_X9_latestOf : cdW jX9_latestOf ∈ WT := wt_of 851 (by decide +kernel) rfl
theorem pn_X9_latestOf : plainName jX9_latestOf.1.cls = true := by decide +kernel
abbrev jX9_need : MD := (yX9_need, cX9_need, 2, none, { frames := 0, cells := 0, slots := 0, locals := 0 })
theorem cd_X9_need : cdW jX9_need ∈ WT := wt_of 855 (by decide +kernel) rfl
theorem pn_X9_need : plainName jX9_need.1.cls = true := by decide +kernel
abbrev jX9_findText : MD := (yX9_findText, cX9_findText, 3, (some FieldType.int), { frames := 3, cells := 0, slots := 0, locals := 68 })
theorem cd_X9_findText : cdW jX9_findText ∈ WT := wt_of 859 (by decide +kernel) rfl
theorem pn_X9_findText : plainName jX9_findText.1.cls = true := by decide +kernel
abbrev jX9_findWorks : MD := (yX9_findWorks, cX9_findWorks, 3, none, { frames := 0, cells := 0, slots := 0, locals := 0 })
theorem cd_X9_findWorks : cdW jX9_findWorks ∈ WT := wt_of 863 (by decide +kernel) rfl
theorem pn_X9_findWorks : plainName jX9_findWorks.1.cls = true := by decide +kernel
abbrev jX9_findOrder : MD := (yX9_findOrder, cX9_findOrder, 3, none, { frames := 2, cells := 0, slots := 0, locals := 46 })
theorem cd_X9_findOrder : cdW jX9_findOrder ∈ WT := wt_of 867 (by decide +kernel) rfl
theorem pn_X9_findOrder : plainName jX9_findOrder.1.cls = true := by decide +kernel
abbrev jX9_pilePuts : MD := (yX9_pilePuts, cX9_pilePuts, 5, none, { frames := 1, cells := 0, slots := 0, locals := 22 })
theorem cd_X9_pilePuts : cdW jX9_pilePuts ∈ WT := wt_of 871 (by decide +kernel) rfl
theorem pn_X9_pilePuts : plainName jX9_pilePuts.1.cls = true := by decide +kernel
abbrev jX9_isLater : MD := (yX9_isLater, cX9_isLater, 3, (some FieldType.boolean), { frames := 0, cells := 0, slots := 0, locals := 0 })
theorem cd_X9_isLater : cdW jX9_isLater ∈ WT := wt_of 875 (by decide +kernel) rfl
theorem pn_X9_isLater : plainName jX9_isLater.1.cls = true := by decide +kernel
abbrev jX9_isStruck : MD := (yX9_isStruck, cX9_isStruck, 2, (some FieldType.boolean), { frames := 1, cells := 0, slots := 0, locals := 25 })
theorem cd_X9_isStruck : cdW jX9_isStruck ∈ WT := wt_of 879 (by decide +kernel) rfl
theorem pn_X9_isStruck : plainName jX9_isStruck.1.cls = true := by decide +kernel
abbrev jX9_strikesOf : MD := (yX9_strikesOf, cX9_strikesOf, 6, (some FieldType.int), { frames := 0, cells := 0, slots := 0, locals := 0 })
theorem cd_X9_strikesOf : cdW jX9_strikesOf ∈ WT := wt_of 883 (by decide +kernel) rfl
theorem pn_X9_strikesOf : plainName jX9_strikesOf.1.cls = true := by decide +kernel
abbrev jX9_atPlace : MD := (yX9_atPlace, cX9_atPlace, 4, (some FieldType.int), { frames := 0, cells := 0, slots := 0, locals := 0 })
theorem cd_X9_atPlace : cdW jX9_atPlace ∈ WT := wt_of 887 (by decide +kernel) rfl
theorem pn_X9_atPlace : plainName jX9_atPlace.1.cls = true := by decide +kernel
abbrev jX9_make : MD := (yX9_make, cX9_make, 6, (some FieldType.int), { frames := 0, cells := 0, slots := 0, locals := 0 })
theorem cd_X9_make : cdW jX9_make ∈ WT := wt_of 891 (by decide +kernel) rfl
theorem pn_X9_make : plainName jX9_make.1.cls = true := by decide +kernel
abbrev jX9_done : MD := (yX9_done, cX9_done, 2, (some FieldType.int), { frames := 0, cells := 0, slots := 0, locals := 0 })
theorem cd_X9_done : cdW jX9_done ∈ WT := wt_of 895 (by decide +kernel) rfl
theorem pn_X9_done : plainName jX9_done.1.cls = true := by decide +kernel
abbrev jX9_strike : MD := (yX9_strike, cX9_strike, 7, (some FieldType.int), { frames := 5, cells := 0, slots := 0, locals := 113 })
theorem cd_X9_strike : cdW jX9_strike ∈ WT := wt_of 899 (by decide +kernel) rfl
theorem pn_X9_strike : plainName jX9_strike.1.cls = true := by decide +kernel
abbrev jX9_isRange : MD := (yX9_isRange, cX9_isRange, 3, (some FieldType.boolean), { frames := 0, cells := 0, slots := 0, locals := 0 })
theorem cd_X9_isRange : cdW jX9_isRange ∈ WT := wt_of 902 (by decide +kernel) rfl
theorem pn_X9_isRange : plainName jX9_isRange.1.cls = true := by decide +kernel
abbrev jX9_mark : MD := (yX9_mark, cX9_mark, 10, (some FieldType.int), { frames := 5, cells := 0, slots := 0, locals := 113 })
theorem cd_X9_mark : cdW jX9_mark ∈ WT := wt_of 906 (by decide +kernel) rfl
theorem pn_X9_mark : plainName jX9_mark.1.cls = true := by decide +kernel
abbrev jX9_undo : MD := (yX9_undo, cX9_undo, 4, (some FieldType.int), { frames := 4, cells := 0, slots := 0, locals := 92 })
theorem cd_X9_undo : cdW jX9_undo ∈ WT := wt_of 910 (by decide +kernel) rfl
theorem pn_X9_undo : plainName jX9_undo.1.cls = true := by decide +kernel
abbrev jX9_isSlip : MD := (yX9_isSlip, cX9_isSlip, 2, (some FieldType.boolean), { frames := 0, cells := 0, slots := 0, locals := 0 })
theorem cd_X9_isSlip : cdW jX9_isSlip ∈ WT := wt_of 914 (by decide +kernel) rfl
theorem pn_X9_isSlip : plainName jX9_isSlip.1.cls = true := by decide +kernel
abbrev jX9_carry : MD := (yX9_carry, cX9_carry, 4, (some FieldType.int), { frames := 4, cells := 0, slots := 0, locals := 92 })
theorem cd_X9_carry : cdW jX9_carry ∈ WT := wt_of 918 (by decide +kernel) rfl
theorem pn_X9_carry : plainName jX9_carry.1.cls = true := by decide +kernel
abbrev jX9_all : MD := (yX9_all, cX9_all, 5, (some FieldType.int), { frames := 4, cells := 0, slots := 0, locals := 92 })
theorem cd_X9_all : cdW jX9_all ∈ WT := wt_of 922 (by decide +kernel) rfl
theorem pn_X9_all : plainName jX9_all.1.cls = true := by decide +kernel
abbrev jX9_state : MD := (yX9_state, cX9_state, 3, (some FieldType.int), { frames := 4, cells := 0, slots := 0, locals := 92 })
theorem cd_X9_state : cdW jX9_state ∈ WT := wt_of 926 (by decide +kernel) rfl
theorem pn_X9_state : plainName jX9_state.1.cls = true := by decide +kernel
abbrev jX9_lacks : MD := (yX9_lacks, cX9_lacks, 6, (some FieldType.int), { frames := 4, cells := 0, slots := 0, locals := 92 })
theorem cd_X9_lacks : cdW jX9_lacks ∈ WT := wt_of 930 (by decide +kernel) rfl
theorem pn_X9_lacks : plainName jX9_lacks.1.cls = true := by decide +kernel
abbrev jX9_slips : MD := (yX9_slips, cX9_slips, 1, (some FieldType.int), { frames := 0, cells := 0, slots := 0, locals := 0 })
theorem cd_X9_slips : cdW jX9_slips ∈ WT := wt_of 934 (by decide +kernel) rfl
theorem pn_X9_slips : plainName jX9_slips.1.cls = true := by decide +kernel
abbrev jX9_slip : MD := (yX9_slip, cX9_slip, 3, (some FieldType.int), { frames := 1, cells := 0, slots := 0, locals := 21 })
theorem cd_X9_slip : cdW jX9_slip ∈ WT := wt_of 938 (by decide +kernel) rfl
theorem pn_X9_slip : plainName jX9_slip.1.cls = true := by decide +kernel
abbrev jX9_part : MD := (yX9_part, cX9_part, 3, (some FieldType.int), { frames := 1, cells := 0, slots := 0, locals := 21 })
theorem cd_X9_part : cdW jX9_part ∈ WT := wt_of 942 (by decide +kernel) rfl
theorem pn_X9_part : plainName jX9_part.1.cls = true := by decide +kernel
abbrev jX9_left : MD := (yX9_left, cX9_left, 2, (some FieldType.int), { frames := 2, cells := 0, slots := 0, locals := 43 })
theorem cd_X9_left : cdW jX9_left ∈ WT := wt_of 946 (by decide +kernel) rfl
theorem pn_X9_left : plainName jX9_left.1.cls = true := by decide +kernel
abbrev jX9_linked : MD := (yX9_linked, cX9_linked, 3, (some FieldType.int), { frames := 1, cells := 0, slots := 0, locals := 21 })
theorem cd_X9_linked : cdW jX9_linked ∈ WT := wt_of 950 (by decide +kernel) rfl
theorem pn_X9_linked : plainName jX9_linked.1.cls = true := by decide +kernel
abbrev jX9_bound : MD := (yX9_bound, cX9_bound, 2, (some FieldType.int), { frames := 2, cells := 0, slots := 0, locals := 43 })
theorem cd_X9_bound : cdW jX9_bound ∈ WT := wt_of 954 (by decide +kernel) rfl
theorem pn_X9_bound : plainName jX9_bound.1.cls = true := by decide +kernel
abbrev jX9_undone : MD := (yX9_undone, cX9_undone, 2, (some FieldType.int), { frames := 2, cells := 0, slots := 0, locals := 43 })
theorem cd_X9_undone : cdW jX9_undone ∈ WT := wt_of 958 (by decide +kernel) rfl
theorem pn_X9_undone : plainName jX9_undone.1.cls = true := by decide +kernel
abbrev jX9_later : MD := (yX9_later, cX9_later, 3, (some FieldType.boolean), { frames := 1, cells := 0, slots := 0, locals := 22 })
theorem cd_X9_later : cdW jX9_later ∈ WT := wt_of 962 (by decide +kernel) rfl
theorem pn_X9_later : plainName jX9_later.1.cls = true := by decide +kernel
abbrev jX9_length : MD := (yX9_length, cX9_length, 2, (some FieldType.int), { frames := 5, cells := 0, slots := 0, locals := 113 })
theorem cd_X9_length : cdW jX9_length ∈ WT := wt_of 966 (by decide +kernel) rfl
theorem pn_X9_length : plainName jX9_length.1.cls = true := by decide +kernel
abbrev jX9_text : MD := (yX9_text, cX9_text, 5, (some FieldType.int), { frames := 5, cells := 0, slots := 0, locals := 113 })
theorem cd_X9_text : cdW jX9_text ∈ WT := wt_of 970 (by decide +kernel) rfl
theorem pn_X9_text : plainName jX9_text.1.cls = true := by decide +kernel
abbrev jX9_tintsOf : MD := (yX9_tintsOf, cX9_tintsOf, 4, (some FieldType.int), { frames := 3, cells := 0, slots := 0, locals := 71 })
theorem cd_X9_tintsOf : cdW jX9_tintsOf ∈ WT := wt_of 974 (by decide +kernel) rfl
theorem pn_X9_tintsOf : plainName jX9_tintsOf.1.cls = true := by decide +kernel
abbrev jX9_hasTint : MD := (yX9_hasTint, cX9_hasTint, 5, (some FieldType.boolean), { frames := 2, cells := 0, slots := 0, locals := 47 })
theorem cd_X9_hasTint : cdW jX9_hasTint ∈ WT := wt_of 978 (by decide +kernel) rfl
theorem pn_X9_hasTint : plainName jX9_hasTint.1.cls = true := by decide +kernel
abbrev jX9_covers : MD := (yX9_covers, cX9_covers, 5, (some FieldType.boolean), { frames := 1, cells := 0, slots := 0, locals := 23 })
theorem cd_X9_covers : cdW jX9_covers ∈ WT := wt_of 982 (by decide +kernel) rfl
theorem pn_X9_covers : plainName jX9_covers.1.cls = true := by decide +kernel
abbrev jX9_inOrder : MD := (yX9_inOrder, cX9_inOrder, 4, (some FieldType.int), { frames := 0, cells := 0, slots := 0, locals := 0 })
theorem cd_X9_inOrder : cdW jX9_inOrder ∈ WT := wt_of 986 (by decide +kernel) rfl
theorem pn_X9_inOrder : plainName jX9_inOrder.1.cls = true := by decide +kernel
abbrev jX9_signs : MD := (yX9_signs, cX9_signs, 3, (some FieldType.int), { frames := 5, cells := 0, slots := 0, locals := 113 })
theorem cd_X9_signs : cdW jX9_signs ∈ WT := wt_of 990 (by decide +kernel) rfl
theorem pn_X9_signs : plainName jX9_signs.1.cls = true := by decide +kernel
abbrev jX9_order : MD := (yX9_order, cX9_order, 3, (some FieldType.int), { frames := 6, cells := 0, slots := 0, locals := 135 })
theorem cd_X9_order : cdW jX9_order ∈ WT := wt_of 994 (by decide +kernel) rfl
theorem pn_X9_order : plainName jX9_order.1.cls = true := by decide +kernel
abbrev jX9_place : MD := (yX9_place, cX9_place, 5, (some FieldType.int), { frames := 6, cells := 0, slots := 0, locals := 135 })
theorem cd_X9_place : cdW jX9_place ∈ WT := wt_of 999 (by decide +kernel) rfl
theorem pn_X9_place : plainName jX9_place.1.cls = true := by decide +kernel
abbrev jX9_seenAhead : MD := (yX9_seenAhead, cX9_seenAhead, 4, (some FieldType.int), { frames := 0, cells := 0, slots := 0, locals := 0 })
theorem cd_X9_seenAhead : cdW jX9_seenAhead ∈ WT := wt_of 1003 (by decide +kernel) rfl
theorem pn_X9_seenAhead : plainName jX9_seenAhead.1.cls = true := by decide +kernel
abbrev jX9_strikers : MD := (yX9_strikers, cX9_strikers, 4, (some FieldType.int), { frames := 6, cells := 0, slots := 0, locals := 135 })
theorem cd_X9_strikers : cdW jX9_strikers ∈ WT := wt_of 1007 (by decide +kernel) rfl
theorem pn_X9_strikers : plainName jX9_strikers.1.cls = true := by decide +kernel
abbrev jX9_spans : MD := (yX9_spans, cX9_spans, 8, (some FieldType.int), { frames := 5, cells := 0, slots := 0, locals := 113 })
theorem cd_X9_spans : cdW jX9_spans ∈ WT := wt_of 1011 (by decide +kernel) rfl
theorem pn_X9_spans : plainName jX9_spans.1.cls = true := by decide +kernel
abbrev jX9_history : MD := (yX9_history, cX9_history, 6, (some FieldType.int), { frames := 4, cells := 0, slots := 0, locals := 92 })
theorem cd_X9_history : cdW jX9_history ∈ WT := wt_of 1015 (by decide +kernel) rfl
theorem pn_X9_history : plainName jX9_history.1.cls = true := by decide +kernel
abbrev jX9_asOf : MD := (yX9_asOf, cX9_asOf, 5, (some FieldType.int), { frames := 4, cells := 0, slots := 0, locals := 92 })
theorem cd_X9_asOf : cdW jX9_asOf ∈ WT := wt_of 1019 (by decide +kernel) rfl
theorem pn_X9_asOf : plainName jX9_asOf.1.cls = true := by decide +kernel
abbrev jX9_unlike : MD := (yX9_unlike, cX9_unlike, 7, (some FieldType.int), { frames := 5, cells := 0, slots := 0, locals := 113 })
theorem cd_X9_unlike : cdW jX9_unlike ∈ WT := wt_of 1023 (by decide +kernel) rfl
theorem pn_X9_unlike : plainName jX9_unlike.1.cls = true := by decide +kernel
abbrev jX9_cursor : MD := (yX9_cursor, cX9_cursor, 7, (some FieldType.int), { frames := 5, cells := 0, slots := 0, locals := 113 })
theorem cd_X9_cursor : cdW jX9_cursor ∈ WT := wt_of 1027 (by decide +kernel) rfl
theorem pn_X9_cursor : plainName jX9_cursor.1.cls = true := by decide +kernel
abbrev jX9_where : MD := (yX9_where, cX9_where, 7, (some FieldType.int), { frames := 5, cells := 0, slots := 0, locals := 113 })
theorem cd_X9_where : cdW jX9_where ∈ WT := wt_of 1031 (by decide +kernel) rfl
theorem pn_X9_where : plainName jX9_where.1.cls = true := by decide +kernel
abbrev jX9_status : MD := (yX9_status, cX9_status, 1, (some FieldType.int), { frames := 0, cells := 0, slots := 0, locals := 0 })
theorem cd_X9_status : cdW jX9_status ∈ WT := wt_of 1035 (by decide +kernel) rfl
theorem pn_X9_status : plainName jX9_status.1.cls = true := by decide +kernel
theorem lkX8_22 : lkI RX8 22 jX4_init 1 := ⟨wt_of 104 (by decide +kernel) rfl, wt_of 105 (by decide +kernel) rfl, wt_of 47 (by decide +kernel) rfl, cd_X4_init, ⟨by decide +kernel, by decide +kernel, by decide +kernel⟩, rfl, rfl⟩
theorem lkX8_27 : lkI RX8 27 jX3_init 1 := ⟨wt_of 138 (by decide +kernel) rfl, wt_of 139 (by decide +kernel) rfl, wt_of 49 (by decide +kernel) rfl, cd_X3_init, ⟨by decide +kernel, by decide +kernel, by decide +kernel⟩, rfl, rfl⟩
theorem lkX8_42 : lkV RX8 42 jX8_sheetOf 1 := ⟨wt_of 199 (by decide +kernel) rfl, wt_of 201 (by decide +kernel) rfl, wt_of 0 (by decide +kernel) rfl, wt_of 45 (by decide +kernel) rfl, cd_X8_sheetOf, ⟨by decide +kernel, by decide +kernel, by decide +kernel⟩⟩
theorem lkX8_46 : lkV RX8 46 jX8_refuse 1 := ⟨wt_of 203 (by decide +kernel) rfl, wt_of 205 (by decide +kernel) rfl, wt_of 1 (by decide +kernel) rfl, wt_of 45 (by decide +kernel) rfl, cd_X8_refuse, ⟨by decide +kernel, by decide +kernel, by decide +kernel⟩⟩
theorem lkX8_50 : lkV RX8 50 jX3_read 2 := ⟨wt_of 207 (by decide +kernel) rfl, wt_of 208 (by decide +kernel) rfl, wt_of 209 (by decide +kernel) rfl, wt_of 49 (by decide +kernel) rfl, cd_X3_read, ⟨by decide +kernel, by decide +kernel, by decide +kernel⟩⟩
theorem lkX8_54 : lkS RX8 54 jX8_codesAheadOfNone 3 := ⟨wt_of 248 (by decide +kernel) rfl, wt_of 249 (by decide +kernel) rfl, wt_of 45 (by decide +kernel) rfl, cd_X8_codesAheadOfNone, ⟨by decide +kernel, by decide +kernel, by decide +kernel⟩⟩
theorem lkX8_61 : lkS RX8 61 jX8_arePutCodes 1 := ⟨wt_of 267 (by decide +kernel) rfl, wt_of 268 (by decide +kernel) rfl, wt_of 45 (by decide +kernel) rfl, cd_X8_arePutCodes, ⟨by decide +kernel, by decide +kernel, by decide +kernel⟩⟩
theorem lkX8_65 : lkV RX8 65 jX0_isFull 0 := ⟨wt_of 270 (by decide +kernel) rfl, wt_of 271 (by decide +kernel) rfl, wt_of 272 (by decide +kernel) rfl, wt_of 46 (by decide +kernel) rfl, cd_X0_isFull, ⟨by decide +kernel, by decide +kernel, by decide +kernel⟩⟩
theorem lkX8_69 : lkV RX8 69 jX3_nameAt 1 := ⟨wt_of 274 (by decide +kernel) rfl, wt_of 275 (by decide +kernel) rfl, wt_of 276 (by decide +kernel) rfl, wt_of 49 (by decide +kernel) rfl, cd_X3_nameAt, ⟨by decide +kernel, by decide +kernel, by decide +kernel⟩⟩
theorem lkX8_77 : lkI RX8 77 jX2_init 4 := ⟨wt_of 284 (by decide +kernel) rfl, wt_of 285 (by decide +kernel) rfl, wt_of 54 (by decide +kernel) rfl, cd_X2_init, ⟨by decide +kernel, by decide +kernel, by decide +kernel⟩, rfl, rfl⟩
theorem lkX8_80 : lkV RX8 80 jX8_enter 2 := ⟨wt_of 324 (by decide +kernel) rfl, wt_of 326 (by decide +kernel) rfl, wt_of 8 (by decide +kernel) rfl, wt_of 45 (by decide +kernel) rfl, cd_X8_enter, ⟨by decide +kernel, by decide +kernel, by decide +kernel⟩⟩
theorem lkX8_84 : lkV RX8 84 jX3_hasStretch 2 := ⟨wt_of 379 (by decide +kernel) rfl, wt_of 380 (by decide +kernel) rfl, wt_of 381 (by decide +kernel) rfl, wt_of 49 (by decide +kernel) rfl, cd_X3_hasStretch, ⟨by decide +kernel, by decide +kernel, by decide +kernel⟩⟩
theorem lkX8_90 : lkV RX8 90 jX3_namesFrom 2 := ⟨wt_of 385 (by decide +kernel) rfl, wt_of 386 (by decide +kernel) rfl, wt_of 387 (by decide +kernel) rfl, wt_of 49 (by decide +kernel) rfl, cd_X3_namesFrom, ⟨by decide +kernel, by decide +kernel, by decide +kernel⟩⟩
theorem lkX8_94 : lkI RX8 94 jX6_init 3 := ⟨wt_of 391 (by decide +kernel) rfl, wt_of 392 (by decide +kernel) rfl, wt_of 55 (by decide +kernel) rfl, cd_X6_init, ⟨by decide +kernel, by decide +kernel, by decide +kernel⟩, rfl, rfl⟩
theorem lkX8_97 : lkS RX8 97 jX8_isTint 1 := ⟨wt_of 408 (by decide +kernel) rfl, wt_of 409 (by decide +kernel) rfl, wt_of 45 (by decide +kernel) rfl, cd_X8_isTint, ⟨by decide +kernel, by decide +kernel, by decide +kernel⟩⟩
theorem lkX8_101 : lkV RX8 101 jX3_nextBehind 1 := ⟨wt_of 411 (by decide +kernel) rfl, wt_of 412 (by decide +kernel) rfl, wt_of 413 (by decide +kernel) rfl, wt_of 49 (by decide +kernel) rfl, cd_X3_nextBehind, ⟨by decide +kernel, by decide +kernel, by decide +kernel⟩⟩
theorem lkX8_106 : lkI RX8 106 jX1_init 7 := ⟨wt_of 417 (by decide +kernel) rfl, wt_of 418 (by decide +kernel) rfl, wt_of 56 (by decide +kernel) rfl, cd_X1_init, ⟨by decide +kernel, by decide +kernel, by decide +kernel⟩, rfl, rfl⟩
theorem lkX8_109 : lkV RX8 109 jX0_find 1 := ⟨wt_of 451 (by decide +kernel) rfl, wt_of 452 (by decide +kernel) rfl, wt_of 453 (by decide +kernel) rfl, wt_of 46 (by decide +kernel) rfl, cd_X0_find, ⟨by decide +kernel, by decide +kernel, by decide +kernel⟩⟩
theorem lkX8_118 : lkV RX8 118 jX3_isWorking 1 := ⟨wt_of 455 (by decide +kernel) rfl, wt_of 456 (by decide +kernel) rfl, wt_of 457 (by decide +kernel) rfl, wt_of 49 (by decide +kernel) rfl, cd_X3_isWorking, ⟨by decide +kernel, by decide +kernel, by decide +kernel⟩⟩
theorem lkX8_127 : lkI RX8 127 jX7_init 3 := ⟨wt_of 461 (by decide +kernel) rfl, wt_of 462 (by decide +kernel) rfl, wt_of 57 (by decide +kernel) rfl, cd_X7_init, ⟨by decide +kernel, by decide +kernel, by decide +kernel⟩, rfl, rfl⟩
theorem lkX8_130 : lkV RX8 130 jX4_get 1 := ⟨wt_of 479 (by decide +kernel) rfl, wt_of 480 (by decide +kernel) rfl, wt_of 481 (by decide +kernel) rfl, wt_of 47 (by decide +kernel) rfl, cd_X4_get, ⟨by decide +kernel, by decide +kernel, by decide +kernel⟩⟩
theorem lkX8_134 : lkV RX8 134 jX4_settle 1 := ⟨wt_of 483 (by decide +kernel) rfl, wt_of 484 (by decide +kernel) rfl, wt_of 485 (by decide +kernel) rfl, wt_of 47 (by decide +kernel) rfl, cd_X4_settle, ⟨by decide +kernel, by decide +kernel, by decide +kernel⟩⟩
theorem lkX8_138 : lkV RX8 138 jX8_done 1 := ⟨wt_of 371 (by decide +kernel) rfl, wt_of 373 (by decide +kernel) rfl, wt_of 13 (by decide +kernel) rfl, wt_of 45 (by decide +kernel) rfl, cd_X8_done, ⟨by decide +kernel, by decide +kernel, by decide +kernel⟩⟩
theorem lkX8_145 : lkV RX8 145 jX4_hasTaken 1 := ⟨wt_of 541 (by decide +kernel) rfl, wt_of 216 (by decide +kernel) rfl, wt_of 217 (by decide +kernel) rfl, wt_of 47 (by decide +kernel) rfl, cd_X4_hasTaken, ⟨by decide +kernel, by decide +kernel, by decide +kernel⟩⟩
theorem lkX8_151 : lkV RX8 151 jX4_leastMissing 1 := ⟨wt_of 550 (by decide +kernel) rfl, wt_of 488 (by decide +kernel) rfl, wt_of 489 (by decide +kernel) rfl, wt_of 47 (by decide +kernel) rfl, cd_X4_leastMissing, ⟨by decide +kernel, by decide +kernel, by decide +kernel⟩⟩
theorem lkX8_180 : lkV RX8 180 jX8_read 1 := ⟨wt_of 623 (by decide +kernel) rfl, wt_of 625 (by decide +kernel) rfl, wt_of 15 (by decide +kernel) rfl, wt_of 45 (by decide +kernel) rfl, cd_X8_read, ⟨by decide +kernel, by decide +kernel, by decide +kernel⟩⟩
theorem lkX8_182 : lkV RX8 182 jX3_isPlace 1 := ⟨wt_of 631 (by decide +kernel) rfl, wt_of 279 (by decide +kernel) rfl, wt_of 280 (by decide +kernel) rfl, wt_of 49 (by decide +kernel) rfl, cd_X3_isPlace, ⟨by decide +kernel, by decide +kernel, by decide +kernel⟩⟩
theorem lkX8_185 : lkV RX8 185 jX0_codeOf 1 := ⟨wt_of 632 (by decide +kernel) rfl, wt_of 633 (by decide +kernel) rfl, wt_of 634 (by decide +kernel) rfl, wt_of 46 (by decide +kernel) rfl, cd_X0_codeOf, ⟨by decide +kernel, by decide +kernel, by decide +kernel⟩⟩
theorem lkX8_188 : lkV RX8 188 jX3_paint 0 := ⟨wt_of 637 (by decide +kernel) rfl, wt_of 638 (by decide +kernel) rfl, wt_of 639 (by decide +kernel) rfl, wt_of 49 (by decide +kernel) rfl, cd_X3_paint, ⟨by decide +kernel, by decide +kernel, by decide +kernel⟩⟩
theorem lkX8_191 : lkV RX8 191 jX3_tintsAt 1 := ⟨wt_of 651 (by decide +kernel) rfl, wt_of 652 (by decide +kernel) rfl, wt_of 653 (by decide +kernel) rfl, wt_of 49 (by decide +kernel) rfl, cd_X3_tintsAt, ⟨by decide +kernel, by decide +kernel, by decide +kernel⟩⟩
theorem lkX8_194 : lkV RX8 194 jX0_penOf 1 := ⟨wt_of 655 (by decide +kernel) rfl, wt_of 656 (by decide +kernel) rfl, wt_of 657 (by decide +kernel) rfl, wt_of 46 (by decide +kernel) rfl, cd_X0_penOf, ⟨by decide +kernel, by decide +kernel, by decide +kernel⟩⟩
theorem lkX8_203 : lkV RX8 203 jX3_spotOf 1 := ⟨wt_of 671 (by decide +kernel) rfl, wt_of 241 (by decide +kernel) rfl, wt_of 242 (by decide +kernel) rfl, wt_of 49 (by decide +kernel) rfl, cd_X3_spotOf, ⟨by decide +kernel, by decide +kernel, by decide +kernel⟩⟩
theorem lkX8_206 : lkV RX8 206 jX3_isSeen 1 := ⟨wt_of 672 (by decide +kernel) rfl, wt_of 673 (by decide +kernel) rfl, wt_of 674 (by decide +kernel) rfl, wt_of 49 (by decide +kernel) rfl, cd_X3_isSeen, ⟨by decide +kernel, by decide +kernel, by decide +kernel⟩⟩
theorem lkX8_215 : lkV RX8 215 jX3_stretchesOf 1 := ⟨wt_of 684 (by decide +kernel) rfl, wt_of 685 (by decide +kernel) rfl, wt_of 686 (by decide +kernel) rfl, wt_of 49 (by decide +kernel) rfl, cd_X3_stretchesOf, ⟨by decide +kernel, by decide +kernel, by decide +kernel⟩⟩
theorem lkX8_221 : lkV RX8 221 jX8_haveSameTaken 2 := ⟨wt_of 700 (by decide +kernel) rfl, wt_of 702 (by decide +kernel) rfl, wt_of 18 (by decide +kernel) rfl, wt_of 45 (by decide +kernel) rfl, cd_X8_haveSameTaken, ⟨by decide +kernel, by decide +kernel, by decide +kernel⟩⟩
theorem lkX8_225 : lkV RX8 225 jX8_placesAlike 2 := ⟨wt_of 704 (by decide +kernel) rfl, wt_of 706 (by decide +kernel) rfl, wt_of 19 (by decide +kernel) rfl, wt_of 45 (by decide +kernel) rfl, cd_X8_placesAlike, ⟨by decide +kernel, by decide +kernel, by decide +kernel⟩⟩
theorem lkX8_229 : lkS RX8 229 jX8_isCursor 1 := ⟨wt_of 718 (by decide +kernel) rfl, wt_of 719 (by decide +kernel) rfl, wt_of 45 (by decide +kernel) rfl, cd_X8_isCursor, ⟨by decide +kernel, by decide +kernel, by decide +kernel⟩⟩
theorem lkX8_238 : lkV RX8 238 jX0_add 1 := ⟨wt_of 328 (by decide +kernel) rfl, wt_of 329 (by decide +kernel) rfl, wt_of 330 (by decide +kernel) rfl, wt_of 46 (by decide +kernel) rfl, cd_X0_add, ⟨by decide +kernel, by decide +kernel, by decide +kernel⟩⟩
theorem lkX8_241 : lkV RX8 241 jX4_own 1 := ⟨wt_of 360 (by decide +kernel) rfl, wt_of 361 (by decide +kernel) rfl, wt_of 362 (by decide +kernel) rfl, wt_of 47 (by decide +kernel) rfl, cd_X4_own, ⟨by decide +kernel, by decide +kernel, by decide +kernel⟩⟩
theorem lkX8_244 : lkV RX8 244 jX3_lookAt 1 := ⟨wt_of 708 (by decide +kernel) rfl, wt_of 709 (by decide +kernel) rfl, wt_of 710 (by decide +kernel) rfl, wt_of 49 (by decide +kernel) rfl, cd_X3_lookAt, ⟨by decide +kernel, by decide +kernel, by decide +kernel⟩⟩
theorem lkX8_247 : lkS RX8 247 jJ9_min_7cf53 2 := ⟨wt_of 713 (by decide +kernel) rfl, wt_of 262 (by decide +kernel) rfl, wt_of 51 (by decide +kernel) rfl, cd_J9_min_7cf53, ⟨by decide +kernel, by decide +kernel, by decide +kernel⟩⟩
theorem lkX8_253 : lkS RX8 253 jJ7_copyOf_59c91 2 := ⟨wt_of 251 (by decide +kernel) rfl, wt_of 252 (by decide +kernel) rfl, wt_of 48 (by decide +kernel) rfl, cd_J7_copyOf_59c91, ⟨by decide +kernel, by decide +kernel, by decide +kernel⟩⟩
theorem lkX0_28 : lkV RX0 28 jX0_isFull 0 := ⟨wt_of 332 (by decide +kernel) rfl, wt_of 271 (by decide +kernel) rfl, wt_of 272 (by decide +kernel) rfl, wt_of 46 (by decide +kernel) rfl, cd_X0_isFull, ⟨by decide +kernel, by decide +kernel, by decide +kernel⟩⟩
theorem lkX0_32 : lkV RX0 32 jX0_insertByAge 1 := ⟨wt_of 333 (by decide +kernel) rfl, wt_of 335 (by decide +kernel) rfl, wt_of 9 (by decide +kernel) rfl, wt_of 46 (by decide +kernel) rfl, cd_X0_insertByAge, ⟨by decide +kernel, by decide +kernel, by decide +kernel⟩⟩
theorem lkX0_38 : lkV RX0 38 jX0_insertSigns 1 := ⟨wt_of 346 (by decide +kernel) rfl, wt_of 348 (by decide +kernel) rfl, wt_of 10 (by decide +kernel) rfl, wt_of 46 (by decide +kernel) rfl, cd_X0_insertSigns, ⟨by decide +kernel, by decide +kernel, by decide +kernel⟩⟩
theorem lkX0_46 : lkV RX0 46 jX0_find 1 := ⟨wt_of 636 (by decide +kernel) rfl, wt_of 452 (by decide +kernel) rfl, wt_of 453 (by decide +kernel) rfl, wt_of 46 (by decide +kernel) rfl, cd_X0_find, ⟨by decide +kernel, by decide +kernel, by decide +kernel⟩⟩
theorem lkX0_60 : lkV RX0 60 jX0_spotFor 1 := ⟨wt_of 350 (by decide +kernel) rfl, wt_of 352 (by decide +kernel) rfl, wt_of 11 (by decide +kernel) rfl, wt_of 46 (by decide +kernel) rfl, cd_X0_spotFor, ⟨by decide +kernel, by decide +kernel, by decide +kernel⟩⟩
theorem lkX0_67 : lkV RX0 67 jX2_nameOf 1 := ⟨wt_of 356 (by decide +kernel) rfl, wt_of 357 (by decide +kernel) rfl, wt_of 358 (by decide +kernel) rfl, wt_of 54 (by decide +kernel) rfl, cd_X2_nameOf, ⟨by decide +kernel, by decide +kernel, by decide +kernel⟩⟩
theorem lkX0_73 : lkS RX0 73 jJ9_min_7cf53 2 := ⟨wt_of 354 (by decide +kernel) rfl, wt_of 262 (by decide +kernel) rfl, wt_of 51 (by decide +kernel) rfl, cd_J9_min_7cf53, ⟨by decide +kernel, by decide +kernel, by decide +kernel⟩⟩
theorem lkX1_3 : lkI RX1 3 jX5_init 2 := ⟨wt_of 420 (by decide +kernel) rfl, wt_of 288 (by decide +kernel) rfl, wt_of 53 (by decide +kernel) rfl, cd_X5_init, ⟨by decide +kernel, by decide +kernel, by decide +kernel⟩, rfl, rfl⟩
theorem lkX1_28 : lkV RX1 28 jX1_nameOf 1 := ⟨wt_of 517 (by decide +kernel) rfl, wt_of 518 (by decide +kernel) rfl, wt_of 519 (by decide +kernel) rfl, wt_of 56 (by decide +kernel) rfl, cd_X1_nameOf, ⟨by decide +kernel, by decide +kernel, by decide +kernel⟩⟩
theorem lkX2_3 : lkI RX2 3 jX5_init 2 := ⟨wt_of 287 (by decide +kernel) rfl, wt_of 288 (by decide +kernel) rfl, wt_of 53 (by decide +kernel) rfl, cd_X5_init, ⟨by decide +kernel, by decide +kernel, by decide +kernel⟩, rfl, rfl⟩
theorem lkX3_37 : lkS RX3 37 jJ7_fill_53178 2 := ⟨wt_of 142 (by decide +kernel) rfl, wt_of 109 (by decide +kernel) rfl, wt_of 48 (by decide +kernel) rfl, cd_J7_fill_53178, ⟨by decide +kernel, by decide +kernel, by decide +kernel⟩⟩
theorem lkX3_43 : lkV RX3 43 jX3_findTaken 2 := ⟨wt_of 211 (by decide +kernel) rfl, wt_of 213 (by decide +kernel) rfl, wt_of 2 (by decide +kernel) rfl, wt_of 49 (by decide +kernel) rfl, cd_X3_findTaken, ⟨by decide +kernel, by decide +kernel, by decide +kernel⟩⟩
theorem lkX3_47 : lkV RX3 47 jX3_findUndone 0 := ⟨wt_of 219 (by decide +kernel) rfl, wt_of 221 (by decide +kernel) rfl, wt_of 3 (by decide +kernel) rfl, wt_of 49 (by decide +kernel) rfl, cd_X3_findUndone, ⟨by decide +kernel, by decide +kernel, by decide +kernel⟩⟩
theorem lkX3_50 : lkV RX3 50 jX3_findOrder 0 := ⟨wt_of 224 (by decide +kernel) rfl, wt_of 226 (by decide +kernel) rfl, wt_of 4 (by decide +kernel) rfl, wt_of 49 (by decide +kernel) rfl, cd_X3_findOrder, ⟨by decide +kernel, by decide +kernel, by decide +kernel⟩⟩
theorem lkX3_53 : lkV RX3 53 jX3_findStruck 0 := ⟨wt_of 231 (by decide +kernel) rfl, wt_of 233 (by decide +kernel) rfl, wt_of 5 (by decide +kernel) rfl, wt_of 49 (by decide +kernel) rfl, cd_X3_findStruck, ⟨by decide +kernel, by decide +kernel, by decide +kernel⟩⟩
theorem lkX3_56 : lkV RX3 56 jX3_findSeen 0 := ⟨wt_of 244 (by decide +kernel) rfl, wt_of 246 (by decide +kernel) rfl, wt_of 7 (by decide +kernel) rfl, wt_of 49 (by decide +kernel) rfl, cd_X3_findSeen, ⟨by decide +kernel, by decide +kernel, by decide +kernel⟩⟩
theorem lkX3_68 : lkV RX3 68 jX3_isPlace 1 := ⟨wt_of 278 (by decide +kernel) rfl, wt_of 279 (by decide +kernel) rfl, wt_of 280 (by decide +kernel) rfl, wt_of 49 (by decide +kernel) rfl, cd_X3_isPlace, ⟨by decide +kernel, by decide +kernel, by decide +kernel⟩⟩
theorem lkX3_72 : lkV RX3 72 jX3_nameAt 1 := ⟨wt_of 390 (by decide +kernel) rfl, wt_of 275 (by decide +kernel) rfl, wt_of 276 (by decide +kernel) rfl, wt_of 49 (by decide +kernel) rfl, cd_X3_nameAt, ⟨by decide +kernel, by decide +kernel, by decide +kernel⟩⟩
theorem lkX3_76 : lkV RX3 76 jX3_tintsAt 1 := ⟨wt_of 712 (by decide +kernel) rfl, wt_of 652 (by decide +kernel) rfl, wt_of 653 (by decide +kernel) rfl, wt_of 49 (by decide +kernel) rfl, cd_X3_tintsAt, ⟨by decide +kernel, by decide +kernel, by decide +kernel⟩⟩
theorem lkX3_79 : lkS RX3 79 jJ9_max_7cf53 2 := ⟨wt_of 389 (by decide +kernel) rfl, wt_of 369 (by decide +kernel) rfl, wt_of 51 (by decide +kernel) rfl, cd_J9_max_7cf53, ⟨by decide +kernel, by decide +kernel, by decide +kernel⟩⟩
theorem lkX3_85 : lkV RX3 85 jX3_spotOf 1 := ⟨wt_of 240 (by decide +kernel) rfl, wt_of 241 (by decide +kernel) rfl, wt_of 242 (by decide +kernel) rfl, wt_of 49 (by decide +kernel) rfl, cd_X3_spotOf, ⟨by decide +kernel, by decide +kernel, by decide +kernel⟩⟩
theorem lkX3_102 : lkV RX3 102 jX3_isWorking 1 := ⟨wt_of 642 (by decide +kernel) rfl, wt_of 456 (by decide +kernel) rfl, wt_of 457 (by decide +kernel) rfl, wt_of 49 (by decide +kernel) rfl, cd_X3_isWorking, ⟨by decide +kernel, by decide +kernel, by decide +kernel⟩⟩
theorem lkX3_106 : lkV RX3 106 jX3_lay 1 := ⟨wt_of 643 (by decide +kernel) rfl, wt_of 645 (by decide +kernel) rfl, wt_of 16 (by decide +kernel) rfl, wt_of 49 (by decide +kernel) rfl, cd_X3_lay, ⟨by decide +kernel, by decide +kernel, by decide +kernel⟩⟩
theorem lkX3_116 : lkV RX3 116 jX3_endOf 1 := ⟨wt_of 647 (by decide +kernel) rfl, wt_of 649 (by decide +kernel) rfl, wt_of 17 (by decide +kernel) rfl, wt_of 49 (by decide +kernel) rfl, cd_X3_endOf, ⟨by decide +kernel, by decide +kernel, by decide +kernel⟩⟩
theorem lkX3_133 : lkV RX3 133 jX4_hasTaken 1 := ⟨wt_of 215 (by decide +kernel) rfl, wt_of 216 (by decide +kernel) rfl, wt_of 217 (by decide +kernel) rfl, wt_of 47 (by decide +kernel) rfl, cd_X4_hasTaken, ⟨by decide +kernel, by decide +kernel, by decide +kernel⟩⟩
theorem lkX3_153 : lkV RX3 153 jX3_countStruck 1 := ⟨wt_of 236 (by decide +kernel) rfl, wt_of 238 (by decide +kernel) rfl, wt_of 6 (by decide +kernel) rfl, wt_of 49 (by decide +kernel) rfl, cd_X3_countStruck, ⟨by decide +kernel, by decide +kernel, by decide +kernel⟩⟩
theorem lkX4_28 : lkS RX4 28 jJ7_fill_53178 2 := ⟨wt_of 108 (by decide +kernel) rfl, wt_of 109 (by decide +kernel) rfl, wt_of 48 (by decide +kernel) rfl, cd_J7_fill_53178, ⟨by decide +kernel, by decide +kernel, by decide +kernel⟩⟩
theorem lkX4_39 : lkV RX4 39 jX4_take 1 := ⟨wt_of 364 (by decide +kernel) rfl, wt_of 366 (by decide +kernel) rfl, wt_of 12 (by decide +kernel) rfl, wt_of 47 (by decide +kernel) rfl, cd_X4_take, ⟨by decide +kernel, by decide +kernel, by decide +kernel⟩⟩
theorem lkX4_52 : lkV RX4 52 jX4_leastMissing 1 := ⟨wt_of 487 (by decide +kernel) rfl, wt_of 488 (by decide +kernel) rfl, wt_of 489 (by decide +kernel) rfl, wt_of 47 (by decide +kernel) rfl, cd_X4_leastMissing, ⟨by decide +kernel, by decide +kernel, by decide +kernel⟩⟩
theorem lkX4_59 : lkV RX4 59 jX4_lesserMissing 2 := ⟨wt_of 491 (by decide +kernel) rfl, wt_of 493 (by decide +kernel) rfl, wt_of 14 (by decide +kernel) rfl, wt_of 47 (by decide +kernel) rfl, cd_X4_lesserMissing, ⟨by decide +kernel, by decide +kernel, by decide +kernel⟩⟩
theorem lkX4_71 : lkS RX4 71 jJ9_min_7cf53 2 := ⟨wt_of 495 (by decide +kernel) rfl, wt_of 262 (by decide +kernel) rfl, wt_of 51 (by decide +kernel) rfl, cd_J9_min_7cf53, ⟨by decide +kernel, by decide +kernel, by decide +kernel⟩⟩
theorem lkX4_82 : lkS RX4 82 jJ9_max_7cf53 2 := ⟨wt_of 368 (by decide +kernel) rfl, wt_of 369 (by decide +kernel) rfl, wt_of 51 (by decide +kernel) rfl, cd_J9_max_7cf53, ⟨by decide +kernel, by decide +kernel, by decide +kernel⟩⟩
theorem lkX6_3 : lkI RX6 3 jX5_init 2 := ⟨wt_of 394 (by decide +kernel) rfl, wt_of 288 (by decide +kernel) rfl, wt_of 53 (by decide +kernel) rfl, cd_X5_init, ⟨by decide +kernel, by decide +kernel, by decide +kernel⟩, rfl, rfl⟩
theorem lkX6_15 : lkV RX6 15 jX6_nameOf 1 := ⟨wt_of 529 (by decide +kernel) rfl, wt_of 530 (by decide +kernel) rfl, wt_of 531 (by decide +kernel) rfl, wt_of 55 (by decide +kernel) rfl, cd_X6_nameOf, ⟨by decide +kernel, by decide +kernel, by decide +kernel⟩⟩
theorem lkX7_3 : lkI RX7 3 jX5_init 2 := ⟨wt_of 464 (by decide +kernel) rfl, wt_of 288 (by decide +kernel) rfl, wt_of 53 (by decide +kernel) rfl, cd_X5_init, ⟨by decide +kernel, by decide +kernel, by decide +kernel⟩, rfl, rfl⟩
theorem lkL_9 : lkI RL 9 jX8_init 0 := ⟨wt_of 60 (by decide +kernel) rfl, wt_of 61 (by decide +kernel) rfl, wt_of 45 (by decide +kernel) rfl, cd_X8_init, ⟨by decide +kernel, by decide +kernel, by decide +kernel⟩, rfl, rfl⟩
theorem lkL_12 : lkI RL 12 jX9_init 0 := ⟨wt_of 731 (by decide +kernel) rfl, wt_of 732 (by decide +kernel) rfl, wt_of 50 (by decide +kernel) rfl, cd_X9_init, ⟨by decide +kernel, by decide +kernel, by decide +kernel⟩, rfl, rfl⟩
theorem lkL_13 : lkV RL 13 jX8_type 5 := ⟨wt_of 195 (by decide +kernel) rfl, wt_of 196 (by decide +kernel) rfl, wt_of 197 (by decide +kernel) rfl, wt_of 45 (by decide +kernel) rfl, cd_X8_type, ⟨by decide +kernel, by decide +kernel, by decide +kernel⟩⟩
theorem lkL_17 : lkV RL 17 jX9_type 5 := ⟨wt_of 821 (by decide +kernel) rfl, wt_of 822 (by decide +kernel) rfl, wt_of 823 (by decide +kernel) rfl, wt_of 50 (by decide +kernel) rfl, cd_X9_type, ⟨by decide +kernel, by decide +kernel, by decide +kernel⟩⟩
theorem lkL_18 : lkV RL 18 jX8_strike 3 := ⟨wt_of 375 (by decide +kernel) rfl, wt_of 376 (by decide +kernel) rfl, wt_of 377 (by decide +kernel) rfl, wt_of 45 (by decide +kernel) rfl, cd_X8_strike, ⟨by decide +kernel, by decide +kernel, by decide +kernel⟩⟩
theorem lkL_22 : lkV RL 22 jX9_strike 3 := ⟨wt_of 896 (by decide +kernel) rfl, wt_of 897 (by decide +kernel) rfl, wt_of 898 (by decide +kernel) rfl, wt_of 50 (by decide +kernel) rfl, cd_X9_strike, ⟨by decide +kernel, by decide +kernel, by decide +kernel⟩⟩
theorem lkL_23 : lkV RL 23 jX8_mark 5 := ⟨wt_of 404 (by decide +kernel) rfl, wt_of 405 (by decide +kernel) rfl, wt_of 406 (by decide +kernel) rfl, wt_of 45 (by decide +kernel) rfl, cd_X8_mark, ⟨by decide +kernel, by decide +kernel, by decide +kernel⟩⟩
theorem lkL_26 : lkV RL 26 jX9_mark 5 := ⟨wt_of 903 (by decide +kernel) rfl, wt_of 904 (by decide +kernel) rfl, wt_of 905 (by decide +kernel) rfl, wt_of 50 (by decide +kernel) rfl, cd_X9_mark, ⟨by decide +kernel, by decide +kernel, by decide +kernel⟩⟩
theorem lkL_27 : lkV RL 27 jX8_undo 2 := ⟨wt_of 447 (by decide +kernel) rfl, wt_of 448 (by decide +kernel) rfl, wt_of 449 (by decide +kernel) rfl, wt_of 45 (by decide +kernel) rfl, cd_X8_undo, ⟨by decide +kernel, by decide +kernel, by decide +kernel⟩⟩
theorem lkL_31 : lkV RL 31 jX9_undo 2 := ⟨wt_of 907 (by decide +kernel) rfl, wt_of 908 (by decide +kernel) rfl, wt_of 909 (by decide +kernel) rfl, wt_of 50 (by decide +kernel) rfl, cd_X9_undo, ⟨by decide +kernel, by decide +kernel, by decide +kernel⟩⟩
theorem lkL_32 : lkV RL 32 jX8_carry 2 := ⟨wt_of 475 (by decide +kernel) rfl, wt_of 476 (by decide +kernel) rfl, wt_of 477 (by decide +kernel) rfl, wt_of 45 (by decide +kernel) rfl, cd_X8_carry, ⟨by decide +kernel, by decide +kernel, by decide +kernel⟩⟩
theorem lkL_35 : lkV RL 35 jX9_carry 2 := ⟨wt_of 915 (by decide +kernel) rfl, wt_of 916 (by decide +kernel) rfl, wt_of 917 (by decide +kernel) rfl, wt_of 50 (by decide +kernel) rfl, cd_X9_carry, ⟨by decide +kernel, by decide +kernel, by decide +kernel⟩⟩
theorem lkL_36 : lkV RL 36 jX8_all 2 := ⟨wt_of 537 (by decide +kernel) rfl, wt_of 538 (by decide +kernel) rfl, wt_of 539 (by decide +kernel) rfl, wt_of 45 (by decide +kernel) rfl, cd_X8_all, ⟨by decide +kernel, by decide +kernel, by decide +kernel⟩⟩
theorem lkL_39 : lkV RL 39 jX9_all 2 := ⟨wt_of 919 (by decide +kernel) rfl, wt_of 920 (by decide +kernel) rfl, wt_of 921 (by decide +kernel) rfl, wt_of 50 (by decide +kernel) rfl, cd_X9_all, ⟨by decide +kernel, by decide +kernel, by decide +kernel⟩⟩
theorem lkL_40 : lkV RL 40 jX8_state 2 := ⟨wt_of 542 (by decide +kernel) rfl, wt_of 543 (by decide +kernel) rfl, wt_of 544 (by decide +kernel) rfl, wt_of 45 (by decide +kernel) rfl, cd_X8_state, ⟨by decide +kernel, by decide +kernel, by decide +kernel⟩⟩
theorem lkL_43 : lkV RL 43 jX9_state 2 := ⟨wt_of 923 (by decide +kernel) rfl, wt_of 924 (by decide +kernel) rfl, wt_of 925 (by decide +kernel) rfl, wt_of 50 (by decide +kernel) rfl, cd_X9_state, ⟨by decide +kernel, by decide +kernel, by decide +kernel⟩⟩
theorem lkL_44 : lkV RL 44 jX8_lacks 2 := ⟨wt_of 546 (by decide +kernel) rfl, wt_of 547 (by decide +kernel) rfl, wt_of 548 (by decide +kernel) rfl, wt_of 45 (by decide +kernel) rfl, cd_X8_lacks, ⟨by decide +kernel, by decide +kernel, by decide +kernel⟩⟩
theorem lkL_47 : lkV RL 47 jX9_lacks 2 := ⟨wt_of 927 (by decide +kernel) rfl, wt_of 928 (by decide +kernel) rfl, wt_of 929 (by decide +kernel) rfl, wt_of 50 (by decide +kernel) rfl, cd_X9_lacks, ⟨by decide +kernel, by decide +kernel, by decide +kernel⟩⟩
theorem lkL_48 : lkV RL 48 jX8_slips 0 := ⟨wt_of 551 (by decide +kernel) rfl, wt_of 552 (by decide +kernel) rfl, wt_of 553 (by decide +kernel) rfl, wt_of 45 (by decide +kernel) rfl, cd_X8_slips, ⟨by decide +kernel, by decide +kernel, by decide +kernel⟩⟩
theorem lkL_52 : lkV RL 52 jX9_slips 0 := ⟨wt_of 931 (by decide +kernel) rfl, wt_of 932 (by decide +kernel) rfl, wt_of 933 (by decide +kernel) rfl, wt_of 50 (by decide +kernel) rfl, cd_X9_slips, ⟨by decide +kernel, by decide +kernel, by decide +kernel⟩⟩
theorem lkL_53 : lkV RL 53 jX8_slip 2 := ⟨wt_of 555 (by decide +kernel) rfl, wt_of 556 (by decide +kernel) rfl, wt_of 557 (by decide +kernel) rfl, wt_of 45 (by decide +kernel) rfl, cd_X8_slip, ⟨by decide +kernel, by decide +kernel, by decide +kernel⟩⟩
theorem lkL_56 : lkV RL 56 jX9_slip 2 := ⟨wt_of 935 (by decide +kernel) rfl, wt_of 936 (by decide +kernel) rfl, wt_of 937 (by decide +kernel) rfl, wt_of 50 (by decide +kernel) rfl, cd_X9_slip, ⟨by decide +kernel, by decide +kernel, by decide +kernel⟩⟩
theorem lkL_57 : lkV RL 57 jX8_part 2 := ⟨wt_of 589 (by decide +kernel) rfl, wt_of 590 (by decide +kernel) rfl, wt_of 591 (by decide +kernel) rfl, wt_of 45 (by decide +kernel) rfl, cd_X8_part, ⟨by decide +kernel, by decide +kernel, by decide +kernel⟩⟩
theorem lkL_60 : lkV RL 60 jX9_part 2 := ⟨wt_of 939 (by decide +kernel) rfl, wt_of 940 (by decide +kernel) rfl, wt_of 941 (by decide +kernel) rfl, wt_of 50 (by decide +kernel) rfl, cd_X9_part, ⟨by decide +kernel, by decide +kernel, by decide +kernel⟩⟩
theorem lkL_61 : lkV RL 61 jX8_left 1 := ⟨wt_of 602 (by decide +kernel) rfl, wt_of 603 (by decide +kernel) rfl, wt_of 604 (by decide +kernel) rfl, wt_of 45 (by decide +kernel) rfl, cd_X8_left, ⟨by decide +kernel, by decide +kernel, by decide +kernel⟩⟩
theorem lkL_65 : lkV RL 65 jX9_left 1 := ⟨wt_of 943 (by decide +kernel) rfl, wt_of 944 (by decide +kernel) rfl, wt_of 945 (by decide +kernel) rfl, wt_of 50 (by decide +kernel) rfl, cd_X9_left, ⟨by decide +kernel, by decide +kernel, by decide +kernel⟩⟩
theorem lkL_66 : lkV RL 66 jX8_bound 1 := ⟨wt_of 606 (by decide +kernel) rfl, wt_of 607 (by decide +kernel) rfl, wt_of 608 (by decide +kernel) rfl, wt_of 45 (by decide +kernel) rfl, cd_X8_bound, ⟨by decide +kernel, by decide +kernel, by decide +kernel⟩⟩
theorem lkL_69 : lkV RL 69 jX9_bound 1 := ⟨wt_of 951 (by decide +kernel) rfl, wt_of 952 (by decide +kernel) rfl, wt_of 953 (by decide +kernel) rfl, wt_of 50 (by decide +kernel) rfl, cd_X9_bound, ⟨by decide +kernel, by decide +kernel, by decide +kernel⟩⟩
theorem lkL_70 : lkV RL 70 jX8_undone 1 := ⟨wt_of 610 (by decide +kernel) rfl, wt_of 611 (by decide +kernel) rfl, wt_of 612 (by decide +kernel) rfl, wt_of 45 (by decide +kernel) rfl, cd_X8_undone, ⟨by decide +kernel, by decide +kernel, by decide +kernel⟩⟩
theorem lkL_73 : lkV RL 73 jX9_undone 1 := ⟨wt_of 955 (by decide +kernel) rfl, wt_of 956 (by decide +kernel) rfl, wt_of 957 (by decide +kernel) rfl, wt_of 50 (by decide +kernel) rfl, cd_X9_undone, ⟨by decide +kernel, by decide +kernel, by decide +kernel⟩⟩
theorem lkL_74 : lkV RL 74 jX8_later 2 := ⟨wt_of 614 (by decide +kernel) rfl, wt_of 615 (by decide +kernel) rfl, wt_of 616 (by decide +kernel) rfl, wt_of 45 (by decide +kernel) rfl, cd_X8_later, ⟨by decide +kernel, by decide +kernel, by decide +kernel⟩⟩
theorem lkL_78 : lkV RL 78 jX9_later 2 := ⟨wt_of 959 (by decide +kernel) rfl, wt_of 960 (by decide +kernel) rfl, wt_of 961 (by decide +kernel) rfl, wt_of 50 (by decide +kernel) rfl, cd_X9_later, ⟨by decide +kernel, by decide +kernel, by decide +kernel⟩⟩
theorem lkL_79 : lkV RL 79 jX8_length 1 := ⟨wt_of 619 (by decide +kernel) rfl, wt_of 620 (by decide +kernel) rfl, wt_of 621 (by decide +kernel) rfl, wt_of 45 (by decide +kernel) rfl, cd_X8_length, ⟨by decide +kernel, by decide +kernel, by decide +kernel⟩⟩
theorem lkL_82 : lkV RL 82 jX9_length 1 := ⟨wt_of 963 (by decide +kernel) rfl, wt_of 964 (by decide +kernel) rfl, wt_of 965 (by decide +kernel) rfl, wt_of 50 (by decide +kernel) rfl, cd_X9_length, ⟨by decide +kernel, by decide +kernel, by decide +kernel⟩⟩
theorem lkL_83 : lkV RL 83 jX8_text 3 := ⟨wt_of 627 (by decide +kernel) rfl, wt_of 628 (by decide +kernel) rfl, wt_of 629 (by decide +kernel) rfl, wt_of 45 (by decide +kernel) rfl, cd_X8_text, ⟨by decide +kernel, by decide +kernel, by decide +kernel⟩⟩
theorem lkL_86 : lkV RL 86 jX9_text 3 := ⟨wt_of 967 (by decide +kernel) rfl, wt_of 968 (by decide +kernel) rfl, wt_of 969 (by decide +kernel) rfl, wt_of 50 (by decide +kernel) rfl, cd_X9_text, ⟨by decide +kernel, by decide +kernel, by decide +kernel⟩⟩
theorem lkL_87 : lkV RL 87 jX8_signs 1 := ⟨wt_of 659 (by decide +kernel) rfl, wt_of 660 (by decide +kernel) rfl, wt_of 661 (by decide +kernel) rfl, wt_of 45 (by decide +kernel) rfl, cd_X8_signs, ⟨by decide +kernel, by decide +kernel, by decide +kernel⟩⟩
theorem lkL_90 : lkV RL 90 jX9_signs 1 := ⟨wt_of 987 (by decide +kernel) rfl, wt_of 988 (by decide +kernel) rfl, wt_of 989 (by decide +kernel) rfl, wt_of 50 (by decide +kernel) rfl, cd_X9_signs, ⟨by decide +kernel, by decide +kernel, by decide +kernel⟩⟩
theorem lkL_91 : lkV RL 91 jX8_order 2 := ⟨wt_of 663 (by decide +kernel) rfl, wt_of 664 (by decide +kernel) rfl, wt_of 665 (by decide +kernel) rfl, wt_of 45 (by decide +kernel) rfl, cd_X8_order, ⟨by decide +kernel, by decide +kernel, by decide +kernel⟩⟩
theorem lkL_94 : lkV RL 94 jX9_order 2 := ⟨wt_of 991 (by decide +kernel) rfl, wt_of 992 (by decide +kernel) rfl, wt_of 993 (by decide +kernel) rfl, wt_of 50 (by decide +kernel) rfl, cd_X9_order, ⟨by decide +kernel, by decide +kernel, by decide +kernel⟩⟩
theorem lkL_95 : lkV RL 95 jX8_place 2 := ⟨wt_of 667 (by decide +kernel) rfl, wt_of 668 (by decide +kernel) rfl, wt_of 669 (by decide +kernel) rfl, wt_of 45 (by decide +kernel) rfl, cd_X8_place, ⟨by decide +kernel, by decide +kernel, by decide +kernel⟩⟩
theorem lkL_98 : lkV RL 98 jX9_place 2 := ⟨wt_of 996 (by decide +kernel) rfl, wt_of 997 (by decide +kernel) rfl, wt_of 998 (by decide +kernel) rfl, wt_of 50 (by decide +kernel) rfl, cd_X9_place, ⟨by decide +kernel, by decide +kernel, by decide +kernel⟩⟩
theorem lkL_99 : lkV RL 99 jX8_strikers 2 := ⟨wt_of 676 (by decide +kernel) rfl, wt_of 677 (by decide +kernel) rfl, wt_of 678 (by decide +kernel) rfl, wt_of 45 (by decide +kernel) rfl, cd_X8_strikers, ⟨by decide +kernel, by decide +kernel, by decide +kernel⟩⟩
theorem lkL_102 : lkV RL 102 jX9_strikers 2 := ⟨wt_of 1004 (by decide +kernel) rfl, wt_of 1005 (by decide +kernel) rfl, wt_of 1006 (by decide +kernel) rfl, wt_of 50 (by decide +kernel) rfl, cd_X9_strikers, ⟨by decide +kernel, by decide +kernel, by decide +kernel⟩⟩
theorem lkL_103 : lkV RL 103 jX8_spans 2 := ⟨wt_of 680 (by decide +kernel) rfl, wt_of 681 (by decide +kernel) rfl, wt_of 682 (by decide +kernel) rfl, wt_of 45 (by decide +kernel) rfl, cd_X8_spans, ⟨by decide +kernel, by decide +kernel, by decide +kernel⟩⟩
theorem lkL_106 : lkV RL 106 jX9_spans 2 := ⟨wt_of 1008 (by decide +kernel) rfl, wt_of 1009 (by decide +kernel) rfl, wt_of 1010 (by decide +kernel) rfl, wt_of 50 (by decide +kernel) rfl, cd_X9_spans, ⟨by decide +kernel, by decide +kernel, by decide +kernel⟩⟩
theorem lkL_107 : lkV RL 107 jX8_history 2 := ⟨wt_of 688 (by decide +kernel) rfl, wt_of 689 (by decide +kernel) rfl, wt_of 690 (by decide +kernel) rfl, wt_of 45 (by decide +kernel) rfl, cd_X8_history, ⟨by decide +kernel, by decide +kernel, by decide +kernel⟩⟩
theorem lkL_110 : lkV RL 110 jX9_history 2 := ⟨wt_of 1012 (by decide +kernel) rfl, wt_of 1013 (by decide +kernel) rfl, wt_of 1014 (by decide +kernel) rfl, wt_of 50 (by decide +kernel) rfl, cd_X9_history, ⟨by decide +kernel, by decide +kernel, by decide +kernel⟩⟩
theorem lkL_111 : lkV RL 111 jX8_asOf 3 := ⟨wt_of 692 (by decide +kernel) rfl, wt_of 693 (by decide +kernel) rfl, wt_of 694 (by decide +kernel) rfl, wt_of 45 (by decide +kernel) rfl, cd_X8_asOf, ⟨by decide +kernel, by decide +kernel, by decide +kernel⟩⟩
theorem lkL_114 : lkV RL 114 jX9_asOf 3 := ⟨wt_of 1016 (by decide +kernel) rfl, wt_of 1017 (by decide +kernel) rfl, wt_of 1018 (by decide +kernel) rfl, wt_of 50 (by decide +kernel) rfl, cd_X9_asOf, ⟨by decide +kernel, by decide +kernel, by decide +kernel⟩⟩
theorem lkL_115 : lkV RL 115 jX8_unlike 2 := ⟨wt_of 696 (by decide +kernel) rfl, wt_of 697 (by decide +kernel) rfl, wt_of 698 (by decide +kernel) rfl, wt_of 45 (by decide +kernel) rfl, cd_X8_unlike, ⟨by decide +kernel, by decide +kernel, by decide +kernel⟩⟩
theorem lkL_118 : lkV RL 118 jX9_unlike 2 := ⟨wt_of 1020 (by decide +kernel) rfl, wt_of 1021 (by decide +kernel) rfl, wt_of 1022 (by decide +kernel) rfl, wt_of 50 (by decide +kernel) rfl, cd_X9_unlike, ⟨by decide +kernel, by decide +kernel, by decide +kernel⟩⟩
theorem lkL_119 : lkV RL 119 jX8_cursor 4 := ⟨wt_of 714 (by decide +kernel) rfl, wt_of 715 (by decide +kernel) rfl, wt_of 716 (by decide +kernel) rfl, wt_of 45 (by decide +kernel) rfl, cd_X8_cursor, ⟨by decide +kernel, by decide +kernel, by decide +kernel⟩⟩
theorem lkL_123 : lkV RL 123 jX9_cursor 4 := ⟨wt_of 1024 (by decide +kernel) rfl, wt_of 1025 (by decide +kernel) rfl, wt_of 1026 (by decide +kernel) rfl, wt_of 50 (by decide +kernel) rfl, cd_X9_cursor, ⟨by decide +kernel, by decide +kernel, by decide +kernel⟩⟩
theorem lkL_124 : lkV RL 124 jX8_where 2 := ⟨wt_of 721 (by decide +kernel) rfl, wt_of 722 (by decide +kernel) rfl, wt_of 723 (by decide +kernel) rfl, wt_of 45 (by decide +kernel) rfl, cd_X8_where, ⟨by decide +kernel, by decide +kernel, by decide +kernel⟩⟩
theorem lkL_127 : lkV RL 127 jX9_where 2 := ⟨wt_of 1028 (by decide +kernel) rfl, wt_of 1029 (by decide +kernel) rfl, wt_of 1030 (by decide +kernel) rfl, wt_of 50 (by decide +kernel) rfl, cd_X9_where, ⟨by decide +kernel, by decide +kernel, by decide +kernel⟩⟩
theorem lkL_128 : lkV RL 128 jX8_status 0 := ⟨wt_of 725 (by decide +kernel) rfl, wt_of 726 (by decide +kernel) rfl, wt_of 727 (by decide +kernel) rfl, wt_of 45 (by decide +kernel) rfl, cd_X8_status, ⟨by decide +kernel, by decide +kernel, by decide +kernel⟩⟩
theorem lkL_131 : lkV RL 131 jX9_status 0 := ⟨wt_of 1032 (by decide +kernel) rfl, wt_of 1033 (by decide +kernel) rfl, wt_of 1034 (by decide +kernel) rfl, wt_of 50 (by decide +kernel) rfl, cd_X9_status, ⟨by decide +kernel, by decide +kernel, by decide +kernel⟩⟩
theorem lkX9_90 : lkV RX9 90 jX9_latestOf 2 := ⟨wt_of 848 (by decide +kernel) rfl, wt_of 850 (by decide +kernel) rfl, wt_of 25 (by decide +kernel) rfl, wt_of 50 (by decide +kernel) rfl, cd_X9_latestOf, ⟨by decide +kernel, by decide +kernel, by decide +kernel⟩⟩
theorem lkX9_94 : lkV RX9 94 jX9_need 1 := ⟨wt_of 852 (by decide +kernel) rfl, wt_of 854 (by decide +kernel) rfl, wt_of 26 (by decide +kernel) rfl, wt_of 50 (by decide +kernel) rfl, cd_X9_need, ⟨by decide +kernel, by decide +kernel, by decide +kernel⟩⟩
theorem lkX9_98 : lkV RX9 98 jX9_findNeeds 1 := ⟨wt_of 844 (by decide +kernel) rfl, wt_of 846 (by decide +kernel) rfl, wt_of 24 (by decide +kernel) rfl, wt_of 50 (by decide +kernel) rfl, cd_X9_findNeeds, ⟨by decide +kernel, by decide +kernel, by decide +kernel⟩⟩
theorem lkX9_101 : lkV RX9 101 jX9_hasNeeds 1 := ⟨wt_of 840 (by decide +kernel) rfl, wt_of 842 (by decide +kernel) rfl, wt_of 23 (by decide +kernel) rfl, wt_of 50 (by decide +kernel) rfl, cd_X9_hasNeeds, ⟨by decide +kernel, by decide +kernel, by decide +kernel⟩⟩
theorem lkX9_108 : lkV RX9 108 jX9_isLater 2 := ⟨wt_of 872 (by decide +kernel) rfl, wt_of 874 (by decide +kernel) rfl, wt_of 31 (by decide +kernel) rfl, wt_of 50 (by decide +kernel) rfl, cd_X9_isLater, ⟨by decide +kernel, by decide +kernel, by decide +kernel⟩⟩
theorem lkX9_115 : lkV RX9 115 jX9_pilePuts 1 := ⟨wt_of 868 (by decide +kernel) rfl, wt_of 870 (by decide +kernel) rfl, wt_of 30 (by decide +kernel) rfl, wt_of 50 (by decide +kernel) rfl, cd_X9_pilePuts, ⟨by decide +kernel, by decide +kernel, by decide +kernel⟩⟩
theorem lkX9_118 : lkV RX9 118 jX9_strikesOf 1 := ⟨wt_of 880 (by decide +kernel) rfl, wt_of 882 (by decide +kernel) rfl, wt_of 33 (by decide +kernel) rfl, wt_of 50 (by decide +kernel) rfl, cd_X9_strikesOf, ⟨by decide +kernel, by decide +kernel, by decide +kernel⟩⟩
theorem lkX9_122 : lkV RX9 122 jX9_findWorks 0 := ⟨wt_of 860 (by decide +kernel) rfl, wt_of 862 (by decide +kernel) rfl, wt_of 28 (by decide +kernel) rfl, wt_of 50 (by decide +kernel) rfl, cd_X9_findWorks, ⟨by decide +kernel, by decide +kernel, by decide +kernel⟩⟩
theorem lkX9_125 : lkV RX9 125 jX9_findOrder 0 := ⟨wt_of 864 (by decide +kernel) rfl, wt_of 866 (by decide +kernel) rfl, wt_of 29 (by decide +kernel) rfl, wt_of 50 (by decide +kernel) rfl, cd_X9_findOrder, ⟨by decide +kernel, by decide +kernel, by decide +kernel⟩⟩
theorem lkX9_128 : lkV RX9 128 jX9_isStruck 1 := ⟨wt_of 876 (by decide +kernel) rfl, wt_of 878 (by decide +kernel) rfl, wt_of 32 (by decide +kernel) rfl, wt_of 50 (by decide +kernel) rfl, cd_X9_isStruck, ⟨by decide +kernel, by decide +kernel, by decide +kernel⟩⟩
theorem lkX9_131 : lkV RX9 131 jX9_findTaken 1 := ⟨wt_of 836 (by decide +kernel) rfl, wt_of 838 (by decide +kernel) rfl, wt_of 22 (by decide +kernel) rfl, wt_of 50 (by decide +kernel) rfl, cd_X9_findTaken, ⟨by decide +kernel, by decide +kernel, by decide +kernel⟩⟩
theorem lkX9_134 : lkV RX9 134 jX9_findText 0 := ⟨wt_of 856 (by decide +kernel) rfl, wt_of 858 (by decide +kernel) rfl, wt_of 27 (by decide +kernel) rfl, wt_of 50 (by decide +kernel) rfl, cd_X9_findText, ⟨by decide +kernel, by decide +kernel, by decide +kernel⟩⟩
theorem lkX9_138 : lkV RX9 138 jX9_inOrder 1 := ⟨wt_of 983 (by decide +kernel) rfl, wt_of 985 (by decide +kernel) rfl, wt_of 42 (by decide +kernel) rfl, wt_of 50 (by decide +kernel) rfl, cd_X9_inOrder, ⟨by decide +kernel, by decide +kernel, by decide +kernel⟩⟩
theorem lkX9_141 : lkV RX9 141 jX9_covers 2 := ⟨wt_of 979 (by decide +kernel) rfl, wt_of 981 (by decide +kernel) rfl, wt_of 41 (by decide +kernel) rfl, wt_of 50 (by decide +kernel) rfl, cd_X9_covers, ⟨by decide +kernel, by decide +kernel, by decide +kernel⟩⟩
theorem lkX9_144 : lkV RX9 144 jX9_hasTint 2 := ⟨wt_of 975 (by decide +kernel) rfl, wt_of 977 (by decide +kernel) rfl, wt_of 40 (by decide +kernel) rfl, wt_of 50 (by decide +kernel) rfl, cd_X9_hasTint, ⟨by decide +kernel, by decide +kernel, by decide +kernel⟩⟩
theorem lkX9_147 : lkS RX9 147 jX9_isPen 1 := ⟨wt_of 825 (by decide +kernel) rfl, wt_of 826 (by decide +kernel) rfl, wt_of 50 (by decide +kernel) rfl, cd_X9_isPen, ⟨by decide +kernel, by decide +kernel, by decide +kernel⟩⟩
theorem lkX9_150 : lkV RX9 150 jX9_refuse 1 := ⟨wt_of 828 (by decide +kernel) rfl, wt_of 830 (by decide +kernel) rfl, wt_of 20 (by decide +kernel) rfl, wt_of 50 (by decide +kernel) rfl, cd_X9_refuse, ⟨by decide +kernel, by decide +kernel, by decide +kernel⟩⟩
theorem lkX9_153 : lkV RX9 153 jX9_sheet 1 := ⟨wt_of 832 (by decide +kernel) rfl, wt_of 834 (by decide +kernel) rfl, wt_of 21 (by decide +kernel) rfl, wt_of 50 (by decide +kernel) rfl, cd_X9_sheet, ⟨by decide +kernel, by decide +kernel, by decide +kernel⟩⟩
theorem lkX9_156 : lkV RX9 156 jX9_atPlace 1 := ⟨wt_of 884 (by decide +kernel) rfl, wt_of 886 (by decide +kernel) rfl, wt_of 34 (by decide +kernel) rfl, wt_of 50 (by decide +kernel) rfl, cd_X9_atPlace, ⟨by decide +kernel, by decide +kernel, by decide +kernel⟩⟩
theorem lkX9_159 : lkV RX9 159 jX9_make 3 := ⟨wt_of 888 (by decide +kernel) rfl, wt_of 890 (by decide +kernel) rfl, wt_of 35 (by decide +kernel) rfl, wt_of 50 (by decide +kernel) rfl, cd_X9_make, ⟨by decide +kernel, by decide +kernel, by decide +kernel⟩⟩
theorem lkX9_163 : lkV RX9 163 jX9_done 1 := ⟨wt_of 892 (by decide +kernel) rfl, wt_of 894 (by decide +kernel) rfl, wt_of 36 (by decide +kernel) rfl, wt_of 50 (by decide +kernel) rfl, cd_X9_done, ⟨by decide +kernel, by decide +kernel, by decide +kernel⟩⟩
theorem lkX9_166 : lkS RX9 166 jX9_isRange 3 := ⟨wt_of 900 (by decide +kernel) rfl, wt_of 901 (by decide +kernel) rfl, wt_of 50 (by decide +kernel) rfl, cd_X9_isRange, ⟨by decide +kernel, by decide +kernel, by decide +kernel⟩⟩
theorem lkX9_170 : lkV RX9 170 jX9_isSlip 1 := ⟨wt_of 911 (by decide +kernel) rfl, wt_of 913 (by decide +kernel) rfl, wt_of 37 (by decide +kernel) rfl, wt_of 50 (by decide +kernel) rfl, cd_X9_isSlip, ⟨by decide +kernel, by decide +kernel, by decide +kernel⟩⟩
theorem lkX9_173 : lkV RX9 173 jX9_linked 2 := ⟨wt_of 947 (by decide +kernel) rfl, wt_of 949 (by decide +kernel) rfl, wt_of 38 (by decide +kernel) rfl, wt_of 50 (by decide +kernel) rfl, cd_X9_linked, ⟨by decide +kernel, by decide +kernel, by decide +kernel⟩⟩
theorem lkX9_176 : lkV RX9 176 jX9_tintsOf 1 := ⟨wt_of 971 (by decide +kernel) rfl, wt_of 973 (by decide +kernel) rfl, wt_of 39 (by decide +kernel) rfl, wt_of 50 (by decide +kernel) rfl, cd_X9_tintsOf, ⟨by decide +kernel, by decide +kernel, by decide +kernel⟩⟩
theorem lkX9_179 : lkV RX9 179 jX9_signs 1 := ⟨wt_of 995 (by decide +kernel) rfl, wt_of 988 (by decide +kernel) rfl, wt_of 989 (by decide +kernel) rfl, wt_of 50 (by decide +kernel) rfl, cd_X9_signs, ⟨by decide +kernel, by decide +kernel, by decide +kernel⟩⟩
theorem lkX9_182 : lkV RX9 182 jX9_seenAhead 1 := ⟨wt_of 1000 (by decide +kernel) rfl, wt_of 1002 (by decide +kernel) rfl, wt_of 43 (by decide +kernel) rfl, wt_of 50 (by decide +kernel) rfl, cd_X9_seenAhead, ⟨by decide +kernel, by decide +kernel, by decide +kernel⟩⟩
theorem lkJ7_304 : lkS RJ7 304 jJ9_min_7cf53 2 := ⟨wt_of 261 (by decide +kernel) rfl, wt_of 262 (by decide +kernel) rfl, wt_of 51 (by decide +kernel) rfl, cd_J9_min_7cf53, ⟨by decide +kernel, by decide +kernel, by decide +kernel⟩⟩
