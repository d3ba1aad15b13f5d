theorem foX7_10 : FlO RX7 10 7 0 := ⟨_, rfl, by decide, tb_w 263 (by decide +kernel) (by decide +kernel)⟩
theorem fX7_10 : Fl RX7 10 7 0 := foX7_10.fl
theorem foX7_19 : FlO RX7 19 7 1 := ⟨_, rfl, by decide, tb_w 264 (by decide +kernel) (by decide +kernel)⟩
theorem fX7_19 : Fl RX7 19 7 1 := foX7_19.fl
theorem foX7_23 : FlO RX7 23 7 2 := ⟨_, rfl, by decide, tb_w 265 (by decide +kernel) (by decide +kernel)⟩
theorem fX7_23 : Fl RX7 23 7 2 := foX7_23.fl
theorem foX7_30 : FlO RX7 30 7 3 := ⟨_, rfl, by decide, tb_w 266 (by decide +kernel) (by decide +kernel)⟩
theorem fX7_30 : Fl RX7 30 7 3 := foX7_30.fl
theorem foX7_37 : FlO RX7 37 7 4 := ⟨_, rfl, by decide, tb_w 267 (by decide +kernel) (by decide +kernel)⟩
theorem fX7_37 : Fl RX7 37 7 4 := foX7_37.fl
theorem foX7_44 : FlO RX7 44 7 5 := ⟨_, rfl, by decide, tb_w 268 (by decide +kernel) (by decide +kernel)⟩
theorem fX7_44 : Fl RX7 44 7 5 := foX7_44.fl
theorem foX7_51 : FlO RX7 51 7 6 := ⟨_, rfl, by decide, tb_w 269 (by decide +kernel) (by decide +kernel)⟩
theorem fX7_51 : Fl RX7 51 7 6 := foX7_51.fl
theorem foX7_57 : FlO RX7 57 7 7 := ⟨_, rfl, by decide, tb_w 270 (by decide +kernel) (by decide +kernel)⟩
theorem fX7_57 : Fl RX7 57 7 7 := foX7_57.fl
theorem fX7_61 : Fl RX7 61 0 6 := ⟨_, rfl, by decide, Or.inr ⟨"LastScale", tb_n 149 (by decide +kernel) (by decide +kernel)⟩⟩
theorem fX7_69 : Fl RX7 69 2 1 := ⟨_, rfl, by decide, Or.inr ⟨"LastScale", tb_n 111 (by decide +kernel) (by decide +kernel)⟩⟩
theorem fX7_82 : Fl RX7 82 0 7 := ⟨_, rfl, by decide, Or.inr ⟨"LastScale", tb_n 155 (by decide +kernel) (by decide +kernel)⟩⟩
theorem fX7_89 : Fl RX7 89 0 0 := ⟨_, rfl, by decide, Or.inr ⟨"LastScale", tb_n 134 (by decide +kernel) (by decide +kernel)⟩⟩
theorem fX7_124 : Fl RX7 124 0 4 := ⟨_, rfl, by decide, Or.inr ⟨"LastScale", tb_n 144 (by decide +kernel) (by decide +kernel)⟩⟩
theorem fX7_146 : Fl RX7 146 4 4 := ⟨_, rfl, by decide, Or.inr ⟨"LastScale", tb_n 191 (by decide +kernel) (by decide +kernel)⟩⟩
theorem fX7_179 : Fl RX7 179 0 2 := ⟨_, rfl, by decide, Or.inr ⟨"LastScale", tb_n 139 (by decide +kernel) (by decide +kernel)⟩⟩
theorem fX7_182 : Fl RX7 182 0 3 := ⟨_, rfl, by decide, Or.inr ⟨"LastScale", tb_n 142 (by decide +kernel) (by decide +kernel)⟩⟩
theorem fX7_185 : Fl RX7 185 0 8 := ⟨_, rfl, by decide, Or.inr ⟨"LastScale", tb_n 158 (by decide +kernel) (by decide +kernel)⟩⟩
theorem fX7_192 : Fl RX7 192 5 0 := ⟨_, rfl, by decide, Or.inr ⟨"LastScale", tb_n 210 (by decide +kernel) (by decide +kernel)⟩⟩
theorem fX7_195 : Fl RX7 195 5 1 := ⟨_, rfl, by decide, Or.inr ⟨"LastScale", tb_n 212 (by decide +kernel) (by decide +kernel)⟩⟩
theorem fX7_202 : Fl RX7 202 1 0 := ⟨_, rfl, by decide, Or.inr ⟨"LastScale", tb_n 228 (by decide +kernel) (by decide +kernel)⟩⟩
theorem fX7_205 : Fl RX7 205 1 1 := ⟨_, rfl, by decide, Or.inr ⟨"LastScale", tb_n 230 (by decide +kernel) (by decide +kernel)⟩⟩
theorem fX7_208 : Fl RX7 208 1 2 := ⟨_, rfl, by decide, Or.inr ⟨"LastScale", tb_n 232 (by decide +kernel) (by decide +kernel)⟩⟩
theorem fX7_211 : Fl RX7 211 0 5 := ⟨_, rfl, by decide, Or.inr ⟨"LastScale", tb_n 146 (by decide +kernel) (by decide +kernel)⟩⟩
theorem fX7_225 : Fl RX7 225 6 2 := ⟨_, rfl, by decide, Or.inr ⟨"LastScale", tb_n 249 (by decide +kernel) (by decide +kernel)⟩⟩
theorem fX7_228 : Fl RX7 228 6 3 := ⟨_, rfl, by decide, Or.inr ⟨"LastScale", tb_n 251 (by decide +kernel) (by decide +kernel)⟩⟩
theorem fX7_238 : Fl RX7 238 0 1 := ⟨_, rfl, by decide, Or.inr ⟨"LastScale", tb_n 136 (by decide +kernel) (by decide +kernel)⟩⟩
theorem foX0_11 : FlO RX0 11 0 0 := ⟨_, rfl, by decide, tb_w 131 (by decide +kernel) (by decide +kernel)⟩
theorem fX0_11 : Fl RX0 11 0 0 := foX0_11.fl
theorem foX0_16 : FlO RX0 16 0 1 := ⟨_, rfl, by decide, tb_w 135 (by decide +kernel) (by decide +kernel)⟩
theorem fX0_16 : Fl RX0 16 0 1 := foX0_16.fl
theorem foX0_20 : FlO RX0 20 0 2 := ⟨_, rfl, by decide, tb_w 137 (by decide +kernel) (by decide +kernel)⟩
theorem fX0_20 : Fl RX0 20 0 2 := foX0_20.fl
theorem foX0_23 : FlO RX0 23 0 3 := ⟨_, rfl, by decide, tb_w 140 (by decide +kernel) (by decide +kernel)⟩
theorem fX0_23 : Fl RX0 23 0 3 := foX0_23.fl
theorem foX0_26 : FlO RX0 26 0 4 := ⟨_, rfl, by decide, tb_w 143 (by decide +kernel) (by decide +kernel)⟩
theorem fX0_26 : Fl RX0 26 0 4 := foX0_26.fl
theorem foX0_29 : FlO RX0 29 0 5 := ⟨_, rfl, by decide, tb_w 145 (by decide +kernel) (by decide +kernel)⟩
theorem fX0_29 : Fl RX0 29 0 5 := foX0_29.fl
theorem foX0_36 : FlO RX0 36 0 6 := ⟨_, rfl, by decide, tb_w 147 (by decide +kernel) (by decide +kernel)⟩
theorem fX0_36 : Fl RX0 36 0 6 := foX0_36.fl
theorem foX0_40 : FlO RX0 40 0 7 := ⟨_, rfl, by decide, tb_w 151 (by decide +kernel) (by decide +kernel)⟩
theorem fX0_40 : Fl RX0 40 0 7 := foX0_40.fl
theorem fX0_43 : Fl RX0 43 2 1 := ⟨_, rfl, by decide, Or.inr ⟨"LastScale", tb_n 112 (by decide +kernel) (by decide +kernel)⟩⟩
theorem foX0_65 : FlO RX0 65 0 8 := ⟨_, rfl, by decide, tb_w 157 (by decide +kernel) (by decide +kernel)⟩
theorem fX0_65 : Fl RX0 65 0 8 := foX0_65.fl
theorem foX1_9 : FlO RX1 9 1 0 := ⟨_, rfl, by decide, tb_w 227 (by decide +kernel) (by decide +kernel)⟩
theorem fX1_9 : Fl RX1 9 1 0 := foX1_9.fl
theorem foX1_15 : FlO RX1 15 1 1 := ⟨_, rfl, by decide, tb_w 229 (by decide +kernel) (by decide +kernel)⟩
theorem fX1_15 : Fl RX1 15 1 1 := foX1_15.fl
theorem foX1_18 : FlO RX1 18 1 2 := ⟨_, rfl, by decide, tb_w 231 (by decide +kernel) (by decide +kernel)⟩
theorem fX1_18 : Fl RX1 18 1 2 := foX1_18.fl
theorem fX1_21 : Fl RX1 21 0 7 := ⟨_, rfl, by decide, Or.inr ⟨"LastScale", tb_n 152 (by decide +kernel) (by decide +kernel)⟩⟩
theorem fX1_38 : Fl RX1 38 4 4 := ⟨_, rfl, by decide, Or.inr ⟨"LastScale", tb_n 189 (by decide +kernel) (by decide +kernel)⟩⟩
theorem foX2_9 : FlO RX2 9 2 0 := ⟨_, rfl, by decide, tb_w 109 (by decide +kernel) (by decide +kernel)⟩
theorem fX2_9 : Fl RX2 9 2 0 := foX2_9.fl
theorem foX2_15 : FlO RX2 15 2 1 := ⟨_, rfl, by decide, tb_w 110 (by decide +kernel) (by decide +kernel)⟩
theorem fX2_15 : Fl RX2 15 2 1 := foX2_15.fl
theorem foX3_18 : FlO RX3 18 3 0 := ⟨_, rfl, by decide, tb_w 495 (by decide +kernel) (by decide +kernel)⟩
theorem fX3_18 : Fl RX3 18 3 0 := foX3_18.fl
theorem foX3_24 : FlO RX3 24 3 1 := ⟨_, rfl, by decide, tb_w 496 (by decide +kernel) (by decide +kernel)⟩
theorem fX3_24 : Fl RX3 24 3 1 := foX3_24.fl
theorem foX3_31 : FlO RX3 31 3 2 := ⟨_, rfl, by decide, tb_w 497 (by decide +kernel) (by decide +kernel)⟩
theorem fX3_31 : Fl RX3 31 3 2 := foX3_31.fl
theorem foX4_9 : FlO RX4 9 4 0 := ⟨_, rfl, by decide, tb_w 185 (by decide +kernel) (by decide +kernel)⟩
theorem fX4_9 : Fl RX4 9 4 0 := foX4_9.fl
theorem foX4_15 : FlO RX4 15 4 1 := ⟨_, rfl, by decide, tb_w 186 (by decide +kernel) (by decide +kernel)⟩
theorem fX4_15 : Fl RX4 15 4 1 := foX4_15.fl
theorem fX4_18 : Fl RX4 18 0 6 := ⟨_, rfl, by decide, Or.inr ⟨"LastScale", tb_n 148 (by decide +kernel) (by decide +kernel)⟩⟩
theorem foX4_24 : FlO RX4 24 4 2 := ⟨_, rfl, by decide, tb_w 187 (by decide +kernel) (by decide +kernel)⟩
theorem fX4_24 : Fl RX4 24 4 2 := foX4_24.fl
theorem fX4_25 : Fl RX4 25 0 7 := ⟨_, rfl, by decide, Or.inr ⟨"LastScale", tb_n 153 (by decide +kernel) (by decide +kernel)⟩⟩
theorem fX4_28 : Fl RX4 28 0 0 := ⟨_, rfl, by decide, Or.inr ⟨"LastScale", tb_n 132 (by decide +kernel) (by decide +kernel)⟩⟩
theorem foX4_42 : FlO RX4 42 4 4 := ⟨_, rfl, by decide, tb_w 190 (by decide +kernel) (by decide +kernel)⟩
theorem fX4_42 : Fl RX4 42 4 4 := foX4_42.fl
theorem foX4_61 : FlO RX4 61 4 3 := ⟨_, rfl, by decide, tb_w 188 (by decide +kernel) (by decide +kernel)⟩
theorem fX4_61 : Fl RX4 61 4 3 := foX4_61.fl
theorem foX5_9 : FlO RX5 9 5 0 := ⟨_, rfl, by decide, tb_w 209 (by decide +kernel) (by decide +kernel)⟩
theorem fX5_9 : Fl RX5 9 5 0 := foX5_9.fl
theorem foX5_15 : FlO RX5 15 5 1 := ⟨_, rfl, by decide, tb_w 211 (by decide +kernel) (by decide +kernel)⟩
theorem fX5_15 : Fl RX5 15 5 1 := foX5_15.fl
theorem fX5_18 : Fl RX5 18 0 2 := ⟨_, rfl, by decide, Or.inr ⟨"LastScale", tb_n 138 (by decide +kernel) (by decide +kernel)⟩⟩
theorem fX5_29 : Fl RX5 29 0 3 := ⟨_, rfl, by decide, Or.inr ⟨"LastScale", tb_n 141 (by decide +kernel) (by decide +kernel)⟩⟩
theorem foX5_32 : FlO RX5 32 5 2 := ⟨_, rfl, by decide, tb_w 213 (by decide +kernel) (by decide +kernel)⟩
theorem fX5_32 : Fl RX5 32 5 2 := foX5_32.fl
theorem fX5_36 : Fl RX5 36 0 7 := ⟨_, rfl, by decide, Or.inr ⟨"LastScale", tb_n 154 (by decide +kernel) (by decide +kernel)⟩⟩
theorem fX5_40 : Fl RX5 40 0 0 := ⟨_, rfl, by decide, Or.inr ⟨"LastScale", tb_n 133 (by decide +kernel) (by decide +kernel)⟩⟩
theorem fX5_44 : Fl RX5 44 0 8 := ⟨_, rfl, by decide, Or.inr ⟨"LastScale", tb_n 156 (by decide +kernel) (by decide +kernel)⟩⟩
theorem fX5_51 : Fl RX5 51 0 6 := ⟨_, rfl, by decide, Or.inr ⟨"LastScale", tb_n 150 (by decide +kernel) (by decide +kernel)⟩⟩
theorem foX6_9 : FlO RX6 9 6 0 := ⟨_, rfl, by decide, tb_w 246 (by decide +kernel) (by decide +kernel)⟩
theorem fX6_9 : Fl RX6 9 6 0 := foX6_9.fl
theorem foX6_15 : FlO RX6 15 6 1 := ⟨_, rfl, by decide, tb_w 247 (by decide +kernel) (by decide +kernel)⟩
theorem fX6_15 : Fl RX6 15 6 1 := foX6_15.fl
theorem foX6_29 : FlO RX6 29 6 2 := ⟨_, rfl, by decide, tb_w 248 (by decide +kernel) (by decide +kernel)⟩
theorem fX6_29 : Fl RX6 29 6 2 := foX6_29.fl
theorem foX6_36 : FlO RX6 36 6 3 := ⟨_, rfl, by decide, tb_w 250 (by decide +kernel) (by decide +kernel)⟩
theorem fX6_36 : Fl RX6 36 6 3 := foX6_36.fl
theorem foX8_7 : FlO RX8 7 8 0 := ⟨_, rfl, by decide, tb_w 684 (by decide +kernel) (by decide +kernel)⟩
theorem fX8_7 : Fl RX8 7 8 0 := foX8_7.fl
theorem foX8_13 : FlO RX8 13 8 2 := ⟨_, rfl, by decide, tb_w 686 (by decide +kernel) (by decide +kernel)⟩
theorem fX8_13 : Fl RX8 13 8 2 := foX8_13.fl
theorem foX8_17 : FlO RX8 17 8 4 := ⟨_, rfl, by decide, tb_w 688 (by decide +kernel) (by decide +kernel)⟩
theorem fX8_17 : Fl RX8 17 8 4 := foX8_17.fl
theorem foX8_20 : FlO RX8 20 8 5 := ⟨_, rfl, by decide, tb_w 689 (by decide +kernel) (by decide +kernel)⟩
theorem fX8_20 : Fl RX8 20 8 5 := foX8_20.fl
theorem foX8_23 : FlO RX8 23 8 6 := ⟨_, rfl, by decide, tb_w 690 (by decide +kernel) (by decide +kernel)⟩
theorem fX8_23 : Fl RX8 23 8 6 := foX8_23.fl
theorem foX8_26 : FlO RX8 26 8 7 := ⟨_, rfl, by decide, tb_w 691 (by decide +kernel) (by decide +kernel)⟩
theorem fX8_26 : Fl RX8 26 8 7 := foX8_26.fl
theorem foX8_29 : FlO RX8 29 8 8 := ⟨_, rfl, by decide, tb_w 692 (by decide +kernel) (by decide +kernel)⟩
theorem fX8_29 : Fl RX8 29 8 8 := foX8_29.fl
theorem foX8_32 : FlO RX8 32 8 10 := ⟨_, rfl, by decide, tb_w 694 (by decide +kernel) (by decide +kernel)⟩
theorem fX8_32 : Fl RX8 32 8 10 := foX8_32.fl
theorem foX8_35 : FlO RX8 35 8 11 := ⟨_, rfl, by decide, tb_w 695 (by decide +kernel) (by decide +kernel)⟩
theorem fX8_35 : Fl RX8 35 8 11 := foX8_35.fl
theorem foX8_39 : FlO RX8 39 8 12 := ⟨_, rfl, by decide, tb_w 696 (by decide +kernel) (by decide +kernel)⟩
theorem fX8_39 : Fl RX8 39 8 12 := foX8_39.fl
theorem foX8_42 : FlO RX8 42 8 14 := ⟨_, rfl, by decide, tb_w 698 (by decide +kernel) (by decide +kernel)⟩
theorem fX8_42 : Fl RX8 42 8 14 := foX8_42.fl
theorem foX8_45 : FlO RX8 45 8 15 := ⟨_, rfl, by decide, tb_w 699 (by decide +kernel) (by decide +kernel)⟩
theorem fX8_45 : Fl RX8 45 8 15 := foX8_45.fl
theorem foX8_48 : FlO RX8 48 8 16 := ⟨_, rfl, by decide, tb_w 700 (by decide +kernel) (by decide +kernel)⟩
theorem fX8_48 : Fl RX8 48 8 16 := foX8_48.fl
theorem foX8_51 : FlO RX8 51 8 18 := ⟨_, rfl, by decide, tb_w 702 (by decide +kernel) (by decide +kernel)⟩
theorem fX8_51 : Fl RX8 51 8 18 := foX8_51.fl
theorem foX8_54 : FlO RX8 54 8 19 := ⟨_, rfl, by decide, tb_w 703 (by decide +kernel) (by decide +kernel)⟩
theorem fX8_54 : Fl RX8 54 8 19 := foX8_54.fl
theorem foX8_57 : FlO RX8 57 8 20 := ⟨_, rfl, by decide, tb_w 704 (by decide +kernel) (by decide +kernel)⟩
theorem fX8_57 : Fl RX8 57 8 20 := foX8_57.fl
theorem foX8_61 : FlO RX8 61 8 21 := ⟨_, rfl, by decide, tb_w 705 (by decide +kernel) (by decide +kernel)⟩
theorem fX8_61 : Fl RX8 61 8 21 := foX8_61.fl
theorem foX8_64 : FlO RX8 64 8 22 := ⟨_, rfl, by decide, tb_w 706 (by decide +kernel) (by decide +kernel)⟩
theorem fX8_64 : Fl RX8 64 8 22 := foX8_64.fl
theorem foX8_67 : FlO RX8 67 8 23 := ⟨_, rfl, by decide, tb_w 707 (by decide +kernel) (by decide +kernel)⟩
theorem fX8_67 : Fl RX8 67 8 23 := foX8_67.fl
theorem foX8_70 : FlO RX8 70 8 24 := ⟨_, rfl, by decide, tb_w 708 (by decide +kernel) (by decide +kernel)⟩
theorem fX8_70 : Fl RX8 70 8 24 := foX8_70.fl
theorem foX8_73 : FlO RX8 73 8 25 := ⟨_, rfl, by decide, tb_w 709 (by decide +kernel) (by decide +kernel)⟩
theorem fX8_73 : Fl RX8 73 8 25 := foX8_73.fl
theorem foX8_76 : FlO RX8 76 8 26 := ⟨_, rfl, by decide, tb_w 710 (by decide +kernel) (by decide +kernel)⟩
theorem fX8_76 : Fl RX8 76 8 26 := foX8_76.fl
theorem foX8_83 : FlO RX8 83 8 3 := ⟨_, rfl, by decide, tb_w 687 (by decide +kernel) (by decide +kernel)⟩
theorem fX8_83 : Fl RX8 83 8 3 := foX8_83.fl
theorem foX8_86 : FlO RX8 86 8 1 := ⟨_, rfl, by decide, tb_w 685 (by decide +kernel) (by decide +kernel)⟩
theorem fX8_86 : Fl RX8 86 8 1 := foX8_86.fl
theorem foX8_118 : FlO RX8 118 8 13 := ⟨_, rfl, by decide, tb_w 697 (by decide +kernel) (by decide +kernel)⟩
theorem fX8_118 : Fl RX8 118 8 13 := foX8_118.fl
theorem foX8_139 : FlO RX8 139 8 17 := ⟨_, rfl, by decide, tb_w 701 (by decide +kernel) (by decide +kernel)⟩
theorem fX8_139 : Fl RX8 139 8 17 := foX8_139.fl
theorem foX8_168 : FlO RX8 168 8 9 := ⟨_, rfl, by decide, tb_w 693 (by decide +kernel) (by decide +kernel)⟩
theorem fX8_168 : Fl RX8 168 8 9 := foX8_168.fl
theorem fi0_0 : Fin RX0 0 0 := ⟨_, rfl, rfl, rfl⟩
theorem ok0_0 {q : Nat} : Ok 0 0 (.ref q) := ⟨_, _, rfl, tyX0_ok 0 (by decide), rfl, rfl⟩
theorem fi0_1 : Fin RX0 0 1 := ⟨_, rfl, rfl, rfl⟩
theorem ok0_1 {q : Nat} : Ok 0 1 (.ref q) := ⟨_, _, rfl, tyX0_ok 1 (by decide), rfl, rfl⟩
theorem fi0_2 : Fin RX0 0 2 := ⟨_, rfl, rfl, rfl⟩
theorem ok0_2 {q : Nat} : Ok 0 2 (.ref q) := ⟨_, _, rfl, tyX0_ok 2 (by decide), rfl, rfl⟩
theorem fi0_3 : Fin RX0 0 3 := ⟨_, rfl, rfl, rfl⟩
theorem ok0_3 {q : Nat} : Ok 0 3 (.ref q) := ⟨_, _, rfl, tyX0_ok 3 (by decide), rfl, rfl⟩
theorem fi0_4 : Fin RX0 0 4 := ⟨_, rfl, rfl, rfl⟩
theorem ok0_4 {q : Nat} : Ok 0 4 (.ref q) := ⟨_, _, rfl, tyX0_ok 4 (by decide), rfl, rfl⟩
theorem fi0_5 : Fin RX0 0 5 := ⟨_, rfl, rfl, rfl⟩
theorem ok0_5 {q : Nat} : Ok 0 5 (.ref q) := ⟨_, _, rfl, tyX0_ok 5 (by decide), rfl, rfl⟩
theorem nf0_6 : Nf 0 6 := ⟨_, rfl, rfl⟩
theorem ok0_6 {x : Int} : Ok 0 6 (vi x) := ⟨_, .int, rfl, tyX0_ok 6 (by decide), rfl, rfl⟩
theorem nf0_7 : Nf 0 7 := ⟨_, rfl, rfl⟩
theorem ok0_7 {x : Int} : Ok 0 7 (vi x) := ⟨_, .int, rfl, tyX0_ok 7 (by decide), rfl, rfl⟩
theorem nf0_8 : Nf 0 8 := ⟨_, rfl, rfl⟩
theorem ok0_8 {x : Int} : Ok 0 8 (vi x) := ⟨_, .int, rfl, tyX0_ok 8 (by decide), rfl, rfl⟩
theorem nf1_0 : Nf 1 0 := ⟨_, rfl, rfl⟩
theorem ok1_0 {x : Int} : Ok 1 0 (vi x) := ⟨_, .int, rfl, tyX1_ok 0 (by decide), rfl, rfl⟩
theorem nf1_1 : Nf 1 1 := ⟨_, rfl, rfl⟩
theorem ok1_1 {x : Int} : Ok 1 1 (vi x) := ⟨_, .int, rfl, tyX1_ok 1 (by decide), rfl, rfl⟩
theorem nf1_2 : Nf 1 2 := ⟨_, rfl, rfl⟩
theorem ok1_2 {x : Int} : Ok 1 2 (vi x) := ⟨_, .int, rfl, tyX1_ok 2 (by decide), rfl, rfl⟩
theorem fi2_0 : Fin RX2 2 0 := ⟨_, rfl, rfl, rfl⟩
theorem ok2_0 {q : Nat} : Ok 2 0 (.ref q) := ⟨_, _, rfl, tyX2_ok 0 (by decide), rfl, rfl⟩
theorem nf2_1 : Nf 2 1 := ⟨_, rfl, rfl⟩
theorem ok2_1 {x : Int} : Ok 2 1 (vi x) := ⟨_, .int, rfl, tyX2_ok 1 (by decide), rfl, rfl⟩
theorem fi3_0 : Fin RX3 3 0 := ⟨_, rfl, rfl, rfl⟩
theorem ok3_0 {x : Int} : Ok 3 0 (vi x) := ⟨_, .int, rfl, tyX3_ok 0 (by decide), rfl, rfl⟩
theorem fi3_1 : Fin RX3 3 1 := ⟨_, rfl, rfl, rfl⟩
theorem ok3_1 {x : Int} : Ok 3 1 (vi x) := ⟨_, .int, rfl, tyX3_ok 1 (by decide), rfl, rfl⟩
theorem fi3_2 : Fin RX3 3 2 := ⟨_, rfl, rfl, rfl⟩
theorem ok3_2 {q : Nat} : Ok 3 2 (.ref q) := ⟨_, _, rfl, tyX3_ok 2 (by decide), rfl, rfl⟩
theorem fi4_0 : Fin RX4 4 0 := ⟨_, rfl, rfl, rfl⟩
theorem ok4_0 {q : Nat} : Ok 4 0 (.ref q) := ⟨_, _, rfl, tyX4_ok 0 (by decide), rfl, rfl⟩
theorem fi4_1 : Fin RX4 4 1 := ⟨_, rfl, rfl, rfl⟩
theorem ok4_1 {q : Nat} : Ok 4 1 (.ref q) := ⟨_, _, rfl, tyX4_ok 1 (by decide), rfl, rfl⟩
theorem nf4_2 : Nf 4 2 := ⟨_, rfl, rfl⟩
theorem ok4_2 {x : Int} : Ok 4 2 (vi x) := ⟨_, .int, rfl, tyX4_ok 2 (by decide), rfl, rfl⟩
theorem nf4_3 : Nf 4 3 := ⟨_, rfl, rfl⟩
theorem ok4_3 {x : Int} : Ok 4 3 (vi x) := ⟨_, .int, rfl, tyX4_ok 3 (by decide), rfl, rfl⟩
theorem nf4_4 : Nf 4 4 := ⟨_, rfl, rfl⟩
theorem ok4_4 {x : Int} (h : x = 0 ∨ x = 1) : Ok 4 4 (vi x) := ⟨_, .boolean, rfl, tyX4_ok 4 (by decide), by rcases h with rfl | rfl <;> rfl, by rcases h with rfl | rfl <;> rfl⟩
theorem fi5_0 : Fin RX5 5 0 := ⟨_, rfl, rfl, rfl⟩
theorem ok5_0 {q : Nat} : Ok 5 0 (.ref q) := ⟨_, _, rfl, tyX5_ok 0 (by decide), rfl, rfl⟩
theorem fi5_1 : Fin RX5 5 1 := ⟨_, rfl, rfl, rfl⟩
theorem ok5_1 {q : Nat} : Ok 5 1 (.ref q) := ⟨_, _, rfl, tyX5_ok 1 (by decide), rfl, rfl⟩
theorem nf5_2 : Nf 5 2 := ⟨_, rfl, rfl⟩
theorem ok5_2 {x : Int} (h : x = 0 ∨ x = 1) : Ok 5 2 (vi x) := ⟨_, .boolean, rfl, tyX5_ok 2 (by decide), by rcases h with rfl | rfl <;> rfl, by rcases h with rfl | rfl <;> rfl⟩
theorem fi6_0 : Fin RX6 6 0 := ⟨_, rfl, rfl, rfl⟩
theorem ok6_0 {q : Nat} : Ok 6 0 (.ref q) := ⟨_, _, rfl, tyX6_ok 0 (by decide), rfl, rfl⟩
theorem nf6_1 : Nf 6 1 := ⟨_, rfl, rfl⟩
theorem ok6_1 {x : Int} : Ok 6 1 (vi x) := ⟨_, .int, rfl, tyX6_ok 1 (by decide), rfl, rfl⟩
theorem nf6_2 : Nf 6 2 := ⟨_, rfl, rfl⟩
theorem ok6_2 {x : Int} : Ok 6 2 (vi x) := ⟨_, .int, rfl, tyX6_ok 2 (by decide), rfl, rfl⟩
theorem nf6_3 : Nf 6 3 := ⟨_, rfl, rfl⟩
theorem ok6_3 {x : Int} : Ok 6 3 (vi x) := ⟨_, .int, rfl, tyX6_ok 3 (by decide), rfl, rfl⟩
theorem fi7_0 : Fin RX7 7 0 := ⟨_, rfl, rfl, rfl⟩
theorem ok7_0 {q : Nat} : Ok 7 0 (.ref q) := ⟨_, _, rfl, tyX7_ok 0 (by decide), rfl, rfl⟩
theorem fi7_1 : Fin RX7 7 1 := ⟨_, rfl, rfl, rfl⟩
theorem ok7_1 {q : Nat} : Ok 7 1 (.ref q) := ⟨_, _, rfl, tyX7_ok 1 (by decide), rfl, rfl⟩
theorem fi7_2 : Fin RX7 7 2 := ⟨_, rfl, rfl, rfl⟩
theorem ok7_2 {q : Nat} : Ok 7 2 (.ref q) := ⟨_, _, rfl, tyX7_ok 2 (by decide), rfl, rfl⟩
theorem fi7_3 : Fin RX7 7 3 := ⟨_, rfl, rfl, rfl⟩
theorem ok7_3 {q : Nat} : Ok 7 3 (.ref q) := ⟨_, _, rfl, tyX7_ok 3 (by decide), rfl, rfl⟩
theorem fi7_4 : Fin RX7 7 4 := ⟨_, rfl, rfl, rfl⟩
theorem ok7_4 {q : Nat} : Ok 7 4 (.ref q) := ⟨_, _, rfl, tyX7_ok 4 (by decide), rfl, rfl⟩
theorem fi7_5 : Fin RX7 7 5 := ⟨_, rfl, rfl, rfl⟩
theorem ok7_5 {q : Nat} : Ok 7 5 (.ref q) := ⟨_, _, rfl, tyX7_ok 5 (by decide), rfl, rfl⟩
theorem fi7_6 : Fin RX7 7 6 := ⟨_, rfl, rfl, rfl⟩
theorem ok7_6 {q : Nat} : Ok 7 6 (.ref q) := ⟨_, _, rfl, tyX7_ok 6 (by decide), rfl, rfl⟩
theorem fi7_7 : Fin RX7 7 7 := ⟨_, rfl, rfl, rfl⟩
theorem ok7_7 {q : Nat} : Ok 7 7 (.ref q) := ⟨_, _, rfl, tyX7_ok 7 (by decide), rfl, rfl⟩
theorem nf8_0 : Nf 8 0 := ⟨_, rfl, rfl⟩
theorem ok8_0 {x : Int} : Ok 8 0 (vi x) := ⟨_, .int, rfl, tyX8_ok 0 (by decide), rfl, rfl⟩
theorem nf8_1 : Nf 8 1 := ⟨_, rfl, rfl⟩
theorem ok8_1 {x : Int} : Ok 8 1 (vi x) := ⟨_, .int, rfl, tyX8_ok 1 (by decide), rfl, rfl⟩
theorem fi8_2 : Fin RX8 8 2 := ⟨_, rfl, rfl, rfl⟩
theorem ok8_2 {q : Nat} : Ok 8 2 (.ref q) := ⟨_, _, rfl, tyX8_ok 2 (by decide), rfl, rfl⟩
theorem nf8_3 : Nf 8 3 := ⟨_, rfl, rfl⟩
theorem ok8_3 {x : Int} : Ok 8 3 (vi x) := ⟨_, .int, rfl, tyX8_ok 3 (by decide), rfl, rfl⟩
theorem fi8_4 : Fin RX8 8 4 := ⟨_, rfl, rfl, rfl⟩
theorem ok8_4 {q : Nat} : Ok 8 4 (.ref q) := ⟨_, _, rfl, tyX8_ok 4 (by decide), rfl, rfl⟩
theorem fi8_5 : Fin RX8 8 5 := ⟨_, rfl, rfl, rfl⟩
theorem ok8_5 {q : Nat} : Ok 8 5 (.ref q) := ⟨_, _, rfl, tyX8_ok 5 (by decide), rfl, rfl⟩
theorem fi8_6 : Fin RX8 8 6 := ⟨_, rfl, rfl, rfl⟩
theorem ok8_6 {q : Nat} : Ok 8 6 (.ref q) := ⟨_, _, rfl, tyX8_ok 6 (by decide), rfl, rfl⟩
theorem fi8_7 : Fin RX8 8 7 := ⟨_, rfl, rfl, rfl⟩
theorem ok8_7 {q : Nat} : Ok 8 7 (.ref q) := ⟨_, _, rfl, tyX8_ok 7 (by decide), rfl, rfl⟩
theorem fi8_8 : Fin RX8 8 8 := ⟨_, rfl, rfl, rfl⟩
theorem ok8_8 {q : Nat} : Ok 8 8 (.ref q) := ⟨_, _, rfl, tyX8_ok 8 (by decide), rfl, rfl⟩
theorem nf8_9 : Nf 8 9 := ⟨_, rfl, rfl⟩
theorem ok8_9 {x : Int} : Ok 8 9 (vi x) := ⟨_, .int, rfl, tyX8_ok 9 (by decide), rfl, rfl⟩
theorem fi8_10 : Fin RX8 8 10 := ⟨_, rfl, rfl, rfl⟩
theorem ok8_10 {q : Nat} : Ok 8 10 (.ref q) := ⟨_, _, rfl, tyX8_ok 10 (by decide), rfl, rfl⟩
theorem fi8_11 : Fin RX8 8 11 := ⟨_, rfl, rfl, rfl⟩
theorem ok8_11 {q : Nat} : Ok 8 11 (.ref q) := ⟨_, _, rfl, tyX8_ok 11 (by decide), rfl, rfl⟩
theorem fi8_12 : Fin RX8 8 12 := ⟨_, rfl, rfl, rfl⟩
theorem ok8_12 {q : Nat} : Ok 8 12 (.ref q) := ⟨_, _, rfl, tyX8_ok 12 (by decide), rfl, rfl⟩
theorem nf8_13 : Nf 8 13 := ⟨_, rfl, rfl⟩
theorem ok8_13 {x : Int} : Ok 8 13 (vi x) := ⟨_, .int, rfl, tyX8_ok 13 (by decide), rfl, rfl⟩
theorem fi8_14 : Fin RX8 8 14 := ⟨_, rfl, rfl, rfl⟩
theorem ok8_14 {q : Nat} : Ok 8 14 (.ref q) := ⟨_, _, rfl, tyX8_ok 14 (by decide), rfl, rfl⟩
theorem fi8_15 : Fin RX8 8 15 := ⟨_, rfl, rfl, rfl⟩
theorem ok8_15 {q : Nat} : Ok 8 15 (.ref q) := ⟨_, _, rfl, tyX8_ok 15 (by decide), rfl, rfl⟩
theorem fi8_16 : Fin RX8 8 16 := ⟨_, rfl, rfl, rfl⟩
theorem ok8_16 {q : Nat} : Ok 8 16 (.ref q) := ⟨_, _, rfl, tyX8_ok 16 (by decide), rfl, rfl⟩
theorem nf8_17 : Nf 8 17 := ⟨_, rfl, rfl⟩
theorem ok8_17 {x : Int} : Ok 8 17 (vi x) := ⟨_, .int, rfl, tyX8_ok 17 (by decide), rfl, rfl⟩
theorem fi8_18 : Fin RX8 8 18 := ⟨_, rfl, rfl, rfl⟩
theorem ok8_18 {q : Nat} : Ok 8 18 (.ref q) := ⟨_, _, rfl, tyX8_ok 18 (by decide), rfl, rfl⟩
theorem fi8_19 : Fin RX8 8 19 := ⟨_, rfl, rfl, rfl⟩
theorem ok8_19 {q : Nat} : Ok 8 19 (.ref q) := ⟨_, _, rfl, tyX8_ok 19 (by decide), rfl, rfl⟩
theorem fi8_20 : Fin RX8 8 20 := ⟨_, rfl, rfl, rfl⟩
theorem ok8_20 {q : Nat} : Ok 8 20 (.ref q) := ⟨_, _, rfl, tyX8_ok 20 (by decide), rfl, rfl⟩
theorem fi8_21 : Fin RX8 8 21 := ⟨_, rfl, rfl, rfl⟩
theorem ok8_21 {q : Nat} : Ok 8 21 (.ref q) := ⟨_, _, rfl, tyX8_ok 21 (by decide), rfl, rfl⟩
theorem fi8_22 : Fin RX8 8 22 := ⟨_, rfl, rfl, rfl⟩
theorem ok8_22 {q : Nat} : Ok 8 22 (.ref q) := ⟨_, _, rfl, tyX8_ok 22 (by decide), rfl, rfl⟩
theorem fi8_23 : Fin RX8 8 23 := ⟨_, rfl, rfl, rfl⟩
theorem ok8_23 {q : Nat} : Ok 8 23 (.ref q) := ⟨_, _, rfl, tyX8_ok 23 (by decide), rfl, rfl⟩
theorem fi8_24 : Fin RX8 8 24 := ⟨_, rfl, rfl, rfl⟩
theorem ok8_24 {q : Nat} : Ok 8 24 (.ref q) := ⟨_, _, rfl, tyX8_ok 24 (by decide), rfl, rfl⟩
theorem fi8_25 : Fin RX8 8 25 := ⟨_, rfl, rfl, rfl⟩
theorem ok8_25 {q : Nat} : Ok 8 25 (.ref q) := ⟨_, _, rfl, tyX8_ok 25 (by decide), rfl, rfl⟩
theorem fi8_26 : Fin RX8 8 26 := ⟨_, rfl, rfl, rfl⟩
theorem ok8_26 {q : Nat} : Ok 8 26 (.ref q) := ⟨_, _, rfl, tyX8_ok 26 (by decide), rfl, rfl⟩
def allCodes : List Cond := [
  Cond.code yJ6_bitCount_0f7a4 cJ6_bitCount_0f7a4 1 (some FieldType.int),
  Cond.code yJ6_compare_7cf53 cJ6_compare_7cf53 2 (some FieldType.int),
  Cond.code yJ9_max_7cf53 cJ9_max_7cf53 2 (some FieldType.int),
  Cond.code yJ9_min_7cf53 cJ9_min_7cf53 2 (some FieldType.int),
  Cond.code yX0_addSaying cX0_addSaying 5 none,
  Cond.code yX0_beginWith cX0_beginWith 3 none,
  Cond.code yX0_copyFrom cX0_copyFrom 3 none,
  Cond.code yX0_has cX0_has 2 (some FieldType.boolean),
  Cond.code yX0_init cX0_init 2 none,
  Cond.code yX0_write cX0_write 4 none,
  Cond.code yX1_find cX1_find 5 none,
  Cond.code yX1_init cX1_init 1 none,
  Cond.code yX1_take cX1_take 3 none,
  Cond.code yX2_clear cX2_clear 1 none,
  Cond.code yX2_firstFault cX2_firstFault 3 (some FieldType.int),
  Cond.code yX2_howAt cX2_howAt 3 (some FieldType.int),
  Cond.code yX2_init cX2_init 1 none,
  Cond.code yX2_mayStand cX2_mayStand 4 (some FieldType.boolean),
  Cond.code yX2_put cX2_put 2 none,
  Cond.code yX2_sackAt cX2_sackAt 2 (some FieldType.int),
  Cond.code yX3_codeOf cX3_codeOf 5 (some FieldType.int),
  Cond.code yX3_costOfLaying cX3_costOfLaying 6 (some FieldType.int),
  Cond.code yX3_costWith cX3_costWith 2 (some FieldType.int),
  Cond.code yX3_costs cX3_costs 4 (some FieldType.int),
  Cond.code yX3_costsOfTelling cX3_costsOfTelling 8 (some FieldType.int),
  Cond.code yX3_fewestLifts cX3_fewestLifts 5 (some FieldType.int),
  Cond.code yX3_firstOf cX3_firstOf 5 (some FieldType.int),
  Cond.code yX3_init cX3_init 2 none,
  Cond.code yX3_isOpen cX3_isOpen 3 (some FieldType.boolean),
  Cond.code yX3_isWhole cX3_isWhole 2 (some FieldType.boolean),
  Cond.code yX3_joined cX3_joined 7 (some FieldType.int),
  Cond.code yX3_pair cX3_pair 2 (some FieldType.int),
  Cond.code yX3_withDetours cX3_withDetours 6 (some FieldType.int),
  Cond.code yX3_withLess cX3_withLess 4 (some FieldType.int),
  Cond.code yX3_worse cX3_worse 3 (some FieldType.int),
  Cond.code yX4_against cX4_against 3 (some FieldType.int),
  Cond.code yX4_believe cX4_believe 4 none,
  Cond.code yX4_close cX4_close 3 none,
  Cond.code yX4_contradicts cX4_contradicts 2 (some FieldType.boolean),
  Cond.code yX4_findLeaders cX4_findLeaders 2 none,
  Cond.code yX4_followsOneAlike cX4_followsOneAlike 3 (some FieldType.boolean),
  Cond.code yX4_greatestRank cX4_greatestRank 4 (some FieldType.int),
  Cond.code yX4_groupCount cX4_groupCount 1 (some FieldType.int),
  Cond.code yX4_groupOf cX4_groupOf 4 (some FieldType.int),
  Cond.code yX4_heavierLeaders cX4_heavierLeaders 4 (some FieldType.int),
  Cond.code yX4_init cX4_init 1 none,
  Cond.code yX4_isAlike cX4_isAlike 3 (some FieldType.boolean),
  Cond.code yX4_isHeavier cX4_isHeavier 3 (some FieldType.boolean),
  Cond.code yX4_isLeader cX4_isLeader 2 (some FieldType.boolean),
  Cond.code yX4_isNoLess cX4_isNoLess 3 (some FieldType.boolean),
  Cond.code yX4_leaderOf cX4_leaderOf 4 (some FieldType.int),
  Cond.code yX4_leastRank cX4_leastRank 2 (some FieldType.int),
  Cond.code yX4_openPairs cX4_openPairs 4 (some FieldType.int),
  Cond.code yX4_orderCount cX4_orderCount 2 (some FieldType.int),
  Cond.code yX4_read cX4_read 4 none,
  Cond.code yX4_waysToBegin cX4_waysToBegin 5 (some FieldType.int),
  Cond.code yX5_allFit cX5_allFit 3 (some FieldType.boolean),
  Cond.code yX5_hear cX5_hear 6 none,
  Cond.code yX5_init cX5_init 1 none,
  Cond.code yX5_keepAbove cX5_keepAbove 4 none,
  Cond.code yX5_settle cX5_settle 4 (some FieldType.boolean),
  Cond.code yX6_advance cX6_advance 5 (some FieldType.boolean),
  Cond.code yX6_findExtreme cX6_findExtreme 6 none,
  Cond.code yX6_init cX6_init 1 none,
  Cond.code yX6_number cX6_number 3 (some FieldType.int),
  Cond.code yX6_pairsLeftOpen cX6_pairsLeftOpen 7 (some FieldType.int),
  Cond.code yX6_readNumber cX6_readNumber 7 (some FieldType.boolean),
  Cond.code yX6_swap cX6_swap 4 none,
  Cond.code yX7_fault cX7_fault 1 (some FieldType.int),
  Cond.code yX7_follows cX7_follows 3 (some FieldType.int),
  Cond.code yX7_groupOrder cX7_groupOrder 5 (some FieldType.int),
  Cond.code yX7_image cX7_image 3 (some FieldType.int),
  Cond.code yX7_init cX7_init 1 none,
  Cond.code yX7_isEnd cX7_isEnd 1 (some FieldType.boolean),
  Cond.code yX7_known cX7_known 4 (some FieldType.int),
  Cond.code yX7_leaves cX7_leaves 2 (some FieldType.int),
  Cond.code yX7_lies cX7_lies 2 (some FieldType.int),
  Cond.code yX7_line cX7_line 1 (some FieldType.int),
  Cond.code yX7_lineBy cX7_lineBy 3 (some FieldType.int),
  Cond.code yX7_loss cX7_loss 3 (some FieldType.int),
  Cond.code yX7_more cX7_more 9 (some FieldType.int),
  Cond.code yX7_open cX7_open 3 (some FieldType.int),
  Cond.code yX7_orders cX7_orders 1 (some FieldType.int),
  Cond.code yX7_paymentOf cX7_paymentOf 7 (some FieldType.int),
  Cond.code yX7_paymentOfAll cX7_paymentOfAll 4 (some FieldType.int),
  Cond.code yX7_pays cX7_pays 3 (some FieldType.int),
  Cond.code yX7_plannerFor cX7_plannerFor 3 (some (FieldType.object "LastScale$Planner")),
  Cond.code yX7_rank cX7_rank 3 (some FieldType.int),
  Cond.code yX7_readBook cX7_readBook 1 (some FieldType.boolean),
  Cond.code yX7_restore cX7_restore 3 (some FieldType.int),
  Cond.code yX7_sacks cX7_sacks 3 (some FieldType.int),
  Cond.code yX7_say cX7_say 2 (some FieldType.int),
  Cond.code yX7_saying cX7_saying 3 (some FieldType.int),
  Cond.code yX7_span cX7_span 3 (some FieldType.int),
  Cond.code yX7_strike cX7_strike 1 (some FieldType.int),
  Cond.code yX7_told cX7_told 2 (some FieldType.int),
  Cond.code yX7_toldOfRow cX7_toldOfRow 4 (some FieldType.int),
  Cond.code yX7_toll cX7_toll 4 (some FieldType.int),
  Cond.code yX7_weight cX7_weight 4 (some FieldType.int),
  Cond.code yX7_wipe cX7_wipe 2 (some FieldType.int),
  Cond.code yX8_bits cX8_bits 3 (some FieldType.int),
  Cond.code yX8_canSpan cX8_canSpan 3 (some FieldType.boolean),
  Cond.code yX8_clear cX8_clear 2 none,
  Cond.code yX8_close cX8_close 4 (some FieldType.boolean),
  Cond.code yX8_does cX8_does 6 (some FieldType.boolean),
  Cond.code yX8_fault cX8_fault 1 (some FieldType.int),
  Cond.code yX8_faultOf cX8_faultOf 5 (some FieldType.int),
  Cond.code yX8_follow cX8_follow 3 (some FieldType.boolean),
  Cond.code yX8_followAll cX8_followAll 1 (some FieldType.boolean),
  Cond.code yX8_follows cX8_follows 3 (some FieldType.int),
  Cond.code yX8_image cX8_image 4 (some FieldType.int),
  Cond.code yX8_in cX8_in 3 (some FieldType.boolean),
  Cond.code yX8_init cX8_init 2 none,
  Cond.code yX8_isOpen cX8_isOpen 3 (some FieldType.boolean),
  Cond.code yX8_isOver cX8_isOver 3 (some FieldType.boolean),
  Cond.code yX8_isSack cX8_isSack 2 (some FieldType.boolean),
  Cond.code yX8_isWhole cX8_isWhole 5 (some FieldType.boolean),
  Cond.code yX8_known cX8_known 4 (some FieldType.int),
  Cond.code yX8_laid cX8_laid 6 (some FieldType.int),
  Cond.code yX8_layGroups cX8_layGroups 4 none,
  Cond.code yX8_layOrder cX8_layOrder 6 (some FieldType.boolean),
  Cond.code yX8_laySpans cX8_laySpans 10 (some FieldType.boolean),
  Cond.code yX8_layStands cX8_layStands 9 none,
  Cond.code yX8_layValues cX8_layValues 5 none,
  Cond.code yX8_leaves cX8_leaves 2 (some FieldType.int),
  Cond.code yX8_leftOpen cX8_leftOpen 4 (some FieldType.int),
  Cond.code yX8_lies cX8_lies 8 (some FieldType.int),
  Cond.code yX8_line cX8_line 4 (some FieldType.int),
  Cond.code yX8_lineBy cX8_lineBy 9 (some FieldType.int),
  Cond.code yX8_loss cX8_loss 3 (some FieldType.int),
  Cond.code yX8_more cX8_more 6 (some FieldType.int),
  Cond.code yX8_open cX8_open 3 (some FieldType.int),
  Cond.code yX8_openPairs cX8_openPairs 4 (some FieldType.int),
  Cond.code yX8_orders cX8_orders 5 (some FieldType.int),
  Cond.code yX8_pays cX8_pays 5 (some FieldType.int),
  Cond.code yX8_paysOf cX8_paysOf 6 (some FieldType.int),
  Cond.code yX8_press cX8_press 5 (some FieldType.boolean),
  Cond.code yX8_put cX8_put 4 none,
  Cond.code yX8_rank cX8_rank 3 (some FieldType.int),
  Cond.code yX8_rankOf cX8_rankOf 6 (some FieldType.int),
  Cond.code yX8_restore cX8_restore 4 (some FieldType.int),
  Cond.code yX8_sacks cX8_sacks 4 (some FieldType.int),
  Cond.code yX8_say cX8_say 2 (some FieldType.int),
  Cond.code yX8_saying cX8_saying 3 (some FieldType.int),
  Cond.code yX8_slot cX8_slot 3 (some FieldType.int),
  Cond.code yX8_span cX8_span 3 (some FieldType.int),
  Cond.code yX8_stand cX8_stand 4 (some FieldType.int),
  Cond.code yX8_strike cX8_strike 1 (some FieldType.int),
  Cond.code yX8_told cX8_told 3 (some FieldType.int),
  Cond.code yX8_toll cX8_toll 4 (some FieldType.int),
  Cond.code yX8_weight cX8_weight 4 (some FieldType.int),
  Cond.code yX8_wipe cX8_wipe 2 (some FieldType.int),
  Cond.code yX8_with cX8_with 9 (some FieldType.int)
  ]
set_option maxRecDepth 100000 in
set_option maxHeartbeats 4000000 in
theorem tb_codes : ∀ w ∈ allCodes, w ∈ lw_tbl := fun w h => (goodIn_p allCodes [412, 634, 477, 474, 340, 130, 663, 356, 123, 328, 609, 225, 615, 308, 316, 336, 107, 320, 300, 332, 537, 566, 555, 533, 542, 524, 570, 489, 545, 528, 549, 520, 562, 558, 552, 396, 368, 372, 392, 380, 384, 442, 409, 508, 430, 183, 388, 438, 434, 376, 516, 426, 404, 451, 364, 455, 601, 593, 207, 597, 586, 651, 642, 244, 646, 631, 627, 655, 312, 352, 512, 659, 99, 422, 574, 623, 605, 324, 638, 578, 481, 400, 447, 471, 467, 463, 485, 419, 360, 668, 291, 296, 348, 582, 344, 672, 676, 459, 619, 304, 940, 929, 821, 829, 909, 785, 789, 817, 813, 809, 964, 773, 681, 845, 893, 793, 890, 913, 897, 837, 952, 925, 877, 905, 948, 956, 937, 797, 960, 917, 873, 833, 841, 857, 865, 869, 933, 825, 849, 853, 968, 770, 777, 805, 884, 921, 881, 801, 972, 861, 944, 781, 901] rfl (by decide +kernel) w h).1
theorem tb_c {w : Cond} (i : Nat) (h : allCodes[i]? = some w) (g : goodWord w = true) : w ∈ TBL := List.mem_filter.mpr ⟨tb_codes w (List.mem_of_getElem? h), g⟩
theorem mJ6_bitCount_0f7a4 : Mt yJ6_bitCount_0f7a4 cJ6_bitCount_0f7a4 1 (some FieldType.int) 1 := ⟨tb_c 0 rfl rfl, tb_w 91 (by decide +kernel) (by decide +kernel), ⟨by decide, by decide⟩, by decide, by decide +kernel⟩
theorem sJ6_bitCount_0f7a4 : Cond.static yJ6_bitCount_0f7a4 ∈ TBL := tb_w 411 (by decide +kernel) (by decide +kernel)
theorem mJ6_compare_7cf53 : Mt yJ6_compare_7cf53 cJ6_compare_7cf53 2 (some FieldType.int) 2 := ⟨tb_c 1 rfl rfl, tb_w 91 (by decide +kernel) (by decide +kernel), ⟨by decide, by decide⟩, by decide, by decide +kernel⟩
theorem sJ6_compare_7cf53 : Cond.static yJ6_compare_7cf53 ∈ TBL := tb_w 633 (by decide +kernel) (by decide +kernel)
theorem mJ9_max_7cf53 : Mt yJ9_max_7cf53 cJ9_max_7cf53 2 (some FieldType.int) 2 := ⟨tb_c 2 rfl rfl, tb_w 92 (by decide +kernel) (by decide +kernel), ⟨by decide, by decide⟩, by decide, by decide +kernel⟩
theorem sJ9_max_7cf53 : Cond.static yJ9_max_7cf53 ∈ TBL := tb_w 476 (by decide +kernel) (by decide +kernel)
theorem mJ9_min_7cf53 : Mt yJ9_min_7cf53 cJ9_min_7cf53 2 (some FieldType.int) 2 := ⟨tb_c 3 rfl rfl, tb_w 92 (by decide +kernel) (by decide +kernel), ⟨by decide, by decide⟩, by decide, by decide +kernel⟩
theorem sJ9_min_7cf53 : Cond.static yJ9_min_7cf53 ∈ TBL := tb_w 473 (by decide +kernel) (by decide +kernel)
theorem mX0_addSaying : Mt yX0_addSaying cX0_addSaying 5 none 3 := ⟨tb_c 4 rfl rfl, tb_w 85 (by decide +kernel) (by decide +kernel), ⟨by decide, by decide⟩, by decide, by decide +kernel⟩
theorem vX0_addSaying : Mv yX0_addSaying := ⟨tb_w 339 (by decide +kernel) (by decide +kernel), tb_w 8 (by decide +kernel) (by decide +kernel)⟩
theorem mX0_beginWith : Mt yX0_beginWith cX0_beginWith 3 none 1 := ⟨tb_c 5 rfl rfl, tb_w 85 (by decide +kernel) (by decide +kernel), ⟨by decide, by decide⟩, by decide, by decide +kernel⟩
theorem vX0_beginWith : Mv yX0_beginWith := ⟨tb_w 129 (by decide +kernel) (by decide +kernel), tb_w 0 (by decide +kernel) (by decide +kernel)⟩
theorem mX0_copyFrom : Mt yX0_copyFrom cX0_copyFrom 3 none 1 := ⟨tb_c 6 rfl rfl, tb_w 85 (by decide +kernel) (by decide +kernel), ⟨by decide, by decide⟩, by decide, by decide +kernel⟩
theorem vX0_copyFrom : Mv yX0_copyFrom := ⟨tb_w 662 (by decide +kernel) (by decide +kernel), tb_w 56 (by decide +kernel) (by decide +kernel)⟩
theorem mX0_has : Mt yX0_has cX0_has 2 (some FieldType.boolean) 1 := ⟨tb_c 7 rfl rfl, tb_w 85 (by decide +kernel) (by decide +kernel), ⟨by decide, by decide⟩, by decide, by decide +kernel⟩
theorem vX0_has : Mv yX0_has := ⟨tb_w 355 (by decide +kernel) (by decide +kernel), tb_w 9 (by decide +kernel) (by decide +kernel)⟩
theorem mX0_init : Mt yX0_init cX0_init 2 none 0 := ⟨tb_c 8 rfl rfl, tb_w 85 (by decide +kernel) (by decide +kernel), ⟨by decide, by decide⟩, by decide, by decide +kernel⟩
theorem viX0_init : Cond.instanceMethod yX0_init ∈ TBL := tb_w 122 (by decide +kernel) (by decide +kernel)
theorem mX0_write : Mt yX0_write cX0_write 4 none 1 := ⟨tb_c 9 rfl rfl, tb_w 85 (by decide +kernel) (by decide +kernel), ⟨by decide, by decide⟩, by decide, by decide +kernel⟩
theorem vX0_write : Mv yX0_write := ⟨tb_w 327 (by decide +kernel) (by decide +kernel), tb_w 5 (by decide +kernel) (by decide +kernel)⟩
theorem mX1_find : Mt yX1_find cX1_find 5 none 2 := ⟨tb_c 10 rfl rfl, tb_w 88 (by decide +kernel) (by decide +kernel), ⟨by decide, by decide⟩, by decide, by decide +kernel⟩
theorem vX1_find : Mv yX1_find := ⟨tb_w 608 (by decide +kernel) (by decide +kernel), tb_w 48 (by decide +kernel) (by decide +kernel)⟩
theorem mX1_init : Mt yX1_init cX1_init 1 none 0 := ⟨tb_c 11 rfl rfl, tb_w 88 (by decide +kernel) (by decide +kernel), ⟨by decide, by decide⟩, by decide, by decide +kernel⟩
theorem viX1_init : Cond.instanceMethod yX1_init ∈ TBL := tb_w 224 (by decide +kernel) (by decide +kernel)
theorem mX1_take : Mt yX1_take cX1_take 3 none 2 := ⟨tb_c 12 rfl rfl, tb_w 88 (by decide +kernel) (by decide +kernel), ⟨by decide, by decide⟩, by decide, by decide +kernel⟩
theorem vX1_take : Mv yX1_take := ⟨tb_w 614 (by decide +kernel) (by decide +kernel), tb_w 49 (by decide +kernel) (by decide +kernel)⟩
theorem mX2_clear : Mt yX2_clear cX2_clear 1 none 0 := ⟨tb_c 13 rfl rfl, tb_w 84 (by decide +kernel) (by decide +kernel), ⟨by decide, by decide⟩, by decide, by decide +kernel⟩
theorem vX2_clear : Mv yX2_clear := ⟨tb_w 307 (by decide +kernel) (by decide +kernel), tb_w 2 (by decide +kernel) (by decide +kernel)⟩
theorem mX2_firstFault : Mt yX2_firstFault cX2_firstFault 3 (some FieldType.int) 1 := ⟨tb_c 14 rfl rfl, tb_w 84 (by decide +kernel) (by decide +kernel), ⟨by decide, by decide⟩, by decide, by decide +kernel⟩
theorem vX2_firstFault : Mv yX2_firstFault := ⟨tb_w 315 (by decide +kernel) (by decide +kernel), tb_w 3 (by decide +kernel) (by decide +kernel)⟩
theorem mX2_howAt : Mt yX2_howAt cX2_howAt 3 (some FieldType.int) 1 := ⟨tb_c 15 rfl rfl, tb_w 84 (by decide +kernel) (by decide +kernel), ⟨by decide, by decide⟩, by decide, by decide +kernel⟩
theorem vX2_howAt : Mv yX2_howAt := ⟨tb_w 335 (by decide +kernel) (by decide +kernel), tb_w 7 (by decide +kernel) (by decide +kernel)⟩
theorem mX2_init : Mt yX2_init cX2_init 1 none 0 := ⟨tb_c 16 rfl rfl, tb_w 84 (by decide +kernel) (by decide +kernel), ⟨by decide, by decide⟩, by decide, by decide +kernel⟩
theorem viX2_init : Cond.instanceMethod yX2_init ∈ TBL := tb_w 106 (by decide +kernel) (by decide +kernel)
theorem mX2_mayStand : Mt yX2_mayStand cX2_mayStand 4 (some FieldType.boolean) 2 := ⟨tb_c 17 rfl rfl, tb_w 84 (by decide +kernel) (by decide +kernel), ⟨by decide, by decide⟩, by decide, by decide +kernel⟩
theorem vX2_mayStand : Mv yX2_mayStand := ⟨tb_w 319 (by decide +kernel) (by decide +kernel), tb_w 4 (by decide +kernel) (by decide +kernel)⟩
theorem mX2_put : Mt yX2_put cX2_put 2 none 1 := ⟨tb_c 18 rfl rfl, tb_w 84 (by decide +kernel) (by decide +kernel), ⟨by decide, by decide⟩, by decide, by decide +kernel⟩
theorem vX2_put : Mv yX2_put := ⟨tb_w 299 (by decide +kernel) (by decide +kernel), tb_w 1 (by decide +kernel) (by decide +kernel)⟩
theorem mX2_sackAt : Mt yX2_sackAt cX2_sackAt 2 (some FieldType.int) 1 := ⟨tb_c 19 rfl rfl, tb_w 84 (by decide +kernel) (by decide +kernel), ⟨by decide, by decide⟩, by decide, by decide +kernel⟩
theorem vX2_sackAt : Mv yX2_sackAt := ⟨tb_w 331 (by decide +kernel) (by decide +kernel), tb_w 6 (by decide +kernel) (by decide +kernel)⟩
theorem mX3_codeOf : Mt yX3_codeOf cX3_codeOf 5 (some FieldType.int) 1 := ⟨tb_c 20 rfl rfl, tb_w 93 (by decide +kernel) (by decide +kernel), ⟨by decide, by decide⟩, by decide, by decide +kernel⟩
theorem vX3_codeOf : Mv yX3_codeOf := ⟨tb_w 536 (by decide +kernel) (by decide +kernel), tb_w 38 (by decide +kernel) (by decide +kernel)⟩
theorem mX3_costOfLaying : Mt yX3_costOfLaying cX3_costOfLaying 6 (some FieldType.int) 3 := ⟨tb_c 21 rfl rfl, tb_w 93 (by decide +kernel) (by decide +kernel), ⟨by decide, by decide⟩, by decide, by decide +kernel⟩
theorem vX3_costOfLaying : Mv yX3_costOfLaying := ⟨tb_w 565 (by decide +kernel) (by decide +kernel), tb_w 42 (by decide +kernel) (by decide +kernel)⟩
theorem mX3_costWith : Mt yX3_costWith cX3_costWith 2 (some FieldType.int) 2 := ⟨tb_c 22 rfl rfl, tb_w 93 (by decide +kernel) (by decide +kernel), ⟨by decide, by decide⟩, by decide, by decide +kernel⟩
theorem sX3_costWith : Cond.static yX3_costWith ∈ TBL := tb_w 554 (by decide +kernel) (by decide +kernel)
theorem mX3_costs : Mt yX3_costs cX3_costs 4 (some FieldType.int) 2 := ⟨tb_c 23 rfl rfl, tb_w 93 (by decide +kernel) (by decide +kernel), ⟨by decide, by decide⟩, by decide, by decide +kernel⟩
theorem vX3_costs : Mv yX3_costs := ⟨tb_w 532 (by decide +kernel) (by decide +kernel), tb_w 37 (by decide +kernel) (by decide +kernel)⟩
theorem mX3_costsOfTelling : Mt yX3_costsOfTelling cX3_costsOfTelling 8 (some FieldType.int) 2 := ⟨tb_c 24 rfl rfl, tb_w 93 (by decide +kernel) (by decide +kernel), ⟨by decide, by decide⟩, by decide, by decide +kernel⟩
theorem vX3_costsOfTelling : Mv yX3_costsOfTelling := ⟨tb_w 541 (by decide +kernel) (by decide +kernel), tb_w 39 (by decide +kernel) (by decide +kernel)⟩
theorem mX3_fewestLifts : Mt yX3_fewestLifts cX3_fewestLifts 5 (some FieldType.int) 2 := ⟨tb_c 25 rfl rfl, tb_w 93 (by decide +kernel) (by decide +kernel), ⟨by decide, by decide⟩, by decide, by decide +kernel⟩
theorem vX3_fewestLifts : Mv yX3_fewestLifts := ⟨tb_w 523 (by decide +kernel) (by decide +kernel), tb_w 35 (by decide +kernel) (by decide +kernel)⟩
theorem mX3_firstOf : Mt yX3_firstOf cX3_firstOf 5 (some FieldType.int) 3 := ⟨tb_c 26 rfl rfl, tb_w 93 (by decide +kernel) (by decide +kernel), ⟨by decide, by decide⟩, by decide, by decide +kernel⟩
theorem vX3_firstOf : Mv yX3_firstOf := ⟨tb_w 569 (by decide +kernel) (by decide +kernel), tb_w 43 (by decide +kernel) (by decide +kernel)⟩
theorem mX3_init : Mt yX3_init cX3_init 2 none 1 := ⟨tb_c 27 rfl rfl, tb_w 93 (by decide +kernel) (by decide +kernel), ⟨by decide, by decide⟩, by decide, by decide +kernel⟩
theorem viX3_init : Cond.instanceMethod yX3_init ∈ TBL := tb_w 488 (by decide +kernel) (by decide +kernel)
theorem mX3_isOpen : Mt yX3_isOpen cX3_isOpen 3 (some FieldType.boolean) 3 := ⟨tb_c 28 rfl rfl, tb_w 93 (by decide +kernel) (by decide +kernel), ⟨by decide, by decide⟩, by decide, by decide +kernel⟩
theorem sX3_isOpen : Cond.static yX3_isOpen ∈ TBL := tb_w 544 (by decide +kernel) (by decide +kernel)
theorem mX3_isWhole : Mt yX3_isWhole cX3_isWhole 2 (some FieldType.boolean) 1 := ⟨tb_c 29 rfl rfl, tb_w 93 (by decide +kernel) (by decide +kernel), ⟨by decide, by decide⟩, by decide, by decide +kernel⟩
theorem vX3_isWhole : Mv yX3_isWhole := ⟨tb_w 527 (by decide +kernel) (by decide +kernel), tb_w 36 (by decide +kernel) (by decide +kernel)⟩
theorem mX3_joined : Mt yX3_joined cX3_joined 7 (some FieldType.int) 3 := ⟨tb_c 30 rfl rfl, tb_w 93 (by decide +kernel) (by decide +kernel), ⟨by decide, by decide⟩, by decide, by decide +kernel⟩
theorem vX3_joined : Mv yX3_joined := ⟨tb_w 548 (by decide +kernel) (by decide +kernel), tb_w 40 (by decide +kernel) (by decide +kernel)⟩
theorem mX3_pair : Mt yX3_pair cX3_pair 2 (some FieldType.int) 2 := ⟨tb_c 31 rfl rfl, tb_w 93 (by decide +kernel) (by decide +kernel), ⟨by decide, by decide⟩, by decide, by decide +kernel⟩
theorem sX3_pair : Cond.static yX3_pair ∈ TBL := tb_w 519 (by decide +kernel) (by decide +kernel)
theorem mX3_withDetours : Mt yX3_withDetours cX3_withDetours 6 (some FieldType.int) 2 := ⟨tb_c 32 rfl rfl, tb_w 93 (by decide +kernel) (by decide +kernel), ⟨by decide, by decide⟩, by decide, by decide +kernel⟩
theorem vX3_withDetours : Mv yX3_withDetours := ⟨tb_w 561 (by decide +kernel) (by decide +kernel), tb_w 41 (by decide +kernel) (by decide +kernel)⟩
theorem mX3_withLess : Mt yX3_withLess cX3_withLess 4 (some FieldType.int) 3 := ⟨tb_c 33 rfl rfl, tb_w 93 (by decide +kernel) (by decide +kernel), ⟨by decide, by decide⟩, by decide, by decide +kernel⟩
theorem sX3_withLess : Cond.static yX3_withLess ∈ TBL := tb_w 557 (by decide +kernel) (by decide +kernel)
theorem mX3_worse : Mt yX3_worse cX3_worse 3 (some FieldType.int) 3 := ⟨tb_c 34 rfl rfl, tb_w 93 (by decide +kernel) (by decide +kernel), ⟨by decide, by decide⟩, by decide, by decide +kernel⟩
theorem sX3_worse : Cond.static yX3_worse ∈ TBL := tb_w 551 (by decide +kernel) (by decide +kernel)
theorem mX4_against : Mt yX4_against cX4_against 3 (some FieldType.int) 2 := ⟨tb_c 35 rfl rfl, tb_w 86 (by decide +kernel) (by decide +kernel), ⟨by decide, by decide⟩, by decide, by decide +kernel⟩
theorem vX4_against : Mv yX4_against := ⟨tb_w 395 (by decide +kernel) (by decide +kernel), tb_w 19 (by decide +kernel) (by decide +kernel)⟩
theorem mX4_believe : Mt yX4_believe cX4_believe 4 none 1 := ⟨tb_c 36 rfl rfl, tb_w 86 (by decide +kernel) (by decide +kernel), ⟨by decide, by decide⟩, by decide, by decide +kernel⟩
theorem vX4_believe : Mv yX4_believe := ⟨tb_w 367 (by decide +kernel) (by decide +kernel), tb_w 12 (by decide +kernel) (by decide +kernel)⟩
theorem mX4_close : Mt yX4_close cX4_close 3 none 0 := ⟨tb_c 37 rfl rfl, tb_w 86 (by decide +kernel) (by decide +kernel), ⟨by decide, by decide⟩, by decide, by decide +kernel⟩
theorem vX4_close : Mv yX4_close := ⟨tb_w 371 (by decide +kernel) (by decide +kernel), tb_w 13 (by decide +kernel) (by decide +kernel)⟩
theorem mX4_contradicts : Mt yX4_contradicts cX4_contradicts 2 (some FieldType.boolean) 1 := ⟨tb_c 38 rfl rfl, tb_w 86 (by decide +kernel) (by decide +kernel), ⟨by decide, by decide⟩, by decide, by decide +kernel⟩
theorem vX4_contradicts : Mv yX4_contradicts := ⟨tb_w 391 (by decide +kernel) (by decide +kernel), tb_w 18 (by decide +kernel) (by decide +kernel)⟩
theorem mX4_findLeaders : Mt yX4_findLeaders cX4_findLeaders 2 none 0 := ⟨tb_c 39 rfl rfl, tb_w 86 (by decide +kernel) (by decide +kernel), ⟨by decide, by decide⟩, by decide, by decide +kernel⟩
theorem vX4_findLeaders : Mv yX4_findLeaders := ⟨tb_w 379 (by decide +kernel) (by decide +kernel), tb_w 15 (by decide +kernel) (by decide +kernel)⟩
theorem mX4_followsOneAlike : Mt yX4_followsOneAlike cX4_followsOneAlike 3 (some FieldType.boolean) 1 := ⟨tb_c 40 rfl rfl, tb_w 86 (by decide +kernel) (by decide +kernel), ⟨by decide, by decide⟩, by decide, by decide +kernel⟩
theorem vX4_followsOneAlike : Mv yX4_followsOneAlike := ⟨tb_w 383 (by decide +kernel) (by decide +kernel), tb_w 16 (by decide +kernel) (by decide +kernel)⟩
theorem mX4_greatestRank : Mt yX4_greatestRank cX4_greatestRank 4 (some FieldType.int) 1 := ⟨tb_c 41 rfl rfl, tb_w 86 (by decide +kernel) (by decide +kernel), ⟨by decide, by decide⟩, by decide, by decide +kernel⟩
theorem vX4_greatestRank : Mv yX4_greatestRank := ⟨tb_w 441 (by decide +kernel) (by decide +kernel), tb_w 26 (by decide +kernel) (by decide +kernel)⟩
theorem mX4_groupCount : Mt yX4_groupCount cX4_groupCount 1 (some FieldType.int) 0 := ⟨tb_c 42 rfl rfl, tb_w 86 (by decide +kernel) (by decide +kernel), ⟨by decide, by decide⟩, by decide, by decide +kernel⟩
theorem vX4_groupCount : Mv yX4_groupCount := ⟨tb_w 408 (by decide +kernel) (by decide +kernel), tb_w 21 (by decide +kernel) (by decide +kernel)⟩
theorem mX4_groupOf : Mt yX4_groupOf cX4_groupOf 4 (some FieldType.int) 1 := ⟨tb_c 43 rfl rfl, tb_w 86 (by decide +kernel) (by decide +kernel), ⟨by decide, by decide⟩, by decide, by decide +kernel⟩
theorem vX4_groupOf : Mv yX4_groupOf := ⟨tb_w 507 (by decide +kernel) (by decide +kernel), tb_w 32 (by decide +kernel) (by decide +kernel)⟩
theorem mX4_heavierLeaders : Mt yX4_heavierLeaders cX4_heavierLeaders 4 (some FieldType.int) 1 := ⟨tb_c 44 rfl rfl, tb_w 86 (by decide +kernel) (by decide +kernel), ⟨by decide, by decide⟩, by decide, by decide +kernel⟩
theorem vX4_heavierLeaders : Mv yX4_heavierLeaders := ⟨tb_w 429 (by decide +kernel) (by decide +kernel), tb_w 23 (by decide +kernel) (by decide +kernel)⟩
theorem mX4_init : Mt yX4_init cX4_init 1 none 0 := ⟨tb_c 45 rfl rfl, tb_w 86 (by decide +kernel) (by decide +kernel), ⟨by decide, by decide⟩, by decide, by decide +kernel⟩
theorem viX4_init : Cond.instanceMethod yX4_init ∈ TBL := tb_w 182 (by decide +kernel) (by decide +kernel)
theorem mX4_isAlike : Mt yX4_isAlike cX4_isAlike 3 (some FieldType.boolean) 2 := ⟨tb_c 46 rfl rfl, tb_w 86 (by decide +kernel) (by decide +kernel), ⟨by decide, by decide⟩, by decide, by decide +kernel⟩
theorem vX4_isAlike : Mv yX4_isAlike := ⟨tb_w 387 (by decide +kernel) (by decide +kernel), tb_w 17 (by decide +kernel) (by decide +kernel)⟩
theorem mX4_isHeavier : Mt yX4_isHeavier cX4_isHeavier 3 (some FieldType.boolean) 2 := ⟨tb_c 47 rfl rfl, tb_w 86 (by decide +kernel) (by decide +kernel), ⟨by decide, by decide⟩, by decide, by decide +kernel⟩
theorem vX4_isHeavier : Mv yX4_isHeavier := ⟨tb_w 437 (by decide +kernel) (by decide +kernel), tb_w 25 (by decide +kernel) (by decide +kernel)⟩
theorem mX4_isLeader : Mt yX4_isLeader cX4_isLeader 2 (some FieldType.boolean) 1 := ⟨tb_c 48 rfl rfl, tb_w 86 (by decide +kernel) (by decide +kernel), ⟨by decide, by decide⟩, by decide, by decide +kernel⟩
theorem vX4_isLeader : Mv yX4_isLeader := ⟨tb_w 433 (by decide +kernel) (by decide +kernel), tb_w 24 (by decide +kernel) (by decide +kernel)⟩
theorem mX4_isNoLess : Mt yX4_isNoLess cX4_isNoLess 3 (some FieldType.boolean) 2 := ⟨tb_c 49 rfl rfl, tb_w 86 (by decide +kernel) (by decide +kernel), ⟨by decide, by decide⟩, by decide, by decide +kernel⟩
theorem vX4_isNoLess : Mv yX4_isNoLess := ⟨tb_w 375 (by decide +kernel) (by decide +kernel), tb_w 14 (by decide +kernel) (by decide +kernel)⟩
theorem mX4_leaderOf : Mt yX4_leaderOf cX4_leaderOf 4 (some FieldType.int) 1 := ⟨tb_c 50 rfl rfl, tb_w 86 (by decide +kernel) (by decide +kernel), ⟨by decide, by decide⟩, by decide, by decide +kernel⟩
theorem vX4_leaderOf : Mv yX4_leaderOf := ⟨tb_w 515 (by decide +kernel) (by decide +kernel), tb_w 34 (by decide +kernel) (by decide +kernel)⟩
theorem mX4_leastRank : Mt yX4_leastRank cX4_leastRank 2 (some FieldType.int) 1 := ⟨tb_c 51 rfl rfl, tb_w 86 (by decide +kernel) (by decide +kernel), ⟨by decide, by decide⟩, by decide, by decide +kernel⟩
theorem vX4_leastRank : Mv yX4_leastRank := ⟨tb_w 425 (by decide +kernel) (by decide +kernel), tb_w 22 (by decide +kernel) (by decide +kernel)⟩
theorem mX4_openPairs : Mt yX4_openPairs cX4_openPairs 4 (some FieldType.int) 0 := ⟨tb_c 52 rfl rfl, tb_w 86 (by decide +kernel) (by decide +kernel), ⟨by decide, by decide⟩, by decide, by decide +kernel⟩
theorem vX4_openPairs : Mv yX4_openPairs := ⟨tb_w 403 (by decide +kernel) (by decide +kernel), tb_w 20 (by decide +kernel) (by decide +kernel)⟩
theorem mX4_orderCount : Mt yX4_orderCount cX4_orderCount 2 (some FieldType.int) 0 := ⟨tb_c 53 rfl rfl, tb_w 86 (by decide +kernel) (by decide +kernel), ⟨by decide, by decide⟩, by decide, by decide +kernel⟩
theorem vX4_orderCount : Mv yX4_orderCount := ⟨tb_w 450 (by decide +kernel) (by decide +kernel), tb_w 27 (by decide +kernel) (by decide +kernel)⟩
theorem mX4_read : Mt yX4_read cX4_read 4 none 2 := ⟨tb_c 54 rfl rfl, tb_w 86 (by decide +kernel) (by decide +kernel), ⟨by decide, by decide⟩, by decide, by decide +kernel⟩
theorem vX4_read : Mv yX4_read := ⟨tb_w 363 (by decide +kernel) (by decide +kernel), tb_w 11 (by decide +kernel) (by decide +kernel)⟩
theorem mX4_waysToBegin : Mt yX4_waysToBegin cX4_waysToBegin 5 (some FieldType.int) 1 := ⟨tb_c 55 rfl rfl, tb_w 86 (by decide +kernel) (by decide +kernel), ⟨by decide, by decide⟩, by decide, by decide +kernel⟩
theorem vX4_waysToBegin : Mv yX4_waysToBegin := ⟨tb_w 454 (by decide +kernel) (by decide +kernel), tb_w 28 (by decide +kernel) (by decide +kernel)⟩
theorem mX5_allFit : Mt yX5_allFit cX5_allFit 3 (some FieldType.boolean) 1 := ⟨tb_c 56 rfl rfl, tb_w 87 (by decide +kernel) (by decide +kernel), ⟨by decide, by decide⟩, by decide, by decide +kernel⟩
theorem vX5_allFit : Mv yX5_allFit := ⟨tb_w 600 (by decide +kernel) (by decide +kernel), tb_w 47 (by decide +kernel) (by decide +kernel)⟩
theorem mX5_hear : Mt yX5_hear cX5_hear 6 none 2 := ⟨tb_c 57 rfl rfl, tb_w 87 (by decide +kernel) (by decide +kernel), ⟨by decide, by decide⟩, by decide, by decide +kernel⟩
theorem vX5_hear : Mv yX5_hear := ⟨tb_w 592 (by decide +kernel) (by decide +kernel), tb_w 45 (by decide +kernel) (by decide +kernel)⟩
theorem mX5_init : Mt yX5_init cX5_init 1 none 0 := ⟨tb_c 58 rfl rfl, tb_w 87 (by decide +kernel) (by decide +kernel), ⟨by decide, by decide⟩, by decide, by decide +kernel⟩
theorem viX5_init : Cond.instanceMethod yX5_init ∈ TBL := tb_w 206 (by decide +kernel) (by decide +kernel)
theorem mX5_keepAbove : Mt yX5_keepAbove cX5_keepAbove 4 none 3 := ⟨tb_c 59 rfl rfl, tb_w 87 (by decide +kernel) (by decide +kernel), ⟨by decide, by decide⟩, by decide, by decide +kernel⟩
theorem vX5_keepAbove : Mv yX5_keepAbove := ⟨tb_w 596 (by decide +kernel) (by decide +kernel), tb_w 46 (by decide +kernel) (by decide +kernel)⟩
theorem mX5_settle : Mt yX5_settle cX5_settle 4 (some FieldType.boolean) 1 := ⟨tb_c 60 rfl rfl, tb_w 87 (by decide +kernel) (by decide +kernel), ⟨by decide, by decide⟩, by decide, by decide +kernel⟩
theorem vX5_settle : Mv yX5_settle := ⟨tb_w 585 (by decide +kernel) (by decide +kernel), tb_w 44 (by decide +kernel) (by decide +kernel)⟩
theorem mX6_advance : Mt yX6_advance cX6_advance 5 (some FieldType.boolean) 0 := ⟨tb_c 61 rfl rfl, tb_w 89 (by decide +kernel) (by decide +kernel), ⟨by decide, by decide⟩, by decide, by decide +kernel⟩
theorem vX6_advance : Mv yX6_advance := ⟨tb_w 650 (by decide +kernel) (by decide +kernel), tb_w 54 (by decide +kernel) (by decide +kernel)⟩
theorem mX6_findExtreme : Mt yX6_findExtreme cX6_findExtreme 6 none 3 := ⟨tb_c 62 rfl rfl, tb_w 89 (by decide +kernel) (by decide +kernel), ⟨by decide, by decide⟩, by decide, by decide +kernel⟩
theorem vX6_findExtreme : Mv yX6_findExtreme := ⟨tb_w 641 (by decide +kernel) (by decide +kernel), tb_w 52 (by decide +kernel) (by decide +kernel)⟩
theorem mX6_init : Mt yX6_init cX6_init 1 none 0 := ⟨tb_c 63 rfl rfl, tb_w 89 (by decide +kernel) (by decide +kernel), ⟨by decide, by decide⟩, by decide, by decide +kernel⟩
theorem viX6_init : Cond.instanceMethod yX6_init ∈ TBL := tb_w 243 (by decide +kernel) (by decide +kernel)
theorem mX6_number : Mt yX6_number cX6_number 3 (some FieldType.int) 0 := ⟨tb_c 64 rfl rfl, tb_w 89 (by decide +kernel) (by decide +kernel), ⟨by decide, by decide⟩, by decide, by decide +kernel⟩
theorem vX6_number : Mv yX6_number := ⟨tb_w 645 (by decide +kernel) (by decide +kernel), tb_w 53 (by decide +kernel) (by decide +kernel)⟩
theorem mX6_pairsLeftOpen : Mt yX6_pairsLeftOpen cX6_pairsLeftOpen 7 (some FieldType.int) 1 := ⟨tb_c 65 rfl rfl, tb_w 89 (by decide +kernel) (by decide +kernel), ⟨by decide, by decide⟩, by decide, by decide +kernel⟩
theorem vX6_pairsLeftOpen : Mv yX6_pairsLeftOpen := ⟨tb_w 630 (by decide +kernel) (by decide +kernel), tb_w 51 (by decide +kernel) (by decide +kernel)⟩
theorem mX6_readNumber : Mt yX6_readNumber cX6_readNumber 7 (some FieldType.boolean) 2 := ⟨tb_c 66 rfl rfl, tb_w 89 (by decide +kernel) (by decide +kernel), ⟨by decide, by decide⟩, by decide, by decide +kernel⟩
theorem vX6_readNumber : Mv yX6_readNumber := ⟨tb_w 626 (by decide +kernel) (by decide +kernel), tb_w 50 (by decide +kernel) (by decide +kernel)⟩
theorem mX6_swap : Mt yX6_swap cX6_swap 4 none 2 := ⟨tb_c 67 rfl rfl, tb_w 89 (by decide +kernel) (by decide +kernel), ⟨by decide, by decide⟩, by decide, by decide +kernel⟩
theorem vX6_swap : Mv yX6_swap := ⟨tb_w 654 (by decide +kernel) (by decide +kernel), tb_w 55 (by decide +kernel) (by decide +kernel)⟩
theorem mX7_fault : Mt yX7_fault cX7_fault 1 (some FieldType.int) 0 := ⟨tb_c 68 rfl rfl, tb_w 83 (by decide +kernel) (by decide +kernel), ⟨by decide, by decide⟩, by decide, by decide +kernel⟩
theorem vX7_fault : Mv yX7_fault := ⟨tb_w 310 (by decide +kernel) (by decide +kernel), tb_w 311 (by decide +kernel) (by decide +kernel)⟩
theorem mX7_follows : Mt yX7_follows cX7_follows 3 (some FieldType.int) 2 := ⟨tb_c 69 rfl rfl, tb_w 83 (by decide +kernel) (by decide +kernel), ⟨by decide, by decide⟩, by decide, by decide +kernel⟩
theorem vX7_follows : Mv yX7_follows := ⟨tb_w 350 (by decide +kernel) (by decide +kernel), tb_w 351 (by decide +kernel) (by decide +kernel)⟩
theorem mX7_groupOrder : Mt yX7_groupOrder cX7_groupOrder 5 (some FieldType.int) 1 := ⟨tb_c 70 rfl rfl, tb_w 83 (by decide +kernel) (by decide +kernel), ⟨by decide, by decide⟩, by decide, by decide +kernel⟩
theorem vX7_groupOrder : Mv yX7_groupOrder := ⟨tb_w 511 (by decide +kernel) (by decide +kernel), tb_w 33 (by decide +kernel) (by decide +kernel)⟩
theorem mX7_image : Mt yX7_image cX7_image 3 (some FieldType.int) 1 := ⟨tb_c 71 rfl rfl, tb_w 83 (by decide +kernel) (by decide +kernel), ⟨by decide, by decide⟩, by decide, by decide +kernel⟩
theorem vX7_image : Mv yX7_image := ⟨tb_w 657 (by decide +kernel) (by decide +kernel), tb_w 658 (by decide +kernel) (by decide +kernel)⟩
theorem mX7_init : Mt yX7_init cX7_init 1 none 0 := ⟨tb_c 72 rfl rfl, tb_w 83 (by decide +kernel) (by decide +kernel), ⟨by decide, by decide⟩, by decide, by decide +kernel⟩
theorem viX7_init : Cond.instanceMethod yX7_init ∈ TBL := tb_w 98 (by decide +kernel) (by decide +kernel)
theorem mX7_isEnd : Mt yX7_isEnd cX7_isEnd 1 (some FieldType.boolean) 1 := ⟨tb_c 73 rfl rfl, tb_w 83 (by decide +kernel) (by decide +kernel), ⟨by decide, by decide⟩, by decide, by decide +kernel⟩
theorem sX7_isEnd : Cond.static yX7_isEnd ∈ TBL := tb_w 421 (by decide +kernel) (by decide +kernel)
theorem mX7_known : Mt yX7_known cX7_known 4 (some FieldType.int) 3 := ⟨tb_c 74 rfl rfl, tb_w 83 (by decide +kernel) (by decide +kernel), ⟨by decide, by decide⟩, by decide, by decide +kernel⟩
theorem vX7_known : Mv yX7_known := ⟨tb_w 572 (by decide +kernel) (by decide +kernel), tb_w 573 (by decide +kernel) (by decide +kernel)⟩
theorem mX7_leaves : Mt yX7_leaves cX7_leaves 2 (some FieldType.int) 1 := ⟨tb_c 75 rfl rfl, tb_w 83 (by decide +kernel) (by decide +kernel), ⟨by decide, by decide⟩, by decide, by decide +kernel⟩
theorem vX7_leaves : Mv yX7_leaves := ⟨tb_w 621 (by decide +kernel) (by decide +kernel), tb_w 622 (by decide +kernel) (by decide +kernel)⟩
theorem mX7_lies : Mt yX7_lies cX7_lies 2 (some FieldType.int) 1 := ⟨tb_c 76 rfl rfl, tb_w 83 (by decide +kernel) (by decide +kernel), ⟨by decide, by decide⟩, by decide, by decide +kernel⟩
theorem vX7_lies : Mv yX7_lies := ⟨tb_w 603 (by decide +kernel) (by decide +kernel), tb_w 604 (by decide +kernel) (by decide +kernel)⟩
theorem mX7_line : Mt yX7_line cX7_line 1 (some FieldType.int) 0 := ⟨tb_c 77 rfl rfl, tb_w 83 (by decide +kernel) (by decide +kernel), ⟨by decide, by decide⟩, by decide, by decide +kernel⟩
theorem vX7_line : Mv yX7_line := ⟨tb_w 322 (by decide +kernel) (by decide +kernel), tb_w 323 (by decide +kernel) (by decide +kernel)⟩
theorem mX7_lineBy : Mt yX7_lineBy cX7_lineBy 3 (some FieldType.int) 2 := ⟨tb_c 78 rfl rfl, tb_w 83 (by decide +kernel) (by decide +kernel), ⟨by decide, by decide⟩, by decide, by decide +kernel⟩
theorem vX7_lineBy : Mv yX7_lineBy := ⟨tb_w 636 (by decide +kernel) (by decide +kernel), tb_w 637 (by decide +kernel) (by decide +kernel)⟩
theorem mX7_loss : Mt yX7_loss cX7_loss 3 (some FieldType.int) 1 := ⟨tb_c 79 rfl rfl, tb_w 83 (by decide +kernel) (by decide +kernel), ⟨by decide, by decide⟩, by decide, by decide +kernel⟩
theorem vX7_loss : Mv yX7_loss := ⟨tb_w 576 (by decide +kernel) (by decide +kernel), tb_w 577 (by decide +kernel) (by decide +kernel)⟩
theorem mX7_more : Mt yX7_more cX7_more 9 (some FieldType.int) 2 := ⟨tb_c 80 rfl rfl, tb_w 83 (by decide +kernel) (by decide +kernel), ⟨by decide, by decide⟩, by decide, by decide +kernel⟩
theorem vX7_more : Mv yX7_more := ⟨tb_w 479 (by decide +kernel) (by decide +kernel), tb_w 480 (by decide +kernel) (by decide +kernel)⟩
theorem mX7_open : Mt yX7_open cX7_open 3 (some FieldType.int) 1 := ⟨tb_c 81 rfl rfl, tb_w 83 (by decide +kernel) (by decide +kernel), ⟨by decide, by decide⟩, by decide, by decide +kernel⟩
theorem vX7_open : Mv yX7_open := ⟨tb_w 398 (by decide +kernel) (by decide +kernel), tb_w 399 (by decide +kernel) (by decide +kernel)⟩
theorem mX7_orders : Mt yX7_orders cX7_orders 1 (some FieldType.int) 0 := ⟨tb_c 82 rfl rfl, tb_w 83 (by decide +kernel) (by decide +kernel), ⟨by decide, by decide⟩, by decide, by decide +kernel⟩
theorem vX7_orders : Mv yX7_orders := ⟨tb_w 445 (by decide +kernel) (by decide +kernel), tb_w 446 (by decide +kernel) (by decide +kernel)⟩
theorem mX7_paymentOf : Mt yX7_paymentOf cX7_paymentOf 7 (some FieldType.int) 2 := ⟨tb_c 83 rfl rfl, tb_w 83 (by decide +kernel) (by decide +kernel), ⟨by decide, by decide⟩, by decide, by decide +kernel⟩
theorem vX7_paymentOf : Mv yX7_paymentOf := ⟨tb_w 470 (by decide +kernel) (by decide +kernel), tb_w 30 (by decide +kernel) (by decide +kernel)⟩
theorem mX7_paymentOfAll : Mt yX7_paymentOfAll cX7_paymentOfAll 4 (some FieldType.int) 1 := ⟨tb_c 84 rfl rfl, tb_w 83 (by decide +kernel) (by decide +kernel), ⟨by decide, by decide⟩, by decide, by decide +kernel⟩
theorem vX7_paymentOfAll : Mv yX7_paymentOfAll := ⟨tb_w 466 (by decide +kernel) (by decide +kernel), tb_w 29 (by decide +kernel) (by decide +kernel)⟩
theorem mX7_pays : Mt yX7_pays cX7_pays 3 (some FieldType.int) 2 := ⟨tb_c 85 rfl rfl, tb_w 83 (by decide +kernel) (by decide +kernel), ⟨by decide, by decide⟩, by decide, by decide +kernel⟩
theorem vX7_pays : Mv yX7_pays := ⟨tb_w 461 (by decide +kernel) (by decide +kernel), tb_w 462 (by decide +kernel) (by decide +kernel)⟩
theorem mX7_plannerFor : Mt yX7_plannerFor cX7_plannerFor 3 (some (FieldType.object "LastScale$Planner")) 1 := ⟨tb_c 86 rfl rfl, tb_w 83 (by decide +kernel) (by decide +kernel), ⟨by decide, by decide⟩, by decide, by decide +kernel⟩
theorem vX7_plannerFor : Mv yX7_plannerFor := ⟨tb_w 484 (by decide +kernel) (by decide +kernel), tb_w 31 (by decide +kernel) (by decide +kernel)⟩
theorem mX7_rank : Mt yX7_rank cX7_rank 3 (some FieldType.int) 2 := ⟨tb_c 87 rfl rfl, tb_w 83 (by decide +kernel) (by decide +kernel), ⟨by decide, by decide⟩, by decide, by decide +kernel⟩
theorem vX7_rank : Mv yX7_rank := ⟨tb_w 417 (by decide +kernel) (by decide +kernel), tb_w 418 (by decide +kernel) (by decide +kernel)⟩
theorem mX7_readBook : Mt yX7_readBook cX7_readBook 1 (some FieldType.boolean) 0 := ⟨tb_c 88 rfl rfl, tb_w 83 (by decide +kernel) (by decide +kernel), ⟨by decide, by decide⟩, by decide, by decide +kernel⟩
theorem vX7_readBook : Mv yX7_readBook := ⟨tb_w 359 (by decide +kernel) (by decide +kernel), tb_w 10 (by decide +kernel) (by decide +kernel)⟩
theorem mX7_restore : Mt yX7_restore cX7_restore 3 (some FieldType.int) 1 := ⟨tb_c 89 rfl rfl, tb_w 83 (by decide +kernel) (by decide +kernel), ⟨by decide, by decide⟩, by decide, by decide +kernel⟩
theorem vX7_restore : Mv yX7_restore := ⟨tb_w 666 (by decide +kernel) (by decide +kernel), tb_w 667 (by decide +kernel) (by decide +kernel)⟩
theorem mX7_sacks : Mt yX7_sacks cX7_sacks 3 (some FieldType.int) 1 := ⟨tb_c 90 rfl rfl, tb_w 83 (by decide +kernel) (by decide +kernel), ⟨by decide, by decide⟩, by decide, by decide +kernel⟩
theorem vX7_sacks : Mv yX7_sacks := ⟨tb_w 289 (by decide +kernel) (by decide +kernel), tb_w 290 (by decide +kernel) (by decide +kernel)⟩
theorem mX7_say : Mt yX7_say cX7_say 2 (some FieldType.int) 1 := ⟨tb_c 91 rfl rfl, tb_w 83 (by decide +kernel) (by decide +kernel), ⟨by decide, by decide⟩, by decide, by decide +kernel⟩
theorem vX7_say : Mv yX7_say := ⟨tb_w 294 (by decide +kernel) (by decide +kernel), tb_w 295 (by decide +kernel) (by decide +kernel)⟩
theorem mX7_saying : Mt yX7_saying cX7_saying 3 (some FieldType.int) 2 := ⟨tb_c 92 rfl rfl, tb_w 83 (by decide +kernel) (by decide +kernel), ⟨by decide, by decide⟩, by decide, by decide +kernel⟩
theorem vX7_saying : Mv yX7_saying := ⟨tb_w 346 (by decide +kernel) (by decide +kernel), tb_w 347 (by decide +kernel) (by decide +kernel)⟩
theorem mX7_span : Mt yX7_span cX7_span 3 (some FieldType.int) 2 := ⟨tb_c 93 rfl rfl, tb_w 83 (by decide +kernel) (by decide +kernel), ⟨by decide, by decide⟩, by decide, by decide +kernel⟩
theorem vX7_span : Mv yX7_span := ⟨tb_w 580 (by decide +kernel) (by decide +kernel), tb_w 581 (by decide +kernel) (by decide +kernel)⟩
theorem mX7_strike : Mt yX7_strike cX7_strike 1 (some FieldType.int) 0 := ⟨tb_c 94 rfl rfl, tb_w 83 (by decide +kernel) (by decide +kernel), ⟨by decide, by decide⟩, by decide, by decide +kernel⟩
theorem vX7_strike : Mv yX7_strike := ⟨tb_w 342 (by decide +kernel) (by decide +kernel), tb_w 343 (by decide +kernel) (by decide +kernel)⟩
theorem mX7_told : Mt yX7_told cX7_told 2 (some FieldType.int) 1 := ⟨tb_c 95 rfl rfl, tb_w 83 (by decide +kernel) (by decide +kernel), ⟨by decide, by decide⟩, by decide, by decide +kernel⟩
theorem vX7_told : Mv yX7_told := ⟨tb_w 670 (by decide +kernel) (by decide +kernel), tb_w 671 (by decide +kernel) (by decide +kernel)⟩
theorem mX7_toldOfRow : Mt yX7_toldOfRow cX7_toldOfRow 4 (some FieldType.int) 1 := ⟨tb_c 96 rfl rfl, tb_w 83 (by decide +kernel) (by decide +kernel), ⟨by decide, by decide⟩, by decide, by decide +kernel⟩
theorem vX7_toldOfRow : Mv yX7_toldOfRow := ⟨tb_w 675 (by decide +kernel) (by decide +kernel), tb_w 57 (by decide +kernel) (by decide +kernel)⟩
theorem mX7_toll : Mt yX7_toll cX7_toll 4 (some FieldType.int) 2 := ⟨tb_c 97 rfl rfl, tb_w 83 (by decide +kernel) (by decide +kernel), ⟨by decide, by decide⟩, by decide, by decide +kernel⟩
theorem vX7_toll : Mv yX7_toll := ⟨tb_w 457 (by decide +kernel) (by decide +kernel), tb_w 458 (by decide +kernel) (by decide +kernel)⟩
theorem mX7_weight : Mt yX7_weight cX7_weight 4 (some FieldType.int) 2 := ⟨tb_c 98 rfl rfl, tb_w 83 (by decide +kernel) (by decide +kernel), ⟨by decide, by decide⟩, by decide, by decide +kernel⟩
theorem vX7_weight : Mv yX7_weight := ⟨tb_w 617 (by decide +kernel) (by decide +kernel), tb_w 618 (by decide +kernel) (by decide +kernel)⟩
theorem mX7_wipe : Mt yX7_wipe cX7_wipe 2 (some FieldType.int) 0 := ⟨tb_c 99 rfl rfl, tb_w 83 (by decide +kernel) (by decide +kernel), ⟨by decide, by decide⟩, by decide, by decide +kernel⟩
theorem vX7_wipe : Mv yX7_wipe := ⟨tb_w 302 (by decide +kernel) (by decide +kernel), tb_w 303 (by decide +kernel) (by decide +kernel)⟩
theorem mX8_bits : Mt yX8_bits cX8_bits 3 (some FieldType.int) 1 := ⟨tb_c 100 rfl rfl, tb_w 90 (by decide +kernel) (by decide +kernel), ⟨by decide, by decide⟩, by decide, by decide +kernel⟩
theorem sX8_bits : Cond.static yX8_bits ∈ TBL := tb_w 939 (by decide +kernel) (by decide +kernel)
theorem mX8_canSpan : Mt yX8_canSpan cX8_canSpan 3 (some FieldType.boolean) 0 := ⟨tb_c 101 rfl rfl, tb_w 90 (by decide +kernel) (by decide +kernel), ⟨by decide, by decide⟩, by decide, by decide +kernel⟩
theorem vX8_canSpan : Mv yX8_canSpan := ⟨tb_w 928 (by decide +kernel) (by decide +kernel), tb_w 78 (by decide +kernel) (by decide +kernel)⟩
theorem mX8_clear : Mt yX8_clear cX8_clear 2 none 0 := ⟨tb_c 102 rfl rfl, tb_w 90 (by decide +kernel) (by decide +kernel), ⟨by decide, by decide⟩, by decide, by decide +kernel⟩
theorem vX8_clear : Mv yX8_clear := ⟨tb_w 820 (by decide +kernel) (by decide +kernel), tb_w 62 (by decide +kernel) (by decide +kernel)⟩
theorem mX8_close : Mt yX8_close cX8_close 4 (some FieldType.boolean) 0 := ⟨tb_c 103 rfl rfl, tb_w 90 (by decide +kernel) (by decide +kernel), ⟨by decide, by decide⟩, by decide, by decide +kernel⟩
theorem vX8_close : Mv yX8_close := ⟨tb_w 828 (by decide +kernel) (by decide +kernel), tb_w 64 (by decide +kernel) (by decide +kernel)⟩
theorem mX8_does : Mt yX8_does cX8_does 6 (some FieldType.boolean) 3 := ⟨tb_c 104 rfl rfl, tb_w 90 (by decide +kernel) (by decide +kernel), ⟨by decide, by decide⟩, by decide, by decide +kernel⟩
theorem vX8_does : Mv yX8_does := ⟨tb_w 908 (by decide +kernel) (by decide +kernel), tb_w 76 (by decide +kernel) (by decide +kernel)⟩
theorem mX8_fault : Mt yX8_fault cX8_fault 1 (some FieldType.int) 0 := ⟨tb_c 105 rfl rfl, tb_w 90 (by decide +kernel) (by decide +kernel), ⟨by decide, by decide⟩, by decide, by decide +kernel⟩
theorem vX8_fault : Mv yX8_fault := ⟨tb_w 783 (by decide +kernel) (by decide +kernel), tb_w 784 (by decide +kernel) (by decide +kernel)⟩
theorem mX8_faultOf : Mt yX8_faultOf cX8_faultOf 5 (some FieldType.int) 0 := ⟨tb_c 106 rfl rfl, tb_w 90 (by decide +kernel) (by decide +kernel), ⟨by decide, by decide⟩, by decide, by decide +kernel⟩
theorem vX8_faultOf : Mv yX8_faultOf := ⟨tb_w 788 (by decide +kernel) (by decide +kernel), tb_w 58 (by decide +kernel) (by decide +kernel)⟩
theorem mX8_follow : Mt yX8_follow cX8_follow 3 (some FieldType.boolean) 1 := ⟨tb_c 107 rfl rfl, tb_w 90 (by decide +kernel) (by decide +kernel), ⟨by decide, by decide⟩, by decide, by decide +kernel⟩
theorem vX8_follow : Mv yX8_follow := ⟨tb_w 816 (by decide +kernel) (by decide +kernel), tb_w 61 (by decide +kernel) (by decide +kernel)⟩
theorem mX8_followAll : Mt yX8_followAll cX8_followAll 1 (some FieldType.boolean) 0 := ⟨tb_c 108 rfl rfl, tb_w 90 (by decide +kernel) (by decide +kernel), ⟨by decide, by decide⟩, by decide, by decide +kernel⟩
theorem vX8_followAll : Mv yX8_followAll := ⟨tb_w 812 (by decide +kernel) (by decide +kernel), tb_w 60 (by decide +kernel) (by decide +kernel)⟩
theorem mX8_follows : Mt yX8_follows cX8_follows 3 (some FieldType.int) 2 := ⟨tb_c 109 rfl rfl, tb_w 90 (by decide +kernel) (by decide +kernel), ⟨by decide, by decide⟩, by decide, by decide +kernel⟩
theorem vX8_follows : Mv yX8_follows := ⟨tb_w 807 (by decide +kernel) (by decide +kernel), tb_w 808 (by decide +kernel) (by decide +kernel)⟩
theorem mX8_image : Mt yX8_image cX8_image 4 (some FieldType.int) 1 := ⟨tb_c 110 rfl rfl, tb_w 90 (by decide +kernel) (by decide +kernel), ⟨by decide, by decide⟩, by decide, by decide +kernel⟩
theorem vX8_image : Mv yX8_image := ⟨tb_w 962 (by decide +kernel) (by decide +kernel), tb_w 963 (by decide +kernel) (by decide +kernel)⟩
theorem mX8_in : Mt yX8_in cX8_in 3 (some FieldType.boolean) 3 := ⟨tb_c 111 rfl rfl, tb_w 90 (by decide +kernel) (by decide +kernel), ⟨by decide, by decide⟩, by decide, by decide +kernel⟩
theorem sX8_in : Cond.static yX8_in ∈ TBL := tb_w 772 (by decide +kernel) (by decide +kernel)
theorem mX8_init : Mt yX8_init cX8_init 2 none 0 := ⟨tb_c 112 rfl rfl, tb_w 90 (by decide +kernel) (by decide +kernel), ⟨by decide, by decide⟩, by decide, by decide +kernel⟩
theorem viX8_init : Cond.instanceMethod yX8_init ∈ TBL := tb_w 680 (by decide +kernel) (by decide +kernel)
theorem mX8_isOpen : Mt yX8_isOpen cX8_isOpen 3 (some FieldType.boolean) 2 := ⟨tb_c 113 rfl rfl, tb_w 90 (by decide +kernel) (by decide +kernel), ⟨by decide, by decide⟩, by decide, by decide +kernel⟩
theorem vX8_isOpen : Mv yX8_isOpen := ⟨tb_w 844 (by decide +kernel) (by decide +kernel), tb_w 67 (by decide +kernel) (by decide +kernel)⟩
theorem mX8_isOver : Mt yX8_isOver cX8_isOver 3 (some FieldType.boolean) 3 := ⟨tb_c 114 rfl rfl, tb_w 90 (by decide +kernel) (by decide +kernel), ⟨by decide, by decide⟩, by decide, by decide +kernel⟩
theorem sX8_isOver : Cond.static yX8_isOver ∈ TBL := tb_w 892 (by decide +kernel) (by decide +kernel)
theorem mX8_isSack : Mt yX8_isSack cX8_isSack 2 (some FieldType.boolean) 1 := ⟨tb_c 115 rfl rfl, tb_w 90 (by decide +kernel) (by decide +kernel), ⟨by decide, by decide⟩, by decide, by decide +kernel⟩
theorem vX8_isSack : Mv yX8_isSack := ⟨tb_w 792 (by decide +kernel) (by decide +kernel), tb_w 59 (by decide +kernel) (by decide +kernel)⟩
theorem mX8_isWhole : Mt yX8_isWhole cX8_isWhole 5 (some FieldType.boolean) 1 := ⟨tb_c 116 rfl rfl, tb_w 90 (by decide +kernel) (by decide +kernel), ⟨by decide, by decide⟩, by decide, by decide +kernel⟩
theorem vX8_isWhole : Mv yX8_isWhole := ⟨tb_w 889 (by decide +kernel) (by decide +kernel), tb_w 72 (by decide +kernel) (by decide +kernel)⟩
theorem mX8_known : Mt yX8_known cX8_known 4 (some FieldType.int) 3 := ⟨tb_c 117 rfl rfl, tb_w 90 (by decide +kernel) (by decide +kernel), ⟨by decide, by decide⟩, by decide, by decide +kernel⟩
theorem vX8_known : Mv yX8_known := ⟨tb_w 911 (by decide +kernel) (by decide +kernel), tb_w 912 (by decide +kernel) (by decide +kernel)⟩
theorem mX8_laid : Mt yX8_laid cX8_laid 6 (some FieldType.int) 3 := ⟨tb_c 118 rfl rfl, tb_w 90 (by decide +kernel) (by decide +kernel), ⟨by decide, by decide⟩, by decide, by decide +kernel⟩
theorem vX8_laid : Mv yX8_laid := ⟨tb_w 896 (by decide +kernel) (by decide +kernel), tb_w 73 (by decide +kernel) (by decide +kernel)⟩
theorem mX8_layGroups : Mt yX8_layGroups cX8_layGroups 4 none 0 := ⟨tb_c 119 rfl rfl, tb_w 90 (by decide +kernel) (by decide +kernel), ⟨by decide, by decide⟩, by decide, by decide +kernel⟩
theorem vX8_layGroups : Mv yX8_layGroups := ⟨tb_w 836 (by decide +kernel) (by decide +kernel), tb_w 65 (by decide +kernel) (by decide +kernel)⟩
theorem mX8_layOrder : Mt yX8_layOrder cX8_layOrder 6 (some FieldType.boolean) 2 := ⟨tb_c 120 rfl rfl, tb_w 90 (by decide +kernel) (by decide +kernel), ⟨by decide, by decide⟩, by decide, by decide +kernel⟩
theorem vX8_layOrder : Mv yX8_layOrder := ⟨tb_w 951 (by decide +kernel) (by decide +kernel), tb_w 80 (by decide +kernel) (by decide +kernel)⟩
theorem mX8_laySpans : Mt yX8_laySpans cX8_laySpans 10 (some FieldType.boolean) 0 := ⟨tb_c 121 rfl rfl, tb_w 90 (by decide +kernel) (by decide +kernel), ⟨by decide, by decide⟩, by decide, by decide +kernel⟩
theorem vX8_laySpans : Mv yX8_laySpans := ⟨tb_w 924 (by decide +kernel) (by decide +kernel), tb_w 77 (by decide +kernel) (by decide +kernel)⟩
theorem mX8_layStands : Mt yX8_layStands cX8_layStands 9 none 2 := ⟨tb_c 122 rfl rfl, tb_w 90 (by decide +kernel) (by decide +kernel), ⟨by decide, by decide⟩, by decide, by decide +kernel⟩
theorem vX8_layStands : Mv yX8_layStands := ⟨tb_w 876 (by decide +kernel) (by decide +kernel), tb_w 70 (by decide +kernel) (by decide +kernel)⟩
theorem mX8_layValues : Mt yX8_layValues cX8_layValues 5 none 0 := ⟨tb_c 123 rfl rfl, tb_w 90 (by decide +kernel) (by decide +kernel), ⟨by decide, by decide⟩, by decide, by decide +kernel⟩
theorem vX8_layValues : Mv yX8_layValues := ⟨tb_w 904 (by decide +kernel) (by decide +kernel), tb_w 75 (by decide +kernel) (by decide +kernel)⟩
theorem mX8_leaves : Mt yX8_leaves cX8_leaves 2 (some FieldType.int) 1 := ⟨tb_c 124 rfl rfl, tb_w 90 (by decide +kernel) (by decide +kernel), ⟨by decide, by decide⟩, by decide, by decide +kernel⟩
theorem vX8_leaves : Mv yX8_leaves := ⟨tb_w 946 (by decide +kernel) (by decide +kernel), tb_w 947 (by decide +kernel) (by decide +kernel)⟩
theorem mX8_leftOpen : Mt yX8_leftOpen cX8_leftOpen 4 (some FieldType.int) 0 := ⟨tb_c 125 rfl rfl, tb_w 90 (by decide +kernel) (by decide +kernel), ⟨by decide, by decide⟩, by decide, by decide +kernel⟩
theorem vX8_leftOpen : Mv yX8_leftOpen := ⟨tb_w 955 (by decide +kernel) (by decide +kernel), tb_w 81 (by decide +kernel) (by decide +kernel)⟩
theorem mX8_lies : Mt yX8_lies cX8_lies 8 (some FieldType.int) 1 := ⟨tb_c 126 rfl rfl, tb_w 90 (by decide +kernel) (by decide +kernel), ⟨by decide, by decide⟩, by decide, by decide +kernel⟩
theorem vX8_lies : Mv yX8_lies := ⟨tb_w 935 (by decide +kernel) (by decide +kernel), tb_w 936 (by decide +kernel) (by decide +kernel)⟩
theorem mX8_line : Mt yX8_line cX8_line 4 (some FieldType.int) 0 := ⟨tb_c 127 rfl rfl, tb_w 90 (by decide +kernel) (by decide +kernel), ⟨by decide, by decide⟩, by decide, by decide +kernel⟩
theorem vX8_line : Mv yX8_line := ⟨tb_w 795 (by decide +kernel) (by decide +kernel), tb_w 796 (by decide +kernel) (by decide +kernel)⟩
theorem mX8_lineBy : Mt yX8_lineBy cX8_lineBy 9 (some FieldType.int) 2 := ⟨tb_c 128 rfl rfl, tb_w 90 (by decide +kernel) (by decide +kernel), ⟨by decide, by decide⟩, by decide, by decide +kernel⟩
theorem vX8_lineBy : Mv yX8_lineBy := ⟨tb_w 958 (by decide +kernel) (by decide +kernel), tb_w 959 (by decide +kernel) (by decide +kernel)⟩
theorem mX8_loss : Mt yX8_loss cX8_loss 3 (some FieldType.int) 1 := ⟨tb_c 129 rfl rfl, tb_w 90 (by decide +kernel) (by decide +kernel), ⟨by decide, by decide⟩, by decide, by decide +kernel⟩
theorem vX8_loss : Mv yX8_loss := ⟨tb_w 915 (by decide +kernel) (by decide +kernel), tb_w 916 (by decide +kernel) (by decide +kernel)⟩
theorem mX8_more : Mt yX8_more cX8_more 6 (some FieldType.int) 2 := ⟨tb_c 130 rfl rfl, tb_w 90 (by decide +kernel) (by decide +kernel), ⟨by decide, by decide⟩, by decide, by decide +kernel⟩
theorem vX8_more : Mv yX8_more := ⟨tb_w 871 (by decide +kernel) (by decide +kernel), tb_w 872 (by decide +kernel) (by decide +kernel)⟩
theorem mX8_open : Mt yX8_open cX8_open 3 (some FieldType.int) 1 := ⟨tb_c 131 rfl rfl, tb_w 90 (by decide +kernel) (by decide +kernel), ⟨by decide, by decide⟩, by decide, by decide +kernel⟩
theorem vX8_open : Mv yX8_open := ⟨tb_w 831 (by decide +kernel) (by decide +kernel), tb_w 832 (by decide +kernel) (by decide +kernel)⟩
theorem mX8_openPairs : Mt yX8_openPairs cX8_openPairs 4 (some FieldType.int) 0 := ⟨tb_c 132 rfl rfl, tb_w 90 (by decide +kernel) (by decide +kernel), ⟨by decide, by decide⟩, by decide, by decide +kernel⟩
theorem vX8_openPairs : Mv yX8_openPairs := ⟨tb_w 840 (by decide +kernel) (by decide +kernel), tb_w 66 (by decide +kernel) (by decide +kernel)⟩
theorem mX8_orders : Mt yX8_orders cX8_orders 5 (some FieldType.int) 0 := ⟨tb_c 133 rfl rfl, tb_w 90 (by decide +kernel) (by decide +kernel), ⟨by decide, by decide⟩, by decide, by decide +kernel⟩
theorem vX8_orders : Mv yX8_orders := ⟨tb_w 855 (by decide +kernel) (by decide +kernel), tb_w 856 (by decide +kernel) (by decide +kernel)⟩
theorem mX8_pays : Mt yX8_pays cX8_pays 5 (some FieldType.int) 2 := ⟨tb_c 134 rfl rfl, tb_w 90 (by decide +kernel) (by decide +kernel), ⟨by decide, by decide⟩, by decide, by decide +kernel⟩
theorem vX8_pays : Mv yX8_pays := ⟨tb_w 863 (by decide +kernel) (by decide +kernel), tb_w 864 (by decide +kernel) (by decide +kernel)⟩
theorem mX8_paysOf : Mt yX8_paysOf cX8_paysOf 6 (some FieldType.int) 2 := ⟨tb_c 135 rfl rfl, tb_w 90 (by decide +kernel) (by decide +kernel), ⟨by decide, by decide⟩, by decide, by decide +kernel⟩
theorem vX8_paysOf : Mv yX8_paysOf := ⟨tb_w 868 (by decide +kernel) (by decide +kernel), tb_w 69 (by decide +kernel) (by decide +kernel)⟩
theorem mX8_press : Mt yX8_press cX8_press 5 (some FieldType.boolean) 3 := ⟨tb_c 136 rfl rfl, tb_w 90 (by decide +kernel) (by decide +kernel), ⟨by decide, by decide⟩, by decide, by decide +kernel⟩
theorem vX8_press : Mv yX8_press := ⟨tb_w 932 (by decide +kernel) (by decide +kernel), tb_w 79 (by decide +kernel) (by decide +kernel)⟩
theorem mX8_put : Mt yX8_put cX8_put 4 none 3 := ⟨tb_c 137 rfl rfl, tb_w 90 (by decide +kernel) (by decide +kernel), ⟨by decide, by decide⟩, by decide, by decide +kernel⟩
theorem vX8_put : Mv yX8_put := ⟨tb_w 824 (by decide +kernel) (by decide +kernel), tb_w 63 (by decide +kernel) (by decide +kernel)⟩
theorem mX8_rank : Mt yX8_rank cX8_rank 3 (some FieldType.int) 2 := ⟨tb_c 138 rfl rfl, tb_w 90 (by decide +kernel) (by decide +kernel), ⟨by decide, by decide⟩, by decide, by decide +kernel⟩
theorem vX8_rank : Mv yX8_rank := ⟨tb_w 847 (by decide +kernel) (by decide +kernel), tb_w 848 (by decide +kernel) (by decide +kernel)⟩
theorem mX8_rankOf : Mt yX8_rankOf cX8_rankOf 6 (some FieldType.int) 2 := ⟨tb_c 139 rfl rfl, tb_w 90 (by decide +kernel) (by decide +kernel), ⟨by decide, by decide⟩, by decide, by decide +kernel⟩
theorem vX8_rankOf : Mv yX8_rankOf := ⟨tb_w 852 (by decide +kernel) (by decide +kernel), tb_w 68 (by decide +kernel) (by decide +kernel)⟩
theorem mX8_restore : Mt yX8_restore cX8_restore 4 (some FieldType.int) 1 := ⟨tb_c 140 rfl rfl, tb_w 90 (by decide +kernel) (by decide +kernel), ⟨by decide, by decide⟩, by decide, by decide +kernel⟩
theorem vX8_restore : Mv yX8_restore := ⟨tb_w 966 (by decide +kernel) (by decide +kernel), tb_w 967 (by decide +kernel) (by decide +kernel)⟩
theorem mX8_sacks : Mt yX8_sacks cX8_sacks 4 (some FieldType.int) 1 := ⟨tb_c 141 rfl rfl, tb_w 90 (by decide +kernel) (by decide +kernel), ⟨by decide, by decide⟩, by decide, by decide +kernel⟩
theorem vX8_sacks : Mv yX8_sacks := ⟨tb_w 768 (by decide +kernel) (by decide +kernel), tb_w 769 (by decide +kernel) (by decide +kernel)⟩
theorem mX8_say : Mt yX8_say cX8_say 2 (some FieldType.int) 1 := ⟨tb_c 142 rfl rfl, tb_w 90 (by decide +kernel) (by decide +kernel), ⟨by decide, by decide⟩, by decide, by decide +kernel⟩
theorem vX8_say : Mv yX8_say := ⟨tb_w 775 (by decide +kernel) (by decide +kernel), tb_w 776 (by decide +kernel) (by decide +kernel)⟩
theorem mX8_saying : Mt yX8_saying cX8_saying 3 (some FieldType.int) 2 := ⟨tb_c 143 rfl rfl, tb_w 90 (by decide +kernel) (by decide +kernel), ⟨by decide, by decide⟩, by decide, by decide +kernel⟩
theorem vX8_saying : Mv yX8_saying := ⟨tb_w 803 (by decide +kernel) (by decide +kernel), tb_w 804 (by decide +kernel) (by decide +kernel)⟩
theorem mX8_slot : Mt yX8_slot cX8_slot 3 (some FieldType.int) 2 := ⟨tb_c 144 rfl rfl, tb_w 90 (by decide +kernel) (by decide +kernel), ⟨by decide, by decide⟩, by decide, by decide +kernel⟩
theorem sX8_slot : Cond.static yX8_slot ∈ TBL := tb_w 883 (by decide +kernel) (by decide +kernel)
theorem mX8_span : Mt yX8_span cX8_span 3 (some FieldType.int) 2 := ⟨tb_c 145 rfl rfl, tb_w 90 (by decide +kernel) (by decide +kernel), ⟨by decide, by decide⟩, by decide, by decide +kernel⟩
theorem vX8_span : Mv yX8_span := ⟨tb_w 919 (by decide +kernel) (by decide +kernel), tb_w 920 (by decide +kernel) (by decide +kernel)⟩
theorem mX8_stand : Mt yX8_stand cX8_stand 4 (some FieldType.int) 2 := ⟨tb_c 146 rfl rfl, tb_w 90 (by decide +kernel) (by decide +kernel), ⟨by decide, by decide⟩, by decide, by decide +kernel⟩
theorem vX8_stand : Mv yX8_stand := ⟨tb_w 880 (by decide +kernel) (by decide +kernel), tb_w 71 (by decide +kernel) (by decide +kernel)⟩
theorem mX8_strike : Mt yX8_strike cX8_strike 1 (some FieldType.int) 0 := ⟨tb_c 147 rfl rfl, tb_w 90 (by decide +kernel) (by decide +kernel), ⟨by decide, by decide⟩, by decide, by decide +kernel⟩
theorem vX8_strike : Mv yX8_strike := ⟨tb_w 799 (by decide +kernel) (by decide +kernel), tb_w 800 (by decide +kernel) (by decide +kernel)⟩
theorem mX8_told : Mt yX8_told cX8_told 3 (some FieldType.int) 1 := ⟨tb_c 148 rfl rfl, tb_w 90 (by decide +kernel) (by decide +kernel), ⟨by decide, by decide⟩, by decide, by decide +kernel⟩
theorem vX8_told : Mv yX8_told := ⟨tb_w 970 (by decide +kernel) (by decide +kernel), tb_w 971 (by decide +kernel) (by decide +kernel)⟩
theorem mX8_toll : Mt yX8_toll cX8_toll 4 (some FieldType.int) 2 := ⟨tb_c 149 rfl rfl, tb_w 90 (by decide +kernel) (by decide +kernel), ⟨by decide, by decide⟩, by decide, by decide +kernel⟩
theorem vX8_toll : Mv yX8_toll := ⟨tb_w 859 (by decide +kernel) (by decide +kernel), tb_w 860 (by decide +kernel) (by decide +kernel)⟩
theorem mX8_weight : Mt yX8_weight cX8_weight 4 (some FieldType.int) 2 := ⟨tb_c 150 rfl rfl, tb_w 90 (by decide +kernel) (by decide +kernel), ⟨by decide, by decide⟩, by decide, by decide +kernel⟩
theorem vX8_weight : Mv yX8_weight := ⟨tb_w 942 (by decide +kernel) (by decide +kernel), tb_w 943 (by decide +kernel) (by decide +kernel)⟩
theorem mX8_wipe : Mt yX8_wipe cX8_wipe 2 (some FieldType.int) 0 := ⟨tb_c 151 rfl rfl, tb_w 90 (by decide +kernel) (by decide +kernel), ⟨by decide, by decide⟩, by decide, by decide +kernel⟩
theorem vX8_wipe : Mv yX8_wipe := ⟨tb_w 779 (by decide +kernel) (by decide +kernel), tb_w 780 (by decide +kernel) (by decide +kernel)⟩
theorem mX8_with : Mt yX8_with cX8_with 9 (some FieldType.int) 3 := ⟨tb_c 152 rfl rfl, tb_w 90 (by decide +kernel) (by decide +kernel), ⟨by decide, by decide⟩, by decide, by decide +kernel⟩
theorem vX8_with : Mv yX8_with := ⟨tb_w 900 (by decide +kernel) (by decide +kernel), tb_w 74 (by decide +kernel) (by decide +kernel)⟩
theorem loX7_1 : Cond.methodLink RX7 1 objectInit ∈ TBL := tb_w 100 (by decide +kernel) (by decide +kernel)
theorem lX7_9 : Ln RX7 9 yX2_init := Or.inr ⟨"LastScale", tb_n 105 (by decide +kernel) (by decide +kernel)⟩
theorem lX7_18 : Ln RX7 18 yX0_init := Or.inr ⟨"LastScale", tb_n 121 (by decide +kernel) (by decide +kernel)⟩
theorem lX7_29 : Ln RX7 29 yX4_init := Or.inr ⟨"LastScale", tb_n 181 (by decide +kernel) (by decide +kernel)⟩
theorem lX7_36 : Ln RX7 36 yX5_init := Or.inr ⟨"LastScale", tb_n 205 (by decide +kernel) (by decide +kernel)⟩
theorem lX7_43 : Ln RX7 43 yX1_init := Or.inr ⟨"LastScale", tb_n 223 (by decide +kernel) (by decide +kernel)⟩
theorem lX7_50 : Ln RX7 50 yX6_init := Or.inr ⟨"LastScale", tb_n 242 (by decide +kernel) (by decide +kernel)⟩
theorem lX7_65 : Ln RX7 65 yX0_beginWith := Or.inr ⟨"LastScale", tb_n 292 (by decide +kernel) (by decide +kernel)⟩
theorem lX7_72 : Ln RX7 72 yX2_put := Or.inr ⟨"LastScale", tb_n 297 (by decide +kernel) (by decide +kernel)⟩
theorem lX7_75 : Ln RX7 75 yX2_clear := Or.inr ⟨"LastScale", tb_n 305 (by decide +kernel) (by decide +kernel)⟩
theorem lX7_78 : Ln RX7 78 yX2_firstFault := Or.inr ⟨"LastScale", tb_n 313 (by decide +kernel) (by decide +kernel)⟩
theorem lX7_85 : Ln RX7 85 yX0_write := Or.inr ⟨"LastScale", tb_n 325 (by decide +kernel) (by decide +kernel)⟩
theorem lX7_93 : Ln RX7 93 yX0_has := Or.inr ⟨"LastScale", tb_n 353 (by decide +kernel) (by decide +kernel)⟩
theorem lX7_97 : Ln RX7 97 yX7_readBook := Or.inl (tb_w 357 (by decide +kernel) (by decide +kernel))
theorem lX7_101 : Ln RX7 101 yX4_against := Or.inr ⟨"LastScale", tb_n 393 (by decide +kernel) (by decide +kernel)⟩
theorem lX7_105 : Ln RX7 105 yX4_openPairs := Or.inr ⟨"LastScale", tb_n 401 (by decide +kernel) (by decide +kernel)⟩
theorem lX7_109 : Ln RX7 109 yX4_groupCount := Or.inr ⟨"LastScale", tb_n 406 (by decide +kernel) (by decide +kernel)⟩
theorem lX7_112 : Ln RX7 112 yX7_isEnd := Or.inl (tb_w 420 (by decide +kernel) (by decide +kernel))
theorem lX7_115 : Ln RX7 115 yX4_leastRank := Or.inr ⟨"LastScale", tb_n 423 (by decide +kernel) (by decide +kernel)⟩
theorem lX7_118 : Ln RX7 118 yX4_greatestRank := Or.inr ⟨"LastScale", tb_n 439 (by decide +kernel) (by decide +kernel)⟩
theorem lX7_121 : Ln RX7 121 yX4_orderCount := Or.inr ⟨"LastScale", tb_n 448 (by decide +kernel) (by decide +kernel)⟩
theorem lX7_128 : Ln RX7 128 yX7_paymentOfAll := Or.inl (tb_w 464 (by decide +kernel) (by decide +kernel))
theorem lX7_131 : Ln RX7 131 yX7_paymentOf := Or.inl (tb_w 468 (by decide +kernel) (by decide +kernel))
theorem lX7_134 : Ln RX7 134 yJ9_min_7cf53 := Or.inl (tb_w 472 (by decide +kernel) (by decide +kernel))
theorem lX7_139 : Ln RX7 139 yJ9_max_7cf53 := Or.inl (tb_w 475 (by decide +kernel) (by decide +kernel))
theorem lX7_142 : Ln RX7 142 yX4_read := Or.inr ⟨"LastScale", tb_n 361 (by decide +kernel) (by decide +kernel)⟩
theorem lX7_150 : Ln RX7 150 yX7_plannerFor := Or.inl (tb_w 482 (by decide +kernel) (by decide +kernel))
theorem lX7_154 : Ln RX7 154 yX4_groupOf := Or.inr ⟨"LastScale", tb_n 505 (by decide +kernel) (by decide +kernel)⟩
theorem lX7_157 : Ln RX7 157 yX7_groupOrder := Or.inl (tb_w 509 (by decide +kernel) (by decide +kernel))
theorem lX7_160 : Ln RX7 160 yX3_fewestLifts := Or.inr ⟨"LastScale", tb_n 521 (by decide +kernel) (by decide +kernel)⟩
theorem lX7_163 : Ln RX7 163 yX3_firstOf := Or.inr ⟨"LastScale", tb_n 567 (by decide +kernel) (by decide +kernel)⟩
theorem lX7_167 : Ln RX7 167 yX4_leaderOf := Or.inr ⟨"LastScale", tb_n 513 (by decide +kernel) (by decide +kernel)⟩
theorem lX7_170 : Ln RX7 170 yX3_init := Or.inr ⟨"LastScale", tb_n 487 (by decide +kernel) (by decide +kernel)⟩
theorem lX7_172 : Ln RX7 172 yX4_isHeavier := Or.inr ⟨"LastScale", tb_n 517 (by decide +kernel) (by decide +kernel)⟩
theorem lX7_176 : Ln RX7 176 yX3_pair := Or.inr ⟨"LastScale", tb_n 518 (by decide +kernel) (by decide +kernel)⟩
theorem lX7_188 : Ln RX7 188 yX5_settle := Or.inr ⟨"LastScale", tb_n 583 (by decide +kernel) (by decide +kernel)⟩
theorem lX7_198 : Ln RX7 198 yX1_find := Or.inr ⟨"LastScale", tb_n 606 (by decide +kernel) (by decide +kernel)⟩
theorem lX7_214 : Ln RX7 214 yX6_readNumber := Or.inr ⟨"LastScale", tb_n 624 (by decide +kernel) (by decide +kernel)⟩
theorem lX7_217 : Ln RX7 217 yX6_pairsLeftOpen := Or.inr ⟨"LastScale", tb_n 628 (by decide +kernel) (by decide +kernel)⟩
theorem lX7_221 : Ln RX7 221 yX6_findExtreme := Or.inr ⟨"LastScale", tb_n 639 (by decide +kernel) (by decide +kernel)⟩
theorem lX7_231 : Ln RX7 231 yX0_copyFrom := Or.inr ⟨"LastScale", tb_n 660 (by decide +kernel) (by decide +kernel)⟩
theorem lX7_235 : Ln RX7 235 yX7_toldOfRow := Or.inl (tb_w 673 (by decide +kernel) (by decide +kernel))
theorem loX0_3 : Cond.methodLink RX0 3 objectInit ∈ TBL := tb_w 124 (by decide +kernel) (by decide +kernel)
theorem lX0_32 : Ln RX0 32 yX0_beginWith := Or.inl (tb_w 127 (by decide +kernel) (by decide +kernel))
theorem lX0_48 : Ln RX0 48 yX2_sackAt := Or.inr ⟨"LastScale", tb_n 329 (by decide +kernel) (by decide +kernel)⟩
theorem lX0_52 : Ln RX0 52 yX2_howAt := Or.inr ⟨"LastScale", tb_n 333 (by decide +kernel) (by decide +kernel)⟩
theorem lX0_55 : Ln RX0 55 yX0_addSaying := Or.inl (tb_w 337 (by decide +kernel) (by decide +kernel))
theorem laX0_59 : Cond.methodLink RX0 59 arraycopyName ∈ TBL := tb_w 664 (by decide +kernel) (by decide +kernel)
theorem loX1_3 : Cond.methodLink RX1 3 objectInit ∈ TBL := tb_w 226 (by decide +kernel) (by decide +kernel)
theorem lX1_26 : Ln RX1 26 yJ6_bitCount_0f7a4 := Or.inl (tb_w 610 (by decide +kernel) (by decide +kernel))
theorem lX1_32 : Ln RX1 32 yX4_read := Or.inr ⟨"LastScale", tb_n 611 (by decide +kernel) (by decide +kernel)⟩
theorem lX1_42 : Ln RX1 42 yX1_take := Or.inl (tb_w 612 (by decide +kernel) (by decide +kernel))
theorem loX2_3 : Cond.methodLink RX2 3 objectInit ∈ TBL := tb_w 108 (by decide +kernel) (by decide +kernel)
theorem lX2_19 : Ln RX2 19 yX2_mayStand := Or.inl (tb_w 317 (by decide +kernel) (by decide +kernel))
theorem loX3_3 : Cond.methodLink RX3 3 objectInit ∈ TBL := tb_w 490 (by decide +kernel) (by decide +kernel)
theorem lX3_9 : Ln RX3 9 yJ9_min_7cf53 := Or.inl (tb_w 491 (by decide +kernel) (by decide +kernel))
theorem lX3_15 : Ln RX3 15 yJ9_max_7cf53 := Or.inl (tb_w 492 (by decide +kernel) (by decide +kernel))
theorem lX3_34 : Ln RX3 34 yX3_pair := Or.inl (tb_w 538 (by decide +kernel) (by decide +kernel))
theorem lX3_37 : Ln RX3 37 yJ6_bitCount_0f7a4 := Or.inl (tb_w 529 (by decide +kernel) (by decide +kernel))
theorem lX3_43 : Ln RX3 43 yX3_isWhole := Or.inl (tb_w 525 (by decide +kernel) (by decide +kernel))
theorem lX3_47 : Ln RX3 47 yX3_costs := Or.inl (tb_w 530 (by decide +kernel) (by decide +kernel))
theorem lX3_50 : Ln RX3 50 yX3_costWith := Or.inl (tb_w 553 (by decide +kernel) (by decide +kernel))
theorem lX3_53 : Ln RX3 53 yX3_costOfLaying := Or.inl (tb_w 563 (by decide +kernel) (by decide +kernel))
theorem lX3_57 : Ln RX3 57 yX3_codeOf := Or.inl (tb_w 534 (by decide +kernel) (by decide +kernel))
theorem lX3_60 : Ln RX3 60 yX3_costsOfTelling := Or.inl (tb_w 539 (by decide +kernel) (by decide +kernel))
theorem lX3_63 : Ln RX3 63 yX3_withDetours := Or.inl (tb_w 559 (by decide +kernel) (by decide +kernel))
theorem lX3_66 : Ln RX3 66 yX3_isOpen := Or.inl (tb_w 543 (by decide +kernel) (by decide +kernel))
theorem lX3_70 : Ln RX3 70 yX3_joined := Or.inl (tb_w 546 (by decide +kernel) (by decide +kernel))
theorem lX3_73 : Ln RX3 73 yX3_worse := Or.inl (tb_w 550 (by decide +kernel) (by decide +kernel))
theorem lX3_76 : Ln RX3 76 yX3_withLess := Or.inl (tb_w 556 (by decide +kernel) (by decide +kernel))
theorem loX4_3 : Cond.methodLink RX4 3 objectInit ∈ TBL := tb_w 184 (by decide +kernel) (by decide +kernel)
theorem lX4_32 : Ln RX4 32 yX4_believe := Or.inl (tb_w 365 (by decide +kernel) (by decide +kernel))
theorem lX4_36 : Ln RX4 36 yX4_close := Or.inl (tb_w 369 (by decide +kernel) (by decide +kernel))
theorem lX4_39 : Ln RX4 39 yX4_findLeaders := Or.inl (tb_w 377 (by decide +kernel) (by decide +kernel))
theorem lX4_46 : Ln RX4 46 yX4_contradicts := Or.inl (tb_w 389 (by decide +kernel) (by decide +kernel))
theorem lX4_50 : Ln RX4 50 yX4_isNoLess := Or.inl (tb_w 373 (by decide +kernel) (by decide +kernel))
theorem lX4_54 : Ln RX4 54 yX4_isAlike := Or.inl (tb_w 385 (by decide +kernel) (by decide +kernel))
theorem lX4_57 : Ln RX4 57 yX4_against := Or.inl (tb_w 405 (by decide +kernel) (by decide +kernel))
theorem lX4_64 : Ln RX4 64 yX4_followsOneAlike := Or.inl (tb_w 381 (by decide +kernel) (by decide +kernel))
theorem lX4_68 : Ln RX4 68 yJ6_bitCount_0f7a4 := Or.inl (tb_w 410 (by decide +kernel) (by decide +kernel))
theorem lX4_74 : Ln RX4 74 yX4_isLeader := Or.inl (tb_w 431 (by decide +kernel) (by decide +kernel))
theorem lX4_77 : Ln RX4 77 yX4_isHeavier := Or.inl (tb_w 435 (by decide +kernel) (by decide +kernel))
theorem lX4_80 : Ln RX4 80 yX4_heavierLeaders := Or.inl (tb_w 427 (by decide +kernel) (by decide +kernel))
theorem lX4_83 : Ln RX4 83 yX4_groupCount := Or.inl (tb_w 443 (by decide +kernel) (by decide +kernel))
theorem lX4_87 : Ln RX4 87 yX4_waysToBegin := Or.inl (tb_w 452 (by decide +kernel) (by decide +kernel))
theorem loX5_3 : Cond.methodLink RX5 3 objectInit ∈ TBL := tb_w 208 (by decide +kernel) (by decide +kernel)
theorem laX5_23 : Cond.methodLink RX5 23 arraycopyName ∈ TBL := tb_w 587 (by decide +kernel) (by decide +kernel)
theorem lX5_47 : Ln RX5 47 yX5_hear := Or.inl (tb_w 590 (by decide +kernel) (by decide +kernel))
theorem lX5_54 : Ln RX5 54 yX5_allFit := Or.inl (tb_w 598 (by decide +kernel) (by decide +kernel))
theorem lX5_58 : Ln RX5 58 yX5_keepAbove := Or.inl (tb_w 594 (by decide +kernel) (by decide +kernel))
theorem loX6_3 : Cond.methodLink RX6 3 objectInit ∈ TBL := tb_w 245 (by decide +kernel) (by decide +kernel)
theorem lX6_19 : Ln RX6 19 yJ6_compare_7cf53 := Or.inl (tb_w 632 (by decide +kernel) (by decide +kernel))
theorem lX6_25 : Ln RX6 25 yX6_number := Or.inl (tb_w 643 (by decide +kernel) (by decide +kernel))
theorem lX6_32 : Ln RX6 32 yX6_pairsLeftOpen := Or.inl (tb_w 647 (by decide +kernel) (by decide +kernel))
theorem lX6_39 : Ln RX6 39 yX6_advance := Or.inl (tb_w 648 (by decide +kernel) (by decide +kernel))
theorem lX6_43 : Ln RX6 43 yX6_swap := Or.inl (tb_w 652 (by decide +kernel) (by decide +kernel))
theorem loX8_1 : Cond.methodLink RX8 1 objectInit ∈ TBL := tb_w 682 (by decide +kernel) (by decide +kernel)
theorem lX8_79 : Ln RX8 79 yX8_in := Or.inl (tb_w 771 (by decide +kernel) (by decide +kernel))
theorem lX8_89 : Ln RX8 89 yX8_isSack := Or.inl (tb_w 790 (by decide +kernel) (by decide +kernel))
theorem lX8_93 : Ln RX8 93 yX8_faultOf := Or.inl (tb_w 786 (by decide +kernel) (by decide +kernel))
theorem lX8_97 : Ln RX8 97 yX8_clear := Or.inl (tb_w 818 (by decide +kernel) (by decide +kernel))
theorem lX8_100 : Ln RX8 100 yX8_put := Or.inl (tb_w 822 (by decide +kernel) (by decide +kernel))
theorem lX8_104 : Ln RX8 104 yX8_close := Or.inl (tb_w 826 (by decide +kernel) (by decide +kernel))
theorem lX8_108 : Ln RX8 108 yX8_follow := Or.inl (tb_w 814 (by decide +kernel) (by decide +kernel))
theorem lX8_111 : Ln RX8 111 yX8_followAll := Or.inl (tb_w 810 (by decide +kernel) (by decide +kernel))
theorem lX8_114 : Ln RX8 114 yX8_isOpen := Or.inl (tb_w 842 (by decide +kernel) (by decide +kernel))
theorem lX8_121 : Ln RX8 121 yX8_layGroups := Or.inl (tb_w 834 (by decide +kernel) (by decide +kernel))
theorem lX8_124 : Ln RX8 124 yX8_openPairs := Or.inl (tb_w 838 (by decide +kernel) (by decide +kernel))
theorem lX8_127 : Ln RX8 127 yX8_rankOf := Or.inl (tb_w 850 (by decide +kernel) (by decide +kernel))
theorem lX8_131 : Ln RX8 131 yX8_paysOf := Or.inl (tb_w 866 (by decide +kernel) (by decide +kernel))
theorem lX8_136 : Ln RX8 136 yX8_slot := Or.inl (tb_w 882 (by decide +kernel) (by decide +kernel))
theorem lX8_142 : Ln RX8 142 yX8_isOver := Or.inl (tb_w 891 (by decide +kernel) (by decide +kernel))
theorem lX8_145 : Ln RX8 145 yX8_stand := Or.inl (tb_w 878 (by decide +kernel) (by decide +kernel))
theorem lX8_148 : Ln RX8 148 yX8_with := Or.inl (tb_w 898 (by decide +kernel) (by decide +kernel))
theorem lX8_152 : Ln RX8 152 yX8_isWhole := Or.inl (tb_w 887 (by decide +kernel) (by decide +kernel))
theorem lX8_155 : Ln RX8 155 yX8_laid := Or.inl (tb_w 894 (by decide +kernel) (by decide +kernel))
theorem lX8_158 : Ln RX8 158 yX8_does := Or.inl (tb_w 906 (by decide +kernel) (by decide +kernel))
theorem lX8_161 : Ln RX8 161 yX8_layStands := Or.inl (tb_w 874 (by decide +kernel) (by decide +kernel))
theorem lX8_165 : Ln RX8 165 yX8_layValues := Or.inl (tb_w 902 (by decide +kernel) (by decide +kernel))
theorem lX8_171 : Ln RX8 171 yX8_canSpan := Or.inl (tb_w 926 (by decide +kernel) (by decide +kernel))
theorem lX8_174 : Ln RX8 174 yX8_press := Or.inl (tb_w 930 (by decide +kernel) (by decide +kernel))
theorem lX8_177 : Ln RX8 177 yX8_laySpans := Or.inl (tb_w 922 (by decide +kernel) (by decide +kernel))
theorem lX8_180 : Ln RX8 180 yX8_bits := Or.inl (tb_w 938 (by decide +kernel) (by decide +kernel))
theorem lX8_184 : Ln RX8 184 yX8_layOrder := Or.inl (tb_w 949 (by decide +kernel) (by decide +kernel))
theorem lX8_187 : Ln RX8 187 yX8_leftOpen := Or.inl (tb_w 953 (by decide +kernel) (by decide +kernel))
theorem w_aI : Cond.arrayClass .int ∈ TBL := tb_w 118 (by decide +kernel) (by decide +kernel)
theorem w_aZ : Cond.arrayClass .boolean ∈ TBL := tb_w 766 (by decide +kernel) (by decide +kernel)
theorem w_oI : Cond.arrayOver (.array .int) ∈ NST := tb_n 126 (by decide +kernel) (by decide +kernel)
theorem w_oB : Cond.arrayOver (.object "LastScale$Book") ∈ NST := tb_n 178 (by decide +kernel) (by decide +kernel)
theorem w_oP : Cond.arrayOver (.object "LastScale$Planner") ∈ NST := tb_n 262 (by decide +kernel) (by decide +kernel)
theorem w_sysi : Cond.initialized "java/lang/System" ∈ TBL := tb_w 94 (by decide +kernel) (by decide +kernel)
theorem w_acs : Cond.static arraycopyName ∈ TBL := tb_w 588 (by decide +kernel) (by decide +kernel)
theorem w_acn : Cond.native arraycopyName ∈ TBL := tb_w 589 (by decide +kernel) (by decide +kernel)
theorem w_obi : Cond.instanceMethod objectInit ∈ TBL := tb_w 101 (by decide +kernel) (by decide +kernel)
theorem w_obc : Cond.code objectInit ⟨#[0xb1]⟩ 1 none ∈ TBL := tb_w 102 (by decide +kernel) (by decide +kernel)
theorem isX7 : Cond.instantiable RX7 8 ∈ TBL := tb_w 96 (by decide +kernel) (by decide +kernel)
theorem clX7_7 : Cond.classLink RX7 7 "LastScale$Pad" ∈ TBL := tb_w 103 (by decide +kernel) (by decide +kernel)
theorem isX2 : Cond.instantiable RX2 2 ∈ TBL := tb_w 104 (by decide +kernel) (by decide +kernel)
theorem clX7_16 : Cond.classLink RX7 16 "LastScale$Book" ∈ TBL := tb_w 119 (by decide +kernel) (by decide +kernel)
theorem isX0 : Cond.instantiable RX0 9 ∈ TBL := tb_w 120 (by decide +kernel) (by decide +kernel)
theorem clX0_9 : Cond.classLink RX0 9 "[[I" ∈ TBL := tb_w 125 (by decide +kernel) (by decide +kernel)
theorem clX7_27 : Cond.classLink RX7 27 "LastScale$Relation" ∈ TBL := tb_w 179 (by decide +kernel) (by decide +kernel)
theorem isX4 : Cond.instantiable RX4 5 ∈ TBL := tb_w 180 (by decide +kernel) (by decide +kernel)
theorem clX7_34 : Cond.classLink RX7 34 "LastScale$Spans" ∈ TBL := tb_w 203 (by decide +kernel) (by decide +kernel)
theorem isX5 : Cond.instantiable RX5 3 ∈ TBL := tb_w 204 (by decide +kernel) (by decide +kernel)
theorem clX7_41 : Cond.classLink RX7 41 "LastScale$FalseSayings" ∈ TBL := tb_w 221 (by decide +kernel) (by decide +kernel)
theorem isX1 : Cond.instantiable RX1 3 ∈ TBL := tb_w 222 (by decide +kernel) (by decide +kernel)
theorem clX7_48 : Cond.classLink RX7 48 "LastScale$WeighedLine" ∈ TBL := tb_w 240 (by decide +kernel) (by decide +kernel)
theorem isX6 : Cond.instantiable RX6 4 ∈ TBL := tb_w 241 (by decide +kernel) (by decide +kernel)
theorem clX7_55 : Cond.classLink RX7 55 "LastScale$Planner" ∈ TBL := tb_w 261 (by decide +kernel) (by decide +kernel)
theorem kJ6_265 : Cond.constant RJ6 265 (Int32.ofInt 1431655765) ∈ TBL := tb_w 413 (by decide +kernel) (by decide +kernel)
theorem kJ6_266 : Cond.constant RJ6 266 (Int32.ofInt 858993459) ∈ TBL := tb_w 414 (by decide +kernel) (by decide +kernel)
theorem kJ6_267 : Cond.constant RJ6 267 (Int32.ofInt 252645135) ∈ TBL := tb_w 415 (by decide +kernel) (by decide +kernel)
theorem isX3 : Cond.instantiable RX3 3 ∈ TBL := tb_w 486 (by decide +kernel) (by decide +kernel)
theorem isX8 : Cond.instantiable RX8 27 ∈ TBL := tb_w 678 (by decide +kernel) (by decide +kernel)
theorem kX8_60 : Cond.constant RX8 60 (Int32.ofInt 65536) ∈ TBL := tb_w 683 (by decide +kernel) (by decide +kernel)
theorem kX8_134 : Cond.constant RX8 134 (Int32.ofInt 40503) ∈ TBL := tb_w 885 (by decide +kernel) (by decide +kernel)
theorem kX8_135 : Cond.constant RX8 135 (Int32.ofInt 65535) ∈ TBL := tb_w 886 (by decide +kernel) (by decide +kernel)
theorem stX3_27 : Cond.fieldLink RX3 27 "LastScale$Planner" "CODES" "[I" ∈ TBL := tb_w 493 (by decide +kernel) (by decide +kernel)
theorem ini0 : Cond.initialized RX0 ∈ TBL := tb_w 85 (by decide +kernel) (by decide +kernel)
theorem ini1 : Cond.initialized RX1 ∈ TBL := tb_w 88 (by decide +kernel) (by decide +kernel)
theorem ini2 : Cond.initialized RX2 ∈ TBL := tb_w 84 (by decide +kernel) (by decide +kernel)
theorem ini3 : Cond.initialized RX3 ∈ TBL := tb_w 93 (by decide +kernel) (by decide +kernel)
theorem ini4 : Cond.initialized RX4 ∈ TBL := tb_w 86 (by decide +kernel) (by decide +kernel)
theorem ini5 : Cond.initialized RX5 ∈ TBL := tb_w 87 (by decide +kernel) (by decide +kernel)
theorem ini6 : Cond.initialized RX6 ∈ TBL := tb_w 89 (by decide +kernel) (by decide +kernel)
theorem ini7 : Cond.initialized RX7 ∈ TBL := tb_w 83 (by decide +kernel) (by decide +kernel)
theorem ini8 : Cond.initialized RX8 ∈ TBL := tb_w 90 (by decide +kernel) (by decide +kernel)
