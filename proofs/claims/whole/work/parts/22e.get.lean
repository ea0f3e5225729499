/-! the calls that only look -/
theorem li_0_1 : ((0 : Int32) = 1) = False := eq_false (by decide)
theorem li_0_2 : ((0 : Int32) = 2) = False := eq_false (by decide)
theorem li_0_3 : ((0 : Int32) = 3) = False := eq_false (by decide)
theorem li_0_4 : ((0 : Int32) = 4) = False := eq_false (by decide)
theorem li_0_5 : ((0 : Int32) = 5) = False := eq_false (by decide)
theorem li_0_6 : ((0 : Int32) = 6) = False := eq_false (by decide)
theorem li_0_7 : ((0 : Int32) = 7) = False := eq_false (by decide)
theorem li_0_8 : ((0 : Int32) = 8) = False := eq_false (by decide)
theorem li_0_9 : ((0 : Int32) = 9) = False := eq_false (by decide)
theorem li_0_10 : ((0 : Int32) = 10) = False := eq_false (by decide)
theorem li_0_11 : ((0 : Int32) = 11) = False := eq_false (by decide)
theorem li_0_12 : ((0 : Int32) = 12) = False := eq_false (by decide)
theorem li_0_13 : ((0 : Int32) = 13) = False := eq_false (by decide)
theorem li_0_14 : ((0 : Int32) = 14) = False := eq_false (by decide)
theorem li_0_15 : ((0 : Int32) = 15) = False := eq_false (by decide)
theorem li_0_16 : ((0 : Int32) = 16) = False := eq_false (by decide)
theorem li_0_17 : ((0 : Int32) = 17) = False := eq_false (by decide)
theorem li_0_18 : ((0 : Int32) = 18) = False := eq_false (by decide)
theorem li_1_0 : ((1 : Int32) = 0) = False := eq_false (by decide)
theorem li_1_2 : ((1 : Int32) = 2) = False := eq_false (by decide)
theorem li_1_3 : ((1 : Int32) = 3) = False := eq_false (by decide)
theorem li_1_4 : ((1 : Int32) = 4) = False := eq_false (by decide)
theorem li_1_5 : ((1 : Int32) = 5) = False := eq_false (by decide)
theorem li_1_6 : ((1 : Int32) = 6) = False := eq_false (by decide)
theorem li_1_7 : ((1 : Int32) = 7) = False := eq_false (by decide)
theorem li_1_8 : ((1 : Int32) = 8) = False := eq_false (by decide)
theorem li_1_9 : ((1 : Int32) = 9) = False := eq_false (by decide)
theorem li_1_10 : ((1 : Int32) = 10) = False := eq_false (by decide)
theorem li_1_11 : ((1 : Int32) = 11) = False := eq_false (by decide)
theorem li_1_12 : ((1 : Int32) = 12) = False := eq_false (by decide)
theorem li_1_13 : ((1 : Int32) = 13) = False := eq_false (by decide)
theorem li_1_14 : ((1 : Int32) = 14) = False := eq_false (by decide)
theorem li_1_15 : ((1 : Int32) = 15) = False := eq_false (by decide)
theorem li_1_16 : ((1 : Int32) = 16) = False := eq_false (by decide)
theorem li_1_17 : ((1 : Int32) = 17) = False := eq_false (by decide)
theorem li_1_18 : ((1 : Int32) = 18) = False := eq_false (by decide)
theorem li_2_0 : ((2 : Int32) = 0) = False := eq_false (by decide)
theorem li_2_1 : ((2 : Int32) = 1) = False := eq_false (by decide)
theorem li_2_3 : ((2 : Int32) = 3) = False := eq_false (by decide)
theorem li_2_4 : ((2 : Int32) = 4) = False := eq_false (by decide)
theorem li_2_5 : ((2 : Int32) = 5) = False := eq_false (by decide)
theorem li_2_6 : ((2 : Int32) = 6) = False := eq_false (by decide)
theorem li_2_7 : ((2 : Int32) = 7) = False := eq_false (by decide)
theorem li_2_8 : ((2 : Int32) = 8) = False := eq_false (by decide)
theorem li_2_9 : ((2 : Int32) = 9) = False := eq_false (by decide)
theorem li_2_10 : ((2 : Int32) = 10) = False := eq_false (by decide)
theorem li_2_11 : ((2 : Int32) = 11) = False := eq_false (by decide)
theorem li_2_12 : ((2 : Int32) = 12) = False := eq_false (by decide)
theorem li_2_13 : ((2 : Int32) = 13) = False := eq_false (by decide)
theorem li_2_14 : ((2 : Int32) = 14) = False := eq_false (by decide)
theorem li_2_15 : ((2 : Int32) = 15) = False := eq_false (by decide)
theorem li_2_16 : ((2 : Int32) = 16) = False := eq_false (by decide)
theorem li_2_17 : ((2 : Int32) = 17) = False := eq_false (by decide)
theorem li_2_18 : ((2 : Int32) = 18) = False := eq_false (by decide)
theorem li_3_0 : ((3 : Int32) = 0) = False := eq_false (by decide)
theorem li_3_1 : ((3 : Int32) = 1) = False := eq_false (by decide)
theorem li_3_2 : ((3 : Int32) = 2) = False := eq_false (by decide)
theorem li_3_4 : ((3 : Int32) = 4) = False := eq_false (by decide)
theorem li_3_5 : ((3 : Int32) = 5) = False := eq_false (by decide)
theorem li_3_6 : ((3 : Int32) = 6) = False := eq_false (by decide)
theorem li_3_7 : ((3 : Int32) = 7) = False := eq_false (by decide)
theorem li_3_8 : ((3 : Int32) = 8) = False := eq_false (by decide)
theorem li_3_9 : ((3 : Int32) = 9) = False := eq_false (by decide)
theorem li_3_10 : ((3 : Int32) = 10) = False := eq_false (by decide)
theorem li_3_11 : ((3 : Int32) = 11) = False := eq_false (by decide)
theorem li_3_12 : ((3 : Int32) = 12) = False := eq_false (by decide)
theorem li_3_13 : ((3 : Int32) = 13) = False := eq_false (by decide)
theorem li_3_14 : ((3 : Int32) = 14) = False := eq_false (by decide)
theorem li_3_15 : ((3 : Int32) = 15) = False := eq_false (by decide)
theorem li_3_16 : ((3 : Int32) = 16) = False := eq_false (by decide)
theorem li_3_17 : ((3 : Int32) = 17) = False := eq_false (by decide)
theorem li_3_18 : ((3 : Int32) = 18) = False := eq_false (by decide)
theorem li_4_0 : ((4 : Int32) = 0) = False := eq_false (by decide)
theorem li_4_1 : ((4 : Int32) = 1) = False := eq_false (by decide)
theorem li_4_2 : ((4 : Int32) = 2) = False := eq_false (by decide)
theorem li_4_3 : ((4 : Int32) = 3) = False := eq_false (by decide)
theorem li_4_5 : ((4 : Int32) = 5) = False := eq_false (by decide)
theorem li_4_6 : ((4 : Int32) = 6) = False := eq_false (by decide)
theorem li_4_7 : ((4 : Int32) = 7) = False := eq_false (by decide)
theorem li_4_8 : ((4 : Int32) = 8) = False := eq_false (by decide)
theorem li_4_9 : ((4 : Int32) = 9) = False := eq_false (by decide)
theorem li_4_10 : ((4 : Int32) = 10) = False := eq_false (by decide)
theorem li_4_11 : ((4 : Int32) = 11) = False := eq_false (by decide)
theorem li_4_12 : ((4 : Int32) = 12) = False := eq_false (by decide)
theorem li_4_13 : ((4 : Int32) = 13) = False := eq_false (by decide)
theorem li_4_14 : ((4 : Int32) = 14) = False := eq_false (by decide)
theorem li_4_15 : ((4 : Int32) = 15) = False := eq_false (by decide)
theorem li_4_16 : ((4 : Int32) = 16) = False := eq_false (by decide)
theorem li_4_17 : ((4 : Int32) = 17) = False := eq_false (by decide)
theorem li_4_18 : ((4 : Int32) = 18) = False := eq_false (by decide)
theorem li_5_0 : ((5 : Int32) = 0) = False := eq_false (by decide)
theorem li_5_1 : ((5 : Int32) = 1) = False := eq_false (by decide)
theorem li_5_2 : ((5 : Int32) = 2) = False := eq_false (by decide)
theorem li_5_3 : ((5 : Int32) = 3) = False := eq_false (by decide)
theorem li_5_4 : ((5 : Int32) = 4) = False := eq_false (by decide)
theorem li_5_6 : ((5 : Int32) = 6) = False := eq_false (by decide)
theorem li_5_7 : ((5 : Int32) = 7) = False := eq_false (by decide)
theorem li_5_8 : ((5 : Int32) = 8) = False := eq_false (by decide)
theorem li_5_9 : ((5 : Int32) = 9) = False := eq_false (by decide)
theorem li_5_10 : ((5 : Int32) = 10) = False := eq_false (by decide)
theorem li_5_11 : ((5 : Int32) = 11) = False := eq_false (by decide)
theorem li_5_12 : ((5 : Int32) = 12) = False := eq_false (by decide)
theorem li_5_13 : ((5 : Int32) = 13) = False := eq_false (by decide)
theorem li_5_14 : ((5 : Int32) = 14) = False := eq_false (by decide)
theorem li_5_15 : ((5 : Int32) = 15) = False := eq_false (by decide)
theorem li_5_16 : ((5 : Int32) = 16) = False := eq_false (by decide)
theorem li_5_17 : ((5 : Int32) = 17) = False := eq_false (by decide)
theorem li_5_18 : ((5 : Int32) = 18) = False := eq_false (by decide)
theorem li_6_0 : ((6 : Int32) = 0) = False := eq_false (by decide)
theorem li_6_1 : ((6 : Int32) = 1) = False := eq_false (by decide)
theorem li_6_2 : ((6 : Int32) = 2) = False := eq_false (by decide)
theorem li_6_3 : ((6 : Int32) = 3) = False := eq_false (by decide)
theorem li_6_4 : ((6 : Int32) = 4) = False := eq_false (by decide)
theorem li_6_5 : ((6 : Int32) = 5) = False := eq_false (by decide)
theorem li_6_7 : ((6 : Int32) = 7) = False := eq_false (by decide)
theorem li_6_8 : ((6 : Int32) = 8) = False := eq_false (by decide)
theorem li_6_9 : ((6 : Int32) = 9) = False := eq_false (by decide)
theorem li_6_10 : ((6 : Int32) = 10) = False := eq_false (by decide)
theorem li_6_11 : ((6 : Int32) = 11) = False := eq_false (by decide)
theorem li_6_12 : ((6 : Int32) = 12) = False := eq_false (by decide)
theorem li_6_13 : ((6 : Int32) = 13) = False := eq_false (by decide)
theorem li_6_14 : ((6 : Int32) = 14) = False := eq_false (by decide)
theorem li_6_15 : ((6 : Int32) = 15) = False := eq_false (by decide)
theorem li_6_16 : ((6 : Int32) = 16) = False := eq_false (by decide)
theorem li_6_17 : ((6 : Int32) = 17) = False := eq_false (by decide)
theorem li_6_18 : ((6 : Int32) = 18) = False := eq_false (by decide)
theorem li_7_0 : ((7 : Int32) = 0) = False := eq_false (by decide)
theorem li_7_1 : ((7 : Int32) = 1) = False := eq_false (by decide)
theorem li_7_2 : ((7 : Int32) = 2) = False := eq_false (by decide)
theorem li_7_3 : ((7 : Int32) = 3) = False := eq_false (by decide)
theorem li_7_4 : ((7 : Int32) = 4) = False := eq_false (by decide)
theorem li_7_5 : ((7 : Int32) = 5) = False := eq_false (by decide)
theorem li_7_6 : ((7 : Int32) = 6) = False := eq_false (by decide)
theorem li_7_8 : ((7 : Int32) = 8) = False := eq_false (by decide)
theorem li_7_9 : ((7 : Int32) = 9) = False := eq_false (by decide)
theorem li_7_10 : ((7 : Int32) = 10) = False := eq_false (by decide)
theorem li_7_11 : ((7 : Int32) = 11) = False := eq_false (by decide)
theorem li_7_12 : ((7 : Int32) = 12) = False := eq_false (by decide)
theorem li_7_13 : ((7 : Int32) = 13) = False := eq_false (by decide)
theorem li_7_14 : ((7 : Int32) = 14) = False := eq_false (by decide)
theorem li_7_15 : ((7 : Int32) = 15) = False := eq_false (by decide)
theorem li_7_16 : ((7 : Int32) = 16) = False := eq_false (by decide)
theorem li_7_17 : ((7 : Int32) = 17) = False := eq_false (by decide)
theorem li_7_18 : ((7 : Int32) = 18) = False := eq_false (by decide)
theorem li_8_0 : ((8 : Int32) = 0) = False := eq_false (by decide)
theorem li_8_1 : ((8 : Int32) = 1) = False := eq_false (by decide)
theorem li_8_2 : ((8 : Int32) = 2) = False := eq_false (by decide)
theorem li_8_3 : ((8 : Int32) = 3) = False := eq_false (by decide)
theorem li_8_4 : ((8 : Int32) = 4) = False := eq_false (by decide)
theorem li_8_5 : ((8 : Int32) = 5) = False := eq_false (by decide)
theorem li_8_6 : ((8 : Int32) = 6) = False := eq_false (by decide)
theorem li_8_7 : ((8 : Int32) = 7) = False := eq_false (by decide)
theorem li_8_9 : ((8 : Int32) = 9) = False := eq_false (by decide)
theorem li_8_10 : ((8 : Int32) = 10) = False := eq_false (by decide)
theorem li_8_11 : ((8 : Int32) = 11) = False := eq_false (by decide)
theorem li_8_12 : ((8 : Int32) = 12) = False := eq_false (by decide)
theorem li_8_13 : ((8 : Int32) = 13) = False := eq_false (by decide)
theorem li_8_14 : ((8 : Int32) = 14) = False := eq_false (by decide)
theorem li_8_15 : ((8 : Int32) = 15) = False := eq_false (by decide)
theorem li_8_16 : ((8 : Int32) = 16) = False := eq_false (by decide)
theorem li_8_17 : ((8 : Int32) = 17) = False := eq_false (by decide)
theorem li_8_18 : ((8 : Int32) = 18) = False := eq_false (by decide)
theorem li_9_0 : ((9 : Int32) = 0) = False := eq_false (by decide)
theorem li_9_1 : ((9 : Int32) = 1) = False := eq_false (by decide)
theorem li_9_2 : ((9 : Int32) = 2) = False := eq_false (by decide)
theorem li_9_3 : ((9 : Int32) = 3) = False := eq_false (by decide)
theorem li_9_4 : ((9 : Int32) = 4) = False := eq_false (by decide)
theorem li_9_5 : ((9 : Int32) = 5) = False := eq_false (by decide)
theorem li_9_6 : ((9 : Int32) = 6) = False := eq_false (by decide)
theorem li_9_7 : ((9 : Int32) = 7) = False := eq_false (by decide)
theorem li_9_8 : ((9 : Int32) = 8) = False := eq_false (by decide)
theorem li_9_10 : ((9 : Int32) = 10) = False := eq_false (by decide)
theorem li_9_11 : ((9 : Int32) = 11) = False := eq_false (by decide)
theorem li_9_12 : ((9 : Int32) = 12) = False := eq_false (by decide)
theorem li_9_13 : ((9 : Int32) = 13) = False := eq_false (by decide)
theorem li_9_14 : ((9 : Int32) = 14) = False := eq_false (by decide)
theorem li_9_15 : ((9 : Int32) = 15) = False := eq_false (by decide)
theorem li_9_16 : ((9 : Int32) = 16) = False := eq_false (by decide)
theorem li_9_17 : ((9 : Int32) = 17) = False := eq_false (by decide)
theorem li_9_18 : ((9 : Int32) = 18) = False := eq_false (by decide)
theorem li_10_0 : ((10 : Int32) = 0) = False := eq_false (by decide)
theorem li_10_1 : ((10 : Int32) = 1) = False := eq_false (by decide)
theorem li_10_2 : ((10 : Int32) = 2) = False := eq_false (by decide)
theorem li_10_3 : ((10 : Int32) = 3) = False := eq_false (by decide)
theorem li_10_4 : ((10 : Int32) = 4) = False := eq_false (by decide)
theorem li_10_5 : ((10 : Int32) = 5) = False := eq_false (by decide)
theorem li_10_6 : ((10 : Int32) = 6) = False := eq_false (by decide)
theorem li_10_7 : ((10 : Int32) = 7) = False := eq_false (by decide)
theorem li_10_8 : ((10 : Int32) = 8) = False := eq_false (by decide)
theorem li_10_9 : ((10 : Int32) = 9) = False := eq_false (by decide)
theorem li_10_11 : ((10 : Int32) = 11) = False := eq_false (by decide)
theorem li_10_12 : ((10 : Int32) = 12) = False := eq_false (by decide)
theorem li_10_13 : ((10 : Int32) = 13) = False := eq_false (by decide)
theorem li_10_14 : ((10 : Int32) = 14) = False := eq_false (by decide)
theorem li_10_15 : ((10 : Int32) = 15) = False := eq_false (by decide)
theorem li_10_16 : ((10 : Int32) = 16) = False := eq_false (by decide)
theorem li_10_17 : ((10 : Int32) = 17) = False := eq_false (by decide)
theorem li_10_18 : ((10 : Int32) = 18) = False := eq_false (by decide)
theorem li_11_0 : ((11 : Int32) = 0) = False := eq_false (by decide)
theorem li_11_1 : ((11 : Int32) = 1) = False := eq_false (by decide)
theorem li_11_2 : ((11 : Int32) = 2) = False := eq_false (by decide)
theorem li_11_3 : ((11 : Int32) = 3) = False := eq_false (by decide)
theorem li_11_4 : ((11 : Int32) = 4) = False := eq_false (by decide)
theorem li_11_5 : ((11 : Int32) = 5) = False := eq_false (by decide)
theorem li_11_6 : ((11 : Int32) = 6) = False := eq_false (by decide)
theorem li_11_7 : ((11 : Int32) = 7) = False := eq_false (by decide)
theorem li_11_8 : ((11 : Int32) = 8) = False := eq_false (by decide)
theorem li_11_9 : ((11 : Int32) = 9) = False := eq_false (by decide)
theorem li_11_10 : ((11 : Int32) = 10) = False := eq_false (by decide)
theorem li_11_12 : ((11 : Int32) = 12) = False := eq_false (by decide)
theorem li_11_13 : ((11 : Int32) = 13) = False := eq_false (by decide)
theorem li_11_14 : ((11 : Int32) = 14) = False := eq_false (by decide)
theorem li_11_15 : ((11 : Int32) = 15) = False := eq_false (by decide)
theorem li_11_16 : ((11 : Int32) = 16) = False := eq_false (by decide)
theorem li_11_17 : ((11 : Int32) = 17) = False := eq_false (by decide)
theorem li_11_18 : ((11 : Int32) = 18) = False := eq_false (by decide)
theorem li_12_0 : ((12 : Int32) = 0) = False := eq_false (by decide)
theorem li_12_1 : ((12 : Int32) = 1) = False := eq_false (by decide)
theorem li_12_2 : ((12 : Int32) = 2) = False := eq_false (by decide)
theorem li_12_3 : ((12 : Int32) = 3) = False := eq_false (by decide)
theorem li_12_4 : ((12 : Int32) = 4) = False := eq_false (by decide)
theorem li_12_5 : ((12 : Int32) = 5) = False := eq_false (by decide)
theorem li_12_6 : ((12 : Int32) = 6) = False := eq_false (by decide)
theorem li_12_7 : ((12 : Int32) = 7) = False := eq_false (by decide)
theorem li_12_8 : ((12 : Int32) = 8) = False := eq_false (by decide)
theorem li_12_9 : ((12 : Int32) = 9) = False := eq_false (by decide)
theorem li_12_10 : ((12 : Int32) = 10) = False := eq_false (by decide)
theorem li_12_11 : ((12 : Int32) = 11) = False := eq_false (by decide)
theorem li_12_13 : ((12 : Int32) = 13) = False := eq_false (by decide)
theorem li_12_14 : ((12 : Int32) = 14) = False := eq_false (by decide)
theorem li_12_15 : ((12 : Int32) = 15) = False := eq_false (by decide)
theorem li_12_16 : ((12 : Int32) = 16) = False := eq_false (by decide)
theorem li_12_17 : ((12 : Int32) = 17) = False := eq_false (by decide)
theorem li_12_18 : ((12 : Int32) = 18) = False := eq_false (by decide)
theorem li_13_0 : ((13 : Int32) = 0) = False := eq_false (by decide)
theorem li_13_1 : ((13 : Int32) = 1) = False := eq_false (by decide)
theorem li_13_2 : ((13 : Int32) = 2) = False := eq_false (by decide)
theorem li_13_3 : ((13 : Int32) = 3) = False := eq_false (by decide)
theorem li_13_4 : ((13 : Int32) = 4) = False := eq_false (by decide)
theorem li_13_5 : ((13 : Int32) = 5) = False := eq_false (by decide)
theorem li_13_6 : ((13 : Int32) = 6) = False := eq_false (by decide)
theorem li_13_7 : ((13 : Int32) = 7) = False := eq_false (by decide)
theorem li_13_8 : ((13 : Int32) = 8) = False := eq_false (by decide)
theorem li_13_9 : ((13 : Int32) = 9) = False := eq_false (by decide)
theorem li_13_10 : ((13 : Int32) = 10) = False := eq_false (by decide)
theorem li_13_11 : ((13 : Int32) = 11) = False := eq_false (by decide)
theorem li_13_12 : ((13 : Int32) = 12) = False := eq_false (by decide)
theorem li_13_14 : ((13 : Int32) = 14) = False := eq_false (by decide)
theorem li_13_15 : ((13 : Int32) = 15) = False := eq_false (by decide)
theorem li_13_16 : ((13 : Int32) = 16) = False := eq_false (by decide)
theorem li_13_17 : ((13 : Int32) = 17) = False := eq_false (by decide)
theorem li_13_18 : ((13 : Int32) = 18) = False := eq_false (by decide)
theorem li_14_0 : ((14 : Int32) = 0) = False := eq_false (by decide)
theorem li_14_1 : ((14 : Int32) = 1) = False := eq_false (by decide)
theorem li_14_2 : ((14 : Int32) = 2) = False := eq_false (by decide)
theorem li_14_3 : ((14 : Int32) = 3) = False := eq_false (by decide)
theorem li_14_4 : ((14 : Int32) = 4) = False := eq_false (by decide)
theorem li_14_5 : ((14 : Int32) = 5) = False := eq_false (by decide)
theorem li_14_6 : ((14 : Int32) = 6) = False := eq_false (by decide)
theorem li_14_7 : ((14 : Int32) = 7) = False := eq_false (by decide)
theorem li_14_8 : ((14 : Int32) = 8) = False := eq_false (by decide)
theorem li_14_9 : ((14 : Int32) = 9) = False := eq_false (by decide)
theorem li_14_10 : ((14 : Int32) = 10) = False := eq_false (by decide)
theorem li_14_11 : ((14 : Int32) = 11) = False := eq_false (by decide)
theorem li_14_12 : ((14 : Int32) = 12) = False := eq_false (by decide)
theorem li_14_13 : ((14 : Int32) = 13) = False := eq_false (by decide)
theorem li_14_15 : ((14 : Int32) = 15) = False := eq_false (by decide)
theorem li_14_16 : ((14 : Int32) = 16) = False := eq_false (by decide)
theorem li_14_17 : ((14 : Int32) = 17) = False := eq_false (by decide)
theorem li_14_18 : ((14 : Int32) = 18) = False := eq_false (by decide)
theorem li_15_0 : ((15 : Int32) = 0) = False := eq_false (by decide)
theorem li_15_1 : ((15 : Int32) = 1) = False := eq_false (by decide)
theorem li_15_2 : ((15 : Int32) = 2) = False := eq_false (by decide)
theorem li_15_3 : ((15 : Int32) = 3) = False := eq_false (by decide)
theorem li_15_4 : ((15 : Int32) = 4) = False := eq_false (by decide)
theorem li_15_5 : ((15 : Int32) = 5) = False := eq_false (by decide)
theorem li_15_6 : ((15 : Int32) = 6) = False := eq_false (by decide)
theorem li_15_7 : ((15 : Int32) = 7) = False := eq_false (by decide)
theorem li_15_8 : ((15 : Int32) = 8) = False := eq_false (by decide)
theorem li_15_9 : ((15 : Int32) = 9) = False := eq_false (by decide)
theorem li_15_10 : ((15 : Int32) = 10) = False := eq_false (by decide)
theorem li_15_11 : ((15 : Int32) = 11) = False := eq_false (by decide)
theorem li_15_12 : ((15 : Int32) = 12) = False := eq_false (by decide)
theorem li_15_13 : ((15 : Int32) = 13) = False := eq_false (by decide)
theorem li_15_14 : ((15 : Int32) = 14) = False := eq_false (by decide)
theorem li_15_16 : ((15 : Int32) = 16) = False := eq_false (by decide)
theorem li_15_17 : ((15 : Int32) = 17) = False := eq_false (by decide)
theorem li_15_18 : ((15 : Int32) = 18) = False := eq_false (by decide)
theorem li_16_0 : ((16 : Int32) = 0) = False := eq_false (by decide)
theorem li_16_1 : ((16 : Int32) = 1) = False := eq_false (by decide)
theorem li_16_2 : ((16 : Int32) = 2) = False := eq_false (by decide)
theorem li_16_3 : ((16 : Int32) = 3) = False := eq_false (by decide)
theorem li_16_4 : ((16 : Int32) = 4) = False := eq_false (by decide)
theorem li_16_5 : ((16 : Int32) = 5) = False := eq_false (by decide)
theorem li_16_6 : ((16 : Int32) = 6) = False := eq_false (by decide)
theorem li_16_7 : ((16 : Int32) = 7) = False := eq_false (by decide)
theorem li_16_8 : ((16 : Int32) = 8) = False := eq_false (by decide)
theorem li_16_9 : ((16 : Int32) = 9) = False := eq_false (by decide)
theorem li_16_10 : ((16 : Int32) = 10) = False := eq_false (by decide)
theorem li_16_11 : ((16 : Int32) = 11) = False := eq_false (by decide)
theorem li_16_12 : ((16 : Int32) = 12) = False := eq_false (by decide)
theorem li_16_13 : ((16 : Int32) = 13) = False := eq_false (by decide)
theorem li_16_14 : ((16 : Int32) = 14) = False := eq_false (by decide)
theorem li_16_15 : ((16 : Int32) = 15) = False := eq_false (by decide)
theorem li_16_17 : ((16 : Int32) = 17) = False := eq_false (by decide)
theorem li_16_18 : ((16 : Int32) = 18) = False := eq_false (by decide)
theorem li_17_0 : ((17 : Int32) = 0) = False := eq_false (by decide)
theorem li_17_1 : ((17 : Int32) = 1) = False := eq_false (by decide)
theorem li_17_2 : ((17 : Int32) = 2) = False := eq_false (by decide)
theorem li_17_3 : ((17 : Int32) = 3) = False := eq_false (by decide)
theorem li_17_4 : ((17 : Int32) = 4) = False := eq_false (by decide)
theorem li_17_5 : ((17 : Int32) = 5) = False := eq_false (by decide)
theorem li_17_6 : ((17 : Int32) = 6) = False := eq_false (by decide)
theorem li_17_7 : ((17 : Int32) = 7) = False := eq_false (by decide)
theorem li_17_8 : ((17 : Int32) = 8) = False := eq_false (by decide)
theorem li_17_9 : ((17 : Int32) = 9) = False := eq_false (by decide)
theorem li_17_10 : ((17 : Int32) = 10) = False := eq_false (by decide)
theorem li_17_11 : ((17 : Int32) = 11) = False := eq_false (by decide)
theorem li_17_12 : ((17 : Int32) = 12) = False := eq_false (by decide)
theorem li_17_13 : ((17 : Int32) = 13) = False := eq_false (by decide)
theorem li_17_14 : ((17 : Int32) = 14) = False := eq_false (by decide)
theorem li_17_15 : ((17 : Int32) = 15) = False := eq_false (by decide)
theorem li_17_16 : ((17 : Int32) = 16) = False := eq_false (by decide)
theorem li_17_18 : ((17 : Int32) = 18) = False := eq_false (by decide)
theorem li_18_0 : ((18 : Int32) = 0) = False := eq_false (by decide)
theorem li_18_1 : ((18 : Int32) = 1) = False := eq_false (by decide)
theorem li_18_2 : ((18 : Int32) = 2) = False := eq_false (by decide)
theorem li_18_3 : ((18 : Int32) = 3) = False := eq_false (by decide)
theorem li_18_4 : ((18 : Int32) = 4) = False := eq_false (by decide)
theorem li_18_5 : ((18 : Int32) = 5) = False := eq_false (by decide)
theorem li_18_6 : ((18 : Int32) = 6) = False := eq_false (by decide)
theorem li_18_7 : ((18 : Int32) = 7) = False := eq_false (by decide)
theorem li_18_8 : ((18 : Int32) = 8) = False := eq_false (by decide)
theorem li_18_9 : ((18 : Int32) = 9) = False := eq_false (by decide)
theorem li_18_10 : ((18 : Int32) = 10) = False := eq_false (by decide)
theorem li_18_11 : ((18 : Int32) = 11) = False := eq_false (by decide)
theorem li_18_12 : ((18 : Int32) = 12) = False := eq_false (by decide)
theorem li_18_13 : ((18 : Int32) = 13) = False := eq_false (by decide)
theorem li_18_14 : ((18 : Int32) = 14) = False := eq_false (by decide)
theorem li_18_15 : ((18 : Int32) = 15) = False := eq_false (by decide)
theorem li_18_16 : ((18 : Int32) = 16) = False := eq_false (by decide)
theorem li_18_17 : ((18 : Int32) = 17) = False := eq_false (by decide)
theorem isn_f {x : Int32} {n : Nat} (hn : n < 2 ^ 31) (h : isn x n = false) : ∀ p, p < n → ¬ x = nI p := fun p hp e => by
  rw [e, isn_n hn hp] at h
  cases h
theorem gIn4 {x : Int32} {τ : zS} {c : Int64} {n : Nat} (hn : n < 2 ^ 31) (hc : c = Int32.toInt64 (nI n - 1)) : FX8_isIn (Int32.toInt64 x) 0 c τ = some (b01 (isn x n), τ) := by
  rw [gIn2 (a := 0) (a' := 0) (by decide) hc, isn_in hn]
/-- the shop's numbers as they stand in the class -/
theorem rSh.c {σ τ : zS} {q na n nr : Nat} (h : rSh τ (ss q σ) na n nr) : σ (q + 1) 0 = nI na ∧ σ (q + 7) 0 = nI n ∧ σ (q + 14) 0 = nI nr := by
  obtain ⟨⟨⟨-, h1, -⟩, ⟨-, h2, -⟩, ⟨-, h3, -⟩, -⟩, -⟩ := h
  rw [ss_i (by decide) (by decide)] at h1 h2
  rw [ss_14 (by decide)] at h3
  exact ⟨h1, h2, h3⟩
theorem rel_fault {σ τ : zS} (h : RR σ τ) : relI (FX7_fault 0 σ) (FX8_fault 0 τ) := by
  have h0 := h.code 0
  obtain ⟨q, na, n, nr, h⟩ := h0
  refine ⟨_, σ, zup τ 0 2 0, rfl, ?_, q, na, n, nr, h⟩
  unfold FX8_fault
  rw [zlet_eq, ← h.1.2.1]
theorem rel_laid {σ τ : zS} (h : RR σ τ) (x : Int32) : relX (FX7_laid 0 x σ) (FX8_laid 0 x τ) := by
  have h0 := h.code 0
  obtain ⟨q, na, n, nr, h⟩ := h0
  obtain ⟨c1, c2, c3⟩ := h.2.2.1.c
  have h10 := h.2.2.1.1.1.1
  have e30 := h.2.2.1.1.1.2.2
  unfold FX7_laid FX8_laid FX8_laid_b29 FX8_laid_b34
  simp only [fna h.2.1 c1, gIa (by omega : na < 2 ^ 31) e30, zlet_eq, zbd_s, b01_eq0]
  cases hx : isn x na
  · exact relX_1 ⟨q, na, n, nr, h⟩
  · obtain ⟨a, ha, rfl⟩ := (isn_t (by omega)).mp hx
    simp only [if_true, zbx_0, Bool.true_eq_false, if_false]
    rcases h.2.2.2.2.2.2 with ⟨l1, l2⟩ | ⟨l1, l2, l5, l3⟩
    · rw [if_pos l1, if_pos l2]
      exact relX_1 ⟨q, na, n, nr, h⟩
    · rw [if_neg (by rw [l1]; decide), if_neg (by rw [l2]; decide)]
      simp only [Nat.zero_add, rn_28, zin_n _ (by omega : a < 10) (by decide : 10 < 2 ^ 31), nI_clamp (by omega : a < 2 ^ 31), fat', show ln 0 2 = 5 from rfl, zbd_s]
      rw [rd_n (by omega : a < 5) (by decide), l3 a ha]
      exact relX_0 ⟨q, na, n, nr, h⟩ (by simp [zup_at])
theorem rel_far {σ τ : zS} (h : RR σ τ) (x y : Int32) : relX (FX7_far 0 x y σ) (FX8_far 0 x y τ) := by
  have h0 := h.code 0
  obtain ⟨q, na, n, nr, h⟩ := h0
  obtain ⟨c1, c2, c3⟩ := h.2.2.1.c
  obtain ⟨⟨h10, -, e30⟩, -, -, -, -, -, ⟨δ, hF⟩, -⟩ := id h.2.2.1.1
  have hd := h.2.1.d (Or.inl rfl : 24 = 24 ∨ 24 = 35)
  unfold FX7_far FX7_far_b34 FX8_far FX8_far_b35 FX8_far_b40 FX1_between
  simp only [fna h.2.1 c1, gIa (by omega : na < 2 ^ 31) e30, zlet_eq, zbd_s, b01_eq0]
  cases hx : isn x na
  · exact relX_1 ⟨q, na, n, nr, h⟩
  simp only [if_true, zbx_0, Bool.true_eq_false, if_false, fna h.2.1 c1]
  cases hy : isn y na
  · simp only [if_true, zbx_1, Bool.true_eq_false, Bool.false_eq_true, if_false]
    exact relX_1 ⟨q, na, n, nr, h⟩
  · obtain ⟨a, ha, rfl⟩ := (isn_t (by omega)).mp hx
    obtain ⟨b, hb, rfl⟩ := (isn_t (by omega)).mp hy
    obtain ⟨f1, f2, f3, -⟩ := hF a b ha hb
    rw [ss_i (by decide) (by decide)] at f1
    have e1 : nI a * 10 + nI b = nI (10 * a + b) := by rw [show (10 : Int32) = nI 10 from rfl, pk_mul, nI_add, Nat.mul_comm]
    have e2 : 10 * nI a + nI b = nI (10 * a + b) := by rw [show (10 : Int32) = nI 10 from rfl, pk_mul, nI_add]
    simp only [if_true, zbx_0, Bool.true_eq_false, if_false, h.2.1.q.2, kd_q hd, zgd_t, Nat.add_assoc, Nat.reduceAdd, fat', ql_6 hd, e1, e2, rd_n (by omega : 10 * a + b < 100) (by decide : 100 < 2 ^ 31), f1, zbd_s, Nat.zero_add, rn_18, zin_n _ (by omega : 10 * a + b < 100) (by decide : 100 < 2 ^ 31), nI_clamp (by omega : 10 * a + b < 2 ^ 31), f2]
    by_cases h99 : δ a b = 99
    · rw [if_pos h99, h99, if_pos (show nI 99 = 99 from rfl)]
      exact relX_0 ⟨q, na, n, nr, h⟩ (by simp [zup_at])
    · rw [if_neg h99, if_neg (show ¬ nI (δ a b) = 99 from fun z => h99 ((nI_eq (b := 99) (by omega) (by decide)).mp z))]
      exact relX_0 ⟨q, na, n, nr, h⟩ (by simp [zup_at])
theorem rel_aisle {σ τ : zS} (h : RR σ τ) (x y : Int32) : relX (FX7_aisle 0 x y σ) (FX8_aisle 0 x y τ) := by
  have h0 := h.code 0
  obtain ⟨q, na, n, nr, h⟩ := h0
  obtain ⟨c1, c2, c3⟩ := h.2.2.1.c
  obtain ⟨⟨h10, -, e30⟩, -, -, -, hA, -⟩ := id h.2.2.1.1
  have hw := h.2.2.2.1.1.2.2.2.2
  have hd := h.2.1.d (Or.inl rfl : 24 = 24 ∨ 24 = 35)
  unfold FX7_aisle FX8_aisle FX8_aisle_b25 FX8_aisle_b78
  simp only [fna h.2.1 c1, gIa (by omega : na < 2 ^ 31) e30, zlet_eq, zbd_s, b01_eq0, gIn4 (by decide : 4 < 2 ^ 31) (show (3 : Int64) = Int32.toInt64 (nI 4 - 1) from by decide)]
  cases hx : isn x na
  · exact relX_1 ⟨q, na, n, nr, h⟩
  obtain ⟨a, ha, rfl⟩ := (isn_t (by omega)).mp hx
  have ha10 : a < 10 := by omega
  obtain ⟨a1, a2⟩ := hA a ha
  rw [ss_i (by decide) (by decide)] at a1 a2
  obtain ⟨w1, w2, -⟩ := hw a ha
  simp only [if_true, zbx_0, Bool.true_eq_false, if_false]
  cases hy : isn y 4
  · have ne := isn_f (by decide) hy
    have n0 : ¬ y = 0 := ne 0 (by decide)
    have n1 : ¬ y = 1 := ne 1 (by decide)
    have n2 : ¬ y = 2 := ne 2 (by decide)
    have n3 : ¬ y = 3 := ne 3 (by decide)
    simp only [n0, n1, n2, n3, if_false, if_true]
    exact relX_1 ⟨q, na, n, nr, h⟩
  · obtain ⟨p, hp, e⟩ := (isn_t (by decide)).mp hy
    have fin : ∀ r : Int32, relX (some (0, r, σ)) (some (r, zup τ 0 2 0)) := fun r => relX_0 ⟨q, na, n, nr, h⟩ (by simp [zup_at])
    rcases (by omega : p = 0 ∨ p = 1 ∨ p = 2 ∨ p = 3) with z | z | z | z
    · subst z
      replace e : y = 0 := e
      subst e
      simp only [li_0_1, li_0_2, li_0_3, li_0_4, li_0_5, li_0_6, li_0_7, li_1_0, li_1_2, li_1_3, li_1_4, li_1_5, li_1_6, li_1_7, li_2_0, li_2_1, li_2_3, li_2_4, li_2_5, li_2_6, li_2_7, li_3_0, li_3_1, li_3_2, li_3_4, li_3_5, li_3_6, li_3_7, li_4_0, li_4_1, li_4_2, li_4_3, li_4_5, li_4_6, li_4_7, li_5_0, li_5_1, li_5_2, li_5_3, li_5_4, li_5_6, li_5_7, li_6_0, li_6_1, li_6_2, li_6_3, li_6_4, li_6_5, li_6_7, li_7_0, li_7_1, li_7_2, li_7_3, li_7_4, li_7_5, li_7_6, eq_self, if_true, if_false, Bool.true_eq_false, h.2.1.q.2, kd_q hd, zgd_t, Nat.add_assoc, Nat.reduceAdd, fat', ql_2 hd, rd_n ha10 (by decide : 10 < 2 ^ 31), zbd_s, Nat.zero_add, rn_4, zin_n _ (by omega : a < 20) (by decide : 20 < 2 ^ 31), nI_clamp (by omega : a < 2 ^ 31), a1]
      exact fin _
    · subst z
      replace e : y = 1 := e
      subst e
      simp only [li_0_1, li_0_2, li_0_3, li_0_4, li_0_5, li_0_6, li_0_7, li_1_0, li_1_2, li_1_3, li_1_4, li_1_5, li_1_6, li_1_7, li_2_0, li_2_1, li_2_3, li_2_4, li_2_5, li_2_6, li_2_7, li_3_0, li_3_1, li_3_2, li_3_4, li_3_5, li_3_6, li_3_7, li_4_0, li_4_1, li_4_2, li_4_3, li_4_5, li_4_6, li_4_7, li_5_0, li_5_1, li_5_2, li_5_3, li_5_4, li_5_6, li_5_7, li_6_0, li_6_1, li_6_2, li_6_3, li_6_4, li_6_5, li_6_7, li_7_0, li_7_1, li_7_2, li_7_3, li_7_4, li_7_5, li_7_6, eq_self, if_true, if_false, Bool.true_eq_false, Nat.reduceAdd, fat', show ln 0 8 = 10 from rfl, rd_n ha10 (by decide : 10 < 2 ^ 31), zbd_s, Nat.zero_add, rn_5, zin_n _ (by omega : a < 20) (by decide : 20 < 2 ^ 31), nI_clamp (by omega : a < 2 ^ 31)]
      rw [show σ 8 a = zup τ 0 2 0 5 a from w2]
      exact fin _
    · subst z
      replace e : y = 2 := e
      subst e
      simp only [li_0_1, li_0_2, li_0_3, li_0_4, li_0_5, li_0_6, li_0_7, li_1_0, li_1_2, li_1_3, li_1_4, li_1_5, li_1_6, li_1_7, li_2_0, li_2_1, li_2_3, li_2_4, li_2_5, li_2_6, li_2_7, li_3_0, li_3_1, li_3_2, li_3_4, li_3_5, li_3_6, li_3_7, li_4_0, li_4_1, li_4_2, li_4_3, li_4_5, li_4_6, li_4_7, li_5_0, li_5_1, li_5_2, li_5_3, li_5_4, li_5_6, li_5_7, li_6_0, li_6_1, li_6_2, li_6_3, li_6_4, li_6_5, li_6_7, li_7_0, li_7_1, li_7_2, li_7_3, li_7_4, li_7_5, li_7_6, eq_self, if_true, if_false, Bool.true_eq_false, h.2.1.q.2, kd_q hd, zgd_t, Nat.add_assoc, Nat.reduceAdd, fat', ql_4 hd, rd_n ha10 (by decide : 10 < 2 ^ 31), zbd_s, Nat.zero_add, rn_6, zin_n _ (by omega : a < 20) (by decide : 20 < 2 ^ 31), nI_clamp (by omega : a < 2 ^ 31), a2]
      exact fin _
    · subst z
      replace e : y = 3 := e
      subst e
      simp only [li_0_1, li_0_2, li_0_3, li_0_4, li_0_5, li_0_6, li_0_7, li_1_0, li_1_2, li_1_3, li_1_4, li_1_5, li_1_6, li_1_7, li_2_0, li_2_1, li_2_3, li_2_4, li_2_5, li_2_6, li_2_7, li_3_0, li_3_1, li_3_2, li_3_4, li_3_5, li_3_6, li_3_7, li_4_0, li_4_1, li_4_2, li_4_3, li_4_5, li_4_6, li_4_7, li_5_0, li_5_1, li_5_2, li_5_3, li_5_4, li_5_6, li_5_7, li_6_0, li_6_1, li_6_2, li_6_3, li_6_4, li_6_5, li_6_7, li_7_0, li_7_1, li_7_2, li_7_3, li_7_4, li_7_5, li_7_6, eq_self, if_true, if_false, Bool.true_eq_false, Nat.reduceAdd, fat', show ln 0 7 = 10 from rfl, rd_n ha10 (by decide : 10 < 2 ^ 31), zbd_s, Nat.zero_add, rn_7, zin_n _ (by omega : a < 20) (by decide : 20 < 2 ^ 31), nI_clamp (by omega : a < 2 ^ 31)]
      rw [show σ 7 a = zup τ 0 2 0 7 a from w1]
      exact fin _
theorem rel_person {σ τ : zS} (h : RR σ τ) (x y : Int32) : relX (FX7_person 0 x y σ) (FX8_person 0 x y τ) := by
  have h0 := h.code 0
  obtain ⟨q, na, n, nr, h⟩ := h0
  obtain ⟨c1, c2, c3⟩ := h.2.2.1.c
  obtain ⟨-, ⟨h8, -, e33⟩, -, -, -, hPs, -⟩ := id h.2.2.1.1
  have hd := h.2.1.d (Or.inl rfl : 24 = 24 ∨ 24 = 35)
  unfold FX7_person FX8_person FX8_person_b25 FX8_person_b92
  simp only [fnp h.2.1 c2, gIp (by omega : n < 2 ^ 31) e33, zlet_eq, zbd_s, b01_eq0, gIn4 (by decide : 5 < 2 ^ 31) (show (4 : Int64) = Int32.toInt64 (nI 5 - 1) from by decide)]
  cases hx : isn x n
  · exact relX_1 ⟨q, na, n, nr, h⟩
  obtain ⟨p, hp, rfl⟩ := (isn_t (by omega)).mp hx
  have hp8 : p < 8 := by omega
  obtain ⟨c, t, l, hP⟩ := hPs p hp
  obtain ⟨g8, g9, g10, g11, g12, -⟩ := id hP
  rw [ss_i (by decide) (by decide)] at g8 g9 g10 g11 g12
  simp only [if_true, zbx_0, Bool.true_eq_false, if_false]
  cases hy : isn y 5
  · have ne := isn_f (by decide) hy
    have n0 : ¬ y = 0 := ne 0 (by decide)
    have n1 : ¬ y = 1 := ne 1 (by decide)
    have n2 : ¬ y = 2 := ne 2 (by decide)
    have n3 : ¬ y = 3 := ne 3 (by decide)
    have n4 : ¬ y = 4 := ne 4 (by decide)
    simp only [n0, n1, n2, n3, n4, if_false, if_true]
    exact relX_1 ⟨q, na, n, nr, h⟩
  · obtain ⟨i, hi, e⟩ := (isn_t (by decide)).mp hy
    have fin : ∀ r : Int32, relX (some (0, r, σ)) (some (r, zup τ 0 2 0)) := fun r => relX_0 ⟨q, na, n, nr, h⟩ (by simp [zup_at])
    rcases (by omega : i = 0 ∨ i = 1 ∨ i = 2 ∨ i = 3 ∨ i = 4) with z | z | z | z | z
    · subst z
      replace e : y = 0 := e
      subst e
      simp only [li_0_1, li_0_2, li_0_3, li_0_4, li_0_5, li_0_6, li_0_7, li_1_0, li_1_2, li_1_3, li_1_4, li_1_5, li_1_6, li_1_7, li_2_0, li_2_1, li_2_3, li_2_4, li_2_5, li_2_6, li_2_7, li_3_0, li_3_1, li_3_2, li_3_4, li_3_5, li_3_6, li_3_7, li_4_0, li_4_1, li_4_2, li_4_3, li_4_5, li_4_6, li_4_7, li_5_0, li_5_1, li_5_2, li_5_3, li_5_4, li_5_6, li_5_7, li_6_0, li_6_1, li_6_2, li_6_3, li_6_4, li_6_5, li_6_7, li_7_0, li_7_1, li_7_2, li_7_3, li_7_4, li_7_5, li_7_6, eq_self, if_true, if_false, Bool.true_eq_false, h.2.1.q.2, kd_q hd, zgd_t, Nat.add_assoc, Nat.reduceAdd, fat', ql_8 hd, rd_n hp8 (by decide : 8 < 2 ^ 31), zbd_s, Nat.zero_add, rn_8, zin_n _ (by omega : p < 16) (by decide : 16 < 2 ^ 31), nI_clamp (by omega : p < 2 ^ 31), g8]
      exact fin _
    · subst z
      replace e : y = 1 := e
      subst e
      simp only [li_0_1, li_0_2, li_0_3, li_0_4, li_0_5, li_0_6, li_0_7, li_1_0, li_1_2, li_1_3, li_1_4, li_1_5, li_1_6, li_1_7, li_2_0, li_2_1, li_2_3, li_2_4, li_2_5, li_2_6, li_2_7, li_3_0, li_3_1, li_3_2, li_3_4, li_3_5, li_3_6, li_3_7, li_4_0, li_4_1, li_4_2, li_4_3, li_4_5, li_4_6, li_4_7, li_5_0, li_5_1, li_5_2, li_5_3, li_5_4, li_5_6, li_5_7, li_6_0, li_6_1, li_6_2, li_6_3, li_6_4, li_6_5, li_6_7, li_7_0, li_7_1, li_7_2, li_7_3, li_7_4, li_7_5, li_7_6, eq_self, if_true, if_false, Bool.true_eq_false, h.2.1.q.2, kd_q hd, zgd_t, Nat.add_assoc, Nat.reduceAdd, fat', ql_9 hd, rd_n hp8 (by decide : 8 < 2 ^ 31), zbd_s, Nat.zero_add, rn_9, zin_n _ (by omega : p < 16) (by decide : 16 < 2 ^ 31), nI_clamp (by omega : p < 2 ^ 31), g9]
      exact fin _
    · subst z
      replace e : y = 2 := e
      subst e
      simp only [li_0_1, li_0_2, li_0_3, li_0_4, li_0_5, li_0_6, li_0_7, li_1_0, li_1_2, li_1_3, li_1_4, li_1_5, li_1_6, li_1_7, li_2_0, li_2_1, li_2_3, li_2_4, li_2_5, li_2_6, li_2_7, li_3_0, li_3_1, li_3_2, li_3_4, li_3_5, li_3_6, li_3_7, li_4_0, li_4_1, li_4_2, li_4_3, li_4_5, li_4_6, li_4_7, li_5_0, li_5_1, li_5_2, li_5_3, li_5_4, li_5_6, li_5_7, li_6_0, li_6_1, li_6_2, li_6_3, li_6_4, li_6_5, li_6_7, li_7_0, li_7_1, li_7_2, li_7_3, li_7_4, li_7_5, li_7_6, eq_self, if_true, if_false, Bool.true_eq_false, h.2.1.q.2, kd_q hd, zgd_t, Nat.add_assoc, Nat.reduceAdd, fat', ql_10 hd, rd_n hp8 (by decide : 8 < 2 ^ 31), zbd_s, Nat.zero_add, rn_10, zin_n _ (by omega : p < 16) (by decide : 16 < 2 ^ 31), nI_clamp (by omega : p < 2 ^ 31), g10]
      exact fin _
    · subst z
      replace e : y = 3 := e
      subst e
      simp only [li_0_1, li_0_2, li_0_3, li_0_4, li_0_5, li_0_6, li_0_7, li_1_0, li_1_2, li_1_3, li_1_4, li_1_5, li_1_6, li_1_7, li_2_0, li_2_1, li_2_3, li_2_4, li_2_5, li_2_6, li_2_7, li_3_0, li_3_1, li_3_2, li_3_4, li_3_5, li_3_6, li_3_7, li_4_0, li_4_1, li_4_2, li_4_3, li_4_5, li_4_6, li_4_7, li_5_0, li_5_1, li_5_2, li_5_3, li_5_4, li_5_6, li_5_7, li_6_0, li_6_1, li_6_2, li_6_3, li_6_4, li_6_5, li_6_7, li_7_0, li_7_1, li_7_2, li_7_3, li_7_4, li_7_5, li_7_6, eq_self, if_true, if_false, Bool.true_eq_false, h.2.1.q.2, kd_q hd, zgd_t, Nat.add_assoc, Nat.reduceAdd, fat', ql_11 hd, rd_n hp8 (by decide : 8 < 2 ^ 31), zbd_s, Nat.zero_add, rn_11, zin_n _ (by omega : p < 16) (by decide : 16 < 2 ^ 31), nI_clamp (by omega : p < 2 ^ 31), g11]
      exact fin _
    · subst z
      replace e : y = 4 := e
      subst e
      simp only [li_0_1, li_0_2, li_0_3, li_0_4, li_0_5, li_0_6, li_0_7, li_1_0, li_1_2, li_1_3, li_1_4, li_1_5, li_1_6, li_1_7, li_2_0, li_2_1, li_2_3, li_2_4, li_2_5, li_2_6, li_2_7, li_3_0, li_3_1, li_3_2, li_3_4, li_3_5, li_3_6, li_3_7, li_4_0, li_4_1, li_4_2, li_4_3, li_4_5, li_4_6, li_4_7, li_5_0, li_5_1, li_5_2, li_5_3, li_5_4, li_5_6, li_5_7, li_6_0, li_6_1, li_6_2, li_6_3, li_6_4, li_6_5, li_6_7, li_7_0, li_7_1, li_7_2, li_7_3, li_7_4, li_7_5, li_7_6, eq_self, if_true, if_false, Bool.true_eq_false, h.2.1.q.2, kd_q hd, zgd_t, Nat.add_assoc, Nat.reduceAdd, fat', ql_12 hd, rd_n hp8 (by decide : 8 < 2 ^ 31), zbd_s, Nat.zero_add, rn_12, zin_n _ (by omega : p < 16) (by decide : 16 < 2 ^ 31), nI_clamp (by omega : p < 2 ^ 31), g12]
      exact fin _
theorem rel_route {σ τ : zS} (h : RR σ τ) (x y : Int32) : relX (FX7_route 0 x y σ) (FX8_route 0 x y τ) := by
  have h0 := h.code 0
  obtain ⟨q, na, n, nr, h⟩ := h0
  obtain ⟨c1, c2, c3⟩ := h.2.2.1.c
  obtain ⟨-, ⟨h8, -, e33⟩, -, -, -, hPs, -⟩ := id h.2.2.1.1
  have hd := h.2.1.d (Or.inl rfl : 24 = 24 ∨ 24 = 35)
  unfold FX7_route FX7_route_b27 FX8_route FX8_route_b45 FX8_route_b50 FX2_stepOf
  simp only [fnp h.2.1 c2, gIp (by omega : n < 2 ^ 31) e33, zlet_eq, zbd_s, b01_eq0]
  cases hx : isn x n
  · exact relX_1 ⟨q, na, n, nr, h⟩
  obtain ⟨p, hp, rfl⟩ := (isn_t (by omega)).mp hx
  have hp8 : p < 8 := by omega
  obtain ⟨c, t, l, hP⟩ := hPs p hp
  obtain ⟨-, -, -, -, g12, -, -, f12, -, -, q3, q4, -, hR⟩ := id hP
  have f12' := f12
  rw [ss_i (by decide) (by decide)] at f12'
  simp only [if_true, zbx_0, Bool.true_eq_false, if_false, h.2.1.q.2, kd_q hd, zgd_t, Nat.add_assoc, Nat.reduceAdd, fat', ql_12 hd, ql_13 hd, rd_n hp8 (by decide : 8 < 2 ^ 31), zbd_s, Nat.zero_add, rn_12, rn_13, zin_n _ (by omega : p < 16) (by decide : 16 < 2 ^ 31), nI_clamp (by omega : p < 2 ^ 31), g12, f12, f12', gIn4 (by omega : l < 2 ^ 31) rfl, b01_eq0]
  cases hy : isn y l
  · rw [if_pos rfl]
    by_cases y0 : y < 0
    · rw [if_pos y0]
      exact relX_1 ⟨q, na, n, nr, h⟩
    · have : ¬ y < nI l := by
        intro z
        obtain ⟨j, hj, rfl⟩ := nI_of y0
        exact isn_f (by omega) hy j ((nI_ltI hj (by omega)).mp z) rfl
      rw [if_neg y0, if_neg this]
      exact relX_1 ⟨q, na, n, nr, h⟩
  · obtain ⟨i, hi, rfl⟩ := (isn_t (by omega)).mp hy
    obtain ⟨hr1, a, ha, hr2⟩ := hR i hi
    have e1 : nI p * 12 + nI i = nI (12 * p + i) := by rw [show (12 : Int32) = nI 12 from rfl, pk_mul, nI_add, Nat.mul_comm]
    have e2 : 12 * nI p + nI i = nI (12 * p + i) := by rw [show (12 : Int32) = nI 12 from rfl, pk_mul, nI_add]
    rw [if_neg (nI_pos (by omega : i < 2 ^ 31)), if_pos (nI_lt hi (by omega)), if_neg (show ¬ true = false from by decide)]
    simp only [e1, e2, rd_n (by omega : 12 * p + i < 96) (by decide : 96 < 2 ^ 31), zin_n _ (by omega : 12 * p + i < 192) (by decide : 192 < 2 ^ 31), nI_clamp (by omega : 12 * p + i < 2 ^ 31), hr1]
    rw [ss_i (by decide) (by decide)]
    exact relX_0 ⟨q, na, n, nr, h⟩ (by simp [zup_at])
