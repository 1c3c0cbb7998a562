/-! the cells: kinds, lengths, references (printed by wip/gen/cells.py) -/
theorem kd0 : dm_kd 0 = 4 := by decide +kernel
theorem rf0_0 : dm_rf 0 0 = 1 := by decide +kernel
theorem rf0_1 : dm_rf 0 1 = 23 := by decide +kernel
theorem rf0_3 : dm_rf 0 3 = 45 := by decide +kernel
theorem rf0_4 : dm_rf 0 4 = 46 := by decide +kernel
theorem rf0_6 : dm_rf 0 6 = 47 := by decide +kernel
theorem rf0_7 : dm_rf 0 7 = 49 := by decide +kernel
theorem rf0_8 : dm_rf 0 8 = 51 := by decide +kernel
theorem kd1 : dm_kd 1 = 0 := by decide +kernel
theorem rf1_1 : dm_rf 1 1 = 2 := by decide +kernel
theorem rf1_2 : dm_rf 1 2 = 3 := by decide +kernel
theorem rf1_3 : dm_rf 1 3 = 4 := by decide +kernel
theorem rf1_5 : dm_rf 1 5 = 5 := by decide +kernel
theorem rf1_7 : dm_rf 1 7 = 6 := by decide +kernel
theorem rf1_9 : dm_rf 1 9 = 7 := by decide +kernel
theorem kd2 : dm_kd 2 = 100 := by decide +kernel
theorem ln2 : dm_ln 2 = 4 := by decide +kernel
theorem kd3 : dm_kd 3 = 100 := by decide +kernel
theorem ln3 : dm_ln 3 = 4 := by decide +kernel
theorem kd4 : dm_kd 4 = 102 := by decide +kernel
theorem kd5 : dm_kd 5 = 100 := by decide +kernel
theorem ln5 : dm_ln 5 = 5 := by decide +kernel
theorem kd6 : dm_kd 6 = 100 := by decide +kernel
theorem ln6 : dm_ln 6 = 100 := by decide +kernel
theorem kd7 : dm_kd 7 = 100 := by decide +kernel
theorem ln7 : dm_ln 7 = 8 := by decide +kernel
theorem kd8 : dm_kd 8 = 1 := by decide +kernel
theorem rf8_4 : dm_rf 8 4 = 9 := by decide +kernel
theorem kd9 : dm_kd 9 = 3 := by decide +kernel
theorem rf9_0 : dm_rf 9 0 = 10 := by decide +kernel
theorem kd10 : dm_kd 10 = 100 := by decide +kernel
theorem ln10 : dm_ln 10 = 49 := by decide +kernel
theorem kd11 : dm_kd 11 = 1 := by decide +kernel
theorem rf11_4 : dm_rf 11 4 = 12 := by decide +kernel
theorem kd12 : dm_kd 12 = 3 := by decide +kernel
theorem rf12_0 : dm_rf 12 0 = 13 := by decide +kernel
theorem kd13 : dm_kd 13 = 100 := by decide +kernel
theorem ln13 : dm_ln 13 = 49 := by decide +kernel
theorem kd14 : dm_kd 14 = 1 := by decide +kernel
theorem rf14_4 : dm_rf 14 4 = 15 := by decide +kernel
theorem kd15 : dm_kd 15 = 3 := by decide +kernel
theorem rf15_0 : dm_rf 15 0 = 16 := by decide +kernel
theorem kd16 : dm_kd 16 = 100 := by decide +kernel
theorem ln16 : dm_ln 16 = 49 := by decide +kernel
theorem kd17 : dm_kd 17 = 1 := by decide +kernel
theorem rf17_4 : dm_rf 17 4 = 18 := by decide +kernel
theorem kd18 : dm_kd 18 = 3 := by decide +kernel
theorem rf18_0 : dm_rf 18 0 = 19 := by decide +kernel
theorem kd19 : dm_kd 19 = 100 := by decide +kernel
theorem ln19 : dm_ln 19 = 49 := by decide +kernel
theorem kd20 : dm_kd 20 = 1 := by decide +kernel
theorem rf20_4 : dm_rf 20 4 = 21 := by decide +kernel
theorem kd21 : dm_kd 21 = 3 := by decide +kernel
theorem rf21_0 : dm_rf 21 0 = 22 := by decide +kernel
theorem kd22 : dm_kd 22 = 100 := by decide +kernel
theorem ln22 : dm_ln 22 = 49 := by decide +kernel
theorem kd23 : dm_kd 23 = 0 := by decide +kernel
theorem rf23_1 : dm_rf 23 1 = 24 := by decide +kernel
theorem rf23_2 : dm_rf 23 2 = 25 := by decide +kernel
theorem rf23_3 : dm_rf 23 3 = 26 := by decide +kernel
theorem rf23_5 : dm_rf 23 5 = 27 := by decide +kernel
theorem rf23_7 : dm_rf 23 7 = 28 := by decide +kernel
theorem rf23_9 : dm_rf 23 9 = 29 := by decide +kernel
theorem kd24 : dm_kd 24 = 100 := by decide +kernel
theorem ln24 : dm_ln 24 = 4 := by decide +kernel
theorem kd25 : dm_kd 25 = 100 := by decide +kernel
theorem ln25 : dm_ln 25 = 4 := by decide +kernel
theorem kd26 : dm_kd 26 = 102 := by decide +kernel
theorem kd27 : dm_kd 27 = 100 := by decide +kernel
theorem ln27 : dm_ln 27 = 5 := by decide +kernel
theorem kd28 : dm_kd 28 = 100 := by decide +kernel
theorem ln28 : dm_ln 28 = 100 := by decide +kernel
theorem kd29 : dm_kd 29 = 100 := by decide +kernel
theorem ln29 : dm_ln 29 = 8 := by decide +kernel
theorem kd30 : dm_kd 30 = 1 := by decide +kernel
theorem rf30_4 : dm_rf 30 4 = 31 := by decide +kernel
theorem kd31 : dm_kd 31 = 3 := by decide +kernel
theorem rf31_0 : dm_rf 31 0 = 32 := by decide +kernel
theorem kd32 : dm_kd 32 = 100 := by decide +kernel
theorem ln32 : dm_ln 32 = 49 := by decide +kernel
theorem kd33 : dm_kd 33 = 1 := by decide +kernel
theorem rf33_4 : dm_rf 33 4 = 34 := by decide +kernel
theorem kd34 : dm_kd 34 = 3 := by decide +kernel
theorem rf34_0 : dm_rf 34 0 = 35 := by decide +kernel
theorem kd35 : dm_kd 35 = 100 := by decide +kernel
theorem ln35 : dm_ln 35 = 49 := by decide +kernel
theorem kd36 : dm_kd 36 = 1 := by decide +kernel
theorem rf36_4 : dm_rf 36 4 = 37 := by decide +kernel
theorem kd37 : dm_kd 37 = 3 := by decide +kernel
theorem rf37_0 : dm_rf 37 0 = 38 := by decide +kernel
theorem kd38 : dm_kd 38 = 100 := by decide +kernel
theorem ln38 : dm_ln 38 = 49 := by decide +kernel
theorem kd39 : dm_kd 39 = 1 := by decide +kernel
theorem rf39_4 : dm_rf 39 4 = 40 := by decide +kernel
theorem kd40 : dm_kd 40 = 3 := by decide +kernel
theorem rf40_0 : dm_rf 40 0 = 41 := by decide +kernel
theorem kd41 : dm_kd 41 = 100 := by decide +kernel
theorem ln41 : dm_ln 41 = 49 := by decide +kernel
theorem kd42 : dm_kd 42 = 1 := by decide +kernel
theorem rf42_4 : dm_rf 42 4 = 43 := by decide +kernel
theorem kd43 : dm_kd 43 = 3 := by decide +kernel
theorem rf43_0 : dm_rf 43 0 = 44 := by decide +kernel
theorem kd44 : dm_kd 44 = 100 := by decide +kernel
theorem ln44 : dm_ln 44 = 49 := by decide +kernel
theorem kd45 : dm_kd 45 = 2 := by decide +kernel
theorem kd46 : dm_kd 46 = 100 := by decide +kernel
theorem ln46 : dm_ln 46 = 20 := by decide +kernel
theorem kd47 : dm_kd 47 = 3 := by decide +kernel
theorem rf47_0 : dm_rf 47 0 = 48 := by decide +kernel
theorem kd48 : dm_kd 48 = 100 := by decide +kernel
theorem ln48 : dm_ln 48 = 49 := by decide +kernel
theorem kd49 : dm_kd 49 = 3 := by decide +kernel
theorem rf49_0 : dm_rf 49 0 = 50 := by decide +kernel
theorem kd50 : dm_kd 50 = 100 := by decide +kernel
theorem ln50 : dm_ln 50 = 49 := by decide +kernel
theorem kd51 : dm_kd 51 = 3 := by decide +kernel
theorem rf51_0 : dm_rf 51 0 = 52 := by decide +kernel
theorem kd52 : dm_kd 52 = 100 := by decide +kernel
theorem ln52 : dm_ln 52 = 49 := by decide +kernel
theorem kd53 : dm_kd 53 = 5 := by decide +kernel
theorem rf53_1 : dm_rf 53 1 = 54 := by decide +kernel
theorem rf53_2 : dm_rf 53 2 = 55 := by decide +kernel
theorem rf53_9 : dm_rf 53 9 = 56 := by decide +kernel
theorem rf53_10 : dm_rf 53 10 = 57 := by decide +kernel
theorem rf53_11 : dm_rf 53 11 = 58 := by decide +kernel
theorem rf53_14 : dm_rf 53 14 = 59 := by decide +kernel
theorem rf53_16 : dm_rf 53 16 = 60 := by decide +kernel
theorem rf53_17 : dm_rf 53 17 = 61 := by decide +kernel
theorem kd54 : dm_kd 54 = 100 := by decide +kernel
theorem ln54 : dm_ln 54 = 1099 := by decide +kernel
theorem kd55 : dm_kd 55 = 100 := by decide +kernel
theorem ln55 : dm_ln 55 = 1099 := by decide +kernel
theorem kd56 : dm_kd 56 = 101 := by decide +kernel
theorem ln56 : dm_ln 56 = 64 := by decide +kernel
theorem kd57 : dm_kd 57 = 100 := by decide +kernel
theorem ln57 : dm_ln 57 = 49 := by decide +kernel
theorem kd58 : dm_kd 58 = 100 := by decide +kernel
theorem ln58 : dm_ln 58 = 49 := by decide +kernel
theorem kd59 : dm_kd 59 = 100 := by decide +kernel
theorem ln59 : dm_ln 59 = 49 := by decide +kernel
theorem kd60 : dm_kd 60 = 101 := by decide +kernel
theorem ln60 : dm_ln 60 = 16 := by decide +kernel
theorem kd61 : dm_kd 61 = 100 := by decide +kernel
theorem ln61 : dm_ln 61 = 20 := by decide +kernel
theorem kd62 : dm_kd 62 = 103 := by decide +kernel
theorem ln62 : dm_ln 62 = 7 := by decide +kernel
theorem kd63 : dm_kd 63 = 103 := by decide +kernel
theorem ln63 : dm_ln 63 = 21 := by decide +kernel
theorem kd64 : dm_kd 64 = 104 := by decide +kernel
theorem kd65 : dm_kd 65 = 6 := by decide +kernel
theorem rf65_0 : dm_rf 65 0 = 67 := by decide +kernel
theorem kd66 : dm_kd 66 = 6 := by decide +kernel
theorem rf66_0 : dm_rf 66 0 = 68 := by decide +kernel
theorem kd67 : dm_kd 67 = 107 := by decide +kernel
theorem ln67 : dm_ln 67 = 5 := by decide +kernel
theorem kd68 : dm_kd 68 = 107 := by decide +kernel
theorem ln68 : dm_ln 68 = 3 := by decide +kernel
