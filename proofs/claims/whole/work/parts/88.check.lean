set_option maxRecDepth 100000 in
theorem zok_0 : (List.range 1).all (fun b => zChk 0 (zbp 0 b) (zbl 0 b)) = true := by decide +kernel
set_option maxRecDepth 100000 in
theorem zok_1 : (List.range 4).all (fun b => zChk 1 (zbp 1 b) (zbl 1 b)) = true := by decide +kernel
set_option maxRecDepth 100000 in
theorem zok_2 : (List.range 4).all (fun b => zChk 2 (zbp 2 b) (zbl 2 b)) = true := by decide +kernel
set_option maxRecDepth 100000 in
theorem zok_3 : (List.range 4).all (fun b => zChk 3 (zbp 3 b) (zbl 3 b)) = true := by decide +kernel
set_option maxRecDepth 100000 in
theorem zok_4 : (List.range 4).all (fun b => zChk 4 (zbp 4 b) (zbl 4 b)) = true := by decide +kernel
set_option maxRecDepth 100000 in
theorem zok_5 : (List.range 4).all (fun b => zChk 5 (zbp 5 b) (zbl 5 b)) = true := by decide +kernel
set_option maxRecDepth 100000 in
theorem zok_6 : (List.range 1).all (fun b => zChk 6 (zbp 6 b) (zbl 6 b)) = true := by decide +kernel
set_option maxRecDepth 100000 in
theorem zok_7 : (List.range 1).all (fun b => zChk 7 (zbp 7 b) (zbl 7 b)) = true := by decide +kernel
set_option maxRecDepth 100000 in
theorem zok_8 : (List.range 4).all (fun b => zChk 8 (zbp 8 b) (zbl 8 b)) = true := by decide +kernel
set_option maxRecDepth 100000 in
theorem zok_9 : (List.range 1).all (fun b => zChk 9 (zbp 9 b) (zbl 9 b)) = true := by decide +kernel
set_option maxRecDepth 100000 in
theorem zok_10 : (List.range 14).all (fun b => zChk 10 (zbp 10 b) (zbl 10 b)) = true := by decide +kernel
set_option maxRecDepth 100000 in
theorem zok_11 : (List.range 1).all (fun b => zChk 11 (zbp 11 b) (zbl 11 b)) = true := by decide +kernel
set_option maxRecDepth 100000 in
theorem zok_12 : (List.range 4).all (fun b => zChk 12 (zbp 12 b) (zbl 12 b)) = true := by decide +kernel
set_option maxRecDepth 100000 in
theorem zok_13 : (List.range 8).all (fun b => zChk 13 (zbp 13 b) (zbl 13 b)) = true := by decide +kernel
set_option maxRecDepth 100000 in
theorem zok_14 : (List.range 4).all (fun b => zChk 14 (zbp 14 b) (zbl 14 b)) = true := by decide +kernel
set_option maxRecDepth 100000 in
theorem zok_15 : (List.range 4).all (fun b => zChk 15 (zbp 15 b) (zbl 15 b)) = true := by decide +kernel
set_option maxRecDepth 100000 in
theorem zok_16 : (List.range 1).all (fun b => zChk 16 (zbp 16 b) (zbl 16 b)) = true := by decide +kernel
set_option maxRecDepth 100000 in
theorem zok_17 : (List.range 4).all (fun b => zChk 17 (zbp 17 b) (zbl 17 b)) = true := by decide +kernel
set_option maxRecDepth 100000 in
theorem zok_18 : (List.range 4).all (fun b => zChk 18 (zbp 18 b) (zbl 18 b)) = true := by decide +kernel
set_option maxRecDepth 100000 in
theorem zok_19 : (List.range 6).all (fun b => zChk 19 (zbp 19 b) (zbl 19 b)) = true := by decide +kernel
set_option maxRecDepth 100000 in
theorem zok_20 : (List.range 1).all (fun b => zChk 20 (zbp 20 b) (zbl 20 b)) = true := by decide +kernel
set_option maxRecDepth 100000 in
theorem zok_21 : (List.range 4).all (fun b => zChk 21 (zbp 21 b) (zbl 21 b)) = true := by decide +kernel
set_option maxRecDepth 100000 in
theorem zok_22 : (List.range 6).all (fun b => zChk 22 (zbp 22 b) (zbl 22 b)) = true := by decide +kernel
set_option maxRecDepth 100000 in
theorem zok_23 : (List.range 7).all (fun b => zChk 23 (zbp 23 b) (zbl 23 b)) = true := by decide +kernel
set_option maxRecDepth 100000 in
theorem zok_24 : (List.range 8).all (fun b => zChk 24 (zbp 24 b) (zbl 24 b)) = true := by decide +kernel
set_option maxRecDepth 100000 in
theorem zok_25 : (List.range 1).all (fun b => zChk 25 (zbp 25 b) (zbl 25 b)) = true := by decide +kernel
set_option maxRecDepth 100000 in
theorem zok_26 : (List.range 1).all (fun b => zChk 26 (zbp 26 b) (zbl 26 b)) = true := by decide +kernel
set_option maxRecDepth 100000 in
theorem zok_27 : (List.range 1).all (fun b => zChk 27 (zbp 27 b) (zbl 27 b)) = true := by decide +kernel
set_option maxRecDepth 100000 in
theorem zok_28 : (List.range 12).all (fun b => zChk 28 (zbp 28 b) (zbl 28 b)) = true := by decide +kernel
set_option maxRecDepth 100000 in
theorem zok_29 : (List.range 15).all (fun b => zChk 29 (zbp 29 b) (zbl 29 b)) = true := by decide +kernel
set_option maxRecDepth 100000 in
theorem zok_30 : (List.range 1).all (fun b => zChk 30 (zbp 30 b) (zbl 30 b)) = true := by decide +kernel
set_option maxRecDepth 100000 in
theorem zok_31 : (List.range 1).all (fun b => zChk 31 (zbp 31 b) (zbl 31 b)) = true := by decide +kernel
set_option maxRecDepth 100000 in
theorem zok_32 : (List.range 6).all (fun b => zChk 32 (zbp 32 b) (zbl 32 b)) = true := by decide +kernel
set_option maxRecDepth 100000 in
theorem zok_33 : (List.range 1).all (fun b => zChk 33 (zbp 33 b) (zbl 33 b)) = true := by decide +kernel
set_option maxRecDepth 100000 in
theorem zok_34 : (List.range 7).all (fun b => zChk 34 (zbp 34 b) (zbl 34 b)) = true := by decide +kernel
set_option maxRecDepth 100000 in
theorem zok_35 : (List.range 7).all (fun b => zChk 35 (zbp 35 b) (zbl 35 b)) = true := by decide +kernel
set_option maxRecDepth 100000 in
theorem zok_36 : (List.range 1).all (fun b => zChk 36 (zbp 36 b) (zbl 36 b)) = true := by decide +kernel
set_option maxRecDepth 100000 in
theorem zok_37 : (List.range 4).all (fun b => zChk 37 (zbp 37 b) (zbl 37 b)) = true := by decide +kernel
set_option maxRecDepth 100000 in
theorem zok_38 : (List.range 1).all (fun b => zChk 38 (zbp 38 b) (zbl 38 b)) = true := by decide +kernel
set_option maxRecDepth 100000 in
theorem zok_39 : (List.range 5).all (fun b => zChk 39 (zbp 39 b) (zbl 39 b)) = true := by decide +kernel
set_option maxRecDepth 100000 in
theorem zok_40 : (List.range 6).all (fun b => zChk 40 (zbp 40 b) (zbl 40 b)) = true := by decide +kernel
set_option maxRecDepth 100000 in
theorem zok_41 : (List.range 1).all (fun b => zChk 41 (zbp 41 b) (zbl 41 b)) = true := by decide +kernel
set_option maxRecDepth 100000 in
theorem zok_42 : (List.range 1).all (fun b => zChk 42 (zbp 42 b) (zbl 42 b)) = true := by decide +kernel
set_option maxRecDepth 100000 in
theorem zok_43 : (List.range 6).all (fun b => zChk 43 (zbp 43 b) (zbl 43 b)) = true := by decide +kernel
set_option maxRecDepth 100000 in
theorem zok_44 : (List.range 6).all (fun b => zChk 44 (zbp 44 b) (zbl 44 b)) = true := by decide +kernel
set_option maxRecDepth 100000 in
theorem zok_45 : (List.range 6).all (fun b => zChk 45 (zbp 45 b) (zbl 45 b)) = true := by decide +kernel
set_option maxRecDepth 100000 in
theorem zok_46 : (List.range 9).all (fun b => zChk 46 (zbp 46 b) (zbl 46 b)) = true := by decide +kernel
set_option maxRecDepth 100000 in
theorem zok_47 : (List.range 10).all (fun b => zChk 47 (zbp 47 b) (zbl 47 b)) = true := by decide +kernel
set_option maxRecDepth 100000 in
theorem zok_48 : (List.range 5).all (fun b => zChk 48 (zbp 48 b) (zbl 48 b)) = true := by decide +kernel
set_option maxRecDepth 100000 in
theorem zok_49 : (List.range 5).all (fun b => zChk 49 (zbp 49 b) (zbl 49 b)) = true := by decide +kernel
set_option maxRecDepth 100000 in
theorem zok_50 : (List.range 6).all (fun b => zChk 50 (zbp 50 b) (zbl 50 b)) = true := by decide +kernel
set_option maxRecDepth 100000 in
theorem zok_51 : (List.range 10).all (fun b => zChk 51 (zbp 51 b) (zbl 51 b)) = true := by decide +kernel
set_option maxRecDepth 100000 in
theorem zok_52 : (List.range 1).all (fun b => zChk 52 (zbp 52 b) (zbl 52 b)) = true := by decide +kernel
set_option maxRecDepth 100000 in
theorem zok_53 : (List.range 6).all (fun b => zChk 53 (zbp 53 b) (zbl 53 b)) = true := by decide +kernel
set_option maxRecDepth 100000 in
theorem zok_54 : (List.range 3).all (fun b => zChk 54 (zbp 54 b) (zbl 54 b)) = true := by decide +kernel
set_option maxRecDepth 100000 in
theorem zok_55 : (List.range 5).all (fun b => zChk 55 (zbp 55 b) (zbl 55 b)) = true := by decide +kernel
set_option maxRecDepth 100000 in
theorem zok_56 : (List.range 1).all (fun b => zChk 56 (zbp 56 b) (zbl 56 b)) = true := by decide +kernel
set_option maxRecDepth 100000 in
theorem zok_57 : (List.range 8).all (fun b => zChk 57 (zbp 57 b) (zbl 57 b)) = true := by decide +kernel
set_option maxRecDepth 100000 in
theorem zok_58 : (List.range 4).all (fun b => zChk 58 (zbp 58 b) (zbl 58 b)) = true := by decide +kernel
set_option maxRecDepth 100000 in
theorem zok_59 : (List.range 5).all (fun b => zChk 59 (zbp 59 b) (zbl 59 b)) = true := by decide +kernel
set_option maxRecDepth 100000 in
theorem zok_60 : (List.range 3).all (fun b => zChk 60 (zbp 60 b) (zbl 60 b)) = true := by decide +kernel
set_option maxRecDepth 100000 in
theorem zok_61 : (List.range 10).all (fun b => zChk 61 (zbp 61 b) (zbl 61 b)) = true := by decide +kernel
set_option maxRecDepth 100000 in
theorem zok_62 : (List.range 5).all (fun b => zChk 62 (zbp 62 b) (zbl 62 b)) = true := by decide +kernel
set_option maxRecDepth 100000 in
theorem zok_63 : (List.range 5).all (fun b => zChk 63 (zbp 63 b) (zbl 63 b)) = true := by decide +kernel
set_option maxRecDepth 100000 in
theorem zok_64 : (List.range 5).all (fun b => zChk 64 (zbp 64 b) (zbl 64 b)) = true := by decide +kernel
set_option maxRecDepth 100000 in
theorem zok_65 : (List.range 21).all (fun b => zChk 65 (zbp 65 b) (zbl 65 b)) = true := by decide +kernel
set_option maxRecDepth 100000 in
theorem zok_66 : (List.range 4).all (fun b => zChk 66 (zbp 66 b) (zbl 66 b)) = true := by decide +kernel
set_option maxRecDepth 100000 in
theorem zok_67 : (List.range 12).all (fun b => zChk 67 (zbp 67 b) (zbl 67 b)) = true := by decide +kernel
set_option maxRecDepth 100000 in
theorem zok_68 : (List.range 4).all (fun b => zChk 68 (zbp 68 b) (zbl 68 b)) = true := by decide +kernel
set_option maxRecDepth 100000 in
theorem zok_69 : (List.range 3).all (fun b => zChk 69 (zbp 69 b) (zbl 69 b)) = true := by decide +kernel
set_option maxRecDepth 100000 in
theorem zok_70 : (List.range 4).all (fun b => zChk 70 (zbp 70 b) (zbl 70 b)) = true := by decide +kernel
set_option maxRecDepth 100000 in
theorem zok_71 : (List.range 3).all (fun b => zChk 71 (zbp 71 b) (zbl 71 b)) = true := by decide +kernel
set_option maxRecDepth 100000 in
theorem zok_72 : (List.range 6).all (fun b => zChk 72 (zbp 72 b) (zbl 72 b)) = true := by decide +kernel
set_option maxRecDepth 100000 in
theorem zok_73 : (List.range 4).all (fun b => zChk 73 (zbp 73 b) (zbl 73 b)) = true := by decide +kernel
set_option maxRecDepth 100000 in
theorem zok_74 : (List.range 4).all (fun b => zChk 74 (zbp 74 b) (zbl 74 b)) = true := by decide +kernel
set_option maxRecDepth 100000 in
theorem zok_75 : (List.range 5).all (fun b => zChk 75 (zbp 75 b) (zbl 75 b)) = true := by decide +kernel
set_option maxRecDepth 100000 in
theorem zok_76 : (List.range 5).all (fun b => zChk 76 (zbp 76 b) (zbl 76 b)) = true := by decide +kernel
set_option maxRecDepth 100000 in
theorem zok_77 : (List.range 5).all (fun b => zChk 77 (zbp 77 b) (zbl 77 b)) = true := by decide +kernel
set_option maxRecDepth 100000 in
theorem zok_78 : (List.range 5).all (fun b => zChk 78 (zbp 78 b) (zbl 78 b)) = true := by decide +kernel
set_option maxRecDepth 100000 in
theorem zok_79 : (List.range 5).all (fun b => zChk 79 (zbp 79 b) (zbl 79 b)) = true := by decide +kernel
set_option maxRecDepth 100000 in
theorem zok_80 : (List.range 5).all (fun b => zChk 80 (zbp 80 b) (zbl 80 b)) = true := by decide +kernel
set_option maxRecDepth 100000 in
theorem zok_81 : (List.range 4).all (fun b => zChk 81 (zbp 81 b) (zbl 81 b)) = true := by decide +kernel
set_option maxRecDepth 100000 in
theorem zok_82 : (List.range 12).all (fun b => zChk 82 (zbp 82 b) (zbl 82 b)) = true := by decide +kernel
set_option maxRecDepth 100000 in
theorem zok_83 : (List.range 9).all (fun b => zChk 83 (zbp 83 b) (zbl 83 b)) = true := by decide +kernel
set_option maxRecDepth 100000 in
theorem zok_84 : (List.range 12).all (fun b => zChk 84 (zbp 84 b) (zbl 84 b)) = true := by decide +kernel
set_option maxRecDepth 100000 in
theorem zok_85 : (List.range 6).all (fun b => zChk 85 (zbp 85 b) (zbl 85 b)) = true := by decide +kernel
set_option maxRecDepth 100000 in
theorem zok_86 : (List.range 7).all (fun b => zChk 86 (zbp 86 b) (zbl 86 b)) = true := by decide +kernel
set_option maxRecDepth 100000 in
theorem zok_87 : (List.range 4).all (fun b => zChk 87 (zbp 87 b) (zbl 87 b)) = true := by decide +kernel
set_option maxRecDepth 100000 in
theorem zok_88 : (List.range 7).all (fun b => zChk 88 (zbp 88 b) (zbl 88 b)) = true := by decide +kernel
set_option maxRecDepth 100000 in
theorem zok_89 : (List.range 3).all (fun b => zChk 89 (zbp 89 b) (zbl 89 b)) = true := by decide +kernel
set_option maxRecDepth 100000 in
theorem zok_90 : (List.range 9).all (fun b => zChk 90 (zbp 90 b) (zbl 90 b)) = true := by decide +kernel
set_option maxRecDepth 100000 in
theorem zok_91 : (List.range 4).all (fun b => zChk 91 (zbp 91 b) (zbl 91 b)) = true := by decide +kernel
set_option maxRecDepth 100000 in
theorem zok_92 : (List.range 3).all (fun b => zChk 92 (zbp 92 b) (zbl 92 b)) = true := by decide +kernel
set_option maxRecDepth 100000 in
theorem zok_93 : (List.range 4).all (fun b => zChk 93 (zbp 93 b) (zbl 93 b)) = true := by decide +kernel
set_option maxRecDepth 100000 in
theorem zok_94 : (List.range 4).all (fun b => zChk 94 (zbp 94 b) (zbl 94 b)) = true := by decide +kernel
set_option maxRecDepth 100000 in
theorem zok_95 : (List.range 6).all (fun b => zChk 95 (zbp 95 b) (zbl 95 b)) = true := by decide +kernel
set_option maxRecDepth 100000 in
theorem zok_96 : (List.range 4).all (fun b => zChk 96 (zbp 96 b) (zbl 96 b)) = true := by decide +kernel
set_option maxRecDepth 100000 in
theorem zok_97 : (List.range 1).all (fun b => zChk 97 (zbp 97 b) (zbl 97 b)) = true := by decide +kernel
set_option maxRecDepth 100000 in
theorem zok_98 : (List.range 9).all (fun b => zChk 98 (zbp 98 b) (zbl 98 b)) = true := by decide +kernel
set_option maxRecDepth 100000 in
theorem zok_99 : (List.range 4).all (fun b => zChk 99 (zbp 99 b) (zbl 99 b)) = true := by decide +kernel
set_option maxRecDepth 100000 in
theorem zok_100 : (List.range 4).all (fun b => zChk 100 (zbp 100 b) (zbl 100 b)) = true := by decide +kernel
set_option maxRecDepth 100000 in
theorem zok_101 : (List.range 9).all (fun b => zChk 101 (zbp 101 b) (zbl 101 b)) = true := by decide +kernel
set_option maxRecDepth 100000 in
theorem zok_102 : (List.range 4).all (fun b => zChk 102 (zbp 102 b) (zbl 102 b)) = true := by decide +kernel
set_option maxRecDepth 100000 in
theorem zok_103 : (List.range 3).all (fun b => zChk 103 (zbp 103 b) (zbl 103 b)) = true := by decide +kernel
set_option maxRecDepth 100000 in
theorem zok_104 : (List.range 6).all (fun b => zChk 104 (zbp 104 b) (zbl 104 b)) = true := by decide +kernel
set_option maxRecDepth 100000 in
theorem zok_105 : (List.range 8).all (fun b => zChk 105 (zbp 105 b) (zbl 105 b)) = true := by decide +kernel
set_option maxRecDepth 100000 in
theorem zok_106 : (List.range 9).all (fun b => zChk 106 (zbp 106 b) (zbl 106 b)) = true := by decide +kernel
set_option maxRecDepth 100000 in
theorem zok_107 : (List.range 8).all (fun b => zChk 107 (zbp 107 b) (zbl 107 b)) = true := by decide +kernel
set_option maxRecDepth 100000 in
theorem zok_108 : (List.range 6).all (fun b => zChk 108 (zbp 108 b) (zbl 108 b)) = true := by decide +kernel
set_option maxRecDepth 100000 in
theorem zok_109 : (List.range 6).all (fun b => zChk 109 (zbp 109 b) (zbl 109 b)) = true := by decide +kernel
set_option maxRecDepth 100000 in
theorem zok_110 : (List.range 4).all (fun b => zChk 110 (zbp 110 b) (zbl 110 b)) = true := by decide +kernel
set_option maxRecDepth 100000 in
theorem zok_111 : (List.range 7).all (fun b => zChk 111 (zbp 111 b) (zbl 111 b)) = true := by decide +kernel
set_option maxRecDepth 100000 in
theorem zok_112 : (List.range 8).all (fun b => zChk 112 (zbp 112 b) (zbl 112 b)) = true := by decide +kernel
set_option maxRecDepth 100000 in
theorem zok_113 : (List.range 10).all (fun b => zChk 113 (zbp 113 b) (zbl 113 b)) = true := by decide +kernel
set_option maxRecDepth 100000 in
theorem zok_114 : (List.range 4).all (fun b => zChk 114 (zbp 114 b) (zbl 114 b)) = true := by decide +kernel
set_option maxRecDepth 100000 in
theorem zok_115 : (List.range 9).all (fun b => zChk 115 (zbp 115 b) (zbl 115 b)) = true := by decide +kernel
set_option maxRecDepth 100000 in
theorem zok_116 : (List.range 4).all (fun b => zChk 116 (zbp 116 b) (zbl 116 b)) = true := by decide +kernel
set_option maxRecDepth 100000 in
theorem zok_117 : (List.range 6).all (fun b => zChk 117 (zbp 117 b) (zbl 117 b)) = true := by decide +kernel
set_option maxRecDepth 100000 in
theorem zok_118 : (List.range 6).all (fun b => zChk 118 (zbp 118 b) (zbl 118 b)) = true := by decide +kernel
set_option maxRecDepth 100000 in
theorem zok_119 : (List.range 7).all (fun b => zChk 119 (zbp 119 b) (zbl 119 b)) = true := by decide +kernel
set_option maxRecDepth 100000 in
theorem zok_120 : (List.range 4).all (fun b => zChk 120 (zbp 120 b) (zbl 120 b)) = true := by decide +kernel
set_option maxRecDepth 100000 in
theorem zok_121 : (List.range 6).all (fun b => zChk 121 (zbp 121 b) (zbl 121 b)) = true := by decide +kernel
set_option maxRecDepth 100000 in
theorem zok_122 : (List.range 8).all (fun b => zChk 122 (zbp 122 b) (zbl 122 b)) = true := by decide +kernel
set_option maxRecDepth 100000 in
theorem zok_123 : (List.range 6).all (fun b => zChk 123 (zbp 123 b) (zbl 123 b)) = true := by decide +kernel
set_option maxRecDepth 100000 in
theorem zok_124 : (List.range 11).all (fun b => zChk 124 (zbp 124 b) (zbl 124 b)) = true := by decide +kernel
set_option maxRecDepth 100000 in
theorem zok_125 : (List.range 6).all (fun b => zChk 125 (zbp 125 b) (zbl 125 b)) = true := by decide +kernel
set_option maxRecDepth 100000 in
theorem zok_126 : (List.range 12).all (fun b => zChk 126 (zbp 126 b) (zbl 126 b)) = true := by decide +kernel
set_option maxRecDepth 100000 in
theorem zok_127 : (List.range 8).all (fun b => zChk 127 (zbp 127 b) (zbl 127 b)) = true := by decide +kernel
set_option maxRecDepth 100000 in
theorem zok_128 : (List.range 8).all (fun b => zChk 128 (zbp 128 b) (zbl 128 b)) = true := by decide +kernel
set_option maxRecDepth 100000 in
theorem zok_129 : (List.range 12).all (fun b => zChk 129 (zbp 129 b) (zbl 129 b)) = true := by decide +kernel
set_option maxRecDepth 100000 in
theorem zok_130 : (List.range 6).all (fun b => zChk 130 (zbp 130 b) (zbl 130 b)) = true := by decide +kernel
set_option maxRecDepth 100000 in
theorem zok_131 : (List.range 5).all (fun b => zChk 131 (zbp 131 b) (zbl 131 b)) = true := by decide +kernel
set_option maxRecDepth 100000 in
theorem zok_132 : (List.range 3).all (fun b => zChk 132 (zbp 132 b) (zbl 132 b)) = true := by decide +kernel
set_option maxRecDepth 100000 in
theorem zok_133 : (List.range 4).all (fun b => zChk 133 (zbp 133 b) (zbl 133 b)) = true := by decide +kernel
set_option maxRecDepth 100000 in
theorem zok_134 : (List.range 6).all (fun b => zChk 134 (zbp 134 b) (zbl 134 b)) = true := by decide +kernel
set_option maxRecDepth 100000 in
theorem zok_135 : (List.range 5).all (fun b => zChk 135 (zbp 135 b) (zbl 135 b)) = true := by decide +kernel
set_option maxRecDepth 100000 in
theorem zok_136 : (List.range 4).all (fun b => zChk 136 (zbp 136 b) (zbl 136 b)) = true := by decide +kernel
set_option maxRecDepth 100000 in
theorem zok_137 : (List.range 7).all (fun b => zChk 137 (zbp 137 b) (zbl 137 b)) = true := by decide +kernel
set_option maxRecDepth 100000 in
theorem zok_138 : (List.range 4).all (fun b => zChk 138 (zbp 138 b) (zbl 138 b)) = true := by decide +kernel
set_option maxRecDepth 100000 in
theorem zok_139 : (List.range 3).all (fun b => zChk 139 (zbp 139 b) (zbl 139 b)) = true := by decide +kernel
set_option maxRecDepth 100000 in
theorem zok_140 : (List.range 5).all (fun b => zChk 140 (zbp 140 b) (zbl 140 b)) = true := by decide +kernel
set_option maxRecDepth 100000 in
theorem zok_141 : (List.range 5).all (fun b => zChk 141 (zbp 141 b) (zbl 141 b)) = true := by decide +kernel
set_option maxRecDepth 100000 in
theorem zok_142 : (List.range 16).all (fun b => zChk 142 (zbp 142 b) (zbl 142 b)) = true := by decide +kernel
set_option maxRecDepth 100000 in
theorem zok_143 : (List.range 6).all (fun b => zChk 143 (zbp 143 b) (zbl 143 b)) = true := by decide +kernel
set_option maxRecDepth 100000 in
theorem zok_144 : (List.range 6).all (fun b => zChk 144 (zbp 144 b) (zbl 144 b)) = true := by decide +kernel
set_option maxRecDepth 100000 in
theorem zok_145 : (List.range 10).all (fun b => zChk 145 (zbp 145 b) (zbl 145 b)) = true := by decide +kernel
set_option maxRecDepth 100000 in
theorem zok_146 : (List.range 5).all (fun b => zChk 146 (zbp 146 b) (zbl 146 b)) = true := by decide +kernel
set_option maxRecDepth 100000 in
theorem zok_147 : (List.range 4).all (fun b => zChk 147 (zbp 147 b) (zbl 147 b)) = true := by decide +kernel
set_option maxRecDepth 100000 in
theorem zok_148 : (List.range 7).all (fun b => zChk 148 (zbp 148 b) (zbl 148 b)) = true := by decide +kernel
set_option maxRecDepth 100000 in
theorem zok_149 : (List.range 4).all (fun b => zChk 149 (zbp 149 b) (zbl 149 b)) = true := by decide +kernel
set_option maxRecDepth 100000 in
theorem zok_150 : (List.range 4).all (fun b => zChk 150 (zbp 150 b) (zbl 150 b)) = true := by decide +kernel
set_option maxRecDepth 100000 in
theorem zok_151 : (List.range 11).all (fun b => zChk 151 (zbp 151 b) (zbl 151 b)) = true := by decide +kernel
set_option maxRecDepth 100000 in
theorem zok_152 : (List.range 1).all (fun b => zChk 152 (zbp 152 b) (zbl 152 b)) = true := by decide +kernel
set_option maxRecDepth 100000 in
theorem zok_153 : (List.range 10).all (fun b => zChk 153 (zbp 153 b) (zbl 153 b)) = true := by decide +kernel
set_option maxRecDepth 100000 in
theorem zok_154 : (List.range 1).all (fun b => zChk 154 (zbp 154 b) (zbl 154 b)) = true := by decide +kernel
set_option maxRecDepth 100000 in
theorem zok_155 : (List.range 4).all (fun b => zChk 155 (zbp 155 b) (zbl 155 b)) = true := by decide +kernel
set_option maxRecDepth 100000 in
theorem zok_156 : (List.range 1).all (fun b => zChk 156 (zbp 156 b) (zbl 156 b)) = true := by decide +kernel
set_option maxRecDepth 100000 in
theorem zok_157 : (List.range 7).all (fun b => zChk 157 (zbp 157 b) (zbl 157 b)) = true := by decide +kernel
set_option maxRecDepth 100000 in
theorem zok_158 : (List.range 4).all (fun b => zChk 158 (zbp 158 b) (zbl 158 b)) = true := by decide +kernel
set_option maxRecDepth 100000 in
theorem zok_159 : (List.range 4).all (fun b => zChk 159 (zbp 159 b) (zbl 159 b)) = true := by decide +kernel
set_option maxRecDepth 100000 in
theorem zok_160 : (List.range 6).all (fun b => zChk 160 (zbp 160 b) (zbl 160 b)) = true := by decide +kernel
set_option maxRecDepth 100000 in
theorem zok_161 : (List.range 6).all (fun b => zChk 161 (zbp 161 b) (zbl 161 b)) = true := by decide +kernel
set_option maxRecDepth 100000 in
theorem zok_162 : (List.range 11).all (fun b => zChk 162 (zbp 162 b) (zbl 162 b)) = true := by decide +kernel
set_option maxRecDepth 100000 in
theorem zok_163 : (List.range 11).all (fun b => zChk 163 (zbp 163 b) (zbl 163 b)) = true := by decide +kernel
set_option maxRecDepth 100000 in
theorem zok_164 : (List.range 10).all (fun b => zChk 164 (zbp 164 b) (zbl 164 b)) = true := by decide +kernel
set_option maxRecDepth 100000 in
theorem zok_165 : (List.range 3).all (fun b => zChk 165 (zbp 165 b) (zbl 165 b)) = true := by decide +kernel
set_option maxRecDepth 100000 in
theorem zok_166 : (List.range 5).all (fun b => zChk 166 (zbp 166 b) (zbl 166 b)) = true := by decide +kernel
set_option maxRecDepth 100000 in
theorem zok_167 : (List.range 7).all (fun b => zChk 167 (zbp 167 b) (zbl 167 b)) = true := by decide +kernel
set_option maxRecDepth 100000 in
theorem zok_168 : (List.range 8).all (fun b => zChk 168 (zbp 168 b) (zbl 168 b)) = true := by decide +kernel
set_option maxRecDepth 100000 in
theorem zok_169 : (List.range 12).all (fun b => zChk 169 (zbp 169 b) (zbl 169 b)) = true := by decide +kernel
set_option maxRecDepth 100000 in
theorem zok_170 : (List.range 5).all (fun b => zChk 170 (zbp 170 b) (zbl 170 b)) = true := by decide +kernel
set_option maxRecDepth 100000 in
theorem zok_171 : (List.range 1).all (fun b => zChk 171 (zbp 171 b) (zbl 171 b)) = true := by decide +kernel
set_option maxRecDepth 100000 in
theorem zok_172 : (List.range 10).all (fun b => zChk 172 (zbp 172 b) (zbl 172 b)) = true := by decide +kernel
set_option maxRecDepth 100000 in
theorem zok_173 : (List.range 8).all (fun b => zChk 173 (zbp 173 b) (zbl 173 b)) = true := by decide +kernel
set_option maxRecDepth 100000 in
theorem zok_174 : (List.range 7).all (fun b => zChk 174 (zbp 174 b) (zbl 174 b)) = true := by decide +kernel
set_option maxRecDepth 100000 in
theorem zok_175 : (List.range 21).all (fun b => zChk 175 (zbp 175 b) (zbl 175 b)) = true := by decide +kernel
set_option maxRecDepth 100000 in
theorem zok_176 : (List.range 3).all (fun b => zChk 176 (zbp 176 b) (zbl 176 b)) = true := by decide +kernel
set_option maxRecDepth 100000 in
theorem zok_177 : (List.range 4).all (fun b => zChk 177 (zbp 177 b) (zbl 177 b)) = true := by decide +kernel
set_option maxRecDepth 100000 in
theorem zok_178 : (List.range 3).all (fun b => zChk 178 (zbp 178 b) (zbl 178 b)) = true := by decide +kernel
set_option maxRecDepth 100000 in
theorem zok_179 : (List.range 6).all (fun b => zChk 179 (zbp 179 b) (zbl 179 b)) = true := by decide +kernel
set_option maxRecDepth 100000 in
theorem zok_180 : (List.range 27).all (fun b => zChk 180 (zbp 180 b) (zbl 180 b)) = true := by decide +kernel
set_option maxRecDepth 100000 in
theorem zok_181 : (List.range 4).all (fun b => zChk 181 (zbp 181 b) (zbl 181 b)) = true := by decide +kernel
set_option maxRecDepth 100000 in
theorem zok_182 : (List.range 3).all (fun b => zChk 182 (zbp 182 b) (zbl 182 b)) = true := by decide +kernel
set_option maxRecDepth 100000 in
theorem zok_183 : (List.range 6).all (fun b => zChk 183 (zbp 183 b) (zbl 183 b)) = true := by decide +kernel
set_option maxRecDepth 100000 in
theorem zok_184 : (List.range 3).all (fun b => zChk 184 (zbp 184 b) (zbl 184 b)) = true := by decide +kernel
set_option maxRecDepth 100000 in
theorem zok_185 : (List.range 3).all (fun b => zChk 185 (zbp 185 b) (zbl 185 b)) = true := by decide +kernel
set_option maxRecDepth 100000 in
theorem zok_186 : (List.range 7).all (fun b => zChk 186 (zbp 186 b) (zbl 186 b)) = true := by decide +kernel
set_option maxRecDepth 100000 in
theorem zok_187 : (List.range 1).all (fun b => zChk 187 (zbp 187 b) (zbl 187 b)) = true := by decide +kernel
set_option maxRecDepth 100000 in
theorem zok_188 : (List.range 5).all (fun b => zChk 188 (zbp 188 b) (zbl 188 b)) = true := by decide +kernel
set_option maxRecDepth 100000 in
theorem zok_189 : (List.range 1).all (fun b => zChk 189 (zbp 189 b) (zbl 189 b)) = true := by decide +kernel
set_option maxRecDepth 100000 in
theorem zok_190 : (List.range 4).all (fun b => zChk 190 (zbp 190 b) (zbl 190 b)) = true := by decide +kernel
set_option maxRecDepth 100000 in
theorem zok_191 : (List.range 6).all (fun b => zChk 191 (zbp 191 b) (zbl 191 b)) = true := by decide +kernel
set_option maxRecDepth 100000 in
theorem zok_192 : (List.range 1).all (fun b => zChk 192 (zbp 192 b) (zbl 192 b)) = true := by decide +kernel
set_option maxRecDepth 100000 in
theorem zok_193 : (List.range 1).all (fun b => zChk 193 (zbp 193 b) (zbl 193 b)) = true := by decide +kernel
set_option maxRecDepth 100000 in
theorem zok_194 : (List.range 1).all (fun b => zChk 194 (zbp 194 b) (zbl 194 b)) = true := by decide +kernel
set_option maxRecDepth 100000 in
theorem zok_195 : (List.range 5).all (fun b => zChk 195 (zbp 195 b) (zbl 195 b)) = true := by decide +kernel
set_option maxRecDepth 100000 in
theorem zok_196 : (List.range 11).all (fun b => zChk 196 (zbp 196 b) (zbl 196 b)) = true := by decide +kernel
set_option maxRecDepth 100000 in
theorem zok_197 : (List.range 14).all (fun b => zChk 197 (zbp 197 b) (zbl 197 b)) = true := by decide +kernel
set_option maxRecDepth 100000 in
theorem zok_198 : (List.range 4).all (fun b => zChk 198 (zbp 198 b) (zbl 198 b)) = true := by decide +kernel
set_option maxRecDepth 100000 in
theorem zok_199 : (List.range 12).all (fun b => zChk 199 (zbp 199 b) (zbl 199 b)) = true := by decide +kernel
set_option maxRecDepth 100000 in
theorem zok_200 : (List.range 4).all (fun b => zChk 200 (zbp 200 b) (zbl 200 b)) = true := by decide +kernel
set_option maxRecDepth 100000 in
theorem zok_201 : (List.range 1).all (fun b => zChk 201 (zbp 201 b) (zbl 201 b)) = true := by decide +kernel
set_option maxRecDepth 100000 in
theorem zok_202 : (List.range 4).all (fun b => zChk 202 (zbp 202 b) (zbl 202 b)) = true := by decide +kernel
set_option maxRecDepth 100000 in
theorem zok_203 : (List.range 1).all (fun b => zChk 203 (zbp 203 b) (zbl 203 b)) = true := by decide +kernel
set_option maxRecDepth 100000 in
theorem zok_204 : (List.range 5).all (fun b => zChk 204 (zbp 204 b) (zbl 204 b)) = true := by decide +kernel
set_option maxRecDepth 100000 in
theorem zok_205 : (List.range 1).all (fun b => zChk 205 (zbp 205 b) (zbl 205 b)) = true := by decide +kernel
set_option maxRecDepth 100000 in
theorem zok_206 : (List.range 1).all (fun b => zChk 206 (zbp 206 b) (zbl 206 b)) = true := by decide +kernel
set_option maxRecDepth 100000 in
theorem zok_207 : (List.range 4).all (fun b => zChk 207 (zbp 207 b) (zbl 207 b)) = true := by decide +kernel
set_option maxRecDepth 100000 in
theorem zok_208 : (List.range 4).all (fun b => zChk 208 (zbp 208 b) (zbl 208 b)) = true := by decide +kernel
set_option maxRecDepth 100000 in
theorem zok_209 : (List.range 7).all (fun b => zChk 209 (zbp 209 b) (zbl 209 b)) = true := by decide +kernel
set_option maxRecDepth 100000 in
theorem zok_210 : (List.range 26).all (fun b => zChk 210 (zbp 210 b) (zbl 210 b)) = true := by decide +kernel
set_option maxRecDepth 100000 in
theorem zok_211 : (List.range 1).all (fun b => zChk 211 (zbp 211 b) (zbl 211 b)) = true := by decide +kernel
set_option maxRecDepth 100000 in
theorem zok_212 : (List.range 4).all (fun b => zChk 212 (zbp 212 b) (zbl 212 b)) = true := by decide +kernel
set_option maxRecDepth 100000 in
theorem zok_213 : (List.range 4).all (fun b => zChk 213 (zbp 213 b) (zbl 213 b)) = true := by decide +kernel
set_option maxRecDepth 100000 in
theorem zok_214 : (List.range 7).all (fun b => zChk 214 (zbp 214 b) (zbl 214 b)) = true := by decide +kernel
set_option maxRecDepth 100000 in
theorem zok_215 : (List.range 20).all (fun b => zChk 215 (zbp 215 b) (zbl 215 b)) = true := by decide +kernel
set_option maxRecDepth 100000 in
theorem zok_216 : (List.range 4).all (fun b => zChk 216 (zbp 216 b) (zbl 216 b)) = true := by decide +kernel
set_option maxRecDepth 100000 in
theorem zok_217 : (List.range 4).all (fun b => zChk 217 (zbp 217 b) (zbl 217 b)) = true := by decide +kernel
set_option maxRecDepth 100000 in
theorem zok_218 : (List.range 4).all (fun b => zChk 218 (zbp 218 b) (zbl 218 b)) = true := by decide +kernel
set_option maxRecDepth 100000 in
theorem zok_219 : (List.range 4).all (fun b => zChk 219 (zbp 219 b) (zbl 219 b)) = true := by decide +kernel
set_option maxRecDepth 100000 in
theorem zok_220 : (List.range 7).all (fun b => zChk 220 (zbp 220 b) (zbl 220 b)) = true := by decide +kernel
set_option maxRecDepth 100000 in
theorem zok_221 : (List.range 21).all (fun b => zChk 221 (zbp 221 b) (zbl 221 b)) = true := by decide +kernel
set_option maxRecDepth 100000 in
theorem zok_222 : (List.range 7).all (fun b => zChk 222 (zbp 222 b) (zbl 222 b)) = true := by decide +kernel
set_option maxRecDepth 100000 in
theorem zok_223 : (List.range 5).all (fun b => zChk 223 (zbp 223 b) (zbl 223 b)) = true := by decide +kernel
set_option maxRecDepth 100000 in
theorem zok_224 : (List.range 7).all (fun b => zChk 224 (zbp 224 b) (zbl 224 b)) = true := by decide +kernel
set_option maxRecDepth 100000 in
theorem zok_225 : (List.range 7).all (fun b => zChk 225 (zbp 225 b) (zbl 225 b)) = true := by decide +kernel
set_option maxRecDepth 100000 in
theorem zok_226 : (List.range 7).all (fun b => zChk 226 (zbp 226 b) (zbl 226 b)) = true := by decide +kernel
set_option maxRecDepth 100000 in
theorem zok_227 : (List.range 3).all (fun b => zChk 227 (zbp 227 b) (zbl 227 b)) = true := by decide +kernel
set_option maxRecDepth 100000 in
theorem zok_228 : (List.range 8).all (fun b => zChk 228 (zbp 228 b) (zbl 228 b)) = true := by decide +kernel
set_option maxRecDepth 100000 in
theorem zok_229 : (List.range 7).all (fun b => zChk 229 (zbp 229 b) (zbl 229 b)) = true := by decide +kernel
set_option maxRecDepth 100000 in
theorem zok_230 : (List.range 3).all (fun b => zChk 230 (zbp 230 b) (zbl 230 b)) = true := by decide +kernel
set_option maxRecDepth 100000 in
theorem zok_231 : (List.range 3).all (fun b => zChk 231 (zbp 231 b) (zbl 231 b)) = true := by decide +kernel
set_option maxRecDepth 100000 in
theorem zok_232 : (List.range 3).all (fun b => zChk 232 (zbp 232 b) (zbl 232 b)) = true := by decide +kernel
set_option maxRecDepth 100000 in
theorem zok_233 : (List.range 10).all (fun b => zChk 233 (zbp 233 b) (zbl 233 b)) = true := by decide +kernel
set_option maxRecDepth 100000 in
theorem zok_234 : (List.range 1).all (fun b => zChk 234 (zbp 234 b) (zbl 234 b)) = true := by decide +kernel
set_option maxRecDepth 100000 in
theorem zok_235 : (List.range 3).all (fun b => zChk 235 (zbp 235 b) (zbl 235 b)) = true := by decide +kernel
set_option maxRecDepth 100000 in
theorem zok_236 : (List.range 4).all (fun b => zChk 236 (zbp 236 b) (zbl 236 b)) = true := by decide +kernel
set_option maxRecDepth 100000 in
theorem zok_237 : (List.range 10).all (fun b => zChk 237 (zbp 237 b) (zbl 237 b)) = true := by decide +kernel
set_option maxRecDepth 100000 in
theorem zok_238 : (List.range 13).all (fun b => zChk 238 (zbp 238 b) (zbl 238 b)) = true := by decide +kernel
set_option maxRecDepth 100000 in
theorem zok_239 : (List.range 4).all (fun b => zChk 239 (zbp 239 b) (zbl 239 b)) = true := by decide +kernel
set_option maxRecDepth 100000 in
theorem zok_240 : (List.range 5).all (fun b => zChk 240 (zbp 240 b) (zbl 240 b)) = true := by decide +kernel
set_option maxRecDepth 100000 in
theorem zok_241 : (List.range 7).all (fun b => zChk 241 (zbp 241 b) (zbl 241 b)) = true := by decide +kernel
set_option maxRecDepth 100000 in
theorem zok_242 : (List.range 3).all (fun b => zChk 242 (zbp 242 b) (zbl 242 b)) = true := by decide +kernel
set_option maxRecDepth 100000 in
theorem zok_243 : (List.range 7).all (fun b => zChk 243 (zbp 243 b) (zbl 243 b)) = true := by decide +kernel
set_option maxRecDepth 100000 in
theorem zok_244 : (List.range 4).all (fun b => zChk 244 (zbp 244 b) (zbl 244 b)) = true := by decide +kernel
set_option maxRecDepth 100000 in
theorem zok_245 : (List.range 3).all (fun b => zChk 245 (zbp 245 b) (zbl 245 b)) = true := by decide +kernel
set_option maxRecDepth 100000 in
theorem zok_246 : (List.range 11).all (fun b => zChk 246 (zbp 246 b) (zbl 246 b)) = true := by decide +kernel
set_option maxRecDepth 100000 in
theorem zok_247 : (List.range 9).all (fun b => zChk 247 (zbp 247 b) (zbl 247 b)) = true := by decide +kernel
set_option maxRecDepth 100000 in
theorem zok_248 : (List.range 6).all (fun b => zChk 248 (zbp 248 b) (zbl 248 b)) = true := by decide +kernel
set_option maxRecDepth 100000 in
theorem zok_249 : (List.range 7).all (fun b => zChk 249 (zbp 249 b) (zbl 249 b)) = true := by decide +kernel
set_option maxRecDepth 100000 in
theorem zok_250 : (List.range 3).all (fun b => zChk 250 (zbp 250 b) (zbl 250 b)) = true := by decide +kernel
set_option maxRecDepth 100000 in
theorem zok_251 : (List.range 8).all (fun b => zChk 251 (zbp 251 b) (zbl 251 b)) = true := by decide +kernel
set_option maxRecDepth 100000 in
theorem zok_252 : (List.range 10).all (fun b => zChk 252 (zbp 252 b) (zbl 252 b)) = true := by decide +kernel
set_option maxRecDepth 100000 in
theorem zok_253 : (List.range 8).all (fun b => zChk 253 (zbp 253 b) (zbl 253 b)) = true := by decide +kernel
set_option maxRecDepth 100000 in
theorem zok_254 : (List.range 29).all (fun b => zChk 254 (zbp 254 b) (zbl 254 b)) = true := by decide +kernel
set_option maxRecDepth 100000 in
theorem zok_255 : (List.range 4).all (fun b => zChk 255 (zbp 255 b) (zbl 255 b)) = true := by decide +kernel
set_option maxRecDepth 100000 in
theorem zok_256 : (List.range 5).all (fun b => zChk 256 (zbp 256 b) (zbl 256 b)) = true := by decide +kernel
set_option maxRecDepth 100000 in
theorem zok_257 : (List.range 6).all (fun b => zChk 257 (zbp 257 b) (zbl 257 b)) = true := by decide +kernel
set_option maxRecDepth 100000 in
theorem zok_258 : (List.range 14).all (fun b => zChk 258 (zbp 258 b) (zbl 258 b)) = true := by decide +kernel
set_option maxRecDepth 100000 in
theorem zok_259 : (List.range 3).all (fun b => zChk 259 (zbp 259 b) (zbl 259 b)) = true := by decide +kernel
set_option maxRecDepth 100000 in
theorem zok_260 : (List.range 6).all (fun b => zChk 260 (zbp 260 b) (zbl 260 b)) = true := by decide +kernel
set_option maxRecDepth 100000 in
theorem zok_261 : (List.range 9).all (fun b => zChk 261 (zbp 261 b) (zbl 261 b)) = true := by decide +kernel
set_option maxRecDepth 100000 in
theorem zok_262 : (List.range 7).all (fun b => zChk 262 (zbp 262 b) (zbl 262 b)) = true := by decide +kernel
set_option maxRecDepth 100000 in
theorem zok_263 : (List.range 5).all (fun b => zChk 263 (zbp 263 b) (zbl 263 b)) = true := by decide +kernel
set_option maxRecDepth 100000 in
theorem zok_264 : (List.range 6).all (fun b => zChk 264 (zbp 264 b) (zbl 264 b)) = true := by decide +kernel
set_option maxRecDepth 100000 in
theorem zok_265 : (List.range 6).all (fun b => zChk 265 (zbp 265 b) (zbl 265 b)) = true := by decide +kernel
set_option maxRecDepth 100000 in
theorem zok_266 : (List.range 3).all (fun b => zChk 266 (zbp 266 b) (zbl 266 b)) = true := by decide +kernel
set_option maxRecDepth 100000 in
theorem zok_267 : (List.range 3).all (fun b => zChk 267 (zbp 267 b) (zbl 267 b)) = true := by decide +kernel
set_option maxRecDepth 100000 in
theorem zok_268 : (List.range 16).all (fun b => zChk 268 (zbp 268 b) (zbl 268 b)) = true := by decide +kernel
set_option maxRecDepth 100000 in
theorem zok_269 : (List.range 23).all (fun b => zChk 269 (zbp 269 b) (zbl 269 b)) = true := by decide +kernel
set_option maxRecDepth 100000 in
theorem zok_270 : (List.range 8).all (fun b => zChk 270 (zbp 270 b) (zbl 270 b)) = true := by decide +kernel
set_option maxRecDepth 100000 in
theorem zok_271 : (List.range 12).all (fun b => zChk 271 (zbp 271 b) (zbl 271 b)) = true := by decide +kernel
set_option maxRecDepth 100000 in
theorem zok_272 : (List.range 6).all (fun b => zChk 272 (zbp 272 b) (zbl 272 b)) = true := by decide +kernel
set_option maxRecDepth 100000 in
theorem zok_273 : (List.range 5).all (fun b => zChk 273 (zbp 273 b) (zbl 273 b)) = true := by decide +kernel
set_option maxRecDepth 100000 in
theorem zok_274 : (List.range 3).all (fun b => zChk 274 (zbp 274 b) (zbl 274 b)) = true := by decide +kernel
set_option maxRecDepth 100000 in
theorem zok_275 : (List.range 8).all (fun b => zChk 275 (zbp 275 b) (zbl 275 b)) = true := by decide +kernel
set_option maxRecDepth 100000 in
theorem zok_276 : (List.range 6).all (fun b => zChk 276 (zbp 276 b) (zbl 276 b)) = true := by decide +kernel
set_option maxRecDepth 100000 in
theorem zok_277 : (List.range 13).all (fun b => zChk 277 (zbp 277 b) (zbl 277 b)) = true := by decide +kernel
set_option maxRecDepth 100000 in
theorem zok_278 : (List.range 6).all (fun b => zChk 278 (zbp 278 b) (zbl 278 b)) = true := by decide +kernel
set_option maxRecDepth 100000 in
theorem zok_279 : (List.range 4).all (fun b => zChk 279 (zbp 279 b) (zbl 279 b)) = true := by decide +kernel
set_option maxRecDepth 100000 in
theorem zok_280 : (List.range 6).all (fun b => zChk 280 (zbp 280 b) (zbl 280 b)) = true := by decide +kernel
set_option maxRecDepth 100000 in
theorem zok_281 : (List.range 12).all (fun b => zChk 281 (zbp 281 b) (zbl 281 b)) = true := by decide +kernel
set_option maxRecDepth 100000 in
theorem zok_282 : (List.range 6).all (fun b => zChk 282 (zbp 282 b) (zbl 282 b)) = true := by decide +kernel
set_option maxRecDepth 100000 in
theorem zok_283 : (List.range 4).all (fun b => zChk 283 (zbp 283 b) (zbl 283 b)) = true := by decide +kernel
set_option maxRecDepth 100000 in
theorem zok_284 : (List.range 3).all (fun b => zChk 284 (zbp 284 b) (zbl 284 b)) = true := by decide +kernel
set_option maxRecDepth 100000 in
theorem zok_285 : (List.range 4).all (fun b => zChk 285 (zbp 285 b) (zbl 285 b)) = true := by decide +kernel
set_option maxRecDepth 100000 in
theorem zok_286 : (List.range 7).all (fun b => zChk 286 (zbp 286 b) (zbl 286 b)) = true := by decide +kernel
set_option maxRecDepth 100000 in
theorem zok_287 : (List.range 4).all (fun b => zChk 287 (zbp 287 b) (zbl 287 b)) = true := by decide +kernel
set_option maxRecDepth 100000 in
theorem zok_288 : (List.range 8).all (fun b => zChk 288 (zbp 288 b) (zbl 288 b)) = true := by decide +kernel
set_option maxRecDepth 100000 in
theorem zok_289 : (List.range 7).all (fun b => zChk 289 (zbp 289 b) (zbl 289 b)) = true := by decide +kernel
set_option maxRecDepth 100000 in
theorem zok_290 : (List.range 5).all (fun b => zChk 290 (zbp 290 b) (zbl 290 b)) = true := by decide +kernel
set_option maxRecDepth 100000 in
theorem zok_291 : (List.range 5).all (fun b => zChk 291 (zbp 291 b) (zbl 291 b)) = true := by decide +kernel
set_option maxRecDepth 100000 in
theorem zok_292 : (List.range 4).all (fun b => zChk 292 (zbp 292 b) (zbl 292 b)) = true := by decide +kernel
set_option maxRecDepth 100000 in
theorem zok_293 : (List.range 11).all (fun b => zChk 293 (zbp 293 b) (zbl 293 b)) = true := by decide +kernel
set_option maxRecDepth 100000 in
theorem zok_294 : (List.range 12).all (fun b => zChk 294 (zbp 294 b) (zbl 294 b)) = true := by decide +kernel
set_option maxRecDepth 100000 in
theorem zok_295 : (List.range 11).all (fun b => zChk 295 (zbp 295 b) (zbl 295 b)) = true := by decide +kernel
set_option maxRecDepth 100000 in
theorem zok_296 : (List.range 4).all (fun b => zChk 296 (zbp 296 b) (zbl 296 b)) = true := by decide +kernel
set_option maxRecDepth 100000 in
theorem zok_297 : (List.range 11).all (fun b => zChk 297 (zbp 297 b) (zbl 297 b)) = true := by decide +kernel
set_option maxRecDepth 100000 in
theorem zok_298 : (List.range 4).all (fun b => zChk 298 (zbp 298 b) (zbl 298 b)) = true := by decide +kernel
set_option maxRecDepth 100000 in
theorem zok_299 : (List.range 19).all (fun b => zChk 299 (zbp 299 b) (zbl 299 b)) = true := by decide +kernel
set_option maxRecDepth 100000 in
theorem zok_300 : (List.range 3).all (fun b => zChk 300 (zbp 300 b) (zbl 300 b)) = true := by decide +kernel
set_option maxRecDepth 100000 in
theorem zok_301 : (List.range 3).all (fun b => zChk 301 (zbp 301 b) (zbl 301 b)) = true := by decide +kernel
set_option maxRecDepth 100000 in
theorem zok_302 : (List.range 15).all (fun b => zChk 302 (zbp 302 b) (zbl 302 b)) = true := by decide +kernel
set_option maxRecDepth 100000 in
theorem zok_303 : (List.range 6).all (fun b => zChk 303 (zbp 303 b) (zbl 303 b)) = true := by decide +kernel
set_option maxRecDepth 100000 in
theorem zok_304 : (List.range 11).all (fun b => zChk 304 (zbp 304 b) (zbl 304 b)) = true := by decide +kernel
set_option maxRecDepth 100000 in
theorem zok_305 : (List.range 10).all (fun b => zChk 305 (zbp 305 b) (zbl 305 b)) = true := by decide +kernel
set_option maxRecDepth 100000 in
theorem zok_306 : (List.range 6).all (fun b => zChk 306 (zbp 306 b) (zbl 306 b)) = true := by decide +kernel
set_option maxRecDepth 100000 in
theorem zok_307 : (List.range 6).all (fun b => zChk 307 (zbp 307 b) (zbl 307 b)) = true := by decide +kernel
set_option maxRecDepth 100000 in
theorem zok_308 : (List.range 18).all (fun b => zChk 308 (zbp 308 b) (zbl 308 b)) = true := by decide +kernel
set_option maxRecDepth 100000 in
theorem zok_309 : (List.range 3).all (fun b => zChk 309 (zbp 309 b) (zbl 309 b)) = true := by decide +kernel
set_option maxRecDepth 100000 in
theorem zok_310 : (List.range 5).all (fun b => zChk 310 (zbp 310 b) (zbl 310 b)) = true := by decide +kernel
theorem zbl_out {y b n : Nat} {B : List (List zOp)} (hB : zBL.getD y [] = B) (hn : B.length = n) (h : ¬ b < n) : zbl y b = [] := by
  unfold zbl
  rw [hB, List.getD_eq_getElem?_getD, List.getElem?_eq_none (by omega)]
  rfl
theorem zok_of {y n : Nat} {B : List (List zOp)} (hB : zBL.getD y [] = B) (hn : B.length = n) (h0 : zbp y 0 = 0) (h : (List.range n).all (fun b => zChk y (zbp y b) (zbl y b)) = true) : zbp y 0 = 0 ∧ ∀ b, zChk y (zbp y b) (zbl y b) = true := by
  refine ⟨h0, fun b => ?_⟩
  by_cases q : b < n
  · exact List.all_eq_true.mp h b (List.mem_range.mpr q)
  · rw [zbl_out hB hn q]; rfl
set_option maxRecDepth 100000 in
theorem zok_all : ∀ y, y < 311 → zbp y 0 = 0 ∧ ∀ b, zChk y (zbp y b) (zbl y b) = true := by
  intro y hy
  match y, hy with
  | 0, _ => exact zok_of (B := zB0) rfl rfl rfl zok_0
  | 1, _ => exact zok_of (B := zB1) rfl rfl rfl zok_1
  | 2, _ => exact zok_of (B := zB2) rfl rfl rfl zok_2
  | 3, _ => exact zok_of (B := zB3) rfl rfl rfl zok_3
  | 4, _ => exact zok_of (B := zB4) rfl rfl rfl zok_4
  | 5, _ => exact zok_of (B := zB5) rfl rfl rfl zok_5
  | 6, _ => exact zok_of (B := zB6) rfl rfl rfl zok_6
  | 7, _ => exact zok_of (B := zB7) rfl rfl rfl zok_7
  | 8, _ => exact zok_of (B := zB8) rfl rfl rfl zok_8
  | 9, _ => exact zok_of (B := zB9) rfl rfl rfl zok_9
  | 10, _ => exact zok_of (B := zB10) rfl rfl rfl zok_10
  | 11, _ => exact zok_of (B := zB11) rfl rfl rfl zok_11
  | 12, _ => exact zok_of (B := zB12) rfl rfl rfl zok_12
  | 13, _ => exact zok_of (B := zB13) rfl rfl rfl zok_13
  | 14, _ => exact zok_of (B := zB14) rfl rfl rfl zok_14
  | 15, _ => exact zok_of (B := zB15) rfl rfl rfl zok_15
  | 16, _ => exact zok_of (B := zB16) rfl rfl rfl zok_16
  | 17, _ => exact zok_of (B := zB17) rfl rfl rfl zok_17
  | 18, _ => exact zok_of (B := zB18) rfl rfl rfl zok_18
  | 19, _ => exact zok_of (B := zB19) rfl rfl rfl zok_19
  | 20, _ => exact zok_of (B := zB20) rfl rfl rfl zok_20
  | 21, _ => exact zok_of (B := zB21) rfl rfl rfl zok_21
  | 22, _ => exact zok_of (B := zB22) rfl rfl rfl zok_22
  | 23, _ => exact zok_of (B := zB23) rfl rfl rfl zok_23
  | 24, _ => exact zok_of (B := zB24) rfl rfl rfl zok_24
  | 25, _ => exact zok_of (B := zB25) rfl rfl rfl zok_25
  | 26, _ => exact zok_of (B := zB26) rfl rfl rfl zok_26
  | 27, _ => exact zok_of (B := zB27) rfl rfl rfl zok_27
  | 28, _ => exact zok_of (B := zB28) rfl rfl rfl zok_28
  | 29, _ => exact zok_of (B := zB29) rfl rfl rfl zok_29
  | 30, _ => exact zok_of (B := zB30) rfl rfl rfl zok_30
  | 31, _ => exact zok_of (B := zB31) rfl rfl rfl zok_31
  | 32, _ => exact zok_of (B := zB32) rfl rfl rfl zok_32
  | 33, _ => exact zok_of (B := zB33) rfl rfl rfl zok_33
  | 34, _ => exact zok_of (B := zB34) rfl rfl rfl zok_34
  | 35, _ => exact zok_of (B := zB35) rfl rfl rfl zok_35
  | 36, _ => exact zok_of (B := zB36) rfl rfl rfl zok_36
  | 37, _ => exact zok_of (B := zB37) rfl rfl rfl zok_37
  | 38, _ => exact zok_of (B := zB38) rfl rfl rfl zok_38
  | 39, _ => exact zok_of (B := zB39) rfl rfl rfl zok_39
  | 40, _ => exact zok_of (B := zB40) rfl rfl rfl zok_40
  | 41, _ => exact zok_of (B := zB41) rfl rfl rfl zok_41
  | 42, _ => exact zok_of (B := zB42) rfl rfl rfl zok_42
  | 43, _ => exact zok_of (B := zB43) rfl rfl rfl zok_43
  | 44, _ => exact zok_of (B := zB44) rfl rfl rfl zok_44
  | 45, _ => exact zok_of (B := zB45) rfl rfl rfl zok_45
  | 46, _ => exact zok_of (B := zB46) rfl rfl rfl zok_46
  | 47, _ => exact zok_of (B := zB47) rfl rfl rfl zok_47
  | 48, _ => exact zok_of (B := zB48) rfl rfl rfl zok_48
  | 49, _ => exact zok_of (B := zB49) rfl rfl rfl zok_49
  | 50, _ => exact zok_of (B := zB50) rfl rfl rfl zok_50
  | 51, _ => exact zok_of (B := zB51) rfl rfl rfl zok_51
  | 52, _ => exact zok_of (B := zB52) rfl rfl rfl zok_52
  | 53, _ => exact zok_of (B := zB53) rfl rfl rfl zok_53
  | 54, _ => exact zok_of (B := zB54) rfl rfl rfl zok_54
  | 55, _ => exact zok_of (B := zB55) rfl rfl rfl zok_55
  | 56, _ => exact zok_of (B := zB56) rfl rfl rfl zok_56
  | 57, _ => exact zok_of (B := zB57) rfl rfl rfl zok_57
  | 58, _ => exact zok_of (B := zB58) rfl rfl rfl zok_58
  | 59, _ => exact zok_of (B := zB59) rfl rfl rfl zok_59
  | 60, _ => exact zok_of (B := zB60) rfl rfl rfl zok_60
  | 61, _ => exact zok_of (B := zB61) rfl rfl rfl zok_61
  | 62, _ => exact zok_of (B := zB62) rfl rfl rfl zok_62
  | 63, _ => exact zok_of (B := zB63) rfl rfl rfl zok_63
  | 64, _ => exact zok_of (B := zB64) rfl rfl rfl zok_64
  | 65, _ => exact zok_of (B := zB65) rfl rfl rfl zok_65
  | 66, _ => exact zok_of (B := zB66) rfl rfl rfl zok_66
  | 67, _ => exact zok_of (B := zB67) rfl rfl rfl zok_67
  | 68, _ => exact zok_of (B := zB68) rfl rfl rfl zok_68
  | 69, _ => exact zok_of (B := zB69) rfl rfl rfl zok_69
  | 70, _ => exact zok_of (B := zB70) rfl rfl rfl zok_70
  | 71, _ => exact zok_of (B := zB71) rfl rfl rfl zok_71
  | 72, _ => exact zok_of (B := zB72) rfl rfl rfl zok_72
  | 73, _ => exact zok_of (B := zB73) rfl rfl rfl zok_73
  | 74, _ => exact zok_of (B := zB74) rfl rfl rfl zok_74
  | 75, _ => exact zok_of (B := zB75) rfl rfl rfl zok_75
  | 76, _ => exact zok_of (B := zB76) rfl rfl rfl zok_76
  | 77, _ => exact zok_of (B := zB77) rfl rfl rfl zok_77
  | 78, _ => exact zok_of (B := zB78) rfl rfl rfl zok_78
  | 79, _ => exact zok_of (B := zB79) rfl rfl rfl zok_79
  | 80, _ => exact zok_of (B := zB80) rfl rfl rfl zok_80
  | 81, _ => exact zok_of (B := zB81) rfl rfl rfl zok_81
  | 82, _ => exact zok_of (B := zB82) rfl rfl rfl zok_82
  | 83, _ => exact zok_of (B := zB83) rfl rfl rfl zok_83
  | 84, _ => exact zok_of (B := zB84) rfl rfl rfl zok_84
  | 85, _ => exact zok_of (B := zB85) rfl rfl rfl zok_85
  | 86, _ => exact zok_of (B := zB86) rfl rfl rfl zok_86
  | 87, _ => exact zok_of (B := zB87) rfl rfl rfl zok_87
  | 88, _ => exact zok_of (B := zB88) rfl rfl rfl zok_88
  | 89, _ => exact zok_of (B := zB89) rfl rfl rfl zok_89
  | 90, _ => exact zok_of (B := zB90) rfl rfl rfl zok_90
  | 91, _ => exact zok_of (B := zB91) rfl rfl rfl zok_91
  | 92, _ => exact zok_of (B := zB92) rfl rfl rfl zok_92
  | 93, _ => exact zok_of (B := zB93) rfl rfl rfl zok_93
  | 94, _ => exact zok_of (B := zB94) rfl rfl rfl zok_94
  | 95, _ => exact zok_of (B := zB95) rfl rfl rfl zok_95
  | 96, _ => exact zok_of (B := zB96) rfl rfl rfl zok_96
  | 97, _ => exact zok_of (B := zB97) rfl rfl rfl zok_97
  | 98, _ => exact zok_of (B := zB98) rfl rfl rfl zok_98
  | 99, _ => exact zok_of (B := zB99) rfl rfl rfl zok_99
  | 100, _ => exact zok_of (B := zB100) rfl rfl rfl zok_100
  | 101, _ => exact zok_of (B := zB101) rfl rfl rfl zok_101
  | 102, _ => exact zok_of (B := zB102) rfl rfl rfl zok_102
  | 103, _ => exact zok_of (B := zB103) rfl rfl rfl zok_103
  | 104, _ => exact zok_of (B := zB104) rfl rfl rfl zok_104
  | 105, _ => exact zok_of (B := zB105) rfl rfl rfl zok_105
  | 106, _ => exact zok_of (B := zB106) rfl rfl rfl zok_106
  | 107, _ => exact zok_of (B := zB107) rfl rfl rfl zok_107
  | 108, _ => exact zok_of (B := zB108) rfl rfl rfl zok_108
  | 109, _ => exact zok_of (B := zB109) rfl rfl rfl zok_109
  | 110, _ => exact zok_of (B := zB110) rfl rfl rfl zok_110
  | 111, _ => exact zok_of (B := zB111) rfl rfl rfl zok_111
  | 112, _ => exact zok_of (B := zB112) rfl rfl rfl zok_112
  | 113, _ => exact zok_of (B := zB113) rfl rfl rfl zok_113
  | 114, _ => exact zok_of (B := zB114) rfl rfl rfl zok_114
  | 115, _ => exact zok_of (B := zB115) rfl rfl rfl zok_115
  | 116, _ => exact zok_of (B := zB116) rfl rfl rfl zok_116
  | 117, _ => exact zok_of (B := zB117) rfl rfl rfl zok_117
  | 118, _ => exact zok_of (B := zB118) rfl rfl rfl zok_118
  | 119, _ => exact zok_of (B := zB119) rfl rfl rfl zok_119
  | 120, _ => exact zok_of (B := zB120) rfl rfl rfl zok_120
  | 121, _ => exact zok_of (B := zB121) rfl rfl rfl zok_121
  | 122, _ => exact zok_of (B := zB122) rfl rfl rfl zok_122
  | 123, _ => exact zok_of (B := zB123) rfl rfl rfl zok_123
  | 124, _ => exact zok_of (B := zB124) rfl rfl rfl zok_124
  | 125, _ => exact zok_of (B := zB125) rfl rfl rfl zok_125
  | 126, _ => exact zok_of (B := zB126) rfl rfl rfl zok_126
  | 127, _ => exact zok_of (B := zB127) rfl rfl rfl zok_127
  | 128, _ => exact zok_of (B := zB128) rfl rfl rfl zok_128
  | 129, _ => exact zok_of (B := zB129) rfl rfl rfl zok_129
  | 130, _ => exact zok_of (B := zB130) rfl rfl rfl zok_130
  | 131, _ => exact zok_of (B := zB131) rfl rfl rfl zok_131
  | 132, _ => exact zok_of (B := zB132) rfl rfl rfl zok_132
  | 133, _ => exact zok_of (B := zB133) rfl rfl rfl zok_133
  | 134, _ => exact zok_of (B := zB134) rfl rfl rfl zok_134
  | 135, _ => exact zok_of (B := zB135) rfl rfl rfl zok_135
  | 136, _ => exact zok_of (B := zB136) rfl rfl rfl zok_136
  | 137, _ => exact zok_of (B := zB137) rfl rfl rfl zok_137
  | 138, _ => exact zok_of (B := zB138) rfl rfl rfl zok_138
  | 139, _ => exact zok_of (B := zB139) rfl rfl rfl zok_139
  | 140, _ => exact zok_of (B := zB140) rfl rfl rfl zok_140
  | 141, _ => exact zok_of (B := zB141) rfl rfl rfl zok_141
  | 142, _ => exact zok_of (B := zB142) rfl rfl rfl zok_142
  | 143, _ => exact zok_of (B := zB143) rfl rfl rfl zok_143
  | 144, _ => exact zok_of (B := zB144) rfl rfl rfl zok_144
  | 145, _ => exact zok_of (B := zB145) rfl rfl rfl zok_145
  | 146, _ => exact zok_of (B := zB146) rfl rfl rfl zok_146
  | 147, _ => exact zok_of (B := zB147) rfl rfl rfl zok_147
  | 148, _ => exact zok_of (B := zB148) rfl rfl rfl zok_148
  | 149, _ => exact zok_of (B := zB149) rfl rfl rfl zok_149
  | 150, _ => exact zok_of (B := zB150) rfl rfl rfl zok_150
  | 151, _ => exact zok_of (B := zB151) rfl rfl rfl zok_151
  | 152, _ => exact zok_of (B := zB152) rfl rfl rfl zok_152
  | 153, _ => exact zok_of (B := zB153) rfl rfl rfl zok_153
  | 154, _ => exact zok_of (B := zB154) rfl rfl rfl zok_154
  | 155, _ => exact zok_of (B := zB155) rfl rfl rfl zok_155
  | 156, _ => exact zok_of (B := zB156) rfl rfl rfl zok_156
  | 157, _ => exact zok_of (B := zB157) rfl rfl rfl zok_157
  | 158, _ => exact zok_of (B := zB158) rfl rfl rfl zok_158
  | 159, _ => exact zok_of (B := zB159) rfl rfl rfl zok_159
  | 160, _ => exact zok_of (B := zB160) rfl rfl rfl zok_160
  | 161, _ => exact zok_of (B := zB161) rfl rfl rfl zok_161
  | 162, _ => exact zok_of (B := zB162) rfl rfl rfl zok_162
  | 163, _ => exact zok_of (B := zB163) rfl rfl rfl zok_163
  | 164, _ => exact zok_of (B := zB164) rfl rfl rfl zok_164
  | 165, _ => exact zok_of (B := zB165) rfl rfl rfl zok_165
  | 166, _ => exact zok_of (B := zB166) rfl rfl rfl zok_166
  | 167, _ => exact zok_of (B := zB167) rfl rfl rfl zok_167
  | 168, _ => exact zok_of (B := zB168) rfl rfl rfl zok_168
  | 169, _ => exact zok_of (B := zB169) rfl rfl rfl zok_169
  | 170, _ => exact zok_of (B := zB170) rfl rfl rfl zok_170
  | 171, _ => exact zok_of (B := zB171) rfl rfl rfl zok_171
  | 172, _ => exact zok_of (B := zB172) rfl rfl rfl zok_172
  | 173, _ => exact zok_of (B := zB173) rfl rfl rfl zok_173
  | 174, _ => exact zok_of (B := zB174) rfl rfl rfl zok_174
  | 175, _ => exact zok_of (B := zB175) rfl rfl rfl zok_175
  | 176, _ => exact zok_of (B := zB176) rfl rfl rfl zok_176
  | 177, _ => exact zok_of (B := zB177) rfl rfl rfl zok_177
  | 178, _ => exact zok_of (B := zB178) rfl rfl rfl zok_178
  | 179, _ => exact zok_of (B := zB179) rfl rfl rfl zok_179
  | 180, _ => exact zok_of (B := zB180) rfl rfl rfl zok_180
  | 181, _ => exact zok_of (B := zB181) rfl rfl rfl zok_181
  | 182, _ => exact zok_of (B := zB182) rfl rfl rfl zok_182
  | 183, _ => exact zok_of (B := zB183) rfl rfl rfl zok_183
  | 184, _ => exact zok_of (B := zB184) rfl rfl rfl zok_184
  | 185, _ => exact zok_of (B := zB185) rfl rfl rfl zok_185
  | 186, _ => exact zok_of (B := zB186) rfl rfl rfl zok_186
  | 187, _ => exact zok_of (B := zB187) rfl rfl rfl zok_187
  | 188, _ => exact zok_of (B := zB188) rfl rfl rfl zok_188
  | 189, _ => exact zok_of (B := zB189) rfl rfl rfl zok_189
  | 190, _ => exact zok_of (B := zB190) rfl rfl rfl zok_190
  | 191, _ => exact zok_of (B := zB191) rfl rfl rfl zok_191
  | 192, _ => exact zok_of (B := zB192) rfl rfl rfl zok_192
  | 193, _ => exact zok_of (B := zB193) rfl rfl rfl zok_193
  | 194, _ => exact zok_of (B := zB194) rfl rfl rfl zok_194
  | 195, _ => exact zok_of (B := zB195) rfl rfl rfl zok_195
  | 196, _ => exact zok_of (B := zB196) rfl rfl rfl zok_196
  | 197, _ => exact zok_of (B := zB197) rfl rfl rfl zok_197
  | 198, _ => exact zok_of (B := zB198) rfl rfl rfl zok_198
  | 199, _ => exact zok_of (B := zB199) rfl rfl rfl zok_199
  | 200, _ => exact zok_of (B := zB200) rfl rfl rfl zok_200
  | 201, _ => exact zok_of (B := zB201) rfl rfl rfl zok_201
  | 202, _ => exact zok_of (B := zB202) rfl rfl rfl zok_202
  | 203, _ => exact zok_of (B := zB203) rfl rfl rfl zok_203
  | 204, _ => exact zok_of (B := zB204) rfl rfl rfl zok_204
  | 205, _ => exact zok_of (B := zB205) rfl rfl rfl zok_205
  | 206, _ => exact zok_of (B := zB206) rfl rfl rfl zok_206
  | 207, _ => exact zok_of (B := zB207) rfl rfl rfl zok_207
  | 208, _ => exact zok_of (B := zB208) rfl rfl rfl zok_208
  | 209, _ => exact zok_of (B := zB209) rfl rfl rfl zok_209
  | 210, _ => exact zok_of (B := zB210) rfl rfl rfl zok_210
  | 211, _ => exact zok_of (B := zB211) rfl rfl rfl zok_211
  | 212, _ => exact zok_of (B := zB212) rfl rfl rfl zok_212
  | 213, _ => exact zok_of (B := zB213) rfl rfl rfl zok_213
  | 214, _ => exact zok_of (B := zB214) rfl rfl rfl zok_214
  | 215, _ => exact zok_of (B := zB215) rfl rfl rfl zok_215
  | 216, _ => exact zok_of (B := zB216) rfl rfl rfl zok_216
  | 217, _ => exact zok_of (B := zB217) rfl rfl rfl zok_217
  | 218, _ => exact zok_of (B := zB218) rfl rfl rfl zok_218
  | 219, _ => exact zok_of (B := zB219) rfl rfl rfl zok_219
  | 220, _ => exact zok_of (B := zB220) rfl rfl rfl zok_220
  | 221, _ => exact zok_of (B := zB221) rfl rfl rfl zok_221
  | 222, _ => exact zok_of (B := zB222) rfl rfl rfl zok_222
  | 223, _ => exact zok_of (B := zB223) rfl rfl rfl zok_223
  | 224, _ => exact zok_of (B := zB224) rfl rfl rfl zok_224
  | 225, _ => exact zok_of (B := zB225) rfl rfl rfl zok_225
  | 226, _ => exact zok_of (B := zB226) rfl rfl rfl zok_226
  | 227, _ => exact zok_of (B := zB227) rfl rfl rfl zok_227
  | 228, _ => exact zok_of (B := zB228) rfl rfl rfl zok_228
  | 229, _ => exact zok_of (B := zB229) rfl rfl rfl zok_229
  | 230, _ => exact zok_of (B := zB230) rfl rfl rfl zok_230
  | 231, _ => exact zok_of (B := zB231) rfl rfl rfl zok_231
  | 232, _ => exact zok_of (B := zB232) rfl rfl rfl zok_232
  | 233, _ => exact zok_of (B := zB233) rfl rfl rfl zok_233
  | 234, _ => exact zok_of (B := zB234) rfl rfl rfl zok_234
  | 235, _ => exact zok_of (B := zB235) rfl rfl rfl zok_235
  | 236, _ => exact zok_of (B := zB236) rfl rfl rfl zok_236
  | 237, _ => exact zok_of (B := zB237) rfl rfl rfl zok_237
  | 238, _ => exact zok_of (B := zB238) rfl rfl rfl zok_238
  | 239, _ => exact zok_of (B := zB239) rfl rfl rfl zok_239
  | 240, _ => exact zok_of (B := zB240) rfl rfl rfl zok_240
  | 241, _ => exact zok_of (B := zB241) rfl rfl rfl zok_241
  | 242, _ => exact zok_of (B := zB242) rfl rfl rfl zok_242
  | 243, _ => exact zok_of (B := zB243) rfl rfl rfl zok_243
  | 244, _ => exact zok_of (B := zB244) rfl rfl rfl zok_244
  | 245, _ => exact zok_of (B := zB245) rfl rfl rfl zok_245
  | 246, _ => exact zok_of (B := zB246) rfl rfl rfl zok_246
  | 247, _ => exact zok_of (B := zB247) rfl rfl rfl zok_247
  | 248, _ => exact zok_of (B := zB248) rfl rfl rfl zok_248
  | 249, _ => exact zok_of (B := zB249) rfl rfl rfl zok_249
  | 250, _ => exact zok_of (B := zB250) rfl rfl rfl zok_250
  | 251, _ => exact zok_of (B := zB251) rfl rfl rfl zok_251
  | 252, _ => exact zok_of (B := zB252) rfl rfl rfl zok_252
  | 253, _ => exact zok_of (B := zB253) rfl rfl rfl zok_253
  | 254, _ => exact zok_of (B := zB254) rfl rfl rfl zok_254
  | 255, _ => exact zok_of (B := zB255) rfl rfl rfl zok_255
  | 256, _ => exact zok_of (B := zB256) rfl rfl rfl zok_256
  | 257, _ => exact zok_of (B := zB257) rfl rfl rfl zok_257
  | 258, _ => exact zok_of (B := zB258) rfl rfl rfl zok_258
  | 259, _ => exact zok_of (B := zB259) rfl rfl rfl zok_259
  | 260, _ => exact zok_of (B := zB260) rfl rfl rfl zok_260
  | 261, _ => exact zok_of (B := zB261) rfl rfl rfl zok_261
  | 262, _ => exact zok_of (B := zB262) rfl rfl rfl zok_262
  | 263, _ => exact zok_of (B := zB263) rfl rfl rfl zok_263
  | 264, _ => exact zok_of (B := zB264) rfl rfl rfl zok_264
  | 265, _ => exact zok_of (B := zB265) rfl rfl rfl zok_265
  | 266, _ => exact zok_of (B := zB266) rfl rfl rfl zok_266
  | 267, _ => exact zok_of (B := zB267) rfl rfl rfl zok_267
  | 268, _ => exact zok_of (B := zB268) rfl rfl rfl zok_268
  | 269, _ => exact zok_of (B := zB269) rfl rfl rfl zok_269
  | 270, _ => exact zok_of (B := zB270) rfl rfl rfl zok_270
  | 271, _ => exact zok_of (B := zB271) rfl rfl rfl zok_271
  | 272, _ => exact zok_of (B := zB272) rfl rfl rfl zok_272
  | 273, _ => exact zok_of (B := zB273) rfl rfl rfl zok_273
  | 274, _ => exact zok_of (B := zB274) rfl rfl rfl zok_274
  | 275, _ => exact zok_of (B := zB275) rfl rfl rfl zok_275
  | 276, _ => exact zok_of (B := zB276) rfl rfl rfl zok_276
  | 277, _ => exact zok_of (B := zB277) rfl rfl rfl zok_277
  | 278, _ => exact zok_of (B := zB278) rfl rfl rfl zok_278
  | 279, _ => exact zok_of (B := zB279) rfl rfl rfl zok_279
  | 280, _ => exact zok_of (B := zB280) rfl rfl rfl zok_280
  | 281, _ => exact zok_of (B := zB281) rfl rfl rfl zok_281
  | 282, _ => exact zok_of (B := zB282) rfl rfl rfl zok_282
  | 283, _ => exact zok_of (B := zB283) rfl rfl rfl zok_283
  | 284, _ => exact zok_of (B := zB284) rfl rfl rfl zok_284
  | 285, _ => exact zok_of (B := zB285) rfl rfl rfl zok_285
  | 286, _ => exact zok_of (B := zB286) rfl rfl rfl zok_286
  | 287, _ => exact zok_of (B := zB287) rfl rfl rfl zok_287
  | 288, _ => exact zok_of (B := zB288) rfl rfl rfl zok_288
  | 289, _ => exact zok_of (B := zB289) rfl rfl rfl zok_289
  | 290, _ => exact zok_of (B := zB290) rfl rfl rfl zok_290
  | 291, _ => exact zok_of (B := zB291) rfl rfl rfl zok_291
  | 292, _ => exact zok_of (B := zB292) rfl rfl rfl zok_292
  | 293, _ => exact zok_of (B := zB293) rfl rfl rfl zok_293
  | 294, _ => exact zok_of (B := zB294) rfl rfl rfl zok_294
  | 295, _ => exact zok_of (B := zB295) rfl rfl rfl zok_295
  | 296, _ => exact zok_of (B := zB296) rfl rfl rfl zok_296
  | 297, _ => exact zok_of (B := zB297) rfl rfl rfl zok_297
  | 298, _ => exact zok_of (B := zB298) rfl rfl rfl zok_298
  | 299, _ => exact zok_of (B := zB299) rfl rfl rfl zok_299
  | 300, _ => exact zok_of (B := zB300) rfl rfl rfl zok_300
  | 301, _ => exact zok_of (B := zB301) rfl rfl rfl zok_301
  | 302, _ => exact zok_of (B := zB302) rfl rfl rfl zok_302
  | 303, _ => exact zok_of (B := zB303) rfl rfl rfl zok_303
  | 304, _ => exact zok_of (B := zB304) rfl rfl rfl zok_304
  | 305, _ => exact zok_of (B := zB305) rfl rfl rfl zok_305
  | 306, _ => exact zok_of (B := zB306) rfl rfl rfl zok_306
  | 307, _ => exact zok_of (B := zB307) rfl rfl rfl zok_307
  | 308, _ => exact zok_of (B := zB308) rfl rfl rfl zok_308
  | 309, _ => exact zok_of (B := zB309) rfl rfl rfl zok_309
  | 310, _ => exact zok_of (B := zB310) rfl rfl rfl zok_310
  | n + 311, h => exact absurd h (by omega)
