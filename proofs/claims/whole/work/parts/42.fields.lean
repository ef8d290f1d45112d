-- literals as jI, jL; reading and writing the fields and rows of the fixed heap
theorem lit_0 : (0 : Int32) = jI 0 := jI_lit 0
theorem lit_1 : (1 : Int32) = jI 1 := jI_lit 1
theorem lit_2 : (2 : Int32) = jI 2 := jI_lit 2
theorem lit_3 : (3 : Int32) = jI 3 := jI_lit 3
theorem lit_4 : (4 : Int32) = jI 4 := jI_lit 4
theorem lit_5 : (5 : Int32) = jI 5 := jI_lit 5
theorem lit_6 : (6 : Int32) = jI 6 := jI_lit 6
theorem lit_7 : (7 : Int32) = jI 7 := jI_lit 7
theorem lit_8 : (8 : Int32) = jI 8 := jI_lit 8
theorem lit_9 : (9 : Int32) = jI 9 := jI_lit 9
theorem lit_10 : (10 : Int32) = jI 10 := jI_lit 10
theorem lit_11 : (11 : Int32) = jI 11 := jI_lit 11
theorem lit_12 : (12 : Int32) = jI 12 := jI_lit 12
theorem lit_13 : (13 : Int32) = jI 13 := jI_lit 13
theorem lit_14 : (14 : Int32) = jI 14 := jI_lit 14
theorem lit_15 : (15 : Int32) = jI 15 := jI_lit 15
theorem lit_16 : (16 : Int32) = jI 16 := jI_lit 16
theorem lit_17 : (17 : Int32) = jI 17 := jI_lit 17
theorem lit_18 : (18 : Int32) = jI 18 := jI_lit 18
theorem lit_19 : (19 : Int32) = jI 19 := jI_lit 19
theorem lit_20 : (20 : Int32) = jI 20 := jI_lit 20
theorem lit_21 : (21 : Int32) = jI 21 := jI_lit 21
theorem lit_22 : (22 : Int32) = jI 22 := jI_lit 22
theorem lit_23 : (23 : Int32) = jI 23 := jI_lit 23
theorem lit_24 : (24 : Int32) = jI 24 := jI_lit 24
theorem lit_25 : (25 : Int32) = jI 25 := jI_lit 25
theorem lit_26 : (26 : Int32) = jI 26 := jI_lit 26
theorem lit_27 : (27 : Int32) = jI 27 := jI_lit 27
theorem lit_28 : (28 : Int32) = jI 28 := jI_lit 28
theorem lit_29 : (29 : Int32) = jI 29 := jI_lit 29
theorem lit_30 : (30 : Int32) = jI 30 := jI_lit 30
theorem lit_31 : (31 : Int32) = jI 31 := jI_lit 31
theorem lit_32 : (32 : Int32) = jI 32 := jI_lit 32
theorem lit_33 : (33 : Int32) = jI 33 := jI_lit 33
theorem lit_34 : (34 : Int32) = jI 34 := jI_lit 34
theorem lit_35 : (35 : Int32) = jI 35 := jI_lit 35
theorem lit_36 : (36 : Int32) = jI 36 := jI_lit 36
theorem lit_37 : (37 : Int32) = jI 37 := jI_lit 37
theorem lit_38 : (38 : Int32) = jI 38 := jI_lit 38
theorem lit_39 : (39 : Int32) = jI 39 := jI_lit 39
theorem lit_40 : (40 : Int32) = jI 40 := jI_lit 40
theorem lit_41 : (41 : Int32) = jI 41 := jI_lit 41
theorem lit_42 : (42 : Int32) = jI 42 := jI_lit 42
theorem lit_43 : (43 : Int32) = jI 43 := jI_lit 43
theorem lit_44 : (44 : Int32) = jI 44 := jI_lit 44
theorem lit_45 : (45 : Int32) = jI 45 := jI_lit 45
theorem lit_46 : (46 : Int32) = jI 46 := jI_lit 46
theorem lit_47 : (47 : Int32) = jI 47 := jI_lit 47
theorem lit_48 : (48 : Int32) = jI 48 := jI_lit 48
theorem lit_49 : (49 : Int32) = jI 49 := jI_lit 49
theorem lit_50 : (50 : Int32) = jI 50 := jI_lit 50
theorem lit_51 : (51 : Int32) = jI 51 := jI_lit 51
theorem lit_52 : (52 : Int32) = jI 52 := jI_lit 52
theorem lit_53 : (53 : Int32) = jI 53 := jI_lit 53
theorem lit_54 : (54 : Int32) = jI 54 := jI_lit 54
theorem lit_55 : (55 : Int32) = jI 55 := jI_lit 55
theorem lit_56 : (56 : Int32) = jI 56 := jI_lit 56
theorem lit_57 : (57 : Int32) = jI 57 := jI_lit 57
theorem lit_58 : (58 : Int32) = jI 58 := jI_lit 58
theorem lit_59 : (59 : Int32) = jI 59 := jI_lit 59
theorem lit_60 : (60 : Int32) = jI 60 := jI_lit 60
theorem lit_61 : (61 : Int32) = jI 61 := jI_lit 61
theorem lit_62 : (62 : Int32) = jI 62 := jI_lit 62
theorem lit_63 : (63 : Int32) = jI 63 := jI_lit 63
theorem lit_64 : (64 : Int32) = jI 64 := jI_lit 64
theorem lit_65 : (65 : Int32) = jI 65 := jI_lit 65
theorem lit_67 : (67 : Int32) = jI 67 := jI_lit 67
theorem lit_70 : (70 : Int32) = jI 70 := jI_lit 70
theorem lit_71 : (71 : Int32) = jI 71 := jI_lit 71
theorem lit_73 : (73 : Int32) = jI 73 := jI_lit 73
theorem lit_75 : (75 : Int32) = jI 75 := jI_lit 75
theorem lit_78 : (78 : Int32) = jI 78 := jI_lit 78
theorem lit_84 : (84 : Int32) = jI 84 := jI_lit 84
theorem lit_85 : (85 : Int32) = jI 85 := jI_lit 85
theorem lit_86 : (86 : Int32) = jI 86 := jI_lit 86
theorem lit_87 : (87 : Int32) = jI 87 := jI_lit 87
theorem lit_89 : (89 : Int32) = jI 89 := jI_lit 89
theorem lit_90 : (90 : Int32) = jI 90 := jI_lit 90
theorem lit_91 : (91 : Int32) = jI 91 := jI_lit 91
theorem lit_95 : (95 : Int32) = jI 95 := jI_lit 95
theorem lit_96 : (96 : Int32) = jI 96 := jI_lit 96
theorem lit_97 : (97 : Int32) = jI 97 := jI_lit 97
theorem lit_98 : (98 : Int32) = jI 98 := jI_lit 98
theorem lit_99 : (99 : Int32) = jI 99 := jI_lit 99
theorem lit_100 : (100 : Int32) = jI 100 := jI_lit 100
theorem lit_101 : (101 : Int32) = jI 101 := jI_lit 101
theorem lit_102 : (102 : Int32) = jI 102 := jI_lit 102
theorem lit_103 : (103 : Int32) = jI 103 := jI_lit 103
theorem lit_104 : (104 : Int32) = jI 104 := jI_lit 104
theorem lit_105 : (105 : Int32) = jI 105 := jI_lit 105
theorem lit_107 : (107 : Int32) = jI 107 := jI_lit 107
theorem lit_108 : (108 : Int32) = jI 108 := jI_lit 108
theorem lit_109 : (109 : Int32) = jI 109 := jI_lit 109
theorem lit_110 : (110 : Int32) = jI 110 := jI_lit 110
theorem lit_111 : (111 : Int32) = jI 111 := jI_lit 111
theorem lit_112 : (112 : Int32) = jI 112 := jI_lit 112
theorem lit_114 : (114 : Int32) = jI 114 := jI_lit 114
theorem lit_115 : (115 : Int32) = jI 115 := jI_lit 115
theorem lit_116 : (116 : Int32) = jI 116 := jI_lit 116
theorem lit_117 : (117 : Int32) = jI 117 := jI_lit 117
theorem lit_119 : (119 : Int32) = jI 119 := jI_lit 119
theorem lit_121 : (121 : Int32) = jI 121 := jI_lit 121
theorem lit_122 : (122 : Int32) = jI 122 := jI_lit 122
theorem lit_126 : (126 : Int32) = jI 126 := jI_lit 126
theorem lit_127 : (127 : Int32) = jI 127 := jI_lit 127
theorem lit_128 : (128 : Int32) = jI 128 := jI_lit 128
theorem lit_130 : (130 : Int32) = jI 130 := jI_lit 130
theorem lit_134 : (134 : Int32) = jI 134 := jI_lit 134
theorem lit_137 : (137 : Int32) = jI 137 := jI_lit 137
theorem lit_139 : (139 : Int32) = jI 139 := jI_lit 139
theorem lit_140 : (140 : Int32) = jI 140 := jI_lit 140
theorem lit_141 : (141 : Int32) = jI 141 := jI_lit 141
theorem lit_145 : (145 : Int32) = jI 145 := jI_lit 145
theorem lit_152 : (152 : Int32) = jI 152 := jI_lit 152
theorem lit_159 : (159 : Int32) = jI 159 := jI_lit 159
theorem lit_160 : (160 : Int32) = jI 160 := jI_lit 160
theorem lit_168 : (168 : Int32) = jI 168 := jI_lit 168
theorem lit_174 : (174 : Int32) = jI 174 := jI_lit 174
theorem lit_180 : (180 : Int32) = jI 180 := jI_lit 180
theorem lit_183 : (183 : Int32) = jI 183 := jI_lit 183
theorem lit_192 : (192 : Int32) = jI 192 := jI_lit 192
theorem lit_199 : (199 : Int32) = jI 199 := jI_lit 199
theorem lit_236 : (236 : Int32) = jI 236 := jI_lit 236
theorem lit_251 : (251 : Int32) = jI 251 := jI_lit 251
theorem lit_255 : (255 : Int32) = jI 255 := jI_lit 255
theorem lit_272 : (272 : Int32) = jI 272 := jI_lit 272
theorem lit_284 : (284 : Int32) = jI 284 := jI_lit 284
theorem lit_300 : (300 : Int32) = jI 300 := jI_lit 300
theorem lit_330 : (330 : Int32) = jI 330 := jI_lit 330
theorem lit_373 : (373 : Int32) = jI 373 := jI_lit 373
theorem lit_753 : (753 : Int32) = jI 753 := jI_lit 753
theorem lit_800 : (800 : Int32) = jI 800 := jI_lit 800
theorem lit_896 : (896 : Int32) = jI 896 := jI_lit 896
theorem lit_900 : (900 : Int32) = jI 900 := jI_lit 900
theorem lit_1000 : (1000 : Int32) = jI 1000 := jI_lit 1000
theorem lit_1001 : (1001 : Int32) = jI 1001 := jI_lit 1001
theorem lit_1002 : (1002 : Int32) = jI 1002 := jI_lit 1002
theorem lit_1003 : (1003 : Int32) = jI 1003 := jI_lit 1003
theorem lit_1079 : (1079 : Int32) = jI 1079 := jI_lit 1079
theorem lit_1276 : (1276 : Int32) = jI 1276 := jI_lit 1276
theorem lit_1330 : (1330 : Int32) = jI 1330 := jI_lit 1330
theorem lit_1450 : (1450 : Int32) = jI 1450 := jI_lit 1450
theorem lit_3012 : (3012 : Int32) = jI 3012 := jI_lit 3012
theorem lit_3016 : (3016 : Int32) = jI 3016 := jI_lit 3016
theorem lit_3300 : (3300 : Int32) = jI 3300 := jI_lit 3300
theorem lit_8430 : (8430 : Int32) = jI 8430 := jI_lit 8430
theorem lit_9999 : (9999 : Int32) = jI 9999 := jI_lit 9999
theorem lit_10000 : (10000 : Int32) = jI 10000 := jI_lit 10000
theorem lit_11730 : (11730 : Int32) = jI 11730 := jI_lit 11730
theorem lit_30467 : (30467 : Int32) = jI 30467 := jI_lit 30467
theorem lit_65536 : (65536 : Int32) = jI 65536 := jI_lit 65536
theorem lit_99999 : (99999 : Int32) = jI 99999 := jI_lit 99999
theorem lit_100000 : (100000 : Int32) = jI 100000 := jI_lit 100000
theorem lit_1000000 : (1000000 : Int32) = jI 1000000 := jI_lit 1000000
theorem lit_252645135 : (252645135 : Int32) = jI 252645135 := jI_lit 252645135
theorem lit_858993459 : (858993459 : Int32) = jI 858993459 := jI_lit 858993459
theorem lit_1000000000 : (1000000000 : Int32) = jI 1000000000 := jI_lit 1000000000
theorem lit_1431655765 : (1431655765 : Int32) = jI 1431655765 := jI_lit 1431655765
theorem llt_0 : (0 : Int64) = jL 0 := jL_lit 0
theorem llt_1 : (1 : Int64) = jL 1 := jL_lit 1
theorem llt_2 : (2 : Int64) = jL 2 := jL_lit 2
theorem llt_3 : (3 : Int64) = jL 3 := jL_lit 3
theorem llt_4 : (4 : Int64) = jL 4 := jL_lit 4
theorem llt_5 : (5 : Int64) = jL 5 := jL_lit 5
theorem llt_6 : (6 : Int64) = jL 6 := jL_lit 6
theorem llt_7 : (7 : Int64) = jL 7 := jL_lit 7
theorem llt_8 : (8 : Int64) = jL 8 := jL_lit 8
theorem llt_9 : (9 : Int64) = jL 9 := jL_lit 9
theorem llt_10 : (10 : Int64) = jL 10 := jL_lit 10
theorem llt_11 : (11 : Int64) = jL 11 := jL_lit 11
theorem llt_12 : (12 : Int64) = jL 12 := jL_lit 12
theorem llt_13 : (13 : Int64) = jL 13 := jL_lit 13
theorem llt_14 : (14 : Int64) = jL 14 := jL_lit 14
theorem llt_15 : (15 : Int64) = jL 15 := jL_lit 15
theorem llt_16 : (16 : Int64) = jL 16 := jL_lit 16
theorem llt_17 : (17 : Int64) = jL 17 := jL_lit 17
theorem llt_18 : (18 : Int64) = jL 18 := jL_lit 18
theorem llt_19 : (19 : Int64) = jL 19 := jL_lit 19
theorem llt_20 : (20 : Int64) = jL 20 := jL_lit 20
theorem llt_21 : (21 : Int64) = jL 21 := jL_lit 21
theorem llt_22 : (22 : Int64) = jL 22 := jL_lit 22
theorem llt_23 : (23 : Int64) = jL 23 := jL_lit 23
theorem llt_24 : (24 : Int64) = jL 24 := jL_lit 24
theorem llt_25 : (25 : Int64) = jL 25 := jL_lit 25
theorem llt_26 : (26 : Int64) = jL 26 := jL_lit 26
theorem llt_27 : (27 : Int64) = jL 27 := jL_lit 27
theorem llt_28 : (28 : Int64) = jL 28 := jL_lit 28
theorem llt_29 : (29 : Int64) = jL 29 := jL_lit 29
theorem llt_30 : (30 : Int64) = jL 30 := jL_lit 30
theorem llt_31 : (31 : Int64) = jL 31 := jL_lit 31
theorem llt_32 : (32 : Int64) = jL 32 := jL_lit 32
theorem llt_33 : (33 : Int64) = jL 33 := jL_lit 33
theorem llt_34 : (34 : Int64) = jL 34 := jL_lit 34
theorem llt_35 : (35 : Int64) = jL 35 := jL_lit 35
theorem llt_36 : (36 : Int64) = jL 36 := jL_lit 36
theorem llt_37 : (37 : Int64) = jL 37 := jL_lit 37
theorem llt_38 : (38 : Int64) = jL 38 := jL_lit 38
theorem llt_39 : (39 : Int64) = jL 39 := jL_lit 39
theorem llt_40 : (40 : Int64) = jL 40 := jL_lit 40
theorem llt_41 : (41 : Int64) = jL 41 := jL_lit 41
theorem llt_42 : (42 : Int64) = jL 42 := jL_lit 42
theorem llt_43 : (43 : Int64) = jL 43 := jL_lit 43
theorem llt_44 : (44 : Int64) = jL 44 := jL_lit 44
theorem llt_45 : (45 : Int64) = jL 45 := jL_lit 45
theorem llt_46 : (46 : Int64) = jL 46 := jL_lit 46
theorem llt_47 : (47 : Int64) = jL 47 := jL_lit 47
theorem llt_48 : (48 : Int64) = jL 48 := jL_lit 48
theorem llt_49 : (49 : Int64) = jL 49 := jL_lit 49
theorem llt_50 : (50 : Int64) = jL 50 := jL_lit 50
theorem llt_51 : (51 : Int64) = jL 51 := jL_lit 51
theorem llt_52 : (52 : Int64) = jL 52 := jL_lit 52
theorem llt_53 : (53 : Int64) = jL 53 := jL_lit 53
theorem llt_54 : (54 : Int64) = jL 54 := jL_lit 54
theorem llt_55 : (55 : Int64) = jL 55 := jL_lit 55
theorem llt_56 : (56 : Int64) = jL 56 := jL_lit 56
theorem llt_57 : (57 : Int64) = jL 57 := jL_lit 57
theorem llt_58 : (58 : Int64) = jL 58 := jL_lit 58
theorem llt_59 : (59 : Int64) = jL 59 := jL_lit 59
theorem llt_60 : (60 : Int64) = jL 60 := jL_lit 60
theorem llt_61 : (61 : Int64) = jL 61 := jL_lit 61
theorem llt_62 : (62 : Int64) = jL 62 := jL_lit 62
theorem llt_63 : (63 : Int64) = jL 63 := jL_lit 63
theorem llt_64 : (64 : Int64) = jL 64 := jL_lit 64
theorem llt_65 : (65 : Int64) = jL 65 := jL_lit 65
theorem llt_67 : (67 : Int64) = jL 67 := jL_lit 67
theorem llt_70 : (70 : Int64) = jL 70 := jL_lit 70
theorem llt_71 : (71 : Int64) = jL 71 := jL_lit 71
theorem llt_73 : (73 : Int64) = jL 73 := jL_lit 73
theorem llt_75 : (75 : Int64) = jL 75 := jL_lit 75
theorem llt_78 : (78 : Int64) = jL 78 := jL_lit 78
theorem llt_84 : (84 : Int64) = jL 84 := jL_lit 84
theorem llt_85 : (85 : Int64) = jL 85 := jL_lit 85
theorem llt_86 : (86 : Int64) = jL 86 := jL_lit 86
theorem llt_87 : (87 : Int64) = jL 87 := jL_lit 87
theorem llt_89 : (89 : Int64) = jL 89 := jL_lit 89
theorem llt_90 : (90 : Int64) = jL 90 := jL_lit 90
theorem llt_91 : (91 : Int64) = jL 91 := jL_lit 91
theorem llt_95 : (95 : Int64) = jL 95 := jL_lit 95
theorem llt_96 : (96 : Int64) = jL 96 := jL_lit 96
theorem llt_97 : (97 : Int64) = jL 97 := jL_lit 97
theorem llt_98 : (98 : Int64) = jL 98 := jL_lit 98
theorem llt_99 : (99 : Int64) = jL 99 := jL_lit 99
theorem llt_100 : (100 : Int64) = jL 100 := jL_lit 100
theorem llt_101 : (101 : Int64) = jL 101 := jL_lit 101
theorem llt_102 : (102 : Int64) = jL 102 := jL_lit 102
theorem llt_103 : (103 : Int64) = jL 103 := jL_lit 103
theorem llt_104 : (104 : Int64) = jL 104 := jL_lit 104
theorem llt_105 : (105 : Int64) = jL 105 := jL_lit 105
theorem llt_107 : (107 : Int64) = jL 107 := jL_lit 107
theorem llt_108 : (108 : Int64) = jL 108 := jL_lit 108
theorem llt_109 : (109 : Int64) = jL 109 := jL_lit 109
theorem llt_110 : (110 : Int64) = jL 110 := jL_lit 110
theorem llt_111 : (111 : Int64) = jL 111 := jL_lit 111
theorem llt_112 : (112 : Int64) = jL 112 := jL_lit 112
theorem llt_114 : (114 : Int64) = jL 114 := jL_lit 114
theorem llt_115 : (115 : Int64) = jL 115 := jL_lit 115
theorem llt_116 : (116 : Int64) = jL 116 := jL_lit 116
theorem llt_117 : (117 : Int64) = jL 117 := jL_lit 117
theorem llt_119 : (119 : Int64) = jL 119 := jL_lit 119
theorem llt_121 : (121 : Int64) = jL 121 := jL_lit 121
theorem llt_122 : (122 : Int64) = jL 122 := jL_lit 122
theorem llt_126 : (126 : Int64) = jL 126 := jL_lit 126
theorem llt_127 : (127 : Int64) = jL 127 := jL_lit 127
theorem llt_128 : (128 : Int64) = jL 128 := jL_lit 128
theorem llt_130 : (130 : Int64) = jL 130 := jL_lit 130
theorem llt_134 : (134 : Int64) = jL 134 := jL_lit 134
theorem llt_137 : (137 : Int64) = jL 137 := jL_lit 137
theorem llt_139 : (139 : Int64) = jL 139 := jL_lit 139
theorem llt_140 : (140 : Int64) = jL 140 := jL_lit 140
theorem llt_141 : (141 : Int64) = jL 141 := jL_lit 141
theorem llt_145 : (145 : Int64) = jL 145 := jL_lit 145
theorem llt_152 : (152 : Int64) = jL 152 := jL_lit 152
theorem llt_159 : (159 : Int64) = jL 159 := jL_lit 159
theorem llt_160 : (160 : Int64) = jL 160 := jL_lit 160
theorem llt_168 : (168 : Int64) = jL 168 := jL_lit 168
theorem llt_174 : (174 : Int64) = jL 174 := jL_lit 174
theorem llt_180 : (180 : Int64) = jL 180 := jL_lit 180
theorem llt_183 : (183 : Int64) = jL 183 := jL_lit 183
theorem llt_192 : (192 : Int64) = jL 192 := jL_lit 192
theorem llt_199 : (199 : Int64) = jL 199 := jL_lit 199
theorem llt_236 : (236 : Int64) = jL 236 := jL_lit 236
theorem llt_251 : (251 : Int64) = jL 251 := jL_lit 251
theorem llt_255 : (255 : Int64) = jL 255 := jL_lit 255
theorem llt_272 : (272 : Int64) = jL 272 := jL_lit 272
theorem llt_284 : (284 : Int64) = jL 284 := jL_lit 284
theorem llt_300 : (300 : Int64) = jL 300 := jL_lit 300
theorem llt_330 : (330 : Int64) = jL 330 := jL_lit 330
theorem llt_373 : (373 : Int64) = jL 373 := jL_lit 373
theorem llt_753 : (753 : Int64) = jL 753 := jL_lit 753
theorem llt_800 : (800 : Int64) = jL 800 := jL_lit 800
theorem llt_896 : (896 : Int64) = jL 896 := jL_lit 896
theorem llt_900 : (900 : Int64) = jL 900 := jL_lit 900
theorem llt_1000 : (1000 : Int64) = jL 1000 := jL_lit 1000
theorem llt_1001 : (1001 : Int64) = jL 1001 := jL_lit 1001
theorem llt_1002 : (1002 : Int64) = jL 1002 := jL_lit 1002
theorem llt_1003 : (1003 : Int64) = jL 1003 := jL_lit 1003
theorem llt_1079 : (1079 : Int64) = jL 1079 := jL_lit 1079
theorem llt_1276 : (1276 : Int64) = jL 1276 := jL_lit 1276
theorem llt_1330 : (1330 : Int64) = jL 1330 := jL_lit 1330
theorem llt_1450 : (1450 : Int64) = jL 1450 := jL_lit 1450
theorem llt_3012 : (3012 : Int64) = jL 3012 := jL_lit 3012
theorem llt_3016 : (3016 : Int64) = jL 3016 := jL_lit 3016
theorem llt_3300 : (3300 : Int64) = jL 3300 := jL_lit 3300
theorem llt_8430 : (8430 : Int64) = jL 8430 := jL_lit 8430
theorem llt_9999 : (9999 : Int64) = jL 9999 := jL_lit 9999
theorem llt_10000 : (10000 : Int64) = jL 10000 := jL_lit 10000
theorem llt_11730 : (11730 : Int64) = jL 11730 := jL_lit 11730
theorem llt_30467 : (30467 : Int64) = jL 30467 := jL_lit 30467
theorem llt_65536 : (65536 : Int64) = jL 65536 := jL_lit 65536
theorem llt_99999 : (99999 : Int64) = jL 99999 := jL_lit 99999
theorem llt_100000 : (100000 : Int64) = jL 100000 := jL_lit 100000
theorem llt_1000000 : (1000000 : Int64) = jL 1000000 := jL_lit 1000000
theorem llt_252645135 : (252645135 : Int64) = jL 252645135 := jL_lit 252645135
theorem llt_858993459 : (858993459 : Int64) = jL 858993459 := jL_lit 858993459
theorem llt_1000000000 : (1000000000 : Int64) = jL 1000000000 := jL_lit 1000000000
theorem llt_1431655765 : (1431655765 : Int64) = jL 1431655765 := jL_lit 1431655765
theorem llt_1152921504606846976 : (1152921504606846976 : Int64) = jL 1152921504606846976 := jL_lit 1152921504606846976
theorem b_I {α : Type} (v : Int32) (s : m_H) (f : Int32 → m_H → Option α) : m_bI (some (some (.int v), s)) f = f v s := rfl
theorem b_L {α : Type} (v : Int64) (s : m_H) (f : Int64 → m_H → Option α) : m_bL (some (some (.long v), s)) f = f v s := rfl
theorem b_V {α : Type} (s : m_H) (f : m_H → Option α) : m_bV (some (none, s)) f = f s := rfl
theorem b_R {α : Type} (v : Value) (s : m_H) (f : Value → m_H → Option α) : m_bR (some (some v, s)) f = f v s := rfl
theorem b_N {α : Type} (r : Nat) (s : m_H) (f : Nat → m_H → Option α) (g : m_H → Option α) : m_bN (some (some (.ref r), s)) f g = f r s := rfl
theorem b_N0 {α : Type} (s : m_H) (f : Nat → m_H → Option α) (g : m_H → Option α) : m_bN (some (some .null, s)) f g = g s := rfl
theorem isO_0 (F G : Nat → Fn) : m_isO (mk F G) 0 10 = true := mk_isO (ci := 10) F G (by omega) rfl
theorem fR_0_0 (F G : Nat → Fn) : m_fR (mk F G) 10 0 0 = some 1 := mk_fR (ci := 10) F G (by omega) rfl rfl
theorem fR_0_1 (F G : Nat → Fn) : m_fR (mk F G) 10 1 0 = some 3 := mk_fR (ci := 10) F G (by omega) rfl rfl
theorem fR_0_2 (F G : Nat → Fn) : m_fR (mk F G) 10 2 0 = some 36 := mk_fR (ci := 10) F G (by omega) rfl rfl
theorem fR_0_3 (F G : Nat → Fn) : m_fR (mk F G) 10 3 0 = some 51 := mk_fR (ci := 10) F G (by omega) rfl rfl
theorem fR_0_4 (F G : Nat → Fn) : m_fR (mk F G) 10 4 0 = some 53 := mk_fR (ci := 10) F G (by omega) rfl rfl
theorem fR_0_5 (F G : Nat → Fn) : m_fR (mk F G) 10 5 0 = some 86 := mk_fR (ci := 10) F G (by omega) rfl rfl
theorem fR_0_6 (F G : Nat → Fn) : m_fR (mk F G) 10 6 0 = some 101 := mk_fR (ci := 10) F G (by omega) rfl rfl
theorem fR_0_7 (F G : Nat → Fn) : m_fR (mk F G) 10 7 0 = some 103 := mk_fR (ci := 10) F G (by omega) rfl rfl
theorem fR_0_8 (F G : Nat → Fn) : m_fR (mk F G) 10 8 0 = some 128 := mk_fR (ci := 10) F G (by omega) rfl rfl
theorem fR_0_9 (F G : Nat → Fn) : m_fR (mk F G) 10 9 0 = some 136 := mk_fR (ci := 10) F G (by omega) rfl rfl
theorem fR_0_10 (F G : Nat → Fn) : m_fR (mk F G) 10 10 0 = some 138 := mk_fR (ci := 10) F G (by omega) rfl rfl
theorem fR_0_11 (F G : Nat → Fn) : m_fR (mk F G) 10 11 0 = some 141 := mk_fR (ci := 10) F G (by omega) rfl rfl
theorem fR_0_12 (F G : Nat → Fn) : m_fR (mk F G) 10 12 0 = some 144 := mk_fR (ci := 10) F G (by omega) rfl rfl
theorem isO_128 (F G : Nat → Fn) : m_isO (mk F G) 128 3 = true := mk_isO (ci := 3) F G (by omega) rfl
theorem fR_128_0 (F G : Nat → Fn) : m_fR (mk F G) 3 0 128 = some 129 := mk_fR (ci := 3) F G (by omega) rfl rfl
theorem fR_128_1 (F G : Nat → Fn) : m_fR (mk F G) 3 1 128 = some 135 := mk_fR (ci := 3) F G (by omega) rfl rfl
theorem fI_128_2 (F G : Nat → Fn) : m_fI (mk F G) 3 2 128 = some (jI (F 128 2)) := mk_fI (ci := 3) F G (by omega) rfl rfl
theorem pf_128_2 (F G : Nat → Fn) (v : Int) : m_pf (mk F G) 3 2 128 (.int (jI v)) = some (mk (sA F 128 (u (F 128) 2 v)) G) := mk_pfI (ci := 3) F G v (by omega) rfl rfl
theorem fI_128_3 (F G : Nat → Fn) : m_fI (mk F G) 3 3 128 = some (jI (F 128 3)) := mk_fI (ci := 3) F G (by omega) rfl rfl
theorem pf_128_3 (F G : Nat → Fn) (v : Int) : m_pf (mk F G) 3 3 128 (.int (jI v)) = some (mk (sA F 128 (u (F 128) 3 v)) G) := mk_pfI (ci := 3) F G v (by omega) rfl rfl
theorem fI_128_4 (F G : Nat → Fn) : m_fI (mk F G) 3 4 128 = some (jI (F 128 4)) := mk_fI (ci := 3) F G (by omega) rfl rfl
theorem pf_128_4 (F G : Nat → Fn) (v : Int) : m_pf (mk F G) 3 4 128 (.int (jI v)) = some (mk (sA F 128 (u (F 128) 4 v)) G) := mk_pfI (ci := 3) F G v (by omega) rfl rfl
theorem fI_128_5 (F G : Nat → Fn) : m_fI (mk F G) 3 5 128 = some (jI (F 128 5)) := mk_fI (ci := 3) F G (by omega) rfl rfl
theorem pf_128_5 (F G : Nat → Fn) (v : Int) : m_pf (mk F G) 3 5 128 (.int (jI v)) = some (mk (sA F 128 (u (F 128) 5 v)) G) := mk_pfI (ci := 3) F G v (by omega) rfl rfl
theorem fI_128_6 (F G : Nat → Fn) : m_fI (mk F G) 3 6 128 = some (jI (F 128 6)) := mk_fI (ci := 3) F G (by omega) rfl rfl
theorem pf_128_6 (F G : Nat → Fn) (v : Int) : m_pf (mk F G) 3 6 128 (.int (jI v)) = some (mk (sA F 128 (u (F 128) 6 v)) G) := mk_pfI (ci := 3) F G v (by omega) rfl rfl
theorem fI_128_7 (F G : Nat → Fn) : m_fI (mk F G) 3 7 128 = some (jI (F 128 7)) := mk_fI (ci := 3) F G (by omega) rfl rfl
theorem pf_128_7 (F G : Nat → Fn) (v : Int) : m_pf (mk F G) 3 7 128 (.int (jI v)) = some (mk (sA F 128 (u (F 128) 7 v)) G) := mk_pfI (ci := 3) F G v (by omega) rfl rfl
theorem fI_128_8 (F G : Nat → Fn) : m_fI (mk F G) 3 8 128 = some (jI (F 128 8)) := mk_fI (ci := 3) F G (by omega) rfl rfl
theorem pf_128_8 (F G : Nat → Fn) (v : Int) : m_pf (mk F G) 3 8 128 (.int (jI v)) = some (mk (sA F 128 (u (F 128) 8 v)) G) := mk_pfI (ci := 3) F G v (by omega) rfl rfl
theorem fI_128_9 (F G : Nat → Fn) : m_fI (mk F G) 3 9 128 = some (jI (F 128 9)) := mk_fI (ci := 3) F G (by omega) rfl rfl
theorem pf_128_9 (F G : Nat → Fn) (v : Int) : m_pf (mk F G) 3 9 128 (.int (jI v)) = some (mk (sA F 128 (u (F 128) 9 v)) G) := mk_pfI (ci := 3) F G v (by omega) rfl rfl
theorem isO_136 (F G : Nat → Fn) : m_isO (mk F G) 136 1 = true := mk_isO (ci := 1) F G (by omega) rfl
theorem fR_136_0 (F G : Nat → Fn) : m_fR (mk F G) 1 0 136 = some 137 := mk_fR (ci := 1) F G (by omega) rfl rfl
theorem fI_136_1 (F G : Nat → Fn) : m_fI (mk F G) 1 1 136 = some (jI (F 136 1)) := mk_fI (ci := 1) F G (by omega) rfl rfl
theorem pf_136_1 (F G : Nat → Fn) (v : Int) : m_pf (mk F G) 1 1 136 (.int (jI v)) = some (mk (sA F 136 (u (F 136) 1 v)) G) := mk_pfI (ci := 1) F G v (by omega) rfl rfl
theorem isO_138 (F G : Nat → Fn) : m_isO (mk F G) 138 8 = true := mk_isO (ci := 8) F G (by omega) rfl
theorem fR_138_0 (F G : Nat → Fn) : m_fR (mk F G) 8 0 138 = some 139 := mk_fR (ci := 8) F G (by omega) rfl rfl
theorem fR_138_1 (F G : Nat → Fn) : m_fR (mk F G) 8 1 138 = some 140 := mk_fR (ci := 8) F G (by omega) rfl rfl
theorem isO_141 (F G : Nat → Fn) : m_isO (mk F G) 141 0 = true := mk_isO (ci := 0) F G (by omega) rfl
theorem fR_141_0 (F G : Nat → Fn) : m_fR (mk F G) 0 0 141 = some 142 := mk_fR (ci := 0) F G (by omega) rfl rfl
theorem fI_141_1 (F G : Nat → Fn) : m_fI (mk F G) 0 1 141 = some (jI (F 141 1)) := mk_fI (ci := 0) F G (by omega) rfl rfl
theorem pf_141_1 (F G : Nat → Fn) (v : Int) : m_pf (mk F G) 0 1 141 (.int (jI v)) = some (mk (sA F 141 (u (F 141) 1 v)) G) := mk_pfI (ci := 0) F G v (by omega) rfl rfl
theorem fI_141_2 (F G : Nat → Fn) : m_fI (mk F G) 0 2 141 = some (jI (F 141 2)) := mk_fI (ci := 0) F G (by omega) rfl rfl
theorem pf_141_2 (F G : Nat → Fn) (v : Int) : m_pf (mk F G) 0 2 141 (.int (jI v)) = some (mk (sA F 141 (u (F 141) 2 v)) G) := mk_pfI (ci := 0) F G v (by omega) rfl rfl
theorem isO_144 (F G : Nat → Fn) : m_isO (mk F G) 144 2 = true := mk_isO (ci := 2) F G (by omega) rfl
theorem fI_144_0 (F G : Nat → Fn) : m_fI (mk F G) 2 0 144 = some (jI (F 144 0)) := mk_fI (ci := 2) F G (by omega) rfl rfl
theorem pf_144_0 (F G : Nat → Fn) (v : Int) : m_pf (mk F G) 2 0 144 (.int (jI v)) = some (mk (sA F 144 (u (F 144) 0 v)) G) := mk_pfI (ci := 2) F G v (by omega) rfl rfl
theorem fI_144_1 (F G : Nat → Fn) : m_fI (mk F G) 2 1 144 = some (jI (F 144 1)) := mk_fI (ci := 2) F G (by omega) rfl rfl
theorem pf_144_1 (F G : Nat → Fn) (v : Int) : m_pf (mk F G) 2 1 144 (.int (jI v)) = some (mk (sA F 144 (u (F 144) 1 v)) G) := mk_pfI (ci := 2) F G v (by omega) rfl rfl
theorem fI_144_2 (F G : Nat → Fn) : m_fI (mk F G) 2 2 144 = some (jI (F 144 2)) := mk_fI (ci := 2) F G (by omega) rfl rfl
theorem pf_144_2 (F G : Nat → Fn) (v : Int) : m_pf (mk F G) 2 2 144 (.int (jI v)) = some (mk (sA F 144 (u (F 144) 2 v)) G) := mk_pfI (ci := 2) F G v (by omega) rfl rfl
theorem fR_144_3 (F G : Nat → Fn) : m_fR (mk F G) 2 3 144 = some 145 := mk_fR (ci := 2) F G (by omega) rfl rfl
theorem fR_144_4 (F G : Nat → Fn) : m_fR (mk F G) 2 4 144 = some 146 := mk_fR (ci := 2) F G (by omega) rfl rfl
theorem fR_144_5 (F G : Nat → Fn) : m_fR (mk F G) 2 5 144 = some 147 := mk_fR (ci := 2) F G (by omega) rfl rfl
theorem fR_144_6 (F G : Nat → Fn) : m_fR (mk F G) 2 6 144 = some 148 := mk_fR (ci := 2) F G (by omega) rfl rfl
theorem isO_149 (F G : Nat → Fn) : m_isO (mk F G) 149 11 = true := mk_isO (ci := 11) F G (by omega) rfl
theorem fR_149_0 (F G : Nat → Fn) : m_fR (mk F G) 11 0 149 = some 150 := mk_fR (ci := 11) F G (by omega) rfl rfl
theorem fR_149_1 (F G : Nat → Fn) : m_fR (mk F G) 11 1 149 = some 151 := mk_fR (ci := 11) F G (by omega) rfl rfl
theorem fR_149_2 (F G : Nat → Fn) : m_fR (mk F G) 11 2 149 = some 152 := mk_fR (ci := 11) F G (by omega) rfl rfl
theorem fR_149_3 (F G : Nat → Fn) : m_fR (mk F G) 11 3 149 = some 153 := mk_fR (ci := 11) F G (by omega) rfl rfl
theorem fI_149_4 (F G : Nat → Fn) : m_fI (mk F G) 11 4 149 = some (jI (F 149 4)) := mk_fI (ci := 11) F G (by omega) rfl rfl
theorem pf_149_4 (F G : Nat → Fn) (v : Int) : m_pf (mk F G) 11 4 149 (.int (jI v)) = some (mk (sA F 149 (u (F 149) 4 v)) G) := mk_pfI (ci := 11) F G v (by omega) rfl rfl
theorem fI_149_5 (F G : Nat → Fn) : m_fI (mk F G) 11 5 149 = some (jI (F 149 5)) := mk_fI (ci := 11) F G (by omega) rfl rfl
theorem pf_149_5 (F G : Nat → Fn) (v : Int) : m_pf (mk F G) 11 5 149 (.int (jI v)) = some (mk (sA F 149 (u (F 149) 5 v)) G) := mk_pfI (ci := 11) F G v (by omega) rfl rfl
theorem fI_149_6 (F G : Nat → Fn) : m_fI (mk F G) 11 6 149 = some (jI (F 149 6)) := mk_fI (ci := 11) F G (by omega) rfl rfl
theorem pf_149_6 (F G : Nat → Fn) (v : Int) : m_pf (mk F G) 11 6 149 (.int (jI v)) = some (mk (sA F 149 (u (F 149) 6 v)) G) := mk_pfI (ci := 11) F G v (by omega) rfl rfl
theorem fI_149_7 (F G : Nat → Fn) : m_fI (mk F G) 11 7 149 = some (jI (F 149 7)) := mk_fI (ci := 11) F G (by omega) rfl rfl
theorem pf_149_7 (F G : Nat → Fn) (v : Int) : m_pf (mk F G) 11 7 149 (.int (jI v)) = some (mk (sA F 149 (u (F 149) 7 v)) G) := mk_pfI (ci := 11) F G v (by omega) rfl rfl
theorem fI_149_8 (F G : Nat → Fn) : m_fI (mk F G) 11 8 149 = some (jI (F 149 8)) := mk_fI (ci := 11) F G (by omega) rfl rfl
theorem pf_149_8 (F G : Nat → Fn) (v : Int) : m_pf (mk F G) 11 8 149 (.int (jI v)) = some (mk (sA F 149 (u (F 149) 8 v)) G) := mk_pfI (ci := 11) F G v (by omega) rfl rfl
theorem fI_149_9 (F G : Nat → Fn) : m_fI (mk F G) 11 9 149 = some (jI (F 149 9)) := mk_fI (ci := 11) F G (by omega) rfl rfl
theorem pf_149_9 (F G : Nat → Fn) (v : Int) : m_pf (mk F G) 11 9 149 (.int (jI v)) = some (mk (sA F 149 (u (F 149) 9 v)) G) := mk_pfI (ci := 11) F G v (by omega) rfl rfl
theorem fI_149_10 (F G : Nat → Fn) : m_fI (mk F G) 11 10 149 = some (jI (F 149 10)) := mk_fI (ci := 11) F G (by omega) rfl rfl
theorem pf_149_10 (F G : Nat → Fn) (v : Int) : m_pf (mk F G) 11 10 149 (.int (jI v)) = some (mk (sA F 149 (u (F 149) 10 v)) G) := mk_pfI (ci := 11) F G v (by omega) rfl rfl
theorem fL_149_11 (F G : Nat → Fn) : m_fL (mk F G) 11 11 149 = some (jL (G 149 11)) := mk_fL (ci := 11) F G (by omega) rfl rfl
theorem pf_149_11 (F G : Nat → Fn) (v : Int) : m_pf (mk F G) 11 11 149 (.long (jL v)) = some (mk F (sA G 149 (u (G 149) 11 v))) := mk_pfL (ci := 11) F G v (by omega) rfl rfl
theorem fI_149_12 (F G : Nat → Fn) : m_fI (mk F G) 11 12 149 = some (jI (F 149 12)) := mk_fI (ci := 11) F G (by omega) rfl rfl
theorem pf_149_12 (F G : Nat → Fn) (v : Int) : m_pf (mk F G) 11 12 149 (.int (jI v)) = some (mk (sA F 149 (u (F 149) 12 v)) G) := mk_pfI (ci := 11) F G v (by omega) rfl rfl
theorem fI_149_13 (F G : Nat → Fn) : m_fI (mk F G) 11 13 149 = some (jI (F 149 13)) := mk_fI (ci := 11) F G (by omega) rfl rfl
theorem pf_149_13 (F G : Nat → Fn) (v : Int) : m_pf (mk F G) 11 13 149 (.int (jI v)) = some (mk (sA F 149 (u (F 149) 13 v)) G) := mk_pfI (ci := 11) F G v (by omega) rfl rfl
theorem fI_149_14 (F G : Nat → Fn) : m_fI (mk F G) 11 14 149 = some (jI (F 149 14)) := mk_fI (ci := 11) F G (by omega) rfl rfl
theorem pf_149_14 (F G : Nat → Fn) (v : Int) : m_pf (mk F G) 11 14 149 (.int (jI v)) = some (mk (sA F 149 (u (F 149) 14 v)) G) := mk_pfI (ci := 11) F G v (by omega) rfl rfl
theorem fR_149_15 (F G : Nat → Fn) : m_fR (mk F G) 11 15 149 = some 154 := mk_fR (ci := 11) F G (by omega) rfl rfl
theorem fI_149_16 (F G : Nat → Fn) : m_fI (mk F G) 11 16 149 = some (jI (F 149 16)) := mk_fI (ci := 11) F G (by omega) rfl rfl
theorem pf_149_16 (F G : Nat → Fn) (v : Int) : m_pf (mk F G) 11 16 149 (.int (jI v)) = some (mk (sA F 149 (u (F 149) 16 v)) G) := mk_pfI (ci := 11) F G v (by omega) rfl rfl
theorem fI_149_17 (F G : Nat → Fn) : m_fI (mk F G) 11 17 149 = some (jI (F 149 17)) := mk_fI (ci := 11) F G (by omega) rfl rfl
theorem pf_149_17 (F G : Nat → Fn) (v : Int) : m_pf (mk F G) 11 17 149 (.int (jI v)) = some (mk (sA F 149 (u (F 149) 17 v)) G) := mk_pfI (ci := 11) F G v (by omega) rfl rfl
theorem fI_149_18 (F G : Nat → Fn) : m_fI (mk F G) 11 18 149 = some (jI (F 149 18)) := mk_fI (ci := 11) F G (by omega) rfl rfl
theorem pf_149_18 (F G : Nat → Fn) (v : Int) : m_pf (mk F G) 11 18 149 (.int (jI v)) = some (mk (sA F 149 (u (F 149) 18 v)) G) := mk_pfI (ci := 11) F G v (by omega) rfl rfl
theorem fI_149_19 (F G : Nat → Fn) : m_fI (mk F G) 11 19 149 = some (jI (F 149 19)) := mk_fI (ci := 11) F G (by omega) rfl rfl
theorem pf_149_19 (F G : Nat → Fn) (v : Int) : m_pf (mk F G) 11 19 149 (.int (jI v)) = some (mk (sA F 149 (u (F 149) 19 v)) G) := mk_pfI (ci := 11) F G v (by omega) rfl rfl
theorem fR_149_20 (F G : Nat → Fn) : m_fR (mk F G) 11 20 149 = some 155 := mk_fR (ci := 11) F G (by omega) rfl rfl
theorem fR_149_21 (F G : Nat → Fn) : m_fR (mk F G) 11 21 149 = some 156 := mk_fR (ci := 11) F G (by omega) rfl rfl
theorem fR_149_22 (F G : Nat → Fn) : m_fR (mk F G) 11 22 149 = some 157 := mk_fR (ci := 11) F G (by omega) rfl rfl
theorem fI_149_23 (F G : Nat → Fn) : m_fI (mk F G) 11 23 149 = some (jI (F 149 23)) := mk_fI (ci := 11) F G (by omega) rfl rfl
theorem pf_149_23 (F G : Nat → Fn) (v : Int) : m_pf (mk F G) 11 23 149 (.int (jI v)) = some (mk (sA F 149 (u (F 149) 23 v)) G) := mk_pfI (ci := 11) F G v (by omega) rfl rfl
theorem fR_149_24 (F G : Nat → Fn) : m_fR (mk F G) 11 24 149 = some 158 := mk_fR (ci := 11) F G (by omega) rfl rfl
theorem fR_149_25 (F G : Nat → Fn) : m_fR (mk F G) 11 25 149 = some 159 := mk_fR (ci := 11) F G (by omega) rfl rfl
theorem fR_149_26 (F G : Nat → Fn) : m_fR (mk F G) 11 26 149 = some 160 := mk_fR (ci := 11) F G (by omega) rfl rfl
theorem fR_149_27 (F G : Nat → Fn) : m_fR (mk F G) 11 27 149 = some 161 := mk_fR (ci := 11) F G (by omega) rfl rfl
theorem fR_149_28 (F G : Nat → Fn) : m_fR (mk F G) 11 28 149 = some 162 := mk_fR (ci := 11) F G (by omega) rfl rfl
theorem fR_149_29 (F G : Nat → Fn) : m_fR (mk F G) 11 29 149 = some 163 := mk_fR (ci := 11) F G (by omega) rfl rfl
theorem fR_149_30 (F G : Nat → Fn) : m_fR (mk F G) 11 30 149 = some 164 := mk_fR (ci := 11) F G (by omega) rfl rfl
theorem fL_149_31 (F G : Nat → Fn) : m_fL (mk F G) 11 31 149 = some (jL (G 149 31)) := mk_fL (ci := 11) F G (by omega) rfl rfl
theorem pf_149_31 (F G : Nat → Fn) (v : Int) : m_pf (mk F G) 11 31 149 (.long (jL v)) = some (mk F (sA G 149 (u (G 149) 31 v))) := mk_pfL (ci := 11) F G v (by omega) rfl rfl
theorem fL_149_32 (F G : Nat → Fn) : m_fL (mk F G) 11 32 149 = some (jL (G 149 32)) := mk_fL (ci := 11) F G (by omega) rfl rfl
theorem pf_149_32 (F G : Nat → Fn) (v : Int) : m_pf (mk F G) 11 32 149 (.long (jL v)) = some (mk F (sA G 149 (u (G 149) 32 v))) := mk_pfL (ci := 11) F G v (by omega) rfl rfl
theorem fR_149_33 (F G : Nat → Fn) : m_fR (mk F G) 11 33 149 = some 165 := mk_fR (ci := 11) F G (by omega) rfl rfl
theorem fR_149_34 (F G : Nat → Fn) : m_fR (mk F G) 11 34 149 = some 166 := mk_fR (ci := 11) F G (by omega) rfl rfl
theorem fR_149_35 (F G : Nat → Fn) : m_fR (mk F G) 11 35 149 = some 167 := mk_fR (ci := 11) F G (by omega) rfl rfl
theorem ia_2 (x : m_X) (F G : Nat → Fn) {z : Int} (h0 : 0 ≤ z) (h1 : z < 141) : m_ia x (mk F G) 2 (jI z) = some (jI (F 2 z)) := mk_ia (n := 141) x F G (by omega) rfl (by omega) h0 h1
theorem is_2 (F G : Nat → Fn) {z : Int} (v : Int) (h0 : 0 ≤ z) (h1 : z < 141) : m_is (mk F G) 2 (jI z) (jI v) = some (mk (sA F 2 (u (F 2) z v)) G) := mk_is (n := 141) F G v (by omega) rfl (by omega) h0 h1
theorem ia_52 (x : m_X) (F G : Nat → Fn) {z : Int} (h0 : 0 ≤ z) (h1 : z < 141) : m_ia x (mk F G) 52 (jI z) = some (jI (F 52 z)) := mk_ia (n := 141) x F G (by omega) rfl (by omega) h0 h1
theorem is_52 (F G : Nat → Fn) {z : Int} (v : Int) (h0 : 0 ≤ z) (h1 : z < 141) : m_is (mk F G) 52 (jI z) (jI v) = some (mk (sA F 52 (u (F 52) z v)) G) := mk_is (n := 141) F G v (by omega) rfl (by omega) h0 h1
theorem ia_102 (x : m_X) (F G : Nat → Fn) {z : Int} (h0 : 0 ≤ z) (h1 : z < 141) : m_ia x (mk F G) 102 (jI z) = some (jI (F 102 z)) := mk_ia (n := 141) x F G (by omega) rfl (by omega) h0 h1
theorem is_102 (F G : Nat → Fn) {z : Int} (v : Int) (h0 : 0 ≤ z) (h1 : z < 141) : m_is (mk F G) 102 (jI z) (jI v) = some (mk (sA F 102 (u (F 102) z v)) G) := mk_is (n := 141) F G v (by omega) rfl (by omega) h0 h1
theorem ia_38 (x : m_X) (F G : Nat → Fn) {z : Int} (h0 : 0 ≤ z) (h1 : z < 12) : m_ia x (mk F G) 38 (jI z) = some (jI (F 38 z)) := mk_ia (n := 12) x F G (by omega) rfl (by omega) h0 h1
theorem is_38 (F G : Nat → Fn) {z : Int} (v : Int) (h0 : 0 ≤ z) (h1 : z < 12) : m_is (mk F G) 38 (jI z) (jI v) = some (mk (sA F 38 (u (F 38) z v)) G) := mk_is (n := 12) F G v (by omega) rfl (by omega) h0 h1
theorem ia_40 (x : m_X) (F G : Nat → Fn) {z : Int} (h0 : 0 ≤ z) (h1 : z < 8) : m_ia x (mk F G) 40 (jI z) = some (jI (F 40 z)) := mk_ia (n := 8) x F G (by omega) rfl (by omega) h0 h1
theorem is_40 (F G : Nat → Fn) {z : Int} (v : Int) (h0 : 0 ≤ z) (h1 : z < 8) : m_is (mk F G) 40 (jI z) (jI v) = some (mk (sA F 40 (u (F 40) z v)) G) := mk_is (n := 8) F G v (by omega) rfl (by omega) h0 h1
theorem ia_42 (x : m_X) (F G : Nat → Fn) {z : Int} (h0 : 0 ≤ z) (h1 : z < 6) : m_ia x (mk F G) 42 (jI z) = some (jI (F 42 z)) := mk_ia (n := 6) x F G (by omega) rfl (by omega) h0 h1
theorem is_42 (F G : Nat → Fn) {z : Int} (v : Int) (h0 : 0 ≤ z) (h1 : z < 6) : m_is (mk F G) 42 (jI z) (jI v) = some (mk (sA F 42 (u (F 42) z v)) G) := mk_is (n := 6) F G v (by omega) rfl (by omega) h0 h1
theorem ia_44 (x : m_X) (F G : Nat → Fn) {z : Int} (h0 : 0 ≤ z) (h1 : z < 6) : m_ia x (mk F G) 44 (jI z) = some (jI (F 44 z)) := mk_ia (n := 6) x F G (by omega) rfl (by omega) h0 h1
theorem is_44 (F G : Nat → Fn) {z : Int} (v : Int) (h0 : 0 ≤ z) (h1 : z < 6) : m_is (mk F G) 44 (jI z) (jI v) = some (mk (sA F 44 (u (F 44) z v)) G) := mk_is (n := 6) F G v (by omega) rfl (by omega) h0 h1
theorem ia_46 (x : m_X) (F G : Nat → Fn) {z : Int} (h0 : 0 ≤ z) (h1 : z < 6) : m_ia x (mk F G) 46 (jI z) = some (jI (F 46 z)) := mk_ia (n := 6) x F G (by omega) rfl (by omega) h0 h1
theorem is_46 (F G : Nat → Fn) {z : Int} (v : Int) (h0 : 0 ≤ z) (h1 : z < 6) : m_is (mk F G) 46 (jI z) (jI v) = some (mk (sA F 46 (u (F 46) z v)) G) := mk_is (n := 6) F G v (by omega) rfl (by omega) h0 h1
theorem ia_48 (x : m_X) (F G : Nat → Fn) {z : Int} (h0 : 0 ≤ z) (h1 : z < 8) : m_ia x (mk F G) 48 (jI z) = some (jI (F 48 z)) := mk_ia (n := 8) x F G (by omega) rfl (by omega) h0 h1
theorem is_48 (F G : Nat → Fn) {z : Int} (v : Int) (h0 : 0 ≤ z) (h1 : z < 8) : m_is (mk F G) 48 (jI z) (jI v) = some (mk (sA F 48 (u (F 48) z v)) G) := mk_is (n := 8) F G v (by omega) rfl (by omega) h0 h1
theorem ia_50 (x : m_X) (F G : Nat → Fn) {z : Int} (h0 : 0 ≤ z) (h1 : z < 8) : m_ia x (mk F G) 50 (jI z) = some (jI (F 50 z)) := mk_ia (n := 8) x F G (by omega) rfl (by omega) h0 h1
theorem is_50 (F G : Nat → Fn) {z : Int} (v : Int) (h0 : 0 ≤ z) (h1 : z < 8) : m_is (mk F G) 50 (jI z) (jI v) = some (mk (sA F 50 (u (F 50) z v)) G) := mk_is (n := 8) F G v (by omega) rfl (by omega) h0 h1
theorem ia_135 (x : m_X) (F G : Nat → Fn) {z : Int} (h0 : 0 ≤ z) (h1 : z < 300) : m_ia x (mk F G) 135 (jI z) = some (jI (F 135 z)) := mk_ia (n := 300) x F G (by omega) rfl (by omega) h0 h1
theorem is_135 (F G : Nat → Fn) {z : Int} (v : Int) (h0 : 0 ≤ z) (h1 : z < 300) : m_is (mk F G) 135 (jI z) (jI v) = some (mk (sA F 135 (u (F 135) z v)) G) := mk_is (n := 300) F G v (by omega) rfl (by omega) h0 h1
theorem ia_137 (x : m_X) (F G : Nat → Fn) {z : Int} (h0 : 0 ≤ z) (h1 : z < 64) : m_ia x (mk F G) 137 (jI z) = some (jI (F 137 z)) := mk_ia (n := 64) x F G (by omega) rfl (by omega) h0 h1
theorem is_137 (F G : Nat → Fn) {z : Int} (v : Int) (h0 : 0 ≤ z) (h1 : z < 64) : m_is (mk F G) 137 (jI z) (jI v) = some (mk (sA F 137 (u (F 137) z v)) G) := mk_is (n := 64) F G v (by omega) rfl (by omega) h0 h1
theorem ia_139 (x : m_X) (F G : Nat → Fn) {z : Int} (h0 : 0 ≤ z) (h1 : z < 7) : m_ia x (mk F G) 139 (jI z) = some (jI (F 139 z)) := mk_ia (n := 7) x F G (by omega) rfl (by omega) h0 h1
theorem is_139 (F G : Nat → Fn) {z : Int} (v : Int) (h0 : 0 ≤ z) (h1 : z < 7) : m_is (mk F G) 139 (jI z) (jI v) = some (mk (sA F 139 (u (F 139) z v)) G) := mk_is (n := 7) F G v (by omega) rfl (by omega) h0 h1
theorem ia_140 (x : m_X) (F G : Nat → Fn) {z : Int} (h0 : 0 ≤ z) (h1 : z < 7) : m_ia x (mk F G) 140 (jI z) = some (jI (F 140 z)) := mk_ia (n := 7) x F G (by omega) rfl (by omega) h0 h1
theorem is_140 (F G : Nat → Fn) {z : Int} (v : Int) (h0 : 0 ≤ z) (h1 : z < 7) : m_is (mk F G) 140 (jI z) (jI v) = some (mk (sA F 140 (u (F 140) z v)) G) := mk_is (n := 7) F G v (by omega) rfl (by omega) h0 h1
theorem ia_143 (x : m_X) (F G : Nat → Fn) {z : Int} (h0 : 0 ≤ z) (h1 : z < 12) : m_ia x (mk F G) 143 (jI z) = some (jI (F 143 z)) := mk_ia (n := 12) x F G (by omega) rfl (by omega) h0 h1
theorem is_143 (F G : Nat → Fn) {z : Int} (v : Int) (h0 : 0 ≤ z) (h1 : z < 12) : m_is (mk F G) 143 (jI z) (jI v) = some (mk (sA F 143 (u (F 143) z v)) G) := mk_is (n := 12) F G v (by omega) rfl (by omega) h0 h1
theorem ia_145 (x : m_X) (F G : Nat → Fn) {z : Int} (h0 : 0 ≤ z) (h1 : z < 128) : m_ia x (mk F G) 145 (jI z) = some (jI (F 145 z)) := mk_ia (n := 128) x F G (by omega) rfl (by omega) h0 h1
theorem is_145 (F G : Nat → Fn) {z : Int} (v : Int) (h0 : 0 ≤ z) (h1 : z < 128) : m_is (mk F G) 145 (jI z) (jI v) = some (mk (sA F 145 (u (F 145) z v)) G) := mk_is (n := 128) F G v (by omega) rfl (by omega) h0 h1
theorem ia_146 (x : m_X) (F G : Nat → Fn) {z : Int} (h0 : 0 ≤ z) (h1 : z < 128) : m_ia x (mk F G) 146 (jI z) = some (jI (F 146 z)) := mk_ia (n := 128) x F G (by omega) rfl (by omega) h0 h1
theorem is_146 (F G : Nat → Fn) {z : Int} (v : Int) (h0 : 0 ≤ z) (h1 : z < 128) : m_is (mk F G) 146 (jI z) (jI v) = some (mk (sA F 146 (u (F 146) z v)) G) := mk_is (n := 128) F G v (by omega) rfl (by omega) h0 h1
theorem ia_147 (x : m_X) (F G : Nat → Fn) {z : Int} (h0 : 0 ≤ z) (h1 : z < 9) : m_ia x (mk F G) 147 (jI z) = some (jI (F 147 z)) := mk_ia (n := 9) x F G (by omega) rfl (by omega) h0 h1
theorem is_147 (F G : Nat → Fn) {z : Int} (v : Int) (h0 : 0 ≤ z) (h1 : z < 9) : m_is (mk F G) 147 (jI z) (jI v) = some (mk (sA F 147 (u (F 147) z v)) G) := mk_is (n := 9) F G v (by omega) rfl (by omega) h0 h1
theorem ia_148 (x : m_X) (F G : Nat → Fn) {z : Int} (h0 : 0 ≤ z) (h1 : z < 9) : m_ia x (mk F G) 148 (jI z) = some (jI (F 148 z)) := mk_ia (n := 9) x F G (by omega) rfl (by omega) h0 h1
theorem is_148 (F G : Nat → Fn) {z : Int} (v : Int) (h0 : 0 ≤ z) (h1 : z < 9) : m_is (mk F G) 148 (jI z) (jI v) = some (mk (sA F 148 (u (F 148) z v)) G) := mk_is (n := 9) F G v (by omega) rfl (by omega) h0 h1
theorem ia_150 (x : m_X) (F G : Nat → Fn) {z : Int} (h0 : 0 ≤ z) (h1 : z < 11730) : m_ia x (mk F G) 150 (jI z) = some (jI (F 150 z)) := mk_ia (n := 11730) x F G (by omega) rfl (by omega) h0 h1
theorem is_150 (F G : Nat → Fn) {z : Int} (v : Int) (h0 : 0 ≤ z) (h1 : z < 11730) : m_is (mk F G) 150 (jI z) (jI v) = some (mk (sA F 150 (u (F 150) z v)) G) := mk_is (n := 11730) F G v (by omega) rfl (by omega) h0 h1
theorem ia_151 (x : m_X) (F G : Nat → Fn) {z : Int} (h0 : 0 ≤ z) (h1 : z < 11730) : m_ia x (mk F G) 151 (jI z) = some (jI (F 151 z)) := mk_ia (n := 11730) x F G (by omega) rfl (by omega) h0 h1
theorem is_151 (F G : Nat → Fn) {z : Int} (v : Int) (h0 : 0 ≤ z) (h1 : z < 11730) : m_is (mk F G) 151 (jI z) (jI v) = some (mk (sA F 151 (u (F 151) z v)) G) := mk_is (n := 11730) F G v (by omega) rfl (by omega) h0 h1
theorem ia_152 (x : m_X) (F G : Nat → Fn) {z : Int} (h0 : 0 ≤ z) (h1 : z < 3012) : m_ia x (mk F G) 152 (jI z) = some (jI (F 152 z)) := mk_ia (n := 3012) x F G (by omega) rfl (by omega) h0 h1
theorem is_152 (F G : Nat → Fn) {z : Int} (v : Int) (h0 : 0 ≤ z) (h1 : z < 3012) : m_is (mk F G) 152 (jI z) (jI v) = some (mk (sA F 152 (u (F 152) z v)) G) := mk_is (n := 3012) F G v (by omega) rfl (by omega) h0 h1
theorem ia_153 (x : m_X) (F G : Nat → Fn) {z : Int} (h0 : 0 ≤ z) (h1 : z < 300) : m_ia x (mk F G) 153 (jI z) = some (jI (F 153 z)) := mk_ia (n := 300) x F G (by omega) rfl (by omega) h0 h1
theorem is_153 (F G : Nat → Fn) {z : Int} (v : Int) (h0 : 0 ≤ z) (h1 : z < 300) : m_is (mk F G) 153 (jI z) (jI v) = some (mk (sA F 153 (u (F 153) z v)) G) := mk_is (n := 300) F G v (by omega) rfl (by omega) h0 h1
theorem ia_154 (x : m_X) (F G : Nat → Fn) {z : Int} (h0 : 0 ≤ z) (h1 : z < 160) : m_ia x (mk F G) 154 (jI z) = some (jI (F 154 z)) := mk_ia (n := 160) x F G (by omega) rfl (by omega) h0 h1
theorem is_154 (F G : Nat → Fn) {z : Int} (v : Int) (h0 : 0 ≤ z) (h1 : z < 160) : m_is (mk F G) 154 (jI z) (jI v) = some (mk (sA F 154 (u (F 154) z v)) G) := mk_is (n := 160) F G v (by omega) rfl (by omega) h0 h1
theorem ia_155 (x : m_X) (F G : Nat → Fn) {z : Int} (h0 : 0 ≤ z) (h1 : z < 14) : m_ia x (mk F G) 155 (jI z) = some (jI (F 155 z)) := mk_ia (n := 14) x F G (by omega) rfl (by omega) h0 h1
theorem is_155 (F G : Nat → Fn) {z : Int} (v : Int) (h0 : 0 ≤ z) (h1 : z < 14) : m_is (mk F G) 155 (jI z) (jI v) = some (mk (sA F 155 (u (F 155) z v)) G) := mk_is (n := 14) F G v (by omega) rfl (by omega) h0 h1
theorem ia_158 (x : m_X) (F G : Nat → Fn) {z : Int} (h0 : 0 ≤ z) (h1 : z < 7) : m_ia x (mk F G) 158 (jI z) = some (jI (F 158 z)) := mk_ia (n := 7) x F G (by omega) rfl (by omega) h0 h1
theorem is_158 (F G : Nat → Fn) {z : Int} (v : Int) (h0 : 0 ≤ z) (h1 : z < 7) : m_is (mk F G) 158 (jI z) (jI v) = some (mk (sA F 158 (u (F 158) z v)) G) := mk_is (n := 7) F G v (by omega) rfl (by omega) h0 h1
theorem ia_159 (x : m_X) (F G : Nat → Fn) {z : Int} (h0 : 0 ≤ z) (h1 : z < 112) : m_ia x (mk F G) 159 (jI z) = some (jI (F 159 z)) := mk_ia (n := 112) x F G (by omega) rfl (by omega) h0 h1
theorem is_159 (F G : Nat → Fn) {z : Int} (v : Int) (h0 : 0 ≤ z) (h1 : z < 112) : m_is (mk F G) 159 (jI z) (jI v) = some (mk (sA F 159 (u (F 159) z v)) G) := mk_is (n := 112) F G v (by omega) rfl (by omega) h0 h1
theorem ia_160 (x : m_X) (F G : Nat → Fn) {z : Int} (h0 : 0 ≤ z) (h1 : z < 12) : m_ia x (mk F G) 160 (jI z) = some (jI (F 160 z)) := mk_ia (n := 12) x F G (by omega) rfl (by omega) h0 h1
theorem is_160 (F G : Nat → Fn) {z : Int} (v : Int) (h0 : 0 ≤ z) (h1 : z < 12) : m_is (mk F G) 160 (jI z) (jI v) = some (mk (sA F 160 (u (F 160) z v)) G) := mk_is (n := 12) F G v (by omega) rfl (by omega) h0 h1
theorem ia_161 (x : m_X) (F G : Nat → Fn) {z : Int} (h0 : 0 ≤ z) (h1 : z < 128) : m_ia x (mk F G) 161 (jI z) = some (jI (F 161 z)) := mk_ia (n := 128) x F G (by omega) rfl (by omega) h0 h1
theorem is_161 (F G : Nat → Fn) {z : Int} (v : Int) (h0 : 0 ≤ z) (h1 : z < 128) : m_is (mk F G) 161 (jI z) (jI v) = some (mk (sA F 161 (u (F 161) z v)) G) := mk_is (n := 128) F G v (by omega) rfl (by omega) h0 h1
theorem ia_162 (x : m_X) (F G : Nat → Fn) {z : Int} (h0 : 0 ≤ z) (h1 : z < 128) : m_ia x (mk F G) 162 (jI z) = some (jI (F 162 z)) := mk_ia (n := 128) x F G (by omega) rfl (by omega) h0 h1
theorem is_162 (F G : Nat → Fn) {z : Int} (v : Int) (h0 : 0 ≤ z) (h1 : z < 128) : m_is (mk F G) 162 (jI z) (jI v) = some (mk (sA F 162 (u (F 162) z v)) G) := mk_is (n := 128) F G v (by omega) rfl (by omega) h0 h1
theorem ia_163 (x : m_X) (F G : Nat → Fn) {z : Int} (h0 : 0 ≤ z) (h1 : z < 7) : m_ia x (mk F G) 163 (jI z) = some (jI (F 163 z)) := mk_ia (n := 7) x F G (by omega) rfl (by omega) h0 h1
theorem is_163 (F G : Nat → Fn) {z : Int} (v : Int) (h0 : 0 ≤ z) (h1 : z < 7) : m_is (mk F G) 163 (jI z) (jI v) = some (mk (sA F 163 (u (F 163) z v)) G) := mk_is (n := 7) F G v (by omega) rfl (by omega) h0 h1
theorem ia_164 (x : m_X) (F G : Nat → Fn) {z : Int} (h0 : 0 ≤ z) (h1 : z < 7) : m_ia x (mk F G) 164 (jI z) = some (jI (F 164 z)) := mk_ia (n := 7) x F G (by omega) rfl (by omega) h0 h1
theorem is_164 (F G : Nat → Fn) {z : Int} (v : Int) (h0 : 0 ≤ z) (h1 : z < 7) : m_is (mk F G) 164 (jI z) (jI v) = some (mk (sA F 164 (u (F 164) z v)) G) := mk_is (n := 7) F G v (by omega) rfl (by omega) h0 h1
theorem ia_165 (x : m_X) (F G : Nat → Fn) {z : Int} (h0 : 0 ≤ z) (h1 : z < 896) : m_ia x (mk F G) 165 (jI z) = some (jI (F 165 z)) := mk_ia (n := 896) x F G (by omega) rfl (by omega) h0 h1
theorem is_165 (F G : Nat → Fn) {z : Int} (v : Int) (h0 : 0 ≤ z) (h1 : z < 896) : m_is (mk F G) 165 (jI z) (jI v) = some (mk (sA F 165 (u (F 165) z v)) G) := mk_is (n := 896) F G v (by omega) rfl (by omega) h0 h1
theorem ba_157 (x : m_X) (F G : Nat → Fn) {z : Int} (h0 : 0 ≤ z) (h1 : z < 330) : m_ba x (mk F G) 157 (jI z) = some (jI (F 157 z)) := mk_ba (n := 330) x F G (by omega) rfl (by omega) h0 h1
theorem bs_157 (F G : Nat → Fn) {z : Int} (v : Int) (h0 : 0 ≤ z) (h1 : z < 330) (hv : v = 0 ∨ v = 1) : m_bs (mk F G) 157 (jI z) (jI v) = some (mk (sA F 157 (u (F 157) z v)) G) := mk_bs (n := 330) F G v (by omega) rfl (by omega) h0 h1 hv
theorem la_156 (F G : Nat → Fn) {z : Int} (h0 : 0 ≤ z) (h1 : z < 330) : m_la (mk F G) 156 (jI z) = some (jL (G 156 z)) := mk_la (n := 330) F G (by omega) rfl (by omega) h0 h1
theorem lst_156 (F G : Nat → Fn) {z : Int} (v : Int) (h0 : 0 ≤ z) (h1 : z < 330) : m_lst (mk F G) 156 (jI z) (jL v) = some (mk F (sA G 156 (u (G 156) z v))) := mk_lst (n := 330) F G v (by omega) rfl (by omega) h0 h1
theorem la_166 (F G : Nat → Fn) {z : Int} (h0 : 0 ≤ z) (h1 : z < 10) : m_la (mk F G) 166 (jI z) = some (jL (G 166 z)) := mk_la (n := 10) F G (by omega) rfl (by omega) h0 h1
theorem lst_166 (F G : Nat → Fn) {z : Int} (v : Int) (h0 : 0 ≤ z) (h1 : z < 10) : m_lst (mk F G) 166 (jI z) (jL v) = some (mk F (sA G 166 (u (G 166) z v))) := mk_lst (n := 10) F G v (by omega) rfl (by omega) h0 h1
theorem la_167 (F G : Nat → Fn) {z : Int} (h0 : 0 ≤ z) (h1 : z < 10) : m_la (mk F G) 167 (jI z) = some (jL (G 167 z)) := mk_la (n := 10) F G (by omega) rfl (by omega) h0 h1
theorem lst_167 (F G : Nat → Fn) {z : Int} (v : Int) (h0 : 0 ≤ z) (h1 : z < 10) : m_lst (mk F G) 167 (jI z) (jL v) = some (mk F (sA G 167 (u (G 167) z v))) := mk_lst (n := 10) F G v (by omega) rfl (by omega) h0 h1
theorem isO_W (F G : Nat → Fn) {w : Nat} (hw : w = 1 ∨ w = 51 ∨ w = 101) : m_isO (mk F G) w 9 = true := by
  rcases hw with rfl | rfl | rfl <;> exact mk_isO (ci := 9) F G (by omega) rfl
theorem fR_W_0 (F G : Nat → Fn) {w : Nat} (hw : w = 1 ∨ w = 51 ∨ w = 101) : m_fR (mk F G) 9 0 w = some (w + 1) := by
  rcases hw with rfl | rfl | rfl <;> exact mk_fR (ci := 9) F G (by omega) rfl rfl
theorem ia_W (x : m_X) (F G : Nat → Fn) {w : Nat} {z : Int} (hw : w = 1 ∨ w = 51 ∨ w = 101) (h0 : 0 ≤ z) (h1 : z < 141) : m_ia x (mk F G) (w + 1) (jI z) = some (jI (F (w + 1) z)) := by
  rcases hw with rfl | rfl | rfl <;> exact mk_ia (n := 141) x F G (by omega) rfl (by omega) h0 h1
theorem is_W (F G : Nat → Fn) {w : Nat} {z : Int} (v : Int) (hw : w = 1 ∨ w = 51 ∨ w = 101) (h0 : 0 ≤ z) (h1 : z < 141) : m_is (mk F G) (w + 1) (jI z) (jI v) = some (mk (sA F (w + 1) (u (F (w + 1)) z v)) G) := by
  rcases hw with rfl | rfl | rfl <;> exact mk_is (n := 141) F G v (by omega) rfl (by omega) h0 h1
theorem len_W (x : m_X) (F G : Nat → Fn) {w : Nat} (hw : w = 1 ∨ w = 51 ∨ w = 101) : m_len x (mk F G) (w + 1) = some (jI 141) := by
  rcases hw with rfl | rfl | rfl <;> exact mk_len (n := 141) (t := 0) x F G (by omega) rfl (by omega)
theorem isO_S (F G : Nat → Fn) {w : Nat} (hw : w = 3 ∨ w = 53) : m_isO (mk F G) w 6 = true := by
  rcases hw with rfl | rfl <;> exact mk_isO (ci := 6) F G (by omega) rfl
theorem fR_S_0 (F G : Nat → Fn) {w : Nat} (hw : w = 3 ∨ w = 53) : m_fR (mk F G) 6 0 w = some (w + 1) := by
  rcases hw with rfl | rfl <;> exact mk_fR (ci := 6) F G (by omega) rfl rfl
theorem fI_S_1 (F G : Nat → Fn) {w : Nat} (hw : w = 3 ∨ w = 53) : m_fI (mk F G) 6 1 w = some (jI (F w 1)) := by
  rcases hw with rfl | rfl <;> exact mk_fI (ci := 6) F G (by omega) rfl rfl
theorem pf_S_1 (F G : Nat → Fn) (v : Int) {w : Nat} (hw : w = 3 ∨ w = 53) : m_pf (mk F G) 6 1 w (.int (jI v)) = some (mk (sA F w (u (F w) 1 v)) G) := by
  rcases hw with rfl | rfl <;> exact mk_pfI (ci := 6) F G v (by omega) rfl rfl
theorem fI_S_2 (F G : Nat → Fn) {w : Nat} (hw : w = 3 ∨ w = 53) : m_fI (mk F G) 6 2 w = some (jI (F w 2)) := by
  rcases hw with rfl | rfl <;> exact mk_fI (ci := 6) F G (by omega) rfl rfl
theorem pf_S_2 (F G : Nat → Fn) (v : Int) {w : Nat} (hw : w = 3 ∨ w = 53) : m_pf (mk F G) 6 2 w (.int (jI v)) = some (mk (sA F w (u (F w) 2 v)) G) := by
  rcases hw with rfl | rfl <;> exact mk_pfI (ci := 6) F G v (by omega) rfl rfl
theorem isO_T (F G : Nat → Fn) {w : Nat} (hw : w = 36 ∨ w = 86) : m_isO (mk F G) w 7 = true := by
  rcases hw with rfl | rfl <;> exact mk_isO (ci := 7) F G (by omega) rfl
theorem fR_T_0 (F G : Nat → Fn) {w : Nat} (hw : w = 36 ∨ w = 86) : m_fR (mk F G) 7 0 w = some (w + 1) := by
  rcases hw with rfl | rfl <;> exact mk_fR (ci := 7) F G (by omega) rfl rfl
theorem fR_T_1 (F G : Nat → Fn) {w : Nat} (hw : w = 36 ∨ w = 86) : m_fR (mk F G) 7 1 w = some (w + 3) := by
  rcases hw with rfl | rfl <;> exact mk_fR (ci := 7) F G (by omega) rfl rfl
theorem fR_T_2 (F G : Nat → Fn) {w : Nat} (hw : w = 36 ∨ w = 86) : m_fR (mk F G) 7 2 w = some (w + 5) := by
  rcases hw with rfl | rfl <;> exact mk_fR (ci := 7) F G (by omega) rfl rfl
theorem fR_T_3 (F G : Nat → Fn) {w : Nat} (hw : w = 36 ∨ w = 86) : m_fR (mk F G) 7 3 w = some (w + 7) := by
  rcases hw with rfl | rfl <;> exact mk_fR (ci := 7) F G (by omega) rfl rfl
theorem fR_T_4 (F G : Nat → Fn) {w : Nat} (hw : w = 36 ∨ w = 86) : m_fR (mk F G) 7 4 w = some (w + 9) := by
  rcases hw with rfl | rfl <;> exact mk_fR (ci := 7) F G (by omega) rfl rfl
theorem fR_T_5 (F G : Nat → Fn) {w : Nat} (hw : w = 36 ∨ w = 86) : m_fR (mk F G) 7 5 w = some (w + 11) := by
  rcases hw with rfl | rfl <;> exact mk_fR (ci := 7) F G (by omega) rfl rfl
theorem fR_T_6 (F G : Nat → Fn) {w : Nat} (hw : w = 36 ∨ w = 86) : m_fR (mk F G) 7 6 w = some (w + 13) := by
  rcases hw with rfl | rfl <;> exact mk_fR (ci := 7) F G (by omega) rfl rfl
theorem fI_T_7 (F G : Nat → Fn) {w : Nat} (hw : w = 36 ∨ w = 86) : m_fI (mk F G) 7 7 w = some (jI (F w 7)) := by
  rcases hw with rfl | rfl <;> exact mk_fI (ci := 7) F G (by omega) rfl rfl
theorem pf_T_7 (F G : Nat → Fn) (v : Int) {w : Nat} (hw : w = 36 ∨ w = 86) : m_pf (mk F G) 7 7 w (.int (jI v)) = some (mk (sA F w (u (F w) 7 v)) G) := by
  rcases hw with rfl | rfl <;> exact mk_pfI (ci := 7) F G v (by omega) rfl rfl
theorem fI_T_8 (F G : Nat → Fn) {w : Nat} (hw : w = 36 ∨ w = 86) : m_fI (mk F G) 7 8 w = some (jI (F w 8)) := by
  rcases hw with rfl | rfl <;> exact mk_fI (ci := 7) F G (by omega) rfl rfl
theorem pf_T_8 (F G : Nat → Fn) (v : Int) {w : Nat} (hw : w = 36 ∨ w = 86) : m_pf (mk F G) 7 8 w (.int (jI v)) = some (mk (sA F w (u (F w) 8 v)) G) := by
  rcases hw with rfl | rfl <;> exact mk_pfI (ci := 7) F G v (by omega) rfl rfl
theorem isO_R (F G : Nat → Fn) {w : Nat} (hw : w = 37 ∨ w = 39 ∨ w = 41 ∨ w = 43 ∨ w = 45 ∨ w = 47 ∨ w = 49 ∨ w = 87 ∨ w = 89 ∨ w = 91 ∨ w = 93 ∨ w = 95 ∨ w = 97 ∨ w = 99 ∨ w = 142) : m_isO (mk F G) w 4 = true := by
  rcases hw with rfl | rfl | rfl | rfl | rfl | rfl | rfl | rfl | rfl | rfl | rfl | rfl | rfl | rfl | rfl <;> exact mk_isO (ci := 4) F G (by omega) rfl
theorem fR_R_0 (F G : Nat → Fn) {w : Nat} (hw : w = 37 ∨ w = 39 ∨ w = 41 ∨ w = 43 ∨ w = 45 ∨ w = 47 ∨ w = 49 ∨ w = 87 ∨ w = 89 ∨ w = 91 ∨ w = 93 ∨ w = 95 ∨ w = 97 ∨ w = 99 ∨ w = 142) : m_fR (mk F G) 4 0 w = some (w + 1) := by
  rcases hw with rfl | rfl | rfl | rfl | rfl | rfl | rfl | rfl | rfl | rfl | rfl | rfl | rfl | rfl | rfl <;> exact mk_fR (ci := 4) F G (by omega) rfl rfl
theorem fI_R_1 (F G : Nat → Fn) {w : Nat} (hw : w = 37 ∨ w = 39 ∨ w = 41 ∨ w = 43 ∨ w = 45 ∨ w = 47 ∨ w = 49 ∨ w = 87 ∨ w = 89 ∨ w = 91 ∨ w = 93 ∨ w = 95 ∨ w = 97 ∨ w = 99 ∨ w = 142) : m_fI (mk F G) 4 1 w = some (jI (F w 1)) := by
  rcases hw with rfl | rfl | rfl | rfl | rfl | rfl | rfl | rfl | rfl | rfl | rfl | rfl | rfl | rfl | rfl <;> exact mk_fI (ci := 4) F G (by omega) rfl rfl
theorem pf_R_1 (F G : Nat → Fn) (v : Int) {w : Nat} (hw : w = 37 ∨ w = 39 ∨ w = 41 ∨ w = 43 ∨ w = 45 ∨ w = 47 ∨ w = 49 ∨ w = 87 ∨ w = 89 ∨ w = 91 ∨ w = 93 ∨ w = 95 ∨ w = 97 ∨ w = 99 ∨ w = 142) : m_pf (mk F G) 4 1 w (.int (jI v)) = some (mk (sA F w (u (F w) 1 v)) G) := by
  rcases hw with rfl | rfl | rfl | rfl | rfl | rfl | rfl | rfl | rfl | rfl | rfl | rfl | rfl | rfl | rfl <;> exact mk_pfI (ci := 4) F G v (by omega) rfl rfl
theorem ia_R12 (x : m_X) (F G : Nat → Fn) {w : Nat} {z : Int} (hw : w = 37 ∨ w = 87 ∨ w = 142) (h0 : 0 ≤ z) (h1 : z < 12) : m_ia x (mk F G) (w + 1) (jI z) = some (jI (F (w + 1) z)) := by
  rcases hw with rfl | rfl | rfl <;> exact mk_ia (n := 12) x F G (by omega) rfl (by omega) h0 h1
theorem is_R12 (F G : Nat → Fn) {w : Nat} {z : Int} (v : Int) (hw : w = 37 ∨ w = 87 ∨ w = 142) (h0 : 0 ≤ z) (h1 : z < 12) : m_is (mk F G) (w + 1) (jI z) (jI v) = some (mk (sA F (w + 1) (u (F (w + 1)) z v)) G) := by
  rcases hw with rfl | rfl | rfl <;> exact mk_is (n := 12) F G v (by omega) rfl (by omega) h0 h1
theorem len_R12 (x : m_X) (F G : Nat → Fn) {w : Nat} (hw : w = 37 ∨ w = 87 ∨ w = 142) : m_len x (mk F G) (w + 1) = some (jI 12) := by
  rcases hw with rfl | rfl | rfl <;> exact mk_len (n := 12) (t := 0) x F G (by omega) rfl (by omega)
theorem ia_R8 (x : m_X) (F G : Nat → Fn) {w : Nat} {z : Int} (hw : w = 39 ∨ w = 47 ∨ w = 49 ∨ w = 89 ∨ w = 97 ∨ w = 99) (h0 : 0 ≤ z) (h1 : z < 8) : m_ia x (mk F G) (w + 1) (jI z) = some (jI (F (w + 1) z)) := by
  rcases hw with rfl | rfl | rfl | rfl | rfl | rfl <;> exact mk_ia (n := 8) x F G (by omega) rfl (by omega) h0 h1
theorem is_R8 (F G : Nat → Fn) {w : Nat} {z : Int} (v : Int) (hw : w = 39 ∨ w = 47 ∨ w = 49 ∨ w = 89 ∨ w = 97 ∨ w = 99) (h0 : 0 ≤ z) (h1 : z < 8) : m_is (mk F G) (w + 1) (jI z) (jI v) = some (mk (sA F (w + 1) (u (F (w + 1)) z v)) G) := by
  rcases hw with rfl | rfl | rfl | rfl | rfl | rfl <;> exact mk_is (n := 8) F G v (by omega) rfl (by omega) h0 h1
theorem len_R8 (x : m_X) (F G : Nat → Fn) {w : Nat} (hw : w = 39 ∨ w = 47 ∨ w = 49 ∨ w = 89 ∨ w = 97 ∨ w = 99) : m_len x (mk F G) (w + 1) = some (jI 8) := by
  rcases hw with rfl | rfl | rfl | rfl | rfl | rfl <;> exact mk_len (n := 8) (t := 0) x F G (by omega) rfl (by omega)
theorem ia_R6 (x : m_X) (F G : Nat → Fn) {w : Nat} {z : Int} (hw : w = 41 ∨ w = 43 ∨ w = 45 ∨ w = 91 ∨ w = 93 ∨ w = 95) (h0 : 0 ≤ z) (h1 : z < 6) : m_ia x (mk F G) (w + 1) (jI z) = some (jI (F (w + 1) z)) := by
  rcases hw with rfl | rfl | rfl | rfl | rfl | rfl <;> exact mk_ia (n := 6) x F G (by omega) rfl (by omega) h0 h1
theorem is_R6 (F G : Nat → Fn) {w : Nat} {z : Int} (v : Int) (hw : w = 41 ∨ w = 43 ∨ w = 45 ∨ w = 91 ∨ w = 93 ∨ w = 95) (h0 : 0 ≤ z) (h1 : z < 6) : m_is (mk F G) (w + 1) (jI z) (jI v) = some (mk (sA F (w + 1) (u (F (w + 1)) z v)) G) := by
  rcases hw with rfl | rfl | rfl | rfl | rfl | rfl <;> exact mk_is (n := 6) F G v (by omega) rfl (by omega) h0 h1
theorem len_R6 (x : m_X) (F G : Nat → Fn) {w : Nat} (hw : w = 41 ∨ w = 43 ∨ w = 45 ∨ w = 91 ∨ w = 93 ∨ w = 95) : m_len x (mk F G) (w + 1) = some (jI 6) := by
  rcases hw with rfl | rfl | rfl | rfl | rfl | rfl <;> exact mk_len (n := 6) (t := 0) x F G (by omega) rfl (by omega)
theorem isO_P (F G : Nat → Fn) {w : Nat} (hw : w = 104 ∨ w = 110 ∨ w = 116 ∨ w = 122 ∨ w = 129) : m_isO (mk F G) w 5 = true := by
  rcases hw with rfl | rfl | rfl | rfl | rfl <;> exact mk_isO (ci := 5) F G (by omega) rfl
theorem fR_P_0 (F G : Nat → Fn) {w : Nat} (hw : w = 104 ∨ w = 110 ∨ w = 116 ∨ w = 122 ∨ w = 129) : m_fR (mk F G) 5 0 w = some (w + 1) := by
  rcases hw with rfl | rfl | rfl | rfl | rfl <;> exact mk_fR (ci := 5) F G (by omega) rfl rfl
theorem fR_P_1 (F G : Nat → Fn) {w : Nat} (hw : w = 104 ∨ w = 110 ∨ w = 116 ∨ w = 122 ∨ w = 129) : m_fR (mk F G) 5 1 w = some (w + 2) := by
  rcases hw with rfl | rfl | rfl | rfl | rfl <;> exact mk_fR (ci := 5) F G (by omega) rfl rfl
theorem fR_P_2 (F G : Nat → Fn) {w : Nat} (hw : w = 104 ∨ w = 110 ∨ w = 116 ∨ w = 122 ∨ w = 129) : m_fR (mk F G) 5 2 w = some (w + 3) := by
  rcases hw with rfl | rfl | rfl | rfl | rfl <;> exact mk_fR (ci := 5) F G (by omega) rfl rfl
theorem fR_P_3 (F G : Nat → Fn) {w : Nat} (hw : w = 104 ∨ w = 110 ∨ w = 116 ∨ w = 122 ∨ w = 129) : m_fR (mk F G) 5 3 w = some (w + 4) := by
  rcases hw with rfl | rfl | rfl | rfl | rfl <;> exact mk_fR (ci := 5) F G (by omega) rfl rfl
theorem fR_P_4 (F G : Nat → Fn) {w : Nat} (hw : w = 104 ∨ w = 110 ∨ w = 116 ∨ w = 122 ∨ w = 129) : m_fR (mk F G) 5 4 w = some (w + 5) := by
  rcases hw with rfl | rfl | rfl | rfl | rfl <;> exact mk_fR (ci := 5) F G (by omega) rfl rfl
theorem fI_P_5 (F G : Nat → Fn) {w : Nat} (hw : w = 104 ∨ w = 110 ∨ w = 116 ∨ w = 122 ∨ w = 129) : m_fI (mk F G) 5 5 w = some (jI (F w 5)) := by
  rcases hw with rfl | rfl | rfl | rfl | rfl <;> exact mk_fI (ci := 5) F G (by omega) rfl rfl
theorem pf_P_5 (F G : Nat → Fn) (v : Int) {w : Nat} (hw : w = 104 ∨ w = 110 ∨ w = 116 ∨ w = 122 ∨ w = 129) : m_pf (mk F G) 5 5 w (.int (jI v)) = some (mk (sA F w (u (F w) 5 v)) G) := by
  rcases hw with rfl | rfl | rfl | rfl | rfl <;> exact mk_pfI (ci := 5) F G v (by omega) rfl rfl
theorem fI_P_6 (F G : Nat → Fn) {w : Nat} (hw : w = 104 ∨ w = 110 ∨ w = 116 ∨ w = 122 ∨ w = 129) : m_fI (mk F G) 5 6 w = some (jI (F w 6)) := by
  rcases hw with rfl | rfl | rfl | rfl | rfl <;> exact mk_fI (ci := 5) F G (by omega) rfl rfl
theorem pf_P_6 (F G : Nat → Fn) (v : Int) {w : Nat} (hw : w = 104 ∨ w = 110 ∨ w = 116 ∨ w = 122 ∨ w = 129) : m_pf (mk F G) 5 6 w (.int (jI v)) = some (mk (sA F w (u (F w) 6 v)) G) := by
  rcases hw with rfl | rfl | rfl | rfl | rfl <;> exact mk_pfI (ci := 5) F G v (by omega) rfl rfl
theorem ia_P1 (x : m_X) (F G : Nat → Fn) {w : Nat} {z : Int} (hw : w = 104 ∨ w = 110 ∨ w = 116 ∨ w = 122 ∨ w = 129) (h0 : 0 ≤ z) (h1 : z < 24) : m_ia x (mk F G) (w + 1) (jI z) = some (jI (F (w + 1) z)) := by
  rcases hw with rfl | rfl | rfl | rfl | rfl <;> exact mk_ia (n := 24) x F G (by omega) rfl (by omega) h0 h1
theorem is_P1 (F G : Nat → Fn) {w : Nat} {z : Int} (v : Int) (hw : w = 104 ∨ w = 110 ∨ w = 116 ∨ w = 122 ∨ w = 129) (h0 : 0 ≤ z) (h1 : z < 24) : m_is (mk F G) (w + 1) (jI z) (jI v) = some (mk (sA F (w + 1) (u (F (w + 1)) z v)) G) := by
  rcases hw with rfl | rfl | rfl | rfl | rfl <;> exact mk_is (n := 24) F G v (by omega) rfl (by omega) h0 h1
theorem len_P1 (x : m_X) (F G : Nat → Fn) {w : Nat} (hw : w = 104 ∨ w = 110 ∨ w = 116 ∨ w = 122 ∨ w = 129) : m_len x (mk F G) (w + 1) = some (jI 24) := by
  rcases hw with rfl | rfl | rfl | rfl | rfl <;> exact mk_len (n := 24) (t := 0) x F G (by omega) rfl (by omega)
theorem ia_P2 (x : m_X) (F G : Nat → Fn) {w : Nat} {z : Int} (hw : w = 104 ∨ w = 110 ∨ w = 116 ∨ w = 122 ∨ w = 129) (h0 : 0 ≤ z) (h1 : z < 24) : m_ia x (mk F G) (w + 2) (jI z) = some (jI (F (w + 2) z)) := by
  rcases hw with rfl | rfl | rfl | rfl | rfl <;> exact mk_ia (n := 24) x F G (by omega) rfl (by omega) h0 h1
theorem is_P2 (F G : Nat → Fn) {w : Nat} {z : Int} (v : Int) (hw : w = 104 ∨ w = 110 ∨ w = 116 ∨ w = 122 ∨ w = 129) (h0 : 0 ≤ z) (h1 : z < 24) : m_is (mk F G) (w + 2) (jI z) (jI v) = some (mk (sA F (w + 2) (u (F (w + 2)) z v)) G) := by
  rcases hw with rfl | rfl | rfl | rfl | rfl <;> exact mk_is (n := 24) F G v (by omega) rfl (by omega) h0 h1
theorem len_P2 (x : m_X) (F G : Nat → Fn) {w : Nat} (hw : w = 104 ∨ w = 110 ∨ w = 116 ∨ w = 122 ∨ w = 129) : m_len x (mk F G) (w + 2) = some (jI 24) := by
  rcases hw with rfl | rfl | rfl | rfl | rfl <;> exact mk_len (n := 24) (t := 0) x F G (by omega) rfl (by omega)
theorem ia_P3 (x : m_X) (F G : Nat → Fn) {w : Nat} {z : Int} (hw : w = 104 ∨ w = 110 ∨ w = 116 ∨ w = 122 ∨ w = 129) (h0 : 0 ≤ z) (h1 : z < 24) : m_ia x (mk F G) (w + 3) (jI z) = some (jI (F (w + 3) z)) := by
  rcases hw with rfl | rfl | rfl | rfl | rfl <;> exact mk_ia (n := 24) x F G (by omega) rfl (by omega) h0 h1
theorem is_P3 (F G : Nat → Fn) {w : Nat} {z : Int} (v : Int) (hw : w = 104 ∨ w = 110 ∨ w = 116 ∨ w = 122 ∨ w = 129) (h0 : 0 ≤ z) (h1 : z < 24) : m_is (mk F G) (w + 3) (jI z) (jI v) = some (mk (sA F (w + 3) (u (F (w + 3)) z v)) G) := by
  rcases hw with rfl | rfl | rfl | rfl | rfl <;> exact mk_is (n := 24) F G v (by omega) rfl (by omega) h0 h1
theorem len_P3 (x : m_X) (F G : Nat → Fn) {w : Nat} (hw : w = 104 ∨ w = 110 ∨ w = 116 ∨ w = 122 ∨ w = 129) : m_len x (mk F G) (w + 3) = some (jI 24) := by
  rcases hw with rfl | rfl | rfl | rfl | rfl <;> exact mk_len (n := 24) (t := 0) x F G (by omega) rfl (by omega)
theorem ia_P4 (x : m_X) (F G : Nat → Fn) {w : Nat} {z : Int} (hw : w = 104 ∨ w = 110 ∨ w = 116 ∨ w = 122 ∨ w = 129) (h0 : 0 ≤ z) (h1 : z < 300) : m_ia x (mk F G) (w + 4) (jI z) = some (jI (F (w + 4) z)) := by
  rcases hw with rfl | rfl | rfl | rfl | rfl <;> exact mk_ia (n := 300) x F G (by omega) rfl (by omega) h0 h1
theorem is_P4 (F G : Nat → Fn) {w : Nat} {z : Int} (v : Int) (hw : w = 104 ∨ w = 110 ∨ w = 116 ∨ w = 122 ∨ w = 129) (h0 : 0 ≤ z) (h1 : z < 300) : m_is (mk F G) (w + 4) (jI z) (jI v) = some (mk (sA F (w + 4) (u (F (w + 4)) z v)) G) := by
  rcases hw with rfl | rfl | rfl | rfl | rfl <;> exact mk_is (n := 300) F G v (by omega) rfl (by omega) h0 h1
theorem len_P4 (x : m_X) (F G : Nat → Fn) {w : Nat} (hw : w = 104 ∨ w = 110 ∨ w = 116 ∨ w = 122 ∨ w = 129) : m_len x (mk F G) (w + 4) = some (jI 300) := by
  rcases hw with rfl | rfl | rfl | rfl | rfl <;> exact mk_len (n := 300) (t := 0) x F G (by omega) rfl (by omega)
theorem ia_P5 (x : m_X) (F G : Nat → Fn) {w : Nat} {z : Int} (hw : w = 104 ∨ w = 110 ∨ w = 116 ∨ w = 122 ∨ w = 129) (h0 : 0 ≤ z) (h1 : z < 4) : m_ia x (mk F G) (w + 5) (jI z) = some (jI (F (w + 5) z)) := by
  rcases hw with rfl | rfl | rfl | rfl | rfl <;> exact mk_ia (n := 4) x F G (by omega) rfl (by omega) h0 h1
theorem is_P5 (F G : Nat → Fn) {w : Nat} {z : Int} (v : Int) (hw : w = 104 ∨ w = 110 ∨ w = 116 ∨ w = 122 ∨ w = 129) (h0 : 0 ≤ z) (h1 : z < 4) : m_is (mk F G) (w + 5) (jI z) (jI v) = some (mk (sA F (w + 5) (u (F (w + 5)) z v)) G) := by
  rcases hw with rfl | rfl | rfl | rfl | rfl <;> exact mk_is (n := 4) F G v (by omega) rfl (by omega) h0 h1
theorem len_P5 (x : m_X) (F G : Nat → Fn) {w : Nat} (hw : w = 104 ∨ w = 110 ∨ w = 116 ∨ w = 122 ∨ w = 129) : m_len x (mk F G) (w + 5) = some (jI 4) := by
  rcases hw with rfl | rfl | rfl | rfl | rfl <;> exact mk_len (n := 4) (t := 0) x F G (by omega) rfl (by omega)
theorem aa_S (F G : Nat → Fn) {w : Nat} {z : Int} (hw : w = 3 ∨ w = 53) (h0 : 0 ≤ z) (h1 : z < 31) : m_aa (mk F G) (w + 1) (jI z) = some (w + 2 + z.toNat) := by
  rcases hw with rfl | rfl
  · rw [mk_aa (n := 31) (p := 5) (q := 1) (t := 4) F G (by omega) rfl (by omega) (by omega) h0 h1]; simp
  · rw [mk_aa (n := 31) (p := 55) (q := 1) (t := 4) F G (by omega) rfl (by omega) (by omega) h0 h1]; simp
theorem aa_103 (F G : Nat → Fn) {z : Int} (h0 : 0 ≤ z) (h1 : z < 4) : m_aa (mk F G) 103 (jI z) = some (104 + 6 * z.toNat) := mk_aa (n := 4) (p := 104) (q := 6) (t := 3) F G (by omega) rfl (by omega) (by omega) h0 h1
