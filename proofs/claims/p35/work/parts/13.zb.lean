noncomputable section
/-! QUICK TABLES OF THIS PROGRAM -/
def hb_q0 : List (Nat × List (Nat × Instr × Nat)) := [(12, hb_c0_0), (27, hb_c0_1), (37, hb_c0_2)]
def hb_q1 : List (Nat × List (Nat × Instr × Nat)) := [(11, hb_c1_0), (24, hb_c1_1), (38, hb_c1_2), (48, hb_c1_3)]
def hb_q2 : List (Nat × List (Nat × Instr × Nat)) := [(10, hb_c2_0)]
def hb_q3 : List (Nat × List (Nat × Instr × Nat)) := [(11, hb_c3_0), (15, hb_c3_1)]
def hb_q4 : List (Nat × List (Nat × Instr × Nat)) := [(14, hb_c4_0), (26, hb_c4_1), (29, hb_c4_2)]
def hb_q5 : List (Nat × List (Nat × Instr × Nat)) := [(14, hb_c5_0), (31, hb_c5_1), (44, hb_c5_2), (59, hb_c5_3), (73, hb_c5_4), (74, hb_c5_5)]
def hb_q6 : List (Nat × List (Nat × Instr × Nat)) := [(13, hb_c6_0), (28, hb_c6_1), (42, hb_c6_2), (55, hb_c6_3), (71, hb_c6_4), (83, hb_c6_5), (89, hb_c6_6)]
def hb_q7 : List (Nat × List (Nat × Instr × Nat)) := [(14, hb_c7_0), (28, hb_c7_1), (40, hb_c7_2), (56, hb_c7_3), (67, hb_c7_4)]
def hb_q8 : List (Nat × List (Nat × Instr × Nat)) := [(14, hb_c8_0), (26, hb_c8_1), (41, hb_c8_2), (53, hb_c8_3), (63, hb_c8_4)]
def hb_q9 : List (Nat × List (Nat × Instr × Nat)) := [(12, hb_c9_0), (18, hb_c9_1)]
def hb_q10 : List (Nat × List (Nat × Instr × Nat)) := [(14, hb_c10_0), (26, hb_c10_1), (30, hb_c10_2)]
def hb_q11 : List (Nat × List (Nat × Instr × Nat)) := [(12, hb_c11_0), (16, hb_c11_1)]
def hb_q12 : List (Nat × List (Nat × Instr × Nat)) := [(12, hb_c12_0), (28, hb_c12_1), (43, hb_c12_2), (59, hb_c12_3), (75, hb_c12_4), (91, hb_c12_5), (107, hb_c12_6), (123, hb_c12_7)]
def hb_q13 : List (Nat × List (Nat × Instr × Nat)) := [(14, hb_c13_0), (15, hb_c13_1)]
def hb_q14 : List (Nat × List (Nat × Instr × Nat)) := [(13, hb_c14_0), (31, hb_c14_1), (49, hb_c14_2), (65, hb_c14_3), (83, hb_c14_4), (101, hb_c14_5), (117, hb_c14_6), (135, hb_c14_7), (153, hb_c14_8), (156, hb_c14_9)]
def hb_q15 : List (Nat × List (Nat × Instr × Nat)) := [(11, hb_c15_0), (25, hb_c15_1), (40, hb_c15_2), (52, hb_c15_3)]
def hb_q16 : List (Nat × List (Nat × Instr × Nat)) := [(11, hb_c16_0), (25, hb_c16_1), (40, hb_c16_2), (52, hb_c16_3)]
def hb_q17 : List (Nat × List (Nat × Instr × Nat)) := [(11, hb_c17_0), (25, hb_c17_1), (40, hb_c17_2), (52, hb_c17_3)]
def hb_q18 : List (Nat × List (Nat × Instr × Nat)) := [(9, hb_c18_0), (21, hb_c18_1), (28, hb_c18_2)]
def hb_q19 : List (Nat × List (Nat × Instr × Nat)) := [(9, hb_c19_0), (21, hb_c19_1), (28, hb_c19_2)]
def hb_q20 : List (Nat × List (Nat × Instr × Nat)) := [(12, hb_c20_0), (27, hb_c20_1), (39, hb_c20_2), (50, hb_c20_3), (64, hb_c20_4), (78, hb_c20_5), (93, hb_c20_6), (109, hb_c20_7), (126, hb_c20_8), (143, hb_c20_9)]
def hb_q21 : List (Nat × List (Nat × Instr × Nat)) := [(12, hb_c21_0), (24, hb_c21_1), (37, hb_c21_2), (50, hb_c21_3), (59, hb_c21_4)]
def hb_q22 : List (Nat × List (Nat × Instr × Nat)) := [(12, hb_c22_0), (26, hb_c22_1), (40, hb_c22_2), (55, hb_c22_3), (67, hb_c22_4), (76, hb_c22_5)]
def hb_q23 : List (Nat × List (Nat × Instr × Nat)) := [(13, hb_c23_0), (14, hb_c23_1)]
def hb_q24 : List (Nat × List (Nat × Instr × Nat)) := [(11, hb_c24_0), (23, hb_c24_1), (38, hb_c24_2), (52, hb_c24_3)]
def hb_q25 : List (Nat × List (Nat × Instr × Nat)) := [(11, hb_c25_0), (19, hb_c25_1)]
def hb_q26 : List (Nat × List (Nat × Instr × Nat)) := [(12, hb_c26_0), (24, hb_c26_1), (29, hb_c26_2)]
def hb_q27 : List (Nat × List (Nat × Instr × Nat)) := [(10, hb_c27_0), (21, hb_c27_1)]
def hb_q28 : List (Nat × List (Nat × Instr × Nat)) := [(10, hb_c28_0), (12, hb_c28_1)]
def hb_q29 : List (Nat × List (Nat × Instr × Nat)) := [(41, hb_c29_0), (53, hb_c29_1), (56, hb_c29_2)]
def hb_q30 : List (Nat × List (Nat × Instr × Nat)) := [(11, hb_c30_0), (26, hb_c30_1), (40, hb_c30_2), (54, hb_c30_3), (66, hb_c30_4), (80, hb_c30_5), (81, hb_c30_6)]
def hb_q31 : List (Nat × List (Nat × Instr × Nat)) := [(12, hb_c31_0), (28, hb_c31_1), (44, hb_c31_2), (60, hb_c31_3), (74, hb_c31_4), (90, hb_c31_5), (104, hb_c31_6), (119, hb_c31_7), (133, hb_c31_8)]
def hb_q32 : List (Nat × List (Nat × Instr × Nat)) := [(13, hb_c32_0), (31, hb_c32_1), (49, hb_c32_2), (65, hb_c32_3), (83, hb_c32_4), (86, hb_c32_5)]
def hb_q33 : List (Nat × List (Nat × Instr × Nat)) := [(14, hb_c33_0), (27, hb_c33_1), (38, hb_c33_2)]
def hb_q34 : List (Nat × List (Nat × Instr × Nat)) := [(13, hb_c34_0), (31, hb_c34_1), (41, hb_c34_2), (55, hb_c34_3), (67, hb_c34_4)]
def hb_q35 : List (Nat × List (Nat × Instr × Nat)) := [(12, hb_c35_0), (25, hb_c35_1), (35, hb_c35_2), (49, hb_c35_3), (56, hb_c35_4)]
def hb_q36 : List (Nat × List (Nat × Instr × Nat)) := [(13, hb_c36_0), (26, hb_c36_1), (29, hb_c36_2)]
def hb_q37 : List (Nat × List (Nat × Instr × Nat)) := [(11, hb_c37_0), (23, hb_c37_1), (36, hb_c37_2)]
def hb_q38 : List (Nat × List (Nat × Instr × Nat)) := [(10, hb_c38_0), (22, hb_c38_1), (26, hb_c38_2)]
def hb_q39 : List (Nat × List (Nat × Instr × Nat)) := [(11, hb_c39_0), (26, hb_c39_1), (41, hb_c39_2), (59, hb_c39_3), (60, hb_c39_4)]
def hb_q40 : List (Nat × List (Nat × Instr × Nat)) := [(9, hb_c40_0), (24, hb_c40_1), (36, hb_c40_2), (45, hb_c40_3), (60, hb_c40_4)]
def hb_q41 : List (Nat × List (Nat × Instr × Nat)) := [(12, hb_c41_0), (24, hb_c41_1), (36, hb_c41_2), (48, hb_c41_3), (60, hb_c41_4), (71, hb_c41_5), (85, hb_c41_6), (100, hb_c41_7), (112, hb_c41_8), (118, hb_c41_9)]
def hb_q42 : List (Nat × List (Nat × Instr × Nat)) := [(11, hb_c42_0), (25, hb_c42_1), (35, hb_c42_2), (49, hb_c42_3), (61, hb_c42_4), (73, hb_c42_5), (85, hb_c42_6), (96, hb_c42_7), (107, hb_c42_8), (118, hb_c42_9), (119, hb_c42_10)]
def hb_q43 : List (Nat × List (Nat × Instr × Nat)) := [(10, hb_c43_0), (24, hb_c43_1), (36, hb_c43_2), (50, hb_c43_3), (64, hb_c43_4), (76, hb_c43_5), (88, hb_c43_6)]
def hb_q44 : List (Nat × List (Nat × Instr × Nat)) := [(11, hb_c44_0), (27, hb_c44_1), (43, hb_c44_2), (59, hb_c44_3), (73, hb_c44_4), (77, hb_c44_5)]
def hb_q45 : List (Nat × List (Nat × Instr × Nat)) := [(13, hb_c45_0), (30, hb_c45_1)]
def hb_q46 : List (Nat × List (Nat × Instr × Nat)) := [(11, hb_c46_0), (25, hb_c46_1), (34, hb_c46_2)]
def hb_q47 : List (Nat × List (Nat × Instr × Nat)) := [(11, hb_c47_0), (25, hb_c47_1), (37, hb_c47_2), (51, hb_c47_3), (61, hb_c47_4), (73, hb_c47_5), (83, hb_c47_6), (97, hb_c47_7), (100, hb_c47_8)]
def hb_q48 : List (Nat × List (Nat × Instr × Nat)) := [(14, hb_c48_0), (22, hb_c48_1), (23, hb_c48_2)]
def hb_q49 : List (Nat × List (Nat × Instr × Nat)) := [(11, hb_c49_0), (17, hb_c49_1)]
def hb_q50 : List (Nat × List (Nat × Instr × Nat)) := [(10, hb_c50_0), (22, hb_c50_1), (39, hb_c50_2), (57, hb_c50_3), (73, hb_c50_4), (85, hb_c50_5), (101, hb_c50_6), (116, hb_c50_7), (124, hb_c50_8), (138, hb_c50_9), (148, hb_c50_10)]
def hb_q51 : List (Nat × List (Nat × Instr × Nat)) := [(13, hb_c51_0), (31, hb_c51_1), (47, hb_c51_2), (60, hb_c51_3)]
def hb_q52 : List (Nat × List (Nat × Instr × Nat)) := [(13, hb_c52_0), (30, hb_c52_1), (41, hb_c52_2), (57, hb_c52_3), (60, hb_c52_4)]
def hb_q53 : List (Nat × List (Nat × Instr × Nat)) := [(11, hb_c53_0), (25, hb_c53_1), (40, hb_c53_2), (57, hb_c53_3), (75, hb_c53_4), (91, hb_c53_5), (107, hb_c53_6), (125, hb_c53_7), (136, hb_c53_8)]
def hb_q54 : List (Nat × List (Nat × Instr × Nat)) := [(9, hb_c54_0), (23, hb_c54_1), (39, hb_c54_2), (57, hb_c54_3), (69, hb_c54_4), (85, hb_c54_5), (101, hb_c54_6), (117, hb_c54_7), (133, hb_c54_8), (146, hb_c54_9), (160, hb_c54_10), (167, hb_c54_11)]
def hb_q55 : List (Nat × List (Nat × Instr × Nat)) := [(15, hb_c55_0), (29, hb_c55_1), (41, hb_c55_2), (50, hb_c55_3)]
def hb_q56 : List (Nat × List (Nat × Instr × Nat)) := [(13, hb_c56_0), (17, hb_c56_1)]
def hb_q57 : List (Nat × List (Nat × Instr × Nat)) := [(13, hb_c57_0), (17, hb_c57_1)]
def hb_q58 : List (Nat × List (Nat × Instr × Nat)) := [(9, hb_c58_0), (21, hb_c58_1), (34, hb_c58_2), (43, hb_c58_3)]
def hb_q59 : List (Nat × List (Nat × Instr × Nat)) := [(48, hb_c59_0), (67, hb_c59_1), (84, hb_c59_2), (101, hb_c59_3), (118, hb_c59_4), (137, hb_c59_5), (156, hb_c59_6), (173, hb_c59_7), (192, hb_c59_8), (209, hb_c59_9), (224, hb_c59_10), (239, hb_c59_11), (257, hb_c59_12), (275, hb_c59_13), (294, hb_c59_14), (313, hb_c59_15), (317, hb_c59_16)]
def hb_q60 : List (Nat × List (Nat × Instr × Nat)) := [(11, hb_c60_0), (25, hb_c60_1), (37, hb_c60_2), (45, hb_c60_3)]
def hb_q61 : List (Nat × List (Nat × Instr × Nat)) := [(13, hb_c61_0), (14, hb_c61_1)]
def hb_q62 : List (Nat × List (Nat × Instr × Nat)) := [(13, hb_c62_0), (29, hb_c62_1), (41, hb_c62_2), (46, hb_c62_3)]
def hb_q63 : List (Nat × List (Nat × Instr × Nat)) := [(15, hb_c63_0), (29, hb_c63_1), (43, hb_c63_2), (57, hb_c63_3), (64, hb_c63_4)]
def hb_q64 : List (Nat × List (Nat × Instr × Nat)) := [(11, hb_c64_0), (25, hb_c64_1), (39, hb_c64_2), (54, hb_c64_3), (59, hb_c64_4)]
def hb_q65 : List (Nat × List (Nat × Instr × Nat)) := [(11, hb_c65_0), (25, hb_c65_1), (40, hb_c65_2), (54, hb_c65_3), (66, hb_c65_4), (78, hb_c65_5), (92, hb_c65_6), (108, hb_c65_7), (119, hb_c65_8), (137, hb_c65_9), (153, hb_c65_10), (168, hb_c65_11)]
def hb_q66 : List (Nat × List (Nat × Instr × Nat)) := [(11, hb_c66_0), (27, hb_c66_1), (44, hb_c66_2), (53, hb_c66_3)]
def hb_q67 : List (Nat × List (Nat × Instr × Nat)) := [(11, hb_c67_0), (25, hb_c67_1), (41, hb_c67_2), (55, hb_c67_3), (68, hb_c67_4)]
def hb_q68 : List (Nat × List (Nat × Instr × Nat)) := [(11, hb_c68_0), (25, hb_c68_1), (41, hb_c68_2), (55, hb_c68_3), (68, hb_c68_4)]
def hb_q69 : List (Nat × List (Nat × Instr × Nat)) := [(13, hb_c69_0), (29, hb_c69_1), (43, hb_c69_2), (59, hb_c69_3), (74, hb_c69_4), (90, hb_c69_5), (101, hb_c69_6)]
def hb_q70 : List (Nat × List (Nat × Instr × Nat)) := [(11, hb_c70_0), (23, hb_c70_1), (40, hb_c70_2), (45, hb_c70_3)]
def hb_q71 : List (Nat × List (Nat × Instr × Nat)) := [(11, hb_c71_0), (25, hb_c71_1), (37, hb_c71_2), (51, hb_c71_3), (64, hb_c71_4), (78, hb_c71_5), (90, hb_c71_6), (104, hb_c71_7), (115, hb_c71_8), (120, hb_c71_9)]
def hb_q72 : List (Nat × List (Nat × Instr × Nat)) := [(12, hb_c72_0), (28, hb_c72_1), (44, hb_c72_2), (61, hb_c72_3), (66, hb_c72_4)]
def hb_q73 : List (Nat × List (Nat × Instr × Nat)) := [(13, hb_c73_0), (31, hb_c73_1), (49, hb_c73_2), (67, hb_c73_3), (85, hb_c73_4)]
def hb_q74 : List (Nat × List (Nat × Instr × Nat)) := [(11, hb_c74_0), (20, hb_c74_1)]
def hb_q75 : List (Nat × List (Nat × Instr × Nat)) := [(9, hb_c75_0)]
def hb_q76 : List (Nat × List (Nat × Instr × Nat)) := [(14, hb_c76_0), (29, hb_c76_1), (41, hb_c76_2), (50, hb_c76_3)]
def hb_q77 : List (Nat × List (Nat × Instr × Nat)) := [(14, hb_c77_0), (29, hb_c77_1), (41, hb_c77_2), (55, hb_c77_3), (67, hb_c77_4), (70, hb_c77_5)]
def hb_q78 : List (Nat × List (Nat × Instr × Nat)) := [(11, hb_c78_0), (21, hb_c78_1)]
def hb_q79 : List (Nat × List (Nat × Instr × Nat)) := [(11, hb_c79_0), (23, hb_c79_1), (35, hb_c79_2), (37, hb_c79_3)]
def hb_q80 : List (Nat × List (Nat × Instr × Nat)) := [(11, hb_c80_0), (23, hb_c80_1), (38, hb_c80_2), (49, hb_c80_3)]
def hb_q81 : List (Nat × List (Nat × Instr × Nat)) := [(13, hb_c81_0), (26, hb_c81_1), (41, hb_c81_2), (53, hb_c81_3), (69, hb_c81_4)]
def hb_q82 : List (Nat × List (Nat × Instr × Nat)) := [(11, hb_c82_0), (23, hb_c82_1), (30, hb_c82_2)]
def hb_q83 : List (Nat × List (Nat × Instr × Nat)) := [(11, hb_c83_0), (22, hb_c83_1), (37, hb_c83_2), (49, hb_c83_3), (58, hb_c83_4)]
def hb_q84 : List (Nat × List (Nat × Instr × Nat)) := [(11, hb_c84_0), (23, hb_c84_1), (36, hb_c84_2), (48, hb_c84_3), (63, hb_c84_4), (74, hb_c84_5), (86, hb_c84_6), (98, hb_c84_7), (108, hb_c84_8), (124, hb_c84_9), (138, hb_c84_10), (155, hb_c84_11), (170, hb_c84_12), (171, hb_c84_13)]
def hb_q85 : List (Nat × List (Nat × Instr × Nat)) := [(12, hb_c85_0), (28, hb_c85_1), (43, hb_c85_2), (58, hb_c85_3), (71, hb_c85_4), (82, hb_c85_5), (100, hb_c85_6), (115, hb_c85_7), (131, hb_c85_8), (135, hb_c85_9)]
def hb_q86 : List (Nat × List (Nat × Instr × Nat)) := [(12, hb_c86_0), (28, hb_c86_1), (44, hb_c86_2), (60, hb_c86_3), (74, hb_c86_4), (90, hb_c86_5), (97, hb_c86_6)]
def hb_q87 : List (Nat × List (Nat × Instr × Nat)) := [(13, hb_c87_0), (31, hb_c87_1), (49, hb_c87_2), (65, hb_c87_3), (83, hb_c87_4), (99, hb_c87_5), (117, hb_c87_6), (131, hb_c87_7)]
def hb_q88 : List (Nat × List (Nat × Instr × Nat)) := [(12, hb_c88_0), (25, hb_c88_1), (39, hb_c88_2), (53, hb_c88_3), (67, hb_c88_4), (80, hb_c88_5), (90, hb_c88_6)]
def hb_q89 : List (Nat × List (Nat × Instr × Nat)) := [(11, hb_c89_0), (21, hb_c89_1)]
def hb_q90 : List (Nat × List (Nat × Instr × Nat)) := [(11, hb_c90_0), (25, hb_c90_1), (37, hb_c90_2), (41, hb_c90_3)]
def hb_q91 : List (Nat × List (Nat × Instr × Nat)) := [(9, hb_c91_0), (23, hb_c91_1), (37, hb_c91_2), (38, hb_c91_3)]
def hb_q92 : List (Nat × List (Nat × Instr × Nat)) := [(11, hb_c92_0), (25, hb_c92_1), (39, hb_c92_2), (44, hb_c92_3)]
def hb_q93 : List (Nat × List (Nat × Instr × Nat)) := [(10, hb_c93_0), (25, hb_c93_1), (39, hb_c93_2), (52, hb_c93_3)]
def hb_q94 : List (Nat × List (Nat × Instr × Nat)) := [(12, hb_c94_0), (25, hb_c94_1), (38, hb_c94_2), (48, hb_c94_3), (56, hb_c94_4)]
def hb_q95 : List (Nat × List (Nat × Instr × Nat)) := [(9, hb_c95_0), (23, hb_c95_1), (35, hb_c95_2), (49, hb_c95_3), (62, hb_c95_4)]
def hb_q96 : List (Nat × List (Nat × Instr × Nat)) := [(12, hb_c96_0), (26, hb_c96_1), (36, hb_c96_2), (46, hb_c96_3), (58, hb_c96_4)]
def hb_q97 : List (Nat × List (Nat × Instr × Nat)) := [(13, hb_c97_0), (28, hb_c97_1), (44, hb_c97_2), (58, hb_c97_3), (74, hb_c97_4), (91, hb_c97_5), (108, hb_c97_6), (122, hb_c97_7)]
def hb_q98 : List (Nat × List (Nat × Instr × Nat)) := [(13, hb_c98_0), (31, hb_c98_1), (49, hb_c98_2), (61, hb_c98_3), (75, hb_c98_4), (89, hb_c98_5), (102, hb_c98_6), (116, hb_c98_7), (130, hb_c98_8), (147, hb_c98_9), (159, hb_c98_10), (171, hb_c98_11), (183, hb_c98_12), (199, hb_c98_13), (203, hb_c98_14)]
def hb_q99 : List (Nat × List (Nat × Instr × Nat)) := [(11, hb_c99_0), (23, hb_c99_1), (34, hb_c99_2), (46, hb_c99_3), (60, hb_c99_4), (67, hb_c99_5)]
def hb_q100 : List (Nat × List (Nat × Instr × Nat)) := [(11, hb_c100_0), (19, hb_c100_1), (33, hb_c100_2), (49, hb_c100_3), (60, hb_c100_4), (75, hb_c100_5), (87, hb_c100_6), (95, hb_c100_7)]
def hb_q101 : List (Nat × List (Nat × Instr × Nat)) := [(11, hb_c101_0), (23, hb_c101_1), (37, hb_c101_2), (47, hb_c101_3), (59, hb_c101_4), (78, hb_c101_5), (82, hb_c101_6)]
def hb_q102 : List (Nat × List (Nat × Instr × Nat)) := [(11, hb_c102_0), (24, hb_c102_1), (37, hb_c102_2), (50, hb_c102_3), (64, hb_c102_4), (79, hb_c102_5)]
def hb_q103 : List (Nat × List (Nat × Instr × Nat)) := [(11, hb_c103_0), (21, hb_c103_1), (31, hb_c103_2), (46, hb_c103_3), (57, hb_c103_4), (70, hb_c103_5), (81, hb_c103_6), (93, hb_c103_7), (109, hb_c103_8), (121, hb_c103_9), (133, hb_c103_10), (141, hb_c103_11), (149, hb_c103_12)]
def hb_q104 : List (Nat × List (Nat × Instr × Nat)) := [(9, hb_c104_0), (24, hb_c104_1), (34, hb_c104_2), (46, hb_c104_3), (54, hb_c104_4), (66, hb_c104_5), (74, hb_c104_6), (83, hb_c104_7)]
def hb_q105 : List (Nat × List (Nat × Instr × Nat)) := [(9, hb_c105_0), (19, hb_c105_1), (29, hb_c105_2), (40, hb_c105_3), (54, hb_c105_4), (70, hb_c105_5), (79, hb_c105_6), (95, hb_c105_7), (105, hb_c105_8), (115, hb_c105_9), (129, hb_c105_10), (144, hb_c105_11), (153, hb_c105_12)]
def hb_q106 : List (Nat × List (Nat × Instr × Nat)) := [(13, hb_c106_0), (26, hb_c106_1), (40, hb_c106_2), (53, hb_c106_3), (67, hb_c106_4), (72, hb_c106_5)]
def hb_q107 : List (Nat × List (Nat × Instr × Nat)) := [(11, hb_c107_0), (27, hb_c107_1), (41, hb_c107_2), (55, hb_c107_3), (69, hb_c107_4), (86, hb_c107_5), (98, hb_c107_6), (112, hb_c107_7), (122, hb_c107_8), (131, hb_c107_9), (146, hb_c107_10), (160, hb_c107_11), (163, hb_c107_12)]
def hb_q108 : List (Nat × List (Nat × Instr × Nat)) := [(11, hb_c108_0), (25, hb_c108_1), (41, hb_c108_2), (56, hb_c108_3)]
def hb_q109 : List (Nat × List (Nat × Instr × Nat)) := [(13, hb_c109_0), (29, hb_c109_1), (47, hb_c109_2), (57, hb_c109_3)]
def hb_q110 : List (Nat × List (Nat × Instr × Nat)) := [(5, hb_c110_0)]
def hb_q111 : List (Nat × List (Nat × Instr × Nat)) := [(15, hb_c111_0), (28, hb_c111_1), (40, hb_c111_2), (54, hb_c111_3), (68, hb_c111_4), (79, hb_c111_5), (94, hb_c111_6), (108, hb_c111_7), (119, hb_c111_8), (133, hb_c111_9), (143, hb_c111_10)]
def hb_q112 : List (Nat × List (Nat × Instr × Nat)) := [(13, hb_c112_0), (26, hb_c112_1), (41, hb_c112_2), (58, hb_c112_3), (75, hb_c112_4), (96, hb_c112_5), (111, hb_c112_6)]
def hb_q113 : List (Nat × List (Nat × Instr × Nat)) := [(10, hb_c113_0), (25, hb_c113_1), (45, hb_c113_2), (62, hb_c113_3), (78, hb_c113_4), (91, hb_c113_5), (108, hb_c113_6), (115, hb_c113_7)]
def hb_q114 : List (Nat × List (Nat × Instr × Nat)) := [(12, hb_c114_0), (27, hb_c114_1), (40, hb_c114_2)]
def hb_q115 : List (Nat × List (Nat × Instr × Nat)) := [(13, hb_c115_0), (31, hb_c115_1), (49, hb_c115_2), (52, hb_c115_3)]
def hb_q116 : List (Nat × List (Nat × Instr × Nat)) := [(11, hb_c116_0), (23, hb_c116_1), (33, hb_c116_2), (41, hb_c116_3)]
def hb_q117 : List (Nat × List (Nat × Instr × Nat)) := [(11, hb_c117_0), (21, hb_c117_1), (27, hb_c117_2)]
def hb_q118 : List (Nat × List (Nat × Instr × Nat)) := [(11, hb_c118_0), (25, hb_c118_1), (37, hb_c118_2), (41, hb_c118_3)]
def hb_q119 : List (Nat × List (Nat × Instr × Nat)) := [(9, hb_c119_0), (23, hb_c119_1), (37, hb_c119_2), (51, hb_c119_3), (63, hb_c119_4), (73, hb_c119_5), (80, hb_c119_6)]
def hb_q120 : List (Nat × List (Nat × Instr × Nat)) := [(15, hb_c120_0), (31, hb_c120_1), (49, hb_c120_2), (67, hb_c120_3), (85, hb_c120_4), (103, hb_c120_5), (119, hb_c120_6), (137, hb_c120_7), (155, hb_c120_8), (171, hb_c120_9), (189, hb_c120_10), (207, hb_c120_11), (218, hb_c120_12)]
def hb_q121 : List (Nat × List (Nat × Instr × Nat)) := [(13, hb_c121_0), (30, hb_c121_1), (42, hb_c121_2), (59, hb_c121_3)]
def hb_q122 : List (Nat × List (Nat × Instr × Nat)) := [(12, hb_c122_0), (28, hb_c122_1), (37, hb_c122_2)]
def hb_q123 : List (Nat × List (Nat × Instr × Nat)) := [(12, hb_c123_0), (29, hb_c123_1), (41, hb_c123_2), (50, hb_c123_3)]
def hb_q124 : List (Nat × List (Nat × Instr × Nat)) := [(12, hb_c124_0), (26, hb_c124_1), (40, hb_c124_2), (48, hb_c124_3)]
def hb_q125 : List (Nat × List (Nat × Instr × Nat)) := [(12, hb_c125_0), (26, hb_c125_1), (40, hb_c125_2), (56, hb_c125_3), (59, hb_c125_4)]
def hb_q126 : List (Nat × List (Nat × Instr × Nat)) := [(7, hb_c126_0)]
def hb_q127 : List (Nat × List (Nat × Instr × Nat)) := [(12, hb_c127_0), (29, hb_c127_1), (45, hb_c127_2), (61, hb_c127_3), (75, hb_c127_4), (94, hb_c127_5), (112, hb_c127_6), (118, hb_c127_7)]
def hb_q128 : List (Nat × List (Nat × Instr × Nat)) := [(12, hb_c128_0), (27, hb_c128_1), (46, hb_c128_2), (62, hb_c128_3), (74, hb_c128_4)]
def hb_q129 : List (Nat × List (Nat × Instr × Nat)) := [(11, hb_c129_0), (27, hb_c129_1), (47, hb_c129_2)]
def hb_q130 : List (Nat × List (Nat × Instr × Nat)) := [(15, hb_c130_0), (28, hb_c130_1), (45, hb_c130_2), (63, hb_c130_3), (70, hb_c130_4)]
def hb_q131 : List (Nat × List (Nat × Instr × Nat)) := [(12, hb_c131_0), (31, hb_c131_1), (48, hb_c131_2), (62, hb_c131_3), (65, hb_c131_4)]
def hb_q132 : List (Nat × List (Nat × Instr × Nat)) := [(11, hb_c132_0), (27, hb_c132_1), (43, hb_c132_2), (61, hb_c132_3), (62, hb_c132_4)]
def hb_q133 : List (Nat × List (Nat × Instr × Nat)) := [(14, hb_c133_0), (31, hb_c133_1), (48, hb_c133_2), (62, hb_c133_3), (65, hb_c133_4)]
def hb_q134 : List (Nat × List (Nat × Instr × Nat)) := [(11, hb_c134_0), (27, hb_c134_1), (39, hb_c134_2)]
def hb_q135 : List (Nat × List (Nat × Instr × Nat)) := [(15, hb_c135_0), (18, hb_c135_1)]
def hb_q136 : List (Nat × List (Nat × Instr × Nat)) := [(15, hb_c136_0), (18, hb_c136_1)]
def hb_q137 : List (Nat × List (Nat × Instr × Nat)) := [(11, hb_c137_0), (28, hb_c137_1), (40, hb_c137_2), (42, hb_c137_3)]
def hb_q138 : List (Nat × List (Nat × Instr × Nat)) := [(11, hb_c138_0), (28, hb_c138_1), (40, hb_c138_2), (53, hb_c138_3), (60, hb_c138_4)]
def hb_q139 : List (Nat × List (Nat × Instr × Nat)) := [(15, hb_c139_0), (18, hb_c139_1)]
def hb_q140 : List (Nat × List (Nat × Instr × Nat)) := [(11, hb_c140_0), (26, hb_c140_1), (40, hb_c140_2), (55, hb_c140_3), (72, hb_c140_4), (88, hb_c140_5), (104, hb_c140_6), (112, hb_c140_7)]
def hb_q141 : List (Nat × List (Nat × Instr × Nat)) := [(13, hb_c141_0), (31, hb_c141_1), (46, hb_c141_2), (60, hb_c141_3), (78, hb_c141_4), (89, hb_c141_5)]
def hb_q142 : List (Nat × List (Nat × Instr × Nat)) := [(12, hb_c142_0), (28, hb_c142_1), (29, hb_c142_2)]
def hb_q143 : List (Nat × List (Nat × Instr × Nat)) := [(13, hb_c143_0), (31, hb_c143_1), (34, hb_c143_2)]
def hb_q144 : List (Nat × List (Nat × Instr × Nat)) := [(11, hb_c144_0), (29, hb_c144_1)]
def hb_q145 : List (Nat × List (Nat × Instr × Nat)) := [(11, hb_c145_0), (29, hb_c145_1)]
def hb_q146 : List (Nat × List (Nat × Instr × Nat)) := [(15, hb_c146_0), (31, hb_c146_1), (49, hb_c146_2), (58, hb_c146_3)]
def hb_q147 : List (Nat × List (Nat × Instr × Nat)) := [(11, hb_c147_0), (29, hb_c147_1)]
def hb_q148 : List (Nat × List (Nat × Instr × Nat)) := [(11, hb_c148_0), (27, hb_c148_1), (43, hb_c148_2), (45, hb_c148_3)]
def hb_q149 : List (Nat × List (Nat × Instr × Nat)) := [(11, hb_c149_0), (29, hb_c149_1), (41, hb_c149_2), (43, hb_c149_3)]
def hb_q150 : List (Nat × List (Nat × Instr × Nat)) := [(11, hb_c150_0), (29, hb_c150_1), (32, hb_c150_2)]
def hb_q151 : List (Nat × List (Nat × Instr × Nat)) := [(11, hb_c151_0), (25, hb_c151_1), (43, hb_c151_2), (53, hb_c151_3)]
def hb_q152 : List (Nat × List (Nat × Instr × Nat)) := [(11, hb_c152_0), (27, hb_c152_1), (42, hb_c152_2), (56, hb_c152_3), (68, hb_c152_4)]
def hb_q153 : List (Nat × List (Nat × Instr × Nat)) := [(15, hb_c153_0), (19, hb_c153_1)]
def hb_q154 : List (Nat × List (Nat × Instr × Nat)) := [(12, hb_c154_0), (29, hb_c154_1), (41, hb_c154_2)]
def hb_q155 : List (Nat × List (Nat × Instr × Nat)) := [(13, hb_c155_0), (26, hb_c155_1), (44, hb_c155_2), (53, hb_c155_3)]
def hb_q156 : List (Nat × List (Nat × Instr × Nat)) := [(11, hb_c156_0), (27, hb_c156_1), (39, hb_c156_2), (53, hb_c156_3), (69, hb_c156_4), (82, hb_c156_5), (90, hb_c156_6)]
def hb_q157 : List (Nat × List (Nat × Instr × Nat)) := [(13, hb_c157_0), (31, hb_c157_1), (38, hb_c157_2)]
def hb_q158 : List (Nat × List (Nat × Instr × Nat)) := [(13, hb_c158_0), (27, hb_c158_1)]
def hb_q159 : List (Nat × List (Nat × Instr × Nat)) := [(11, hb_c159_0), (27, hb_c159_1), (43, hb_c159_2), (47, hb_c159_3)]
def hb_q160 : List (Nat × List (Nat × Instr × Nat)) := [(12, hb_c160_0), (29, hb_c160_1), (45, hb_c160_2), (48, hb_c160_3)]
def hb_q161 : List (Nat × List (Nat × Instr × Nat)) := [(14, hb_c161_0), (30, hb_c161_1), (45, hb_c161_2), (59, hb_c161_3), (78, hb_c161_4), (83, hb_c161_5)]
def hb_q162 : List (Nat × List (Nat × Instr × Nat)) := [(13, hb_c162_0), (28, hb_c162_1), (41, hb_c162_2), (46, hb_c162_3)]
def hb_q163 : List (Nat × List (Nat × Instr × Nat)) := [(13, hb_c163_0), (26, hb_c163_1), (41, hb_c163_2), (51, hb_c163_3)]
def hb_q164 : List (Nat × List (Nat × Instr × Nat)) := [(13, hb_c164_0), (27, hb_c164_1), (42, hb_c164_2), (58, hb_c164_3), (63, hb_c164_4)]
def hb_q165 : List (Nat × List (Nat × Instr × Nat)) := [(14, hb_c165_0), (30, hb_c165_1), (43, hb_c165_2), (60, hb_c165_3), (74, hb_c165_4), (90, hb_c165_5), (103, hb_c165_6), (116, hb_c165_7), (133, hb_c165_8), (148, hb_c165_9), (156, hb_c165_10)]
def hb_q166 : List (Nat × List (Nat × Instr × Nat)) := [(14, hb_c166_0), (27, hb_c166_1), (41, hb_c166_2), (53, hb_c166_3)]
def hb_q167 : List (Nat × List (Nat × Instr × Nat)) := [(14, hb_c167_0), (30, hb_c167_1), (43, hb_c167_2), (59, hb_c167_3), (66, hb_c167_4)]
def hb_q168 : List (Nat × List (Nat × Instr × Nat)) := [(15, hb_c168_0), (27, hb_c168_1), (45, hb_c168_2), (58, hb_c168_3), (74, hb_c168_4), (87, hb_c168_5), (90, hb_c168_6)]
def hb_q169 : List (Nat × List (Nat × Instr × Nat)) := [(11, hb_c169_0), (29, hb_c169_1), (31, hb_c169_2)]
def hb_q170 : List (Nat × List (Nat × Instr × Nat)) := [(89, hb_c170_0), (105, hb_c170_1), (121, hb_c170_2), (137, hb_c170_3), (153, hb_c170_4), (169, hb_c170_5), (185, hb_c170_6), (201, hb_c170_7), (209, hb_c170_8)]
def hb_q171 : List (Nat × List (Nat × Instr × Nat)) := [(15, hb_c171_0), (33, hb_c171_1), (49, hb_c171_2), (67, hb_c171_3), (83, hb_c171_4)]
def hb_q172 : List (Nat × List (Nat × Instr × Nat)) := [(14, hb_c172_0), (32, hb_c172_1), (48, hb_c172_2), (66, hb_c172_3), (84, hb_c172_4), (88, hb_c172_5)]
def hb_q173 : List (Nat × List (Nat × Instr × Nat)) := [(11, hb_c173_0), (15, hb_c173_1)]
def hb_q174 : List (Nat × List (Nat × Instr × Nat)) := [(15, hb_c174_0), (16, hb_c174_1)]
def hb_q175 : List (Nat × List (Nat × Instr × Nat)) := [(10, hb_c175_0), (23, hb_c175_1)]
def hb_q176 : List (Nat × List (Nat × Instr × Nat)) := [(7, hb_c176_0), (14, hb_c176_1)]
def hb_q177 : List (Nat × List (Nat × Instr × Nat)) := [(50, hb_c177_0), (66, hb_c177_1), (78, hb_c177_2)]
def hb_q178 : List (Nat × List (Nat × Instr × Nat)) := [(11, hb_c178_0), (26, hb_c178_1), (38, hb_c178_2), (50, hb_c178_3), (95, hb_c178_4), (111, hb_c178_5), (120, hb_c178_6), (121, hb_c178_7)]
def hb_q179 : List (Nat × List (Nat × Instr × Nat)) := [(41, hb_c179_0), (55, hb_c179_1), (74, hb_c179_2), (86, hb_c179_3)]
def hb_q180 : List (Nat × List (Nat × Instr × Nat)) := [(45, hb_c180_0), (57, hb_c180_1), (73, hb_c180_2), (85, hb_c180_3), (87, hb_c180_4)]
def hb_q181 : List (Nat × List (Nat × Instr × Nat)) := [(14, hb_c181_0), (32, hb_c181_1), (48, hb_c181_2), (64, hb_c181_3), (80, hb_c181_4), (96, hb_c181_5), (113, hb_c181_6), (129, hb_c181_7), (143, hb_c181_8), (153, hb_c181_9), (163, hb_c181_10), (173, hb_c181_11), (185, hb_c181_12), (197, hb_c181_13), (208, hb_c181_14), (220, hb_c181_15), (232, hb_c181_16), (243, hb_c181_17), (255, hb_c181_18), (266, hb_c181_19), (278, hb_c181_20), (289, hb_c181_21), (301, hb_c181_22), (312, hb_c181_23), (323, hb_c181_24), (335, hb_c181_25), (346, hb_c181_26), (358, hb_c181_27), (369, hb_c181_28), (381, hb_c181_29), (393, hb_c181_30), (404, hb_c181_31), (416, hb_c181_32), (427, hb_c181_33), (439, hb_c181_34), (451, hb_c181_35), (462, hb_c181_36), (474, hb_c181_37), (486, hb_c181_38), (498, hb_c181_39), (509, hb_c181_40), (521, hb_c181_41), (533, hb_c181_42), (545, hb_c181_43), (556, hb_c181_44), (568, hb_c181_45), (580, hb_c181_46), (591, hb_c181_47), (603, hb_c181_48), (615, hb_c181_49), (630, hb_c181_50), (642, hb_c181_51), (650, hb_c181_52), (660, hb_c181_53), (676, hb_c181_54), (692, hb_c181_55), (707, hb_c181_56), (721, hb_c181_57), (734, hb_c181_58), (747, hb_c181_59), (758, hb_c181_60)]
def hb_q182 : List (Nat × List (Nat × Instr × Nat)) := [(11, hb_c182_0), (15, hb_c182_1)]
def hb_q183 : List (Nat × List (Nat × Instr × Nat)) := [(8, hb_c183_0)]
def hb_q184 : List (Nat × List (Nat × Instr × Nat)) := [(7, hb_c184_0)]
def hb_q185 : List (Nat × List (Nat × Instr × Nat)) := [(11, hb_c185_0), (19, hb_c185_1)]
def hb_q186 : List (Nat × List (Nat × Instr × Nat)) := [(12, hb_c186_0), (23, hb_c186_1), (36, hb_c186_2), (49, hb_c186_3), (59, hb_c186_4)]
def hb_q187 : List (Nat × List (Nat × Instr × Nat)) := [(7, hb_c187_0), (20, hb_c187_1), (31, hb_c187_2), (43, hb_c187_3), (55, hb_c187_4), (62, hb_c187_5)]
def hb_q188 : List (Nat × List (Nat × Instr × Nat)) := [(12, hb_c188_0), (22, hb_c188_1), (25, hb_c188_2)]
def hb_q189 : List (Nat × List (Nat × Instr × Nat)) := [(10, hb_c189_0), (19, hb_c189_1)]
def hb_q190 : List (Nat × List (Nat × Instr × Nat)) := [(12, hb_c190_0), (24, hb_c190_1), (38, hb_c190_2), (49, hb_c190_3), (62, hb_c190_4), (74, hb_c190_5), (87, hb_c190_6), (99, hb_c190_7), (112, hb_c190_8), (125, hb_c190_9), (138, hb_c190_10), (156, hb_c190_11), (172, hb_c190_12), (185, hb_c190_13), (199, hb_c190_14), (209, hb_c190_15), (222, hb_c190_16), (235, hb_c190_17), (250, hb_c190_18), (260, hb_c190_19), (275, hb_c190_20), (292, hb_c190_21), (308, hb_c190_22)]
def hb_q191 : List (Nat × List (Nat × Instr × Nat)) := [(13, hb_c191_0), (27, hb_c191_1), (38, hb_c191_2), (48, hb_c191_3), (64, hb_c191_4), (78, hb_c191_5), (91, hb_c191_6), (104, hb_c191_7), (122, hb_c191_8), (124, hb_c191_9)]
def hb_q192 : List (Nat × List (Nat × Instr × Nat)) := [(13, hb_c192_0), (28, hb_c192_1), (47, hb_c192_2), (63, hb_c192_3), (78, hb_c192_4), (90, hb_c192_5), (103, hb_c192_6), (115, hb_c192_7), (124, hb_c192_8)]
def hb_q193 : List (Nat × List (Nat × Instr × Nat)) := [(7, hb_c193_0)]
def hb_q194 : List (Nat × List (Nat × Instr × Nat)) := [(14, hb_c194_0), (27, hb_c194_1), (38, hb_c194_2), (40, hb_c194_3)]
def hb_q195 : List (Nat × List (Nat × Instr × Nat)) := [(13, hb_c195_0), (25, hb_c195_1), (37, hb_c195_2), (38, hb_c195_3)]
def hb_q196 : List (Nat × List (Nat × Instr × Nat)) := [(13, hb_c196_0), (27, hb_c196_1), (41, hb_c196_2), (57, hb_c196_3)]
def hb_q197 : List (Nat × List (Nat × Instr × Nat)) := [(14, hb_c197_0), (20, hb_c197_1)]
def hb_q198 : List (Nat × List (Nat × Instr × Nat)) := [(13, hb_c198_0), (28, hb_c198_1), (41, hb_c198_2), (55, hb_c198_3), (67, hb_c198_4), (84, hb_c198_5)]
def hb_q199 : List (Nat × List (Nat × Instr × Nat)) := [(14, hb_c199_0), (31, hb_c199_1), (47, hb_c199_2), (60, hb_c199_3), (73, hb_c199_4), (85, hb_c199_5), (96, hb_c199_6), (108, hb_c199_7), (118, hb_c199_8), (126, hb_c199_9)]
def hb_q200 : List (Nat × List (Nat × Instr × Nat)) := [(10, hb_c200_0), (18, hb_c200_1), (25, hb_c200_2)]
def hb_q201 : List (Nat × List (Nat × Instr × Nat)) := [(9, hb_c201_0), (20, hb_c201_1), (32, hb_c201_2), (47, hb_c201_3), (58, hb_c201_4), (73, hb_c201_5), (86, hb_c201_6)]
def hb_q202 : List (Nat × List (Nat × Instr × Nat)) := [(12, hb_c202_0), (22, hb_c202_1), (34, hb_c202_2), (47, hb_c202_3), (61, hb_c202_4), (75, hb_c202_5), (92, hb_c202_6), (108, hb_c202_7), (112, hb_c202_8)]
def hb_q203 : List (Nat × List (Nat × Instr × Nat)) := [(10, hb_c203_0), (25, hb_c203_1), (39, hb_c203_2), (53, hb_c203_3), (73, hb_c203_4)]
def hb_q204 : List (Nat × List (Nat × Instr × Nat)) := [(11, hb_c204_0), (26, hb_c204_1), (36, hb_c204_2)]
def hb_q205 : List (Nat × List (Nat × Instr × Nat)) := [(7, hb_c205_0)]
def hb_q206 : List (Nat × List (Nat × Instr × Nat)) := [(15, hb_c206_0), (31, hb_c206_1), (45, hb_c206_2), (61, hb_c206_3), (73, hb_c206_4), (84, hb_c206_5), (95, hb_c206_6), (107, hb_c206_7), (117, hb_c206_8), (124, hb_c206_9)]
def hb_q207 : List (Nat × List (Nat × Instr × Nat)) := [(12, hb_c207_0), (31, hb_c207_1), (44, hb_c207_2), (59, hb_c207_3), (71, hb_c207_4), (82, hb_c207_5), (93, hb_c207_6), (107, hb_c207_7), (117, hb_c207_8), (121, hb_c207_9)]
def hb_q208 : List (Nat × List (Nat × Instr × Nat)) := [(9, hb_c208_0), (13, hb_c208_1)]
def hb_q209 : List (Nat × List (Nat × Instr × Nat)) := [(12, hb_c209_0), (24, hb_c209_1), (38, hb_c209_2), (48, hb_c209_3), (62, hb_c209_4), (74, hb_c209_5), (87, hb_c209_6), (101, hb_c209_7), (112, hb_c209_8), (125, hb_c209_9), (138, hb_c209_10), (150, hb_c209_11), (165, hb_c209_12), (174, hb_c209_13)]
def hb_q210 : List (Nat × List (Nat × Instr × Nat)) := [(13, hb_c210_0), (26, hb_c210_1), (39, hb_c210_2), (55, hb_c210_3), (65, hb_c210_4)]
def hb_q211 : List (Nat × List (Nat × Instr × Nat)) := [(15, hb_c211_0), (27, hb_c211_1), (43, hb_c211_2), (44, hb_c211_3)]
def hb_q212 : List (Nat × List (Nat × Instr × Nat)) := [(14, hb_c212_0), (31, hb_c212_1), (44, hb_c212_2), (59, hb_c212_3), (71, hb_c212_4), (82, hb_c212_5), (93, hb_c212_6), (107, hb_c212_7), (117, hb_c212_8), (121, hb_c212_9)]
def hb_q213 : List (Nat × List (Nat × Instr × Nat)) := [(9, hb_c213_0), (13, hb_c213_1)]
def hb_q214 : List (Nat × List (Nat × Instr × Nat)) := [(9, hb_c214_0), (25, hb_c214_1), (35, hb_c214_2), (38, hb_c214_3)]
def hb_q215 : List (Nat × List (Nat × Instr × Nat)) := [(9, hb_c215_0), (23, hb_c215_1), (37, hb_c215_2), (45, hb_c215_3), (61, hb_c215_4), (69, hb_c215_5), (83, hb_c215_6), (95, hb_c215_7), (107, hb_c215_8), (121, hb_c215_9), (131, hb_c215_10), (143, hb_c215_11), (159, hb_c215_12), (173, hb_c215_13), (185, hb_c215_14), (192, hb_c215_15)]
def hb_q216 : List (Nat × List (Nat × Instr × Nat)) := [(11, hb_c216_0), (24, hb_c216_1)]
def hb_q217 : List (Nat × List (Nat × Instr × Nat)) := [(8, hb_c217_0), (20, hb_c217_1), (33, hb_c217_2), (46, hb_c217_3), (60, hb_c217_4), (74, hb_c217_5), (90, hb_c217_6), (105, hb_c217_7), (119, hb_c217_8), (132, hb_c217_9), (146, hb_c217_10), (162, hb_c217_11)]
def hb_q218 : List (Nat × List (Nat × Instr × Nat)) := [(12, hb_c218_0)]
def hb_q219 : List (Nat × List (Nat × Instr × Nat)) := [(10, hb_c219_0), (24, hb_c219_1), (39, hb_c219_2), (51, hb_c219_3), (63, hb_c219_4), (74, hb_c219_5), (87, hb_c219_6), (100, hb_c219_7), (111, hb_c219_8), (127, hb_c219_9), (143, hb_c219_10), (150, hb_c219_11)]
def hb_q220 : List (Nat × List (Nat × Instr × Nat)) := [(13, hb_c220_0), (25, hb_c220_1), (37, hb_c220_2), (49, hb_c220_3), (59, hb_c220_4), (74, hb_c220_5), (85, hb_c220_6), (95, hb_c220_7), (105, hb_c220_8), (116, hb_c220_9), (128, hb_c220_10), (140, hb_c220_11), (152, hb_c220_12), (163, hb_c220_13), (182, hb_c220_14)]
def hb_q221 : List (Nat × List (Nat × Instr × Nat)) := [(11, hb_c221_0), (27, hb_c221_1), (28, hb_c221_2)]
def hb_q222 : List (Nat × List (Nat × Instr × Nat)) := [(13, hb_c222_0), (24, hb_c222_1)]
def hb_q223 : List (Nat × List (Nat × Instr × Nat)) := [(12, hb_c223_0), (22, hb_c223_1), (33, hb_c223_2), (37, hb_c223_3)]
def hb_q224 : List (Nat × List (Nat × Instr × Nat)) := [(11, hb_c224_0), (25, hb_c224_1), (35, hb_c224_2), (46, hb_c224_3), (57, hb_c224_4), (67, hb_c224_5), (79, hb_c224_6), (92, hb_c224_7), (104, hb_c224_8), (118, hb_c224_9), (135, hb_c224_10), (149, hb_c224_11), (163, hb_c224_12), (177, hb_c224_13), (188, hb_c224_14), (200, hb_c224_15), (212, hb_c224_16)]
def hb_q225 : List (Nat × List (Nat × Instr × Nat)) := [(11, hb_c225_0), (25, hb_c225_1), (38, hb_c225_2), (48, hb_c225_3), (61, hb_c225_4), (75, hb_c225_5), (88, hb_c225_6), (104, hb_c225_7), (117, hb_c225_8), (131, hb_c225_9)]
def hb_q226 : List (Nat × List (Nat × Instr × Nat)) := [(11, hb_c226_0), (26, hb_c226_1), (40, hb_c226_2), (54, hb_c226_3), (68, hb_c226_4), (79, hb_c226_5), (95, hb_c226_6), (111, hb_c226_7), (128, hb_c226_8), (143, hb_c226_9), (156, hb_c226_10), (169, hb_c226_11), (184, hb_c226_12), (202, hb_c226_13), (218, hb_c226_14), (238, hb_c226_15), (254, hb_c226_16), (264, hb_c226_17)]
def hb_q227 : List (Nat × List (Nat × Instr × Nat)) := [(13, hb_c227_0), (31, hb_c227_1), (46, hb_c227_2), (62, hb_c227_3), (78, hb_c227_4), (90, hb_c227_5), (104, hb_c227_6), (114, hb_c227_7), (127, hb_c227_8), (138, hb_c227_9), (151, hb_c227_10), (163, hb_c227_11), (174, hb_c227_12), (182, hb_c227_13)]
def hb_q228 : List (Nat × List (Nat × Instr × Nat)) := [(10, hb_c228_0), (14, hb_c228_1)]
def hb_q229 : List (Nat × List (Nat × Instr × Nat)) := [(12, hb_c229_0), (26, hb_c229_1), (35, hb_c229_2), (47, hb_c229_3), (57, hb_c229_4)]
def hb_q230 : List (Nat × List (Nat × Instr × Nat)) := [(12, hb_c230_0), (26, hb_c230_1), (29, hb_c230_2)]
def hb_q231 : List (Nat × List (Nat × Instr × Nat)) := [(13, hb_c231_0), (28, hb_c231_1), (41, hb_c231_2), (52, hb_c231_3), (61, hb_c231_4)]
def hb_q232 : List (Nat × List (Nat × Instr × Nat)) := [(10, hb_c232_0), (22, hb_c232_1), (34, hb_c232_2), (48, hb_c232_3), (53, hb_c232_4)]
def hb_q233 : List (Nat × List (Nat × Instr × Nat)) := [(10, hb_c233_0), (22, hb_c233_1), (35, hb_c233_2), (47, hb_c233_3), (61, hb_c233_4), (69, hb_c233_5)]
def hb_q234 : List (Nat × List (Nat × Instr × Nat)) := [(10, hb_c234_0), (25, hb_c234_1), (40, hb_c234_2), (57, hb_c234_3), (58, hb_c234_4)]
def hb_q235 : List (Nat × List (Nat × Instr × Nat)) := [(11, hb_c235_0), (26, hb_c235_1), (35, hb_c235_2), (51, hb_c235_3), (62, hb_c235_4), (67, hb_c235_5)]
def hb_q236 : List (Nat × List (Nat × Instr × Nat)) := [(15, hb_c236_0), (31, hb_c236_1), (46, hb_c236_2), (59, hb_c236_3), (73, hb_c236_4), (85, hb_c236_5), (96, hb_c236_6), (107, hb_c236_7), (109, hb_c236_8)]
def hb_q237 : List (Nat × List (Nat × Instr × Nat)) := [(10, hb_c237_0), (14, hb_c237_1)]
def hb_q238 : List (Nat × List (Nat × Instr × Nat)) := [(9, hb_c238_0), (24, hb_c238_1), (34, hb_c238_2), (48, hb_c238_3), (64, hb_c238_4), (74, hb_c238_5), (90, hb_c238_6), (105, hb_c238_7), (115, hb_c238_8), (125, hb_c238_9), (139, hb_c238_10), (147, hb_c238_11)]
def hb_q239 : List (Nat × List (Nat × Instr × Nat)) := [(13, hb_c239_0), (17, hb_c239_1)]
def hb_q240 : List (Nat × List (Nat × Instr × Nat)) := [(11, hb_c240_0), (26, hb_c240_1), (36, hb_c240_2), (43, hb_c240_3)]
def hb_q241 : List (Nat × List (Nat × Instr × Nat)) := [(13, hb_c241_0), (26, hb_c241_1), (38, hb_c241_2), (43, hb_c241_3)]
def hb_q242 : List (Nat × List (Nat × Instr × Nat)) := [(11, hb_c242_0), (25, hb_c242_1), (37, hb_c242_2), (47, hb_c242_3), (61, hb_c242_4), (71, hb_c242_5)]
def hb_q243 : List (Nat × List (Nat × Instr × Nat)) := [(12, hb_c243_0), (25, hb_c243_1), (41, hb_c243_2), (52, hb_c243_3), (64, hb_c243_4), (74, hb_c243_5), (85, hb_c243_6), (96, hb_c243_7), (97, hb_c243_8)]
def hb_q244 : List (Nat × List (Nat × Instr × Nat)) := [(9, hb_c244_0), (22, hb_c244_1), (36, hb_c244_2), (51, hb_c244_3), (64, hb_c244_4), (73, hb_c244_5), (89, hb_c244_6), (101, hb_c244_7), (105, hb_c244_8)]
def hb_q245 : List (Nat × List (Nat × Instr × Nat)) := [(10, hb_c245_0), (26, hb_c245_1), (36, hb_c245_2), (49, hb_c245_3), (59, hb_c245_4), (72, hb_c245_5)]
def hb_q246 : List (Nat × List (Nat × Instr × Nat)) := [(15, hb_c246_0), (16, hb_c246_1)]
def hb_q247 : List (Nat × List (Nat × Instr × Nat)) := [(12, hb_c247_0), (27, hb_c247_1), (41, hb_c247_2), (55, hb_c247_3), (67, hb_c247_4), (77, hb_c247_5)]
def hb_q248 : List (Nat × List (Nat × Instr × Nat)) := [(13, hb_c248_0), (29, hb_c248_1), (39, hb_c248_2)]
def hb_q249 : List (Nat × List (Nat × Instr × Nat)) := [(14, hb_c249_0), (28, hb_c249_1), (44, hb_c249_2), (60, hb_c249_3), (76, hb_c249_4), (94, hb_c249_5), (109, hb_c249_6), (122, hb_c249_7), (138, hb_c249_8), (154, hb_c249_9), (170, hb_c249_10), (186, hb_c249_11), (204, hb_c249_12), (220, hb_c249_13), (233, hb_c249_14), (249, hb_c249_15), (266, hb_c249_16), (274, hb_c249_17)]
def hb_q250 : List (Nat × List (Nat × Instr × Nat)) := [(11, hb_c250_0), (23, hb_c250_1), (38, hb_c250_2), (54, hb_c250_3), (68, hb_c250_4), (84, hb_c250_5), (99, hb_c250_6), (114, hb_c250_7)]
def hb_q251 : List (Nat × List (Nat × Instr × Nat)) := [(15, hb_c251_0), (22, hb_c251_1)]
def hb_q252 : List (Nat × List (Nat × Instr × Nat)) := [(15, hb_c252_0), (31, hb_c252_1), (32, hb_c252_2)]
def hb_q253 : List (Nat × List (Nat × Instr × Nat)) := [(13, hb_c253_0), (20, hb_c253_1)]
def hb_q254 : List (Nat × List (Nat × Instr × Nat)) := [(13, hb_c254_0), (29, hb_c254_1), (36, hb_c254_2)]
def hb_q255 : List (Nat × List (Nat × Instr × Nat)) := [(13, hb_c255_0), (27, hb_c255_1), (43, hb_c255_2), (60, hb_c255_3), (72, hb_c255_4), (88, hb_c255_5), (105, hb_c255_6), (119, hb_c255_7), (137, hb_c255_8), (153, hb_c255_9), (170, hb_c255_10), (183, hb_c255_11), (203, hb_c255_12), (217, hb_c255_13), (234, hb_c255_14), (250, hb_c255_15), (266, hb_c255_16), (281, hb_c255_17), (297, hb_c255_18), (298, hb_c255_19)]
def hb_q256 : List (Nat × List (Nat × Instr × Nat)) := [(13, hb_c256_0), (27, hb_c256_1), (33, hb_c256_2)]
def hb_q257 : List (Nat × List (Nat × Instr × Nat)) := [(13, hb_c257_0), (27, hb_c257_1), (33, hb_c257_2)]
def hb_q258 : List (Nat × List (Nat × Instr × Nat)) := [(9, hb_c258_0), (24, hb_c258_1), (36, hb_c258_2), (51, hb_c258_3), (63, hb_c258_4), (76, hb_c258_5), (87, hb_c258_6), (101, hb_c258_7), (111, hb_c258_8)]
def hb_q259 : List (Nat × List (Nat × Instr × Nat)) := [(13, hb_c259_0), (27, hb_c259_1), (41, hb_c259_2), (57, hb_c259_3), (73, hb_c259_4), (87, hb_c259_5), (106, hb_c259_6), (122, hb_c259_7), (134, hb_c259_8), (137, hb_c259_9)]
def hb_q260 : List (Nat × List (Nat × Instr × Nat)) := [(11, hb_c260_0), (25, hb_c260_1), (37, hb_c260_2), (49, hb_c260_3), (66, hb_c260_4), (84, hb_c260_5), (99, hb_c260_6), (116, hb_c260_7)]
def hb_q261 : List (Nat × List (Nat × Instr × Nat)) := [(11, hb_c261_0), (26, hb_c261_1), (40, hb_c261_2), (54, hb_c261_3), (68, hb_c261_4), (80, hb_c261_5), (92, hb_c261_6), (104, hb_c261_7), (120, hb_c261_8), (128, hb_c261_9)]
def hb_q262 : List (Nat × List (Nat × Instr × Nat)) := [(10, hb_c262_0), (26, hb_c262_1), (38, hb_c262_2), (52, hb_c262_3), (70, hb_c262_4), (82, hb_c262_5), (97, hb_c262_6), (102, hb_c262_7)]
def hb_q263 : List (Nat × List (Nat × Instr × Nat)) := [(9, hb_c263_0), (24, hb_c263_1), (38, hb_c263_2), (56, hb_c263_3), (68, hb_c263_4), (80, hb_c263_5)]
def hb_q264 : List (Nat × List (Nat × Instr × Nat)) := [(12, hb_c264_0), (24, hb_c264_1), (36, hb_c264_2)]
def hb_q265 : List (Nat × List (Nat × Instr × Nat)) := [(11, hb_c265_0), (27, hb_c265_1), (41, hb_c265_2), (53, hb_c265_3), (58, hb_c265_4)]
def hb_q266 : List (Nat × List (Nat × Instr × Nat)) := [(13, hb_c266_0), (27, hb_c266_1), (29, hb_c266_2)]
def hb_q267 : List (Nat × List (Nat × Instr × Nat)) := [(15, hb_c267_0), (27, hb_c267_1), (41, hb_c267_2), (55, hb_c267_3), (66, hb_c267_4), (76, hb_c267_5), (91, hb_c267_6)]
def hb_q268 : List (Nat × List (Nat × Instr × Nat)) := [(12, hb_c268_0), (28, hb_c268_1), (44, hb_c268_2), (55, hb_c268_3), (70, hb_c268_4), (78, hb_c268_5), (89, hb_c268_6), (95, hb_c268_7)]
def hb_q269 : List (Nat × List (Nat × Instr × Nat)) := [(10, hb_c269_0), (25, hb_c269_1), (39, hb_c269_2), (54, hb_c269_3), (67, hb_c269_4), (82, hb_c269_5), (96, hb_c269_6), (112, hb_c269_7), (125, hb_c269_8), (136, hb_c269_9), (149, hb_c269_10), (160, hb_c269_11), (178, hb_c269_12), (196, hb_c269_13), (213, hb_c269_14), (231, hb_c269_15), (246, hb_c269_16), (263, hb_c269_17), (267, hb_c269_18)]
def hb_q270 : List (Nat × List (Nat × Instr × Nat)) := [(7, hb_c270_0), (13, hb_c270_1)]
def hb_q271 : List (Nat × List (Nat × Instr × Nat)) := [(6, hb_c271_0)]
def hb_q272 : List (Nat × List (Nat × Instr × Nat)) := [(9, hb_c272_0), (19, hb_c272_1), (33, hb_c272_2), (46, hb_c272_3), (62, hb_c272_4), (74, hb_c272_5), (78, hb_c272_6)]
def hb_q273 : List (Nat × List (Nat × Instr × Nat)) := [(13, hb_c273_0), (28, hb_c273_1), (43, hb_c273_2), (53, hb_c273_3), (67, hb_c273_4), (81, hb_c273_5), (96, hb_c273_6), (109, hb_c273_7), (113, hb_c273_8)]
def hb_q274 : List (Nat × List (Nat × Instr × Nat)) := [(13, hb_c274_0), (26, hb_c274_1), (39, hb_c274_2), (54, hb_c274_3), (67, hb_c274_4), (82, hb_c274_5), (95, hb_c274_6), (111, hb_c274_7), (113, hb_c274_8)]
def hb_q275 : List (Nat × List (Nat × Instr × Nat)) := [(13, hb_c275_0), (26, hb_c275_1), (42, hb_c275_2), (55, hb_c275_3), (70, hb_c275_4), (82, hb_c275_5), (87, hb_c275_6)]
def hb_q276 : List (Nat × List (Nat × Instr × Nat)) := [(16, hb_c276_0), (32, hb_c276_1), (45, hb_c276_2), (62, hb_c276_3), (75, hb_c276_4), (92, hb_c276_5), (106, hb_c276_6), (120, hb_c276_7), (130, hb_c276_8), (146, hb_c276_9), (163, hb_c276_10), (175, hb_c276_11)]
def hb_q277 : List (Nat × List (Nat × Instr × Nat)) := [(14, hb_c277_0), (30, hb_c277_1), (44, hb_c277_2), (57, hb_c277_3), (71, hb_c277_4), (85, hb_c277_5), (100, hb_c277_6), (117, hb_c277_7), (130, hb_c277_8), (144, hb_c277_9), (159, hb_c277_10), (172, hb_c277_11), (187, hb_c277_12), (201, hb_c277_13), (203, hb_c277_14)]
def hb_q278 : List (Nat × List (Nat × Instr × Nat)) := [(11, hb_c278_0), (59, hb_c278_1), (75, hb_c278_2), (85, hb_c278_3), (98, hb_c278_4), (112, hb_c278_5), (126, hb_c278_6), (141, hb_c278_7), (143, hb_c278_8)]
def hb_q279 : List (Nat × List (Nat × Instr × Nat)) := [(14, hb_c279_0), (30, hb_c279_1), (43, hb_c279_2), (57, hb_c279_3), (70, hb_c279_4), (84, hb_c279_5), (97, hb_c279_6), (111, hb_c279_7), (125, hb_c279_8), (141, hb_c279_9), (143, hb_c279_10)]
def hb_q280 : List (Nat × List (Nat × Instr × Nat)) := [(14, hb_c280_0), (26, hb_c280_1), (29, hb_c280_2)]
def hb_q281 : List (Nat × List (Nat × Instr × Nat)) := [(12, hb_c281_0)]
def hb_q282 : List (Nat × List (Nat × Instr × Nat)) := [(14, hb_c282_0), (27, hb_c282_1), (42, hb_c282_2), (50, hb_c282_3)]
def hb_q283 : List (Nat × List (Nat × Instr × Nat)) := [(12, hb_c283_0), (18, hb_c283_1)]
def hb_q284 : List (Nat × List (Nat × Instr × Nat)) := [(47, hb_c284_0), (60, hb_c284_1), (72, hb_c284_2), (85, hb_c284_3), (96, hb_c284_4)]
def hb_q285 : List (Nat × List (Nat × Instr × Nat)) := [(12, hb_c285_0), (30, hb_c285_1), (46, hb_c285_2), (48, hb_c285_3)]
def hb_q286 : List (Nat × List (Nat × Instr × Nat)) := [(14, hb_c286_0), (28, hb_c286_1), (40, hb_c286_2), (56, hb_c286_3), (67, hb_c286_4)]
def hb_q287 : List (Nat × List (Nat × Instr × Nat)) := [(12, hb_c287_0), (16, hb_c287_1)]
def hb_q288 : List (Nat × List (Nat × Instr × Nat)) := [(14, hb_c288_0), (26, hb_c288_1), (41, hb_c288_2), (53, hb_c288_3), (63, hb_c288_4)]
def hb_q289 : List (Nat × List (Nat × Instr × Nat)) := [(13, hb_c289_0), (29, hb_c289_1), (41, hb_c289_2), (55, hb_c289_3), (70, hb_c289_4), (86, hb_c289_5), (100, hb_c289_6), (116, hb_c289_7), (132, hb_c289_8), (146, hb_c289_9), (162, hb_c289_10), (172, hb_c289_11), (188, hb_c289_12), (202, hb_c289_13), (218, hb_c289_14), (234, hb_c289_15)]
def hb_q290 : List (Nat × List (Nat × Instr × Nat)) := [(11, hb_c290_0), (25, hb_c290_1)]
def hb_q291 : List (Nat × List (Nat × Instr × Nat)) := [(87, hb_c291_0), (97, hb_c291_1), (109, hb_c291_2), (123, hb_c291_3), (137, hb_c291_4), (139, hb_c291_5)]
def hb_q292 : List (Nat × List (Nat × Instr × Nat)) := [(13, hb_c292_0), (27, hb_c292_1), (33, hb_c292_2)]
def hb_q293 : List (Nat × List (Nat × Instr × Nat)) := [(12, hb_c293_0), (28, hb_c293_1), (38, hb_c293_2)]
def hb_q294 : List (Nat × List (Nat × Instr × Nat)) := [(9, hb_c294_0), (21, hb_c294_1), (29, hb_c294_2), (40, hb_c294_3), (49, hb_c294_4), (52, hb_c294_5)]
def hb_q295 : List (Nat × List (Nat × Instr × Nat)) := [(10, hb_c295_0)]
def hb_q296 : List (Nat × List (Nat × Instr × Nat)) := [(15, hb_c296_0), (24, hb_c296_1)]
def hb_q297 : List (Nat × List (Nat × Instr × Nat)) := [(14, hb_c297_0)]
def hb_q298 : List (Nat × List (Nat × Instr × Nat)) := [(17, hb_c298_0), (18, hb_c298_1)]
def hb_q299 : List (Nat × List (Nat × Instr × Nat)) := [(9, hb_c299_0)]
def hb_q300 : List (Nat × List (Nat × Instr × Nat)) := [(9, hb_c300_0), (14, hb_c300_1)]
def hb_q301 : List (Nat × List (Nat × Instr × Nat)) := [(11, hb_c301_0), (17, hb_c301_1)]
def hb_q302 : List (Nat × List (Nat × Instr × Nat)) := [(15, hb_c302_0), (24, hb_c302_1), (257, hb_c302_2), (267, hb_c302_3), (279, hb_c302_4), (287, hb_c302_5), (295, hb_c302_6), (305, hb_c302_7), (313, hb_c302_8), (325, hb_c302_9), (333, hb_c302_10), (343, hb_c302_11), (355, hb_c302_12), (363, hb_c302_13), (377, hb_c302_14), (385, hb_c302_15), (397, hb_c302_16), (409, hb_c302_17), (419, hb_c302_18), (427, hb_c302_19), (441, hb_c302_20), (453, hb_c302_21), (461, hb_c302_22), (471, hb_c302_23), (483, hb_c302_24), (491, hb_c302_25), (499, hb_c302_26), (509, hb_c302_27), (517, hb_c302_28), (525, hb_c302_29), (537, hb_c302_30), (547, hb_c302_31), (559, hb_c302_32), (567, hb_c302_33), (575, hb_c302_34), (585, hb_c302_35), (593, hb_c302_36), (601, hb_c302_37), (613, hb_c302_38), (621, hb_c302_39), (629, hb_c302_40), (639, hb_c302_41), (647, hb_c302_42), (655, hb_c302_43), (667, hb_c302_44), (675, hb_c302_45), (685, hb_c302_46), (695, hb_c302_47), (705, hb_c302_48), (713, hb_c302_49), (723, hb_c302_50), (731, hb_c302_51), (739, hb_c302_52), (751, hb_c302_53), (761, hb_c302_54), (771, hb_c302_55), (787, hb_c302_56), (801, hb_c302_57), (809, hb_c302_58), (819, hb_c302_59), (829, hb_c302_60), (839, hb_c302_61), (847, hb_c302_62), (857, hb_c302_63), (865, hb_c302_64), (877, hb_c302_65), (891, hb_c302_66), (899, hb_c302_67), (909, hb_c302_68), (917, hb_c302_69), (925, hb_c302_70), (937, hb_c302_71), (945, hb_c302_72), (953, hb_c302_73), (963, hb_c302_74), (971, hb_c302_75), (981, hb_c302_76), (991, hb_c302_77), (1001, hb_c302_78), (1013, hb_c302_79), (1023, hb_c302_80), (1035, hb_c302_81), (1045, hb_c302_82), (1057, hb_c302_83), (1067, hb_c302_84), (1079, hb_c302_85), (1087, hb_c302_86), (1097, hb_c302_87), (1105, hb_c302_88), (1113, hb_c302_89), (1125, hb_c302_90), (1135, hb_c302_91), (1147, hb_c302_92), (1157, hb_c302_93), (1169, hb_c302_94), (1177, hb_c302_95), (1187, hb_c302_96), (1199, hb_c302_97), (1209, hb_c302_98), (1219, hb_c302_99), (1231, hb_c302_100), (1241, hb_c302_101), (1251, hb_c302_102), (1261, hb_c302_103), (1273, hb_c302_104), (1283, hb_c302_105), (1295, hb_c302_106), (1304, hb_c302_107), (1314, hb_c302_108), (1324, hb_c302_109), (1333, hb_c302_110), (1343, hb_c302_111), (1355, hb_c302_112), (1369, hb_c302_113), (1377, hb_c302_114), (1387, hb_c302_115), (1397, hb_c302_116), (1409, hb_c302_117), (1419, hb_c302_118), (1429, hb_c302_119), (1439, hb_c302_120), (1447, hb_c302_121), (1459, hb_c302_122), (1467, hb_c302_123), (1477, hb_c302_124), (1489, hb_c302_125), (1497, hb_c302_126), (1507, hb_c302_127), (1515, hb_c302_128), (1527, hb_c302_129), (1537, hb_c302_130), (1545, hb_c302_131), (1557, hb_c302_132), (1565, hb_c302_133), (1575, hb_c302_134), (1583, hb_c302_135), (1591, hb_c302_136), (1603, hb_c302_137), (1611, hb_c302_138), (1621, hb_c302_139), (1629, hb_c302_140), (1641, hb_c302_141), (1649, hb_c302_142), (1657, hb_c302_143), (1667, hb_c302_144), (1675, hb_c302_145), (1687, hb_c302_146), (1695, hb_c302_147), (1703, hb_c302_148), (1713, hb_c302_149), (1721, hb_c302_150), (1729, hb_c302_151), (1737, hb_c302_152), (1749, hb_c302_153), (1757, hb_c302_154), (1767, hb_c302_155), (1775, hb_c302_156), (1783, hb_c302_157), (1795, hb_c302_158), (1805, hb_c302_159), (1813, hb_c302_160), (1825, hb_c302_161), (1833, hb_c302_162), (1843, hb_c302_163), (1851, hb_c302_164), (1859, hb_c302_165), (1871, hb_c302_166), (1881, hb_c302_167), (1893, hb_c302_168), (1903, hb_c302_169), (1917, hb_c302_170), (1931, hb_c302_171), (1945, hb_c302_172)]
def hb_Q0 : List px_Q := [(hb_m0, 1, hb_q0), (hb_m1, 1, hb_q1), (hb_m2, 1, hb_q2), (hb_m3, 1, hb_q3), (hb_m4, 1, hb_q4), (hb_m5, 1, hb_q5), (hb_m6, 1, hb_q6), (hb_m7, 1, hb_q7), (hb_m8, 1, hb_q8), (hb_m9, 1, hb_q9), (hb_m10, 1, hb_q10), (hb_m11, 1, hb_q11), (hb_m12, 2, hb_q12), (hb_m13, 2, hb_q13), (hb_m14, 2, hb_q14), (hb_m15, 2, hb_q15), (hb_m16, 2, hb_q16), (hb_m17, 2, hb_q17), (hb_m18, 2, hb_q18), (hb_m19, 2, hb_q19)]
def hb_Q1 : List px_Q := [(hb_m20, 2, hb_q20), (hb_m21, 2, hb_q21), (hb_m22, 3, hb_q22), (hb_m23, 3, hb_q23), (hb_m24, 3, hb_q24), (hb_m25, 3, hb_q25), (hb_m26, 3, hb_q26), (hb_m27, 3, hb_q27), (hb_m28, 3, hb_q28), (hb_m29, 3, hb_q29), (hb_m30, 3, hb_q30), (hb_m31, 4, hb_q31), (hb_m32, 4, hb_q32), (hb_m33, 4, hb_q33), (hb_m34, 4, hb_q34), (hb_m35, 4, hb_q35), (hb_m36, 4, hb_q36), (hb_m37, 4, hb_q37), (hb_m38, 4, hb_q38), (hb_m39, 4, hb_q39)]
def hb_Q2 : List px_Q := [(hb_m40, 4, hb_q40), (hb_m41, 4, hb_q41), (hb_m42, 4, hb_q42), (hb_m43, 4, hb_q43), (hb_m44, 5, hb_q44), (hb_m45, 5, hb_q45), (hb_m46, 5, hb_q46), (hb_m47, 5, hb_q47), (hb_m48, 5, hb_q48), (hb_m49, 5, hb_q49), (hb_m50, 5, hb_q50), (hb_m51, 6, hb_q51), (hb_m52, 6, hb_q52), (hb_m53, 6, hb_q53), (hb_m54, 6, hb_q54), (hb_m55, 6, hb_q55), (hb_m56, 6, hb_q56), (hb_m57, 6, hb_q57), (hb_m58, 6, hb_q58), (hb_m59, 6, hb_q59)]
def hb_Q3 : List px_Q := [(hb_m60, 6, hb_q60), (hb_m61, 6, hb_q61), (hb_m62, 6, hb_q62), (hb_m63, 6, hb_q63), (hb_m64, 6, hb_q64), (hb_m65, 6, hb_q65), (hb_m66, 6, hb_q66), (hb_m67, 6, hb_q67), (hb_m68, 6, hb_q68), (hb_m69, 6, hb_q69), (hb_m70, 6, hb_q70), (hb_m71, 6, hb_q71), (hb_m72, 7, hb_q72), (hb_m73, 7, hb_q73), (hb_m74, 7, hb_q74), (hb_m75, 7, hb_q75), (hb_m76, 7, hb_q76), (hb_m77, 7, hb_q77), (hb_m78, 7, hb_q78), (hb_m79, 7, hb_q79)]
def hb_Q4 : List px_Q := [(hb_m80, 7, hb_q80), (hb_m81, 7, hb_q81), (hb_m82, 7, hb_q82), (hb_m83, 7, hb_q83), (hb_m84, 7, hb_q84), (hb_m85, 7, hb_q85), (hb_m86, 8, hb_q86), (hb_m87, 8, hb_q87), (hb_m88, 8, hb_q88), (hb_m89, 8, hb_q89), (hb_m90, 8, hb_q90), (hb_m91, 8, hb_q91), (hb_m92, 8, hb_q92), (hb_m93, 8, hb_q93), (hb_m94, 8, hb_q94), (hb_m95, 8, hb_q95), (hb_m96, 8, hb_q96), (hb_m97, 9, hb_q97), (hb_m98, 9, hb_q98), (hb_m99, 9, hb_q99)]
def hb_Q5 : List px_Q := [(hb_m100, 9, hb_q100), (hb_m101, 9, hb_q101), (hb_m102, 9, hb_q102), (hb_m103, 9, hb_q103), (hb_m104, 9, hb_q104), (hb_m105, 9, hb_q105), (hb_m106, 9, hb_q106), (hb_m107, 9, hb_q107), (hb_m108, 10, hb_q108), (hb_m109, 10, hb_q109), (hb_m110, 10, hb_q110), (hb_m111, 10, hb_q111), (hb_m112, 10, hb_q112), (hb_m113, 10, hb_q113), (hb_m114, 11, hb_q114), (hb_m115, 11, hb_q115), (hb_m116, 11, hb_q116), (hb_m117, 11, hb_q117), (hb_m118, 11, hb_q118), (hb_m119, 11, hb_q119)]
def hb_Q6 : List px_Q := [(hb_m120, 12, hb_q120), (hb_m121, 12, hb_q121), (hb_m122, 12, hb_q122), (hb_m123, 12, hb_q123), (hb_m124, 12, hb_q124), (hb_m125, 12, hb_q125), (hb_m126, 12, hb_q126), (hb_m127, 12, hb_q127), (hb_m128, 12, hb_q128), (hb_m129, 12, hb_q129), (hb_m130, 12, hb_q130), (hb_m131, 12, hb_q131), (hb_m132, 12, hb_q132), (hb_m133, 12, hb_q133), (hb_m134, 12, hb_q134), (hb_m135, 12, hb_q135), (hb_m136, 12, hb_q136), (hb_m137, 12, hb_q137), (hb_m138, 12, hb_q138), (hb_m139, 12, hb_q139)]
def hb_Q7 : List px_Q := [(hb_m140, 12, hb_q140), (hb_m141, 12, hb_q141), (hb_m142, 12, hb_q142), (hb_m143, 12, hb_q143), (hb_m144, 12, hb_q144), (hb_m145, 12, hb_q145), (hb_m146, 12, hb_q146), (hb_m147, 12, hb_q147), (hb_m148, 12, hb_q148), (hb_m149, 12, hb_q149), (hb_m150, 12, hb_q150), (hb_m151, 12, hb_q151), (hb_m152, 12, hb_q152), (hb_m153, 12, hb_q153), (hb_m154, 12, hb_q154), (hb_m155, 12, hb_q155), (hb_m156, 12, hb_q156), (hb_m157, 12, hb_q157), (hb_m158, 12, hb_q158), (hb_m159, 12, hb_q159)]
def hb_Q8 : List px_Q := [(hb_m160, 12, hb_q160), (hb_m161, 12, hb_q161), (hb_m162, 12, hb_q162), (hb_m163, 12, hb_q163), (hb_m164, 12, hb_q164), (hb_m165, 12, hb_q165), (hb_m166, 12, hb_q166), (hb_m167, 12, hb_q167), (hb_m168, 12, hb_q168), (hb_m169, 12, hb_q169), (hb_m170, 12, hb_q170), (hb_m171, 12, hb_q171), (hb_m172, 12, hb_q172), (hb_m173, 12, hb_q173), (hb_m174, 12, hb_q174), (hb_m175, 12, hb_q175), (hb_m176, 12, hb_q176), (hb_m177, 12, hb_q177), (hb_m178, 12, hb_q178), (hb_m179, 12, hb_q179)]
def hb_Q9 : List px_Q := [(hb_m180, 12, hb_q180), (hb_m181, 13, hb_q181), (hb_m182, 13, hb_q182), (hb_m183, 13, hb_q183), (hb_m184, 13, hb_q184), (hb_m185, 13, hb_q185), (hb_m186, 13, hb_q186), (hb_m187, 13, hb_q187), (hb_m188, 13, hb_q188), (hb_m189, 13, hb_q189), (hb_m190, 13, hb_q190), (hb_m191, 13, hb_q191), (hb_m192, 13, hb_q192), (hb_m193, 13, hb_q193), (hb_m194, 13, hb_q194), (hb_m195, 13, hb_q195), (hb_m196, 13, hb_q196), (hb_m197, 13, hb_q197), (hb_m198, 13, hb_q198), (hb_m199, 13, hb_q199)]
def hb_Q10 : List px_Q := [(hb_m200, 13, hb_q200), (hb_m201, 13, hb_q201), (hb_m202, 13, hb_q202), (hb_m203, 13, hb_q203), (hb_m204, 13, hb_q204), (hb_m205, 13, hb_q205), (hb_m206, 13, hb_q206), (hb_m207, 13, hb_q207), (hb_m208, 13, hb_q208), (hb_m209, 13, hb_q209), (hb_m210, 13, hb_q210), (hb_m211, 13, hb_q211), (hb_m212, 13, hb_q212), (hb_m213, 13, hb_q213), (hb_m214, 13, hb_q214), (hb_m215, 13, hb_q215), (hb_m216, 13, hb_q216), (hb_m217, 13, hb_q217), (hb_m218, 13, hb_q218), (hb_m219, 13, hb_q219)]
def hb_Q11 : List px_Q := [(hb_m220, 13, hb_q220), (hb_m221, 13, hb_q221), (hb_m222, 13, hb_q222), (hb_m223, 13, hb_q223), (hb_m224, 13, hb_q224), (hb_m225, 13, hb_q225), (hb_m226, 13, hb_q226), (hb_m227, 13, hb_q227), (hb_m228, 13, hb_q228), (hb_m229, 13, hb_q229), (hb_m230, 13, hb_q230), (hb_m231, 13, hb_q231), (hb_m232, 13, hb_q232), (hb_m233, 13, hb_q233), (hb_m234, 13, hb_q234), (hb_m235, 13, hb_q235), (hb_m236, 13, hb_q236), (hb_m237, 13, hb_q237), (hb_m238, 13, hb_q238), (hb_m239, 13, hb_q239)]
def hb_Q12 : List px_Q := [(hb_m240, 13, hb_q240), (hb_m241, 13, hb_q241), (hb_m242, 13, hb_q242), (hb_m243, 13, hb_q243), (hb_m244, 13, hb_q244), (hb_m245, 13, hb_q245), (hb_m246, 13, hb_q246), (hb_m247, 13, hb_q247), (hb_m248, 13, hb_q248), (hb_m249, 13, hb_q249), (hb_m250, 13, hb_q250), (hb_m251, 13, hb_q251), (hb_m252, 13, hb_q252), (hb_m253, 13, hb_q253), (hb_m254, 13, hb_q254), (hb_m255, 13, hb_q255), (hb_m256, 13, hb_q256), (hb_m257, 13, hb_q257), (hb_m258, 13, hb_q258), (hb_m259, 13, hb_q259)]
def hb_Q13 : List px_Q := [(hb_m260, 13, hb_q260), (hb_m261, 13, hb_q261), (hb_m262, 13, hb_q262), (hb_m263, 13, hb_q263), (hb_m264, 13, hb_q264), (hb_m265, 13, hb_q265), (hb_m266, 13, hb_q266), (hb_m267, 13, hb_q267), (hb_m268, 13, hb_q268), (hb_m269, 13, hb_q269), (hb_m270, 13, hb_q270), (hb_m271, 13, hb_q271), (hb_m272, 13, hb_q272), (hb_m273, 13, hb_q273), (hb_m274, 13, hb_q274), (hb_m275, 13, hb_q275), (hb_m276, 13, hb_q276), (hb_m277, 13, hb_q277), (hb_m278, 13, hb_q278), (hb_m279, 13, hb_q279)]
def hb_Q14 : List px_Q := [(hb_m280, 13, hb_q280), (hb_m281, 13, hb_q281), (hb_m282, 13, hb_q282), (hb_m283, 13, hb_q283), (hb_m284, 13, hb_q284), (hb_m285, 13, hb_q285), (hb_m286, 13, hb_q286), (hb_m287, 13, hb_q287), (hb_m288, 13, hb_q288), (hb_m289, 13, hb_q289), (hb_m290, 13, hb_q290), (hb_m291, 13, hb_q291), (hb_m292, 13, hb_q292), (hb_m293, 13, hb_q293), (hb_m294, 0, hb_q294), (hb_m295, 0, hb_q295), (hb_m296, 0, hb_q296), (hb_m297, 0, hb_q297), (hb_m298, 0, hb_q298), (hb_m299, 0, hb_q299)]
def hb_Q15 : List px_Q := [(hb_m300, 0, hb_q300), (hb_m301, 0, hb_q301)]
def hb_B : List (List px_Q) := [hb_Q0, hb_Q1, hb_Q2, hb_Q3, hb_Q4, hb_Q5, hb_Q6, hb_Q7, hb_Q8, hb_Q9, hb_Q10, hb_Q11, hb_Q12, hb_Q13, hb_Q14, hb_Q15]
theorem hb_qk0 : px_Qk hb_cl (hb_m0, 1, hb_q0) := px_Qk_mk (ci := 0) rfl (by decide +kernel) rfl
theorem hb_qk1 : px_Qk hb_cl (hb_m1, 1, hb_q1) := px_Qk_mk (ci := 0) rfl (by decide +kernel) rfl
theorem hb_qk2 : px_Qk hb_cl (hb_m2, 1, hb_q2) := px_Qk_mk (ci := 0) rfl (by decide +kernel) rfl
theorem hb_qk3 : px_Qk hb_cl (hb_m3, 1, hb_q3) := px_Qk_mk (ci := 0) rfl (by decide +kernel) rfl
theorem hb_qk4 : px_Qk hb_cl (hb_m4, 1, hb_q4) := px_Qk_mk (ci := 0) rfl (by decide +kernel) rfl
theorem hb_qk5 : px_Qk hb_cl (hb_m5, 1, hb_q5) := px_Qk_mk (ci := 0) rfl (by decide +kernel) rfl
theorem hb_qk6 : px_Qk hb_cl (hb_m6, 1, hb_q6) := px_Qk_mk (ci := 0) rfl (by decide +kernel) rfl
theorem hb_qk7 : px_Qk hb_cl (hb_m7, 1, hb_q7) := px_Qk_mk (ci := 0) rfl (by decide +kernel) rfl
theorem hb_qk8 : px_Qk hb_cl (hb_m8, 1, hb_q8) := px_Qk_mk (ci := 0) rfl (by decide +kernel) rfl
theorem hb_qk9 : px_Qk hb_cl (hb_m9, 1, hb_q9) := px_Qk_mk (ci := 0) rfl (by decide +kernel) rfl
theorem hb_qk10 : px_Qk hb_cl (hb_m10, 1, hb_q10) := px_Qk_mk (ci := 0) rfl (by decide +kernel) rfl
theorem hb_qk11 : px_Qk hb_cl (hb_m11, 1, hb_q11) := px_Qk_mk (ci := 0) rfl (by decide +kernel) rfl
theorem hb_qk12 : px_Qk hb_cl (hb_m12, 2, hb_q12) := px_Qk_mk (ci := 1) rfl (by decide +kernel) rfl
theorem hb_qk13 : px_Qk hb_cl (hb_m13, 2, hb_q13) := px_Qk_mk (ci := 1) rfl (by decide +kernel) rfl
theorem hb_qk14 : px_Qk hb_cl (hb_m14, 2, hb_q14) := px_Qk_mk (ci := 1) rfl (by decide +kernel) rfl
theorem hb_qk15 : px_Qk hb_cl (hb_m15, 2, hb_q15) := px_Qk_mk (ci := 1) rfl (by decide +kernel) rfl
theorem hb_qk16 : px_Qk hb_cl (hb_m16, 2, hb_q16) := px_Qk_mk (ci := 1) rfl (by decide +kernel) rfl
theorem hb_qk17 : px_Qk hb_cl (hb_m17, 2, hb_q17) := px_Qk_mk (ci := 1) rfl (by decide +kernel) rfl
theorem hb_qk18 : px_Qk hb_cl (hb_m18, 2, hb_q18) := px_Qk_mk (ci := 1) rfl (by decide +kernel) rfl
theorem hb_qk19 : px_Qk hb_cl (hb_m19, 2, hb_q19) := px_Qk_mk (ci := 1) rfl (by decide +kernel) rfl
theorem hb_qk20 : px_Qk hb_cl (hb_m20, 2, hb_q20) := px_Qk_mk (ci := 1) rfl (by decide +kernel) rfl
theorem hb_qk21 : px_Qk hb_cl (hb_m21, 2, hb_q21) := px_Qk_mk (ci := 1) rfl (by decide +kernel) rfl
theorem hb_qk22 : px_Qk hb_cl (hb_m22, 3, hb_q22) := px_Qk_mk (ci := 2) rfl (by decide +kernel) rfl
theorem hb_qk23 : px_Qk hb_cl (hb_m23, 3, hb_q23) := px_Qk_mk (ci := 2) rfl (by decide +kernel) rfl
theorem hb_qk24 : px_Qk hb_cl (hb_m24, 3, hb_q24) := px_Qk_mk (ci := 2) rfl (by decide +kernel) rfl
theorem hb_qk25 : px_Qk hb_cl (hb_m25, 3, hb_q25) := px_Qk_mk (ci := 2) rfl (by decide +kernel) rfl
theorem hb_qk26 : px_Qk hb_cl (hb_m26, 3, hb_q26) := px_Qk_mk (ci := 2) rfl (by decide +kernel) rfl
theorem hb_qk27 : px_Qk hb_cl (hb_m27, 3, hb_q27) := px_Qk_mk (ci := 2) rfl (by decide +kernel) rfl
theorem hb_qk28 : px_Qk hb_cl (hb_m28, 3, hb_q28) := px_Qk_mk (ci := 2) rfl (by decide +kernel) rfl
theorem hb_qk29 : px_Qk hb_cl (hb_m29, 3, hb_q29) := px_Qk_mk (ci := 2) rfl (by decide +kernel) rfl
theorem hb_qk30 : px_Qk hb_cl (hb_m30, 3, hb_q30) := px_Qk_mk (ci := 2) rfl (by decide +kernel) rfl
theorem hb_qk31 : px_Qk hb_cl (hb_m31, 4, hb_q31) := px_Qk_mk (ci := 3) rfl (by decide +kernel) rfl
theorem hb_qk32 : px_Qk hb_cl (hb_m32, 4, hb_q32) := px_Qk_mk (ci := 3) rfl (by decide +kernel) rfl
theorem hb_qk33 : px_Qk hb_cl (hb_m33, 4, hb_q33) := px_Qk_mk (ci := 3) rfl (by decide +kernel) rfl
theorem hb_qk34 : px_Qk hb_cl (hb_m34, 4, hb_q34) := px_Qk_mk (ci := 3) rfl (by decide +kernel) rfl
theorem hb_qk35 : px_Qk hb_cl (hb_m35, 4, hb_q35) := px_Qk_mk (ci := 3) rfl (by decide +kernel) rfl
theorem hb_qk36 : px_Qk hb_cl (hb_m36, 4, hb_q36) := px_Qk_mk (ci := 3) rfl (by decide +kernel) rfl
theorem hb_qk37 : px_Qk hb_cl (hb_m37, 4, hb_q37) := px_Qk_mk (ci := 3) rfl (by decide +kernel) rfl
theorem hb_qk38 : px_Qk hb_cl (hb_m38, 4, hb_q38) := px_Qk_mk (ci := 3) rfl (by decide +kernel) rfl
theorem hb_qk39 : px_Qk hb_cl (hb_m39, 4, hb_q39) := px_Qk_mk (ci := 3) rfl (by decide +kernel) rfl
theorem hb_qk40 : px_Qk hb_cl (hb_m40, 4, hb_q40) := px_Qk_mk (ci := 3) rfl (by decide +kernel) rfl
theorem hb_qk41 : px_Qk hb_cl (hb_m41, 4, hb_q41) := px_Qk_mk (ci := 3) rfl (by decide +kernel) rfl
theorem hb_qk42 : px_Qk hb_cl (hb_m42, 4, hb_q42) := px_Qk_mk (ci := 3) rfl (by decide +kernel) rfl
theorem hb_qk43 : px_Qk hb_cl (hb_m43, 4, hb_q43) := px_Qk_mk (ci := 3) rfl (by decide +kernel) rfl
theorem hb_qk44 : px_Qk hb_cl (hb_m44, 5, hb_q44) := px_Qk_mk (ci := 4) rfl (by decide +kernel) rfl
theorem hb_qk45 : px_Qk hb_cl (hb_m45, 5, hb_q45) := px_Qk_mk (ci := 4) rfl (by decide +kernel) rfl
theorem hb_qk46 : px_Qk hb_cl (hb_m46, 5, hb_q46) := px_Qk_mk (ci := 4) rfl (by decide +kernel) rfl
theorem hb_qk47 : px_Qk hb_cl (hb_m47, 5, hb_q47) := px_Qk_mk (ci := 4) rfl (by decide +kernel) rfl
theorem hb_qk48 : px_Qk hb_cl (hb_m48, 5, hb_q48) := px_Qk_mk (ci := 4) rfl (by decide +kernel) rfl
theorem hb_qk49 : px_Qk hb_cl (hb_m49, 5, hb_q49) := px_Qk_mk (ci := 4) rfl (by decide +kernel) rfl
theorem hb_qk50 : px_Qk hb_cl (hb_m50, 5, hb_q50) := px_Qk_mk (ci := 4) rfl (by decide +kernel) rfl
theorem hb_qk51 : px_Qk hb_cl (hb_m51, 6, hb_q51) := px_Qk_mk (ci := 5) rfl (by decide +kernel) rfl
theorem hb_qk52 : px_Qk hb_cl (hb_m52, 6, hb_q52) := px_Qk_mk (ci := 5) rfl (by decide +kernel) rfl
theorem hb_qk53 : px_Qk hb_cl (hb_m53, 6, hb_q53) := px_Qk_mk (ci := 5) rfl (by decide +kernel) rfl
theorem hb_qk54 : px_Qk hb_cl (hb_m54, 6, hb_q54) := px_Qk_mk (ci := 5) rfl (by decide +kernel) rfl
theorem hb_qk55 : px_Qk hb_cl (hb_m55, 6, hb_q55) := px_Qk_mk (ci := 5) rfl (by decide +kernel) rfl
theorem hb_qk56 : px_Qk hb_cl (hb_m56, 6, hb_q56) := px_Qk_mk (ci := 5) rfl (by decide +kernel) rfl
theorem hb_qk57 : px_Qk hb_cl (hb_m57, 6, hb_q57) := px_Qk_mk (ci := 5) rfl (by decide +kernel) rfl
theorem hb_qk58 : px_Qk hb_cl (hb_m58, 6, hb_q58) := px_Qk_mk (ci := 5) rfl (by decide +kernel) rfl
theorem hb_qk59 : px_Qk hb_cl (hb_m59, 6, hb_q59) := px_Qk_mk (ci := 5) rfl (by decide +kernel) rfl
theorem hb_qk60 : px_Qk hb_cl (hb_m60, 6, hb_q60) := px_Qk_mk (ci := 5) rfl (by decide +kernel) rfl
theorem hb_qk61 : px_Qk hb_cl (hb_m61, 6, hb_q61) := px_Qk_mk (ci := 5) rfl (by decide +kernel) rfl
theorem hb_qk62 : px_Qk hb_cl (hb_m62, 6, hb_q62) := px_Qk_mk (ci := 5) rfl (by decide +kernel) rfl
theorem hb_qk63 : px_Qk hb_cl (hb_m63, 6, hb_q63) := px_Qk_mk (ci := 5) rfl (by decide +kernel) rfl
theorem hb_qk64 : px_Qk hb_cl (hb_m64, 6, hb_q64) := px_Qk_mk (ci := 5) rfl (by decide +kernel) rfl
theorem hb_qk65 : px_Qk hb_cl (hb_m65, 6, hb_q65) := px_Qk_mk (ci := 5) rfl (by decide +kernel) rfl
theorem hb_qk66 : px_Qk hb_cl (hb_m66, 6, hb_q66) := px_Qk_mk (ci := 5) rfl (by decide +kernel) rfl
theorem hb_qk67 : px_Qk hb_cl (hb_m67, 6, hb_q67) := px_Qk_mk (ci := 5) rfl (by decide +kernel) rfl
theorem hb_qk68 : px_Qk hb_cl (hb_m68, 6, hb_q68) := px_Qk_mk (ci := 5) rfl (by decide +kernel) rfl
theorem hb_qk69 : px_Qk hb_cl (hb_m69, 6, hb_q69) := px_Qk_mk (ci := 5) rfl (by decide +kernel) rfl
theorem hb_qk70 : px_Qk hb_cl (hb_m70, 6, hb_q70) := px_Qk_mk (ci := 5) rfl (by decide +kernel) rfl
theorem hb_qk71 : px_Qk hb_cl (hb_m71, 6, hb_q71) := px_Qk_mk (ci := 5) rfl (by decide +kernel) rfl
theorem hb_qk72 : px_Qk hb_cl (hb_m72, 7, hb_q72) := px_Qk_mk (ci := 6) rfl (by decide +kernel) rfl
theorem hb_qk73 : px_Qk hb_cl (hb_m73, 7, hb_q73) := px_Qk_mk (ci := 6) rfl (by decide +kernel) rfl
theorem hb_qk74 : px_Qk hb_cl (hb_m74, 7, hb_q74) := px_Qk_mk (ci := 6) rfl (by decide +kernel) rfl
theorem hb_qk75 : px_Qk hb_cl (hb_m75, 7, hb_q75) := px_Qk_mk (ci := 6) rfl (by decide +kernel) rfl
theorem hb_qk76 : px_Qk hb_cl (hb_m76, 7, hb_q76) := px_Qk_mk (ci := 6) rfl (by decide +kernel) rfl
theorem hb_qk77 : px_Qk hb_cl (hb_m77, 7, hb_q77) := px_Qk_mk (ci := 6) rfl (by decide +kernel) rfl
theorem hb_qk78 : px_Qk hb_cl (hb_m78, 7, hb_q78) := px_Qk_mk (ci := 6) rfl (by decide +kernel) rfl
theorem hb_qk79 : px_Qk hb_cl (hb_m79, 7, hb_q79) := px_Qk_mk (ci := 6) rfl (by decide +kernel) rfl
theorem hb_qk80 : px_Qk hb_cl (hb_m80, 7, hb_q80) := px_Qk_mk (ci := 6) rfl (by decide +kernel) rfl
theorem hb_qk81 : px_Qk hb_cl (hb_m81, 7, hb_q81) := px_Qk_mk (ci := 6) rfl (by decide +kernel) rfl
theorem hb_qk82 : px_Qk hb_cl (hb_m82, 7, hb_q82) := px_Qk_mk (ci := 6) rfl (by decide +kernel) rfl
theorem hb_qk83 : px_Qk hb_cl (hb_m83, 7, hb_q83) := px_Qk_mk (ci := 6) rfl (by decide +kernel) rfl
theorem hb_qk84 : px_Qk hb_cl (hb_m84, 7, hb_q84) := px_Qk_mk (ci := 6) rfl (by decide +kernel) rfl
theorem hb_qk85 : px_Qk hb_cl (hb_m85, 7, hb_q85) := px_Qk_mk (ci := 6) rfl (by decide +kernel) rfl
theorem hb_qk86 : px_Qk hb_cl (hb_m86, 8, hb_q86) := px_Qk_mk (ci := 7) rfl (by decide +kernel) rfl
theorem hb_qk87 : px_Qk hb_cl (hb_m87, 8, hb_q87) := px_Qk_mk (ci := 7) rfl (by decide +kernel) rfl
theorem hb_qk88 : px_Qk hb_cl (hb_m88, 8, hb_q88) := px_Qk_mk (ci := 7) rfl (by decide +kernel) rfl
theorem hb_qk89 : px_Qk hb_cl (hb_m89, 8, hb_q89) := px_Qk_mk (ci := 7) rfl (by decide +kernel) rfl
theorem hb_qk90 : px_Qk hb_cl (hb_m90, 8, hb_q90) := px_Qk_mk (ci := 7) rfl (by decide +kernel) rfl
theorem hb_qk91 : px_Qk hb_cl (hb_m91, 8, hb_q91) := px_Qk_mk (ci := 7) rfl (by decide +kernel) rfl
theorem hb_qk92 : px_Qk hb_cl (hb_m92, 8, hb_q92) := px_Qk_mk (ci := 7) rfl (by decide +kernel) rfl
theorem hb_qk93 : px_Qk hb_cl (hb_m93, 8, hb_q93) := px_Qk_mk (ci := 7) rfl (by decide +kernel) rfl
theorem hb_qk94 : px_Qk hb_cl (hb_m94, 8, hb_q94) := px_Qk_mk (ci := 7) rfl (by decide +kernel) rfl
theorem hb_qk95 : px_Qk hb_cl (hb_m95, 8, hb_q95) := px_Qk_mk (ci := 7) rfl (by decide +kernel) rfl
theorem hb_qk96 : px_Qk hb_cl (hb_m96, 8, hb_q96) := px_Qk_mk (ci := 7) rfl (by decide +kernel) rfl
theorem hb_qk97 : px_Qk hb_cl (hb_m97, 9, hb_q97) := px_Qk_mk (ci := 8) rfl (by decide +kernel) rfl
theorem hb_qk98 : px_Qk hb_cl (hb_m98, 9, hb_q98) := px_Qk_mk (ci := 8) rfl (by decide +kernel) rfl
theorem hb_qk99 : px_Qk hb_cl (hb_m99, 9, hb_q99) := px_Qk_mk (ci := 8) rfl (by decide +kernel) rfl
theorem hb_qk100 : px_Qk hb_cl (hb_m100, 9, hb_q100) := px_Qk_mk (ci := 8) rfl (by decide +kernel) rfl
theorem hb_qk101 : px_Qk hb_cl (hb_m101, 9, hb_q101) := px_Qk_mk (ci := 8) rfl (by decide +kernel) rfl
theorem hb_qk102 : px_Qk hb_cl (hb_m102, 9, hb_q102) := px_Qk_mk (ci := 8) rfl (by decide +kernel) rfl
theorem hb_qk103 : px_Qk hb_cl (hb_m103, 9, hb_q103) := px_Qk_mk (ci := 8) rfl (by decide +kernel) rfl
theorem hb_qk104 : px_Qk hb_cl (hb_m104, 9, hb_q104) := px_Qk_mk (ci := 8) rfl (by decide +kernel) rfl
theorem hb_qk105 : px_Qk hb_cl (hb_m105, 9, hb_q105) := px_Qk_mk (ci := 8) rfl (by decide +kernel) rfl
theorem hb_qk106 : px_Qk hb_cl (hb_m106, 9, hb_q106) := px_Qk_mk (ci := 8) rfl (by decide +kernel) rfl
theorem hb_qk107 : px_Qk hb_cl (hb_m107, 9, hb_q107) := px_Qk_mk (ci := 8) rfl (by decide +kernel) rfl
theorem hb_qk108 : px_Qk hb_cl (hb_m108, 10, hb_q108) := px_Qk_mk (ci := 9) rfl (by decide +kernel) rfl
theorem hb_qk109 : px_Qk hb_cl (hb_m109, 10, hb_q109) := px_Qk_mk (ci := 9) rfl (by decide +kernel) rfl
theorem hb_qk110 : px_Qk hb_cl (hb_m110, 10, hb_q110) := px_Qk_mk (ci := 9) rfl (by decide +kernel) rfl
theorem hb_qk111 : px_Qk hb_cl (hb_m111, 10, hb_q111) := px_Qk_mk (ci := 9) rfl (by decide +kernel) rfl
theorem hb_qk112 : px_Qk hb_cl (hb_m112, 10, hb_q112) := px_Qk_mk (ci := 9) rfl (by decide +kernel) rfl
theorem hb_qk113 : px_Qk hb_cl (hb_m113, 10, hb_q113) := px_Qk_mk (ci := 9) rfl (by decide +kernel) rfl
theorem hb_qk114 : px_Qk hb_cl (hb_m114, 11, hb_q114) := px_Qk_mk (ci := 10) rfl (by decide +kernel) rfl
theorem hb_qk115 : px_Qk hb_cl (hb_m115, 11, hb_q115) := px_Qk_mk (ci := 10) rfl (by decide +kernel) rfl
theorem hb_qk116 : px_Qk hb_cl (hb_m116, 11, hb_q116) := px_Qk_mk (ci := 10) rfl (by decide +kernel) rfl
theorem hb_qk117 : px_Qk hb_cl (hb_m117, 11, hb_q117) := px_Qk_mk (ci := 10) rfl (by decide +kernel) rfl
theorem hb_qk118 : px_Qk hb_cl (hb_m118, 11, hb_q118) := px_Qk_mk (ci := 10) rfl (by decide +kernel) rfl
theorem hb_qk119 : px_Qk hb_cl (hb_m119, 11, hb_q119) := px_Qk_mk (ci := 10) rfl (by decide +kernel) rfl
theorem hb_qk120 : px_Qk hb_cl (hb_m120, 12, hb_q120) := px_Qk_mk (ci := 11) rfl (by decide +kernel) rfl
theorem hb_qk121 : px_Qk hb_cl (hb_m121, 12, hb_q121) := px_Qk_mk (ci := 11) rfl (by decide +kernel) rfl
theorem hb_qk122 : px_Qk hb_cl (hb_m122, 12, hb_q122) := px_Qk_mk (ci := 11) rfl (by decide +kernel) rfl
theorem hb_qk123 : px_Qk hb_cl (hb_m123, 12, hb_q123) := px_Qk_mk (ci := 11) rfl (by decide +kernel) rfl
theorem hb_qk124 : px_Qk hb_cl (hb_m124, 12, hb_q124) := px_Qk_mk (ci := 11) rfl (by decide +kernel) rfl
theorem hb_qk125 : px_Qk hb_cl (hb_m125, 12, hb_q125) := px_Qk_mk (ci := 11) rfl (by decide +kernel) rfl
theorem hb_qk126 : px_Qk hb_cl (hb_m126, 12, hb_q126) := px_Qk_mk (ci := 11) rfl (by decide +kernel) rfl
theorem hb_qk127 : px_Qk hb_cl (hb_m127, 12, hb_q127) := px_Qk_mk (ci := 11) rfl (by decide +kernel) rfl
theorem hb_qk128 : px_Qk hb_cl (hb_m128, 12, hb_q128) := px_Qk_mk (ci := 11) rfl (by decide +kernel) rfl
theorem hb_qk129 : px_Qk hb_cl (hb_m129, 12, hb_q129) := px_Qk_mk (ci := 11) rfl (by decide +kernel) rfl
theorem hb_qk130 : px_Qk hb_cl (hb_m130, 12, hb_q130) := px_Qk_mk (ci := 11) rfl (by decide +kernel) rfl
theorem hb_qk131 : px_Qk hb_cl (hb_m131, 12, hb_q131) := px_Qk_mk (ci := 11) rfl (by decide +kernel) rfl
theorem hb_qk132 : px_Qk hb_cl (hb_m132, 12, hb_q132) := px_Qk_mk (ci := 11) rfl (by decide +kernel) rfl
theorem hb_qk133 : px_Qk hb_cl (hb_m133, 12, hb_q133) := px_Qk_mk (ci := 11) rfl (by decide +kernel) rfl
theorem hb_qk134 : px_Qk hb_cl (hb_m134, 12, hb_q134) := px_Qk_mk (ci := 11) rfl (by decide +kernel) rfl
theorem hb_qk135 : px_Qk hb_cl (hb_m135, 12, hb_q135) := px_Qk_mk (ci := 11) rfl (by decide +kernel) rfl
theorem hb_qk136 : px_Qk hb_cl (hb_m136, 12, hb_q136) := px_Qk_mk (ci := 11) rfl (by decide +kernel) rfl
theorem hb_qk137 : px_Qk hb_cl (hb_m137, 12, hb_q137) := px_Qk_mk (ci := 11) rfl (by decide +kernel) rfl
theorem hb_qk138 : px_Qk hb_cl (hb_m138, 12, hb_q138) := px_Qk_mk (ci := 11) rfl (by decide +kernel) rfl
theorem hb_qk139 : px_Qk hb_cl (hb_m139, 12, hb_q139) := px_Qk_mk (ci := 11) rfl (by decide +kernel) rfl
theorem hb_qk140 : px_Qk hb_cl (hb_m140, 12, hb_q140) := px_Qk_mk (ci := 11) rfl (by decide +kernel) rfl
theorem hb_qk141 : px_Qk hb_cl (hb_m141, 12, hb_q141) := px_Qk_mk (ci := 11) rfl (by decide +kernel) rfl
theorem hb_qk142 : px_Qk hb_cl (hb_m142, 12, hb_q142) := px_Qk_mk (ci := 11) rfl (by decide +kernel) rfl
theorem hb_qk143 : px_Qk hb_cl (hb_m143, 12, hb_q143) := px_Qk_mk (ci := 11) rfl (by decide +kernel) rfl
theorem hb_qk144 : px_Qk hb_cl (hb_m144, 12, hb_q144) := px_Qk_mk (ci := 11) rfl (by decide +kernel) rfl
theorem hb_qk145 : px_Qk hb_cl (hb_m145, 12, hb_q145) := px_Qk_mk (ci := 11) rfl (by decide +kernel) rfl
theorem hb_qk146 : px_Qk hb_cl (hb_m146, 12, hb_q146) := px_Qk_mk (ci := 11) rfl (by decide +kernel) rfl
theorem hb_qk147 : px_Qk hb_cl (hb_m147, 12, hb_q147) := px_Qk_mk (ci := 11) rfl (by decide +kernel) rfl
theorem hb_qk148 : px_Qk hb_cl (hb_m148, 12, hb_q148) := px_Qk_mk (ci := 11) rfl (by decide +kernel) rfl
theorem hb_qk149 : px_Qk hb_cl (hb_m149, 12, hb_q149) := px_Qk_mk (ci := 11) rfl (by decide +kernel) rfl
theorem hb_qk150 : px_Qk hb_cl (hb_m150, 12, hb_q150) := px_Qk_mk (ci := 11) rfl (by decide +kernel) rfl
theorem hb_qk151 : px_Qk hb_cl (hb_m151, 12, hb_q151) := px_Qk_mk (ci := 11) rfl (by decide +kernel) rfl
theorem hb_qk152 : px_Qk hb_cl (hb_m152, 12, hb_q152) := px_Qk_mk (ci := 11) rfl (by decide +kernel) rfl
theorem hb_qk153 : px_Qk hb_cl (hb_m153, 12, hb_q153) := px_Qk_mk (ci := 11) rfl (by decide +kernel) rfl
theorem hb_qk154 : px_Qk hb_cl (hb_m154, 12, hb_q154) := px_Qk_mk (ci := 11) rfl (by decide +kernel) rfl
theorem hb_qk155 : px_Qk hb_cl (hb_m155, 12, hb_q155) := px_Qk_mk (ci := 11) rfl (by decide +kernel) rfl
theorem hb_qk156 : px_Qk hb_cl (hb_m156, 12, hb_q156) := px_Qk_mk (ci := 11) rfl (by decide +kernel) rfl
theorem hb_qk157 : px_Qk hb_cl (hb_m157, 12, hb_q157) := px_Qk_mk (ci := 11) rfl (by decide +kernel) rfl
theorem hb_qk158 : px_Qk hb_cl (hb_m158, 12, hb_q158) := px_Qk_mk (ci := 11) rfl (by decide +kernel) rfl
theorem hb_qk159 : px_Qk hb_cl (hb_m159, 12, hb_q159) := px_Qk_mk (ci := 11) rfl (by decide +kernel) rfl
theorem hb_qk160 : px_Qk hb_cl (hb_m160, 12, hb_q160) := px_Qk_mk (ci := 11) rfl (by decide +kernel) rfl
theorem hb_qk161 : px_Qk hb_cl (hb_m161, 12, hb_q161) := px_Qk_mk (ci := 11) rfl (by decide +kernel) rfl
theorem hb_qk162 : px_Qk hb_cl (hb_m162, 12, hb_q162) := px_Qk_mk (ci := 11) rfl (by decide +kernel) rfl
theorem hb_qk163 : px_Qk hb_cl (hb_m163, 12, hb_q163) := px_Qk_mk (ci := 11) rfl (by decide +kernel) rfl
theorem hb_qk164 : px_Qk hb_cl (hb_m164, 12, hb_q164) := px_Qk_mk (ci := 11) rfl (by decide +kernel) rfl
theorem hb_qk165 : px_Qk hb_cl (hb_m165, 12, hb_q165) := px_Qk_mk (ci := 11) rfl (by decide +kernel) rfl
theorem hb_qk166 : px_Qk hb_cl (hb_m166, 12, hb_q166) := px_Qk_mk (ci := 11) rfl (by decide +kernel) rfl
theorem hb_qk167 : px_Qk hb_cl (hb_m167, 12, hb_q167) := px_Qk_mk (ci := 11) rfl (by decide +kernel) rfl
theorem hb_qk168 : px_Qk hb_cl (hb_m168, 12, hb_q168) := px_Qk_mk (ci := 11) rfl (by decide +kernel) rfl
theorem hb_qk169 : px_Qk hb_cl (hb_m169, 12, hb_q169) := px_Qk_mk (ci := 11) rfl (by decide +kernel) rfl
theorem hb_qk170 : px_Qk hb_cl (hb_m170, 12, hb_q170) := px_Qk_mk (ci := 11) rfl (by decide +kernel) rfl
theorem hb_qk171 : px_Qk hb_cl (hb_m171, 12, hb_q171) := px_Qk_mk (ci := 11) rfl (by decide +kernel) rfl
theorem hb_qk172 : px_Qk hb_cl (hb_m172, 12, hb_q172) := px_Qk_mk (ci := 11) rfl (by decide +kernel) rfl
theorem hb_qk173 : px_Qk hb_cl (hb_m173, 12, hb_q173) := px_Qk_mk (ci := 11) rfl (by decide +kernel) rfl
theorem hb_qk174 : px_Qk hb_cl (hb_m174, 12, hb_q174) := px_Qk_mk (ci := 11) rfl (by decide +kernel) rfl
theorem hb_qk175 : px_Qk hb_cl (hb_m175, 12, hb_q175) := px_Qk_mk (ci := 11) rfl (by decide +kernel) rfl
theorem hb_qk176 : px_Qk hb_cl (hb_m176, 12, hb_q176) := px_Qk_mk (ci := 11) rfl (by decide +kernel) rfl
theorem hb_qk177 : px_Qk hb_cl (hb_m177, 12, hb_q177) := px_Qk_mk (ci := 11) rfl (by decide +kernel) rfl
theorem hb_qk178 : px_Qk hb_cl (hb_m178, 12, hb_q178) := px_Qk_mk (ci := 11) rfl (by decide +kernel) rfl
theorem hb_qk179 : px_Qk hb_cl (hb_m179, 12, hb_q179) := px_Qk_mk (ci := 11) rfl (by decide +kernel) rfl
theorem hb_qk180 : px_Qk hb_cl (hb_m180, 12, hb_q180) := px_Qk_mk (ci := 11) rfl (by decide +kernel) rfl
theorem hb_qk181 : px_Qk hb_cl (hb_m181, 13, hb_q181) := px_Qk_mk (ci := 12) rfl (by decide +kernel) rfl
theorem hb_qk182 : px_Qk hb_cl (hb_m182, 13, hb_q182) := px_Qk_mk (ci := 12) rfl (by decide +kernel) rfl
theorem hb_qk183 : px_Qk hb_cl (hb_m183, 13, hb_q183) := px_Qk_mk (ci := 12) rfl (by decide +kernel) rfl
theorem hb_qk184 : px_Qk hb_cl (hb_m184, 13, hb_q184) := px_Qk_mk (ci := 12) rfl (by decide +kernel) rfl
theorem hb_qk185 : px_Qk hb_cl (hb_m185, 13, hb_q185) := px_Qk_mk (ci := 12) rfl (by decide +kernel) rfl
theorem hb_qk186 : px_Qk hb_cl (hb_m186, 13, hb_q186) := px_Qk_mk (ci := 12) rfl (by decide +kernel) rfl
theorem hb_qk187 : px_Qk hb_cl (hb_m187, 13, hb_q187) := px_Qk_mk (ci := 12) rfl (by decide +kernel) rfl
theorem hb_qk188 : px_Qk hb_cl (hb_m188, 13, hb_q188) := px_Qk_mk (ci := 12) rfl (by decide +kernel) rfl
theorem hb_qk189 : px_Qk hb_cl (hb_m189, 13, hb_q189) := px_Qk_mk (ci := 12) rfl (by decide +kernel) rfl
theorem hb_qk190 : px_Qk hb_cl (hb_m190, 13, hb_q190) := px_Qk_mk (ci := 12) rfl (by decide +kernel) rfl
theorem hb_qk191 : px_Qk hb_cl (hb_m191, 13, hb_q191) := px_Qk_mk (ci := 12) rfl (by decide +kernel) rfl
theorem hb_qk192 : px_Qk hb_cl (hb_m192, 13, hb_q192) := px_Qk_mk (ci := 12) rfl (by decide +kernel) rfl
theorem hb_qk193 : px_Qk hb_cl (hb_m193, 13, hb_q193) := px_Qk_mk (ci := 12) rfl (by decide +kernel) rfl
theorem hb_qk194 : px_Qk hb_cl (hb_m194, 13, hb_q194) := px_Qk_mk (ci := 12) rfl (by decide +kernel) rfl
theorem hb_qk195 : px_Qk hb_cl (hb_m195, 13, hb_q195) := px_Qk_mk (ci := 12) rfl (by decide +kernel) rfl
theorem hb_qk196 : px_Qk hb_cl (hb_m196, 13, hb_q196) := px_Qk_mk (ci := 12) rfl (by decide +kernel) rfl
theorem hb_qk197 : px_Qk hb_cl (hb_m197, 13, hb_q197) := px_Qk_mk (ci := 12) rfl (by decide +kernel) rfl
theorem hb_qk198 : px_Qk hb_cl (hb_m198, 13, hb_q198) := px_Qk_mk (ci := 12) rfl (by decide +kernel) rfl
theorem hb_qk199 : px_Qk hb_cl (hb_m199, 13, hb_q199) := px_Qk_mk (ci := 12) rfl (by decide +kernel) rfl
theorem hb_qk200 : px_Qk hb_cl (hb_m200, 13, hb_q200) := px_Qk_mk (ci := 12) rfl (by decide +kernel) rfl
theorem hb_qk201 : px_Qk hb_cl (hb_m201, 13, hb_q201) := px_Qk_mk (ci := 12) rfl (by decide +kernel) rfl
theorem hb_qk202 : px_Qk hb_cl (hb_m202, 13, hb_q202) := px_Qk_mk (ci := 12) rfl (by decide +kernel) rfl
theorem hb_qk203 : px_Qk hb_cl (hb_m203, 13, hb_q203) := px_Qk_mk (ci := 12) rfl (by decide +kernel) rfl
theorem hb_qk204 : px_Qk hb_cl (hb_m204, 13, hb_q204) := px_Qk_mk (ci := 12) rfl (by decide +kernel) rfl
theorem hb_qk205 : px_Qk hb_cl (hb_m205, 13, hb_q205) := px_Qk_mk (ci := 12) rfl (by decide +kernel) rfl
theorem hb_qk206 : px_Qk hb_cl (hb_m206, 13, hb_q206) := px_Qk_mk (ci := 12) rfl (by decide +kernel) rfl
theorem hb_qk207 : px_Qk hb_cl (hb_m207, 13, hb_q207) := px_Qk_mk (ci := 12) rfl (by decide +kernel) rfl
theorem hb_qk208 : px_Qk hb_cl (hb_m208, 13, hb_q208) := px_Qk_mk (ci := 12) rfl (by decide +kernel) rfl
theorem hb_qk209 : px_Qk hb_cl (hb_m209, 13, hb_q209) := px_Qk_mk (ci := 12) rfl (by decide +kernel) rfl
theorem hb_qk210 : px_Qk hb_cl (hb_m210, 13, hb_q210) := px_Qk_mk (ci := 12) rfl (by decide +kernel) rfl
theorem hb_qk211 : px_Qk hb_cl (hb_m211, 13, hb_q211) := px_Qk_mk (ci := 12) rfl (by decide +kernel) rfl
theorem hb_qk212 : px_Qk hb_cl (hb_m212, 13, hb_q212) := px_Qk_mk (ci := 12) rfl (by decide +kernel) rfl
theorem hb_qk213 : px_Qk hb_cl (hb_m213, 13, hb_q213) := px_Qk_mk (ci := 12) rfl (by decide +kernel) rfl
theorem hb_qk214 : px_Qk hb_cl (hb_m214, 13, hb_q214) := px_Qk_mk (ci := 12) rfl (by decide +kernel) rfl
theorem hb_qk215 : px_Qk hb_cl (hb_m215, 13, hb_q215) := px_Qk_mk (ci := 12) rfl (by decide +kernel) rfl
theorem hb_qk216 : px_Qk hb_cl (hb_m216, 13, hb_q216) := px_Qk_mk (ci := 12) rfl (by decide +kernel) rfl
theorem hb_qk217 : px_Qk hb_cl (hb_m217, 13, hb_q217) := px_Qk_mk (ci := 12) rfl (by decide +kernel) rfl
theorem hb_qk218 : px_Qk hb_cl (hb_m218, 13, hb_q218) := px_Qk_mk (ci := 12) rfl (by decide +kernel) rfl
theorem hb_qk219 : px_Qk hb_cl (hb_m219, 13, hb_q219) := px_Qk_mk (ci := 12) rfl (by decide +kernel) rfl
theorem hb_qk220 : px_Qk hb_cl (hb_m220, 13, hb_q220) := px_Qk_mk (ci := 12) rfl (by decide +kernel) rfl
theorem hb_qk221 : px_Qk hb_cl (hb_m221, 13, hb_q221) := px_Qk_mk (ci := 12) rfl (by decide +kernel) rfl
theorem hb_qk222 : px_Qk hb_cl (hb_m222, 13, hb_q222) := px_Qk_mk (ci := 12) rfl (by decide +kernel) rfl
theorem hb_qk223 : px_Qk hb_cl (hb_m223, 13, hb_q223) := px_Qk_mk (ci := 12) rfl (by decide +kernel) rfl
theorem hb_qk224 : px_Qk hb_cl (hb_m224, 13, hb_q224) := px_Qk_mk (ci := 12) rfl (by decide +kernel) rfl
theorem hb_qk225 : px_Qk hb_cl (hb_m225, 13, hb_q225) := px_Qk_mk (ci := 12) rfl (by decide +kernel) rfl
theorem hb_qk226 : px_Qk hb_cl (hb_m226, 13, hb_q226) := px_Qk_mk (ci := 12) rfl (by decide +kernel) rfl
theorem hb_qk227 : px_Qk hb_cl (hb_m227, 13, hb_q227) := px_Qk_mk (ci := 12) rfl (by decide +kernel) rfl
theorem hb_qk228 : px_Qk hb_cl (hb_m228, 13, hb_q228) := px_Qk_mk (ci := 12) rfl (by decide +kernel) rfl
theorem hb_qk229 : px_Qk hb_cl (hb_m229, 13, hb_q229) := px_Qk_mk (ci := 12) rfl (by decide +kernel) rfl
theorem hb_qk230 : px_Qk hb_cl (hb_m230, 13, hb_q230) := px_Qk_mk (ci := 12) rfl (by decide +kernel) rfl
theorem hb_qk231 : px_Qk hb_cl (hb_m231, 13, hb_q231) := px_Qk_mk (ci := 12) rfl (by decide +kernel) rfl
theorem hb_qk232 : px_Qk hb_cl (hb_m232, 13, hb_q232) := px_Qk_mk (ci := 12) rfl (by decide +kernel) rfl
theorem hb_qk233 : px_Qk hb_cl (hb_m233, 13, hb_q233) := px_Qk_mk (ci := 12) rfl (by decide +kernel) rfl
theorem hb_qk234 : px_Qk hb_cl (hb_m234, 13, hb_q234) := px_Qk_mk (ci := 12) rfl (by decide +kernel) rfl
theorem hb_qk235 : px_Qk hb_cl (hb_m235, 13, hb_q235) := px_Qk_mk (ci := 12) rfl (by decide +kernel) rfl
theorem hb_qk236 : px_Qk hb_cl (hb_m236, 13, hb_q236) := px_Qk_mk (ci := 12) rfl (by decide +kernel) rfl
theorem hb_qk237 : px_Qk hb_cl (hb_m237, 13, hb_q237) := px_Qk_mk (ci := 12) rfl (by decide +kernel) rfl
theorem hb_qk238 : px_Qk hb_cl (hb_m238, 13, hb_q238) := px_Qk_mk (ci := 12) rfl (by decide +kernel) rfl
theorem hb_qk239 : px_Qk hb_cl (hb_m239, 13, hb_q239) := px_Qk_mk (ci := 12) rfl (by decide +kernel) rfl
theorem hb_qk240 : px_Qk hb_cl (hb_m240, 13, hb_q240) := px_Qk_mk (ci := 12) rfl (by decide +kernel) rfl
theorem hb_qk241 : px_Qk hb_cl (hb_m241, 13, hb_q241) := px_Qk_mk (ci := 12) rfl (by decide +kernel) rfl
theorem hb_qk242 : px_Qk hb_cl (hb_m242, 13, hb_q242) := px_Qk_mk (ci := 12) rfl (by decide +kernel) rfl
theorem hb_qk243 : px_Qk hb_cl (hb_m243, 13, hb_q243) := px_Qk_mk (ci := 12) rfl (by decide +kernel) rfl
theorem hb_qk244 : px_Qk hb_cl (hb_m244, 13, hb_q244) := px_Qk_mk (ci := 12) rfl (by decide +kernel) rfl
theorem hb_qk245 : px_Qk hb_cl (hb_m245, 13, hb_q245) := px_Qk_mk (ci := 12) rfl (by decide +kernel) rfl
theorem hb_qk246 : px_Qk hb_cl (hb_m246, 13, hb_q246) := px_Qk_mk (ci := 12) rfl (by decide +kernel) rfl
theorem hb_qk247 : px_Qk hb_cl (hb_m247, 13, hb_q247) := px_Qk_mk (ci := 12) rfl (by decide +kernel) rfl
theorem hb_qk248 : px_Qk hb_cl (hb_m248, 13, hb_q248) := px_Qk_mk (ci := 12) rfl (by decide +kernel) rfl
theorem hb_qk249 : px_Qk hb_cl (hb_m249, 13, hb_q249) := px_Qk_mk (ci := 12) rfl (by decide +kernel) rfl
theorem hb_qk250 : px_Qk hb_cl (hb_m250, 13, hb_q250) := px_Qk_mk (ci := 12) rfl (by decide +kernel) rfl
theorem hb_qk251 : px_Qk hb_cl (hb_m251, 13, hb_q251) := px_Qk_mk (ci := 12) rfl (by decide +kernel) rfl
theorem hb_qk252 : px_Qk hb_cl (hb_m252, 13, hb_q252) := px_Qk_mk (ci := 12) rfl (by decide +kernel) rfl
theorem hb_qk253 : px_Qk hb_cl (hb_m253, 13, hb_q253) := px_Qk_mk (ci := 12) rfl (by decide +kernel) rfl
theorem hb_qk254 : px_Qk hb_cl (hb_m254, 13, hb_q254) := px_Qk_mk (ci := 12) rfl (by decide +kernel) rfl
theorem hb_qk255 : px_Qk hb_cl (hb_m255, 13, hb_q255) := px_Qk_mk (ci := 12) rfl (by decide +kernel) rfl
theorem hb_qk256 : px_Qk hb_cl (hb_m256, 13, hb_q256) := px_Qk_mk (ci := 12) rfl (by decide +kernel) rfl
theorem hb_qk257 : px_Qk hb_cl (hb_m257, 13, hb_q257) := px_Qk_mk (ci := 12) rfl (by decide +kernel) rfl
theorem hb_qk258 : px_Qk hb_cl (hb_m258, 13, hb_q258) := px_Qk_mk (ci := 12) rfl (by decide +kernel) rfl
theorem hb_qk259 : px_Qk hb_cl (hb_m259, 13, hb_q259) := px_Qk_mk (ci := 12) rfl (by decide +kernel) rfl
theorem hb_qk260 : px_Qk hb_cl (hb_m260, 13, hb_q260) := px_Qk_mk (ci := 12) rfl (by decide +kernel) rfl
theorem hb_qk261 : px_Qk hb_cl (hb_m261, 13, hb_q261) := px_Qk_mk (ci := 12) rfl (by decide +kernel) rfl
theorem hb_qk262 : px_Qk hb_cl (hb_m262, 13, hb_q262) := px_Qk_mk (ci := 12) rfl (by decide +kernel) rfl
theorem hb_qk263 : px_Qk hb_cl (hb_m263, 13, hb_q263) := px_Qk_mk (ci := 12) rfl (by decide +kernel) rfl
theorem hb_qk264 : px_Qk hb_cl (hb_m264, 13, hb_q264) := px_Qk_mk (ci := 12) rfl (by decide +kernel) rfl
theorem hb_qk265 : px_Qk hb_cl (hb_m265, 13, hb_q265) := px_Qk_mk (ci := 12) rfl (by decide +kernel) rfl
theorem hb_qk266 : px_Qk hb_cl (hb_m266, 13, hb_q266) := px_Qk_mk (ci := 12) rfl (by decide +kernel) rfl
theorem hb_qk267 : px_Qk hb_cl (hb_m267, 13, hb_q267) := px_Qk_mk (ci := 12) rfl (by decide +kernel) rfl
theorem hb_qk268 : px_Qk hb_cl (hb_m268, 13, hb_q268) := px_Qk_mk (ci := 12) rfl (by decide +kernel) rfl
theorem hb_qk269 : px_Qk hb_cl (hb_m269, 13, hb_q269) := px_Qk_mk (ci := 12) rfl (by decide +kernel) rfl
theorem hb_qk270 : px_Qk hb_cl (hb_m270, 13, hb_q270) := px_Qk_mk (ci := 12) rfl (by decide +kernel) rfl
theorem hb_qk271 : px_Qk hb_cl (hb_m271, 13, hb_q271) := px_Qk_mk (ci := 12) rfl (by decide +kernel) rfl
theorem hb_qk272 : px_Qk hb_cl (hb_m272, 13, hb_q272) := px_Qk_mk (ci := 12) rfl (by decide +kernel) rfl
theorem hb_qk273 : px_Qk hb_cl (hb_m273, 13, hb_q273) := px_Qk_mk (ci := 12) rfl (by decide +kernel) rfl
theorem hb_qk274 : px_Qk hb_cl (hb_m274, 13, hb_q274) := px_Qk_mk (ci := 12) rfl (by decide +kernel) rfl
theorem hb_qk275 : px_Qk hb_cl (hb_m275, 13, hb_q275) := px_Qk_mk (ci := 12) rfl (by decide +kernel) rfl
theorem hb_qk276 : px_Qk hb_cl (hb_m276, 13, hb_q276) := px_Qk_mk (ci := 12) rfl (by decide +kernel) rfl
theorem hb_qk277 : px_Qk hb_cl (hb_m277, 13, hb_q277) := px_Qk_mk (ci := 12) rfl (by decide +kernel) rfl
theorem hb_qk278 : px_Qk hb_cl (hb_m278, 13, hb_q278) := px_Qk_mk (ci := 12) rfl (by decide +kernel) rfl
theorem hb_qk279 : px_Qk hb_cl (hb_m279, 13, hb_q279) := px_Qk_mk (ci := 12) rfl (by decide +kernel) rfl
theorem hb_qk280 : px_Qk hb_cl (hb_m280, 13, hb_q280) := px_Qk_mk (ci := 12) rfl (by decide +kernel) rfl
theorem hb_qk281 : px_Qk hb_cl (hb_m281, 13, hb_q281) := px_Qk_mk (ci := 12) rfl (by decide +kernel) rfl
theorem hb_qk282 : px_Qk hb_cl (hb_m282, 13, hb_q282) := px_Qk_mk (ci := 12) rfl (by decide +kernel) rfl
theorem hb_qk283 : px_Qk hb_cl (hb_m283, 13, hb_q283) := px_Qk_mk (ci := 12) rfl (by decide +kernel) rfl
theorem hb_qk284 : px_Qk hb_cl (hb_m284, 13, hb_q284) := px_Qk_mk (ci := 12) rfl (by decide +kernel) rfl
theorem hb_qk285 : px_Qk hb_cl (hb_m285, 13, hb_q285) := px_Qk_mk (ci := 12) rfl (by decide +kernel) rfl
theorem hb_qk286 : px_Qk hb_cl (hb_m286, 13, hb_q286) := px_Qk_mk (ci := 12) rfl (by decide +kernel) rfl
theorem hb_qk287 : px_Qk hb_cl (hb_m287, 13, hb_q287) := px_Qk_mk (ci := 12) rfl (by decide +kernel) rfl
theorem hb_qk288 : px_Qk hb_cl (hb_m288, 13, hb_q288) := px_Qk_mk (ci := 12) rfl (by decide +kernel) rfl
theorem hb_qk289 : px_Qk hb_cl (hb_m289, 13, hb_q289) := px_Qk_mk (ci := 12) rfl (by decide +kernel) rfl
theorem hb_qk290 : px_Qk hb_cl (hb_m290, 13, hb_q290) := px_Qk_mk (ci := 12) rfl (by decide +kernel) rfl
theorem hb_qk291 : px_Qk hb_cl (hb_m291, 13, hb_q291) := px_Qk_mk (ci := 12) rfl (by decide +kernel) rfl
theorem hb_qk292 : px_Qk hb_cl (hb_m292, 13, hb_q292) := px_Qk_mk (ci := 12) rfl (by decide +kernel) rfl
theorem hb_qk293 : px_Qk hb_cl (hb_m293, 13, hb_q293) := px_Qk_mk (ci := 12) rfl (by decide +kernel) rfl
theorem hb_qk294 : px_Qk hb_cl (hb_m294, 0, hb_q294) := px_Qk_m0 rfl (by decide +kernel)
theorem hb_qk295 : px_Qk hb_cl (hb_m295, 0, hb_q295) := px_Qk_m0 rfl (by decide +kernel)
theorem hb_qk296 : px_Qk hb_cl (hb_m296, 0, hb_q296) := px_Qk_m0 rfl (by decide +kernel)
theorem hb_qk297 : px_Qk hb_cl (hb_m297, 0, hb_q297) := px_Qk_m0 rfl (by decide +kernel)
theorem hb_qk298 : px_Qk hb_cl (hb_m298, 0, hb_q298) := px_Qk_m0 rfl (by decide +kernel)
theorem hb_qk299 : px_Qk hb_cl (hb_m299, 0, hb_q299) := px_Qk_m0 rfl (by decide +kernel)
theorem hb_qk300 : px_Qk hb_cl (hb_m300, 0, hb_q300) := px_Qk_m0 rfl (by decide +kernel)
theorem hb_qk301 : px_Qk hb_cl (hb_m301, 0, hb_q301) := px_Qk_m0 rfl (by decide +kernel)
theorem hb_qK0 : ∀ Q ∈ hb_Q0, px_Qk hb_cl Q := List.forall_mem_cons.mpr ⟨hb_qk0, List.forall_mem_cons.mpr ⟨hb_qk1, List.forall_mem_cons.mpr ⟨hb_qk2, List.forall_mem_cons.mpr ⟨hb_qk3, List.forall_mem_cons.mpr ⟨hb_qk4, List.forall_mem_cons.mpr ⟨hb_qk5, List.forall_mem_cons.mpr ⟨hb_qk6, List.forall_mem_cons.mpr ⟨hb_qk7, List.forall_mem_cons.mpr ⟨hb_qk8, List.forall_mem_cons.mpr ⟨hb_qk9, List.forall_mem_cons.mpr ⟨hb_qk10, List.forall_mem_cons.mpr ⟨hb_qk11, List.forall_mem_cons.mpr ⟨hb_qk12, List.forall_mem_cons.mpr ⟨hb_qk13, List.forall_mem_cons.mpr ⟨hb_qk14, List.forall_mem_cons.mpr ⟨hb_qk15, List.forall_mem_cons.mpr ⟨hb_qk16, List.forall_mem_cons.mpr ⟨hb_qk17, List.forall_mem_cons.mpr ⟨hb_qk18, List.forall_mem_cons.mpr ⟨hb_qk19, fun _ h => absurd h List.not_mem_nil⟩⟩⟩⟩⟩⟩⟩⟩⟩⟩⟩⟩⟩⟩⟩⟩⟩⟩⟩⟩
theorem hb_qK1 : ∀ Q ∈ hb_Q1, px_Qk hb_cl Q := List.forall_mem_cons.mpr ⟨hb_qk20, List.forall_mem_cons.mpr ⟨hb_qk21, List.forall_mem_cons.mpr ⟨hb_qk22, List.forall_mem_cons.mpr ⟨hb_qk23, List.forall_mem_cons.mpr ⟨hb_qk24, List.forall_mem_cons.mpr ⟨hb_qk25, List.forall_mem_cons.mpr ⟨hb_qk26, List.forall_mem_cons.mpr ⟨hb_qk27, List.forall_mem_cons.mpr ⟨hb_qk28, List.forall_mem_cons.mpr ⟨hb_qk29, List.forall_mem_cons.mpr ⟨hb_qk30, List.forall_mem_cons.mpr ⟨hb_qk31, List.forall_mem_cons.mpr ⟨hb_qk32, List.forall_mem_cons.mpr ⟨hb_qk33, List.forall_mem_cons.mpr ⟨hb_qk34, List.forall_mem_cons.mpr ⟨hb_qk35, List.forall_mem_cons.mpr ⟨hb_qk36, List.forall_mem_cons.mpr ⟨hb_qk37, List.forall_mem_cons.mpr ⟨hb_qk38, List.forall_mem_cons.mpr ⟨hb_qk39, fun _ h => absurd h List.not_mem_nil⟩⟩⟩⟩⟩⟩⟩⟩⟩⟩⟩⟩⟩⟩⟩⟩⟩⟩⟩⟩
theorem hb_qK2 : ∀ Q ∈ hb_Q2, px_Qk hb_cl Q := List.forall_mem_cons.mpr ⟨hb_qk40, List.forall_mem_cons.mpr ⟨hb_qk41, List.forall_mem_cons.mpr ⟨hb_qk42, List.forall_mem_cons.mpr ⟨hb_qk43, List.forall_mem_cons.mpr ⟨hb_qk44, List.forall_mem_cons.mpr ⟨hb_qk45, List.forall_mem_cons.mpr ⟨hb_qk46, List.forall_mem_cons.mpr ⟨hb_qk47, List.forall_mem_cons.mpr ⟨hb_qk48, List.forall_mem_cons.mpr ⟨hb_qk49, List.forall_mem_cons.mpr ⟨hb_qk50, List.forall_mem_cons.mpr ⟨hb_qk51, List.forall_mem_cons.mpr ⟨hb_qk52, List.forall_mem_cons.mpr ⟨hb_qk53, List.forall_mem_cons.mpr ⟨hb_qk54, List.forall_mem_cons.mpr ⟨hb_qk55, List.forall_mem_cons.mpr ⟨hb_qk56, List.forall_mem_cons.mpr ⟨hb_qk57, List.forall_mem_cons.mpr ⟨hb_qk58, List.forall_mem_cons.mpr ⟨hb_qk59, fun _ h => absurd h List.not_mem_nil⟩⟩⟩⟩⟩⟩⟩⟩⟩⟩⟩⟩⟩⟩⟩⟩⟩⟩⟩⟩
theorem hb_qK3 : ∀ Q ∈ hb_Q3, px_Qk hb_cl Q := List.forall_mem_cons.mpr ⟨hb_qk60, List.forall_mem_cons.mpr ⟨hb_qk61, List.forall_mem_cons.mpr ⟨hb_qk62, List.forall_mem_cons.mpr ⟨hb_qk63, List.forall_mem_cons.mpr ⟨hb_qk64, List.forall_mem_cons.mpr ⟨hb_qk65, List.forall_mem_cons.mpr ⟨hb_qk66, List.forall_mem_cons.mpr ⟨hb_qk67, List.forall_mem_cons.mpr ⟨hb_qk68, List.forall_mem_cons.mpr ⟨hb_qk69, List.forall_mem_cons.mpr ⟨hb_qk70, List.forall_mem_cons.mpr ⟨hb_qk71, List.forall_mem_cons.mpr ⟨hb_qk72, List.forall_mem_cons.mpr ⟨hb_qk73, List.forall_mem_cons.mpr ⟨hb_qk74, List.forall_mem_cons.mpr ⟨hb_qk75, List.forall_mem_cons.mpr ⟨hb_qk76, List.forall_mem_cons.mpr ⟨hb_qk77, List.forall_mem_cons.mpr ⟨hb_qk78, List.forall_mem_cons.mpr ⟨hb_qk79, fun _ h => absurd h List.not_mem_nil⟩⟩⟩⟩⟩⟩⟩⟩⟩⟩⟩⟩⟩⟩⟩⟩⟩⟩⟩⟩
theorem hb_qK4 : ∀ Q ∈ hb_Q4, px_Qk hb_cl Q := List.forall_mem_cons.mpr ⟨hb_qk80, List.forall_mem_cons.mpr ⟨hb_qk81, List.forall_mem_cons.mpr ⟨hb_qk82, List.forall_mem_cons.mpr ⟨hb_qk83, List.forall_mem_cons.mpr ⟨hb_qk84, List.forall_mem_cons.mpr ⟨hb_qk85, List.forall_mem_cons.mpr ⟨hb_qk86, List.forall_mem_cons.mpr ⟨hb_qk87, List.forall_mem_cons.mpr ⟨hb_qk88, List.forall_mem_cons.mpr ⟨hb_qk89, List.forall_mem_cons.mpr ⟨hb_qk90, List.forall_mem_cons.mpr ⟨hb_qk91, List.forall_mem_cons.mpr ⟨hb_qk92, List.forall_mem_cons.mpr ⟨hb_qk93, List.forall_mem_cons.mpr ⟨hb_qk94, List.forall_mem_cons.mpr ⟨hb_qk95, List.forall_mem_cons.mpr ⟨hb_qk96, List.forall_mem_cons.mpr ⟨hb_qk97, List.forall_mem_cons.mpr ⟨hb_qk98, List.forall_mem_cons.mpr ⟨hb_qk99, fun _ h => absurd h List.not_mem_nil⟩⟩⟩⟩⟩⟩⟩⟩⟩⟩⟩⟩⟩⟩⟩⟩⟩⟩⟩⟩
theorem hb_qK5 : ∀ Q ∈ hb_Q5, px_Qk hb_cl Q := List.forall_mem_cons.mpr ⟨hb_qk100, List.forall_mem_cons.mpr ⟨hb_qk101, List.forall_mem_cons.mpr ⟨hb_qk102, List.forall_mem_cons.mpr ⟨hb_qk103, List.forall_mem_cons.mpr ⟨hb_qk104, List.forall_mem_cons.mpr ⟨hb_qk105, List.forall_mem_cons.mpr ⟨hb_qk106, List.forall_mem_cons.mpr ⟨hb_qk107, List.forall_mem_cons.mpr ⟨hb_qk108, List.forall_mem_cons.mpr ⟨hb_qk109, List.forall_mem_cons.mpr ⟨hb_qk110, List.forall_mem_cons.mpr ⟨hb_qk111, List.forall_mem_cons.mpr ⟨hb_qk112, List.forall_mem_cons.mpr ⟨hb_qk113, List.forall_mem_cons.mpr ⟨hb_qk114, List.forall_mem_cons.mpr ⟨hb_qk115, List.forall_mem_cons.mpr ⟨hb_qk116, List.forall_mem_cons.mpr ⟨hb_qk117, List.forall_mem_cons.mpr ⟨hb_qk118, List.forall_mem_cons.mpr ⟨hb_qk119, fun _ h => absurd h List.not_mem_nil⟩⟩⟩⟩⟩⟩⟩⟩⟩⟩⟩⟩⟩⟩⟩⟩⟩⟩⟩⟩
theorem hb_qK6 : ∀ Q ∈ hb_Q6, px_Qk hb_cl Q := List.forall_mem_cons.mpr ⟨hb_qk120, List.forall_mem_cons.mpr ⟨hb_qk121, List.forall_mem_cons.mpr ⟨hb_qk122, List.forall_mem_cons.mpr ⟨hb_qk123, List.forall_mem_cons.mpr ⟨hb_qk124, List.forall_mem_cons.mpr ⟨hb_qk125, List.forall_mem_cons.mpr ⟨hb_qk126, List.forall_mem_cons.mpr ⟨hb_qk127, List.forall_mem_cons.mpr ⟨hb_qk128, List.forall_mem_cons.mpr ⟨hb_qk129, List.forall_mem_cons.mpr ⟨hb_qk130, List.forall_mem_cons.mpr ⟨hb_qk131, List.forall_mem_cons.mpr ⟨hb_qk132, List.forall_mem_cons.mpr ⟨hb_qk133, List.forall_mem_cons.mpr ⟨hb_qk134, List.forall_mem_cons.mpr ⟨hb_qk135, List.forall_mem_cons.mpr ⟨hb_qk136, List.forall_mem_cons.mpr ⟨hb_qk137, List.forall_mem_cons.mpr ⟨hb_qk138, List.forall_mem_cons.mpr ⟨hb_qk139, fun _ h => absurd h List.not_mem_nil⟩⟩⟩⟩⟩⟩⟩⟩⟩⟩⟩⟩⟩⟩⟩⟩⟩⟩⟩⟩
theorem hb_qK7 : ∀ Q ∈ hb_Q7, px_Qk hb_cl Q := List.forall_mem_cons.mpr ⟨hb_qk140, List.forall_mem_cons.mpr ⟨hb_qk141, List.forall_mem_cons.mpr ⟨hb_qk142, List.forall_mem_cons.mpr ⟨hb_qk143, List.forall_mem_cons.mpr ⟨hb_qk144, List.forall_mem_cons.mpr ⟨hb_qk145, List.forall_mem_cons.mpr ⟨hb_qk146, List.forall_mem_cons.mpr ⟨hb_qk147, List.forall_mem_cons.mpr ⟨hb_qk148, List.forall_mem_cons.mpr ⟨hb_qk149, List.forall_mem_cons.mpr ⟨hb_qk150, List.forall_mem_cons.mpr ⟨hb_qk151, List.forall_mem_cons.mpr ⟨hb_qk152, List.forall_mem_cons.mpr ⟨hb_qk153, List.forall_mem_cons.mpr ⟨hb_qk154, List.forall_mem_cons.mpr ⟨hb_qk155, List.forall_mem_cons.mpr ⟨hb_qk156, List.forall_mem_cons.mpr ⟨hb_qk157, List.forall_mem_cons.mpr ⟨hb_qk158, List.forall_mem_cons.mpr ⟨hb_qk159, fun _ h => absurd h List.not_mem_nil⟩⟩⟩⟩⟩⟩⟩⟩⟩⟩⟩⟩⟩⟩⟩⟩⟩⟩⟩⟩
theorem hb_qK8 : ∀ Q ∈ hb_Q8, px_Qk hb_cl Q := List.forall_mem_cons.mpr ⟨hb_qk160, List.forall_mem_cons.mpr ⟨hb_qk161, List.forall_mem_cons.mpr ⟨hb_qk162, List.forall_mem_cons.mpr ⟨hb_qk163, List.forall_mem_cons.mpr ⟨hb_qk164, List.forall_mem_cons.mpr ⟨hb_qk165, List.forall_mem_cons.mpr ⟨hb_qk166, List.forall_mem_cons.mpr ⟨hb_qk167, List.forall_mem_cons.mpr ⟨hb_qk168, List.forall_mem_cons.mpr ⟨hb_qk169, List.forall_mem_cons.mpr ⟨hb_qk170, List.forall_mem_cons.mpr ⟨hb_qk171, List.forall_mem_cons.mpr ⟨hb_qk172, List.forall_mem_cons.mpr ⟨hb_qk173, List.forall_mem_cons.mpr ⟨hb_qk174, List.forall_mem_cons.mpr ⟨hb_qk175, List.forall_mem_cons.mpr ⟨hb_qk176, List.forall_mem_cons.mpr ⟨hb_qk177, List.forall_mem_cons.mpr ⟨hb_qk178, List.forall_mem_cons.mpr ⟨hb_qk179, fun _ h => absurd h List.not_mem_nil⟩⟩⟩⟩⟩⟩⟩⟩⟩⟩⟩⟩⟩⟩⟩⟩⟩⟩⟩⟩
theorem hb_qK9 : ∀ Q ∈ hb_Q9, px_Qk hb_cl Q := List.forall_mem_cons.mpr ⟨hb_qk180, List.forall_mem_cons.mpr ⟨hb_qk181, List.forall_mem_cons.mpr ⟨hb_qk182, List.forall_mem_cons.mpr ⟨hb_qk183, List.forall_mem_cons.mpr ⟨hb_qk184, List.forall_mem_cons.mpr ⟨hb_qk185, List.forall_mem_cons.mpr ⟨hb_qk186, List.forall_mem_cons.mpr ⟨hb_qk187, List.forall_mem_cons.mpr ⟨hb_qk188, List.forall_mem_cons.mpr ⟨hb_qk189, List.forall_mem_cons.mpr ⟨hb_qk190, List.forall_mem_cons.mpr ⟨hb_qk191, List.forall_mem_cons.mpr ⟨hb_qk192, List.forall_mem_cons.mpr ⟨hb_qk193, List.forall_mem_cons.mpr ⟨hb_qk194, List.forall_mem_cons.mpr ⟨hb_qk195, List.forall_mem_cons.mpr ⟨hb_qk196, List.forall_mem_cons.mpr ⟨hb_qk197, List.forall_mem_cons.mpr ⟨hb_qk198, List.forall_mem_cons.mpr ⟨hb_qk199, fun _ h => absurd h List.not_mem_nil⟩⟩⟩⟩⟩⟩⟩⟩⟩⟩⟩⟩⟩⟩⟩⟩⟩⟩⟩⟩
theorem hb_qK10 : ∀ Q ∈ hb_Q10, px_Qk hb_cl Q := List.forall_mem_cons.mpr ⟨hb_qk200, List.forall_mem_cons.mpr ⟨hb_qk201, List.forall_mem_cons.mpr ⟨hb_qk202, List.forall_mem_cons.mpr ⟨hb_qk203, List.forall_mem_cons.mpr ⟨hb_qk204, List.forall_mem_cons.mpr ⟨hb_qk205, List.forall_mem_cons.mpr ⟨hb_qk206, List.forall_mem_cons.mpr ⟨hb_qk207, List.forall_mem_cons.mpr ⟨hb_qk208, List.forall_mem_cons.mpr ⟨hb_qk209, List.forall_mem_cons.mpr ⟨hb_qk210, List.forall_mem_cons.mpr ⟨hb_qk211, List.forall_mem_cons.mpr ⟨hb_qk212, List.forall_mem_cons.mpr ⟨hb_qk213, List.forall_mem_cons.mpr ⟨hb_qk214, List.forall_mem_cons.mpr ⟨hb_qk215, List.forall_mem_cons.mpr ⟨hb_qk216, List.forall_mem_cons.mpr ⟨hb_qk217, List.forall_mem_cons.mpr ⟨hb_qk218, List.forall_mem_cons.mpr ⟨hb_qk219, fun _ h => absurd h List.not_mem_nil⟩⟩⟩⟩⟩⟩⟩⟩⟩⟩⟩⟩⟩⟩⟩⟩⟩⟩⟩⟩
theorem hb_qK11 : ∀ Q ∈ hb_Q11, px_Qk hb_cl Q := List.forall_mem_cons.mpr ⟨hb_qk220, List.forall_mem_cons.mpr ⟨hb_qk221, List.forall_mem_cons.mpr ⟨hb_qk222, List.forall_mem_cons.mpr ⟨hb_qk223, List.forall_mem_cons.mpr ⟨hb_qk224, List.forall_mem_cons.mpr ⟨hb_qk225, List.forall_mem_cons.mpr ⟨hb_qk226, List.forall_mem_cons.mpr ⟨hb_qk227, List.forall_mem_cons.mpr ⟨hb_qk228, List.forall_mem_cons.mpr ⟨hb_qk229, List.forall_mem_cons.mpr ⟨hb_qk230, List.forall_mem_cons.mpr ⟨hb_qk231, List.forall_mem_cons.mpr ⟨hb_qk232, List.forall_mem_cons.mpr ⟨hb_qk233, List.forall_mem_cons.mpr ⟨hb_qk234, List.forall_mem_cons.mpr ⟨hb_qk235, List.forall_mem_cons.mpr ⟨hb_qk236, List.forall_mem_cons.mpr ⟨hb_qk237, List.forall_mem_cons.mpr ⟨hb_qk238, List.forall_mem_cons.mpr ⟨hb_qk239, fun _ h => absurd h List.not_mem_nil⟩⟩⟩⟩⟩⟩⟩⟩⟩⟩⟩⟩⟩⟩⟩⟩⟩⟩⟩⟩
theorem hb_qK12 : ∀ Q ∈ hb_Q12, px_Qk hb_cl Q := List.forall_mem_cons.mpr ⟨hb_qk240, List.forall_mem_cons.mpr ⟨hb_qk241, List.forall_mem_cons.mpr ⟨hb_qk242, List.forall_mem_cons.mpr ⟨hb_qk243, List.forall_mem_cons.mpr ⟨hb_qk244, List.forall_mem_cons.mpr ⟨hb_qk245, List.forall_mem_cons.mpr ⟨hb_qk246, List.forall_mem_cons.mpr ⟨hb_qk247, List.forall_mem_cons.mpr ⟨hb_qk248, List.forall_mem_cons.mpr ⟨hb_qk249, List.forall_mem_cons.mpr ⟨hb_qk250, List.forall_mem_cons.mpr ⟨hb_qk251, List.forall_mem_cons.mpr ⟨hb_qk252, List.forall_mem_cons.mpr ⟨hb_qk253, List.forall_mem_cons.mpr ⟨hb_qk254, List.forall_mem_cons.mpr ⟨hb_qk255, List.forall_mem_cons.mpr ⟨hb_qk256, List.forall_mem_cons.mpr ⟨hb_qk257, List.forall_mem_cons.mpr ⟨hb_qk258, List.forall_mem_cons.mpr ⟨hb_qk259, fun _ h => absurd h List.not_mem_nil⟩⟩⟩⟩⟩⟩⟩⟩⟩⟩⟩⟩⟩⟩⟩⟩⟩⟩⟩⟩
theorem hb_qK13 : ∀ Q ∈ hb_Q13, px_Qk hb_cl Q := List.forall_mem_cons.mpr ⟨hb_qk260, List.forall_mem_cons.mpr ⟨hb_qk261, List.forall_mem_cons.mpr ⟨hb_qk262, List.forall_mem_cons.mpr ⟨hb_qk263, List.forall_mem_cons.mpr ⟨hb_qk264, List.forall_mem_cons.mpr ⟨hb_qk265, List.forall_mem_cons.mpr ⟨hb_qk266, List.forall_mem_cons.mpr ⟨hb_qk267, List.forall_mem_cons.mpr ⟨hb_qk268, List.forall_mem_cons.mpr ⟨hb_qk269, List.forall_mem_cons.mpr ⟨hb_qk270, List.forall_mem_cons.mpr ⟨hb_qk271, List.forall_mem_cons.mpr ⟨hb_qk272, List.forall_mem_cons.mpr ⟨hb_qk273, List.forall_mem_cons.mpr ⟨hb_qk274, List.forall_mem_cons.mpr ⟨hb_qk275, List.forall_mem_cons.mpr ⟨hb_qk276, List.forall_mem_cons.mpr ⟨hb_qk277, List.forall_mem_cons.mpr ⟨hb_qk278, List.forall_mem_cons.mpr ⟨hb_qk279, fun _ h => absurd h List.not_mem_nil⟩⟩⟩⟩⟩⟩⟩⟩⟩⟩⟩⟩⟩⟩⟩⟩⟩⟩⟩⟩
theorem hb_qK14 : ∀ Q ∈ hb_Q14, px_Qk hb_cl Q := List.forall_mem_cons.mpr ⟨hb_qk280, List.forall_mem_cons.mpr ⟨hb_qk281, List.forall_mem_cons.mpr ⟨hb_qk282, List.forall_mem_cons.mpr ⟨hb_qk283, List.forall_mem_cons.mpr ⟨hb_qk284, List.forall_mem_cons.mpr ⟨hb_qk285, List.forall_mem_cons.mpr ⟨hb_qk286, List.forall_mem_cons.mpr ⟨hb_qk287, List.forall_mem_cons.mpr ⟨hb_qk288, List.forall_mem_cons.mpr ⟨hb_qk289, List.forall_mem_cons.mpr ⟨hb_qk290, List.forall_mem_cons.mpr ⟨hb_qk291, List.forall_mem_cons.mpr ⟨hb_qk292, List.forall_mem_cons.mpr ⟨hb_qk293, List.forall_mem_cons.mpr ⟨hb_qk294, List.forall_mem_cons.mpr ⟨hb_qk295, List.forall_mem_cons.mpr ⟨hb_qk296, List.forall_mem_cons.mpr ⟨hb_qk297, List.forall_mem_cons.mpr ⟨hb_qk298, List.forall_mem_cons.mpr ⟨hb_qk299, fun _ h => absurd h List.not_mem_nil⟩⟩⟩⟩⟩⟩⟩⟩⟩⟩⟩⟩⟩⟩⟩⟩⟩⟩⟩⟩
theorem hb_qK15 : ∀ Q ∈ hb_Q15, px_Qk hb_cl Q := List.forall_mem_cons.mpr ⟨hb_qk300, List.forall_mem_cons.mpr ⟨hb_qk301, fun _ h => absurd h List.not_mem_nil⟩⟩
theorem hb_qK : ∀ b ∈ hb_B, ∀ Q ∈ b, px_Qk hb_cl Q := List.forall_mem_cons.mpr ⟨hb_qK0, List.forall_mem_cons.mpr ⟨hb_qK1, List.forall_mem_cons.mpr ⟨hb_qK2, List.forall_mem_cons.mpr ⟨hb_qK3, List.forall_mem_cons.mpr ⟨hb_qK4, List.forall_mem_cons.mpr ⟨hb_qK5, List.forall_mem_cons.mpr ⟨hb_qK6, List.forall_mem_cons.mpr ⟨hb_qK7, List.forall_mem_cons.mpr ⟨hb_qK8, List.forall_mem_cons.mpr ⟨hb_qK9, List.forall_mem_cons.mpr ⟨hb_qK10, List.forall_mem_cons.mpr ⟨hb_qK11, List.forall_mem_cons.mpr ⟨hb_qK12, List.forall_mem_cons.mpr ⟨hb_qK13, List.forall_mem_cons.mpr ⟨hb_qK14, List.forall_mem_cons.mpr ⟨hb_qK15, fun _ h => absurd h List.not_mem_nil⟩⟩⟩⟩⟩⟩⟩⟩⟩⟩⟩⟩⟩⟩⟩⟩
theorem hb_qP0 : hb_Q0.map (fun Q => Q.1) = hb_P0 := rfl
theorem hb_qP1 : hb_Q1.map (fun Q => Q.1) = hb_P1 := rfl
theorem hb_qP2 : hb_Q2.map (fun Q => Q.1) = hb_P2 := rfl
theorem hb_qP3 : hb_Q3.map (fun Q => Q.1) = hb_P3 := rfl
theorem hb_qP4 : hb_Q4.map (fun Q => Q.1) = hb_P4 := rfl
theorem hb_qP5 : hb_Q5.map (fun Q => Q.1) = hb_P5 := rfl
theorem hb_qP6 : hb_Q6.map (fun Q => Q.1) = hb_P6 := rfl
theorem hb_qP7 : hb_Q7.map (fun Q => Q.1) = hb_P7 := rfl
theorem hb_qP8 : hb_Q8.map (fun Q => Q.1) = hb_P8 := rfl
theorem hb_qP9 : hb_Q9.map (fun Q => Q.1) = hb_P9 := rfl
theorem hb_qP10 : hb_Q10.map (fun Q => Q.1) = hb_P10 := rfl
theorem hb_qP11 : hb_Q11.map (fun Q => Q.1) = hb_P11 := rfl
theorem hb_qP12 : hb_Q12.map (fun Q => Q.1) = hb_P12 := rfl
theorem hb_qP13 : hb_Q13.map (fun Q => Q.1) = hb_P13 := rfl
theorem hb_qP14 : hb_Q14.map (fun Q => Q.1) = hb_P14 := rfl
theorem hb_qP15 : hb_Q15.map (fun Q => Q.1) = hb_P15 := rfl
theorem hb_PB : hb_P = hb_B.flatten.map (fun Q => Q.1) := by
  unfold hb_B hb_P
  simp only [List.flatten_cons, List.flatten_nil, List.map_append, List.map_nil, List.append_nil, hb_qP0, hb_qP1, hb_qP2, hb_qP3, hb_qP4, hb_qP5, hb_qP6, hb_qP7, hb_qP8, hb_qP9, hb_qP10, hb_qP11, hb_qP12, hb_qP13, hb_qP14, hb_qP15]
theorem hb_Gok : px_Gok hb_P (px_G hb_B) := px_G_ok hb_PB (by decide +kernel) hb_qK
theorem hb_Hok : px_Hok hb_cl hb_P (px_Hq hb_B) := px_Hq_ok hb_PB (by decide +kernel) hb_qK
theorem hb_PM : (hb_P ++ [hb_m302])[302]? = some hb_m302 := by rfl
def hb_GM : Nat → Nat → Option (px_M × Instr × Nat) := px_G1 302 hb_m302 hb_q302 (px_G hb_B)
set_option maxRecDepth 100000 in
theorem hb_GMok : px_Gok (hb_P ++ [hb_m302]) hb_GM := px_G1_ok hb_PM rfl (by decide +kernel) hb_Gok

end
