def jSgX : List jSg := [(1, 0, 6, 1, 0, 1, 1, 3), (2, 0, 6, 1, 0, 1, 0, 8), (3, 0, 8, 1, 0, 1, 2, 7), (4, 0, 8, 1, 0, 1, 0, 2), (31, 12, 13, 1, 0, 1, (-366), 0), (32, 18, 19, 1, 0, 1, 0, 30), (33, 0, 1, 1, 0, 1, 6, 6), (33, 1, 2, 1, 0, 1, 200, 200), (33, 3, 4, 1, 0, 1, 0, 200), (34, 0, 1200, 6, 0, 1, 0, 146399), (34, 0, 1200, 6, 1, 2, 0, 146399), (34, 0, 1200, 6, 2, 3, 0, 5), (34, 0, 1200, 6, 3, 4, 0, 15), (34, 0, 1200, 6, 5, 6, 0, 1), (35, 0, 1, 1, 0, 1, 14, 14), (35, 1, 2, 1, 0, 1, 1200, 1200), (35, 3, 4, 1, 0, 1, 0, 1200), (36, 0, 16800, 14, 0, 1, (-400), 12), (36, 0, 16800, 14, 1, 2, 0, 1), (36, 0, 16800, 14, 2, 3, 0, 255), (36, 0, 16800, 14, 3, 4, 0, 255), (36, 0, 16800, 14, 4, 5, 0, 255), (36, 0, 16800, 14, 5, 6, 0, 255), (36, 0, 16800, 14, 6, 7, 0, 255), (36, 0, 16800, 14, 7, 8, 0, 255), (36, 0, 16800, 14, 8, 9, 0, 255), (36, 0, 16800, 14, 9, 10, 0, 255), (36, 0, 16800, 14, 10, 11, 0, 255), (36, 0, 16800, 14, 11, 12, 0, 255), (36, 0, 16800, 14, 12, 13, 0, 255), (36, 0, 16800, 14, 13, 14, 0, 255), (37, 0, 1, 1, 0, 1, 2, 2), (37, 1, 2, 1, 0, 1, 60, 60), (37, 3, 4, 1, 0, 1, 0, 60), (38, 0, 120, 2, 0, 1, 0, 599), (38, 0, 120, 2, 1, 2, 0, 599), (39, 0, 1, 1, 0, 1, 3, 3), (39, 1, 2, 1, 0, 1, 200, 200), (39, 3, 4, 1, 0, 1, 0, 200), (40, 0, 600, 3, 0, 1, 0, 146399), (40, 0, 600, 3, 1, 2, (-1), 599), (40, 0, 600, 3, 2, 3, (-1), 599), (41, 0, 1, 1, 0, 1, 4, 4), (41, 1, 2, 1, 0, 1, 20, 20), (41, 3, 4, 1, 0, 1, 0, 20), (42, 0, 80, 4, 0, 1, 0, 146399), (42, 0, 80, 4, 1, 2, 0, 146399), (42, 0, 80, 4, 2, 3, 0, 146399), (42, 0, 80, 4, 3, 4, 0, 5), (43, 0, 1, 1, 0, 1, 6, 6), (43, 1, 2, 1, 0, 1, 100, 100), (43, 3, 4, 1, 0, 1, 0, 100), (44, 0, 600, 6, 0, 1, 0, 146399), (44, 0, 600, 6, 1, 2, 0, 146399), (44, 0, 600, 6, 2, 3, 0, 146399), (44, 0, 600, 6, 3, 4, 0, 599), (44, 0, 600, 6, 4, 5, 0, 4), (44, 0, 600, 6, 5, 6, 0, 11), (45, 0, 1, 1, 0, 1, 3, 3), (45, 1, 2, 1, 0, 1, 40, 40), (45, 3, 4, 1, 0, 1, 0, 40), (46, 0, 120, 3, 0, 1, 0, 146399), (46, 0, 120, 3, 1, 2, 0, 146399), (46, 0, 120, 3, 2, 3, 0, 199), (47, 0, 1, 1, 0, 1, 4, 4), (47, 1, 2, 1, 0, 1, 100, 100), (47, 3, 4, 1, 0, 1, 0, 100), (48, 0, 400, 4, 0, 1, 0, 146399), (48, 0, 400, 4, 1, 2, 0, 146399), (48, 0, 400, 4, 2, 3, 0, 39), (48, 0, 400, 4, 3, 4, 0, 10000), (49, 0, 1, 1, 0, 1, 5, 5), (49, 1, 2, 1, 0, 1, 40, 40), (49, 3, 4, 1, 0, 1, 0, 40), (50, 0, 200, 5, 0, 1, 0, 146399), (50, 0, 200, 5, 1, 2, 0, 146399), (50, 0, 200, 5, 2, 3, (-1), 39), (50, 0, 200, 5, 3, 4, 0, 99), (50, 0, 200, 5, 4, 5, 0, 100), (51, 0, 1, 1, 0, 1, 4, 4), (51, 1, 2, 1, 0, 1, 100, 100), (51, 3, 4, 1, 0, 1, 0, 100), (52, 0, 400, 4, 0, 1, 0, 146399), (52, 0, 400, 4, 1, 2, 0, 146399), (52, 0, 400, 4, 2, 3, 0, 39), (52, 0, 400, 4, 3, 4, (-1), 599), (53, 0, 1, 1, 0, 1, 4, 4), (53, 1, 2, 1, 0, 1, 40, 40), (53, 3, 4, 1, 0, 1, 0, 40), (54, 0, 160, 4, 0, 1, 0, 146399), (54, 0, 160, 4, 1, 2, 0, 399), (54, 0, 160, 4, 2, 3, 0, 2), (54, 0, 160, 4, 3, 4, 0, 1000000), (55, 0, 1, 1, 0, 1, 5, 5), (55, 1, 2, 1, 0, 1, 100, 100), (55, 3, 4, 1, 0, 1, 0, 100), (56, 0, 500, 5, 0, 1, 0, 146399), (56, 0, 500, 5, 1, 2, 0, 146399), (56, 0, 500, 5, 2, 3, 0, 39), (56, 0, 500, 5, 3, 4, 0, 39), (56, 0, 500, 5, 4, 5, 0, 1000000), (57, 0, 1, 1, 0, 1, 4, 4), (57, 1, 2, 1, 0, 1, 100, 100), (57, 3, 4, 1, 0, 1, 0, 100), (58, 0, 400, 4, 0, 1, 0, 146399), (58, 0, 400, 4, 1, 2, 0, 399), (58, 0, 400, 4, 2, 3, 0, 3), (58, 0, 400, 4, 3, 4, (-1000000), 1000000), (59, 0, 1, 1, 0, 1, 4, 4), (59, 1, 2, 1, 0, 1, 40, 40), (59, 3, 4, 1, 0, 1, 0, 40), (60, 0, 160, 4, 0, 1, 0, 146399), (60, 0, 160, 4, 1, 2, 0, 399), (60, 0, 160, 4, 2, 3, 0, 3), (61, 0, 1, 1, 0, 1, 4, 4), (61, 1, 2, 1, 0, 1, 100, 100), (61, 3, 4, 1, 0, 1, 0, 100), (62, 0, 400, 4, 0, 1, 0, 146399), (62, 0, 400, 4, 1, 2, 0, 399), (62, 0, 400, 4, 2, 3, 0, 2), (62, 0, 400, 4, 3, 4, 0, 10000), (63, 0, 1, 1, 0, 1, 2, 2), (63, 1, 2, 1, 0, 1, 370, 370), (63, 3, 4, 1, 0, 1, 0, 370), (64, 0, 740, 2, 0, 1, 0, 3), (64, 0, 740, 2, 1, 2, 0, 200), (68, 1, 2, 1, 0, 1, 0, 400), (68, 2, 3, 1, 0, 1, (-1), 400), (68, 3, 4, 1, 0, 1, 0, 400), (68, 4, 5, 1, 0, 1, 0, 400), (68, 5, 6, 1, 0, 1, 0, 3), (69, 0, 400, 1, 0, 1, 0, 255), (71, 0, 84, 14, 0, 1, (-400), 12), (71, 0, 84, 14, 1, 2, 0, 1), (71, 0, 84, 14, 2, 14, 0, 255), (71, 0, 84, 1, 0, 1, (-400), 255), (72, 0, 64, 4, 0, 1, (-400), 3), (72, 0, 64, 4, 1, 4, 0, 255), (72, 0, 64, 1, 0, 1, (-400), 255), (73, 0, 1024, 4, 0, 1, (-400), 3), (73, 0, 1024, 4, 1, 4, 0, 255), (73, 0, 1024, 1, 0, 1, (-400), 255), (74, 0, 16, 1, 0, 1, 0, 8), (76, 0, 1200, 1, 0, 1, (-1), 36), (77, 0, 1200, 1, 0, 1, 0, 1), (78, 2, 3, 1, 0, 1, 0, 100), (78, 3, 4, 1, 0, 1, 0, 100), (78, 4, 5, 1, 0, 1, 0, 100), (78, 5, 6, 1, 0, 1, 0, 100), (78, 6, 7, 1, 0, 1, 0, 20), (78, 13, 14, 1, 0, 1, 0, 200), (79, 0, 600, 1, 0, 1, (-1), 10), (80, 0, 600, 1, 0, 1, 0, 146399), (82, 0, 600, 1, 0, 1, (-1), 599), (83, 0, 600, 1, 0, 1, (-1), 599), (84, 0, 200, 1, 0, 1, 0, 199), (87, 3, 4, 1, 0, 1, 0, 9), (87, 10, 11, 1, 0, 1, (-1), 2147483647), (87, 11, 12, 1, 0, 1, 0, 9), (88, 0, 9, 1, 0, 1, 0, 599), (89, 0, 81, 1, 0, 1, (-1), 400), (90, 0, 9, 1, 0, 1, (-1), 7), (91, 0, 9, 1, 0, 1, 0, 8), (92, 0, 9, 1, 0, 1, 0, 8), (95, 3, 4, 1, 0, 1, 0, 12), (95, 4, 5, 1, 0, 1, 0, 1200), (95, 5, 6, 1, 0, 1, 0, 60), (98, 10, 11, 1, 0, 1, 0, 146399), (98, 11, 12, 1, 0, 1, 0, 146399), (98, 13, 14, 1, 0, 1, (-1), 359), (103, 0, 40, 1, 0, 1, (-1), 599), (104, 0, 40, 1, 0, 1, (-1), 146399), (107, 9, 10, 1, 0, 1, 0, 40), (107, 15, 16, 1, 0, 1, 0, 400), (107, 16, 17, 1, 0, 1, (-1), 39), (112, 0, 40, 1, 0, 1, 0, 39), (115, 0, 400, 1, 0, 1, (-1), 39), (116, 0, 400, 1, 0, 1, 0, 40), (117, 0, 40, 1, 0, 1, (-1), 399), (120, 5, 6, 1, 0, 1, 0, 146399), (120, 6, 7, 1, 0, 1, (-1), 359), (122, 0, 42, 1, 0, 1, 0, 359), (123, 0, 120, 1, 0, 1, 0, 1000)]
theorem sg_1_0_6_1_0_1 : ((1, 0, 6, 1, 0, 1, 1, 3) : jSg) ∈ jSgX := List.mem_of_getElem? (i := 0) rfl
theorem sg_2_0_6_1_0_1 : ((2, 0, 6, 1, 0, 1, 0, 8) : jSg) ∈ jSgX := List.mem_of_getElem? (i := 1) rfl
theorem sg_3_0_8_1_0_1 : ((3, 0, 8, 1, 0, 1, 2, 7) : jSg) ∈ jSgX := List.mem_of_getElem? (i := 2) rfl
theorem sg_4_0_8_1_0_1 : ((4, 0, 8, 1, 0, 1, 0, 2) : jSg) ∈ jSgX := List.mem_of_getElem? (i := 3) rfl
theorem sg_31_12_13_1_0_1 : ((31, 12, 13, 1, 0, 1, (-366), 0) : jSg) ∈ jSgX := List.mem_of_getElem? (i := 4) rfl
theorem sg_32_18_19_1_0_1 : ((32, 18, 19, 1, 0, 1, 0, 30) : jSg) ∈ jSgX := List.mem_of_getElem? (i := 5) rfl
theorem sg_33_0_1_1_0_1 : ((33, 0, 1, 1, 0, 1, 6, 6) : jSg) ∈ jSgX := List.mem_of_getElem? (i := 6) rfl
theorem sg_33_1_2_1_0_1 : ((33, 1, 2, 1, 0, 1, 200, 200) : jSg) ∈ jSgX := List.mem_of_getElem? (i := 7) rfl
theorem sg_33_3_4_1_0_1 : ((33, 3, 4, 1, 0, 1, 0, 200) : jSg) ∈ jSgX := List.mem_of_getElem? (i := 8) rfl
theorem sg_34_0_1200_6_0_1 : ((34, 0, 1200, 6, 0, 1, 0, 146399) : jSg) ∈ jSgX := List.mem_of_getElem? (i := 9) rfl
theorem sg_34_0_1200_6_1_2 : ((34, 0, 1200, 6, 1, 2, 0, 146399) : jSg) ∈ jSgX := List.mem_of_getElem? (i := 10) rfl
theorem sg_34_0_1200_6_2_3 : ((34, 0, 1200, 6, 2, 3, 0, 5) : jSg) ∈ jSgX := List.mem_of_getElem? (i := 11) rfl
theorem sg_34_0_1200_6_3_4 : ((34, 0, 1200, 6, 3, 4, 0, 15) : jSg) ∈ jSgX := List.mem_of_getElem? (i := 12) rfl
theorem sg_34_0_1200_6_5_6 : ((34, 0, 1200, 6, 5, 6, 0, 1) : jSg) ∈ jSgX := List.mem_of_getElem? (i := 13) rfl
theorem sg_35_0_1_1_0_1 : ((35, 0, 1, 1, 0, 1, 14, 14) : jSg) ∈ jSgX := List.mem_of_getElem? (i := 14) rfl
theorem sg_35_1_2_1_0_1 : ((35, 1, 2, 1, 0, 1, 1200, 1200) : jSg) ∈ jSgX := List.mem_of_getElem? (i := 15) rfl
theorem sg_35_3_4_1_0_1 : ((35, 3, 4, 1, 0, 1, 0, 1200) : jSg) ∈ jSgX := List.mem_of_getElem? (i := 16) rfl
theorem sg_36_0_16800_14_0_1 : ((36, 0, 16800, 14, 0, 1, (-400), 12) : jSg) ∈ jSgX := List.mem_of_getElem? (i := 17) rfl
theorem sg_36_0_16800_14_1_2 : ((36, 0, 16800, 14, 1, 2, 0, 1) : jSg) ∈ jSgX := List.mem_of_getElem? (i := 18) rfl
theorem sg_36_0_16800_14_2_3 : ((36, 0, 16800, 14, 2, 3, 0, 255) : jSg) ∈ jSgX := List.mem_of_getElem? (i := 19) rfl
theorem sg_37_0_1_1_0_1 : ((37, 0, 1, 1, 0, 1, 2, 2) : jSg) ∈ jSgX := List.mem_of_getElem? (i := 31) rfl
theorem sg_37_1_2_1_0_1 : ((37, 1, 2, 1, 0, 1, 60, 60) : jSg) ∈ jSgX := List.mem_of_getElem? (i := 32) rfl
theorem sg_37_3_4_1_0_1 : ((37, 3, 4, 1, 0, 1, 0, 60) : jSg) ∈ jSgX := List.mem_of_getElem? (i := 33) rfl
theorem sg_38_0_120_2_0_1 : ((38, 0, 120, 2, 0, 1, 0, 599) : jSg) ∈ jSgX := List.mem_of_getElem? (i := 34) rfl
theorem sg_38_0_120_2_1_2 : ((38, 0, 120, 2, 1, 2, 0, 599) : jSg) ∈ jSgX := List.mem_of_getElem? (i := 35) rfl
theorem sg_39_0_1_1_0_1 : ((39, 0, 1, 1, 0, 1, 3, 3) : jSg) ∈ jSgX := List.mem_of_getElem? (i := 36) rfl
theorem sg_39_1_2_1_0_1 : ((39, 1, 2, 1, 0, 1, 200, 200) : jSg) ∈ jSgX := List.mem_of_getElem? (i := 37) rfl
theorem sg_39_3_4_1_0_1 : ((39, 3, 4, 1, 0, 1, 0, 200) : jSg) ∈ jSgX := List.mem_of_getElem? (i := 38) rfl
theorem sg_40_0_600_3_0_1 : ((40, 0, 600, 3, 0, 1, 0, 146399) : jSg) ∈ jSgX := List.mem_of_getElem? (i := 39) rfl
theorem sg_40_0_600_3_1_2 : ((40, 0, 600, 3, 1, 2, (-1), 599) : jSg) ∈ jSgX := List.mem_of_getElem? (i := 40) rfl
theorem sg_40_0_600_3_2_3 : ((40, 0, 600, 3, 2, 3, (-1), 599) : jSg) ∈ jSgX := List.mem_of_getElem? (i := 41) rfl
theorem sg_41_0_1_1_0_1 : ((41, 0, 1, 1, 0, 1, 4, 4) : jSg) ∈ jSgX := List.mem_of_getElem? (i := 42) rfl
theorem sg_41_1_2_1_0_1 : ((41, 1, 2, 1, 0, 1, 20, 20) : jSg) ∈ jSgX := List.mem_of_getElem? (i := 43) rfl
theorem sg_41_3_4_1_0_1 : ((41, 3, 4, 1, 0, 1, 0, 20) : jSg) ∈ jSgX := List.mem_of_getElem? (i := 44) rfl
theorem sg_42_0_80_4_0_1 : ((42, 0, 80, 4, 0, 1, 0, 146399) : jSg) ∈ jSgX := List.mem_of_getElem? (i := 45) rfl
theorem sg_42_0_80_4_1_2 : ((42, 0, 80, 4, 1, 2, 0, 146399) : jSg) ∈ jSgX := List.mem_of_getElem? (i := 46) rfl
theorem sg_42_0_80_4_2_3 : ((42, 0, 80, 4, 2, 3, 0, 146399) : jSg) ∈ jSgX := List.mem_of_getElem? (i := 47) rfl
theorem sg_42_0_80_4_3_4 : ((42, 0, 80, 4, 3, 4, 0, 5) : jSg) ∈ jSgX := List.mem_of_getElem? (i := 48) rfl
theorem sg_43_0_1_1_0_1 : ((43, 0, 1, 1, 0, 1, 6, 6) : jSg) ∈ jSgX := List.mem_of_getElem? (i := 49) rfl
theorem sg_43_1_2_1_0_1 : ((43, 1, 2, 1, 0, 1, 100, 100) : jSg) ∈ jSgX := List.mem_of_getElem? (i := 50) rfl
theorem sg_43_3_4_1_0_1 : ((43, 3, 4, 1, 0, 1, 0, 100) : jSg) ∈ jSgX := List.mem_of_getElem? (i := 51) rfl
theorem sg_44_0_600_6_0_1 : ((44, 0, 600, 6, 0, 1, 0, 146399) : jSg) ∈ jSgX := List.mem_of_getElem? (i := 52) rfl
theorem sg_44_0_600_6_1_2 : ((44, 0, 600, 6, 1, 2, 0, 146399) : jSg) ∈ jSgX := List.mem_of_getElem? (i := 53) rfl
theorem sg_44_0_600_6_2_3 : ((44, 0, 600, 6, 2, 3, 0, 146399) : jSg) ∈ jSgX := List.mem_of_getElem? (i := 54) rfl
theorem sg_44_0_600_6_3_4 : ((44, 0, 600, 6, 3, 4, 0, 599) : jSg) ∈ jSgX := List.mem_of_getElem? (i := 55) rfl
theorem sg_44_0_600_6_4_5 : ((44, 0, 600, 6, 4, 5, 0, 4) : jSg) ∈ jSgX := List.mem_of_getElem? (i := 56) rfl
theorem sg_44_0_600_6_5_6 : ((44, 0, 600, 6, 5, 6, 0, 11) : jSg) ∈ jSgX := List.mem_of_getElem? (i := 57) rfl
theorem sg_45_0_1_1_0_1 : ((45, 0, 1, 1, 0, 1, 3, 3) : jSg) ∈ jSgX := List.mem_of_getElem? (i := 58) rfl
theorem sg_45_1_2_1_0_1 : ((45, 1, 2, 1, 0, 1, 40, 40) : jSg) ∈ jSgX := List.mem_of_getElem? (i := 59) rfl
theorem sg_45_3_4_1_0_1 : ((45, 3, 4, 1, 0, 1, 0, 40) : jSg) ∈ jSgX := List.mem_of_getElem? (i := 60) rfl
theorem sg_46_0_120_3_0_1 : ((46, 0, 120, 3, 0, 1, 0, 146399) : jSg) ∈ jSgX := List.mem_of_getElem? (i := 61) rfl
theorem sg_46_0_120_3_1_2 : ((46, 0, 120, 3, 1, 2, 0, 146399) : jSg) ∈ jSgX := List.mem_of_getElem? (i := 62) rfl
theorem sg_46_0_120_3_2_3 : ((46, 0, 120, 3, 2, 3, 0, 199) : jSg) ∈ jSgX := List.mem_of_getElem? (i := 63) rfl
theorem sg_47_0_1_1_0_1 : ((47, 0, 1, 1, 0, 1, 4, 4) : jSg) ∈ jSgX := List.mem_of_getElem? (i := 64) rfl
theorem sg_47_1_2_1_0_1 : ((47, 1, 2, 1, 0, 1, 100, 100) : jSg) ∈ jSgX := List.mem_of_getElem? (i := 65) rfl
theorem sg_47_3_4_1_0_1 : ((47, 3, 4, 1, 0, 1, 0, 100) : jSg) ∈ jSgX := List.mem_of_getElem? (i := 66) rfl
theorem sg_48_0_400_4_0_1 : ((48, 0, 400, 4, 0, 1, 0, 146399) : jSg) ∈ jSgX := List.mem_of_getElem? (i := 67) rfl
theorem sg_48_0_400_4_1_2 : ((48, 0, 400, 4, 1, 2, 0, 146399) : jSg) ∈ jSgX := List.mem_of_getElem? (i := 68) rfl
theorem sg_48_0_400_4_2_3 : ((48, 0, 400, 4, 2, 3, 0, 39) : jSg) ∈ jSgX := List.mem_of_getElem? (i := 69) rfl
theorem sg_48_0_400_4_3_4 : ((48, 0, 400, 4, 3, 4, 0, 10000) : jSg) ∈ jSgX := List.mem_of_getElem? (i := 70) rfl
theorem sg_49_0_1_1_0_1 : ((49, 0, 1, 1, 0, 1, 5, 5) : jSg) ∈ jSgX := List.mem_of_getElem? (i := 71) rfl
theorem sg_49_1_2_1_0_1 : ((49, 1, 2, 1, 0, 1, 40, 40) : jSg) ∈ jSgX := List.mem_of_getElem? (i := 72) rfl
theorem sg_49_3_4_1_0_1 : ((49, 3, 4, 1, 0, 1, 0, 40) : jSg) ∈ jSgX := List.mem_of_getElem? (i := 73) rfl
theorem sg_50_0_200_5_0_1 : ((50, 0, 200, 5, 0, 1, 0, 146399) : jSg) ∈ jSgX := List.mem_of_getElem? (i := 74) rfl
theorem sg_50_0_200_5_1_2 : ((50, 0, 200, 5, 1, 2, 0, 146399) : jSg) ∈ jSgX := List.mem_of_getElem? (i := 75) rfl
theorem sg_50_0_200_5_2_3 : ((50, 0, 200, 5, 2, 3, (-1), 39) : jSg) ∈ jSgX := List.mem_of_getElem? (i := 76) rfl
theorem sg_50_0_200_5_3_4 : ((50, 0, 200, 5, 3, 4, 0, 99) : jSg) ∈ jSgX := List.mem_of_getElem? (i := 77) rfl
theorem sg_50_0_200_5_4_5 : ((50, 0, 200, 5, 4, 5, 0, 100) : jSg) ∈ jSgX := List.mem_of_getElem? (i := 78) rfl
theorem sg_51_0_1_1_0_1 : ((51, 0, 1, 1, 0, 1, 4, 4) : jSg) ∈ jSgX := List.mem_of_getElem? (i := 79) rfl
theorem sg_51_1_2_1_0_1 : ((51, 1, 2, 1, 0, 1, 100, 100) : jSg) ∈ jSgX := List.mem_of_getElem? (i := 80) rfl
theorem sg_51_3_4_1_0_1 : ((51, 3, 4, 1, 0, 1, 0, 100) : jSg) ∈ jSgX := List.mem_of_getElem? (i := 81) rfl
theorem sg_52_0_400_4_0_1 : ((52, 0, 400, 4, 0, 1, 0, 146399) : jSg) ∈ jSgX := List.mem_of_getElem? (i := 82) rfl
theorem sg_52_0_400_4_1_2 : ((52, 0, 400, 4, 1, 2, 0, 146399) : jSg) ∈ jSgX := List.mem_of_getElem? (i := 83) rfl
theorem sg_52_0_400_4_2_3 : ((52, 0, 400, 4, 2, 3, 0, 39) : jSg) ∈ jSgX := List.mem_of_getElem? (i := 84) rfl
theorem sg_52_0_400_4_3_4 : ((52, 0, 400, 4, 3, 4, (-1), 599) : jSg) ∈ jSgX := List.mem_of_getElem? (i := 85) rfl
theorem sg_53_0_1_1_0_1 : ((53, 0, 1, 1, 0, 1, 4, 4) : jSg) ∈ jSgX := List.mem_of_getElem? (i := 86) rfl
theorem sg_53_1_2_1_0_1 : ((53, 1, 2, 1, 0, 1, 40, 40) : jSg) ∈ jSgX := List.mem_of_getElem? (i := 87) rfl
theorem sg_53_3_4_1_0_1 : ((53, 3, 4, 1, 0, 1, 0, 40) : jSg) ∈ jSgX := List.mem_of_getElem? (i := 88) rfl
theorem sg_54_0_160_4_0_1 : ((54, 0, 160, 4, 0, 1, 0, 146399) : jSg) ∈ jSgX := List.mem_of_getElem? (i := 89) rfl
theorem sg_54_0_160_4_1_2 : ((54, 0, 160, 4, 1, 2, 0, 399) : jSg) ∈ jSgX := List.mem_of_getElem? (i := 90) rfl
theorem sg_54_0_160_4_2_3 : ((54, 0, 160, 4, 2, 3, 0, 2) : jSg) ∈ jSgX := List.mem_of_getElem? (i := 91) rfl
theorem sg_54_0_160_4_3_4 : ((54, 0, 160, 4, 3, 4, 0, 1000000) : jSg) ∈ jSgX := List.mem_of_getElem? (i := 92) rfl
theorem sg_55_0_1_1_0_1 : ((55, 0, 1, 1, 0, 1, 5, 5) : jSg) ∈ jSgX := List.mem_of_getElem? (i := 93) rfl
theorem sg_55_1_2_1_0_1 : ((55, 1, 2, 1, 0, 1, 100, 100) : jSg) ∈ jSgX := List.mem_of_getElem? (i := 94) rfl
theorem sg_55_3_4_1_0_1 : ((55, 3, 4, 1, 0, 1, 0, 100) : jSg) ∈ jSgX := List.mem_of_getElem? (i := 95) rfl
theorem sg_56_0_500_5_0_1 : ((56, 0, 500, 5, 0, 1, 0, 146399) : jSg) ∈ jSgX := List.mem_of_getElem? (i := 96) rfl
theorem sg_56_0_500_5_1_2 : ((56, 0, 500, 5, 1, 2, 0, 146399) : jSg) ∈ jSgX := List.mem_of_getElem? (i := 97) rfl
theorem sg_56_0_500_5_2_3 : ((56, 0, 500, 5, 2, 3, 0, 39) : jSg) ∈ jSgX := List.mem_of_getElem? (i := 98) rfl
theorem sg_56_0_500_5_3_4 : ((56, 0, 500, 5, 3, 4, 0, 39) : jSg) ∈ jSgX := List.mem_of_getElem? (i := 99) rfl
theorem sg_56_0_500_5_4_5 : ((56, 0, 500, 5, 4, 5, 0, 1000000) : jSg) ∈ jSgX := List.mem_of_getElem? (i := 100) rfl
theorem sg_57_0_1_1_0_1 : ((57, 0, 1, 1, 0, 1, 4, 4) : jSg) ∈ jSgX := List.mem_of_getElem? (i := 101) rfl
theorem sg_57_1_2_1_0_1 : ((57, 1, 2, 1, 0, 1, 100, 100) : jSg) ∈ jSgX := List.mem_of_getElem? (i := 102) rfl
theorem sg_57_3_4_1_0_1 : ((57, 3, 4, 1, 0, 1, 0, 100) : jSg) ∈ jSgX := List.mem_of_getElem? (i := 103) rfl
theorem sg_58_0_400_4_0_1 : ((58, 0, 400, 4, 0, 1, 0, 146399) : jSg) ∈ jSgX := List.mem_of_getElem? (i := 104) rfl
theorem sg_58_0_400_4_1_2 : ((58, 0, 400, 4, 1, 2, 0, 399) : jSg) ∈ jSgX := List.mem_of_getElem? (i := 105) rfl
theorem sg_58_0_400_4_2_3 : ((58, 0, 400, 4, 2, 3, 0, 3) : jSg) ∈ jSgX := List.mem_of_getElem? (i := 106) rfl
theorem sg_58_0_400_4_3_4 : ((58, 0, 400, 4, 3, 4, (-1000000), 1000000) : jSg) ∈ jSgX := List.mem_of_getElem? (i := 107) rfl
theorem sg_59_0_1_1_0_1 : ((59, 0, 1, 1, 0, 1, 4, 4) : jSg) ∈ jSgX := List.mem_of_getElem? (i := 108) rfl
theorem sg_59_1_2_1_0_1 : ((59, 1, 2, 1, 0, 1, 40, 40) : jSg) ∈ jSgX := List.mem_of_getElem? (i := 109) rfl
theorem sg_59_3_4_1_0_1 : ((59, 3, 4, 1, 0, 1, 0, 40) : jSg) ∈ jSgX := List.mem_of_getElem? (i := 110) rfl
theorem sg_60_0_160_4_0_1 : ((60, 0, 160, 4, 0, 1, 0, 146399) : jSg) ∈ jSgX := List.mem_of_getElem? (i := 111) rfl
theorem sg_60_0_160_4_1_2 : ((60, 0, 160, 4, 1, 2, 0, 399) : jSg) ∈ jSgX := List.mem_of_getElem? (i := 112) rfl
theorem sg_60_0_160_4_2_3 : ((60, 0, 160, 4, 2, 3, 0, 3) : jSg) ∈ jSgX := List.mem_of_getElem? (i := 113) rfl
theorem sg_61_0_1_1_0_1 : ((61, 0, 1, 1, 0, 1, 4, 4) : jSg) ∈ jSgX := List.mem_of_getElem? (i := 114) rfl
theorem sg_61_1_2_1_0_1 : ((61, 1, 2, 1, 0, 1, 100, 100) : jSg) ∈ jSgX := List.mem_of_getElem? (i := 115) rfl
theorem sg_61_3_4_1_0_1 : ((61, 3, 4, 1, 0, 1, 0, 100) : jSg) ∈ jSgX := List.mem_of_getElem? (i := 116) rfl
theorem sg_62_0_400_4_0_1 : ((62, 0, 400, 4, 0, 1, 0, 146399) : jSg) ∈ jSgX := List.mem_of_getElem? (i := 117) rfl
theorem sg_62_0_400_4_1_2 : ((62, 0, 400, 4, 1, 2, 0, 399) : jSg) ∈ jSgX := List.mem_of_getElem? (i := 118) rfl
theorem sg_62_0_400_4_2_3 : ((62, 0, 400, 4, 2, 3, 0, 2) : jSg) ∈ jSgX := List.mem_of_getElem? (i := 119) rfl
theorem sg_62_0_400_4_3_4 : ((62, 0, 400, 4, 3, 4, 0, 10000) : jSg) ∈ jSgX := List.mem_of_getElem? (i := 120) rfl
theorem sg_63_0_1_1_0_1 : ((63, 0, 1, 1, 0, 1, 2, 2) : jSg) ∈ jSgX := List.mem_of_getElem? (i := 121) rfl
theorem sg_63_1_2_1_0_1 : ((63, 1, 2, 1, 0, 1, 370, 370) : jSg) ∈ jSgX := List.mem_of_getElem? (i := 122) rfl
theorem sg_63_3_4_1_0_1 : ((63, 3, 4, 1, 0, 1, 0, 370) : jSg) ∈ jSgX := List.mem_of_getElem? (i := 123) rfl
theorem sg_64_0_740_2_0_1 : ((64, 0, 740, 2, 0, 1, 0, 3) : jSg) ∈ jSgX := List.mem_of_getElem? (i := 124) rfl
theorem sg_64_0_740_2_1_2 : ((64, 0, 740, 2, 1, 2, 0, 200) : jSg) ∈ jSgX := List.mem_of_getElem? (i := 125) rfl
theorem sg_68_1_2_1_0_1 : ((68, 1, 2, 1, 0, 1, 0, 400) : jSg) ∈ jSgX := List.mem_of_getElem? (i := 126) rfl
theorem sg_68_2_3_1_0_1 : ((68, 2, 3, 1, 0, 1, (-1), 400) : jSg) ∈ jSgX := List.mem_of_getElem? (i := 127) rfl
theorem sg_68_3_4_1_0_1 : ((68, 3, 4, 1, 0, 1, 0, 400) : jSg) ∈ jSgX := List.mem_of_getElem? (i := 128) rfl
theorem sg_68_4_5_1_0_1 : ((68, 4, 5, 1, 0, 1, 0, 400) : jSg) ∈ jSgX := List.mem_of_getElem? (i := 129) rfl
theorem sg_68_5_6_1_0_1 : ((68, 5, 6, 1, 0, 1, 0, 3) : jSg) ∈ jSgX := List.mem_of_getElem? (i := 130) rfl
theorem sg_69_0_400_1_0_1 : ((69, 0, 400, 1, 0, 1, 0, 255) : jSg) ∈ jSgX := List.mem_of_getElem? (i := 131) rfl
theorem sg_71_0_84_14_0_1 : ((71, 0, 84, 14, 0, 1, (-400), 12) : jSg) ∈ jSgX := List.mem_of_getElem? (i := 132) rfl
theorem sg_71_0_84_14_1_2 : ((71, 0, 84, 14, 1, 2, 0, 1) : jSg) ∈ jSgX := List.mem_of_getElem? (i := 133) rfl
theorem sg_71_0_84_14_2_14 : ((71, 0, 84, 14, 2, 14, 0, 255) : jSg) ∈ jSgX := List.mem_of_getElem? (i := 134) rfl
theorem sg_72_0_64_4_0_1 : ((72, 0, 64, 4, 0, 1, (-400), 3) : jSg) ∈ jSgX := List.mem_of_getElem? (i := 136) rfl
theorem sg_72_0_64_4_1_4 : ((72, 0, 64, 4, 1, 4, 0, 255) : jSg) ∈ jSgX := List.mem_of_getElem? (i := 137) rfl
theorem sg_72_0_64_1_0_1 : ((72, 0, 64, 1, 0, 1, (-400), 255) : jSg) ∈ jSgX := List.mem_of_getElem? (i := 138) rfl
theorem sg_73_0_1024_4_0_1 : ((73, 0, 1024, 4, 0, 1, (-400), 3) : jSg) ∈ jSgX := List.mem_of_getElem? (i := 139) rfl
theorem sg_73_0_1024_4_1_4 : ((73, 0, 1024, 4, 1, 4, 0, 255) : jSg) ∈ jSgX := List.mem_of_getElem? (i := 140) rfl
theorem sg_73_0_1024_1_0_1 : ((73, 0, 1024, 1, 0, 1, (-400), 255) : jSg) ∈ jSgX := List.mem_of_getElem? (i := 141) rfl
theorem sg_74_0_16_1_0_1 : ((74, 0, 16, 1, 0, 1, 0, 8) : jSg) ∈ jSgX := List.mem_of_getElem? (i := 142) rfl
theorem sg_76_0_1200_1_0_1 : ((76, 0, 1200, 1, 0, 1, (-1), 36) : jSg) ∈ jSgX := List.mem_of_getElem? (i := 143) rfl
theorem sg_77_0_1200_1_0_1 : ((77, 0, 1200, 1, 0, 1, 0, 1) : jSg) ∈ jSgX := List.mem_of_getElem? (i := 144) rfl
theorem sg_78_2_3_1_0_1 : ((78, 2, 3, 1, 0, 1, 0, 100) : jSg) ∈ jSgX := List.mem_of_getElem? (i := 145) rfl
theorem sg_78_3_4_1_0_1 : ((78, 3, 4, 1, 0, 1, 0, 100) : jSg) ∈ jSgX := List.mem_of_getElem? (i := 146) rfl
theorem sg_78_4_5_1_0_1 : ((78, 4, 5, 1, 0, 1, 0, 100) : jSg) ∈ jSgX := List.mem_of_getElem? (i := 147) rfl
theorem sg_78_5_6_1_0_1 : ((78, 5, 6, 1, 0, 1, 0, 100) : jSg) ∈ jSgX := List.mem_of_getElem? (i := 148) rfl
theorem sg_78_6_7_1_0_1 : ((78, 6, 7, 1, 0, 1, 0, 20) : jSg) ∈ jSgX := List.mem_of_getElem? (i := 149) rfl
theorem sg_78_13_14_1_0_1 : ((78, 13, 14, 1, 0, 1, 0, 200) : jSg) ∈ jSgX := List.mem_of_getElem? (i := 150) rfl
theorem sg_79_0_600_1_0_1 : ((79, 0, 600, 1, 0, 1, (-1), 10) : jSg) ∈ jSgX := List.mem_of_getElem? (i := 151) rfl
theorem sg_80_0_600_1_0_1 : ((80, 0, 600, 1, 0, 1, 0, 146399) : jSg) ∈ jSgX := List.mem_of_getElem? (i := 152) rfl
theorem sg_82_0_600_1_0_1 : ((82, 0, 600, 1, 0, 1, (-1), 599) : jSg) ∈ jSgX := List.mem_of_getElem? (i := 153) rfl
theorem sg_83_0_600_1_0_1 : ((83, 0, 600, 1, 0, 1, (-1), 599) : jSg) ∈ jSgX := List.mem_of_getElem? (i := 154) rfl
theorem sg_84_0_200_1_0_1 : ((84, 0, 200, 1, 0, 1, 0, 199) : jSg) ∈ jSgX := List.mem_of_getElem? (i := 155) rfl
theorem sg_87_3_4_1_0_1 : ((87, 3, 4, 1, 0, 1, 0, 9) : jSg) ∈ jSgX := List.mem_of_getElem? (i := 156) rfl
theorem sg_87_10_11_1_0_1 : ((87, 10, 11, 1, 0, 1, (-1), 2147483647) : jSg) ∈ jSgX := List.mem_of_getElem? (i := 157) rfl
theorem sg_87_11_12_1_0_1 : ((87, 11, 12, 1, 0, 1, 0, 9) : jSg) ∈ jSgX := List.mem_of_getElem? (i := 158) rfl
theorem sg_88_0_9_1_0_1 : ((88, 0, 9, 1, 0, 1, 0, 599) : jSg) ∈ jSgX := List.mem_of_getElem? (i := 159) rfl
theorem sg_89_0_81_1_0_1 : ((89, 0, 81, 1, 0, 1, (-1), 400) : jSg) ∈ jSgX := List.mem_of_getElem? (i := 160) rfl
theorem sg_90_0_9_1_0_1 : ((90, 0, 9, 1, 0, 1, (-1), 7) : jSg) ∈ jSgX := List.mem_of_getElem? (i := 161) rfl
theorem sg_91_0_9_1_0_1 : ((91, 0, 9, 1, 0, 1, 0, 8) : jSg) ∈ jSgX := List.mem_of_getElem? (i := 162) rfl
theorem sg_92_0_9_1_0_1 : ((92, 0, 9, 1, 0, 1, 0, 8) : jSg) ∈ jSgX := List.mem_of_getElem? (i := 163) rfl
theorem sg_95_3_4_1_0_1 : ((95, 3, 4, 1, 0, 1, 0, 12) : jSg) ∈ jSgX := List.mem_of_getElem? (i := 164) rfl
theorem sg_95_4_5_1_0_1 : ((95, 4, 5, 1, 0, 1, 0, 1200) : jSg) ∈ jSgX := List.mem_of_getElem? (i := 165) rfl
theorem sg_95_5_6_1_0_1 : ((95, 5, 6, 1, 0, 1, 0, 60) : jSg) ∈ jSgX := List.mem_of_getElem? (i := 166) rfl
theorem sg_98_10_11_1_0_1 : ((98, 10, 11, 1, 0, 1, 0, 146399) : jSg) ∈ jSgX := List.mem_of_getElem? (i := 167) rfl
theorem sg_98_11_12_1_0_1 : ((98, 11, 12, 1, 0, 1, 0, 146399) : jSg) ∈ jSgX := List.mem_of_getElem? (i := 168) rfl
theorem sg_98_13_14_1_0_1 : ((98, 13, 14, 1, 0, 1, (-1), 359) : jSg) ∈ jSgX := List.mem_of_getElem? (i := 169) rfl
theorem sg_103_0_40_1_0_1 : ((103, 0, 40, 1, 0, 1, (-1), 599) : jSg) ∈ jSgX := List.mem_of_getElem? (i := 170) rfl
theorem sg_104_0_40_1_0_1 : ((104, 0, 40, 1, 0, 1, (-1), 146399) : jSg) ∈ jSgX := List.mem_of_getElem? (i := 171) rfl
theorem sg_107_9_10_1_0_1 : ((107, 9, 10, 1, 0, 1, 0, 40) : jSg) ∈ jSgX := List.mem_of_getElem? (i := 172) rfl
theorem sg_107_15_16_1_0_1 : ((107, 15, 16, 1, 0, 1, 0, 400) : jSg) ∈ jSgX := List.mem_of_getElem? (i := 173) rfl
theorem sg_107_16_17_1_0_1 : ((107, 16, 17, 1, 0, 1, (-1), 39) : jSg) ∈ jSgX := List.mem_of_getElem? (i := 174) rfl
theorem sg_112_0_40_1_0_1 : ((112, 0, 40, 1, 0, 1, 0, 39) : jSg) ∈ jSgX := List.mem_of_getElem? (i := 175) rfl
theorem sg_115_0_400_1_0_1 : ((115, 0, 400, 1, 0, 1, (-1), 39) : jSg) ∈ jSgX := List.mem_of_getElem? (i := 176) rfl
theorem sg_116_0_400_1_0_1 : ((116, 0, 400, 1, 0, 1, 0, 40) : jSg) ∈ jSgX := List.mem_of_getElem? (i := 177) rfl
theorem sg_117_0_40_1_0_1 : ((117, 0, 40, 1, 0, 1, (-1), 399) : jSg) ∈ jSgX := List.mem_of_getElem? (i := 178) rfl
theorem sg_120_5_6_1_0_1 : ((120, 5, 6, 1, 0, 1, 0, 146399) : jSg) ∈ jSgX := List.mem_of_getElem? (i := 179) rfl
theorem sg_120_6_7_1_0_1 : ((120, 6, 7, 1, 0, 1, (-1), 359) : jSg) ∈ jSgX := List.mem_of_getElem? (i := 180) rfl
theorem sg_122_0_42_1_0_1 : ((122, 0, 42, 1, 0, 1, 0, 359) : jSg) ∈ jSgX := List.mem_of_getElem? (i := 181) rfl
theorem sg_123_0_120_1_0_1 : ((123, 0, 120, 1, 0, 1, 0, 1000) : jSg) ∈ jSgX := List.mem_of_getElem? (i := 182) rfl
theorem jw_of {Sg L : List jSg} {a : Nat} {P : jSg → Prop} (e : Sg.filter (fun s => Nat.beq s.1 a) = L) (h : ∀ s ∈ L, P s) : ∀ s ∈ Sg, s.1 = a → P s := fun s hs ha => h s (e ▸ List.mem_filter.mpr ⟨hs, by rw [ha]; exact Nat.beq_refl a⟩)
set_option maxRecDepth 100000 in
theorem wr_34 {m w : Int} (h0 : ((0 : Nat) : Int) ≤ m → m < ((1200 : Nat) : Int) → ((0 : Nat) : Int) ≤ (m - ((0 : Nat) : Int)) % ((6 : Nat) : Int) → (m - ((0 : Nat) : Int)) % ((6 : Nat) : Int) < ((1 : Nat) : Int) → 0 ≤ w ∧ w ≤ 146399) (h1 : ((0 : Nat) : Int) ≤ m → m < ((1200 : Nat) : Int) → ((1 : Nat) : Int) ≤ (m - ((0 : Nat) : Int)) % ((6 : Nat) : Int) → (m - ((0 : Nat) : Int)) % ((6 : Nat) : Int) < ((2 : Nat) : Int) → 0 ≤ w ∧ w ≤ 146399) (h2 : ((0 : Nat) : Int) ≤ m → m < ((1200 : Nat) : Int) → ((2 : Nat) : Int) ≤ (m - ((0 : Nat) : Int)) % ((6 : Nat) : Int) → (m - ((0 : Nat) : Int)) % ((6 : Nat) : Int) < ((3 : Nat) : Int) → 0 ≤ w ∧ w ≤ 5) (h3 : ((0 : Nat) : Int) ≤ m → m < ((1200 : Nat) : Int) → ((3 : Nat) : Int) ≤ (m - ((0 : Nat) : Int)) % ((6 : Nat) : Int) → (m - ((0 : Nat) : Int)) % ((6 : Nat) : Int) < ((4 : Nat) : Int) → 0 ≤ w ∧ w ≤ 15) (h4 : ((0 : Nat) : Int) ≤ m → m < ((1200 : Nat) : Int) → ((5 : Nat) : Int) ≤ (m - ((0 : Nat) : Int)) % ((6 : Nat) : Int) → (m - ((0 : Nat) : Int)) % ((6 : Nat) : Int) < ((6 : Nat) : Int) → 0 ≤ w ∧ w ≤ 1) : jwr jSgX 34 m w := jw_of (L := [(34, 0, 1200, 6, 0, 1, 0, 146399), (34, 0, 1200, 6, 1, 2, 0, 146399), (34, 0, 1200, 6, 2, 3, 0, 5), (34, 0, 1200, 6, 3, 4, 0, 15), (34, 0, 1200, 6, 5, 6, 0, 1)]) rfl (List.forall_mem_cons.mpr ⟨h0, List.forall_mem_cons.mpr ⟨h1, List.forall_mem_cons.mpr ⟨h2, List.forall_mem_cons.mpr ⟨h3, List.forall_mem_cons.mpr ⟨h4, fun _ h => absurd h List.not_mem_nil⟩⟩⟩⟩⟩)
set_option maxRecDepth 100000 in
theorem wr_38 {m w : Int} (h0 : ((0 : Nat) : Int) ≤ m → m < ((120 : Nat) : Int) → ((0 : Nat) : Int) ≤ (m - ((0 : Nat) : Int)) % ((2 : Nat) : Int) → (m - ((0 : Nat) : Int)) % ((2 : Nat) : Int) < ((1 : Nat) : Int) → 0 ≤ w ∧ w ≤ 599) (h1 : ((0 : Nat) : Int) ≤ m → m < ((120 : Nat) : Int) → ((1 : Nat) : Int) ≤ (m - ((0 : Nat) : Int)) % ((2 : Nat) : Int) → (m - ((0 : Nat) : Int)) % ((2 : Nat) : Int) < ((2 : Nat) : Int) → 0 ≤ w ∧ w ≤ 599) : jwr jSgX 38 m w := jw_of (L := [(38, 0, 120, 2, 0, 1, 0, 599), (38, 0, 120, 2, 1, 2, 0, 599)]) rfl (List.forall_mem_cons.mpr ⟨h0, List.forall_mem_cons.mpr ⟨h1, fun _ h => absurd h List.not_mem_nil⟩⟩)
set_option maxRecDepth 100000 in
theorem wr_40 {m w : Int} (h0 : ((0 : Nat) : Int) ≤ m → m < ((600 : Nat) : Int) → ((0 : Nat) : Int) ≤ (m - ((0 : Nat) : Int)) % ((3 : Nat) : Int) → (m - ((0 : Nat) : Int)) % ((3 : Nat) : Int) < ((1 : Nat) : Int) → 0 ≤ w ∧ w ≤ 146399) (h1 : ((0 : Nat) : Int) ≤ m → m < ((600 : Nat) : Int) → ((1 : Nat) : Int) ≤ (m - ((0 : Nat) : Int)) % ((3 : Nat) : Int) → (m - ((0 : Nat) : Int)) % ((3 : Nat) : Int) < ((2 : Nat) : Int) → (-1) ≤ w ∧ w ≤ 599) (h2 : ((0 : Nat) : Int) ≤ m → m < ((600 : Nat) : Int) → ((2 : Nat) : Int) ≤ (m - ((0 : Nat) : Int)) % ((3 : Nat) : Int) → (m - ((0 : Nat) : Int)) % ((3 : Nat) : Int) < ((3 : Nat) : Int) → (-1) ≤ w ∧ w ≤ 599) : jwr jSgX 40 m w := jw_of (L := [(40, 0, 600, 3, 0, 1, 0, 146399), (40, 0, 600, 3, 1, 2, (-1), 599), (40, 0, 600, 3, 2, 3, (-1), 599)]) rfl (List.forall_mem_cons.mpr ⟨h0, List.forall_mem_cons.mpr ⟨h1, List.forall_mem_cons.mpr ⟨h2, fun _ h => absurd h List.not_mem_nil⟩⟩⟩)
set_option maxRecDepth 100000 in
theorem wr_42 {m w : Int} (h0 : ((0 : Nat) : Int) ≤ m → m < ((80 : Nat) : Int) → ((0 : Nat) : Int) ≤ (m - ((0 : Nat) : Int)) % ((4 : Nat) : Int) → (m - ((0 : Nat) : Int)) % ((4 : Nat) : Int) < ((1 : Nat) : Int) → 0 ≤ w ∧ w ≤ 146399) (h1 : ((0 : Nat) : Int) ≤ m → m < ((80 : Nat) : Int) → ((1 : Nat) : Int) ≤ (m - ((0 : Nat) : Int)) % ((4 : Nat) : Int) → (m - ((0 : Nat) : Int)) % ((4 : Nat) : Int) < ((2 : Nat) : Int) → 0 ≤ w ∧ w ≤ 146399) (h2 : ((0 : Nat) : Int) ≤ m → m < ((80 : Nat) : Int) → ((2 : Nat) : Int) ≤ (m - ((0 : Nat) : Int)) % ((4 : Nat) : Int) → (m - ((0 : Nat) : Int)) % ((4 : Nat) : Int) < ((3 : Nat) : Int) → 0 ≤ w ∧ w ≤ 146399) (h3 : ((0 : Nat) : Int) ≤ m → m < ((80 : Nat) : Int) → ((3 : Nat) : Int) ≤ (m - ((0 : Nat) : Int)) % ((4 : Nat) : Int) → (m - ((0 : Nat) : Int)) % ((4 : Nat) : Int) < ((4 : Nat) : Int) → 0 ≤ w ∧ w ≤ 5) : jwr jSgX 42 m w := jw_of (L := [(42, 0, 80, 4, 0, 1, 0, 146399), (42, 0, 80, 4, 1, 2, 0, 146399), (42, 0, 80, 4, 2, 3, 0, 146399), (42, 0, 80, 4, 3, 4, 0, 5)]) rfl (List.forall_mem_cons.mpr ⟨h0, List.forall_mem_cons.mpr ⟨h1, List.forall_mem_cons.mpr ⟨h2, List.forall_mem_cons.mpr ⟨h3, fun _ h => absurd h List.not_mem_nil⟩⟩⟩⟩)
set_option maxRecDepth 100000 in
theorem wr_44 {m w : Int} (h0 : ((0 : Nat) : Int) ≤ m → m < ((600 : Nat) : Int) → ((0 : Nat) : Int) ≤ (m - ((0 : Nat) : Int)) % ((6 : Nat) : Int) → (m - ((0 : Nat) : Int)) % ((6 : Nat) : Int) < ((1 : Nat) : Int) → 0 ≤ w ∧ w ≤ 146399) (h1 : ((0 : Nat) : Int) ≤ m → m < ((600 : Nat) : Int) → ((1 : Nat) : Int) ≤ (m - ((0 : Nat) : Int)) % ((6 : Nat) : Int) → (m - ((0 : Nat) : Int)) % ((6 : Nat) : Int) < ((2 : Nat) : Int) → 0 ≤ w ∧ w ≤ 146399) (h2 : ((0 : Nat) : Int) ≤ m → m < ((600 : Nat) : Int) → ((2 : Nat) : Int) ≤ (m - ((0 : Nat) : Int)) % ((6 : Nat) : Int) → (m - ((0 : Nat) : Int)) % ((6 : Nat) : Int) < ((3 : Nat) : Int) → 0 ≤ w ∧ w ≤ 146399) (h3 : ((0 : Nat) : Int) ≤ m → m < ((600 : Nat) : Int) → ((3 : Nat) : Int) ≤ (m - ((0 : Nat) : Int)) % ((6 : Nat) : Int) → (m - ((0 : Nat) : Int)) % ((6 : Nat) : Int) < ((4 : Nat) : Int) → 0 ≤ w ∧ w ≤ 599) (h4 : ((0 : Nat) : Int) ≤ m → m < ((600 : Nat) : Int) → ((4 : Nat) : Int) ≤ (m - ((0 : Nat) : Int)) % ((6 : Nat) : Int) → (m - ((0 : Nat) : Int)) % ((6 : Nat) : Int) < ((5 : Nat) : Int) → 0 ≤ w ∧ w ≤ 4) (h5 : ((0 : Nat) : Int) ≤ m → m < ((600 : Nat) : Int) → ((5 : Nat) : Int) ≤ (m - ((0 : Nat) : Int)) % ((6 : Nat) : Int) → (m - ((0 : Nat) : Int)) % ((6 : Nat) : Int) < ((6 : Nat) : Int) → 0 ≤ w ∧ w ≤ 11) : jwr jSgX 44 m w := jw_of (L := [(44, 0, 600, 6, 0, 1, 0, 146399), (44, 0, 600, 6, 1, 2, 0, 146399), (44, 0, 600, 6, 2, 3, 0, 146399), (44, 0, 600, 6, 3, 4, 0, 599), (44, 0, 600, 6, 4, 5, 0, 4), (44, 0, 600, 6, 5, 6, 0, 11)]) rfl (List.forall_mem_cons.mpr ⟨h0, List.forall_mem_cons.mpr ⟨h1, List.forall_mem_cons.mpr ⟨h2, List.forall_mem_cons.mpr ⟨h3, List.forall_mem_cons.mpr ⟨h4, List.forall_mem_cons.mpr ⟨h5, fun _ h => absurd h List.not_mem_nil⟩⟩⟩⟩⟩⟩)
set_option maxRecDepth 100000 in
theorem wr_46 {m w : Int} (h0 : ((0 : Nat) : Int) ≤ m → m < ((120 : Nat) : Int) → ((0 : Nat) : Int) ≤ (m - ((0 : Nat) : Int)) % ((3 : Nat) : Int) → (m - ((0 : Nat) : Int)) % ((3 : Nat) : Int) < ((1 : Nat) : Int) → 0 ≤ w ∧ w ≤ 146399) (h1 : ((0 : Nat) : Int) ≤ m → m < ((120 : Nat) : Int) → ((1 : Nat) : Int) ≤ (m - ((0 : Nat) : Int)) % ((3 : Nat) : Int) → (m - ((0 : Nat) : Int)) % ((3 : Nat) : Int) < ((2 : Nat) : Int) → 0 ≤ w ∧ w ≤ 146399) (h2 : ((0 : Nat) : Int) ≤ m → m < ((120 : Nat) : Int) → ((2 : Nat) : Int) ≤ (m - ((0 : Nat) : Int)) % ((3 : Nat) : Int) → (m - ((0 : Nat) : Int)) % ((3 : Nat) : Int) < ((3 : Nat) : Int) → 0 ≤ w ∧ w ≤ 199) : jwr jSgX 46 m w := jw_of (L := [(46, 0, 120, 3, 0, 1, 0, 146399), (46, 0, 120, 3, 1, 2, 0, 146399), (46, 0, 120, 3, 2, 3, 0, 199)]) rfl (List.forall_mem_cons.mpr ⟨h0, List.forall_mem_cons.mpr ⟨h1, List.forall_mem_cons.mpr ⟨h2, fun _ h => absurd h List.not_mem_nil⟩⟩⟩)
set_option maxRecDepth 100000 in
theorem wr_48 {m w : Int} (h0 : ((0 : Nat) : Int) ≤ m → m < ((400 : Nat) : Int) → ((0 : Nat) : Int) ≤ (m - ((0 : Nat) : Int)) % ((4 : Nat) : Int) → (m - ((0 : Nat) : Int)) % ((4 : Nat) : Int) < ((1 : Nat) : Int) → 0 ≤ w ∧ w ≤ 146399) (h1 : ((0 : Nat) : Int) ≤ m → m < ((400 : Nat) : Int) → ((1 : Nat) : Int) ≤ (m - ((0 : Nat) : Int)) % ((4 : Nat) : Int) → (m - ((0 : Nat) : Int)) % ((4 : Nat) : Int) < ((2 : Nat) : Int) → 0 ≤ w ∧ w ≤ 146399) (h2 : ((0 : Nat) : Int) ≤ m → m < ((400 : Nat) : Int) → ((2 : Nat) : Int) ≤ (m - ((0 : Nat) : Int)) % ((4 : Nat) : Int) → (m - ((0 : Nat) : Int)) % ((4 : Nat) : Int) < ((3 : Nat) : Int) → 0 ≤ w ∧ w ≤ 39) (h3 : ((0 : Nat) : Int) ≤ m → m < ((400 : Nat) : Int) → ((3 : Nat) : Int) ≤ (m - ((0 : Nat) : Int)) % ((4 : Nat) : Int) → (m - ((0 : Nat) : Int)) % ((4 : Nat) : Int) < ((4 : Nat) : Int) → 0 ≤ w ∧ w ≤ 10000) : jwr jSgX 48 m w := jw_of (L := [(48, 0, 400, 4, 0, 1, 0, 146399), (48, 0, 400, 4, 1, 2, 0, 146399), (48, 0, 400, 4, 2, 3, 0, 39), (48, 0, 400, 4, 3, 4, 0, 10000)]) rfl (List.forall_mem_cons.mpr ⟨h0, List.forall_mem_cons.mpr ⟨h1, List.forall_mem_cons.mpr ⟨h2, List.forall_mem_cons.mpr ⟨h3, fun _ h => absurd h List.not_mem_nil⟩⟩⟩⟩)
set_option maxRecDepth 100000 in
theorem wr_50 {m w : Int} (h0 : ((0 : Nat) : Int) ≤ m → m < ((200 : Nat) : Int) → ((0 : Nat) : Int) ≤ (m - ((0 : Nat) : Int)) % ((5 : Nat) : Int) → (m - ((0 : Nat) : Int)) % ((5 : Nat) : Int) < ((1 : Nat) : Int) → 0 ≤ w ∧ w ≤ 146399) (h1 : ((0 : Nat) : Int) ≤ m → m < ((200 : Nat) : Int) → ((1 : Nat) : Int) ≤ (m - ((0 : Nat) : Int)) % ((5 : Nat) : Int) → (m - ((0 : Nat) : Int)) % ((5 : Nat) : Int) < ((2 : Nat) : Int) → 0 ≤ w ∧ w ≤ 146399) (h2 : ((0 : Nat) : Int) ≤ m → m < ((200 : Nat) : Int) → ((2 : Nat) : Int) ≤ (m - ((0 : Nat) : Int)) % ((5 : Nat) : Int) → (m - ((0 : Nat) : Int)) % ((5 : Nat) : Int) < ((3 : Nat) : Int) → (-1) ≤ w ∧ w ≤ 39) (h3 : ((0 : Nat) : Int) ≤ m → m < ((200 : Nat) : Int) → ((3 : Nat) : Int) ≤ (m - ((0 : Nat) : Int)) % ((5 : Nat) : Int) → (m - ((0 : Nat) : Int)) % ((5 : Nat) : Int) < ((4 : Nat) : Int) → 0 ≤ w ∧ w ≤ 99) (h4 : ((0 : Nat) : Int) ≤ m → m < ((200 : Nat) : Int) → ((4 : Nat) : Int) ≤ (m - ((0 : Nat) : Int)) % ((5 : Nat) : Int) → (m - ((0 : Nat) : Int)) % ((5 : Nat) : Int) < ((5 : Nat) : Int) → 0 ≤ w ∧ w ≤ 100) : jwr jSgX 50 m w := jw_of (L := [(50, 0, 200, 5, 0, 1, 0, 146399), (50, 0, 200, 5, 1, 2, 0, 146399), (50, 0, 200, 5, 2, 3, (-1), 39), (50, 0, 200, 5, 3, 4, 0, 99), (50, 0, 200, 5, 4, 5, 0, 100)]) rfl (List.forall_mem_cons.mpr ⟨h0, List.forall_mem_cons.mpr ⟨h1, List.forall_mem_cons.mpr ⟨h2, List.forall_mem_cons.mpr ⟨h3, List.forall_mem_cons.mpr ⟨h4, fun _ h => absurd h List.not_mem_nil⟩⟩⟩⟩⟩)
set_option maxRecDepth 100000 in
theorem wr_52 {m w : Int} (h0 : ((0 : Nat) : Int) ≤ m → m < ((400 : Nat) : Int) → ((0 : Nat) : Int) ≤ (m - ((0 : Nat) : Int)) % ((4 : Nat) : Int) → (m - ((0 : Nat) : Int)) % ((4 : Nat) : Int) < ((1 : Nat) : Int) → 0 ≤ w ∧ w ≤ 146399) (h1 : ((0 : Nat) : Int) ≤ m → m < ((400 : Nat) : Int) → ((1 : Nat) : Int) ≤ (m - ((0 : Nat) : Int)) % ((4 : Nat) : Int) → (m - ((0 : Nat) : Int)) % ((4 : Nat) : Int) < ((2 : Nat) : Int) → 0 ≤ w ∧ w ≤ 146399) (h2 : ((0 : Nat) : Int) ≤ m → m < ((400 : Nat) : Int) → ((2 : Nat) : Int) ≤ (m - ((0 : Nat) : Int)) % ((4 : Nat) : Int) → (m - ((0 : Nat) : Int)) % ((4 : Nat) : Int) < ((3 : Nat) : Int) → 0 ≤ w ∧ w ≤ 39) (h3 : ((0 : Nat) : Int) ≤ m → m < ((400 : Nat) : Int) → ((3 : Nat) : Int) ≤ (m - ((0 : Nat) : Int)) % ((4 : Nat) : Int) → (m - ((0 : Nat) : Int)) % ((4 : Nat) : Int) < ((4 : Nat) : Int) → (-1) ≤ w ∧ w ≤ 599) : jwr jSgX 52 m w := jw_of (L := [(52, 0, 400, 4, 0, 1, 0, 146399), (52, 0, 400, 4, 1, 2, 0, 146399), (52, 0, 400, 4, 2, 3, 0, 39), (52, 0, 400, 4, 3, 4, (-1), 599)]) rfl (List.forall_mem_cons.mpr ⟨h0, List.forall_mem_cons.mpr ⟨h1, List.forall_mem_cons.mpr ⟨h2, List.forall_mem_cons.mpr ⟨h3, fun _ h => absurd h List.not_mem_nil⟩⟩⟩⟩)
set_option maxRecDepth 100000 in
theorem wr_54 {m w : Int} (h0 : ((0 : Nat) : Int) ≤ m → m < ((160 : Nat) : Int) → ((0 : Nat) : Int) ≤ (m - ((0 : Nat) : Int)) % ((4 : Nat) : Int) → (m - ((0 : Nat) : Int)) % ((4 : Nat) : Int) < ((1 : Nat) : Int) → 0 ≤ w ∧ w ≤ 146399) (h1 : ((0 : Nat) : Int) ≤ m → m < ((160 : Nat) : Int) → ((1 : Nat) : Int) ≤ (m - ((0 : Nat) : Int)) % ((4 : Nat) : Int) → (m - ((0 : Nat) : Int)) % ((4 : Nat) : Int) < ((2 : Nat) : Int) → 0 ≤ w ∧ w ≤ 399) (h2 : ((0 : Nat) : Int) ≤ m → m < ((160 : Nat) : Int) → ((2 : Nat) : Int) ≤ (m - ((0 : Nat) : Int)) % ((4 : Nat) : Int) → (m - ((0 : Nat) : Int)) % ((4 : Nat) : Int) < ((3 : Nat) : Int) → 0 ≤ w ∧ w ≤ 2) (h3 : ((0 : Nat) : Int) ≤ m → m < ((160 : Nat) : Int) → ((3 : Nat) : Int) ≤ (m - ((0 : Nat) : Int)) % ((4 : Nat) : Int) → (m - ((0 : Nat) : Int)) % ((4 : Nat) : Int) < ((4 : Nat) : Int) → 0 ≤ w ∧ w ≤ 1000000) : jwr jSgX 54 m w := jw_of (L := [(54, 0, 160, 4, 0, 1, 0, 146399), (54, 0, 160, 4, 1, 2, 0, 399), (54, 0, 160, 4, 2, 3, 0, 2), (54, 0, 160, 4, 3, 4, 0, 1000000)]) rfl (List.forall_mem_cons.mpr ⟨h0, List.forall_mem_cons.mpr ⟨h1, List.forall_mem_cons.mpr ⟨h2, List.forall_mem_cons.mpr ⟨h3, fun _ h => absurd h List.not_mem_nil⟩⟩⟩⟩)
set_option maxRecDepth 100000 in
theorem wr_56 {m w : Int} (h0 : ((0 : Nat) : Int) ≤ m → m < ((500 : Nat) : Int) → ((0 : Nat) : Int) ≤ (m - ((0 : Nat) : Int)) % ((5 : Nat) : Int) → (m - ((0 : Nat) : Int)) % ((5 : Nat) : Int) < ((1 : Nat) : Int) → 0 ≤ w ∧ w ≤ 146399) (h1 : ((0 : Nat) : Int) ≤ m → m < ((500 : Nat) : Int) → ((1 : Nat) : Int) ≤ (m - ((0 : Nat) : Int)) % ((5 : Nat) : Int) → (m - ((0 : Nat) : Int)) % ((5 : Nat) : Int) < ((2 : Nat) : Int) → 0 ≤ w ∧ w ≤ 146399) (h2 : ((0 : Nat) : Int) ≤ m → m < ((500 : Nat) : Int) → ((2 : Nat) : Int) ≤ (m - ((0 : Nat) : Int)) % ((5 : Nat) : Int) → (m - ((0 : Nat) : Int)) % ((5 : Nat) : Int) < ((3 : Nat) : Int) → 0 ≤ w ∧ w ≤ 39) (h3 : ((0 : Nat) : Int) ≤ m → m < ((500 : Nat) : Int) → ((3 : Nat) : Int) ≤ (m - ((0 : Nat) : Int)) % ((5 : Nat) : Int) → (m - ((0 : Nat) : Int)) % ((5 : Nat) : Int) < ((4 : Nat) : Int) → 0 ≤ w ∧ w ≤ 39) (h4 : ((0 : Nat) : Int) ≤ m → m < ((500 : Nat) : Int) → ((4 : Nat) : Int) ≤ (m - ((0 : Nat) : Int)) % ((5 : Nat) : Int) → (m - ((0 : Nat) : Int)) % ((5 : Nat) : Int) < ((5 : Nat) : Int) → 0 ≤ w ∧ w ≤ 1000000) : jwr jSgX 56 m w := jw_of (L := [(56, 0, 500, 5, 0, 1, 0, 146399), (56, 0, 500, 5, 1, 2, 0, 146399), (56, 0, 500, 5, 2, 3, 0, 39), (56, 0, 500, 5, 3, 4, 0, 39), (56, 0, 500, 5, 4, 5, 0, 1000000)]) rfl (List.forall_mem_cons.mpr ⟨h0, List.forall_mem_cons.mpr ⟨h1, List.forall_mem_cons.mpr ⟨h2, List.forall_mem_cons.mpr ⟨h3, List.forall_mem_cons.mpr ⟨h4, fun _ h => absurd h List.not_mem_nil⟩⟩⟩⟩⟩)
set_option maxRecDepth 100000 in
theorem wr_58 {m w : Int} (h0 : ((0 : Nat) : Int) ≤ m → m < ((400 : Nat) : Int) → ((0 : Nat) : Int) ≤ (m - ((0 : Nat) : Int)) % ((4 : Nat) : Int) → (m - ((0 : Nat) : Int)) % ((4 : Nat) : Int) < ((1 : Nat) : Int) → 0 ≤ w ∧ w ≤ 146399) (h1 : ((0 : Nat) : Int) ≤ m → m < ((400 : Nat) : Int) → ((1 : Nat) : Int) ≤ (m - ((0 : Nat) : Int)) % ((4 : Nat) : Int) → (m - ((0 : Nat) : Int)) % ((4 : Nat) : Int) < ((2 : Nat) : Int) → 0 ≤ w ∧ w ≤ 399) (h2 : ((0 : Nat) : Int) ≤ m → m < ((400 : Nat) : Int) → ((2 : Nat) : Int) ≤ (m - ((0 : Nat) : Int)) % ((4 : Nat) : Int) → (m - ((0 : Nat) : Int)) % ((4 : Nat) : Int) < ((3 : Nat) : Int) → 0 ≤ w ∧ w ≤ 3) (h3 : ((0 : Nat) : Int) ≤ m → m < ((400 : Nat) : Int) → ((3 : Nat) : Int) ≤ (m - ((0 : Nat) : Int)) % ((4 : Nat) : Int) → (m - ((0 : Nat) : Int)) % ((4 : Nat) : Int) < ((4 : Nat) : Int) → (-1000000) ≤ w ∧ w ≤ 1000000) : jwr jSgX 58 m w := jw_of (L := [(58, 0, 400, 4, 0, 1, 0, 146399), (58, 0, 400, 4, 1, 2, 0, 399), (58, 0, 400, 4, 2, 3, 0, 3), (58, 0, 400, 4, 3, 4, (-1000000), 1000000)]) rfl (List.forall_mem_cons.mpr ⟨h0, List.forall_mem_cons.mpr ⟨h1, List.forall_mem_cons.mpr ⟨h2, List.forall_mem_cons.mpr ⟨h3, fun _ h => absurd h List.not_mem_nil⟩⟩⟩⟩)
set_option maxRecDepth 100000 in
theorem wr_60 {m w : Int} (h0 : ((0 : Nat) : Int) ≤ m → m < ((160 : Nat) : Int) → ((0 : Nat) : Int) ≤ (m - ((0 : Nat) : Int)) % ((4 : Nat) : Int) → (m - ((0 : Nat) : Int)) % ((4 : Nat) : Int) < ((1 : Nat) : Int) → 0 ≤ w ∧ w ≤ 146399) (h1 : ((0 : Nat) : Int) ≤ m → m < ((160 : Nat) : Int) → ((1 : Nat) : Int) ≤ (m - ((0 : Nat) : Int)) % ((4 : Nat) : Int) → (m - ((0 : Nat) : Int)) % ((4 : Nat) : Int) < ((2 : Nat) : Int) → 0 ≤ w ∧ w ≤ 399) (h2 : ((0 : Nat) : Int) ≤ m → m < ((160 : Nat) : Int) → ((2 : Nat) : Int) ≤ (m - ((0 : Nat) : Int)) % ((4 : Nat) : Int) → (m - ((0 : Nat) : Int)) % ((4 : Nat) : Int) < ((3 : Nat) : Int) → 0 ≤ w ∧ w ≤ 3) : jwr jSgX 60 m w := jw_of (L := [(60, 0, 160, 4, 0, 1, 0, 146399), (60, 0, 160, 4, 1, 2, 0, 399), (60, 0, 160, 4, 2, 3, 0, 3)]) rfl (List.forall_mem_cons.mpr ⟨h0, List.forall_mem_cons.mpr ⟨h1, List.forall_mem_cons.mpr ⟨h2, fun _ h => absurd h List.not_mem_nil⟩⟩⟩)
set_option maxRecDepth 100000 in
theorem wr_62 {m w : Int} (h0 : ((0 : Nat) : Int) ≤ m → m < ((400 : Nat) : Int) → ((0 : Nat) : Int) ≤ (m - ((0 : Nat) : Int)) % ((4 : Nat) : Int) → (m - ((0 : Nat) : Int)) % ((4 : Nat) : Int) < ((1 : Nat) : Int) → 0 ≤ w ∧ w ≤ 146399) (h1 : ((0 : Nat) : Int) ≤ m → m < ((400 : Nat) : Int) → ((1 : Nat) : Int) ≤ (m - ((0 : Nat) : Int)) % ((4 : Nat) : Int) → (m - ((0 : Nat) : Int)) % ((4 : Nat) : Int) < ((2 : Nat) : Int) → 0 ≤ w ∧ w ≤ 399) (h2 : ((0 : Nat) : Int) ≤ m → m < ((400 : Nat) : Int) → ((2 : Nat) : Int) ≤ (m - ((0 : Nat) : Int)) % ((4 : Nat) : Int) → (m - ((0 : Nat) : Int)) % ((4 : Nat) : Int) < ((3 : Nat) : Int) → 0 ≤ w ∧ w ≤ 2) (h3 : ((0 : Nat) : Int) ≤ m → m < ((400 : Nat) : Int) → ((3 : Nat) : Int) ≤ (m - ((0 : Nat) : Int)) % ((4 : Nat) : Int) → (m - ((0 : Nat) : Int)) % ((4 : Nat) : Int) < ((4 : Nat) : Int) → 0 ≤ w ∧ w ≤ 10000) : jwr jSgX 62 m w := jw_of (L := [(62, 0, 400, 4, 0, 1, 0, 146399), (62, 0, 400, 4, 1, 2, 0, 399), (62, 0, 400, 4, 2, 3, 0, 2), (62, 0, 400, 4, 3, 4, 0, 10000)]) rfl (List.forall_mem_cons.mpr ⟨h0, List.forall_mem_cons.mpr ⟨h1, List.forall_mem_cons.mpr ⟨h2, List.forall_mem_cons.mpr ⟨h3, fun _ h => absurd h List.not_mem_nil⟩⟩⟩⟩)
set_option maxRecDepth 100000 in
theorem wr_64 {m w : Int} (h0 : ((0 : Nat) : Int) ≤ m → m < ((740 : Nat) : Int) → ((0 : Nat) : Int) ≤ (m - ((0 : Nat) : Int)) % ((2 : Nat) : Int) → (m - ((0 : Nat) : Int)) % ((2 : Nat) : Int) < ((1 : Nat) : Int) → 0 ≤ w ∧ w ≤ 3) (h1 : ((0 : Nat) : Int) ≤ m → m < ((740 : Nat) : Int) → ((1 : Nat) : Int) ≤ (m - ((0 : Nat) : Int)) % ((2 : Nat) : Int) → (m - ((0 : Nat) : Int)) % ((2 : Nat) : Int) < ((2 : Nat) : Int) → 0 ≤ w ∧ w ≤ 200) : jwr jSgX 64 m w := jw_of (L := [(64, 0, 740, 2, 0, 1, 0, 3), (64, 0, 740, 2, 1, 2, 0, 200)]) rfl (List.forall_mem_cons.mpr ⟨h0, List.forall_mem_cons.mpr ⟨h1, fun _ h => absurd h List.not_mem_nil⟩⟩)
set_option maxRecDepth 100000 in
theorem wr_69 {m w : Int} (h0 : ((0 : Nat) : Int) ≤ m → m < ((400 : Nat) : Int) → ((0 : Nat) : Int) ≤ (m - ((0 : Nat) : Int)) % ((1 : Nat) : Int) → (m - ((0 : Nat) : Int)) % ((1 : Nat) : Int) < ((1 : Nat) : Int) → 0 ≤ w ∧ w ≤ 255) : jwr jSgX 69 m w := jw_of (L := [(69, 0, 400, 1, 0, 1, 0, 255)]) rfl (List.forall_mem_cons.mpr ⟨h0, fun _ h => absurd h List.not_mem_nil⟩)
set_option maxRecDepth 100000 in
theorem wr_71 {m w : Int} (h0 : ((0 : Nat) : Int) ≤ m → m < ((84 : Nat) : Int) → ((0 : Nat) : Int) ≤ (m - ((0 : Nat) : Int)) % ((14 : Nat) : Int) → (m - ((0 : Nat) : Int)) % ((14 : Nat) : Int) < ((1 : Nat) : Int) → (-400) ≤ w ∧ w ≤ 12) (h1 : ((0 : Nat) : Int) ≤ m → m < ((84 : Nat) : Int) → ((1 : Nat) : Int) ≤ (m - ((0 : Nat) : Int)) % ((14 : Nat) : Int) → (m - ((0 : Nat) : Int)) % ((14 : Nat) : Int) < ((2 : Nat) : Int) → 0 ≤ w ∧ w ≤ 1) (h2 : ((0 : Nat) : Int) ≤ m → m < ((84 : Nat) : Int) → ((2 : Nat) : Int) ≤ (m - ((0 : Nat) : Int)) % ((14 : Nat) : Int) → (m - ((0 : Nat) : Int)) % ((14 : Nat) : Int) < ((14 : Nat) : Int) → 0 ≤ w ∧ w ≤ 255) (h3 : ((0 : Nat) : Int) ≤ m → m < ((84 : Nat) : Int) → ((0 : Nat) : Int) ≤ (m - ((0 : Nat) : Int)) % ((1 : Nat) : Int) → (m - ((0 : Nat) : Int)) % ((1 : Nat) : Int) < ((1 : Nat) : Int) → (-400) ≤ w ∧ w ≤ 255) : jwr jSgX 71 m w := jw_of (L := [(71, 0, 84, 14, 0, 1, (-400), 12), (71, 0, 84, 14, 1, 2, 0, 1), (71, 0, 84, 14, 2, 14, 0, 255), (71, 0, 84, 1, 0, 1, (-400), 255)]) rfl (List.forall_mem_cons.mpr ⟨h0, List.forall_mem_cons.mpr ⟨h1, List.forall_mem_cons.mpr ⟨h2, List.forall_mem_cons.mpr ⟨h3, fun _ h => absurd h List.not_mem_nil⟩⟩⟩⟩)
set_option maxRecDepth 100000 in
theorem wr_72 {m w : Int} (h0 : ((0 : Nat) : Int) ≤ m → m < ((64 : Nat) : Int) → ((0 : Nat) : Int) ≤ (m - ((0 : Nat) : Int)) % ((4 : Nat) : Int) → (m - ((0 : Nat) : Int)) % ((4 : Nat) : Int) < ((1 : Nat) : Int) → (-400) ≤ w ∧ w ≤ 3) (h1 : ((0 : Nat) : Int) ≤ m → m < ((64 : Nat) : Int) → ((1 : Nat) : Int) ≤ (m - ((0 : Nat) : Int)) % ((4 : Nat) : Int) → (m - ((0 : Nat) : Int)) % ((4 : Nat) : Int) < ((4 : Nat) : Int) → 0 ≤ w ∧ w ≤ 255) (h2 : ((0 : Nat) : Int) ≤ m → m < ((64 : Nat) : Int) → ((0 : Nat) : Int) ≤ (m - ((0 : Nat) : Int)) % ((1 : Nat) : Int) → (m - ((0 : Nat) : Int)) % ((1 : Nat) : Int) < ((1 : Nat) : Int) → (-400) ≤ w ∧ w ≤ 255) : jwr jSgX 72 m w := jw_of (L := [(72, 0, 64, 4, 0, 1, (-400), 3), (72, 0, 64, 4, 1, 4, 0, 255), (72, 0, 64, 1, 0, 1, (-400), 255)]) rfl (List.forall_mem_cons.mpr ⟨h0, List.forall_mem_cons.mpr ⟨h1, List.forall_mem_cons.mpr ⟨h2, fun _ h => absurd h List.not_mem_nil⟩⟩⟩)
set_option maxRecDepth 100000 in
theorem wr_74 {m w : Int} (h0 : ((0 : Nat) : Int) ≤ m → m < ((16 : Nat) : Int) → ((0 : Nat) : Int) ≤ (m - ((0 : Nat) : Int)) % ((1 : Nat) : Int) → (m - ((0 : Nat) : Int)) % ((1 : Nat) : Int) < ((1 : Nat) : Int) → 0 ≤ w ∧ w ≤ 8) : jwr jSgX 74 m w := jw_of (L := [(74, 0, 16, 1, 0, 1, 0, 8)]) rfl (List.forall_mem_cons.mpr ⟨h0, fun _ h => absurd h List.not_mem_nil⟩)
set_option maxRecDepth 100000 in
theorem wr_75 {m w : Int}  : jwr jSgX 75 m w := jw_of (L := []) rfl (fun _ h => absurd h List.not_mem_nil)
set_option maxRecDepth 100000 in
theorem wr_76 {m w : Int} (h0 : ((0 : Nat) : Int) ≤ m → m < ((1200 : Nat) : Int) → ((0 : Nat) : Int) ≤ (m - ((0 : Nat) : Int)) % ((1 : Nat) : Int) → (m - ((0 : Nat) : Int)) % ((1 : Nat) : Int) < ((1 : Nat) : Int) → (-1) ≤ w ∧ w ≤ 36) : jwr jSgX 76 m w := jw_of (L := [(76, 0, 1200, 1, 0, 1, (-1), 36)]) rfl (List.forall_mem_cons.mpr ⟨h0, fun _ h => absurd h List.not_mem_nil⟩)
set_option maxRecDepth 100000 in
theorem wr_77 {m w : Int} (h0 : ((0 : Nat) : Int) ≤ m → m < ((1200 : Nat) : Int) → ((0 : Nat) : Int) ≤ (m - ((0 : Nat) : Int)) % ((1 : Nat) : Int) → (m - ((0 : Nat) : Int)) % ((1 : Nat) : Int) < ((1 : Nat) : Int) → 0 ≤ w ∧ w ≤ 1) : jwr jSgX 77 m w := jw_of (L := [(77, 0, 1200, 1, 0, 1, 0, 1)]) rfl (List.forall_mem_cons.mpr ⟨h0, fun _ h => absurd h List.not_mem_nil⟩)
set_option maxRecDepth 100000 in
theorem wr_79 {m w : Int} (h0 : ((0 : Nat) : Int) ≤ m → m < ((600 : Nat) : Int) → ((0 : Nat) : Int) ≤ (m - ((0 : Nat) : Int)) % ((1 : Nat) : Int) → (m - ((0 : Nat) : Int)) % ((1 : Nat) : Int) < ((1 : Nat) : Int) → (-1) ≤ w ∧ w ≤ 10) : jwr jSgX 79 m w := jw_of (L := [(79, 0, 600, 1, 0, 1, (-1), 10)]) rfl (List.forall_mem_cons.mpr ⟨h0, fun _ h => absurd h List.not_mem_nil⟩)
set_option maxRecDepth 100000 in
theorem wr_80 {m w : Int} (h0 : ((0 : Nat) : Int) ≤ m → m < ((600 : Nat) : Int) → ((0 : Nat) : Int) ≤ (m - ((0 : Nat) : Int)) % ((1 : Nat) : Int) → (m - ((0 : Nat) : Int)) % ((1 : Nat) : Int) < ((1 : Nat) : Int) → 0 ≤ w ∧ w ≤ 146399) : jwr jSgX 80 m w := jw_of (L := [(80, 0, 600, 1, 0, 1, 0, 146399)]) rfl (List.forall_mem_cons.mpr ⟨h0, fun _ h => absurd h List.not_mem_nil⟩)
set_option maxRecDepth 100000 in
theorem wr_81 {m w : Int}  : jwr jSgX 81 m w := jw_of (L := []) rfl (fun _ h => absurd h List.not_mem_nil)
set_option maxRecDepth 100000 in
theorem wr_82 {m w : Int} (h0 : ((0 : Nat) : Int) ≤ m → m < ((600 : Nat) : Int) → ((0 : Nat) : Int) ≤ (m - ((0 : Nat) : Int)) % ((1 : Nat) : Int) → (m - ((0 : Nat) : Int)) % ((1 : Nat) : Int) < ((1 : Nat) : Int) → (-1) ≤ w ∧ w ≤ 599) : jwr jSgX 82 m w := jw_of (L := [(82, 0, 600, 1, 0, 1, (-1), 599)]) rfl (List.forall_mem_cons.mpr ⟨h0, fun _ h => absurd h List.not_mem_nil⟩)
set_option maxRecDepth 100000 in
theorem wr_83 {m w : Int} (h0 : ((0 : Nat) : Int) ≤ m → m < ((600 : Nat) : Int) → ((0 : Nat) : Int) ≤ (m - ((0 : Nat) : Int)) % ((1 : Nat) : Int) → (m - ((0 : Nat) : Int)) % ((1 : Nat) : Int) < ((1 : Nat) : Int) → (-1) ≤ w ∧ w ≤ 599) : jwr jSgX 83 m w := jw_of (L := [(83, 0, 600, 1, 0, 1, (-1), 599)]) rfl (List.forall_mem_cons.mpr ⟨h0, fun _ h => absurd h List.not_mem_nil⟩)
set_option maxRecDepth 100000 in
theorem wr_84 {m w : Int} (h0 : ((0 : Nat) : Int) ≤ m → m < ((200 : Nat) : Int) → ((0 : Nat) : Int) ≤ (m - ((0 : Nat) : Int)) % ((1 : Nat) : Int) → (m - ((0 : Nat) : Int)) % ((1 : Nat) : Int) < ((1 : Nat) : Int) → 0 ≤ w ∧ w ≤ 199) : jwr jSgX 84 m w := jw_of (L := [(84, 0, 200, 1, 0, 1, 0, 199)]) rfl (List.forall_mem_cons.mpr ⟨h0, fun _ h => absurd h List.not_mem_nil⟩)
set_option maxRecDepth 100000 in
theorem wr_85 {m w : Int}  : jwr jSgX 85 m w := jw_of (L := []) rfl (fun _ h => absurd h List.not_mem_nil)
set_option maxRecDepth 100000 in
theorem wr_86 {m w : Int}  : jwr jSgX 86 m w := jw_of (L := []) rfl (fun _ h => absurd h List.not_mem_nil)
set_option maxRecDepth 100000 in
theorem wr_88 {m w : Int} (h0 : ((0 : Nat) : Int) ≤ m → m < ((9 : Nat) : Int) → ((0 : Nat) : Int) ≤ (m - ((0 : Nat) : Int)) % ((1 : Nat) : Int) → (m - ((0 : Nat) : Int)) % ((1 : Nat) : Int) < ((1 : Nat) : Int) → 0 ≤ w ∧ w ≤ 599) : jwr jSgX 88 m w := jw_of (L := [(88, 0, 9, 1, 0, 1, 0, 599)]) rfl (List.forall_mem_cons.mpr ⟨h0, fun _ h => absurd h List.not_mem_nil⟩)
set_option maxRecDepth 100000 in
theorem wr_89 {m w : Int} (h0 : ((0 : Nat) : Int) ≤ m → m < ((81 : Nat) : Int) → ((0 : Nat) : Int) ≤ (m - ((0 : Nat) : Int)) % ((1 : Nat) : Int) → (m - ((0 : Nat) : Int)) % ((1 : Nat) : Int) < ((1 : Nat) : Int) → (-1) ≤ w ∧ w ≤ 400) : jwr jSgX 89 m w := jw_of (L := [(89, 0, 81, 1, 0, 1, (-1), 400)]) rfl (List.forall_mem_cons.mpr ⟨h0, fun _ h => absurd h List.not_mem_nil⟩)
set_option maxRecDepth 100000 in
theorem wr_90 {m w : Int} (h0 : ((0 : Nat) : Int) ≤ m → m < ((9 : Nat) : Int) → ((0 : Nat) : Int) ≤ (m - ((0 : Nat) : Int)) % ((1 : Nat) : Int) → (m - ((0 : Nat) : Int)) % ((1 : Nat) : Int) < ((1 : Nat) : Int) → (-1) ≤ w ∧ w ≤ 7) : jwr jSgX 90 m w := jw_of (L := [(90, 0, 9, 1, 0, 1, (-1), 7)]) rfl (List.forall_mem_cons.mpr ⟨h0, fun _ h => absurd h List.not_mem_nil⟩)
set_option maxRecDepth 100000 in
theorem wr_91 {m w : Int} (h0 : ((0 : Nat) : Int) ≤ m → m < ((9 : Nat) : Int) → ((0 : Nat) : Int) ≤ (m - ((0 : Nat) : Int)) % ((1 : Nat) : Int) → (m - ((0 : Nat) : Int)) % ((1 : Nat) : Int) < ((1 : Nat) : Int) → 0 ≤ w ∧ w ≤ 8) : jwr jSgX 91 m w := jw_of (L := [(91, 0, 9, 1, 0, 1, 0, 8)]) rfl (List.forall_mem_cons.mpr ⟨h0, fun _ h => absurd h List.not_mem_nil⟩)
set_option maxRecDepth 100000 in
theorem wr_93 {m w : Int}  : jwr jSgX 93 m w := jw_of (L := []) rfl (fun _ h => absurd h List.not_mem_nil)
set_option maxRecDepth 100000 in
theorem wr_94 {m w : Int}  : jwr jSgX 94 m w := jw_of (L := []) rfl (fun _ h => absurd h List.not_mem_nil)
set_option maxRecDepth 100000 in
theorem wr_96 {m w : Int}  : jwr jSgX 96 m w := jw_of (L := []) rfl (fun _ h => absurd h List.not_mem_nil)
set_option maxRecDepth 100000 in
theorem wr_97 {m w : Int}  : jwr jSgX 97 m w := jw_of (L := []) rfl (fun _ h => absurd h List.not_mem_nil)
set_option maxRecDepth 100000 in
theorem wr_99 {m w : Int}  : jwr jSgX 99 m w := jw_of (L := []) rfl (fun _ h => absurd h List.not_mem_nil)
set_option maxRecDepth 100000 in
theorem wr_100 {m w : Int}  : jwr jSgX 100 m w := jw_of (L := []) rfl (fun _ h => absurd h List.not_mem_nil)
set_option maxRecDepth 100000 in
theorem wr_101 {m w : Int}  : jwr jSgX 101 m w := jw_of (L := []) rfl (fun _ h => absurd h List.not_mem_nil)
set_option maxRecDepth 100000 in
theorem wr_102 {m w : Int}  : jwr jSgX 102 m w := jw_of (L := []) rfl (fun _ h => absurd h List.not_mem_nil)
set_option maxRecDepth 100000 in
theorem wr_103 {m w : Int} (h0 : ((0 : Nat) : Int) ≤ m → m < ((40 : Nat) : Int) → ((0 : Nat) : Int) ≤ (m - ((0 : Nat) : Int)) % ((1 : Nat) : Int) → (m - ((0 : Nat) : Int)) % ((1 : Nat) : Int) < ((1 : Nat) : Int) → (-1) ≤ w ∧ w ≤ 599) : jwr jSgX 103 m w := jw_of (L := [(103, 0, 40, 1, 0, 1, (-1), 599)]) rfl (List.forall_mem_cons.mpr ⟨h0, fun _ h => absurd h List.not_mem_nil⟩)
set_option maxRecDepth 100000 in
theorem wr_104 {m w : Int} (h0 : ((0 : Nat) : Int) ≤ m → m < ((40 : Nat) : Int) → ((0 : Nat) : Int) ≤ (m - ((0 : Nat) : Int)) % ((1 : Nat) : Int) → (m - ((0 : Nat) : Int)) % ((1 : Nat) : Int) < ((1 : Nat) : Int) → (-1) ≤ w ∧ w ≤ 146399) : jwr jSgX 104 m w := jw_of (L := [(104, 0, 40, 1, 0, 1, (-1), 146399)]) rfl (List.forall_mem_cons.mpr ⟨h0, fun _ h => absurd h List.not_mem_nil⟩)
set_option maxRecDepth 100000 in
theorem wr_105 {m w : Int}  : jwr jSgX 105 m w := jw_of (L := []) rfl (fun _ h => absurd h List.not_mem_nil)
set_option maxRecDepth 100000 in
theorem wr_108 {m w : Int}  : jwr jSgX 108 m w := jw_of (L := []) rfl (fun _ h => absurd h List.not_mem_nil)
set_option maxRecDepth 100000 in
theorem wr_109 {m w : Int}  : jwr jSgX 109 m w := jw_of (L := []) rfl (fun _ h => absurd h List.not_mem_nil)
set_option maxRecDepth 100000 in
theorem wr_111 {m w : Int}  : jwr jSgX 111 m w := jw_of (L := []) rfl (fun _ h => absurd h List.not_mem_nil)
set_option maxRecDepth 100000 in
theorem wr_112 {m w : Int} (h0 : ((0 : Nat) : Int) ≤ m → m < ((40 : Nat) : Int) → ((0 : Nat) : Int) ≤ (m - ((0 : Nat) : Int)) % ((1 : Nat) : Int) → (m - ((0 : Nat) : Int)) % ((1 : Nat) : Int) < ((1 : Nat) : Int) → 0 ≤ w ∧ w ≤ 39) : jwr jSgX 112 m w := jw_of (L := [(112, 0, 40, 1, 0, 1, 0, 39)]) rfl (List.forall_mem_cons.mpr ⟨h0, fun _ h => absurd h List.not_mem_nil⟩)
set_option maxRecDepth 100000 in
theorem wr_114 {m w : Int}  : jwr jSgX 114 m w := jw_of (L := []) rfl (fun _ h => absurd h List.not_mem_nil)
set_option maxRecDepth 100000 in
theorem wr_115 {m w : Int} (h0 : ((0 : Nat) : Int) ≤ m → m < ((400 : Nat) : Int) → ((0 : Nat) : Int) ≤ (m - ((0 : Nat) : Int)) % ((1 : Nat) : Int) → (m - ((0 : Nat) : Int)) % ((1 : Nat) : Int) < ((1 : Nat) : Int) → (-1) ≤ w ∧ w ≤ 39) : jwr jSgX 115 m w := jw_of (L := [(115, 0, 400, 1, 0, 1, (-1), 39)]) rfl (List.forall_mem_cons.mpr ⟨h0, fun _ h => absurd h List.not_mem_nil⟩)
set_option maxRecDepth 100000 in
theorem wr_116 {m w : Int} (h0 : ((0 : Nat) : Int) ≤ m → m < ((400 : Nat) : Int) → ((0 : Nat) : Int) ≤ (m - ((0 : Nat) : Int)) % ((1 : Nat) : Int) → (m - ((0 : Nat) : Int)) % ((1 : Nat) : Int) < ((1 : Nat) : Int) → 0 ≤ w ∧ w ≤ 40) : jwr jSgX 116 m w := jw_of (L := [(116, 0, 400, 1, 0, 1, 0, 40)]) rfl (List.forall_mem_cons.mpr ⟨h0, fun _ h => absurd h List.not_mem_nil⟩)
set_option maxRecDepth 100000 in
theorem wr_117 {m w : Int} (h0 : ((0 : Nat) : Int) ≤ m → m < ((40 : Nat) : Int) → ((0 : Nat) : Int) ≤ (m - ((0 : Nat) : Int)) % ((1 : Nat) : Int) → (m - ((0 : Nat) : Int)) % ((1 : Nat) : Int) < ((1 : Nat) : Int) → (-1) ≤ w ∧ w ≤ 399) : jwr jSgX 117 m w := jw_of (L := [(117, 0, 40, 1, 0, 1, (-1), 399)]) rfl (List.forall_mem_cons.mpr ⟨h0, fun _ h => absurd h List.not_mem_nil⟩)
set_option maxRecDepth 100000 in
theorem wr_118 {m w : Int}  : jwr jSgX 118 m w := jw_of (L := []) rfl (fun _ h => absurd h List.not_mem_nil)
set_option maxRecDepth 100000 in
theorem wr_119 {m w : Int}  : jwr jSgX 119 m w := jw_of (L := []) rfl (fun _ h => absurd h List.not_mem_nil)
set_option maxRecDepth 100000 in
theorem wr_121 {m w : Int}  : jwr jSgX 121 m w := jw_of (L := []) rfl (fun _ h => absurd h List.not_mem_nil)
set_option maxRecDepth 100000 in
theorem wr_122 {m w : Int} (h0 : ((0 : Nat) : Int) ≤ m → m < ((42 : Nat) : Int) → ((0 : Nat) : Int) ≤ (m - ((0 : Nat) : Int)) % ((1 : Nat) : Int) → (m - ((0 : Nat) : Int)) % ((1 : Nat) : Int) < ((1 : Nat) : Int) → 0 ≤ w ∧ w ≤ 359) : jwr jSgX 122 m w := jw_of (L := [(122, 0, 42, 1, 0, 1, 0, 359)]) rfl (List.forall_mem_cons.mpr ⟨h0, fun _ h => absurd h List.not_mem_nil⟩)
set_option maxRecDepth 100000 in
theorem wr_123 {m w : Int} (h0 : ((0 : Nat) : Int) ≤ m → m < ((120 : Nat) : Int) → ((0 : Nat) : Int) ≤ (m - ((0 : Nat) : Int)) % ((1 : Nat) : Int) → (m - ((0 : Nat) : Int)) % ((1 : Nat) : Int) < ((1 : Nat) : Int) → 0 ≤ w ∧ w ≤ 1000) : jwr jSgX 123 m w := jw_of (L := [(123, 0, 120, 1, 0, 1, 0, 1000)]) rfl (List.forall_mem_cons.mpr ⟨h0, fun _ h => absurd h List.not_mem_nil⟩)
set_option maxRecDepth 100000 in
theorem cp_36 {h : jH} {a : Nat} {u v w : Int} (h0 : ∀ k : Nat, v ≤ k → (k : Int) < v + w → jin (36, 0, 16800, 14, 0, 1, (-400), 12) k → (-400) ≤ (jiv h a (u + (k - v)).toNat).toInt ∧ (jiv h a (u + (k - v)).toNat).toInt ≤ 12) (h1 : ∀ k : Nat, v ≤ k → (k : Int) < v + w → jin (36, 0, 16800, 14, 1, 2, 0, 1) k → 0 ≤ (jiv h a (u + (k - v)).toNat).toInt ∧ (jiv h a (u + (k - v)).toNat).toInt ≤ 1) (h2 : ∀ k : Nat, v ≤ k → (k : Int) < v + w → jin (36, 0, 16800, 14, 2, 3, 0, 255) k → 0 ≤ (jiv h a (u + (k - v)).toNat).toInt ∧ (jiv h a (u + (k - v)).toNat).toInt ≤ 255) (h3 : ∀ k : Nat, v ≤ k → (k : Int) < v + w → jin (36, 0, 16800, 14, 3, 4, 0, 255) k → 0 ≤ (jiv h a (u + (k - v)).toNat).toInt ∧ (jiv h a (u + (k - v)).toNat).toInt ≤ 255) (h4 : ∀ k : Nat, v ≤ k → (k : Int) < v + w → jin (36, 0, 16800, 14, 4, 5, 0, 255) k → 0 ≤ (jiv h a (u + (k - v)).toNat).toInt ∧ (jiv h a (u + (k - v)).toNat).toInt ≤ 255) (h5 : ∀ k : Nat, v ≤ k → (k : Int) < v + w → jin (36, 0, 16800, 14, 5, 6, 0, 255) k → 0 ≤ (jiv h a (u + (k - v)).toNat).toInt ∧ (jiv h a (u + (k - v)).toNat).toInt ≤ 255) (h6 : ∀ k : Nat, v ≤ k → (k : Int) < v + w → jin (36, 0, 16800, 14, 6, 7, 0, 255) k → 0 ≤ (jiv h a (u + (k - v)).toNat).toInt ∧ (jiv h a (u + (k - v)).toNat).toInt ≤ 255) (h7 : ∀ k : Nat, v ≤ k → (k : Int) < v + w → jin (36, 0, 16800, 14, 7, 8, 0, 255) k → 0 ≤ (jiv h a (u + (k - v)).toNat).toInt ∧ (jiv h a (u + (k - v)).toNat).toInt ≤ 255) (h8 : ∀ k : Nat, v ≤ k → (k : Int) < v + w → jin (36, 0, 16800, 14, 8, 9, 0, 255) k → 0 ≤ (jiv h a (u + (k - v)).toNat).toInt ∧ (jiv h a (u + (k - v)).toNat).toInt ≤ 255) (h9 : ∀ k : Nat, v ≤ k → (k : Int) < v + w → jin (36, 0, 16800, 14, 9, 10, 0, 255) k → 0 ≤ (jiv h a (u + (k - v)).toNat).toInt ∧ (jiv h a (u + (k - v)).toNat).toInt ≤ 255) (h10 : ∀ k : Nat, v ≤ k → (k : Int) < v + w → jin (36, 0, 16800, 14, 10, 11, 0, 255) k → 0 ≤ (jiv h a (u + (k - v)).toNat).toInt ∧ (jiv h a (u + (k - v)).toNat).toInt ≤ 255) (h11 : ∀ k : Nat, v ≤ k → (k : Int) < v + w → jin (36, 0, 16800, 14, 11, 12, 0, 255) k → 0 ≤ (jiv h a (u + (k - v)).toNat).toInt ∧ (jiv h a (u + (k - v)).toNat).toInt ≤ 255) (h12 : ∀ k : Nat, v ≤ k → (k : Int) < v + w → jin (36, 0, 16800, 14, 12, 13, 0, 255) k → 0 ≤ (jiv h a (u + (k - v)).toNat).toInt ∧ (jiv h a (u + (k - v)).toNat).toInt ≤ 255) (h13 : ∀ k : Nat, v ≤ k → (k : Int) < v + w → jin (36, 0, 16800, 14, 13, 14, 0, 255) k → 0 ≤ (jiv h a (u + (k - v)).toNat).toInt ∧ (jiv h a (u + (k - v)).toNat).toInt ≤ 255) : ∀ s ∈ jSgX, s.1 = 36 → ∀ k : Nat, v ≤ k → (k : Int) < v + w → jin s k → s.2.2.2.2.2.2.1 ≤ (jiv h a (u + (k - v)).toNat).toInt ∧ (jiv h a (u + (k - v)).toNat).toInt ≤ s.2.2.2.2.2.2.2 := jw_of (P := fun s => ∀ k : Nat, v ≤ k → (k : Int) < v + w → jin s k → s.2.2.2.2.2.2.1 ≤ (jiv h a (u + (k - v)).toNat).toInt ∧ (jiv h a (u + (k - v)).toNat).toInt ≤ s.2.2.2.2.2.2.2) (L := [(36, 0, 16800, 14, 0, 1, (-400), 12), (36, 0, 16800, 14, 1, 2, 0, 1), (36, 0, 16800, 14, 2, 3, 0, 255), (36, 0, 16800, 14, 3, 4, 0, 255), (36, 0, 16800, 14, 4, 5, 0, 255), (36, 0, 16800, 14, 5, 6, 0, 255), (36, 0, 16800, 14, 6, 7, 0, 255), (36, 0, 16800, 14, 7, 8, 0, 255), (36, 0, 16800, 14, 8, 9, 0, 255), (36, 0, 16800, 14, 9, 10, 0, 255), (36, 0, 16800, 14, 10, 11, 0, 255), (36, 0, 16800, 14, 11, 12, 0, 255), (36, 0, 16800, 14, 12, 13, 0, 255), (36, 0, 16800, 14, 13, 14, 0, 255)]) rfl (List.forall_mem_cons.mpr ⟨h0, List.forall_mem_cons.mpr ⟨h1, List.forall_mem_cons.mpr ⟨h2, List.forall_mem_cons.mpr ⟨h3, List.forall_mem_cons.mpr ⟨h4, List.forall_mem_cons.mpr ⟨h5, List.forall_mem_cons.mpr ⟨h6, List.forall_mem_cons.mpr ⟨h7, List.forall_mem_cons.mpr ⟨h8, List.forall_mem_cons.mpr ⟨h9, List.forall_mem_cons.mpr ⟨h10, List.forall_mem_cons.mpr ⟨h11, List.forall_mem_cons.mpr ⟨h12, List.forall_mem_cons.mpr ⟨h13, fun _ h => absurd h List.not_mem_nil⟩⟩⟩⟩⟩⟩⟩⟩⟩⟩⟩⟩⟩⟩)
set_option maxRecDepth 100000 in
theorem cp_73 {h : jH} {a : Nat} {u v w : Int} (h0 : ∀ k : Nat, v ≤ k → (k : Int) < v + w → jin (73, 0, 1024, 4, 0, 1, (-400), 3) k → (-400) ≤ (jiv h a (u + (k - v)).toNat).toInt ∧ (jiv h a (u + (k - v)).toNat).toInt ≤ 3) (h1 : ∀ k : Nat, v ≤ k → (k : Int) < v + w → jin (73, 0, 1024, 4, 1, 4, 0, 255) k → 0 ≤ (jiv h a (u + (k - v)).toNat).toInt ∧ (jiv h a (u + (k - v)).toNat).toInt ≤ 255) (h2 : ∀ k : Nat, v ≤ k → (k : Int) < v + w → jin (73, 0, 1024, 1, 0, 1, (-400), 255) k → (-400) ≤ (jiv h a (u + (k - v)).toNat).toInt ∧ (jiv h a (u + (k - v)).toNat).toInt ≤ 255) : ∀ s ∈ jSgX, s.1 = 73 → ∀ k : Nat, v ≤ k → (k : Int) < v + w → jin s k → s.2.2.2.2.2.2.1 ≤ (jiv h a (u + (k - v)).toNat).toInt ∧ (jiv h a (u + (k - v)).toNat).toInt ≤ s.2.2.2.2.2.2.2 := jw_of (P := fun s => ∀ k : Nat, v ≤ k → (k : Int) < v + w → jin s k → s.2.2.2.2.2.2.1 ≤ (jiv h a (u + (k - v)).toNat).toInt ∧ (jiv h a (u + (k - v)).toNat).toInt ≤ s.2.2.2.2.2.2.2) (L := [(73, 0, 1024, 4, 0, 1, (-400), 3), (73, 0, 1024, 4, 1, 4, 0, 255), (73, 0, 1024, 1, 0, 1, (-400), 255)]) rfl (List.forall_mem_cons.mpr ⟨h0, List.forall_mem_cons.mpr ⟨h1, List.forall_mem_cons.mpr ⟨h2, fun _ h => absurd h List.not_mem_nil⟩⟩⟩)
set_option maxRecDepth 100000 in
theorem cp_92 {h : jH} {a : Nat} {u v w : Int} (h0 : ∀ k : Nat, v ≤ k → (k : Int) < v + w → jin (92, 0, 9, 1, 0, 1, 0, 8) k → 0 ≤ (jiv h a (u + (k - v)).toNat).toInt ∧ (jiv h a (u + (k - v)).toNat).toInt ≤ 8) : ∀ s ∈ jSgX, s.1 = 92 → ∀ k : Nat, v ≤ k → (k : Int) < v + w → jin s k → s.2.2.2.2.2.2.1 ≤ (jiv h a (u + (k - v)).toNat).toInt ∧ (jiv h a (u + (k - v)).toNat).toInt ≤ s.2.2.2.2.2.2.2 := jw_of (P := fun s => ∀ k : Nat, v ≤ k → (k : Int) < v + w → jin s k → s.2.2.2.2.2.2.1 ≤ (jiv h a (u + (k - v)).toNat).toInt ∧ (jiv h a (u + (k - v)).toNat).toInt ≤ s.2.2.2.2.2.2.2) (L := [(92, 0, 9, 1, 0, 1, 0, 8)]) rfl (List.forall_mem_cons.mpr ⟨h0, fun _ h => absurd h List.not_mem_nil⟩)
set_option maxRecDepth 100000 in
theorem pw_31_12 {w : Int} (h : (-366) ≤ w ∧ w ≤ 0) : ∀ s ∈ jSgX, s.1 = 31 → jin s 12 → s.2.2.2.2.2.2.1 ≤ w ∧ w ≤ s.2.2.2.2.2.2.2 := jw_of (P := fun s => jin s 12 → s.2.2.2.2.2.2.1 ≤ w ∧ w ≤ s.2.2.2.2.2.2.2) (L := [(31, 12, 13, 1, 0, 1, (-366), 0)]) rfl (List.forall_mem_cons.mpr ⟨fun _ => h, fun _ h => absurd h List.not_mem_nil⟩)
set_option maxRecDepth 100000 in
theorem pw_32_18 {w : Int} (h : 0 ≤ w ∧ w ≤ 30) : ∀ s ∈ jSgX, s.1 = 32 → jin s 18 → s.2.2.2.2.2.2.1 ≤ w ∧ w ≤ s.2.2.2.2.2.2.2 := jw_of (P := fun s => jin s 18 → s.2.2.2.2.2.2.1 ≤ w ∧ w ≤ s.2.2.2.2.2.2.2) (L := [(32, 18, 19, 1, 0, 1, 0, 30)]) rfl (List.forall_mem_cons.mpr ⟨fun _ => h, fun _ h => absurd h List.not_mem_nil⟩)
set_option maxRecDepth 100000 in
theorem pw_32_19 {w : Int} (h : True) : ∀ s ∈ jSgX, s.1 = 32 → jin s 19 → s.2.2.2.2.2.2.1 ≤ w ∧ w ≤ s.2.2.2.2.2.2.2 := jw_of (P := fun s => jin s 19 → s.2.2.2.2.2.2.1 ≤ w ∧ w ≤ s.2.2.2.2.2.2.2) (L := [(32, 18, 19, 1, 0, 1, 0, 30)]) rfl (List.forall_mem_cons.mpr ⟨fun hj => absurd hj (by unfold jin; decide), fun _ h => absurd h List.not_mem_nil⟩)
set_option maxRecDepth 100000 in
theorem pw_33_3 {w : Int} (h : 0 ≤ w ∧ w ≤ 200) : ∀ s ∈ jSgX, s.1 = 33 → jin s 3 → s.2.2.2.2.2.2.1 ≤ w ∧ w ≤ s.2.2.2.2.2.2.2 := jw_of (P := fun s => jin s 3 → s.2.2.2.2.2.2.1 ≤ w ∧ w ≤ s.2.2.2.2.2.2.2) (L := [(33, 0, 1, 1, 0, 1, 6, 6), (33, 1, 2, 1, 0, 1, 200, 200), (33, 3, 4, 1, 0, 1, 0, 200)]) rfl (List.forall_mem_cons.mpr ⟨fun hj => absurd hj (by unfold jin; decide), List.forall_mem_cons.mpr ⟨fun hj => absurd hj (by unfold jin; decide), List.forall_mem_cons.mpr ⟨fun _ => h, fun _ h => absurd h List.not_mem_nil⟩⟩⟩)
set_option maxRecDepth 100000 in
theorem pw_35_3 {w : Int} (h : 0 ≤ w ∧ w ≤ 1200) : ∀ s ∈ jSgX, s.1 = 35 → jin s 3 → s.2.2.2.2.2.2.1 ≤ w ∧ w ≤ s.2.2.2.2.2.2.2 := jw_of (P := fun s => jin s 3 → s.2.2.2.2.2.2.1 ≤ w ∧ w ≤ s.2.2.2.2.2.2.2) (L := [(35, 0, 1, 1, 0, 1, 14, 14), (35, 1, 2, 1, 0, 1, 1200, 1200), (35, 3, 4, 1, 0, 1, 0, 1200)]) rfl (List.forall_mem_cons.mpr ⟨fun hj => absurd hj (by unfold jin; decide), List.forall_mem_cons.mpr ⟨fun hj => absurd hj (by unfold jin; decide), List.forall_mem_cons.mpr ⟨fun _ => h, fun _ h => absurd h List.not_mem_nil⟩⟩⟩)
set_option maxRecDepth 100000 in
theorem pw_37_3 {w : Int} (h : 0 ≤ w ∧ w ≤ 60) : ∀ s ∈ jSgX, s.1 = 37 → jin s 3 → s.2.2.2.2.2.2.1 ≤ w ∧ w ≤ s.2.2.2.2.2.2.2 := jw_of (P := fun s => jin s 3 → s.2.2.2.2.2.2.1 ≤ w ∧ w ≤ s.2.2.2.2.2.2.2) (L := [(37, 0, 1, 1, 0, 1, 2, 2), (37, 1, 2, 1, 0, 1, 60, 60), (37, 3, 4, 1, 0, 1, 0, 60)]) rfl (List.forall_mem_cons.mpr ⟨fun hj => absurd hj (by unfold jin; decide), List.forall_mem_cons.mpr ⟨fun hj => absurd hj (by unfold jin; decide), List.forall_mem_cons.mpr ⟨fun _ => h, fun _ h => absurd h List.not_mem_nil⟩⟩⟩)
set_option maxRecDepth 100000 in
theorem pw_39_3 {w : Int} (h : 0 ≤ w ∧ w ≤ 200) : ∀ s ∈ jSgX, s.1 = 39 → jin s 3 → s.2.2.2.2.2.2.1 ≤ w ∧ w ≤ s.2.2.2.2.2.2.2 := jw_of (P := fun s => jin s 3 → s.2.2.2.2.2.2.1 ≤ w ∧ w ≤ s.2.2.2.2.2.2.2) (L := [(39, 0, 1, 1, 0, 1, 3, 3), (39, 1, 2, 1, 0, 1, 200, 200), (39, 3, 4, 1, 0, 1, 0, 200)]) rfl (List.forall_mem_cons.mpr ⟨fun hj => absurd hj (by unfold jin; decide), List.forall_mem_cons.mpr ⟨fun hj => absurd hj (by unfold jin; decide), List.forall_mem_cons.mpr ⟨fun _ => h, fun _ h => absurd h List.not_mem_nil⟩⟩⟩)
set_option maxRecDepth 100000 in
theorem pw_41_3 {w : Int} (h : 0 ≤ w ∧ w ≤ 20) : ∀ s ∈ jSgX, s.1 = 41 → jin s 3 → s.2.2.2.2.2.2.1 ≤ w ∧ w ≤ s.2.2.2.2.2.2.2 := jw_of (P := fun s => jin s 3 → s.2.2.2.2.2.2.1 ≤ w ∧ w ≤ s.2.2.2.2.2.2.2) (L := [(41, 0, 1, 1, 0, 1, 4, 4), (41, 1, 2, 1, 0, 1, 20, 20), (41, 3, 4, 1, 0, 1, 0, 20)]) rfl (List.forall_mem_cons.mpr ⟨fun hj => absurd hj (by unfold jin; decide), List.forall_mem_cons.mpr ⟨fun hj => absurd hj (by unfold jin; decide), List.forall_mem_cons.mpr ⟨fun _ => h, fun _ h => absurd h List.not_mem_nil⟩⟩⟩)
set_option maxRecDepth 100000 in
theorem pw_43_3 {w : Int} (h : 0 ≤ w ∧ w ≤ 100) : ∀ s ∈ jSgX, s.1 = 43 → jin s 3 → s.2.2.2.2.2.2.1 ≤ w ∧ w ≤ s.2.2.2.2.2.2.2 := jw_of (P := fun s => jin s 3 → s.2.2.2.2.2.2.1 ≤ w ∧ w ≤ s.2.2.2.2.2.2.2) (L := [(43, 0, 1, 1, 0, 1, 6, 6), (43, 1, 2, 1, 0, 1, 100, 100), (43, 3, 4, 1, 0, 1, 0, 100)]) rfl (List.forall_mem_cons.mpr ⟨fun hj => absurd hj (by unfold jin; decide), List.forall_mem_cons.mpr ⟨fun hj => absurd hj (by unfold jin; decide), List.forall_mem_cons.mpr ⟨fun _ => h, fun _ h => absurd h List.not_mem_nil⟩⟩⟩)
set_option maxRecDepth 100000 in
theorem pw_45_3 {w : Int} (h : 0 ≤ w ∧ w ≤ 40) : ∀ s ∈ jSgX, s.1 = 45 → jin s 3 → s.2.2.2.2.2.2.1 ≤ w ∧ w ≤ s.2.2.2.2.2.2.2 := jw_of (P := fun s => jin s 3 → s.2.2.2.2.2.2.1 ≤ w ∧ w ≤ s.2.2.2.2.2.2.2) (L := [(45, 0, 1, 1, 0, 1, 3, 3), (45, 1, 2, 1, 0, 1, 40, 40), (45, 3, 4, 1, 0, 1, 0, 40)]) rfl (List.forall_mem_cons.mpr ⟨fun hj => absurd hj (by unfold jin; decide), List.forall_mem_cons.mpr ⟨fun hj => absurd hj (by unfold jin; decide), List.forall_mem_cons.mpr ⟨fun _ => h, fun _ h => absurd h List.not_mem_nil⟩⟩⟩)
set_option maxRecDepth 100000 in
theorem pw_47_3 {w : Int} (h : 0 ≤ w ∧ w ≤ 100) : ∀ s ∈ jSgX, s.1 = 47 → jin s 3 → s.2.2.2.2.2.2.1 ≤ w ∧ w ≤ s.2.2.2.2.2.2.2 := jw_of (P := fun s => jin s 3 → s.2.2.2.2.2.2.1 ≤ w ∧ w ≤ s.2.2.2.2.2.2.2) (L := [(47, 0, 1, 1, 0, 1, 4, 4), (47, 1, 2, 1, 0, 1, 100, 100), (47, 3, 4, 1, 0, 1, 0, 100)]) rfl (List.forall_mem_cons.mpr ⟨fun hj => absurd hj (by unfold jin; decide), List.forall_mem_cons.mpr ⟨fun hj => absurd hj (by unfold jin; decide), List.forall_mem_cons.mpr ⟨fun _ => h, fun _ h => absurd h List.not_mem_nil⟩⟩⟩)
set_option maxRecDepth 100000 in
theorem pw_49_3 {w : Int} (h : 0 ≤ w ∧ w ≤ 40) : ∀ s ∈ jSgX, s.1 = 49 → jin s 3 → s.2.2.2.2.2.2.1 ≤ w ∧ w ≤ s.2.2.2.2.2.2.2 := jw_of (P := fun s => jin s 3 → s.2.2.2.2.2.2.1 ≤ w ∧ w ≤ s.2.2.2.2.2.2.2) (L := [(49, 0, 1, 1, 0, 1, 5, 5), (49, 1, 2, 1, 0, 1, 40, 40), (49, 3, 4, 1, 0, 1, 0, 40)]) rfl (List.forall_mem_cons.mpr ⟨fun hj => absurd hj (by unfold jin; decide), List.forall_mem_cons.mpr ⟨fun hj => absurd hj (by unfold jin; decide), List.forall_mem_cons.mpr ⟨fun _ => h, fun _ h => absurd h List.not_mem_nil⟩⟩⟩)
set_option maxRecDepth 100000 in
theorem pw_51_3 {w : Int} (h : 0 ≤ w ∧ w ≤ 100) : ∀ s ∈ jSgX, s.1 = 51 → jin s 3 → s.2.2.2.2.2.2.1 ≤ w ∧ w ≤ s.2.2.2.2.2.2.2 := jw_of (P := fun s => jin s 3 → s.2.2.2.2.2.2.1 ≤ w ∧ w ≤ s.2.2.2.2.2.2.2) (L := [(51, 0, 1, 1, 0, 1, 4, 4), (51, 1, 2, 1, 0, 1, 100, 100), (51, 3, 4, 1, 0, 1, 0, 100)]) rfl (List.forall_mem_cons.mpr ⟨fun hj => absurd hj (by unfold jin; decide), List.forall_mem_cons.mpr ⟨fun hj => absurd hj (by unfold jin; decide), List.forall_mem_cons.mpr ⟨fun _ => h, fun _ h => absurd h List.not_mem_nil⟩⟩⟩)
set_option maxRecDepth 100000 in
theorem pw_53_3 {w : Int} (h : 0 ≤ w ∧ w ≤ 40) : ∀ s ∈ jSgX, s.1 = 53 → jin s 3 → s.2.2.2.2.2.2.1 ≤ w ∧ w ≤ s.2.2.2.2.2.2.2 := jw_of (P := fun s => jin s 3 → s.2.2.2.2.2.2.1 ≤ w ∧ w ≤ s.2.2.2.2.2.2.2) (L := [(53, 0, 1, 1, 0, 1, 4, 4), (53, 1, 2, 1, 0, 1, 40, 40), (53, 3, 4, 1, 0, 1, 0, 40)]) rfl (List.forall_mem_cons.mpr ⟨fun hj => absurd hj (by unfold jin; decide), List.forall_mem_cons.mpr ⟨fun hj => absurd hj (by unfold jin; decide), List.forall_mem_cons.mpr ⟨fun _ => h, fun _ h => absurd h List.not_mem_nil⟩⟩⟩)
set_option maxRecDepth 100000 in
theorem pw_55_3 {w : Int} (h : 0 ≤ w ∧ w ≤ 100) : ∀ s ∈ jSgX, s.1 = 55 → jin s 3 → s.2.2.2.2.2.2.1 ≤ w ∧ w ≤ s.2.2.2.2.2.2.2 := jw_of (P := fun s => jin s 3 → s.2.2.2.2.2.2.1 ≤ w ∧ w ≤ s.2.2.2.2.2.2.2) (L := [(55, 0, 1, 1, 0, 1, 5, 5), (55, 1, 2, 1, 0, 1, 100, 100), (55, 3, 4, 1, 0, 1, 0, 100)]) rfl (List.forall_mem_cons.mpr ⟨fun hj => absurd hj (by unfold jin; decide), List.forall_mem_cons.mpr ⟨fun hj => absurd hj (by unfold jin; decide), List.forall_mem_cons.mpr ⟨fun _ => h, fun _ h => absurd h List.not_mem_nil⟩⟩⟩)
set_option maxRecDepth 100000 in
theorem pw_57_3 {w : Int} (h : 0 ≤ w ∧ w ≤ 100) : ∀ s ∈ jSgX, s.1 = 57 → jin s 3 → s.2.2.2.2.2.2.1 ≤ w ∧ w ≤ s.2.2.2.2.2.2.2 := jw_of (P := fun s => jin s 3 → s.2.2.2.2.2.2.1 ≤ w ∧ w ≤ s.2.2.2.2.2.2.2) (L := [(57, 0, 1, 1, 0, 1, 4, 4), (57, 1, 2, 1, 0, 1, 100, 100), (57, 3, 4, 1, 0, 1, 0, 100)]) rfl (List.forall_mem_cons.mpr ⟨fun hj => absurd hj (by unfold jin; decide), List.forall_mem_cons.mpr ⟨fun hj => absurd hj (by unfold jin; decide), List.forall_mem_cons.mpr ⟨fun _ => h, fun _ h => absurd h List.not_mem_nil⟩⟩⟩)
set_option maxRecDepth 100000 in
theorem pw_59_3 {w : Int} (h : 0 ≤ w ∧ w ≤ 40) : ∀ s ∈ jSgX, s.1 = 59 → jin s 3 → s.2.2.2.2.2.2.1 ≤ w ∧ w ≤ s.2.2.2.2.2.2.2 := jw_of (P := fun s => jin s 3 → s.2.2.2.2.2.2.1 ≤ w ∧ w ≤ s.2.2.2.2.2.2.2) (L := [(59, 0, 1, 1, 0, 1, 4, 4), (59, 1, 2, 1, 0, 1, 40, 40), (59, 3, 4, 1, 0, 1, 0, 40)]) rfl (List.forall_mem_cons.mpr ⟨fun hj => absurd hj (by unfold jin; decide), List.forall_mem_cons.mpr ⟨fun hj => absurd hj (by unfold jin; decide), List.forall_mem_cons.mpr ⟨fun _ => h, fun _ h => absurd h List.not_mem_nil⟩⟩⟩)
set_option maxRecDepth 100000 in
theorem pw_61_3 {w : Int} (h : 0 ≤ w ∧ w ≤ 100) : ∀ s ∈ jSgX, s.1 = 61 → jin s 3 → s.2.2.2.2.2.2.1 ≤ w ∧ w ≤ s.2.2.2.2.2.2.2 := jw_of (P := fun s => jin s 3 → s.2.2.2.2.2.2.1 ≤ w ∧ w ≤ s.2.2.2.2.2.2.2) (L := [(61, 0, 1, 1, 0, 1, 4, 4), (61, 1, 2, 1, 0, 1, 100, 100), (61, 3, 4, 1, 0, 1, 0, 100)]) rfl (List.forall_mem_cons.mpr ⟨fun hj => absurd hj (by unfold jin; decide), List.forall_mem_cons.mpr ⟨fun hj => absurd hj (by unfold jin; decide), List.forall_mem_cons.mpr ⟨fun _ => h, fun _ h => absurd h List.not_mem_nil⟩⟩⟩)
set_option maxRecDepth 100000 in
theorem pw_63_3 {w : Int} (h : 0 ≤ w ∧ w ≤ 370) : ∀ s ∈ jSgX, s.1 = 63 → jin s 3 → s.2.2.2.2.2.2.1 ≤ w ∧ w ≤ s.2.2.2.2.2.2.2 := jw_of (P := fun s => jin s 3 → s.2.2.2.2.2.2.1 ≤ w ∧ w ≤ s.2.2.2.2.2.2.2) (L := [(63, 0, 1, 1, 0, 1, 2, 2), (63, 1, 2, 1, 0, 1, 370, 370), (63, 3, 4, 1, 0, 1, 0, 370)]) rfl (List.forall_mem_cons.mpr ⟨fun hj => absurd hj (by unfold jin; decide), List.forall_mem_cons.mpr ⟨fun hj => absurd hj (by unfold jin; decide), List.forall_mem_cons.mpr ⟨fun _ => h, fun _ h => absurd h List.not_mem_nil⟩⟩⟩)
set_option maxRecDepth 100000 in
theorem pw_68_1 {w : Int} (h : 0 ≤ w ∧ w ≤ 400) : ∀ s ∈ jSgX, s.1 = 68 → jin s 1 → s.2.2.2.2.2.2.1 ≤ w ∧ w ≤ s.2.2.2.2.2.2.2 := jw_of (P := fun s => jin s 1 → s.2.2.2.2.2.2.1 ≤ w ∧ w ≤ s.2.2.2.2.2.2.2) (L := [(68, 1, 2, 1, 0, 1, 0, 400), (68, 2, 3, 1, 0, 1, (-1), 400), (68, 3, 4, 1, 0, 1, 0, 400), (68, 4, 5, 1, 0, 1, 0, 400), (68, 5, 6, 1, 0, 1, 0, 3)]) rfl (List.forall_mem_cons.mpr ⟨fun _ => h, List.forall_mem_cons.mpr ⟨fun hj => absurd hj (by unfold jin; decide), List.forall_mem_cons.mpr ⟨fun hj => absurd hj (by unfold jin; decide), List.forall_mem_cons.mpr ⟨fun hj => absurd hj (by unfold jin; decide), List.forall_mem_cons.mpr ⟨fun hj => absurd hj (by unfold jin; decide), fun _ h => absurd h List.not_mem_nil⟩⟩⟩⟩⟩)
set_option maxRecDepth 100000 in
theorem pw_68_2 {w : Int} (h : (-1) ≤ w ∧ w ≤ 400) : ∀ s ∈ jSgX, s.1 = 68 → jin s 2 → s.2.2.2.2.2.2.1 ≤ w ∧ w ≤ s.2.2.2.2.2.2.2 := jw_of (P := fun s => jin s 2 → s.2.2.2.2.2.2.1 ≤ w ∧ w ≤ s.2.2.2.2.2.2.2) (L := [(68, 1, 2, 1, 0, 1, 0, 400), (68, 2, 3, 1, 0, 1, (-1), 400), (68, 3, 4, 1, 0, 1, 0, 400), (68, 4, 5, 1, 0, 1, 0, 400), (68, 5, 6, 1, 0, 1, 0, 3)]) rfl (List.forall_mem_cons.mpr ⟨fun hj => absurd hj (by unfold jin; decide), List.forall_mem_cons.mpr ⟨fun _ => h, List.forall_mem_cons.mpr ⟨fun hj => absurd hj (by unfold jin; decide), List.forall_mem_cons.mpr ⟨fun hj => absurd hj (by unfold jin; decide), List.forall_mem_cons.mpr ⟨fun hj => absurd hj (by unfold jin; decide), fun _ h => absurd h List.not_mem_nil⟩⟩⟩⟩⟩)
set_option maxRecDepth 100000 in
theorem pw_68_3 {w : Int} (h : 0 ≤ w ∧ w ≤ 400) : ∀ s ∈ jSgX, s.1 = 68 → jin s 3 → s.2.2.2.2.2.2.1 ≤ w ∧ w ≤ s.2.2.2.2.2.2.2 := jw_of (P := fun s => jin s 3 → s.2.2.2.2.2.2.1 ≤ w ∧ w ≤ s.2.2.2.2.2.2.2) (L := [(68, 1, 2, 1, 0, 1, 0, 400), (68, 2, 3, 1, 0, 1, (-1), 400), (68, 3, 4, 1, 0, 1, 0, 400), (68, 4, 5, 1, 0, 1, 0, 400), (68, 5, 6, 1, 0, 1, 0, 3)]) rfl (List.forall_mem_cons.mpr ⟨fun hj => absurd hj (by unfold jin; decide), List.forall_mem_cons.mpr ⟨fun hj => absurd hj (by unfold jin; decide), List.forall_mem_cons.mpr ⟨fun _ => h, List.forall_mem_cons.mpr ⟨fun hj => absurd hj (by unfold jin; decide), List.forall_mem_cons.mpr ⟨fun hj => absurd hj (by unfold jin; decide), fun _ h => absurd h List.not_mem_nil⟩⟩⟩⟩⟩)
set_option maxRecDepth 100000 in
theorem pw_68_4 {w : Int} (h : 0 ≤ w ∧ w ≤ 400) : ∀ s ∈ jSgX, s.1 = 68 → jin s 4 → s.2.2.2.2.2.2.1 ≤ w ∧ w ≤ s.2.2.2.2.2.2.2 := jw_of (P := fun s => jin s 4 → s.2.2.2.2.2.2.1 ≤ w ∧ w ≤ s.2.2.2.2.2.2.2) (L := [(68, 1, 2, 1, 0, 1, 0, 400), (68, 2, 3, 1, 0, 1, (-1), 400), (68, 3, 4, 1, 0, 1, 0, 400), (68, 4, 5, 1, 0, 1, 0, 400), (68, 5, 6, 1, 0, 1, 0, 3)]) rfl (List.forall_mem_cons.mpr ⟨fun hj => absurd hj (by unfold jin; decide), List.forall_mem_cons.mpr ⟨fun hj => absurd hj (by unfold jin; decide), List.forall_mem_cons.mpr ⟨fun hj => absurd hj (by unfold jin; decide), List.forall_mem_cons.mpr ⟨fun _ => h, List.forall_mem_cons.mpr ⟨fun hj => absurd hj (by unfold jin; decide), fun _ h => absurd h List.not_mem_nil⟩⟩⟩⟩⟩)
set_option maxRecDepth 100000 in
theorem pw_68_5 {w : Int} (h : 0 ≤ w ∧ w ≤ 3) : ∀ s ∈ jSgX, s.1 = 68 → jin s 5 → s.2.2.2.2.2.2.1 ≤ w ∧ w ≤ s.2.2.2.2.2.2.2 := jw_of (P := fun s => jin s 5 → s.2.2.2.2.2.2.1 ≤ w ∧ w ≤ s.2.2.2.2.2.2.2) (L := [(68, 1, 2, 1, 0, 1, 0, 400), (68, 2, 3, 1, 0, 1, (-1), 400), (68, 3, 4, 1, 0, 1, 0, 400), (68, 4, 5, 1, 0, 1, 0, 400), (68, 5, 6, 1, 0, 1, 0, 3)]) rfl (List.forall_mem_cons.mpr ⟨fun hj => absurd hj (by unfold jin; decide), List.forall_mem_cons.mpr ⟨fun hj => absurd hj (by unfold jin; decide), List.forall_mem_cons.mpr ⟨fun hj => absurd hj (by unfold jin; decide), List.forall_mem_cons.mpr ⟨fun hj => absurd hj (by unfold jin; decide), List.forall_mem_cons.mpr ⟨fun _ => h, fun _ h => absurd h List.not_mem_nil⟩⟩⟩⟩⟩)
set_option maxRecDepth 100000 in
theorem pw_78_2 {w : Int} (h : 0 ≤ w ∧ w ≤ 100) : ∀ s ∈ jSgX, s.1 = 78 → jin s 2 → s.2.2.2.2.2.2.1 ≤ w ∧ w ≤ s.2.2.2.2.2.2.2 := jw_of (P := fun s => jin s 2 → s.2.2.2.2.2.2.1 ≤ w ∧ w ≤ s.2.2.2.2.2.2.2) (L := [(78, 2, 3, 1, 0, 1, 0, 100), (78, 3, 4, 1, 0, 1, 0, 100), (78, 4, 5, 1, 0, 1, 0, 100), (78, 5, 6, 1, 0, 1, 0, 100), (78, 6, 7, 1, 0, 1, 0, 20), (78, 13, 14, 1, 0, 1, 0, 200)]) rfl (List.forall_mem_cons.mpr ⟨fun _ => h, List.forall_mem_cons.mpr ⟨fun hj => absurd hj (by unfold jin; decide), List.forall_mem_cons.mpr ⟨fun hj => absurd hj (by unfold jin; decide), List.forall_mem_cons.mpr ⟨fun hj => absurd hj (by unfold jin; decide), List.forall_mem_cons.mpr ⟨fun hj => absurd hj (by unfold jin; decide), List.forall_mem_cons.mpr ⟨fun hj => absurd hj (by unfold jin; decide), fun _ h => absurd h List.not_mem_nil⟩⟩⟩⟩⟩⟩)
set_option maxRecDepth 100000 in
theorem pw_78_3 {w : Int} (h : 0 ≤ w ∧ w ≤ 100) : ∀ s ∈ jSgX, s.1 = 78 → jin s 3 → s.2.2.2.2.2.2.1 ≤ w ∧ w ≤ s.2.2.2.2.2.2.2 := jw_of (P := fun s => jin s 3 → s.2.2.2.2.2.2.1 ≤ w ∧ w ≤ s.2.2.2.2.2.2.2) (L := [(78, 2, 3, 1, 0, 1, 0, 100), (78, 3, 4, 1, 0, 1, 0, 100), (78, 4, 5, 1, 0, 1, 0, 100), (78, 5, 6, 1, 0, 1, 0, 100), (78, 6, 7, 1, 0, 1, 0, 20), (78, 13, 14, 1, 0, 1, 0, 200)]) rfl (List.forall_mem_cons.mpr ⟨fun hj => absurd hj (by unfold jin; decide), List.forall_mem_cons.mpr ⟨fun _ => h, List.forall_mem_cons.mpr ⟨fun hj => absurd hj (by unfold jin; decide), List.forall_mem_cons.mpr ⟨fun hj => absurd hj (by unfold jin; decide), List.forall_mem_cons.mpr ⟨fun hj => absurd hj (by unfold jin; decide), List.forall_mem_cons.mpr ⟨fun hj => absurd hj (by unfold jin; decide), fun _ h => absurd h List.not_mem_nil⟩⟩⟩⟩⟩⟩)
set_option maxRecDepth 100000 in
theorem pw_78_4 {w : Int} (h : 0 ≤ w ∧ w ≤ 100) : ∀ s ∈ jSgX, s.1 = 78 → jin s 4 → s.2.2.2.2.2.2.1 ≤ w ∧ w ≤ s.2.2.2.2.2.2.2 := jw_of (P := fun s => jin s 4 → s.2.2.2.2.2.2.1 ≤ w ∧ w ≤ s.2.2.2.2.2.2.2) (L := [(78, 2, 3, 1, 0, 1, 0, 100), (78, 3, 4, 1, 0, 1, 0, 100), (78, 4, 5, 1, 0, 1, 0, 100), (78, 5, 6, 1, 0, 1, 0, 100), (78, 6, 7, 1, 0, 1, 0, 20), (78, 13, 14, 1, 0, 1, 0, 200)]) rfl (List.forall_mem_cons.mpr ⟨fun hj => absurd hj (by unfold jin; decide), List.forall_mem_cons.mpr ⟨fun hj => absurd hj (by unfold jin; decide), List.forall_mem_cons.mpr ⟨fun _ => h, List.forall_mem_cons.mpr ⟨fun hj => absurd hj (by unfold jin; decide), List.forall_mem_cons.mpr ⟨fun hj => absurd hj (by unfold jin; decide), List.forall_mem_cons.mpr ⟨fun hj => absurd hj (by unfold jin; decide), fun _ h => absurd h List.not_mem_nil⟩⟩⟩⟩⟩⟩)
set_option maxRecDepth 100000 in
theorem pw_78_5 {w : Int} (h : 0 ≤ w ∧ w ≤ 100) : ∀ s ∈ jSgX, s.1 = 78 → jin s 5 → s.2.2.2.2.2.2.1 ≤ w ∧ w ≤ s.2.2.2.2.2.2.2 := jw_of (P := fun s => jin s 5 → s.2.2.2.2.2.2.1 ≤ w ∧ w ≤ s.2.2.2.2.2.2.2) (L := [(78, 2, 3, 1, 0, 1, 0, 100), (78, 3, 4, 1, 0, 1, 0, 100), (78, 4, 5, 1, 0, 1, 0, 100), (78, 5, 6, 1, 0, 1, 0, 100), (78, 6, 7, 1, 0, 1, 0, 20), (78, 13, 14, 1, 0, 1, 0, 200)]) rfl (List.forall_mem_cons.mpr ⟨fun hj => absurd hj (by unfold jin; decide), List.forall_mem_cons.mpr ⟨fun hj => absurd hj (by unfold jin; decide), List.forall_mem_cons.mpr ⟨fun hj => absurd hj (by unfold jin; decide), List.forall_mem_cons.mpr ⟨fun _ => h, List.forall_mem_cons.mpr ⟨fun hj => absurd hj (by unfold jin; decide), List.forall_mem_cons.mpr ⟨fun hj => absurd hj (by unfold jin; decide), fun _ h => absurd h List.not_mem_nil⟩⟩⟩⟩⟩⟩)
set_option maxRecDepth 100000 in
theorem pw_78_6 {w : Int} (h : 0 ≤ w ∧ w ≤ 20) : ∀ s ∈ jSgX, s.1 = 78 → jin s 6 → s.2.2.2.2.2.2.1 ≤ w ∧ w ≤ s.2.2.2.2.2.2.2 := jw_of (P := fun s => jin s 6 → s.2.2.2.2.2.2.1 ≤ w ∧ w ≤ s.2.2.2.2.2.2.2) (L := [(78, 2, 3, 1, 0, 1, 0, 100), (78, 3, 4, 1, 0, 1, 0, 100), (78, 4, 5, 1, 0, 1, 0, 100), (78, 5, 6, 1, 0, 1, 0, 100), (78, 6, 7, 1, 0, 1, 0, 20), (78, 13, 14, 1, 0, 1, 0, 200)]) rfl (List.forall_mem_cons.mpr ⟨fun hj => absurd hj (by unfold jin; decide), List.forall_mem_cons.mpr ⟨fun hj => absurd hj (by unfold jin; decide), List.forall_mem_cons.mpr ⟨fun hj => absurd hj (by unfold jin; decide), List.forall_mem_cons.mpr ⟨fun hj => absurd hj (by unfold jin; decide), List.forall_mem_cons.mpr ⟨fun _ => h, List.forall_mem_cons.mpr ⟨fun hj => absurd hj (by unfold jin; decide), fun _ h => absurd h List.not_mem_nil⟩⟩⟩⟩⟩⟩)
set_option maxRecDepth 100000 in
theorem pw_78_13 {w : Int} (h : 0 ≤ w ∧ w ≤ 200) : ∀ s ∈ jSgX, s.1 = 78 → jin s 13 → s.2.2.2.2.2.2.1 ≤ w ∧ w ≤ s.2.2.2.2.2.2.2 := jw_of (P := fun s => jin s 13 → s.2.2.2.2.2.2.1 ≤ w ∧ w ≤ s.2.2.2.2.2.2.2) (L := [(78, 2, 3, 1, 0, 1, 0, 100), (78, 3, 4, 1, 0, 1, 0, 100), (78, 4, 5, 1, 0, 1, 0, 100), (78, 5, 6, 1, 0, 1, 0, 100), (78, 6, 7, 1, 0, 1, 0, 20), (78, 13, 14, 1, 0, 1, 0, 200)]) rfl (List.forall_mem_cons.mpr ⟨fun hj => absurd hj (by unfold jin; decide), List.forall_mem_cons.mpr ⟨fun hj => absurd hj (by unfold jin; decide), List.forall_mem_cons.mpr ⟨fun hj => absurd hj (by unfold jin; decide), List.forall_mem_cons.mpr ⟨fun hj => absurd hj (by unfold jin; decide), List.forall_mem_cons.mpr ⟨fun hj => absurd hj (by unfold jin; decide), List.forall_mem_cons.mpr ⟨fun _ => h, fun _ h => absurd h List.not_mem_nil⟩⟩⟩⟩⟩⟩)
set_option maxRecDepth 100000 in
theorem pw_87_3 {w : Int} (h : 0 ≤ w ∧ w ≤ 9) : ∀ s ∈ jSgX, s.1 = 87 → jin s 3 → s.2.2.2.2.2.2.1 ≤ w ∧ w ≤ s.2.2.2.2.2.2.2 := jw_of (P := fun s => jin s 3 → s.2.2.2.2.2.2.1 ≤ w ∧ w ≤ s.2.2.2.2.2.2.2) (L := [(87, 3, 4, 1, 0, 1, 0, 9), (87, 10, 11, 1, 0, 1, (-1), 2147483647), (87, 11, 12, 1, 0, 1, 0, 9)]) rfl (List.forall_mem_cons.mpr ⟨fun _ => h, List.forall_mem_cons.mpr ⟨fun hj => absurd hj (by unfold jin; decide), List.forall_mem_cons.mpr ⟨fun hj => absurd hj (by unfold jin; decide), fun _ h => absurd h List.not_mem_nil⟩⟩⟩)
set_option maxRecDepth 100000 in
theorem pw_87_10 {w : Int} (h : (-1) ≤ w ∧ w ≤ 2147483647) : ∀ s ∈ jSgX, s.1 = 87 → jin s 10 → s.2.2.2.2.2.2.1 ≤ w ∧ w ≤ s.2.2.2.2.2.2.2 := jw_of (P := fun s => jin s 10 → s.2.2.2.2.2.2.1 ≤ w ∧ w ≤ s.2.2.2.2.2.2.2) (L := [(87, 3, 4, 1, 0, 1, 0, 9), (87, 10, 11, 1, 0, 1, (-1), 2147483647), (87, 11, 12, 1, 0, 1, 0, 9)]) rfl (List.forall_mem_cons.mpr ⟨fun hj => absurd hj (by unfold jin; decide), List.forall_mem_cons.mpr ⟨fun _ => h, List.forall_mem_cons.mpr ⟨fun hj => absurd hj (by unfold jin; decide), fun _ h => absurd h List.not_mem_nil⟩⟩⟩)
set_option maxRecDepth 100000 in
theorem pw_87_11 {w : Int} (h : 0 ≤ w ∧ w ≤ 9) : ∀ s ∈ jSgX, s.1 = 87 → jin s 11 → s.2.2.2.2.2.2.1 ≤ w ∧ w ≤ s.2.2.2.2.2.2.2 := jw_of (P := fun s => jin s 11 → s.2.2.2.2.2.2.1 ≤ w ∧ w ≤ s.2.2.2.2.2.2.2) (L := [(87, 3, 4, 1, 0, 1, 0, 9), (87, 10, 11, 1, 0, 1, (-1), 2147483647), (87, 11, 12, 1, 0, 1, 0, 9)]) rfl (List.forall_mem_cons.mpr ⟨fun hj => absurd hj (by unfold jin; decide), List.forall_mem_cons.mpr ⟨fun hj => absurd hj (by unfold jin; decide), List.forall_mem_cons.mpr ⟨fun _ => h, fun _ h => absurd h List.not_mem_nil⟩⟩⟩)
set_option maxRecDepth 100000 in
theorem pw_87_12 {w : Int} (h : True) : ∀ s ∈ jSgX, s.1 = 87 → jin s 12 → s.2.2.2.2.2.2.1 ≤ w ∧ w ≤ s.2.2.2.2.2.2.2 := jw_of (P := fun s => jin s 12 → s.2.2.2.2.2.2.1 ≤ w ∧ w ≤ s.2.2.2.2.2.2.2) (L := [(87, 3, 4, 1, 0, 1, 0, 9), (87, 10, 11, 1, 0, 1, (-1), 2147483647), (87, 11, 12, 1, 0, 1, 0, 9)]) rfl (List.forall_mem_cons.mpr ⟨fun hj => absurd hj (by unfold jin; decide), List.forall_mem_cons.mpr ⟨fun hj => absurd hj (by unfold jin; decide), List.forall_mem_cons.mpr ⟨fun hj => absurd hj (by unfold jin; decide), fun _ h => absurd h List.not_mem_nil⟩⟩⟩)
set_option maxRecDepth 100000 in
theorem pw_87_13 {w : Int} (h : True) : ∀ s ∈ jSgX, s.1 = 87 → jin s 13 → s.2.2.2.2.2.2.1 ≤ w ∧ w ≤ s.2.2.2.2.2.2.2 := jw_of (P := fun s => jin s 13 → s.2.2.2.2.2.2.1 ≤ w ∧ w ≤ s.2.2.2.2.2.2.2) (L := [(87, 3, 4, 1, 0, 1, 0, 9), (87, 10, 11, 1, 0, 1, (-1), 2147483647), (87, 11, 12, 1, 0, 1, 0, 9)]) rfl (List.forall_mem_cons.mpr ⟨fun hj => absurd hj (by unfold jin; decide), List.forall_mem_cons.mpr ⟨fun hj => absurd hj (by unfold jin; decide), List.forall_mem_cons.mpr ⟨fun hj => absurd hj (by unfold jin; decide), fun _ h => absurd h List.not_mem_nil⟩⟩⟩)
set_option maxRecDepth 100000 in
theorem pw_95_3 {w : Int} (h : 0 ≤ w ∧ w ≤ 12) : ∀ s ∈ jSgX, s.1 = 95 → jin s 3 → s.2.2.2.2.2.2.1 ≤ w ∧ w ≤ s.2.2.2.2.2.2.2 := jw_of (P := fun s => jin s 3 → s.2.2.2.2.2.2.1 ≤ w ∧ w ≤ s.2.2.2.2.2.2.2) (L := [(95, 3, 4, 1, 0, 1, 0, 12), (95, 4, 5, 1, 0, 1, 0, 1200), (95, 5, 6, 1, 0, 1, 0, 60)]) rfl (List.forall_mem_cons.mpr ⟨fun _ => h, List.forall_mem_cons.mpr ⟨fun hj => absurd hj (by unfold jin; decide), List.forall_mem_cons.mpr ⟨fun hj => absurd hj (by unfold jin; decide), fun _ h => absurd h List.not_mem_nil⟩⟩⟩)
set_option maxRecDepth 100000 in
theorem pw_95_4 {w : Int} (h : 0 ≤ w ∧ w ≤ 1200) : ∀ s ∈ jSgX, s.1 = 95 → jin s 4 → s.2.2.2.2.2.2.1 ≤ w ∧ w ≤ s.2.2.2.2.2.2.2 := jw_of (P := fun s => jin s 4 → s.2.2.2.2.2.2.1 ≤ w ∧ w ≤ s.2.2.2.2.2.2.2) (L := [(95, 3, 4, 1, 0, 1, 0, 12), (95, 4, 5, 1, 0, 1, 0, 1200), (95, 5, 6, 1, 0, 1, 0, 60)]) rfl (List.forall_mem_cons.mpr ⟨fun hj => absurd hj (by unfold jin; decide), List.forall_mem_cons.mpr ⟨fun _ => h, List.forall_mem_cons.mpr ⟨fun hj => absurd hj (by unfold jin; decide), fun _ h => absurd h List.not_mem_nil⟩⟩⟩)
set_option maxRecDepth 100000 in
theorem pw_95_5 {w : Int} (h : 0 ≤ w ∧ w ≤ 60) : ∀ s ∈ jSgX, s.1 = 95 → jin s 5 → s.2.2.2.2.2.2.1 ≤ w ∧ w ≤ s.2.2.2.2.2.2.2 := jw_of (P := fun s => jin s 5 → s.2.2.2.2.2.2.1 ≤ w ∧ w ≤ s.2.2.2.2.2.2.2) (L := [(95, 3, 4, 1, 0, 1, 0, 12), (95, 4, 5, 1, 0, 1, 0, 1200), (95, 5, 6, 1, 0, 1, 0, 60)]) rfl (List.forall_mem_cons.mpr ⟨fun hj => absurd hj (by unfold jin; decide), List.forall_mem_cons.mpr ⟨fun hj => absurd hj (by unfold jin; decide), List.forall_mem_cons.mpr ⟨fun _ => h, fun _ h => absurd h List.not_mem_nil⟩⟩⟩)
set_option maxRecDepth 100000 in
theorem pw_98_10 {w : Int} (h : 0 ≤ w ∧ w ≤ 146399) : ∀ s ∈ jSgX, s.1 = 98 → jin s 10 → s.2.2.2.2.2.2.1 ≤ w ∧ w ≤ s.2.2.2.2.2.2.2 := jw_of (P := fun s => jin s 10 → s.2.2.2.2.2.2.1 ≤ w ∧ w ≤ s.2.2.2.2.2.2.2) (L := [(98, 10, 11, 1, 0, 1, 0, 146399), (98, 11, 12, 1, 0, 1, 0, 146399), (98, 13, 14, 1, 0, 1, (-1), 359)]) rfl (List.forall_mem_cons.mpr ⟨fun _ => h, List.forall_mem_cons.mpr ⟨fun hj => absurd hj (by unfold jin; decide), List.forall_mem_cons.mpr ⟨fun hj => absurd hj (by unfold jin; decide), fun _ h => absurd h List.not_mem_nil⟩⟩⟩)
set_option maxRecDepth 100000 in
theorem pw_98_11 {w : Int} (h : 0 ≤ w ∧ w ≤ 146399) : ∀ s ∈ jSgX, s.1 = 98 → jin s 11 → s.2.2.2.2.2.2.1 ≤ w ∧ w ≤ s.2.2.2.2.2.2.2 := jw_of (P := fun s => jin s 11 → s.2.2.2.2.2.2.1 ≤ w ∧ w ≤ s.2.2.2.2.2.2.2) (L := [(98, 10, 11, 1, 0, 1, 0, 146399), (98, 11, 12, 1, 0, 1, 0, 146399), (98, 13, 14, 1, 0, 1, (-1), 359)]) rfl (List.forall_mem_cons.mpr ⟨fun hj => absurd hj (by unfold jin; decide), List.forall_mem_cons.mpr ⟨fun _ => h, List.forall_mem_cons.mpr ⟨fun hj => absurd hj (by unfold jin; decide), fun _ h => absurd h List.not_mem_nil⟩⟩⟩)
set_option maxRecDepth 100000 in
theorem pw_98_13 {w : Int} (h : (-1) ≤ w ∧ w ≤ 359) : ∀ s ∈ jSgX, s.1 = 98 → jin s 13 → s.2.2.2.2.2.2.1 ≤ w ∧ w ≤ s.2.2.2.2.2.2.2 := jw_of (P := fun s => jin s 13 → s.2.2.2.2.2.2.1 ≤ w ∧ w ≤ s.2.2.2.2.2.2.2) (L := [(98, 10, 11, 1, 0, 1, 0, 146399), (98, 11, 12, 1, 0, 1, 0, 146399), (98, 13, 14, 1, 0, 1, (-1), 359)]) rfl (List.forall_mem_cons.mpr ⟨fun hj => absurd hj (by unfold jin; decide), List.forall_mem_cons.mpr ⟨fun hj => absurd hj (by unfold jin; decide), List.forall_mem_cons.mpr ⟨fun _ => h, fun _ h => absurd h List.not_mem_nil⟩⟩⟩)
set_option maxRecDepth 100000 in
theorem pw_98_15 {w : Int} (h : True) : ∀ s ∈ jSgX, s.1 = 98 → jin s 15 → s.2.2.2.2.2.2.1 ≤ w ∧ w ≤ s.2.2.2.2.2.2.2 := jw_of (P := fun s => jin s 15 → s.2.2.2.2.2.2.1 ≤ w ∧ w ≤ s.2.2.2.2.2.2.2) (L := [(98, 10, 11, 1, 0, 1, 0, 146399), (98, 11, 12, 1, 0, 1, 0, 146399), (98, 13, 14, 1, 0, 1, (-1), 359)]) rfl (List.forall_mem_cons.mpr ⟨fun hj => absurd hj (by unfold jin; decide), List.forall_mem_cons.mpr ⟨fun hj => absurd hj (by unfold jin; decide), List.forall_mem_cons.mpr ⟨fun hj => absurd hj (by unfold jin; decide), fun _ h => absurd h List.not_mem_nil⟩⟩⟩)
set_option maxRecDepth 100000 in
theorem pw_107_9 {w : Int} (h : 0 ≤ w ∧ w ≤ 40) : ∀ s ∈ jSgX, s.1 = 107 → jin s 9 → s.2.2.2.2.2.2.1 ≤ w ∧ w ≤ s.2.2.2.2.2.2.2 := jw_of (P := fun s => jin s 9 → s.2.2.2.2.2.2.1 ≤ w ∧ w ≤ s.2.2.2.2.2.2.2) (L := [(107, 9, 10, 1, 0, 1, 0, 40), (107, 15, 16, 1, 0, 1, 0, 400), (107, 16, 17, 1, 0, 1, (-1), 39)]) rfl (List.forall_mem_cons.mpr ⟨fun _ => h, List.forall_mem_cons.mpr ⟨fun hj => absurd hj (by unfold jin; decide), List.forall_mem_cons.mpr ⟨fun hj => absurd hj (by unfold jin; decide), fun _ h => absurd h List.not_mem_nil⟩⟩⟩)
set_option maxRecDepth 100000 in
theorem pw_107_15 {w : Int} (h : 0 ≤ w ∧ w ≤ 400) : ∀ s ∈ jSgX, s.1 = 107 → jin s 15 → s.2.2.2.2.2.2.1 ≤ w ∧ w ≤ s.2.2.2.2.2.2.2 := jw_of (P := fun s => jin s 15 → s.2.2.2.2.2.2.1 ≤ w ∧ w ≤ s.2.2.2.2.2.2.2) (L := [(107, 9, 10, 1, 0, 1, 0, 40), (107, 15, 16, 1, 0, 1, 0, 400), (107, 16, 17, 1, 0, 1, (-1), 39)]) rfl (List.forall_mem_cons.mpr ⟨fun hj => absurd hj (by unfold jin; decide), List.forall_mem_cons.mpr ⟨fun _ => h, List.forall_mem_cons.mpr ⟨fun hj => absurd hj (by unfold jin; decide), fun _ h => absurd h List.not_mem_nil⟩⟩⟩)
set_option maxRecDepth 100000 in
theorem pw_107_16 {w : Int} (h : (-1) ≤ w ∧ w ≤ 39) : ∀ s ∈ jSgX, s.1 = 107 → jin s 16 → s.2.2.2.2.2.2.1 ≤ w ∧ w ≤ s.2.2.2.2.2.2.2 := jw_of (P := fun s => jin s 16 → s.2.2.2.2.2.2.1 ≤ w ∧ w ≤ s.2.2.2.2.2.2.2) (L := [(107, 9, 10, 1, 0, 1, 0, 40), (107, 15, 16, 1, 0, 1, 0, 400), (107, 16, 17, 1, 0, 1, (-1), 39)]) rfl (List.forall_mem_cons.mpr ⟨fun hj => absurd hj (by unfold jin; decide), List.forall_mem_cons.mpr ⟨fun hj => absurd hj (by unfold jin; decide), List.forall_mem_cons.mpr ⟨fun _ => h, fun _ h => absurd h List.not_mem_nil⟩⟩⟩)
set_option maxRecDepth 100000 in
theorem pw_120_5 {w : Int} (h : 0 ≤ w ∧ w ≤ 146399) : ∀ s ∈ jSgX, s.1 = 120 → jin s 5 → s.2.2.2.2.2.2.1 ≤ w ∧ w ≤ s.2.2.2.2.2.2.2 := jw_of (P := fun s => jin s 5 → s.2.2.2.2.2.2.1 ≤ w ∧ w ≤ s.2.2.2.2.2.2.2) (L := [(120, 5, 6, 1, 0, 1, 0, 146399), (120, 6, 7, 1, 0, 1, (-1), 359)]) rfl (List.forall_mem_cons.mpr ⟨fun _ => h, List.forall_mem_cons.mpr ⟨fun hj => absurd hj (by unfold jin; decide), fun _ h => absurd h List.not_mem_nil⟩⟩)
set_option maxRecDepth 100000 in
theorem pw_120_6 {w : Int} (h : (-1) ≤ w ∧ w ≤ 359) : ∀ s ∈ jSgX, s.1 = 120 → jin s 6 → s.2.2.2.2.2.2.1 ≤ w ∧ w ≤ s.2.2.2.2.2.2.2 := jw_of (P := fun s => jin s 6 → s.2.2.2.2.2.2.1 ≤ w ∧ w ≤ s.2.2.2.2.2.2.2) (L := [(120, 5, 6, 1, 0, 1, 0, 146399), (120, 6, 7, 1, 0, 1, (-1), 359)]) rfl (List.forall_mem_cons.mpr ⟨fun hj => absurd hj (by unfold jin; decide), List.forall_mem_cons.mpr ⟨fun _ => h, fun _ h => absurd h List.not_mem_nil⟩⟩)
set_option maxRecDepth 100000 in
theorem pw_120_7 {w : Int} (h : True) : ∀ s ∈ jSgX, s.1 = 120 → jin s 7 → s.2.2.2.2.2.2.1 ≤ w ∧ w ≤ s.2.2.2.2.2.2.2 := jw_of (P := fun s => jin s 7 → s.2.2.2.2.2.2.1 ≤ w ∧ w ≤ s.2.2.2.2.2.2.2) (L := [(120, 5, 6, 1, 0, 1, 0, 146399), (120, 6, 7, 1, 0, 1, (-1), 359)]) rfl (List.forall_mem_cons.mpr ⟨fun hj => absurd hj (by unfold jin; decide), List.forall_mem_cons.mpr ⟨fun hj => absurd hj (by unfold jin; decide), fun _ h => absurd h List.not_mem_nil⟩⟩)
theorem jk_m1000000 : ((-1000000) : Int32).toInt = (-1000000) := by decide
theorem jk_m6 : ((-6) : Int32).toInt = (-6) := by decide
theorem jk_m5 : ((-5) : Int32).toInt = (-5) := by decide
theorem jk_m4 : ((-4) : Int32).toInt = (-4) := by decide
theorem jk_m3 : ((-3) : Int32).toInt = (-3) := by decide
theorem jk_m2 : ((-2) : Int32).toInt = (-2) := by decide
theorem jk_m1 : ((-1) : Int32).toInt = (-1) := by decide
theorem jk_0 : (0 : Int32).toInt = 0 := by decide
theorem jk_1 : (1 : Int32).toInt = 1 := by decide
theorem jk_2 : (2 : Int32).toInt = 2 := by decide
theorem jk_3 : (3 : Int32).toInt = 3 := by decide
theorem jk_4 : (4 : Int32).toInt = 4 := by decide
theorem jk_5 : (5 : Int32).toInt = 5 := by decide
theorem jk_6 : (6 : Int32).toInt = 6 := by decide
theorem jk_7 : (7 : Int32).toInt = 7 := by decide
theorem jk_8 : (8 : Int32).toInt = 8 := by decide
theorem jk_9 : (9 : Int32).toInt = 9 := by decide
theorem jk_10 : (10 : Int32).toInt = 10 := by decide
theorem jk_11 : (11 : Int32).toInt = 11 := by decide
theorem jk_12 : (12 : Int32).toInt = 12 := by decide
theorem jk_14 : (14 : Int32).toInt = 14 := by decide
theorem jk_15 : (15 : Int32).toInt = 15 := by decide
theorem jk_16 : (16 : Int32).toInt = 16 := by decide
theorem jk_18 : (18 : Int32).toInt = 18 := by decide
theorem jk_19 : (19 : Int32).toInt = 19 := by decide
theorem jk_20 : (20 : Int32).toInt = 20 := by decide
theorem jk_24 : (24 : Int32).toInt = 24 := by decide
theorem jk_27 : (27 : Int32).toInt = 27 := by decide
theorem jk_29 : (29 : Int32).toInt = 29 := by decide
theorem jk_30 : (30 : Int32).toInt = 30 := by decide
theorem jk_32 : (32 : Int32).toInt = 32 := by decide
theorem jk_33 : (33 : Int32).toInt = 33 := by decide
theorem jk_34 : (34 : Int32).toInt = 34 := by decide
theorem jk_35 : (35 : Int32).toInt = 35 := by decide
theorem jk_36 : (36 : Int32).toInt = 36 := by decide
theorem jk_40 : (40 : Int32).toInt = 40 := by decide
theorem jk_41 : (41 : Int32).toInt = 41 := by decide
theorem jk_42 : (42 : Int32).toInt = 42 := by decide
theorem jk_43 : (43 : Int32).toInt = 43 := by decide
theorem jk_44 : (44 : Int32).toInt = 44 := by decide
theorem jk_45 : (45 : Int32).toInt = 45 := by decide
theorem jk_46 : (46 : Int32).toInt = 46 := by decide
theorem jk_47 : (47 : Int32).toInt = 47 := by decide
theorem jk_48 : (48 : Int32).toInt = 48 := by decide
theorem jk_50 : (50 : Int32).toInt = 50 := by decide
theorem jk_53 : (53 : Int32).toInt = 53 := by decide
theorem jk_57 : (57 : Int32).toInt = 57 := by decide
theorem jk_59 : (59 : Int32).toInt = 59 := by decide
theorem jk_60 : (60 : Int32).toInt = 60 := by decide
theorem jk_61 : (61 : Int32).toInt = 61 := by decide
theorem jk_62 : (62 : Int32).toInt = 62 := by decide
theorem jk_63 : (63 : Int32).toInt = 63 := by decide
theorem jk_64 : (64 : Int32).toInt = 64 := by decide
theorem jk_70 : (70 : Int32).toInt = 70 := by decide
theorem jk_72 : (72 : Int32).toInt = 72 := by decide
theorem jk_80 : (80 : Int32).toInt = 80 := by decide
theorem jk_84 : (84 : Int32).toInt = 84 := by decide
theorem jk_91 : (91 : Int32).toInt = 91 := by decide
theorem jk_93 : (93 : Int32).toInt = 93 := by decide
theorem jk_97 : (97 : Int32).toInt = 97 := by decide
theorem jk_100 : (100 : Int32).toInt = 100 := by decide
theorem jk_120 : (120 : Int32).toInt = 120 := by decide
theorem jk_122 : (122 : Int32).toInt = 122 := by decide
theorem jk_200 : (200 : Int32).toInt = 200 := by decide
theorem jk_255 : (255 : Int32).toInt = 255 := by decide
theorem jk_365 : (365 : Int32).toInt = 365 := by decide
theorem jk_366 : (366 : Int32).toInt = 366 := by decide
theorem jk_370 : (370 : Int32).toInt = 370 := by decide
theorem jk_399 : (399 : Int32).toInt = 399 := by decide
theorem jk_400 : (400 : Int32).toInt = 400 := by decide
theorem jk_420 : (420 : Int32).toInt = 420 := by decide
theorem jk_600 : (600 : Int32).toInt = 600 := by decide
theorem jk_1000 : (1000 : Int32).toInt = 1000 := by decide
theorem jk_1200 : (1200 : Int32).toInt = 1200 := by decide
theorem jk_1600 : (1600 : Int32).toInt = 1600 := by decide
theorem jk_3660 : (3660 : Int32).toInt = 3660 := by decide
theorem jk_5124 : (5124 : Int32).toInt = 5124 := by decide
theorem jk_10000 : (10000 : Int32).toInt = 10000 := by decide
theorem jk_14401 : (14401 : Int32).toInt = 14401 := by decide
theorem jk_18300 : (18300 : Int32).toInt = 18300 := by decide
theorem jk_40260 : (40260 : Int32).toInt = 40260 := by decide
theorem jk_100000 : (100000 : Int32).toInt = 100000 := by decide
theorem jk_146399 : (146399 : Int32).toInt = 146399 := by decide
theorem jk_1000000 : (1000000 : Int32).toInt = 1000000 := by decide
theorem jkl_m2000000000000 : ((-2000000000000) : Int64).toInt = (-2000000000000) := by decide
theorem jkl_m1000000000000 : ((-1000000000000) : Int64).toInt = (-1000000000000) := by decide
theorem jkl_0 : (0 : Int64).toInt = 0 := by decide
theorem jkl_1 : (1 : Int64).toInt = 1 := by decide
theorem jkl_2 : (2 : Int64).toInt = 2 := by decide
theorem jkl_4200 : (4200 : Int64).toInt = 4200 := by decide
theorem jkl_1000000000000 : (1000000000000 : Int64).toInt = 1000000000000 := by decide
theorem jko_m8 : (Int32.ofInt (-8)).toInt = (-8) := by decide
theorem jko_m1 : (Int32.ofInt (-1)).toInt = (-1) := by decide
theorem jko_1 : (Int32.ofInt 1).toInt = 1 := by decide
theorem jko_2 : (Int32.ofInt 2).toInt = 2 := by decide
theorem jko_3 : (Int32.ofInt 3).toInt = 3 := by decide
theorem kb_m5 : (Int8.ofInt (-5)).toInt32 = (-5) := by decide
theorem kb_m4 : (Int8.ofInt (-4)).toInt32 = (-4) := by decide
theorem kb_27 : (Int8.ofInt 27).toInt32 = 27 := by decide
theorem kb_29 : (Int8.ofInt 29).toInt32 = 29 := by decide
theorem kb_32 : (Int8.ofInt 32).toInt32 = 32 := by decide
theorem kb_33 : (Int8.ofInt 33).toInt32 = 33 := by decide
theorem kb_41 : (Int8.ofInt 41).toInt32 = 41 := by decide
theorem kb_43 : (Int8.ofInt 43).toInt32 = 43 := by decide
theorem kb_44 : (Int8.ofInt 44).toInt32 = 44 := by decide
theorem kb_45 : (Int8.ofInt 45).toInt32 = 45 := by decide
theorem kb_47 : (Int8.ofInt 47).toInt32 = 47 := by decide
theorem kb_57 : (Int8.ofInt 57).toInt32 = 57 := by decide
theorem kb_59 : (Int8.ofInt 59).toInt32 = 59 := by decide
theorem kb_61 : (Int8.ofInt 61).toInt32 = 61 := by decide
theorem kb_62 : (Int8.ofInt 62).toInt32 = 62 := by decide
theorem kb_91 : (Int8.ofInt 91).toInt32 = 91 := by decide
theorem kb_93 : (Int8.ofInt 93).toInt32 = 93 := by decide
theorem kb_97 : (Int8.ofInt 97).toInt32 = 97 := by decide
theorem kb_122 : (Int8.ofInt 122).toInt32 = 122 := by decide
theorem ks_365 : (Int16.ofInt 365).toInt32 = 365 := by decide
theorem ks_366 : (Int16.ofInt 366).toInt32 = 366 := by decide
theorem ks_420 : (Int16.ofInt 420).toInt32 = 420 := by decide
theorem ks_3660 : (Int16.ofInt 3660).toInt32 = 3660 := by decide
theorem ks_5124 : (Int16.ofInt 5124).toInt32 = 5124 := by decide
theorem ks_18300 : (Int16.ofInt 18300).toInt32 = 18300 := by decide
