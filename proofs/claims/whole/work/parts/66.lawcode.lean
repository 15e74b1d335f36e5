/-! ===== the law: its code and its calls (printed by wip/whole/mklaw.py) ===== -/
theorem lw_s0 : lw_sg 148 2 (13, 175, 290, 291, 292, 57) 7 (17, 36, 890, 891, 892, 65) 8 = true := by decide +kernel
theorem lw_s1 : lw_sg 181 1 (18, 176, 379, 380, 381, 57) 7 (22, 37, 903, 904, 905, 65) 8 = true := by decide +kernel
theorem lw_s2 : lw_sg 204 3 (23, 177, 394, 395, 396, 57) 7 (27, 39, 917, 918, 919, 65) 8 = true := by decide +kernel
theorem lw_s3 : lw_sg 247 2 (28, 178, 455, 456, 457, 57) 7 (31, 40, 999, 1000, 1001, 65) 8 = true := by decide +kernel
theorem lw_s4 : lw_sg 280 3 (32, 179, 479, 480, 481, 57) 7 (35, 41, 1011, 1012, 1013, 65) 8 = true := by decide +kernel
theorem lw_s5 : lw_sg 323 2 (36, 180, 492, 493, 494, 57) 7 (39, 44, 1015, 1016, 1017, 65) 8 = true := by decide +kernel
theorem lw_s6 : lw_sg 356 3 (40, 181, 519, 520, 521, 57) 7 (43, 47, 1027, 1028, 1029, 65) 8 = true := by decide +kernel
theorem lw_s7 : lw_sg 399 1 (44, 182, 547, 548, 549, 57) 7 (47, 48, 1039, 1040, 1041, 65) 8 = true := by decide +kernel
theorem lw_s8 : lw_sg 422 2 (48, 183, 556, 557, 558, 57) 7 (51, 49, 1043, 1044, 1045, 65) 8 = true := by decide +kernel
theorem lw_s9 : lw_sg 455 3 (52, 184, 564, 565, 566, 57) 7 (55, 51, 1047, 1048, 1049, 65) 8 = true := by decide +kernel
theorem lw_s10 : lw_sg 498 2 (56, 185, 580, 581, 582, 57) 7 (59, 52, 1056, 1057, 1058, 65) 8 = true := by decide +kernel
theorem lw_s11 : lw_sg 531 2 (60, 186, 586, 587, 588, 57) 7 (63, 53, 1060, 1061, 1062, 65) 8 = true := by decide +kernel
theorem lw_s12 : lw_sg 564 2 (64, 187, 593, 594, 595, 57) 7 (67, 59, 1064, 1065, 1066, 65) 8 = true := by decide +kernel
theorem lw_s13 : lw_sg 597 2 (68, 188, 624, 625, 626, 57) 7 (71, 61, 1088, 1089, 1090, 65) 8 = true := by decide +kernel
theorem lw_s14 : lw_sg 630 4 (72, 189, 643, 644, 645, 57) 7 (76, 64, 1100, 1101, 1102, 65) 8 = true := by decide +kernel
theorem lw_s15 : lw_sg 683 2 (77, 190, 660, 661, 662, 57) 7 (80, 65, 1117, 1118, 1119, 65) 8 = true := by decide +kernel
theorem lw_s16 : lw_sg 716 2 (81, 191, 668, 669, 670, 57) 7 (84, 68, 1121, 1122, 1123, 65) 8 = true := by decide +kernel
theorem lw_s17 : lw_sg 749 2 (85, 192, 687, 688, 689, 57) 7 (88, 69, 1133, 1134, 1135, 65) 8 = true := by decide +kernel
theorem lw_s18 : lw_sg 782 1 (89, 193, 693, 694, 695, 57) 7 (92, 70, 1137, 1138, 1139, 65) 8 = true := by decide +kernel
theorem lw_s19 : lw_sg 805 1 (93, 194, 703, 704, 705, 57) 7 (96, 74, 1151, 1152, 1153, 65) 8 = true := by decide +kernel
theorem lw_s20 : lw_sg 828 0 (97, 195, 735, 736, 737, 57) 7 (101, 9, 885, 886, 887, 65) 8 = true := by decide +kernel
theorem lw_s21 : lw_sg 841 1 (102, 196, 743, 744, 745, 57) 7 (105, 75, 1167, 1168, 1169, 65) 8 = true := by decide +kernel
theorem lw_s22 : lw_sg 864 0 (106, 197, 752, 753, 754, 57) 7 (109, 76, 1171, 1172, 1173, 65) 8 = true := by decide +kernel
theorem lw_s23 : lw_sg 877 1 (110, 198, 756, 757, 758, 57) 7 (113, 84, 1175, 1176, 1177, 65) 8 = true := by decide +kernel
theorem lw_s24 : lw_sg 900 0 (114, 199, 801, 802, 803, 57) 7 (117, 85, 1213, 1214, 1215, 65) 8 = true := by decide +kernel
def lw_of : Array Int := #[116, 149, 172, 215, 248, 291, 324, 367, 390, 423, 466, 499, 532, 565, 598, 651, 684, 717, 750, 773, 796, 809, 832, 845, 868]
theorem lw_sw : decode code 32 = .ok (.tableswitch 881 0 24 lw_of, 116) := by decide +kernel
def lw_ip : List Nat := [228, 253, 103, 164, 84, 192, 78, 70, 807]
theorem lw_in9 : (List.range 9).all (fun ci => lw_w (lw_ip.getD ci 0) (.instantiable (ab_cn ci) (ab_nf ci))) = true := by decide +kernel
theorem lw_arr : lw_w 101 (.arrayClass .int) = true := by decide +kernel
theorem lw_new1 : lw_dc 0 (.new 7) 3 = true ∧ lw_w 69 (.classLink R_law 7 (ab_cn 7)) = true ∧ lw_w 57 (.initialized (ab_cn 7)) = true := by decide +kernel
theorem lw_new2 : lw_dc 8 (.new 10) 3 = true ∧ lw_w 806 (.classLink R_law 10 (ab_cn 8)) = true ∧ lw_w 65 (.initialized (ab_cn 8)) = true := by decide +kernel
theorem lw_ini1 : lw_dc 4 (.invokespecial 9) 3 = true ∧ lw_w 71 (.methodLink R_law 9 (ab_yn 174)) = true ∧ lw_w 72 (.instanceMethod (ab_yn 174)) = true ∧ lw_w 57 (.initialized (ab_yn 174).cls) = true ∧ (ab_yn 174).name = "<init>" ∧ ab_rt 174 = none ∧ (parseMethodDescriptor (ab_yn 174).desc).map (fun d => d.parameters.length) = some 0 := by decide +kernel
theorem lw_ini2 : lw_dc 12 (.invokespecial 12) 3 = true ∧ lw_w 808 (.methodLink R_law 12 (ab_yn 5)) = true ∧ lw_w 809 (.instanceMethod (ab_yn 5)) = true ∧ lw_w 65 (.initialized (ab_yn 5).cls) = true ∧ (ab_yn 5).name = "<init>" ∧ ab_rt 5 = none ∧ (parseMethodDescriptor (ab_yn 5).desc).map (fun d => d.parameters.length) = some 0 := by decide +kernel
theorem dl_3 : decode code 3 = .ok (.dup, 1) := by decide +kernel
theorem dl_7 : decode code 7 = .ok ((.astore_n 1), 1) := by decide +kernel
theorem dl_11 : decode code 11 = .ok (.dup, 1) := by decide +kernel
theorem dl_15 : decode code 15 = .ok ((.astore_n 2), 1) := by decide +kernel
theorem dl_16 : decode code 16 = .ok ((.iconst 0), 1) := by decide +kernel
theorem dl_17 : decode code 17 = .ok ((.istore_n 3), 1) := by decide +kernel
theorem dl_18 : decode code 18 = .ok ((.iload_n 3), 1) := by decide +kernel
theorem dl_19 : decode code 19 = .ok ((.aload_n 0), 1) := by decide +kernel
theorem dl_20 : decode code 20 = .ok (.arraylength, 1) := by decide +kernel
theorem dl_21 : decode code 21 = .ok ((.iconst 5), 1) := by decide +kernel
theorem dl_22 : decode code 22 = .ok (.isub, 1) := by decide +kernel
theorem dl_23 : decode code 23 = .ok ((.if_icmp .gt 896), 3) := by decide +kernel
theorem dl_26 : decode code 26 = .ok ((.aload_n 0), 1) := by decide +kernel
theorem dl_27 : decode code 27 = .ok ((.iload_n 3), 1) := by decide +kernel
theorem dl_28 : decode code 28 = .ok (.iaload, 1) := by decide +kernel
theorem dl_29 : decode code 29 = .ok ((.bipush 31), 2) := by decide +kernel
theorem dl_31 : decode code 31 = .ok (.iand, 1) := by decide +kernel
theorem dl_913 : decode code 913 = .ok ((.iinc 3 5), 3) := by decide +kernel
theorem dl_916 : decode code 916 = .ok ((.goto (-898)), 3) := by decide +kernel
theorem dl_919 : decode code 919 = .ok ((.iconst 1), 1) := by decide +kernel
theorem dl_920 : decode code 920 = .ok (.ireturn, 1) := by decide +kernel
