/-! ===== what is checked of the code by the kernel ===== -/
def zTab : List Cond := lw_tbl.filter goodWord
def zIsN : Cond → Bool
  | .methodLinkNest _ _ _ _ => true
  | _ => false
def zNest : List Cond := lw_tbl.filter zIsN
theorem zTab_of {w : Cond} {i : Nat} (h : lw_tbl[i]? = some w) (hg : goodWord w = true) : w ∈ zTab := List.mem_filter.mpr ⟨List.mem_of_getElem? h, hg⟩
theorem zTab_good {w : Cond} (h : w ∈ zTab) : (w.onTables && w.keeps) = true ∨ ∃ ty, w = .arrayClass ty := good_of_word (List.mem_filter.mp h).2
def zC (ci : Nat) : vw_C := zvCl.getD ci (RX0, TX0, 10)
theorem zin_0 : ∀ w ∈ u_ws RX0 TX0 10, w ∈ zTab := by
  have h : u_ws RX0 TX0 10 = [137, 139, 141, 143, 145, 147, 149, 151, 153, 155].filterMap (fun i => lw_tbl[i]?) := by decide +kernel
  have hg : (u_ws RX0 TX0 10).all goodWord = true := by decide +kernel
  intro w hw
  have h1 := List.all_eq_true.mp hg w hw
  rw [h] at hw
  obtain ⟨i, -, hi⟩ := List.mem_filterMap.mp hw
  exact zTab_of hi h1
theorem zin_1 : ∀ w ∈ u_ws RX1 TX1 4, w ∈ zTab := by
  have h : u_ws RX1 TX1 4 = [102, 104, 106, 108].filterMap (fun i => lw_tbl[i]?) := by decide +kernel
  have hg : (u_ws RX1 TX1 4).all goodWord = true := by decide +kernel
  intro w hw
  have h1 := List.all_eq_true.mp hg w hw
  rw [h] at hw
  obtain ⟨i, -, hi⟩ := List.mem_filterMap.mp hw
  exact zTab_of hi h1
theorem zin_2 : ∀ w ∈ u_ws RX2 TX2 6, w ∈ zTab := by
  have h : u_ws RX2 TX2 6 = [255, 257, 259, 261, 263, 265].filterMap (fun i => lw_tbl[i]?) := by decide +kernel
  have hg : (u_ws RX2 TX2 6).all goodWord = true := by decide +kernel
  intro w hw
  have h1 := List.all_eq_true.mp hg w hw
  rw [h] at hw
  obtain ⟨i, -, hi⟩ := List.mem_filterMap.mp hw
  exact zTab_of hi h1
theorem zin_3 : ∀ w ∈ u_ws RX3 TX3 3, w ∈ zTab := by
  have h : u_ws RX3 TX3 3 = [282, 284, 286].filterMap (fun i => lw_tbl[i]?) := by decide +kernel
  have hg : (u_ws RX3 TX3 3).all goodWord = true := by decide +kernel
  intro w hw
  have h1 := List.all_eq_true.mp hg w hw
  rw [h] at hw
  obtain ⟨i, -, hi⟩ := List.mem_filterMap.mp hw
  exact zTab_of hi h1
theorem zin_4 : ∀ w ∈ u_ws RX4 TX4 14, w ∈ zTab := by
  have h : u_ws RX4 TX4 14 = [208, 210, 212, 214, 216, 218, 220, 222, 224, 226, 228, 230, 232, 234].filterMap (fun i => lw_tbl[i]?) := by decide +kernel
  have hg : (u_ws RX4 TX4 14).all goodWord = true := by decide +kernel
  intro w hw
  have h1 := List.all_eq_true.mp hg w hw
  rw [h] at hw
  obtain ⟨i, -, hi⟩ := List.mem_filterMap.mp hw
  exact zTab_of hi h1
theorem zin_5 : ∀ w ∈ u_ws RX5 TX5 4, w ∈ zTab := by
  have h : u_ws RX5 TX5 4 = [168, 170, 172, 174].filterMap (fun i => lw_tbl[i]?) := by decide +kernel
  have hg : (u_ws RX5 TX5 4).all goodWord = true := by decide +kernel
  intro w hw
  have h1 := List.all_eq_true.mp hg w hw
  rw [h] at hw
  obtain ⟨i, -, hi⟩ := List.mem_filterMap.mp hw
  exact zTab_of hi h1
theorem zin_6 : ∀ w ∈ u_ws RX6 TX6 8, w ∈ zTab := by
  have h : u_ws RX6 TX6 8 = [298, 300, 302, 304, 306, 308, 310, 312].filterMap (fun i => lw_tbl[i]?) := by decide +kernel
  have hg : (u_ws RX6 TX6 8).all goodWord = true := by decide +kernel
  intro w hw
  have h1 := List.all_eq_true.mp hg w hw
  rw [h] at hw
  obtain ⟨i, -, hi⟩ := List.mem_filterMap.mp hw
  exact zTab_of hi h1
theorem zin_7 : ∀ w ∈ u_ws RX7 TX7 30, w ∈ zTab := by
  have h : u_ws RX7 TX7 30 = [775, 777, 779, 781, 783, 785, 787, 789, 791, 793, 795, 797, 799, 801, 803, 805, 807, 809, 811, 813, 815, 817, 819, 821, 823, 825, 827, 829, 831, 833].filterMap (fun i => lw_tbl[i]?) := by decide +kernel
  have hg : (u_ws RX7 TX7 30).all goodWord = true := by decide +kernel
  intro w hw
  have h1 := List.all_eq_true.mp hg w hw
  rw [h] at hw
  obtain ⟨i, -, hi⟩ := List.mem_filterMap.mp hw
  exact zTab_of hi h1
def zPls : List (Nat × Nat × Nat × Nat) := [(0, 0, 0, 0), (668, 666, 667, 52), (337, 335, 336, 52), (373, 371, 372, 52), (440, 438, 439, 52), (353, 351, 352, 52), (456, 454, 455, 52), (484, 482, 483, 52), (322, 320, 321, 52), (333, 331, 332, 52), (364, 362, 363, 52), (341, 340, 0, 52), (531, 529, 530, 52), (349, 347, 348, 52), (381, 379, 380, 52), (389, 387, 388, 52), (397, 395, 396, 52), (592, 590, 591, 53), (673, 671, 672, 53), (496, 494, 495, 56), (505, 503, 504, 56), (509, 508, 11, 56), (512, 511, 0, 56), (523, 522, 0, 56), (516, 515, 12, 56), (520, 519, 13, 56), (717, 715, 716, 57), (727, 725, 726, 57), (739, 737, 738, 57), (411, 409, 410, 55), (418, 417, 2, 55), (422, 421, 3, 55), (426, 425, 4, 55), (431, 430, 5, 55), (436, 435, 6, 55), (460, 459, 8, 55), (444, 442, 443, 55), (449, 448, 7, 55), (464, 463, 9, 55), (468, 467, 10, 55), (488, 486, 487, 55), (472, 470, 471, 55), (476, 474, 475, 55), (551, 549, 550, 55), (480, 478, 479, 55), (565, 563, 564, 55), (574, 572, 573, 55), (569, 567, 568, 55), (699, 697, 698, 51), (318, 316, 317, 50), (329, 327, 328, 50), (345, 343, 344, 50), (360, 358, 359, 50), (368, 366, 367, 50), (377, 375, 376, 50), (385, 383, 384, 50), (393, 391, 392, 50), (401, 399, 400, 50), (492, 490, 491, 50), (501, 499, 500, 50), (535, 533, 534, 50), (539, 537, 538, 50), (543, 541, 542, 50), (547, 545, 546, 50), (555, 553, 554, 50), (561, 559, 560, 50), (588, 586, 587, 50), (596, 594, 595, 50), (600, 598, 599, 50), (604, 602, 603, 50), (609, 607, 608, 50), (613, 611, 612, 50), (625, 623, 624, 50), (629, 627, 628, 50), (637, 635, 636, 50), (644, 642, 643, 50), (656, 654, 655, 50), (660, 658, 659, 50), (664, 662, 663, 50), (683, 681, 682, 50), (687, 685, 686, 50), (691, 689, 690, 50), (695, 693, 694, 50), (705, 703, 704, 50), (709, 707, 708, 50), (713, 711, 712, 50), (723, 721, 722, 50), (731, 729, 730, 50), (735, 733, 734, 50), (325, 324, 0, 50), (356, 355, 0, 50), (648, 647, 0, 50), (651, 650, 0, 50), (407, 406, 1, 50), (583, 582, 16, 50), (527, 526, 14, 50), (579, 578, 15, 50), (617, 616, 17, 50), (633, 632, 18, 50), (640, 639, 0, 50), (679, 678, 19, 50), (843, 842, 0, 58), (1097, 1096, 0, 58), (856, 855, 21, 58), (913, 912, 27, 58), (848, 847, 20, 58), (839, 837, 838, 58), (852, 850, 851, 58), (860, 858, 859, 58), (864, 862, 863, 58), (869, 867, 868, 58), (874, 872, 873, 58), (880, 878, 879, 58), (884, 882, 883, 58), (905, 904, 25, 58), (909, 908, 26, 58), (917, 916, 28, 58), (901, 900, 24, 58), (929, 928, 31, 58), (925, 924, 30, 58), (937, 936, 33, 58), (933, 932, 32, 58), (921, 920, 29, 58), (945, 944, 35, 58), (941, 940, 34, 58), (897, 896, 23, 58), (893, 892, 22, 58), (949, 948, 36, 58), (1020, 1019, 43, 58), (1024, 1023, 44, 58), (1016, 1015, 42, 58), (889, 887, 888, 58), (953, 951, 952, 58), (966, 965, 38, 58), (977, 976, 0, 58), (974, 973, 40, 58), (970, 969, 39, 58), (962, 961, 37, 58), (981, 980, 41, 58), (958, 956, 957, 58), (990, 988, 989, 58), (994, 992, 993, 58), (998, 996, 997, 58), (1002, 1000, 1001, 58), (1007, 1005, 1006, 58), (1028, 1027, 45, 58), (1012, 1010, 1011, 58), (1032, 1030, 1031, 58), (1036, 1034, 1035, 58), (1040, 1038, 1039, 58), (1044, 1042, 1043, 58), (1048, 1046, 1047, 58), (1057, 1056, 46, 58), (1053, 1051, 1052, 58), (1061, 1059, 1060, 58), (1065, 1063, 1064, 58), (1073, 1072, 47, 58), (1069, 1067, 1068, 58), (1082, 1081, 0, 58), (1077, 1075, 1076, 58), (1086, 1084, 1085, 58), (1090, 1088, 1089, 58), (1101, 1100, 48, 58), (1094, 1092, 1093, 58), (1105, 1103, 1104, 58), (1109, 1107, 1108, 58), (1113, 1111, 1112, 58), (1121, 1119, 1120, 58), (1125, 1123, 1124, 58), (1129, 1127, 1128, 58), (1116, 1115, 0, 58), (1133, 1131, 1132, 58), (1139, 1137, 1138, 58), (1143, 1141, 1142, 58), (1147, 1145, 1146, 58), (414, 413, 0, 54), (88, 87, 0, 54), (621, 620, 0, 54)]
def zNps : List Nat := [1, 1, 1, 1, 0, 1, 1, 1, 2, 3, 3, 5, 3, 2, 1, 1, 1, 3, 1, 1, 0, 1, 1, 1, 0, 0, 2, 1, 2, 5, 1, 3, 3, 1, 1, 0, 3, 1, 1, 0, 1, 1, 1, 1, 1, 0, 0, 1, 1, 2, 3, 2, 3, 2, 1, 1, 1, 2, 1, 0, 1, 1, 1, 1, 2, 1, 3, 0, 2, 1, 3, 1, 1, 2, 1, 2, 1, 2, 1, 2, 0, 2, 0, 0, 1, 3, 3, 2, 5, 3, 2, 3, 2, 0, 1, 1, 0, 2, 3, 2, 2, 3, 2, 1, 1, 2, 2, 3, 2, 3, 2, 1, 1, 1, 0, 2, 2, 1, 2, 0, 1, 1, 1, 2, 1, 2, 0, 1, 0, 0, 0, 2, 1, 0, 1, 0, 0, 0, 1, 0, 1, 1, 1, 1, 2, 0, 1, 3, 0, 2, 1, 3, 1, 1, 1, 2, 1, 1, 3, 2, 1, 2, 2, 1, 2, 0, 2, 0, 0, 1, 1, 3, 3, 2, 5, 2, 2, 2]
def zNp (y : Nat) : Nat := zNps.getD y 0
def zSts : List Bool := [true, false, false, false, false, false, false, false, false, false, false, false, false, false, false, false, false, false, false, false, false, false, true, true, false, false, false, false, false, false, false, false, false, false, false, false, false, false, false, false, false, false, false, false, false, false, false, false, false, false, false, false, false, false, false, false, false, false, false, false, false, false, false, false, false, false, false, false, false, false, false, false, false, false, false, false, false, false, false, false, false, false, false, false, false, false, false, false, false, true, true, true, true, false, false, false, false, false, false, true, false, true, true, false, false, false, false, false, false, false, false, false, false, false, false, false, false, false, false, false, false, false, false, false, false, false, false, false, false, false, false, false, false, false, true, false, false, false, false, false, false, false, false, false, false, false, false, false, false, false, false, false, false, false, false, false, false, false, true, false, false, false, false, false, false, false, false, false, false, false, true, false, false, false, false, true, true, true]
def zSt (y : Nat) : Bool := zSts.getD y false
/-- of a method: its words, by their places -/
def zYok (y : Nat) : Bool := match zPls.getD y (0, 0, 0, 0) with
  | (pc, pi, ps, pn) => decide (lw_tbl[pc]? = some (.code (zY y) (zCo y) (zMx y) (zRt y))) && (decide (lw_tbl[pn]? = some (.initialized (zY y).cls)) && (decide ((zY y).cls ≠ "java/lang/invoke/MethodHandle") && (decide ((zY y).cls ≠ "java/lang/invoke/VarHandle") && (decide ((parseMethodDescriptor (zY y).desc).map (fun d => d.parameters.length) = some (zNp y)) && (decide (zMx y ≤ 18) && (plainFor (zY y) &&
    (if zSt y = true then decide (lw_tbl[pi]? = some (.static (zY y))) else decide (lw_tbl[pi]? = some (.instanceMethod (zY y))) && (decide (lw_tbl[ps]? = some (.selects (zY y).cls (zY y) (zY y))) && decide ((zC (zYc y)).1 = (zY y).cls ∧ zYc y < 8)))))))))
def zNoL (y r : Nat) : Bool := (zLg y).all (fun k => !(Nat.beq (k + 1) r))
/-- of an instruction: what it stands for -/
def zOkI (y : Nat) (ins : Instr) (pc len r1 r2 r3 : Nat) (vi : Int32) (vl : Int64) (sw : List (Int32 × Nat)) : Bool := match ins with
  | .iconst n => Nat.beq len 1 && decide (Int32.ofInt n = vi)
  | .bipush n => Nat.beq len 2 && decide ((Int8.ofInt n).toInt32 = vi)
  | .sipush n => Nat.beq len 3 && decide ((Int16.ofInt n).toInt32 = vi)
  | .ldc_w i => Nat.beq len 3 && decide (lw_tbl[r3]? = some (.constant (zY y).cls i vi))
  | .lconst n => Nat.beq len 1 && decide (Int64.ofNat (n : Nat) = vl)
  | .ldc2_w i => Nat.beq len 3 && decide (lw_tbl[r3]? = some (.constantLong (zY y).cls i vl))
  | .iload i => Nat.beq len 2 && decide (i = r1)
  | .lload i => Nat.beq len 2 && decide (i = r1)
  | .aload i => Nat.beq len 2 && decide (i = r1)
  | .iload_n k => Nat.beq len 1 && decide ((k : Nat) = r1)
  | .lload_n k => Nat.beq len 1 && decide ((k : Nat) = r1)
  | .aload_n k => Nat.beq len 1 && decide ((k : Nat) = r1)
  | .istore i => Nat.beq len 2 && (decide (i = r1) && (decide (r1 < zMx y) && zNoL y r1))
  | .astore i => Nat.beq len 2 && (decide (i = r1) && (decide (r1 < zMx y) && zNoL y r1))
  | .istore_n k => Nat.beq len 1 && (decide ((k : Nat) = r1) && (decide (r1 < zMx y) && zNoL y r1))
  | .astore_n k => Nat.beq len 1 && (decide ((k : Nat) = r1) && (decide (r1 < zMx y) && zNoL y r1))
  | .lstore i => Nat.beq len 2 && (decide (i = r1) && (decide (r1 + 1 < zMx y) && (zNoL y r1 && decide (r1 ∈ zLg y))))
  | .iinc i n => Nat.beq len 3 && (decide (i = r1) && (decide (r1 < zMx y) && (zNoL y r1 && decide (Int32.ofInt n = vi))))
  | .ifCond _ o => Nat.beq len 3 && decide ((pc : Int) + o = (r1 : Int))
  | .if_icmp _ o => Nat.beq len 3 && decide ((pc : Int) + o = (r1 : Int))
  | .goto o => Nat.beq len 3 && decide ((pc : Int) + o = (r1 : Int))
  | .tableswitch d lo hi offs => decide ((pc : Int) + d = (r1 : Int)) && (decide (lo + (offs.size : Int) = hi + 1) && (sw.all (fun q => decide (lo ≤ q.1.toInt) && decide (q.1.toInt ≤ hi)) && (List.range offs.size).all (fun i => decide ((pc : Int) + offs.getD i 0 = (zSw sw (Int32.ofInt (lo + (i : Int))) r1 : Int)))))
  | .lookupswitch d ps => decide ((pc : Int) + d = (r1 : Int)) && ((ps.toList.zip (ps.toList.drop 1)).all (fun (a, next) => a.1 < next.1) && decide (sw.map (fun q => (q.1.toInt, (q.2 : Int))) = ps.toList.map (fun q => (q.1, (pc : Int) + q.2))))
  | .getfield i => Nat.beq len 3 && (decide (r1 < 8) && (decide (r2 < (zC r1).2.2) && decide (lw_tbl[r3]? = some (.fieldLink (zY y).cls i ((zC r1).2.1 r2).1 ((zC r1).2.1 r2).2.1 ((zC r1).2.1 r2).2.2.1))))
  | .putfield i => Nat.beq len 3 && (decide (r1 < 8) && (decide (r2 < (zC r1).2.2) && (decide (lw_tbl[r3]? = some (.fieldLink (zY y).cls i ((zC r1).2.1 r2).1 ((zC r1).2.1 r2).2.1 ((zC r1).2.1 r2).2.2.1)) && (decide (((zC r1).2.1 r2).2.2.2 = false) && (decide (zIsR r1 r2 = false) && decide (((zC r1).2.1 r2).2.2.1 = if zIsZ r1 r2 = true then "Z" else "I"))))))
  | .invokevirtual i => Nat.beq len 3 && (decide (1 ≤ r1) && (decide (r1 < 178) && (decide (r2 = zNp r1) && (decide (zSt r1 = false) && decide (lw_tbl[r3]? = some (.methodLink (zY y).cls i (zY r1)))))))
  | .invokestatic i => Nat.beq len 3 && (if r1 = 999 then decide (lw_tbl[r3]? = some (.methodLink (zY y).cls i arraycopyName)) else decide (1 ≤ r1) && (decide (r1 < 178) && (decide (r2 = zNp r1) && (decide (zSt r1 = true) && (decide (lw_tbl[r3]? = some (.methodLink (zY y).cls i (zY r1))) || decide (lw_tbl[r3]? = some (.methodLinkNest (zY y).cls i (zY r1) "CanalTurns")))))))
  | .ireturn => Nat.beq len 1 && (if zYz y = true then decide (zRt y = some .boolean) else decide (zRt y = some .int))
  | .lreturn => Nat.beq len 1 && decide (zRt y = some .long)
  | .areturn => Nat.beq len 1 && decide (zRt y = some (.object "CanalTurns$Turns"))
  | .return_ => Nat.beq len 1 && decide (zRt y = none)
  | _ => Nat.beq len 1
def zOk (y : Nat) (e : zE) : Bool := decide (decode (zCo y) e.1 = .ok (e.2.1, e.2.2.1)) && zOkI y e.2.1 e.1 e.2.2.1 e.2.2.2.1 e.2.2.2.2.1 e.2.2.2.2.2.1 e.2.2.2.2.2.2.1 e.2.2.2.2.2.2.2.1 e.2.2.2.2.2.2.2.2
