/-! ===== what is checked of the code by the kernel ===== -/
def zTab : List Cond := lw_tbl.filter goodWord
def zIsN : Cond → Bool
  | .methodLinkNest _ _ _ _ => true
  | _ => false
def zNest : List Cond := lw_tbl.filter zIsN
theorem zTab_of {w : Cond} {i : Nat} (h : lw_tbl[i]? = some w) (hg : goodWord w = true) : w ∈ zTab := List.mem_filter.mpr ⟨List.mem_of_getElem? h, hg⟩
theorem zTab_good {w : Cond} (h : w ∈ zTab) : (w.onTables && w.keeps) = true ∨ ∃ ty, w = .arrayClass ty := good_of_word (List.mem_filter.mp h).2
def zC (ci : Nat) : vw_C := zvCl.getD ci (RX0, TX0, 10)
theorem zin_0 : ∀ w ∈ u_ws RX0 TX0 10, w ∈ zTab := by
  have h : u_ws RX0 TX0 10 = [140, 142, 144, 146, 148, 150, 152, 154, 156, 158].filterMap (fun i => lw_tbl[i]?) := by decide +kernel
  have hg : (u_ws RX0 TX0 10).all goodWord = true := by decide +kernel
  intro w hw
  have h1 := List.all_eq_true.mp hg w hw
  rw [h] at hw
  obtain ⟨i, -, hi⟩ := List.mem_filterMap.mp hw
  exact zTab_of hi h1
theorem zin_1 : ∀ w ∈ u_ws RX1 TX1 4, w ∈ zTab := by
  have h : u_ws RX1 TX1 4 = [105, 107, 109, 111].filterMap (fun i => lw_tbl[i]?) := by decide +kernel
  have hg : (u_ws RX1 TX1 4).all goodWord = true := by decide +kernel
  intro w hw
  have h1 := List.all_eq_true.mp hg w hw
  rw [h] at hw
  obtain ⟨i, -, hi⟩ := List.mem_filterMap.mp hw
  exact zTab_of hi h1
theorem zin_2 : ∀ w ∈ u_ws RX2 TX2 6, w ∈ zTab := by
  have h : u_ws RX2 TX2 6 = [257, 259, 261, 263, 265, 267].filterMap (fun i => lw_tbl[i]?) := by decide +kernel
  have hg : (u_ws RX2 TX2 6).all goodWord = true := by decide +kernel
  intro w hw
  have h1 := List.all_eq_true.mp hg w hw
  rw [h] at hw
  obtain ⟨i, -, hi⟩ := List.mem_filterMap.mp hw
  exact zTab_of hi h1
theorem zin_3 : ∀ w ∈ u_ws RX3 TX3 3, w ∈ zTab := by
  have h : u_ws RX3 TX3 3 = [284, 286, 288].filterMap (fun i => lw_tbl[i]?) := by decide +kernel
  have hg : (u_ws RX3 TX3 3).all goodWord = true := by decide +kernel
  intro w hw
  have h1 := List.all_eq_true.mp hg w hw
  rw [h] at hw
  obtain ⟨i, -, hi⟩ := List.mem_filterMap.mp hw
  exact zTab_of hi h1
theorem zin_4 : ∀ w ∈ u_ws RX4 TX4 14, w ∈ zTab := by
  have h : u_ws RX4 TX4 14 = [210, 212, 214, 216, 218, 220, 222, 224, 226, 228, 230, 232, 234, 236].filterMap (fun i => lw_tbl[i]?) := by decide +kernel
  have hg : (u_ws RX4 TX4 14).all goodWord = true := by decide +kernel
  intro w hw
  have h1 := List.all_eq_true.mp hg w hw
  rw [h] at hw
  obtain ⟨i, -, hi⟩ := List.mem_filterMap.mp hw
  exact zTab_of hi h1
theorem zin_5 : ∀ w ∈ u_ws RX5 TX5 4, w ∈ zTab := by
  have h : u_ws RX5 TX5 4 = [171, 173, 175, 177].filterMap (fun i => lw_tbl[i]?) := by decide +kernel
  have hg : (u_ws RX5 TX5 4).all goodWord = true := by decide +kernel
  intro w hw
  have h1 := List.all_eq_true.mp hg w hw
  rw [h] at hw
  obtain ⟨i, -, hi⟩ := List.mem_filterMap.mp hw
  exact zTab_of hi h1
theorem zin_6 : ∀ w ∈ u_ws RX6 TX6 8, w ∈ zTab := by
  have h : u_ws RX6 TX6 8 = [300, 302, 304, 306, 308, 310, 312, 314].filterMap (fun i => lw_tbl[i]?) := by decide +kernel
  have hg : (u_ws RX6 TX6 8).all goodWord = true := by decide +kernel
  intro w hw
  have h1 := List.all_eq_true.mp hg w hw
  rw [h] at hw
  obtain ⟨i, -, hi⟩ := List.mem_filterMap.mp hw
  exact zTab_of hi h1
theorem zin_7 : ∀ w ∈ u_ws RX7 TX7 30, w ∈ zTab := by
  have h : u_ws RX7 TX7 30 = [807, 809, 811, 813, 815, 817, 819, 821, 823, 825, 827, 829, 831, 833, 835, 837, 839, 841, 843, 845, 847, 849, 851, 853, 855, 857, 859, 861, 863, 865].filterMap (fun i => lw_tbl[i]?) := by decide +kernel
  have hg : (u_ws RX7 TX7 30).all goodWord = true := by decide +kernel
  intro w hw
  have h1 := List.all_eq_true.mp hg w hw
  rw [h] at hw
  obtain ⟨i, -, hi⟩ := List.mem_filterMap.mp hw
  exact zTab_of hi h1
def zPls : List (Nat × Nat × Nat × Nat) := [(0, 0, 0, 0), (695, 693, 694, 55), (339, 337, 338, 55), (375, 373, 374, 55), (455, 453, 454, 55), (355, 353, 354, 55), (471, 469, 470, 55), (445, 443, 444, 55), (514, 512, 513, 55), (324, 322, 323, 55), (335, 333, 334, 55), (366, 364, 365, 55), (343, 342, 0, 55), (559, 557, 558, 55), (351, 349, 350, 55), (383, 381, 382, 55), (391, 389, 390, 55), (399, 397, 398, 55), (619, 617, 618, 56), (700, 698, 699, 56), (524, 522, 523, 59), (533, 531, 532, 59), (537, 536, 13, 59), (540, 539, 0, 59), (547, 546, 0, 59), (544, 543, 14, 59), (551, 550, 15, 59), (748, 746, 747, 60), (758, 756, 757, 60), (770, 768, 769, 60), (413, 411, 412, 58), (420, 419, 2, 58), (424, 423, 3, 58), (433, 432, 5, 58), (428, 427, 4, 58), (441, 440, 6, 58), (451, 450, 7, 58), (475, 474, 9, 58), (459, 457, 458, 58), (464, 463, 8, 58), (479, 478, 10, 58), (483, 482, 11, 58), (487, 486, 12, 58), (491, 489, 490, 58), (500, 498, 499, 58), (496, 494, 495, 58), (504, 502, 503, 58), (579, 577, 578, 58), (508, 506, 507, 58), (593, 591, 592, 58), (602, 600, 601, 58), (597, 595, 596, 58), (730, 728, 729, 54), (320, 318, 319, 53), (331, 329, 330, 53), (347, 345, 346, 53), (362, 360, 361, 53), (370, 368, 369, 53), (379, 377, 378, 53), (387, 385, 386, 53), (395, 393, 394, 53), (403, 401, 402, 53), (520, 518, 519, 53), (529, 527, 528, 53), (563, 561, 562, 53), (567, 565, 566, 53), (571, 569, 570, 53), (575, 573, 574, 53), (583, 581, 582, 53), (589, 587, 588, 53), (615, 613, 614, 53), (623, 621, 622, 53), (627, 625, 626, 53), (631, 629, 630, 53), (636, 634, 635, 53), (640, 638, 639, 53), (652, 650, 651, 53), (656, 654, 655, 53), (664, 662, 663, 53), (671, 669, 670, 53), (683, 681, 682, 53), (687, 685, 686, 53), (691, 689, 690, 53), (710, 708, 709, 53), (714, 712, 713, 53), (718, 716, 717, 53), (726, 724, 725, 53), (736, 734, 735, 53), (740, 738, 739, 53), (744, 742, 743, 53), (754, 752, 753, 53), (762, 760, 761, 53), (766, 764, 765, 53), (327, 326, 0, 53), (436, 435, 0, 53), (358, 357, 0, 53), (675, 674, 0, 53), (678, 677, 0, 53), (722, 721, 22, 53), (409, 408, 1, 53), (611, 610, 18, 53), (555, 554, 16, 53), (607, 606, 17, 53), (644, 643, 19, 53), (660, 659, 20, 53), (667, 666, 0, 53), (706, 705, 21, 53), (875, 874, 0, 61), (1129, 1128, 0, 61), (888, 887, 24, 61), (945, 944, 30, 61), (880, 879, 23, 61), (871, 869, 870, 61), (884, 882, 883, 61), (892, 890, 891, 61), (896, 894, 895, 61), (901, 899, 900, 61), (906, 904, 905, 61), (912, 910, 911, 61), (916, 914, 915, 61), (937, 936, 28, 61), (941, 940, 29, 61), (949, 948, 31, 61), (933, 932, 27, 61), (961, 960, 34, 61), (957, 956, 33, 61), (969, 968, 36, 61), (965, 964, 35, 61), (953, 952, 32, 61), (977, 976, 38, 61), (973, 972, 37, 61), (929, 928, 26, 61), (925, 924, 25, 61), (981, 980, 39, 61), (1052, 1051, 46, 61), (1056, 1055, 47, 61), (1048, 1047, 45, 61), (921, 919, 920, 61), (985, 983, 984, 61), (998, 997, 41, 61), (1009, 1008, 0, 61), (1006, 1005, 43, 61), (1002, 1001, 42, 61), (994, 993, 40, 61), (1013, 1012, 44, 61), (990, 988, 989, 61), (1022, 1020, 1021, 61), (1026, 1024, 1025, 61), (1030, 1028, 1029, 61), (1034, 1032, 1033, 61), (1039, 1037, 1038, 61), (1060, 1059, 48, 61), (1044, 1042, 1043, 61), (1064, 1062, 1063, 61), (1068, 1066, 1067, 61), (1072, 1070, 1071, 61), (1076, 1074, 1075, 61), (1080, 1078, 1079, 61), (1089, 1088, 49, 61), (1085, 1083, 1084, 61), (1093, 1091, 1092, 61), (1097, 1095, 1096, 61), (1105, 1104, 50, 61), (1101, 1099, 1100, 61), (1114, 1113, 0, 61), (1109, 1107, 1108, 61), (1118, 1116, 1117, 61), (1122, 1120, 1121, 61), (1133, 1132, 51, 61), (1126, 1124, 1125, 61), (1137, 1135, 1136, 61), (1141, 1139, 1140, 61), (1145, 1143, 1144, 61), (1153, 1151, 1152, 61), (1157, 1155, 1156, 61), (1161, 1159, 1160, 61), (1148, 1147, 0, 61), (1165, 1163, 1164, 61), (1171, 1169, 1170, 61), (1175, 1173, 1174, 61), (1179, 1177, 1178, 61), (416, 415, 0, 57), (91, 90, 0, 57), (648, 647, 0, 57)]
def zNps : List Nat := [1, 1, 1, 1, 0, 1, 1, 1, 1, 2, 3, 3, 5, 3, 2, 1, 1, 1, 3, 1, 1, 0, 1, 1, 1, 0, 1, 2, 1, 2, 5, 1, 3, 2, 3, 1, 1, 0, 3, 1, 1, 2, 0, 1, 1, 1, 1, 1, 1, 0, 0, 1, 1, 2, 3, 2, 3, 2, 1, 1, 1, 2, 1, 0, 1, 1, 1, 1, 2, 1, 3, 0, 2, 1, 3, 1, 1, 2, 1, 2, 1, 2, 1, 2, 0, 2, 0, 0, 1, 3, 3, 2, 5, 3, 1, 2, 3, 2, 1, 0, 1, 1, 0, 2, 3, 2, 2, 3, 2, 1, 1, 2, 2, 3, 2, 3, 2, 1, 1, 1, 0, 2, 2, 1, 2, 0, 1, 1, 1, 2, 1, 2, 0, 1, 0, 0, 0, 2, 1, 0, 1, 0, 0, 0, 1, 0, 1, 1, 1, 1, 2, 0, 1, 3, 0, 2, 1, 3, 1, 1, 1, 2, 1, 1, 3, 2, 1, 2, 2, 1, 2, 0, 2, 0, 0, 1, 1, 3, 3, 2, 5, 2, 2, 2]
def zNp (y : Nat) : Nat := zNps.getD y 0
def zSts : List Bool := [true, false, false, false, false, false, false, false, false, false, false, false, false, false, false, false, false, false, false, false, false, false, false, true, true, false, false, false, false, false, false, false, false, false, false, false, false, false, false, false, false, false, false, false, false, false, false, false, false, false, false, false, false, false, false, false, false, false, false, false, false, false, false, false, false, false, false, false, false, false, false, false, false, false, false, false, false, false, false, false, false, false, false, false, false, false, false, false, false, false, false, false, false, true, true, true, true, true, false, false, false, false, false, false, false, true, false, true, true, false, false, false, false, false, false, false, false, false, false, false, false, false, false, false, false, false, false, false, false, false, false, false, false, false, false, false, false, false, false, false, true, false, false, false, false, false, false, false, false, false, false, false, false, false, false, false, false, false, false, false, false, false, false, false, true, false, false, false, false, false, false, false, false, false, false, false, true, false, false, false, false, true, true, true]
def zSt (y : Nat) : Bool := zSts.getD y false
/-- of a method: its words, by their places -/
def zYok (y : Nat) : Bool := match zPls.getD y (0, 0, 0, 0) with
  | (pc, pi, ps, pn) => decide (lw_tbl[pc]? = some (.code (zY y) (zCo y) (zMx y) (zRt y))) && (decide (lw_tbl[pn]? = some (.initialized (zY y).cls)) && (decide ((zY y).cls ≠ "java/lang/invoke/MethodHandle") && (decide ((zY y).cls ≠ "java/lang/invoke/VarHandle") && (decide ((parseMethodDescriptor (zY y).desc).map (fun d => d.parameters.length) = some (zNp y)) && (decide (zMx y ≤ 18) && (plainFor (zY y) &&
    (if zSt y = true then decide (lw_tbl[pi]? = some (.static (zY y))) else decide (lw_tbl[pi]? = some (.instanceMethod (zY y))) && (decide (lw_tbl[ps]? = some (.selects (zY y).cls (zY y) (zY y))) && decide ((zC (zYc y)).1 = (zY y).cls ∧ zYc y < 8)))))))))
def zNoL (y r : Nat) : Bool := (zLg y).all (fun k => !(Nat.beq (k + 1) r))
/-- of an instruction: what it stands for -/
def zOkI (y : Nat) (ins : Instr) (pc len r1 r2 r3 : Nat) (vi : Int32) (vl : Int64) (sw : List (Int32 × Nat)) : Bool := match ins with
  | .iconst n => Nat.beq len 1 && decide (Int32.ofInt n = vi)
  | .bipush n => Nat.beq len 2 && decide ((Int8.ofInt n).toInt32 = vi)
  | .sipush n => Nat.beq len 3 && decide ((Int16.ofInt n).toInt32 = vi)
  | .ldc_w i => Nat.beq len 3 && decide (lw_tbl[r3]? = some (.constant (zY y).cls i vi))
  | .lconst n => Nat.beq len 1 && decide (Int64.ofNat (n : Nat) = vl)
  | .ldc2_w i => Nat.beq len 3 && decide (lw_tbl[r3]? = some (.constantLong (zY y).cls i vl))
  | .iload i => Nat.beq len 2 && decide (i = r1)
  | .lload i => Nat.beq len 2 && decide (i = r1)
  | .aload i => Nat.beq len 2 && decide (i = r1)
  | .iload_n k => Nat.beq len 1 && decide ((k : Nat) = r1)
  | .lload_n k => Nat.beq len 1 && decide ((k : Nat) = r1)
  | .aload_n k => Nat.beq len 1 && decide ((k : Nat) = r1)
  | .istore i => Nat.beq len 2 && (decide (i = r1) && (decide (r1 < zMx y) && zNoL y r1))
  | .astore i => Nat.beq len 2 && (decide (i = r1) && (decide (r1 < zMx y) && zNoL y r1))
  | .istore_n k => Nat.beq len 1 && (decide ((k : Nat) = r1) && (decide (r1 < zMx y) && zNoL y r1))
  | .astore_n k => Nat.beq len 1 && (decide ((k : Nat) = r1) && (decide (r1 < zMx y) && zNoL y r1))
  | .lstore i => Nat.beq len 2 && (decide (i = r1) && (decide (r1 + 1 < zMx y) && (zNoL y r1 && decide (r1 ∈ zLg y))))
  | .iinc i n => Nat.beq len 3 && (decide (i = r1) && (decide (r1 < zMx y) && (zNoL y r1 && decide (Int32.ofInt n = vi))))
  | .ifCond _ o => Nat.beq len 3 && decide ((pc : Int) + o = (r1 : Int))
  | .if_icmp _ o => Nat.beq len 3 && decide ((pc : Int) + o = (r1 : Int))
  | .ifnull o => Nat.beq len 3 && decide ((pc : Int) + o = (r1 : Int))
  | .ifnonnull o => Nat.beq len 3 && decide ((pc : Int) + o = (r1 : Int))
  | .goto o => Nat.beq len 3 && decide ((pc : Int) + o = (r1 : Int))
  | .tableswitch d lo hi offs => decide ((pc : Int) + d = (r1 : Int)) && (decide (lo + (offs.size : Int) = hi + 1) && (sw.all (fun q => decide (lo ≤ q.1.toInt) && decide (q.1.toInt ≤ hi)) && (List.range offs.size).all (fun i => decide ((pc : Int) + offs.getD i 0 = (zSw sw (Int32.ofInt (lo + (i : Int))) r1 : Int)))))
  | .lookupswitch d ps => decide ((pc : Int) + d = (r1 : Int)) && ((ps.toList.zip (ps.toList.drop 1)).all (fun (a, next) => a.1 < next.1) && decide (sw.map (fun q => (q.1.toInt, (q.2 : Int))) = ps.toList.map (fun q => (q.1, (pc : Int) + q.2))))
  | .getfield i => Nat.beq len 3 && (decide (r1 < 8) && (decide (r2 < (zC r1).2.2) && decide (lw_tbl[r3]? = some (.fieldLink (zY y).cls i ((zC r1).2.1 r2).1 ((zC r1).2.1 r2).2.1 ((zC r1).2.1 r2).2.2.1))))
  | .putfield i => Nat.beq len 3 && (decide (r1 < 8) && (decide (r2 < (zC r1).2.2) && (decide (lw_tbl[r3]? = some (.fieldLink (zY y).cls i ((zC r1).2.1 r2).1 ((zC r1).2.1 r2).2.1 ((zC r1).2.1 r2).2.2.1)) && (decide (((zC r1).2.1 r2).2.2.2 = false) && (decide (zIsR r1 r2 = false) && decide (((zC r1).2.1 r2).2.2.1 = if zIsZ r1 r2 = true then "Z" else "I"))))))
  | .invokevirtual i => Nat.beq len 3 && (decide (1 ≤ r1) && (decide (r1 < 184) && (decide (r2 = zNp r1) && (decide (zSt r1 = false) && decide (lw_tbl[r3]? = some (.methodLink (zY y).cls i (zY r1)))))))
  | .invokestatic i => Nat.beq len 3 && (if r1 = 999 then decide (lw_tbl[r3]? = some (.methodLink (zY y).cls i arraycopyName)) else decide (1 ≤ r1) && (decide (r1 < 184) && (decide (r2 = zNp r1) && (decide (zSt r1 = true) && (decide (lw_tbl[r3]? = some (.methodLink (zY y).cls i (zY r1))) || decide (lw_tbl[r3]? = some (.methodLinkNest (zY y).cls i (zY r1) "CanalTurns")))))))
  | .ireturn => Nat.beq len 1 && (if zYz y = true then decide (zRt y = some .boolean) else decide (zRt y = some .int))
  | .lreturn => Nat.beq len 1 && decide (zRt y = some .long)
  | .areturn => Nat.beq len 1 && (decide (zRt y = some (.object "CanalTurns$Turns")) || decide (zRt y = some (.object "CanalTurns$Tape")))
  | .return_ => Nat.beq len 1 && decide (zRt y = none)
  | _ => Nat.beq len 1
def zOk (y : Nat) (e : zE) : Bool := decide (decode (zCo y) e.1 = .ok (e.2.1, e.2.2.1)) && zOkI y e.2.1 e.1 e.2.2.1 e.2.2.2.1 e.2.2.2.2.1 e.2.2.2.2.2.1 e.2.2.2.2.2.2.1 e.2.2.2.2.2.2.2.1 e.2.2.2.2.2.2.2.2
