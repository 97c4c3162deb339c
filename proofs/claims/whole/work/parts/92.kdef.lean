/-! ===== THE CONSTRUCTORS: a machine over a list of cells, which the kernel runs ===== -/
/-- a cell: an object; an int or byte array; a long array of zeros; an array of references -/
abbrev kC : Type := (Nat × List Value) ⊕ (Nat × Nat × (Nat → Int32)) ⊕ Nat ⊕ (Nat × Nat × (Nat → Option Nat))
abbrev kS : Type := Nat × List Value × List Value × List kC × Nat × Nat
abbrev kN : Type := Nat × Instr × Nat × Nat × Nat × Nat × Int32
def kTys : List (Nat → FieldType) := [tyX0, tyX1, tyX2, tyX3, tyX4, tyX5, tyX6, tyX7]
def kTy (ci : Nat) : Nat → FieldType := kTys.getD ci tyX0
def kDef (ci : Nat) : List Value := (List.range (zC ci).2.2).map (fun k => defaultValue (kTy ci k))
def kYs : List MethodName := [yL_law0, yX1_init, yX0_init, yX5_init, yX4_init, yX2_init, yX3_init, yX6_init, yX7_init]
def kY (n : Nat) : MethodName := kYs.getD n yL_law0
def kCos : List ByteArray := [zCo 0, cX1_init, cX0_init, cX5_init, cX4_init, cX2_init, cX3_init, cX6_init, cX7_init]
def kCo (n : Nat) : ByteArray := kCos.getD n (zCo 0)
/-- a method of the class with as many locals -/
def kYy (n : Nat) : Nat := [0, 9, 1, 4, 4, 4, 4, 1, 1].getD n 0
def kMc (n : Nat) : Nat := [107, 3, 8, 21, 9, 6, 1, 84, 21].getD n 0
def kMs (n : Nat) : Nat := [2163, 36, 64, 194, 72, 151, 60, 1105, 1020].getD n 0
def kD (n : Nat) : Nat := [5, 1, 2, 3, 1, 1, 1, 4, 1].getD n 0
def kNp (n : Nat) : Nat := [0, 1, 0, 0, 0, 0, 0, 0, 0].getD n 0
/-- the places of the words of initialization, by class -/
def kIni (ci : Nat) : Nat := [55, 56, 59, 60, 58, 54, 53, 61].getD ci 0
/-- of a constructor: the places of its code, that it is no static, that its class is ready -/
def kPls : List (Nat × Nat × Nat) := [(0, 0, 0), (87, 86, 56), (81, 80, 55), (75, 74, 54), (186, 185, 58), (243, 242, 59), (276, 275, 60), (67, 66, 53), (776, 775, 61)]
def kT_0 : List kN := [(0, .new 7, 3, 6, 63, 64, 0), (3, .dup, 1, 0, 0, 0, 0), (4, .invokespecial 9, 3, 7, 0, 65, 0), (7, .astore_n 1, 1, 1, 0, 0, 0), (8, .new 10, 3, 7, 772, 773, 0), (11, .dup, 1, 0, 0, 0, 0), (12, .invokespecial 12, 3, 8, 0, 774, 0), (15, .astore_n 2, 1, 2, 0, 0, 0)]
def kT_1 : List kN := [(0, .aload_n 0, 1, 0, 0, 0, 0), (1, .invokespecial 3, 3, 100, 0, 88, 0), (4, .aload_n 0, 1, 0, 0, 0, 0), (5, .iconst 0, 1, 0, 0, 0, nI 0), (6, .putfield 9, 3, 1, 3, 101, 0), (9, .iload_n 1, 1, 1, 0, 0, 0), (10, .iconst 0, 1, 0, 0, 0, nI 0), (11, .invokestatic 15, 3, 0, 0, 89, 0), (14, .istore_n 2, 1, 2, 0, 0, 0), (15, .aload_n 0, 1, 0, 0, 0, 0), (16, .iload_n 2, 1, 2, 0, 0, 0), (17, .newarray .int, 2, 21, 0, 114, 0), (19, .putfield 21, 3, 1, 0, 92, 0), (22, .aload_n 0, 1, 0, 0, 0, 0), (23, .iload_n 2, 1, 2, 0, 0, 0), (24, .newarray .int, 2, 21, 0, 114, 0), (26, .putfield 25, 3, 1, 1, 95, 0), (29, .aload_n 0, 1, 0, 0, 0, 0), (30, .iload_n 2, 1, 2, 0, 0, 0), (31, .newarray .int, 2, 21, 0, 114, 0), (33, .putfield 28, 3, 1, 2, 98, 0), (36, .return_, 1, 0, 0, 0, 0)]
def kT_2 : List kN := [(0, .aload_n 0, 1, 0, 0, 0, 0), (1, .invokespecial 3, 3, 100, 0, 82, 0), (4, .aload_n 0, 1, 0, 0, 0, 0), (5, .iconst 4, 1, 0, 0, 0, nI 4), (6, .newarray .int, 2, 21, 0, 114, 0), (8, .putfield 9, 3, 0, 0, 115, 0), (11, .aload_n 0, 1, 0, 0, 0, 0), (12, .iconst 4, 1, 0, 0, 0, nI 4), (13, .newarray .int, 2, 21, 0, 114, 0), (15, .putfield 15, 3, 0, 1, 118, 0), (18, .aload_n 0, 1, 0, 0, 0, 0), (19, .bipush 8, 2, 0, 0, 0, nI 8), (21, .newarray .int, 2, 21, 0, 114, 0), (23, .putfield 18, 3, 0, 2, 120, 0), (26, .aload_n 0, 1, 0, 0, 0, 0), (27, .bipush 8, 2, 0, 0, 0, nI 8), (29, .newarray .int, 2, 21, 0, 114, 0), (31, .putfield 21, 3, 0, 3, 123, 0), (34, .aload_n 0, 1, 0, 0, 0, 0), (35, .new 24, 3, 1, 83, 84, 0), (38, .dup, 1, 0, 0, 0, 0), (39, .bipush 12, 2, 0, 0, 0, nI 12), (41, .invokespecial 26, 3, 1, 1, 85, 0), (44, .putfield 29, 3, 0, 4, 126, 0), (47, .aload_n 0, 1, 0, 0, 0, 0), (48, .iconst 0, 1, 0, 0, 0, nI 0), (49, .putfield 33, 3, 0, 5, 129, 0), (52, .aload_n 0, 1, 0, 0, 0, 0), (53, .iconst 0, 1, 0, 0, 0, nI 0), (54, .putfield 37, 3, 0, 6, 131, 0), (57, .aload_n 0, 1, 0, 0, 0, 0), (58, .bipush 24, 2, 0, 0, 0, nI 24), (60, .putfield 40, 3, 0, 7, 134, 0), (63, .aload_n 0, 1, 0, 0, 0, 0), (64, .iconst 0, 1, 0, 0, 0, nI 0), (65, .putfield 43, 3, 0, 8, 136, 0), (68, .aload_n 0, 1, 0, 0, 0, 0), (69, .iconst 0, 1, 0, 0, 0, nI 0), (70, .putfield 46, 3, 0, 9, 138, 0), (73, .iconst 0, 1, 0, 0, 0, nI 0), (74, .istore_n 1, 1, 1, 0, 0, 0), (75, .iload_n 1, 1, 1, 0, 0, 0), (76, .iconst 4, 1, 0, 0, 0, nI 4), (77, .if_icmp .ge 23, 3, 100, 0, 0, 0), (80, .aload_n 0, 1, 0, 0, 0, 0), (81, .getfield 9, 3, 0, 0, 115, 0), (84, .iload_n 1, 1, 1, 0, 0, 0), (85, .iconst 1, 1, 0, 0, 0, nI 1), (86, .iastore, 1, 0, 0, 0, 0), (87, .aload_n 0, 1, 0, 0, 0, 0), (88, .getfield 15, 3, 0, 1, 118, 0), (91, .iload_n 1, 1, 1, 0, 0, 0), (92, .iconst 5, 1, 0, 0, 0, nI 5), (93, .iastore, 1, 0, 0, 0, 0), (94, .iinc 1 1, 3, 1, 0, 0, nI 1), (97, .goto (-22), 3, 75, 0, 0, 0), (100, .return_, 1, 0, 0, 0, 0)]
def kT_3 : List kN := [(0, .aload_n 0, 1, 0, 0, 0, 0), (1, .invokespecial 3, 3, 100, 0, 76, 0), (4, .aload_n 0, 1, 0, 0, 0, 0), (5, .new 9, 3, 0, 77, 78, 0), (8, .dup, 1, 0, 0, 0, 0), (9, .invokespecial 11, 3, 2, 0, 79, 0), (12, .putfield 12, 3, 5, 0, 163, 0), (15, .aload_n 0, 1, 0, 0, 0, 0), (16, .new 18, 3, 1, 161, 84, 0), (19, .dup, 1, 0, 0, 0, 0), (20, .iconst 5, 1, 0, 0, 0, nI 5), (21, .invokespecial 20, 3, 1, 1, 162, 0), (24, .putfield 23, 3, 5, 1, 165, 0), (27, .aload_n 0, 1, 0, 0, 0, 0), (28, .new 18, 3, 1, 161, 84, 0), (31, .dup, 1, 0, 0, 0, 0), (32, .bipush 8, 2, 0, 0, 0, nI 8), (34, .invokespecial 20, 3, 1, 1, 162, 0), (37, .putfield 27, 3, 5, 2, 167, 0), (40, .aload_n 0, 1, 0, 0, 0, 0), (41, .new 18, 3, 1, 161, 84, 0), (44, .dup, 1, 0, 0, 0, 0), (45, .bipush 8, 2, 0, 0, 0, nI 8), (47, .invokespecial 20, 3, 1, 1, 162, 0), (50, .putfield 30, 3, 5, 3, 169, 0), (53, .return_, 1, 0, 0, 0, 0)]
def kT_4 : List kN := [(0, .aload_n 0, 1, 0, 0, 0, 0), (1, .invokespecial 3, 3, 100, 0, 187, 0), (4, .aload_n 0, 1, 0, 0, 0, 0), (5, .bipush 8, 2, 0, 0, 0, nI 8), (7, .newarray .int, 2, 21, 0, 114, 0), (9, .putfield 9, 3, 4, 0, 188, 0), (12, .aload_n 0, 1, 0, 0, 0, 0), (13, .bipush 8, 2, 0, 0, 0, nI 8), (15, .newarray .int, 2, 21, 0, 114, 0), (17, .putfield 15, 3, 4, 1, 190, 0), (20, .aload_n 0, 1, 0, 0, 0, 0), (21, .bipush 8, 2, 0, 0, 0, nI 8), (23, .newarray .int, 2, 21, 0, 114, 0), (25, .putfield 18, 3, 4, 2, 192, 0), (28, .aload_n 0, 1, 0, 0, 0, 0), (29, .bipush 8, 2, 0, 0, 0, nI 8), (31, .newarray .int, 2, 21, 0, 114, 0), (33, .putfield 21, 3, 4, 3, 194, 0), (36, .aload_n 0, 1, 0, 0, 0, 0), (37, .bipush 8, 2, 0, 0, 0, nI 8), (39, .newarray .int, 2, 21, 0, 114, 0), (41, .putfield 24, 3, 4, 4, 196, 0), (44, .aload_n 0, 1, 0, 0, 0, 0), (45, .bipush 8, 2, 0, 0, 0, nI 8), (47, .newarray .int, 2, 21, 0, 114, 0), (49, .putfield 27, 3, 4, 5, 197, 0), (52, .aload_n 0, 1, 0, 0, 0, 0), (53, .bipush 8, 2, 0, 0, 0, nI 8), (55, .newarray .int, 2, 21, 0, 114, 0), (57, .putfield 30, 3, 4, 6, 198, 0), (60, .aload_n 0, 1, 0, 0, 0, 0), (61, .bipush 8, 2, 0, 0, 0, nI 8), (63, .newarray .int, 2, 21, 0, 114, 0), (65, .putfield 33, 3, 4, 7, 199, 0), (68, .aload_n 0, 1, 0, 0, 0, 0), (69, .bipush 8, 2, 0, 0, 0, nI 8), (71, .newarray .int, 2, 21, 0, 114, 0), (73, .putfield 36, 3, 4, 8, 200, 0), (76, .aload_n 0, 1, 0, 0, 0, 0), (77, .iconst 0, 1, 0, 0, 0, nI 0), (78, .putfield 39, 3, 4, 9, 201, 0), (81, .aload_n 0, 1, 0, 0, 0, 0), (82, .iconst 0, 1, 0, 0, 0, nI 0), (83, .putfield 43, 3, 4, 10, 203, 0), (86, .aload_n 0, 1, 0, 0, 0, 0), (87, .iconst 0, 1, 0, 0, 0, nI 0), (88, .putfield 46, 3, 4, 11, 205, 0), (91, .aload_n 0, 1, 0, 0, 0, 0), (92, .iconst 0, 1, 0, 0, 0, nI 0), (93, .putfield 49, 3, 4, 12, 207, 0), (96, .aload_n 0, 1, 0, 0, 0, 0), (97, .iconst 0, 1, 0, 0, 0, nI 0), (98, .putfield 52, 3, 4, 13, 209, 0), (101, .return_, 1, 0, 0, 0, 0)]
def kT_5 : List kN := [(0, .aload_n 0, 1, 0, 0, 0, 0), (1, .invokespecial 3, 3, 100, 0, 244, 0), (4, .aload_n 0, 1, 0, 0, 0, 0), (5, .bipush 100, 2, 0, 0, 0, nI 100), (7, .newarray .byte, 2, 20, 0, 270, 0), (9, .putfield 9, 3, 2, 0, 247, 0), (12, .aload_n 0, 1, 0, 0, 0, 0), (13, .iconst 0, 1, 0, 0, 0, nI 0), (14, .putfield 15, 3, 2, 1, 248, 0), (17, .aload_n 0, 1, 0, 0, 0, 0), (18, .bipush 12, 2, 0, 0, 0, nI 12), (20, .newarray .int, 2, 21, 0, 114, 0), (22, .putfield 19, 3, 2, 2, 250, 0), (25, .aload_n 0, 1, 0, 0, 0, 0), (26, .iconst 3, 1, 0, 0, 0, nI 3), (27, .bipush 12, 2, 0, 0, 0, nI 12), (29, .multianewarray 23 2, 4, 114, 0, 245, 0), (33, .putfield 25, 3, 2, 3, 252, 0), (36, .aload_n 0, 1, 0, 0, 0, 0), (37, .iconst 0, 1, 0, 0, 0, nI 0), (38, .putfield 28, 3, 2, 4, 254, 0), (41, .aload_n 0, 1, 0, 0, 0, 0), (42, .iconst 0, 1, 0, 0, 0, nI 0), (43, .putfield 31, 3, 2, 5, 256, 0), (46, .return_, 1, 0, 0, 0, 0)]
def kT_6 : List kN := [(0, .aload_n 0, 1, 0, 0, 0, 0), (1, .invokespecial 3, 3, 100, 0, 277, 0), (4, .aload_n 0, 1, 0, 0, 0, 0), (5, .bipush 60, 2, 0, 0, 0, nI 60), (7, .newarray .long, 2, 22, 0, 291, 0), (9, .putfield 9, 3, 3, 0, 278, 0), (12, .aload_n 0, 1, 0, 0, 0, 0), (13, .iconst (-1), 1, 0, 0, 0, (-1)), (14, .putfield 15, 3, 3, 1, 280, 0), (17, .aload_n 0, 1, 0, 0, 0, 0), (18, .iconst 0, 1, 0, 0, 0, nI 0), (19, .putfield 19, 3, 3, 2, 282, 0), (22, .return_, 1, 0, 0, 0, 0)]
def kT_7 : List kN := [(0, .aload_n 0, 1, 0, 0, 0, 0), (1, .invokespecial 3, 3, 100, 0, 68, 0), (4, .aload_n 0, 1, 0, 0, 0, 0), (5, .new 9, 3, 5, 71, 72, 0), (8, .dup, 1, 0, 0, 0, 0), (9, .invokespecial 11, 3, 3, 0, 73, 0), (12, .putfield 12, 3, 6, 0, 292, 0), (15, .aload_n 0, 1, 0, 0, 0, 0), (16, .new 9, 3, 5, 71, 72, 0), (19, .dup, 1, 0, 0, 0, 0), (20, .invokespecial 11, 3, 3, 0, 73, 0), (23, .putfield 18, 3, 6, 1, 293, 0), (26, .aload_n 0, 1, 0, 0, 0, 0), (27, .iconst 0, 1, 0, 0, 0, nI 0), (28, .putfield 21, 3, 6, 2, 294, 0), (31, .aload_n 0, 1, 0, 0, 0, 0), (32, .new 25, 3, 0, 180, 78, 0), (35, .dup, 1, 0, 0, 0, 0), (36, .invokespecial 27, 3, 2, 0, 181, 0), (39, .putfield 28, 3, 6, 3, 295, 0), (42, .aload_n 0, 1, 0, 0, 0, 0), (43, .new 32, 3, 4, 182, 183, 0), (46, .dup, 1, 0, 0, 0, 0), (47, .invokespecial 34, 3, 4, 0, 184, 0), (50, .putfield 35, 3, 6, 4, 296, 0), (53, .aload_n 0, 1, 0, 0, 0, 0), (54, .bipush 8, 2, 0, 0, 0, nI 8), (56, .newarray .int, 2, 21, 0, 114, 0), (58, .putfield 39, 3, 6, 5, 297, 0), (61, .aload_n 0, 1, 0, 0, 0, 0), (62, .new 43, 3, 2, 239, 240, 0), (65, .dup, 1, 0, 0, 0, 0), (66, .invokespecial 45, 3, 5, 0, 241, 0), (69, .putfield 46, 3, 6, 6, 298, 0), (72, .aload_n 0, 1, 0, 0, 0, 0), (73, .bipush 6, 2, 0, 0, 0, nI 6), (75, .anewarray 50, 3, 0, 0, 271, 0), (78, .putfield 52, 3, 6, 7, 299, 0), (81, .iconst 0, 1, 0, 0, 0, nI 0), (82, .istore_n 1, 1, 1, 0, 0, 0), (83, .iload_n 1, 1, 1, 0, 0, 0), (84, .bipush 6, 2, 0, 0, 0, nI 6), (86, .if_icmp .ge 22, 3, 108, 0, 0, 0), (89, .aload_n 0, 1, 0, 0, 0, 0), (90, .getfield 52, 3, 6, 7, 299, 0), (93, .iload_n 1, 1, 1, 0, 0, 0), (94, .new 50, 3, 3, 271, 273, 0), (97, .dup, 1, 0, 0, 0, 0), (98, .invokespecial 56, 3, 6, 0, 274, 0), (101, .aastore, 1, 0, 0, 0, 0), (102, .iinc 1 1, 3, 1, 0, 0, nI 1), (105, .goto (-22), 3, 83, 0, 0, 0), (108, .return_, 1, 0, 0, 0, 0)]
def kT_8 : List kN := [(0, .aload_n 0, 1, 0, 0, 0, 0), (1, .invokespecial 9, 3, 100, 0, 777, 0), (4, .aload_n 0, 1, 0, 0, 0, 0), (5, .sipush 140, 3, 0, 0, 0, nI 140), (8, .newarray .int, 2, 21, 0, 114, 0), (10, .putfield 15, 3, 7, 1, 778, 0), (13, .aload_n 0, 1, 0, 0, 0, 0), (14, .sipush 140, 3, 0, 0, 0, nI 140), (17, .newarray .int, 2, 21, 0, 114, 0), (19, .putfield 19, 3, 7, 2, 779, 0), (22, .aload_n 0, 1, 0, 0, 0, 0), (23, .sipush 140, 3, 0, 0, 0, nI 140), (26, .newarray .int, 2, 21, 0, 114, 0), (28, .putfield 22, 3, 7, 3, 780, 0), (31, .aload_n 0, 1, 0, 0, 0, 0), (32, .bipush 8, 2, 0, 0, 0, nI 8), (34, .newarray .int, 2, 21, 0, 114, 0), (36, .putfield 25, 3, 7, 5, 782, 0), (39, .aload_n 0, 1, 0, 0, 0, 0), (40, .bipush 8, 2, 0, 0, 0, nI 8), (42, .newarray .int, 2, 21, 0, 114, 0), (44, .putfield 28, 3, 7, 6, 783, 0), (47, .aload_n 0, 1, 0, 0, 0, 0), (48, .bipush 8, 2, 0, 0, 0, nI 8), (50, .newarray .int, 2, 21, 0, 114, 0), (52, .putfield 31, 3, 7, 7, 784, 0), (55, .aload_n 0, 1, 0, 0, 0, 0), (56, .bipush 8, 2, 0, 0, 0, nI 8), (58, .newarray .int, 2, 21, 0, 114, 0), (60, .putfield 34, 3, 7, 8, 785, 0), (63, .aload_n 0, 1, 0, 0, 0, 0), (64, .bipush 8, 2, 0, 0, 0, nI 8), (66, .newarray .int, 2, 21, 0, 114, 0), (68, .putfield 37, 3, 7, 9, 786, 0), (71, .aload_n 0, 1, 0, 0, 0, 0), (72, .bipush 8, 2, 0, 0, 0, nI 8), (74, .newarray .int, 2, 21, 0, 114, 0), (76, .putfield 40, 3, 7, 10, 787, 0), (79, .aload_n 0, 1, 0, 0, 0, 0), (80, .bipush 8, 2, 0, 0, 0, nI 8), (82, .newarray .int, 2, 21, 0, 114, 0), (84, .putfield 43, 3, 7, 11, 788, 0), (87, .aload_n 0, 1, 0, 0, 0, 0), (88, .bipush 8, 2, 0, 0, 0, nI 8), (90, .newarray .int, 2, 21, 0, 114, 0), (92, .putfield 46, 3, 7, 15, 792, 0), (95, .aload_n 0, 1, 0, 0, 0, 0), (96, .bipush 8, 2, 0, 0, 0, nI 8), (98, .newarray .int, 2, 21, 0, 114, 0), (100, .putfield 49, 3, 7, 16, 793, 0), (103, .aload_n 0, 1, 0, 0, 0, 0), (104, .bipush 100, 2, 0, 0, 0, nI 100), (106, .newarray .int, 2, 21, 0, 114, 0), (108, .putfield 52, 3, 7, 17, 794, 0), (111, .aload_n 0, 1, 0, 0, 0, 0), (112, .bipush 12, 2, 0, 0, 0, nI 12), (114, .newarray .int, 2, 21, 0, 114, 0), (116, .putfield 55, 3, 7, 22, 799, 0), (119, .aload_n 0, 1, 0, 0, 0, 0), (120, .bipush 12, 2, 0, 0, 0, nI 12), (122, .newarray .int, 2, 21, 0, 114, 0), (124, .putfield 58, 3, 7, 23, 800, 0), (127, .aload_n 0, 1, 0, 0, 0, 0), (128, .bipush 12, 2, 0, 0, 0, nI 12), (130, .newarray .int, 2, 21, 0, 114, 0), (132, .putfield 61, 3, 7, 24, 801, 0), (135, .aload_n 0, 1, 0, 0, 0, 0), (136, .bipush 12, 2, 0, 0, 0, nI 12), (138, .newarray .int, 2, 21, 0, 114, 0), (140, .putfield 64, 3, 7, 25, 802, 0), (143, .aload_n 0, 1, 0, 0, 0, 0), (144, .bipush 8, 2, 0, 0, 0, nI 8), (146, .newarray .int, 2, 21, 0, 114, 0), (148, .putfield 67, 3, 7, 26, 803, 0), (151, .aload_n 0, 1, 0, 0, 0, 0), (152, .bipush 6, 2, 0, 0, 0, nI 6), (154, .newarray .int, 2, 21, 0, 114, 0), (156, .dup, 1, 0, 0, 0, 0), (157, .iconst 0, 1, 0, 0, 0, nI 0), (158, .iconst (-1), 1, 0, 0, 0, (-1)), (159, .iastore, 1, 0, 0, 0, 0), (160, .dup, 1, 0, 0, 0, 0), (161, .iconst 1, 1, 0, 0, 0, nI 1), (162, .iconst (-1), 1, 0, 0, 0, (-1)), (163, .iastore, 1, 0, 0, 0, 0), (164, .dup, 1, 0, 0, 0, 0), (165, .iconst 2, 1, 0, 0, 0, nI 2), (166, .iconst (-1), 1, 0, 0, 0, (-1)), (167, .iastore, 1, 0, 0, 0, 0), (168, .dup, 1, 0, 0, 0, 0), (169, .iconst 3, 1, 0, 0, 0, nI 3), (170, .iconst (-1), 1, 0, 0, 0, (-1)), (171, .iastore, 1, 0, 0, 0, 0), (172, .dup, 1, 0, 0, 0, 0), (173, .iconst 4, 1, 0, 0, 0, nI 4), (174, .iconst (-1), 1, 0, 0, 0, (-1)), (175, .iastore, 1, 0, 0, 0, 0), (176, .dup, 1, 0, 0, 0, 0), (177, .iconst 5, 1, 0, 0, 0, nI 5), (178, .iconst (-1), 1, 0, 0, 0, (-1)), (179, .iastore, 1, 0, 0, 0, 0), (180, .putfield 70, 3, 7, 27, 804, 0), (183, .aload_n 0, 1, 0, 0, 0, 0), (184, .bipush 6, 2, 0, 0, 0, nI 6), (186, .newarray .int, 2, 21, 0, 114, 0), (188, .putfield 73, 3, 7, 28, 805, 0), (191, .aload_n 0, 1, 0, 0, 0, 0), (192, .sipush 360, 3, 0, 0, 0, nI 360), (195, .newarray .long, 2, 22, 0, 291, 0), (197, .putfield 76, 3, 7, 29, 806, 0), (200, .aload_n 0, 1, 0, 0, 0, 0), (201, .getfield 15, 3, 7, 1, 778, 0), (204, .iconst 1, 1, 0, 0, 0, nI 1), (205, .bipush 24, 2, 0, 0, 0, nI 24), (207, .iastore, 1, 0, 0, 0, 0), (208, .iconst 0, 1, 0, 0, 0, nI 0), (209, .istore_n 1, 1, 1, 0, 0, 0), (210, .iload_n 1, 1, 1, 0, 0, 0), (211, .iconst 4, 1, 0, 0, 0, nI 4), (212, .if_icmp .ge 29, 3, 241, 0, 0, 0), (215, .aload_n 0, 1, 0, 0, 0, 0), (216, .getfield 15, 3, 7, 1, 778, 0), (219, .bipush 8, 2, 0, 0, 0, nI 8), (221, .iload_n 1, 1, 1, 0, 0, 0), (222, .iadd, 1, 0, 0, 0, 0), (223, .iconst 1, 1, 0, 0, 0, nI 1), (224, .iastore, 1, 0, 0, 0, 0), (225, .aload_n 0, 1, 0, 0, 0, 0), (226, .getfield 15, 3, 7, 1, 778, 0), (229, .bipush 12, 2, 0, 0, 0, nI 12), (231, .iload_n 1, 1, 1, 0, 0, 0), (232, .iadd, 1, 0, 0, 0, 0), (233, .iconst 5, 1, 0, 0, 0, nI 5), (234, .iastore, 1, 0, 0, 0, 0), (235, .iinc 1 1, 3, 1, 0, 0, nI 1), (238, .goto (-28), 3, 210, 0, 0, 0), (241, .return_, 1, 0, 0, 0, 0)]
def kTbs : List (List kN) := [kT_0, kT_1, kT_2, kT_3, kT_4, kT_5, kT_6, kT_7, kT_8]
def kOp (n pc : Nat) : Option kN := (kTbs.getD n []).find? (fun e => Nat.beq e.1 pc)
def kGo (pc : Nat) (ls st : List Value) (W : List kC) (cn sn : Nat) : Option (List kC ⊕ kS) := some (.inr (pc, ls, st, W, cn, sn))
def kIns (G : Nat → List Value → List kC → Option (List kC)) (n : Nat) (ins : Instr) (nx r1 r2 : Nat) (vi : Int32) (ls st : List Value) (W : List kC) (cn sn : Nat) : Option (List kC ⊕ kS) :=
  match ins with
  | .iconst _ => kGo nx ls (.int vi :: st) W cn sn
  | .bipush _ => kGo nx ls (.int vi :: st) W cn sn
  | .sipush _ => kGo nx ls (.int vi :: st) W cn sn
  | .iload_n _ => match ls[r1]? with | some (.int x) => kGo nx ls (.int x :: st) W cn sn | _ => none
  | .aload_n _ => match ls[r1]? with | some (.ref x) => kGo nx ls (.ref x :: st) W cn sn | _ => none
  | .istore_n _ => match st with | .int x :: r => kGo nx (ls.set r1 (.int x)) r W cn sn | _ => none
  | .astore_n _ => match st with | .ref x :: r => kGo nx (ls.set r1 (.ref x)) r W cn sn | _ => none
  | .iinc _ _ => match ls[r1]? with | some (.int x) => kGo nx (ls.set r1 (.int (x + vi))) st W cn sn | _ => none
  | .iadd => match st with | .int y :: .int x :: r => kGo nx ls (.int (x + y) :: r) W cn sn | _ => none
  | .dup => match st with | .ref x :: r => kGo nx ls (.ref x :: .ref x :: r) W cn sn | _ => none
  | .goto _ => kGo r1 ls st W cn sn
  | .if_icmp .ge _ => match st with | .int y :: .int x :: r => kGo (if y ≤ x then r1 else nx) ls r W cn sn | _ => none
  | .getfield _ => match st with
    | .ref k :: r => match W[k]? with
      | some (.inl (ci, fs)) => if ci = r1 then (match fs[r2]? with | some v => kGo nx ls (v :: r) W cn sn | none => none) else none
      | _ => none
    | _ => none
  | .putfield _ => match st with
    | v :: .ref k :: r => match W[k]? with
      | some (.inl (ci, fs)) => if ci = r1 ∧ r2 < fs.length ∧ narrow (kTy r1 r2) v = v ∧ fits (kTy r1 r2) v = true then kGo nx ls r (W.set k (.inl (ci, fs.set r2 v))) cn sn else none
      | _ => none
    | _ => none
  | .iastore => match st with
    | .int x :: .int i :: .ref k :: r => match W[k]? with
      | some (.inr (.inl (kd, N, g))) => if kd = 21 ∧ ¬ (i < 0 ∨ N ≤ i.toNatClampNeg) then kGo nx ls r (W.set k (.inr (.inl (kd, N, upd g i.toNatClampNeg x)))) cn sn else none
      | _ => none
    | _ => none
  | .aastore => match st with
    | .ref v :: .int i :: .ref k :: r => match W[k]? with
      | some (.inr (.inr (.inr (kd, N, g)))) => match W[v]? with
        | some (.inl (ci, _)) => if kd = 23 ∧ ci = 3 ∧ ¬ (i < 0 ∨ N ≤ i.toNatClampNeg) then kGo nx ls r (W.set k (.inr (.inr (.inr (kd, N, va_up g i.toNatClampNeg (some v)))))) cn sn else none
        | _ => none
      | _ => none
    | _ => none
  | .new _ => if cn + 1 ≤ kMc n ∧ sn + (zC r1).2.2 ≤ kMs n ∧ W.length + 1 ≤ 900 then kGo nx ls (.ref W.length :: st) (W ++ [.inl (r1, kDef r1)]) (cn + 1) (sn + (zC r1).2.2) else none
  | .newarray _ => match st with
    | .int x :: r => if cn + 1 ≤ kMc n ∧ sn + x.toNatClampNeg ≤ kMs n ∧ W.length + 1 ≤ 900 ∧ ¬ x < 0 ∧ x.toNatClampNeg ≤ 1000 then kGo nx ls (.ref W.length :: r) (W ++ [if r1 = 22 then .inr (.inr (.inl x.toNatClampNeg)) else .inr (.inl (r1, x.toNatClampNeg, fun _ => 0))]) (cn + 1) (sn + x.toNatClampNeg) else none
    | _ => none
  | .anewarray _ => match st with
    | .int x :: r => if cn + 1 ≤ kMc n ∧ sn + x.toNatClampNeg ≤ kMs n ∧ W.length + 1 ≤ 900 ∧ ¬ x < 0 ∧ x.toNatClampNeg ≤ 1000 then kGo nx ls (.ref W.length :: r) (W ++ [.inr (.inr (.inr (23, x.toNatClampNeg, fun _ => none)))]) (cn + 1) (sn + x.toNatClampNeg) else none
    | _ => none
  | .multianewarray _ _ => match st with
    | .int y :: .int x :: r => if cn + (1 + x.toNatClampNeg) ≤ kMc n ∧ sn + (x.toNatClampNeg + x.toNatClampNeg * y.toNatClampNeg) ≤ kMs n ∧ W.length + (1 + x.toNatClampNeg) ≤ 900 ∧ (¬ x < 0 ∧ ¬ y < 0) ∧ x.toNatClampNeg ≤ 1000 ∧ y.toNatClampNeg ≤ 1000 then
        kGo nx ls (.ref W.length :: r) (W ++ (.inr (.inr (.inr (24, x.toNatClampNeg, fun i => if i < x.toNatClampNeg then some (W.length + 1 + i) else none))) :: List.replicate x.toNatClampNeg (.inr (.inl (21, y.toNatClampNeg, fun _ => 0))))) (cn + 1 + x.toNatClampNeg) (sn + x.toNatClampNeg + x.toNatClampNeg * y.toNatClampNeg) else none
    | _ => none
  | .invokespecial _ => if r1 = 100 then (match st with | .ref k :: r => if k ≠ 998 ∧ (r.map fun v => v.category).sum ≤ 8 then kGo nx ls r W cn sn else none | _ => none) else match st.drop r2 with
    | .ref k :: r => if k ≠ 998 ∧ (r.map fun v => v.category).sum ≤ 8 ∧ cn + kMc r1 ≤ kMc n ∧ sn + kMs r1 ≤ kMs n then (match G r1 (.ref k :: (st.take r2).reverse) W with | some W' => kGo nx ls r W' (cn + kMc r1) (sn + kMs r1) | none => none) else none
    | _ => none
  | .invokestatic _ => match st with | .int y :: .int x :: r => if (r.map fun v => v.category).sum ≤ 8 ∧ cn ≤ kMc n ∧ sn ≤ kMs n then kGo nx ls (.int (if x < y then y else x) :: r) W cn sn else none | _ => none
  | .return_ => match st with | [] => if cn ≤ kMc n ∧ sn ≤ kMs n then some (.inl W) else none | _ => none
  | _ => none
def kStep (G : Nat → List Value → List kC → Option (List kC)) (n : Nat) : kS → Option (List kC ⊕ kS)
  | (pc, ls, st, W, cn, sn) => match kOp n pc with
    | none => none
    | some (_, ins, len, r1, r2, _, vi) => kIns G n ins (pc + len) r1 r2 vi ls st W cn sn
def kExec (G : Nat → List Value → List kC → Option (List kC)) (n : Nat) : Nat → kS → Option (List kC)
  | 0, _ => none
  | m + 1, S => match kStep G n S with
    | none => none
    | some (.inl r) => some r
    | some (.inr S') => kExec G n m S'
/-- m steps -/
def kGoes (G : Nat → List Value → List kC → Option (List kC)) (n : Nat) : Nat → kS → Option kS
  | 0, S => some S
  | m + 1, S => match kStep G n S with
    | some (.inr S') => kGoes G n m S'
    | _ => none
/-- a constructor that may call d deep -/
def kCf : Nat → Nat → List Value → List kC → Option (List kC)
  | 0, _, _, _ => none
  | d + 1, n, vs, W => if 1 ≤ n ∧ n < 9 ∧ vs.length = kNp n + 1 ∧ (vs.all fun v => Nat.beq v.category 1) = true then kExec (kCf d) n 300 (0, zEnt (zMx (kYy n)) vs, [], W, 0, 0) else none
/-- of an instruction: what it stands for -/
def kOkI (n : Nat) (ins : Instr) (pc len r1 r2 r3 : Nat) (vi : Int32) : Bool := match ins with
  | .iconst k => Nat.beq len 1 && decide (Int32.ofInt k = vi)
  | .bipush k => Nat.beq len 2 && decide ((Int8.ofInt k).toInt32 = vi)
  | .sipush k => Nat.beq len 3 && decide ((Int16.ofInt k).toInt32 = vi)
  | .iload_n k => Nat.beq len 1 && decide ((k : Nat) = r1)
  | .aload_n k => Nat.beq len 1 && decide ((k : Nat) = r1)
  | .istore_n k => Nat.beq len 1 && (decide ((k : Nat) = r1) && decide (r1 < zMx (kYy n)))
  | .astore_n k => Nat.beq len 1 && (decide ((k : Nat) = r1) && decide (r1 < zMx (kYy n)))
  | .iinc i k => Nat.beq len 3 && (decide (i = r1) && (decide (r1 < zMx (kYy n)) && decide (Int32.ofInt k = vi)))
  | .if_icmp _ f => Nat.beq len 3 && decide ((pc : Int) + f = (r1 : Int))
  | .goto f => Nat.beq len 3 && decide ((pc : Int) + f = (r1 : Int))
  | .getfield i => Nat.beq len 3 && (decide (r1 < 8) && (decide (r2 < (zC r1).2.2) && decide (lw_tbl[r3]? = some (.fieldLink (kY n).cls i ((zC r1).2.1 r2).1 ((zC r1).2.1 r2).2.1 ((zC r1).2.1 r2).2.2.1))))
  | .putfield i => Nat.beq len 3 && (decide (r1 < 8) && (decide (r2 < (zC r1).2.2) && (decide (lw_tbl[r3]? = some (.fieldLink (kY n).cls i ((zC r1).2.1 r2).1 ((zC r1).2.1 r2).2.1 ((zC r1).2.1 r2).2.2.1)) && (decide (n ≠ 0) && decide (((zC r1).2.1 r2).1 = (kY n).cls)))))
  | .new i => Nat.beq len 3 && (decide (r1 < 8) && (decide (lw_tbl[r2]? = some (.classLink (kY n).cls i (zC r1).1)) && (decide (lw_tbl[r3]? = some (.instantiable (zC r1).1 (zC r1).2.2)) && decide (lw_tbl[kIni r1]? = some (.initialized (zC r1).1)))))
  | .newarray t => Nat.beq len 2 && (decide (lw_tbl[r3]? = some (.arrayClass (newarray.typeOf t))) && ((decide (newarray.typeOf t = .byte) && decide (r1 = 20)) || ((decide (newarray.typeOf t = .int) && decide (r1 = 21)) || (decide (newarray.typeOf t = .long) && decide (r1 = 22)))))
  | .anewarray i => Nat.beq len 3 && decide (lw_tbl[r3]? = some (.classLink (kY n).cls i RX3))
  | .multianewarray i k => Nat.beq len 4 && (decide (k = 2) && (decide (lw_tbl[r3]? = some (.classLink (kY n).cls i "[[I")) && decide (lw_tbl[r1]? = some (.arrayClass .int))))
  | .invokespecial i => Nat.beq len 3 && (if r1 = 100 then decide (lw_tbl[r3]? = some (.methodLink (kY n).cls i Lib.objectInit)) else decide (1 ≤ r1) && (decide (r1 < 9) && (decide (r2 = kNp r1) && (decide (kD r1 + 1 ≤ kD n) && (decide (lw_tbl[r3]? = some (.methodLink (kY n).cls i (kY r1))) || decide (lw_tbl[r3]? = some (.methodLinkNest (kY n).cls i (kY r1) "CanalTurns")))))))
  | .invokestatic i => Nat.beq len 3 && decide (lw_tbl[r3]? = some (.methodLink (kY n).cls i Lib.Math.max.name))
  | _ => Nat.beq len 1
def kOk (n : Nat) (e : kN) : Bool := decide (decode (kCo n) e.1 = .ok (e.2.1, e.2.2.1)) && kOkI n e.2.1 e.1 e.2.2.1 e.2.2.2.1 e.2.2.2.2.1 e.2.2.2.2.2.1 e.2.2.2.2.2.2
def kYok (n : Nat) : Bool := match kPls.getD n (0, 0, 0) with
  | (pc, pi, pn) => decide (lw_tbl[pc]? = some (.code (kY n) (kCo n) (zMx (kYy n)) none)) && (decide (lw_tbl[pi]? = some (.instanceMethod (kY n))) && (decide (lw_tbl[pn]? = some (.initialized (kY n).cls)) && (decide ((kY n).cls ≠ "java/lang/invoke/MethodHandle") && (decide ((kY n).cls ≠ "java/lang/invoke/VarHandle") && (decide ((parseMethodDescriptor (kY n).desc).map (fun d => d.parameters.length) = some (kNp n)) && (decide (zMx (kYy n) ≤ 18) && (plainFor (kY n) && (decide ((kY n).name = "<init>") && decide (kNp n + 1 ≤ zMx (kYy n))))))))))
theorem kOk_0 : kT_0.all (kOk 0) = true := by decide +kernel
theorem kOk_1 : kT_1.all (kOk 1) = true := by decide +kernel
theorem kOk_2 : kT_2.all (kOk 2) = true := by decide +kernel
theorem kOk_3 : kT_3.all (kOk 3) = true := by decide +kernel
theorem kOk_4 : kT_4.all (kOk 4) = true := by decide +kernel
theorem kOk_5 : kT_5.all (kOk 5) = true := by decide +kernel
theorem kOk_6 : kT_6.all (kOk 6) = true := by decide +kernel
theorem kOk_7 : kT_7.all (kOk 7) = true := by decide +kernel
theorem kOk_8 : kT_8.all (kOk 8) = true := by decide +kernel
theorem kYok_all : ∀ n, n < 9 → 1 ≤ n → kYok n = true := by decide +kernel
theorem kLg_all : ∀ n, n < 9 → zLg (kYy n) = [] := by decide +kernel
theorem kChk {n : Nat} (h : n < 9) : ∀ e ∈ kTbs.getD n [], kOk n e = true := by
  match n, h with
  | 0, _ => exact List.all_eq_true.mp kOk_0
  | 1, _ => exact List.all_eq_true.mp kOk_1
  | 2, _ => exact List.all_eq_true.mp kOk_2
  | 3, _ => exact List.all_eq_true.mp kOk_3
  | 4, _ => exact List.all_eq_true.mp kOk_4
  | 5, _ => exact List.all_eq_true.mp kOk_5
  | 6, _ => exact List.all_eq_true.mp kOk_6
  | 7, _ => exact List.all_eq_true.mp kOk_7
  | 8, _ => exact List.all_eq_true.mp kOk_8
  | n + 9, h => omega
theorem kTy_ok {ci : Nat} (h : ci < 8) : ∀ k, k < (zC ci).2.2 → parseFieldDescriptor ((zC ci).2.1 k).2.2.1 = some (kTy ci k) := by
  match ci, h with
  | 0, _ => exact tyX0_ok
  | 1, _ => exact tyX1_ok
  | 2, _ => exact tyX2_ok
  | 3, _ => exact tyX3_ok
  | 4, _ => exact tyX4_ok
  | 5, _ => exact tyX5_ok
  | 6, _ => exact tyX6_ok
  | 7, _ => exact tyX7_ok
  | n + 8, h => omega
def k0 : List kC := []
def kEnd : Option kS := kGoes (kCf 4) 0 8 (0, [.ref 999, .null, .null, .null], [], [], 0, 0)
theorem kEnd_some : kEnd.isSome = true := by decide +kernel
