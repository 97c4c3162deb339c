section ZQ
variable {sc : Int32 × (Int32 → Int32)} {F : zCF} {f : zF} {a : zA} {j : zJ}
set_option maxRecDepth 100000 in
theorem q0_1032 {l0 l1 l2 l3 : Value} {s0 : Int32} {s1 : Nat} {s2 : Int32} {s3 : Nat} {s4 : Int32}  : rn sc F 0 1032 [l0, l1, l2, l3] [.int s0, .ref s1, .int s2, .ref s3, .int s4] f a j = rn sc F 0 1033 [l0, l1, l2, l3] [.int (nI 2), .int s0, .ref s1, .int s2, .ref s3, .int s4] f a j := rn_go (rfl : zOp 0 1032 = some (1032, .iconst 2, 1, 0, 0, 0, nI 2, 0, [])) rfl
set_option maxRecDepth 100000 in
theorem q0_1033 {l0 l1 l2 l3 : Value} {s0 : Int32} {s1 : Int32} {s2 : Nat} {s3 : Int32} {s4 : Nat} {s5 : Int32}  : rn sc F 0 1033 [l0, l1, l2, l3] [.int s0, .int s1, .ref s2, .int s3, .ref s4, .int s5] f a j = rn sc F 0 1034 [l0, l1, l2, l3] [.int (s1 + s0), .ref s2, .int s3, .ref s4, .int s5] f a j := rn_go (rfl : zOp 0 1033 = some (1033, .iadd, 1, 0, 0, 0, 0, 0, [])) rfl
set_option maxRecDepth 100000 in
theorem q0_1034 {l0 l1 l2 l3 : Value} {s0 : Int32} {s2 : Int32} {s3 : Nat} {s4 : Int32} (h : ¬ (s0 < 0 ∨ sc.1.toNatClampNeg ≤ s0.toNatClampNeg)) : rn sc F 0 1034 [l0, l1, l2, l3] [.int s0, .ref 999, .int s2, .ref s3, .int s4] f a j = rn sc F 0 1035 [l0, l1, l2, l3] [.int (sc.2 s0), .int s2, .ref s3, .int s4] f a j := rn_go (rfl : zOp 0 1034 = some (1034, .iaload, 1, 0, 0, 0, 0, 0, [])) (zi_sald h)
set_option maxRecDepth 100000 in
theorem q0_1035 {l0 l1 l2 l3 : Value} {s0 : Int32} {s1 : Int32} {s3 : Int32}  : rn sc F 0 1035 [l0, l1, l2, l3] [.int s0, .int s1, .ref 85, .int s3] f a j = zCall (F 167 [.ref 85, .int s1, .int s0] f a j) (fun v f a j => rn sc F 0 1038 [l0, l1, l2, l3] (v.toList ++ [.int s3]) f a j) := rn_callV (rfl : zOp 0 1035 = some (1035, .invokevirtual 135, 3, 167, 2, 1119, 0, 0, [])) (by decide) rfl (rfl) (by simp [Value.category])
set_option maxRecDepth 100000 in
theorem q0_1038 {l0 l1 l2 l3 : Value} {s0 : Int32} {s1 : Int32}  : rn sc F 0 1038 [l0, l1, l2, l3] [.int s0, .int s1] f a j = if s1 = s0 then rn sc F 0 1407 [l0, l1, l2, l3] [] f a j else rn sc F 0 1041 [l0, l1, l2, l3] [] f a j := (rn_go (rfl : zOp 0 1038 = some (1038, .if_icmp .eq 369, 3, 1407, 0, 0, 0, 0, [])) rfl).trans rn_ite
set_option maxRecDepth 100000 in
theorem q0_1041 {l0 l1 l2 l3 : Value}   : rn sc F 0 1041 [l0, l1, l2, l3] [] f a j = rn sc F 0 1042 [l0, l1, l2, l3] [.int (nI 0)] f a j := rn_go (rfl : zOp 0 1041 = some (1041, .iconst 0, 1, 0, 0, 0, nI 0, 0, [])) rfl
set_option maxRecDepth 100000 in
theorem q0_1042 {l0 l1 l2 l3 : Value} {s0 : Int32} (h : s0 = 0 ∨ s0 = 1) : rn sc F 0 1042 [l0, l1, l2, l3] [.int s0] f a j = some (some (.int s0), f, a, j) := rn_end (rfl : zOp 0 1042 = some (1042, .ireturn, 1, 0, 0, 0, 0, 0, [])) (zi_retz h)
set_option maxRecDepth 100000 in
theorem q0_1043 {l0 l2 l3 : Value} {x : Nat}  : rn sc F 0 1043 [l0, .ref x, l2, l3] [] f a j = rn sc F 0 1044 [l0, .ref x, l2, l3] [.ref x] f a j := rn_go (rfl : zOp 0 1043 = some (1043, .aload_n 1, 1, 1, 0, 0, 0, 0, [])) rfl
set_option maxRecDepth 100000 in
theorem q0_1044 {l1 l2 l3 : Value} {s0 : Nat} {x : Nat}  : rn sc F 0 1044 [.ref x, l1, l2, l3] [.ref s0] f a j = rn sc F 0 1045 [.ref x, l1, l2, l3] [.ref x, .ref s0] f a j := rn_go (rfl : zOp 0 1044 = some (1044, .aload_n 0, 1, 0, 0, 0, 0, 0, [])) rfl
set_option maxRecDepth 100000 in
theorem q0_1045 {l0 l1 l2 : Value} {s0 : Nat} {s1 : Nat} {x : Int32}  : rn sc F 0 1045 [l0, l1, l2, .int x] [.ref s0, .ref s1] f a j = rn sc F 0 1046 [l0, l1, l2, .int x] [.int x, .ref s0, .ref s1] f a j := rn_go (rfl : zOp 0 1045 = some (1045, .iload_n 3, 1, 3, 0, 0, 0, 0, [])) rfl
set_option maxRecDepth 100000 in
theorem q0_1046 {l0 l1 l2 l3 : Value} {s0 : Int32} {s1 : Nat} {s2 : Nat}  : rn sc F 0 1046 [l0, l1, l2, l3] [.int s0, .ref s1, .ref s2] f a j = rn sc F 0 1047 [l0, l1, l2, l3] [.int (nI 1), .int s0, .ref s1, .ref s2] f a j := rn_go (rfl : zOp 0 1046 = some (1046, .iconst 1, 1, 0, 0, 0, nI 1, 0, [])) rfl
set_option maxRecDepth 100000 in
theorem q0_1047 {l0 l1 l2 l3 : Value} {s0 : Int32} {s1 : Int32} {s2 : Nat} {s3 : Nat}  : rn sc F 0 1047 [l0, l1, l2, l3] [.int s0, .int s1, .ref s2, .ref s3] f a j = rn sc F 0 1048 [l0, l1, l2, l3] [.int (s1 + s0), .ref s2, .ref s3] f a j := rn_go (rfl : zOp 0 1047 = some (1047, .iadd, 1, 0, 0, 0, 0, 0, [])) rfl
set_option maxRecDepth 100000 in
theorem q0_1048 {l0 l1 l2 l3 : Value} {s0 : Int32} {s2 : Nat} (h : ¬ (s0 < 0 ∨ sc.1.toNatClampNeg ≤ s0.toNatClampNeg)) : rn sc F 0 1048 [l0, l1, l2, l3] [.int s0, .ref 999, .ref s2] f a j = rn sc F 0 1049 [l0, l1, l2, l3] [.int (sc.2 s0), .ref s2] f a j := rn_go (rfl : zOp 0 1048 = some (1048, .iaload, 1, 0, 0, 0, 0, 0, [])) (zi_sald h)
set_option maxRecDepth 100000 in
theorem q0_1049 {l0 l1 l2 l3 : Value} {s0 : Int32}  : rn sc F 0 1049 [l0, l1, l2, l3] [.int s0, .ref 0] f a j = zCall (F 82 [.ref 0, .int s0] f a j) (fun v f a j => rn sc F 0 1052 [l0, l1, l2, l3] (v.toList ++ []) f a j) := rn_callV (rfl : zOp 0 1049 = some (1049, .invokevirtual 136, 3, 82, 1, 688, 0, 0, [])) (by decide) rfl (rfl) (by simp [Value.category])
set_option maxRecDepth 100000 in
theorem q0_1052 {l0 l1 l3 : Value} {s0 : Int32} {x : Nat}  : rn sc F 0 1052 [l0, l1, .ref x, l3] [.int s0] f a j = rn sc F 0 1053 [l0, l1, .ref x, l3] [.ref x, .int s0] f a j := rn_go (rfl : zOp 0 1052 = some (1052, .aload_n 2, 1, 2, 0, 0, 0, 0, [])) rfl
set_option maxRecDepth 100000 in
theorem q0_1053 {l1 l2 l3 : Value} {s0 : Nat} {s1 : Int32} {x : Nat}  : rn sc F 0 1053 [.ref x, l1, l2, l3] [.ref s0, .int s1] f a j = rn sc F 0 1054 [.ref x, l1, l2, l3] [.ref x, .ref s0, .int s1] f a j := rn_go (rfl : zOp 0 1053 = some (1053, .aload_n 0, 1, 0, 0, 0, 0, 0, [])) rfl
set_option maxRecDepth 100000 in
theorem q0_1054 {l0 l1 l2 : Value} {s0 : Nat} {s1 : Nat} {s2 : Int32} {x : Int32}  : rn sc F 0 1054 [l0, l1, l2, .int x] [.ref s0, .ref s1, .int s2] f a j = rn sc F 0 1055 [l0, l1, l2, .int x] [.int x, .ref s0, .ref s1, .int s2] f a j := rn_go (rfl : zOp 0 1054 = some (1054, .iload_n 3, 1, 3, 0, 0, 0, 0, [])) rfl
set_option maxRecDepth 100000 in
theorem q0_1055 {l0 l1 l2 l3 : Value} {s0 : Int32} {s1 : Nat} {s2 : Nat} {s3 : Int32}  : rn sc F 0 1055 [l0, l1, l2, l3] [.int s0, .ref s1, .ref s2, .int s3] f a j = rn sc F 0 1056 [l0, l1, l2, l3] [.int (nI 1), .int s0, .ref s1, .ref s2, .int s3] f a j := rn_go (rfl : zOp 0 1055 = some (1055, .iconst 1, 1, 0, 0, 0, nI 1, 0, [])) rfl
set_option maxRecDepth 100000 in
theorem q0_1056 {l0 l1 l2 l3 : Value} {s0 : Int32} {s1 : Int32} {s2 : Nat} {s3 : Nat} {s4 : Int32}  : rn sc F 0 1056 [l0, l1, l2, l3] [.int s0, .int s1, .ref s2, .ref s3, .int s4] f a j = rn sc F 0 1057 [l0, l1, l2, l3] [.int (s1 + s0), .ref s2, .ref s3, .int s4] f a j := rn_go (rfl : zOp 0 1056 = some (1056, .iadd, 1, 0, 0, 0, 0, 0, [])) rfl
set_option maxRecDepth 100000 in
theorem q0_1057 {l0 l1 l2 l3 : Value} {s0 : Int32} {s2 : Nat} {s3 : Int32} (h : ¬ (s0 < 0 ∨ sc.1.toNatClampNeg ≤ s0.toNatClampNeg)) : rn sc F 0 1057 [l0, l1, l2, l3] [.int s0, .ref 999, .ref s2, .int s3] f a j = rn sc F 0 1058 [l0, l1, l2, l3] [.int (sc.2 s0), .ref s2, .int s3] f a j := rn_go (rfl : zOp 0 1057 = some (1057, .iaload, 1, 0, 0, 0, 0, 0, [])) (zi_sald h)
set_option maxRecDepth 100000 in
theorem q0_1058 {l0 l1 l2 l3 : Value} {s0 : Int32} {s2 : Int32}  : rn sc F 0 1058 [l0, l1, l2, l3] [.int s0, .ref 85, .int s2] f a j = zCall (F 169 [.ref 85, .int s0] f a j) (fun v f a j => rn sc F 0 1061 [l0, l1, l2, l3] (v.toList ++ [.int s2]) f a j) := rn_callV (rfl : zOp 0 1058 = some (1058, .invokevirtual 139, 3, 169, 1, 1123, 0, 0, [])) (by decide) rfl (rfl) (by simp [Value.category])
set_option maxRecDepth 100000 in
theorem q0_1061 {l0 l1 l2 l3 : Value} {s0 : Int32} {s1 : Int32}  : rn sc F 0 1061 [l0, l1, l2, l3] [.int s0, .int s1] f a j = if s1 = s0 then rn sc F 0 1407 [l0, l1, l2, l3] [] f a j else rn sc F 0 1064 [l0, l1, l2, l3] [] f a j := (rn_go (rfl : zOp 0 1061 = some (1061, .if_icmp .eq 346, 3, 1407, 0, 0, 0, 0, [])) rfl).trans rn_ite
set_option maxRecDepth 100000 in
theorem q0_1064 {l0 l1 l2 l3 : Value}   : rn sc F 0 1064 [l0, l1, l2, l3] [] f a j = rn sc F 0 1065 [l0, l1, l2, l3] [.int (nI 0)] f a j := rn_go (rfl : zOp 0 1064 = some (1064, .iconst 0, 1, 0, 0, 0, nI 0, 0, [])) rfl
set_option maxRecDepth 100000 in
theorem q0_1065 {l0 l1 l2 l3 : Value} {s0 : Int32} (h : s0 = 0 ∨ s0 = 1) : rn sc F 0 1065 [l0, l1, l2, l3] [.int s0] f a j = some (some (.int s0), f, a, j) := rn_end (rfl : zOp 0 1065 = some (1065, .ireturn, 1, 0, 0, 0, 0, 0, [])) (zi_retz h)
set_option maxRecDepth 100000 in
theorem q0_1066 {l0 l2 l3 : Value} {x : Nat}  : rn sc F 0 1066 [l0, .ref x, l2, l3] [] f a j = rn sc F 0 1067 [l0, .ref x, l2, l3] [.ref x] f a j := rn_go (rfl : zOp 0 1066 = some (1066, .aload_n 1, 1, 1, 0, 0, 0, 0, [])) rfl
set_option maxRecDepth 100000 in
theorem q0_1067 {l1 l2 l3 : Value} {s0 : Nat} {x : Nat}  : rn sc F 0 1067 [.ref x, l1, l2, l3] [.ref s0] f a j = rn sc F 0 1068 [.ref x, l1, l2, l3] [.ref x, .ref s0] f a j := rn_go (rfl : zOp 0 1067 = some (1067, .aload_n 0, 1, 0, 0, 0, 0, 0, [])) rfl
set_option maxRecDepth 100000 in
theorem q0_1068 {l0 l1 l2 : Value} {s0 : Nat} {s1 : Nat} {x : Int32}  : rn sc F 0 1068 [l0, l1, l2, .int x] [.ref s0, .ref s1] f a j = rn sc F 0 1069 [l0, l1, l2, .int x] [.int x, .ref s0, .ref s1] f a j := rn_go (rfl : zOp 0 1068 = some (1068, .iload_n 3, 1, 3, 0, 0, 0, 0, [])) rfl
set_option maxRecDepth 100000 in
theorem q0_1069 {l0 l1 l2 l3 : Value} {s0 : Int32} {s1 : Nat} {s2 : Nat}  : rn sc F 0 1069 [l0, l1, l2, l3] [.int s0, .ref s1, .ref s2] f a j = rn sc F 0 1070 [l0, l1, l2, l3] [.int (nI 1), .int s0, .ref s1, .ref s2] f a j := rn_go (rfl : zOp 0 1069 = some (1069, .iconst 1, 1, 0, 0, 0, nI 1, 0, [])) rfl
set_option maxRecDepth 100000 in
theorem q0_1070 {l0 l1 l2 l3 : Value} {s0 : Int32} {s1 : Int32} {s2 : Nat} {s3 : Nat}  : rn sc F 0 1070 [l0, l1, l2, l3] [.int s0, .int s1, .ref s2, .ref s3] f a j = rn sc F 0 1071 [l0, l1, l2, l3] [.int (s1 + s0), .ref s2, .ref s3] f a j := rn_go (rfl : zOp 0 1070 = some (1070, .iadd, 1, 0, 0, 0, 0, 0, [])) rfl
set_option maxRecDepth 100000 in
theorem q0_1071 {l0 l1 l2 l3 : Value} {s0 : Int32} {s2 : Nat} (h : ¬ (s0 < 0 ∨ sc.1.toNatClampNeg ≤ s0.toNatClampNeg)) : rn sc F 0 1071 [l0, l1, l2, l3] [.int s0, .ref 999, .ref s2] f a j = rn sc F 0 1072 [l0, l1, l2, l3] [.int (sc.2 s0), .ref s2] f a j := rn_go (rfl : zOp 0 1071 = some (1071, .iaload, 1, 0, 0, 0, 0, 0, [])) (zi_sald h)
set_option maxRecDepth 100000 in
theorem q0_1072 {l1 l2 l3 : Value} {s0 : Int32} {s1 : Nat} {x : Nat}  : rn sc F 0 1072 [.ref x, l1, l2, l3] [.int s0, .ref s1] f a j = rn sc F 0 1073 [.ref x, l1, l2, l3] [.ref x, .int s0, .ref s1] f a j := rn_go (rfl : zOp 0 1072 = some (1072, .aload_n 0, 1, 0, 0, 0, 0, 0, [])) rfl
set_option maxRecDepth 100000 in
theorem q0_1073 {l0 l1 l2 : Value} {s0 : Nat} {s1 : Int32} {s2 : Nat} {x : Int32}  : rn sc F 0 1073 [l0, l1, l2, .int x] [.ref s0, .int s1, .ref s2] f a j = rn sc F 0 1074 [l0, l1, l2, .int x] [.int x, .ref s0, .int s1, .ref s2] f a j := rn_go (rfl : zOp 0 1073 = some (1073, .iload_n 3, 1, 3, 0, 0, 0, 0, [])) rfl
set_option maxRecDepth 100000 in
theorem q0_1074 {l0 l1 l2 l3 : Value} {s0 : Int32} {s1 : Nat} {s2 : Int32} {s3 : Nat}  : rn sc F 0 1074 [l0, l1, l2, l3] [.int s0, .ref s1, .int s2, .ref s3] f a j = rn sc F 0 1075 [l0, l1, l2, l3] [.int (nI 2), .int s0, .ref s1, .int s2, .ref s3] f a j := rn_go (rfl : zOp 0 1074 = some (1074, .iconst 2, 1, 0, 0, 0, nI 2, 0, [])) rfl
set_option maxRecDepth 100000 in
theorem q0_1075 {l0 l1 l2 l3 : Value} {s0 : Int32} {s1 : Int32} {s2 : Nat} {s3 : Int32} {s4 : Nat}  : rn sc F 0 1075 [l0, l1, l2, l3] [.int s0, .int s1, .ref s2, .int s3, .ref s4] f a j = rn sc F 0 1076 [l0, l1, l2, l3] [.int (s1 + s0), .ref s2, .int s3, .ref s4] f a j := rn_go (rfl : zOp 0 1075 = some (1075, .iadd, 1, 0, 0, 0, 0, 0, [])) rfl
set_option maxRecDepth 100000 in
theorem q0_1076 {l0 l1 l2 l3 : Value} {s0 : Int32} {s2 : Int32} {s3 : Nat} (h : ¬ (s0 < 0 ∨ sc.1.toNatClampNeg ≤ s0.toNatClampNeg)) : rn sc F 0 1076 [l0, l1, l2, l3] [.int s0, .ref 999, .int s2, .ref s3] f a j = rn sc F 0 1077 [l0, l1, l2, l3] [.int (sc.2 s0), .int s2, .ref s3] f a j := rn_go (rfl : zOp 0 1076 = some (1076, .iaload, 1, 0, 0, 0, 0, 0, [])) (zi_sald h)
set_option maxRecDepth 100000 in
theorem q0_1077 {l0 l1 l2 l3 : Value} {s0 : Int32} {s1 : Int32}  : rn sc F 0 1077 [l0, l1, l2, l3] [.int s0, .int s1, .ref 0] f a j = zCall (F 83 [.ref 0, .int s1, .int s0] f a j) (fun v f a j => rn sc F 0 1080 [l0, l1, l2, l3] (v.toList ++ []) f a j) := rn_callV (rfl : zOp 0 1077 = some (1077, .invokevirtual 140, 3, 83, 2, 707, 0, 0, [])) (by decide) rfl (rfl) (by simp [Value.category])
set_option maxRecDepth 100000 in
theorem q0_1080 {l0 l1 l3 : Value} {s0 : Int32} {x : Nat}  : rn sc F 0 1080 [l0, l1, .ref x, l3] [.int s0] f a j = rn sc F 0 1081 [l0, l1, .ref x, l3] [.ref x, .int s0] f a j := rn_go (rfl : zOp 0 1080 = some (1080, .aload_n 2, 1, 2, 0, 0, 0, 0, [])) rfl
set_option maxRecDepth 100000 in
theorem q0_1081 {l1 l2 l3 : Value} {s0 : Nat} {s1 : Int32} {x : Nat}  : rn sc F 0 1081 [.ref x, l1, l2, l3] [.ref s0, .int s1] f a j = rn sc F 0 1082 [.ref x, l1, l2, l3] [.ref x, .ref s0, .int s1] f a j := rn_go (rfl : zOp 0 1081 = some (1081, .aload_n 0, 1, 0, 0, 0, 0, 0, [])) rfl
set_option maxRecDepth 100000 in
theorem q0_1082 {l0 l1 l2 : Value} {s0 : Nat} {s1 : Nat} {s2 : Int32} {x : Int32}  : rn sc F 0 1082 [l0, l1, l2, .int x] [.ref s0, .ref s1, .int s2] f a j = rn sc F 0 1083 [l0, l1, l2, .int x] [.int x, .ref s0, .ref s1, .int s2] f a j := rn_go (rfl : zOp 0 1082 = some (1082, .iload_n 3, 1, 3, 0, 0, 0, 0, [])) rfl
set_option maxRecDepth 100000 in
theorem q0_1083 {l0 l1 l2 l3 : Value} {s0 : Int32} {s1 : Nat} {s2 : Nat} {s3 : Int32}  : rn sc F 0 1083 [l0, l1, l2, l3] [.int s0, .ref s1, .ref s2, .int s3] f a j = rn sc F 0 1084 [l0, l1, l2, l3] [.int (nI 1), .int s0, .ref s1, .ref s2, .int s3] f a j := rn_go (rfl : zOp 0 1083 = some (1083, .iconst 1, 1, 0, 0, 0, nI 1, 0, [])) rfl
set_option maxRecDepth 100000 in
theorem q0_1084 {l0 l1 l2 l3 : Value} {s0 : Int32} {s1 : Int32} {s2 : Nat} {s3 : Nat} {s4 : Int32}  : rn sc F 0 1084 [l0, l1, l2, l3] [.int s0, .int s1, .ref s2, .ref s3, .int s4] f a j = rn sc F 0 1085 [l0, l1, l2, l3] [.int (s1 + s0), .ref s2, .ref s3, .int s4] f a j := rn_go (rfl : zOp 0 1084 = some (1084, .iadd, 1, 0, 0, 0, 0, 0, [])) rfl
set_option maxRecDepth 100000 in
theorem q0_1085 {l0 l1 l2 l3 : Value} {s0 : Int32} {s2 : Nat} {s3 : Int32} (h : ¬ (s0 < 0 ∨ sc.1.toNatClampNeg ≤ s0.toNatClampNeg)) : rn sc F 0 1085 [l0, l1, l2, l3] [.int s0, .ref 999, .ref s2, .int s3] f a j = rn sc F 0 1086 [l0, l1, l2, l3] [.int (sc.2 s0), .ref s2, .int s3] f a j := rn_go (rfl : zOp 0 1085 = some (1085, .iaload, 1, 0, 0, 0, 0, 0, [])) (zi_sald h)
set_option maxRecDepth 100000 in
theorem q0_1086 {l1 l2 l3 : Value} {s0 : Int32} {s1 : Nat} {s2 : Int32} {x : Nat}  : rn sc F 0 1086 [.ref x, l1, l2, l3] [.int s0, .ref s1, .int s2] f a j = rn sc F 0 1087 [.ref x, l1, l2, l3] [.ref x, .int s0, .ref s1, .int s2] f a j := rn_go (rfl : zOp 0 1086 = some (1086, .aload_n 0, 1, 0, 0, 0, 0, 0, [])) rfl
set_option maxRecDepth 100000 in
theorem q0_1087 {l0 l1 l2 : Value} {s0 : Nat} {s1 : Int32} {s2 : Nat} {s3 : Int32} {x : Int32}  : rn sc F 0 1087 [l0, l1, l2, .int x] [.ref s0, .int s1, .ref s2, .int s3] f a j = rn sc F 0 1088 [l0, l1, l2, .int x] [.int x, .ref s0, .int s1, .ref s2, .int s3] f a j := rn_go (rfl : zOp 0 1087 = some (1087, .iload_n 3, 1, 3, 0, 0, 0, 0, [])) rfl
set_option maxRecDepth 100000 in
theorem q0_1088 {l0 l1 l2 l3 : Value} {s0 : Int32} {s1 : Nat} {s2 : Int32} {s3 : Nat} {s4 : Int32}  : rn sc F 0 1088 [l0, l1, l2, l3] [.int s0, .ref s1, .int s2, .ref s3, .int s4] f a j = rn sc F 0 1089 [l0, l1, l2, l3] [.int (nI 2), .int s0, .ref s1, .int s2, .ref s3, .int s4] f a j := rn_go (rfl : zOp 0 1088 = some (1088, .iconst 2, 1, 0, 0, 0, nI 2, 0, [])) rfl
set_option maxRecDepth 100000 in
theorem q0_1089 {l0 l1 l2 l3 : Value} {s0 : Int32} {s1 : Int32} {s2 : Nat} {s3 : Int32} {s4 : Nat} {s5 : Int32}  : rn sc F 0 1089 [l0, l1, l2, l3] [.int s0, .int s1, .ref s2, .int s3, .ref s4, .int s5] f a j = rn sc F 0 1090 [l0, l1, l2, l3] [.int (s1 + s0), .ref s2, .int s3, .ref s4, .int s5] f a j := rn_go (rfl : zOp 0 1089 = some (1089, .iadd, 1, 0, 0, 0, 0, 0, [])) rfl
set_option maxRecDepth 100000 in
theorem q0_1090 {l0 l1 l2 l3 : Value} {s0 : Int32} {s2 : Int32} {s3 : Nat} {s4 : Int32} (h : ¬ (s0 < 0 ∨ sc.1.toNatClampNeg ≤ s0.toNatClampNeg)) : rn sc F 0 1090 [l0, l1, l2, l3] [.int s0, .ref 999, .int s2, .ref s3, .int s4] f a j = rn sc F 0 1091 [l0, l1, l2, l3] [.int (sc.2 s0), .int s2, .ref s3, .int s4] f a j := rn_go (rfl : zOp 0 1090 = some (1090, .iaload, 1, 0, 0, 0, 0, 0, [])) (zi_sald h)
set_option maxRecDepth 100000 in
theorem q0_1091 {l0 l1 l2 l3 : Value} {s0 : Int32} {s1 : Int32} {s3 : Int32}  : rn sc F 0 1091 [l0, l1, l2, l3] [.int s0, .int s1, .ref 85, .int s3] f a j = zCall (F 170 [.ref 85, .int s1, .int s0] f a j) (fun v f a j => rn sc F 0 1094 [l0, l1, l2, l3] (v.toList ++ [.int s3]) f a j) := rn_callV (rfl : zOp 0 1091 = some (1091, .invokevirtual 143, 3, 170, 2, 1134, 0, 0, [])) (by decide) rfl (rfl) (by simp [Value.category])
set_option maxRecDepth 100000 in
theorem q0_1094 {l0 l1 l2 l3 : Value} {s0 : Int32} {s1 : Int32}  : rn sc F 0 1094 [l0, l1, l2, l3] [.int s0, .int s1] f a j = if s1 = s0 then rn sc F 0 1407 [l0, l1, l2, l3] [] f a j else rn sc F 0 1097 [l0, l1, l2, l3] [] f a j := (rn_go (rfl : zOp 0 1094 = some (1094, .if_icmp .eq 313, 3, 1407, 0, 0, 0, 0, [])) rfl).trans rn_ite
set_option maxRecDepth 100000 in
theorem q0_1097 {l0 l1 l2 l3 : Value}   : rn sc F 0 1097 [l0, l1, l2, l3] [] f a j = rn sc F 0 1098 [l0, l1, l2, l3] [.int (nI 0)] f a j := rn_go (rfl : zOp 0 1097 = some (1097, .iconst 0, 1, 0, 0, 0, nI 0, 0, [])) rfl
set_option maxRecDepth 100000 in
theorem q0_1098 {l0 l1 l2 l3 : Value} {s0 : Int32} (h : s0 = 0 ∨ s0 = 1) : rn sc F 0 1098 [l0, l1, l2, l3] [.int s0] f a j = some (some (.int s0), f, a, j) := rn_end (rfl : zOp 0 1098 = some (1098, .ireturn, 1, 0, 0, 0, 0, 0, [])) (zi_retz h)
set_option maxRecDepth 100000 in
theorem q0_1099 {l0 l2 l3 : Value} {x : Nat}  : rn sc F 0 1099 [l0, .ref x, l2, l3] [] f a j = rn sc F 0 1100 [l0, .ref x, l2, l3] [.ref x] f a j := rn_go (rfl : zOp 0 1099 = some (1099, .aload_n 1, 1, 1, 0, 0, 0, 0, [])) rfl
set_option maxRecDepth 100000 in
theorem q0_1100 {l0 l1 l2 l3 : Value}   : rn sc F 0 1100 [l0, l1, l2, l3] [.ref 0] f a j = zCall (F 84 [.ref 0] f a j) (fun v f a j => rn sc F 0 1103 [l0, l1, l2, l3] (v.toList ++ []) f a j) := rn_callV (rfl : zOp 0 1100 = some (1100, .invokevirtual 144, 3, 84, 0, 711, 0, 0, [])) (by decide) rfl (rfl) (by simp [Value.category])
set_option maxRecDepth 100000 in
theorem q0_1103 {l0 l1 l3 : Value} {s0 : Int32} {x : Nat}  : rn sc F 0 1103 [l0, l1, .ref x, l3] [.int s0] f a j = rn sc F 0 1104 [l0, l1, .ref x, l3] [.ref x, .int s0] f a j := rn_go (rfl : zOp 0 1103 = some (1103, .aload_n 2, 1, 2, 0, 0, 0, 0, [])) rfl
set_option maxRecDepth 100000 in
theorem q0_1104 {l0 l1 l2 l3 : Value} {s1 : Int32}  : rn sc F 0 1104 [l0, l1, l2, l3] [.ref 85, .int s1] f a j = zCall (F 171 [.ref 85] f a j) (fun v f a j => rn sc F 0 1107 [l0, l1, l2, l3] (v.toList ++ [.int s1]) f a j) := rn_callV (rfl : zOp 0 1104 = some (1104, .invokevirtual 147, 3, 171, 0, 1138, 0, 0, [])) (by decide) rfl (rfl) (by simp [Value.category])
set_option maxRecDepth 100000 in
theorem q0_1107 {l0 l1 l2 l3 : Value} {s0 : Int32} {s1 : Int32}  : rn sc F 0 1107 [l0, l1, l2, l3] [.int s0, .int s1] f a j = if s1 = s0 then rn sc F 0 1407 [l0, l1, l2, l3] [] f a j else rn sc F 0 1110 [l0, l1, l2, l3] [] f a j := (rn_go (rfl : zOp 0 1107 = some (1107, .if_icmp .eq 300, 3, 1407, 0, 0, 0, 0, [])) rfl).trans rn_ite
set_option maxRecDepth 100000 in
theorem q0_1110 {l0 l1 l2 l3 : Value}   : rn sc F 0 1110 [l0, l1, l2, l3] [] f a j = rn sc F 0 1111 [l0, l1, l2, l3] [.int (nI 0)] f a j := rn_go (rfl : zOp 0 1110 = some (1110, .iconst 0, 1, 0, 0, 0, nI 0, 0, [])) rfl
set_option maxRecDepth 100000 in
theorem q0_1111 {l0 l1 l2 l3 : Value} {s0 : Int32} (h : s0 = 0 ∨ s0 = 1) : rn sc F 0 1111 [l0, l1, l2, l3] [.int s0] f a j = some (some (.int s0), f, a, j) := rn_end (rfl : zOp 0 1111 = some (1111, .ireturn, 1, 0, 0, 0, 0, 0, [])) (zi_retz h)
set_option maxRecDepth 100000 in
theorem q0_1112 {l0 l2 l3 : Value} {x : Nat}  : rn sc F 0 1112 [l0, .ref x, l2, l3] [] f a j = rn sc F 0 1113 [l0, .ref x, l2, l3] [.ref x] f a j := rn_go (rfl : zOp 0 1112 = some (1112, .aload_n 1, 1, 1, 0, 0, 0, 0, [])) rfl
set_option maxRecDepth 100000 in
theorem q0_1113 {l1 l2 l3 : Value} {s0 : Nat} {x : Nat}  : rn sc F 0 1113 [.ref x, l1, l2, l3] [.ref s0] f a j = rn sc F 0 1114 [.ref x, l1, l2, l3] [.ref x, .ref s0] f a j := rn_go (rfl : zOp 0 1113 = some (1113, .aload_n 0, 1, 0, 0, 0, 0, 0, [])) rfl
set_option maxRecDepth 100000 in
theorem q0_1114 {l0 l1 l2 : Value} {s0 : Nat} {s1 : Nat} {x : Int32}  : rn sc F 0 1114 [l0, l1, l2, .int x] [.ref s0, .ref s1] f a j = rn sc F 0 1115 [l0, l1, l2, .int x] [.int x, .ref s0, .ref s1] f a j := rn_go (rfl : zOp 0 1114 = some (1114, .iload_n 3, 1, 3, 0, 0, 0, 0, [])) rfl
set_option maxRecDepth 100000 in
theorem q0_1115 {l0 l1 l2 l3 : Value} {s0 : Int32} {s1 : Nat} {s2 : Nat}  : rn sc F 0 1115 [l0, l1, l2, l3] [.int s0, .ref s1, .ref s2] f a j = rn sc F 0 1116 [l0, l1, l2, l3] [.int (nI 1), .int s0, .ref s1, .ref s2] f a j := rn_go (rfl : zOp 0 1115 = some (1115, .iconst 1, 1, 0, 0, 0, nI 1, 0, [])) rfl
set_option maxRecDepth 100000 in
theorem q0_1116 {l0 l1 l2 l3 : Value} {s0 : Int32} {s1 : Int32} {s2 : Nat} {s3 : Nat}  : rn sc F 0 1116 [l0, l1, l2, l3] [.int s0, .int s1, .ref s2, .ref s3] f a j = rn sc F 0 1117 [l0, l1, l2, l3] [.int (s1 + s0), .ref s2, .ref s3] f a j := rn_go (rfl : zOp 0 1116 = some (1116, .iadd, 1, 0, 0, 0, 0, 0, [])) rfl
set_option maxRecDepth 100000 in
theorem q0_1117 {l0 l1 l2 l3 : Value} {s0 : Int32} {s2 : Nat} (h : ¬ (s0 < 0 ∨ sc.1.toNatClampNeg ≤ s0.toNatClampNeg)) : rn sc F 0 1117 [l0, l1, l2, l3] [.int s0, .ref 999, .ref s2] f a j = rn sc F 0 1118 [l0, l1, l2, l3] [.int (sc.2 s0), .ref s2] f a j := rn_go (rfl : zOp 0 1117 = some (1117, .iaload, 1, 0, 0, 0, 0, 0, [])) (zi_sald h)
set_option maxRecDepth 100000 in
theorem q0_1118 {l1 l2 l3 : Value} {s0 : Int32} {s1 : Nat} {x : Nat}  : rn sc F 0 1118 [.ref x, l1, l2, l3] [.int s0, .ref s1] f a j = rn sc F 0 1119 [.ref x, l1, l2, l3] [.ref x, .int s0, .ref s1] f a j := rn_go (rfl : zOp 0 1118 = some (1118, .aload_n 0, 1, 0, 0, 0, 0, 0, [])) rfl
set_option maxRecDepth 100000 in
theorem q0_1119 {l0 l1 l2 : Value} {s0 : Nat} {s1 : Int32} {s2 : Nat} {x : Int32}  : rn sc F 0 1119 [l0, l1, l2, .int x] [.ref s0, .int s1, .ref s2] f a j = rn sc F 0 1120 [l0, l1, l2, .int x] [.int x, .ref s0, .int s1, .ref s2] f a j := rn_go (rfl : zOp 0 1119 = some (1119, .iload_n 3, 1, 3, 0, 0, 0, 0, [])) rfl
set_option maxRecDepth 100000 in
theorem q0_1120 {l0 l1 l2 l3 : Value} {s0 : Int32} {s1 : Nat} {s2 : Int32} {s3 : Nat}  : rn sc F 0 1120 [l0, l1, l2, l3] [.int s0, .ref s1, .int s2, .ref s3] f a j = rn sc F 0 1121 [l0, l1, l2, l3] [.int (nI 2), .int s0, .ref s1, .int s2, .ref s3] f a j := rn_go (rfl : zOp 0 1120 = some (1120, .iconst 2, 1, 0, 0, 0, nI 2, 0, [])) rfl
set_option maxRecDepth 100000 in
theorem q0_1121 {l0 l1 l2 l3 : Value} {s0 : Int32} {s1 : Int32} {s2 : Nat} {s3 : Int32} {s4 : Nat}  : rn sc F 0 1121 [l0, l1, l2, l3] [.int s0, .int s1, .ref s2, .int s3, .ref s4] f a j = rn sc F 0 1122 [l0, l1, l2, l3] [.int (s1 + s0), .ref s2, .int s3, .ref s4] f a j := rn_go (rfl : zOp 0 1121 = some (1121, .iadd, 1, 0, 0, 0, 0, 0, [])) rfl
set_option maxRecDepth 100000 in
theorem q0_1122 {l0 l1 l2 l3 : Value} {s0 : Int32} {s2 : Int32} {s3 : Nat} (h : ¬ (s0 < 0 ∨ sc.1.toNatClampNeg ≤ s0.toNatClampNeg)) : rn sc F 0 1122 [l0, l1, l2, l3] [.int s0, .ref 999, .int s2, .ref s3] f a j = rn sc F 0 1123 [l0, l1, l2, l3] [.int (sc.2 s0), .int s2, .ref s3] f a j := rn_go (rfl : zOp 0 1122 = some (1122, .iaload, 1, 0, 0, 0, 0, 0, [])) (zi_sald h)
set_option maxRecDepth 100000 in
theorem q0_1123 {l0 l1 l2 l3 : Value} {s0 : Int32} {s1 : Int32}  : rn sc F 0 1123 [l0, l1, l2, l3] [.int s0, .int s1, .ref 0] f a j = zCall (F 85 [.ref 0, .int s1, .int s0] f a j) (fun v f a j => rn sc F 0 1126 [l0, l1, l2, l3] (v.toList ++ []) f a j) := rn_callV (rfl : zOp 0 1123 = some (1123, .invokevirtual 148, 3, 85, 2, 715, 0, 0, [])) (by decide) rfl (rfl) (by simp [Value.category])
set_option maxRecDepth 100000 in
theorem q0_1126 {l0 l1 l3 : Value} {s0 : Int32} {x : Nat}  : rn sc F 0 1126 [l0, l1, .ref x, l3] [.int s0] f a j = rn sc F 0 1127 [l0, l1, .ref x, l3] [.ref x, .int s0] f a j := rn_go (rfl : zOp 0 1126 = some (1126, .aload_n 2, 1, 2, 0, 0, 0, 0, [])) rfl
set_option maxRecDepth 100000 in
theorem q0_1127 {l1 l2 l3 : Value} {s0 : Nat} {s1 : Int32} {x : Nat}  : rn sc F 0 1127 [.ref x, l1, l2, l3] [.ref s0, .int s1] f a j = rn sc F 0 1128 [.ref x, l1, l2, l3] [.ref x, .ref s0, .int s1] f a j := rn_go (rfl : zOp 0 1127 = some (1127, .aload_n 0, 1, 0, 0, 0, 0, 0, [])) rfl
set_option maxRecDepth 100000 in
theorem q0_1128 {l0 l1 l2 : Value} {s0 : Nat} {s1 : Nat} {s2 : Int32} {x : Int32}  : rn sc F 0 1128 [l0, l1, l2, .int x] [.ref s0, .ref s1, .int s2] f a j = rn sc F 0 1129 [l0, l1, l2, .int x] [.int x, .ref s0, .ref s1, .int s2] f a j := rn_go (rfl : zOp 0 1128 = some (1128, .iload_n 3, 1, 3, 0, 0, 0, 0, [])) rfl
set_option maxRecDepth 100000 in
theorem q0_1129 {l0 l1 l2 l3 : Value} {s0 : Int32} {s1 : Nat} {s2 : Nat} {s3 : Int32}  : rn sc F 0 1129 [l0, l1, l2, l3] [.int s0, .ref s1, .ref s2, .int s3] f a j = rn sc F 0 1130 [l0, l1, l2, l3] [.int (nI 1), .int s0, .ref s1, .ref s2, .int s3] f a j := rn_go (rfl : zOp 0 1129 = some (1129, .iconst 1, 1, 0, 0, 0, nI 1, 0, [])) rfl
set_option maxRecDepth 100000 in
theorem q0_1130 {l0 l1 l2 l3 : Value} {s0 : Int32} {s1 : Int32} {s2 : Nat} {s3 : Nat} {s4 : Int32}  : rn sc F 0 1130 [l0, l1, l2, l3] [.int s0, .int s1, .ref s2, .ref s3, .int s4] f a j = rn sc F 0 1131 [l0, l1, l2, l3] [.int (s1 + s0), .ref s2, .ref s3, .int s4] f a j := rn_go (rfl : zOp 0 1130 = some (1130, .iadd, 1, 0, 0, 0, 0, 0, [])) rfl
set_option maxRecDepth 100000 in
theorem q0_1131 {l0 l1 l2 l3 : Value} {s0 : Int32} {s2 : Nat} {s3 : Int32} (h : ¬ (s0 < 0 ∨ sc.1.toNatClampNeg ≤ s0.toNatClampNeg)) : rn sc F 0 1131 [l0, l1, l2, l3] [.int s0, .ref 999, .ref s2, .int s3] f a j = rn sc F 0 1132 [l0, l1, l2, l3] [.int (sc.2 s0), .ref s2, .int s3] f a j := rn_go (rfl : zOp 0 1131 = some (1131, .iaload, 1, 0, 0, 0, 0, 0, [])) (zi_sald h)
set_option maxRecDepth 100000 in
theorem q0_1132 {l1 l2 l3 : Value} {s0 : Int32} {s1 : Nat} {s2 : Int32} {x : Nat}  : rn sc F 0 1132 [.ref x, l1, l2, l3] [.int s0, .ref s1, .int s2] f a j = rn sc F 0 1133 [.ref x, l1, l2, l3] [.ref x, .int s0, .ref s1, .int s2] f a j := rn_go (rfl : zOp 0 1132 = some (1132, .aload_n 0, 1, 0, 0, 0, 0, 0, [])) rfl
set_option maxRecDepth 100000 in
theorem q0_1133 {l0 l1 l2 : Value} {s0 : Nat} {s1 : Int32} {s2 : Nat} {s3 : Int32} {x : Int32}  : rn sc F 0 1133 [l0, l1, l2, .int x] [.ref s0, .int s1, .ref s2, .int s3] f a j = rn sc F 0 1134 [l0, l1, l2, .int x] [.int x, .ref s0, .int s1, .ref s2, .int s3] f a j := rn_go (rfl : zOp 0 1133 = some (1133, .iload_n 3, 1, 3, 0, 0, 0, 0, [])) rfl
set_option maxRecDepth 100000 in
theorem q0_1134 {l0 l1 l2 l3 : Value} {s0 : Int32} {s1 : Nat} {s2 : Int32} {s3 : Nat} {s4 : Int32}  : rn sc F 0 1134 [l0, l1, l2, l3] [.int s0, .ref s1, .int s2, .ref s3, .int s4] f a j = rn sc F 0 1135 [l0, l1, l2, l3] [.int (nI 2), .int s0, .ref s1, .int s2, .ref s3, .int s4] f a j := rn_go (rfl : zOp 0 1134 = some (1134, .iconst 2, 1, 0, 0, 0, nI 2, 0, [])) rfl
set_option maxRecDepth 100000 in
theorem q0_1135 {l0 l1 l2 l3 : Value} {s0 : Int32} {s1 : Int32} {s2 : Nat} {s3 : Int32} {s4 : Nat} {s5 : Int32}  : rn sc F 0 1135 [l0, l1, l2, l3] [.int s0, .int s1, .ref s2, .int s3, .ref s4, .int s5] f a j = rn sc F 0 1136 [l0, l1, l2, l3] [.int (s1 + s0), .ref s2, .int s3, .ref s4, .int s5] f a j := rn_go (rfl : zOp 0 1135 = some (1135, .iadd, 1, 0, 0, 0, 0, 0, [])) rfl
set_option maxRecDepth 100000 in
theorem q0_1136 {l0 l1 l2 l3 : Value} {s0 : Int32} {s2 : Int32} {s3 : Nat} {s4 : Int32} (h : ¬ (s0 < 0 ∨ sc.1.toNatClampNeg ≤ s0.toNatClampNeg)) : rn sc F 0 1136 [l0, l1, l2, l3] [.int s0, .ref 999, .int s2, .ref s3, .int s4] f a j = rn sc F 0 1137 [l0, l1, l2, l3] [.int (sc.2 s0), .int s2, .ref s3, .int s4] f a j := rn_go (rfl : zOp 0 1136 = some (1136, .iaload, 1, 0, 0, 0, 0, 0, [])) (zi_sald h)
set_option maxRecDepth 100000 in
theorem q0_1137 {l0 l1 l2 l3 : Value} {s0 : Int32} {s1 : Int32} {s3 : Int32}  : rn sc F 0 1137 [l0, l1, l2, l3] [.int s0, .int s1, .ref 85, .int s3] f a j = zCall (F 172 [.ref 85, .int s1, .int s0] f a j) (fun v f a j => rn sc F 0 1140 [l0, l1, l2, l3] (v.toList ++ [.int s3]) f a j) := rn_callV (rfl : zOp 0 1137 = some (1137, .invokevirtual 151, 3, 172, 2, 1142, 0, 0, [])) (by decide) rfl (rfl) (by simp [Value.category])
set_option maxRecDepth 100000 in
theorem q0_1140 {l0 l1 l2 l3 : Value} {s0 : Int32} {s1 : Int32}  : rn sc F 0 1140 [l0, l1, l2, l3] [.int s0, .int s1] f a j = if s1 = s0 then rn sc F 0 1407 [l0, l1, l2, l3] [] f a j else rn sc F 0 1143 [l0, l1, l2, l3] [] f a j := (rn_go (rfl : zOp 0 1140 = some (1140, .if_icmp .eq 267, 3, 1407, 0, 0, 0, 0, [])) rfl).trans rn_ite
set_option maxRecDepth 100000 in
theorem q0_1143 {l0 l1 l2 l3 : Value}   : rn sc F 0 1143 [l0, l1, l2, l3] [] f a j = rn sc F 0 1144 [l0, l1, l2, l3] [.int (nI 0)] f a j := rn_go (rfl : zOp 0 1143 = some (1143, .iconst 0, 1, 0, 0, 0, nI 0, 0, [])) rfl
set_option maxRecDepth 100000 in
theorem q0_1144 {l0 l1 l2 l3 : Value} {s0 : Int32} (h : s0 = 0 ∨ s0 = 1) : rn sc F 0 1144 [l0, l1, l2, l3] [.int s0] f a j = some (some (.int s0), f, a, j) := rn_end (rfl : zOp 0 1144 = some (1144, .ireturn, 1, 0, 0, 0, 0, 0, [])) (zi_retz h)
set_option maxRecDepth 100000 in
theorem q0_1145 {l0 l2 l3 : Value} {x : Nat}  : rn sc F 0 1145 [l0, .ref x, l2, l3] [] f a j = rn sc F 0 1146 [l0, .ref x, l2, l3] [.ref x] f a j := rn_go (rfl : zOp 0 1145 = some (1145, .aload_n 1, 1, 1, 0, 0, 0, 0, [])) rfl
set_option maxRecDepth 100000 in
theorem q0_1146 {l0 l1 l2 l3 : Value}   : rn sc F 0 1146 [l0, l1, l2, l3] [.ref 0] f a j = zCall (F 86 [.ref 0] f a j) (fun v f a j => rn sc F 0 1149 [l0, l1, l2, l3] (v.toList ++ []) f a j) := rn_callV (rfl : zOp 0 1146 = some (1146, .invokevirtual 152, 3, 86, 0, 723, 0, 0, [])) (by decide) rfl (rfl) (by simp [Value.category])
set_option maxRecDepth 100000 in
theorem q0_1149 {l0 l1 l3 : Value} {s0 : Int32} {x : Nat}  : rn sc F 0 1149 [l0, l1, .ref x, l3] [.int s0] f a j = rn sc F 0 1150 [l0, l1, .ref x, l3] [.ref x, .int s0] f a j := rn_go (rfl : zOp 0 1149 = some (1149, .aload_n 2, 1, 2, 0, 0, 0, 0, [])) rfl
set_option maxRecDepth 100000 in
theorem q0_1150 {l0 l1 l2 l3 : Value} {s1 : Int32}  : rn sc F 0 1150 [l0, l1, l2, l3] [.ref 85, .int s1] f a j = zCall (F 173 [.ref 85] f a j) (fun v f a j => rn sc F 0 1153 [l0, l1, l2, l3] (v.toList ++ [.int s1]) f a j) := rn_callV (rfl : zOp 0 1150 = some (1150, .invokevirtual 155, 3, 173, 0, 1150, 0, 0, [])) (by decide) rfl (rfl) (by simp [Value.category])
set_option maxRecDepth 100000 in
theorem q0_1153 {l0 l1 l2 l3 : Value} {s0 : Int32} {s1 : Int32}  : rn sc F 0 1153 [l0, l1, l2, l3] [.int s0, .int s1] f a j = if s1 = s0 then rn sc F 0 1407 [l0, l1, l2, l3] [] f a j else rn sc F 0 1156 [l0, l1, l2, l3] [] f a j := (rn_go (rfl : zOp 0 1153 = some (1153, .if_icmp .eq 254, 3, 1407, 0, 0, 0, 0, [])) rfl).trans rn_ite
set_option maxRecDepth 100000 in
theorem q0_1156 {l0 l1 l2 l3 : Value}   : rn sc F 0 1156 [l0, l1, l2, l3] [] f a j = rn sc F 0 1157 [l0, l1, l2, l3] [.int (nI 0)] f a j := rn_go (rfl : zOp 0 1156 = some (1156, .iconst 0, 1, 0, 0, 0, nI 0, 0, [])) rfl
set_option maxRecDepth 100000 in
theorem q0_1157 {l0 l1 l2 l3 : Value} {s0 : Int32} (h : s0 = 0 ∨ s0 = 1) : rn sc F 0 1157 [l0, l1, l2, l3] [.int s0] f a j = some (some (.int s0), f, a, j) := rn_end (rfl : zOp 0 1157 = some (1157, .ireturn, 1, 0, 0, 0, 0, 0, [])) (zi_retz h)
set_option maxRecDepth 100000 in
theorem q0_1158 {l0 l2 l3 : Value} {x : Nat}  : rn sc F 0 1158 [l0, .ref x, l2, l3] [] f a j = rn sc F 0 1159 [l0, .ref x, l2, l3] [.ref x] f a j := rn_go (rfl : zOp 0 1158 = some (1158, .aload_n 1, 1, 1, 0, 0, 0, 0, [])) rfl
set_option maxRecDepth 100000 in
theorem q0_1159 {l0 l1 l2 l3 : Value}   : rn sc F 0 1159 [l0, l1, l2, l3] [.ref 0] f a j = zCall (F 87 [.ref 0] f a j) (fun v f a j => rn sc F 0 1162 [l0, l1, l2, l3] (v.toList ++ []) f a j) := rn_callV (rfl : zOp 0 1159 = some (1159, .invokevirtual 156, 3, 87, 0, 733, 0, 0, [])) (by decide) rfl (rfl) (by simp [Value.category])
set_option maxRecDepth 100000 in
theorem q0_1162 {l0 l1 l3 : Value} {s0 : Int32} {x : Nat}  : rn sc F 0 1162 [l0, l1, .ref x, l3] [.int s0] f a j = rn sc F 0 1163 [l0, l1, .ref x, l3] [.ref x, .int s0] f a j := rn_go (rfl : zOp 0 1162 = some (1162, .aload_n 2, 1, 2, 0, 0, 0, 0, [])) rfl
set_option maxRecDepth 100000 in
theorem q0_1163 {l0 l1 l2 l3 : Value} {s1 : Int32}  : rn sc F 0 1163 [l0, l1, l2, l3] [.ref 85, .int s1] f a j = zCall (F 174 [.ref 85] f a j) (fun v f a j => rn sc F 0 1166 [l0, l1, l2, l3] (v.toList ++ [.int s1]) f a j) := rn_callV (rfl : zOp 0 1163 = some (1163, .invokevirtual 159, 3, 174, 0, 1154, 0, 0, [])) (by decide) rfl (rfl) (by simp [Value.category])
set_option maxRecDepth 100000 in
theorem q0_1166 {l0 l1 l2 l3 : Value} {s0 : Int32} {s1 : Int32}  : rn sc F 0 1166 [l0, l1, l2, l3] [.int s0, .int s1] f a j = if s1 = s0 then rn sc F 0 1407 [l0, l1, l2, l3] [] f a j else rn sc F 0 1169 [l0, l1, l2, l3] [] f a j := (rn_go (rfl : zOp 0 1166 = some (1166, .if_icmp .eq 241, 3, 1407, 0, 0, 0, 0, [])) rfl).trans rn_ite
set_option maxRecDepth 100000 in
theorem q0_1169 {l0 l1 l2 l3 : Value}   : rn sc F 0 1169 [l0, l1, l2, l3] [] f a j = rn sc F 0 1170 [l0, l1, l2, l3] [.int (nI 0)] f a j := rn_go (rfl : zOp 0 1169 = some (1169, .iconst 0, 1, 0, 0, 0, nI 0, 0, [])) rfl
set_option maxRecDepth 100000 in
theorem q0_1170 {l0 l1 l2 l3 : Value} {s0 : Int32} (h : s0 = 0 ∨ s0 = 1) : rn sc F 0 1170 [l0, l1, l2, l3] [.int s0] f a j = some (some (.int s0), f, a, j) := rn_end (rfl : zOp 0 1170 = some (1170, .ireturn, 1, 0, 0, 0, 0, 0, [])) (zi_retz h)
set_option maxRecDepth 100000 in
theorem q0_1171 {l0 l2 l3 : Value} {x : Nat}  : rn sc F 0 1171 [l0, .ref x, l2, l3] [] f a j = rn sc F 0 1172 [l0, .ref x, l2, l3] [.ref x] f a j := rn_go (rfl : zOp 0 1171 = some (1171, .aload_n 1, 1, 1, 0, 0, 0, 0, [])) rfl
set_option maxRecDepth 100000 in
theorem q0_1172 {l1 l2 l3 : Value} {s0 : Nat} {x : Nat}  : rn sc F 0 1172 [.ref x, l1, l2, l3] [.ref s0] f a j = rn sc F 0 1173 [.ref x, l1, l2, l3] [.ref x, .ref s0] f a j := rn_go (rfl : zOp 0 1172 = some (1172, .aload_n 0, 1, 0, 0, 0, 0, 0, [])) rfl
set_option maxRecDepth 100000 in
theorem q0_1173 {l0 l1 l2 : Value} {s0 : Nat} {s1 : Nat} {x : Int32}  : rn sc F 0 1173 [l0, l1, l2, .int x] [.ref s0, .ref s1] f a j = rn sc F 0 1174 [l0, l1, l2, .int x] [.int x, .ref s0, .ref s1] f a j := rn_go (rfl : zOp 0 1173 = some (1173, .iload_n 3, 1, 3, 0, 0, 0, 0, [])) rfl
set_option maxRecDepth 100000 in
theorem q0_1174 {l0 l1 l2 l3 : Value} {s0 : Int32} {s1 : Nat} {s2 : Nat}  : rn sc F 0 1174 [l0, l1, l2, l3] [.int s0, .ref s1, .ref s2] f a j = rn sc F 0 1175 [l0, l1, l2, l3] [.int (nI 1), .int s0, .ref s1, .ref s2] f a j := rn_go (rfl : zOp 0 1174 = some (1174, .iconst 1, 1, 0, 0, 0, nI 1, 0, [])) rfl
set_option maxRecDepth 100000 in
theorem q0_1175 {l0 l1 l2 l3 : Value} {s0 : Int32} {s1 : Int32} {s2 : Nat} {s3 : Nat}  : rn sc F 0 1175 [l0, l1, l2, l3] [.int s0, .int s1, .ref s2, .ref s3] f a j = rn sc F 0 1176 [l0, l1, l2, l3] [.int (s1 + s0), .ref s2, .ref s3] f a j := rn_go (rfl : zOp 0 1175 = some (1175, .iadd, 1, 0, 0, 0, 0, 0, [])) rfl
set_option maxRecDepth 100000 in
theorem q0_1176 {l0 l1 l2 l3 : Value} {s0 : Int32} {s2 : Nat} (h : ¬ (s0 < 0 ∨ sc.1.toNatClampNeg ≤ s0.toNatClampNeg)) : rn sc F 0 1176 [l0, l1, l2, l3] [.int s0, .ref 999, .ref s2] f a j = rn sc F 0 1177 [l0, l1, l2, l3] [.int (sc.2 s0), .ref s2] f a j := rn_go (rfl : zOp 0 1176 = some (1176, .iaload, 1, 0, 0, 0, 0, 0, [])) (zi_sald h)
set_option maxRecDepth 100000 in
theorem q0_1177 {l0 l1 l2 l3 : Value} {s0 : Int32}  : rn sc F 0 1177 [l0, l1, l2, l3] [.int s0, .ref 0] f a j = zCall (F 88 [.ref 0, .int s0] f a j) (fun v f a j => rn sc F 0 1180 [l0, l1, l2, l3] (v.toList ++ []) f a j) := rn_callV (rfl : zOp 0 1177 = some (1177, .invokevirtual 160, 3, 88, 1, 737, 0, 0, [])) (by decide) rfl (rfl) (by simp [Value.category])
set_option maxRecDepth 100000 in
theorem q0_1180 {l0 l1 l3 : Value} {s0 : Int32} {x : Nat}  : rn sc F 0 1180 [l0, l1, .ref x, l3] [.int s0] f a j = rn sc F 0 1181 [l0, l1, .ref x, l3] [.ref x, .int s0] f a j := rn_go (rfl : zOp 0 1180 = some (1180, .aload_n 2, 1, 2, 0, 0, 0, 0, [])) rfl
set_option maxRecDepth 100000 in
theorem q0_1181 {l1 l2 l3 : Value} {s0 : Nat} {s1 : Int32} {x : Nat}  : rn sc F 0 1181 [.ref x, l1, l2, l3] [.ref s0, .int s1] f a j = rn sc F 0 1182 [.ref x, l1, l2, l3] [.ref x, .ref s0, .int s1] f a j := rn_go (rfl : zOp 0 1181 = some (1181, .aload_n 0, 1, 0, 0, 0, 0, 0, [])) rfl
set_option maxRecDepth 100000 in
theorem q0_1182 {l0 l1 l2 : Value} {s0 : Nat} {s1 : Nat} {s2 : Int32} {x : Int32}  : rn sc F 0 1182 [l0, l1, l2, .int x] [.ref s0, .ref s1, .int s2] f a j = rn sc F 0 1183 [l0, l1, l2, .int x] [.int x, .ref s0, .ref s1, .int s2] f a j := rn_go (rfl : zOp 0 1182 = some (1182, .iload_n 3, 1, 3, 0, 0, 0, 0, [])) rfl
set_option maxRecDepth 100000 in
theorem q0_1183 {l0 l1 l2 l3 : Value} {s0 : Int32} {s1 : Nat} {s2 : Nat} {s3 : Int32}  : rn sc F 0 1183 [l0, l1, l2, l3] [.int s0, .ref s1, .ref s2, .int s3] f a j = rn sc F 0 1184 [l0, l1, l2, l3] [.int (nI 1), .int s0, .ref s1, .ref s2, .int s3] f a j := rn_go (rfl : zOp 0 1183 = some (1183, .iconst 1, 1, 0, 0, 0, nI 1, 0, [])) rfl
set_option maxRecDepth 100000 in
theorem q0_1184 {l0 l1 l2 l3 : Value} {s0 : Int32} {s1 : Int32} {s2 : Nat} {s3 : Nat} {s4 : Int32}  : rn sc F 0 1184 [l0, l1, l2, l3] [.int s0, .int s1, .ref s2, .ref s3, .int s4] f a j = rn sc F 0 1185 [l0, l1, l2, l3] [.int (s1 + s0), .ref s2, .ref s3, .int s4] f a j := rn_go (rfl : zOp 0 1184 = some (1184, .iadd, 1, 0, 0, 0, 0, 0, [])) rfl
set_option maxRecDepth 100000 in
theorem q0_1185 {l0 l1 l2 l3 : Value} {s0 : Int32} {s2 : Nat} {s3 : Int32} (h : ¬ (s0 < 0 ∨ sc.1.toNatClampNeg ≤ s0.toNatClampNeg)) : rn sc F 0 1185 [l0, l1, l2, l3] [.int s0, .ref 999, .ref s2, .int s3] f a j = rn sc F 0 1186 [l0, l1, l2, l3] [.int (sc.2 s0), .ref s2, .int s3] f a j := rn_go (rfl : zOp 0 1185 = some (1185, .iaload, 1, 0, 0, 0, 0, 0, [])) (zi_sald h)
set_option maxRecDepth 100000 in
theorem q0_1186 {l0 l1 l2 l3 : Value} {s0 : Int32} {s2 : Int32}  : rn sc F 0 1186 [l0, l1, l2, l3] [.int s0, .ref 85, .int s2] f a j = zCall (F 175 [.ref 85, .int s0] f a j) (fun v f a j => rn sc F 0 1189 [l0, l1, l2, l3] (v.toList ++ [.int s2]) f a j) := rn_callV (rfl : zOp 0 1186 = some (1186, .invokevirtual 163, 3, 175, 1, 1158, 0, 0, [])) (by decide) rfl (rfl) (by simp [Value.category])
set_option maxRecDepth 100000 in
theorem q0_1189 {l0 l1 l2 l3 : Value} {s0 : Int32} {s1 : Int32}  : rn sc F 0 1189 [l0, l1, l2, l3] [.int s0, .int s1] f a j = if s1 = s0 then rn sc F 0 1407 [l0, l1, l2, l3] [] f a j else rn sc F 0 1192 [l0, l1, l2, l3] [] f a j := (rn_go (rfl : zOp 0 1189 = some (1189, .if_icmp .eq 218, 3, 1407, 0, 0, 0, 0, [])) rfl).trans rn_ite
set_option maxRecDepth 100000 in
theorem q0_1192 {l0 l1 l2 l3 : Value}   : rn sc F 0 1192 [l0, l1, l2, l3] [] f a j = rn sc F 0 1193 [l0, l1, l2, l3] [.int (nI 0)] f a j := rn_go (rfl : zOp 0 1192 = some (1192, .iconst 0, 1, 0, 0, 0, nI 0, 0, [])) rfl
set_option maxRecDepth 100000 in
theorem q0_1193 {l0 l1 l2 l3 : Value} {s0 : Int32} (h : s0 = 0 ∨ s0 = 1) : rn sc F 0 1193 [l0, l1, l2, l3] [.int s0] f a j = some (some (.int s0), f, a, j) := rn_end (rfl : zOp 0 1193 = some (1193, .ireturn, 1, 0, 0, 0, 0, 0, [])) (zi_retz h)
set_option maxRecDepth 100000 in
theorem q0_1194 {l0 l2 l3 : Value} {x : Nat}  : rn sc F 0 1194 [l0, .ref x, l2, l3] [] f a j = rn sc F 0 1195 [l0, .ref x, l2, l3] [.ref x] f a j := rn_go (rfl : zOp 0 1194 = some (1194, .aload_n 1, 1, 1, 0, 0, 0, 0, [])) rfl
set_option maxRecDepth 100000 in
theorem q0_1195 {l1 l2 l3 : Value} {s0 : Nat} {x : Nat}  : rn sc F 0 1195 [.ref x, l1, l2, l3] [.ref s0] f a j = rn sc F 0 1196 [.ref x, l1, l2, l3] [.ref x, .ref s0] f a j := rn_go (rfl : zOp 0 1195 = some (1195, .aload_n 0, 1, 0, 0, 0, 0, 0, [])) rfl
set_option maxRecDepth 100000 in
theorem q0_1196 {l0 l1 l2 : Value} {s0 : Nat} {s1 : Nat} {x : Int32}  : rn sc F 0 1196 [l0, l1, l2, .int x] [.ref s0, .ref s1] f a j = rn sc F 0 1197 [l0, l1, l2, .int x] [.int x, .ref s0, .ref s1] f a j := rn_go (rfl : zOp 0 1196 = some (1196, .iload_n 3, 1, 3, 0, 0, 0, 0, [])) rfl
set_option maxRecDepth 100000 in
theorem q0_1197 {l0 l1 l2 l3 : Value} {s0 : Int32} {s1 : Nat} {s2 : Nat}  : rn sc F 0 1197 [l0, l1, l2, l3] [.int s0, .ref s1, .ref s2] f a j = rn sc F 0 1198 [l0, l1, l2, l3] [.int (nI 1), .int s0, .ref s1, .ref s2] f a j := rn_go (rfl : zOp 0 1197 = some (1197, .iconst 1, 1, 0, 0, 0, nI 1, 0, [])) rfl
set_option maxRecDepth 100000 in
theorem q0_1198 {l0 l1 l2 l3 : Value} {s0 : Int32} {s1 : Int32} {s2 : Nat} {s3 : Nat}  : rn sc F 0 1198 [l0, l1, l2, l3] [.int s0, .int s1, .ref s2, .ref s3] f a j = rn sc F 0 1199 [l0, l1, l2, l3] [.int (s1 + s0), .ref s2, .ref s3] f a j := rn_go (rfl : zOp 0 1198 = some (1198, .iadd, 1, 0, 0, 0, 0, 0, [])) rfl
set_option maxRecDepth 100000 in
theorem q0_1199 {l0 l1 l2 l3 : Value} {s0 : Int32} {s2 : Nat} (h : ¬ (s0 < 0 ∨ sc.1.toNatClampNeg ≤ s0.toNatClampNeg)) : rn sc F 0 1199 [l0, l1, l2, l3] [.int s0, .ref 999, .ref s2] f a j = rn sc F 0 1200 [l0, l1, l2, l3] [.int (sc.2 s0), .ref s2] f a j := rn_go (rfl : zOp 0 1199 = some (1199, .iaload, 1, 0, 0, 0, 0, 0, [])) (zi_sald h)
set_option maxRecDepth 100000 in
theorem q0_1200 {l1 l2 l3 : Value} {s0 : Int32} {s1 : Nat} {x : Nat}  : rn sc F 0 1200 [.ref x, l1, l2, l3] [.int s0, .ref s1] f a j = rn sc F 0 1201 [.ref x, l1, l2, l3] [.ref x, .int s0, .ref s1] f a j := rn_go (rfl : zOp 0 1200 = some (1200, .aload_n 0, 1, 0, 0, 0, 0, 0, [])) rfl
set_option maxRecDepth 100000 in
theorem q0_1201 {l0 l1 l2 : Value} {s0 : Nat} {s1 : Int32} {s2 : Nat} {x : Int32}  : rn sc F 0 1201 [l0, l1, l2, .int x] [.ref s0, .int s1, .ref s2] f a j = rn sc F 0 1202 [l0, l1, l2, .int x] [.int x, .ref s0, .int s1, .ref s2] f a j := rn_go (rfl : zOp 0 1201 = some (1201, .iload_n 3, 1, 3, 0, 0, 0, 0, [])) rfl
set_option maxRecDepth 100000 in
theorem q0_1202 {l0 l1 l2 l3 : Value} {s0 : Int32} {s1 : Nat} {s2 : Int32} {s3 : Nat}  : rn sc F 0 1202 [l0, l1, l2, l3] [.int s0, .ref s1, .int s2, .ref s3] f a j = rn sc F 0 1203 [l0, l1, l2, l3] [.int (nI 2), .int s0, .ref s1, .int s2, .ref s3] f a j := rn_go (rfl : zOp 0 1202 = some (1202, .iconst 2, 1, 0, 0, 0, nI 2, 0, [])) rfl
set_option maxRecDepth 100000 in
theorem q0_1203 {l0 l1 l2 l3 : Value} {s0 : Int32} {s1 : Int32} {s2 : Nat} {s3 : Int32} {s4 : Nat}  : rn sc F 0 1203 [l0, l1, l2, l3] [.int s0, .int s1, .ref s2, .int s3, .ref s4] f a j = rn sc F 0 1204 [l0, l1, l2, l3] [.int (s1 + s0), .ref s2, .int s3, .ref s4] f a j := rn_go (rfl : zOp 0 1203 = some (1203, .iadd, 1, 0, 0, 0, 0, 0, [])) rfl
set_option maxRecDepth 100000 in
theorem q0_1204 {l0 l1 l2 l3 : Value} {s0 : Int32} {s2 : Int32} {s3 : Nat} (h : ¬ (s0 < 0 ∨ sc.1.toNatClampNeg ≤ s0.toNatClampNeg)) : rn sc F 0 1204 [l0, l1, l2, l3] [.int s0, .ref 999, .int s2, .ref s3] f a j = rn sc F 0 1205 [l0, l1, l2, l3] [.int (sc.2 s0), .int s2, .ref s3] f a j := rn_go (rfl : zOp 0 1204 = some (1204, .iaload, 1, 0, 0, 0, 0, 0, [])) (zi_sald h)
set_option maxRecDepth 100000 in
theorem q0_1205 {l1 l2 l3 : Value} {s0 : Int32} {s1 : Int32} {s2 : Nat} {x : Nat}  : rn sc F 0 1205 [.ref x, l1, l2, l3] [.int s0, .int s1, .ref s2] f a j = rn sc F 0 1206 [.ref x, l1, l2, l3] [.ref x, .int s0, .int s1, .ref s2] f a j := rn_go (rfl : zOp 0 1205 = some (1205, .aload_n 0, 1, 0, 0, 0, 0, 0, [])) rfl
set_option maxRecDepth 100000 in
theorem q0_1206 {l0 l1 l2 : Value} {s0 : Nat} {s1 : Int32} {s2 : Int32} {s3 : Nat} {x : Int32}  : rn sc F 0 1206 [l0, l1, l2, .int x] [.ref s0, .int s1, .int s2, .ref s3] f a j = rn sc F 0 1207 [l0, l1, l2, .int x] [.int x, .ref s0, .int s1, .int s2, .ref s3] f a j := rn_go (rfl : zOp 0 1206 = some (1206, .iload_n 3, 1, 3, 0, 0, 0, 0, [])) rfl
set_option maxRecDepth 100000 in
theorem q0_1207 {l0 l1 l2 l3 : Value} {s0 : Int32} {s1 : Nat} {s2 : Int32} {s3 : Int32} {s4 : Nat}  : rn sc F 0 1207 [l0, l1, l2, l3] [.int s0, .ref s1, .int s2, .int s3, .ref s4] f a j = rn sc F 0 1208 [l0, l1, l2, l3] [.int (nI 3), .int s0, .ref s1, .int s2, .int s3, .ref s4] f a j := rn_go (rfl : zOp 0 1207 = some (1207, .iconst 3, 1, 0, 0, 0, nI 3, 0, [])) rfl
set_option maxRecDepth 100000 in
theorem q0_1208 {l0 l1 l2 l3 : Value} {s0 : Int32} {s1 : Int32} {s2 : Nat} {s3 : Int32} {s4 : Int32} {s5 : Nat}  : rn sc F 0 1208 [l0, l1, l2, l3] [.int s0, .int s1, .ref s2, .int s3, .int s4, .ref s5] f a j = rn sc F 0 1209 [l0, l1, l2, l3] [.int (s1 + s0), .ref s2, .int s3, .int s4, .ref s5] f a j := rn_go (rfl : zOp 0 1208 = some (1208, .iadd, 1, 0, 0, 0, 0, 0, [])) rfl
set_option maxRecDepth 100000 in
theorem q0_1209 {l0 l1 l2 l3 : Value} {s0 : Int32} {s2 : Int32} {s3 : Int32} {s4 : Nat} (h : ¬ (s0 < 0 ∨ sc.1.toNatClampNeg ≤ s0.toNatClampNeg)) : rn sc F 0 1209 [l0, l1, l2, l3] [.int s0, .ref 999, .int s2, .int s3, .ref s4] f a j = rn sc F 0 1210 [l0, l1, l2, l3] [.int (sc.2 s0), .int s2, .int s3, .ref s4] f a j := rn_go (rfl : zOp 0 1209 = some (1209, .iaload, 1, 0, 0, 0, 0, 0, [])) (zi_sald h)
set_option maxRecDepth 100000 in
theorem q0_1210 {l0 l1 l2 l3 : Value} {s0 : Int32} {s1 : Int32} {s2 : Int32}  : rn sc F 0 1210 [l0, l1, l2, l3] [.int s0, .int s1, .int s2, .ref 0] f a j = zCall (F 89 [.ref 0, .int s2, .int s1, .int s0] f a j) (fun v f a j => rn sc F 0 1213 [l0, l1, l2, l3] (v.toList ++ []) f a j) := rn_callV (rfl : zOp 0 1210 = some (1210, .invokevirtual 164, 3, 89, 3, 741, 0, 0, [])) (by decide) rfl (rfl) (by simp [Value.category])
set_option maxRecDepth 100000 in
theorem q0_1213 {l0 l1 l3 : Value} {s0 : Int32} {x : Nat}  : rn sc F 0 1213 [l0, l1, .ref x, l3] [.int s0] f a j = rn sc F 0 1214 [l0, l1, .ref x, l3] [.ref x, .int s0] f a j := rn_go (rfl : zOp 0 1213 = some (1213, .aload_n 2, 1, 2, 0, 0, 0, 0, [])) rfl
set_option maxRecDepth 100000 in
theorem q0_1214 {l1 l2 l3 : Value} {s0 : Nat} {s1 : Int32} {x : Nat}  : rn sc F 0 1214 [.ref x, l1, l2, l3] [.ref s0, .int s1] f a j = rn sc F 0 1215 [.ref x, l1, l2, l3] [.ref x, .ref s0, .int s1] f a j := rn_go (rfl : zOp 0 1214 = some (1214, .aload_n 0, 1, 0, 0, 0, 0, 0, [])) rfl
set_option maxRecDepth 100000 in
theorem q0_1215 {l0 l1 l2 : Value} {s0 : Nat} {s1 : Nat} {s2 : Int32} {x : Int32}  : rn sc F 0 1215 [l0, l1, l2, .int x] [.ref s0, .ref s1, .int s2] f a j = rn sc F 0 1216 [l0, l1, l2, .int x] [.int x, .ref s0, .ref s1, .int s2] f a j := rn_go (rfl : zOp 0 1215 = some (1215, .iload_n 3, 1, 3, 0, 0, 0, 0, [])) rfl
set_option maxRecDepth 100000 in
theorem q0_1216 {l0 l1 l2 l3 : Value} {s0 : Int32} {s1 : Nat} {s2 : Nat} {s3 : Int32}  : rn sc F 0 1216 [l0, l1, l2, l3] [.int s0, .ref s1, .ref s2, .int s3] f a j = rn sc F 0 1217 [l0, l1, l2, l3] [.int (nI 1), .int s0, .ref s1, .ref s2, .int s3] f a j := rn_go (rfl : zOp 0 1216 = some (1216, .iconst 1, 1, 0, 0, 0, nI 1, 0, [])) rfl
set_option maxRecDepth 100000 in
theorem q0_1217 {l0 l1 l2 l3 : Value} {s0 : Int32} {s1 : Int32} {s2 : Nat} {s3 : Nat} {s4 : Int32}  : rn sc F 0 1217 [l0, l1, l2, l3] [.int s0, .int s1, .ref s2, .ref s3, .int s4] f a j = rn sc F 0 1218 [l0, l1, l2, l3] [.int (s1 + s0), .ref s2, .ref s3, .int s4] f a j := rn_go (rfl : zOp 0 1217 = some (1217, .iadd, 1, 0, 0, 0, 0, 0, [])) rfl
set_option maxRecDepth 100000 in
theorem q0_1218 {l0 l1 l2 l3 : Value} {s0 : Int32} {s2 : Nat} {s3 : Int32} (h : ¬ (s0 < 0 ∨ sc.1.toNatClampNeg ≤ s0.toNatClampNeg)) : rn sc F 0 1218 [l0, l1, l2, l3] [.int s0, .ref 999, .ref s2, .int s3] f a j = rn sc F 0 1219 [l0, l1, l2, l3] [.int (sc.2 s0), .ref s2, .int s3] f a j := rn_go (rfl : zOp 0 1218 = some (1218, .iaload, 1, 0, 0, 0, 0, 0, [])) (zi_sald h)
set_option maxRecDepth 100000 in
theorem q0_1219 {l1 l2 l3 : Value} {s0 : Int32} {s1 : Nat} {s2 : Int32} {x : Nat}  : rn sc F 0 1219 [.ref x, l1, l2, l3] [.int s0, .ref s1, .int s2] f a j = rn sc F 0 1220 [.ref x, l1, l2, l3] [.ref x, .int s0, .ref s1, .int s2] f a j := rn_go (rfl : zOp 0 1219 = some (1219, .aload_n 0, 1, 0, 0, 0, 0, 0, [])) rfl
set_option maxRecDepth 100000 in
theorem q0_1220 {l0 l1 l2 : Value} {s0 : Nat} {s1 : Int32} {s2 : Nat} {s3 : Int32} {x : Int32}  : rn sc F 0 1220 [l0, l1, l2, .int x] [.ref s0, .int s1, .ref s2, .int s3] f a j = rn sc F 0 1221 [l0, l1, l2, .int x] [.int x, .ref s0, .int s1, .ref s2, .int s3] f a j := rn_go (rfl : zOp 0 1220 = some (1220, .iload_n 3, 1, 3, 0, 0, 0, 0, [])) rfl
set_option maxRecDepth 100000 in
theorem q0_1221 {l0 l1 l2 l3 : Value} {s0 : Int32} {s1 : Nat} {s2 : Int32} {s3 : Nat} {s4 : Int32}  : rn sc F 0 1221 [l0, l1, l2, l3] [.int s0, .ref s1, .int s2, .ref s3, .int s4] f a j = rn sc F 0 1222 [l0, l1, l2, l3] [.int (nI 2), .int s0, .ref s1, .int s2, .ref s3, .int s4] f a j := rn_go (rfl : zOp 0 1221 = some (1221, .iconst 2, 1, 0, 0, 0, nI 2, 0, [])) rfl
set_option maxRecDepth 100000 in
theorem q0_1222 {l0 l1 l2 l3 : Value} {s0 : Int32} {s1 : Int32} {s2 : Nat} {s3 : Int32} {s4 : Nat} {s5 : Int32}  : rn sc F 0 1222 [l0, l1, l2, l3] [.int s0, .int s1, .ref s2, .int s3, .ref s4, .int s5] f a j = rn sc F 0 1223 [l0, l1, l2, l3] [.int (s1 + s0), .ref s2, .int s3, .ref s4, .int s5] f a j := rn_go (rfl : zOp 0 1222 = some (1222, .iadd, 1, 0, 0, 0, 0, 0, [])) rfl
set_option maxRecDepth 100000 in
theorem q0_1223 {l0 l1 l2 l3 : Value} {s0 : Int32} {s2 : Int32} {s3 : Nat} {s4 : Int32} (h : ¬ (s0 < 0 ∨ sc.1.toNatClampNeg ≤ s0.toNatClampNeg)) : rn sc F 0 1223 [l0, l1, l2, l3] [.int s0, .ref 999, .int s2, .ref s3, .int s4] f a j = rn sc F 0 1224 [l0, l1, l2, l3] [.int (sc.2 s0), .int s2, .ref s3, .int s4] f a j := rn_go (rfl : zOp 0 1223 = some (1223, .iaload, 1, 0, 0, 0, 0, 0, [])) (zi_sald h)
set_option maxRecDepth 100000 in
theorem q0_1224 {l1 l2 l3 : Value} {s0 : Int32} {s1 : Int32} {s2 : Nat} {s3 : Int32} {x : Nat}  : rn sc F 0 1224 [.ref x, l1, l2, l3] [.int s0, .int s1, .ref s2, .int s3] f a j = rn sc F 0 1225 [.ref x, l1, l2, l3] [.ref x, .int s0, .int s1, .ref s2, .int s3] f a j := rn_go (rfl : zOp 0 1224 = some (1224, .aload_n 0, 1, 0, 0, 0, 0, 0, [])) rfl
set_option maxRecDepth 100000 in
theorem q0_1225 {l0 l1 l2 : Value} {s0 : Nat} {s1 : Int32} {s2 : Int32} {s3 : Nat} {s4 : Int32} {x : Int32}  : rn sc F 0 1225 [l0, l1, l2, .int x] [.ref s0, .int s1, .int s2, .ref s3, .int s4] f a j = rn sc F 0 1226 [l0, l1, l2, .int x] [.int x, .ref s0, .int s1, .int s2, .ref s3, .int s4] f a j := rn_go (rfl : zOp 0 1225 = some (1225, .iload_n 3, 1, 3, 0, 0, 0, 0, [])) rfl
set_option maxRecDepth 100000 in
theorem q0_1226 {l0 l1 l2 l3 : Value} {s0 : Int32} {s1 : Nat} {s2 : Int32} {s3 : Int32} {s4 : Nat} {s5 : Int32}  : rn sc F 0 1226 [l0, l1, l2, l3] [.int s0, .ref s1, .int s2, .int s3, .ref s4, .int s5] f a j = rn sc F 0 1227 [l0, l1, l2, l3] [.int (nI 3), .int s0, .ref s1, .int s2, .int s3, .ref s4, .int s5] f a j := rn_go (rfl : zOp 0 1226 = some (1226, .iconst 3, 1, 0, 0, 0, nI 3, 0, [])) rfl
set_option maxRecDepth 100000 in
theorem q0_1227 {l0 l1 l2 l3 : Value} {s0 : Int32} {s1 : Int32} {s2 : Nat} {s3 : Int32} {s4 : Int32} {s5 : Nat} {s6 : Int32}  : rn sc F 0 1227 [l0, l1, l2, l3] [.int s0, .int s1, .ref s2, .int s3, .int s4, .ref s5, .int s6] f a j = rn sc F 0 1228 [l0, l1, l2, l3] [.int (s1 + s0), .ref s2, .int s3, .int s4, .ref s5, .int s6] f a j := rn_go (rfl : zOp 0 1227 = some (1227, .iadd, 1, 0, 0, 0, 0, 0, [])) rfl
set_option maxRecDepth 100000 in
theorem q0_1228 {l0 l1 l2 l3 : Value} {s0 : Int32} {s2 : Int32} {s3 : Int32} {s4 : Nat} {s5 : Int32} (h : ¬ (s0 < 0 ∨ sc.1.toNatClampNeg ≤ s0.toNatClampNeg)) : rn sc F 0 1228 [l0, l1, l2, l3] [.int s0, .ref 999, .int s2, .int s3, .ref s4, .int s5] f a j = rn sc F 0 1229 [l0, l1, l2, l3] [.int (sc.2 s0), .int s2, .int s3, .ref s4, .int s5] f a j := rn_go (rfl : zOp 0 1228 = some (1228, .iaload, 1, 0, 0, 0, 0, 0, [])) (zi_sald h)
set_option maxRecDepth 100000 in
theorem q0_1229 {l0 l1 l2 l3 : Value} {s0 : Int32} {s1 : Int32} {s2 : Int32} {s4 : Int32}  : rn sc F 0 1229 [l0, l1, l2, l3] [.int s0, .int s1, .int s2, .ref 85, .int s4] f a j = zCall (F 177 [.ref 85, .int s2, .int s1, .int s0] f a j) (fun v f a j => rn sc F 0 1232 [l0, l1, l2, l3] (v.toList ++ [.int s4]) f a j) := rn_callV (rfl : zOp 0 1229 = some (1229, .invokevirtual 167, 3, 177, 3, 1162, 0, 0, [])) (by decide) rfl (rfl) (by simp [Value.category])
set_option maxRecDepth 100000 in
theorem q0_1232 {l0 l1 l2 l3 : Value} {s0 : Int32} {s1 : Int32}  : rn sc F 0 1232 [l0, l1, l2, l3] [.int s0, .int s1] f a j = if s1 = s0 then rn sc F 0 1407 [l0, l1, l2, l3] [] f a j else rn sc F 0 1235 [l0, l1, l2, l3] [] f a j := (rn_go (rfl : zOp 0 1232 = some (1232, .if_icmp .eq 175, 3, 1407, 0, 0, 0, 0, [])) rfl).trans rn_ite
set_option maxRecDepth 100000 in
theorem q0_1235 {l0 l1 l2 l3 : Value}   : rn sc F 0 1235 [l0, l1, l2, l3] [] f a j = rn sc F 0 1236 [l0, l1, l2, l3] [.int (nI 0)] f a j := rn_go (rfl : zOp 0 1235 = some (1235, .iconst 0, 1, 0, 0, 0, nI 0, 0, [])) rfl
set_option maxRecDepth 100000 in
theorem q0_1236 {l0 l1 l2 l3 : Value} {s0 : Int32} (h : s0 = 0 ∨ s0 = 1) : rn sc F 0 1236 [l0, l1, l2, l3] [.int s0] f a j = some (some (.int s0), f, a, j) := rn_end (rfl : zOp 0 1236 = some (1236, .ireturn, 1, 0, 0, 0, 0, 0, [])) (zi_retz h)
set_option maxRecDepth 100000 in
theorem q0_1237 {l0 l2 l3 : Value} {x : Nat}  : rn sc F 0 1237 [l0, .ref x, l2, l3] [] f a j = rn sc F 0 1238 [l0, .ref x, l2, l3] [.ref x] f a j := rn_go (rfl : zOp 0 1237 = some (1237, .aload_n 1, 1, 1, 0, 0, 0, 0, [])) rfl
set_option maxRecDepth 100000 in
theorem q0_1238 {l1 l2 l3 : Value} {s0 : Nat} {x : Nat}  : rn sc F 0 1238 [.ref x, l1, l2, l3] [.ref s0] f a j = rn sc F 0 1239 [.ref x, l1, l2, l3] [.ref x, .ref s0] f a j := rn_go (rfl : zOp 0 1238 = some (1238, .aload_n 0, 1, 0, 0, 0, 0, 0, [])) rfl
set_option maxRecDepth 100000 in
theorem q0_1239 {l0 l1 l2 : Value} {s0 : Nat} {s1 : Nat} {x : Int32}  : rn sc F 0 1239 [l0, l1, l2, .int x] [.ref s0, .ref s1] f a j = rn sc F 0 1240 [l0, l1, l2, .int x] [.int x, .ref s0, .ref s1] f a j := rn_go (rfl : zOp 0 1239 = some (1239, .iload_n 3, 1, 3, 0, 0, 0, 0, [])) rfl
set_option maxRecDepth 100000 in
theorem q0_1240 {l0 l1 l2 l3 : Value} {s0 : Int32} {s1 : Nat} {s2 : Nat}  : rn sc F 0 1240 [l0, l1, l2, l3] [.int s0, .ref s1, .ref s2] f a j = rn sc F 0 1241 [l0, l1, l2, l3] [.int (nI 1), .int s0, .ref s1, .ref s2] f a j := rn_go (rfl : zOp 0 1240 = some (1240, .iconst 1, 1, 0, 0, 0, nI 1, 0, [])) rfl
set_option maxRecDepth 100000 in
theorem q0_1241 {l0 l1 l2 l3 : Value} {s0 : Int32} {s1 : Int32} {s2 : Nat} {s3 : Nat}  : rn sc F 0 1241 [l0, l1, l2, l3] [.int s0, .int s1, .ref s2, .ref s3] f a j = rn sc F 0 1242 [l0, l1, l2, l3] [.int (s1 + s0), .ref s2, .ref s3] f a j := rn_go (rfl : zOp 0 1241 = some (1241, .iadd, 1, 0, 0, 0, 0, 0, [])) rfl
set_option maxRecDepth 100000 in
theorem q0_1242 {l0 l1 l2 l3 : Value} {s0 : Int32} {s2 : Nat} (h : ¬ (s0 < 0 ∨ sc.1.toNatClampNeg ≤ s0.toNatClampNeg)) : rn sc F 0 1242 [l0, l1, l2, l3] [.int s0, .ref 999, .ref s2] f a j = rn sc F 0 1243 [l0, l1, l2, l3] [.int (sc.2 s0), .ref s2] f a j := rn_go (rfl : zOp 0 1242 = some (1242, .iaload, 1, 0, 0, 0, 0, 0, [])) (zi_sald h)
set_option maxRecDepth 100000 in
theorem q0_1243 {l1 l2 l3 : Value} {s0 : Int32} {s1 : Nat} {x : Nat}  : rn sc F 0 1243 [.ref x, l1, l2, l3] [.int s0, .ref s1] f a j = rn sc F 0 1244 [.ref x, l1, l2, l3] [.ref x, .int s0, .ref s1] f a j := rn_go (rfl : zOp 0 1243 = some (1243, .aload_n 0, 1, 0, 0, 0, 0, 0, [])) rfl
set_option maxRecDepth 100000 in
theorem q0_1244 {l0 l1 l2 : Value} {s0 : Nat} {s1 : Int32} {s2 : Nat} {x : Int32}  : rn sc F 0 1244 [l0, l1, l2, .int x] [.ref s0, .int s1, .ref s2] f a j = rn sc F 0 1245 [l0, l1, l2, .int x] [.int x, .ref s0, .int s1, .ref s2] f a j := rn_go (rfl : zOp 0 1244 = some (1244, .iload_n 3, 1, 3, 0, 0, 0, 0, [])) rfl
set_option maxRecDepth 100000 in
theorem q0_1245 {l0 l1 l2 l3 : Value} {s0 : Int32} {s1 : Nat} {s2 : Int32} {s3 : Nat}  : rn sc F 0 1245 [l0, l1, l2, l3] [.int s0, .ref s1, .int s2, .ref s3] f a j = rn sc F 0 1246 [l0, l1, l2, l3] [.int (nI 2), .int s0, .ref s1, .int s2, .ref s3] f a j := rn_go (rfl : zOp 0 1245 = some (1245, .iconst 2, 1, 0, 0, 0, nI 2, 0, [])) rfl
set_option maxRecDepth 100000 in
theorem q0_1246 {l0 l1 l2 l3 : Value} {s0 : Int32} {s1 : Int32} {s2 : Nat} {s3 : Int32} {s4 : Nat}  : rn sc F 0 1246 [l0, l1, l2, l3] [.int s0, .int s1, .ref s2, .int s3, .ref s4] f a j = rn sc F 0 1247 [l0, l1, l2, l3] [.int (s1 + s0), .ref s2, .int s3, .ref s4] f a j := rn_go (rfl : zOp 0 1246 = some (1246, .iadd, 1, 0, 0, 0, 0, 0, [])) rfl
set_option maxRecDepth 100000 in
theorem q0_1247 {l0 l1 l2 l3 : Value} {s0 : Int32} {s2 : Int32} {s3 : Nat} (h : ¬ (s0 < 0 ∨ sc.1.toNatClampNeg ≤ s0.toNatClampNeg)) : rn sc F 0 1247 [l0, l1, l2, l3] [.int s0, .ref 999, .int s2, .ref s3] f a j = rn sc F 0 1248 [l0, l1, l2, l3] [.int (sc.2 s0), .int s2, .ref s3] f a j := rn_go (rfl : zOp 0 1247 = some (1247, .iaload, 1, 0, 0, 0, 0, 0, [])) (zi_sald h)
set_option maxRecDepth 100000 in
theorem q0_1248 {l1 l2 l3 : Value} {s0 : Int32} {s1 : Int32} {s2 : Nat} {x : Nat}  : rn sc F 0 1248 [.ref x, l1, l2, l3] [.int s0, .int s1, .ref s2] f a j = rn sc F 0 1249 [.ref x, l1, l2, l3] [.ref x, .int s0, .int s1, .ref s2] f a j := rn_go (rfl : zOp 0 1248 = some (1248, .aload_n 0, 1, 0, 0, 0, 0, 0, [])) rfl
set_option maxRecDepth 100000 in
theorem q0_1249 {l0 l1 l2 : Value} {s0 : Nat} {s1 : Int32} {s2 : Int32} {s3 : Nat} {x : Int32}  : rn sc F 0 1249 [l0, l1, l2, .int x] [.ref s0, .int s1, .int s2, .ref s3] f a j = rn sc F 0 1250 [l0, l1, l2, .int x] [.int x, .ref s0, .int s1, .int s2, .ref s3] f a j := rn_go (rfl : zOp 0 1249 = some (1249, .iload_n 3, 1, 3, 0, 0, 0, 0, [])) rfl
set_option maxRecDepth 100000 in
theorem q0_1250 {l0 l1 l2 l3 : Value} {s0 : Int32} {s1 : Nat} {s2 : Int32} {s3 : Int32} {s4 : Nat}  : rn sc F 0 1250 [l0, l1, l2, l3] [.int s0, .ref s1, .int s2, .int s3, .ref s4] f a j = rn sc F 0 1251 [l0, l1, l2, l3] [.int (nI 3), .int s0, .ref s1, .int s2, .int s3, .ref s4] f a j := rn_go (rfl : zOp 0 1250 = some (1250, .iconst 3, 1, 0, 0, 0, nI 3, 0, [])) rfl
set_option maxRecDepth 100000 in
theorem q0_1251 {l0 l1 l2 l3 : Value} {s0 : Int32} {s1 : Int32} {s2 : Nat} {s3 : Int32} {s4 : Int32} {s5 : Nat}  : rn sc F 0 1251 [l0, l1, l2, l3] [.int s0, .int s1, .ref s2, .int s3, .int s4, .ref s5] f a j = rn sc F 0 1252 [l0, l1, l2, l3] [.int (s1 + s0), .ref s2, .int s3, .int s4, .ref s5] f a j := rn_go (rfl : zOp 0 1251 = some (1251, .iadd, 1, 0, 0, 0, 0, 0, [])) rfl
set_option maxRecDepth 100000 in
theorem q0_1252 {l0 l1 l2 l3 : Value} {s0 : Int32} {s2 : Int32} {s3 : Int32} {s4 : Nat} (h : ¬ (s0 < 0 ∨ sc.1.toNatClampNeg ≤ s0.toNatClampNeg)) : rn sc F 0 1252 [l0, l1, l2, l3] [.int s0, .ref 999, .int s2, .int s3, .ref s4] f a j = rn sc F 0 1253 [l0, l1, l2, l3] [.int (sc.2 s0), .int s2, .int s3, .ref s4] f a j := rn_go (rfl : zOp 0 1252 = some (1252, .iaload, 1, 0, 0, 0, 0, 0, [])) (zi_sald h)
set_option maxRecDepth 100000 in
theorem q0_1253 {l0 l1 l2 l3 : Value} {s0 : Int32} {s1 : Int32} {s2 : Int32} {s3 : Nat}  : rn sc F 0 1253 [l0, l1, l2, l3] [.int s0, .int s1, .int s2, .ref s3] f a j = rn sc F 0 1254 [l0, l1, l2, l3] [.long s0.toInt64, .int s1, .int s2, .ref s3] f a j := rn_go (rfl : zOp 0 1253 = some (1253, .i2l, 1, 0, 0, 0, 0, 0, [])) rfl
set_option maxRecDepth 100000 in
theorem q0_1254 {l0 l1 l2 l3 : Value} {s0 : Int64} {s1 : Int32} {s2 : Int32} {s3 : Nat}  : rn sc F 0 1254 [l0, l1, l2, l3] [.long s0, .int s1, .int s2, .ref s3] f a j = rn sc F 0 1256 [l0, l1, l2, l3] [.int (nI 32), .long s0, .int s1, .int s2, .ref s3] f a j := rn_go (rfl : zOp 0 1254 = some (1254, .bipush 32, 2, 0, 0, 0, nI 32, 0, [])) rfl
set_option maxRecDepth 100000 in
theorem q0_1256 {l0 l1 l2 l3 : Value} {s0 : Int32} {s1 : Int64} {s2 : Int32} {s3 : Int32} {s4 : Nat}  : rn sc F 0 1256 [l0, l1, l2, l3] [.int s0, .long s1, .int s2, .int s3, .ref s4] f a j = rn sc F 0 1257 [l0, l1, l2, l3] [.long (s1 <<< (s0.toInt64 &&& 63)), .int s2, .int s3, .ref s4] f a j := rn_go (rfl : zOp 0 1256 = some (1256, .lshl, 1, 0, 0, 0, 0, 0, [])) rfl
set_option maxRecDepth 100000 in
theorem q0_1257 {l1 l2 l3 : Value} {s0 : Int64} {s1 : Int32} {s2 : Int32} {s3 : Nat} {x : Nat}  : rn sc F 0 1257 [.ref x, l1, l2, l3] [.long s0, .int s1, .int s2, .ref s3] f a j = rn sc F 0 1258 [.ref x, l1, l2, l3] [.ref x, .long s0, .int s1, .int s2, .ref s3] f a j := rn_go (rfl : zOp 0 1257 = some (1257, .aload_n 0, 1, 0, 0, 0, 0, 0, [])) rfl
set_option maxRecDepth 100000 in
theorem q0_1258 {l0 l1 l2 : Value} {s0 : Nat} {s1 : Int64} {s2 : Int32} {s3 : Int32} {s4 : Nat} {x : Int32}  : rn sc F 0 1258 [l0, l1, l2, .int x] [.ref s0, .long s1, .int s2, .int s3, .ref s4] f a j = rn sc F 0 1259 [l0, l1, l2, .int x] [.int x, .ref s0, .long s1, .int s2, .int s3, .ref s4] f a j := rn_go (rfl : zOp 0 1258 = some (1258, .iload_n 3, 1, 3, 0, 0, 0, 0, [])) rfl
set_option maxRecDepth 100000 in
theorem q0_1259 {l0 l1 l2 l3 : Value} {s0 : Int32} {s1 : Nat} {s2 : Int64} {s3 : Int32} {s4 : Int32} {s5 : Nat}  : rn sc F 0 1259 [l0, l1, l2, l3] [.int s0, .ref s1, .long s2, .int s3, .int s4, .ref s5] f a j = rn sc F 0 1260 [l0, l1, l2, l3] [.int (nI 4), .int s0, .ref s1, .long s2, .int s3, .int s4, .ref s5] f a j := rn_go (rfl : zOp 0 1259 = some (1259, .iconst 4, 1, 0, 0, 0, nI 4, 0, [])) rfl
set_option maxRecDepth 100000 in
theorem q0_1260 {l0 l1 l2 l3 : Value} {s0 : Int32} {s1 : Int32} {s2 : Nat} {s3 : Int64} {s4 : Int32} {s5 : Int32} {s6 : Nat}  : rn sc F 0 1260 [l0, l1, l2, l3] [.int s0, .int s1, .ref s2, .long s3, .int s4, .int s5, .ref s6] f a j = rn sc F 0 1261 [l0, l1, l2, l3] [.int (s1 + s0), .ref s2, .long s3, .int s4, .int s5, .ref s6] f a j := rn_go (rfl : zOp 0 1260 = some (1260, .iadd, 1, 0, 0, 0, 0, 0, [])) rfl
set_option maxRecDepth 100000 in
theorem q0_1261 {l0 l1 l2 l3 : Value} {s0 : Int32} {s2 : Int64} {s3 : Int32} {s4 : Int32} {s5 : Nat} (h : ¬ (s0 < 0 ∨ sc.1.toNatClampNeg ≤ s0.toNatClampNeg)) : rn sc F 0 1261 [l0, l1, l2, l3] [.int s0, .ref 999, .long s2, .int s3, .int s4, .ref s5] f a j = rn sc F 0 1262 [l0, l1, l2, l3] [.int (sc.2 s0), .long s2, .int s3, .int s4, .ref s5] f a j := rn_go (rfl : zOp 0 1261 = some (1261, .iaload, 1, 0, 0, 0, 0, 0, [])) (zi_sald h)
set_option maxRecDepth 100000 in
theorem q0_1262 {l0 l1 l2 l3 : Value} {s0 : Int32} {s1 : Int64} {s2 : Int32} {s3 : Int32} {s4 : Nat}  : rn sc F 0 1262 [l0, l1, l2, l3] [.int s0, .long s1, .int s2, .int s3, .ref s4] f a j = rn sc F 0 1263 [l0, l1, l2, l3] [.long s0.toInt64, .long s1, .int s2, .int s3, .ref s4] f a j := rn_go (rfl : zOp 0 1262 = some (1262, .i2l, 1, 0, 0, 0, 0, 0, [])) rfl
set_option maxRecDepth 100000 in
theorem q0_1263 {l0 l1 l2 l3 : Value} {s0 : Int64} {s1 : Int64} {s2 : Int32} {s3 : Int32} {s4 : Nat}  : rn sc F 0 1263 [l0, l1, l2, l3] [.long s0, .long s1, .int s2, .int s3, .ref s4] f a j = rn sc F 0 1266 [l0, l1, l2, l3] [.long (4294967295), .long s0, .long s1, .int s2, .int s3, .ref s4] f a j := rn_go (rfl : zOp 0 1263 = some (1263, .ldc2_w 168, 3, 0, 0, 1180, 0, 4294967295, [])) rfl
set_option maxRecDepth 100000 in
theorem q0_1266 {l0 l1 l2 l3 : Value} {s0 : Int64} {s1 : Int64} {s2 : Int64} {s3 : Int32} {s4 : Int32} {s5 : Nat}  : rn sc F 0 1266 [l0, l1, l2, l3] [.long s0, .long s1, .long s2, .int s3, .int s4, .ref s5] f a j = rn sc F 0 1267 [l0, l1, l2, l3] [.long (s1 &&& s0), .long s2, .int s3, .int s4, .ref s5] f a j := rn_go (rfl : zOp 0 1266 = some (1266, .land, 1, 0, 0, 0, 0, 0, [])) rfl
set_option maxRecDepth 100000 in
theorem q0_1267 {l0 l1 l2 l3 : Value} {s0 : Int64} {s1 : Int64} {s2 : Int32} {s3 : Int32} {s4 : Nat}  : rn sc F 0 1267 [l0, l1, l2, l3] [.long s0, .long s1, .int s2, .int s3, .ref s4] f a j = rn sc F 0 1268 [l0, l1, l2, l3] [.long (s1 ||| s0), .int s2, .int s3, .ref s4] f a j := rn_go (rfl : zOp 0 1267 = some (1267, .lor, 1, 0, 0, 0, 0, 0, [])) rfl
set_option maxRecDepth 100000 in
theorem q0_1268 {l0 l1 l2 l3 : Value} {s0 : Int64} {s1 : Int32} {s2 : Int32}  : rn sc F 0 1268 [l0, l1, l2, l3] [.long s0, .int s1, .int s2, .ref 0] f a j = zCall (F 90 [.ref 0, .int s2, .int s1, .long s0] f a j) (fun v f a j => rn sc F 0 1271 [l0, l1, l2, l3] (v.toList ++ []) f a j) := rn_callV (rfl : zOp 0 1268 = some (1268, .invokevirtual 170, 3, 90, 3, 751, 0, 0, [])) (by decide) rfl (rfl) (by simp [Value.category])
set_option maxRecDepth 100000 in
theorem q0_1271 {l0 l1 l3 : Value} {s0 : Int32} {x : Nat}  : rn sc F 0 1271 [l0, l1, .ref x, l3] [.int s0] f a j = rn sc F 0 1272 [l0, l1, .ref x, l3] [.ref x, .int s0] f a j := rn_go (rfl : zOp 0 1271 = some (1271, .aload_n 2, 1, 2, 0, 0, 0, 0, [])) rfl
set_option maxRecDepth 100000 in
theorem q0_1272 {l1 l2 l3 : Value} {s0 : Nat} {s1 : Int32} {x : Nat}  : rn sc F 0 1272 [.ref x, l1, l2, l3] [.ref s0, .int s1] f a j = rn sc F 0 1273 [.ref x, l1, l2, l3] [.ref x, .ref s0, .int s1] f a j := rn_go (rfl : zOp 0 1272 = some (1272, .aload_n 0, 1, 0, 0, 0, 0, 0, [])) rfl
set_option maxRecDepth 100000 in
theorem q0_1273 {l0 l1 l2 : Value} {s0 : Nat} {s1 : Nat} {s2 : Int32} {x : Int32}  : rn sc F 0 1273 [l0, l1, l2, .int x] [.ref s0, .ref s1, .int s2] f a j = rn sc F 0 1274 [l0, l1, l2, .int x] [.int x, .ref s0, .ref s1, .int s2] f a j := rn_go (rfl : zOp 0 1273 = some (1273, .iload_n 3, 1, 3, 0, 0, 0, 0, [])) rfl
set_option maxRecDepth 100000 in
theorem q0_1274 {l0 l1 l2 l3 : Value} {s0 : Int32} {s1 : Nat} {s2 : Nat} {s3 : Int32}  : rn sc F 0 1274 [l0, l1, l2, l3] [.int s0, .ref s1, .ref s2, .int s3] f a j = rn sc F 0 1275 [l0, l1, l2, l3] [.int (nI 1), .int s0, .ref s1, .ref s2, .int s3] f a j := rn_go (rfl : zOp 0 1274 = some (1274, .iconst 1, 1, 0, 0, 0, nI 1, 0, [])) rfl
set_option maxRecDepth 100000 in
theorem q0_1275 {l0 l1 l2 l3 : Value} {s0 : Int32} {s1 : Int32} {s2 : Nat} {s3 : Nat} {s4 : Int32}  : rn sc F 0 1275 [l0, l1, l2, l3] [.int s0, .int s1, .ref s2, .ref s3, .int s4] f a j = rn sc F 0 1276 [l0, l1, l2, l3] [.int (s1 + s0), .ref s2, .ref s3, .int s4] f a j := rn_go (rfl : zOp 0 1275 = some (1275, .iadd, 1, 0, 0, 0, 0, 0, [])) rfl
set_option maxRecDepth 100000 in
theorem q0_1276 {l0 l1 l2 l3 : Value} {s0 : Int32} {s2 : Nat} {s3 : Int32} (h : ¬ (s0 < 0 ∨ sc.1.toNatClampNeg ≤ s0.toNatClampNeg)) : rn sc F 0 1276 [l0, l1, l2, l3] [.int s0, .ref 999, .ref s2, .int s3] f a j = rn sc F 0 1277 [l0, l1, l2, l3] [.int (sc.2 s0), .ref s2, .int s3] f a j := rn_go (rfl : zOp 0 1276 = some (1276, .iaload, 1, 0, 0, 0, 0, 0, [])) (zi_sald h)
set_option maxRecDepth 100000 in
theorem q0_1277 {l1 l2 l3 : Value} {s0 : Int32} {s1 : Nat} {s2 : Int32} {x : Nat}  : rn sc F 0 1277 [.ref x, l1, l2, l3] [.int s0, .ref s1, .int s2] f a j = rn sc F 0 1278 [.ref x, l1, l2, l3] [.ref x, .int s0, .ref s1, .int s2] f a j := rn_go (rfl : zOp 0 1277 = some (1277, .aload_n 0, 1, 0, 0, 0, 0, 0, [])) rfl
set_option maxRecDepth 100000 in
theorem q0_1278 {l0 l1 l2 : Value} {s0 : Nat} {s1 : Int32} {s2 : Nat} {s3 : Int32} {x : Int32}  : rn sc F 0 1278 [l0, l1, l2, .int x] [.ref s0, .int s1, .ref s2, .int s3] f a j = rn sc F 0 1279 [l0, l1, l2, .int x] [.int x, .ref s0, .int s1, .ref s2, .int s3] f a j := rn_go (rfl : zOp 0 1278 = some (1278, .iload_n 3, 1, 3, 0, 0, 0, 0, [])) rfl
set_option maxRecDepth 100000 in
theorem q0_1279 {l0 l1 l2 l3 : Value} {s0 : Int32} {s1 : Nat} {s2 : Int32} {s3 : Nat} {s4 : Int32}  : rn sc F 0 1279 [l0, l1, l2, l3] [.int s0, .ref s1, .int s2, .ref s3, .int s4] f a j = rn sc F 0 1280 [l0, l1, l2, l3] [.int (nI 2), .int s0, .ref s1, .int s2, .ref s3, .int s4] f a j := rn_go (rfl : zOp 0 1279 = some (1279, .iconst 2, 1, 0, 0, 0, nI 2, 0, [])) rfl
set_option maxRecDepth 100000 in
theorem q0_1280 {l0 l1 l2 l3 : Value} {s0 : Int32} {s1 : Int32} {s2 : Nat} {s3 : Int32} {s4 : Nat} {s5 : Int32}  : rn sc F 0 1280 [l0, l1, l2, l3] [.int s0, .int s1, .ref s2, .int s3, .ref s4, .int s5] f a j = rn sc F 0 1281 [l0, l1, l2, l3] [.int (s1 + s0), .ref s2, .int s3, .ref s4, .int s5] f a j := rn_go (rfl : zOp 0 1280 = some (1280, .iadd, 1, 0, 0, 0, 0, 0, [])) rfl
set_option maxRecDepth 100000 in
theorem q0_1281 {l0 l1 l2 l3 : Value} {s0 : Int32} {s2 : Int32} {s3 : Nat} {s4 : Int32} (h : ¬ (s0 < 0 ∨ sc.1.toNatClampNeg ≤ s0.toNatClampNeg)) : rn sc F 0 1281 [l0, l1, l2, l3] [.int s0, .ref 999, .int s2, .ref s3, .int s4] f a j = rn sc F 0 1282 [l0, l1, l2, l3] [.int (sc.2 s0), .int s2, .ref s3, .int s4] f a j := rn_go (rfl : zOp 0 1281 = some (1281, .iaload, 1, 0, 0, 0, 0, 0, [])) (zi_sald h)
set_option maxRecDepth 100000 in
theorem q0_1282 {l1 l2 l3 : Value} {s0 : Int32} {s1 : Int32} {s2 : Nat} {s3 : Int32} {x : Nat}  : rn sc F 0 1282 [.ref x, l1, l2, l3] [.int s0, .int s1, .ref s2, .int s3] f a j = rn sc F 0 1283 [.ref x, l1, l2, l3] [.ref x, .int s0, .int s1, .ref s2, .int s3] f a j := rn_go (rfl : zOp 0 1282 = some (1282, .aload_n 0, 1, 0, 0, 0, 0, 0, [])) rfl
set_option maxRecDepth 100000 in
theorem q0_1283 {l0 l1 l2 : Value} {s0 : Nat} {s1 : Int32} {s2 : Int32} {s3 : Nat} {s4 : Int32} {x : Int32}  : rn sc F 0 1283 [l0, l1, l2, .int x] [.ref s0, .int s1, .int s2, .ref s3, .int s4] f a j = rn sc F 0 1284 [l0, l1, l2, .int x] [.int x, .ref s0, .int s1, .int s2, .ref s3, .int s4] f a j := rn_go (rfl : zOp 0 1283 = some (1283, .iload_n 3, 1, 3, 0, 0, 0, 0, [])) rfl
set_option maxRecDepth 100000 in
theorem q0_1284 {l0 l1 l2 l3 : Value} {s0 : Int32} {s1 : Nat} {s2 : Int32} {s3 : Int32} {s4 : Nat} {s5 : Int32}  : rn sc F 0 1284 [l0, l1, l2, l3] [.int s0, .ref s1, .int s2, .int s3, .ref s4, .int s5] f a j = rn sc F 0 1285 [l0, l1, l2, l3] [.int (nI 3), .int s0, .ref s1, .int s2, .int s3, .ref s4, .int s5] f a j := rn_go (rfl : zOp 0 1284 = some (1284, .iconst 3, 1, 0, 0, 0, nI 3, 0, [])) rfl
set_option maxRecDepth 100000 in
theorem q0_1285 {l0 l1 l2 l3 : Value} {s0 : Int32} {s1 : Int32} {s2 : Nat} {s3 : Int32} {s4 : Int32} {s5 : Nat} {s6 : Int32}  : rn sc F 0 1285 [l0, l1, l2, l3] [.int s0, .int s1, .ref s2, .int s3, .int s4, .ref s5, .int s6] f a j = rn sc F 0 1286 [l0, l1, l2, l3] [.int (s1 + s0), .ref s2, .int s3, .int s4, .ref s5, .int s6] f a j := rn_go (rfl : zOp 0 1285 = some (1285, .iadd, 1, 0, 0, 0, 0, 0, [])) rfl
set_option maxRecDepth 100000 in
theorem q0_1286 {l0 l1 l2 l3 : Value} {s0 : Int32} {s2 : Int32} {s3 : Int32} {s4 : Nat} {s5 : Int32} (h : ¬ (s0 < 0 ∨ sc.1.toNatClampNeg ≤ s0.toNatClampNeg)) : rn sc F 0 1286 [l0, l1, l2, l3] [.int s0, .ref 999, .int s2, .int s3, .ref s4, .int s5] f a j = rn sc F 0 1287 [l0, l1, l2, l3] [.int (sc.2 s0), .int s2, .int s3, .ref s4, .int s5] f a j := rn_go (rfl : zOp 0 1286 = some (1286, .iaload, 1, 0, 0, 0, 0, 0, [])) (zi_sald h)
set_option maxRecDepth 100000 in
theorem q0_1287 {l0 l1 l2 l3 : Value} {s0 : Int32} {s1 : Int32} {s2 : Int32} {s3 : Nat} {s4 : Int32}  : rn sc F 0 1287 [l0, l1, l2, l3] [.int s0, .int s1, .int s2, .ref s3, .int s4] f a j = rn sc F 0 1288 [l0, l1, l2, l3] [.long s0.toInt64, .int s1, .int s2, .ref s3, .int s4] f a j := rn_go (rfl : zOp 0 1287 = some (1287, .i2l, 1, 0, 0, 0, 0, 0, [])) rfl
set_option maxRecDepth 100000 in
theorem q0_1288 {l0 l1 l2 l3 : Value} {s0 : Int64} {s1 : Int32} {s2 : Int32} {s3 : Nat} {s4 : Int32}  : rn sc F 0 1288 [l0, l1, l2, l3] [.long s0, .int s1, .int s2, .ref s3, .int s4] f a j = rn sc F 0 1290 [l0, l1, l2, l3] [.int (nI 32), .long s0, .int s1, .int s2, .ref s3, .int s4] f a j := rn_go (rfl : zOp 0 1288 = some (1288, .bipush 32, 2, 0, 0, 0, nI 32, 0, [])) rfl
set_option maxRecDepth 100000 in
theorem q0_1290 {l0 l1 l2 l3 : Value} {s0 : Int32} {s1 : Int64} {s2 : Int32} {s3 : Int32} {s4 : Nat} {s5 : Int32}  : rn sc F 0 1290 [l0, l1, l2, l3] [.int s0, .long s1, .int s2, .int s3, .ref s4, .int s5] f a j = rn sc F 0 1291 [l0, l1, l2, l3] [.long (s1 <<< (s0.toInt64 &&& 63)), .int s2, .int s3, .ref s4, .int s5] f a j := rn_go (rfl : zOp 0 1290 = some (1290, .lshl, 1, 0, 0, 0, 0, 0, [])) rfl
set_option maxRecDepth 100000 in
theorem q0_1291 {l1 l2 l3 : Value} {s0 : Int64} {s1 : Int32} {s2 : Int32} {s3 : Nat} {s4 : Int32} {x : Nat}  : rn sc F 0 1291 [.ref x, l1, l2, l3] [.long s0, .int s1, .int s2, .ref s3, .int s4] f a j = rn sc F 0 1292 [.ref x, l1, l2, l3] [.ref x, .long s0, .int s1, .int s2, .ref s3, .int s4] f a j := rn_go (rfl : zOp 0 1291 = some (1291, .aload_n 0, 1, 0, 0, 0, 0, 0, [])) rfl
set_option maxRecDepth 100000 in
theorem q0_1292 {l0 l1 l2 : Value} {s0 : Nat} {s1 : Int64} {s2 : Int32} {s3 : Int32} {s4 : Nat} {s5 : Int32} {x : Int32}  : rn sc F 0 1292 [l0, l1, l2, .int x] [.ref s0, .long s1, .int s2, .int s3, .ref s4, .int s5] f a j = rn sc F 0 1293 [l0, l1, l2, .int x] [.int x, .ref s0, .long s1, .int s2, .int s3, .ref s4, .int s5] f a j := rn_go (rfl : zOp 0 1292 = some (1292, .iload_n 3, 1, 3, 0, 0, 0, 0, [])) rfl
set_option maxRecDepth 100000 in
theorem q0_1293 {l0 l1 l2 l3 : Value} {s0 : Int32} {s1 : Nat} {s2 : Int64} {s3 : Int32} {s4 : Int32} {s5 : Nat} {s6 : Int32}  : rn sc F 0 1293 [l0, l1, l2, l3] [.int s0, .ref s1, .long s2, .int s3, .int s4, .ref s5, .int s6] f a j = rn sc F 0 1294 [l0, l1, l2, l3] [.int (nI 4), .int s0, .ref s1, .long s2, .int s3, .int s4, .ref s5, .int s6] f a j := rn_go (rfl : zOp 0 1293 = some (1293, .iconst 4, 1, 0, 0, 0, nI 4, 0, [])) rfl
set_option maxRecDepth 100000 in
theorem q0_1294 {l0 l1 l2 l3 : Value} {s0 : Int32} {s1 : Int32} {s2 : Nat} {s3 : Int64} {s4 : Int32} {s5 : Int32} {s6 : Nat} {s7 : Int32}  : rn sc F 0 1294 [l0, l1, l2, l3] [.int s0, .int s1, .ref s2, .long s3, .int s4, .int s5, .ref s6, .int s7] f a j = rn sc F 0 1295 [l0, l1, l2, l3] [.int (s1 + s0), .ref s2, .long s3, .int s4, .int s5, .ref s6, .int s7] f a j := rn_go (rfl : zOp 0 1294 = some (1294, .iadd, 1, 0, 0, 0, 0, 0, [])) rfl
set_option maxRecDepth 100000 in
theorem q0_1295 {l0 l1 l2 l3 : Value} {s0 : Int32} {s2 : Int64} {s3 : Int32} {s4 : Int32} {s5 : Nat} {s6 : Int32} (h : ¬ (s0 < 0 ∨ sc.1.toNatClampNeg ≤ s0.toNatClampNeg)) : rn sc F 0 1295 [l0, l1, l2, l3] [.int s0, .ref 999, .long s2, .int s3, .int s4, .ref s5, .int s6] f a j = rn sc F 0 1296 [l0, l1, l2, l3] [.int (sc.2 s0), .long s2, .int s3, .int s4, .ref s5, .int s6] f a j := rn_go (rfl : zOp 0 1295 = some (1295, .iaload, 1, 0, 0, 0, 0, 0, [])) (zi_sald h)
set_option maxRecDepth 100000 in
theorem q0_1296 {l0 l1 l2 l3 : Value} {s0 : Int32} {s1 : Int64} {s2 : Int32} {s3 : Int32} {s4 : Nat} {s5 : Int32}  : rn sc F 0 1296 [l0, l1, l2, l3] [.int s0, .long s1, .int s2, .int s3, .ref s4, .int s5] f a j = rn sc F 0 1297 [l0, l1, l2, l3] [.long s0.toInt64, .long s1, .int s2, .int s3, .ref s4, .int s5] f a j := rn_go (rfl : zOp 0 1296 = some (1296, .i2l, 1, 0, 0, 0, 0, 0, [])) rfl
set_option maxRecDepth 100000 in
theorem q0_1297 {l0 l1 l2 l3 : Value} {s0 : Int64} {s1 : Int64} {s2 : Int32} {s3 : Int32} {s4 : Nat} {s5 : Int32}  : rn sc F 0 1297 [l0, l1, l2, l3] [.long s0, .long s1, .int s2, .int s3, .ref s4, .int s5] f a j = rn sc F 0 1300 [l0, l1, l2, l3] [.long (4294967295), .long s0, .long s1, .int s2, .int s3, .ref s4, .int s5] f a j := rn_go (rfl : zOp 0 1297 = some (1297, .ldc2_w 168, 3, 0, 0, 1180, 0, 4294967295, [])) rfl
set_option maxRecDepth 100000 in
theorem q0_1300 {l0 l1 l2 l3 : Value} {s0 : Int64} {s1 : Int64} {s2 : Int64} {s3 : Int32} {s4 : Int32} {s5 : Nat} {s6 : Int32}  : rn sc F 0 1300 [l0, l1, l2, l3] [.long s0, .long s1, .long s2, .int s3, .int s4, .ref s5, .int s6] f a j = rn sc F 0 1301 [l0, l1, l2, l3] [.long (s1 &&& s0), .long s2, .int s3, .int s4, .ref s5, .int s6] f a j := rn_go (rfl : zOp 0 1300 = some (1300, .land, 1, 0, 0, 0, 0, 0, [])) rfl
set_option maxRecDepth 100000 in
theorem q0_1301 {l0 l1 l2 l3 : Value} {s0 : Int64} {s1 : Int64} {s2 : Int32} {s3 : Int32} {s4 : Nat} {s5 : Int32}  : rn sc F 0 1301 [l0, l1, l2, l3] [.long s0, .long s1, .int s2, .int s3, .ref s4, .int s5] f a j = rn sc F 0 1302 [l0, l1, l2, l3] [.long (s1 ||| s0), .int s2, .int s3, .ref s4, .int s5] f a j := rn_go (rfl : zOp 0 1301 = some (1301, .lor, 1, 0, 0, 0, 0, 0, [])) rfl
set_option maxRecDepth 100000 in
theorem q0_1302 {l0 l1 l2 l3 : Value} {s0 : Int64} {s1 : Int32} {s2 : Int32} {s4 : Int32}  : rn sc F 0 1302 [l0, l1, l2, l3] [.long s0, .int s1, .int s2, .ref 85, .int s4] f a j = zCall (F 178 [.ref 85, .int s2, .int s1, .long s0] f a j) (fun v f a j => rn sc F 0 1305 [l0, l1, l2, l3] (v.toList ++ [.int s4]) f a j) := rn_callV (rfl : zOp 0 1302 = some (1302, .invokevirtual 174, 3, 178, 3, 1168, 0, 0, [])) (by decide) rfl (rfl) (by simp [Value.category])
set_option maxRecDepth 100000 in
theorem q0_1305 {l0 l1 l2 l3 : Value} {s0 : Int32} {s1 : Int32}  : rn sc F 0 1305 [l0, l1, l2, l3] [.int s0, .int s1] f a j = if s1 = s0 then rn sc F 0 1407 [l0, l1, l2, l3] [] f a j else rn sc F 0 1308 [l0, l1, l2, l3] [] f a j := (rn_go (rfl : zOp 0 1305 = some (1305, .if_icmp .eq 102, 3, 1407, 0, 0, 0, 0, [])) rfl).trans rn_ite
set_option maxRecDepth 100000 in
theorem q0_1308 {l0 l1 l2 l3 : Value}   : rn sc F 0 1308 [l0, l1, l2, l3] [] f a j = rn sc F 0 1309 [l0, l1, l2, l3] [.int (nI 0)] f a j := rn_go (rfl : zOp 0 1308 = some (1308, .iconst 0, 1, 0, 0, 0, nI 0, 0, [])) rfl
set_option maxRecDepth 100000 in
theorem q0_1309 {l0 l1 l2 l3 : Value} {s0 : Int32} (h : s0 = 0 ∨ s0 = 1) : rn sc F 0 1309 [l0, l1, l2, l3] [.int s0] f a j = some (some (.int s0), f, a, j) := rn_end (rfl : zOp 0 1309 = some (1309, .ireturn, 1, 0, 0, 0, 0, 0, [])) (zi_retz h)
set_option maxRecDepth 100000 in
theorem q0_1310 {l0 l2 l3 : Value} {x : Nat}  : rn sc F 0 1310 [l0, .ref x, l2, l3] [] f a j = rn sc F 0 1311 [l0, .ref x, l2, l3] [.ref x] f a j := rn_go (rfl : zOp 0 1310 = some (1310, .aload_n 1, 1, 1, 0, 0, 0, 0, [])) rfl
set_option maxRecDepth 100000 in
theorem q0_1311 {l1 l2 l3 : Value} {s0 : Nat} {x : Nat}  : rn sc F 0 1311 [.ref x, l1, l2, l3] [.ref s0] f a j = rn sc F 0 1312 [.ref x, l1, l2, l3] [.ref x, .ref s0] f a j := rn_go (rfl : zOp 0 1311 = some (1311, .aload_n 0, 1, 0, 0, 0, 0, 0, [])) rfl
set_option maxRecDepth 100000 in
theorem q0_1312 {l0 l1 l2 : Value} {s0 : Nat} {s1 : Nat} {x : Int32}  : rn sc F 0 1312 [l0, l1, l2, .int x] [.ref s0, .ref s1] f a j = rn sc F 0 1313 [l0, l1, l2, .int x] [.int x, .ref s0, .ref s1] f a j := rn_go (rfl : zOp 0 1312 = some (1312, .iload_n 3, 1, 3, 0, 0, 0, 0, [])) rfl
set_option maxRecDepth 100000 in
theorem q0_1313 {l0 l1 l2 l3 : Value} {s0 : Int32} {s1 : Nat} {s2 : Nat}  : rn sc F 0 1313 [l0, l1, l2, l3] [.int s0, .ref s1, .ref s2] f a j = rn sc F 0 1314 [l0, l1, l2, l3] [.int (nI 1), .int s0, .ref s1, .ref s2] f a j := rn_go (rfl : zOp 0 1313 = some (1313, .iconst 1, 1, 0, 0, 0, nI 1, 0, [])) rfl
set_option maxRecDepth 100000 in
theorem q0_1314 {l0 l1 l2 l3 : Value} {s0 : Int32} {s1 : Int32} {s2 : Nat} {s3 : Nat}  : rn sc F 0 1314 [l0, l1, l2, l3] [.int s0, .int s1, .ref s2, .ref s3] f a j = rn sc F 0 1315 [l0, l1, l2, l3] [.int (s1 + s0), .ref s2, .ref s3] f a j := rn_go (rfl : zOp 0 1314 = some (1314, .iadd, 1, 0, 0, 0, 0, 0, [])) rfl
set_option maxRecDepth 100000 in
theorem q0_1315 {l0 l1 l2 l3 : Value} {s0 : Int32} {s2 : Nat} (h : ¬ (s0 < 0 ∨ sc.1.toNatClampNeg ≤ s0.toNatClampNeg)) : rn sc F 0 1315 [l0, l1, l2, l3] [.int s0, .ref 999, .ref s2] f a j = rn sc F 0 1316 [l0, l1, l2, l3] [.int (sc.2 s0), .ref s2] f a j := rn_go (rfl : zOp 0 1315 = some (1315, .iaload, 1, 0, 0, 0, 0, 0, [])) (zi_sald h)
set_option maxRecDepth 100000 in
theorem q0_1316 {l1 l2 l3 : Value} {s0 : Int32} {s1 : Nat} {x : Nat}  : rn sc F 0 1316 [.ref x, l1, l2, l3] [.int s0, .ref s1] f a j = rn sc F 0 1317 [.ref x, l1, l2, l3] [.ref x, .int s0, .ref s1] f a j := rn_go (rfl : zOp 0 1316 = some (1316, .aload_n 0, 1, 0, 0, 0, 0, 0, [])) rfl
set_option maxRecDepth 100000 in
theorem q0_1317 {l0 l1 l2 : Value} {s0 : Nat} {s1 : Int32} {s2 : Nat} {x : Int32}  : rn sc F 0 1317 [l0, l1, l2, .int x] [.ref s0, .int s1, .ref s2] f a j = rn sc F 0 1318 [l0, l1, l2, .int x] [.int x, .ref s0, .int s1, .ref s2] f a j := rn_go (rfl : zOp 0 1317 = some (1317, .iload_n 3, 1, 3, 0, 0, 0, 0, [])) rfl
set_option maxRecDepth 100000 in
theorem q0_1318 {l0 l1 l2 l3 : Value} {s0 : Int32} {s1 : Nat} {s2 : Int32} {s3 : Nat}  : rn sc F 0 1318 [l0, l1, l2, l3] [.int s0, .ref s1, .int s2, .ref s3] f a j = rn sc F 0 1319 [l0, l1, l2, l3] [.int (nI 2), .int s0, .ref s1, .int s2, .ref s3] f a j := rn_go (rfl : zOp 0 1318 = some (1318, .iconst 2, 1, 0, 0, 0, nI 2, 0, [])) rfl
set_option maxRecDepth 100000 in
theorem q0_1319 {l0 l1 l2 l3 : Value} {s0 : Int32} {s1 : Int32} {s2 : Nat} {s3 : Int32} {s4 : Nat}  : rn sc F 0 1319 [l0, l1, l2, l3] [.int s0, .int s1, .ref s2, .int s3, .ref s4] f a j = rn sc F 0 1320 [l0, l1, l2, l3] [.int (s1 + s0), .ref s2, .int s3, .ref s4] f a j := rn_go (rfl : zOp 0 1319 = some (1319, .iadd, 1, 0, 0, 0, 0, 0, [])) rfl
set_option maxRecDepth 100000 in
theorem q0_1320 {l0 l1 l2 l3 : Value} {s0 : Int32} {s2 : Int32} {s3 : Nat} (h : ¬ (s0 < 0 ∨ sc.1.toNatClampNeg ≤ s0.toNatClampNeg)) : rn sc F 0 1320 [l0, l1, l2, l3] [.int s0, .ref 999, .int s2, .ref s3] f a j = rn sc F 0 1321 [l0, l1, l2, l3] [.int (sc.2 s0), .int s2, .ref s3] f a j := rn_go (rfl : zOp 0 1320 = some (1320, .iaload, 1, 0, 0, 0, 0, 0, [])) (zi_sald h)
set_option maxRecDepth 100000 in
theorem q0_1321 {l0 l1 l2 l3 : Value} {s0 : Int32} {s1 : Int32}  : rn sc F 0 1321 [l0, l1, l2, l3] [.int s0, .int s1, .ref 0] f a j = zCall (F 91 [.ref 0, .int s1, .int s0] f a j) (fun v f a j => rn sc F 0 1324 [l0, l1, l2, l3] (v.toList ++ []) f a j) := rn_callV (rfl : zOp 0 1321 = some (1321, .invokevirtual 175, 3, 91, 2, 759, 0, 0, [])) (by decide) rfl (rfl) (by simp [Value.category])
set_option maxRecDepth 100000 in
theorem q0_1324 {l0 l1 l3 : Value} {s0 : Int64} {x : Nat}  : rn sc F 0 1324 [l0, l1, .ref x, l3] [.long s0] f a j = rn sc F 0 1325 [l0, l1, .ref x, l3] [.ref x, .long s0] f a j := rn_go (rfl : zOp 0 1324 = some (1324, .aload_n 2, 1, 2, 0, 0, 0, 0, [])) rfl
set_option maxRecDepth 100000 in
theorem q0_1325 {l1 l2 l3 : Value} {s0 : Nat} {s1 : Int64} {x : Nat}  : rn sc F 0 1325 [.ref x, l1, l2, l3] [.ref s0, .long s1] f a j = rn sc F 0 1326 [.ref x, l1, l2, l3] [.ref x, .ref s0, .long s1] f a j := rn_go (rfl : zOp 0 1325 = some (1325, .aload_n 0, 1, 0, 0, 0, 0, 0, [])) rfl
set_option maxRecDepth 100000 in
theorem q0_1326 {l0 l1 l2 : Value} {s0 : Nat} {s1 : Nat} {s2 : Int64} {x : Int32}  : rn sc F 0 1326 [l0, l1, l2, .int x] [.ref s0, .ref s1, .long s2] f a j = rn sc F 0 1327 [l0, l1, l2, .int x] [.int x, .ref s0, .ref s1, .long s2] f a j := rn_go (rfl : zOp 0 1326 = some (1326, .iload_n 3, 1, 3, 0, 0, 0, 0, [])) rfl
set_option maxRecDepth 100000 in
theorem q0_1327 {l0 l1 l2 l3 : Value} {s0 : Int32} {s1 : Nat} {s2 : Nat} {s3 : Int64}  : rn sc F 0 1327 [l0, l1, l2, l3] [.int s0, .ref s1, .ref s2, .long s3] f a j = rn sc F 0 1328 [l0, l1, l2, l3] [.int (nI 1), .int s0, .ref s1, .ref s2, .long s3] f a j := rn_go (rfl : zOp 0 1327 = some (1327, .iconst 1, 1, 0, 0, 0, nI 1, 0, [])) rfl
set_option maxRecDepth 100000 in
theorem q0_1328 {l0 l1 l2 l3 : Value} {s0 : Int32} {s1 : Int32} {s2 : Nat} {s3 : Nat} {s4 : Int64}  : rn sc F 0 1328 [l0, l1, l2, l3] [.int s0, .int s1, .ref s2, .ref s3, .long s4] f a j = rn sc F 0 1329 [l0, l1, l2, l3] [.int (s1 + s0), .ref s2, .ref s3, .long s4] f a j := rn_go (rfl : zOp 0 1328 = some (1328, .iadd, 1, 0, 0, 0, 0, 0, [])) rfl
set_option maxRecDepth 100000 in
theorem q0_1329 {l0 l1 l2 l3 : Value} {s0 : Int32} {s2 : Nat} {s3 : Int64} (h : ¬ (s0 < 0 ∨ sc.1.toNatClampNeg ≤ s0.toNatClampNeg)) : rn sc F 0 1329 [l0, l1, l2, l3] [.int s0, .ref 999, .ref s2, .long s3] f a j = rn sc F 0 1330 [l0, l1, l2, l3] [.int (sc.2 s0), .ref s2, .long s3] f a j := rn_go (rfl : zOp 0 1329 = some (1329, .iaload, 1, 0, 0, 0, 0, 0, [])) (zi_sald h)
set_option maxRecDepth 100000 in
theorem q0_1330 {l1 l2 l3 : Value} {s0 : Int32} {s1 : Nat} {s2 : Int64} {x : Nat}  : rn sc F 0 1330 [.ref x, l1, l2, l3] [.int s0, .ref s1, .long s2] f a j = rn sc F 0 1331 [.ref x, l1, l2, l3] [.ref x, .int s0, .ref s1, .long s2] f a j := rn_go (rfl : zOp 0 1330 = some (1330, .aload_n 0, 1, 0, 0, 0, 0, 0, [])) rfl
set_option maxRecDepth 100000 in
theorem q0_1331 {l0 l1 l2 : Value} {s0 : Nat} {s1 : Int32} {s2 : Nat} {s3 : Int64} {x : Int32}  : rn sc F 0 1331 [l0, l1, l2, .int x] [.ref s0, .int s1, .ref s2, .long s3] f a j = rn sc F 0 1332 [l0, l1, l2, .int x] [.int x, .ref s0, .int s1, .ref s2, .long s3] f a j := rn_go (rfl : zOp 0 1331 = some (1331, .iload_n 3, 1, 3, 0, 0, 0, 0, [])) rfl
set_option maxRecDepth 100000 in
theorem q0_1332 {l0 l1 l2 l3 : Value} {s0 : Int32} {s1 : Nat} {s2 : Int32} {s3 : Nat} {s4 : Int64}  : rn sc F 0 1332 [l0, l1, l2, l3] [.int s0, .ref s1, .int s2, .ref s3, .long s4] f a j = rn sc F 0 1333 [l0, l1, l2, l3] [.int (nI 2), .int s0, .ref s1, .int s2, .ref s3, .long s4] f a j := rn_go (rfl : zOp 0 1332 = some (1332, .iconst 2, 1, 0, 0, 0, nI 2, 0, [])) rfl
set_option maxRecDepth 100000 in
theorem q0_1333 {l0 l1 l2 l3 : Value} {s0 : Int32} {s1 : Int32} {s2 : Nat} {s3 : Int32} {s4 : Nat} {s5 : Int64}  : rn sc F 0 1333 [l0, l1, l2, l3] [.int s0, .int s1, .ref s2, .int s3, .ref s4, .long s5] f a j = rn sc F 0 1334 [l0, l1, l2, l3] [.int (s1 + s0), .ref s2, .int s3, .ref s4, .long s5] f a j := rn_go (rfl : zOp 0 1333 = some (1333, .iadd, 1, 0, 0, 0, 0, 0, [])) rfl
set_option maxRecDepth 100000 in
theorem q0_1334 {l0 l1 l2 l3 : Value} {s0 : Int32} {s2 : Int32} {s3 : Nat} {s4 : Int64} (h : ¬ (s0 < 0 ∨ sc.1.toNatClampNeg ≤ s0.toNatClampNeg)) : rn sc F 0 1334 [l0, l1, l2, l3] [.int s0, .ref 999, .int s2, .ref s3, .long s4] f a j = rn sc F 0 1335 [l0, l1, l2, l3] [.int (sc.2 s0), .int s2, .ref s3, .long s4] f a j := rn_go (rfl : zOp 0 1334 = some (1334, .iaload, 1, 0, 0, 0, 0, 0, [])) (zi_sald h)
set_option maxRecDepth 100000 in
theorem q0_1335 {l0 l1 l2 l3 : Value} {s0 : Int32} {s1 : Int32} {s3 : Int64}  : rn sc F 0 1335 [l0, l1, l2, l3] [.int s0, .int s1, .ref 85, .long s3] f a j = zCall (F 179 [.ref 85, .int s1, .int s0] f a j) (fun v f a j => rn sc F 0 1338 [l0, l1, l2, l3] (v.toList ++ [.long s3]) f a j) := rn_callV (rfl : zOp 0 1335 = some (1335, .invokevirtual 178, 3, 179, 2, 1172, 0, 0, [])) (by decide) rfl (rfl) (by simp [Value.category])
set_option maxRecDepth 100000 in
theorem q0_1338 {l0 l1 l2 l3 : Value} {s0 : Int64} {s1 : Int64}  : rn sc F 0 1338 [l0, l1, l2, l3] [.long s0, .long s1] f a j = rn sc F 0 1339 [l0, l1, l2, l3] [.int (lg_cmp s1 s0)] f a j := rn_go (rfl : zOp 0 1338 = some (1338, .lcmp, 1, 0, 0, 0, 0, 0, [])) rfl
set_option maxRecDepth 100000 in
theorem q0_1339 {l0 l1 l2 l3 : Value} {s0 : Int32}  : rn sc F 0 1339 [l0, l1, l2, l3] [.int s0] f a j = if s0 = 0 then rn sc F 0 1407 [l0, l1, l2, l3] [] f a j else rn sc F 0 1342 [l0, l1, l2, l3] [] f a j := (rn_go (rfl : zOp 0 1339 = some (1339, .ifCond .eq 68, 3, 1407, 0, 0, 0, 0, [])) rfl).trans rn_ite
set_option maxRecDepth 100000 in
theorem q0_1342 {l0 l1 l2 l3 : Value}   : rn sc F 0 1342 [l0, l1, l2, l3] [] f a j = rn sc F 0 1343 [l0, l1, l2, l3] [.int (nI 0)] f a j := rn_go (rfl : zOp 0 1342 = some (1342, .iconst 0, 1, 0, 0, 0, nI 0, 0, [])) rfl
set_option maxRecDepth 100000 in
theorem q0_1343 {l0 l1 l2 l3 : Value} {s0 : Int32} (h : s0 = 0 ∨ s0 = 1) : rn sc F 0 1343 [l0, l1, l2, l3] [.int s0] f a j = some (some (.int s0), f, a, j) := rn_end (rfl : zOp 0 1343 = some (1343, .ireturn, 1, 0, 0, 0, 0, 0, [])) (zi_retz h)
set_option maxRecDepth 100000 in
theorem q0_1344 {l0 l2 l3 : Value} {x : Nat}  : rn sc F 0 1344 [l0, .ref x, l2, l3] [] f a j = rn sc F 0 1345 [l0, .ref x, l2, l3] [.ref x] f a j := rn_go (rfl : zOp 0 1344 = some (1344, .aload_n 1, 1, 1, 0, 0, 0, 0, [])) rfl
set_option maxRecDepth 100000 in
theorem q0_1345 {l1 l2 l3 : Value} {s0 : Nat} {x : Nat}  : rn sc F 0 1345 [.ref x, l1, l2, l3] [.ref s0] f a j = rn sc F 0 1346 [.ref x, l1, l2, l3] [.ref x, .ref s0] f a j := rn_go (rfl : zOp 0 1345 = some (1345, .aload_n 0, 1, 0, 0, 0, 0, 0, [])) rfl
set_option maxRecDepth 100000 in
theorem q0_1346 {l0 l1 l2 : Value} {s0 : Nat} {s1 : Nat} {x : Int32}  : rn sc F 0 1346 [l0, l1, l2, .int x] [.ref s0, .ref s1] f a j = rn sc F 0 1347 [l0, l1, l2, .int x] [.int x, .ref s0, .ref s1] f a j := rn_go (rfl : zOp 0 1346 = some (1346, .iload_n 3, 1, 3, 0, 0, 0, 0, [])) rfl
set_option maxRecDepth 100000 in
theorem q0_1347 {l0 l1 l2 l3 : Value} {s0 : Int32} {s1 : Nat} {s2 : Nat}  : rn sc F 0 1347 [l0, l1, l2, l3] [.int s0, .ref s1, .ref s2] f a j = rn sc F 0 1348 [l0, l1, l2, l3] [.int (nI 1), .int s0, .ref s1, .ref s2] f a j := rn_go (rfl : zOp 0 1347 = some (1347, .iconst 1, 1, 0, 0, 0, nI 1, 0, [])) rfl
set_option maxRecDepth 100000 in
theorem q0_1348 {l0 l1 l2 l3 : Value} {s0 : Int32} {s1 : Int32} {s2 : Nat} {s3 : Nat}  : rn sc F 0 1348 [l0, l1, l2, l3] [.int s0, .int s1, .ref s2, .ref s3] f a j = rn sc F 0 1349 [l0, l1, l2, l3] [.int (s1 + s0), .ref s2, .ref s3] f a j := rn_go (rfl : zOp 0 1348 = some (1348, .iadd, 1, 0, 0, 0, 0, 0, [])) rfl
set_option maxRecDepth 100000 in
theorem q0_1349 {l0 l1 l2 l3 : Value} {s0 : Int32} {s2 : Nat} (h : ¬ (s0 < 0 ∨ sc.1.toNatClampNeg ≤ s0.toNatClampNeg)) : rn sc F 0 1349 [l0, l1, l2, l3] [.int s0, .ref 999, .ref s2] f a j = rn sc F 0 1350 [l0, l1, l2, l3] [.int (sc.2 s0), .ref s2] f a j := rn_go (rfl : zOp 0 1349 = some (1349, .iaload, 1, 0, 0, 0, 0, 0, [])) (zi_sald h)
set_option maxRecDepth 100000 in
theorem q0_1350 {l1 l2 l3 : Value} {s0 : Int32} {s1 : Nat} {x : Nat}  : rn sc F 0 1350 [.ref x, l1, l2, l3] [.int s0, .ref s1] f a j = rn sc F 0 1351 [.ref x, l1, l2, l3] [.ref x, .int s0, .ref s1] f a j := rn_go (rfl : zOp 0 1350 = some (1350, .aload_n 0, 1, 0, 0, 0, 0, 0, [])) rfl
set_option maxRecDepth 100000 in
theorem q0_1351 {l0 l1 l2 : Value} {s0 : Nat} {s1 : Int32} {s2 : Nat} {x : Int32}  : rn sc F 0 1351 [l0, l1, l2, .int x] [.ref s0, .int s1, .ref s2] f a j = rn sc F 0 1352 [l0, l1, l2, .int x] [.int x, .ref s0, .int s1, .ref s2] f a j := rn_go (rfl : zOp 0 1351 = some (1351, .iload_n 3, 1, 3, 0, 0, 0, 0, [])) rfl
set_option maxRecDepth 100000 in
theorem q0_1352 {l0 l1 l2 l3 : Value} {s0 : Int32} {s1 : Nat} {s2 : Int32} {s3 : Nat}  : rn sc F 0 1352 [l0, l1, l2, l3] [.int s0, .ref s1, .int s2, .ref s3] f a j = rn sc F 0 1353 [l0, l1, l2, l3] [.int (nI 2), .int s0, .ref s1, .int s2, .ref s3] f a j := rn_go (rfl : zOp 0 1352 = some (1352, .iconst 2, 1, 0, 0, 0, nI 2, 0, [])) rfl
set_option maxRecDepth 100000 in
theorem q0_1353 {l0 l1 l2 l3 : Value} {s0 : Int32} {s1 : Int32} {s2 : Nat} {s3 : Int32} {s4 : Nat}  : rn sc F 0 1353 [l0, l1, l2, l3] [.int s0, .int s1, .ref s2, .int s3, .ref s4] f a j = rn sc F 0 1354 [l0, l1, l2, l3] [.int (s1 + s0), .ref s2, .int s3, .ref s4] f a j := rn_go (rfl : zOp 0 1353 = some (1353, .iadd, 1, 0, 0, 0, 0, 0, [])) rfl
set_option maxRecDepth 100000 in
theorem q0_1354 {l0 l1 l2 l3 : Value} {s0 : Int32} {s2 : Int32} {s3 : Nat} (h : ¬ (s0 < 0 ∨ sc.1.toNatClampNeg ≤ s0.toNatClampNeg)) : rn sc F 0 1354 [l0, l1, l2, l3] [.int s0, .ref 999, .int s2, .ref s3] f a j = rn sc F 0 1355 [l0, l1, l2, l3] [.int (sc.2 s0), .int s2, .ref s3] f a j := rn_go (rfl : zOp 0 1354 = some (1354, .iaload, 1, 0, 0, 0, 0, 0, [])) (zi_sald h)
set_option maxRecDepth 100000 in
theorem q0_1355 {l1 l2 l3 : Value} {s0 : Int32} {s1 : Int32} {s2 : Nat} {x : Nat}  : rn sc F 0 1355 [.ref x, l1, l2, l3] [.int s0, .int s1, .ref s2] f a j = rn sc F 0 1356 [.ref x, l1, l2, l3] [.ref x, .int s0, .int s1, .ref s2] f a j := rn_go (rfl : zOp 0 1355 = some (1355, .aload_n 0, 1, 0, 0, 0, 0, 0, [])) rfl
set_option maxRecDepth 100000 in
theorem q0_1356 {l0 l1 l2 : Value} {s0 : Nat} {s1 : Int32} {s2 : Int32} {s3 : Nat} {x : Int32}  : rn sc F 0 1356 [l0, l1, l2, .int x] [.ref s0, .int s1, .int s2, .ref s3] f a j = rn sc F 0 1357 [l0, l1, l2, .int x] [.int x, .ref s0, .int s1, .int s2, .ref s3] f a j := rn_go (rfl : zOp 0 1356 = some (1356, .iload_n 3, 1, 3, 0, 0, 0, 0, [])) rfl
set_option maxRecDepth 100000 in
theorem q0_1357 {l0 l1 l2 l3 : Value} {s0 : Int32} {s1 : Nat} {s2 : Int32} {s3 : Int32} {s4 : Nat}  : rn sc F 0 1357 [l0, l1, l2, l3] [.int s0, .ref s1, .int s2, .int s3, .ref s4] f a j = rn sc F 0 1358 [l0, l1, l2, l3] [.int (nI 3), .int s0, .ref s1, .int s2, .int s3, .ref s4] f a j := rn_go (rfl : zOp 0 1357 = some (1357, .iconst 3, 1, 0, 0, 0, nI 3, 0, [])) rfl
set_option maxRecDepth 100000 in
theorem q0_1358 {l0 l1 l2 l3 : Value} {s0 : Int32} {s1 : Int32} {s2 : Nat} {s3 : Int32} {s4 : Int32} {s5 : Nat}  : rn sc F 0 1358 [l0, l1, l2, l3] [.int s0, .int s1, .ref s2, .int s3, .int s4, .ref s5] f a j = rn sc F 0 1359 [l0, l1, l2, l3] [.int (s1 + s0), .ref s2, .int s3, .int s4, .ref s5] f a j := rn_go (rfl : zOp 0 1358 = some (1358, .iadd, 1, 0, 0, 0, 0, 0, [])) rfl
set_option maxRecDepth 100000 in
theorem q0_1359 {l0 l1 l2 l3 : Value} {s0 : Int32} {s2 : Int32} {s3 : Int32} {s4 : Nat} (h : ¬ (s0 < 0 ∨ sc.1.toNatClampNeg ≤ s0.toNatClampNeg)) : rn sc F 0 1359 [l0, l1, l2, l3] [.int s0, .ref 999, .int s2, .int s3, .ref s4] f a j = rn sc F 0 1360 [l0, l1, l2, l3] [.int (sc.2 s0), .int s2, .int s3, .ref s4] f a j := rn_go (rfl : zOp 0 1359 = some (1359, .iaload, 1, 0, 0, 0, 0, 0, [])) (zi_sald h)
set_option maxRecDepth 100000 in
theorem q0_1360 {l1 l2 l3 : Value} {s0 : Int32} {s1 : Int32} {s2 : Int32} {s3 : Nat} {x : Nat}  : rn sc F 0 1360 [.ref x, l1, l2, l3] [.int s0, .int s1, .int s2, .ref s3] f a j = rn sc F 0 1361 [.ref x, l1, l2, l3] [.ref x, .int s0, .int s1, .int s2, .ref s3] f a j := rn_go (rfl : zOp 0 1360 = some (1360, .aload_n 0, 1, 0, 0, 0, 0, 0, [])) rfl
set_option maxRecDepth 100000 in
theorem q0_1361 {l0 l1 l2 : Value} {s0 : Nat} {s1 : Int32} {s2 : Int32} {s3 : Int32} {s4 : Nat} {x : Int32}  : rn sc F 0 1361 [l0, l1, l2, .int x] [.ref s0, .int s1, .int s2, .int s3, .ref s4] f a j = rn sc F 0 1362 [l0, l1, l2, .int x] [.int x, .ref s0, .int s1, .int s2, .int s3, .ref s4] f a j := rn_go (rfl : zOp 0 1361 = some (1361, .iload_n 3, 1, 3, 0, 0, 0, 0, [])) rfl
set_option maxRecDepth 100000 in
theorem q0_1362 {l0 l1 l2 l3 : Value} {s0 : Int32} {s1 : Nat} {s2 : Int32} {s3 : Int32} {s4 : Int32} {s5 : Nat}  : rn sc F 0 1362 [l0, l1, l2, l3] [.int s0, .ref s1, .int s2, .int s3, .int s4, .ref s5] f a j = rn sc F 0 1363 [l0, l1, l2, l3] [.int (nI 4), .int s0, .ref s1, .int s2, .int s3, .int s4, .ref s5] f a j := rn_go (rfl : zOp 0 1362 = some (1362, .iconst 4, 1, 0, 0, 0, nI 4, 0, [])) rfl
set_option maxRecDepth 100000 in
theorem q0_1363 {l0 l1 l2 l3 : Value} {s0 : Int32} {s1 : Int32} {s2 : Nat} {s3 : Int32} {s4 : Int32} {s5 : Int32} {s6 : Nat}  : rn sc F 0 1363 [l0, l1, l2, l3] [.int s0, .int s1, .ref s2, .int s3, .int s4, .int s5, .ref s6] f a j = rn sc F 0 1364 [l0, l1, l2, l3] [.int (s1 + s0), .ref s2, .int s3, .int s4, .int s5, .ref s6] f a j := rn_go (rfl : zOp 0 1363 = some (1363, .iadd, 1, 0, 0, 0, 0, 0, [])) rfl
set_option maxRecDepth 100000 in
theorem q0_1364 {l0 l1 l2 l3 : Value} {s0 : Int32} {s2 : Int32} {s3 : Int32} {s4 : Int32} {s5 : Nat} (h : ¬ (s0 < 0 ∨ sc.1.toNatClampNeg ≤ s0.toNatClampNeg)) : rn sc F 0 1364 [l0, l1, l2, l3] [.int s0, .ref 999, .int s2, .int s3, .int s4, .ref s5] f a j = rn sc F 0 1365 [l0, l1, l2, l3] [.int (sc.2 s0), .int s2, .int s3, .int s4, .ref s5] f a j := rn_go (rfl : zOp 0 1364 = some (1364, .iaload, 1, 0, 0, 0, 0, 0, [])) (zi_sald h)
set_option maxRecDepth 100000 in
theorem q0_1365 {l1 l2 l3 : Value} {s0 : Int32} {s1 : Int32} {s2 : Int32} {s3 : Int32} {s4 : Nat} {x : Nat}  : rn sc F 0 1365 [.ref x, l1, l2, l3] [.int s0, .int s1, .int s2, .int s3, .ref s4] f a j = rn sc F 0 1366 [.ref x, l1, l2, l3] [.ref x, .int s0, .int s1, .int s2, .int s3, .ref s4] f a j := rn_go (rfl : zOp 0 1365 = some (1365, .aload_n 0, 1, 0, 0, 0, 0, 0, [])) rfl
set_option maxRecDepth 100000 in
theorem q0_1366 {l0 l1 l2 : Value} {s0 : Nat} {s1 : Int32} {s2 : Int32} {s3 : Int32} {s4 : Int32} {s5 : Nat} {x : Int32}  : rn sc F 0 1366 [l0, l1, l2, .int x] [.ref s0, .int s1, .int s2, .int s3, .int s4, .ref s5] f a j = rn sc F 0 1367 [l0, l1, l2, .int x] [.int x, .ref s0, .int s1, .int s2, .int s3, .int s4, .ref s5] f a j := rn_go (rfl : zOp 0 1366 = some (1366, .iload_n 3, 1, 3, 0, 0, 0, 0, [])) rfl
set_option maxRecDepth 100000 in
theorem q0_1367 {l0 l1 l2 l3 : Value} {s0 : Int32} {s1 : Nat} {s2 : Int32} {s3 : Int32} {s4 : Int32} {s5 : Int32} {s6 : Nat}  : rn sc F 0 1367 [l0, l1, l2, l3] [.int s0, .ref s1, .int s2, .int s3, .int s4, .int s5, .ref s6] f a j = rn sc F 0 1368 [l0, l1, l2, l3] [.int (nI 5), .int s0, .ref s1, .int s2, .int s3, .int s4, .int s5, .ref s6] f a j := rn_go (rfl : zOp 0 1367 = some (1367, .iconst 5, 1, 0, 0, 0, nI 5, 0, [])) rfl
set_option maxRecDepth 100000 in
theorem q0_1368 {l0 l1 l2 l3 : Value} {s0 : Int32} {s1 : Int32} {s2 : Nat} {s3 : Int32} {s4 : Int32} {s5 : Int32} {s6 : Int32} {s7 : Nat}  : rn sc F 0 1368 [l0, l1, l2, l3] [.int s0, .int s1, .ref s2, .int s3, .int s4, .int s5, .int s6, .ref s7] f a j = rn sc F 0 1369 [l0, l1, l2, l3] [.int (s1 + s0), .ref s2, .int s3, .int s4, .int s5, .int s6, .ref s7] f a j := rn_go (rfl : zOp 0 1368 = some (1368, .iadd, 1, 0, 0, 0, 0, 0, [])) rfl
set_option maxRecDepth 100000 in
theorem q0_1369 {l0 l1 l2 l3 : Value} {s0 : Int32} {s2 : Int32} {s3 : Int32} {s4 : Int32} {s5 : Int32} {s6 : Nat} (h : ¬ (s0 < 0 ∨ sc.1.toNatClampNeg ≤ s0.toNatClampNeg)) : rn sc F 0 1369 [l0, l1, l2, l3] [.int s0, .ref 999, .int s2, .int s3, .int s4, .int s5, .ref s6] f a j = rn sc F 0 1370 [l0, l1, l2, l3] [.int (sc.2 s0), .int s2, .int s3, .int s4, .int s5, .ref s6] f a j := rn_go (rfl : zOp 0 1369 = some (1369, .iaload, 1, 0, 0, 0, 0, 0, [])) (zi_sald h)
set_option maxRecDepth 100000 in
theorem q0_1370 {l0 l1 l2 l3 : Value} {s0 : Int32} {s1 : Int32} {s2 : Int32} {s3 : Int32} {s4 : Int32}  : rn sc F 0 1370 [l0, l1, l2, l3] [.int s0, .int s1, .int s2, .int s3, .int s4, .ref 0] f a j = zCall (F 92 [.ref 0, .int s4, .int s3, .int s2, .int s1, .int s0] f a j) (fun v f a j => rn sc F 0 1373 [l0, l1, l2, l3] (v.toList ++ []) f a j) := rn_callV (rfl : zOp 0 1370 = some (1370, .invokevirtual 179, 3, 92, 5, 763, 0, 0, [])) (by decide) rfl (rfl) (by simp [Value.category])
set_option maxRecDepth 100000 in
theorem q0_1373 {l0 l1 l3 : Value} {s0 : Int32} {x : Nat}  : rn sc F 0 1373 [l0, l1, .ref x, l3] [.int s0] f a j = rn sc F 0 1374 [l0, l1, .ref x, l3] [.ref x, .int s0] f a j := rn_go (rfl : zOp 0 1373 = some (1373, .aload_n 2, 1, 2, 0, 0, 0, 0, [])) rfl
set_option maxRecDepth 100000 in
theorem q0_1374 {l1 l2 l3 : Value} {s0 : Nat} {s1 : Int32} {x : Nat}  : rn sc F 0 1374 [.ref x, l1, l2, l3] [.ref s0, .int s1] f a j = rn sc F 0 1375 [.ref x, l1, l2, l3] [.ref x, .ref s0, .int s1] f a j := rn_go (rfl : zOp 0 1374 = some (1374, .aload_n 0, 1, 0, 0, 0, 0, 0, [])) rfl
set_option maxRecDepth 100000 in
theorem q0_1375 {l0 l1 l2 : Value} {s0 : Nat} {s1 : Nat} {s2 : Int32} {x : Int32}  : rn sc F 0 1375 [l0, l1, l2, .int x] [.ref s0, .ref s1, .int s2] f a j = rn sc F 0 1376 [l0, l1, l2, .int x] [.int x, .ref s0, .ref s1, .int s2] f a j := rn_go (rfl : zOp 0 1375 = some (1375, .iload_n 3, 1, 3, 0, 0, 0, 0, [])) rfl
set_option maxRecDepth 100000 in
theorem q0_1376 {l0 l1 l2 l3 : Value} {s0 : Int32} {s1 : Nat} {s2 : Nat} {s3 : Int32}  : rn sc F 0 1376 [l0, l1, l2, l3] [.int s0, .ref s1, .ref s2, .int s3] f a j = rn sc F 0 1377 [l0, l1, l2, l3] [.int (nI 1), .int s0, .ref s1, .ref s2, .int s3] f a j := rn_go (rfl : zOp 0 1376 = some (1376, .iconst 1, 1, 0, 0, 0, nI 1, 0, [])) rfl
set_option maxRecDepth 100000 in
theorem q0_1377 {l0 l1 l2 l3 : Value} {s0 : Int32} {s1 : Int32} {s2 : Nat} {s3 : Nat} {s4 : Int32}  : rn sc F 0 1377 [l0, l1, l2, l3] [.int s0, .int s1, .ref s2, .ref s3, .int s4] f a j = rn sc F 0 1378 [l0, l1, l2, l3] [.int (s1 + s0), .ref s2, .ref s3, .int s4] f a j := rn_go (rfl : zOp 0 1377 = some (1377, .iadd, 1, 0, 0, 0, 0, 0, [])) rfl
set_option maxRecDepth 100000 in
theorem q0_1378 {l0 l1 l2 l3 : Value} {s0 : Int32} {s2 : Nat} {s3 : Int32} (h : ¬ (s0 < 0 ∨ sc.1.toNatClampNeg ≤ s0.toNatClampNeg)) : rn sc F 0 1378 [l0, l1, l2, l3] [.int s0, .ref 999, .ref s2, .int s3] f a j = rn sc F 0 1379 [l0, l1, l2, l3] [.int (sc.2 s0), .ref s2, .int s3] f a j := rn_go (rfl : zOp 0 1378 = some (1378, .iaload, 1, 0, 0, 0, 0, 0, [])) (zi_sald h)
set_option maxRecDepth 100000 in
theorem q0_1379 {l1 l2 l3 : Value} {s0 : Int32} {s1 : Nat} {s2 : Int32} {x : Nat}  : rn sc F 0 1379 [.ref x, l1, l2, l3] [.int s0, .ref s1, .int s2] f a j = rn sc F 0 1380 [.ref x, l1, l2, l3] [.ref x, .int s0, .ref s1, .int s2] f a j := rn_go (rfl : zOp 0 1379 = some (1379, .aload_n 0, 1, 0, 0, 0, 0, 0, [])) rfl
set_option maxRecDepth 100000 in
theorem q0_1380 {l0 l1 l2 : Value} {s0 : Nat} {s1 : Int32} {s2 : Nat} {s3 : Int32} {x : Int32}  : rn sc F 0 1380 [l0, l1, l2, .int x] [.ref s0, .int s1, .ref s2, .int s3] f a j = rn sc F 0 1381 [l0, l1, l2, .int x] [.int x, .ref s0, .int s1, .ref s2, .int s3] f a j := rn_go (rfl : zOp 0 1380 = some (1380, .iload_n 3, 1, 3, 0, 0, 0, 0, [])) rfl
set_option maxRecDepth 100000 in
theorem q0_1381 {l0 l1 l2 l3 : Value} {s0 : Int32} {s1 : Nat} {s2 : Int32} {s3 : Nat} {s4 : Int32}  : rn sc F 0 1381 [l0, l1, l2, l3] [.int s0, .ref s1, .int s2, .ref s3, .int s4] f a j = rn sc F 0 1382 [l0, l1, l2, l3] [.int (nI 2), .int s0, .ref s1, .int s2, .ref s3, .int s4] f a j := rn_go (rfl : zOp 0 1381 = some (1381, .iconst 2, 1, 0, 0, 0, nI 2, 0, [])) rfl
set_option maxRecDepth 100000 in
theorem q0_1382 {l0 l1 l2 l3 : Value} {s0 : Int32} {s1 : Int32} {s2 : Nat} {s3 : Int32} {s4 : Nat} {s5 : Int32}  : rn sc F 0 1382 [l0, l1, l2, l3] [.int s0, .int s1, .ref s2, .int s3, .ref s4, .int s5] f a j = rn sc F 0 1383 [l0, l1, l2, l3] [.int (s1 + s0), .ref s2, .int s3, .ref s4, .int s5] f a j := rn_go (rfl : zOp 0 1382 = some (1382, .iadd, 1, 0, 0, 0, 0, 0, [])) rfl
set_option maxRecDepth 100000 in
theorem q0_1383 {l0 l1 l2 l3 : Value} {s0 : Int32} {s2 : Int32} {s3 : Nat} {s4 : Int32} (h : ¬ (s0 < 0 ∨ sc.1.toNatClampNeg ≤ s0.toNatClampNeg)) : rn sc F 0 1383 [l0, l1, l2, l3] [.int s0, .ref 999, .int s2, .ref s3, .int s4] f a j = rn sc F 0 1384 [l0, l1, l2, l3] [.int (sc.2 s0), .int s2, .ref s3, .int s4] f a j := rn_go (rfl : zOp 0 1383 = some (1383, .iaload, 1, 0, 0, 0, 0, 0, [])) (zi_sald h)
set_option maxRecDepth 100000 in
theorem q0_1384 {l1 l2 l3 : Value} {s0 : Int32} {s1 : Int32} {s2 : Nat} {s3 : Int32} {x : Nat}  : rn sc F 0 1384 [.ref x, l1, l2, l3] [.int s0, .int s1, .ref s2, .int s3] f a j = rn sc F 0 1385 [.ref x, l1, l2, l3] [.ref x, .int s0, .int s1, .ref s2, .int s3] f a j := rn_go (rfl : zOp 0 1384 = some (1384, .aload_n 0, 1, 0, 0, 0, 0, 0, [])) rfl
set_option maxRecDepth 100000 in
theorem q0_1385 {l0 l1 l2 : Value} {s0 : Nat} {s1 : Int32} {s2 : Int32} {s3 : Nat} {s4 : Int32} {x : Int32}  : rn sc F 0 1385 [l0, l1, l2, .int x] [.ref s0, .int s1, .int s2, .ref s3, .int s4] f a j = rn sc F 0 1386 [l0, l1, l2, .int x] [.int x, .ref s0, .int s1, .int s2, .ref s3, .int s4] f a j := rn_go (rfl : zOp 0 1385 = some (1385, .iload_n 3, 1, 3, 0, 0, 0, 0, [])) rfl
set_option maxRecDepth 100000 in
theorem q0_1386 {l0 l1 l2 l3 : Value} {s0 : Int32} {s1 : Nat} {s2 : Int32} {s3 : Int32} {s4 : Nat} {s5 : Int32}  : rn sc F 0 1386 [l0, l1, l2, l3] [.int s0, .ref s1, .int s2, .int s3, .ref s4, .int s5] f a j = rn sc F 0 1387 [l0, l1, l2, l3] [.int (nI 3), .int s0, .ref s1, .int s2, .int s3, .ref s4, .int s5] f a j := rn_go (rfl : zOp 0 1386 = some (1386, .iconst 3, 1, 0, 0, 0, nI 3, 0, [])) rfl
set_option maxRecDepth 100000 in
theorem q0_1387 {l0 l1 l2 l3 : Value} {s0 : Int32} {s1 : Int32} {s2 : Nat} {s3 : Int32} {s4 : Int32} {s5 : Nat} {s6 : Int32}  : rn sc F 0 1387 [l0, l1, l2, l3] [.int s0, .int s1, .ref s2, .int s3, .int s4, .ref s5, .int s6] f a j = rn sc F 0 1388 [l0, l1, l2, l3] [.int (s1 + s0), .ref s2, .int s3, .int s4, .ref s5, .int s6] f a j := rn_go (rfl : zOp 0 1387 = some (1387, .iadd, 1, 0, 0, 0, 0, 0, [])) rfl
set_option maxRecDepth 100000 in
theorem q0_1388 {l0 l1 l2 l3 : Value} {s0 : Int32} {s2 : Int32} {s3 : Int32} {s4 : Nat} {s5 : Int32} (h : ¬ (s0 < 0 ∨ sc.1.toNatClampNeg ≤ s0.toNatClampNeg)) : rn sc F 0 1388 [l0, l1, l2, l3] [.int s0, .ref 999, .int s2, .int s3, .ref s4, .int s5] f a j = rn sc F 0 1389 [l0, l1, l2, l3] [.int (sc.2 s0), .int s2, .int s3, .ref s4, .int s5] f a j := rn_go (rfl : zOp 0 1388 = some (1388, .iaload, 1, 0, 0, 0, 0, 0, [])) (zi_sald h)
set_option maxRecDepth 100000 in
theorem q0_1389 {l1 l2 l3 : Value} {s0 : Int32} {s1 : Int32} {s2 : Int32} {s3 : Nat} {s4 : Int32} {x : Nat}  : rn sc F 0 1389 [.ref x, l1, l2, l3] [.int s0, .int s1, .int s2, .ref s3, .int s4] f a j = rn sc F 0 1390 [.ref x, l1, l2, l3] [.ref x, .int s0, .int s1, .int s2, .ref s3, .int s4] f a j := rn_go (rfl : zOp 0 1389 = some (1389, .aload_n 0, 1, 0, 0, 0, 0, 0, [])) rfl
set_option maxRecDepth 100000 in
theorem q0_1390 {l0 l1 l2 : Value} {s0 : Nat} {s1 : Int32} {s2 : Int32} {s3 : Int32} {s4 : Nat} {s5 : Int32} {x : Int32}  : rn sc F 0 1390 [l0, l1, l2, .int x] [.ref s0, .int s1, .int s2, .int s3, .ref s4, .int s5] f a j = rn sc F 0 1391 [l0, l1, l2, .int x] [.int x, .ref s0, .int s1, .int s2, .int s3, .ref s4, .int s5] f a j := rn_go (rfl : zOp 0 1390 = some (1390, .iload_n 3, 1, 3, 0, 0, 0, 0, [])) rfl
set_option maxRecDepth 100000 in
theorem q0_1391 {l0 l1 l2 l3 : Value} {s0 : Int32} {s1 : Nat} {s2 : Int32} {s3 : Int32} {s4 : Int32} {s5 : Nat} {s6 : Int32}  : rn sc F 0 1391 [l0, l1, l2, l3] [.int s0, .ref s1, .int s2, .int s3, .int s4, .ref s5, .int s6] f a j = rn sc F 0 1392 [l0, l1, l2, l3] [.int (nI 4), .int s0, .ref s1, .int s2, .int s3, .int s4, .ref s5, .int s6] f a j := rn_go (rfl : zOp 0 1391 = some (1391, .iconst 4, 1, 0, 0, 0, nI 4, 0, [])) rfl
set_option maxRecDepth 100000 in
theorem q0_1392 {l0 l1 l2 l3 : Value} {s0 : Int32} {s1 : Int32} {s2 : Nat} {s3 : Int32} {s4 : Int32} {s5 : Int32} {s6 : Nat} {s7 : Int32}  : rn sc F 0 1392 [l0, l1, l2, l3] [.int s0, .int s1, .ref s2, .int s3, .int s4, .int s5, .ref s6, .int s7] f a j = rn sc F 0 1393 [l0, l1, l2, l3] [.int (s1 + s0), .ref s2, .int s3, .int s4, .int s5, .ref s6, .int s7] f a j := rn_go (rfl : zOp 0 1392 = some (1392, .iadd, 1, 0, 0, 0, 0, 0, [])) rfl
set_option maxRecDepth 100000 in
theorem q0_1393 {l0 l1 l2 l3 : Value} {s0 : Int32} {s2 : Int32} {s3 : Int32} {s4 : Int32} {s5 : Nat} {s6 : Int32} (h : ¬ (s0 < 0 ∨ sc.1.toNatClampNeg ≤ s0.toNatClampNeg)) : rn sc F 0 1393 [l0, l1, l2, l3] [.int s0, .ref 999, .int s2, .int s3, .int s4, .ref s5, .int s6] f a j = rn sc F 0 1394 [l0, l1, l2, l3] [.int (sc.2 s0), .int s2, .int s3, .int s4, .ref s5, .int s6] f a j := rn_go (rfl : zOp 0 1393 = some (1393, .iaload, 1, 0, 0, 0, 0, 0, [])) (zi_sald h)
set_option maxRecDepth 100000 in
theorem q0_1394 {l1 l2 l3 : Value} {s0 : Int32} {s1 : Int32} {s2 : Int32} {s3 : Int32} {s4 : Nat} {s5 : Int32} {x : Nat}  : rn sc F 0 1394 [.ref x, l1, l2, l3] [.int s0, .int s1, .int s2, .int s3, .ref s4, .int s5] f a j = rn sc F 0 1395 [.ref x, l1, l2, l3] [.ref x, .int s0, .int s1, .int s2, .int s3, .ref s4, .int s5] f a j := rn_go (rfl : zOp 0 1394 = some (1394, .aload_n 0, 1, 0, 0, 0, 0, 0, [])) rfl
set_option maxRecDepth 100000 in
theorem q0_1395 {l0 l1 l2 : Value} {s0 : Nat} {s1 : Int32} {s2 : Int32} {s3 : Int32} {s4 : Int32} {s5 : Nat} {s6 : Int32} {x : Int32}  : rn sc F 0 1395 [l0, l1, l2, .int x] [.ref s0, .int s1, .int s2, .int s3, .int s4, .ref s5, .int s6] f a j = rn sc F 0 1396 [l0, l1, l2, .int x] [.int x, .ref s0, .int s1, .int s2, .int s3, .int s4, .ref s5, .int s6] f a j := rn_go (rfl : zOp 0 1395 = some (1395, .iload_n 3, 1, 3, 0, 0, 0, 0, [])) rfl
set_option maxRecDepth 100000 in
theorem q0_1396 {l0 l1 l2 l3 : Value} {s0 : Int32} {s1 : Nat} {s2 : Int32} {s3 : Int32} {s4 : Int32} {s5 : Int32} {s6 : Nat} {s7 : Int32}  : rn sc F 0 1396 [l0, l1, l2, l3] [.int s0, .ref s1, .int s2, .int s3, .int s4, .int s5, .ref s6, .int s7] f a j = rn sc F 0 1397 [l0, l1, l2, l3] [.int (nI 5), .int s0, .ref s1, .int s2, .int s3, .int s4, .int s5, .ref s6, .int s7] f a j := rn_go (rfl : zOp 0 1396 = some (1396, .iconst 5, 1, 0, 0, 0, nI 5, 0, [])) rfl
set_option maxRecDepth 100000 in
theorem q0_1397 {l0 l1 l2 l3 : Value} {s0 : Int32} {s1 : Int32} {s2 : Nat} {s3 : Int32} {s4 : Int32} {s5 : Int32} {s6 : Int32} {s7 : Nat} {s8 : Int32}  : rn sc F 0 1397 [l0, l1, l2, l3] [.int s0, .int s1, .ref s2, .int s3, .int s4, .int s5, .int s6, .ref s7, .int s8] f a j = rn sc F 0 1398 [l0, l1, l2, l3] [.int (s1 + s0), .ref s2, .int s3, .int s4, .int s5, .int s6, .ref s7, .int s8] f a j := rn_go (rfl : zOp 0 1397 = some (1397, .iadd, 1, 0, 0, 0, 0, 0, [])) rfl
set_option maxRecDepth 100000 in
theorem q0_1398 {l0 l1 l2 l3 : Value} {s0 : Int32} {s2 : Int32} {s3 : Int32} {s4 : Int32} {s5 : Int32} {s6 : Nat} {s7 : Int32} (h : ¬ (s0 < 0 ∨ sc.1.toNatClampNeg ≤ s0.toNatClampNeg)) : rn sc F 0 1398 [l0, l1, l2, l3] [.int s0, .ref 999, .int s2, .int s3, .int s4, .int s5, .ref s6, .int s7] f a j = rn sc F 0 1399 [l0, l1, l2, l3] [.int (sc.2 s0), .int s2, .int s3, .int s4, .int s5, .ref s6, .int s7] f a j := rn_go (rfl : zOp 0 1398 = some (1398, .iaload, 1, 0, 0, 0, 0, 0, [])) (zi_sald h)
set_option maxRecDepth 100000 in
theorem q0_1399 {l0 l1 l2 l3 : Value} {s0 : Int32} {s1 : Int32} {s2 : Int32} {s3 : Int32} {s4 : Int32} {s6 : Int32}  : rn sc F 0 1399 [l0, l1, l2, l3] [.int s0, .int s1, .int s2, .int s3, .int s4, .ref 85, .int s6] f a j = zCall (F 180 [.ref 85, .int s4, .int s3, .int s2, .int s1, .int s0] f a j) (fun v f a j => rn sc F 0 1402 [l0, l1, l2, l3] (v.toList ++ [.int s6]) f a j) := rn_callV (rfl : zOp 0 1399 = some (1399, .invokevirtual 183, 3, 180, 5, 1176, 0, 0, [])) (by decide) rfl (rfl) (by simp [Value.category])
set_option maxRecDepth 100000 in
theorem q0_1402 {l0 l1 l2 l3 : Value} {s0 : Int32} {s1 : Int32}  : rn sc F 0 1402 [l0, l1, l2, l3] [.int s0, .int s1] f a j = if s1 = s0 then rn sc F 0 1407 [l0, l1, l2, l3] [] f a j else rn sc F 0 1405 [l0, l1, l2, l3] [] f a j := (rn_go (rfl : zOp 0 1402 = some (1402, .if_icmp .eq 5, 3, 1407, 0, 0, 0, 0, [])) rfl).trans rn_ite
set_option maxRecDepth 100000 in
theorem q0_1405 {l0 l1 l2 l3 : Value}   : rn sc F 0 1405 [l0, l1, l2, l3] [] f a j = rn sc F 0 1406 [l0, l1, l2, l3] [.int (nI 0)] f a j := rn_go (rfl : zOp 0 1405 = some (1405, .iconst 0, 1, 0, 0, 0, nI 0, 0, [])) rfl
set_option maxRecDepth 100000 in
theorem q0_1406 {l0 l1 l2 l3 : Value} {s0 : Int32} (h : s0 = 0 ∨ s0 = 1) : rn sc F 0 1406 [l0, l1, l2, l3] [.int s0] f a j = some (some (.int s0), f, a, j) := rn_end (rfl : zOp 0 1406 = some (1406, .ireturn, 1, 0, 0, 0, 0, 0, [])) (zi_retz h)
set_option maxRecDepth 100000 in
theorem q0_1407 {l0 l1 l2 : Value} {x : Int32}  : rn sc F 0 1407 [l0, l1, l2, .int x] [] f a j = rn sc F 0 1410 [l0, l1, l2, .int (x + nI 6)] [] f a j := rn_go (rfl : zOp 0 1407 = some (1407, .iinc 3 6, 3, 3, 0, 0, nI 6, 0, [])) rfl
set_option maxRecDepth 100000 in
theorem q0_1410 {l0 l1 l2 l3 : Value}   : rn sc F 0 1410 [l0, l1, l2, l3] [] f a j = rn sc F 0 18 [l0, l1, l2, l3] [] f a j := rn_go (rfl : zOp 0 1410 = some (1410, .goto (-1392), 3, 18, 0, 0, 0, 0, [])) rfl
set_option maxRecDepth 100000 in
theorem q0_1413 {l0 l1 l2 l3 : Value}   : rn sc F 0 1413 [l0, l1, l2, l3] [] f a j = rn sc F 0 1414 [l0, l1, l2, l3] [.int (nI 1)] f a j := rn_go (rfl : zOp 0 1413 = some (1413, .iconst 1, 1, 0, 0, 0, nI 1, 0, [])) rfl
set_option maxRecDepth 100000 in
theorem q0_1414 {l0 l1 l2 l3 : Value} {s0 : Int32} (h : s0 = 0 ∨ s0 = 1) : rn sc F 0 1414 [l0, l1, l2, l3] [.int s0] f a j = some (some (.int s0), f, a, j) := rn_end (rfl : zOp 0 1414 = some (1414, .ireturn, 1, 0, 0, 0, 0, 0, [])) (zi_retz h)
end ZQ
