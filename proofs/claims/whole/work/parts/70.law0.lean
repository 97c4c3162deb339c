section ZQ
variable {sc : Int32 × (Int32 → Int32)} {F : zCF} {f : zF} {a : zA} {j : zJ}
set_option maxRecDepth 100000 in
theorem q0_16 {l0 l1 l2 l3 : Value}   : rn sc F 0 16 [l0, l1, l2, l3] [] f a j = rn sc F 0 17 [l0, l1, l2, l3] [.int (nI 0)] f a j := rn_go (rfl : zOp 0 16 = some (16, .iconst 0, 1, 0, 0, 0, nI 0, 0, [])) rfl
set_option maxRecDepth 100000 in
theorem q0_17 {l0 l1 l2 l3 : Value} {s0 : Int32}  : rn sc F 0 17 [l0, l1, l2, l3] [.int s0] f a j = rn sc F 0 18 [l0, l1, l2, .int s0] [] f a j := rn_go (rfl : zOp 0 17 = some (17, .istore_n 3, 1, 3, 0, 0, 0, 0, [])) rfl
set_option maxRecDepth 100000 in
theorem q0_18 {l0 l1 l2 : Value} {x : Int32}  : rn sc F 0 18 [l0, l1, l2, .int x] [] f a j = rn sc F 0 19 [l0, l1, l2, .int x] [.int x] f a j := rn_go (rfl : zOp 0 18 = some (18, .iload_n 3, 1, 3, 0, 0, 0, 0, [])) rfl
set_option maxRecDepth 100000 in
theorem q0_19 {l1 l2 l3 : Value} {s0 : Int32} {x : Nat}  : rn sc F 0 19 [.ref x, l1, l2, l3] [.int s0] f a j = rn sc F 0 20 [.ref x, l1, l2, l3] [.ref x, .int s0] f a j := rn_go (rfl : zOp 0 19 = some (19, .aload_n 0, 1, 0, 0, 0, 0, 0, [])) rfl
set_option maxRecDepth 100000 in
theorem q0_20 {l0 l1 l2 l3 : Value} {s1 : Int32}  : rn sc F 0 20 [l0, l1, l2, l3] [.ref 999, .int s1] f a j = rn sc F 0 21 [l0, l1, l2, l3] [.int sc.1, .int s1] f a j := rn_go (rfl : zOp 0 20 = some (20, .arraylength, 1, 0, 0, 0, 0, 0, [])) zi_slen
set_option maxRecDepth 100000 in
theorem q0_21 {l0 l1 l2 l3 : Value} {s0 : Int32} {s1 : Int32}  : rn sc F 0 21 [l0, l1, l2, l3] [.int s0, .int s1] f a j = rn sc F 0 23 [l0, l1, l2, l3] [.int (nI 6), .int s0, .int s1] f a j := rn_go (rfl : zOp 0 21 = some (21, .bipush 6, 2, 0, 0, 0, nI 6, 0, [])) rfl
set_option maxRecDepth 100000 in
theorem q0_23 {l0 l1 l2 l3 : Value} {s0 : Int32} {s1 : Int32} {s2 : Int32}  : rn sc F 0 23 [l0, l1, l2, l3] [.int s0, .int s1, .int s2] f a j = rn sc F 0 24 [l0, l1, l2, l3] [.int (s1 - s0), .int s2] f a j := rn_go (rfl : zOp 0 23 = some (23, .isub, 1, 0, 0, 0, 0, 0, [])) rfl
set_option maxRecDepth 100000 in
theorem q0_24 {l0 l1 l2 l3 : Value} {s0 : Int32} {s1 : Int32}  : rn sc F 0 24 [l0, l1, l2, l3] [.int s0, .int s1] f a j = if s0 < s1 then rn sc F 0 1413 [l0, l1, l2, l3] [] f a j else rn sc F 0 27 [l0, l1, l2, l3] [] f a j := (rn_go (rfl : zOp 0 24 = some (24, .if_icmp .gt 1389, 3, 1413, 0, 0, 0, 0, [])) rfl).trans rn_ite
set_option maxRecDepth 100000 in
theorem q0_27 {l1 l2 l3 : Value} {x : Nat}  : rn sc F 0 27 [.ref x, l1, l2, l3] [] f a j = rn sc F 0 28 [.ref x, l1, l2, l3] [.ref x] f a j := rn_go (rfl : zOp 0 27 = some (27, .aload_n 0, 1, 0, 0, 0, 0, 0, [])) rfl
set_option maxRecDepth 100000 in
theorem q0_28 {l0 l1 l2 : Value} {s0 : Nat} {x : Int32}  : rn sc F 0 28 [l0, l1, l2, .int x] [.ref s0] f a j = rn sc F 0 29 [l0, l1, l2, .int x] [.int x, .ref s0] f a j := rn_go (rfl : zOp 0 28 = some (28, .iload_n 3, 1, 3, 0, 0, 0, 0, [])) rfl
set_option maxRecDepth 100000 in
theorem q0_29 {l0 l1 l2 l3 : Value} {s0 : Int32} (h : ¬ (s0 < 0 ∨ sc.1.toNatClampNeg ≤ s0.toNatClampNeg)) : rn sc F 0 29 [l0, l1, l2, l3] [.int s0, .ref 999] f a j = rn sc F 0 30 [l0, l1, l2, l3] [.int (sc.2 s0)] f a j := rn_go (rfl : zOp 0 29 = some (29, .iaload, 1, 0, 0, 0, 0, 0, [])) (zi_sald h)
set_option maxRecDepth 100000 in
theorem q0_30 {l0 l1 l2 l3 : Value} {s0 : Int32}  : rn sc F 0 30 [l0, l1, l2, l3] [.int s0] f a j = rn sc F 0 32 [l0, l1, l2, l3] [.int (nI 63), .int s0] f a j := rn_go (rfl : zOp 0 30 = some (30, .bipush 63, 2, 0, 0, 0, nI 63, 0, [])) rfl
set_option maxRecDepth 100000 in
theorem q0_32 {l0 l1 l2 l3 : Value} {s0 : Int32} {s1 : Int32}  : rn sc F 0 32 [l0, l1, l2, l3] [.int s0, .int s1] f a j = rn sc F 0 33 [l0, l1, l2, l3] [.int (s1 &&& s0)] f a j := rn_go (rfl : zOp 0 32 = some (32, .iand, 1, 0, 0, 0, 0, 0, [])) rfl
set_option maxRecDepth 100000 in
theorem q0_33 {l0 l1 l2 l3 : Value} {s0 : Int32}  : rn sc F 0 33 [l0, l1, l2, l3] [.int s0] f a j = if s0 = nI 0 then rn sc F 0 208 [l0, l1, l2, l3] [] f a j else if s0 = nI 1 then rn sc F 0 241 [l0, l1, l2, l3] [] f a j else if s0 = nI 2 then rn sc F 0 284 [l0, l1, l2, l3] [] f a j else if s0 = nI 3 then rn sc F 0 333 [l0, l1, l2, l3] [] f a j else if s0 = nI 4 then rn sc F 0 376 [l0, l1, l2, l3] [] f a j else if s0 = nI 5 then rn sc F 0 409 [l0, l1, l2, l3] [] f a j else if s0 = nI 6 then rn sc F 0 432 [l0, l1, l2, l3] [] f a j else if s0 = nI 7 then rn sc F 0 455 [l0, l1, l2, l3] [] f a j else if s0 = nI 8 then rn sc F 0 478 [l0, l1, l2, l3] [] f a j else if s0 = nI 9 then rn sc F 0 511 [l0, l1, l2, l3] [] f a j else if s0 = nI 10 then rn sc F 0 534 [l0, l1, l2, l3] [] f a j else if s0 = nI 11 then rn sc F 0 547 [l0, l1, l2, l3] [] f a j else if s0 = nI 12 then rn sc F 0 570 [l0, l1, l2, l3] [] f a j else if s0 = nI 13 then rn sc F 0 593 [l0, l1, l2, l3] [] f a j else if s0 = nI 14 then rn sc F 0 616 [l0, l1, l2, l3] [] f a j else if s0 = nI 15 then rn sc F 0 639 [l0, l1, l2, l3] [] f a j else if s0 = nI 16 then rn sc F 0 672 [l0, l1, l2, l3] [] f a j else if s0 = nI 17 then rn sc F 0 695 [l0, l1, l2, l3] [] f a j else if s0 = nI 18 then rn sc F 0 738 [l0, l1, l2, l3] [] f a j else if s0 = nI 19 then rn sc F 0 751 [l0, l1, l2, l3] [] f a j else if s0 = nI 20 then rn sc F 0 784 [l0, l1, l2, l3] [] f a j else if s0 = nI 21 then rn sc F 0 807 [l0, l1, l2, l3] [] f a j else if s0 = nI 22 then rn sc F 0 850 [l0, l1, l2, l3] [] f a j else if s0 = nI 23 then rn sc F 0 873 [l0, l1, l2, l3] [] f a j else if s0 = nI 24 then rn sc F 0 896 [l0, l1, l2, l3] [] f a j else if s0 = nI 25 then rn sc F 0 929 [l0, l1, l2, l3] [] f a j else if s0 = nI 26 then rn sc F 0 952 [l0, l1, l2, l3] [] f a j else if s0 = nI 27 then rn sc F 0 986 [l0, l1, l2, l3] [] f a j else if s0 = nI 28 then rn sc F 0 1010 [l0, l1, l2, l3] [] f a j else if s0 = nI 29 then rn sc F 0 1043 [l0, l1, l2, l3] [] f a j else if s0 = nI 30 then rn sc F 0 1066 [l0, l1, l2, l3] [] f a j else if s0 = nI 31 then rn sc F 0 1099 [l0, l1, l2, l3] [] f a j else if s0 = nI 32 then rn sc F 0 1112 [l0, l1, l2, l3] [] f a j else if s0 = nI 33 then rn sc F 0 1145 [l0, l1, l2, l3] [] f a j else if s0 = nI 34 then rn sc F 0 1158 [l0, l1, l2, l3] [] f a j else if s0 = nI 35 then rn sc F 0 1171 [l0, l1, l2, l3] [] f a j else if s0 = nI 36 then rn sc F 0 1194 [l0, l1, l2, l3] [] f a j else if s0 = nI 37 then rn sc F 0 1237 [l0, l1, l2, l3] [] f a j else if s0 = nI 38 then rn sc F 0 1310 [l0, l1, l2, l3] [] f a j else if s0 = nI 39 then rn sc F 0 1344 [l0, l1, l2, l3] [] f a j else rn sc F 0 1407 [l0, l1, l2, l3] [] f a j := (rn_go (rfl : zOp 0 33 = some (33, .tableswitch 1374 0 39 #[175, 208, 251, 300, 343, 376, 399, 422, 445, 478, 501, 514, 537, 560, 583, 606, 639, 662, 705, 718, 751, 774, 817, 840, 863, 896, 919, 953, 977, 1010, 1033, 1066, 1079, 1112, 1125, 1138, 1161, 1204, 1277, 1311], 175, 1407, 0, 0, 0, 0, [(nI 0, 208), (nI 1, 241), (nI 2, 284), (nI 3, 333), (nI 4, 376), (nI 5, 409), (nI 6, 432), (nI 7, 455), (nI 8, 478), (nI 9, 511), (nI 10, 534), (nI 11, 547), (nI 12, 570), (nI 13, 593), (nI 14, 616), (nI 15, 639), (nI 16, 672), (nI 17, 695), (nI 18, 738), (nI 19, 751), (nI 20, 784), (nI 21, 807), (nI 22, 850), (nI 23, 873), (nI 24, 896), (nI 25, 929), (nI 26, 952), (nI 27, 986), (nI 28, 1010), (nI 29, 1043), (nI 30, 1066), (nI 31, 1099), (nI 32, 1112), (nI 33, 1145), (nI 34, 1158), (nI 35, 1171), (nI 36, 1194), (nI 37, 1237), (nI 38, 1310), (nI 39, 1344)])) rfl).trans (by simp only [zSw, rn_ite])
set_option maxRecDepth 100000 in
theorem q0_208 {l0 l2 l3 : Value} {x : Nat}  : rn sc F 0 208 [l0, .ref x, l2, l3] [] f a j = rn sc F 0 209 [l0, .ref x, l2, l3] [.ref x] f a j := rn_go (rfl : zOp 0 208 = some (208, .aload_n 1, 1, 1, 0, 0, 0, 0, [])) rfl
set_option maxRecDepth 100000 in
theorem q0_209 {l1 l2 l3 : Value} {s0 : Nat} {x : Nat}  : rn sc F 0 209 [.ref x, l1, l2, l3] [.ref s0] f a j = rn sc F 0 210 [.ref x, l1, l2, l3] [.ref x, .ref s0] f a j := rn_go (rfl : zOp 0 209 = some (209, .aload_n 0, 1, 0, 0, 0, 0, 0, [])) rfl
set_option maxRecDepth 100000 in
theorem q0_210 {l0 l1 l2 : Value} {s0 : Nat} {s1 : Nat} {x : Int32}  : rn sc F 0 210 [l0, l1, l2, .int x] [.ref s0, .ref s1] f a j = rn sc F 0 211 [l0, l1, l2, .int x] [.int x, .ref s0, .ref s1] f a j := rn_go (rfl : zOp 0 210 = some (210, .iload_n 3, 1, 3, 0, 0, 0, 0, [])) rfl
set_option maxRecDepth 100000 in
theorem q0_211 {l0 l1 l2 l3 : Value} {s0 : Int32} {s1 : Nat} {s2 : Nat}  : rn sc F 0 211 [l0, l1, l2, l3] [.int s0, .ref s1, .ref s2] f a j = rn sc F 0 212 [l0, l1, l2, l3] [.int (nI 1), .int s0, .ref s1, .ref s2] f a j := rn_go (rfl : zOp 0 211 = some (211, .iconst 1, 1, 0, 0, 0, nI 1, 0, [])) rfl
set_option maxRecDepth 100000 in
theorem q0_212 {l0 l1 l2 l3 : Value} {s0 : Int32} {s1 : Int32} {s2 : Nat} {s3 : Nat}  : rn sc F 0 212 [l0, l1, l2, l3] [.int s0, .int s1, .ref s2, .ref s3] f a j = rn sc F 0 213 [l0, l1, l2, l3] [.int (s1 + s0), .ref s2, .ref s3] f a j := rn_go (rfl : zOp 0 212 = some (212, .iadd, 1, 0, 0, 0, 0, 0, [])) rfl
set_option maxRecDepth 100000 in
theorem q0_213 {l0 l1 l2 l3 : Value} {s0 : Int32} {s2 : Nat} (h : ¬ (s0 < 0 ∨ sc.1.toNatClampNeg ≤ s0.toNatClampNeg)) : rn sc F 0 213 [l0, l1, l2, l3] [.int s0, .ref 999, .ref s2] f a j = rn sc F 0 214 [l0, l1, l2, l3] [.int (sc.2 s0), .ref s2] f a j := rn_go (rfl : zOp 0 213 = some (213, .iaload, 1, 0, 0, 0, 0, 0, [])) (zi_sald h)
set_option maxRecDepth 100000 in
theorem q0_214 {l1 l2 l3 : Value} {s0 : Int32} {s1 : Nat} {x : Nat}  : rn sc F 0 214 [.ref x, l1, l2, l3] [.int s0, .ref s1] f a j = rn sc F 0 215 [.ref x, l1, l2, l3] [.ref x, .int s0, .ref s1] f a j := rn_go (rfl : zOp 0 214 = some (214, .aload_n 0, 1, 0, 0, 0, 0, 0, [])) rfl
set_option maxRecDepth 100000 in
theorem q0_215 {l0 l1 l2 : Value} {s0 : Nat} {s1 : Int32} {s2 : Nat} {x : Int32}  : rn sc F 0 215 [l0, l1, l2, .int x] [.ref s0, .int s1, .ref s2] f a j = rn sc F 0 216 [l0, l1, l2, .int x] [.int x, .ref s0, .int s1, .ref s2] f a j := rn_go (rfl : zOp 0 215 = some (215, .iload_n 3, 1, 3, 0, 0, 0, 0, [])) rfl
set_option maxRecDepth 100000 in
theorem q0_216 {l0 l1 l2 l3 : Value} {s0 : Int32} {s1 : Nat} {s2 : Int32} {s3 : Nat}  : rn sc F 0 216 [l0, l1, l2, l3] [.int s0, .ref s1, .int s2, .ref s3] f a j = rn sc F 0 217 [l0, l1, l2, l3] [.int (nI 2), .int s0, .ref s1, .int s2, .ref s3] f a j := rn_go (rfl : zOp 0 216 = some (216, .iconst 2, 1, 0, 0, 0, nI 2, 0, [])) rfl
set_option maxRecDepth 100000 in
theorem q0_217 {l0 l1 l2 l3 : Value} {s0 : Int32} {s1 : Int32} {s2 : Nat} {s3 : Int32} {s4 : Nat}  : rn sc F 0 217 [l0, l1, l2, l3] [.int s0, .int s1, .ref s2, .int s3, .ref s4] f a j = rn sc F 0 218 [l0, l1, l2, l3] [.int (s1 + s0), .ref s2, .int s3, .ref s4] f a j := rn_go (rfl : zOp 0 217 = some (217, .iadd, 1, 0, 0, 0, 0, 0, [])) rfl
set_option maxRecDepth 100000 in
theorem q0_218 {l0 l1 l2 l3 : Value} {s0 : Int32} {s2 : Int32} {s3 : Nat} (h : ¬ (s0 < 0 ∨ sc.1.toNatClampNeg ≤ s0.toNatClampNeg)) : rn sc F 0 218 [l0, l1, l2, l3] [.int s0, .ref 999, .int s2, .ref s3] f a j = rn sc F 0 219 [l0, l1, l2, l3] [.int (sc.2 s0), .int s2, .ref s3] f a j := rn_go (rfl : zOp 0 218 = some (218, .iaload, 1, 0, 0, 0, 0, 0, [])) (zi_sald h)
set_option maxRecDepth 100000 in
theorem q0_219 {l0 l1 l2 l3 : Value} {s0 : Int32} {s1 : Int32}  : rn sc F 0 219 [l0, l1, l2, l3] [.int s0, .int s1, .ref 0] f a j = zCall (F 53 [.ref 0, .int s1, .int s0] f a j) (fun v f a j => rn sc F 0 222 [l0, l1, l2, l3] (v.toList ++ []) f a j) := rn_callV (rfl : zOp 0 219 = some (219, .invokevirtual 13, 3, 53, 2, 317, 0, 0, [])) (by decide) rfl (rfl) (by simp [Value.category])
set_option maxRecDepth 100000 in
theorem q0_222 {l0 l1 l3 : Value} {s0 : Int32} {x : Nat}  : rn sc F 0 222 [l0, l1, .ref x, l3] [.int s0] f a j = rn sc F 0 223 [l0, l1, .ref x, l3] [.ref x, .int s0] f a j := rn_go (rfl : zOp 0 222 = some (222, .aload_n 2, 1, 2, 0, 0, 0, 0, [])) rfl
set_option maxRecDepth 100000 in
theorem q0_223 {l1 l2 l3 : Value} {s0 : Nat} {s1 : Int32} {x : Nat}  : rn sc F 0 223 [.ref x, l1, l2, l3] [.ref s0, .int s1] f a j = rn sc F 0 224 [.ref x, l1, l2, l3] [.ref x, .ref s0, .int s1] f a j := rn_go (rfl : zOp 0 223 = some (223, .aload_n 0, 1, 0, 0, 0, 0, 0, [])) rfl
set_option maxRecDepth 100000 in
theorem q0_224 {l0 l1 l2 : Value} {s0 : Nat} {s1 : Nat} {s2 : Int32} {x : Int32}  : rn sc F 0 224 [l0, l1, l2, .int x] [.ref s0, .ref s1, .int s2] f a j = rn sc F 0 225 [l0, l1, l2, .int x] [.int x, .ref s0, .ref s1, .int s2] f a j := rn_go (rfl : zOp 0 224 = some (224, .iload_n 3, 1, 3, 0, 0, 0, 0, [])) rfl
set_option maxRecDepth 100000 in
theorem q0_225 {l0 l1 l2 l3 : Value} {s0 : Int32} {s1 : Nat} {s2 : Nat} {s3 : Int32}  : rn sc F 0 225 [l0, l1, l2, l3] [.int s0, .ref s1, .ref s2, .int s3] f a j = rn sc F 0 226 [l0, l1, l2, l3] [.int (nI 1), .int s0, .ref s1, .ref s2, .int s3] f a j := rn_go (rfl : zOp 0 225 = some (225, .iconst 1, 1, 0, 0, 0, nI 1, 0, [])) rfl
set_option maxRecDepth 100000 in
theorem q0_226 {l0 l1 l2 l3 : Value} {s0 : Int32} {s1 : Int32} {s2 : Nat} {s3 : Nat} {s4 : Int32}  : rn sc F 0 226 [l0, l1, l2, l3] [.int s0, .int s1, .ref s2, .ref s3, .int s4] f a j = rn sc F 0 227 [l0, l1, l2, l3] [.int (s1 + s0), .ref s2, .ref s3, .int s4] f a j := rn_go (rfl : zOp 0 226 = some (226, .iadd, 1, 0, 0, 0, 0, 0, [])) rfl
set_option maxRecDepth 100000 in
theorem q0_227 {l0 l1 l2 l3 : Value} {s0 : Int32} {s2 : Nat} {s3 : Int32} (h : ¬ (s0 < 0 ∨ sc.1.toNatClampNeg ≤ s0.toNatClampNeg)) : rn sc F 0 227 [l0, l1, l2, l3] [.int s0, .ref 999, .ref s2, .int s3] f a j = rn sc F 0 228 [l0, l1, l2, l3] [.int (sc.2 s0), .ref s2, .int s3] f a j := rn_go (rfl : zOp 0 227 = some (227, .iaload, 1, 0, 0, 0, 0, 0, [])) (zi_sald h)
set_option maxRecDepth 100000 in
theorem q0_228 {l1 l2 l3 : Value} {s0 : Int32} {s1 : Nat} {s2 : Int32} {x : Nat}  : rn sc F 0 228 [.ref x, l1, l2, l3] [.int s0, .ref s1, .int s2] f a j = rn sc F 0 229 [.ref x, l1, l2, l3] [.ref x, .int s0, .ref s1, .int s2] f a j := rn_go (rfl : zOp 0 228 = some (228, .aload_n 0, 1, 0, 0, 0, 0, 0, [])) rfl
set_option maxRecDepth 100000 in
theorem q0_229 {l0 l1 l2 : Value} {s0 : Nat} {s1 : Int32} {s2 : Nat} {s3 : Int32} {x : Int32}  : rn sc F 0 229 [l0, l1, l2, .int x] [.ref s0, .int s1, .ref s2, .int s3] f a j = rn sc F 0 230 [l0, l1, l2, .int x] [.int x, .ref s0, .int s1, .ref s2, .int s3] f a j := rn_go (rfl : zOp 0 229 = some (229, .iload_n 3, 1, 3, 0, 0, 0, 0, [])) rfl
set_option maxRecDepth 100000 in
theorem q0_230 {l0 l1 l2 l3 : Value} {s0 : Int32} {s1 : Nat} {s2 : Int32} {s3 : Nat} {s4 : Int32}  : rn sc F 0 230 [l0, l1, l2, l3] [.int s0, .ref s1, .int s2, .ref s3, .int s4] f a j = rn sc F 0 231 [l0, l1, l2, l3] [.int (nI 2), .int s0, .ref s1, .int s2, .ref s3, .int s4] f a j := rn_go (rfl : zOp 0 230 = some (230, .iconst 2, 1, 0, 0, 0, nI 2, 0, [])) rfl
set_option maxRecDepth 100000 in
theorem q0_231 {l0 l1 l2 l3 : Value} {s0 : Int32} {s1 : Int32} {s2 : Nat} {s3 : Int32} {s4 : Nat} {s5 : Int32}  : rn sc F 0 231 [l0, l1, l2, l3] [.int s0, .int s1, .ref s2, .int s3, .ref s4, .int s5] f a j = rn sc F 0 232 [l0, l1, l2, l3] [.int (s1 + s0), .ref s2, .int s3, .ref s4, .int s5] f a j := rn_go (rfl : zOp 0 231 = some (231, .iadd, 1, 0, 0, 0, 0, 0, [])) rfl
set_option maxRecDepth 100000 in
theorem q0_232 {l0 l1 l2 l3 : Value} {s0 : Int32} {s2 : Int32} {s3 : Nat} {s4 : Int32} (h : ¬ (s0 < 0 ∨ sc.1.toNatClampNeg ≤ s0.toNatClampNeg)) : rn sc F 0 232 [l0, l1, l2, l3] [.int s0, .ref 999, .int s2, .ref s3, .int s4] f a j = rn sc F 0 233 [l0, l1, l2, l3] [.int (sc.2 s0), .int s2, .ref s3, .int s4] f a j := rn_go (rfl : zOp 0 232 = some (232, .iaload, 1, 0, 0, 0, 0, 0, [])) (zi_sald h)
set_option maxRecDepth 100000 in
theorem q0_233 {l0 l1 l2 l3 : Value} {s0 : Int32} {s1 : Int32} {s3 : Int32}  : rn sc F 0 233 [l0, l1, l2, l3] [.int s0, .int s1, .ref 85, .int s3] f a j = zCall (F 112 [.ref 85, .int s1, .int s0] f a j) (fun v f a j => rn sc F 0 236 [l0, l1, l2, l3] (v.toList ++ [.int s3]) f a j) := rn_callV (rfl : zOp 0 233 = some (233, .invokevirtual 17, 3, 112, 2, 868, 0, 0, [])) (by decide) rfl (rfl) (by simp [Value.category])
set_option maxRecDepth 100000 in
theorem q0_236 {l0 l1 l2 l3 : Value} {s0 : Int32} {s1 : Int32}  : rn sc F 0 236 [l0, l1, l2, l3] [.int s0, .int s1] f a j = if s1 = s0 then rn sc F 0 1407 [l0, l1, l2, l3] [] f a j else rn sc F 0 239 [l0, l1, l2, l3] [] f a j := (rn_go (rfl : zOp 0 236 = some (236, .if_icmp .eq 1171, 3, 1407, 0, 0, 0, 0, [])) rfl).trans rn_ite
set_option maxRecDepth 100000 in
theorem q0_239 {l0 l1 l2 l3 : Value}   : rn sc F 0 239 [l0, l1, l2, l3] [] f a j = rn sc F 0 240 [l0, l1, l2, l3] [.int (nI 0)] f a j := rn_go (rfl : zOp 0 239 = some (239, .iconst 0, 1, 0, 0, 0, nI 0, 0, [])) rfl
set_option maxRecDepth 100000 in
theorem q0_240 {l0 l1 l2 l3 : Value} {s0 : Int32} (h : s0 = 0 ∨ s0 = 1) : rn sc F 0 240 [l0, l1, l2, l3] [.int s0] f a j = some (some (.int s0), f, a, j) := rn_end (rfl : zOp 0 240 = some (240, .ireturn, 1, 0, 0, 0, 0, 0, [])) (zi_retz h)
set_option maxRecDepth 100000 in
theorem q0_241 {l0 l2 l3 : Value} {x : Nat}  : rn sc F 0 241 [l0, .ref x, l2, l3] [] f a j = rn sc F 0 242 [l0, .ref x, l2, l3] [.ref x] f a j := rn_go (rfl : zOp 0 241 = some (241, .aload_n 1, 1, 1, 0, 0, 0, 0, [])) rfl
set_option maxRecDepth 100000 in
theorem q0_242 {l1 l2 l3 : Value} {s0 : Nat} {x : Nat}  : rn sc F 0 242 [.ref x, l1, l2, l3] [.ref s0] f a j = rn sc F 0 243 [.ref x, l1, l2, l3] [.ref x, .ref s0] f a j := rn_go (rfl : zOp 0 242 = some (242, .aload_n 0, 1, 0, 0, 0, 0, 0, [])) rfl
set_option maxRecDepth 100000 in
theorem q0_243 {l0 l1 l2 : Value} {s0 : Nat} {s1 : Nat} {x : Int32}  : rn sc F 0 243 [l0, l1, l2, .int x] [.ref s0, .ref s1] f a j = rn sc F 0 244 [l0, l1, l2, .int x] [.int x, .ref s0, .ref s1] f a j := rn_go (rfl : zOp 0 243 = some (243, .iload_n 3, 1, 3, 0, 0, 0, 0, [])) rfl
set_option maxRecDepth 100000 in
theorem q0_244 {l0 l1 l2 l3 : Value} {s0 : Int32} {s1 : Nat} {s2 : Nat}  : rn sc F 0 244 [l0, l1, l2, l3] [.int s0, .ref s1, .ref s2] f a j = rn sc F 0 245 [l0, l1, l2, l3] [.int (nI 1), .int s0, .ref s1, .ref s2] f a j := rn_go (rfl : zOp 0 244 = some (244, .iconst 1, 1, 0, 0, 0, nI 1, 0, [])) rfl
set_option maxRecDepth 100000 in
theorem q0_245 {l0 l1 l2 l3 : Value} {s0 : Int32} {s1 : Int32} {s2 : Nat} {s3 : Nat}  : rn sc F 0 245 [l0, l1, l2, l3] [.int s0, .int s1, .ref s2, .ref s3] f a j = rn sc F 0 246 [l0, l1, l2, l3] [.int (s1 + s0), .ref s2, .ref s3] f a j := rn_go (rfl : zOp 0 245 = some (245, .iadd, 1, 0, 0, 0, 0, 0, [])) rfl
set_option maxRecDepth 100000 in
theorem q0_246 {l0 l1 l2 l3 : Value} {s0 : Int32} {s2 : Nat} (h : ¬ (s0 < 0 ∨ sc.1.toNatClampNeg ≤ s0.toNatClampNeg)) : rn sc F 0 246 [l0, l1, l2, l3] [.int s0, .ref 999, .ref s2] f a j = rn sc F 0 247 [l0, l1, l2, l3] [.int (sc.2 s0), .ref s2] f a j := rn_go (rfl : zOp 0 246 = some (246, .iaload, 1, 0, 0, 0, 0, 0, [])) (zi_sald h)
set_option maxRecDepth 100000 in
theorem q0_247 {l1 l2 l3 : Value} {s0 : Int32} {s1 : Nat} {x : Nat}  : rn sc F 0 247 [.ref x, l1, l2, l3] [.int s0, .ref s1] f a j = rn sc F 0 248 [.ref x, l1, l2, l3] [.ref x, .int s0, .ref s1] f a j := rn_go (rfl : zOp 0 247 = some (247, .aload_n 0, 1, 0, 0, 0, 0, 0, [])) rfl
set_option maxRecDepth 100000 in
theorem q0_248 {l0 l1 l2 : Value} {s0 : Nat} {s1 : Int32} {s2 : Nat} {x : Int32}  : rn sc F 0 248 [l0, l1, l2, .int x] [.ref s0, .int s1, .ref s2] f a j = rn sc F 0 249 [l0, l1, l2, .int x] [.int x, .ref s0, .int s1, .ref s2] f a j := rn_go (rfl : zOp 0 248 = some (248, .iload_n 3, 1, 3, 0, 0, 0, 0, [])) rfl
set_option maxRecDepth 100000 in
theorem q0_249 {l0 l1 l2 l3 : Value} {s0 : Int32} {s1 : Nat} {s2 : Int32} {s3 : Nat}  : rn sc F 0 249 [l0, l1, l2, l3] [.int s0, .ref s1, .int s2, .ref s3] f a j = rn sc F 0 250 [l0, l1, l2, l3] [.int (nI 2), .int s0, .ref s1, .int s2, .ref s3] f a j := rn_go (rfl : zOp 0 249 = some (249, .iconst 2, 1, 0, 0, 0, nI 2, 0, [])) rfl
set_option maxRecDepth 100000 in
theorem q0_250 {l0 l1 l2 l3 : Value} {s0 : Int32} {s1 : Int32} {s2 : Nat} {s3 : Int32} {s4 : Nat}  : rn sc F 0 250 [l0, l1, l2, l3] [.int s0, .int s1, .ref s2, .int s3, .ref s4] f a j = rn sc F 0 251 [l0, l1, l2, l3] [.int (s1 + s0), .ref s2, .int s3, .ref s4] f a j := rn_go (rfl : zOp 0 250 = some (250, .iadd, 1, 0, 0, 0, 0, 0, [])) rfl
set_option maxRecDepth 100000 in
theorem q0_251 {l0 l1 l2 l3 : Value} {s0 : Int32} {s2 : Int32} {s3 : Nat} (h : ¬ (s0 < 0 ∨ sc.1.toNatClampNeg ≤ s0.toNatClampNeg)) : rn sc F 0 251 [l0, l1, l2, l3] [.int s0, .ref 999, .int s2, .ref s3] f a j = rn sc F 0 252 [l0, l1, l2, l3] [.int (sc.2 s0), .int s2, .ref s3] f a j := rn_go (rfl : zOp 0 251 = some (251, .iaload, 1, 0, 0, 0, 0, 0, [])) (zi_sald h)
set_option maxRecDepth 100000 in
theorem q0_252 {l1 l2 l3 : Value} {s0 : Int32} {s1 : Int32} {s2 : Nat} {x : Nat}  : rn sc F 0 252 [.ref x, l1, l2, l3] [.int s0, .int s1, .ref s2] f a j = rn sc F 0 253 [.ref x, l1, l2, l3] [.ref x, .int s0, .int s1, .ref s2] f a j := rn_go (rfl : zOp 0 252 = some (252, .aload_n 0, 1, 0, 0, 0, 0, 0, [])) rfl
set_option maxRecDepth 100000 in
theorem q0_253 {l0 l1 l2 : Value} {s0 : Nat} {s1 : Int32} {s2 : Int32} {s3 : Nat} {x : Int32}  : rn sc F 0 253 [l0, l1, l2, .int x] [.ref s0, .int s1, .int s2, .ref s3] f a j = rn sc F 0 254 [l0, l1, l2, .int x] [.int x, .ref s0, .int s1, .int s2, .ref s3] f a j := rn_go (rfl : zOp 0 253 = some (253, .iload_n 3, 1, 3, 0, 0, 0, 0, [])) rfl
set_option maxRecDepth 100000 in
theorem q0_254 {l0 l1 l2 l3 : Value} {s0 : Int32} {s1 : Nat} {s2 : Int32} {s3 : Int32} {s4 : Nat}  : rn sc F 0 254 [l0, l1, l2, l3] [.int s0, .ref s1, .int s2, .int s3, .ref s4] f a j = rn sc F 0 255 [l0, l1, l2, l3] [.int (nI 3), .int s0, .ref s1, .int s2, .int s3, .ref s4] f a j := rn_go (rfl : zOp 0 254 = some (254, .iconst 3, 1, 0, 0, 0, nI 3, 0, [])) rfl
set_option maxRecDepth 100000 in
theorem q0_255 {l0 l1 l2 l3 : Value} {s0 : Int32} {s1 : Int32} {s2 : Nat} {s3 : Int32} {s4 : Int32} {s5 : Nat}  : rn sc F 0 255 [l0, l1, l2, l3] [.int s0, .int s1, .ref s2, .int s3, .int s4, .ref s5] f a j = rn sc F 0 256 [l0, l1, l2, l3] [.int (s1 + s0), .ref s2, .int s3, .int s4, .ref s5] f a j := rn_go (rfl : zOp 0 255 = some (255, .iadd, 1, 0, 0, 0, 0, 0, [])) rfl
set_option maxRecDepth 100000 in
theorem q0_256 {l0 l1 l2 l3 : Value} {s0 : Int32} {s2 : Int32} {s3 : Int32} {s4 : Nat} (h : ¬ (s0 < 0 ∨ sc.1.toNatClampNeg ≤ s0.toNatClampNeg)) : rn sc F 0 256 [l0, l1, l2, l3] [.int s0, .ref 999, .int s2, .int s3, .ref s4] f a j = rn sc F 0 257 [l0, l1, l2, l3] [.int (sc.2 s0), .int s2, .int s3, .ref s4] f a j := rn_go (rfl : zOp 0 256 = some (256, .iaload, 1, 0, 0, 0, 0, 0, [])) (zi_sald h)
set_option maxRecDepth 100000 in
theorem q0_257 {l0 l1 l2 l3 : Value} {s0 : Int32} {s1 : Int32} {s2 : Int32}  : rn sc F 0 257 [l0, l1, l2, l3] [.int s0, .int s1, .int s2, .ref 0] f a j = zCall (F 54 [.ref 0, .int s2, .int s1, .int s0] f a j) (fun v f a j => rn sc F 0 260 [l0, l1, l2, l3] (v.toList ++ []) f a j) := rn_callV (rfl : zOp 0 257 = some (257, .invokevirtual 18, 3, 54, 3, 328, 0, 0, [])) (by decide) rfl (rfl) (by simp [Value.category])
set_option maxRecDepth 100000 in
theorem q0_260 {l0 l1 l3 : Value} {s0 : Int32} {x : Nat}  : rn sc F 0 260 [l0, l1, .ref x, l3] [.int s0] f a j = rn sc F 0 261 [l0, l1, .ref x, l3] [.ref x, .int s0] f a j := rn_go (rfl : zOp 0 260 = some (260, .aload_n 2, 1, 2, 0, 0, 0, 0, [])) rfl
set_option maxRecDepth 100000 in
theorem q0_261 {l1 l2 l3 : Value} {s0 : Nat} {s1 : Int32} {x : Nat}  : rn sc F 0 261 [.ref x, l1, l2, l3] [.ref s0, .int s1] f a j = rn sc F 0 262 [.ref x, l1, l2, l3] [.ref x, .ref s0, .int s1] f a j := rn_go (rfl : zOp 0 261 = some (261, .aload_n 0, 1, 0, 0, 0, 0, 0, [])) rfl
set_option maxRecDepth 100000 in
theorem q0_262 {l0 l1 l2 : Value} {s0 : Nat} {s1 : Nat} {s2 : Int32} {x : Int32}  : rn sc F 0 262 [l0, l1, l2, .int x] [.ref s0, .ref s1, .int s2] f a j = rn sc F 0 263 [l0, l1, l2, .int x] [.int x, .ref s0, .ref s1, .int s2] f a j := rn_go (rfl : zOp 0 262 = some (262, .iload_n 3, 1, 3, 0, 0, 0, 0, [])) rfl
set_option maxRecDepth 100000 in
theorem q0_263 {l0 l1 l2 l3 : Value} {s0 : Int32} {s1 : Nat} {s2 : Nat} {s3 : Int32}  : rn sc F 0 263 [l0, l1, l2, l3] [.int s0, .ref s1, .ref s2, .int s3] f a j = rn sc F 0 264 [l0, l1, l2, l3] [.int (nI 1), .int s0, .ref s1, .ref s2, .int s3] f a j := rn_go (rfl : zOp 0 263 = some (263, .iconst 1, 1, 0, 0, 0, nI 1, 0, [])) rfl
set_option maxRecDepth 100000 in
theorem q0_264 {l0 l1 l2 l3 : Value} {s0 : Int32} {s1 : Int32} {s2 : Nat} {s3 : Nat} {s4 : Int32}  : rn sc F 0 264 [l0, l1, l2, l3] [.int s0, .int s1, .ref s2, .ref s3, .int s4] f a j = rn sc F 0 265 [l0, l1, l2, l3] [.int (s1 + s0), .ref s2, .ref s3, .int s4] f a j := rn_go (rfl : zOp 0 264 = some (264, .iadd, 1, 0, 0, 0, 0, 0, [])) rfl
set_option maxRecDepth 100000 in
theorem q0_265 {l0 l1 l2 l3 : Value} {s0 : Int32} {s2 : Nat} {s3 : Int32} (h : ¬ (s0 < 0 ∨ sc.1.toNatClampNeg ≤ s0.toNatClampNeg)) : rn sc F 0 265 [l0, l1, l2, l3] [.int s0, .ref 999, .ref s2, .int s3] f a j = rn sc F 0 266 [l0, l1, l2, l3] [.int (sc.2 s0), .ref s2, .int s3] f a j := rn_go (rfl : zOp 0 265 = some (265, .iaload, 1, 0, 0, 0, 0, 0, [])) (zi_sald h)
set_option maxRecDepth 100000 in
theorem q0_266 {l1 l2 l3 : Value} {s0 : Int32} {s1 : Nat} {s2 : Int32} {x : Nat}  : rn sc F 0 266 [.ref x, l1, l2, l3] [.int s0, .ref s1, .int s2] f a j = rn sc F 0 267 [.ref x, l1, l2, l3] [.ref x, .int s0, .ref s1, .int s2] f a j := rn_go (rfl : zOp 0 266 = some (266, .aload_n 0, 1, 0, 0, 0, 0, 0, [])) rfl
set_option maxRecDepth 100000 in
theorem q0_267 {l0 l1 l2 : Value} {s0 : Nat} {s1 : Int32} {s2 : Nat} {s3 : Int32} {x : Int32}  : rn sc F 0 267 [l0, l1, l2, .int x] [.ref s0, .int s1, .ref s2, .int s3] f a j = rn sc F 0 268 [l0, l1, l2, .int x] [.int x, .ref s0, .int s1, .ref s2, .int s3] f a j := rn_go (rfl : zOp 0 267 = some (267, .iload_n 3, 1, 3, 0, 0, 0, 0, [])) rfl
set_option maxRecDepth 100000 in
theorem q0_268 {l0 l1 l2 l3 : Value} {s0 : Int32} {s1 : Nat} {s2 : Int32} {s3 : Nat} {s4 : Int32}  : rn sc F 0 268 [l0, l1, l2, l3] [.int s0, .ref s1, .int s2, .ref s3, .int s4] f a j = rn sc F 0 269 [l0, l1, l2, l3] [.int (nI 2), .int s0, .ref s1, .int s2, .ref s3, .int s4] f a j := rn_go (rfl : zOp 0 268 = some (268, .iconst 2, 1, 0, 0, 0, nI 2, 0, [])) rfl
set_option maxRecDepth 100000 in
theorem q0_269 {l0 l1 l2 l3 : Value} {s0 : Int32} {s1 : Int32} {s2 : Nat} {s3 : Int32} {s4 : Nat} {s5 : Int32}  : rn sc F 0 269 [l0, l1, l2, l3] [.int s0, .int s1, .ref s2, .int s3, .ref s4, .int s5] f a j = rn sc F 0 270 [l0, l1, l2, l3] [.int (s1 + s0), .ref s2, .int s3, .ref s4, .int s5] f a j := rn_go (rfl : zOp 0 269 = some (269, .iadd, 1, 0, 0, 0, 0, 0, [])) rfl
set_option maxRecDepth 100000 in
theorem q0_270 {l0 l1 l2 l3 : Value} {s0 : Int32} {s2 : Int32} {s3 : Nat} {s4 : Int32} (h : ¬ (s0 < 0 ∨ sc.1.toNatClampNeg ≤ s0.toNatClampNeg)) : rn sc F 0 270 [l0, l1, l2, l3] [.int s0, .ref 999, .int s2, .ref s3, .int s4] f a j = rn sc F 0 271 [l0, l1, l2, l3] [.int (sc.2 s0), .int s2, .ref s3, .int s4] f a j := rn_go (rfl : zOp 0 270 = some (270, .iaload, 1, 0, 0, 0, 0, 0, [])) (zi_sald h)
set_option maxRecDepth 100000 in
theorem q0_271 {l1 l2 l3 : Value} {s0 : Int32} {s1 : Int32} {s2 : Nat} {s3 : Int32} {x : Nat}  : rn sc F 0 271 [.ref x, l1, l2, l3] [.int s0, .int s1, .ref s2, .int s3] f a j = rn sc F 0 272 [.ref x, l1, l2, l3] [.ref x, .int s0, .int s1, .ref s2, .int s3] f a j := rn_go (rfl : zOp 0 271 = some (271, .aload_n 0, 1, 0, 0, 0, 0, 0, [])) rfl
set_option maxRecDepth 100000 in
theorem q0_272 {l0 l1 l2 : Value} {s0 : Nat} {s1 : Int32} {s2 : Int32} {s3 : Nat} {s4 : Int32} {x : Int32}  : rn sc F 0 272 [l0, l1, l2, .int x] [.ref s0, .int s1, .int s2, .ref s3, .int s4] f a j = rn sc F 0 273 [l0, l1, l2, .int x] [.int x, .ref s0, .int s1, .int s2, .ref s3, .int s4] f a j := rn_go (rfl : zOp 0 272 = some (272, .iload_n 3, 1, 3, 0, 0, 0, 0, [])) rfl
set_option maxRecDepth 100000 in
theorem q0_273 {l0 l1 l2 l3 : Value} {s0 : Int32} {s1 : Nat} {s2 : Int32} {s3 : Int32} {s4 : Nat} {s5 : Int32}  : rn sc F 0 273 [l0, l1, l2, l3] [.int s0, .ref s1, .int s2, .int s3, .ref s4, .int s5] f a j = rn sc F 0 274 [l0, l1, l2, l3] [.int (nI 3), .int s0, .ref s1, .int s2, .int s3, .ref s4, .int s5] f a j := rn_go (rfl : zOp 0 273 = some (273, .iconst 3, 1, 0, 0, 0, nI 3, 0, [])) rfl
set_option maxRecDepth 100000 in
theorem q0_274 {l0 l1 l2 l3 : Value} {s0 : Int32} {s1 : Int32} {s2 : Nat} {s3 : Int32} {s4 : Int32} {s5 : Nat} {s6 : Int32}  : rn sc F 0 274 [l0, l1, l2, l3] [.int s0, .int s1, .ref s2, .int s3, .int s4, .ref s5, .int s6] f a j = rn sc F 0 275 [l0, l1, l2, l3] [.int (s1 + s0), .ref s2, .int s3, .int s4, .ref s5, .int s6] f a j := rn_go (rfl : zOp 0 274 = some (274, .iadd, 1, 0, 0, 0, 0, 0, [])) rfl
set_option maxRecDepth 100000 in
theorem q0_275 {l0 l1 l2 l3 : Value} {s0 : Int32} {s2 : Int32} {s3 : Int32} {s4 : Nat} {s5 : Int32} (h : ¬ (s0 < 0 ∨ sc.1.toNatClampNeg ≤ s0.toNatClampNeg)) : rn sc F 0 275 [l0, l1, l2, l3] [.int s0, .ref 999, .int s2, .int s3, .ref s4, .int s5] f a j = rn sc F 0 276 [l0, l1, l2, l3] [.int (sc.2 s0), .int s2, .int s3, .ref s4, .int s5] f a j := rn_go (rfl : zOp 0 275 = some (275, .iaload, 1, 0, 0, 0, 0, 0, [])) (zi_sald h)
set_option maxRecDepth 100000 in
theorem q0_276 {l0 l1 l2 l3 : Value} {s0 : Int32} {s1 : Int32} {s2 : Int32} {s4 : Int32}  : rn sc F 0 276 [l0, l1, l2, l3] [.int s0, .int s1, .int s2, .ref 85, .int s4] f a j = zCall (F 113 [.ref 85, .int s2, .int s1, .int s0] f a j) (fun v f a j => rn sc F 0 279 [l0, l1, l2, l3] (v.toList ++ [.int s4]) f a j) := rn_callV (rfl : zOp 0 276 = some (276, .invokevirtual 22, 3, 113, 3, 881, 0, 0, [])) (by decide) rfl (rfl) (by simp [Value.category])
set_option maxRecDepth 100000 in
theorem q0_279 {l0 l1 l2 l3 : Value} {s0 : Int32} {s1 : Int32}  : rn sc F 0 279 [l0, l1, l2, l3] [.int s0, .int s1] f a j = if s1 = s0 then rn sc F 0 1407 [l0, l1, l2, l3] [] f a j else rn sc F 0 282 [l0, l1, l2, l3] [] f a j := (rn_go (rfl : zOp 0 279 = some (279, .if_icmp .eq 1128, 3, 1407, 0, 0, 0, 0, [])) rfl).trans rn_ite
set_option maxRecDepth 100000 in
theorem q0_282 {l0 l1 l2 l3 : Value}   : rn sc F 0 282 [l0, l1, l2, l3] [] f a j = rn sc F 0 283 [l0, l1, l2, l3] [.int (nI 0)] f a j := rn_go (rfl : zOp 0 282 = some (282, .iconst 0, 1, 0, 0, 0, nI 0, 0, [])) rfl
set_option maxRecDepth 100000 in
theorem q0_283 {l0 l1 l2 l3 : Value} {s0 : Int32} (h : s0 = 0 ∨ s0 = 1) : rn sc F 0 283 [l0, l1, l2, l3] [.int s0] f a j = some (some (.int s0), f, a, j) := rn_end (rfl : zOp 0 283 = some (283, .ireturn, 1, 0, 0, 0, 0, 0, [])) (zi_retz h)
set_option maxRecDepth 100000 in
theorem q0_284 {l0 l2 l3 : Value} {x : Nat}  : rn sc F 0 284 [l0, .ref x, l2, l3] [] f a j = rn sc F 0 285 [l0, .ref x, l2, l3] [.ref x] f a j := rn_go (rfl : zOp 0 284 = some (284, .aload_n 1, 1, 1, 0, 0, 0, 0, [])) rfl
set_option maxRecDepth 100000 in
theorem q0_285 {l1 l2 l3 : Value} {s0 : Nat} {x : Nat}  : rn sc F 0 285 [.ref x, l1, l2, l3] [.ref s0] f a j = rn sc F 0 286 [.ref x, l1, l2, l3] [.ref x, .ref s0] f a j := rn_go (rfl : zOp 0 285 = some (285, .aload_n 0, 1, 0, 0, 0, 0, 0, [])) rfl
set_option maxRecDepth 100000 in
theorem q0_286 {l0 l1 l2 : Value} {s0 : Nat} {s1 : Nat} {x : Int32}  : rn sc F 0 286 [l0, l1, l2, .int x] [.ref s0, .ref s1] f a j = rn sc F 0 287 [l0, l1, l2, .int x] [.int x, .ref s0, .ref s1] f a j := rn_go (rfl : zOp 0 286 = some (286, .iload_n 3, 1, 3, 0, 0, 0, 0, [])) rfl
set_option maxRecDepth 100000 in
theorem q0_287 {l0 l1 l2 l3 : Value} {s0 : Int32} {s1 : Nat} {s2 : Nat}  : rn sc F 0 287 [l0, l1, l2, l3] [.int s0, .ref s1, .ref s2] f a j = rn sc F 0 288 [l0, l1, l2, l3] [.int (nI 1), .int s0, .ref s1, .ref s2] f a j := rn_go (rfl : zOp 0 287 = some (287, .iconst 1, 1, 0, 0, 0, nI 1, 0, [])) rfl
set_option maxRecDepth 100000 in
theorem q0_288 {l0 l1 l2 l3 : Value} {s0 : Int32} {s1 : Int32} {s2 : Nat} {s3 : Nat}  : rn sc F 0 288 [l0, l1, l2, l3] [.int s0, .int s1, .ref s2, .ref s3] f a j = rn sc F 0 289 [l0, l1, l2, l3] [.int (s1 + s0), .ref s2, .ref s3] f a j := rn_go (rfl : zOp 0 288 = some (288, .iadd, 1, 0, 0, 0, 0, 0, [])) rfl
set_option maxRecDepth 100000 in
theorem q0_289 {l0 l1 l2 l3 : Value} {s0 : Int32} {s2 : Nat} (h : ¬ (s0 < 0 ∨ sc.1.toNatClampNeg ≤ s0.toNatClampNeg)) : rn sc F 0 289 [l0, l1, l2, l3] [.int s0, .ref 999, .ref s2] f a j = rn sc F 0 290 [l0, l1, l2, l3] [.int (sc.2 s0), .ref s2] f a j := rn_go (rfl : zOp 0 289 = some (289, .iaload, 1, 0, 0, 0, 0, 0, [])) (zi_sald h)
set_option maxRecDepth 100000 in
theorem q0_290 {l1 l2 l3 : Value} {s0 : Int32} {s1 : Nat} {x : Nat}  : rn sc F 0 290 [.ref x, l1, l2, l3] [.int s0, .ref s1] f a j = rn sc F 0 291 [.ref x, l1, l2, l3] [.ref x, .int s0, .ref s1] f a j := rn_go (rfl : zOp 0 290 = some (290, .aload_n 0, 1, 0, 0, 0, 0, 0, [])) rfl
set_option maxRecDepth 100000 in
theorem q0_291 {l0 l1 l2 : Value} {s0 : Nat} {s1 : Int32} {s2 : Nat} {x : Int32}  : rn sc F 0 291 [l0, l1, l2, .int x] [.ref s0, .int s1, .ref s2] f a j = rn sc F 0 292 [l0, l1, l2, .int x] [.int x, .ref s0, .int s1, .ref s2] f a j := rn_go (rfl : zOp 0 291 = some (291, .iload_n 3, 1, 3, 0, 0, 0, 0, [])) rfl
set_option maxRecDepth 100000 in
theorem q0_292 {l0 l1 l2 l3 : Value} {s0 : Int32} {s1 : Nat} {s2 : Int32} {s3 : Nat}  : rn sc F 0 292 [l0, l1, l2, l3] [.int s0, .ref s1, .int s2, .ref s3] f a j = rn sc F 0 293 [l0, l1, l2, l3] [.int (nI 2), .int s0, .ref s1, .int s2, .ref s3] f a j := rn_go (rfl : zOp 0 292 = some (292, .iconst 2, 1, 0, 0, 0, nI 2, 0, [])) rfl
set_option maxRecDepth 100000 in
theorem q0_293 {l0 l1 l2 l3 : Value} {s0 : Int32} {s1 : Int32} {s2 : Nat} {s3 : Int32} {s4 : Nat}  : rn sc F 0 293 [l0, l1, l2, l3] [.int s0, .int s1, .ref s2, .int s3, .ref s4] f a j = rn sc F 0 294 [l0, l1, l2, l3] [.int (s1 + s0), .ref s2, .int s3, .ref s4] f a j := rn_go (rfl : zOp 0 293 = some (293, .iadd, 1, 0, 0, 0, 0, 0, [])) rfl
set_option maxRecDepth 100000 in
theorem q0_294 {l0 l1 l2 l3 : Value} {s0 : Int32} {s2 : Int32} {s3 : Nat} (h : ¬ (s0 < 0 ∨ sc.1.toNatClampNeg ≤ s0.toNatClampNeg)) : rn sc F 0 294 [l0, l1, l2, l3] [.int s0, .ref 999, .int s2, .ref s3] f a j = rn sc F 0 295 [l0, l1, l2, l3] [.int (sc.2 s0), .int s2, .ref s3] f a j := rn_go (rfl : zOp 0 294 = some (294, .iaload, 1, 0, 0, 0, 0, 0, [])) (zi_sald h)
set_option maxRecDepth 100000 in
theorem q0_295 {l0 l1 l2 l3 : Value} {s0 : Int32} {s1 : Int32} {s2 : Nat}  : rn sc F 0 295 [l0, l1, l2, l3] [.int s0, .int s1, .ref s2] f a j = if s0 = 0 then rn sc F 0 302 [l0, l1, l2, l3] [.int s1, .ref s2] f a j else rn sc F 0 298 [l0, l1, l2, l3] [.int s1, .ref s2] f a j := (rn_go (rfl : zOp 0 295 = some (295, .ifCond .eq 7, 3, 302, 0, 0, 0, 0, [])) rfl).trans rn_ite
set_option maxRecDepth 100000 in
theorem q0_298 {l0 l1 l2 l3 : Value} {s0 : Int32} {s1 : Nat}  : rn sc F 0 298 [l0, l1, l2, l3] [.int s0, .ref s1] f a j = rn sc F 0 299 [l0, l1, l2, l3] [.int (nI 1), .int s0, .ref s1] f a j := rn_go (rfl : zOp 0 298 = some (298, .iconst 1, 1, 0, 0, 0, nI 1, 0, [])) rfl
set_option maxRecDepth 100000 in
theorem q0_299 {l0 l1 l2 l3 : Value} {s0 : Int32} {s1 : Int32} {s2 : Nat}  : rn sc F 0 299 [l0, l1, l2, l3] [.int s0, .int s1, .ref s2] f a j = rn sc F 0 303 [l0, l1, l2, l3] [.int s0, .int s1, .ref s2] f a j := rn_go (rfl : zOp 0 299 = some (299, .goto 4, 3, 303, 0, 0, 0, 0, [])) rfl
set_option maxRecDepth 100000 in
theorem q0_302 {l0 l1 l2 l3 : Value} {s0 : Int32} {s1 : Nat}  : rn sc F 0 302 [l0, l1, l2, l3] [.int s0, .ref s1] f a j = rn sc F 0 303 [l0, l1, l2, l3] [.int (nI 0), .int s0, .ref s1] f a j := rn_go (rfl : zOp 0 302 = some (302, .iconst 0, 1, 0, 0, 0, nI 0, 0, [])) rfl
set_option maxRecDepth 100000 in
theorem q0_303 {l0 l1 l2 l3 : Value} {s0 : Int32} {s1 : Int32}  : rn sc F 0 303 [l0, l1, l2, l3] [.int s0, .int s1, .ref 0] f a j = zCall (F 55 [.ref 0, .int s1, .int s0] f a j) (fun v f a j => rn sc F 0 306 [l0, l1, l2, l3] (v.toList ++ []) f a j) := rn_callV (rfl : zOp 0 303 = some (303, .invokevirtual 23, 3, 55, 2, 344, 0, 0, [])) (by decide) rfl (rfl) (by simp [Value.category])
set_option maxRecDepth 100000 in
theorem q0_306 {l0 l1 l3 : Value} {s0 : Int32} {x : Nat}  : rn sc F 0 306 [l0, l1, .ref x, l3] [.int s0] f a j = rn sc F 0 307 [l0, l1, .ref x, l3] [.ref x, .int s0] f a j := rn_go (rfl : zOp 0 306 = some (306, .aload_n 2, 1, 2, 0, 0, 0, 0, [])) rfl
set_option maxRecDepth 100000 in
theorem q0_307 {l1 l2 l3 : Value} {s0 : Nat} {s1 : Int32} {x : Nat}  : rn sc F 0 307 [.ref x, l1, l2, l3] [.ref s0, .int s1] f a j = rn sc F 0 308 [.ref x, l1, l2, l3] [.ref x, .ref s0, .int s1] f a j := rn_go (rfl : zOp 0 307 = some (307, .aload_n 0, 1, 0, 0, 0, 0, 0, [])) rfl
set_option maxRecDepth 100000 in
theorem q0_308 {l0 l1 l2 : Value} {s0 : Nat} {s1 : Nat} {s2 : Int32} {x : Int32}  : rn sc F 0 308 [l0, l1, l2, .int x] [.ref s0, .ref s1, .int s2] f a j = rn sc F 0 309 [l0, l1, l2, .int x] [.int x, .ref s0, .ref s1, .int s2] f a j := rn_go (rfl : zOp 0 308 = some (308, .iload_n 3, 1, 3, 0, 0, 0, 0, [])) rfl
set_option maxRecDepth 100000 in
theorem q0_309 {l0 l1 l2 l3 : Value} {s0 : Int32} {s1 : Nat} {s2 : Nat} {s3 : Int32}  : rn sc F 0 309 [l0, l1, l2, l3] [.int s0, .ref s1, .ref s2, .int s3] f a j = rn sc F 0 310 [l0, l1, l2, l3] [.int (nI 1), .int s0, .ref s1, .ref s2, .int s3] f a j := rn_go (rfl : zOp 0 309 = some (309, .iconst 1, 1, 0, 0, 0, nI 1, 0, [])) rfl
set_option maxRecDepth 100000 in
theorem q0_310 {l0 l1 l2 l3 : Value} {s0 : Int32} {s1 : Int32} {s2 : Nat} {s3 : Nat} {s4 : Int32}  : rn sc F 0 310 [l0, l1, l2, l3] [.int s0, .int s1, .ref s2, .ref s3, .int s4] f a j = rn sc F 0 311 [l0, l1, l2, l3] [.int (s1 + s0), .ref s2, .ref s3, .int s4] f a j := rn_go (rfl : zOp 0 310 = some (310, .iadd, 1, 0, 0, 0, 0, 0, [])) rfl
set_option maxRecDepth 100000 in
theorem q0_311 {l0 l1 l2 l3 : Value} {s0 : Int32} {s2 : Nat} {s3 : Int32} (h : ¬ (s0 < 0 ∨ sc.1.toNatClampNeg ≤ s0.toNatClampNeg)) : rn sc F 0 311 [l0, l1, l2, l3] [.int s0, .ref 999, .ref s2, .int s3] f a j = rn sc F 0 312 [l0, l1, l2, l3] [.int (sc.2 s0), .ref s2, .int s3] f a j := rn_go (rfl : zOp 0 311 = some (311, .iaload, 1, 0, 0, 0, 0, 0, [])) (zi_sald h)
set_option maxRecDepth 100000 in
theorem q0_312 {l1 l2 l3 : Value} {s0 : Int32} {s1 : Nat} {s2 : Int32} {x : Nat}  : rn sc F 0 312 [.ref x, l1, l2, l3] [.int s0, .ref s1, .int s2] f a j = rn sc F 0 313 [.ref x, l1, l2, l3] [.ref x, .int s0, .ref s1, .int s2] f a j := rn_go (rfl : zOp 0 312 = some (312, .aload_n 0, 1, 0, 0, 0, 0, 0, [])) rfl
set_option maxRecDepth 100000 in
theorem q0_313 {l0 l1 l2 : Value} {s0 : Nat} {s1 : Int32} {s2 : Nat} {s3 : Int32} {x : Int32}  : rn sc F 0 313 [l0, l1, l2, .int x] [.ref s0, .int s1, .ref s2, .int s3] f a j = rn sc F 0 314 [l0, l1, l2, .int x] [.int x, .ref s0, .int s1, .ref s2, .int s3] f a j := rn_go (rfl : zOp 0 313 = some (313, .iload_n 3, 1, 3, 0, 0, 0, 0, [])) rfl
set_option maxRecDepth 100000 in
theorem q0_314 {l0 l1 l2 l3 : Value} {s0 : Int32} {s1 : Nat} {s2 : Int32} {s3 : Nat} {s4 : Int32}  : rn sc F 0 314 [l0, l1, l2, l3] [.int s0, .ref s1, .int s2, .ref s3, .int s4] f a j = rn sc F 0 315 [l0, l1, l2, l3] [.int (nI 2), .int s0, .ref s1, .int s2, .ref s3, .int s4] f a j := rn_go (rfl : zOp 0 314 = some (314, .iconst 2, 1, 0, 0, 0, nI 2, 0, [])) rfl
set_option maxRecDepth 100000 in
theorem q0_315 {l0 l1 l2 l3 : Value} {s0 : Int32} {s1 : Int32} {s2 : Nat} {s3 : Int32} {s4 : Nat} {s5 : Int32}  : rn sc F 0 315 [l0, l1, l2, l3] [.int s0, .int s1, .ref s2, .int s3, .ref s4, .int s5] f a j = rn sc F 0 316 [l0, l1, l2, l3] [.int (s1 + s0), .ref s2, .int s3, .ref s4, .int s5] f a j := rn_go (rfl : zOp 0 315 = some (315, .iadd, 1, 0, 0, 0, 0, 0, [])) rfl
set_option maxRecDepth 100000 in
theorem q0_316 {l0 l1 l2 l3 : Value} {s0 : Int32} {s2 : Int32} {s3 : Nat} {s4 : Int32} (h : ¬ (s0 < 0 ∨ sc.1.toNatClampNeg ≤ s0.toNatClampNeg)) : rn sc F 0 316 [l0, l1, l2, l3] [.int s0, .ref 999, .int s2, .ref s3, .int s4] f a j = rn sc F 0 317 [l0, l1, l2, l3] [.int (sc.2 s0), .int s2, .ref s3, .int s4] f a j := rn_go (rfl : zOp 0 316 = some (316, .iaload, 1, 0, 0, 0, 0, 0, [])) (zi_sald h)
set_option maxRecDepth 100000 in
theorem q0_317 {l0 l1 l2 l3 : Value} {s0 : Int32} {s1 : Int32} {s2 : Nat} {s3 : Int32}  : rn sc F 0 317 [l0, l1, l2, l3] [.int s0, .int s1, .ref s2, .int s3] f a j = if s0 = 0 then rn sc F 0 324 [l0, l1, l2, l3] [.int s1, .ref s2, .int s3] f a j else rn sc F 0 320 [l0, l1, l2, l3] [.int s1, .ref s2, .int s3] f a j := (rn_go (rfl : zOp 0 317 = some (317, .ifCond .eq 7, 3, 324, 0, 0, 0, 0, [])) rfl).trans rn_ite
set_option maxRecDepth 100000 in
theorem q0_320 {l0 l1 l2 l3 : Value} {s0 : Int32} {s1 : Nat} {s2 : Int32}  : rn sc F 0 320 [l0, l1, l2, l3] [.int s0, .ref s1, .int s2] f a j = rn sc F 0 321 [l0, l1, l2, l3] [.int (nI 1), .int s0, .ref s1, .int s2] f a j := rn_go (rfl : zOp 0 320 = some (320, .iconst 1, 1, 0, 0, 0, nI 1, 0, [])) rfl
set_option maxRecDepth 100000 in
theorem q0_321 {l0 l1 l2 l3 : Value} {s0 : Int32} {s1 : Int32} {s2 : Nat} {s3 : Int32}  : rn sc F 0 321 [l0, l1, l2, l3] [.int s0, .int s1, .ref s2, .int s3] f a j = rn sc F 0 325 [l0, l1, l2, l3] [.int s0, .int s1, .ref s2, .int s3] f a j := rn_go (rfl : zOp 0 321 = some (321, .goto 4, 3, 325, 0, 0, 0, 0, [])) rfl
set_option maxRecDepth 100000 in
theorem q0_324 {l0 l1 l2 l3 : Value} {s0 : Int32} {s1 : Nat} {s2 : Int32}  : rn sc F 0 324 [l0, l1, l2, l3] [.int s0, .ref s1, .int s2] f a j = rn sc F 0 325 [l0, l1, l2, l3] [.int (nI 0), .int s0, .ref s1, .int s2] f a j := rn_go (rfl : zOp 0 324 = some (324, .iconst 0, 1, 0, 0, 0, nI 0, 0, [])) rfl
set_option maxRecDepth 100000 in
theorem q0_325 {l0 l1 l2 l3 : Value} {s0 : Int32} {s1 : Int32} {s3 : Int32}  : rn sc F 0 325 [l0, l1, l2, l3] [.int s0, .int s1, .ref 85, .int s3] f a j = zCall (F 114 [.ref 85, .int s1, .int s0] f a j) (fun v f a j => rn sc F 0 328 [l0, l1, l2, l3] (v.toList ++ [.int s3]) f a j) := rn_callV (rfl : zOp 0 325 = some (325, .invokevirtual 27, 3, 114, 2, 889, 0, 0, [])) (by decide) rfl (rfl) (by simp [Value.category])
set_option maxRecDepth 100000 in
theorem q0_328 {l0 l1 l2 l3 : Value} {s0 : Int32} {s1 : Int32}  : rn sc F 0 328 [l0, l1, l2, l3] [.int s0, .int s1] f a j = if s1 = s0 then rn sc F 0 1407 [l0, l1, l2, l3] [] f a j else rn sc F 0 331 [l0, l1, l2, l3] [] f a j := (rn_go (rfl : zOp 0 328 = some (328, .if_icmp .eq 1079, 3, 1407, 0, 0, 0, 0, [])) rfl).trans rn_ite
set_option maxRecDepth 100000 in
theorem q0_331 {l0 l1 l2 l3 : Value}   : rn sc F 0 331 [l0, l1, l2, l3] [] f a j = rn sc F 0 332 [l0, l1, l2, l3] [.int (nI 0)] f a j := rn_go (rfl : zOp 0 331 = some (331, .iconst 0, 1, 0, 0, 0, nI 0, 0, [])) rfl
set_option maxRecDepth 100000 in
theorem q0_332 {l0 l1 l2 l3 : Value} {s0 : Int32} (h : s0 = 0 ∨ s0 = 1) : rn sc F 0 332 [l0, l1, l2, l3] [.int s0] f a j = some (some (.int s0), f, a, j) := rn_end (rfl : zOp 0 332 = some (332, .ireturn, 1, 0, 0, 0, 0, 0, [])) (zi_retz h)
set_option maxRecDepth 100000 in
theorem q0_333 {l0 l2 l3 : Value} {x : Nat}  : rn sc F 0 333 [l0, .ref x, l2, l3] [] f a j = rn sc F 0 334 [l0, .ref x, l2, l3] [.ref x] f a j := rn_go (rfl : zOp 0 333 = some (333, .aload_n 1, 1, 1, 0, 0, 0, 0, [])) rfl
set_option maxRecDepth 100000 in
theorem q0_334 {l1 l2 l3 : Value} {s0 : Nat} {x : Nat}  : rn sc F 0 334 [.ref x, l1, l2, l3] [.ref s0] f a j = rn sc F 0 335 [.ref x, l1, l2, l3] [.ref x, .ref s0] f a j := rn_go (rfl : zOp 0 334 = some (334, .aload_n 0, 1, 0, 0, 0, 0, 0, [])) rfl
set_option maxRecDepth 100000 in
theorem q0_335 {l0 l1 l2 : Value} {s0 : Nat} {s1 : Nat} {x : Int32}  : rn sc F 0 335 [l0, l1, l2, .int x] [.ref s0, .ref s1] f a j = rn sc F 0 336 [l0, l1, l2, .int x] [.int x, .ref s0, .ref s1] f a j := rn_go (rfl : zOp 0 335 = some (335, .iload_n 3, 1, 3, 0, 0, 0, 0, [])) rfl
set_option maxRecDepth 100000 in
theorem q0_336 {l0 l1 l2 l3 : Value} {s0 : Int32} {s1 : Nat} {s2 : Nat}  : rn sc F 0 336 [l0, l1, l2, l3] [.int s0, .ref s1, .ref s2] f a j = rn sc F 0 337 [l0, l1, l2, l3] [.int (nI 1), .int s0, .ref s1, .ref s2] f a j := rn_go (rfl : zOp 0 336 = some (336, .iconst 1, 1, 0, 0, 0, nI 1, 0, [])) rfl
set_option maxRecDepth 100000 in
theorem q0_337 {l0 l1 l2 l3 : Value} {s0 : Int32} {s1 : Int32} {s2 : Nat} {s3 : Nat}  : rn sc F 0 337 [l0, l1, l2, l3] [.int s0, .int s1, .ref s2, .ref s3] f a j = rn sc F 0 338 [l0, l1, l2, l3] [.int (s1 + s0), .ref s2, .ref s3] f a j := rn_go (rfl : zOp 0 337 = some (337, .iadd, 1, 0, 0, 0, 0, 0, [])) rfl
set_option maxRecDepth 100000 in
theorem q0_338 {l0 l1 l2 l3 : Value} {s0 : Int32} {s2 : Nat} (h : ¬ (s0 < 0 ∨ sc.1.toNatClampNeg ≤ s0.toNatClampNeg)) : rn sc F 0 338 [l0, l1, l2, l3] [.int s0, .ref 999, .ref s2] f a j = rn sc F 0 339 [l0, l1, l2, l3] [.int (sc.2 s0), .ref s2] f a j := rn_go (rfl : zOp 0 338 = some (338, .iaload, 1, 0, 0, 0, 0, 0, [])) (zi_sald h)
set_option maxRecDepth 100000 in
theorem q0_339 {l1 l2 l3 : Value} {s0 : Int32} {s1 : Nat} {x : Nat}  : rn sc F 0 339 [.ref x, l1, l2, l3] [.int s0, .ref s1] f a j = rn sc F 0 340 [.ref x, l1, l2, l3] [.ref x, .int s0, .ref s1] f a j := rn_go (rfl : zOp 0 339 = some (339, .aload_n 0, 1, 0, 0, 0, 0, 0, [])) rfl
set_option maxRecDepth 100000 in
theorem q0_340 {l0 l1 l2 : Value} {s0 : Nat} {s1 : Int32} {s2 : Nat} {x : Int32}  : rn sc F 0 340 [l0, l1, l2, .int x] [.ref s0, .int s1, .ref s2] f a j = rn sc F 0 341 [l0, l1, l2, .int x] [.int x, .ref s0, .int s1, .ref s2] f a j := rn_go (rfl : zOp 0 340 = some (340, .iload_n 3, 1, 3, 0, 0, 0, 0, [])) rfl
set_option maxRecDepth 100000 in
theorem q0_341 {l0 l1 l2 l3 : Value} {s0 : Int32} {s1 : Nat} {s2 : Int32} {s3 : Nat}  : rn sc F 0 341 [l0, l1, l2, l3] [.int s0, .ref s1, .int s2, .ref s3] f a j = rn sc F 0 342 [l0, l1, l2, l3] [.int (nI 2), .int s0, .ref s1, .int s2, .ref s3] f a j := rn_go (rfl : zOp 0 341 = some (341, .iconst 2, 1, 0, 0, 0, nI 2, 0, [])) rfl
set_option maxRecDepth 100000 in
theorem q0_342 {l0 l1 l2 l3 : Value} {s0 : Int32} {s1 : Int32} {s2 : Nat} {s3 : Int32} {s4 : Nat}  : rn sc F 0 342 [l0, l1, l2, l3] [.int s0, .int s1, .ref s2, .int s3, .ref s4] f a j = rn sc F 0 343 [l0, l1, l2, l3] [.int (s1 + s0), .ref s2, .int s3, .ref s4] f a j := rn_go (rfl : zOp 0 342 = some (342, .iadd, 1, 0, 0, 0, 0, 0, [])) rfl
set_option maxRecDepth 100000 in
theorem q0_343 {l0 l1 l2 l3 : Value} {s0 : Int32} {s2 : Int32} {s3 : Nat} (h : ¬ (s0 < 0 ∨ sc.1.toNatClampNeg ≤ s0.toNatClampNeg)) : rn sc F 0 343 [l0, l1, l2, l3] [.int s0, .ref 999, .int s2, .ref s3] f a j = rn sc F 0 344 [l0, l1, l2, l3] [.int (sc.2 s0), .int s2, .ref s3] f a j := rn_go (rfl : zOp 0 343 = some (343, .iaload, 1, 0, 0, 0, 0, 0, [])) (zi_sald h)
set_option maxRecDepth 100000 in
theorem q0_344 {l1 l2 l3 : Value} {s0 : Int32} {s1 : Int32} {s2 : Nat} {x : Nat}  : rn sc F 0 344 [.ref x, l1, l2, l3] [.int s0, .int s1, .ref s2] f a j = rn sc F 0 345 [.ref x, l1, l2, l3] [.ref x, .int s0, .int s1, .ref s2] f a j := rn_go (rfl : zOp 0 344 = some (344, .aload_n 0, 1, 0, 0, 0, 0, 0, [])) rfl
set_option maxRecDepth 100000 in
theorem q0_345 {l0 l1 l2 : Value} {s0 : Nat} {s1 : Int32} {s2 : Int32} {s3 : Nat} {x : Int32}  : rn sc F 0 345 [l0, l1, l2, .int x] [.ref s0, .int s1, .int s2, .ref s3] f a j = rn sc F 0 346 [l0, l1, l2, .int x] [.int x, .ref s0, .int s1, .int s2, .ref s3] f a j := rn_go (rfl : zOp 0 345 = some (345, .iload_n 3, 1, 3, 0, 0, 0, 0, [])) rfl
set_option maxRecDepth 100000 in
theorem q0_346 {l0 l1 l2 l3 : Value} {s0 : Int32} {s1 : Nat} {s2 : Int32} {s3 : Int32} {s4 : Nat}  : rn sc F 0 346 [l0, l1, l2, l3] [.int s0, .ref s1, .int s2, .int s3, .ref s4] f a j = rn sc F 0 347 [l0, l1, l2, l3] [.int (nI 3), .int s0, .ref s1, .int s2, .int s3, .ref s4] f a j := rn_go (rfl : zOp 0 346 = some (346, .iconst 3, 1, 0, 0, 0, nI 3, 0, [])) rfl
set_option maxRecDepth 100000 in
theorem q0_347 {l0 l1 l2 l3 : Value} {s0 : Int32} {s1 : Int32} {s2 : Nat} {s3 : Int32} {s4 : Int32} {s5 : Nat}  : rn sc F 0 347 [l0, l1, l2, l3] [.int s0, .int s1, .ref s2, .int s3, .int s4, .ref s5] f a j = rn sc F 0 348 [l0, l1, l2, l3] [.int (s1 + s0), .ref s2, .int s3, .int s4, .ref s5] f a j := rn_go (rfl : zOp 0 347 = some (347, .iadd, 1, 0, 0, 0, 0, 0, [])) rfl
set_option maxRecDepth 100000 in
theorem q0_348 {l0 l1 l2 l3 : Value} {s0 : Int32} {s2 : Int32} {s3 : Int32} {s4 : Nat} (h : ¬ (s0 < 0 ∨ sc.1.toNatClampNeg ≤ s0.toNatClampNeg)) : rn sc F 0 348 [l0, l1, l2, l3] [.int s0, .ref 999, .int s2, .int s3, .ref s4] f a j = rn sc F 0 349 [l0, l1, l2, l3] [.int (sc.2 s0), .int s2, .int s3, .ref s4] f a j := rn_go (rfl : zOp 0 348 = some (348, .iaload, 1, 0, 0, 0, 0, 0, [])) (zi_sald h)
set_option maxRecDepth 100000 in
theorem q0_349 {l0 l1 l2 l3 : Value} {s0 : Int32} {s1 : Int32} {s2 : Int32}  : rn sc F 0 349 [l0, l1, l2, l3] [.int s0, .int s1, .int s2, .ref 0] f a j = zCall (F 56 [.ref 0, .int s2, .int s1, .int s0] f a j) (fun v f a j => rn sc F 0 352 [l0, l1, l2, l3] (v.toList ++ []) f a j) := rn_callV (rfl : zOp 0 349 = some (349, .invokevirtual 28, 3, 56, 3, 359, 0, 0, [])) (by decide) rfl (rfl) (by simp [Value.category])
set_option maxRecDepth 100000 in
theorem q0_352 {l0 l1 l3 : Value} {s0 : Int32} {x : Nat}  : rn sc F 0 352 [l0, l1, .ref x, l3] [.int s0] f a j = rn sc F 0 353 [l0, l1, .ref x, l3] [.ref x, .int s0] f a j := rn_go (rfl : zOp 0 352 = some (352, .aload_n 2, 1, 2, 0, 0, 0, 0, [])) rfl
set_option maxRecDepth 100000 in
theorem q0_353 {l1 l2 l3 : Value} {s0 : Nat} {s1 : Int32} {x : Nat}  : rn sc F 0 353 [.ref x, l1, l2, l3] [.ref s0, .int s1] f a j = rn sc F 0 354 [.ref x, l1, l2, l3] [.ref x, .ref s0, .int s1] f a j := rn_go (rfl : zOp 0 353 = some (353, .aload_n 0, 1, 0, 0, 0, 0, 0, [])) rfl
set_option maxRecDepth 100000 in
theorem q0_354 {l0 l1 l2 : Value} {s0 : Nat} {s1 : Nat} {s2 : Int32} {x : Int32}  : rn sc F 0 354 [l0, l1, l2, .int x] [.ref s0, .ref s1, .int s2] f a j = rn sc F 0 355 [l0, l1, l2, .int x] [.int x, .ref s0, .ref s1, .int s2] f a j := rn_go (rfl : zOp 0 354 = some (354, .iload_n 3, 1, 3, 0, 0, 0, 0, [])) rfl
set_option maxRecDepth 100000 in
theorem q0_355 {l0 l1 l2 l3 : Value} {s0 : Int32} {s1 : Nat} {s2 : Nat} {s3 : Int32}  : rn sc F 0 355 [l0, l1, l2, l3] [.int s0, .ref s1, .ref s2, .int s3] f a j = rn sc F 0 356 [l0, l1, l2, l3] [.int (nI 1), .int s0, .ref s1, .ref s2, .int s3] f a j := rn_go (rfl : zOp 0 355 = some (355, .iconst 1, 1, 0, 0, 0, nI 1, 0, [])) rfl
set_option maxRecDepth 100000 in
theorem q0_356 {l0 l1 l2 l3 : Value} {s0 : Int32} {s1 : Int32} {s2 : Nat} {s3 : Nat} {s4 : Int32}  : rn sc F 0 356 [l0, l1, l2, l3] [.int s0, .int s1, .ref s2, .ref s3, .int s4] f a j = rn sc F 0 357 [l0, l1, l2, l3] [.int (s1 + s0), .ref s2, .ref s3, .int s4] f a j := rn_go (rfl : zOp 0 356 = some (356, .iadd, 1, 0, 0, 0, 0, 0, [])) rfl
set_option maxRecDepth 100000 in
theorem q0_357 {l0 l1 l2 l3 : Value} {s0 : Int32} {s2 : Nat} {s3 : Int32} (h : ¬ (s0 < 0 ∨ sc.1.toNatClampNeg ≤ s0.toNatClampNeg)) : rn sc F 0 357 [l0, l1, l2, l3] [.int s0, .ref 999, .ref s2, .int s3] f a j = rn sc F 0 358 [l0, l1, l2, l3] [.int (sc.2 s0), .ref s2, .int s3] f a j := rn_go (rfl : zOp 0 357 = some (357, .iaload, 1, 0, 0, 0, 0, 0, [])) (zi_sald h)
set_option maxRecDepth 100000 in
theorem q0_358 {l1 l2 l3 : Value} {s0 : Int32} {s1 : Nat} {s2 : Int32} {x : Nat}  : rn sc F 0 358 [.ref x, l1, l2, l3] [.int s0, .ref s1, .int s2] f a j = rn sc F 0 359 [.ref x, l1, l2, l3] [.ref x, .int s0, .ref s1, .int s2] f a j := rn_go (rfl : zOp 0 358 = some (358, .aload_n 0, 1, 0, 0, 0, 0, 0, [])) rfl
set_option maxRecDepth 100000 in
theorem q0_359 {l0 l1 l2 : Value} {s0 : Nat} {s1 : Int32} {s2 : Nat} {s3 : Int32} {x : Int32}  : rn sc F 0 359 [l0, l1, l2, .int x] [.ref s0, .int s1, .ref s2, .int s3] f a j = rn sc F 0 360 [l0, l1, l2, .int x] [.int x, .ref s0, .int s1, .ref s2, .int s3] f a j := rn_go (rfl : zOp 0 359 = some (359, .iload_n 3, 1, 3, 0, 0, 0, 0, [])) rfl
set_option maxRecDepth 100000 in
theorem q0_360 {l0 l1 l2 l3 : Value} {s0 : Int32} {s1 : Nat} {s2 : Int32} {s3 : Nat} {s4 : Int32}  : rn sc F 0 360 [l0, l1, l2, l3] [.int s0, .ref s1, .int s2, .ref s3, .int s4] f a j = rn sc F 0 361 [l0, l1, l2, l3] [.int (nI 2), .int s0, .ref s1, .int s2, .ref s3, .int s4] f a j := rn_go (rfl : zOp 0 360 = some (360, .iconst 2, 1, 0, 0, 0, nI 2, 0, [])) rfl
set_option maxRecDepth 100000 in
theorem q0_361 {l0 l1 l2 l3 : Value} {s0 : Int32} {s1 : Int32} {s2 : Nat} {s3 : Int32} {s4 : Nat} {s5 : Int32}  : rn sc F 0 361 [l0, l1, l2, l3] [.int s0, .int s1, .ref s2, .int s3, .ref s4, .int s5] f a j = rn sc F 0 362 [l0, l1, l2, l3] [.int (s1 + s0), .ref s2, .int s3, .ref s4, .int s5] f a j := rn_go (rfl : zOp 0 361 = some (361, .iadd, 1, 0, 0, 0, 0, 0, [])) rfl
set_option maxRecDepth 100000 in
theorem q0_362 {l0 l1 l2 l3 : Value} {s0 : Int32} {s2 : Int32} {s3 : Nat} {s4 : Int32} (h : ¬ (s0 < 0 ∨ sc.1.toNatClampNeg ≤ s0.toNatClampNeg)) : rn sc F 0 362 [l0, l1, l2, l3] [.int s0, .ref 999, .int s2, .ref s3, .int s4] f a j = rn sc F 0 363 [l0, l1, l2, l3] [.int (sc.2 s0), .int s2, .ref s3, .int s4] f a j := rn_go (rfl : zOp 0 362 = some (362, .iaload, 1, 0, 0, 0, 0, 0, [])) (zi_sald h)
set_option maxRecDepth 100000 in
theorem q0_363 {l1 l2 l3 : Value} {s0 : Int32} {s1 : Int32} {s2 : Nat} {s3 : Int32} {x : Nat}  : rn sc F 0 363 [.ref x, l1, l2, l3] [.int s0, .int s1, .ref s2, .int s3] f a j = rn sc F 0 364 [.ref x, l1, l2, l3] [.ref x, .int s0, .int s1, .ref s2, .int s3] f a j := rn_go (rfl : zOp 0 363 = some (363, .aload_n 0, 1, 0, 0, 0, 0, 0, [])) rfl
set_option maxRecDepth 100000 in
theorem q0_364 {l0 l1 l2 : Value} {s0 : Nat} {s1 : Int32} {s2 : Int32} {s3 : Nat} {s4 : Int32} {x : Int32}  : rn sc F 0 364 [l0, l1, l2, .int x] [.ref s0, .int s1, .int s2, .ref s3, .int s4] f a j = rn sc F 0 365 [l0, l1, l2, .int x] [.int x, .ref s0, .int s1, .int s2, .ref s3, .int s4] f a j := rn_go (rfl : zOp 0 364 = some (364, .iload_n 3, 1, 3, 0, 0, 0, 0, [])) rfl
set_option maxRecDepth 100000 in
theorem q0_365 {l0 l1 l2 l3 : Value} {s0 : Int32} {s1 : Nat} {s2 : Int32} {s3 : Int32} {s4 : Nat} {s5 : Int32}  : rn sc F 0 365 [l0, l1, l2, l3] [.int s0, .ref s1, .int s2, .int s3, .ref s4, .int s5] f a j = rn sc F 0 366 [l0, l1, l2, l3] [.int (nI 3), .int s0, .ref s1, .int s2, .int s3, .ref s4, .int s5] f a j := rn_go (rfl : zOp 0 365 = some (365, .iconst 3, 1, 0, 0, 0, nI 3, 0, [])) rfl
set_option maxRecDepth 100000 in
theorem q0_366 {l0 l1 l2 l3 : Value} {s0 : Int32} {s1 : Int32} {s2 : Nat} {s3 : Int32} {s4 : Int32} {s5 : Nat} {s6 : Int32}  : rn sc F 0 366 [l0, l1, l2, l3] [.int s0, .int s1, .ref s2, .int s3, .int s4, .ref s5, .int s6] f a j = rn sc F 0 367 [l0, l1, l2, l3] [.int (s1 + s0), .ref s2, .int s3, .int s4, .ref s5, .int s6] f a j := rn_go (rfl : zOp 0 366 = some (366, .iadd, 1, 0, 0, 0, 0, 0, [])) rfl
set_option maxRecDepth 100000 in
theorem q0_367 {l0 l1 l2 l3 : Value} {s0 : Int32} {s2 : Int32} {s3 : Int32} {s4 : Nat} {s5 : Int32} (h : ¬ (s0 < 0 ∨ sc.1.toNatClampNeg ≤ s0.toNatClampNeg)) : rn sc F 0 367 [l0, l1, l2, l3] [.int s0, .ref 999, .int s2, .int s3, .ref s4, .int s5] f a j = rn sc F 0 368 [l0, l1, l2, l3] [.int (sc.2 s0), .int s2, .int s3, .ref s4, .int s5] f a j := rn_go (rfl : zOp 0 367 = some (367, .iaload, 1, 0, 0, 0, 0, 0, [])) (zi_sald h)
set_option maxRecDepth 100000 in
theorem q0_368 {l0 l1 l2 l3 : Value} {s0 : Int32} {s1 : Int32} {s2 : Int32} {s4 : Int32}  : rn sc F 0 368 [l0, l1, l2, l3] [.int s0, .int s1, .int s2, .ref 85, .int s4] f a j = zCall (F 115 [.ref 85, .int s2, .int s1, .int s0] f a j) (fun v f a j => rn sc F 0 371 [l0, l1, l2, l3] (v.toList ++ [.int s4]) f a j) := rn_callV (rfl : zOp 0 368 = some (368, .invokevirtual 31, 3, 115, 3, 893, 0, 0, [])) (by decide) rfl (rfl) (by simp [Value.category])
set_option maxRecDepth 100000 in
theorem q0_371 {l0 l1 l2 l3 : Value} {s0 : Int32} {s1 : Int32}  : rn sc F 0 371 [l0, l1, l2, l3] [.int s0, .int s1] f a j = if s1 = s0 then rn sc F 0 1407 [l0, l1, l2, l3] [] f a j else rn sc F 0 374 [l0, l1, l2, l3] [] f a j := (rn_go (rfl : zOp 0 371 = some (371, .if_icmp .eq 1036, 3, 1407, 0, 0, 0, 0, [])) rfl).trans rn_ite
set_option maxRecDepth 100000 in
theorem q0_374 {l0 l1 l2 l3 : Value}   : rn sc F 0 374 [l0, l1, l2, l3] [] f a j = rn sc F 0 375 [l0, l1, l2, l3] [.int (nI 0)] f a j := rn_go (rfl : zOp 0 374 = some (374, .iconst 0, 1, 0, 0, 0, nI 0, 0, [])) rfl
set_option maxRecDepth 100000 in
theorem q0_375 {l0 l1 l2 l3 : Value} {s0 : Int32} (h : s0 = 0 ∨ s0 = 1) : rn sc F 0 375 [l0, l1, l2, l3] [.int s0] f a j = some (some (.int s0), f, a, j) := rn_end (rfl : zOp 0 375 = some (375, .ireturn, 1, 0, 0, 0, 0, 0, [])) (zi_retz h)
set_option maxRecDepth 100000 in
theorem q0_376 {l0 l2 l3 : Value} {x : Nat}  : rn sc F 0 376 [l0, .ref x, l2, l3] [] f a j = rn sc F 0 377 [l0, .ref x, l2, l3] [.ref x] f a j := rn_go (rfl : zOp 0 376 = some (376, .aload_n 1, 1, 1, 0, 0, 0, 0, [])) rfl
set_option maxRecDepth 100000 in
theorem q0_377 {l1 l2 l3 : Value} {s0 : Nat} {x : Nat}  : rn sc F 0 377 [.ref x, l1, l2, l3] [.ref s0] f a j = rn sc F 0 378 [.ref x, l1, l2, l3] [.ref x, .ref s0] f a j := rn_go (rfl : zOp 0 377 = some (377, .aload_n 0, 1, 0, 0, 0, 0, 0, [])) rfl
set_option maxRecDepth 100000 in
theorem q0_378 {l0 l1 l2 : Value} {s0 : Nat} {s1 : Nat} {x : Int32}  : rn sc F 0 378 [l0, l1, l2, .int x] [.ref s0, .ref s1] f a j = rn sc F 0 379 [l0, l1, l2, .int x] [.int x, .ref s0, .ref s1] f a j := rn_go (rfl : zOp 0 378 = some (378, .iload_n 3, 1, 3, 0, 0, 0, 0, [])) rfl
set_option maxRecDepth 100000 in
theorem q0_379 {l0 l1 l2 l3 : Value} {s0 : Int32} {s1 : Nat} {s2 : Nat}  : rn sc F 0 379 [l0, l1, l2, l3] [.int s0, .ref s1, .ref s2] f a j = rn sc F 0 380 [l0, l1, l2, l3] [.int (nI 1), .int s0, .ref s1, .ref s2] f a j := rn_go (rfl : zOp 0 379 = some (379, .iconst 1, 1, 0, 0, 0, nI 1, 0, [])) rfl
set_option maxRecDepth 100000 in
theorem q0_380 {l0 l1 l2 l3 : Value} {s0 : Int32} {s1 : Int32} {s2 : Nat} {s3 : Nat}  : rn sc F 0 380 [l0, l1, l2, l3] [.int s0, .int s1, .ref s2, .ref s3] f a j = rn sc F 0 381 [l0, l1, l2, l3] [.int (s1 + s0), .ref s2, .ref s3] f a j := rn_go (rfl : zOp 0 380 = some (380, .iadd, 1, 0, 0, 0, 0, 0, [])) rfl
set_option maxRecDepth 100000 in
theorem q0_381 {l0 l1 l2 l3 : Value} {s0 : Int32} {s2 : Nat} (h : ¬ (s0 < 0 ∨ sc.1.toNatClampNeg ≤ s0.toNatClampNeg)) : rn sc F 0 381 [l0, l1, l2, l3] [.int s0, .ref 999, .ref s2] f a j = rn sc F 0 382 [l0, l1, l2, l3] [.int (sc.2 s0), .ref s2] f a j := rn_go (rfl : zOp 0 381 = some (381, .iaload, 1, 0, 0, 0, 0, 0, [])) (zi_sald h)
set_option maxRecDepth 100000 in
theorem q0_382 {l1 l2 l3 : Value} {s0 : Int32} {s1 : Nat} {x : Nat}  : rn sc F 0 382 [.ref x, l1, l2, l3] [.int s0, .ref s1] f a j = rn sc F 0 383 [.ref x, l1, l2, l3] [.ref x, .int s0, .ref s1] f a j := rn_go (rfl : zOp 0 382 = some (382, .aload_n 0, 1, 0, 0, 0, 0, 0, [])) rfl
set_option maxRecDepth 100000 in
theorem q0_383 {l0 l1 l2 : Value} {s0 : Nat} {s1 : Int32} {s2 : Nat} {x : Int32}  : rn sc F 0 383 [l0, l1, l2, .int x] [.ref s0, .int s1, .ref s2] f a j = rn sc F 0 384 [l0, l1, l2, .int x] [.int x, .ref s0, .int s1, .ref s2] f a j := rn_go (rfl : zOp 0 383 = some (383, .iload_n 3, 1, 3, 0, 0, 0, 0, [])) rfl
set_option maxRecDepth 100000 in
theorem q0_384 {l0 l1 l2 l3 : Value} {s0 : Int32} {s1 : Nat} {s2 : Int32} {s3 : Nat}  : rn sc F 0 384 [l0, l1, l2, l3] [.int s0, .ref s1, .int s2, .ref s3] f a j = rn sc F 0 385 [l0, l1, l2, l3] [.int (nI 2), .int s0, .ref s1, .int s2, .ref s3] f a j := rn_go (rfl : zOp 0 384 = some (384, .iconst 2, 1, 0, 0, 0, nI 2, 0, [])) rfl
set_option maxRecDepth 100000 in
theorem q0_385 {l0 l1 l2 l3 : Value} {s0 : Int32} {s1 : Int32} {s2 : Nat} {s3 : Int32} {s4 : Nat}  : rn sc F 0 385 [l0, l1, l2, l3] [.int s0, .int s1, .ref s2, .int s3, .ref s4] f a j = rn sc F 0 386 [l0, l1, l2, l3] [.int (s1 + s0), .ref s2, .int s3, .ref s4] f a j := rn_go (rfl : zOp 0 385 = some (385, .iadd, 1, 0, 0, 0, 0, 0, [])) rfl
set_option maxRecDepth 100000 in
theorem q0_386 {l0 l1 l2 l3 : Value} {s0 : Int32} {s2 : Int32} {s3 : Nat} (h : ¬ (s0 < 0 ∨ sc.1.toNatClampNeg ≤ s0.toNatClampNeg)) : rn sc F 0 386 [l0, l1, l2, l3] [.int s0, .ref 999, .int s2, .ref s3] f a j = rn sc F 0 387 [l0, l1, l2, l3] [.int (sc.2 s0), .int s2, .ref s3] f a j := rn_go (rfl : zOp 0 386 = some (386, .iaload, 1, 0, 0, 0, 0, 0, [])) (zi_sald h)
set_option maxRecDepth 100000 in
theorem q0_387 {l0 l1 l2 l3 : Value} {s0 : Int32} {s1 : Int32}  : rn sc F 0 387 [l0, l1, l2, l3] [.int s0, .int s1, .ref 0] f a j = zCall (F 57 [.ref 0, .int s1, .int s0] f a j) (fun v f a j => rn sc F 0 390 [l0, l1, l2, l3] (v.toList ++ []) f a j) := rn_callV (rfl : zOp 0 387 = some (387, .invokevirtual 32, 3, 57, 2, 367, 0, 0, [])) (by decide) rfl (rfl) (by simp [Value.category])
set_option maxRecDepth 100000 in
theorem q0_390 {l0 l1 l3 : Value} {s0 : Int32} {x : Nat}  : rn sc F 0 390 [l0, l1, .ref x, l3] [.int s0] f a j = rn sc F 0 391 [l0, l1, .ref x, l3] [.ref x, .int s0] f a j := rn_go (rfl : zOp 0 390 = some (390, .aload_n 2, 1, 2, 0, 0, 0, 0, [])) rfl
set_option maxRecDepth 100000 in
theorem q0_391 {l1 l2 l3 : Value} {s0 : Nat} {s1 : Int32} {x : Nat}  : rn sc F 0 391 [.ref x, l1, l2, l3] [.ref s0, .int s1] f a j = rn sc F 0 392 [.ref x, l1, l2, l3] [.ref x, .ref s0, .int s1] f a j := rn_go (rfl : zOp 0 391 = some (391, .aload_n 0, 1, 0, 0, 0, 0, 0, [])) rfl
set_option maxRecDepth 100000 in
theorem q0_392 {l0 l1 l2 : Value} {s0 : Nat} {s1 : Nat} {s2 : Int32} {x : Int32}  : rn sc F 0 392 [l0, l1, l2, .int x] [.ref s0, .ref s1, .int s2] f a j = rn sc F 0 393 [l0, l1, l2, .int x] [.int x, .ref s0, .ref s1, .int s2] f a j := rn_go (rfl : zOp 0 392 = some (392, .iload_n 3, 1, 3, 0, 0, 0, 0, [])) rfl
set_option maxRecDepth 100000 in
theorem q0_393 {l0 l1 l2 l3 : Value} {s0 : Int32} {s1 : Nat} {s2 : Nat} {s3 : Int32}  : rn sc F 0 393 [l0, l1, l2, l3] [.int s0, .ref s1, .ref s2, .int s3] f a j = rn sc F 0 394 [l0, l1, l2, l3] [.int (nI 1), .int s0, .ref s1, .ref s2, .int s3] f a j := rn_go (rfl : zOp 0 393 = some (393, .iconst 1, 1, 0, 0, 0, nI 1, 0, [])) rfl
set_option maxRecDepth 100000 in
theorem q0_394 {l0 l1 l2 l3 : Value} {s0 : Int32} {s1 : Int32} {s2 : Nat} {s3 : Nat} {s4 : Int32}  : rn sc F 0 394 [l0, l1, l2, l3] [.int s0, .int s1, .ref s2, .ref s3, .int s4] f a j = rn sc F 0 395 [l0, l1, l2, l3] [.int (s1 + s0), .ref s2, .ref s3, .int s4] f a j := rn_go (rfl : zOp 0 394 = some (394, .iadd, 1, 0, 0, 0, 0, 0, [])) rfl
set_option maxRecDepth 100000 in
theorem q0_395 {l0 l1 l2 l3 : Value} {s0 : Int32} {s2 : Nat} {s3 : Int32} (h : ¬ (s0 < 0 ∨ sc.1.toNatClampNeg ≤ s0.toNatClampNeg)) : rn sc F 0 395 [l0, l1, l2, l3] [.int s0, .ref 999, .ref s2, .int s3] f a j = rn sc F 0 396 [l0, l1, l2, l3] [.int (sc.2 s0), .ref s2, .int s3] f a j := rn_go (rfl : zOp 0 395 = some (395, .iaload, 1, 0, 0, 0, 0, 0, [])) (zi_sald h)
set_option maxRecDepth 100000 in
theorem q0_396 {l1 l2 l3 : Value} {s0 : Int32} {s1 : Nat} {s2 : Int32} {x : Nat}  : rn sc F 0 396 [.ref x, l1, l2, l3] [.int s0, .ref s1, .int s2] f a j = rn sc F 0 397 [.ref x, l1, l2, l3] [.ref x, .int s0, .ref s1, .int s2] f a j := rn_go (rfl : zOp 0 396 = some (396, .aload_n 0, 1, 0, 0, 0, 0, 0, [])) rfl
set_option maxRecDepth 100000 in
theorem q0_397 {l0 l1 l2 : Value} {s0 : Nat} {s1 : Int32} {s2 : Nat} {s3 : Int32} {x : Int32}  : rn sc F 0 397 [l0, l1, l2, .int x] [.ref s0, .int s1, .ref s2, .int s3] f a j = rn sc F 0 398 [l0, l1, l2, .int x] [.int x, .ref s0, .int s1, .ref s2, .int s3] f a j := rn_go (rfl : zOp 0 397 = some (397, .iload_n 3, 1, 3, 0, 0, 0, 0, [])) rfl
set_option maxRecDepth 100000 in
theorem q0_398 {l0 l1 l2 l3 : Value} {s0 : Int32} {s1 : Nat} {s2 : Int32} {s3 : Nat} {s4 : Int32}  : rn sc F 0 398 [l0, l1, l2, l3] [.int s0, .ref s1, .int s2, .ref s3, .int s4] f a j = rn sc F 0 399 [l0, l1, l2, l3] [.int (nI 2), .int s0, .ref s1, .int s2, .ref s3, .int s4] f a j := rn_go (rfl : zOp 0 398 = some (398, .iconst 2, 1, 0, 0, 0, nI 2, 0, [])) rfl
set_option maxRecDepth 100000 in
theorem q0_399 {l0 l1 l2 l3 : Value} {s0 : Int32} {s1 : Int32} {s2 : Nat} {s3 : Int32} {s4 : Nat} {s5 : Int32}  : rn sc F 0 399 [l0, l1, l2, l3] [.int s0, .int s1, .ref s2, .int s3, .ref s4, .int s5] f a j = rn sc F 0 400 [l0, l1, l2, l3] [.int (s1 + s0), .ref s2, .int s3, .ref s4, .int s5] f a j := rn_go (rfl : zOp 0 399 = some (399, .iadd, 1, 0, 0, 0, 0, 0, [])) rfl
set_option maxRecDepth 100000 in
theorem q0_400 {l0 l1 l2 l3 : Value} {s0 : Int32} {s2 : Int32} {s3 : Nat} {s4 : Int32} (h : ¬ (s0 < 0 ∨ sc.1.toNatClampNeg ≤ s0.toNatClampNeg)) : rn sc F 0 400 [l0, l1, l2, l3] [.int s0, .ref 999, .int s2, .ref s3, .int s4] f a j = rn sc F 0 401 [l0, l1, l2, l3] [.int (sc.2 s0), .int s2, .ref s3, .int s4] f a j := rn_go (rfl : zOp 0 400 = some (400, .iaload, 1, 0, 0, 0, 0, 0, [])) (zi_sald h)
set_option maxRecDepth 100000 in
theorem q0_401 {l0 l1 l2 l3 : Value} {s0 : Int32} {s1 : Int32} {s3 : Int32}  : rn sc F 0 401 [l0, l1, l2, l3] [.int s0, .int s1, .ref 85, .int s3] f a j = zCall (F 116 [.ref 85, .int s1, .int s0] f a j) (fun v f a j => rn sc F 0 404 [l0, l1, l2, l3] (v.toList ++ [.int s3]) f a j) := rn_callV (rfl : zOp 0 401 = some (401, .invokevirtual 35, 3, 116, 2, 898, 0, 0, [])) (by decide) rfl (rfl) (by simp [Value.category])
set_option maxRecDepth 100000 in
theorem q0_404 {l0 l1 l2 l3 : Value} {s0 : Int32} {s1 : Int32}  : rn sc F 0 404 [l0, l1, l2, l3] [.int s0, .int s1] f a j = if s1 = s0 then rn sc F 0 1407 [l0, l1, l2, l3] [] f a j else rn sc F 0 407 [l0, l1, l2, l3] [] f a j := (rn_go (rfl : zOp 0 404 = some (404, .if_icmp .eq 1003, 3, 1407, 0, 0, 0, 0, [])) rfl).trans rn_ite
set_option maxRecDepth 100000 in
theorem q0_407 {l0 l1 l2 l3 : Value}   : rn sc F 0 407 [l0, l1, l2, l3] [] f a j = rn sc F 0 408 [l0, l1, l2, l3] [.int (nI 0)] f a j := rn_go (rfl : zOp 0 407 = some (407, .iconst 0, 1, 0, 0, 0, nI 0, 0, [])) rfl
set_option maxRecDepth 100000 in
theorem q0_408 {l0 l1 l2 l3 : Value} {s0 : Int32} (h : s0 = 0 ∨ s0 = 1) : rn sc F 0 408 [l0, l1, l2, l3] [.int s0] f a j = some (some (.int s0), f, a, j) := rn_end (rfl : zOp 0 408 = some (408, .ireturn, 1, 0, 0, 0, 0, 0, [])) (zi_retz h)
set_option maxRecDepth 100000 in
theorem q0_409 {l0 l2 l3 : Value} {x : Nat}  : rn sc F 0 409 [l0, .ref x, l2, l3] [] f a j = rn sc F 0 410 [l0, .ref x, l2, l3] [.ref x] f a j := rn_go (rfl : zOp 0 409 = some (409, .aload_n 1, 1, 1, 0, 0, 0, 0, [])) rfl
set_option maxRecDepth 100000 in
theorem q0_410 {l1 l2 l3 : Value} {s0 : Nat} {x : Nat}  : rn sc F 0 410 [.ref x, l1, l2, l3] [.ref s0] f a j = rn sc F 0 411 [.ref x, l1, l2, l3] [.ref x, .ref s0] f a j := rn_go (rfl : zOp 0 410 = some (410, .aload_n 0, 1, 0, 0, 0, 0, 0, [])) rfl
set_option maxRecDepth 100000 in
theorem q0_411 {l0 l1 l2 : Value} {s0 : Nat} {s1 : Nat} {x : Int32}  : rn sc F 0 411 [l0, l1, l2, .int x] [.ref s0, .ref s1] f a j = rn sc F 0 412 [l0, l1, l2, .int x] [.int x, .ref s0, .ref s1] f a j := rn_go (rfl : zOp 0 411 = some (411, .iload_n 3, 1, 3, 0, 0, 0, 0, [])) rfl
set_option maxRecDepth 100000 in
theorem q0_412 {l0 l1 l2 l3 : Value} {s0 : Int32} {s1 : Nat} {s2 : Nat}  : rn sc F 0 412 [l0, l1, l2, l3] [.int s0, .ref s1, .ref s2] f a j = rn sc F 0 413 [l0, l1, l2, l3] [.int (nI 1), .int s0, .ref s1, .ref s2] f a j := rn_go (rfl : zOp 0 412 = some (412, .iconst 1, 1, 0, 0, 0, nI 1, 0, [])) rfl
set_option maxRecDepth 100000 in
theorem q0_413 {l0 l1 l2 l3 : Value} {s0 : Int32} {s1 : Int32} {s2 : Nat} {s3 : Nat}  : rn sc F 0 413 [l0, l1, l2, l3] [.int s0, .int s1, .ref s2, .ref s3] f a j = rn sc F 0 414 [l0, l1, l2, l3] [.int (s1 + s0), .ref s2, .ref s3] f a j := rn_go (rfl : zOp 0 413 = some (413, .iadd, 1, 0, 0, 0, 0, 0, [])) rfl
set_option maxRecDepth 100000 in
theorem q0_414 {l0 l1 l2 l3 : Value} {s0 : Int32} {s2 : Nat} (h : ¬ (s0 < 0 ∨ sc.1.toNatClampNeg ≤ s0.toNatClampNeg)) : rn sc F 0 414 [l0, l1, l2, l3] [.int s0, .ref 999, .ref s2] f a j = rn sc F 0 415 [l0, l1, l2, l3] [.int (sc.2 s0), .ref s2] f a j := rn_go (rfl : zOp 0 414 = some (414, .iaload, 1, 0, 0, 0, 0, 0, [])) (zi_sald h)
set_option maxRecDepth 100000 in
theorem q0_415 {l0 l1 l2 l3 : Value} {s0 : Int32}  : rn sc F 0 415 [l0, l1, l2, l3] [.int s0, .ref 0] f a j = zCall (F 58 [.ref 0, .int s0] f a j) (fun v f a j => rn sc F 0 418 [l0, l1, l2, l3] (v.toList ++ []) f a j) := rn_callV (rfl : zOp 0 415 = some (415, .invokevirtual 36, 3, 58, 1, 376, 0, 0, [])) (by decide) rfl (rfl) (by simp [Value.category])
set_option maxRecDepth 100000 in
theorem q0_418 {l0 l1 l3 : Value} {s0 : Int32} {x : Nat}  : rn sc F 0 418 [l0, l1, .ref x, l3] [.int s0] f a j = rn sc F 0 419 [l0, l1, .ref x, l3] [.ref x, .int s0] f a j := rn_go (rfl : zOp 0 418 = some (418, .aload_n 2, 1, 2, 0, 0, 0, 0, [])) rfl
set_option maxRecDepth 100000 in
theorem q0_419 {l1 l2 l3 : Value} {s0 : Nat} {s1 : Int32} {x : Nat}  : rn sc F 0 419 [.ref x, l1, l2, l3] [.ref s0, .int s1] f a j = rn sc F 0 420 [.ref x, l1, l2, l3] [.ref x, .ref s0, .int s1] f a j := rn_go (rfl : zOp 0 419 = some (419, .aload_n 0, 1, 0, 0, 0, 0, 0, [])) rfl
set_option maxRecDepth 100000 in
theorem q0_420 {l0 l1 l2 : Value} {s0 : Nat} {s1 : Nat} {s2 : Int32} {x : Int32}  : rn sc F 0 420 [l0, l1, l2, .int x] [.ref s0, .ref s1, .int s2] f a j = rn sc F 0 421 [l0, l1, l2, .int x] [.int x, .ref s0, .ref s1, .int s2] f a j := rn_go (rfl : zOp 0 420 = some (420, .iload_n 3, 1, 3, 0, 0, 0, 0, [])) rfl
set_option maxRecDepth 100000 in
theorem q0_421 {l0 l1 l2 l3 : Value} {s0 : Int32} {s1 : Nat} {s2 : Nat} {s3 : Int32}  : rn sc F 0 421 [l0, l1, l2, l3] [.int s0, .ref s1, .ref s2, .int s3] f a j = rn sc F 0 422 [l0, l1, l2, l3] [.int (nI 1), .int s0, .ref s1, .ref s2, .int s3] f a j := rn_go (rfl : zOp 0 421 = some (421, .iconst 1, 1, 0, 0, 0, nI 1, 0, [])) rfl
set_option maxRecDepth 100000 in
theorem q0_422 {l0 l1 l2 l3 : Value} {s0 : Int32} {s1 : Int32} {s2 : Nat} {s3 : Nat} {s4 : Int32}  : rn sc F 0 422 [l0, l1, l2, l3] [.int s0, .int s1, .ref s2, .ref s3, .int s4] f a j = rn sc F 0 423 [l0, l1, l2, l3] [.int (s1 + s0), .ref s2, .ref s3, .int s4] f a j := rn_go (rfl : zOp 0 422 = some (422, .iadd, 1, 0, 0, 0, 0, 0, [])) rfl
set_option maxRecDepth 100000 in
theorem q0_423 {l0 l1 l2 l3 : Value} {s0 : Int32} {s2 : Nat} {s3 : Int32} (h : ¬ (s0 < 0 ∨ sc.1.toNatClampNeg ≤ s0.toNatClampNeg)) : rn sc F 0 423 [l0, l1, l2, l3] [.int s0, .ref 999, .ref s2, .int s3] f a j = rn sc F 0 424 [l0, l1, l2, l3] [.int (sc.2 s0), .ref s2, .int s3] f a j := rn_go (rfl : zOp 0 423 = some (423, .iaload, 1, 0, 0, 0, 0, 0, [])) (zi_sald h)
set_option maxRecDepth 100000 in
theorem q0_424 {l0 l1 l2 l3 : Value} {s0 : Int32} {s2 : Int32}  : rn sc F 0 424 [l0, l1, l2, l3] [.int s0, .ref 85, .int s2] f a j = zCall (F 117 [.ref 85, .int s0] f a j) (fun v f a j => rn sc F 0 427 [l0, l1, l2, l3] (v.toList ++ [.int s2]) f a j) := rn_callV (rfl : zOp 0 424 = some (424, .invokevirtual 40, 3, 117, 1, 903, 0, 0, [])) (by decide) rfl (rfl) (by simp [Value.category])
set_option maxRecDepth 100000 in
theorem q0_427 {l0 l1 l2 l3 : Value} {s0 : Int32} {s1 : Int32}  : rn sc F 0 427 [l0, l1, l2, l3] [.int s0, .int s1] f a j = if s1 = s0 then rn sc F 0 1407 [l0, l1, l2, l3] [] f a j else rn sc F 0 430 [l0, l1, l2, l3] [] f a j := (rn_go (rfl : zOp 0 427 = some (427, .if_icmp .eq 980, 3, 1407, 0, 0, 0, 0, [])) rfl).trans rn_ite
set_option maxRecDepth 100000 in
theorem q0_430 {l0 l1 l2 l3 : Value}   : rn sc F 0 430 [l0, l1, l2, l3] [] f a j = rn sc F 0 431 [l0, l1, l2, l3] [.int (nI 0)] f a j := rn_go (rfl : zOp 0 430 = some (430, .iconst 0, 1, 0, 0, 0, nI 0, 0, [])) rfl
set_option maxRecDepth 100000 in
theorem q0_431 {l0 l1 l2 l3 : Value} {s0 : Int32} (h : s0 = 0 ∨ s0 = 1) : rn sc F 0 431 [l0, l1, l2, l3] [.int s0] f a j = some (some (.int s0), f, a, j) := rn_end (rfl : zOp 0 431 = some (431, .ireturn, 1, 0, 0, 0, 0, 0, [])) (zi_retz h)
set_option maxRecDepth 100000 in
theorem q0_432 {l0 l2 l3 : Value} {x : Nat}  : rn sc F 0 432 [l0, .ref x, l2, l3] [] f a j = rn sc F 0 433 [l0, .ref x, l2, l3] [.ref x] f a j := rn_go (rfl : zOp 0 432 = some (432, .aload_n 1, 1, 1, 0, 0, 0, 0, [])) rfl
set_option maxRecDepth 100000 in
theorem q0_433 {l1 l2 l3 : Value} {s0 : Nat} {x : Nat}  : rn sc F 0 433 [.ref x, l1, l2, l3] [.ref s0] f a j = rn sc F 0 434 [.ref x, l1, l2, l3] [.ref x, .ref s0] f a j := rn_go (rfl : zOp 0 433 = some (433, .aload_n 0, 1, 0, 0, 0, 0, 0, [])) rfl
set_option maxRecDepth 100000 in
theorem q0_434 {l0 l1 l2 : Value} {s0 : Nat} {s1 : Nat} {x : Int32}  : rn sc F 0 434 [l0, l1, l2, .int x] [.ref s0, .ref s1] f a j = rn sc F 0 435 [l0, l1, l2, .int x] [.int x, .ref s0, .ref s1] f a j := rn_go (rfl : zOp 0 434 = some (434, .iload_n 3, 1, 3, 0, 0, 0, 0, [])) rfl
set_option maxRecDepth 100000 in
theorem q0_435 {l0 l1 l2 l3 : Value} {s0 : Int32} {s1 : Nat} {s2 : Nat}  : rn sc F 0 435 [l0, l1, l2, l3] [.int s0, .ref s1, .ref s2] f a j = rn sc F 0 436 [l0, l1, l2, l3] [.int (nI 1), .int s0, .ref s1, .ref s2] f a j := rn_go (rfl : zOp 0 435 = some (435, .iconst 1, 1, 0, 0, 0, nI 1, 0, [])) rfl
set_option maxRecDepth 100000 in
theorem q0_436 {l0 l1 l2 l3 : Value} {s0 : Int32} {s1 : Int32} {s2 : Nat} {s3 : Nat}  : rn sc F 0 436 [l0, l1, l2, l3] [.int s0, .int s1, .ref s2, .ref s3] f a j = rn sc F 0 437 [l0, l1, l2, l3] [.int (s1 + s0), .ref s2, .ref s3] f a j := rn_go (rfl : zOp 0 436 = some (436, .iadd, 1, 0, 0, 0, 0, 0, [])) rfl
set_option maxRecDepth 100000 in
theorem q0_437 {l0 l1 l2 l3 : Value} {s0 : Int32} {s2 : Nat} (h : ¬ (s0 < 0 ∨ sc.1.toNatClampNeg ≤ s0.toNatClampNeg)) : rn sc F 0 437 [l0, l1, l2, l3] [.int s0, .ref 999, .ref s2] f a j = rn sc F 0 438 [l0, l1, l2, l3] [.int (sc.2 s0), .ref s2] f a j := rn_go (rfl : zOp 0 437 = some (437, .iaload, 1, 0, 0, 0, 0, 0, [])) (zi_sald h)
set_option maxRecDepth 100000 in
theorem q0_438 {l0 l1 l2 l3 : Value} {s0 : Int32}  : rn sc F 0 438 [l0, l1, l2, l3] [.int s0, .ref 0] f a j = zCall (F 59 [.ref 0, .int s0] f a j) (fun v f a j => rn sc F 0 441 [l0, l1, l2, l3] (v.toList ++ []) f a j) := rn_callV (rfl : zOp 0 438 = some (438, .invokevirtual 41, 3, 59, 1, 384, 0, 0, [])) (by decide) rfl (rfl) (by simp [Value.category])
set_option maxRecDepth 100000 in
theorem q0_441 {l0 l1 l3 : Value} {s0 : Int32} {x : Nat}  : rn sc F 0 441 [l0, l1, .ref x, l3] [.int s0] f a j = rn sc F 0 442 [l0, l1, .ref x, l3] [.ref x, .int s0] f a j := rn_go (rfl : zOp 0 441 = some (441, .aload_n 2, 1, 2, 0, 0, 0, 0, [])) rfl
set_option maxRecDepth 100000 in
theorem q0_442 {l1 l2 l3 : Value} {s0 : Nat} {s1 : Int32} {x : Nat}  : rn sc F 0 442 [.ref x, l1, l2, l3] [.ref s0, .int s1] f a j = rn sc F 0 443 [.ref x, l1, l2, l3] [.ref x, .ref s0, .int s1] f a j := rn_go (rfl : zOp 0 442 = some (442, .aload_n 0, 1, 0, 0, 0, 0, 0, [])) rfl
set_option maxRecDepth 100000 in
theorem q0_443 {l0 l1 l2 : Value} {s0 : Nat} {s1 : Nat} {s2 : Int32} {x : Int32}  : rn sc F 0 443 [l0, l1, l2, .int x] [.ref s0, .ref s1, .int s2] f a j = rn sc F 0 444 [l0, l1, l2, .int x] [.int x, .ref s0, .ref s1, .int s2] f a j := rn_go (rfl : zOp 0 443 = some (443, .iload_n 3, 1, 3, 0, 0, 0, 0, [])) rfl
set_option maxRecDepth 100000 in
theorem q0_444 {l0 l1 l2 l3 : Value} {s0 : Int32} {s1 : Nat} {s2 : Nat} {s3 : Int32}  : rn sc F 0 444 [l0, l1, l2, l3] [.int s0, .ref s1, .ref s2, .int s3] f a j = rn sc F 0 445 [l0, l1, l2, l3] [.int (nI 1), .int s0, .ref s1, .ref s2, .int s3] f a j := rn_go (rfl : zOp 0 444 = some (444, .iconst 1, 1, 0, 0, 0, nI 1, 0, [])) rfl
set_option maxRecDepth 100000 in
theorem q0_445 {l0 l1 l2 l3 : Value} {s0 : Int32} {s1 : Int32} {s2 : Nat} {s3 : Nat} {s4 : Int32}  : rn sc F 0 445 [l0, l1, l2, l3] [.int s0, .int s1, .ref s2, .ref s3, .int s4] f a j = rn sc F 0 446 [l0, l1, l2, l3] [.int (s1 + s0), .ref s2, .ref s3, .int s4] f a j := rn_go (rfl : zOp 0 445 = some (445, .iadd, 1, 0, 0, 0, 0, 0, [])) rfl
set_option maxRecDepth 100000 in
theorem q0_446 {l0 l1 l2 l3 : Value} {s0 : Int32} {s2 : Nat} {s3 : Int32} (h : ¬ (s0 < 0 ∨ sc.1.toNatClampNeg ≤ s0.toNatClampNeg)) : rn sc F 0 446 [l0, l1, l2, l3] [.int s0, .ref 999, .ref s2, .int s3] f a j = rn sc F 0 447 [l0, l1, l2, l3] [.int (sc.2 s0), .ref s2, .int s3] f a j := rn_go (rfl : zOp 0 446 = some (446, .iaload, 1, 0, 0, 0, 0, 0, [])) (zi_sald h)
set_option maxRecDepth 100000 in
theorem q0_447 {l0 l1 l2 l3 : Value} {s0 : Int32} {s2 : Int32}  : rn sc F 0 447 [l0, l1, l2, l3] [.int s0, .ref 85, .int s2] f a j = zCall (F 118 [.ref 85, .int s0] f a j) (fun v f a j => rn sc F 0 450 [l0, l1, l2, l3] (v.toList ++ [.int s2]) f a j) := rn_callV (rfl : zOp 0 447 = some (447, .invokevirtual 44, 3, 118, 1, 909, 0, 0, [])) (by decide) rfl (rfl) (by simp [Value.category])
set_option maxRecDepth 100000 in
theorem q0_450 {l0 l1 l2 l3 : Value} {s0 : Int32} {s1 : Int32}  : rn sc F 0 450 [l0, l1, l2, l3] [.int s0, .int s1] f a j = if s1 = s0 then rn sc F 0 1407 [l0, l1, l2, l3] [] f a j else rn sc F 0 453 [l0, l1, l2, l3] [] f a j := (rn_go (rfl : zOp 0 450 = some (450, .if_icmp .eq 957, 3, 1407, 0, 0, 0, 0, [])) rfl).trans rn_ite
set_option maxRecDepth 100000 in
theorem q0_453 {l0 l1 l2 l3 : Value}   : rn sc F 0 453 [l0, l1, l2, l3] [] f a j = rn sc F 0 454 [l0, l1, l2, l3] [.int (nI 0)] f a j := rn_go (rfl : zOp 0 453 = some (453, .iconst 0, 1, 0, 0, 0, nI 0, 0, [])) rfl
set_option maxRecDepth 100000 in
theorem q0_454 {l0 l1 l2 l3 : Value} {s0 : Int32} (h : s0 = 0 ∨ s0 = 1) : rn sc F 0 454 [l0, l1, l2, l3] [.int s0] f a j = some (some (.int s0), f, a, j) := rn_end (rfl : zOp 0 454 = some (454, .ireturn, 1, 0, 0, 0, 0, 0, [])) (zi_retz h)
set_option maxRecDepth 100000 in
theorem q0_455 {l0 l2 l3 : Value} {x : Nat}  : rn sc F 0 455 [l0, .ref x, l2, l3] [] f a j = rn sc F 0 456 [l0, .ref x, l2, l3] [.ref x] f a j := rn_go (rfl : zOp 0 455 = some (455, .aload_n 1, 1, 1, 0, 0, 0, 0, [])) rfl
set_option maxRecDepth 100000 in
theorem q0_456 {l1 l2 l3 : Value} {s0 : Nat} {x : Nat}  : rn sc F 0 456 [.ref x, l1, l2, l3] [.ref s0] f a j = rn sc F 0 457 [.ref x, l1, l2, l3] [.ref x, .ref s0] f a j := rn_go (rfl : zOp 0 456 = some (456, .aload_n 0, 1, 0, 0, 0, 0, 0, [])) rfl
set_option maxRecDepth 100000 in
theorem q0_457 {l0 l1 l2 : Value} {s0 : Nat} {s1 : Nat} {x : Int32}  : rn sc F 0 457 [l0, l1, l2, .int x] [.ref s0, .ref s1] f a j = rn sc F 0 458 [l0, l1, l2, .int x] [.int x, .ref s0, .ref s1] f a j := rn_go (rfl : zOp 0 457 = some (457, .iload_n 3, 1, 3, 0, 0, 0, 0, [])) rfl
set_option maxRecDepth 100000 in
theorem q0_458 {l0 l1 l2 l3 : Value} {s0 : Int32} {s1 : Nat} {s2 : Nat}  : rn sc F 0 458 [l0, l1, l2, l3] [.int s0, .ref s1, .ref s2] f a j = rn sc F 0 459 [l0, l1, l2, l3] [.int (nI 1), .int s0, .ref s1, .ref s2] f a j := rn_go (rfl : zOp 0 458 = some (458, .iconst 1, 1, 0, 0, 0, nI 1, 0, [])) rfl
set_option maxRecDepth 100000 in
theorem q0_459 {l0 l1 l2 l3 : Value} {s0 : Int32} {s1 : Int32} {s2 : Nat} {s3 : Nat}  : rn sc F 0 459 [l0, l1, l2, l3] [.int s0, .int s1, .ref s2, .ref s3] f a j = rn sc F 0 460 [l0, l1, l2, l3] [.int (s1 + s0), .ref s2, .ref s3] f a j := rn_go (rfl : zOp 0 459 = some (459, .iadd, 1, 0, 0, 0, 0, 0, [])) rfl
set_option maxRecDepth 100000 in
theorem q0_460 {l0 l1 l2 l3 : Value} {s0 : Int32} {s2 : Nat} (h : ¬ (s0 < 0 ∨ sc.1.toNatClampNeg ≤ s0.toNatClampNeg)) : rn sc F 0 460 [l0, l1, l2, l3] [.int s0, .ref 999, .ref s2] f a j = rn sc F 0 461 [l0, l1, l2, l3] [.int (sc.2 s0), .ref s2] f a j := rn_go (rfl : zOp 0 460 = some (460, .iaload, 1, 0, 0, 0, 0, 0, [])) (zi_sald h)
set_option maxRecDepth 100000 in
theorem q0_461 {l0 l1 l2 l3 : Value} {s0 : Int32}  : rn sc F 0 461 [l0, l1, l2, l3] [.int s0, .ref 0] f a j = zCall (F 60 [.ref 0, .int s0] f a j) (fun v f a j => rn sc F 0 464 [l0, l1, l2, l3] (v.toList ++ []) f a j) := rn_callV (rfl : zOp 0 461 = some (461, .invokevirtual 45, 3, 60, 1, 392, 0, 0, [])) (by decide) rfl (rfl) (by simp [Value.category])
set_option maxRecDepth 100000 in
theorem q0_464 {l0 l1 l3 : Value} {s0 : Int32} {x : Nat}  : rn sc F 0 464 [l0, l1, .ref x, l3] [.int s0] f a j = rn sc F 0 465 [l0, l1, .ref x, l3] [.ref x, .int s0] f a j := rn_go (rfl : zOp 0 464 = some (464, .aload_n 2, 1, 2, 0, 0, 0, 0, [])) rfl
set_option maxRecDepth 100000 in
theorem q0_465 {l1 l2 l3 : Value} {s0 : Nat} {s1 : Int32} {x : Nat}  : rn sc F 0 465 [.ref x, l1, l2, l3] [.ref s0, .int s1] f a j = rn sc F 0 466 [.ref x, l1, l2, l3] [.ref x, .ref s0, .int s1] f a j := rn_go (rfl : zOp 0 465 = some (465, .aload_n 0, 1, 0, 0, 0, 0, 0, [])) rfl
set_option maxRecDepth 100000 in
theorem q0_466 {l0 l1 l2 : Value} {s0 : Nat} {s1 : Nat} {s2 : Int32} {x : Int32}  : rn sc F 0 466 [l0, l1, l2, .int x] [.ref s0, .ref s1, .int s2] f a j = rn sc F 0 467 [l0, l1, l2, .int x] [.int x, .ref s0, .ref s1, .int s2] f a j := rn_go (rfl : zOp 0 466 = some (466, .iload_n 3, 1, 3, 0, 0, 0, 0, [])) rfl
set_option maxRecDepth 100000 in
theorem q0_467 {l0 l1 l2 l3 : Value} {s0 : Int32} {s1 : Nat} {s2 : Nat} {s3 : Int32}  : rn sc F 0 467 [l0, l1, l2, l3] [.int s0, .ref s1, .ref s2, .int s3] f a j = rn sc F 0 468 [l0, l1, l2, l3] [.int (nI 1), .int s0, .ref s1, .ref s2, .int s3] f a j := rn_go (rfl : zOp 0 467 = some (467, .iconst 1, 1, 0, 0, 0, nI 1, 0, [])) rfl
set_option maxRecDepth 100000 in
theorem q0_468 {l0 l1 l2 l3 : Value} {s0 : Int32} {s1 : Int32} {s2 : Nat} {s3 : Nat} {s4 : Int32}  : rn sc F 0 468 [l0, l1, l2, l3] [.int s0, .int s1, .ref s2, .ref s3, .int s4] f a j = rn sc F 0 469 [l0, l1, l2, l3] [.int (s1 + s0), .ref s2, .ref s3, .int s4] f a j := rn_go (rfl : zOp 0 468 = some (468, .iadd, 1, 0, 0, 0, 0, 0, [])) rfl
set_option maxRecDepth 100000 in
theorem q0_469 {l0 l1 l2 l3 : Value} {s0 : Int32} {s2 : Nat} {s3 : Int32} (h : ¬ (s0 < 0 ∨ sc.1.toNatClampNeg ≤ s0.toNatClampNeg)) : rn sc F 0 469 [l0, l1, l2, l3] [.int s0, .ref 999, .ref s2, .int s3] f a j = rn sc F 0 470 [l0, l1, l2, l3] [.int (sc.2 s0), .ref s2, .int s3] f a j := rn_go (rfl : zOp 0 469 = some (469, .iaload, 1, 0, 0, 0, 0, 0, [])) (zi_sald h)
set_option maxRecDepth 100000 in
theorem q0_470 {l0 l1 l2 l3 : Value} {s0 : Int32} {s2 : Int32}  : rn sc F 0 470 [l0, l1, l2, l3] [.int s0, .ref 85, .int s2] f a j = zCall (F 119 [.ref 85, .int s0] f a j) (fun v f a j => rn sc F 0 473 [l0, l1, l2, l3] (v.toList ++ [.int s2]) f a j) := rn_callV (rfl : zOp 0 470 = some (470, .invokevirtual 48, 3, 119, 1, 913, 0, 0, [])) (by decide) rfl (rfl) (by simp [Value.category])
set_option maxRecDepth 100000 in
theorem q0_473 {l0 l1 l2 l3 : Value} {s0 : Int32} {s1 : Int32}  : rn sc F 0 473 [l0, l1, l2, l3] [.int s0, .int s1] f a j = if s1 = s0 then rn sc F 0 1407 [l0, l1, l2, l3] [] f a j else rn sc F 0 476 [l0, l1, l2, l3] [] f a j := (rn_go (rfl : zOp 0 473 = some (473, .if_icmp .eq 934, 3, 1407, 0, 0, 0, 0, [])) rfl).trans rn_ite
set_option maxRecDepth 100000 in
theorem q0_476 {l0 l1 l2 l3 : Value}   : rn sc F 0 476 [l0, l1, l2, l3] [] f a j = rn sc F 0 477 [l0, l1, l2, l3] [.int (nI 0)] f a j := rn_go (rfl : zOp 0 476 = some (476, .iconst 0, 1, 0, 0, 0, nI 0, 0, [])) rfl
set_option maxRecDepth 100000 in
theorem q0_477 {l0 l1 l2 l3 : Value} {s0 : Int32} (h : s0 = 0 ∨ s0 = 1) : rn sc F 0 477 [l0, l1, l2, l3] [.int s0] f a j = some (some (.int s0), f, a, j) := rn_end (rfl : zOp 0 477 = some (477, .ireturn, 1, 0, 0, 0, 0, 0, [])) (zi_retz h)
set_option maxRecDepth 100000 in
theorem q0_478 {l0 l2 l3 : Value} {x : Nat}  : rn sc F 0 478 [l0, .ref x, l2, l3] [] f a j = rn sc F 0 479 [l0, .ref x, l2, l3] [.ref x] f a j := rn_go (rfl : zOp 0 478 = some (478, .aload_n 1, 1, 1, 0, 0, 0, 0, [])) rfl
set_option maxRecDepth 100000 in
theorem q0_479 {l1 l2 l3 : Value} {s0 : Nat} {x : Nat}  : rn sc F 0 479 [.ref x, l1, l2, l3] [.ref s0] f a j = rn sc F 0 480 [.ref x, l1, l2, l3] [.ref x, .ref s0] f a j := rn_go (rfl : zOp 0 479 = some (479, .aload_n 0, 1, 0, 0, 0, 0, 0, [])) rfl
set_option maxRecDepth 100000 in
theorem q0_480 {l0 l1 l2 : Value} {s0 : Nat} {s1 : Nat} {x : Int32}  : rn sc F 0 480 [l0, l1, l2, .int x] [.ref s0, .ref s1] f a j = rn sc F 0 481 [l0, l1, l2, .int x] [.int x, .ref s0, .ref s1] f a j := rn_go (rfl : zOp 0 480 = some (480, .iload_n 3, 1, 3, 0, 0, 0, 0, [])) rfl
set_option maxRecDepth 100000 in
theorem q0_481 {l0 l1 l2 l3 : Value} {s0 : Int32} {s1 : Nat} {s2 : Nat}  : rn sc F 0 481 [l0, l1, l2, l3] [.int s0, .ref s1, .ref s2] f a j = rn sc F 0 482 [l0, l1, l2, l3] [.int (nI 1), .int s0, .ref s1, .ref s2] f a j := rn_go (rfl : zOp 0 481 = some (481, .iconst 1, 1, 0, 0, 0, nI 1, 0, [])) rfl
set_option maxRecDepth 100000 in
theorem q0_482 {l0 l1 l2 l3 : Value} {s0 : Int32} {s1 : Int32} {s2 : Nat} {s3 : Nat}  : rn sc F 0 482 [l0, l1, l2, l3] [.int s0, .int s1, .ref s2, .ref s3] f a j = rn sc F 0 483 [l0, l1, l2, l3] [.int (s1 + s0), .ref s2, .ref s3] f a j := rn_go (rfl : zOp 0 482 = some (482, .iadd, 1, 0, 0, 0, 0, 0, [])) rfl
set_option maxRecDepth 100000 in
theorem q0_483 {l0 l1 l2 l3 : Value} {s0 : Int32} {s2 : Nat} (h : ¬ (s0 < 0 ∨ sc.1.toNatClampNeg ≤ s0.toNatClampNeg)) : rn sc F 0 483 [l0, l1, l2, l3] [.int s0, .ref 999, .ref s2] f a j = rn sc F 0 484 [l0, l1, l2, l3] [.int (sc.2 s0), .ref s2] f a j := rn_go (rfl : zOp 0 483 = some (483, .iaload, 1, 0, 0, 0, 0, 0, [])) (zi_sald h)
set_option maxRecDepth 100000 in
theorem q0_484 {l1 l2 l3 : Value} {s0 : Int32} {s1 : Nat} {x : Nat}  : rn sc F 0 484 [.ref x, l1, l2, l3] [.int s0, .ref s1] f a j = rn sc F 0 485 [.ref x, l1, l2, l3] [.ref x, .int s0, .ref s1] f a j := rn_go (rfl : zOp 0 484 = some (484, .aload_n 0, 1, 0, 0, 0, 0, 0, [])) rfl
set_option maxRecDepth 100000 in
theorem q0_485 {l0 l1 l2 : Value} {s0 : Nat} {s1 : Int32} {s2 : Nat} {x : Int32}  : rn sc F 0 485 [l0, l1, l2, .int x] [.ref s0, .int s1, .ref s2] f a j = rn sc F 0 486 [l0, l1, l2, .int x] [.int x, .ref s0, .int s1, .ref s2] f a j := rn_go (rfl : zOp 0 485 = some (485, .iload_n 3, 1, 3, 0, 0, 0, 0, [])) rfl
set_option maxRecDepth 100000 in
theorem q0_486 {l0 l1 l2 l3 : Value} {s0 : Int32} {s1 : Nat} {s2 : Int32} {s3 : Nat}  : rn sc F 0 486 [l0, l1, l2, l3] [.int s0, .ref s1, .int s2, .ref s3] f a j = rn sc F 0 487 [l0, l1, l2, l3] [.int (nI 2), .int s0, .ref s1, .int s2, .ref s3] f a j := rn_go (rfl : zOp 0 486 = some (486, .iconst 2, 1, 0, 0, 0, nI 2, 0, [])) rfl
set_option maxRecDepth 100000 in
theorem q0_487 {l0 l1 l2 l3 : Value} {s0 : Int32} {s1 : Int32} {s2 : Nat} {s3 : Int32} {s4 : Nat}  : rn sc F 0 487 [l0, l1, l2, l3] [.int s0, .int s1, .ref s2, .int s3, .ref s4] f a j = rn sc F 0 488 [l0, l1, l2, l3] [.int (s1 + s0), .ref s2, .int s3, .ref s4] f a j := rn_go (rfl : zOp 0 487 = some (487, .iadd, 1, 0, 0, 0, 0, 0, [])) rfl
set_option maxRecDepth 100000 in
theorem q0_488 {l0 l1 l2 l3 : Value} {s0 : Int32} {s2 : Int32} {s3 : Nat} (h : ¬ (s0 < 0 ∨ sc.1.toNatClampNeg ≤ s0.toNatClampNeg)) : rn sc F 0 488 [l0, l1, l2, l3] [.int s0, .ref 999, .int s2, .ref s3] f a j = rn sc F 0 489 [l0, l1, l2, l3] [.int (sc.2 s0), .int s2, .ref s3] f a j := rn_go (rfl : zOp 0 488 = some (488, .iaload, 1, 0, 0, 0, 0, 0, [])) (zi_sald h)
set_option maxRecDepth 100000 in
theorem q0_489 {l0 l1 l2 l3 : Value} {s0 : Int32} {s1 : Int32}  : rn sc F 0 489 [l0, l1, l2, l3] [.int s0, .int s1, .ref 0] f a j = zCall (F 61 [.ref 0, .int s1, .int s0] f a j) (fun v f a j => rn sc F 0 492 [l0, l1, l2, l3] (v.toList ++ []) f a j) := rn_callV (rfl : zOp 0 489 = some (489, .invokevirtual 49, 3, 61, 2, 400, 0, 0, [])) (by decide) rfl (rfl) (by simp [Value.category])
set_option maxRecDepth 100000 in
theorem q0_492 {l0 l1 l3 : Value} {s0 : Int32} {x : Nat}  : rn sc F 0 492 [l0, l1, .ref x, l3] [.int s0] f a j = rn sc F 0 493 [l0, l1, .ref x, l3] [.ref x, .int s0] f a j := rn_go (rfl : zOp 0 492 = some (492, .aload_n 2, 1, 2, 0, 0, 0, 0, [])) rfl
set_option maxRecDepth 100000 in
theorem q0_493 {l1 l2 l3 : Value} {s0 : Nat} {s1 : Int32} {x : Nat}  : rn sc F 0 493 [.ref x, l1, l2, l3] [.ref s0, .int s1] f a j = rn sc F 0 494 [.ref x, l1, l2, l3] [.ref x, .ref s0, .int s1] f a j := rn_go (rfl : zOp 0 493 = some (493, .aload_n 0, 1, 0, 0, 0, 0, 0, [])) rfl
set_option maxRecDepth 100000 in
theorem q0_494 {l0 l1 l2 : Value} {s0 : Nat} {s1 : Nat} {s2 : Int32} {x : Int32}  : rn sc F 0 494 [l0, l1, l2, .int x] [.ref s0, .ref s1, .int s2] f a j = rn sc F 0 495 [l0, l1, l2, .int x] [.int x, .ref s0, .ref s1, .int s2] f a j := rn_go (rfl : zOp 0 494 = some (494, .iload_n 3, 1, 3, 0, 0, 0, 0, [])) rfl
set_option maxRecDepth 100000 in
theorem q0_495 {l0 l1 l2 l3 : Value} {s0 : Int32} {s1 : Nat} {s2 : Nat} {s3 : Int32}  : rn sc F 0 495 [l0, l1, l2, l3] [.int s0, .ref s1, .ref s2, .int s3] f a j = rn sc F 0 496 [l0, l1, l2, l3] [.int (nI 1), .int s0, .ref s1, .ref s2, .int s3] f a j := rn_go (rfl : zOp 0 495 = some (495, .iconst 1, 1, 0, 0, 0, nI 1, 0, [])) rfl
set_option maxRecDepth 100000 in
theorem q0_496 {l0 l1 l2 l3 : Value} {s0 : Int32} {s1 : Int32} {s2 : Nat} {s3 : Nat} {s4 : Int32}  : rn sc F 0 496 [l0, l1, l2, l3] [.int s0, .int s1, .ref s2, .ref s3, .int s4] f a j = rn sc F 0 497 [l0, l1, l2, l3] [.int (s1 + s0), .ref s2, .ref s3, .int s4] f a j := rn_go (rfl : zOp 0 496 = some (496, .iadd, 1, 0, 0, 0, 0, 0, [])) rfl
set_option maxRecDepth 100000 in
theorem q0_497 {l0 l1 l2 l3 : Value} {s0 : Int32} {s2 : Nat} {s3 : Int32} (h : ¬ (s0 < 0 ∨ sc.1.toNatClampNeg ≤ s0.toNatClampNeg)) : rn sc F 0 497 [l0, l1, l2, l3] [.int s0, .ref 999, .ref s2, .int s3] f a j = rn sc F 0 498 [l0, l1, l2, l3] [.int (sc.2 s0), .ref s2, .int s3] f a j := rn_go (rfl : zOp 0 497 = some (497, .iaload, 1, 0, 0, 0, 0, 0, [])) (zi_sald h)
set_option maxRecDepth 100000 in
theorem q0_498 {l1 l2 l3 : Value} {s0 : Int32} {s1 : Nat} {s2 : Int32} {x : Nat}  : rn sc F 0 498 [.ref x, l1, l2, l3] [.int s0, .ref s1, .int s2] f a j = rn sc F 0 499 [.ref x, l1, l2, l3] [.ref x, .int s0, .ref s1, .int s2] f a j := rn_go (rfl : zOp 0 498 = some (498, .aload_n 0, 1, 0, 0, 0, 0, 0, [])) rfl
set_option maxRecDepth 100000 in
theorem q0_499 {l0 l1 l2 : Value} {s0 : Nat} {s1 : Int32} {s2 : Nat} {s3 : Int32} {x : Int32}  : rn sc F 0 499 [l0, l1, l2, .int x] [.ref s0, .int s1, .ref s2, .int s3] f a j = rn sc F 0 500 [l0, l1, l2, .int x] [.int x, .ref s0, .int s1, .ref s2, .int s3] f a j := rn_go (rfl : zOp 0 499 = some (499, .iload_n 3, 1, 3, 0, 0, 0, 0, [])) rfl
set_option maxRecDepth 100000 in
theorem q0_500 {l0 l1 l2 l3 : Value} {s0 : Int32} {s1 : Nat} {s2 : Int32} {s3 : Nat} {s4 : Int32}  : rn sc F 0 500 [l0, l1, l2, l3] [.int s0, .ref s1, .int s2, .ref s3, .int s4] f a j = rn sc F 0 501 [l0, l1, l2, l3] [.int (nI 2), .int s0, .ref s1, .int s2, .ref s3, .int s4] f a j := rn_go (rfl : zOp 0 500 = some (500, .iconst 2, 1, 0, 0, 0, nI 2, 0, [])) rfl
set_option maxRecDepth 100000 in
theorem q0_501 {l0 l1 l2 l3 : Value} {s0 : Int32} {s1 : Int32} {s2 : Nat} {s3 : Int32} {s4 : Nat} {s5 : Int32}  : rn sc F 0 501 [l0, l1, l2, l3] [.int s0, .int s1, .ref s2, .int s3, .ref s4, .int s5] f a j = rn sc F 0 502 [l0, l1, l2, l3] [.int (s1 + s0), .ref s2, .int s3, .ref s4, .int s5] f a j := rn_go (rfl : zOp 0 501 = some (501, .iadd, 1, 0, 0, 0, 0, 0, [])) rfl
set_option maxRecDepth 100000 in
theorem q0_502 {l0 l1 l2 l3 : Value} {s0 : Int32} {s2 : Int32} {s3 : Nat} {s4 : Int32} (h : ¬ (s0 < 0 ∨ sc.1.toNatClampNeg ≤ s0.toNatClampNeg)) : rn sc F 0 502 [l0, l1, l2, l3] [.int s0, .ref 999, .int s2, .ref s3, .int s4] f a j = rn sc F 0 503 [l0, l1, l2, l3] [.int (sc.2 s0), .int s2, .ref s3, .int s4] f a j := rn_go (rfl : zOp 0 502 = some (502, .iaload, 1, 0, 0, 0, 0, 0, [])) (zi_sald h)
set_option maxRecDepth 100000 in
theorem q0_503 {l0 l1 l2 l3 : Value} {s0 : Int32} {s1 : Int32} {s3 : Int32}  : rn sc F 0 503 [l0, l1, l2, l3] [.int s0, .int s1, .ref 85, .int s3] f a j = zCall (F 137 [.ref 85, .int s1, .int s0] f a j) (fun v f a j => rn sc F 0 506 [l0, l1, l2, l3] (v.toList ++ [.int s3]) f a j) := rn_callV (rfl : zOp 0 503 = some (503, .invokevirtual 52, 3, 137, 2, 918, 0, 0, [])) (by decide) rfl (rfl) (by simp [Value.category])
set_option maxRecDepth 100000 in
theorem q0_506 {l0 l1 l2 l3 : Value} {s0 : Int32} {s1 : Int32}  : rn sc F 0 506 [l0, l1, l2, l3] [.int s0, .int s1] f a j = if s1 = s0 then rn sc F 0 1407 [l0, l1, l2, l3] [] f a j else rn sc F 0 509 [l0, l1, l2, l3] [] f a j := (rn_go (rfl : zOp 0 506 = some (506, .if_icmp .eq 901, 3, 1407, 0, 0, 0, 0, [])) rfl).trans rn_ite
set_option maxRecDepth 100000 in
theorem q0_509 {l0 l1 l2 l3 : Value}   : rn sc F 0 509 [l0, l1, l2, l3] [] f a j = rn sc F 0 510 [l0, l1, l2, l3] [.int (nI 0)] f a j := rn_go (rfl : zOp 0 509 = some (509, .iconst 0, 1, 0, 0, 0, nI 0, 0, [])) rfl
set_option maxRecDepth 100000 in
theorem q0_510 {l0 l1 l2 l3 : Value} {s0 : Int32} (h : s0 = 0 ∨ s0 = 1) : rn sc F 0 510 [l0, l1, l2, l3] [.int s0] f a j = some (some (.int s0), f, a, j) := rn_end (rfl : zOp 0 510 = some (510, .ireturn, 1, 0, 0, 0, 0, 0, [])) (zi_retz h)
set_option maxRecDepth 100000 in
theorem q0_511 {l0 l2 l3 : Value} {x : Nat}  : rn sc F 0 511 [l0, .ref x, l2, l3] [] f a j = rn sc F 0 512 [l0, .ref x, l2, l3] [.ref x] f a j := rn_go (rfl : zOp 0 511 = some (511, .aload_n 1, 1, 1, 0, 0, 0, 0, [])) rfl
set_option maxRecDepth 100000 in
theorem q0_512 {l1 l2 l3 : Value} {s0 : Nat} {x : Nat}  : rn sc F 0 512 [.ref x, l1, l2, l3] [.ref s0] f a j = rn sc F 0 513 [.ref x, l1, l2, l3] [.ref x, .ref s0] f a j := rn_go (rfl : zOp 0 512 = some (512, .aload_n 0, 1, 0, 0, 0, 0, 0, [])) rfl
set_option maxRecDepth 100000 in
theorem q0_513 {l0 l1 l2 : Value} {s0 : Nat} {s1 : Nat} {x : Int32}  : rn sc F 0 513 [l0, l1, l2, .int x] [.ref s0, .ref s1] f a j = rn sc F 0 514 [l0, l1, l2, .int x] [.int x, .ref s0, .ref s1] f a j := rn_go (rfl : zOp 0 513 = some (513, .iload_n 3, 1, 3, 0, 0, 0, 0, [])) rfl
set_option maxRecDepth 100000 in
theorem q0_514 {l0 l1 l2 l3 : Value} {s0 : Int32} {s1 : Nat} {s2 : Nat}  : rn sc F 0 514 [l0, l1, l2, l3] [.int s0, .ref s1, .ref s2] f a j = rn sc F 0 515 [l0, l1, l2, l3] [.int (nI 1), .int s0, .ref s1, .ref s2] f a j := rn_go (rfl : zOp 0 514 = some (514, .iconst 1, 1, 0, 0, 0, nI 1, 0, [])) rfl
set_option maxRecDepth 100000 in
theorem q0_515 {l0 l1 l2 l3 : Value} {s0 : Int32} {s1 : Int32} {s2 : Nat} {s3 : Nat}  : rn sc F 0 515 [l0, l1, l2, l3] [.int s0, .int s1, .ref s2, .ref s3] f a j = rn sc F 0 516 [l0, l1, l2, l3] [.int (s1 + s0), .ref s2, .ref s3] f a j := rn_go (rfl : zOp 0 515 = some (515, .iadd, 1, 0, 0, 0, 0, 0, [])) rfl
set_option maxRecDepth 100000 in
theorem q0_516 {l0 l1 l2 l3 : Value} {s0 : Int32} {s2 : Nat} (h : ¬ (s0 < 0 ∨ sc.1.toNatClampNeg ≤ s0.toNatClampNeg)) : rn sc F 0 516 [l0, l1, l2, l3] [.int s0, .ref 999, .ref s2] f a j = rn sc F 0 517 [l0, l1, l2, l3] [.int (sc.2 s0), .ref s2] f a j := rn_go (rfl : zOp 0 516 = some (516, .iaload, 1, 0, 0, 0, 0, 0, [])) (zi_sald h)
set_option maxRecDepth 100000 in
theorem q0_517 {l0 l1 l2 l3 : Value} {s0 : Int32}  : rn sc F 0 517 [l0, l1, l2, l3] [.int s0, .ref 0] f a j = zCall (F 62 [.ref 0, .int s0] f a j) (fun v f a j => rn sc F 0 520 [l0, l1, l2, l3] (v.toList ++ []) f a j) := rn_callV (rfl : zOp 0 517 = some (517, .invokevirtual 53, 3, 62, 1, 517, 0, 0, [])) (by decide) rfl (rfl) (by simp [Value.category])
set_option maxRecDepth 100000 in
theorem q0_520 {l0 l1 l3 : Value} {s0 : Int32} {x : Nat}  : rn sc F 0 520 [l0, l1, .ref x, l3] [.int s0] f a j = rn sc F 0 521 [l0, l1, .ref x, l3] [.ref x, .int s0] f a j := rn_go (rfl : zOp 0 520 = some (520, .aload_n 2, 1, 2, 0, 0, 0, 0, [])) rfl
set_option maxRecDepth 100000 in
theorem q0_521 {l1 l2 l3 : Value} {s0 : Nat} {s1 : Int32} {x : Nat}  : rn sc F 0 521 [.ref x, l1, l2, l3] [.ref s0, .int s1] f a j = rn sc F 0 522 [.ref x, l1, l2, l3] [.ref x, .ref s0, .int s1] f a j := rn_go (rfl : zOp 0 521 = some (521, .aload_n 0, 1, 0, 0, 0, 0, 0, [])) rfl
set_option maxRecDepth 100000 in
theorem q0_522 {l0 l1 l2 : Value} {s0 : Nat} {s1 : Nat} {s2 : Int32} {x : Int32}  : rn sc F 0 522 [l0, l1, l2, .int x] [.ref s0, .ref s1, .int s2] f a j = rn sc F 0 523 [l0, l1, l2, .int x] [.int x, .ref s0, .ref s1, .int s2] f a j := rn_go (rfl : zOp 0 522 = some (522, .iload_n 3, 1, 3, 0, 0, 0, 0, [])) rfl
set_option maxRecDepth 100000 in
theorem q0_523 {l0 l1 l2 l3 : Value} {s0 : Int32} {s1 : Nat} {s2 : Nat} {s3 : Int32}  : rn sc F 0 523 [l0, l1, l2, l3] [.int s0, .ref s1, .ref s2, .int s3] f a j = rn sc F 0 524 [l0, l1, l2, l3] [.int (nI 1), .int s0, .ref s1, .ref s2, .int s3] f a j := rn_go (rfl : zOp 0 523 = some (523, .iconst 1, 1, 0, 0, 0, nI 1, 0, [])) rfl
set_option maxRecDepth 100000 in
theorem q0_524 {l0 l1 l2 l3 : Value} {s0 : Int32} {s1 : Int32} {s2 : Nat} {s3 : Nat} {s4 : Int32}  : rn sc F 0 524 [l0, l1, l2, l3] [.int s0, .int s1, .ref s2, .ref s3, .int s4] f a j = rn sc F 0 525 [l0, l1, l2, l3] [.int (s1 + s0), .ref s2, .ref s3, .int s4] f a j := rn_go (rfl : zOp 0 524 = some (524, .iadd, 1, 0, 0, 0, 0, 0, [])) rfl
set_option maxRecDepth 100000 in
theorem q0_525 {l0 l1 l2 l3 : Value} {s0 : Int32} {s2 : Nat} {s3 : Int32} (h : ¬ (s0 < 0 ∨ sc.1.toNatClampNeg ≤ s0.toNatClampNeg)) : rn sc F 0 525 [l0, l1, l2, l3] [.int s0, .ref 999, .ref s2, .int s3] f a j = rn sc F 0 526 [l0, l1, l2, l3] [.int (sc.2 s0), .ref s2, .int s3] f a j := rn_go (rfl : zOp 0 525 = some (525, .iaload, 1, 0, 0, 0, 0, 0, [])) (zi_sald h)
set_option maxRecDepth 100000 in
theorem q0_526 {l0 l1 l2 l3 : Value} {s0 : Int32} {s2 : Int32}  : rn sc F 0 526 [l0, l1, l2, l3] [.int s0, .ref 85, .int s2] f a j = zCall (F 138 [.ref 85, .int s0] f a j) (fun v f a j => rn sc F 0 529 [l0, l1, l2, l3] (v.toList ++ [.int s2]) f a j) := rn_callV (rfl : zOp 0 526 = some (526, .invokevirtual 56, 3, 138, 1, 982, 0, 0, [])) (by decide) rfl (rfl) (by simp [Value.category])
set_option maxRecDepth 100000 in
theorem q0_529 {l0 l1 l2 l3 : Value} {s0 : Int32} {s1 : Int32}  : rn sc F 0 529 [l0, l1, l2, l3] [.int s0, .int s1] f a j = if s1 = s0 then rn sc F 0 1407 [l0, l1, l2, l3] [] f a j else rn sc F 0 532 [l0, l1, l2, l3] [] f a j := (rn_go (rfl : zOp 0 529 = some (529, .if_icmp .eq 878, 3, 1407, 0, 0, 0, 0, [])) rfl).trans rn_ite
set_option maxRecDepth 100000 in
theorem q0_532 {l0 l1 l2 l3 : Value}   : rn sc F 0 532 [l0, l1, l2, l3] [] f a j = rn sc F 0 533 [l0, l1, l2, l3] [.int (nI 0)] f a j := rn_go (rfl : zOp 0 532 = some (532, .iconst 0, 1, 0, 0, 0, nI 0, 0, [])) rfl
set_option maxRecDepth 100000 in
theorem q0_533 {l0 l1 l2 l3 : Value} {s0 : Int32} (h : s0 = 0 ∨ s0 = 1) : rn sc F 0 533 [l0, l1, l2, l3] [.int s0] f a j = some (some (.int s0), f, a, j) := rn_end (rfl : zOp 0 533 = some (533, .ireturn, 1, 0, 0, 0, 0, 0, [])) (zi_retz h)
set_option maxRecDepth 100000 in
theorem q0_534 {l0 l2 l3 : Value} {x : Nat}  : rn sc F 0 534 [l0, .ref x, l2, l3] [] f a j = rn sc F 0 535 [l0, .ref x, l2, l3] [.ref x] f a j := rn_go (rfl : zOp 0 534 = some (534, .aload_n 1, 1, 1, 0, 0, 0, 0, [])) rfl
set_option maxRecDepth 100000 in
theorem q0_535 {l0 l1 l2 l3 : Value}   : rn sc F 0 535 [l0, l1, l2, l3] [.ref 0] f a j = zCall (F 63 [.ref 0] f a j) (fun v f a j => rn sc F 0 538 [l0, l1, l2, l3] (v.toList ++ []) f a j) := rn_callV (rfl : zOp 0 535 = some (535, .invokevirtual 57, 3, 63, 0, 526, 0, 0, [])) (by decide) rfl (rfl) (by simp [Value.category])
set_option maxRecDepth 100000 in
theorem q0_538 {l0 l1 l3 : Value} {s0 : Int32} {x : Nat}  : rn sc F 0 538 [l0, l1, .ref x, l3] [.int s0] f a j = rn sc F 0 539 [l0, l1, .ref x, l3] [.ref x, .int s0] f a j := rn_go (rfl : zOp 0 538 = some (538, .aload_n 2, 1, 2, 0, 0, 0, 0, [])) rfl
set_option maxRecDepth 100000 in
theorem q0_539 {l0 l1 l2 l3 : Value} {s1 : Int32}  : rn sc F 0 539 [l0, l1, l2, l3] [.ref 85, .int s1] f a j = zCall (F 145 [.ref 85] f a j) (fun v f a j => rn sc F 0 542 [l0, l1, l2, l3] (v.toList ++ [.int s1]) f a j) := rn_callV (rfl : zOp 0 539 = some (539, .invokevirtual 61, 3, 145, 0, 987, 0, 0, [])) (by decide) rfl (rfl) (by simp [Value.category])
set_option maxRecDepth 100000 in
theorem q0_542 {l0 l1 l2 l3 : Value} {s0 : Int32} {s1 : Int32}  : rn sc F 0 542 [l0, l1, l2, l3] [.int s0, .int s1] f a j = if s1 = s0 then rn sc F 0 1407 [l0, l1, l2, l3] [] f a j else rn sc F 0 545 [l0, l1, l2, l3] [] f a j := (rn_go (rfl : zOp 0 542 = some (542, .if_icmp .eq 865, 3, 1407, 0, 0, 0, 0, [])) rfl).trans rn_ite
set_option maxRecDepth 100000 in
theorem q0_545 {l0 l1 l2 l3 : Value}   : rn sc F 0 545 [l0, l1, l2, l3] [] f a j = rn sc F 0 546 [l0, l1, l2, l3] [.int (nI 0)] f a j := rn_go (rfl : zOp 0 545 = some (545, .iconst 0, 1, 0, 0, 0, nI 0, 0, [])) rfl
set_option maxRecDepth 100000 in
theorem q0_546 {l0 l1 l2 l3 : Value} {s0 : Int32} (h : s0 = 0 ∨ s0 = 1) : rn sc F 0 546 [l0, l1, l2, l3] [.int s0] f a j = some (some (.int s0), f, a, j) := rn_end (rfl : zOp 0 546 = some (546, .ireturn, 1, 0, 0, 0, 0, 0, [])) (zi_retz h)
set_option maxRecDepth 100000 in
theorem q0_547 {l0 l2 l3 : Value} {x : Nat}  : rn sc F 0 547 [l0, .ref x, l2, l3] [] f a j = rn sc F 0 548 [l0, .ref x, l2, l3] [.ref x] f a j := rn_go (rfl : zOp 0 547 = some (547, .aload_n 1, 1, 1, 0, 0, 0, 0, [])) rfl
set_option maxRecDepth 100000 in
theorem q0_548 {l1 l2 l3 : Value} {s0 : Nat} {x : Nat}  : rn sc F 0 548 [.ref x, l1, l2, l3] [.ref s0] f a j = rn sc F 0 549 [.ref x, l1, l2, l3] [.ref x, .ref s0] f a j := rn_go (rfl : zOp 0 548 = some (548, .aload_n 0, 1, 0, 0, 0, 0, 0, [])) rfl
set_option maxRecDepth 100000 in
theorem q0_549 {l0 l1 l2 : Value} {s0 : Nat} {s1 : Nat} {x : Int32}  : rn sc F 0 549 [l0, l1, l2, .int x] [.ref s0, .ref s1] f a j = rn sc F 0 550 [l0, l1, l2, .int x] [.int x, .ref s0, .ref s1] f a j := rn_go (rfl : zOp 0 549 = some (549, .iload_n 3, 1, 3, 0, 0, 0, 0, [])) rfl
set_option maxRecDepth 100000 in
theorem q0_550 {l0 l1 l2 l3 : Value} {s0 : Int32} {s1 : Nat} {s2 : Nat}  : rn sc F 0 550 [l0, l1, l2, l3] [.int s0, .ref s1, .ref s2] f a j = rn sc F 0 551 [l0, l1, l2, l3] [.int (nI 1), .int s0, .ref s1, .ref s2] f a j := rn_go (rfl : zOp 0 550 = some (550, .iconst 1, 1, 0, 0, 0, nI 1, 0, [])) rfl
set_option maxRecDepth 100000 in
theorem q0_551 {l0 l1 l2 l3 : Value} {s0 : Int32} {s1 : Int32} {s2 : Nat} {s3 : Nat}  : rn sc F 0 551 [l0, l1, l2, l3] [.int s0, .int s1, .ref s2, .ref s3] f a j = rn sc F 0 552 [l0, l1, l2, l3] [.int (s1 + s0), .ref s2, .ref s3] f a j := rn_go (rfl : zOp 0 551 = some (551, .iadd, 1, 0, 0, 0, 0, 0, [])) rfl
set_option maxRecDepth 100000 in
theorem q0_552 {l0 l1 l2 l3 : Value} {s0 : Int32} {s2 : Nat} (h : ¬ (s0 < 0 ∨ sc.1.toNatClampNeg ≤ s0.toNatClampNeg)) : rn sc F 0 552 [l0, l1, l2, l3] [.int s0, .ref 999, .ref s2] f a j = rn sc F 0 553 [l0, l1, l2, l3] [.int (sc.2 s0), .ref s2] f a j := rn_go (rfl : zOp 0 552 = some (552, .iaload, 1, 0, 0, 0, 0, 0, [])) (zi_sald h)
set_option maxRecDepth 100000 in
theorem q0_553 {l0 l1 l2 l3 : Value} {s0 : Int32}  : rn sc F 0 553 [l0, l1, l2, l3] [.int s0, .ref 0] f a j = zCall (F 64 [.ref 0, .int s0] f a j) (fun v f a j => rn sc F 0 556 [l0, l1, l2, l3] (v.toList ++ []) f a j) := rn_callV (rfl : zOp 0 553 = some (553, .invokevirtual 62, 3, 64, 1, 560, 0, 0, [])) (by decide) rfl (rfl) (by simp [Value.category])
set_option maxRecDepth 100000 in
theorem q0_556 {l0 l1 l3 : Value} {s0 : Int32} {x : Nat}  : rn sc F 0 556 [l0, l1, .ref x, l3] [.int s0] f a j = rn sc F 0 557 [l0, l1, .ref x, l3] [.ref x, .int s0] f a j := rn_go (rfl : zOp 0 556 = some (556, .aload_n 2, 1, 2, 0, 0, 0, 0, [])) rfl
set_option maxRecDepth 100000 in
theorem q0_557 {l1 l2 l3 : Value} {s0 : Nat} {s1 : Int32} {x : Nat}  : rn sc F 0 557 [.ref x, l1, l2, l3] [.ref s0, .int s1] f a j = rn sc F 0 558 [.ref x, l1, l2, l3] [.ref x, .ref s0, .int s1] f a j := rn_go (rfl : zOp 0 557 = some (557, .aload_n 0, 1, 0, 0, 0, 0, 0, [])) rfl
set_option maxRecDepth 100000 in
theorem q0_558 {l0 l1 l2 : Value} {s0 : Nat} {s1 : Nat} {s2 : Int32} {x : Int32}  : rn sc F 0 558 [l0, l1, l2, .int x] [.ref s0, .ref s1, .int s2] f a j = rn sc F 0 559 [l0, l1, l2, .int x] [.int x, .ref s0, .ref s1, .int s2] f a j := rn_go (rfl : zOp 0 558 = some (558, .iload_n 3, 1, 3, 0, 0, 0, 0, [])) rfl
set_option maxRecDepth 100000 in
theorem q0_559 {l0 l1 l2 l3 : Value} {s0 : Int32} {s1 : Nat} {s2 : Nat} {s3 : Int32}  : rn sc F 0 559 [l0, l1, l2, l3] [.int s0, .ref s1, .ref s2, .int s3] f a j = rn sc F 0 560 [l0, l1, l2, l3] [.int (nI 1), .int s0, .ref s1, .ref s2, .int s3] f a j := rn_go (rfl : zOp 0 559 = some (559, .iconst 1, 1, 0, 0, 0, nI 1, 0, [])) rfl
set_option maxRecDepth 100000 in
theorem q0_560 {l0 l1 l2 l3 : Value} {s0 : Int32} {s1 : Int32} {s2 : Nat} {s3 : Nat} {s4 : Int32}  : rn sc F 0 560 [l0, l1, l2, l3] [.int s0, .int s1, .ref s2, .ref s3, .int s4] f a j = rn sc F 0 561 [l0, l1, l2, l3] [.int (s1 + s0), .ref s2, .ref s3, .int s4] f a j := rn_go (rfl : zOp 0 560 = some (560, .iadd, 1, 0, 0, 0, 0, 0, [])) rfl
set_option maxRecDepth 100000 in
theorem q0_561 {l0 l1 l2 l3 : Value} {s0 : Int32} {s2 : Nat} {s3 : Int32} (h : ¬ (s0 < 0 ∨ sc.1.toNatClampNeg ≤ s0.toNatClampNeg)) : rn sc F 0 561 [l0, l1, l2, l3] [.int s0, .ref 999, .ref s2, .int s3] f a j = rn sc F 0 562 [l0, l1, l2, l3] [.int (sc.2 s0), .ref s2, .int s3] f a j := rn_go (rfl : zOp 0 561 = some (561, .iaload, 1, 0, 0, 0, 0, 0, [])) (zi_sald h)
set_option maxRecDepth 100000 in
theorem q0_562 {l0 l1 l2 l3 : Value} {s0 : Int32} {s2 : Int32}  : rn sc F 0 562 [l0, l1, l2, l3] [.int s0, .ref 85, .int s2] f a j = zCall (F 146 [.ref 85, .int s0] f a j) (fun v f a j => rn sc F 0 565 [l0, l1, l2, l3] (v.toList ++ [.int s2]) f a j) := rn_callV (rfl : zOp 0 562 = some (562, .invokevirtual 65, 3, 146, 1, 1019, 0, 0, [])) (by decide) rfl (rfl) (by simp [Value.category])
set_option maxRecDepth 100000 in
theorem q0_565 {l0 l1 l2 l3 : Value} {s0 : Int32} {s1 : Int32}  : rn sc F 0 565 [l0, l1, l2, l3] [.int s0, .int s1] f a j = if s1 = s0 then rn sc F 0 1407 [l0, l1, l2, l3] [] f a j else rn sc F 0 568 [l0, l1, l2, l3] [] f a j := (rn_go (rfl : zOp 0 565 = some (565, .if_icmp .eq 842, 3, 1407, 0, 0, 0, 0, [])) rfl).trans rn_ite
set_option maxRecDepth 100000 in
theorem q0_568 {l0 l1 l2 l3 : Value}   : rn sc F 0 568 [l0, l1, l2, l3] [] f a j = rn sc F 0 569 [l0, l1, l2, l3] [.int (nI 0)] f a j := rn_go (rfl : zOp 0 568 = some (568, .iconst 0, 1, 0, 0, 0, nI 0, 0, [])) rfl
set_option maxRecDepth 100000 in
theorem q0_569 {l0 l1 l2 l3 : Value} {s0 : Int32} (h : s0 = 0 ∨ s0 = 1) : rn sc F 0 569 [l0, l1, l2, l3] [.int s0] f a j = some (some (.int s0), f, a, j) := rn_end (rfl : zOp 0 569 = some (569, .ireturn, 1, 0, 0, 0, 0, 0, [])) (zi_retz h)
set_option maxRecDepth 100000 in
theorem q0_570 {l0 l2 l3 : Value} {x : Nat}  : rn sc F 0 570 [l0, .ref x, l2, l3] [] f a j = rn sc F 0 571 [l0, .ref x, l2, l3] [.ref x] f a j := rn_go (rfl : zOp 0 570 = some (570, .aload_n 1, 1, 1, 0, 0, 0, 0, [])) rfl
set_option maxRecDepth 100000 in
theorem q0_571 {l1 l2 l3 : Value} {s0 : Nat} {x : Nat}  : rn sc F 0 571 [.ref x, l1, l2, l3] [.ref s0] f a j = rn sc F 0 572 [.ref x, l1, l2, l3] [.ref x, .ref s0] f a j := rn_go (rfl : zOp 0 571 = some (571, .aload_n 0, 1, 0, 0, 0, 0, 0, [])) rfl
set_option maxRecDepth 100000 in
theorem q0_572 {l0 l1 l2 : Value} {s0 : Nat} {s1 : Nat} {x : Int32}  : rn sc F 0 572 [l0, l1, l2, .int x] [.ref s0, .ref s1] f a j = rn sc F 0 573 [l0, l1, l2, .int x] [.int x, .ref s0, .ref s1] f a j := rn_go (rfl : zOp 0 572 = some (572, .iload_n 3, 1, 3, 0, 0, 0, 0, [])) rfl
set_option maxRecDepth 100000 in
theorem q0_573 {l0 l1 l2 l3 : Value} {s0 : Int32} {s1 : Nat} {s2 : Nat}  : rn sc F 0 573 [l0, l1, l2, l3] [.int s0, .ref s1, .ref s2] f a j = rn sc F 0 574 [l0, l1, l2, l3] [.int (nI 1), .int s0, .ref s1, .ref s2] f a j := rn_go (rfl : zOp 0 573 = some (573, .iconst 1, 1, 0, 0, 0, nI 1, 0, [])) rfl
set_option maxRecDepth 100000 in
theorem q0_574 {l0 l1 l2 l3 : Value} {s0 : Int32} {s1 : Int32} {s2 : Nat} {s3 : Nat}  : rn sc F 0 574 [l0, l1, l2, l3] [.int s0, .int s1, .ref s2, .ref s3] f a j = rn sc F 0 575 [l0, l1, l2, l3] [.int (s1 + s0), .ref s2, .ref s3] f a j := rn_go (rfl : zOp 0 574 = some (574, .iadd, 1, 0, 0, 0, 0, 0, [])) rfl
set_option maxRecDepth 100000 in
theorem q0_575 {l0 l1 l2 l3 : Value} {s0 : Int32} {s2 : Nat} (h : ¬ (s0 < 0 ∨ sc.1.toNatClampNeg ≤ s0.toNatClampNeg)) : rn sc F 0 575 [l0, l1, l2, l3] [.int s0, .ref 999, .ref s2] f a j = rn sc F 0 576 [l0, l1, l2, l3] [.int (sc.2 s0), .ref s2] f a j := rn_go (rfl : zOp 0 575 = some (575, .iaload, 1, 0, 0, 0, 0, 0, [])) (zi_sald h)
set_option maxRecDepth 100000 in
theorem q0_576 {l0 l1 l2 l3 : Value} {s0 : Int32}  : rn sc F 0 576 [l0, l1, l2, l3] [.int s0, .ref 0] f a j = zCall (F 65 [.ref 0, .int s0] f a j) (fun v f a j => rn sc F 0 579 [l0, l1, l2, l3] (v.toList ++ []) f a j) := rn_callV (rfl : zOp 0 576 = some (576, .invokevirtual 66, 3, 65, 1, 564, 0, 0, [])) (by decide) rfl (rfl) (by simp [Value.category])
set_option maxRecDepth 100000 in
theorem q0_579 {l0 l1 l3 : Value} {s0 : Int32} {x : Nat}  : rn sc F 0 579 [l0, l1, .ref x, l3] [.int s0] f a j = rn sc F 0 580 [l0, l1, .ref x, l3] [.ref x, .int s0] f a j := rn_go (rfl : zOp 0 579 = some (579, .aload_n 2, 1, 2, 0, 0, 0, 0, [])) rfl
set_option maxRecDepth 100000 in
theorem q0_580 {l1 l2 l3 : Value} {s0 : Nat} {s1 : Int32} {x : Nat}  : rn sc F 0 580 [.ref x, l1, l2, l3] [.ref s0, .int s1] f a j = rn sc F 0 581 [.ref x, l1, l2, l3] [.ref x, .ref s0, .int s1] f a j := rn_go (rfl : zOp 0 580 = some (580, .aload_n 0, 1, 0, 0, 0, 0, 0, [])) rfl
set_option maxRecDepth 100000 in
theorem q0_581 {l0 l1 l2 : Value} {s0 : Nat} {s1 : Nat} {s2 : Int32} {x : Int32}  : rn sc F 0 581 [l0, l1, l2, .int x] [.ref s0, .ref s1, .int s2] f a j = rn sc F 0 582 [l0, l1, l2, .int x] [.int x, .ref s0, .ref s1, .int s2] f a j := rn_go (rfl : zOp 0 581 = some (581, .iload_n 3, 1, 3, 0, 0, 0, 0, [])) rfl
set_option maxRecDepth 100000 in
theorem q0_582 {l0 l1 l2 l3 : Value} {s0 : Int32} {s1 : Nat} {s2 : Nat} {s3 : Int32}  : rn sc F 0 582 [l0, l1, l2, l3] [.int s0, .ref s1, .ref s2, .int s3] f a j = rn sc F 0 583 [l0, l1, l2, l3] [.int (nI 1), .int s0, .ref s1, .ref s2, .int s3] f a j := rn_go (rfl : zOp 0 582 = some (582, .iconst 1, 1, 0, 0, 0, nI 1, 0, [])) rfl
set_option maxRecDepth 100000 in
theorem q0_583 {l0 l1 l2 l3 : Value} {s0 : Int32} {s1 : Int32} {s2 : Nat} {s3 : Nat} {s4 : Int32}  : rn sc F 0 583 [l0, l1, l2, l3] [.int s0, .int s1, .ref s2, .ref s3, .int s4] f a j = rn sc F 0 584 [l0, l1, l2, l3] [.int (s1 + s0), .ref s2, .ref s3, .int s4] f a j := rn_go (rfl : zOp 0 583 = some (583, .iadd, 1, 0, 0, 0, 0, 0, [])) rfl
set_option maxRecDepth 100000 in
theorem q0_584 {l0 l1 l2 l3 : Value} {s0 : Int32} {s2 : Nat} {s3 : Int32} (h : ¬ (s0 < 0 ∨ sc.1.toNatClampNeg ≤ s0.toNatClampNeg)) : rn sc F 0 584 [l0, l1, l2, l3] [.int s0, .ref 999, .ref s2, .int s3] f a j = rn sc F 0 585 [l0, l1, l2, l3] [.int (sc.2 s0), .ref s2, .int s3] f a j := rn_go (rfl : zOp 0 584 = some (584, .iaload, 1, 0, 0, 0, 0, 0, [])) (zi_sald h)
set_option maxRecDepth 100000 in
theorem q0_585 {l0 l1 l2 l3 : Value} {s0 : Int32} {s2 : Int32}  : rn sc F 0 585 [l0, l1, l2, l3] [.int s0, .ref 85, .int s2] f a j = zCall (F 147 [.ref 85, .int s0] f a j) (fun v f a j => rn sc F 0 588 [l0, l1, l2, l3] (v.toList ++ [.int s2]) f a j) := rn_callV (rfl : zOp 0 585 = some (585, .invokevirtual 69, 3, 147, 1, 1023, 0, 0, [])) (by decide) rfl (rfl) (by simp [Value.category])
set_option maxRecDepth 100000 in
theorem q0_588 {l0 l1 l2 l3 : Value} {s0 : Int32} {s1 : Int32}  : rn sc F 0 588 [l0, l1, l2, l3] [.int s0, .int s1] f a j = if s1 = s0 then rn sc F 0 1407 [l0, l1, l2, l3] [] f a j else rn sc F 0 591 [l0, l1, l2, l3] [] f a j := (rn_go (rfl : zOp 0 588 = some (588, .if_icmp .eq 819, 3, 1407, 0, 0, 0, 0, [])) rfl).trans rn_ite
set_option maxRecDepth 100000 in
theorem q0_591 {l0 l1 l2 l3 : Value}   : rn sc F 0 591 [l0, l1, l2, l3] [] f a j = rn sc F 0 592 [l0, l1, l2, l3] [.int (nI 0)] f a j := rn_go (rfl : zOp 0 591 = some (591, .iconst 0, 1, 0, 0, 0, nI 0, 0, [])) rfl
set_option maxRecDepth 100000 in
theorem q0_592 {l0 l1 l2 l3 : Value} {s0 : Int32} (h : s0 = 0 ∨ s0 = 1) : rn sc F 0 592 [l0, l1, l2, l3] [.int s0] f a j = some (some (.int s0), f, a, j) := rn_end (rfl : zOp 0 592 = some (592, .ireturn, 1, 0, 0, 0, 0, 0, [])) (zi_retz h)
set_option maxRecDepth 100000 in
theorem q0_593 {l0 l2 l3 : Value} {x : Nat}  : rn sc F 0 593 [l0, .ref x, l2, l3] [] f a j = rn sc F 0 594 [l0, .ref x, l2, l3] [.ref x] f a j := rn_go (rfl : zOp 0 593 = some (593, .aload_n 1, 1, 1, 0, 0, 0, 0, [])) rfl
set_option maxRecDepth 100000 in
theorem q0_594 {l1 l2 l3 : Value} {s0 : Nat} {x : Nat}  : rn sc F 0 594 [.ref x, l1, l2, l3] [.ref s0] f a j = rn sc F 0 595 [.ref x, l1, l2, l3] [.ref x, .ref s0] f a j := rn_go (rfl : zOp 0 594 = some (594, .aload_n 0, 1, 0, 0, 0, 0, 0, [])) rfl
set_option maxRecDepth 100000 in
theorem q0_595 {l0 l1 l2 : Value} {s0 : Nat} {s1 : Nat} {x : Int32}  : rn sc F 0 595 [l0, l1, l2, .int x] [.ref s0, .ref s1] f a j = rn sc F 0 596 [l0, l1, l2, .int x] [.int x, .ref s0, .ref s1] f a j := rn_go (rfl : zOp 0 595 = some (595, .iload_n 3, 1, 3, 0, 0, 0, 0, [])) rfl
set_option maxRecDepth 100000 in
theorem q0_596 {l0 l1 l2 l3 : Value} {s0 : Int32} {s1 : Nat} {s2 : Nat}  : rn sc F 0 596 [l0, l1, l2, l3] [.int s0, .ref s1, .ref s2] f a j = rn sc F 0 597 [l0, l1, l2, l3] [.int (nI 1), .int s0, .ref s1, .ref s2] f a j := rn_go (rfl : zOp 0 596 = some (596, .iconst 1, 1, 0, 0, 0, nI 1, 0, [])) rfl
set_option maxRecDepth 100000 in
theorem q0_597 {l0 l1 l2 l3 : Value} {s0 : Int32} {s1 : Int32} {s2 : Nat} {s3 : Nat}  : rn sc F 0 597 [l0, l1, l2, l3] [.int s0, .int s1, .ref s2, .ref s3] f a j = rn sc F 0 598 [l0, l1, l2, l3] [.int (s1 + s0), .ref s2, .ref s3] f a j := rn_go (rfl : zOp 0 597 = some (597, .iadd, 1, 0, 0, 0, 0, 0, [])) rfl
set_option maxRecDepth 100000 in
theorem q0_598 {l0 l1 l2 l3 : Value} {s0 : Int32} {s2 : Nat} (h : ¬ (s0 < 0 ∨ sc.1.toNatClampNeg ≤ s0.toNatClampNeg)) : rn sc F 0 598 [l0, l1, l2, l3] [.int s0, .ref 999, .ref s2] f a j = rn sc F 0 599 [l0, l1, l2, l3] [.int (sc.2 s0), .ref s2] f a j := rn_go (rfl : zOp 0 598 = some (598, .iaload, 1, 0, 0, 0, 0, 0, [])) (zi_sald h)
set_option maxRecDepth 100000 in
theorem q0_599 {l0 l1 l2 l3 : Value} {s0 : Int32}  : rn sc F 0 599 [l0, l1, l2, l3] [.int s0, .ref 0] f a j = zCall (F 66 [.ref 0, .int s0] f a j) (fun v f a j => rn sc F 0 602 [l0, l1, l2, l3] (v.toList ++ []) f a j) := rn_callV (rfl : zOp 0 599 = some (599, .invokevirtual 70, 3, 66, 1, 568, 0, 0, [])) (by decide) rfl (rfl) (by simp [Value.category])
set_option maxRecDepth 100000 in
theorem q0_602 {l0 l1 l3 : Value} {s0 : Int32} {x : Nat}  : rn sc F 0 602 [l0, l1, .ref x, l3] [.int s0] f a j = rn sc F 0 603 [l0, l1, .ref x, l3] [.ref x, .int s0] f a j := rn_go (rfl : zOp 0 602 = some (602, .aload_n 2, 1, 2, 0, 0, 0, 0, [])) rfl
set_option maxRecDepth 100000 in
theorem q0_603 {l1 l2 l3 : Value} {s0 : Nat} {s1 : Int32} {x : Nat}  : rn sc F 0 603 [.ref x, l1, l2, l3] [.ref s0, .int s1] f a j = rn sc F 0 604 [.ref x, l1, l2, l3] [.ref x, .ref s0, .int s1] f a j := rn_go (rfl : zOp 0 603 = some (603, .aload_n 0, 1, 0, 0, 0, 0, 0, [])) rfl
set_option maxRecDepth 100000 in
theorem q0_604 {l0 l1 l2 : Value} {s0 : Nat} {s1 : Nat} {s2 : Int32} {x : Int32}  : rn sc F 0 604 [l0, l1, l2, .int x] [.ref s0, .ref s1, .int s2] f a j = rn sc F 0 605 [l0, l1, l2, .int x] [.int x, .ref s0, .ref s1, .int s2] f a j := rn_go (rfl : zOp 0 604 = some (604, .iload_n 3, 1, 3, 0, 0, 0, 0, [])) rfl
set_option maxRecDepth 100000 in
theorem q0_605 {l0 l1 l2 l3 : Value} {s0 : Int32} {s1 : Nat} {s2 : Nat} {s3 : Int32}  : rn sc F 0 605 [l0, l1, l2, l3] [.int s0, .ref s1, .ref s2, .int s3] f a j = rn sc F 0 606 [l0, l1, l2, l3] [.int (nI 1), .int s0, .ref s1, .ref s2, .int s3] f a j := rn_go (rfl : zOp 0 605 = some (605, .iconst 1, 1, 0, 0, 0, nI 1, 0, [])) rfl
set_option maxRecDepth 100000 in
theorem q0_606 {l0 l1 l2 l3 : Value} {s0 : Int32} {s1 : Int32} {s2 : Nat} {s3 : Nat} {s4 : Int32}  : rn sc F 0 606 [l0, l1, l2, l3] [.int s0, .int s1, .ref s2, .ref s3, .int s4] f a j = rn sc F 0 607 [l0, l1, l2, l3] [.int (s1 + s0), .ref s2, .ref s3, .int s4] f a j := rn_go (rfl : zOp 0 606 = some (606, .iadd, 1, 0, 0, 0, 0, 0, [])) rfl
set_option maxRecDepth 100000 in
theorem q0_607 {l0 l1 l2 l3 : Value} {s0 : Int32} {s2 : Nat} {s3 : Int32} (h : ¬ (s0 < 0 ∨ sc.1.toNatClampNeg ≤ s0.toNatClampNeg)) : rn sc F 0 607 [l0, l1, l2, l3] [.int s0, .ref 999, .ref s2, .int s3] f a j = rn sc F 0 608 [l0, l1, l2, l3] [.int (sc.2 s0), .ref s2, .int s3] f a j := rn_go (rfl : zOp 0 607 = some (607, .iaload, 1, 0, 0, 0, 0, 0, [])) (zi_sald h)
set_option maxRecDepth 100000 in
theorem q0_608 {l0 l1 l2 l3 : Value} {s0 : Int32} {s2 : Int32}  : rn sc F 0 608 [l0, l1, l2, l3] [.int s0, .ref 85, .int s2] f a j = zCall (F 148 [.ref 85, .int s0] f a j) (fun v f a j => rn sc F 0 611 [l0, l1, l2, l3] (v.toList ++ [.int s2]) f a j) := rn_callV (rfl : zOp 0 608 = some (608, .invokevirtual 73, 3, 148, 1, 1027, 0, 0, [])) (by decide) rfl (rfl) (by simp [Value.category])
set_option maxRecDepth 100000 in
theorem q0_611 {l0 l1 l2 l3 : Value} {s0 : Int32} {s1 : Int32}  : rn sc F 0 611 [l0, l1, l2, l3] [.int s0, .int s1] f a j = if s1 = s0 then rn sc F 0 1407 [l0, l1, l2, l3] [] f a j else rn sc F 0 614 [l0, l1, l2, l3] [] f a j := (rn_go (rfl : zOp 0 611 = some (611, .if_icmp .eq 796, 3, 1407, 0, 0, 0, 0, [])) rfl).trans rn_ite
set_option maxRecDepth 100000 in
theorem q0_614 {l0 l1 l2 l3 : Value}   : rn sc F 0 614 [l0, l1, l2, l3] [] f a j = rn sc F 0 615 [l0, l1, l2, l3] [.int (nI 0)] f a j := rn_go (rfl : zOp 0 614 = some (614, .iconst 0, 1, 0, 0, 0, nI 0, 0, [])) rfl
set_option maxRecDepth 100000 in
theorem q0_615 {l0 l1 l2 l3 : Value} {s0 : Int32} (h : s0 = 0 ∨ s0 = 1) : rn sc F 0 615 [l0, l1, l2, l3] [.int s0] f a j = some (some (.int s0), f, a, j) := rn_end (rfl : zOp 0 615 = some (615, .ireturn, 1, 0, 0, 0, 0, 0, [])) (zi_retz h)
end ZQ
