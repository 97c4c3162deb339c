section ZQ
variable {sc : Int32 × (Int32 → Int32)} {F : zCF} {f : zF} {a : zA} {j : zJ}
set_option maxRecDepth 100000 in
theorem q0_616 {l0 l2 l3 : Value} {x : Nat}  : rn sc F 0 616 [l0, .ref x, l2, l3] [] f a j = rn sc F 0 617 [l0, .ref x, l2, l3] [.ref x] f a j := rn_go (rfl : zOp 0 616 = some (616, .aload_n 1, 1, 1, 0, 0, 0, 0, [])) rfl
set_option maxRecDepth 100000 in
theorem q0_617 {l1 l2 l3 : Value} {s0 : Nat} {x : Nat}  : rn sc F 0 617 [.ref x, l1, l2, l3] [.ref s0] f a j = rn sc F 0 618 [.ref x, l1, l2, l3] [.ref x, .ref s0] f a j := rn_go (rfl : zOp 0 617 = some (617, .aload_n 0, 1, 0, 0, 0, 0, 0, [])) rfl
set_option maxRecDepth 100000 in
theorem q0_618 {l0 l1 l2 : Value} {s0 : Nat} {s1 : Nat} {x : Int32}  : rn sc F 0 618 [l0, l1, l2, .int x] [.ref s0, .ref s1] f a j = rn sc F 0 619 [l0, l1, l2, .int x] [.int x, .ref s0, .ref s1] f a j := rn_go (rfl : zOp 0 618 = some (618, .iload_n 3, 1, 3, 0, 0, 0, 0, [])) rfl
set_option maxRecDepth 100000 in
theorem q0_619 {l0 l1 l2 l3 : Value} {s0 : Int32} {s1 : Nat} {s2 : Nat}  : rn sc F 0 619 [l0, l1, l2, l3] [.int s0, .ref s1, .ref s2] f a j = rn sc F 0 620 [l0, l1, l2, l3] [.int (nI 1), .int s0, .ref s1, .ref s2] f a j := rn_go (rfl : zOp 0 619 = some (619, .iconst 1, 1, 0, 0, 0, nI 1, 0, [])) rfl
set_option maxRecDepth 100000 in
theorem q0_620 {l0 l1 l2 l3 : Value} {s0 : Int32} {s1 : Int32} {s2 : Nat} {s3 : Nat}  : rn sc F 0 620 [l0, l1, l2, l3] [.int s0, .int s1, .ref s2, .ref s3] f a j = rn sc F 0 621 [l0, l1, l2, l3] [.int (s1 + s0), .ref s2, .ref s3] f a j := rn_go (rfl : zOp 0 620 = some (620, .iadd, 1, 0, 0, 0, 0, 0, [])) rfl
set_option maxRecDepth 100000 in
theorem q0_621 {l0 l1 l2 l3 : Value} {s0 : Int32} {s2 : Nat} (h : ¬ (s0 < 0 ∨ sc.1.toNatClampNeg ≤ s0.toNatClampNeg)) : rn sc F 0 621 [l0, l1, l2, l3] [.int s0, .ref 999, .ref s2] f a j = rn sc F 0 622 [l0, l1, l2, l3] [.int (sc.2 s0), .ref s2] f a j := rn_go (rfl : zOp 0 621 = some (621, .iaload, 1, 0, 0, 0, 0, 0, [])) (zi_sald h)
set_option maxRecDepth 100000 in
theorem q0_622 {l0 l1 l2 l3 : Value} {s0 : Int32}  : rn sc F 0 622 [l0, l1, l2, l3] [.int s0, .ref 0] f a j = zCall (F 67 [.ref 0, .int s0] f a j) (fun v f a j => rn sc F 0 625 [l0, l1, l2, l3] (v.toList ++ []) f a j) := rn_callV (rfl : zOp 0 622 = some (622, .invokevirtual 74, 3, 67, 1, 572, 0, 0, [])) (by decide) rfl (rfl) (by simp [Value.category])
set_option maxRecDepth 100000 in
theorem q0_625 {l0 l1 l3 : Value} {s0 : Int32} {x : Nat}  : rn sc F 0 625 [l0, l1, .ref x, l3] [.int s0] f a j = rn sc F 0 626 [l0, l1, .ref x, l3] [.ref x, .int s0] f a j := rn_go (rfl : zOp 0 625 = some (625, .aload_n 2, 1, 2, 0, 0, 0, 0, [])) rfl
set_option maxRecDepth 100000 in
theorem q0_626 {l1 l2 l3 : Value} {s0 : Nat} {s1 : Int32} {x : Nat}  : rn sc F 0 626 [.ref x, l1, l2, l3] [.ref s0, .int s1] f a j = rn sc F 0 627 [.ref x, l1, l2, l3] [.ref x, .ref s0, .int s1] f a j := rn_go (rfl : zOp 0 626 = some (626, .aload_n 0, 1, 0, 0, 0, 0, 0, [])) rfl
set_option maxRecDepth 100000 in
theorem q0_627 {l0 l1 l2 : Value} {s0 : Nat} {s1 : Nat} {s2 : Int32} {x : Int32}  : rn sc F 0 627 [l0, l1, l2, .int x] [.ref s0, .ref s1, .int s2] f a j = rn sc F 0 628 [l0, l1, l2, .int x] [.int x, .ref s0, .ref s1, .int s2] f a j := rn_go (rfl : zOp 0 627 = some (627, .iload_n 3, 1, 3, 0, 0, 0, 0, [])) rfl
set_option maxRecDepth 100000 in
theorem q0_628 {l0 l1 l2 l3 : Value} {s0 : Int32} {s1 : Nat} {s2 : Nat} {s3 : Int32}  : rn sc F 0 628 [l0, l1, l2, l3] [.int s0, .ref s1, .ref s2, .int s3] f a j = rn sc F 0 629 [l0, l1, l2, l3] [.int (nI 1), .int s0, .ref s1, .ref s2, .int s3] f a j := rn_go (rfl : zOp 0 628 = some (628, .iconst 1, 1, 0, 0, 0, nI 1, 0, [])) rfl
set_option maxRecDepth 100000 in
theorem q0_629 {l0 l1 l2 l3 : Value} {s0 : Int32} {s1 : Int32} {s2 : Nat} {s3 : Nat} {s4 : Int32}  : rn sc F 0 629 [l0, l1, l2, l3] [.int s0, .int s1, .ref s2, .ref s3, .int s4] f a j = rn sc F 0 630 [l0, l1, l2, l3] [.int (s1 + s0), .ref s2, .ref s3, .int s4] f a j := rn_go (rfl : zOp 0 629 = some (629, .iadd, 1, 0, 0, 0, 0, 0, [])) rfl
set_option maxRecDepth 100000 in
theorem q0_630 {l0 l1 l2 l3 : Value} {s0 : Int32} {s2 : Nat} {s3 : Int32} (h : ¬ (s0 < 0 ∨ sc.1.toNatClampNeg ≤ s0.toNatClampNeg)) : rn sc F 0 630 [l0, l1, l2, l3] [.int s0, .ref 999, .ref s2, .int s3] f a j = rn sc F 0 631 [l0, l1, l2, l3] [.int (sc.2 s0), .ref s2, .int s3] f a j := rn_go (rfl : zOp 0 630 = some (630, .iaload, 1, 0, 0, 0, 0, 0, [])) (zi_sald h)
set_option maxRecDepth 100000 in
theorem q0_631 {l0 l1 l2 l3 : Value} {s0 : Int32} {s2 : Int32}  : rn sc F 0 631 [l0, l1, l2, l3] [.int s0, .ref 85, .int s2] f a j = zCall (F 149 [.ref 85, .int s0] f a j) (fun v f a j => rn sc F 0 634 [l0, l1, l2, l3] (v.toList ++ [.int s2]) f a j) := rn_callV (rfl : zOp 0 631 = some (631, .invokevirtual 77, 3, 149, 1, 1031, 0, 0, [])) (by decide) rfl (rfl) (by simp [Value.category])
set_option maxRecDepth 100000 in
theorem q0_634 {l0 l1 l2 l3 : Value} {s0 : Int32} {s1 : Int32}  : rn sc F 0 634 [l0, l1, l2, l3] [.int s0, .int s1] f a j = if s1 = s0 then rn sc F 0 1407 [l0, l1, l2, l3] [] f a j else rn sc F 0 637 [l0, l1, l2, l3] [] f a j := (rn_go (rfl : zOp 0 634 = some (634, .if_icmp .eq 773, 3, 1407, 0, 0, 0, 0, [])) rfl).trans rn_ite
set_option maxRecDepth 100000 in
theorem q0_637 {l0 l1 l2 l3 : Value}   : rn sc F 0 637 [l0, l1, l2, l3] [] f a j = rn sc F 0 638 [l0, l1, l2, l3] [.int (nI 0)] f a j := rn_go (rfl : zOp 0 637 = some (637, .iconst 0, 1, 0, 0, 0, nI 0, 0, [])) rfl
set_option maxRecDepth 100000 in
theorem q0_638 {l0 l1 l2 l3 : Value} {s0 : Int32} (h : s0 = 0 ∨ s0 = 1) : rn sc F 0 638 [l0, l1, l2, l3] [.int s0] f a j = some (some (.int s0), f, a, j) := rn_end (rfl : zOp 0 638 = some (638, .ireturn, 1, 0, 0, 0, 0, 0, [])) (zi_retz h)
set_option maxRecDepth 100000 in
theorem q0_639 {l0 l2 l3 : Value} {x : Nat}  : rn sc F 0 639 [l0, .ref x, l2, l3] [] f a j = rn sc F 0 640 [l0, .ref x, l2, l3] [.ref x] f a j := rn_go (rfl : zOp 0 639 = some (639, .aload_n 1, 1, 1, 0, 0, 0, 0, [])) rfl
set_option maxRecDepth 100000 in
theorem q0_640 {l1 l2 l3 : Value} {s0 : Nat} {x : Nat}  : rn sc F 0 640 [.ref x, l1, l2, l3] [.ref s0] f a j = rn sc F 0 641 [.ref x, l1, l2, l3] [.ref x, .ref s0] f a j := rn_go (rfl : zOp 0 640 = some (640, .aload_n 0, 1, 0, 0, 0, 0, 0, [])) rfl
set_option maxRecDepth 100000 in
theorem q0_641 {l0 l1 l2 : Value} {s0 : Nat} {s1 : Nat} {x : Int32}  : rn sc F 0 641 [l0, l1, l2, .int x] [.ref s0, .ref s1] f a j = rn sc F 0 642 [l0, l1, l2, .int x] [.int x, .ref s0, .ref s1] f a j := rn_go (rfl : zOp 0 641 = some (641, .iload_n 3, 1, 3, 0, 0, 0, 0, [])) rfl
set_option maxRecDepth 100000 in
theorem q0_642 {l0 l1 l2 l3 : Value} {s0 : Int32} {s1 : Nat} {s2 : Nat}  : rn sc F 0 642 [l0, l1, l2, l3] [.int s0, .ref s1, .ref s2] f a j = rn sc F 0 643 [l0, l1, l2, l3] [.int (nI 1), .int s0, .ref s1, .ref s2] f a j := rn_go (rfl : zOp 0 642 = some (642, .iconst 1, 1, 0, 0, 0, nI 1, 0, [])) rfl
set_option maxRecDepth 100000 in
theorem q0_643 {l0 l1 l2 l3 : Value} {s0 : Int32} {s1 : Int32} {s2 : Nat} {s3 : Nat}  : rn sc F 0 643 [l0, l1, l2, l3] [.int s0, .int s1, .ref s2, .ref s3] f a j = rn sc F 0 644 [l0, l1, l2, l3] [.int (s1 + s0), .ref s2, .ref s3] f a j := rn_go (rfl : zOp 0 643 = some (643, .iadd, 1, 0, 0, 0, 0, 0, [])) rfl
set_option maxRecDepth 100000 in
theorem q0_644 {l0 l1 l2 l3 : Value} {s0 : Int32} {s2 : Nat} (h : ¬ (s0 < 0 ∨ sc.1.toNatClampNeg ≤ s0.toNatClampNeg)) : rn sc F 0 644 [l0, l1, l2, l3] [.int s0, .ref 999, .ref s2] f a j = rn sc F 0 645 [l0, l1, l2, l3] [.int (sc.2 s0), .ref s2] f a j := rn_go (rfl : zOp 0 644 = some (644, .iaload, 1, 0, 0, 0, 0, 0, [])) (zi_sald h)
set_option maxRecDepth 100000 in
theorem q0_645 {l1 l2 l3 : Value} {s0 : Int32} {s1 : Nat} {x : Nat}  : rn sc F 0 645 [.ref x, l1, l2, l3] [.int s0, .ref s1] f a j = rn sc F 0 646 [.ref x, l1, l2, l3] [.ref x, .int s0, .ref s1] f a j := rn_go (rfl : zOp 0 645 = some (645, .aload_n 0, 1, 0, 0, 0, 0, 0, [])) rfl
set_option maxRecDepth 100000 in
theorem q0_646 {l0 l1 l2 : Value} {s0 : Nat} {s1 : Int32} {s2 : Nat} {x : Int32}  : rn sc F 0 646 [l0, l1, l2, .int x] [.ref s0, .int s1, .ref s2] f a j = rn sc F 0 647 [l0, l1, l2, .int x] [.int x, .ref s0, .int s1, .ref s2] f a j := rn_go (rfl : zOp 0 646 = some (646, .iload_n 3, 1, 3, 0, 0, 0, 0, [])) rfl
set_option maxRecDepth 100000 in
theorem q0_647 {l0 l1 l2 l3 : Value} {s0 : Int32} {s1 : Nat} {s2 : Int32} {s3 : Nat}  : rn sc F 0 647 [l0, l1, l2, l3] [.int s0, .ref s1, .int s2, .ref s3] f a j = rn sc F 0 648 [l0, l1, l2, l3] [.int (nI 2), .int s0, .ref s1, .int s2, .ref s3] f a j := rn_go (rfl : zOp 0 647 = some (647, .iconst 2, 1, 0, 0, 0, nI 2, 0, [])) rfl
set_option maxRecDepth 100000 in
theorem q0_648 {l0 l1 l2 l3 : Value} {s0 : Int32} {s1 : Int32} {s2 : Nat} {s3 : Int32} {s4 : Nat}  : rn sc F 0 648 [l0, l1, l2, l3] [.int s0, .int s1, .ref s2, .int s3, .ref s4] f a j = rn sc F 0 649 [l0, l1, l2, l3] [.int (s1 + s0), .ref s2, .int s3, .ref s4] f a j := rn_go (rfl : zOp 0 648 = some (648, .iadd, 1, 0, 0, 0, 0, 0, [])) rfl
set_option maxRecDepth 100000 in
theorem q0_649 {l0 l1 l2 l3 : Value} {s0 : Int32} {s2 : Int32} {s3 : Nat} (h : ¬ (s0 < 0 ∨ sc.1.toNatClampNeg ≤ s0.toNatClampNeg)) : rn sc F 0 649 [l0, l1, l2, l3] [.int s0, .ref 999, .int s2, .ref s3] f a j = rn sc F 0 650 [l0, l1, l2, l3] [.int (sc.2 s0), .int s2, .ref s3] f a j := rn_go (rfl : zOp 0 649 = some (649, .iaload, 1, 0, 0, 0, 0, 0, [])) (zi_sald h)
set_option maxRecDepth 100000 in
theorem q0_650 {l0 l1 l2 l3 : Value} {s0 : Int32} {s1 : Int32}  : rn sc F 0 650 [l0, l1, l2, l3] [.int s0, .int s1, .ref 0] f a j = zCall (F 68 [.ref 0, .int s1, .int s0] f a j) (fun v f a j => rn sc F 0 653 [l0, l1, l2, l3] (v.toList ++ []) f a j) := rn_callV (rfl : zOp 0 650 = some (650, .invokevirtual 78, 3, 68, 2, 580, 0, 0, [])) (by decide) rfl (rfl) (by simp [Value.category])
set_option maxRecDepth 100000 in
theorem q0_653 {l0 l1 l3 : Value} {s0 : Int32} {x : Nat}  : rn sc F 0 653 [l0, l1, .ref x, l3] [.int s0] f a j = rn sc F 0 654 [l0, l1, .ref x, l3] [.ref x, .int s0] f a j := rn_go (rfl : zOp 0 653 = some (653, .aload_n 2, 1, 2, 0, 0, 0, 0, [])) rfl
set_option maxRecDepth 100000 in
theorem q0_654 {l1 l2 l3 : Value} {s0 : Nat} {s1 : Int32} {x : Nat}  : rn sc F 0 654 [.ref x, l1, l2, l3] [.ref s0, .int s1] f a j = rn sc F 0 655 [.ref x, l1, l2, l3] [.ref x, .ref s0, .int s1] f a j := rn_go (rfl : zOp 0 654 = some (654, .aload_n 0, 1, 0, 0, 0, 0, 0, [])) rfl
set_option maxRecDepth 100000 in
theorem q0_655 {l0 l1 l2 : Value} {s0 : Nat} {s1 : Nat} {s2 : Int32} {x : Int32}  : rn sc F 0 655 [l0, l1, l2, .int x] [.ref s0, .ref s1, .int s2] f a j = rn sc F 0 656 [l0, l1, l2, .int x] [.int x, .ref s0, .ref s1, .int s2] f a j := rn_go (rfl : zOp 0 655 = some (655, .iload_n 3, 1, 3, 0, 0, 0, 0, [])) rfl
set_option maxRecDepth 100000 in
theorem q0_656 {l0 l1 l2 l3 : Value} {s0 : Int32} {s1 : Nat} {s2 : Nat} {s3 : Int32}  : rn sc F 0 656 [l0, l1, l2, l3] [.int s0, .ref s1, .ref s2, .int s3] f a j = rn sc F 0 657 [l0, l1, l2, l3] [.int (nI 1), .int s0, .ref s1, .ref s2, .int s3] f a j := rn_go (rfl : zOp 0 656 = some (656, .iconst 1, 1, 0, 0, 0, nI 1, 0, [])) rfl
set_option maxRecDepth 100000 in
theorem q0_657 {l0 l1 l2 l3 : Value} {s0 : Int32} {s1 : Int32} {s2 : Nat} {s3 : Nat} {s4 : Int32}  : rn sc F 0 657 [l0, l1, l2, l3] [.int s0, .int s1, .ref s2, .ref s3, .int s4] f a j = rn sc F 0 658 [l0, l1, l2, l3] [.int (s1 + s0), .ref s2, .ref s3, .int s4] f a j := rn_go (rfl : zOp 0 657 = some (657, .iadd, 1, 0, 0, 0, 0, 0, [])) rfl
set_option maxRecDepth 100000 in
theorem q0_658 {l0 l1 l2 l3 : Value} {s0 : Int32} {s2 : Nat} {s3 : Int32} (h : ¬ (s0 < 0 ∨ sc.1.toNatClampNeg ≤ s0.toNatClampNeg)) : rn sc F 0 658 [l0, l1, l2, l3] [.int s0, .ref 999, .ref s2, .int s3] f a j = rn sc F 0 659 [l0, l1, l2, l3] [.int (sc.2 s0), .ref s2, .int s3] f a j := rn_go (rfl : zOp 0 658 = some (658, .iaload, 1, 0, 0, 0, 0, 0, [])) (zi_sald h)
set_option maxRecDepth 100000 in
theorem q0_659 {l1 l2 l3 : Value} {s0 : Int32} {s1 : Nat} {s2 : Int32} {x : Nat}  : rn sc F 0 659 [.ref x, l1, l2, l3] [.int s0, .ref s1, .int s2] f a j = rn sc F 0 660 [.ref x, l1, l2, l3] [.ref x, .int s0, .ref s1, .int s2] f a j := rn_go (rfl : zOp 0 659 = some (659, .aload_n 0, 1, 0, 0, 0, 0, 0, [])) rfl
set_option maxRecDepth 100000 in
theorem q0_660 {l0 l1 l2 : Value} {s0 : Nat} {s1 : Int32} {s2 : Nat} {s3 : Int32} {x : Int32}  : rn sc F 0 660 [l0, l1, l2, .int x] [.ref s0, .int s1, .ref s2, .int s3] f a j = rn sc F 0 661 [l0, l1, l2, .int x] [.int x, .ref s0, .int s1, .ref s2, .int s3] f a j := rn_go (rfl : zOp 0 660 = some (660, .iload_n 3, 1, 3, 0, 0, 0, 0, [])) rfl
set_option maxRecDepth 100000 in
theorem q0_661 {l0 l1 l2 l3 : Value} {s0 : Int32} {s1 : Nat} {s2 : Int32} {s3 : Nat} {s4 : Int32}  : rn sc F 0 661 [l0, l1, l2, l3] [.int s0, .ref s1, .int s2, .ref s3, .int s4] f a j = rn sc F 0 662 [l0, l1, l2, l3] [.int (nI 2), .int s0, .ref s1, .int s2, .ref s3, .int s4] f a j := rn_go (rfl : zOp 0 661 = some (661, .iconst 2, 1, 0, 0, 0, nI 2, 0, [])) rfl
set_option maxRecDepth 100000 in
theorem q0_662 {l0 l1 l2 l3 : Value} {s0 : Int32} {s1 : Int32} {s2 : Nat} {s3 : Int32} {s4 : Nat} {s5 : Int32}  : rn sc F 0 662 [l0, l1, l2, l3] [.int s0, .int s1, .ref s2, .int s3, .ref s4, .int s5] f a j = rn sc F 0 663 [l0, l1, l2, l3] [.int (s1 + s0), .ref s2, .int s3, .ref s4, .int s5] f a j := rn_go (rfl : zOp 0 662 = some (662, .iadd, 1, 0, 0, 0, 0, 0, [])) rfl
set_option maxRecDepth 100000 in
theorem q0_663 {l0 l1 l2 l3 : Value} {s0 : Int32} {s2 : Int32} {s3 : Nat} {s4 : Int32} (h : ¬ (s0 < 0 ∨ sc.1.toNatClampNeg ≤ s0.toNatClampNeg)) : rn sc F 0 663 [l0, l1, l2, l3] [.int s0, .ref 999, .int s2, .ref s3, .int s4] f a j = rn sc F 0 664 [l0, l1, l2, l3] [.int (sc.2 s0), .int s2, .ref s3, .int s4] f a j := rn_go (rfl : zOp 0 663 = some (663, .iaload, 1, 0, 0, 0, 0, 0, [])) (zi_sald h)
set_option maxRecDepth 100000 in
theorem q0_664 {l0 l1 l2 l3 : Value} {s0 : Int32} {s1 : Int32} {s3 : Int32}  : rn sc F 0 664 [l0, l1, l2, l3] [.int s0, .int s1, .ref 85, .int s3] f a j = zCall (F 150 [.ref 85, .int s1, .int s0] f a j) (fun v f a j => rn sc F 0 667 [l0, l1, l2, l3] (v.toList ++ [.int s3]) f a j) := rn_callV (rfl : zOp 0 664 = some (664, .invokevirtual 81, 3, 150, 2, 1036, 0, 0, [])) (by decide) rfl (rfl) (by simp [Value.category])
set_option maxRecDepth 100000 in
theorem q0_667 {l0 l1 l2 l3 : Value} {s0 : Int32} {s1 : Int32}  : rn sc F 0 667 [l0, l1, l2, l3] [.int s0, .int s1] f a j = if s1 = s0 then rn sc F 0 1407 [l0, l1, l2, l3] [] f a j else rn sc F 0 670 [l0, l1, l2, l3] [] f a j := (rn_go (rfl : zOp 0 667 = some (667, .if_icmp .eq 740, 3, 1407, 0, 0, 0, 0, [])) rfl).trans rn_ite
set_option maxRecDepth 100000 in
theorem q0_670 {l0 l1 l2 l3 : Value}   : rn sc F 0 670 [l0, l1, l2, l3] [] f a j = rn sc F 0 671 [l0, l1, l2, l3] [.int (nI 0)] f a j := rn_go (rfl : zOp 0 670 = some (670, .iconst 0, 1, 0, 0, 0, nI 0, 0, [])) rfl
set_option maxRecDepth 100000 in
theorem q0_671 {l0 l1 l2 l3 : Value} {s0 : Int32} (h : s0 = 0 ∨ s0 = 1) : rn sc F 0 671 [l0, l1, l2, l3] [.int s0] f a j = some (some (.int s0), f, a, j) := rn_end (rfl : zOp 0 671 = some (671, .ireturn, 1, 0, 0, 0, 0, 0, [])) (zi_retz h)
set_option maxRecDepth 100000 in
theorem q0_672 {l0 l2 l3 : Value} {x : Nat}  : rn sc F 0 672 [l0, .ref x, l2, l3] [] f a j = rn sc F 0 673 [l0, .ref x, l2, l3] [.ref x] f a j := rn_go (rfl : zOp 0 672 = some (672, .aload_n 1, 1, 1, 0, 0, 0, 0, [])) rfl
set_option maxRecDepth 100000 in
theorem q0_673 {l1 l2 l3 : Value} {s0 : Nat} {x : Nat}  : rn sc F 0 673 [.ref x, l1, l2, l3] [.ref s0] f a j = rn sc F 0 674 [.ref x, l1, l2, l3] [.ref x, .ref s0] f a j := rn_go (rfl : zOp 0 673 = some (673, .aload_n 0, 1, 0, 0, 0, 0, 0, [])) rfl
set_option maxRecDepth 100000 in
theorem q0_674 {l0 l1 l2 : Value} {s0 : Nat} {s1 : Nat} {x : Int32}  : rn sc F 0 674 [l0, l1, l2, .int x] [.ref s0, .ref s1] f a j = rn sc F 0 675 [l0, l1, l2, .int x] [.int x, .ref s0, .ref s1] f a j := rn_go (rfl : zOp 0 674 = some (674, .iload_n 3, 1, 3, 0, 0, 0, 0, [])) rfl
set_option maxRecDepth 100000 in
theorem q0_675 {l0 l1 l2 l3 : Value} {s0 : Int32} {s1 : Nat} {s2 : Nat}  : rn sc F 0 675 [l0, l1, l2, l3] [.int s0, .ref s1, .ref s2] f a j = rn sc F 0 676 [l0, l1, l2, l3] [.int (nI 1), .int s0, .ref s1, .ref s2] f a j := rn_go (rfl : zOp 0 675 = some (675, .iconst 1, 1, 0, 0, 0, nI 1, 0, [])) rfl
set_option maxRecDepth 100000 in
theorem q0_676 {l0 l1 l2 l3 : Value} {s0 : Int32} {s1 : Int32} {s2 : Nat} {s3 : Nat}  : rn sc F 0 676 [l0, l1, l2, l3] [.int s0, .int s1, .ref s2, .ref s3] f a j = rn sc F 0 677 [l0, l1, l2, l3] [.int (s1 + s0), .ref s2, .ref s3] f a j := rn_go (rfl : zOp 0 676 = some (676, .iadd, 1, 0, 0, 0, 0, 0, [])) rfl
set_option maxRecDepth 100000 in
theorem q0_677 {l0 l1 l2 l3 : Value} {s0 : Int32} {s2 : Nat} (h : ¬ (s0 < 0 ∨ sc.1.toNatClampNeg ≤ s0.toNatClampNeg)) : rn sc F 0 677 [l0, l1, l2, l3] [.int s0, .ref 999, .ref s2] f a j = rn sc F 0 678 [l0, l1, l2, l3] [.int (sc.2 s0), .ref s2] f a j := rn_go (rfl : zOp 0 677 = some (677, .iaload, 1, 0, 0, 0, 0, 0, [])) (zi_sald h)
set_option maxRecDepth 100000 in
theorem q0_678 {l0 l1 l2 l3 : Value} {s0 : Int32}  : rn sc F 0 678 [l0, l1, l2, l3] [.int s0, .ref 0] f a j = zCall (F 69 [.ref 0, .int s0] f a j) (fun v f a j => rn sc F 0 681 [l0, l1, l2, l3] (v.toList ++ []) f a j) := rn_callV (rfl : zOp 0 678 = some (678, .invokevirtual 82, 3, 69, 1, 586, 0, 0, [])) (by decide) rfl (rfl) (by simp [Value.category])
set_option maxRecDepth 100000 in
theorem q0_681 {l0 l1 l3 : Value} {s0 : Int32} {x : Nat}  : rn sc F 0 681 [l0, l1, .ref x, l3] [.int s0] f a j = rn sc F 0 682 [l0, l1, .ref x, l3] [.ref x, .int s0] f a j := rn_go (rfl : zOp 0 681 = some (681, .aload_n 2, 1, 2, 0, 0, 0, 0, [])) rfl
set_option maxRecDepth 100000 in
theorem q0_682 {l1 l2 l3 : Value} {s0 : Nat} {s1 : Int32} {x : Nat}  : rn sc F 0 682 [.ref x, l1, l2, l3] [.ref s0, .int s1] f a j = rn sc F 0 683 [.ref x, l1, l2, l3] [.ref x, .ref s0, .int s1] f a j := rn_go (rfl : zOp 0 682 = some (682, .aload_n 0, 1, 0, 0, 0, 0, 0, [])) rfl
set_option maxRecDepth 100000 in
theorem q0_683 {l0 l1 l2 : Value} {s0 : Nat} {s1 : Nat} {s2 : Int32} {x : Int32}  : rn sc F 0 683 [l0, l1, l2, .int x] [.ref s0, .ref s1, .int s2] f a j = rn sc F 0 684 [l0, l1, l2, .int x] [.int x, .ref s0, .ref s1, .int s2] f a j := rn_go (rfl : zOp 0 683 = some (683, .iload_n 3, 1, 3, 0, 0, 0, 0, [])) rfl
set_option maxRecDepth 100000 in
theorem q0_684 {l0 l1 l2 l3 : Value} {s0 : Int32} {s1 : Nat} {s2 : Nat} {s3 : Int32}  : rn sc F 0 684 [l0, l1, l2, l3] [.int s0, .ref s1, .ref s2, .int s3] f a j = rn sc F 0 685 [l0, l1, l2, l3] [.int (nI 1), .int s0, .ref s1, .ref s2, .int s3] f a j := rn_go (rfl : zOp 0 684 = some (684, .iconst 1, 1, 0, 0, 0, nI 1, 0, [])) rfl
set_option maxRecDepth 100000 in
theorem q0_685 {l0 l1 l2 l3 : Value} {s0 : Int32} {s1 : Int32} {s2 : Nat} {s3 : Nat} {s4 : Int32}  : rn sc F 0 685 [l0, l1, l2, l3] [.int s0, .int s1, .ref s2, .ref s3, .int s4] f a j = rn sc F 0 686 [l0, l1, l2, l3] [.int (s1 + s0), .ref s2, .ref s3, .int s4] f a j := rn_go (rfl : zOp 0 685 = some (685, .iadd, 1, 0, 0, 0, 0, 0, [])) rfl
set_option maxRecDepth 100000 in
theorem q0_686 {l0 l1 l2 l3 : Value} {s0 : Int32} {s2 : Nat} {s3 : Int32} (h : ¬ (s0 < 0 ∨ sc.1.toNatClampNeg ≤ s0.toNatClampNeg)) : rn sc F 0 686 [l0, l1, l2, l3] [.int s0, .ref 999, .ref s2, .int s3] f a j = rn sc F 0 687 [l0, l1, l2, l3] [.int (sc.2 s0), .ref s2, .int s3] f a j := rn_go (rfl : zOp 0 686 = some (686, .iaload, 1, 0, 0, 0, 0, 0, [])) (zi_sald h)
set_option maxRecDepth 100000 in
theorem q0_687 {l0 l1 l2 l3 : Value} {s0 : Int32} {s2 : Int32}  : rn sc F 0 687 [l0, l1, l2, l3] [.int s0, .ref 85, .int s2] f a j = zCall (F 152 [.ref 85, .int s0] f a j) (fun v f a j => rn sc F 0 690 [l0, l1, l2, l3] (v.toList ++ [.int s2]) f a j) := rn_callV (rfl : zOp 0 687 = some (687, .invokevirtual 85, 3, 152, 1, 1041, 0, 0, [])) (by decide) rfl (rfl) (by simp [Value.category])
set_option maxRecDepth 100000 in
theorem q0_690 {l0 l1 l2 l3 : Value} {s0 : Int32} {s1 : Int32}  : rn sc F 0 690 [l0, l1, l2, l3] [.int s0, .int s1] f a j = if s1 = s0 then rn sc F 0 1407 [l0, l1, l2, l3] [] f a j else rn sc F 0 693 [l0, l1, l2, l3] [] f a j := (rn_go (rfl : zOp 0 690 = some (690, .if_icmp .eq 717, 3, 1407, 0, 0, 0, 0, [])) rfl).trans rn_ite
set_option maxRecDepth 100000 in
theorem q0_693 {l0 l1 l2 l3 : Value}   : rn sc F 0 693 [l0, l1, l2, l3] [] f a j = rn sc F 0 694 [l0, l1, l2, l3] [.int (nI 0)] f a j := rn_go (rfl : zOp 0 693 = some (693, .iconst 0, 1, 0, 0, 0, nI 0, 0, [])) rfl
set_option maxRecDepth 100000 in
theorem q0_694 {l0 l1 l2 l3 : Value} {s0 : Int32} (h : s0 = 0 ∨ s0 = 1) : rn sc F 0 694 [l0, l1, l2, l3] [.int s0] f a j = some (some (.int s0), f, a, j) := rn_end (rfl : zOp 0 694 = some (694, .ireturn, 1, 0, 0, 0, 0, 0, [])) (zi_retz h)
set_option maxRecDepth 100000 in
theorem q0_695 {l0 l2 l3 : Value} {x : Nat}  : rn sc F 0 695 [l0, .ref x, l2, l3] [] f a j = rn sc F 0 696 [l0, .ref x, l2, l3] [.ref x] f a j := rn_go (rfl : zOp 0 695 = some (695, .aload_n 1, 1, 1, 0, 0, 0, 0, [])) rfl
set_option maxRecDepth 100000 in
theorem q0_696 {l1 l2 l3 : Value} {s0 : Nat} {x : Nat}  : rn sc F 0 696 [.ref x, l1, l2, l3] [.ref s0] f a j = rn sc F 0 697 [.ref x, l1, l2, l3] [.ref x, .ref s0] f a j := rn_go (rfl : zOp 0 696 = some (696, .aload_n 0, 1, 0, 0, 0, 0, 0, [])) rfl
set_option maxRecDepth 100000 in
theorem q0_697 {l0 l1 l2 : Value} {s0 : Nat} {s1 : Nat} {x : Int32}  : rn sc F 0 697 [l0, l1, l2, .int x] [.ref s0, .ref s1] f a j = rn sc F 0 698 [l0, l1, l2, .int x] [.int x, .ref s0, .ref s1] f a j := rn_go (rfl : zOp 0 697 = some (697, .iload_n 3, 1, 3, 0, 0, 0, 0, [])) rfl
set_option maxRecDepth 100000 in
theorem q0_698 {l0 l1 l2 l3 : Value} {s0 : Int32} {s1 : Nat} {s2 : Nat}  : rn sc F 0 698 [l0, l1, l2, l3] [.int s0, .ref s1, .ref s2] f a j = rn sc F 0 699 [l0, l1, l2, l3] [.int (nI 1), .int s0, .ref s1, .ref s2] f a j := rn_go (rfl : zOp 0 698 = some (698, .iconst 1, 1, 0, 0, 0, nI 1, 0, [])) rfl
set_option maxRecDepth 100000 in
theorem q0_699 {l0 l1 l2 l3 : Value} {s0 : Int32} {s1 : Int32} {s2 : Nat} {s3 : Nat}  : rn sc F 0 699 [l0, l1, l2, l3] [.int s0, .int s1, .ref s2, .ref s3] f a j = rn sc F 0 700 [l0, l1, l2, l3] [.int (s1 + s0), .ref s2, .ref s3] f a j := rn_go (rfl : zOp 0 699 = some (699, .iadd, 1, 0, 0, 0, 0, 0, [])) rfl
set_option maxRecDepth 100000 in
theorem q0_700 {l0 l1 l2 l3 : Value} {s0 : Int32} {s2 : Nat} (h : ¬ (s0 < 0 ∨ sc.1.toNatClampNeg ≤ s0.toNatClampNeg)) : rn sc F 0 700 [l0, l1, l2, l3] [.int s0, .ref 999, .ref s2] f a j = rn sc F 0 701 [l0, l1, l2, l3] [.int (sc.2 s0), .ref s2] f a j := rn_go (rfl : zOp 0 700 = some (700, .iaload, 1, 0, 0, 0, 0, 0, [])) (zi_sald h)
set_option maxRecDepth 100000 in
theorem q0_701 {l1 l2 l3 : Value} {s0 : Int32} {s1 : Nat} {x : Nat}  : rn sc F 0 701 [.ref x, l1, l2, l3] [.int s0, .ref s1] f a j = rn sc F 0 702 [.ref x, l1, l2, l3] [.ref x, .int s0, .ref s1] f a j := rn_go (rfl : zOp 0 701 = some (701, .aload_n 0, 1, 0, 0, 0, 0, 0, [])) rfl
set_option maxRecDepth 100000 in
theorem q0_702 {l0 l1 l2 : Value} {s0 : Nat} {s1 : Int32} {s2 : Nat} {x : Int32}  : rn sc F 0 702 [l0, l1, l2, .int x] [.ref s0, .int s1, .ref s2] f a j = rn sc F 0 703 [l0, l1, l2, .int x] [.int x, .ref s0, .int s1, .ref s2] f a j := rn_go (rfl : zOp 0 702 = some (702, .iload_n 3, 1, 3, 0, 0, 0, 0, [])) rfl
set_option maxRecDepth 100000 in
theorem q0_703 {l0 l1 l2 l3 : Value} {s0 : Int32} {s1 : Nat} {s2 : Int32} {s3 : Nat}  : rn sc F 0 703 [l0, l1, l2, l3] [.int s0, .ref s1, .int s2, .ref s3] f a j = rn sc F 0 704 [l0, l1, l2, l3] [.int (nI 2), .int s0, .ref s1, .int s2, .ref s3] f a j := rn_go (rfl : zOp 0 703 = some (703, .iconst 2, 1, 0, 0, 0, nI 2, 0, [])) rfl
set_option maxRecDepth 100000 in
theorem q0_704 {l0 l1 l2 l3 : Value} {s0 : Int32} {s1 : Int32} {s2 : Nat} {s3 : Int32} {s4 : Nat}  : rn sc F 0 704 [l0, l1, l2, l3] [.int s0, .int s1, .ref s2, .int s3, .ref s4] f a j = rn sc F 0 705 [l0, l1, l2, l3] [.int (s1 + s0), .ref s2, .int s3, .ref s4] f a j := rn_go (rfl : zOp 0 704 = some (704, .iadd, 1, 0, 0, 0, 0, 0, [])) rfl
set_option maxRecDepth 100000 in
theorem q0_705 {l0 l1 l2 l3 : Value} {s0 : Int32} {s2 : Int32} {s3 : Nat} (h : ¬ (s0 < 0 ∨ sc.1.toNatClampNeg ≤ s0.toNatClampNeg)) : rn sc F 0 705 [l0, l1, l2, l3] [.int s0, .ref 999, .int s2, .ref s3] f a j = rn sc F 0 706 [l0, l1, l2, l3] [.int (sc.2 s0), .int s2, .ref s3] f a j := rn_go (rfl : zOp 0 705 = some (705, .iaload, 1, 0, 0, 0, 0, 0, [])) (zi_sald h)
set_option maxRecDepth 100000 in
theorem q0_706 {l1 l2 l3 : Value} {s0 : Int32} {s1 : Int32} {s2 : Nat} {x : Nat}  : rn sc F 0 706 [.ref x, l1, l2, l3] [.int s0, .int s1, .ref s2] f a j = rn sc F 0 707 [.ref x, l1, l2, l3] [.ref x, .int s0, .int s1, .ref s2] f a j := rn_go (rfl : zOp 0 706 = some (706, .aload_n 0, 1, 0, 0, 0, 0, 0, [])) rfl
set_option maxRecDepth 100000 in
theorem q0_707 {l0 l1 l2 : Value} {s0 : Nat} {s1 : Int32} {s2 : Int32} {s3 : Nat} {x : Int32}  : rn sc F 0 707 [l0, l1, l2, .int x] [.ref s0, .int s1, .int s2, .ref s3] f a j = rn sc F 0 708 [l0, l1, l2, .int x] [.int x, .ref s0, .int s1, .int s2, .ref s3] f a j := rn_go (rfl : zOp 0 707 = some (707, .iload_n 3, 1, 3, 0, 0, 0, 0, [])) rfl
set_option maxRecDepth 100000 in
theorem q0_708 {l0 l1 l2 l3 : Value} {s0 : Int32} {s1 : Nat} {s2 : Int32} {s3 : Int32} {s4 : Nat}  : rn sc F 0 708 [l0, l1, l2, l3] [.int s0, .ref s1, .int s2, .int s3, .ref s4] f a j = rn sc F 0 709 [l0, l1, l2, l3] [.int (nI 3), .int s0, .ref s1, .int s2, .int s3, .ref s4] f a j := rn_go (rfl : zOp 0 708 = some (708, .iconst 3, 1, 0, 0, 0, nI 3, 0, [])) rfl
set_option maxRecDepth 100000 in
theorem q0_709 {l0 l1 l2 l3 : Value} {s0 : Int32} {s1 : Int32} {s2 : Nat} {s3 : Int32} {s4 : Int32} {s5 : Nat}  : rn sc F 0 709 [l0, l1, l2, l3] [.int s0, .int s1, .ref s2, .int s3, .int s4, .ref s5] f a j = rn sc F 0 710 [l0, l1, l2, l3] [.int (s1 + s0), .ref s2, .int s3, .int s4, .ref s5] f a j := rn_go (rfl : zOp 0 709 = some (709, .iadd, 1, 0, 0, 0, 0, 0, [])) rfl
set_option maxRecDepth 100000 in
theorem q0_710 {l0 l1 l2 l3 : Value} {s0 : Int32} {s2 : Int32} {s3 : Int32} {s4 : Nat} (h : ¬ (s0 < 0 ∨ sc.1.toNatClampNeg ≤ s0.toNatClampNeg)) : rn sc F 0 710 [l0, l1, l2, l3] [.int s0, .ref 999, .int s2, .int s3, .ref s4] f a j = rn sc F 0 711 [l0, l1, l2, l3] [.int (sc.2 s0), .int s2, .int s3, .ref s4] f a j := rn_go (rfl : zOp 0 710 = some (710, .iaload, 1, 0, 0, 0, 0, 0, [])) (zi_sald h)
set_option maxRecDepth 100000 in
theorem q0_711 {l0 l1 l2 l3 : Value} {s0 : Int32} {s1 : Int32} {s2 : Int32}  : rn sc F 0 711 [l0, l1, l2, l3] [.int s0, .int s1, .int s2, .ref 0] f a j = zCall (F 70 [.ref 0, .int s2, .int s1, .int s0] f a j) (fun v f a j => rn sc F 0 714 [l0, l1, l2, l3] (v.toList ++ []) f a j) := rn_callV (rfl : zOp 0 711 = some (711, .invokevirtual 86, 3, 70, 3, 612, 0, 0, [])) (by decide) rfl (rfl) (by simp [Value.category])
set_option maxRecDepth 100000 in
theorem q0_714 {l0 l1 l3 : Value} {s0 : Int32} {x : Nat}  : rn sc F 0 714 [l0, l1, .ref x, l3] [.int s0] f a j = rn sc F 0 715 [l0, l1, .ref x, l3] [.ref x, .int s0] f a j := rn_go (rfl : zOp 0 714 = some (714, .aload_n 2, 1, 2, 0, 0, 0, 0, [])) rfl
set_option maxRecDepth 100000 in
theorem q0_715 {l1 l2 l3 : Value} {s0 : Nat} {s1 : Int32} {x : Nat}  : rn sc F 0 715 [.ref x, l1, l2, l3] [.ref s0, .int s1] f a j = rn sc F 0 716 [.ref x, l1, l2, l3] [.ref x, .ref s0, .int s1] f a j := rn_go (rfl : zOp 0 715 = some (715, .aload_n 0, 1, 0, 0, 0, 0, 0, [])) rfl
set_option maxRecDepth 100000 in
theorem q0_716 {l0 l1 l2 : Value} {s0 : Nat} {s1 : Nat} {s2 : Int32} {x : Int32}  : rn sc F 0 716 [l0, l1, l2, .int x] [.ref s0, .ref s1, .int s2] f a j = rn sc F 0 717 [l0, l1, l2, .int x] [.int x, .ref s0, .ref s1, .int s2] f a j := rn_go (rfl : zOp 0 716 = some (716, .iload_n 3, 1, 3, 0, 0, 0, 0, [])) rfl
set_option maxRecDepth 100000 in
theorem q0_717 {l0 l1 l2 l3 : Value} {s0 : Int32} {s1 : Nat} {s2 : Nat} {s3 : Int32}  : rn sc F 0 717 [l0, l1, l2, l3] [.int s0, .ref s1, .ref s2, .int s3] f a j = rn sc F 0 718 [l0, l1, l2, l3] [.int (nI 1), .int s0, .ref s1, .ref s2, .int s3] f a j := rn_go (rfl : zOp 0 717 = some (717, .iconst 1, 1, 0, 0, 0, nI 1, 0, [])) rfl
set_option maxRecDepth 100000 in
theorem q0_718 {l0 l1 l2 l3 : Value} {s0 : Int32} {s1 : Int32} {s2 : Nat} {s3 : Nat} {s4 : Int32}  : rn sc F 0 718 [l0, l1, l2, l3] [.int s0, .int s1, .ref s2, .ref s3, .int s4] f a j = rn sc F 0 719 [l0, l1, l2, l3] [.int (s1 + s0), .ref s2, .ref s3, .int s4] f a j := rn_go (rfl : zOp 0 718 = some (718, .iadd, 1, 0, 0, 0, 0, 0, [])) rfl
set_option maxRecDepth 100000 in
theorem q0_719 {l0 l1 l2 l3 : Value} {s0 : Int32} {s2 : Nat} {s3 : Int32} (h : ¬ (s0 < 0 ∨ sc.1.toNatClampNeg ≤ s0.toNatClampNeg)) : rn sc F 0 719 [l0, l1, l2, l3] [.int s0, .ref 999, .ref s2, .int s3] f a j = rn sc F 0 720 [l0, l1, l2, l3] [.int (sc.2 s0), .ref s2, .int s3] f a j := rn_go (rfl : zOp 0 719 = some (719, .iaload, 1, 0, 0, 0, 0, 0, [])) (zi_sald h)
set_option maxRecDepth 100000 in
theorem q0_720 {l1 l2 l3 : Value} {s0 : Int32} {s1 : Nat} {s2 : Int32} {x : Nat}  : rn sc F 0 720 [.ref x, l1, l2, l3] [.int s0, .ref s1, .int s2] f a j = rn sc F 0 721 [.ref x, l1, l2, l3] [.ref x, .int s0, .ref s1, .int s2] f a j := rn_go (rfl : zOp 0 720 = some (720, .aload_n 0, 1, 0, 0, 0, 0, 0, [])) rfl
set_option maxRecDepth 100000 in
theorem q0_721 {l0 l1 l2 : Value} {s0 : Nat} {s1 : Int32} {s2 : Nat} {s3 : Int32} {x : Int32}  : rn sc F 0 721 [l0, l1, l2, .int x] [.ref s0, .int s1, .ref s2, .int s3] f a j = rn sc F 0 722 [l0, l1, l2, .int x] [.int x, .ref s0, .int s1, .ref s2, .int s3] f a j := rn_go (rfl : zOp 0 721 = some (721, .iload_n 3, 1, 3, 0, 0, 0, 0, [])) rfl
set_option maxRecDepth 100000 in
theorem q0_722 {l0 l1 l2 l3 : Value} {s0 : Int32} {s1 : Nat} {s2 : Int32} {s3 : Nat} {s4 : Int32}  : rn sc F 0 722 [l0, l1, l2, l3] [.int s0, .ref s1, .int s2, .ref s3, .int s4] f a j = rn sc F 0 723 [l0, l1, l2, l3] [.int (nI 2), .int s0, .ref s1, .int s2, .ref s3, .int s4] f a j := rn_go (rfl : zOp 0 722 = some (722, .iconst 2, 1, 0, 0, 0, nI 2, 0, [])) rfl
set_option maxRecDepth 100000 in
theorem q0_723 {l0 l1 l2 l3 : Value} {s0 : Int32} {s1 : Int32} {s2 : Nat} {s3 : Int32} {s4 : Nat} {s5 : Int32}  : rn sc F 0 723 [l0, l1, l2, l3] [.int s0, .int s1, .ref s2, .int s3, .ref s4, .int s5] f a j = rn sc F 0 724 [l0, l1, l2, l3] [.int (s1 + s0), .ref s2, .int s3, .ref s4, .int s5] f a j := rn_go (rfl : zOp 0 723 = some (723, .iadd, 1, 0, 0, 0, 0, 0, [])) rfl
set_option maxRecDepth 100000 in
theorem q0_724 {l0 l1 l2 l3 : Value} {s0 : Int32} {s2 : Int32} {s3 : Nat} {s4 : Int32} (h : ¬ (s0 < 0 ∨ sc.1.toNatClampNeg ≤ s0.toNatClampNeg)) : rn sc F 0 724 [l0, l1, l2, l3] [.int s0, .ref 999, .int s2, .ref s3, .int s4] f a j = rn sc F 0 725 [l0, l1, l2, l3] [.int (sc.2 s0), .int s2, .ref s3, .int s4] f a j := rn_go (rfl : zOp 0 724 = some (724, .iaload, 1, 0, 0, 0, 0, 0, [])) (zi_sald h)
set_option maxRecDepth 100000 in
theorem q0_725 {l1 l2 l3 : Value} {s0 : Int32} {s1 : Int32} {s2 : Nat} {s3 : Int32} {x : Nat}  : rn sc F 0 725 [.ref x, l1, l2, l3] [.int s0, .int s1, .ref s2, .int s3] f a j = rn sc F 0 726 [.ref x, l1, l2, l3] [.ref x, .int s0, .int s1, .ref s2, .int s3] f a j := rn_go (rfl : zOp 0 725 = some (725, .aload_n 0, 1, 0, 0, 0, 0, 0, [])) rfl
set_option maxRecDepth 100000 in
theorem q0_726 {l0 l1 l2 : Value} {s0 : Nat} {s1 : Int32} {s2 : Int32} {s3 : Nat} {s4 : Int32} {x : Int32}  : rn sc F 0 726 [l0, l1, l2, .int x] [.ref s0, .int s1, .int s2, .ref s3, .int s4] f a j = rn sc F 0 727 [l0, l1, l2, .int x] [.int x, .ref s0, .int s1, .int s2, .ref s3, .int s4] f a j := rn_go (rfl : zOp 0 726 = some (726, .iload_n 3, 1, 3, 0, 0, 0, 0, [])) rfl
set_option maxRecDepth 100000 in
theorem q0_727 {l0 l1 l2 l3 : Value} {s0 : Int32} {s1 : Nat} {s2 : Int32} {s3 : Int32} {s4 : Nat} {s5 : Int32}  : rn sc F 0 727 [l0, l1, l2, l3] [.int s0, .ref s1, .int s2, .int s3, .ref s4, .int s5] f a j = rn sc F 0 728 [l0, l1, l2, l3] [.int (nI 3), .int s0, .ref s1, .int s2, .int s3, .ref s4, .int s5] f a j := rn_go (rfl : zOp 0 727 = some (727, .iconst 3, 1, 0, 0, 0, nI 3, 0, [])) rfl
set_option maxRecDepth 100000 in
theorem q0_728 {l0 l1 l2 l3 : Value} {s0 : Int32} {s1 : Int32} {s2 : Nat} {s3 : Int32} {s4 : Int32} {s5 : Nat} {s6 : Int32}  : rn sc F 0 728 [l0, l1, l2, l3] [.int s0, .int s1, .ref s2, .int s3, .int s4, .ref s5, .int s6] f a j = rn sc F 0 729 [l0, l1, l2, l3] [.int (s1 + s0), .ref s2, .int s3, .int s4, .ref s5, .int s6] f a j := rn_go (rfl : zOp 0 728 = some (728, .iadd, 1, 0, 0, 0, 0, 0, [])) rfl
set_option maxRecDepth 100000 in
theorem q0_729 {l0 l1 l2 l3 : Value} {s0 : Int32} {s2 : Int32} {s3 : Int32} {s4 : Nat} {s5 : Int32} (h : ¬ (s0 < 0 ∨ sc.1.toNatClampNeg ≤ s0.toNatClampNeg)) : rn sc F 0 729 [l0, l1, l2, l3] [.int s0, .ref 999, .int s2, .int s3, .ref s4, .int s5] f a j = rn sc F 0 730 [l0, l1, l2, l3] [.int (sc.2 s0), .int s2, .int s3, .ref s4, .int s5] f a j := rn_go (rfl : zOp 0 729 = some (729, .iaload, 1, 0, 0, 0, 0, 0, [])) (zi_sald h)
set_option maxRecDepth 100000 in
theorem q0_730 {l0 l1 l2 l3 : Value} {s0 : Int32} {s1 : Int32} {s2 : Int32} {s4 : Int32}  : rn sc F 0 730 [l0, l1, l2, l3] [.int s0, .int s1, .int s2, .ref 85, .int s4] f a j = zCall (F 153 [.ref 85, .int s2, .int s1, .int s0] f a j) (fun v f a j => rn sc F 0 733 [l0, l1, l2, l3] (v.toList ++ [.int s4]) f a j) := rn_callV (rfl : zOp 0 730 = some (730, .invokevirtual 89, 3, 153, 3, 1061, 0, 0, [])) (by decide) rfl (rfl) (by simp [Value.category])
set_option maxRecDepth 100000 in
theorem q0_733 {l0 l1 l2 l3 : Value} {s0 : Int32} {s1 : Int32}  : rn sc F 0 733 [l0, l1, l2, l3] [.int s0, .int s1] f a j = if s1 = s0 then rn sc F 0 1407 [l0, l1, l2, l3] [] f a j else rn sc F 0 736 [l0, l1, l2, l3] [] f a j := (rn_go (rfl : zOp 0 733 = some (733, .if_icmp .eq 674, 3, 1407, 0, 0, 0, 0, [])) rfl).trans rn_ite
set_option maxRecDepth 100000 in
theorem q0_736 {l0 l1 l2 l3 : Value}   : rn sc F 0 736 [l0, l1, l2, l3] [] f a j = rn sc F 0 737 [l0, l1, l2, l3] [.int (nI 0)] f a j := rn_go (rfl : zOp 0 736 = some (736, .iconst 0, 1, 0, 0, 0, nI 0, 0, [])) rfl
set_option maxRecDepth 100000 in
theorem q0_737 {l0 l1 l2 l3 : Value} {s0 : Int32} (h : s0 = 0 ∨ s0 = 1) : rn sc F 0 737 [l0, l1, l2, l3] [.int s0] f a j = some (some (.int s0), f, a, j) := rn_end (rfl : zOp 0 737 = some (737, .ireturn, 1, 0, 0, 0, 0, 0, [])) (zi_retz h)
set_option maxRecDepth 100000 in
theorem q0_738 {l0 l2 l3 : Value} {x : Nat}  : rn sc F 0 738 [l0, .ref x, l2, l3] [] f a j = rn sc F 0 739 [l0, .ref x, l2, l3] [.ref x] f a j := rn_go (rfl : zOp 0 738 = some (738, .aload_n 1, 1, 1, 0, 0, 0, 0, [])) rfl
set_option maxRecDepth 100000 in
theorem q0_739 {l0 l1 l2 l3 : Value}   : rn sc F 0 739 [l0, l1, l2, l3] [.ref 0] f a j = zCall (F 71 [.ref 0] f a j) (fun v f a j => rn sc F 0 742 [l0, l1, l2, l3] (v.toList ++ []) f a j) := rn_callV (rfl : zOp 0 739 = some (739, .invokevirtual 90, 3, 71, 0, 620, 0, 0, [])) (by decide) rfl (rfl) (by simp [Value.category])
set_option maxRecDepth 100000 in
theorem q0_742 {l0 l1 l3 : Value} {s0 : Int32} {x : Nat}  : rn sc F 0 742 [l0, l1, .ref x, l3] [.int s0] f a j = rn sc F 0 743 [l0, l1, .ref x, l3] [.ref x, .int s0] f a j := rn_go (rfl : zOp 0 742 = some (742, .aload_n 2, 1, 2, 0, 0, 0, 0, [])) rfl
set_option maxRecDepth 100000 in
theorem q0_743 {l0 l1 l2 l3 : Value} {s1 : Int32}  : rn sc F 0 743 [l0, l1, l2, l3] [.ref 85, .int s1] f a j = zCall (F 154 [.ref 85] f a j) (fun v f a j => rn sc F 0 746 [l0, l1, l2, l3] (v.toList ++ [.int s1]) f a j) := rn_callV (rfl : zOp 0 743 = some (743, .invokevirtual 93, 3, 154, 0, 1065, 0, 0, [])) (by decide) rfl (rfl) (by simp [Value.category])
set_option maxRecDepth 100000 in
theorem q0_746 {l0 l1 l2 l3 : Value} {s0 : Int32} {s1 : Int32}  : rn sc F 0 746 [l0, l1, l2, l3] [.int s0, .int s1] f a j = if s1 = s0 then rn sc F 0 1407 [l0, l1, l2, l3] [] f a j else rn sc F 0 749 [l0, l1, l2, l3] [] f a j := (rn_go (rfl : zOp 0 746 = some (746, .if_icmp .eq 661, 3, 1407, 0, 0, 0, 0, [])) rfl).trans rn_ite
set_option maxRecDepth 100000 in
theorem q0_749 {l0 l1 l2 l3 : Value}   : rn sc F 0 749 [l0, l1, l2, l3] [] f a j = rn sc F 0 750 [l0, l1, l2, l3] [.int (nI 0)] f a j := rn_go (rfl : zOp 0 749 = some (749, .iconst 0, 1, 0, 0, 0, nI 0, 0, [])) rfl
set_option maxRecDepth 100000 in
theorem q0_750 {l0 l1 l2 l3 : Value} {s0 : Int32} (h : s0 = 0 ∨ s0 = 1) : rn sc F 0 750 [l0, l1, l2, l3] [.int s0] f a j = some (some (.int s0), f, a, j) := rn_end (rfl : zOp 0 750 = some (750, .ireturn, 1, 0, 0, 0, 0, 0, [])) (zi_retz h)
set_option maxRecDepth 100000 in
theorem q0_751 {l0 l2 l3 : Value} {x : Nat}  : rn sc F 0 751 [l0, .ref x, l2, l3] [] f a j = rn sc F 0 752 [l0, .ref x, l2, l3] [.ref x] f a j := rn_go (rfl : zOp 0 751 = some (751, .aload_n 1, 1, 1, 0, 0, 0, 0, [])) rfl
set_option maxRecDepth 100000 in
theorem q0_752 {l1 l2 l3 : Value} {s0 : Nat} {x : Nat}  : rn sc F 0 752 [.ref x, l1, l2, l3] [.ref s0] f a j = rn sc F 0 753 [.ref x, l1, l2, l3] [.ref x, .ref s0] f a j := rn_go (rfl : zOp 0 752 = some (752, .aload_n 0, 1, 0, 0, 0, 0, 0, [])) rfl
set_option maxRecDepth 100000 in
theorem q0_753 {l0 l1 l2 : Value} {s0 : Nat} {s1 : Nat} {x : Int32}  : rn sc F 0 753 [l0, l1, l2, .int x] [.ref s0, .ref s1] f a j = rn sc F 0 754 [l0, l1, l2, .int x] [.int x, .ref s0, .ref s1] f a j := rn_go (rfl : zOp 0 753 = some (753, .iload_n 3, 1, 3, 0, 0, 0, 0, [])) rfl
set_option maxRecDepth 100000 in
theorem q0_754 {l0 l1 l2 l3 : Value} {s0 : Int32} {s1 : Nat} {s2 : Nat}  : rn sc F 0 754 [l0, l1, l2, l3] [.int s0, .ref s1, .ref s2] f a j = rn sc F 0 755 [l0, l1, l2, l3] [.int (nI 1), .int s0, .ref s1, .ref s2] f a j := rn_go (rfl : zOp 0 754 = some (754, .iconst 1, 1, 0, 0, 0, nI 1, 0, [])) rfl
set_option maxRecDepth 100000 in
theorem q0_755 {l0 l1 l2 l3 : Value} {s0 : Int32} {s1 : Int32} {s2 : Nat} {s3 : Nat}  : rn sc F 0 755 [l0, l1, l2, l3] [.int s0, .int s1, .ref s2, .ref s3] f a j = rn sc F 0 756 [l0, l1, l2, l3] [.int (s1 + s0), .ref s2, .ref s3] f a j := rn_go (rfl : zOp 0 755 = some (755, .iadd, 1, 0, 0, 0, 0, 0, [])) rfl
set_option maxRecDepth 100000 in
theorem q0_756 {l0 l1 l2 l3 : Value} {s0 : Int32} {s2 : Nat} (h : ¬ (s0 < 0 ∨ sc.1.toNatClampNeg ≤ s0.toNatClampNeg)) : rn sc F 0 756 [l0, l1, l2, l3] [.int s0, .ref 999, .ref s2] f a j = rn sc F 0 757 [l0, l1, l2, l3] [.int (sc.2 s0), .ref s2] f a j := rn_go (rfl : zOp 0 756 = some (756, .iaload, 1, 0, 0, 0, 0, 0, [])) (zi_sald h)
set_option maxRecDepth 100000 in
theorem q0_757 {l1 l2 l3 : Value} {s0 : Int32} {s1 : Nat} {x : Nat}  : rn sc F 0 757 [.ref x, l1, l2, l3] [.int s0, .ref s1] f a j = rn sc F 0 758 [.ref x, l1, l2, l3] [.ref x, .int s0, .ref s1] f a j := rn_go (rfl : zOp 0 757 = some (757, .aload_n 0, 1, 0, 0, 0, 0, 0, [])) rfl
set_option maxRecDepth 100000 in
theorem q0_758 {l0 l1 l2 : Value} {s0 : Nat} {s1 : Int32} {s2 : Nat} {x : Int32}  : rn sc F 0 758 [l0, l1, l2, .int x] [.ref s0, .int s1, .ref s2] f a j = rn sc F 0 759 [l0, l1, l2, .int x] [.int x, .ref s0, .int s1, .ref s2] f a j := rn_go (rfl : zOp 0 758 = some (758, .iload_n 3, 1, 3, 0, 0, 0, 0, [])) rfl
set_option maxRecDepth 100000 in
theorem q0_759 {l0 l1 l2 l3 : Value} {s0 : Int32} {s1 : Nat} {s2 : Int32} {s3 : Nat}  : rn sc F 0 759 [l0, l1, l2, l3] [.int s0, .ref s1, .int s2, .ref s3] f a j = rn sc F 0 760 [l0, l1, l2, l3] [.int (nI 2), .int s0, .ref s1, .int s2, .ref s3] f a j := rn_go (rfl : zOp 0 759 = some (759, .iconst 2, 1, 0, 0, 0, nI 2, 0, [])) rfl
set_option maxRecDepth 100000 in
theorem q0_760 {l0 l1 l2 l3 : Value} {s0 : Int32} {s1 : Int32} {s2 : Nat} {s3 : Int32} {s4 : Nat}  : rn sc F 0 760 [l0, l1, l2, l3] [.int s0, .int s1, .ref s2, .int s3, .ref s4] f a j = rn sc F 0 761 [l0, l1, l2, l3] [.int (s1 + s0), .ref s2, .int s3, .ref s4] f a j := rn_go (rfl : zOp 0 760 = some (760, .iadd, 1, 0, 0, 0, 0, 0, [])) rfl
set_option maxRecDepth 100000 in
theorem q0_761 {l0 l1 l2 l3 : Value} {s0 : Int32} {s2 : Int32} {s3 : Nat} (h : ¬ (s0 < 0 ∨ sc.1.toNatClampNeg ≤ s0.toNatClampNeg)) : rn sc F 0 761 [l0, l1, l2, l3] [.int s0, .ref 999, .int s2, .ref s3] f a j = rn sc F 0 762 [l0, l1, l2, l3] [.int (sc.2 s0), .int s2, .ref s3] f a j := rn_go (rfl : zOp 0 761 = some (761, .iaload, 1, 0, 0, 0, 0, 0, [])) (zi_sald h)
set_option maxRecDepth 100000 in
theorem q0_762 {l0 l1 l2 l3 : Value} {s0 : Int32} {s1 : Int32}  : rn sc F 0 762 [l0, l1, l2, l3] [.int s0, .int s1, .ref 0] f a j = zCall (F 72 [.ref 0, .int s1, .int s0] f a j) (fun v f a j => rn sc F 0 765 [l0, l1, l2, l3] (v.toList ++ []) f a j) := rn_callV (rfl : zOp 0 762 = some (762, .invokevirtual 94, 3, 72, 2, 624, 0, 0, [])) (by decide) rfl (rfl) (by simp [Value.category])
set_option maxRecDepth 100000 in
theorem q0_765 {l0 l1 l3 : Value} {s0 : Int32} {x : Nat}  : rn sc F 0 765 [l0, l1, .ref x, l3] [.int s0] f a j = rn sc F 0 766 [l0, l1, .ref x, l3] [.ref x, .int s0] f a j := rn_go (rfl : zOp 0 765 = some (765, .aload_n 2, 1, 2, 0, 0, 0, 0, [])) rfl
set_option maxRecDepth 100000 in
theorem q0_766 {l1 l2 l3 : Value} {s0 : Nat} {s1 : Int32} {x : Nat}  : rn sc F 0 766 [.ref x, l1, l2, l3] [.ref s0, .int s1] f a j = rn sc F 0 767 [.ref x, l1, l2, l3] [.ref x, .ref s0, .int s1] f a j := rn_go (rfl : zOp 0 766 = some (766, .aload_n 0, 1, 0, 0, 0, 0, 0, [])) rfl
set_option maxRecDepth 100000 in
theorem q0_767 {l0 l1 l2 : Value} {s0 : Nat} {s1 : Nat} {s2 : Int32} {x : Int32}  : rn sc F 0 767 [l0, l1, l2, .int x] [.ref s0, .ref s1, .int s2] f a j = rn sc F 0 768 [l0, l1, l2, .int x] [.int x, .ref s0, .ref s1, .int s2] f a j := rn_go (rfl : zOp 0 767 = some (767, .iload_n 3, 1, 3, 0, 0, 0, 0, [])) rfl
set_option maxRecDepth 100000 in
theorem q0_768 {l0 l1 l2 l3 : Value} {s0 : Int32} {s1 : Nat} {s2 : Nat} {s3 : Int32}  : rn sc F 0 768 [l0, l1, l2, l3] [.int s0, .ref s1, .ref s2, .int s3] f a j = rn sc F 0 769 [l0, l1, l2, l3] [.int (nI 1), .int s0, .ref s1, .ref s2, .int s3] f a j := rn_go (rfl : zOp 0 768 = some (768, .iconst 1, 1, 0, 0, 0, nI 1, 0, [])) rfl
set_option maxRecDepth 100000 in
theorem q0_769 {l0 l1 l2 l3 : Value} {s0 : Int32} {s1 : Int32} {s2 : Nat} {s3 : Nat} {s4 : Int32}  : rn sc F 0 769 [l0, l1, l2, l3] [.int s0, .int s1, .ref s2, .ref s3, .int s4] f a j = rn sc F 0 770 [l0, l1, l2, l3] [.int (s1 + s0), .ref s2, .ref s3, .int s4] f a j := rn_go (rfl : zOp 0 769 = some (769, .iadd, 1, 0, 0, 0, 0, 0, [])) rfl
set_option maxRecDepth 100000 in
theorem q0_770 {l0 l1 l2 l3 : Value} {s0 : Int32} {s2 : Nat} {s3 : Int32} (h : ¬ (s0 < 0 ∨ sc.1.toNatClampNeg ≤ s0.toNatClampNeg)) : rn sc F 0 770 [l0, l1, l2, l3] [.int s0, .ref 999, .ref s2, .int s3] f a j = rn sc F 0 771 [l0, l1, l2, l3] [.int (sc.2 s0), .ref s2, .int s3] f a j := rn_go (rfl : zOp 0 770 = some (770, .iaload, 1, 0, 0, 0, 0, 0, [])) (zi_sald h)
set_option maxRecDepth 100000 in
theorem q0_771 {l1 l2 l3 : Value} {s0 : Int32} {s1 : Nat} {s2 : Int32} {x : Nat}  : rn sc F 0 771 [.ref x, l1, l2, l3] [.int s0, .ref s1, .int s2] f a j = rn sc F 0 772 [.ref x, l1, l2, l3] [.ref x, .int s0, .ref s1, .int s2] f a j := rn_go (rfl : zOp 0 771 = some (771, .aload_n 0, 1, 0, 0, 0, 0, 0, [])) rfl
set_option maxRecDepth 100000 in
theorem q0_772 {l0 l1 l2 : Value} {s0 : Nat} {s1 : Int32} {s2 : Nat} {s3 : Int32} {x : Int32}  : rn sc F 0 772 [l0, l1, l2, .int x] [.ref s0, .int s1, .ref s2, .int s3] f a j = rn sc F 0 773 [l0, l1, l2, .int x] [.int x, .ref s0, .int s1, .ref s2, .int s3] f a j := rn_go (rfl : zOp 0 772 = some (772, .iload_n 3, 1, 3, 0, 0, 0, 0, [])) rfl
set_option maxRecDepth 100000 in
theorem q0_773 {l0 l1 l2 l3 : Value} {s0 : Int32} {s1 : Nat} {s2 : Int32} {s3 : Nat} {s4 : Int32}  : rn sc F 0 773 [l0, l1, l2, l3] [.int s0, .ref s1, .int s2, .ref s3, .int s4] f a j = rn sc F 0 774 [l0, l1, l2, l3] [.int (nI 2), .int s0, .ref s1, .int s2, .ref s3, .int s4] f a j := rn_go (rfl : zOp 0 773 = some (773, .iconst 2, 1, 0, 0, 0, nI 2, 0, [])) rfl
set_option maxRecDepth 100000 in
theorem q0_774 {l0 l1 l2 l3 : Value} {s0 : Int32} {s1 : Int32} {s2 : Nat} {s3 : Int32} {s4 : Nat} {s5 : Int32}  : rn sc F 0 774 [l0, l1, l2, l3] [.int s0, .int s1, .ref s2, .int s3, .ref s4, .int s5] f a j = rn sc F 0 775 [l0, l1, l2, l3] [.int (s1 + s0), .ref s2, .int s3, .ref s4, .int s5] f a j := rn_go (rfl : zOp 0 774 = some (774, .iadd, 1, 0, 0, 0, 0, 0, [])) rfl
set_option maxRecDepth 100000 in
theorem q0_775 {l0 l1 l2 l3 : Value} {s0 : Int32} {s2 : Int32} {s3 : Nat} {s4 : Int32} (h : ¬ (s0 < 0 ∨ sc.1.toNatClampNeg ≤ s0.toNatClampNeg)) : rn sc F 0 775 [l0, l1, l2, l3] [.int s0, .ref 999, .int s2, .ref s3, .int s4] f a j = rn sc F 0 776 [l0, l1, l2, l3] [.int (sc.2 s0), .int s2, .ref s3, .int s4] f a j := rn_go (rfl : zOp 0 775 = some (775, .iaload, 1, 0, 0, 0, 0, 0, [])) (zi_sald h)
set_option maxRecDepth 100000 in
theorem q0_776 {l0 l1 l2 l3 : Value} {s0 : Int32} {s1 : Int32} {s3 : Int32}  : rn sc F 0 776 [l0, l1, l2, l3] [.int s0, .int s1, .ref 85, .int s3] f a j = zCall (F 155 [.ref 85, .int s1, .int s0] f a j) (fun v f a j => rn sc F 0 779 [l0, l1, l2, l3] (v.toList ++ [.int s3]) f a j) := rn_callV (rfl : zOp 0 776 = some (776, .invokevirtual 97, 3, 155, 2, 1069, 0, 0, [])) (by decide) rfl (rfl) (by simp [Value.category])
set_option maxRecDepth 100000 in
theorem q0_779 {l0 l1 l2 l3 : Value} {s0 : Int32} {s1 : Int32}  : rn sc F 0 779 [l0, l1, l2, l3] [.int s0, .int s1] f a j = if s1 = s0 then rn sc F 0 1407 [l0, l1, l2, l3] [] f a j else rn sc F 0 782 [l0, l1, l2, l3] [] f a j := (rn_go (rfl : zOp 0 779 = some (779, .if_icmp .eq 628, 3, 1407, 0, 0, 0, 0, [])) rfl).trans rn_ite
set_option maxRecDepth 100000 in
theorem q0_782 {l0 l1 l2 l3 : Value}   : rn sc F 0 782 [l0, l1, l2, l3] [] f a j = rn sc F 0 783 [l0, l1, l2, l3] [.int (nI 0)] f a j := rn_go (rfl : zOp 0 782 = some (782, .iconst 0, 1, 0, 0, 0, nI 0, 0, [])) rfl
set_option maxRecDepth 100000 in
theorem q0_783 {l0 l1 l2 l3 : Value} {s0 : Int32} (h : s0 = 0 ∨ s0 = 1) : rn sc F 0 783 [l0, l1, l2, l3] [.int s0] f a j = some (some (.int s0), f, a, j) := rn_end (rfl : zOp 0 783 = some (783, .ireturn, 1, 0, 0, 0, 0, 0, [])) (zi_retz h)
set_option maxRecDepth 100000 in
theorem q0_784 {l0 l2 l3 : Value} {x : Nat}  : rn sc F 0 784 [l0, .ref x, l2, l3] [] f a j = rn sc F 0 785 [l0, .ref x, l2, l3] [.ref x] f a j := rn_go (rfl : zOp 0 784 = some (784, .aload_n 1, 1, 1, 0, 0, 0, 0, [])) rfl
set_option maxRecDepth 100000 in
theorem q0_785 {l1 l2 l3 : Value} {s0 : Nat} {x : Nat}  : rn sc F 0 785 [.ref x, l1, l2, l3] [.ref s0] f a j = rn sc F 0 786 [.ref x, l1, l2, l3] [.ref x, .ref s0] f a j := rn_go (rfl : zOp 0 785 = some (785, .aload_n 0, 1, 0, 0, 0, 0, 0, [])) rfl
set_option maxRecDepth 100000 in
theorem q0_786 {l0 l1 l2 : Value} {s0 : Nat} {s1 : Nat} {x : Int32}  : rn sc F 0 786 [l0, l1, l2, .int x] [.ref s0, .ref s1] f a j = rn sc F 0 787 [l0, l1, l2, .int x] [.int x, .ref s0, .ref s1] f a j := rn_go (rfl : zOp 0 786 = some (786, .iload_n 3, 1, 3, 0, 0, 0, 0, [])) rfl
set_option maxRecDepth 100000 in
theorem q0_787 {l0 l1 l2 l3 : Value} {s0 : Int32} {s1 : Nat} {s2 : Nat}  : rn sc F 0 787 [l0, l1, l2, l3] [.int s0, .ref s1, .ref s2] f a j = rn sc F 0 788 [l0, l1, l2, l3] [.int (nI 1), .int s0, .ref s1, .ref s2] f a j := rn_go (rfl : zOp 0 787 = some (787, .iconst 1, 1, 0, 0, 0, nI 1, 0, [])) rfl
set_option maxRecDepth 100000 in
theorem q0_788 {l0 l1 l2 l3 : Value} {s0 : Int32} {s1 : Int32} {s2 : Nat} {s3 : Nat}  : rn sc F 0 788 [l0, l1, l2, l3] [.int s0, .int s1, .ref s2, .ref s3] f a j = rn sc F 0 789 [l0, l1, l2, l3] [.int (s1 + s0), .ref s2, .ref s3] f a j := rn_go (rfl : zOp 0 788 = some (788, .iadd, 1, 0, 0, 0, 0, 0, [])) rfl
set_option maxRecDepth 100000 in
theorem q0_789 {l0 l1 l2 l3 : Value} {s0 : Int32} {s2 : Nat} (h : ¬ (s0 < 0 ∨ sc.1.toNatClampNeg ≤ s0.toNatClampNeg)) : rn sc F 0 789 [l0, l1, l2, l3] [.int s0, .ref 999, .ref s2] f a j = rn sc F 0 790 [l0, l1, l2, l3] [.int (sc.2 s0), .ref s2] f a j := rn_go (rfl : zOp 0 789 = some (789, .iaload, 1, 0, 0, 0, 0, 0, [])) (zi_sald h)
set_option maxRecDepth 100000 in
theorem q0_790 {l0 l1 l2 l3 : Value} {s0 : Int32}  : rn sc F 0 790 [l0, l1, l2, l3] [.int s0, .ref 0] f a j = zCall (F 73 [.ref 0, .int s0] f a j) (fun v f a j => rn sc F 0 793 [l0, l1, l2, l3] (v.toList ++ []) f a j) := rn_callV (rfl : zOp 0 790 = some (790, .invokevirtual 98, 3, 73, 1, 628, 0, 0, [])) (by decide) rfl (rfl) (by simp [Value.category])
set_option maxRecDepth 100000 in
theorem q0_793 {l0 l1 l3 : Value} {s0 : Int32} {x : Nat}  : rn sc F 0 793 [l0, l1, .ref x, l3] [.int s0] f a j = rn sc F 0 794 [l0, l1, .ref x, l3] [.ref x, .int s0] f a j := rn_go (rfl : zOp 0 793 = some (793, .aload_n 2, 1, 2, 0, 0, 0, 0, [])) rfl
set_option maxRecDepth 100000 in
theorem q0_794 {l1 l2 l3 : Value} {s0 : Nat} {s1 : Int32} {x : Nat}  : rn sc F 0 794 [.ref x, l1, l2, l3] [.ref s0, .int s1] f a j = rn sc F 0 795 [.ref x, l1, l2, l3] [.ref x, .ref s0, .int s1] f a j := rn_go (rfl : zOp 0 794 = some (794, .aload_n 0, 1, 0, 0, 0, 0, 0, [])) rfl
set_option maxRecDepth 100000 in
theorem q0_795 {l0 l1 l2 : Value} {s0 : Nat} {s1 : Nat} {s2 : Int32} {x : Int32}  : rn sc F 0 795 [l0, l1, l2, .int x] [.ref s0, .ref s1, .int s2] f a j = rn sc F 0 796 [l0, l1, l2, .int x] [.int x, .ref s0, .ref s1, .int s2] f a j := rn_go (rfl : zOp 0 795 = some (795, .iload_n 3, 1, 3, 0, 0, 0, 0, [])) rfl
set_option maxRecDepth 100000 in
theorem q0_796 {l0 l1 l2 l3 : Value} {s0 : Int32} {s1 : Nat} {s2 : Nat} {s3 : Int32}  : rn sc F 0 796 [l0, l1, l2, l3] [.int s0, .ref s1, .ref s2, .int s3] f a j = rn sc F 0 797 [l0, l1, l2, l3] [.int (nI 1), .int s0, .ref s1, .ref s2, .int s3] f a j := rn_go (rfl : zOp 0 796 = some (796, .iconst 1, 1, 0, 0, 0, nI 1, 0, [])) rfl
set_option maxRecDepth 100000 in
theorem q0_797 {l0 l1 l2 l3 : Value} {s0 : Int32} {s1 : Int32} {s2 : Nat} {s3 : Nat} {s4 : Int32}  : rn sc F 0 797 [l0, l1, l2, l3] [.int s0, .int s1, .ref s2, .ref s3, .int s4] f a j = rn sc F 0 798 [l0, l1, l2, l3] [.int (s1 + s0), .ref s2, .ref s3, .int s4] f a j := rn_go (rfl : zOp 0 797 = some (797, .iadd, 1, 0, 0, 0, 0, 0, [])) rfl
set_option maxRecDepth 100000 in
theorem q0_798 {l0 l1 l2 l3 : Value} {s0 : Int32} {s2 : Nat} {s3 : Int32} (h : ¬ (s0 < 0 ∨ sc.1.toNatClampNeg ≤ s0.toNatClampNeg)) : rn sc F 0 798 [l0, l1, l2, l3] [.int s0, .ref 999, .ref s2, .int s3] f a j = rn sc F 0 799 [l0, l1, l2, l3] [.int (sc.2 s0), .ref s2, .int s3] f a j := rn_go (rfl : zOp 0 798 = some (798, .iaload, 1, 0, 0, 0, 0, 0, [])) (zi_sald h)
set_option maxRecDepth 100000 in
theorem q0_799 {l0 l1 l2 l3 : Value} {s0 : Int32} {s2 : Int32}  : rn sc F 0 799 [l0, l1, l2, l3] [.int s0, .ref 85, .int s2] f a j = zCall (F 156 [.ref 85, .int s0] f a j) (fun v f a j => rn sc F 0 802 [l0, l1, l2, l3] (v.toList ++ [.int s2]) f a j) := rn_callV (rfl : zOp 0 799 = some (799, .invokevirtual 101, 3, 156, 1, 1073, 0, 0, [])) (by decide) rfl (rfl) (by simp [Value.category])
set_option maxRecDepth 100000 in
theorem q0_802 {l0 l1 l2 l3 : Value} {s0 : Int32} {s1 : Int32}  : rn sc F 0 802 [l0, l1, l2, l3] [.int s0, .int s1] f a j = if s1 = s0 then rn sc F 0 1407 [l0, l1, l2, l3] [] f a j else rn sc F 0 805 [l0, l1, l2, l3] [] f a j := (rn_go (rfl : zOp 0 802 = some (802, .if_icmp .eq 605, 3, 1407, 0, 0, 0, 0, [])) rfl).trans rn_ite
set_option maxRecDepth 100000 in
theorem q0_805 {l0 l1 l2 l3 : Value}   : rn sc F 0 805 [l0, l1, l2, l3] [] f a j = rn sc F 0 806 [l0, l1, l2, l3] [.int (nI 0)] f a j := rn_go (rfl : zOp 0 805 = some (805, .iconst 0, 1, 0, 0, 0, nI 0, 0, [])) rfl
set_option maxRecDepth 100000 in
theorem q0_806 {l0 l1 l2 l3 : Value} {s0 : Int32} (h : s0 = 0 ∨ s0 = 1) : rn sc F 0 806 [l0, l1, l2, l3] [.int s0] f a j = some (some (.int s0), f, a, j) := rn_end (rfl : zOp 0 806 = some (806, .ireturn, 1, 0, 0, 0, 0, 0, [])) (zi_retz h)
set_option maxRecDepth 100000 in
theorem q0_807 {l0 l2 l3 : Value} {x : Nat}  : rn sc F 0 807 [l0, .ref x, l2, l3] [] f a j = rn sc F 0 808 [l0, .ref x, l2, l3] [.ref x] f a j := rn_go (rfl : zOp 0 807 = some (807, .aload_n 1, 1, 1, 0, 0, 0, 0, [])) rfl
set_option maxRecDepth 100000 in
theorem q0_808 {l1 l2 l3 : Value} {s0 : Nat} {x : Nat}  : rn sc F 0 808 [.ref x, l1, l2, l3] [.ref s0] f a j = rn sc F 0 809 [.ref x, l1, l2, l3] [.ref x, .ref s0] f a j := rn_go (rfl : zOp 0 808 = some (808, .aload_n 0, 1, 0, 0, 0, 0, 0, [])) rfl
set_option maxRecDepth 100000 in
theorem q0_809 {l0 l1 l2 : Value} {s0 : Nat} {s1 : Nat} {x : Int32}  : rn sc F 0 809 [l0, l1, l2, .int x] [.ref s0, .ref s1] f a j = rn sc F 0 810 [l0, l1, l2, .int x] [.int x, .ref s0, .ref s1] f a j := rn_go (rfl : zOp 0 809 = some (809, .iload_n 3, 1, 3, 0, 0, 0, 0, [])) rfl
set_option maxRecDepth 100000 in
theorem q0_810 {l0 l1 l2 l3 : Value} {s0 : Int32} {s1 : Nat} {s2 : Nat}  : rn sc F 0 810 [l0, l1, l2, l3] [.int s0, .ref s1, .ref s2] f a j = rn sc F 0 811 [l0, l1, l2, l3] [.int (nI 1), .int s0, .ref s1, .ref s2] f a j := rn_go (rfl : zOp 0 810 = some (810, .iconst 1, 1, 0, 0, 0, nI 1, 0, [])) rfl
set_option maxRecDepth 100000 in
theorem q0_811 {l0 l1 l2 l3 : Value} {s0 : Int32} {s1 : Int32} {s2 : Nat} {s3 : Nat}  : rn sc F 0 811 [l0, l1, l2, l3] [.int s0, .int s1, .ref s2, .ref s3] f a j = rn sc F 0 812 [l0, l1, l2, l3] [.int (s1 + s0), .ref s2, .ref s3] f a j := rn_go (rfl : zOp 0 811 = some (811, .iadd, 1, 0, 0, 0, 0, 0, [])) rfl
set_option maxRecDepth 100000 in
theorem q0_812 {l0 l1 l2 l3 : Value} {s0 : Int32} {s2 : Nat} (h : ¬ (s0 < 0 ∨ sc.1.toNatClampNeg ≤ s0.toNatClampNeg)) : rn sc F 0 812 [l0, l1, l2, l3] [.int s0, .ref 999, .ref s2] f a j = rn sc F 0 813 [l0, l1, l2, l3] [.int (sc.2 s0), .ref s2] f a j := rn_go (rfl : zOp 0 812 = some (812, .iaload, 1, 0, 0, 0, 0, 0, [])) (zi_sald h)
set_option maxRecDepth 100000 in
theorem q0_813 {l1 l2 l3 : Value} {s0 : Int32} {s1 : Nat} {x : Nat}  : rn sc F 0 813 [.ref x, l1, l2, l3] [.int s0, .ref s1] f a j = rn sc F 0 814 [.ref x, l1, l2, l3] [.ref x, .int s0, .ref s1] f a j := rn_go (rfl : zOp 0 813 = some (813, .aload_n 0, 1, 0, 0, 0, 0, 0, [])) rfl
set_option maxRecDepth 100000 in
theorem q0_814 {l0 l1 l2 : Value} {s0 : Nat} {s1 : Int32} {s2 : Nat} {x : Int32}  : rn sc F 0 814 [l0, l1, l2, .int x] [.ref s0, .int s1, .ref s2] f a j = rn sc F 0 815 [l0, l1, l2, .int x] [.int x, .ref s0, .int s1, .ref s2] f a j := rn_go (rfl : zOp 0 814 = some (814, .iload_n 3, 1, 3, 0, 0, 0, 0, [])) rfl
set_option maxRecDepth 100000 in
theorem q0_815 {l0 l1 l2 l3 : Value} {s0 : Int32} {s1 : Nat} {s2 : Int32} {s3 : Nat}  : rn sc F 0 815 [l0, l1, l2, l3] [.int s0, .ref s1, .int s2, .ref s3] f a j = rn sc F 0 816 [l0, l1, l2, l3] [.int (nI 2), .int s0, .ref s1, .int s2, .ref s3] f a j := rn_go (rfl : zOp 0 815 = some (815, .iconst 2, 1, 0, 0, 0, nI 2, 0, [])) rfl
set_option maxRecDepth 100000 in
theorem q0_816 {l0 l1 l2 l3 : Value} {s0 : Int32} {s1 : Int32} {s2 : Nat} {s3 : Int32} {s4 : Nat}  : rn sc F 0 816 [l0, l1, l2, l3] [.int s0, .int s1, .ref s2, .int s3, .ref s4] f a j = rn sc F 0 817 [l0, l1, l2, l3] [.int (s1 + s0), .ref s2, .int s3, .ref s4] f a j := rn_go (rfl : zOp 0 816 = some (816, .iadd, 1, 0, 0, 0, 0, 0, [])) rfl
set_option maxRecDepth 100000 in
theorem q0_817 {l0 l1 l2 l3 : Value} {s0 : Int32} {s2 : Int32} {s3 : Nat} (h : ¬ (s0 < 0 ∨ sc.1.toNatClampNeg ≤ s0.toNatClampNeg)) : rn sc F 0 817 [l0, l1, l2, l3] [.int s0, .ref 999, .int s2, .ref s3] f a j = rn sc F 0 818 [l0, l1, l2, l3] [.int (sc.2 s0), .int s2, .ref s3] f a j := rn_go (rfl : zOp 0 817 = some (817, .iaload, 1, 0, 0, 0, 0, 0, [])) (zi_sald h)
set_option maxRecDepth 100000 in
theorem q0_818 {l1 l2 l3 : Value} {s0 : Int32} {s1 : Int32} {s2 : Nat} {x : Nat}  : rn sc F 0 818 [.ref x, l1, l2, l3] [.int s0, .int s1, .ref s2] f a j = rn sc F 0 819 [.ref x, l1, l2, l3] [.ref x, .int s0, .int s1, .ref s2] f a j := rn_go (rfl : zOp 0 818 = some (818, .aload_n 0, 1, 0, 0, 0, 0, 0, [])) rfl
set_option maxRecDepth 100000 in
theorem q0_819 {l0 l1 l2 : Value} {s0 : Nat} {s1 : Int32} {s2 : Int32} {s3 : Nat} {x : Int32}  : rn sc F 0 819 [l0, l1, l2, .int x] [.ref s0, .int s1, .int s2, .ref s3] f a j = rn sc F 0 820 [l0, l1, l2, .int x] [.int x, .ref s0, .int s1, .int s2, .ref s3] f a j := rn_go (rfl : zOp 0 819 = some (819, .iload_n 3, 1, 3, 0, 0, 0, 0, [])) rfl
set_option maxRecDepth 100000 in
theorem q0_820 {l0 l1 l2 l3 : Value} {s0 : Int32} {s1 : Nat} {s2 : Int32} {s3 : Int32} {s4 : Nat}  : rn sc F 0 820 [l0, l1, l2, l3] [.int s0, .ref s1, .int s2, .int s3, .ref s4] f a j = rn sc F 0 821 [l0, l1, l2, l3] [.int (nI 3), .int s0, .ref s1, .int s2, .int s3, .ref s4] f a j := rn_go (rfl : zOp 0 820 = some (820, .iconst 3, 1, 0, 0, 0, nI 3, 0, [])) rfl
set_option maxRecDepth 100000 in
theorem q0_821 {l0 l1 l2 l3 : Value} {s0 : Int32} {s1 : Int32} {s2 : Nat} {s3 : Int32} {s4 : Int32} {s5 : Nat}  : rn sc F 0 821 [l0, l1, l2, l3] [.int s0, .int s1, .ref s2, .int s3, .int s4, .ref s5] f a j = rn sc F 0 822 [l0, l1, l2, l3] [.int (s1 + s0), .ref s2, .int s3, .int s4, .ref s5] f a j := rn_go (rfl : zOp 0 821 = some (821, .iadd, 1, 0, 0, 0, 0, 0, [])) rfl
set_option maxRecDepth 100000 in
theorem q0_822 {l0 l1 l2 l3 : Value} {s0 : Int32} {s2 : Int32} {s3 : Int32} {s4 : Nat} (h : ¬ (s0 < 0 ∨ sc.1.toNatClampNeg ≤ s0.toNatClampNeg)) : rn sc F 0 822 [l0, l1, l2, l3] [.int s0, .ref 999, .int s2, .int s3, .ref s4] f a j = rn sc F 0 823 [l0, l1, l2, l3] [.int (sc.2 s0), .int s2, .int s3, .ref s4] f a j := rn_go (rfl : zOp 0 822 = some (822, .iaload, 1, 0, 0, 0, 0, 0, [])) (zi_sald h)
set_option maxRecDepth 100000 in
theorem q0_823 {l0 l1 l2 l3 : Value} {s0 : Int32} {s1 : Int32} {s2 : Int32}  : rn sc F 0 823 [l0, l1, l2, l3] [.int s0, .int s1, .int s2, .ref 0] f a j = zCall (F 74 [.ref 0, .int s2, .int s1, .int s0] f a j) (fun v f a j => rn sc F 0 826 [l0, l1, l2, l3] (v.toList ++ []) f a j) := rn_callV (rfl : zOp 0 823 = some (823, .invokevirtual 102, 3, 74, 3, 633, 0, 0, [])) (by decide) rfl (rfl) (by simp [Value.category])
set_option maxRecDepth 100000 in
theorem q0_826 {l0 l1 l3 : Value} {s0 : Int32} {x : Nat}  : rn sc F 0 826 [l0, l1, .ref x, l3] [.int s0] f a j = rn sc F 0 827 [l0, l1, .ref x, l3] [.ref x, .int s0] f a j := rn_go (rfl : zOp 0 826 = some (826, .aload_n 2, 1, 2, 0, 0, 0, 0, [])) rfl
set_option maxRecDepth 100000 in
theorem q0_827 {l1 l2 l3 : Value} {s0 : Nat} {s1 : Int32} {x : Nat}  : rn sc F 0 827 [.ref x, l1, l2, l3] [.ref s0, .int s1] f a j = rn sc F 0 828 [.ref x, l1, l2, l3] [.ref x, .ref s0, .int s1] f a j := rn_go (rfl : zOp 0 827 = some (827, .aload_n 0, 1, 0, 0, 0, 0, 0, [])) rfl
set_option maxRecDepth 100000 in
theorem q0_828 {l0 l1 l2 : Value} {s0 : Nat} {s1 : Nat} {s2 : Int32} {x : Int32}  : rn sc F 0 828 [l0, l1, l2, .int x] [.ref s0, .ref s1, .int s2] f a j = rn sc F 0 829 [l0, l1, l2, .int x] [.int x, .ref s0, .ref s1, .int s2] f a j := rn_go (rfl : zOp 0 828 = some (828, .iload_n 3, 1, 3, 0, 0, 0, 0, [])) rfl
set_option maxRecDepth 100000 in
theorem q0_829 {l0 l1 l2 l3 : Value} {s0 : Int32} {s1 : Nat} {s2 : Nat} {s3 : Int32}  : rn sc F 0 829 [l0, l1, l2, l3] [.int s0, .ref s1, .ref s2, .int s3] f a j = rn sc F 0 830 [l0, l1, l2, l3] [.int (nI 1), .int s0, .ref s1, .ref s2, .int s3] f a j := rn_go (rfl : zOp 0 829 = some (829, .iconst 1, 1, 0, 0, 0, nI 1, 0, [])) rfl
set_option maxRecDepth 100000 in
theorem q0_830 {l0 l1 l2 l3 : Value} {s0 : Int32} {s1 : Int32} {s2 : Nat} {s3 : Nat} {s4 : Int32}  : rn sc F 0 830 [l0, l1, l2, l3] [.int s0, .int s1, .ref s2, .ref s3, .int s4] f a j = rn sc F 0 831 [l0, l1, l2, l3] [.int (s1 + s0), .ref s2, .ref s3, .int s4] f a j := rn_go (rfl : zOp 0 830 = some (830, .iadd, 1, 0, 0, 0, 0, 0, [])) rfl
set_option maxRecDepth 100000 in
theorem q0_831 {l0 l1 l2 l3 : Value} {s0 : Int32} {s2 : Nat} {s3 : Int32} (h : ¬ (s0 < 0 ∨ sc.1.toNatClampNeg ≤ s0.toNatClampNeg)) : rn sc F 0 831 [l0, l1, l2, l3] [.int s0, .ref 999, .ref s2, .int s3] f a j = rn sc F 0 832 [l0, l1, l2, l3] [.int (sc.2 s0), .ref s2, .int s3] f a j := rn_go (rfl : zOp 0 831 = some (831, .iaload, 1, 0, 0, 0, 0, 0, [])) (zi_sald h)
set_option maxRecDepth 100000 in
theorem q0_832 {l1 l2 l3 : Value} {s0 : Int32} {s1 : Nat} {s2 : Int32} {x : Nat}  : rn sc F 0 832 [.ref x, l1, l2, l3] [.int s0, .ref s1, .int s2] f a j = rn sc F 0 833 [.ref x, l1, l2, l3] [.ref x, .int s0, .ref s1, .int s2] f a j := rn_go (rfl : zOp 0 832 = some (832, .aload_n 0, 1, 0, 0, 0, 0, 0, [])) rfl
set_option maxRecDepth 100000 in
theorem q0_833 {l0 l1 l2 : Value} {s0 : Nat} {s1 : Int32} {s2 : Nat} {s3 : Int32} {x : Int32}  : rn sc F 0 833 [l0, l1, l2, .int x] [.ref s0, .int s1, .ref s2, .int s3] f a j = rn sc F 0 834 [l0, l1, l2, .int x] [.int x, .ref s0, .int s1, .ref s2, .int s3] f a j := rn_go (rfl : zOp 0 833 = some (833, .iload_n 3, 1, 3, 0, 0, 0, 0, [])) rfl
set_option maxRecDepth 100000 in
theorem q0_834 {l0 l1 l2 l3 : Value} {s0 : Int32} {s1 : Nat} {s2 : Int32} {s3 : Nat} {s4 : Int32}  : rn sc F 0 834 [l0, l1, l2, l3] [.int s0, .ref s1, .int s2, .ref s3, .int s4] f a j = rn sc F 0 835 [l0, l1, l2, l3] [.int (nI 2), .int s0, .ref s1, .int s2, .ref s3, .int s4] f a j := rn_go (rfl : zOp 0 834 = some (834, .iconst 2, 1, 0, 0, 0, nI 2, 0, [])) rfl
set_option maxRecDepth 100000 in
theorem q0_835 {l0 l1 l2 l3 : Value} {s0 : Int32} {s1 : Int32} {s2 : Nat} {s3 : Int32} {s4 : Nat} {s5 : Int32}  : rn sc F 0 835 [l0, l1, l2, l3] [.int s0, .int s1, .ref s2, .int s3, .ref s4, .int s5] f a j = rn sc F 0 836 [l0, l1, l2, l3] [.int (s1 + s0), .ref s2, .int s3, .ref s4, .int s5] f a j := rn_go (rfl : zOp 0 835 = some (835, .iadd, 1, 0, 0, 0, 0, 0, [])) rfl
set_option maxRecDepth 100000 in
theorem q0_836 {l0 l1 l2 l3 : Value} {s0 : Int32} {s2 : Int32} {s3 : Nat} {s4 : Int32} (h : ¬ (s0 < 0 ∨ sc.1.toNatClampNeg ≤ s0.toNatClampNeg)) : rn sc F 0 836 [l0, l1, l2, l3] [.int s0, .ref 999, .int s2, .ref s3, .int s4] f a j = rn sc F 0 837 [l0, l1, l2, l3] [.int (sc.2 s0), .int s2, .ref s3, .int s4] f a j := rn_go (rfl : zOp 0 836 = some (836, .iaload, 1, 0, 0, 0, 0, 0, [])) (zi_sald h)
set_option maxRecDepth 100000 in
theorem q0_837 {l1 l2 l3 : Value} {s0 : Int32} {s1 : Int32} {s2 : Nat} {s3 : Int32} {x : Nat}  : rn sc F 0 837 [.ref x, l1, l2, l3] [.int s0, .int s1, .ref s2, .int s3] f a j = rn sc F 0 838 [.ref x, l1, l2, l3] [.ref x, .int s0, .int s1, .ref s2, .int s3] f a j := rn_go (rfl : zOp 0 837 = some (837, .aload_n 0, 1, 0, 0, 0, 0, 0, [])) rfl
set_option maxRecDepth 100000 in
theorem q0_838 {l0 l1 l2 : Value} {s0 : Nat} {s1 : Int32} {s2 : Int32} {s3 : Nat} {s4 : Int32} {x : Int32}  : rn sc F 0 838 [l0, l1, l2, .int x] [.ref s0, .int s1, .int s2, .ref s3, .int s4] f a j = rn sc F 0 839 [l0, l1, l2, .int x] [.int x, .ref s0, .int s1, .int s2, .ref s3, .int s4] f a j := rn_go (rfl : zOp 0 838 = some (838, .iload_n 3, 1, 3, 0, 0, 0, 0, [])) rfl
set_option maxRecDepth 100000 in
theorem q0_839 {l0 l1 l2 l3 : Value} {s0 : Int32} {s1 : Nat} {s2 : Int32} {s3 : Int32} {s4 : Nat} {s5 : Int32}  : rn sc F 0 839 [l0, l1, l2, l3] [.int s0, .ref s1, .int s2, .int s3, .ref s4, .int s5] f a j = rn sc F 0 840 [l0, l1, l2, l3] [.int (nI 3), .int s0, .ref s1, .int s2, .int s3, .ref s4, .int s5] f a j := rn_go (rfl : zOp 0 839 = some (839, .iconst 3, 1, 0, 0, 0, nI 3, 0, [])) rfl
set_option maxRecDepth 100000 in
theorem q0_840 {l0 l1 l2 l3 : Value} {s0 : Int32} {s1 : Int32} {s2 : Nat} {s3 : Int32} {s4 : Int32} {s5 : Nat} {s6 : Int32}  : rn sc F 0 840 [l0, l1, l2, l3] [.int s0, .int s1, .ref s2, .int s3, .int s4, .ref s5, .int s6] f a j = rn sc F 0 841 [l0, l1, l2, l3] [.int (s1 + s0), .ref s2, .int s3, .int s4, .ref s5, .int s6] f a j := rn_go (rfl : zOp 0 840 = some (840, .iadd, 1, 0, 0, 0, 0, 0, [])) rfl
set_option maxRecDepth 100000 in
theorem q0_841 {l0 l1 l2 l3 : Value} {s0 : Int32} {s2 : Int32} {s3 : Int32} {s4 : Nat} {s5 : Int32} (h : ¬ (s0 < 0 ∨ sc.1.toNatClampNeg ≤ s0.toNatClampNeg)) : rn sc F 0 841 [l0, l1, l2, l3] [.int s0, .ref 999, .int s2, .int s3, .ref s4, .int s5] f a j = rn sc F 0 842 [l0, l1, l2, l3] [.int (sc.2 s0), .int s2, .int s3, .ref s4, .int s5] f a j := rn_go (rfl : zOp 0 841 = some (841, .iaload, 1, 0, 0, 0, 0, 0, [])) (zi_sald h)
set_option maxRecDepth 100000 in
theorem q0_842 {l0 l1 l2 l3 : Value} {s0 : Int32} {s1 : Int32} {s2 : Int32} {s4 : Int32}  : rn sc F 0 842 [l0, l1, l2, l3] [.int s0, .int s1, .int s2, .ref 85, .int s4] f a j = zCall (F 157 [.ref 85, .int s2, .int s1, .int s0] f a j) (fun v f a j => rn sc F 0 845 [l0, l1, l2, l3] (v.toList ++ [.int s4]) f a j) := rn_callV (rfl : zOp 0 842 = some (842, .invokevirtual 105, 3, 157, 3, 1077, 0, 0, [])) (by decide) rfl (rfl) (by simp [Value.category])
set_option maxRecDepth 100000 in
theorem q0_845 {l0 l1 l2 l3 : Value} {s0 : Int32} {s1 : Int32}  : rn sc F 0 845 [l0, l1, l2, l3] [.int s0, .int s1] f a j = if s1 = s0 then rn sc F 0 1407 [l0, l1, l2, l3] [] f a j else rn sc F 0 848 [l0, l1, l2, l3] [] f a j := (rn_go (rfl : zOp 0 845 = some (845, .if_icmp .eq 562, 3, 1407, 0, 0, 0, 0, [])) rfl).trans rn_ite
set_option maxRecDepth 100000 in
theorem q0_848 {l0 l1 l2 l3 : Value}   : rn sc F 0 848 [l0, l1, l2, l3] [] f a j = rn sc F 0 849 [l0, l1, l2, l3] [.int (nI 0)] f a j := rn_go (rfl : zOp 0 848 = some (848, .iconst 0, 1, 0, 0, 0, nI 0, 0, [])) rfl
set_option maxRecDepth 100000 in
theorem q0_849 {l0 l1 l2 l3 : Value} {s0 : Int32} (h : s0 = 0 ∨ s0 = 1) : rn sc F 0 849 [l0, l1, l2, l3] [.int s0] f a j = some (some (.int s0), f, a, j) := rn_end (rfl : zOp 0 849 = some (849, .ireturn, 1, 0, 0, 0, 0, 0, [])) (zi_retz h)
set_option maxRecDepth 100000 in
theorem q0_850 {l0 l2 l3 : Value} {x : Nat}  : rn sc F 0 850 [l0, .ref x, l2, l3] [] f a j = rn sc F 0 851 [l0, .ref x, l2, l3] [.ref x] f a j := rn_go (rfl : zOp 0 850 = some (850, .aload_n 1, 1, 1, 0, 0, 0, 0, [])) rfl
set_option maxRecDepth 100000 in
theorem q0_851 {l1 l2 l3 : Value} {s0 : Nat} {x : Nat}  : rn sc F 0 851 [.ref x, l1, l2, l3] [.ref s0] f a j = rn sc F 0 852 [.ref x, l1, l2, l3] [.ref x, .ref s0] f a j := rn_go (rfl : zOp 0 851 = some (851, .aload_n 0, 1, 0, 0, 0, 0, 0, [])) rfl
set_option maxRecDepth 100000 in
theorem q0_852 {l0 l1 l2 : Value} {s0 : Nat} {s1 : Nat} {x : Int32}  : rn sc F 0 852 [l0, l1, l2, .int x] [.ref s0, .ref s1] f a j = rn sc F 0 853 [l0, l1, l2, .int x] [.int x, .ref s0, .ref s1] f a j := rn_go (rfl : zOp 0 852 = some (852, .iload_n 3, 1, 3, 0, 0, 0, 0, [])) rfl
set_option maxRecDepth 100000 in
theorem q0_853 {l0 l1 l2 l3 : Value} {s0 : Int32} {s1 : Nat} {s2 : Nat}  : rn sc F 0 853 [l0, l1, l2, l3] [.int s0, .ref s1, .ref s2] f a j = rn sc F 0 854 [l0, l1, l2, l3] [.int (nI 1), .int s0, .ref s1, .ref s2] f a j := rn_go (rfl : zOp 0 853 = some (853, .iconst 1, 1, 0, 0, 0, nI 1, 0, [])) rfl
set_option maxRecDepth 100000 in
theorem q0_854 {l0 l1 l2 l3 : Value} {s0 : Int32} {s1 : Int32} {s2 : Nat} {s3 : Nat}  : rn sc F 0 854 [l0, l1, l2, l3] [.int s0, .int s1, .ref s2, .ref s3] f a j = rn sc F 0 855 [l0, l1, l2, l3] [.int (s1 + s0), .ref s2, .ref s3] f a j := rn_go (rfl : zOp 0 854 = some (854, .iadd, 1, 0, 0, 0, 0, 0, [])) rfl
set_option maxRecDepth 100000 in
theorem q0_855 {l0 l1 l2 l3 : Value} {s0 : Int32} {s2 : Nat} (h : ¬ (s0 < 0 ∨ sc.1.toNatClampNeg ≤ s0.toNatClampNeg)) : rn sc F 0 855 [l0, l1, l2, l3] [.int s0, .ref 999, .ref s2] f a j = rn sc F 0 856 [l0, l1, l2, l3] [.int (sc.2 s0), .ref s2] f a j := rn_go (rfl : zOp 0 855 = some (855, .iaload, 1, 0, 0, 0, 0, 0, [])) (zi_sald h)
set_option maxRecDepth 100000 in
theorem q0_856 {l0 l1 l2 l3 : Value} {s0 : Int32}  : rn sc F 0 856 [l0, l1, l2, l3] [.int s0, .ref 0] f a j = zCall (F 75 [.ref 0, .int s0] f a j) (fun v f a j => rn sc F 0 859 [l0, l1, l2, l3] (v.toList ++ []) f a j) := rn_callV (rfl : zOp 0 856 = some (856, .invokevirtual 106, 3, 75, 1, 637, 0, 0, [])) (by decide) rfl (rfl) (by simp [Value.category])
set_option maxRecDepth 100000 in
theorem q0_859 {l0 l1 l3 : Value} {s0 : Int32} {x : Nat}  : rn sc F 0 859 [l0, l1, .ref x, l3] [.int s0] f a j = rn sc F 0 860 [l0, l1, .ref x, l3] [.ref x, .int s0] f a j := rn_go (rfl : zOp 0 859 = some (859, .aload_n 2, 1, 2, 0, 0, 0, 0, [])) rfl
set_option maxRecDepth 100000 in
theorem q0_860 {l1 l2 l3 : Value} {s0 : Nat} {s1 : Int32} {x : Nat}  : rn sc F 0 860 [.ref x, l1, l2, l3] [.ref s0, .int s1] f a j = rn sc F 0 861 [.ref x, l1, l2, l3] [.ref x, .ref s0, .int s1] f a j := rn_go (rfl : zOp 0 860 = some (860, .aload_n 0, 1, 0, 0, 0, 0, 0, [])) rfl
set_option maxRecDepth 100000 in
theorem q0_861 {l0 l1 l2 : Value} {s0 : Nat} {s1 : Nat} {s2 : Int32} {x : Int32}  : rn sc F 0 861 [l0, l1, l2, .int x] [.ref s0, .ref s1, .int s2] f a j = rn sc F 0 862 [l0, l1, l2, .int x] [.int x, .ref s0, .ref s1, .int s2] f a j := rn_go (rfl : zOp 0 861 = some (861, .iload_n 3, 1, 3, 0, 0, 0, 0, [])) rfl
set_option maxRecDepth 100000 in
theorem q0_862 {l0 l1 l2 l3 : Value} {s0 : Int32} {s1 : Nat} {s2 : Nat} {s3 : Int32}  : rn sc F 0 862 [l0, l1, l2, l3] [.int s0, .ref s1, .ref s2, .int s3] f a j = rn sc F 0 863 [l0, l1, l2, l3] [.int (nI 1), .int s0, .ref s1, .ref s2, .int s3] f a j := rn_go (rfl : zOp 0 862 = some (862, .iconst 1, 1, 0, 0, 0, nI 1, 0, [])) rfl
set_option maxRecDepth 100000 in
theorem q0_863 {l0 l1 l2 l3 : Value} {s0 : Int32} {s1 : Int32} {s2 : Nat} {s3 : Nat} {s4 : Int32}  : rn sc F 0 863 [l0, l1, l2, l3] [.int s0, .int s1, .ref s2, .ref s3, .int s4] f a j = rn sc F 0 864 [l0, l1, l2, l3] [.int (s1 + s0), .ref s2, .ref s3, .int s4] f a j := rn_go (rfl : zOp 0 863 = some (863, .iadd, 1, 0, 0, 0, 0, 0, [])) rfl
set_option maxRecDepth 100000 in
theorem q0_864 {l0 l1 l2 l3 : Value} {s0 : Int32} {s2 : Nat} {s3 : Int32} (h : ¬ (s0 < 0 ∨ sc.1.toNatClampNeg ≤ s0.toNatClampNeg)) : rn sc F 0 864 [l0, l1, l2, l3] [.int s0, .ref 999, .ref s2, .int s3] f a j = rn sc F 0 865 [l0, l1, l2, l3] [.int (sc.2 s0), .ref s2, .int s3] f a j := rn_go (rfl : zOp 0 864 = some (864, .iaload, 1, 0, 0, 0, 0, 0, [])) (zi_sald h)
set_option maxRecDepth 100000 in
theorem q0_865 {l0 l1 l2 l3 : Value} {s0 : Int32} {s2 : Int32}  : rn sc F 0 865 [l0, l1, l2, l3] [.int s0, .ref 85, .int s2] f a j = zCall (F 159 [.ref 85, .int s0] f a j) (fun v f a j => rn sc F 0 868 [l0, l1, l2, l3] (v.toList ++ [.int s2]) f a j) := rn_callV (rfl : zOp 0 865 = some (865, .invokevirtual 109, 3, 159, 1, 1082, 0, 0, [])) (by decide) rfl (rfl) (by simp [Value.category])
set_option maxRecDepth 100000 in
theorem q0_868 {l0 l1 l2 l3 : Value} {s0 : Int32} {s1 : Int32}  : rn sc F 0 868 [l0, l1, l2, l3] [.int s0, .int s1] f a j = if s1 = s0 then rn sc F 0 1407 [l0, l1, l2, l3] [] f a j else rn sc F 0 871 [l0, l1, l2, l3] [] f a j := (rn_go (rfl : zOp 0 868 = some (868, .if_icmp .eq 539, 3, 1407, 0, 0, 0, 0, [])) rfl).trans rn_ite
set_option maxRecDepth 100000 in
theorem q0_871 {l0 l1 l2 l3 : Value}   : rn sc F 0 871 [l0, l1, l2, l3] [] f a j = rn sc F 0 872 [l0, l1, l2, l3] [.int (nI 0)] f a j := rn_go (rfl : zOp 0 871 = some (871, .iconst 0, 1, 0, 0, 0, nI 0, 0, [])) rfl
set_option maxRecDepth 100000 in
theorem q0_872 {l0 l1 l2 l3 : Value} {s0 : Int32} (h : s0 = 0 ∨ s0 = 1) : rn sc F 0 872 [l0, l1, l2, l3] [.int s0] f a j = some (some (.int s0), f, a, j) := rn_end (rfl : zOp 0 872 = some (872, .ireturn, 1, 0, 0, 0, 0, 0, [])) (zi_retz h)
set_option maxRecDepth 100000 in
theorem q0_873 {l0 l2 l3 : Value} {x : Nat}  : rn sc F 0 873 [l0, .ref x, l2, l3] [] f a j = rn sc F 0 874 [l0, .ref x, l2, l3] [.ref x] f a j := rn_go (rfl : zOp 0 873 = some (873, .aload_n 1, 1, 1, 0, 0, 0, 0, [])) rfl
set_option maxRecDepth 100000 in
theorem q0_874 {l1 l2 l3 : Value} {s0 : Nat} {x : Nat}  : rn sc F 0 874 [.ref x, l1, l2, l3] [.ref s0] f a j = rn sc F 0 875 [.ref x, l1, l2, l3] [.ref x, .ref s0] f a j := rn_go (rfl : zOp 0 874 = some (874, .aload_n 0, 1, 0, 0, 0, 0, 0, [])) rfl
set_option maxRecDepth 100000 in
theorem q0_875 {l0 l1 l2 : Value} {s0 : Nat} {s1 : Nat} {x : Int32}  : rn sc F 0 875 [l0, l1, l2, .int x] [.ref s0, .ref s1] f a j = rn sc F 0 876 [l0, l1, l2, .int x] [.int x, .ref s0, .ref s1] f a j := rn_go (rfl : zOp 0 875 = some (875, .iload_n 3, 1, 3, 0, 0, 0, 0, [])) rfl
set_option maxRecDepth 100000 in
theorem q0_876 {l0 l1 l2 l3 : Value} {s0 : Int32} {s1 : Nat} {s2 : Nat}  : rn sc F 0 876 [l0, l1, l2, l3] [.int s0, .ref s1, .ref s2] f a j = rn sc F 0 877 [l0, l1, l2, l3] [.int (nI 1), .int s0, .ref s1, .ref s2] f a j := rn_go (rfl : zOp 0 876 = some (876, .iconst 1, 1, 0, 0, 0, nI 1, 0, [])) rfl
set_option maxRecDepth 100000 in
theorem q0_877 {l0 l1 l2 l3 : Value} {s0 : Int32} {s1 : Int32} {s2 : Nat} {s3 : Nat}  : rn sc F 0 877 [l0, l1, l2, l3] [.int s0, .int s1, .ref s2, .ref s3] f a j = rn sc F 0 878 [l0, l1, l2, l3] [.int (s1 + s0), .ref s2, .ref s3] f a j := rn_go (rfl : zOp 0 877 = some (877, .iadd, 1, 0, 0, 0, 0, 0, [])) rfl
set_option maxRecDepth 100000 in
theorem q0_878 {l0 l1 l2 l3 : Value} {s0 : Int32} {s2 : Nat} (h : ¬ (s0 < 0 ∨ sc.1.toNatClampNeg ≤ s0.toNatClampNeg)) : rn sc F 0 878 [l0, l1, l2, l3] [.int s0, .ref 999, .ref s2] f a j = rn sc F 0 879 [l0, l1, l2, l3] [.int (sc.2 s0), .ref s2] f a j := rn_go (rfl : zOp 0 878 = some (878, .iaload, 1, 0, 0, 0, 0, 0, [])) (zi_sald h)
set_option maxRecDepth 100000 in
theorem q0_879 {l0 l1 l2 l3 : Value} {s0 : Int32}  : rn sc F 0 879 [l0, l1, l2, l3] [.int s0, .ref 0] f a j = zCall (F 76 [.ref 0, .int s0] f a j) (fun v f a j => rn sc F 0 882 [l0, l1, l2, l3] (v.toList ++ []) f a j) := rn_callV (rfl : zOp 0 879 = some (879, .invokevirtual 110, 3, 76, 1, 649, 0, 0, [])) (by decide) rfl (rfl) (by simp [Value.category])
set_option maxRecDepth 100000 in
theorem q0_882 {l0 l1 l3 : Value} {s0 : Int32} {x : Nat}  : rn sc F 0 882 [l0, l1, .ref x, l3] [.int s0] f a j = rn sc F 0 883 [l0, l1, .ref x, l3] [.ref x, .int s0] f a j := rn_go (rfl : zOp 0 882 = some (882, .aload_n 2, 1, 2, 0, 0, 0, 0, [])) rfl
set_option maxRecDepth 100000 in
theorem q0_883 {l1 l2 l3 : Value} {s0 : Nat} {s1 : Int32} {x : Nat}  : rn sc F 0 883 [.ref x, l1, l2, l3] [.ref s0, .int s1] f a j = rn sc F 0 884 [.ref x, l1, l2, l3] [.ref x, .ref s0, .int s1] f a j := rn_go (rfl : zOp 0 883 = some (883, .aload_n 0, 1, 0, 0, 0, 0, 0, [])) rfl
set_option maxRecDepth 100000 in
theorem q0_884 {l0 l1 l2 : Value} {s0 : Nat} {s1 : Nat} {s2 : Int32} {x : Int32}  : rn sc F 0 884 [l0, l1, l2, .int x] [.ref s0, .ref s1, .int s2] f a j = rn sc F 0 885 [l0, l1, l2, .int x] [.int x, .ref s0, .ref s1, .int s2] f a j := rn_go (rfl : zOp 0 884 = some (884, .iload_n 3, 1, 3, 0, 0, 0, 0, [])) rfl
set_option maxRecDepth 100000 in
theorem q0_885 {l0 l1 l2 l3 : Value} {s0 : Int32} {s1 : Nat} {s2 : Nat} {s3 : Int32}  : rn sc F 0 885 [l0, l1, l2, l3] [.int s0, .ref s1, .ref s2, .int s3] f a j = rn sc F 0 886 [l0, l1, l2, l3] [.int (nI 1), .int s0, .ref s1, .ref s2, .int s3] f a j := rn_go (rfl : zOp 0 885 = some (885, .iconst 1, 1, 0, 0, 0, nI 1, 0, [])) rfl
set_option maxRecDepth 100000 in
theorem q0_886 {l0 l1 l2 l3 : Value} {s0 : Int32} {s1 : Int32} {s2 : Nat} {s3 : Nat} {s4 : Int32}  : rn sc F 0 886 [l0, l1, l2, l3] [.int s0, .int s1, .ref s2, .ref s3, .int s4] f a j = rn sc F 0 887 [l0, l1, l2, l3] [.int (s1 + s0), .ref s2, .ref s3, .int s4] f a j := rn_go (rfl : zOp 0 886 = some (886, .iadd, 1, 0, 0, 0, 0, 0, [])) rfl
set_option maxRecDepth 100000 in
theorem q0_887 {l0 l1 l2 l3 : Value} {s0 : Int32} {s2 : Nat} {s3 : Int32} (h : ¬ (s0 < 0 ∨ sc.1.toNatClampNeg ≤ s0.toNatClampNeg)) : rn sc F 0 887 [l0, l1, l2, l3] [.int s0, .ref 999, .ref s2, .int s3] f a j = rn sc F 0 888 [l0, l1, l2, l3] [.int (sc.2 s0), .ref s2, .int s3] f a j := rn_go (rfl : zOp 0 887 = some (887, .iaload, 1, 0, 0, 0, 0, 0, [])) (zi_sald h)
set_option maxRecDepth 100000 in
theorem q0_888 {l0 l1 l2 l3 : Value} {s0 : Int32} {s2 : Int32}  : rn sc F 0 888 [l0, l1, l2, l3] [.int s0, .ref 85, .int s2] f a j = zCall (F 160 [.ref 85, .int s0] f a j) (fun v f a j => rn sc F 0 891 [l0, l1, l2, l3] (v.toList ++ [.int s2]) f a j) := rn_callV (rfl : zOp 0 888 = some (888, .invokevirtual 113, 3, 160, 1, 1090, 0, 0, [])) (by decide) rfl (rfl) (by simp [Value.category])
set_option maxRecDepth 100000 in
theorem q0_891 {l0 l1 l2 l3 : Value} {s0 : Int32} {s1 : Int32}  : rn sc F 0 891 [l0, l1, l2, l3] [.int s0, .int s1] f a j = if s1 = s0 then rn sc F 0 1407 [l0, l1, l2, l3] [] f a j else rn sc F 0 894 [l0, l1, l2, l3] [] f a j := (rn_go (rfl : zOp 0 891 = some (891, .if_icmp .eq 516, 3, 1407, 0, 0, 0, 0, [])) rfl).trans rn_ite
set_option maxRecDepth 100000 in
theorem q0_894 {l0 l1 l2 l3 : Value}   : rn sc F 0 894 [l0, l1, l2, l3] [] f a j = rn sc F 0 895 [l0, l1, l2, l3] [.int (nI 0)] f a j := rn_go (rfl : zOp 0 894 = some (894, .iconst 0, 1, 0, 0, 0, nI 0, 0, [])) rfl
set_option maxRecDepth 100000 in
theorem q0_895 {l0 l1 l2 l3 : Value} {s0 : Int32} (h : s0 = 0 ∨ s0 = 1) : rn sc F 0 895 [l0, l1, l2, l3] [.int s0] f a j = some (some (.int s0), f, a, j) := rn_end (rfl : zOp 0 895 = some (895, .ireturn, 1, 0, 0, 0, 0, 0, [])) (zi_retz h)
set_option maxRecDepth 100000 in
theorem q0_896 {l0 l2 l3 : Value} {x : Nat}  : rn sc F 0 896 [l0, .ref x, l2, l3] [] f a j = rn sc F 0 897 [l0, .ref x, l2, l3] [.ref x] f a j := rn_go (rfl : zOp 0 896 = some (896, .aload_n 1, 1, 1, 0, 0, 0, 0, [])) rfl
set_option maxRecDepth 100000 in
theorem q0_897 {l1 l2 l3 : Value} {s0 : Nat} {x : Nat}  : rn sc F 0 897 [.ref x, l1, l2, l3] [.ref s0] f a j = rn sc F 0 898 [.ref x, l1, l2, l3] [.ref x, .ref s0] f a j := rn_go (rfl : zOp 0 897 = some (897, .aload_n 0, 1, 0, 0, 0, 0, 0, [])) rfl
set_option maxRecDepth 100000 in
theorem q0_898 {l0 l1 l2 : Value} {s0 : Nat} {s1 : Nat} {x : Int32}  : rn sc F 0 898 [l0, l1, l2, .int x] [.ref s0, .ref s1] f a j = rn sc F 0 899 [l0, l1, l2, .int x] [.int x, .ref s0, .ref s1] f a j := rn_go (rfl : zOp 0 898 = some (898, .iload_n 3, 1, 3, 0, 0, 0, 0, [])) rfl
set_option maxRecDepth 100000 in
theorem q0_899 {l0 l1 l2 l3 : Value} {s0 : Int32} {s1 : Nat} {s2 : Nat}  : rn sc F 0 899 [l0, l1, l2, l3] [.int s0, .ref s1, .ref s2] f a j = rn sc F 0 900 [l0, l1, l2, l3] [.int (nI 1), .int s0, .ref s1, .ref s2] f a j := rn_go (rfl : zOp 0 899 = some (899, .iconst 1, 1, 0, 0, 0, nI 1, 0, [])) rfl
set_option maxRecDepth 100000 in
theorem q0_900 {l0 l1 l2 l3 : Value} {s0 : Int32} {s1 : Int32} {s2 : Nat} {s3 : Nat}  : rn sc F 0 900 [l0, l1, l2, l3] [.int s0, .int s1, .ref s2, .ref s3] f a j = rn sc F 0 901 [l0, l1, l2, l3] [.int (s1 + s0), .ref s2, .ref s3] f a j := rn_go (rfl : zOp 0 900 = some (900, .iadd, 1, 0, 0, 0, 0, 0, [])) rfl
set_option maxRecDepth 100000 in
theorem q0_901 {l0 l1 l2 l3 : Value} {s0 : Int32} {s2 : Nat} (h : ¬ (s0 < 0 ∨ sc.1.toNatClampNeg ≤ s0.toNatClampNeg)) : rn sc F 0 901 [l0, l1, l2, l3] [.int s0, .ref 999, .ref s2] f a j = rn sc F 0 902 [l0, l1, l2, l3] [.int (sc.2 s0), .ref s2] f a j := rn_go (rfl : zOp 0 901 = some (901, .iaload, 1, 0, 0, 0, 0, 0, [])) (zi_sald h)
set_option maxRecDepth 100000 in
theorem q0_902 {l1 l2 l3 : Value} {s0 : Int32} {s1 : Nat} {x : Nat}  : rn sc F 0 902 [.ref x, l1, l2, l3] [.int s0, .ref s1] f a j = rn sc F 0 903 [.ref x, l1, l2, l3] [.ref x, .int s0, .ref s1] f a j := rn_go (rfl : zOp 0 902 = some (902, .aload_n 0, 1, 0, 0, 0, 0, 0, [])) rfl
set_option maxRecDepth 100000 in
theorem q0_903 {l0 l1 l2 : Value} {s0 : Nat} {s1 : Int32} {s2 : Nat} {x : Int32}  : rn sc F 0 903 [l0, l1, l2, .int x] [.ref s0, .int s1, .ref s2] f a j = rn sc F 0 904 [l0, l1, l2, .int x] [.int x, .ref s0, .int s1, .ref s2] f a j := rn_go (rfl : zOp 0 903 = some (903, .iload_n 3, 1, 3, 0, 0, 0, 0, [])) rfl
set_option maxRecDepth 100000 in
theorem q0_904 {l0 l1 l2 l3 : Value} {s0 : Int32} {s1 : Nat} {s2 : Int32} {s3 : Nat}  : rn sc F 0 904 [l0, l1, l2, l3] [.int s0, .ref s1, .int s2, .ref s3] f a j = rn sc F 0 905 [l0, l1, l2, l3] [.int (nI 2), .int s0, .ref s1, .int s2, .ref s3] f a j := rn_go (rfl : zOp 0 904 = some (904, .iconst 2, 1, 0, 0, 0, nI 2, 0, [])) rfl
set_option maxRecDepth 100000 in
theorem q0_905 {l0 l1 l2 l3 : Value} {s0 : Int32} {s1 : Int32} {s2 : Nat} {s3 : Int32} {s4 : Nat}  : rn sc F 0 905 [l0, l1, l2, l3] [.int s0, .int s1, .ref s2, .int s3, .ref s4] f a j = rn sc F 0 906 [l0, l1, l2, l3] [.int (s1 + s0), .ref s2, .int s3, .ref s4] f a j := rn_go (rfl : zOp 0 905 = some (905, .iadd, 1, 0, 0, 0, 0, 0, [])) rfl
set_option maxRecDepth 100000 in
theorem q0_906 {l0 l1 l2 l3 : Value} {s0 : Int32} {s2 : Int32} {s3 : Nat} (h : ¬ (s0 < 0 ∨ sc.1.toNatClampNeg ≤ s0.toNatClampNeg)) : rn sc F 0 906 [l0, l1, l2, l3] [.int s0, .ref 999, .int s2, .ref s3] f a j = rn sc F 0 907 [l0, l1, l2, l3] [.int (sc.2 s0), .int s2, .ref s3] f a j := rn_go (rfl : zOp 0 906 = some (906, .iaload, 1, 0, 0, 0, 0, 0, [])) (zi_sald h)
set_option maxRecDepth 100000 in
theorem q0_907 {l0 l1 l2 l3 : Value} {s0 : Int32} {s1 : Int32}  : rn sc F 0 907 [l0, l1, l2, l3] [.int s0, .int s1, .ref 0] f a j = zCall (F 77 [.ref 0, .int s1, .int s0] f a j) (fun v f a j => rn sc F 0 910 [l0, l1, l2, l3] (v.toList ++ []) f a j) := rn_callV (rfl : zOp 0 907 = some (907, .invokevirtual 114, 3, 77, 2, 653, 0, 0, [])) (by decide) rfl (rfl) (by simp [Value.category])
set_option maxRecDepth 100000 in
theorem q0_910 {l0 l1 l3 : Value} {s0 : Int32} {x : Nat}  : rn sc F 0 910 [l0, l1, .ref x, l3] [.int s0] f a j = rn sc F 0 911 [l0, l1, .ref x, l3] [.ref x, .int s0] f a j := rn_go (rfl : zOp 0 910 = some (910, .aload_n 2, 1, 2, 0, 0, 0, 0, [])) rfl
set_option maxRecDepth 100000 in
theorem q0_911 {l1 l2 l3 : Value} {s0 : Nat} {s1 : Int32} {x : Nat}  : rn sc F 0 911 [.ref x, l1, l2, l3] [.ref s0, .int s1] f a j = rn sc F 0 912 [.ref x, l1, l2, l3] [.ref x, .ref s0, .int s1] f a j := rn_go (rfl : zOp 0 911 = some (911, .aload_n 0, 1, 0, 0, 0, 0, 0, [])) rfl
set_option maxRecDepth 100000 in
theorem q0_912 {l0 l1 l2 : Value} {s0 : Nat} {s1 : Nat} {s2 : Int32} {x : Int32}  : rn sc F 0 912 [l0, l1, l2, .int x] [.ref s0, .ref s1, .int s2] f a j = rn sc F 0 913 [l0, l1, l2, .int x] [.int x, .ref s0, .ref s1, .int s2] f a j := rn_go (rfl : zOp 0 912 = some (912, .iload_n 3, 1, 3, 0, 0, 0, 0, [])) rfl
set_option maxRecDepth 100000 in
theorem q0_913 {l0 l1 l2 l3 : Value} {s0 : Int32} {s1 : Nat} {s2 : Nat} {s3 : Int32}  : rn sc F 0 913 [l0, l1, l2, l3] [.int s0, .ref s1, .ref s2, .int s3] f a j = rn sc F 0 914 [l0, l1, l2, l3] [.int (nI 1), .int s0, .ref s1, .ref s2, .int s3] f a j := rn_go (rfl : zOp 0 913 = some (913, .iconst 1, 1, 0, 0, 0, nI 1, 0, [])) rfl
set_option maxRecDepth 100000 in
theorem q0_914 {l0 l1 l2 l3 : Value} {s0 : Int32} {s1 : Int32} {s2 : Nat} {s3 : Nat} {s4 : Int32}  : rn sc F 0 914 [l0, l1, l2, l3] [.int s0, .int s1, .ref s2, .ref s3, .int s4] f a j = rn sc F 0 915 [l0, l1, l2, l3] [.int (s1 + s0), .ref s2, .ref s3, .int s4] f a j := rn_go (rfl : zOp 0 914 = some (914, .iadd, 1, 0, 0, 0, 0, 0, [])) rfl
set_option maxRecDepth 100000 in
theorem q0_915 {l0 l1 l2 l3 : Value} {s0 : Int32} {s2 : Nat} {s3 : Int32} (h : ¬ (s0 < 0 ∨ sc.1.toNatClampNeg ≤ s0.toNatClampNeg)) : rn sc F 0 915 [l0, l1, l2, l3] [.int s0, .ref 999, .ref s2, .int s3] f a j = rn sc F 0 916 [l0, l1, l2, l3] [.int (sc.2 s0), .ref s2, .int s3] f a j := rn_go (rfl : zOp 0 915 = some (915, .iaload, 1, 0, 0, 0, 0, 0, [])) (zi_sald h)
set_option maxRecDepth 100000 in
theorem q0_916 {l1 l2 l3 : Value} {s0 : Int32} {s1 : Nat} {s2 : Int32} {x : Nat}  : rn sc F 0 916 [.ref x, l1, l2, l3] [.int s0, .ref s1, .int s2] f a j = rn sc F 0 917 [.ref x, l1, l2, l3] [.ref x, .int s0, .ref s1, .int s2] f a j := rn_go (rfl : zOp 0 916 = some (916, .aload_n 0, 1, 0, 0, 0, 0, 0, [])) rfl
set_option maxRecDepth 100000 in
theorem q0_917 {l0 l1 l2 : Value} {s0 : Nat} {s1 : Int32} {s2 : Nat} {s3 : Int32} {x : Int32}  : rn sc F 0 917 [l0, l1, l2, .int x] [.ref s0, .int s1, .ref s2, .int s3] f a j = rn sc F 0 918 [l0, l1, l2, .int x] [.int x, .ref s0, .int s1, .ref s2, .int s3] f a j := rn_go (rfl : zOp 0 917 = some (917, .iload_n 3, 1, 3, 0, 0, 0, 0, [])) rfl
set_option maxRecDepth 100000 in
theorem q0_918 {l0 l1 l2 l3 : Value} {s0 : Int32} {s1 : Nat} {s2 : Int32} {s3 : Nat} {s4 : Int32}  : rn sc F 0 918 [l0, l1, l2, l3] [.int s0, .ref s1, .int s2, .ref s3, .int s4] f a j = rn sc F 0 919 [l0, l1, l2, l3] [.int (nI 2), .int s0, .ref s1, .int s2, .ref s3, .int s4] f a j := rn_go (rfl : zOp 0 918 = some (918, .iconst 2, 1, 0, 0, 0, nI 2, 0, [])) rfl
set_option maxRecDepth 100000 in
theorem q0_919 {l0 l1 l2 l3 : Value} {s0 : Int32} {s1 : Int32} {s2 : Nat} {s3 : Int32} {s4 : Nat} {s5 : Int32}  : rn sc F 0 919 [l0, l1, l2, l3] [.int s0, .int s1, .ref s2, .int s3, .ref s4, .int s5] f a j = rn sc F 0 920 [l0, l1, l2, l3] [.int (s1 + s0), .ref s2, .int s3, .ref s4, .int s5] f a j := rn_go (rfl : zOp 0 919 = some (919, .iadd, 1, 0, 0, 0, 0, 0, [])) rfl
set_option maxRecDepth 100000 in
theorem q0_920 {l0 l1 l2 l3 : Value} {s0 : Int32} {s2 : Int32} {s3 : Nat} {s4 : Int32} (h : ¬ (s0 < 0 ∨ sc.1.toNatClampNeg ≤ s0.toNatClampNeg)) : rn sc F 0 920 [l0, l1, l2, l3] [.int s0, .ref 999, .int s2, .ref s3, .int s4] f a j = rn sc F 0 921 [l0, l1, l2, l3] [.int (sc.2 s0), .int s2, .ref s3, .int s4] f a j := rn_go (rfl : zOp 0 920 = some (920, .iaload, 1, 0, 0, 0, 0, 0, [])) (zi_sald h)
set_option maxRecDepth 100000 in
theorem q0_921 {l0 l1 l2 l3 : Value} {s0 : Int32} {s1 : Int32} {s3 : Int32}  : rn sc F 0 921 [l0, l1, l2, l3] [.int s0, .int s1, .ref 85, .int s3] f a j = zCall (F 161 [.ref 85, .int s1, .int s0] f a j) (fun v f a j => rn sc F 0 924 [l0, l1, l2, l3] (v.toList ++ [.int s3]) f a j) := rn_callV (rfl : zOp 0 921 = some (921, .invokevirtual 117, 3, 161, 2, 1094, 0, 0, [])) (by decide) rfl (rfl) (by simp [Value.category])
set_option maxRecDepth 100000 in
theorem q0_924 {l0 l1 l2 l3 : Value} {s0 : Int32} {s1 : Int32}  : rn sc F 0 924 [l0, l1, l2, l3] [.int s0, .int s1] f a j = if s1 = s0 then rn sc F 0 1407 [l0, l1, l2, l3] [] f a j else rn sc F 0 927 [l0, l1, l2, l3] [] f a j := (rn_go (rfl : zOp 0 924 = some (924, .if_icmp .eq 483, 3, 1407, 0, 0, 0, 0, [])) rfl).trans rn_ite
set_option maxRecDepth 100000 in
theorem q0_927 {l0 l1 l2 l3 : Value}   : rn sc F 0 927 [l0, l1, l2, l3] [] f a j = rn sc F 0 928 [l0, l1, l2, l3] [.int (nI 0)] f a j := rn_go (rfl : zOp 0 927 = some (927, .iconst 0, 1, 0, 0, 0, nI 0, 0, [])) rfl
set_option maxRecDepth 100000 in
theorem q0_928 {l0 l1 l2 l3 : Value} {s0 : Int32} (h : s0 = 0 ∨ s0 = 1) : rn sc F 0 928 [l0, l1, l2, l3] [.int s0] f a j = some (some (.int s0), f, a, j) := rn_end (rfl : zOp 0 928 = some (928, .ireturn, 1, 0, 0, 0, 0, 0, [])) (zi_retz h)
set_option maxRecDepth 100000 in
theorem q0_929 {l0 l2 l3 : Value} {x : Nat}  : rn sc F 0 929 [l0, .ref x, l2, l3] [] f a j = rn sc F 0 930 [l0, .ref x, l2, l3] [.ref x] f a j := rn_go (rfl : zOp 0 929 = some (929, .aload_n 1, 1, 1, 0, 0, 0, 0, [])) rfl
set_option maxRecDepth 100000 in
theorem q0_930 {l1 l2 l3 : Value} {s0 : Nat} {x : Nat}  : rn sc F 0 930 [.ref x, l1, l2, l3] [.ref s0] f a j = rn sc F 0 931 [.ref x, l1, l2, l3] [.ref x, .ref s0] f a j := rn_go (rfl : zOp 0 930 = some (930, .aload_n 0, 1, 0, 0, 0, 0, 0, [])) rfl
set_option maxRecDepth 100000 in
theorem q0_931 {l0 l1 l2 : Value} {s0 : Nat} {s1 : Nat} {x : Int32}  : rn sc F 0 931 [l0, l1, l2, .int x] [.ref s0, .ref s1] f a j = rn sc F 0 932 [l0, l1, l2, .int x] [.int x, .ref s0, .ref s1] f a j := rn_go (rfl : zOp 0 931 = some (931, .iload_n 3, 1, 3, 0, 0, 0, 0, [])) rfl
set_option maxRecDepth 100000 in
theorem q0_932 {l0 l1 l2 l3 : Value} {s0 : Int32} {s1 : Nat} {s2 : Nat}  : rn sc F 0 932 [l0, l1, l2, l3] [.int s0, .ref s1, .ref s2] f a j = rn sc F 0 933 [l0, l1, l2, l3] [.int (nI 1), .int s0, .ref s1, .ref s2] f a j := rn_go (rfl : zOp 0 932 = some (932, .iconst 1, 1, 0, 0, 0, nI 1, 0, [])) rfl
set_option maxRecDepth 100000 in
theorem q0_933 {l0 l1 l2 l3 : Value} {s0 : Int32} {s1 : Int32} {s2 : Nat} {s3 : Nat}  : rn sc F 0 933 [l0, l1, l2, l3] [.int s0, .int s1, .ref s2, .ref s3] f a j = rn sc F 0 934 [l0, l1, l2, l3] [.int (s1 + s0), .ref s2, .ref s3] f a j := rn_go (rfl : zOp 0 933 = some (933, .iadd, 1, 0, 0, 0, 0, 0, [])) rfl
set_option maxRecDepth 100000 in
theorem q0_934 {l0 l1 l2 l3 : Value} {s0 : Int32} {s2 : Nat} (h : ¬ (s0 < 0 ∨ sc.1.toNatClampNeg ≤ s0.toNatClampNeg)) : rn sc F 0 934 [l0, l1, l2, l3] [.int s0, .ref 999, .ref s2] f a j = rn sc F 0 935 [l0, l1, l2, l3] [.int (sc.2 s0), .ref s2] f a j := rn_go (rfl : zOp 0 934 = some (934, .iaload, 1, 0, 0, 0, 0, 0, [])) (zi_sald h)
set_option maxRecDepth 100000 in
theorem q0_935 {l0 l1 l2 l3 : Value} {s0 : Int32}  : rn sc F 0 935 [l0, l1, l2, l3] [.int s0, .ref 0] f a j = zCall (F 78 [.ref 0, .int s0] f a j) (fun v f a j => rn sc F 0 938 [l0, l1, l2, l3] (v.toList ++ []) f a j) := rn_callV (rfl : zOp 0 935 = some (935, .invokevirtual 118, 3, 78, 1, 661, 0, 0, [])) (by decide) rfl (rfl) (by simp [Value.category])
set_option maxRecDepth 100000 in
theorem q0_938 {l0 l1 l3 : Value} {s0 : Int32} {x : Nat}  : rn sc F 0 938 [l0, l1, .ref x, l3] [.int s0] f a j = rn sc F 0 939 [l0, l1, .ref x, l3] [.ref x, .int s0] f a j := rn_go (rfl : zOp 0 938 = some (938, .aload_n 2, 1, 2, 0, 0, 0, 0, [])) rfl
set_option maxRecDepth 100000 in
theorem q0_939 {l1 l2 l3 : Value} {s0 : Nat} {s1 : Int32} {x : Nat}  : rn sc F 0 939 [.ref x, l1, l2, l3] [.ref s0, .int s1] f a j = rn sc F 0 940 [.ref x, l1, l2, l3] [.ref x, .ref s0, .int s1] f a j := rn_go (rfl : zOp 0 939 = some (939, .aload_n 0, 1, 0, 0, 0, 0, 0, [])) rfl
set_option maxRecDepth 100000 in
theorem q0_940 {l0 l1 l2 : Value} {s0 : Nat} {s1 : Nat} {s2 : Int32} {x : Int32}  : rn sc F 0 940 [l0, l1, l2, .int x] [.ref s0, .ref s1, .int s2] f a j = rn sc F 0 941 [l0, l1, l2, .int x] [.int x, .ref s0, .ref s1, .int s2] f a j := rn_go (rfl : zOp 0 940 = some (940, .iload_n 3, 1, 3, 0, 0, 0, 0, [])) rfl
set_option maxRecDepth 100000 in
theorem q0_941 {l0 l1 l2 l3 : Value} {s0 : Int32} {s1 : Nat} {s2 : Nat} {s3 : Int32}  : rn sc F 0 941 [l0, l1, l2, l3] [.int s0, .ref s1, .ref s2, .int s3] f a j = rn sc F 0 942 [l0, l1, l2, l3] [.int (nI 1), .int s0, .ref s1, .ref s2, .int s3] f a j := rn_go (rfl : zOp 0 941 = some (941, .iconst 1, 1, 0, 0, 0, nI 1, 0, [])) rfl
set_option maxRecDepth 100000 in
theorem q0_942 {l0 l1 l2 l3 : Value} {s0 : Int32} {s1 : Int32} {s2 : Nat} {s3 : Nat} {s4 : Int32}  : rn sc F 0 942 [l0, l1, l2, l3] [.int s0, .int s1, .ref s2, .ref s3, .int s4] f a j = rn sc F 0 943 [l0, l1, l2, l3] [.int (s1 + s0), .ref s2, .ref s3, .int s4] f a j := rn_go (rfl : zOp 0 942 = some (942, .iadd, 1, 0, 0, 0, 0, 0, [])) rfl
set_option maxRecDepth 100000 in
theorem q0_943 {l0 l1 l2 l3 : Value} {s0 : Int32} {s2 : Nat} {s3 : Int32} (h : ¬ (s0 < 0 ∨ sc.1.toNatClampNeg ≤ s0.toNatClampNeg)) : rn sc F 0 943 [l0, l1, l2, l3] [.int s0, .ref 999, .ref s2, .int s3] f a j = rn sc F 0 944 [l0, l1, l2, l3] [.int (sc.2 s0), .ref s2, .int s3] f a j := rn_go (rfl : zOp 0 943 = some (943, .iaload, 1, 0, 0, 0, 0, 0, [])) (zi_sald h)
set_option maxRecDepth 100000 in
theorem q0_944 {l0 l1 l2 l3 : Value} {s0 : Int32} {s2 : Int32}  : rn sc F 0 944 [l0, l1, l2, l3] [.int s0, .ref 85, .int s2] f a j = zCall (F 163 [.ref 85, .int s0] f a j) (fun v f a j => rn sc F 0 947 [l0, l1, l2, l3] (v.toList ++ [.int s2]) f a j) := rn_callV (rfl : zOp 0 944 = some (944, .invokevirtual 121, 3, 163, 1, 1098, 0, 0, [])) (by decide) rfl (rfl) (by simp [Value.category])
set_option maxRecDepth 100000 in
theorem q0_947 {l0 l1 l2 l3 : Value} {s0 : Int32} {s1 : Int32}  : rn sc F 0 947 [l0, l1, l2, l3] [.int s0, .int s1] f a j = if s1 = s0 then rn sc F 0 1407 [l0, l1, l2, l3] [] f a j else rn sc F 0 950 [l0, l1, l2, l3] [] f a j := (rn_go (rfl : zOp 0 947 = some (947, .if_icmp .eq 460, 3, 1407, 0, 0, 0, 0, [])) rfl).trans rn_ite
set_option maxRecDepth 100000 in
theorem q0_950 {l0 l1 l2 l3 : Value}   : rn sc F 0 950 [l0, l1, l2, l3] [] f a j = rn sc F 0 951 [l0, l1, l2, l3] [.int (nI 0)] f a j := rn_go (rfl : zOp 0 950 = some (950, .iconst 0, 1, 0, 0, 0, nI 0, 0, [])) rfl
set_option maxRecDepth 100000 in
theorem q0_951 {l0 l1 l2 l3 : Value} {s0 : Int32} (h : s0 = 0 ∨ s0 = 1) : rn sc F 0 951 [l0, l1, l2, l3] [.int s0] f a j = some (some (.int s0), f, a, j) := rn_end (rfl : zOp 0 951 = some (951, .ireturn, 1, 0, 0, 0, 0, 0, [])) (zi_retz h)
set_option maxRecDepth 100000 in
theorem q0_952 {l0 l2 l3 : Value} {x : Nat}  : rn sc F 0 952 [l0, .ref x, l2, l3] [] f a j = rn sc F 0 953 [l0, .ref x, l2, l3] [.ref x] f a j := rn_go (rfl : zOp 0 952 = some (952, .aload_n 1, 1, 1, 0, 0, 0, 0, [])) rfl
set_option maxRecDepth 100000 in
theorem q0_953 {l1 l2 l3 : Value} {s0 : Nat} {x : Nat}  : rn sc F 0 953 [.ref x, l1, l2, l3] [.ref s0] f a j = rn sc F 0 954 [.ref x, l1, l2, l3] [.ref x, .ref s0] f a j := rn_go (rfl : zOp 0 953 = some (953, .aload_n 0, 1, 0, 0, 0, 0, 0, [])) rfl
set_option maxRecDepth 100000 in
theorem q0_954 {l0 l1 l2 : Value} {s0 : Nat} {s1 : Nat} {x : Int32}  : rn sc F 0 954 [l0, l1, l2, .int x] [.ref s0, .ref s1] f a j = rn sc F 0 955 [l0, l1, l2, .int x] [.int x, .ref s0, .ref s1] f a j := rn_go (rfl : zOp 0 954 = some (954, .iload_n 3, 1, 3, 0, 0, 0, 0, [])) rfl
set_option maxRecDepth 100000 in
theorem q0_955 {l0 l1 l2 l3 : Value} {s0 : Int32} {s1 : Nat} {s2 : Nat}  : rn sc F 0 955 [l0, l1, l2, l3] [.int s0, .ref s1, .ref s2] f a j = rn sc F 0 956 [l0, l1, l2, l3] [.int (nI 1), .int s0, .ref s1, .ref s2] f a j := rn_go (rfl : zOp 0 955 = some (955, .iconst 1, 1, 0, 0, 0, nI 1, 0, [])) rfl
set_option maxRecDepth 100000 in
theorem q0_956 {l0 l1 l2 l3 : Value} {s0 : Int32} {s1 : Int32} {s2 : Nat} {s3 : Nat}  : rn sc F 0 956 [l0, l1, l2, l3] [.int s0, .int s1, .ref s2, .ref s3] f a j = rn sc F 0 957 [l0, l1, l2, l3] [.int (s1 + s0), .ref s2, .ref s3] f a j := rn_go (rfl : zOp 0 956 = some (956, .iadd, 1, 0, 0, 0, 0, 0, [])) rfl
set_option maxRecDepth 100000 in
theorem q0_957 {l0 l1 l2 l3 : Value} {s0 : Int32} {s2 : Nat} (h : ¬ (s0 < 0 ∨ sc.1.toNatClampNeg ≤ s0.toNatClampNeg)) : rn sc F 0 957 [l0, l1, l2, l3] [.int s0, .ref 999, .ref s2] f a j = rn sc F 0 958 [l0, l1, l2, l3] [.int (sc.2 s0), .ref s2] f a j := rn_go (rfl : zOp 0 957 = some (957, .iaload, 1, 0, 0, 0, 0, 0, [])) (zi_sald h)
set_option maxRecDepth 100000 in
theorem q0_958 {l1 l2 l3 : Value} {s0 : Int32} {s1 : Nat} {x : Nat}  : rn sc F 0 958 [.ref x, l1, l2, l3] [.int s0, .ref s1] f a j = rn sc F 0 959 [.ref x, l1, l2, l3] [.ref x, .int s0, .ref s1] f a j := rn_go (rfl : zOp 0 958 = some (958, .aload_n 0, 1, 0, 0, 0, 0, 0, [])) rfl
set_option maxRecDepth 100000 in
theorem q0_959 {l0 l1 l2 : Value} {s0 : Nat} {s1 : Int32} {s2 : Nat} {x : Int32}  : rn sc F 0 959 [l0, l1, l2, .int x] [.ref s0, .int s1, .ref s2] f a j = rn sc F 0 960 [l0, l1, l2, .int x] [.int x, .ref s0, .int s1, .ref s2] f a j := rn_go (rfl : zOp 0 959 = some (959, .iload_n 3, 1, 3, 0, 0, 0, 0, [])) rfl
set_option maxRecDepth 100000 in
theorem q0_960 {l0 l1 l2 l3 : Value} {s0 : Int32} {s1 : Nat} {s2 : Int32} {s3 : Nat}  : rn sc F 0 960 [l0, l1, l2, l3] [.int s0, .ref s1, .int s2, .ref s3] f a j = rn sc F 0 961 [l0, l1, l2, l3] [.int (nI 2), .int s0, .ref s1, .int s2, .ref s3] f a j := rn_go (rfl : zOp 0 960 = some (960, .iconst 2, 1, 0, 0, 0, nI 2, 0, [])) rfl
set_option maxRecDepth 100000 in
theorem q0_961 {l0 l1 l2 l3 : Value} {s0 : Int32} {s1 : Int32} {s2 : Nat} {s3 : Int32} {s4 : Nat}  : rn sc F 0 961 [l0, l1, l2, l3] [.int s0, .int s1, .ref s2, .int s3, .ref s4] f a j = rn sc F 0 962 [l0, l1, l2, l3] [.int (s1 + s0), .ref s2, .int s3, .ref s4] f a j := rn_go (rfl : zOp 0 961 = some (961, .iadd, 1, 0, 0, 0, 0, 0, [])) rfl
set_option maxRecDepth 100000 in
theorem q0_962 {l0 l1 l2 l3 : Value} {s0 : Int32} {s2 : Int32} {s3 : Nat} (h : ¬ (s0 < 0 ∨ sc.1.toNatClampNeg ≤ s0.toNatClampNeg)) : rn sc F 0 962 [l0, l1, l2, l3] [.int s0, .ref 999, .int s2, .ref s3] f a j = rn sc F 0 963 [l0, l1, l2, l3] [.int (sc.2 s0), .int s2, .ref s3] f a j := rn_go (rfl : zOp 0 962 = some (962, .iaload, 1, 0, 0, 0, 0, 0, [])) (zi_sald h)
set_option maxRecDepth 100000 in
theorem q0_963 {l0 l1 l2 l3 : Value} {s0 : Int32} {s1 : Int32}  : rn sc F 0 963 [l0, l1, l2, l3] [.int s0, .int s1, .ref 0] f a j = zCall (F 79 [.ref 0, .int s1, .int s0] f a j) (fun v f a j => rn sc F 0 966 [l0, l1, l2, l3] (v.toList ++ []) f a j) := rn_callV (rfl : zOp 0 963 = some (963, .invokevirtual 122, 3, 79, 2, 668, 0, 0, [])) (by decide) rfl (rfl) (by simp [Value.category])
set_option maxRecDepth 100000 in
theorem q0_966 {l0 l1 l3 : Value} {s0 : Int64} {x : Nat}  : rn sc F 0 966 [l0, l1, .ref x, l3] [.long s0] f a j = rn sc F 0 967 [l0, l1, .ref x, l3] [.ref x, .long s0] f a j := rn_go (rfl : zOp 0 966 = some (966, .aload_n 2, 1, 2, 0, 0, 0, 0, [])) rfl
set_option maxRecDepth 100000 in
theorem q0_967 {l1 l2 l3 : Value} {s0 : Nat} {s1 : Int64} {x : Nat}  : rn sc F 0 967 [.ref x, l1, l2, l3] [.ref s0, .long s1] f a j = rn sc F 0 968 [.ref x, l1, l2, l3] [.ref x, .ref s0, .long s1] f a j := rn_go (rfl : zOp 0 967 = some (967, .aload_n 0, 1, 0, 0, 0, 0, 0, [])) rfl
set_option maxRecDepth 100000 in
theorem q0_968 {l0 l1 l2 : Value} {s0 : Nat} {s1 : Nat} {s2 : Int64} {x : Int32}  : rn sc F 0 968 [l0, l1, l2, .int x] [.ref s0, .ref s1, .long s2] f a j = rn sc F 0 969 [l0, l1, l2, .int x] [.int x, .ref s0, .ref s1, .long s2] f a j := rn_go (rfl : zOp 0 968 = some (968, .iload_n 3, 1, 3, 0, 0, 0, 0, [])) rfl
set_option maxRecDepth 100000 in
theorem q0_969 {l0 l1 l2 l3 : Value} {s0 : Int32} {s1 : Nat} {s2 : Nat} {s3 : Int64}  : rn sc F 0 969 [l0, l1, l2, l3] [.int s0, .ref s1, .ref s2, .long s3] f a j = rn sc F 0 970 [l0, l1, l2, l3] [.int (nI 1), .int s0, .ref s1, .ref s2, .long s3] f a j := rn_go (rfl : zOp 0 969 = some (969, .iconst 1, 1, 0, 0, 0, nI 1, 0, [])) rfl
set_option maxRecDepth 100000 in
theorem q0_970 {l0 l1 l2 l3 : Value} {s0 : Int32} {s1 : Int32} {s2 : Nat} {s3 : Nat} {s4 : Int64}  : rn sc F 0 970 [l0, l1, l2, l3] [.int s0, .int s1, .ref s2, .ref s3, .long s4] f a j = rn sc F 0 971 [l0, l1, l2, l3] [.int (s1 + s0), .ref s2, .ref s3, .long s4] f a j := rn_go (rfl : zOp 0 970 = some (970, .iadd, 1, 0, 0, 0, 0, 0, [])) rfl
set_option maxRecDepth 100000 in
theorem q0_971 {l0 l1 l2 l3 : Value} {s0 : Int32} {s2 : Nat} {s3 : Int64} (h : ¬ (s0 < 0 ∨ sc.1.toNatClampNeg ≤ s0.toNatClampNeg)) : rn sc F 0 971 [l0, l1, l2, l3] [.int s0, .ref 999, .ref s2, .long s3] f a j = rn sc F 0 972 [l0, l1, l2, l3] [.int (sc.2 s0), .ref s2, .long s3] f a j := rn_go (rfl : zOp 0 971 = some (971, .iaload, 1, 0, 0, 0, 0, 0, [])) (zi_sald h)
set_option maxRecDepth 100000 in
theorem q0_972 {l1 l2 l3 : Value} {s0 : Int32} {s1 : Nat} {s2 : Int64} {x : Nat}  : rn sc F 0 972 [.ref x, l1, l2, l3] [.int s0, .ref s1, .long s2] f a j = rn sc F 0 973 [.ref x, l1, l2, l3] [.ref x, .int s0, .ref s1, .long s2] f a j := rn_go (rfl : zOp 0 972 = some (972, .aload_n 0, 1, 0, 0, 0, 0, 0, [])) rfl
set_option maxRecDepth 100000 in
theorem q0_973 {l0 l1 l2 : Value} {s0 : Nat} {s1 : Int32} {s2 : Nat} {s3 : Int64} {x : Int32}  : rn sc F 0 973 [l0, l1, l2, .int x] [.ref s0, .int s1, .ref s2, .long s3] f a j = rn sc F 0 974 [l0, l1, l2, .int x] [.int x, .ref s0, .int s1, .ref s2, .long s3] f a j := rn_go (rfl : zOp 0 973 = some (973, .iload_n 3, 1, 3, 0, 0, 0, 0, [])) rfl
set_option maxRecDepth 100000 in
theorem q0_974 {l0 l1 l2 l3 : Value} {s0 : Int32} {s1 : Nat} {s2 : Int32} {s3 : Nat} {s4 : Int64}  : rn sc F 0 974 [l0, l1, l2, l3] [.int s0, .ref s1, .int s2, .ref s3, .long s4] f a j = rn sc F 0 975 [l0, l1, l2, l3] [.int (nI 2), .int s0, .ref s1, .int s2, .ref s3, .long s4] f a j := rn_go (rfl : zOp 0 974 = some (974, .iconst 2, 1, 0, 0, 0, nI 2, 0, [])) rfl
set_option maxRecDepth 100000 in
theorem q0_975 {l0 l1 l2 l3 : Value} {s0 : Int32} {s1 : Int32} {s2 : Nat} {s3 : Int32} {s4 : Nat} {s5 : Int64}  : rn sc F 0 975 [l0, l1, l2, l3] [.int s0, .int s1, .ref s2, .int s3, .ref s4, .long s5] f a j = rn sc F 0 976 [l0, l1, l2, l3] [.int (s1 + s0), .ref s2, .int s3, .ref s4, .long s5] f a j := rn_go (rfl : zOp 0 975 = some (975, .iadd, 1, 0, 0, 0, 0, 0, [])) rfl
set_option maxRecDepth 100000 in
theorem q0_976 {l0 l1 l2 l3 : Value} {s0 : Int32} {s2 : Int32} {s3 : Nat} {s4 : Int64} (h : ¬ (s0 < 0 ∨ sc.1.toNatClampNeg ≤ s0.toNatClampNeg)) : rn sc F 0 976 [l0, l1, l2, l3] [.int s0, .ref 999, .int s2, .ref s3, .long s4] f a j = rn sc F 0 977 [l0, l1, l2, l3] [.int (sc.2 s0), .int s2, .ref s3, .long s4] f a j := rn_go (rfl : zOp 0 976 = some (976, .iaload, 1, 0, 0, 0, 0, 0, [])) (zi_sald h)
set_option maxRecDepth 100000 in
theorem q0_977 {l0 l1 l2 l3 : Value} {s0 : Int32} {s1 : Int32} {s3 : Int64}  : rn sc F 0 977 [l0, l1, l2, l3] [.int s0, .int s1, .ref 85, .long s3] f a j = zCall (F 165 [.ref 85, .int s1, .int s0] f a j) (fun v f a j => rn sc F 0 980 [l0, l1, l2, l3] (v.toList ++ [.long s3]) f a j) := rn_callV (rfl : zOp 0 977 = some (977, .invokevirtual 126, 3, 165, 2, 1106, 0, 0, [])) (by decide) rfl (rfl) (by simp [Value.category])
set_option maxRecDepth 100000 in
theorem q0_980 {l0 l1 l2 l3 : Value} {s0 : Int64} {s1 : Int64}  : rn sc F 0 980 [l0, l1, l2, l3] [.long s0, .long s1] f a j = rn sc F 0 981 [l0, l1, l2, l3] [.int (lg_cmp s1 s0)] f a j := rn_go (rfl : zOp 0 980 = some (980, .lcmp, 1, 0, 0, 0, 0, 0, [])) rfl
set_option maxRecDepth 100000 in
theorem q0_981 {l0 l1 l2 l3 : Value} {s0 : Int32}  : rn sc F 0 981 [l0, l1, l2, l3] [.int s0] f a j = if s0 = 0 then rn sc F 0 1407 [l0, l1, l2, l3] [] f a j else rn sc F 0 984 [l0, l1, l2, l3] [] f a j := (rn_go (rfl : zOp 0 981 = some (981, .ifCond .eq 426, 3, 1407, 0, 0, 0, 0, [])) rfl).trans rn_ite
set_option maxRecDepth 100000 in
theorem q0_984 {l0 l1 l2 l3 : Value}   : rn sc F 0 984 [l0, l1, l2, l3] [] f a j = rn sc F 0 985 [l0, l1, l2, l3] [.int (nI 0)] f a j := rn_go (rfl : zOp 0 984 = some (984, .iconst 0, 1, 0, 0, 0, nI 0, 0, [])) rfl
set_option maxRecDepth 100000 in
theorem q0_985 {l0 l1 l2 l3 : Value} {s0 : Int32} (h : s0 = 0 ∨ s0 = 1) : rn sc F 0 985 [l0, l1, l2, l3] [.int s0] f a j = some (some (.int s0), f, a, j) := rn_end (rfl : zOp 0 985 = some (985, .ireturn, 1, 0, 0, 0, 0, 0, [])) (zi_retz h)
set_option maxRecDepth 100000 in
theorem q0_986 {l0 l2 l3 : Value} {x : Nat}  : rn sc F 0 986 [l0, .ref x, l2, l3] [] f a j = rn sc F 0 987 [l0, .ref x, l2, l3] [.ref x] f a j := rn_go (rfl : zOp 0 986 = some (986, .aload_n 1, 1, 1, 0, 0, 0, 0, [])) rfl
set_option maxRecDepth 100000 in
theorem q0_987 {l1 l2 l3 : Value} {s0 : Nat} {x : Nat}  : rn sc F 0 987 [.ref x, l1, l2, l3] [.ref s0] f a j = rn sc F 0 988 [.ref x, l1, l2, l3] [.ref x, .ref s0] f a j := rn_go (rfl : zOp 0 987 = some (987, .aload_n 0, 1, 0, 0, 0, 0, 0, [])) rfl
set_option maxRecDepth 100000 in
theorem q0_988 {l0 l1 l2 : Value} {s0 : Nat} {s1 : Nat} {x : Int32}  : rn sc F 0 988 [l0, l1, l2, .int x] [.ref s0, .ref s1] f a j = rn sc F 0 989 [l0, l1, l2, .int x] [.int x, .ref s0, .ref s1] f a j := rn_go (rfl : zOp 0 988 = some (988, .iload_n 3, 1, 3, 0, 0, 0, 0, [])) rfl
set_option maxRecDepth 100000 in
theorem q0_989 {l0 l1 l2 l3 : Value} {s0 : Int32} {s1 : Nat} {s2 : Nat}  : rn sc F 0 989 [l0, l1, l2, l3] [.int s0, .ref s1, .ref s2] f a j = rn sc F 0 990 [l0, l1, l2, l3] [.int (nI 1), .int s0, .ref s1, .ref s2] f a j := rn_go (rfl : zOp 0 989 = some (989, .iconst 1, 1, 0, 0, 0, nI 1, 0, [])) rfl
set_option maxRecDepth 100000 in
theorem q0_990 {l0 l1 l2 l3 : Value} {s0 : Int32} {s1 : Int32} {s2 : Nat} {s3 : Nat}  : rn sc F 0 990 [l0, l1, l2, l3] [.int s0, .int s1, .ref s2, .ref s3] f a j = rn sc F 0 991 [l0, l1, l2, l3] [.int (s1 + s0), .ref s2, .ref s3] f a j := rn_go (rfl : zOp 0 990 = some (990, .iadd, 1, 0, 0, 0, 0, 0, [])) rfl
set_option maxRecDepth 100000 in
theorem q0_991 {l0 l1 l2 l3 : Value} {s0 : Int32} {s2 : Nat} (h : ¬ (s0 < 0 ∨ sc.1.toNatClampNeg ≤ s0.toNatClampNeg)) : rn sc F 0 991 [l0, l1, l2, l3] [.int s0, .ref 999, .ref s2] f a j = rn sc F 0 992 [l0, l1, l2, l3] [.int (sc.2 s0), .ref s2] f a j := rn_go (rfl : zOp 0 991 = some (991, .iaload, 1, 0, 0, 0, 0, 0, [])) (zi_sald h)
set_option maxRecDepth 100000 in
theorem q0_992 {l0 l1 l2 l3 : Value} {s0 : Int32}  : rn sc F 0 992 [l0, l1, l2, l3] [.int s0, .ref 0] f a j = zCall (F 80 [.ref 0, .int s0] f a j) (fun v f a j => rn sc F 0 995 [l0, l1, l2, l3] (v.toList ++ []) f a j) := rn_callV (rfl : zOp 0 992 = some (992, .invokevirtual 127, 3, 80, 1, 680, 0, 0, [])) (by decide) rfl (rfl) (by simp [Value.category])
set_option maxRecDepth 100000 in
theorem q0_995 {l0 l1 l3 : Value} {s0 : Int64} {x : Nat}  : rn sc F 0 995 [l0, l1, .ref x, l3] [.long s0] f a j = rn sc F 0 996 [l0, l1, .ref x, l3] [.ref x, .long s0] f a j := rn_go (rfl : zOp 0 995 = some (995, .aload_n 2, 1, 2, 0, 0, 0, 0, [])) rfl
set_option maxRecDepth 100000 in
theorem q0_996 {l1 l2 l3 : Value} {s0 : Nat} {s1 : Int64} {x : Nat}  : rn sc F 0 996 [.ref x, l1, l2, l3] [.ref s0, .long s1] f a j = rn sc F 0 997 [.ref x, l1, l2, l3] [.ref x, .ref s0, .long s1] f a j := rn_go (rfl : zOp 0 996 = some (996, .aload_n 0, 1, 0, 0, 0, 0, 0, [])) rfl
set_option maxRecDepth 100000 in
theorem q0_997 {l0 l1 l2 : Value} {s0 : Nat} {s1 : Nat} {s2 : Int64} {x : Int32}  : rn sc F 0 997 [l0, l1, l2, .int x] [.ref s0, .ref s1, .long s2] f a j = rn sc F 0 998 [l0, l1, l2, .int x] [.int x, .ref s0, .ref s1, .long s2] f a j := rn_go (rfl : zOp 0 997 = some (997, .iload_n 3, 1, 3, 0, 0, 0, 0, [])) rfl
set_option maxRecDepth 100000 in
theorem q0_998 {l0 l1 l2 l3 : Value} {s0 : Int32} {s1 : Nat} {s2 : Nat} {s3 : Int64}  : rn sc F 0 998 [l0, l1, l2, l3] [.int s0, .ref s1, .ref s2, .long s3] f a j = rn sc F 0 999 [l0, l1, l2, l3] [.int (nI 1), .int s0, .ref s1, .ref s2, .long s3] f a j := rn_go (rfl : zOp 0 998 = some (998, .iconst 1, 1, 0, 0, 0, nI 1, 0, [])) rfl
set_option maxRecDepth 100000 in
theorem q0_999 {l0 l1 l2 l3 : Value} {s0 : Int32} {s1 : Int32} {s2 : Nat} {s3 : Nat} {s4 : Int64}  : rn sc F 0 999 [l0, l1, l2, l3] [.int s0, .int s1, .ref s2, .ref s3, .long s4] f a j = rn sc F 0 1000 [l0, l1, l2, l3] [.int (s1 + s0), .ref s2, .ref s3, .long s4] f a j := rn_go (rfl : zOp 0 999 = some (999, .iadd, 1, 0, 0, 0, 0, 0, [])) rfl
set_option maxRecDepth 100000 in
theorem q0_1000 {l0 l1 l2 l3 : Value} {s0 : Int32} {s2 : Nat} {s3 : Int64} (h : ¬ (s0 < 0 ∨ sc.1.toNatClampNeg ≤ s0.toNatClampNeg)) : rn sc F 0 1000 [l0, l1, l2, l3] [.int s0, .ref 999, .ref s2, .long s3] f a j = rn sc F 0 1001 [l0, l1, l2, l3] [.int (sc.2 s0), .ref s2, .long s3] f a j := rn_go (rfl : zOp 0 1000 = some (1000, .iaload, 1, 0, 0, 0, 0, 0, [])) (zi_sald h)
set_option maxRecDepth 100000 in
theorem q0_1001 {l0 l1 l2 l3 : Value} {s0 : Int32} {s2 : Int64}  : rn sc F 0 1001 [l0, l1, l2, l3] [.int s0, .ref 85, .long s2] f a j = zCall (F 166 [.ref 85, .int s0] f a j) (fun v f a j => rn sc F 0 1004 [l0, l1, l2, l3] (v.toList ++ [.long s2]) f a j) := rn_callV (rfl : zOp 0 1001 = some (1001, .invokevirtual 131, 3, 166, 1, 1115, 0, 0, [])) (by decide) rfl (rfl) (by simp [Value.category])
set_option maxRecDepth 100000 in
theorem q0_1004 {l0 l1 l2 l3 : Value} {s0 : Int64} {s1 : Int64}  : rn sc F 0 1004 [l0, l1, l2, l3] [.long s0, .long s1] f a j = rn sc F 0 1005 [l0, l1, l2, l3] [.int (lg_cmp s1 s0)] f a j := rn_go (rfl : zOp 0 1004 = some (1004, .lcmp, 1, 0, 0, 0, 0, 0, [])) rfl
set_option maxRecDepth 100000 in
theorem q0_1005 {l0 l1 l2 l3 : Value} {s0 : Int32}  : rn sc F 0 1005 [l0, l1, l2, l3] [.int s0] f a j = if s0 = 0 then rn sc F 0 1407 [l0, l1, l2, l3] [] f a j else rn sc F 0 1008 [l0, l1, l2, l3] [] f a j := (rn_go (rfl : zOp 0 1005 = some (1005, .ifCond .eq 402, 3, 1407, 0, 0, 0, 0, [])) rfl).trans rn_ite
set_option maxRecDepth 100000 in
theorem q0_1008 {l0 l1 l2 l3 : Value}   : rn sc F 0 1008 [l0, l1, l2, l3] [] f a j = rn sc F 0 1009 [l0, l1, l2, l3] [.int (nI 0)] f a j := rn_go (rfl : zOp 0 1008 = some (1008, .iconst 0, 1, 0, 0, 0, nI 0, 0, [])) rfl
set_option maxRecDepth 100000 in
theorem q0_1009 {l0 l1 l2 l3 : Value} {s0 : Int32} (h : s0 = 0 ∨ s0 = 1) : rn sc F 0 1009 [l0, l1, l2, l3] [.int s0] f a j = some (some (.int s0), f, a, j) := rn_end (rfl : zOp 0 1009 = some (1009, .ireturn, 1, 0, 0, 0, 0, 0, [])) (zi_retz h)
set_option maxRecDepth 100000 in
theorem q0_1010 {l0 l2 l3 : Value} {x : Nat}  : rn sc F 0 1010 [l0, .ref x, l2, l3] [] f a j = rn sc F 0 1011 [l0, .ref x, l2, l3] [.ref x] f a j := rn_go (rfl : zOp 0 1010 = some (1010, .aload_n 1, 1, 1, 0, 0, 0, 0, [])) rfl
set_option maxRecDepth 100000 in
theorem q0_1011 {l1 l2 l3 : Value} {s0 : Nat} {x : Nat}  : rn sc F 0 1011 [.ref x, l1, l2, l3] [.ref s0] f a j = rn sc F 0 1012 [.ref x, l1, l2, l3] [.ref x, .ref s0] f a j := rn_go (rfl : zOp 0 1011 = some (1011, .aload_n 0, 1, 0, 0, 0, 0, 0, [])) rfl
set_option maxRecDepth 100000 in
theorem q0_1012 {l0 l1 l2 : Value} {s0 : Nat} {s1 : Nat} {x : Int32}  : rn sc F 0 1012 [l0, l1, l2, .int x] [.ref s0, .ref s1] f a j = rn sc F 0 1013 [l0, l1, l2, .int x] [.int x, .ref s0, .ref s1] f a j := rn_go (rfl : zOp 0 1012 = some (1012, .iload_n 3, 1, 3, 0, 0, 0, 0, [])) rfl
set_option maxRecDepth 100000 in
theorem q0_1013 {l0 l1 l2 l3 : Value} {s0 : Int32} {s1 : Nat} {s2 : Nat}  : rn sc F 0 1013 [l0, l1, l2, l3] [.int s0, .ref s1, .ref s2] f a j = rn sc F 0 1014 [l0, l1, l2, l3] [.int (nI 1), .int s0, .ref s1, .ref s2] f a j := rn_go (rfl : zOp 0 1013 = some (1013, .iconst 1, 1, 0, 0, 0, nI 1, 0, [])) rfl
set_option maxRecDepth 100000 in
theorem q0_1014 {l0 l1 l2 l3 : Value} {s0 : Int32} {s1 : Int32} {s2 : Nat} {s3 : Nat}  : rn sc F 0 1014 [l0, l1, l2, l3] [.int s0, .int s1, .ref s2, .ref s3] f a j = rn sc F 0 1015 [l0, l1, l2, l3] [.int (s1 + s0), .ref s2, .ref s3] f a j := rn_go (rfl : zOp 0 1014 = some (1014, .iadd, 1, 0, 0, 0, 0, 0, [])) rfl
set_option maxRecDepth 100000 in
theorem q0_1015 {l0 l1 l2 l3 : Value} {s0 : Int32} {s2 : Nat} (h : ¬ (s0 < 0 ∨ sc.1.toNatClampNeg ≤ s0.toNatClampNeg)) : rn sc F 0 1015 [l0, l1, l2, l3] [.int s0, .ref 999, .ref s2] f a j = rn sc F 0 1016 [l0, l1, l2, l3] [.int (sc.2 s0), .ref s2] f a j := rn_go (rfl : zOp 0 1015 = some (1015, .iaload, 1, 0, 0, 0, 0, 0, [])) (zi_sald h)
set_option maxRecDepth 100000 in
theorem q0_1016 {l1 l2 l3 : Value} {s0 : Int32} {s1 : Nat} {x : Nat}  : rn sc F 0 1016 [.ref x, l1, l2, l3] [.int s0, .ref s1] f a j = rn sc F 0 1017 [.ref x, l1, l2, l3] [.ref x, .int s0, .ref s1] f a j := rn_go (rfl : zOp 0 1016 = some (1016, .aload_n 0, 1, 0, 0, 0, 0, 0, [])) rfl
set_option maxRecDepth 100000 in
theorem q0_1017 {l0 l1 l2 : Value} {s0 : Nat} {s1 : Int32} {s2 : Nat} {x : Int32}  : rn sc F 0 1017 [l0, l1, l2, .int x] [.ref s0, .int s1, .ref s2] f a j = rn sc F 0 1018 [l0, l1, l2, .int x] [.int x, .ref s0, .int s1, .ref s2] f a j := rn_go (rfl : zOp 0 1017 = some (1017, .iload_n 3, 1, 3, 0, 0, 0, 0, [])) rfl
set_option maxRecDepth 100000 in
theorem q0_1018 {l0 l1 l2 l3 : Value} {s0 : Int32} {s1 : Nat} {s2 : Int32} {s3 : Nat}  : rn sc F 0 1018 [l0, l1, l2, l3] [.int s0, .ref s1, .int s2, .ref s3] f a j = rn sc F 0 1019 [l0, l1, l2, l3] [.int (nI 2), .int s0, .ref s1, .int s2, .ref s3] f a j := rn_go (rfl : zOp 0 1018 = some (1018, .iconst 2, 1, 0, 0, 0, nI 2, 0, [])) rfl
set_option maxRecDepth 100000 in
theorem q0_1019 {l0 l1 l2 l3 : Value} {s0 : Int32} {s1 : Int32} {s2 : Nat} {s3 : Int32} {s4 : Nat}  : rn sc F 0 1019 [l0, l1, l2, l3] [.int s0, .int s1, .ref s2, .int s3, .ref s4] f a j = rn sc F 0 1020 [l0, l1, l2, l3] [.int (s1 + s0), .ref s2, .int s3, .ref s4] f a j := rn_go (rfl : zOp 0 1019 = some (1019, .iadd, 1, 0, 0, 0, 0, 0, [])) rfl
set_option maxRecDepth 100000 in
theorem q0_1020 {l0 l1 l2 l3 : Value} {s0 : Int32} {s2 : Int32} {s3 : Nat} (h : ¬ (s0 < 0 ∨ sc.1.toNatClampNeg ≤ s0.toNatClampNeg)) : rn sc F 0 1020 [l0, l1, l2, l3] [.int s0, .ref 999, .int s2, .ref s3] f a j = rn sc F 0 1021 [l0, l1, l2, l3] [.int (sc.2 s0), .int s2, .ref s3] f a j := rn_go (rfl : zOp 0 1020 = some (1020, .iaload, 1, 0, 0, 0, 0, 0, [])) (zi_sald h)
set_option maxRecDepth 100000 in
theorem q0_1021 {l0 l1 l2 l3 : Value} {s0 : Int32} {s1 : Int32}  : rn sc F 0 1021 [l0, l1, l2, l3] [.int s0, .int s1, .ref 0] f a j = zCall (F 81 [.ref 0, .int s1, .int s0] f a j) (fun v f a j => rn sc F 0 1024 [l0, l1, l2, l3] (v.toList ++ []) f a j) := rn_callV (rfl : zOp 0 1021 = some (1021, .invokevirtual 132, 3, 81, 2, 684, 0, 0, [])) (by decide) rfl (rfl) (by simp [Value.category])
set_option maxRecDepth 100000 in
theorem q0_1024 {l0 l1 l3 : Value} {s0 : Int32} {x : Nat}  : rn sc F 0 1024 [l0, l1, .ref x, l3] [.int s0] f a j = rn sc F 0 1025 [l0, l1, .ref x, l3] [.ref x, .int s0] f a j := rn_go (rfl : zOp 0 1024 = some (1024, .aload_n 2, 1, 2, 0, 0, 0, 0, [])) rfl
set_option maxRecDepth 100000 in
theorem q0_1025 {l1 l2 l3 : Value} {s0 : Nat} {s1 : Int32} {x : Nat}  : rn sc F 0 1025 [.ref x, l1, l2, l3] [.ref s0, .int s1] f a j = rn sc F 0 1026 [.ref x, l1, l2, l3] [.ref x, .ref s0, .int s1] f a j := rn_go (rfl : zOp 0 1025 = some (1025, .aload_n 0, 1, 0, 0, 0, 0, 0, [])) rfl
set_option maxRecDepth 100000 in
theorem q0_1026 {l0 l1 l2 : Value} {s0 : Nat} {s1 : Nat} {s2 : Int32} {x : Int32}  : rn sc F 0 1026 [l0, l1, l2, .int x] [.ref s0, .ref s1, .int s2] f a j = rn sc F 0 1027 [l0, l1, l2, .int x] [.int x, .ref s0, .ref s1, .int s2] f a j := rn_go (rfl : zOp 0 1026 = some (1026, .iload_n 3, 1, 3, 0, 0, 0, 0, [])) rfl
set_option maxRecDepth 100000 in
theorem q0_1027 {l0 l1 l2 l3 : Value} {s0 : Int32} {s1 : Nat} {s2 : Nat} {s3 : Int32}  : rn sc F 0 1027 [l0, l1, l2, l3] [.int s0, .ref s1, .ref s2, .int s3] f a j = rn sc F 0 1028 [l0, l1, l2, l3] [.int (nI 1), .int s0, .ref s1, .ref s2, .int s3] f a j := rn_go (rfl : zOp 0 1027 = some (1027, .iconst 1, 1, 0, 0, 0, nI 1, 0, [])) rfl
set_option maxRecDepth 100000 in
theorem q0_1028 {l0 l1 l2 l3 : Value} {s0 : Int32} {s1 : Int32} {s2 : Nat} {s3 : Nat} {s4 : Int32}  : rn sc F 0 1028 [l0, l1, l2, l3] [.int s0, .int s1, .ref s2, .ref s3, .int s4] f a j = rn sc F 0 1029 [l0, l1, l2, l3] [.int (s1 + s0), .ref s2, .ref s3, .int s4] f a j := rn_go (rfl : zOp 0 1028 = some (1028, .iadd, 1, 0, 0, 0, 0, 0, [])) rfl
set_option maxRecDepth 100000 in
theorem q0_1029 {l0 l1 l2 l3 : Value} {s0 : Int32} {s2 : Nat} {s3 : Int32} (h : ¬ (s0 < 0 ∨ sc.1.toNatClampNeg ≤ s0.toNatClampNeg)) : rn sc F 0 1029 [l0, l1, l2, l3] [.int s0, .ref 999, .ref s2, .int s3] f a j = rn sc F 0 1030 [l0, l1, l2, l3] [.int (sc.2 s0), .ref s2, .int s3] f a j := rn_go (rfl : zOp 0 1029 = some (1029, .iaload, 1, 0, 0, 0, 0, 0, [])) (zi_sald h)
set_option maxRecDepth 100000 in
theorem q0_1030 {l1 l2 l3 : Value} {s0 : Int32} {s1 : Nat} {s2 : Int32} {x : Nat}  : rn sc F 0 1030 [.ref x, l1, l2, l3] [.int s0, .ref s1, .int s2] f a j = rn sc F 0 1031 [.ref x, l1, l2, l3] [.ref x, .int s0, .ref s1, .int s2] f a j := rn_go (rfl : zOp 0 1030 = some (1030, .aload_n 0, 1, 0, 0, 0, 0, 0, [])) rfl
set_option maxRecDepth 100000 in
theorem q0_1031 {l0 l1 l2 : Value} {s0 : Nat} {s1 : Int32} {s2 : Nat} {s3 : Int32} {x : Int32}  : rn sc F 0 1031 [l0, l1, l2, .int x] [.ref s0, .int s1, .ref s2, .int s3] f a j = rn sc F 0 1032 [l0, l1, l2, .int x] [.int x, .ref s0, .int s1, .ref s2, .int s3] f a j := rn_go (rfl : zOp 0 1031 = some (1031, .iload_n 3, 1, 3, 0, 0, 0, 0, [])) rfl
end ZQ
