/-! the law, an equation an instruction -/
section
variable {d : Nat} {Q : Option Value → zH → Prop} {lv l : zL} {st : zS} {h : zH} {x z : Int32} {c : Nat} {i j : Int64} {o0 o1 o2 o3 o4 o5 o6 o7 o8 o9 o10 o11 o12 : Option Value} {x0 x1 x2 x3 x4 y0 y1 y2 y3 : Int32} {c0 c1 c2 c3 c4 a0 a1 a2 a3 : Nat} {j0 j1 j2 k0 k1 : Int64}

set_option maxRecDepth 100000 in
theorem r300_624 : zR d 300 Q 624 (o0 :: o1 :: o2 :: some (.int x) :: l) st h = zR d 300 Q 625 (o0 :: o1 :: o2 :: some (.int x) :: l) (.int x :: st) h := q_in rfl rfl
set_option maxRecDepth 100000 in
theorem r300_625 : zR d 300 Q 625 lv st h = zR d 300 Q 626 lv (.int 2 :: st) h := q_in rfl rfl
set_option maxRecDepth 100000 in
theorem r300_626 : zR d 300 Q 626 lv (.int z :: .int x :: st) h = zR d 300 Q 627 lv (.int (x + z) :: st) h := q_in rfl rfl
set_option maxRecDepth 100000 in
theorem r300_627 : zR d 300 Q 627 lv (.int x :: .ref c :: st) h = zal c x h (fun w => zR d 300 Q 628 lv (.int w :: st) h) := q_iald rfl
set_option maxRecDepth 100000 in
theorem r300_628 : zR d 300 Q 628 lv [.int x1, .int x0, .ref 0] h = zM d 73 [.ref 0, .int x0, .int x1] h (fun r h' => zR d 300 Q 631 lv (r.toList ++ []) h') := (q_clV rfl rfl (Nat.le_of_ble_eq_true rfl)).trans (zand_t ⟨rfl, Nat.le_of_ble_eq_true rfl⟩)
set_option maxRecDepth 100000 in
theorem r300_631 : zR d 300 Q 631 (o0 :: o1 :: some (.ref c) :: l) st h = zR d 300 Q 632 (o0 :: o1 :: some (.ref c) :: l) (.ref c :: st) h := q_in rfl rfl
set_option maxRecDepth 100000 in
theorem r300_632 : zR d 300 Q 632 (some (.ref c) :: l) st h = zR d 300 Q 633 (some (.ref c) :: l) (.ref c :: st) h := q_in rfl rfl
set_option maxRecDepth 100000 in
theorem r300_633 : zR d 300 Q 633 (o0 :: o1 :: o2 :: some (.int x) :: l) st h = zR d 300 Q 634 (o0 :: o1 :: o2 :: some (.int x) :: l) (.int x :: st) h := q_in rfl rfl
set_option maxRecDepth 100000 in
theorem r300_634 : zR d 300 Q 634 lv st h = zR d 300 Q 635 lv (.int 1 :: st) h := q_in rfl rfl
set_option maxRecDepth 100000 in
theorem r300_635 : zR d 300 Q 635 lv (.int z :: .int x :: st) h = zR d 300 Q 636 lv (.int (x + z) :: st) h := q_in rfl rfl
set_option maxRecDepth 100000 in
theorem r300_636 : zR d 300 Q 636 lv (.int x :: .ref c :: st) h = zal c x h (fun w => zR d 300 Q 637 lv (.int w :: st) h) := q_iald rfl
set_option maxRecDepth 100000 in
theorem r300_637 : zR d 300 Q 637 (some (.ref c) :: l) st h = zR d 300 Q 638 (some (.ref c) :: l) (.ref c :: st) h := q_in rfl rfl
set_option maxRecDepth 100000 in
theorem r300_638 : zR d 300 Q 638 (o0 :: o1 :: o2 :: some (.int x) :: l) st h = zR d 300 Q 639 (o0 :: o1 :: o2 :: some (.int x) :: l) (.int x :: st) h := q_in rfl rfl
set_option maxRecDepth 100000 in
theorem r300_639 : zR d 300 Q 639 lv st h = zR d 300 Q 640 lv (.int 2 :: st) h := q_in rfl rfl
set_option maxRecDepth 100000 in
theorem r300_640 : zR d 300 Q 640 lv (.int z :: .int x :: st) h = zR d 300 Q 641 lv (.int (x + z) :: st) h := q_in rfl rfl
set_option maxRecDepth 100000 in
theorem r300_641 : zR d 300 Q 641 lv (.int x :: .ref c :: st) h = zal c x h (fun w => zR d 300 Q 642 lv (.int w :: st) h) := q_iald rfl
set_option maxRecDepth 100000 in
theorem r300_642 : zR d 300 Q 642 lv [.int x1, .int x0, .ref 60, .int y0] h = zM d 153 [.ref 60, .int x0, .int x1] h (fun r h' => zR d 300 Q 645 lv (r.toList ++ [.int y0]) h') := (q_clV rfl rfl (Nat.le_of_ble_eq_true rfl)).trans (zand_t ⟨rfl, Nat.le_of_ble_eq_true rfl⟩)
set_option maxRecDepth 100000 in
theorem r300_645 : zR d 300 Q 645 lv (.int z :: .int x :: st) h = if x = z then zR d 300 Q 1375 lv st h else zR d 300 Q 648 lv st h := q_if rfl rfl
set_option maxRecDepth 100000 in
theorem r300_648 : zR d 300 Q 648 lv st h = zR d 300 Q 649 lv (.int 0 :: st) h := q_in rfl rfl
set_option maxRecDepth 100000 in
theorem r300_649f : zR d 300 Q 649 lv [.int 0] h = Q (some (.int 0)) h := q_retz rfl rfl (Or.inr (Or.inl rfl))
set_option maxRecDepth 100000 in
theorem r300_649t : zR d 300 Q 649 lv [.int 1] h = Q (some (.int 1)) h := q_retz rfl rfl (Or.inr (Or.inr rfl))
set_option maxRecDepth 100000 in
theorem r300_650 : zR d 300 Q 650 (o0 :: some (.ref c) :: l) st h = zR d 300 Q 651 (o0 :: some (.ref c) :: l) (.ref c :: st) h := q_in rfl rfl
set_option maxRecDepth 100000 in
theorem r300_651 : zR d 300 Q 651 (some (.ref c) :: l) st h = zR d 300 Q 652 (some (.ref c) :: l) (.ref c :: st) h := q_in rfl rfl
set_option maxRecDepth 100000 in
theorem r300_652 : zR d 300 Q 652 (o0 :: o1 :: o2 :: some (.int x) :: l) st h = zR d 300 Q 653 (o0 :: o1 :: o2 :: some (.int x) :: l) (.int x :: st) h := q_in rfl rfl
set_option maxRecDepth 100000 in
theorem r300_653 : zR d 300 Q 653 lv st h = zR d 300 Q 654 lv (.int 1 :: st) h := q_in rfl rfl
set_option maxRecDepth 100000 in
theorem r300_654 : zR d 300 Q 654 lv (.int z :: .int x :: st) h = zR d 300 Q 655 lv (.int (x + z) :: st) h := q_in rfl rfl
set_option maxRecDepth 100000 in
theorem r300_655 : zR d 300 Q 655 lv (.int x :: .ref c :: st) h = zal c x h (fun w => zR d 300 Q 656 lv (.int w :: st) h) := q_iald rfl
set_option maxRecDepth 100000 in
theorem r300_656 : zR d 300 Q 656 (some (.ref c) :: l) st h = zR d 300 Q 657 (some (.ref c) :: l) (.ref c :: st) h := q_in rfl rfl
set_option maxRecDepth 100000 in
theorem r300_657 : zR d 300 Q 657 (o0 :: o1 :: o2 :: some (.int x) :: l) st h = zR d 300 Q 658 (o0 :: o1 :: o2 :: some (.int x) :: l) (.int x :: st) h := q_in rfl rfl
set_option maxRecDepth 100000 in
theorem r300_658 : zR d 300 Q 658 lv st h = zR d 300 Q 659 lv (.int 2 :: st) h := q_in rfl rfl
set_option maxRecDepth 100000 in
theorem r300_659 : zR d 300 Q 659 lv (.int z :: .int x :: st) h = zR d 300 Q 660 lv (.int (x + z) :: st) h := q_in rfl rfl
set_option maxRecDepth 100000 in
theorem r300_660 : zR d 300 Q 660 lv (.int x :: .ref c :: st) h = zal c x h (fun w => zR d 300 Q 661 lv (.int w :: st) h) := q_iald rfl
set_option maxRecDepth 100000 in
theorem r300_661 : zR d 300 Q 661 lv [.int x1, .int x0, .ref 0] h = zM d 74 [.ref 0, .int x0, .int x1] h (fun r h' => zR d 300 Q 664 lv (r.toList ++ []) h') := (q_clV rfl rfl (Nat.le_of_ble_eq_true rfl)).trans (zand_t ⟨rfl, Nat.le_of_ble_eq_true rfl⟩)
set_option maxRecDepth 100000 in
theorem r300_664 : zR d 300 Q 664 (o0 :: o1 :: some (.ref c) :: l) st h = zR d 300 Q 665 (o0 :: o1 :: some (.ref c) :: l) (.ref c :: st) h := q_in rfl rfl
set_option maxRecDepth 100000 in
theorem r300_665 : zR d 300 Q 665 (some (.ref c) :: l) st h = zR d 300 Q 666 (some (.ref c) :: l) (.ref c :: st) h := q_in rfl rfl
set_option maxRecDepth 100000 in
theorem r300_666 : zR d 300 Q 666 (o0 :: o1 :: o2 :: some (.int x) :: l) st h = zR d 300 Q 667 (o0 :: o1 :: o2 :: some (.int x) :: l) (.int x :: st) h := q_in rfl rfl
set_option maxRecDepth 100000 in
theorem r300_667 : zR d 300 Q 667 lv st h = zR d 300 Q 668 lv (.int 1 :: st) h := q_in rfl rfl
set_option maxRecDepth 100000 in
theorem r300_668 : zR d 300 Q 668 lv (.int z :: .int x :: st) h = zR d 300 Q 669 lv (.int (x + z) :: st) h := q_in rfl rfl
set_option maxRecDepth 100000 in
theorem r300_669 : zR d 300 Q 669 lv (.int x :: .ref c :: st) h = zal c x h (fun w => zR d 300 Q 670 lv (.int w :: st) h) := q_iald rfl
set_option maxRecDepth 100000 in
theorem r300_670 : zR d 300 Q 670 (some (.ref c) :: l) st h = zR d 300 Q 671 (some (.ref c) :: l) (.ref c :: st) h := q_in rfl rfl
set_option maxRecDepth 100000 in
theorem r300_671 : zR d 300 Q 671 (o0 :: o1 :: o2 :: some (.int x) :: l) st h = zR d 300 Q 672 (o0 :: o1 :: o2 :: some (.int x) :: l) (.int x :: st) h := q_in rfl rfl
set_option maxRecDepth 100000 in
theorem r300_672 : zR d 300 Q 672 lv st h = zR d 300 Q 673 lv (.int 2 :: st) h := q_in rfl rfl
set_option maxRecDepth 100000 in
theorem r300_673 : zR d 300 Q 673 lv (.int z :: .int x :: st) h = zR d 300 Q 674 lv (.int (x + z) :: st) h := q_in rfl rfl
set_option maxRecDepth 100000 in
theorem r300_674 : zR d 300 Q 674 lv (.int x :: .ref c :: st) h = zal c x h (fun w => zR d 300 Q 675 lv (.int w :: st) h) := q_iald rfl
set_option maxRecDepth 100000 in
theorem r300_675 : zR d 300 Q 675 lv [.int x1, .int x0, .ref 60, .int y0] h = zM d 154 [.ref 60, .int x0, .int x1] h (fun r h' => zR d 300 Q 678 lv (r.toList ++ [.int y0]) h') := (q_clV rfl rfl (Nat.le_of_ble_eq_true rfl)).trans (zand_t ⟨rfl, Nat.le_of_ble_eq_true rfl⟩)
set_option maxRecDepth 100000 in
theorem r300_678 : zR d 300 Q 678 lv (.int z :: .int x :: st) h = if x = z then zR d 300 Q 1375 lv st h else zR d 300 Q 681 lv st h := q_if rfl rfl
set_option maxRecDepth 100000 in
theorem r300_681 : zR d 300 Q 681 lv st h = zR d 300 Q 682 lv (.int 0 :: st) h := q_in rfl rfl
set_option maxRecDepth 100000 in
theorem r300_682f : zR d 300 Q 682 lv [.int 0] h = Q (some (.int 0)) h := q_retz rfl rfl (Or.inr (Or.inl rfl))
set_option maxRecDepth 100000 in
theorem r300_682t : zR d 300 Q 682 lv [.int 1] h = Q (some (.int 1)) h := q_retz rfl rfl (Or.inr (Or.inr rfl))
set_option maxRecDepth 100000 in
theorem r300_683 : zR d 300 Q 683 (o0 :: some (.ref c) :: l) st h = zR d 300 Q 684 (o0 :: some (.ref c) :: l) (.ref c :: st) h := q_in rfl rfl
set_option maxRecDepth 100000 in
theorem r300_684 : zR d 300 Q 684 (some (.ref c) :: l) st h = zR d 300 Q 685 (some (.ref c) :: l) (.ref c :: st) h := q_in rfl rfl
set_option maxRecDepth 100000 in
theorem r300_685 : zR d 300 Q 685 (o0 :: o1 :: o2 :: some (.int x) :: l) st h = zR d 300 Q 686 (o0 :: o1 :: o2 :: some (.int x) :: l) (.int x :: st) h := q_in rfl rfl
set_option maxRecDepth 100000 in
theorem r300_686 : zR d 300 Q 686 lv st h = zR d 300 Q 687 lv (.int 1 :: st) h := q_in rfl rfl
set_option maxRecDepth 100000 in
theorem r300_687 : zR d 300 Q 687 lv (.int z :: .int x :: st) h = zR d 300 Q 688 lv (.int (x + z) :: st) h := q_in rfl rfl
set_option maxRecDepth 100000 in
theorem r300_688 : zR d 300 Q 688 lv (.int x :: .ref c :: st) h = zal c x h (fun w => zR d 300 Q 689 lv (.int w :: st) h) := q_iald rfl
set_option maxRecDepth 100000 in
theorem r300_689 : zR d 300 Q 689 (some (.ref c) :: l) st h = zR d 300 Q 690 (some (.ref c) :: l) (.ref c :: st) h := q_in rfl rfl
set_option maxRecDepth 100000 in
theorem r300_690 : zR d 300 Q 690 (o0 :: o1 :: o2 :: some (.int x) :: l) st h = zR d 300 Q 691 (o0 :: o1 :: o2 :: some (.int x) :: l) (.int x :: st) h := q_in rfl rfl
set_option maxRecDepth 100000 in
theorem r300_691 : zR d 300 Q 691 lv st h = zR d 300 Q 692 lv (.int 2 :: st) h := q_in rfl rfl
set_option maxRecDepth 100000 in
theorem r300_692 : zR d 300 Q 692 lv (.int z :: .int x :: st) h = zR d 300 Q 693 lv (.int (x + z) :: st) h := q_in rfl rfl
set_option maxRecDepth 100000 in
theorem r300_693 : zR d 300 Q 693 lv (.int x :: .ref c :: st) h = zal c x h (fun w => zR d 300 Q 694 lv (.int w :: st) h) := q_iald rfl
set_option maxRecDepth 100000 in
theorem r300_694 : zR d 300 Q 694 lv [.int x1, .int x0, .ref 0] h = zM d 75 [.ref 0, .int x0, .int x1] h (fun r h' => zR d 300 Q 697 lv (r.toList ++ []) h') := (q_clV rfl rfl (Nat.le_of_ble_eq_true rfl)).trans (zand_t ⟨rfl, Nat.le_of_ble_eq_true rfl⟩)
set_option maxRecDepth 100000 in
theorem r300_697 : zR d 300 Q 697 (o0 :: o1 :: some (.ref c) :: l) st h = zR d 300 Q 698 (o0 :: o1 :: some (.ref c) :: l) (.ref c :: st) h := q_in rfl rfl
set_option maxRecDepth 100000 in
theorem r300_698 : zR d 300 Q 698 (some (.ref c) :: l) st h = zR d 300 Q 699 (some (.ref c) :: l) (.ref c :: st) h := q_in rfl rfl
set_option maxRecDepth 100000 in
theorem r300_699 : zR d 300 Q 699 (o0 :: o1 :: o2 :: some (.int x) :: l) st h = zR d 300 Q 700 (o0 :: o1 :: o2 :: some (.int x) :: l) (.int x :: st) h := q_in rfl rfl
set_option maxRecDepth 100000 in
theorem r300_700 : zR d 300 Q 700 lv st h = zR d 300 Q 701 lv (.int 1 :: st) h := q_in rfl rfl
set_option maxRecDepth 100000 in
theorem r300_701 : zR d 300 Q 701 lv (.int z :: .int x :: st) h = zR d 300 Q 702 lv (.int (x + z) :: st) h := q_in rfl rfl
set_option maxRecDepth 100000 in
theorem r300_702 : zR d 300 Q 702 lv (.int x :: .ref c :: st) h = zal c x h (fun w => zR d 300 Q 703 lv (.int w :: st) h) := q_iald rfl
set_option maxRecDepth 100000 in
theorem r300_703 : zR d 300 Q 703 (some (.ref c) :: l) st h = zR d 300 Q 704 (some (.ref c) :: l) (.ref c :: st) h := q_in rfl rfl
set_option maxRecDepth 100000 in
theorem r300_704 : zR d 300 Q 704 (o0 :: o1 :: o2 :: some (.int x) :: l) st h = zR d 300 Q 705 (o0 :: o1 :: o2 :: some (.int x) :: l) (.int x :: st) h := q_in rfl rfl
set_option maxRecDepth 100000 in
theorem r300_705 : zR d 300 Q 705 lv st h = zR d 300 Q 706 lv (.int 2 :: st) h := q_in rfl rfl
set_option maxRecDepth 100000 in
theorem r300_706 : zR d 300 Q 706 lv (.int z :: .int x :: st) h = zR d 300 Q 707 lv (.int (x + z) :: st) h := q_in rfl rfl
set_option maxRecDepth 100000 in
theorem r300_707 : zR d 300 Q 707 lv (.int x :: .ref c :: st) h = zal c x h (fun w => zR d 300 Q 708 lv (.int w :: st) h) := q_iald rfl
set_option maxRecDepth 100000 in
theorem r300_708 : zR d 300 Q 708 lv [.int x1, .int x0, .ref 60, .int y0] h = zM d 155 [.ref 60, .int x0, .int x1] h (fun r h' => zR d 300 Q 711 lv (r.toList ++ [.int y0]) h') := (q_clV rfl rfl (Nat.le_of_ble_eq_true rfl)).trans (zand_t ⟨rfl, Nat.le_of_ble_eq_true rfl⟩)
set_option maxRecDepth 100000 in
theorem r300_711 : zR d 300 Q 711 lv (.int z :: .int x :: st) h = if x = z then zR d 300 Q 1375 lv st h else zR d 300 Q 714 lv st h := q_if rfl rfl
set_option maxRecDepth 100000 in
theorem r300_714 : zR d 300 Q 714 lv st h = zR d 300 Q 715 lv (.int 0 :: st) h := q_in rfl rfl
set_option maxRecDepth 100000 in
theorem r300_715f : zR d 300 Q 715 lv [.int 0] h = Q (some (.int 0)) h := q_retz rfl rfl (Or.inr (Or.inl rfl))
set_option maxRecDepth 100000 in
theorem r300_715t : zR d 300 Q 715 lv [.int 1] h = Q (some (.int 1)) h := q_retz rfl rfl (Or.inr (Or.inr rfl))
set_option maxRecDepth 100000 in
theorem r300_716 : zR d 300 Q 716 (o0 :: some (.ref c) :: l) st h = zR d 300 Q 717 (o0 :: some (.ref c) :: l) (.ref c :: st) h := q_in rfl rfl
set_option maxRecDepth 100000 in
theorem r300_717 : zR d 300 Q 717 (some (.ref c) :: l) st h = zR d 300 Q 718 (some (.ref c) :: l) (.ref c :: st) h := q_in rfl rfl
set_option maxRecDepth 100000 in
theorem r300_718 : zR d 300 Q 718 (o0 :: o1 :: o2 :: some (.int x) :: l) st h = zR d 300 Q 719 (o0 :: o1 :: o2 :: some (.int x) :: l) (.int x :: st) h := q_in rfl rfl
set_option maxRecDepth 100000 in
theorem r300_719 : zR d 300 Q 719 lv st h = zR d 300 Q 720 lv (.int 1 :: st) h := q_in rfl rfl
set_option maxRecDepth 100000 in
theorem r300_720 : zR d 300 Q 720 lv (.int z :: .int x :: st) h = zR d 300 Q 721 lv (.int (x + z) :: st) h := q_in rfl rfl
set_option maxRecDepth 100000 in
theorem r300_721 : zR d 300 Q 721 lv (.int x :: .ref c :: st) h = zal c x h (fun w => zR d 300 Q 722 lv (.int w :: st) h) := q_iald rfl
set_option maxRecDepth 100000 in
theorem r300_722 : zR d 300 Q 722 (some (.ref c) :: l) st h = zR d 300 Q 723 (some (.ref c) :: l) (.ref c :: st) h := q_in rfl rfl
set_option maxRecDepth 100000 in
theorem r300_723 : zR d 300 Q 723 (o0 :: o1 :: o2 :: some (.int x) :: l) st h = zR d 300 Q 724 (o0 :: o1 :: o2 :: some (.int x) :: l) (.int x :: st) h := q_in rfl rfl
set_option maxRecDepth 100000 in
theorem r300_724 : zR d 300 Q 724 lv st h = zR d 300 Q 725 lv (.int 2 :: st) h := q_in rfl rfl
set_option maxRecDepth 100000 in
theorem r300_725 : zR d 300 Q 725 lv (.int z :: .int x :: st) h = zR d 300 Q 726 lv (.int (x + z) :: st) h := q_in rfl rfl
set_option maxRecDepth 100000 in
theorem r300_726 : zR d 300 Q 726 lv (.int x :: .ref c :: st) h = zal c x h (fun w => zR d 300 Q 727 lv (.int w :: st) h) := q_iald rfl
set_option maxRecDepth 100000 in
theorem r300_727 : zR d 300 Q 727 lv [.int x1, .int x0, .ref 0] h = zM d 76 [.ref 0, .int x0, .int x1] h (fun r h' => zR d 300 Q 730 lv (r.toList ++ []) h') := (q_clV rfl rfl (Nat.le_of_ble_eq_true rfl)).trans (zand_t ⟨rfl, Nat.le_of_ble_eq_true rfl⟩)
set_option maxRecDepth 100000 in
theorem r300_730 : zR d 300 Q 730 (o0 :: o1 :: some (.ref c) :: l) st h = zR d 300 Q 731 (o0 :: o1 :: some (.ref c) :: l) (.ref c :: st) h := q_in rfl rfl
set_option maxRecDepth 100000 in
theorem r300_731 : zR d 300 Q 731 (some (.ref c) :: l) st h = zR d 300 Q 732 (some (.ref c) :: l) (.ref c :: st) h := q_in rfl rfl
set_option maxRecDepth 100000 in
theorem r300_732 : zR d 300 Q 732 (o0 :: o1 :: o2 :: some (.int x) :: l) st h = zR d 300 Q 733 (o0 :: o1 :: o2 :: some (.int x) :: l) (.int x :: st) h := q_in rfl rfl
set_option maxRecDepth 100000 in
theorem r300_733 : zR d 300 Q 733 lv st h = zR d 300 Q 734 lv (.int 1 :: st) h := q_in rfl rfl
set_option maxRecDepth 100000 in
theorem r300_734 : zR d 300 Q 734 lv (.int z :: .int x :: st) h = zR d 300 Q 735 lv (.int (x + z) :: st) h := q_in rfl rfl
set_option maxRecDepth 100000 in
theorem r300_735 : zR d 300 Q 735 lv (.int x :: .ref c :: st) h = zal c x h (fun w => zR d 300 Q 736 lv (.int w :: st) h) := q_iald rfl
set_option maxRecDepth 100000 in
theorem r300_736 : zR d 300 Q 736 (some (.ref c) :: l) st h = zR d 300 Q 737 (some (.ref c) :: l) (.ref c :: st) h := q_in rfl rfl
set_option maxRecDepth 100000 in
theorem r300_737 : zR d 300 Q 737 (o0 :: o1 :: o2 :: some (.int x) :: l) st h = zR d 300 Q 738 (o0 :: o1 :: o2 :: some (.int x) :: l) (.int x :: st) h := q_in rfl rfl
set_option maxRecDepth 100000 in
theorem r300_738 : zR d 300 Q 738 lv st h = zR d 300 Q 739 lv (.int 2 :: st) h := q_in rfl rfl
set_option maxRecDepth 100000 in
theorem r300_739 : zR d 300 Q 739 lv (.int z :: .int x :: st) h = zR d 300 Q 740 lv (.int (x + z) :: st) h := q_in rfl rfl
set_option maxRecDepth 100000 in
theorem r300_740 : zR d 300 Q 740 lv (.int x :: .ref c :: st) h = zal c x h (fun w => zR d 300 Q 741 lv (.int w :: st) h) := q_iald rfl
set_option maxRecDepth 100000 in
theorem r300_741 : zR d 300 Q 741 lv [.int x1, .int x0, .ref 60, .int y0] h = zM d 156 [.ref 60, .int x0, .int x1] h (fun r h' => zR d 300 Q 744 lv (r.toList ++ [.int y0]) h') := (q_clV rfl rfl (Nat.le_of_ble_eq_true rfl)).trans (zand_t ⟨rfl, Nat.le_of_ble_eq_true rfl⟩)
set_option maxRecDepth 100000 in
theorem r300_744 : zR d 300 Q 744 lv (.int z :: .int x :: st) h = if x = z then zR d 300 Q 1375 lv st h else zR d 300 Q 747 lv st h := q_if rfl rfl
set_option maxRecDepth 100000 in
theorem r300_747 : zR d 300 Q 747 lv st h = zR d 300 Q 748 lv (.int 0 :: st) h := q_in rfl rfl
set_option maxRecDepth 100000 in
theorem r300_748f : zR d 300 Q 748 lv [.int 0] h = Q (some (.int 0)) h := q_retz rfl rfl (Or.inr (Or.inl rfl))
set_option maxRecDepth 100000 in
theorem r300_748t : zR d 300 Q 748 lv [.int 1] h = Q (some (.int 1)) h := q_retz rfl rfl (Or.inr (Or.inr rfl))
set_option maxRecDepth 100000 in
theorem r300_749 : zR d 300 Q 749 (o0 :: some (.ref c) :: l) st h = zR d 300 Q 750 (o0 :: some (.ref c) :: l) (.ref c :: st) h := q_in rfl rfl
set_option maxRecDepth 100000 in
theorem r300_750 : zR d 300 Q 750 lv [.ref 0] h = zM d 77 [.ref 0] h (fun r h' => zR d 300 Q 753 lv (r.toList ++ []) h') := (q_clV rfl rfl (Nat.le_of_ble_eq_true rfl)).trans (zand_t ⟨rfl, Nat.le_of_ble_eq_true rfl⟩)
set_option maxRecDepth 100000 in
theorem r300_753 : zR d 300 Q 753 (o0 :: o1 :: some (.ref c) :: l) st h = zR d 300 Q 754 (o0 :: o1 :: some (.ref c) :: l) (.ref c :: st) h := q_in rfl rfl
set_option maxRecDepth 100000 in
theorem r300_754 : zR d 300 Q 754 lv [.ref 60, .int y0] h = zM d 158 [.ref 60] h (fun r h' => zR d 300 Q 757 lv (r.toList ++ [.int y0]) h') := (q_clV rfl rfl (Nat.le_of_ble_eq_true rfl)).trans (zand_t ⟨rfl, Nat.le_of_ble_eq_true rfl⟩)
set_option maxRecDepth 100000 in
theorem r300_757 : zR d 300 Q 757 lv (.int z :: .int x :: st) h = if x = z then zR d 300 Q 1375 lv st h else zR d 300 Q 760 lv st h := q_if rfl rfl
set_option maxRecDepth 100000 in
theorem r300_760 : zR d 300 Q 760 lv st h = zR d 300 Q 761 lv (.int 0 :: st) h := q_in rfl rfl
set_option maxRecDepth 100000 in
theorem r300_761f : zR d 300 Q 761 lv [.int 0] h = Q (some (.int 0)) h := q_retz rfl rfl (Or.inr (Or.inl rfl))
set_option maxRecDepth 100000 in
theorem r300_761t : zR d 300 Q 761 lv [.int 1] h = Q (some (.int 1)) h := q_retz rfl rfl (Or.inr (Or.inr rfl))
set_option maxRecDepth 100000 in
theorem r300_762 : zR d 300 Q 762 (o0 :: some (.ref c) :: l) st h = zR d 300 Q 763 (o0 :: some (.ref c) :: l) (.ref c :: st) h := q_in rfl rfl
set_option maxRecDepth 100000 in
theorem r300_763 : zR d 300 Q 763 (some (.ref c) :: l) st h = zR d 300 Q 764 (some (.ref c) :: l) (.ref c :: st) h := q_in rfl rfl
set_option maxRecDepth 100000 in
theorem r300_764 : zR d 300 Q 764 (o0 :: o1 :: o2 :: some (.int x) :: l) st h = zR d 300 Q 765 (o0 :: o1 :: o2 :: some (.int x) :: l) (.int x :: st) h := q_in rfl rfl
set_option maxRecDepth 100000 in
theorem r300_765 : zR d 300 Q 765 lv st h = zR d 300 Q 766 lv (.int 1 :: st) h := q_in rfl rfl
set_option maxRecDepth 100000 in
theorem r300_766 : zR d 300 Q 766 lv (.int z :: .int x :: st) h = zR d 300 Q 767 lv (.int (x + z) :: st) h := q_in rfl rfl
set_option maxRecDepth 100000 in
theorem r300_767 : zR d 300 Q 767 lv (.int x :: .ref c :: st) h = zal c x h (fun w => zR d 300 Q 768 lv (.int w :: st) h) := q_iald rfl
set_option maxRecDepth 100000 in
theorem r300_768 : zR d 300 Q 768 (some (.ref c) :: l) st h = zR d 300 Q 769 (some (.ref c) :: l) (.ref c :: st) h := q_in rfl rfl
set_option maxRecDepth 100000 in
theorem r300_769 : zR d 300 Q 769 (o0 :: o1 :: o2 :: some (.int x) :: l) st h = zR d 300 Q 770 (o0 :: o1 :: o2 :: some (.int x) :: l) (.int x :: st) h := q_in rfl rfl
set_option maxRecDepth 100000 in
theorem r300_770 : zR d 300 Q 770 lv st h = zR d 300 Q 771 lv (.int 2 :: st) h := q_in rfl rfl
set_option maxRecDepth 100000 in
theorem r300_771 : zR d 300 Q 771 lv (.int z :: .int x :: st) h = zR d 300 Q 772 lv (.int (x + z) :: st) h := q_in rfl rfl
set_option maxRecDepth 100000 in
theorem r300_772 : zR d 300 Q 772 lv (.int x :: .ref c :: st) h = zal c x h (fun w => zR d 300 Q 773 lv (.int w :: st) h) := q_iald rfl
set_option maxRecDepth 100000 in
theorem r300_773 : zR d 300 Q 773 lv [.int x1, .int x0, .ref 0] h = zM d 78 [.ref 0, .int x0, .int x1] h (fun r h' => zR d 300 Q 776 lv (r.toList ++ []) h') := (q_clV rfl rfl (Nat.le_of_ble_eq_true rfl)).trans (zand_t ⟨rfl, Nat.le_of_ble_eq_true rfl⟩)
set_option maxRecDepth 100000 in
theorem r300_776 : zR d 300 Q 776 (o0 :: o1 :: some (.ref c) :: l) st h = zR d 300 Q 777 (o0 :: o1 :: some (.ref c) :: l) (.ref c :: st) h := q_in rfl rfl
set_option maxRecDepth 100000 in
theorem r300_777 : zR d 300 Q 777 (some (.ref c) :: l) st h = zR d 300 Q 778 (some (.ref c) :: l) (.ref c :: st) h := q_in rfl rfl
set_option maxRecDepth 100000 in
theorem r300_778 : zR d 300 Q 778 (o0 :: o1 :: o2 :: some (.int x) :: l) st h = zR d 300 Q 779 (o0 :: o1 :: o2 :: some (.int x) :: l) (.int x :: st) h := q_in rfl rfl
set_option maxRecDepth 100000 in
theorem r300_779 : zR d 300 Q 779 lv st h = zR d 300 Q 780 lv (.int 1 :: st) h := q_in rfl rfl
set_option maxRecDepth 100000 in
theorem r300_780 : zR d 300 Q 780 lv (.int z :: .int x :: st) h = zR d 300 Q 781 lv (.int (x + z) :: st) h := q_in rfl rfl
set_option maxRecDepth 100000 in
theorem r300_781 : zR d 300 Q 781 lv (.int x :: .ref c :: st) h = zal c x h (fun w => zR d 300 Q 782 lv (.int w :: st) h) := q_iald rfl
set_option maxRecDepth 100000 in
theorem r300_782 : zR d 300 Q 782 (some (.ref c) :: l) st h = zR d 300 Q 783 (some (.ref c) :: l) (.ref c :: st) h := q_in rfl rfl
set_option maxRecDepth 100000 in
theorem r300_783 : zR d 300 Q 783 (o0 :: o1 :: o2 :: some (.int x) :: l) st h = zR d 300 Q 784 (o0 :: o1 :: o2 :: some (.int x) :: l) (.int x :: st) h := q_in rfl rfl
set_option maxRecDepth 100000 in
theorem r300_784 : zR d 300 Q 784 lv st h = zR d 300 Q 785 lv (.int 2 :: st) h := q_in rfl rfl
set_option maxRecDepth 100000 in
theorem r300_785 : zR d 300 Q 785 lv (.int z :: .int x :: st) h = zR d 300 Q 786 lv (.int (x + z) :: st) h := q_in rfl rfl
set_option maxRecDepth 100000 in
theorem r300_786 : zR d 300 Q 786 lv (.int x :: .ref c :: st) h = zal c x h (fun w => zR d 300 Q 787 lv (.int w :: st) h) := q_iald rfl
set_option maxRecDepth 100000 in
theorem r300_787 : zR d 300 Q 787 lv [.int x1, .int x0, .ref 60, .int y0] h = zM d 188 [.ref 60, .int x0, .int x1] h (fun r h' => zR d 300 Q 790 lv (r.toList ++ [.int y0]) h') := (q_clV rfl rfl (Nat.le_of_ble_eq_true rfl)).trans (zand_t ⟨rfl, Nat.le_of_ble_eq_true rfl⟩)
set_option maxRecDepth 100000 in
theorem r300_790 : zR d 300 Q 790 lv (.int z :: .int x :: st) h = if x = z then zR d 300 Q 1375 lv st h else zR d 300 Q 793 lv st h := q_if rfl rfl
set_option maxRecDepth 100000 in
theorem r300_793 : zR d 300 Q 793 lv st h = zR d 300 Q 794 lv (.int 0 :: st) h := q_in rfl rfl
set_option maxRecDepth 100000 in
theorem r300_794f : zR d 300 Q 794 lv [.int 0] h = Q (some (.int 0)) h := q_retz rfl rfl (Or.inr (Or.inl rfl))
set_option maxRecDepth 100000 in
theorem r300_794t : zR d 300 Q 794 lv [.int 1] h = Q (some (.int 1)) h := q_retz rfl rfl (Or.inr (Or.inr rfl))
set_option maxRecDepth 100000 in
theorem r300_795 : zR d 300 Q 795 (o0 :: some (.ref c) :: l) st h = zR d 300 Q 796 (o0 :: some (.ref c) :: l) (.ref c :: st) h := q_in rfl rfl
set_option maxRecDepth 100000 in
theorem r300_796 : zR d 300 Q 796 lv [.ref 0] h = zM d 80 [.ref 0] h (fun r h' => zR d 300 Q 799 lv (r.toList ++ []) h') := (q_clV rfl rfl (Nat.le_of_ble_eq_true rfl)).trans (zand_t ⟨rfl, Nat.le_of_ble_eq_true rfl⟩)
set_option maxRecDepth 100000 in
theorem r300_799 : zR d 300 Q 799 (o0 :: o1 :: some (.ref c) :: l) st h = zR d 300 Q 800 (o0 :: o1 :: some (.ref c) :: l) (.ref c :: st) h := q_in rfl rfl
set_option maxRecDepth 100000 in
theorem r300_800 : zR d 300 Q 800 lv [.ref 60, .int y0] h = zM d 159 [.ref 60] h (fun r h' => zR d 300 Q 803 lv (r.toList ++ [.int y0]) h') := (q_clV rfl rfl (Nat.le_of_ble_eq_true rfl)).trans (zand_t ⟨rfl, Nat.le_of_ble_eq_true rfl⟩)
set_option maxRecDepth 100000 in
theorem r300_803 : zR d 300 Q 803 lv (.int z :: .int x :: st) h = if x = z then zR d 300 Q 1375 lv st h else zR d 300 Q 806 lv st h := q_if rfl rfl
set_option maxRecDepth 100000 in
theorem r300_806 : zR d 300 Q 806 lv st h = zR d 300 Q 807 lv (.int 0 :: st) h := q_in rfl rfl
set_option maxRecDepth 100000 in
theorem r300_807f : zR d 300 Q 807 lv [.int 0] h = Q (some (.int 0)) h := q_retz rfl rfl (Or.inr (Or.inl rfl))
set_option maxRecDepth 100000 in
theorem r300_807t : zR d 300 Q 807 lv [.int 1] h = Q (some (.int 1)) h := q_retz rfl rfl (Or.inr (Or.inr rfl))
set_option maxRecDepth 100000 in
theorem r300_808 : zR d 300 Q 808 (o0 :: some (.ref c) :: l) st h = zR d 300 Q 809 (o0 :: some (.ref c) :: l) (.ref c :: st) h := q_in rfl rfl
set_option maxRecDepth 100000 in
theorem r300_809 : zR d 300 Q 809 (some (.ref c) :: l) st h = zR d 300 Q 810 (some (.ref c) :: l) (.ref c :: st) h := q_in rfl rfl
set_option maxRecDepth 100000 in
theorem r300_810 : zR d 300 Q 810 (o0 :: o1 :: o2 :: some (.int x) :: l) st h = zR d 300 Q 811 (o0 :: o1 :: o2 :: some (.int x) :: l) (.int x :: st) h := q_in rfl rfl
set_option maxRecDepth 100000 in
theorem r300_811 : zR d 300 Q 811 lv st h = zR d 300 Q 812 lv (.int 1 :: st) h := q_in rfl rfl
set_option maxRecDepth 100000 in
theorem r300_812 : zR d 300 Q 812 lv (.int z :: .int x :: st) h = zR d 300 Q 813 lv (.int (x + z) :: st) h := q_in rfl rfl
set_option maxRecDepth 100000 in
theorem r300_813 : zR d 300 Q 813 lv (.int x :: .ref c :: st) h = zal c x h (fun w => zR d 300 Q 814 lv (.int w :: st) h) := q_iald rfl
set_option maxRecDepth 100000 in
theorem r300_814 : zR d 300 Q 814 (some (.ref c) :: l) st h = zR d 300 Q 815 (some (.ref c) :: l) (.ref c :: st) h := q_in rfl rfl
set_option maxRecDepth 100000 in
theorem r300_815 : zR d 300 Q 815 (o0 :: o1 :: o2 :: some (.int x) :: l) st h = zR d 300 Q 816 (o0 :: o1 :: o2 :: some (.int x) :: l) (.int x :: st) h := q_in rfl rfl
set_option maxRecDepth 100000 in
theorem r300_816 : zR d 300 Q 816 lv st h = zR d 300 Q 817 lv (.int 2 :: st) h := q_in rfl rfl
set_option maxRecDepth 100000 in
theorem r300_817 : zR d 300 Q 817 lv (.int z :: .int x :: st) h = zR d 300 Q 818 lv (.int (x + z) :: st) h := q_in rfl rfl
set_option maxRecDepth 100000 in
theorem r300_818 : zR d 300 Q 818 lv (.int x :: .ref c :: st) h = zal c x h (fun w => zR d 300 Q 819 lv (.int w :: st) h) := q_iald rfl
set_option maxRecDepth 100000 in
theorem r300_819 : zR d 300 Q 819 (some (.ref c) :: l) st h = zR d 300 Q 820 (some (.ref c) :: l) (.ref c :: st) h := q_in rfl rfl
set_option maxRecDepth 100000 in
theorem r300_820 : zR d 300 Q 820 (o0 :: o1 :: o2 :: some (.int x) :: l) st h = zR d 300 Q 821 (o0 :: o1 :: o2 :: some (.int x) :: l) (.int x :: st) h := q_in rfl rfl
set_option maxRecDepth 100000 in
theorem r300_821 : zR d 300 Q 821 lv st h = zR d 300 Q 822 lv (.int 3 :: st) h := q_in rfl rfl
set_option maxRecDepth 100000 in
theorem r300_822 : zR d 300 Q 822 lv (.int z :: .int x :: st) h = zR d 300 Q 823 lv (.int (x + z) :: st) h := q_in rfl rfl
set_option maxRecDepth 100000 in
theorem r300_823 : zR d 300 Q 823 lv (.int x :: .ref c :: st) h = zal c x h (fun w => zR d 300 Q 824 lv (.int w :: st) h) := q_iald rfl
set_option maxRecDepth 100000 in
theorem r300_824 : zR d 300 Q 824 lv [.int x2, .int x1, .int x0, .ref 0] h = zM d 81 [.ref 0, .int x0, .int x1, .int x2] h (fun r h' => zR d 300 Q 827 lv (r.toList ++ []) h') := (q_clV rfl rfl (Nat.le_of_ble_eq_true rfl)).trans (zand_t ⟨rfl, Nat.le_of_ble_eq_true rfl⟩)
set_option maxRecDepth 100000 in
theorem r300_827 : zR d 300 Q 827 (o0 :: o1 :: some (.ref c) :: l) st h = zR d 300 Q 828 (o0 :: o1 :: some (.ref c) :: l) (.ref c :: st) h := q_in rfl rfl
set_option maxRecDepth 100000 in
theorem r300_828 : zR d 300 Q 828 (some (.ref c) :: l) st h = zR d 300 Q 829 (some (.ref c) :: l) (.ref c :: st) h := q_in rfl rfl
set_option maxRecDepth 100000 in
theorem r300_829 : zR d 300 Q 829 (o0 :: o1 :: o2 :: some (.int x) :: l) st h = zR d 300 Q 830 (o0 :: o1 :: o2 :: some (.int x) :: l) (.int x :: st) h := q_in rfl rfl
set_option maxRecDepth 100000 in
theorem r300_830 : zR d 300 Q 830 lv st h = zR d 300 Q 831 lv (.int 1 :: st) h := q_in rfl rfl
set_option maxRecDepth 100000 in
theorem r300_831 : zR d 300 Q 831 lv (.int z :: .int x :: st) h = zR d 300 Q 832 lv (.int (x + z) :: st) h := q_in rfl rfl
set_option maxRecDepth 100000 in
theorem r300_832 : zR d 300 Q 832 lv (.int x :: .ref c :: st) h = zal c x h (fun w => zR d 300 Q 833 lv (.int w :: st) h) := q_iald rfl
set_option maxRecDepth 100000 in
theorem r300_833 : zR d 300 Q 833 (some (.ref c) :: l) st h = zR d 300 Q 834 (some (.ref c) :: l) (.ref c :: st) h := q_in rfl rfl
set_option maxRecDepth 100000 in
theorem r300_834 : zR d 300 Q 834 (o0 :: o1 :: o2 :: some (.int x) :: l) st h = zR d 300 Q 835 (o0 :: o1 :: o2 :: some (.int x) :: l) (.int x :: st) h := q_in rfl rfl
set_option maxRecDepth 100000 in
theorem r300_835 : zR d 300 Q 835 lv st h = zR d 300 Q 836 lv (.int 2 :: st) h := q_in rfl rfl
set_option maxRecDepth 100000 in
theorem r300_836 : zR d 300 Q 836 lv (.int z :: .int x :: st) h = zR d 300 Q 837 lv (.int (x + z) :: st) h := q_in rfl rfl
set_option maxRecDepth 100000 in
theorem r300_837 : zR d 300 Q 837 lv (.int x :: .ref c :: st) h = zal c x h (fun w => zR d 300 Q 838 lv (.int w :: st) h) := q_iald rfl
set_option maxRecDepth 100000 in
theorem r300_838 : zR d 300 Q 838 (some (.ref c) :: l) st h = zR d 300 Q 839 (some (.ref c) :: l) (.ref c :: st) h := q_in rfl rfl
set_option maxRecDepth 100000 in
theorem r300_839 : zR d 300 Q 839 (o0 :: o1 :: o2 :: some (.int x) :: l) st h = zR d 300 Q 840 (o0 :: o1 :: o2 :: some (.int x) :: l) (.int x :: st) h := q_in rfl rfl
set_option maxRecDepth 100000 in
theorem r300_840 : zR d 300 Q 840 lv st h = zR d 300 Q 841 lv (.int 3 :: st) h := q_in rfl rfl
set_option maxRecDepth 100000 in
theorem r300_841 : zR d 300 Q 841 lv (.int z :: .int x :: st) h = zR d 300 Q 842 lv (.int (x + z) :: st) h := q_in rfl rfl
set_option maxRecDepth 100000 in
theorem r300_842 : zR d 300 Q 842 lv (.int x :: .ref c :: st) h = zal c x h (fun w => zR d 300 Q 843 lv (.int w :: st) h) := q_iald rfl
set_option maxRecDepth 100000 in
theorem r300_843 : zR d 300 Q 843 lv [.int x2, .int x1, .int x0, .ref 60, .int y0] h = zM d 160 [.ref 60, .int x0, .int x1, .int x2] h (fun r h' => zR d 300 Q 846 lv (r.toList ++ [.int y0]) h') := (q_clV rfl rfl (Nat.le_of_ble_eq_true rfl)).trans (zand_t ⟨rfl, Nat.le_of_ble_eq_true rfl⟩)
set_option maxRecDepth 100000 in
theorem r300_846 : zR d 300 Q 846 lv (.int z :: .int x :: st) h = if x = z then zR d 300 Q 1375 lv st h else zR d 300 Q 849 lv st h := q_if rfl rfl
set_option maxRecDepth 100000 in
theorem r300_849 : zR d 300 Q 849 lv st h = zR d 300 Q 850 lv (.int 0 :: st) h := q_in rfl rfl
set_option maxRecDepth 100000 in
theorem r300_850f : zR d 300 Q 850 lv [.int 0] h = Q (some (.int 0)) h := q_retz rfl rfl (Or.inr (Or.inl rfl))
set_option maxRecDepth 100000 in
theorem r300_850t : zR d 300 Q 850 lv [.int 1] h = Q (some (.int 1)) h := q_retz rfl rfl (Or.inr (Or.inr rfl))
set_option maxRecDepth 100000 in
theorem r300_851 : zR d 300 Q 851 (o0 :: some (.ref c) :: l) st h = zR d 300 Q 852 (o0 :: some (.ref c) :: l) (.ref c :: st) h := q_in rfl rfl
set_option maxRecDepth 100000 in
theorem r300_852 : zR d 300 Q 852 (some (.ref c) :: l) st h = zR d 300 Q 853 (some (.ref c) :: l) (.ref c :: st) h := q_in rfl rfl
set_option maxRecDepth 100000 in
theorem r300_853 : zR d 300 Q 853 (o0 :: o1 :: o2 :: some (.int x) :: l) st h = zR d 300 Q 854 (o0 :: o1 :: o2 :: some (.int x) :: l) (.int x :: st) h := q_in rfl rfl
set_option maxRecDepth 100000 in
theorem r300_854 : zR d 300 Q 854 lv st h = zR d 300 Q 855 lv (.int 1 :: st) h := q_in rfl rfl
set_option maxRecDepth 100000 in
theorem r300_855 : zR d 300 Q 855 lv (.int z :: .int x :: st) h = zR d 300 Q 856 lv (.int (x + z) :: st) h := q_in rfl rfl
set_option maxRecDepth 100000 in
theorem r300_856 : zR d 300 Q 856 lv (.int x :: .ref c :: st) h = zal c x h (fun w => zR d 300 Q 857 lv (.int w :: st) h) := q_iald rfl
set_option maxRecDepth 100000 in
theorem r300_857 : zR d 300 Q 857 lv [.int x0, .ref 0] h = zM d 82 [.ref 0, .int x0] h (fun r h' => zR d 300 Q 860 lv (r.toList ++ []) h') := (q_clV rfl rfl (Nat.le_of_ble_eq_true rfl)).trans (zand_t ⟨rfl, Nat.le_of_ble_eq_true rfl⟩)
set_option maxRecDepth 100000 in
theorem r300_860 : zR d 300 Q 860 (o0 :: o1 :: some (.ref c) :: l) st h = zR d 300 Q 861 (o0 :: o1 :: some (.ref c) :: l) (.ref c :: st) h := q_in rfl rfl
set_option maxRecDepth 100000 in
theorem r300_861 : zR d 300 Q 861 (some (.ref c) :: l) st h = zR d 300 Q 862 (some (.ref c) :: l) (.ref c :: st) h := q_in rfl rfl
set_option maxRecDepth 100000 in
theorem r300_862 : zR d 300 Q 862 (o0 :: o1 :: o2 :: some (.int x) :: l) st h = zR d 300 Q 863 (o0 :: o1 :: o2 :: some (.int x) :: l) (.int x :: st) h := q_in rfl rfl
set_option maxRecDepth 100000 in
theorem r300_863 : zR d 300 Q 863 lv st h = zR d 300 Q 864 lv (.int 1 :: st) h := q_in rfl rfl
set_option maxRecDepth 100000 in
theorem r300_864 : zR d 300 Q 864 lv (.int z :: .int x :: st) h = zR d 300 Q 865 lv (.int (x + z) :: st) h := q_in rfl rfl
set_option maxRecDepth 100000 in
theorem r300_865 : zR d 300 Q 865 lv (.int x :: .ref c :: st) h = zal c x h (fun w => zR d 300 Q 866 lv (.int w :: st) h) := q_iald rfl
set_option maxRecDepth 100000 in
theorem r300_866 : zR d 300 Q 866 lv [.int x0, .ref 60, .int y0] h = zM d 161 [.ref 60, .int x0] h (fun r h' => zR d 300 Q 869 lv (r.toList ++ [.int y0]) h') := (q_clV rfl rfl (Nat.le_of_ble_eq_true rfl)).trans (zand_t ⟨rfl, Nat.le_of_ble_eq_true rfl⟩)
set_option maxRecDepth 100000 in
theorem r300_869 : zR d 300 Q 869 lv (.int z :: .int x :: st) h = if x = z then zR d 300 Q 1375 lv st h else zR d 300 Q 872 lv st h := q_if rfl rfl
set_option maxRecDepth 100000 in
theorem r300_872 : zR d 300 Q 872 lv st h = zR d 300 Q 873 lv (.int 0 :: st) h := q_in rfl rfl
set_option maxRecDepth 100000 in
theorem r300_873f : zR d 300 Q 873 lv [.int 0] h = Q (some (.int 0)) h := q_retz rfl rfl (Or.inr (Or.inl rfl))
set_option maxRecDepth 100000 in
theorem r300_873t : zR d 300 Q 873 lv [.int 1] h = Q (some (.int 1)) h := q_retz rfl rfl (Or.inr (Or.inr rfl))
set_option maxRecDepth 100000 in
theorem r300_874 : zR d 300 Q 874 (o0 :: some (.ref c) :: l) st h = zR d 300 Q 875 (o0 :: some (.ref c) :: l) (.ref c :: st) h := q_in rfl rfl
set_option maxRecDepth 100000 in
theorem r300_875 : zR d 300 Q 875 lv [.ref 0] h = zM d 83 [.ref 0] h (fun r h' => zR d 300 Q 878 lv (r.toList ++ []) h') := (q_clV rfl rfl (Nat.le_of_ble_eq_true rfl)).trans (zand_t ⟨rfl, Nat.le_of_ble_eq_true rfl⟩)
set_option maxRecDepth 100000 in
theorem r300_878 : zR d 300 Q 878 (o0 :: o1 :: some (.ref c) :: l) st h = zR d 300 Q 879 (o0 :: o1 :: some (.ref c) :: l) (.ref c :: st) h := q_in rfl rfl
set_option maxRecDepth 100000 in
theorem r300_879 : zR d 300 Q 879 lv [.ref 60, .int y0] h = zM d 177 [.ref 60] h (fun r h' => zR d 300 Q 882 lv (r.toList ++ [.int y0]) h') := (q_clV rfl rfl (Nat.le_of_ble_eq_true rfl)).trans (zand_t ⟨rfl, Nat.le_of_ble_eq_true rfl⟩)
set_option maxRecDepth 100000 in
theorem r300_882 : zR d 300 Q 882 lv (.int z :: .int x :: st) h = if x = z then zR d 300 Q 1375 lv st h else zR d 300 Q 885 lv st h := q_if rfl rfl
set_option maxRecDepth 100000 in
theorem r300_885 : zR d 300 Q 885 lv st h = zR d 300 Q 886 lv (.int 0 :: st) h := q_in rfl rfl
set_option maxRecDepth 100000 in
theorem r300_886f : zR d 300 Q 886 lv [.int 0] h = Q (some (.int 0)) h := q_retz rfl rfl (Or.inr (Or.inl rfl))
set_option maxRecDepth 100000 in
theorem r300_886t : zR d 300 Q 886 lv [.int 1] h = Q (some (.int 1)) h := q_retz rfl rfl (Or.inr (Or.inr rfl))
set_option maxRecDepth 100000 in
theorem r300_887 : zR d 300 Q 887 (o0 :: some (.ref c) :: l) st h = zR d 300 Q 888 (o0 :: some (.ref c) :: l) (.ref c :: st) h := q_in rfl rfl
set_option maxRecDepth 100000 in
theorem r300_888 : zR d 300 Q 888 (some (.ref c) :: l) st h = zR d 300 Q 889 (some (.ref c) :: l) (.ref c :: st) h := q_in rfl rfl
set_option maxRecDepth 100000 in
theorem r300_889 : zR d 300 Q 889 (o0 :: o1 :: o2 :: some (.int x) :: l) st h = zR d 300 Q 890 (o0 :: o1 :: o2 :: some (.int x) :: l) (.int x :: st) h := q_in rfl rfl
set_option maxRecDepth 100000 in
theorem r300_890 : zR d 300 Q 890 lv st h = zR d 300 Q 891 lv (.int 1 :: st) h := q_in rfl rfl
set_option maxRecDepth 100000 in
theorem r300_891 : zR d 300 Q 891 lv (.int z :: .int x :: st) h = zR d 300 Q 892 lv (.int (x + z) :: st) h := q_in rfl rfl
set_option maxRecDepth 100000 in
theorem r300_892 : zR d 300 Q 892 lv (.int x :: .ref c :: st) h = zal c x h (fun w => zR d 300 Q 893 lv (.int w :: st) h) := q_iald rfl
set_option maxRecDepth 100000 in
theorem r300_893 : zR d 300 Q 893 (some (.ref c) :: l) st h = zR d 300 Q 894 (some (.ref c) :: l) (.ref c :: st) h := q_in rfl rfl
set_option maxRecDepth 100000 in
theorem r300_894 : zR d 300 Q 894 (o0 :: o1 :: o2 :: some (.int x) :: l) st h = zR d 300 Q 895 (o0 :: o1 :: o2 :: some (.int x) :: l) (.int x :: st) h := q_in rfl rfl
set_option maxRecDepth 100000 in
theorem r300_895 : zR d 300 Q 895 lv st h = zR d 300 Q 896 lv (.int 2 :: st) h := q_in rfl rfl
set_option maxRecDepth 100000 in
theorem r300_896 : zR d 300 Q 896 lv (.int z :: .int x :: st) h = zR d 300 Q 897 lv (.int (x + z) :: st) h := q_in rfl rfl
set_option maxRecDepth 100000 in
theorem r300_897 : zR d 300 Q 897 lv (.int x :: .ref c :: st) h = zal c x h (fun w => zR d 300 Q 898 lv (.int w :: st) h) := q_iald rfl
set_option maxRecDepth 100000 in
theorem r300_898 : zR d 300 Q 898 lv [.int x1, .int x0, .ref 0] h = zM d 84 [.ref 0, .int x0, .int x1] h (fun r h' => zR d 300 Q 901 lv (r.toList ++ []) h') := (q_clV rfl rfl (Nat.le_of_ble_eq_true rfl)).trans (zand_t ⟨rfl, Nat.le_of_ble_eq_true rfl⟩)
set_option maxRecDepth 100000 in
theorem r300_901 : zR d 300 Q 901 (o0 :: o1 :: some (.ref c) :: l) st h = zR d 300 Q 902 (o0 :: o1 :: some (.ref c) :: l) (.ref c :: st) h := q_in rfl rfl
set_option maxRecDepth 100000 in
theorem r300_902 : zR d 300 Q 902 (some (.ref c) :: l) st h = zR d 300 Q 903 (some (.ref c) :: l) (.ref c :: st) h := q_in rfl rfl
set_option maxRecDepth 100000 in
theorem r300_903 : zR d 300 Q 903 (o0 :: o1 :: o2 :: some (.int x) :: l) st h = zR d 300 Q 904 (o0 :: o1 :: o2 :: some (.int x) :: l) (.int x :: st) h := q_in rfl rfl
set_option maxRecDepth 100000 in
theorem r300_904 : zR d 300 Q 904 lv st h = zR d 300 Q 905 lv (.int 1 :: st) h := q_in rfl rfl
set_option maxRecDepth 100000 in
theorem r300_905 : zR d 300 Q 905 lv (.int z :: .int x :: st) h = zR d 300 Q 906 lv (.int (x + z) :: st) h := q_in rfl rfl
set_option maxRecDepth 100000 in
theorem r300_906 : zR d 300 Q 906 lv (.int x :: .ref c :: st) h = zal c x h (fun w => zR d 300 Q 907 lv (.int w :: st) h) := q_iald rfl
set_option maxRecDepth 100000 in
theorem r300_907 : zR d 300 Q 907 (some (.ref c) :: l) st h = zR d 300 Q 908 (some (.ref c) :: l) (.ref c :: st) h := q_in rfl rfl
set_option maxRecDepth 100000 in
theorem r300_908 : zR d 300 Q 908 (o0 :: o1 :: o2 :: some (.int x) :: l) st h = zR d 300 Q 909 (o0 :: o1 :: o2 :: some (.int x) :: l) (.int x :: st) h := q_in rfl rfl
set_option maxRecDepth 100000 in
theorem r300_909 : zR d 300 Q 909 lv st h = zR d 300 Q 910 lv (.int 2 :: st) h := q_in rfl rfl
set_option maxRecDepth 100000 in
theorem r300_910 : zR d 300 Q 910 lv (.int z :: .int x :: st) h = zR d 300 Q 911 lv (.int (x + z) :: st) h := q_in rfl rfl
set_option maxRecDepth 100000 in
theorem r300_911 : zR d 300 Q 911 lv (.int x :: .ref c :: st) h = zal c x h (fun w => zR d 300 Q 912 lv (.int w :: st) h) := q_iald rfl
set_option maxRecDepth 100000 in
theorem r300_912 : zR d 300 Q 912 lv [.int x1, .int x0, .ref 60, .int y0] h = zM d 178 [.ref 60, .int x0, .int x1] h (fun r h' => zR d 300 Q 915 lv (r.toList ++ [.int y0]) h') := (q_clV rfl rfl (Nat.le_of_ble_eq_true rfl)).trans (zand_t ⟨rfl, Nat.le_of_ble_eq_true rfl⟩)
set_option maxRecDepth 100000 in
theorem r300_915 : zR d 300 Q 915 lv (.int z :: .int x :: st) h = if x = z then zR d 300 Q 1375 lv st h else zR d 300 Q 918 lv st h := q_if rfl rfl
set_option maxRecDepth 100000 in
theorem r300_918 : zR d 300 Q 918 lv st h = zR d 300 Q 919 lv (.int 0 :: st) h := q_in rfl rfl
set_option maxRecDepth 100000 in
theorem r300_919f : zR d 300 Q 919 lv [.int 0] h = Q (some (.int 0)) h := q_retz rfl rfl (Or.inr (Or.inl rfl))
set_option maxRecDepth 100000 in
theorem r300_919t : zR d 300 Q 919 lv [.int 1] h = Q (some (.int 1)) h := q_retz rfl rfl (Or.inr (Or.inr rfl))
set_option maxRecDepth 100000 in
theorem r300_920 : zR d 300 Q 920 (o0 :: some (.ref c) :: l) st h = zR d 300 Q 921 (o0 :: some (.ref c) :: l) (.ref c :: st) h := q_in rfl rfl
set_option maxRecDepth 100000 in
theorem r300_921 : zR d 300 Q 921 (some (.ref c) :: l) st h = zR d 300 Q 922 (some (.ref c) :: l) (.ref c :: st) h := q_in rfl rfl
set_option maxRecDepth 100000 in
theorem r300_922 : zR d 300 Q 922 (o0 :: o1 :: o2 :: some (.int x) :: l) st h = zR d 300 Q 923 (o0 :: o1 :: o2 :: some (.int x) :: l) (.int x :: st) h := q_in rfl rfl
set_option maxRecDepth 100000 in
theorem r300_923 : zR d 300 Q 923 lv st h = zR d 300 Q 924 lv (.int 1 :: st) h := q_in rfl rfl
set_option maxRecDepth 100000 in
theorem r300_924 : zR d 300 Q 924 lv (.int z :: .int x :: st) h = zR d 300 Q 925 lv (.int (x + z) :: st) h := q_in rfl rfl
set_option maxRecDepth 100000 in
theorem r300_925 : zR d 300 Q 925 lv (.int x :: .ref c :: st) h = zal c x h (fun w => zR d 300 Q 926 lv (.int w :: st) h) := q_iald rfl
set_option maxRecDepth 100000 in
theorem r300_926 : zR d 300 Q 926 lv [.int x0, .ref 0] h = zM d 85 [.ref 0, .int x0] h (fun r h' => zR d 300 Q 929 lv (r.toList ++ []) h') := (q_clV rfl rfl (Nat.le_of_ble_eq_true rfl)).trans (zand_t ⟨rfl, Nat.le_of_ble_eq_true rfl⟩)
set_option maxRecDepth 100000 in
theorem r300_929 : zR d 300 Q 929 (o0 :: o1 :: some (.ref c) :: l) st h = zR d 300 Q 930 (o0 :: o1 :: some (.ref c) :: l) (.ref c :: st) h := q_in rfl rfl
set_option maxRecDepth 100000 in
theorem r300_930 : zR d 300 Q 930 (some (.ref c) :: l) st h = zR d 300 Q 931 (some (.ref c) :: l) (.ref c :: st) h := q_in rfl rfl
set_option maxRecDepth 100000 in
theorem r300_931 : zR d 300 Q 931 (o0 :: o1 :: o2 :: some (.int x) :: l) st h = zR d 300 Q 932 (o0 :: o1 :: o2 :: some (.int x) :: l) (.int x :: st) h := q_in rfl rfl
set_option maxRecDepth 100000 in
theorem r300_932 : zR d 300 Q 932 lv st h = zR d 300 Q 933 lv (.int 1 :: st) h := q_in rfl rfl
set_option maxRecDepth 100000 in
theorem r300_933 : zR d 300 Q 933 lv (.int z :: .int x :: st) h = zR d 300 Q 934 lv (.int (x + z) :: st) h := q_in rfl rfl
set_option maxRecDepth 100000 in
theorem r300_934 : zR d 300 Q 934 lv (.int x :: .ref c :: st) h = zal c x h (fun w => zR d 300 Q 935 lv (.int w :: st) h) := q_iald rfl
set_option maxRecDepth 100000 in
theorem r300_935 : zR d 300 Q 935 lv [.int x0, .ref 60, .int y0] h = zM d 180 [.ref 60, .int x0] h (fun r h' => zR d 300 Q 938 lv (r.toList ++ [.int y0]) h') := (q_clV rfl rfl (Nat.le_of_ble_eq_true rfl)).trans (zand_t ⟨rfl, Nat.le_of_ble_eq_true rfl⟩)
set_option maxRecDepth 100000 in
theorem r300_938 : zR d 300 Q 938 lv (.int z :: .int x :: st) h = if x = z then zR d 300 Q 1375 lv st h else zR d 300 Q 941 lv st h := q_if rfl rfl
set_option maxRecDepth 100000 in
theorem r300_941 : zR d 300 Q 941 lv st h = zR d 300 Q 942 lv (.int 0 :: st) h := q_in rfl rfl
set_option maxRecDepth 100000 in
theorem r300_942f : zR d 300 Q 942 lv [.int 0] h = Q (some (.int 0)) h := q_retz rfl rfl (Or.inr (Or.inl rfl))
set_option maxRecDepth 100000 in
theorem r300_942t : zR d 300 Q 942 lv [.int 1] h = Q (some (.int 1)) h := q_retz rfl rfl (Or.inr (Or.inr rfl))
set_option maxRecDepth 100000 in
theorem r300_943 : zR d 300 Q 943 (o0 :: some (.ref c) :: l) st h = zR d 300 Q 944 (o0 :: some (.ref c) :: l) (.ref c :: st) h := q_in rfl rfl
set_option maxRecDepth 100000 in
theorem r300_944 : zR d 300 Q 944 (some (.ref c) :: l) st h = zR d 300 Q 945 (some (.ref c) :: l) (.ref c :: st) h := q_in rfl rfl
set_option maxRecDepth 100000 in
theorem r300_945 : zR d 300 Q 945 (o0 :: o1 :: o2 :: some (.int x) :: l) st h = zR d 300 Q 946 (o0 :: o1 :: o2 :: some (.int x) :: l) (.int x :: st) h := q_in rfl rfl
set_option maxRecDepth 100000 in
theorem r300_946 : zR d 300 Q 946 lv st h = zR d 300 Q 947 lv (.int 1 :: st) h := q_in rfl rfl
set_option maxRecDepth 100000 in
theorem r300_947 : zR d 300 Q 947 lv (.int z :: .int x :: st) h = zR d 300 Q 948 lv (.int (x + z) :: st) h := q_in rfl rfl
set_option maxRecDepth 100000 in
theorem r300_948 : zR d 300 Q 948 lv (.int x :: .ref c :: st) h = zal c x h (fun w => zR d 300 Q 949 lv (.int w :: st) h) := q_iald rfl
set_option maxRecDepth 100000 in
theorem r300_949 : zR d 300 Q 949 (some (.ref c) :: l) st h = zR d 300 Q 950 (some (.ref c) :: l) (.ref c :: st) h := q_in rfl rfl
set_option maxRecDepth 100000 in
theorem r300_950 : zR d 300 Q 950 (o0 :: o1 :: o2 :: some (.int x) :: l) st h = zR d 300 Q 951 (o0 :: o1 :: o2 :: some (.int x) :: l) (.int x :: st) h := q_in rfl rfl
set_option maxRecDepth 100000 in
theorem r300_951 : zR d 300 Q 951 lv st h = zR d 300 Q 952 lv (.int 2 :: st) h := q_in rfl rfl
set_option maxRecDepth 100000 in
theorem r300_952 : zR d 300 Q 952 lv (.int z :: .int x :: st) h = zR d 300 Q 953 lv (.int (x + z) :: st) h := q_in rfl rfl
set_option maxRecDepth 100000 in
theorem r300_953 : zR d 300 Q 953 lv (.int x :: .ref c :: st) h = zal c x h (fun w => zR d 300 Q 954 lv (.int w :: st) h) := q_iald rfl
set_option maxRecDepth 100000 in
theorem r300_954 : zR d 300 Q 954 (some (.ref c) :: l) st h = zR d 300 Q 955 (some (.ref c) :: l) (.ref c :: st) h := q_in rfl rfl
set_option maxRecDepth 100000 in
theorem r300_955 : zR d 300 Q 955 (o0 :: o1 :: o2 :: some (.int x) :: l) st h = zR d 300 Q 956 (o0 :: o1 :: o2 :: some (.int x) :: l) (.int x :: st) h := q_in rfl rfl
set_option maxRecDepth 100000 in
theorem r300_956 : zR d 300 Q 956 lv st h = zR d 300 Q 957 lv (.int 3 :: st) h := q_in rfl rfl
set_option maxRecDepth 100000 in
theorem r300_957 : zR d 300 Q 957 lv (.int z :: .int x :: st) h = zR d 300 Q 958 lv (.int (x + z) :: st) h := q_in rfl rfl
set_option maxRecDepth 100000 in
theorem r300_958 : zR d 300 Q 958 lv (.int x :: .ref c :: st) h = zal c x h (fun w => zR d 300 Q 959 lv (.int w :: st) h) := q_iald rfl
set_option maxRecDepth 100000 in
theorem r300_959 : zR d 300 Q 959 lv [.int x2, .int x1, .int x0, .ref 0] h = zM d 86 [.ref 0, .int x0, .int x1, .int x2] h (fun r h' => zR d 300 Q 962 lv (r.toList ++ []) h') := (q_clV rfl rfl (Nat.le_of_ble_eq_true rfl)).trans (zand_t ⟨rfl, Nat.le_of_ble_eq_true rfl⟩)
set_option maxRecDepth 100000 in
theorem r300_962 : zR d 300 Q 962 (o0 :: o1 :: some (.ref c) :: l) st h = zR d 300 Q 963 (o0 :: o1 :: some (.ref c) :: l) (.ref c :: st) h := q_in rfl rfl
set_option maxRecDepth 100000 in
theorem r300_963 : zR d 300 Q 963 (some (.ref c) :: l) st h = zR d 300 Q 964 (some (.ref c) :: l) (.ref c :: st) h := q_in rfl rfl
set_option maxRecDepth 100000 in
theorem r300_964 : zR d 300 Q 964 (o0 :: o1 :: o2 :: some (.int x) :: l) st h = zR d 300 Q 965 (o0 :: o1 :: o2 :: some (.int x) :: l) (.int x :: st) h := q_in rfl rfl
set_option maxRecDepth 100000 in
theorem r300_965 : zR d 300 Q 965 lv st h = zR d 300 Q 966 lv (.int 1 :: st) h := q_in rfl rfl
set_option maxRecDepth 100000 in
theorem r300_966 : zR d 300 Q 966 lv (.int z :: .int x :: st) h = zR d 300 Q 967 lv (.int (x + z) :: st) h := q_in rfl rfl
set_option maxRecDepth 100000 in
theorem r300_967 : zR d 300 Q 967 lv (.int x :: .ref c :: st) h = zal c x h (fun w => zR d 300 Q 968 lv (.int w :: st) h) := q_iald rfl
set_option maxRecDepth 100000 in
theorem r300_968 : zR d 300 Q 968 (some (.ref c) :: l) st h = zR d 300 Q 969 (some (.ref c) :: l) (.ref c :: st) h := q_in rfl rfl
set_option maxRecDepth 100000 in
theorem r300_969 : zR d 300 Q 969 (o0 :: o1 :: o2 :: some (.int x) :: l) st h = zR d 300 Q 970 (o0 :: o1 :: o2 :: some (.int x) :: l) (.int x :: st) h := q_in rfl rfl
set_option maxRecDepth 100000 in
theorem r300_970 : zR d 300 Q 970 lv st h = zR d 300 Q 971 lv (.int 2 :: st) h := q_in rfl rfl
set_option maxRecDepth 100000 in
theorem r300_971 : zR d 300 Q 971 lv (.int z :: .int x :: st) h = zR d 300 Q 972 lv (.int (x + z) :: st) h := q_in rfl rfl
set_option maxRecDepth 100000 in
theorem r300_972 : zR d 300 Q 972 lv (.int x :: .ref c :: st) h = zal c x h (fun w => zR d 300 Q 973 lv (.int w :: st) h) := q_iald rfl
set_option maxRecDepth 100000 in
theorem r300_973 : zR d 300 Q 973 (some (.ref c) :: l) st h = zR d 300 Q 974 (some (.ref c) :: l) (.ref c :: st) h := q_in rfl rfl
set_option maxRecDepth 100000 in
theorem r300_974 : zR d 300 Q 974 (o0 :: o1 :: o2 :: some (.int x) :: l) st h = zR d 300 Q 975 (o0 :: o1 :: o2 :: some (.int x) :: l) (.int x :: st) h := q_in rfl rfl
set_option maxRecDepth 100000 in
theorem r300_975 : zR d 300 Q 975 lv st h = zR d 300 Q 976 lv (.int 3 :: st) h := q_in rfl rfl
set_option maxRecDepth 100000 in
theorem r300_976 : zR d 300 Q 976 lv (.int z :: .int x :: st) h = zR d 300 Q 977 lv (.int (x + z) :: st) h := q_in rfl rfl
set_option maxRecDepth 100000 in
theorem r300_977 : zR d 300 Q 977 lv (.int x :: .ref c :: st) h = zal c x h (fun w => zR d 300 Q 978 lv (.int w :: st) h) := q_iald rfl
set_option maxRecDepth 100000 in
theorem r300_978 : zR d 300 Q 978 lv [.int x2, .int x1, .int x0, .ref 60, .int y0] h = zM d 184 [.ref 60, .int x0, .int x1, .int x2] h (fun r h' => zR d 300 Q 981 lv (r.toList ++ [.int y0]) h') := (q_clV rfl rfl (Nat.le_of_ble_eq_true rfl)).trans (zand_t ⟨rfl, Nat.le_of_ble_eq_true rfl⟩)
set_option maxRecDepth 100000 in
theorem r300_981 : zR d 300 Q 981 lv (.int z :: .int x :: st) h = if x = z then zR d 300 Q 1375 lv st h else zR d 300 Q 984 lv st h := q_if rfl rfl
set_option maxRecDepth 100000 in
theorem r300_984 : zR d 300 Q 984 lv st h = zR d 300 Q 985 lv (.int 0 :: st) h := q_in rfl rfl
set_option maxRecDepth 100000 in
theorem r300_985f : zR d 300 Q 985 lv [.int 0] h = Q (some (.int 0)) h := q_retz rfl rfl (Or.inr (Or.inl rfl))
set_option maxRecDepth 100000 in
theorem r300_985t : zR d 300 Q 985 lv [.int 1] h = Q (some (.int 1)) h := q_retz rfl rfl (Or.inr (Or.inr rfl))
set_option maxRecDepth 100000 in
theorem r300_986 : zR d 300 Q 986 (o0 :: some (.ref c) :: l) st h = zR d 300 Q 987 (o0 :: some (.ref c) :: l) (.ref c :: st) h := q_in rfl rfl
set_option maxRecDepth 100000 in
theorem r300_987 : zR d 300 Q 987 (some (.ref c) :: l) st h = zR d 300 Q 988 (some (.ref c) :: l) (.ref c :: st) h := q_in rfl rfl
set_option maxRecDepth 100000 in
theorem r300_988 : zR d 300 Q 988 (o0 :: o1 :: o2 :: some (.int x) :: l) st h = zR d 300 Q 989 (o0 :: o1 :: o2 :: some (.int x) :: l) (.int x :: st) h := q_in rfl rfl
set_option maxRecDepth 100000 in
theorem r300_989 : zR d 300 Q 989 lv st h = zR d 300 Q 990 lv (.int 1 :: st) h := q_in rfl rfl
set_option maxRecDepth 100000 in
theorem r300_990 : zR d 300 Q 990 lv (.int z :: .int x :: st) h = zR d 300 Q 991 lv (.int (x + z) :: st) h := q_in rfl rfl
set_option maxRecDepth 100000 in
theorem r300_991 : zR d 300 Q 991 lv (.int x :: .ref c :: st) h = zal c x h (fun w => zR d 300 Q 992 lv (.int w :: st) h) := q_iald rfl
set_option maxRecDepth 100000 in
theorem r300_992 : zR d 300 Q 992 (some (.ref c) :: l) st h = zR d 300 Q 993 (some (.ref c) :: l) (.ref c :: st) h := q_in rfl rfl
set_option maxRecDepth 100000 in
theorem r300_993 : zR d 300 Q 993 (o0 :: o1 :: o2 :: some (.int x) :: l) st h = zR d 300 Q 994 (o0 :: o1 :: o2 :: some (.int x) :: l) (.int x :: st) h := q_in rfl rfl
set_option maxRecDepth 100000 in
theorem r300_994 : zR d 300 Q 994 lv st h = zR d 300 Q 995 lv (.int 2 :: st) h := q_in rfl rfl
set_option maxRecDepth 100000 in
theorem r300_995 : zR d 300 Q 995 lv (.int z :: .int x :: st) h = zR d 300 Q 996 lv (.int (x + z) :: st) h := q_in rfl rfl
set_option maxRecDepth 100000 in
theorem r300_996 : zR d 300 Q 996 lv (.int x :: .ref c :: st) h = zal c x h (fun w => zR d 300 Q 997 lv (.int w :: st) h) := q_iald rfl
set_option maxRecDepth 100000 in
theorem r300_997 : zR d 300 Q 997 (some (.ref c) :: l) st h = zR d 300 Q 998 (some (.ref c) :: l) (.ref c :: st) h := q_in rfl rfl
set_option maxRecDepth 100000 in
theorem r300_998 : zR d 300 Q 998 (o0 :: o1 :: o2 :: some (.int x) :: l) st h = zR d 300 Q 999 (o0 :: o1 :: o2 :: some (.int x) :: l) (.int x :: st) h := q_in rfl rfl
set_option maxRecDepth 100000 in
theorem r300_999 : zR d 300 Q 999 lv st h = zR d 300 Q 1000 lv (.int 3 :: st) h := q_in rfl rfl
set_option maxRecDepth 100000 in
theorem r300_1000 : zR d 300 Q 1000 lv (.int z :: .int x :: st) h = zR d 300 Q 1001 lv (.int (x + z) :: st) h := q_in rfl rfl
set_option maxRecDepth 100000 in
theorem r300_1001 : zR d 300 Q 1001 lv (.int x :: .ref c :: st) h = zal c x h (fun w => zR d 300 Q 1002 lv (.int w :: st) h) := q_iald rfl
set_option maxRecDepth 100000 in
theorem r300_1002 : zR d 300 Q 1002 lv [.int x2, .int x1, .int x0, .ref 0] h = zM d 87 [.ref 0, .int x0, .int x1, .int x2] h (fun r h' => zR d 300 Q 1005 lv (r.toList ++ []) h') := (q_clV rfl rfl (Nat.le_of_ble_eq_true rfl)).trans (zand_t ⟨rfl, Nat.le_of_ble_eq_true rfl⟩)
set_option maxRecDepth 100000 in
theorem r300_1005 : zR d 300 Q 1005 (o0 :: o1 :: some (.ref c) :: l) st h = zR d 300 Q 1006 (o0 :: o1 :: some (.ref c) :: l) (.ref c :: st) h := q_in rfl rfl
set_option maxRecDepth 100000 in
theorem r300_1006 : zR d 300 Q 1006 (some (.ref c) :: l) st h = zR d 300 Q 1007 (some (.ref c) :: l) (.ref c :: st) h := q_in rfl rfl
set_option maxRecDepth 100000 in
theorem r300_1007 : zR d 300 Q 1007 (o0 :: o1 :: o2 :: some (.int x) :: l) st h = zR d 300 Q 1008 (o0 :: o1 :: o2 :: some (.int x) :: l) (.int x :: st) h := q_in rfl rfl
set_option maxRecDepth 100000 in
theorem r300_1008 : zR d 300 Q 1008 lv st h = zR d 300 Q 1009 lv (.int 1 :: st) h := q_in rfl rfl
set_option maxRecDepth 100000 in
theorem r300_1009 : zR d 300 Q 1009 lv (.int z :: .int x :: st) h = zR d 300 Q 1010 lv (.int (x + z) :: st) h := q_in rfl rfl
set_option maxRecDepth 100000 in
theorem r300_1010 : zR d 300 Q 1010 lv (.int x :: .ref c :: st) h = zal c x h (fun w => zR d 300 Q 1011 lv (.int w :: st) h) := q_iald rfl
set_option maxRecDepth 100000 in
theorem r300_1011 : zR d 300 Q 1011 (some (.ref c) :: l) st h = zR d 300 Q 1012 (some (.ref c) :: l) (.ref c :: st) h := q_in rfl rfl
set_option maxRecDepth 100000 in
theorem r300_1012 : zR d 300 Q 1012 (o0 :: o1 :: o2 :: some (.int x) :: l) st h = zR d 300 Q 1013 (o0 :: o1 :: o2 :: some (.int x) :: l) (.int x :: st) h := q_in rfl rfl
set_option maxRecDepth 100000 in
theorem r300_1013 : zR d 300 Q 1013 lv st h = zR d 300 Q 1014 lv (.int 2 :: st) h := q_in rfl rfl
set_option maxRecDepth 100000 in
theorem r300_1014 : zR d 300 Q 1014 lv (.int z :: .int x :: st) h = zR d 300 Q 1015 lv (.int (x + z) :: st) h := q_in rfl rfl
set_option maxRecDepth 100000 in
theorem r300_1015 : zR d 300 Q 1015 lv (.int x :: .ref c :: st) h = zal c x h (fun w => zR d 300 Q 1016 lv (.int w :: st) h) := q_iald rfl
set_option maxRecDepth 100000 in
theorem r300_1016 : zR d 300 Q 1016 (some (.ref c) :: l) st h = zR d 300 Q 1017 (some (.ref c) :: l) (.ref c :: st) h := q_in rfl rfl
set_option maxRecDepth 100000 in
theorem r300_1017 : zR d 300 Q 1017 (o0 :: o1 :: o2 :: some (.int x) :: l) st h = zR d 300 Q 1018 (o0 :: o1 :: o2 :: some (.int x) :: l) (.int x :: st) h := q_in rfl rfl
set_option maxRecDepth 100000 in
theorem r300_1018 : zR d 300 Q 1018 lv st h = zR d 300 Q 1019 lv (.int 3 :: st) h := q_in rfl rfl
set_option maxRecDepth 100000 in
theorem r300_1019 : zR d 300 Q 1019 lv (.int z :: .int x :: st) h = zR d 300 Q 1020 lv (.int (x + z) :: st) h := q_in rfl rfl
set_option maxRecDepth 100000 in
theorem r300_1020 : zR d 300 Q 1020 lv (.int x :: .ref c :: st) h = zal c x h (fun w => zR d 300 Q 1021 lv (.int w :: st) h) := q_iald rfl
end
