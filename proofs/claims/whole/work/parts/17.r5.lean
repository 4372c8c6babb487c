section
variable {d : Nat} {Q : Option Value → zH → Prop} {lv l : zL} {st : zS} {h : zH} {x z : Int32} {c : Nat} {i j : Int64} {o0 o1 o2 o3 o4 o5 o6 o7 o8 o9 o10 o11 o12 : Option Value} {x0 x1 x2 x3 x4 y0 y1 y2 y3 : Int32} {c0 c1 c2 c3 c4 a0 a1 a2 a3 : Nat} {j0 j1 j2 k0 k1 : Int64}

theorem r144_0 : zR d 144 Q 0 (some (.ref c) :: l) st h = zR d 144 Q 1 (some (.ref c) :: l) (.ref c :: st) h := q_in rfl rfl
theorem r144_1 : zR d 144 Q 1 lv [.ref 60] h = zM d 143 [.ref 60] h (fun r h' => zR d 144 Q 4 lv (r.toList ++ []) h') := (q_clV rfl rfl (Nat.le_of_ble_eq_true rfl)).trans (zand_t ⟨rfl, Nat.le_of_ble_eq_true rfl⟩)
theorem r144_4 : zR d 144 Q 4 (o0 :: o1 :: l) (.int x :: st) h = zR d 144 Q 5 (o0 :: some (.int x) :: l) st h := q_in rfl rfl
theorem r144_5 : zR d 144 Q 5 lv st h = zR d 144 Q 6 lv (.int 0 :: st) h := q_in rfl rfl
theorem r144_6 : zR d 144 Q 6 (o0 :: o1 :: o2 :: l) (.int x :: st) h = zR d 144 Q 7 (o0 :: o1 :: some (.int x) :: l) st h := q_in rfl rfl
theorem r144_7 : zR d 144 Q 7 (o0 :: some (.int x) :: l) st h = zR d 144 Q 8 (o0 :: some (.int x) :: l) (.int x :: st) h := q_in rfl rfl
theorem r144_8 : zR d 144 Q 8 lv (.int x :: st) h = if x = 0 then zR d 144 Q 11 lv st h else zR d 144 Q 82 lv st h := q_if rfl rfl
theorem r144_11 : zR d 144 Q 11 (some (.ref c) :: l) st h = zR d 144 Q 12 (some (.ref c) :: l) (.ref c :: st) h := q_in rfl rfl
theorem r144_12 : zR d 144 Q 12 lv [.ref 60] h = zM d 130 [.ref 60] h (fun r h' => zR d 144 Q 15 lv (r.toList ++ []) h') := (q_clV rfl rfl (Nat.le_of_ble_eq_true rfl)).trans (zand_t ⟨rfl, Nat.le_of_ble_eq_true rfl⟩)
theorem r144_15 : zR d 144 Q 15 (o0 :: o1 :: l) (.int x :: st) h = zR d 144 Q 16 (o0 :: some (.int x) :: l) st h := q_in rfl rfl
theorem r144_16 : zR d 144 Q 16 (some (.ref c) :: l) st h = zR d 144 Q 17 (some (.ref c) :: l) (.ref c :: st) h := q_in rfl rfl
theorem r144_17 : zR d 144 Q 17 lv [.ref 60] h = zM d 137 [.ref 60] h (fun r h' => zR d 144 Q 20 lv (r.toList ++ []) h') := (q_clV rfl rfl (Nat.le_of_ble_eq_true rfl)).trans (zand_t ⟨rfl, Nat.le_of_ble_eq_true rfl⟩)
theorem r144_20 : zR d 144 Q 20 (o0 :: o1 :: o2 :: l) (.int x :: st) h = zR d 144 Q 21 (o0 :: o1 :: some (.int x) :: l) st h := q_in rfl rfl
theorem r144_21 : zR d 144 Q 21 lv st h = zR d 144 Q 22 lv (.int 0 :: st) h := q_in rfl rfl
theorem r144_22 : zR d 144 Q 22 (o0 :: o1 :: o2 :: o3 :: l) (.int x :: st) h = zR d 144 Q 23 (o0 :: o1 :: o2 :: some (.int x) :: l) st h := q_in rfl rfl
theorem r144_23 : zR d 144 Q 23 (o0 :: o1 :: o2 :: some (.int x) :: l) st h = zR d 144 Q 24 (o0 :: o1 :: o2 :: some (.int x) :: l) (.int x :: st) h := q_in rfl rfl
theorem r144_24 : zR d 144 Q 24 (some (.ref c) :: l) st h = zR d 144 Q 25 (some (.ref c) :: l) (.ref c :: st) h := q_in rfl rfl
theorem r144_25 : zR d 144 Q 25 lv (.ref 60 :: st) h = zR d 144 Q 28 lv (.ref 61 :: st) h := (q_and rfl rfl).trans (zand_t rfl)
theorem r144_28 : zR d 144 Q 28 lv st h = zR d 144 Q 29 lv (.int 0 :: st) h := q_in rfl rfl
theorem r144_29 : zR d 144 Q 29 lv (.int x :: .ref c :: st) h = zal c x h (fun w => zR d 144 Q 30 lv (.int w :: st) h) := q_iald rfl
theorem r144_30 : zR d 144 Q 30 lv (.int z :: .int x :: st) h = if x < z then zR d 144 Q 33 lv st h else zR d 144 Q 66 lv st h := q_if rfl rfl
theorem r144_33 : zR d 144 Q 33 (some (.ref c) :: l) st h = zR d 144 Q 34 (some (.ref c) :: l) (.ref c :: st) h := q_in rfl rfl
theorem r144_34 : zR d 144 Q 34 lv (.ref 60 :: st) h = zR d 144 Q 37 lv (.ref 61 :: st) h := (q_and rfl rfl).trans (zand_t rfl)
theorem r144_37 : zR d 144 Q 37 lv st h = zR d 144 Q 38 lv (.int 4 :: st) h := q_in rfl rfl
theorem r144_38 : zR d 144 Q 38 lv (.int x :: .ref c :: st) h = zR d 144 Q 39 lv (.int x :: .ref c :: .int x :: .ref c :: st) h := q_in rfl rfl
theorem r144_39 : zR d 144 Q 39 lv (.int x :: .ref c :: st) h = zal c x h (fun w => zR d 144 Q 40 lv (.int w :: st) h) := q_iald rfl
theorem r144_40 : zR d 144 Q 40 (o0 :: o1 :: some (.int x) :: l) st h = zR d 144 Q 41 (o0 :: o1 :: some (.int x) :: l) (.int x :: st) h := q_in rfl rfl
theorem r144_41 : zR d 144 Q 41 (o0 :: o1 :: o2 :: some (.int x) :: l) st h = zR d 144 Q 42 (o0 :: o1 :: o2 :: some (.int x) :: l) (.int x :: st) h := q_in rfl rfl
theorem r144_42 : zR d 144 Q 42 lv (.int z :: .int x :: st) h = zR d 144 Q 43 lv (.int (x >>> (z &&& 31)) :: st) h := q_in rfl rfl
theorem r144_43 : zR d 144 Q 43 lv st h = zR d 144 Q 44 lv (.int 1 :: st) h := q_in rfl rfl
theorem r144_44 : zR d 144 Q 44 lv (.int z :: .int x :: st) h = zR d 144 Q 45 lv (.int (x &&& z) :: st) h := q_in rfl rfl
theorem r144_45 : zR d 144 Q 45 lv st h = zR d 144 Q 46 lv (.int 1 :: st) h := q_in rfl rfl
theorem r144_46 : zR d 144 Q 46 lv (.int z :: .int x :: st) h = if x = z then zR d 144 Q 49 lv st h else zR d 144 Q 57 lv st h := q_if rfl rfl
theorem r144_49 : zR d 144 Q 49 (some (.ref c) :: l) st h = zR d 144 Q 50 (some (.ref c) :: l) (.ref c :: st) h := q_in rfl rfl
theorem r144_50 : zR d 144 Q 50 (o0 :: o1 :: o2 :: some (.int x) :: l) st h = zR d 144 Q 51 (o0 :: o1 :: o2 :: some (.int x) :: l) (.int x :: st) h := q_in rfl rfl
theorem r144_51 : zR d 144 Q 51 lv [.int x0, .ref 60, .int y0, .int y1, .ref a2] h = zM d 120 [.ref 60, .int x0] h (fun r h' => zR d 144 Q 54 lv (r.toList ++ [.int y0, .int y1, .ref a2]) h') := (q_clV rfl rfl (Nat.le_of_ble_eq_true rfl)).trans (zand_t ⟨rfl, Nat.le_of_ble_eq_true rfl⟩)
theorem r144_54 : zR d 144 Q 54 lv st h = zR d 144 Q 58 lv st h := q_in rfl rfl
theorem r144_57 : zR d 144 Q 57 lv st h = zR d 144 Q 58 lv (.int 0 :: st) h := q_in rfl rfl
theorem r144_58 : zR d 144 Q 58 lv (.int z :: .int x :: st) h = zR d 144 Q 59 lv (.int (x + z) :: st) h := q_in rfl rfl
theorem r144_59 : zR d 144 Q 59 lv (.int z :: .int x :: .ref c :: st) h = zas c x z h (fun h' => zR d 144 Q 60 lv st h') := q_iast rfl
theorem r144_60 : zR d 144 Q 60 (o0 :: o1 :: o2 :: some (.int x) :: l) st h = zR d 144 Q 63 (o0 :: o1 :: o2 :: some (.int (x + 1)) :: l) st h := q_in rfl rfl
theorem r144_63 : zR d 144 Q 63 lv st h = zR d 144 Q 23 lv st h := q_in rfl rfl
theorem r144_66 : zR d 144 Q 66 (some (.ref c) :: l) st h = zR d 144 Q 67 (some (.ref c) :: l) (.ref c :: st) h := q_in rfl rfl
theorem r144_67 : zR d 144 Q 67 lv (.ref 60 :: st) h = zR d 144 Q 70 lv (.ref 61 :: st) h := (q_and rfl rfl).trans (zand_t rfl)
theorem r144_70 : zR d 144 Q 70 lv st h = zR d 144 Q 72 lv (.int 6 :: st) h := q_in rfl rfl
theorem r144_72 : zR d 144 Q 72 lv st h = zR d 144 Q 73 lv (.int 1 :: st) h := q_in rfl rfl
theorem r144_73 : zR d 144 Q 73 (some (.ref c) :: l) st h = zR d 144 Q 74 (some (.ref c) :: l) (.ref c :: st) h := q_in rfl rfl
theorem r144_74 : zR d 144 Q 74 lv (.ref 60 :: st) h = zR d 144 Q 77 lv (.ref 61 :: st) h := (q_and rfl rfl).trans (zand_t rfl)
theorem r144_77 : zR d 144 Q 77 lv st h = zR d 144 Q 79 lv (.int 6 :: st) h := q_in rfl rfl
theorem r144_79 : zR d 144 Q 79 lv (.int x :: .ref c :: st) h = zal c x h (fun w => zR d 144 Q 80 lv (.int w :: st) h) := q_iald rfl
theorem r144_80 : zR d 144 Q 80 lv (.int z :: .int x :: st) h = zR d 144 Q 81 lv (.int (x - z) :: st) h := q_in rfl rfl
theorem r144_81 : zR d 144 Q 81 lv (.int z :: .int x :: .ref c :: st) h = zas c x z h (fun h' => zR d 144 Q 82 lv st h') := q_iast rfl
theorem r144_82 : zR d 144 Q 82 (some (.ref c) :: l) st h = zR d 144 Q 83 (some (.ref c) :: l) (.ref c :: st) h := q_in rfl rfl
theorem r144_83 : zR d 144 Q 83 lv (.ref 60 :: st) h = zR d 144 Q 86 lv (.ref 61 :: st) h := (q_and rfl rfl).trans (zand_t rfl)
theorem r144_86 : zR d 144 Q 86 lv st h = zR d 144 Q 87 lv (.int 3 :: st) h := q_in rfl rfl
theorem r144_87 : zR d 144 Q 87 lv (.int x :: .ref c :: st) h = zR d 144 Q 88 lv (.int x :: .ref c :: .int x :: .ref c :: st) h := q_in rfl rfl
theorem r144_88 : zR d 144 Q 88 lv (.int x :: .ref c :: st) h = zal c x h (fun w => zR d 144 Q 89 lv (.int w :: st) h) := q_iald rfl
theorem r144_89 : zR d 144 Q 89 (o0 :: some (.int x) :: l) st h = zR d 144 Q 90 (o0 :: some (.int x) :: l) (.int x :: st) h := q_in rfl rfl
theorem r144_90 : zR d 144 Q 90 lv (.int z :: .int x :: st) h = zR d 144 Q 91 lv (.int (x + z) :: st) h := q_in rfl rfl
theorem r144_91 : zR d 144 Q 91 lv (.int z :: .int x :: .ref c :: st) h = zas c x z h (fun h' => zR d 144 Q 92 lv st h') := q_iast rfl
theorem r144_92 : zR d 144 Q 92 lv st h = zR d 144 Q 93 lv (.int 0 :: st) h := q_in rfl rfl
theorem r144_93 : zR d 144 Q 93 (o0 :: o1 :: o2 :: o3 :: l) (.int x :: st) h = zR d 144 Q 94 (o0 :: o1 :: o2 :: some (.int x) :: l) st h := q_in rfl rfl
theorem r144_94 : zR d 144 Q 94 (o0 :: o1 :: o2 :: some (.int x) :: l) st h = zR d 144 Q 95 (o0 :: o1 :: o2 :: some (.int x) :: l) (.int x :: st) h := q_in rfl rfl
theorem r144_95 : zR d 144 Q 95 (some (.ref c) :: l) st h = zR d 144 Q 96 (some (.ref c) :: l) (.ref c :: st) h := q_in rfl rfl
theorem r144_96 : zR d 144 Q 96 lv (.ref 60 :: st) h = zR d 144 Q 99 lv (.ref 61 :: st) h := (q_and rfl rfl).trans (zand_t rfl)
theorem r144_99 : zR d 144 Q 99 lv st h = zR d 144 Q 100 lv (.int 0 :: st) h := q_in rfl rfl
theorem r144_100 : zR d 144 Q 100 lv (.int x :: .ref c :: st) h = zal c x h (fun w => zR d 144 Q 101 lv (.int w :: st) h) := q_iald rfl
theorem r144_101 : zR d 144 Q 101 lv (.int z :: .int x :: st) h = if x < z then zR d 144 Q 104 lv st h else zR d 144 Q 170 lv st h := q_if rfl rfl
theorem r144_104 : zR d 144 Q 104 (o0 :: o1 :: some (.int x) :: l) st h = zR d 144 Q 105 (o0 :: o1 :: some (.int x) :: l) (.int x :: st) h := q_in rfl rfl
theorem r144_105 : zR d 144 Q 105 (o0 :: o1 :: o2 :: some (.int x) :: l) st h = zR d 144 Q 106 (o0 :: o1 :: o2 :: some (.int x) :: l) (.int x :: st) h := q_in rfl rfl
theorem r144_106 : zR d 144 Q 106 lv (.int z :: .int x :: st) h = zR d 144 Q 107 lv (.int (x >>> (z &&& 31)) :: st) h := q_in rfl rfl
theorem r144_107 : zR d 144 Q 107 lv st h = zR d 144 Q 108 lv (.int 1 :: st) h := q_in rfl rfl
theorem r144_108 : zR d 144 Q 108 lv (.int z :: .int x :: st) h = zR d 144 Q 109 lv (.int (x &&& z) :: st) h := q_in rfl rfl
theorem r144_109 : zR d 144 Q 109 lv st h = zR d 144 Q 110 lv (.int 1 :: st) h := q_in rfl rfl
theorem r144_110 : zR d 144 Q 110 lv (.int z :: .int x :: st) h = if x = z then zR d 144 Q 113 lv st h else zR d 144 Q 150 lv st h := q_if rfl rfl
theorem r144_113 : zR d 144 Q 113 (some (.ref c) :: l) st h = zR d 144 Q 114 (some (.ref c) :: l) (.ref c :: st) h := q_in rfl rfl
theorem r144_114 : zR d 144 Q 114 (o0 :: o1 :: o2 :: some (.int x) :: l) st h = zR d 144 Q 115 (o0 :: o1 :: o2 :: some (.int x) :: l) (.int x :: st) h := q_in rfl rfl
theorem r144_115 : zR d 144 Q 115 lv st h = zR d 144 Q 116 lv (.int 2 :: st) h := q_in rfl rfl
theorem r144_116 : zR d 144 Q 116 (some (.ref c) :: l) st h = zR d 144 Q 117 (some (.ref c) :: l) (.ref c :: st) h := q_in rfl rfl
theorem r144_117 : zR d 144 Q 117 lv (.ref 60 :: st) h = zR d 144 Q 120 lv (.ref 61 :: st) h := (q_and rfl rfl).trans (zand_t rfl)
theorem r144_120 : zR d 144 Q 120 lv st h = zR d 144 Q 122 lv (.int 6 :: st) h := q_in rfl rfl
theorem r144_122 : zR d 144 Q 122 lv (.int x :: .ref c :: st) h = zal c x h (fun w => zR d 144 Q 123 lv (.int w :: st) h) := q_iald rfl
theorem r144_123 : zR d 144 Q 123 lv [.int x2, .int x1, .int x0, .ref 60] h = zM d 114 [.ref 60, .int x0, .int x1, .int x2] h (fun r h' => zR d 144 Q 126 lv (r.toList ++ []) h') := (q_clV rfl rfl (Nat.le_of_ble_eq_true rfl)).trans (zand_t ⟨rfl, Nat.le_of_ble_eq_true rfl⟩)
theorem r144_126 : zR d 144 Q 126 (some (.ref c) :: l) st h = zR d 144 Q 127 (some (.ref c) :: l) (.ref c :: st) h := q_in rfl rfl
theorem r144_127 : zR d 144 Q 127 (o0 :: o1 :: o2 :: some (.int x) :: l) st h = zR d 144 Q 128 (o0 :: o1 :: o2 :: some (.int x) :: l) (.int x :: st) h := q_in rfl rfl
theorem r144_128 : zR d 144 Q 128 lv st h = zR d 144 Q 129 lv (.int 3 :: st) h := q_in rfl rfl
theorem r144_129 : zR d 144 Q 129 lv st h = zR d 144 Q 130 lv (.int 0 :: st) h := q_in rfl rfl
theorem r144_130 : zR d 144 Q 130 lv [.int x2, .int x1, .int x0, .ref 60] h = zM d 114 [.ref 60, .int x0, .int x1, .int x2] h (fun r h' => zR d 144 Q 133 lv (r.toList ++ []) h') := (q_clV rfl rfl (Nat.le_of_ble_eq_true rfl)).trans (zand_t ⟨rfl, Nat.le_of_ble_eq_true rfl⟩)
theorem r144_133 : zR d 144 Q 133 (some (.ref c) :: l) st h = zR d 144 Q 134 (some (.ref c) :: l) (.ref c :: st) h := q_in rfl rfl
theorem r144_134 : zR d 144 Q 134 (o0 :: o1 :: o2 :: some (.int x) :: l) st h = zR d 144 Q 135 (o0 :: o1 :: o2 :: some (.int x) :: l) (.int x :: st) h := q_in rfl rfl
theorem r144_135 : zR d 144 Q 135 lv st h = zR d 144 Q 136 lv (.int 4 :: st) h := q_in rfl rfl
set_option maxRecDepth 100000 in
theorem r144_136 : zR d 144 Q 136 (some (.ref c) :: l) st h = zR d 144 Q 137 (some (.ref c) :: l) (.ref c :: st) h := q_in rfl rfl
set_option maxRecDepth 100000 in
theorem r144_137 : zR d 144 Q 137 (o0 :: o1 :: o2 :: some (.int x) :: l) st h = zR d 144 Q 138 (o0 :: o1 :: o2 :: some (.int x) :: l) (.int x :: st) h := q_in rfl rfl
set_option maxRecDepth 100000 in
theorem r144_138 : zR d 144 Q 138 lv st h = zR d 144 Q 139 lv (.int 4 :: st) h := q_in rfl rfl
set_option maxRecDepth 100000 in
theorem r144_139 : zR d 144 Q 139 lv [.int x1, .int x0, .ref 60, .int y0, .int y1, .ref a2] h = zM d 113 [.ref 60, .int x0, .int x1] h (fun r h' => zR d 144 Q 142 lv (r.toList ++ [.int y0, .int y1, .ref a2]) h') := (q_clV rfl rfl (Nat.le_of_ble_eq_true rfl)).trans (zand_t ⟨rfl, Nat.le_of_ble_eq_true rfl⟩)
set_option maxRecDepth 100000 in
theorem r144_142 : zR d 144 Q 142 lv st h = zR d 144 Q 143 lv (.int 1 :: st) h := q_in rfl rfl
set_option maxRecDepth 100000 in
theorem r144_143 : zR d 144 Q 143 lv (.int z :: .int x :: st) h = zR d 144 Q 144 lv (.int (x + z) :: st) h := q_in rfl rfl
set_option maxRecDepth 100000 in
theorem r144_144 : zR d 144 Q 144 lv [.int x2, .int x1, .int x0, .ref 60] h = zM d 114 [.ref 60, .int x0, .int x1, .int x2] h (fun r h' => zR d 144 Q 147 lv (r.toList ++ []) h') := (q_clV rfl rfl (Nat.le_of_ble_eq_true rfl)).trans (zand_t ⟨rfl, Nat.le_of_ble_eq_true rfl⟩)
set_option maxRecDepth 100000 in
theorem r144_147 : zR d 144 Q 147 lv st h = zR d 144 Q 164 lv st h := q_in rfl rfl
set_option maxRecDepth 100000 in
theorem r144_150 : zR d 144 Q 150 (some (.ref c) :: l) st h = zR d 144 Q 151 (some (.ref c) :: l) (.ref c :: st) h := q_in rfl rfl
set_option maxRecDepth 100000 in
theorem r144_151 : zR d 144 Q 151 (o0 :: o1 :: o2 :: some (.int x) :: l) st h = zR d 144 Q 152 (o0 :: o1 :: o2 :: some (.int x) :: l) (.int x :: st) h := q_in rfl rfl
set_option maxRecDepth 100000 in
theorem r144_152 : zR d 144 Q 152 lv st h = zR d 144 Q 153 lv (.int 3 :: st) h := q_in rfl rfl
set_option maxRecDepth 100000 in
theorem r144_153 : zR d 144 Q 153 (some (.ref c) :: l) st h = zR d 144 Q 154 (some (.ref c) :: l) (.ref c :: st) h := q_in rfl rfl
set_option maxRecDepth 100000 in
theorem r144_154 : zR d 144 Q 154 (o0 :: o1 :: o2 :: some (.int x) :: l) st h = zR d 144 Q 155 (o0 :: o1 :: o2 :: some (.int x) :: l) (.int x :: st) h := q_in rfl rfl
set_option maxRecDepth 100000 in
theorem r144_155 : zR d 144 Q 155 lv st h = zR d 144 Q 156 lv (.int 3 :: st) h := q_in rfl rfl
set_option maxRecDepth 100000 in
theorem r144_156 : zR d 144 Q 156 lv [.int x1, .int x0, .ref 60, .int y0, .int y1, .ref a2] h = zM d 113 [.ref 60, .int x0, .int x1] h (fun r h' => zR d 144 Q 159 lv (r.toList ++ [.int y0, .int y1, .ref a2]) h') := (q_clV rfl rfl (Nat.le_of_ble_eq_true rfl)).trans (zand_t ⟨rfl, Nat.le_of_ble_eq_true rfl⟩)
set_option maxRecDepth 100000 in
theorem r144_159 : zR d 144 Q 159 (o0 :: some (.int x) :: l) st h = zR d 144 Q 160 (o0 :: some (.int x) :: l) (.int x :: st) h := q_in rfl rfl
set_option maxRecDepth 100000 in
theorem r144_160 : zR d 144 Q 160 lv (.int z :: .int x :: st) h = zR d 144 Q 161 lv (.int (x + z) :: st) h := q_in rfl rfl
set_option maxRecDepth 100000 in
theorem r144_161 : zR d 144 Q 161 lv [.int x2, .int x1, .int x0, .ref 60] h = zM d 114 [.ref 60, .int x0, .int x1, .int x2] h (fun r h' => zR d 144 Q 164 lv (r.toList ++ []) h') := (q_clV rfl rfl (Nat.le_of_ble_eq_true rfl)).trans (zand_t ⟨rfl, Nat.le_of_ble_eq_true rfl⟩)
set_option maxRecDepth 100000 in
theorem r144_164 : zR d 144 Q 164 (o0 :: o1 :: o2 :: some (.int x) :: l) st h = zR d 144 Q 167 (o0 :: o1 :: o2 :: some (.int (x + 1)) :: l) st h := q_in rfl rfl
set_option maxRecDepth 100000 in
theorem r144_167 : zR d 144 Q 167 lv st h = zR d 144 Q 94 lv st h := q_in rfl rfl
set_option maxRecDepth 100000 in
theorem r144_170 : zR d 144 Q 170 (some (.ref c) :: l) st h = zR d 144 Q 171 (some (.ref c) :: l) (.ref c :: st) h := q_in rfl rfl
set_option maxRecDepth 100000 in
theorem r144_171 : zR d 144 Q 171 lv (.ref 60 :: st) h = zR d 144 Q 174 lv (.ref 61 :: st) h := (q_and rfl rfl).trans (zand_t rfl)
set_option maxRecDepth 100000 in
theorem r144_174 : zR d 144 Q 174 lv st h = zR d 144 Q 176 lv (.int 9 :: st) h := q_in rfl rfl
set_option maxRecDepth 100000 in
theorem r144_176 : zR d 144 Q 176 (some (.ref c) :: l) st h = zR d 144 Q 177 (some (.ref c) :: l) (.ref c :: st) h := q_in rfl rfl
set_option maxRecDepth 100000 in
theorem r144_177 : zR d 144 Q 177 lv (.ref 60 :: st) h = zR d 144 Q 180 lv (.ref 61 :: st) h := (q_and rfl rfl).trans (zand_t rfl)
set_option maxRecDepth 100000 in
theorem r144_180 : zR d 144 Q 180 lv st h = zR d 144 Q 182 lv (.int 9 :: st) h := q_in rfl rfl
set_option maxRecDepth 100000 in
theorem r144_182 : zR d 144 Q 182 lv (.int x :: .ref c :: st) h = zal c x h (fun w => zR d 144 Q 183 lv (.int w :: st) h) := q_iald rfl
set_option maxRecDepth 100000 in
theorem r144_183 : zR d 144 Q 183 (some (.ref c) :: l) st h = zR d 144 Q 184 (some (.ref c) :: l) (.ref c :: st) h := q_in rfl rfl
set_option maxRecDepth 100000 in
theorem r144_184 : zR d 144 Q 184 lv [.ref 60, .int y0, .int y1, .ref a2] h = zM d 117 [.ref 60] h (fun r h' => zR d 144 Q 187 lv (r.toList ++ [.int y0, .int y1, .ref a2]) h') := (q_clV rfl rfl (Nat.le_of_ble_eq_true rfl)).trans (zand_t ⟨rfl, Nat.le_of_ble_eq_true rfl⟩)
set_option maxRecDepth 100000 in
theorem r144_187 : zR d 144 Q 187 lv st h = zR d 144 Q 189 lv (.int 7 :: st) h := q_in rfl rfl
set_option maxRecDepth 100000 in
theorem r144_189 : zR d 144 Q 189 lv (.int 7 :: .int x :: st) h = zR d 144 Q 190 lv (.int (x - x / 7 * 7) :: st) h := (q_and rfl rfl).trans (zand_t (by decide))
set_option maxRecDepth 100000 in
theorem r144_190 : zR d 144 Q 190 lv (.int z :: .int x :: st) h = zR d 144 Q 191 lv (.int (x + z) :: st) h := q_in rfl rfl
set_option maxRecDepth 100000 in
theorem r144_191 : zR d 144 Q 191 lv st h = zR d 144 Q 192 lv (.int 3 :: st) h := q_in rfl rfl
set_option maxRecDepth 100000 in
theorem r144_192 : zR d 144 Q 192 lv (.int z :: .int x :: st) h = zR d 144 Q 193 lv (.int (x - z) :: st) h := q_in rfl rfl
set_option maxRecDepth 100000 in
theorem r144_193 : zR d 144 Q 193 lv st h = zR d 144 Q 194 lv (.int 0 :: st) h := q_in rfl rfl
set_option maxRecDepth 100000 in
theorem r144_194 : zR d 144 Q 194 lv st h = zR d 144 Q 196 lv (.int 99 :: st) h := q_in rfl rfl
set_option maxRecDepth 100000 in
theorem r144_196 : zR d 144 Q 196 lv [.int x2, .int x1, .int x0, .int y0, .ref a1] h = zM d 108 [.int x0, .int x1, .int x2] h (fun r h' => zR d 144 Q 199 lv (r.toList ++ [.int y0, .ref a1]) h') := q_clS rfl rfl ⟨Nat.le_of_ble_eq_true rfl, Nat.le_of_ble_eq_true rfl⟩
set_option maxRecDepth 100000 in
theorem r144_199 : zR d 144 Q 199 lv (.int z :: .int x :: .ref c :: st) h = zas c x z h (fun h' => zR d 144 Q 200 lv st h') := q_iast rfl
set_option maxRecDepth 100000 in
theorem r144_200 : zR d 144 Q 200 (some (.ref c) :: l) st h = zR d 144 Q 201 (some (.ref c) :: l) (.ref c :: st) h := q_in rfl rfl
set_option maxRecDepth 100000 in
theorem r144_201 : zR d 144 Q 201 lv (.ref 60 :: st) h = zR d 144 Q 204 lv (.ref 61 :: st) h := (q_and rfl rfl).trans (zand_t rfl)
set_option maxRecDepth 100000 in
theorem r144_204 : zR d 144 Q 204 lv st h = zR d 144 Q 205 lv (.int 2 :: st) h := q_in rfl rfl
set_option maxRecDepth 100000 in
theorem r144_205 : zR d 144 Q 205 lv (.int x :: .ref c :: st) h = zR d 144 Q 206 lv (.int x :: .ref c :: .int x :: .ref c :: st) h := q_in rfl rfl
set_option maxRecDepth 100000 in
theorem r144_206 : zR d 144 Q 206 lv (.int x :: .ref c :: st) h = zal c x h (fun w => zR d 144 Q 207 lv (.int w :: st) h) := q_iald rfl
set_option maxRecDepth 100000 in
theorem r144_207 : zR d 144 Q 207 lv st h = zR d 144 Q 208 lv (.int 1 :: st) h := q_in rfl rfl
set_option maxRecDepth 100000 in
theorem r144_208 : zR d 144 Q 208 lv (.int z :: .int x :: st) h = zR d 144 Q 209 lv (.int (x + z) :: st) h := q_in rfl rfl
set_option maxRecDepth 100000 in
theorem r144_209 : zR d 144 Q 209 lv (.int z :: .int x :: .ref c :: st) h = zas c x z h (fun h' => zR d 144 Q 210 lv st h') := q_iast rfl
set_option maxRecDepth 100000 in
theorem r144_210 : zR d 144 Q 210 lv [] h = Q none h := q_ret rfl rfl
theorem r145_0 : zR d 145 Q 0 (o0 :: some (.int x) :: l) st h = zR d 145 Q 1 (o0 :: some (.int x) :: l) (.int x :: st) h := q_in rfl rfl
theorem r145_1 : zR d 145 Q 1 lv (.int x :: st) h = zR d 145 Q 2 lv (.long x.toInt64 :: st) h := q_in rfl rfl
theorem r145_2 : zR d 145 Q 2 lv st h = zR d 145 Q 3 lv (.long (Int32.toInt64 1) :: st) h := q_in rfl rfl
theorem r145_3 : zR d 145 Q 3 lv st h = zR d 145 Q 6 lv (.long (Int32.toInt64 100) :: st) h := q_in rfl rfl
theorem r145_6 : zR d 145 Q 6 lv [.long j2, .long j1, .long j0] h = zM d 106 [.long j0, .long j1, .long j2] h (fun r h' => zR d 145 Q 9 lv (r.toList ++ []) h') := q_clS rfl rfl ⟨Nat.le_of_ble_eq_true rfl, Nat.le_of_ble_eq_true rfl⟩
theorem r145_9 : zR d 145 Q 9 lv (.int x :: st) h = if x = 0 then zR d 145 Q 12 lv st h else zR d 145 Q 15 lv st h := q_if rfl rfl
theorem r145_12 : zR d 145 Q 12 lv st h = zR d 145 Q 14 lv (.int (-1000000001) :: st) h := q_in rfl rfl
theorem r145_14 : zR d 145 Q 14 lv [.int x] h = Q (some (.int x)) h := q_retz rfl rfl (Or.inl rfl)
theorem r145_15 : zR d 145 Q 15 (some (.ref c) :: l) st h = zR d 145 Q 16 (some (.ref c) :: l) (.ref c :: st) h := q_in rfl rfl
theorem r145_16 : zR d 145 Q 16 lv (.ref 60 :: st) h = zR d 145 Q 19 lv (.ref 61 :: st) h := (q_and rfl rfl).trans (zand_t rfl)
theorem r145_19 : zR d 145 Q 19 lv st h = zR d 145 Q 20 lv (.int 4 :: st) h := q_in rfl rfl
theorem r145_20 : zR d 145 Q 20 lv (.int x :: .ref c :: st) h = zal c x h (fun w => zR d 145 Q 21 lv (.int w :: st) h) := q_iald rfl
theorem r145_21 : zR d 145 Q 21 (o0 :: o1 :: o2 :: l) (.int x :: st) h = zR d 145 Q 22 (o0 :: o1 :: some (.int x) :: l) st h := q_in rfl rfl
theorem r145_22 : zR d 145 Q 22 lv st h = zR d 145 Q 23 lv (.int 0 :: st) h := q_in rfl rfl
theorem r145_23 : zR d 145 Q 23 (o0 :: o1 :: o2 :: o3 :: l) (.int x :: st) h = zR d 145 Q 24 (o0 :: o1 :: o2 :: some (.int x) :: l) st h := q_in rfl rfl
theorem r145_24 : zR d 145 Q 24 (o0 :: o1 :: o2 :: some (.int x) :: l) st h = zR d 145 Q 25 (o0 :: o1 :: o2 :: some (.int x) :: l) (.int x :: st) h := q_in rfl rfl
theorem r145_25 : zR d 145 Q 25 (o0 :: some (.int x) :: l) st h = zR d 145 Q 26 (o0 :: some (.int x) :: l) (.int x :: st) h := q_in rfl rfl
theorem r145_26 : zR d 145 Q 26 lv (.int z :: .int x :: st) h = if x < z then zR d 145 Q 29 lv st h else zR d 145 Q 51 lv st h := q_if rfl rfl
theorem r145_29 : zR d 145 Q 29 (some (.ref c) :: l) st h = zR d 145 Q 30 (some (.ref c) :: l) (.ref c :: st) h := q_in rfl rfl
theorem r145_30 : zR d 145 Q 30 lv (.ref 60 :: st) h = zR d 145 Q 33 lv (.ref 61 :: st) h := (q_and rfl rfl).trans (zand_t rfl)
theorem r145_33 : zR d 145 Q 33 lv st h = zR d 145 Q 34 lv (.int 2 :: st) h := q_in rfl rfl
theorem r145_34 : zR d 145 Q 34 lv (.int x :: .ref c :: st) h = zal c x h (fun w => zR d 145 Q 35 lv (.int w :: st) h) := q_iald rfl
theorem r145_35 : zR d 145 Q 35 lv st h = zR d 145 Q 38 lv (.int 9999 :: st) h := q_in rfl rfl
theorem r145_38 : zR d 145 Q 38 lv (.int z :: .int x :: st) h = if x < z then zR d 145 Q 41 lv st h else zR d 145 Q 51 lv st h := q_if rfl rfl
theorem r145_41 : zR d 145 Q 41 (some (.ref c) :: l) st h = zR d 145 Q 42 (some (.ref c) :: l) (.ref c :: st) h := q_in rfl rfl
theorem r145_42 : zR d 145 Q 42 lv [.ref 60] h = zM d 144 [.ref 60] h (fun r h' => zR d 145 Q 45 lv (r.toList ++ []) h') := (q_clV rfl rfl (Nat.le_of_ble_eq_true rfl)).trans (zand_t ⟨rfl, Nat.le_of_ble_eq_true rfl⟩)
theorem r145_45 : zR d 145 Q 45 (o0 :: o1 :: o2 :: some (.int x) :: l) st h = zR d 145 Q 48 (o0 :: o1 :: o2 :: some (.int (x + 1)) :: l) st h := q_in rfl rfl
theorem r145_48 : zR d 145 Q 48 lv st h = zR d 145 Q 24 lv st h := q_in rfl rfl
theorem r145_51 : zR d 145 Q 51 (some (.ref c) :: l) st h = zR d 145 Q 52 (some (.ref c) :: l) (.ref c :: st) h := q_in rfl rfl
theorem r145_52 : zR d 145 Q 52 lv (.ref 60 :: st) h = zR d 145 Q 55 lv (.ref 61 :: st) h := (q_and rfl rfl).trans (zand_t rfl)
theorem r145_55 : zR d 145 Q 55 lv st h = zR d 145 Q 56 lv (.int 4 :: st) h := q_in rfl rfl
theorem r145_56 : zR d 145 Q 56 lv (.int x :: .ref c :: st) h = zal c x h (fun w => zR d 145 Q 57 lv (.int w :: st) h) := q_iald rfl
theorem r145_57 : zR d 145 Q 57 (o0 :: o1 :: some (.int x) :: l) st h = zR d 145 Q 58 (o0 :: o1 :: some (.int x) :: l) (.int x :: st) h := q_in rfl rfl
theorem r145_58 : zR d 145 Q 58 lv (.int z :: .int x :: st) h = zR d 145 Q 59 lv (.int (x - z) :: st) h := q_in rfl rfl
theorem r145_59 : zR d 145 Q 59 lv [.int x] h = Q (some (.int x)) h := q_retz rfl rfl (Or.inl rfl)
theorem r146_0 : zR d 146 Q 0 lv st h = zR d 146 Q 1 lv (.int 0 :: st) h := q_in rfl rfl
theorem r146_1 : zR d 146 Q 1 (o0 :: o1 :: o2 :: l) (.int x :: st) h = zR d 146 Q 2 (o0 :: o1 :: some (.int x) :: l) st h := q_in rfl rfl
theorem r146_2 : zR d 146 Q 2 lv st h = zR d 146 Q 3 lv (.int 0 :: st) h := q_in rfl rfl
theorem r146_3 : zR d 146 Q 3 (o0 :: o1 :: o2 :: o3 :: l) (.int x :: st) h = zR d 146 Q 4 (o0 :: o1 :: o2 :: some (.int x) :: l) st h := q_in rfl rfl
theorem r146_4 : zR d 146 Q 4 (o0 :: o1 :: o2 :: some (.int x) :: l) st h = zR d 146 Q 5 (o0 :: o1 :: o2 :: some (.int x) :: l) (.int x :: st) h := q_in rfl rfl
theorem r146_5 : zR d 146 Q 5 (some (.ref c) :: l) st h = zR d 146 Q 6 (some (.ref c) :: l) (.ref c :: st) h := q_in rfl rfl
theorem r146_6 : zR d 146 Q 6 lv (.ref 60 :: st) h = zR d 146 Q 9 lv (.ref 61 :: st) h := (q_and rfl rfl).trans (zand_t rfl)
theorem r146_9 : zR d 146 Q 9 lv st h = zR d 146 Q 10 lv (.int 0 :: st) h := q_in rfl rfl
theorem r146_10 : zR d 146 Q 10 lv (.int x :: .ref c :: st) h = zal c x h (fun w => zR d 146 Q 11 lv (.int w :: st) h) := q_iald rfl
theorem r146_11 : zR d 146 Q 11 lv (.int z :: .int x :: st) h = if x < z then zR d 146 Q 14 lv st h else zR d 146 Q 29 lv st h := q_if rfl rfl
theorem r146_14 : zR d 146 Q 14 (o0 :: o1 :: some (.int x) :: l) st h = zR d 146 Q 15 (o0 :: o1 :: some (.int x) :: l) (.int x :: st) h := q_in rfl rfl
theorem r146_15 : zR d 146 Q 15 (some (.ref c) :: l) st h = zR d 146 Q 16 (some (.ref c) :: l) (.ref c :: st) h := q_in rfl rfl
theorem r146_16 : zR d 146 Q 16 (o0 :: o1 :: o2 :: some (.int x) :: l) st h = zR d 146 Q 17 (o0 :: o1 :: o2 :: some (.int x) :: l) (.int x :: st) h := q_in rfl rfl
theorem r146_17 : zR d 146 Q 17 (o0 :: some (.int x) :: l) st h = zR d 146 Q 18 (o0 :: some (.int x) :: l) (.int x :: st) h := q_in rfl rfl
theorem r146_18 : zR d 146 Q 18 lv [.int x1, .int x0, .ref 60, .int y0] h = zM d 113 [.ref 60, .int x0, .int x1] h (fun r h' => zR d 146 Q 21 lv (r.toList ++ [.int y0]) h') := (q_clV rfl rfl (Nat.le_of_ble_eq_true rfl)).trans (zand_t ⟨rfl, Nat.le_of_ble_eq_true rfl⟩)
theorem r146_21 : zR d 146 Q 21 lv (.int z :: .int x :: st) h = zR d 146 Q 22 lv (.int (x + z) :: st) h := q_in rfl rfl
theorem r146_22 : zR d 146 Q 22 (o0 :: o1 :: o2 :: l) (.int x :: st) h = zR d 146 Q 23 (o0 :: o1 :: some (.int x) :: l) st h := q_in rfl rfl
theorem r146_23 : zR d 146 Q 23 (o0 :: o1 :: o2 :: some (.int x) :: l) st h = zR d 146 Q 26 (o0 :: o1 :: o2 :: some (.int (x + 1)) :: l) st h := q_in rfl rfl
theorem r146_26 : zR d 146 Q 26 lv st h = zR d 146 Q 4 lv st h := q_in rfl rfl
theorem r146_29 : zR d 146 Q 29 (o0 :: o1 :: some (.int x) :: l) st h = zR d 146 Q 30 (o0 :: o1 :: some (.int x) :: l) (.int x :: st) h := q_in rfl rfl
theorem r146_30 : zR d 146 Q 30 lv [.int x] h = Q (some (.int x)) h := q_retz rfl rfl (Or.inl rfl)
theorem r147_0 : zR d 147 Q 0 (o0 :: some (.int x) :: l) st h = zR d 147 Q 1 (o0 :: some (.int x) :: l) (.int x :: st) h := q_in rfl rfl
theorem r147_1 : zR d 147 Q 1 lv (.int x :: st) h = if x = 0 then zR d 147 Q 32 lv st h else if x = 1 then zR d 147 Q 39 lv st h else if x = 2 then zR d 147 Q 46 lv st h else if x = 3 then zR d 147 Q 52 lv st h else zR d 147 Q 58 lv st h := (q_in rfl rfl).trans (by simp only [zsw, zR_ite])
theorem r147_32 : zR d 147 Q 32 (some (.ref c) :: l) st h = zR d 147 Q 33 (some (.ref c) :: l) (.ref c :: st) h := q_in rfl rfl
theorem r147_33 : zR d 147 Q 33 lv (.ref 60 :: st) h = zR d 147 Q 36 lv (.ref 61 :: st) h := (q_and rfl rfl).trans (zand_t rfl)
theorem r147_36 : zR d 147 Q 36 lv st h = zR d 147 Q 37 lv (.int 3 :: st) h := q_in rfl rfl
theorem r147_37 : zR d 147 Q 37 lv (.int x :: .ref c :: st) h = zal c x h (fun w => zR d 147 Q 38 lv (.int w :: st) h) := q_iald rfl
theorem r147_38 : zR d 147 Q 38 lv [.int x] h = Q (some (.int x)) h := q_retz rfl rfl (Or.inl rfl)
theorem r147_39 : zR d 147 Q 39 (some (.ref c) :: l) st h = zR d 147 Q 40 (some (.ref c) :: l) (.ref c :: st) h := q_in rfl rfl
theorem r147_40 : zR d 147 Q 40 lv (.ref 60 :: st) h = zR d 147 Q 43 lv (.ref 61 :: st) h := (q_and rfl rfl).trans (zand_t rfl)
theorem r147_43 : zR d 147 Q 43 lv st h = zR d 147 Q 44 lv (.int 4 :: st) h := q_in rfl rfl
theorem r147_44 : zR d 147 Q 44 lv (.int x :: .ref c :: st) h = zal c x h (fun w => zR d 147 Q 45 lv (.int w :: st) h) := q_iald rfl
theorem r147_45 : zR d 147 Q 45 lv [.int x] h = Q (some (.int x)) h := q_retz rfl rfl (Or.inl rfl)
theorem r147_46 : zR d 147 Q 46 (some (.ref c) :: l) st h = zR d 147 Q 47 (some (.ref c) :: l) (.ref c :: st) h := q_in rfl rfl
theorem r147_47 : zR d 147 Q 47 lv st h = zR d 147 Q 48 lv (.int 3 :: st) h := q_in rfl rfl
theorem r147_48 : zR d 147 Q 48 lv [.int x0, .ref 60] h = zM d 146 [.ref 60, .int x0] h (fun r h' => zR d 147 Q 51 lv (r.toList ++ []) h') := (q_clV rfl rfl (Nat.le_of_ble_eq_true rfl)).trans (zand_t ⟨rfl, Nat.le_of_ble_eq_true rfl⟩)
theorem r147_51 : zR d 147 Q 51 lv [.int x] h = Q (some (.int x)) h := q_retz rfl rfl (Or.inl rfl)
theorem r147_52 : zR d 147 Q 52 (some (.ref c) :: l) st h = zR d 147 Q 53 (some (.ref c) :: l) (.ref c :: st) h := q_in rfl rfl
theorem r147_53 : zR d 147 Q 53 lv st h = zR d 147 Q 54 lv (.int 4 :: st) h := q_in rfl rfl
theorem r147_54 : zR d 147 Q 54 lv [.int x0, .ref 60] h = zM d 146 [.ref 60, .int x0] h (fun r h' => zR d 147 Q 57 lv (r.toList ++ []) h') := (q_clV rfl rfl (Nat.le_of_ble_eq_true rfl)).trans (zand_t ⟨rfl, Nat.le_of_ble_eq_true rfl⟩)
theorem r147_57 : zR d 147 Q 57 lv [.int x] h = Q (some (.int x)) h := q_retz rfl rfl (Or.inl rfl)
theorem r147_58 : zR d 147 Q 58 lv st h = zR d 147 Q 60 lv (.int (-1000000001) :: st) h := q_in rfl rfl
theorem r147_60 : zR d 147 Q 60 lv [.int x] h = Q (some (.int x)) h := q_retz rfl rfl (Or.inl rfl)
theorem r148_0 : zR d 148 Q 0 (some (.ref c) :: l) st h = zR d 148 Q 1 (some (.ref c) :: l) (.ref c :: st) h := q_in rfl rfl
theorem r148_1 : zR d 148 Q 1 lv (.ref 60 :: st) h = zR d 148 Q 4 lv (.ref 61 :: st) h := (q_and rfl rfl).trans (zand_t rfl)
theorem r148_4 : zR d 148 Q 4 lv st h = zR d 148 Q 6 lv (.int 9 :: st) h := q_in rfl rfl
theorem r148_6 : zR d 148 Q 6 lv (.int x :: .ref c :: st) h = zal c x h (fun w => zR d 148 Q 7 lv (.int w :: st) h) := q_iald rfl
theorem r148_7 : zR d 148 Q 7 (o0 :: o1 :: l) (.int x :: st) h = zR d 148 Q 8 (o0 :: some (.int x) :: l) st h := q_in rfl rfl
theorem r148_8 : zR d 148 Q 8 lv st h = zR d 148 Q 9 lv (.int (-1) :: st) h := q_in rfl rfl
theorem r148_9 : zR d 148 Q 9 (o0 :: o1 :: o2 :: l) (.int x :: st) h = zR d 148 Q 10 (o0 :: o1 :: some (.int x) :: l) st h := q_in rfl rfl
theorem r148_10 : zR d 148 Q 10 lv st h = zR d 148 Q 12 lv (.int 99 :: st) h := q_in rfl rfl
theorem r148_12 : zR d 148 Q 12 (o0 :: o1 :: o2 :: o3 :: l) (.int x :: st) h = zR d 148 Q 13 (o0 :: o1 :: o2 :: some (.int x) :: l) st h := q_in rfl rfl
theorem r148_13 : zR d 148 Q 13 (o0 :: o1 :: o2 :: some (.int x) :: l) st h = zR d 148 Q 14 (o0 :: o1 :: o2 :: some (.int x) :: l) (.int x :: st) h := q_in rfl rfl
theorem r148_14 : zR d 148 Q 14 lv (.int x :: st) h = if x < 0 then zR d 148 Q 52 lv st h else zR d 148 Q 17 lv st h := q_if rfl rfl
theorem r148_17 : zR d 148 Q 17 (some (.ref c) :: l) st h = zR d 148 Q 18 (some (.ref c) :: l) (.ref c :: st) h := q_in rfl rfl
theorem r148_18 : zR d 148 Q 18 lv (.ref 60 :: st) h = zR d 148 Q 21 lv (.ref 61 :: st) h := (q_and rfl rfl).trans (zand_t rfl)
theorem r148_21 : zR d 148 Q 21 lv st h = zR d 148 Q 23 lv (.int 9 :: st) h := q_in rfl rfl
theorem r148_23 : zR d 148 Q 23 (o0 :: o1 :: o2 :: some (.int x) :: l) st h = zR d 148 Q 24 (o0 :: o1 :: o2 :: some (.int x) :: l) (.int x :: st) h := q_in rfl rfl
theorem r148_24 : zR d 148 Q 24 lv (.int z :: .int x :: .ref c :: st) h = zas c x z h (fun h' => zR d 148 Q 25 lv st h') := q_iast rfl
theorem r148_25 : zR d 148 Q 25 (some (.ref c) :: l) st h = zR d 148 Q 26 (some (.ref c) :: l) (.ref c :: st) h := q_in rfl rfl
theorem r148_26 : zR d 148 Q 26 lv st h = zR d 148 Q 27 lv (.int 0 :: st) h := q_in rfl rfl
theorem r148_27 : zR d 148 Q 27 lv [.int x0, .ref 60] h = zM d 134 [.ref 60, .int x0] h (fun r h' => zR d 148 Q 30 lv (r.toList ++ []) h') := (q_clV rfl rfl (Nat.le_of_ble_eq_true rfl)).trans (zand_t ⟨rfl, Nat.le_of_ble_eq_true rfl⟩)
theorem r148_30 : zR d 148 Q 30 (some (.ref c) :: l) st h = zR d 148 Q 31 (some (.ref c) :: l) (.ref c :: st) h := q_in rfl rfl
theorem r148_31 : zR d 148 Q 31 lv (.ref 60 :: st) h = zR d 148 Q 34 lv (.ref 61 :: st) h := (q_and rfl rfl).trans (zand_t rfl)
theorem r148_34 : zR d 148 Q 34 lv st h = zR d 148 Q 36 lv (.int 10 :: st) h := q_in rfl rfl
theorem r148_36 : zR d 148 Q 36 lv (.int x :: .ref c :: st) h = zal c x h (fun w => zR d 148 Q 37 lv (.int w :: st) h) := q_iald rfl
theorem r148_37 : zR d 148 Q 37 lv (.int z :: .int x :: st) h = if x ≤ z then zR d 148 Q 44 lv st h else zR d 148 Q 40 lv st h := q_if rfl rfl
theorem r148_40 : zR d 148 Q 40 (o0 :: o1 :: o2 :: some (.int x) :: l) st h = zR d 148 Q 41 (o0 :: o1 :: o2 :: some (.int x) :: l) (.int x :: st) h := q_in rfl rfl
theorem r148_41 : zR d 148 Q 41 lv st h = zR d 148 Q 45 lv st h := q_in rfl rfl
theorem r148_44 : zR d 148 Q 44 (o0 :: o1 :: some (.int x) :: l) st h = zR d 148 Q 45 (o0 :: o1 :: some (.int x) :: l) (.int x :: st) h := q_in rfl rfl
theorem r148_45 : zR d 148 Q 45 (o0 :: o1 :: o2 :: l) (.int x :: st) h = zR d 148 Q 46 (o0 :: o1 :: some (.int x) :: l) st h := q_in rfl rfl
theorem r148_46 : zR d 148 Q 46 (o0 :: o1 :: o2 :: some (.int x) :: l) st h = zR d 148 Q 49 (o0 :: o1 :: o2 :: some (.int (x + (-1))) :: l) st h := q_in rfl rfl
theorem r148_49 : zR d 148 Q 49 lv st h = zR d 148 Q 13 lv st h := q_in rfl rfl
theorem r148_52 : zR d 148 Q 52 (some (.ref c) :: l) st h = zR d 148 Q 53 (some (.ref c) :: l) (.ref c :: st) h := q_in rfl rfl
theorem r148_53 : zR d 148 Q 53 lv (.ref 60 :: st) h = zR d 148 Q 56 lv (.ref 61 :: st) h := (q_and rfl rfl).trans (zand_t rfl)
theorem r148_56 : zR d 148 Q 56 lv st h = zR d 148 Q 58 lv (.int 9 :: st) h := q_in rfl rfl
theorem r148_58 : zR d 148 Q 58 (o0 :: some (.int x) :: l) st h = zR d 148 Q 59 (o0 :: some (.int x) :: l) (.int x :: st) h := q_in rfl rfl
theorem r148_59 : zR d 148 Q 59 lv (.int z :: .int x :: .ref c :: st) h = zas c x z h (fun h' => zR d 148 Q 60 lv st h') := q_iast rfl
theorem r148_60 : zR d 148 Q 60 (o0 :: o1 :: some (.int x) :: l) st h = zR d 148 Q 61 (o0 :: o1 :: some (.int x) :: l) (.int x :: st) h := q_in rfl rfl
theorem r148_61 : zR d 148 Q 61 lv [.int x0] h = zM d 107 [.int x0] h (fun r h' => zR d 148 Q 64 lv (r.toList ++ []) h') := q_clS rfl rfl ⟨Nat.le_of_ble_eq_true rfl, Nat.le_of_ble_eq_true rfl⟩
theorem r148_64 : zR d 148 Q 64 lv [.int x] h = Q (some (.int x)) h := q_retz rfl rfl (Or.inl rfl)
theorem r149_0 : zR d 149 Q 0 (o0 :: some (.int x) :: l) st h = zR d 149 Q 1 (o0 :: some (.int x) :: l) (.int x :: st) h := q_in rfl rfl
theorem r149_1 : zR d 149 Q 1 lv (.int x :: st) h = zR d 149 Q 2 lv (.long x.toInt64 :: st) h := q_in rfl rfl
theorem r149_2 : zR d 149 Q 2 lv st h = zR d 149 Q 3 lv (.long (Int32.toInt64 0) :: st) h := q_in rfl rfl
theorem r149_3 : zR d 149 Q 3 lv st h = zR d 149 Q 4 lv (.long (Int32.toInt64 1) :: st) h := q_in rfl rfl
theorem r149_4 : zR d 149 Q 4 lv [.long j2, .long j1, .long j0] h = zM d 106 [.long j0, .long j1, .long j2] h (fun r h' => zR d 149 Q 7 lv (r.toList ++ []) h') := q_clS rfl rfl ⟨Nat.le_of_ble_eq_true rfl, Nat.le_of_ble_eq_true rfl⟩
theorem r149_7 : zR d 149 Q 7 lv (.int x :: st) h = if x = 0 then zR d 149 Q 10 lv st h else zR d 149 Q 13 lv st h := q_if rfl rfl
theorem r149_10 : zR d 149 Q 10 lv st h = zR d 149 Q 12 lv (.int (-1000000001) :: st) h := q_in rfl rfl
theorem r149_12 : zR d 149 Q 12 lv [.int x] h = Q (some (.int x)) h := q_retz rfl rfl (Or.inl rfl)
theorem r149_13 : zR d 149 Q 13 lv st h = zR d 149 Q 14 lv (.int 0 :: st) h := q_in rfl rfl
theorem r149_14 : zR d 149 Q 14 (o0 :: o1 :: o2 :: l) (.int x :: st) h = zR d 149 Q 15 (o0 :: o1 :: some (.int x) :: l) st h := q_in rfl rfl
theorem r149_15 : zR d 149 Q 15 lv st h = zR d 149 Q 16 lv (.int 0 :: st) h := q_in rfl rfl
theorem r149_16 : zR d 149 Q 16 (o0 :: o1 :: o2 :: o3 :: l) (.int x :: st) h = zR d 149 Q 17 (o0 :: o1 :: o2 :: some (.int x) :: l) st h := q_in rfl rfl
theorem r149_17 : zR d 149 Q 17 (o0 :: o1 :: o2 :: some (.int x) :: l) st h = zR d 149 Q 18 (o0 :: o1 :: o2 :: some (.int x) :: l) (.int x :: st) h := q_in rfl rfl
theorem r149_18 : zR d 149 Q 18 (some (.ref c) :: l) st h = zR d 149 Q 19 (some (.ref c) :: l) (.ref c :: st) h := q_in rfl rfl
theorem r149_19 : zR d 149 Q 19 lv (.ref 60 :: st) h = zR d 149 Q 22 lv (.ref 61 :: st) h := (q_and rfl rfl).trans (zand_t rfl)
theorem r149_22 : zR d 149 Q 22 lv st h = zR d 149 Q 23 lv (.int 0 :: st) h := q_in rfl rfl
theorem r149_23 : zR d 149 Q 23 lv (.int x :: .ref c :: st) h = zal c x h (fun w => zR d 149 Q 24 lv (.int w :: st) h) := q_iald rfl
theorem r149_24 : zR d 149 Q 24 lv (.int z :: .int x :: st) h = if x < z then zR d 149 Q 27 lv st h else zR d 149 Q 70 lv st h := q_if rfl rfl
theorem r149_27 : zR d 149 Q 27 (some (.ref c) :: l) st h = zR d 149 Q 28 (some (.ref c) :: l) (.ref c :: st) h := q_in rfl rfl
theorem r149_28 : zR d 149 Q 28 lv (.ref 60 :: st) h = zR d 149 Q 31 lv (.ref 72 :: st) h := (q_and rfl rfl).trans (zand_t rfl)
theorem r149_31 : zR d 149 Q 31 (o0 :: o1 :: o2 :: some (.int x) :: l) st h = zR d 149 Q 32 (o0 :: o1 :: o2 :: some (.int x) :: l) (.int x :: st) h := q_in rfl rfl
theorem r149_32 : zR d 149 Q 32 (some (.ref c) :: l) st h = zR d 149 Q 33 (some (.ref c) :: l) (.ref c :: st) h := q_in rfl rfl
theorem r149_33 : zR d 149 Q 33 (o0 :: o1 :: o2 :: some (.int x) :: l) st h = zR d 149 Q 34 (o0 :: o1 :: o2 :: some (.int x) :: l) (.int x :: st) h := q_in rfl rfl
theorem r149_34 : zR d 149 Q 34 lv [.int x0, .ref 60, .int y0, .ref a1] h = zM d 120 [.ref 60, .int x0] h (fun r h' => zR d 149 Q 37 lv (r.toList ++ [.int y0, .ref a1]) h') := (q_clV rfl rfl (Nat.le_of_ble_eq_true rfl)).trans (zand_t ⟨rfl, Nat.le_of_ble_eq_true rfl⟩)
theorem r149_37 : zR d 149 Q 37 lv (.int z :: .int x :: .ref c :: st) h = zas c x z h (fun h' => zR d 149 Q 38 lv st h') := q_iast rfl
theorem r149_38 : zR d 149 Q 38 (o0 :: o1 :: some (.int x) :: l) st h = zR d 149 Q 39 (o0 :: o1 :: some (.int x) :: l) (.int x :: st) h := q_in rfl rfl
theorem r149_39 : zR d 149 Q 39 (some (.ref c) :: l) st h = zR d 149 Q 40 (some (.ref c) :: l) (.ref c :: st) h := q_in rfl rfl
theorem r149_40 : zR d 149 Q 40 (o0 :: o1 :: o2 :: some (.int x) :: l) st h = zR d 149 Q 41 (o0 :: o1 :: o2 :: some (.int x) :: l) (.int x :: st) h := q_in rfl rfl
theorem r149_41 : zR d 149 Q 41 lv st h = zR d 149 Q 42 lv (.int 2 :: st) h := q_in rfl rfl
theorem r149_42 : zR d 149 Q 42 lv [.int x1, .int x0, .ref 60, .int y0] h = zM d 113 [.ref 60, .int x0, .int x1] h (fun r h' => zR d 149 Q 45 lv (r.toList ++ [.int y0]) h') := (q_clV rfl rfl (Nat.le_of_ble_eq_true rfl)).trans (zand_t ⟨rfl, Nat.le_of_ble_eq_true rfl⟩)
theorem r149_45 : zR d 149 Q 45 (some (.ref c) :: l) st h = zR d 149 Q 46 (some (.ref c) :: l) (.ref c :: st) h := q_in rfl rfl
theorem r149_46 : zR d 149 Q 46 lv (.ref 60 :: st) h = zR d 149 Q 49 lv (.ref 61 :: st) h := (q_and rfl rfl).trans (zand_t rfl)
theorem r149_49 : zR d 149 Q 49 lv st h = zR d 149 Q 51 lv (.int 6 :: st) h := q_in rfl rfl
theorem r149_51 : zR d 149 Q 51 lv (.int x :: .ref c :: st) h = zal c x h (fun w => zR d 149 Q 52 lv (.int w :: st) h) := q_iald rfl
theorem r149_52 : zR d 149 Q 52 lv (.int z :: .int x :: st) h = if x = z then zR d 149 Q 55 lv st h else zR d 149 Q 61 lv st h := q_if rfl rfl
theorem r149_55 : zR d 149 Q 55 lv st h = zR d 149 Q 56 lv (.int 1 :: st) h := q_in rfl rfl
theorem r149_56 : zR d 149 Q 56 (o0 :: o1 :: o2 :: some (.int x) :: l) st h = zR d 149 Q 57 (o0 :: o1 :: o2 :: some (.int x) :: l) (.int x :: st) h := q_in rfl rfl
theorem r149_57 : zR d 149 Q 57 lv (.int z :: .int x :: st) h = zR d 149 Q 58 lv (.int (x <<< (z &&& 31)) :: st) h := q_in rfl rfl
theorem r149_58 : zR d 149 Q 58 lv st h = zR d 149 Q 62 lv st h := q_in rfl rfl
theorem r149_61 : zR d 149 Q 61 lv st h = zR d 149 Q 62 lv (.int 0 :: st) h := q_in rfl rfl
theorem r149_62 : zR d 149 Q 62 lv (.int z :: .int x :: st) h = zR d 149 Q 63 lv (.int (x ||| z) :: st) h := q_in rfl rfl
theorem r149_63 : zR d 149 Q 63 (o0 :: o1 :: o2 :: l) (.int x :: st) h = zR d 149 Q 64 (o0 :: o1 :: some (.int x) :: l) st h := q_in rfl rfl
theorem r149_64 : zR d 149 Q 64 (o0 :: o1 :: o2 :: some (.int x) :: l) st h = zR d 149 Q 67 (o0 :: o1 :: o2 :: some (.int (x + 1)) :: l) st h := q_in rfl rfl
theorem r149_67 : zR d 149 Q 67 lv st h = zR d 149 Q 17 lv st h := q_in rfl rfl
theorem r149_70 : zR d 149 Q 70 lv st h = zR d 149 Q 71 lv (.int (-1) :: st) h := q_in rfl rfl
theorem r149_71 : zR d 149 Q 71 (o0 :: o1 :: o2 :: o3 :: l) (.int x :: st) h = zR d 149 Q 72 (o0 :: o1 :: o2 :: some (.int x) :: l) st h := q_in rfl rfl
theorem r149_72 : zR d 149 Q 72 lv st h = zR d 149 Q 73 lv (.int 0 :: st) h := q_in rfl rfl
theorem r149_73 : zR d 149 Q 73 (o0 :: o1 :: o2 :: o3 :: o4 :: l) (.int x :: st) h = zR d 149 Q 75 (o0 :: o1 :: o2 :: o3 :: some (.int x) :: l) st h := q_in rfl rfl
theorem r149_75 : zR d 149 Q 75 lv st h = zR d 149 Q 76 lv (.int 0 :: st) h := q_in rfl rfl
theorem r149_76 : zR d 149 Q 76 (o0 :: o1 :: o2 :: o3 :: o4 :: o5 :: l) (.int x :: st) h = zR d 149 Q 78 (o0 :: o1 :: o2 :: o3 :: o4 :: some (.int x) :: l) st h := q_in rfl rfl
theorem r149_78 : zR d 149 Q 78 (o0 :: o1 :: o2 :: o3 :: o4 :: some (.int x) :: l) st h = zR d 149 Q 80 (o0 :: o1 :: o2 :: o3 :: o4 :: some (.int x) :: l) (.int x :: st) h := q_in rfl rfl
theorem r149_80 : zR d 149 Q 80 lv st h = zR d 149 Q 81 lv (.int 1 :: st) h := q_in rfl rfl
theorem r149_81 : zR d 149 Q 81 (some (.ref c) :: l) st h = zR d 149 Q 82 (some (.ref c) :: l) (.ref c :: st) h := q_in rfl rfl
theorem r149_82 : zR d 149 Q 82 lv (.ref 60 :: st) h = zR d 149 Q 85 lv (.ref 61 :: st) h := (q_and rfl rfl).trans (zand_t rfl)
theorem r149_85 : zR d 149 Q 85 lv st h = zR d 149 Q 86 lv (.int 0 :: st) h := q_in rfl rfl
theorem r149_86 : zR d 149 Q 86 lv (.int x :: .ref c :: st) h = zal c x h (fun w => zR d 149 Q 87 lv (.int w :: st) h) := q_iald rfl
theorem r149_87 : zR d 149 Q 87 lv (.int z :: .int x :: st) h = zR d 149 Q 88 lv (.int (x <<< (z &&& 31)) :: st) h := q_in rfl rfl
theorem r149_88 : zR d 149 Q 88 lv (.int z :: .int x :: st) h = if x < z then zR d 149 Q 91 lv st h else zR d 149 Q 292 lv st h := q_if rfl rfl
theorem r149_91 : zR d 149 Q 91 lv st h = zR d 149 Q 92 lv (.int 0 :: st) h := q_in rfl rfl
theorem r149_92 : zR d 149 Q 92 (o0 :: o1 :: o2 :: o3 :: o4 :: o5 :: o6 :: l) (.int x :: st) h = zR d 149 Q 94 (o0 :: o1 :: o2 :: o3 :: o4 :: o5 :: some (.int x) :: l) st h := q_in rfl rfl
theorem r149_94 : zR d 149 Q 94 lv st h = zR d 149 Q 95 lv (.int 0 :: st) h := q_in rfl rfl
theorem r149_95 : zR d 149 Q 95 (o0 :: o1 :: o2 :: o3 :: o4 :: o5 :: o6 :: o7 :: l) (.int x :: st) h = zR d 149 Q 97 (o0 :: o1 :: o2 :: o3 :: o4 :: o5 :: o6 :: some (.int x) :: l) st h := q_in rfl rfl
theorem r149_97 : zR d 149 Q 97 lv st h = zR d 149 Q 98 lv (.int 0 :: st) h := q_in rfl rfl
theorem r149_98 : zR d 149 Q 98 (o0 :: o1 :: o2 :: o3 :: o4 :: o5 :: o6 :: o7 :: o8 :: l) (.int x :: st) h = zR d 149 Q 100 (o0 :: o1 :: o2 :: o3 :: o4 :: o5 :: o6 :: o7 :: some (.int x) :: l) st h := q_in rfl rfl
theorem r149_100 : zR d 149 Q 100 lv st h = zR d 149 Q 101 lv (.int 0 :: st) h := q_in rfl rfl
theorem r149_101 : zR d 149 Q 101 (o0 :: o1 :: o2 :: o3 :: o4 :: o5 :: o6 :: o7 :: o8 :: o9 :: l) (.int x :: st) h = zR d 149 Q 103 (o0 :: o1 :: o2 :: o3 :: o4 :: o5 :: o6 :: o7 :: o8 :: some (.int x) :: l) st h := q_in rfl rfl
theorem r149_103 : zR d 149 Q 103 (o0 :: o1 :: o2 :: o3 :: o4 :: o5 :: o6 :: o7 :: o8 :: some (.int x) :: l) st h = zR d 149 Q 105 (o0 :: o1 :: o2 :: o3 :: o4 :: o5 :: o6 :: o7 :: o8 :: some (.int x) :: l) (.int x :: st) h := q_in rfl rfl
theorem r149_105 : zR d 149 Q 105 (some (.ref c) :: l) st h = zR d 149 Q 106 (some (.ref c) :: l) (.ref c :: st) h := q_in rfl rfl
theorem r149_106 : zR d 149 Q 106 lv (.ref 60 :: st) h = zR d 149 Q 109 lv (.ref 61 :: st) h := (q_and rfl rfl).trans (zand_t rfl)
theorem r149_109 : zR d 149 Q 109 lv st h = zR d 149 Q 110 lv (.int 0 :: st) h := q_in rfl rfl
theorem r149_110 : zR d 149 Q 110 lv (.int x :: .ref c :: st) h = zal c x h (fun w => zR d 149 Q 111 lv (.int w :: st) h) := q_iald rfl
theorem r149_111 : zR d 149 Q 111 lv (.int z :: .int x :: st) h = if x < z then zR d 149 Q 114 lv st h else zR d 149 Q 200 lv st h := q_if rfl rfl
theorem r149_114 : zR d 149 Q 114 (o0 :: o1 :: o2 :: o3 :: o4 :: some (.int x) :: l) st h = zR d 149 Q 116 (o0 :: o1 :: o2 :: o3 :: o4 :: some (.int x) :: l) (.int x :: st) h := q_in rfl rfl
theorem r149_116 : zR d 149 Q 116 (o0 :: o1 :: o2 :: o3 :: o4 :: o5 :: o6 :: o7 :: o8 :: some (.int x) :: l) st h = zR d 149 Q 118 (o0 :: o1 :: o2 :: o3 :: o4 :: o5 :: o6 :: o7 :: o8 :: some (.int x) :: l) (.int x :: st) h := q_in rfl rfl
theorem r149_118 : zR d 149 Q 118 lv (.int z :: .int x :: st) h = zR d 149 Q 119 lv (.int (x >>> (z &&& 31)) :: st) h := q_in rfl rfl
theorem r149_119 : zR d 149 Q 119 lv st h = zR d 149 Q 120 lv (.int 1 :: st) h := q_in rfl rfl
theorem r149_120 : zR d 149 Q 120 lv (.int z :: .int x :: st) h = zR d 149 Q 121 lv (.int (x &&& z) :: st) h := q_in rfl rfl
theorem r149_121 : zR d 149 Q 121 lv st h = zR d 149 Q 122 lv (.int 1 :: st) h := q_in rfl rfl
theorem r149_122 : zR d 149 Q 122 lv (.int z :: .int x :: st) h = if x = z then zR d 149 Q 125 lv st h else zR d 149 Q 129 lv st h := q_if rfl rfl
theorem r149_125 : zR d 149 Q 125 lv st h = zR d 149 Q 126 lv (.int 1 :: st) h := q_in rfl rfl
theorem r149_126 : zR d 149 Q 126 lv st h = zR d 149 Q 130 lv st h := q_in rfl rfl
theorem r149_129 : zR d 149 Q 129 lv st h = zR d 149 Q 130 lv (.int 0 :: st) h := q_in rfl rfl
theorem r149_130 : zR d 149 Q 130 (o0 :: o1 :: o2 :: o3 :: o4 :: o5 :: o6 :: o7 :: o8 :: o9 :: o10 :: l) (.int x :: st) h = zR d 149 Q 132 (o0 :: o1 :: o2 :: o3 :: o4 :: o5 :: o6 :: o7 :: o8 :: o9 :: some (.int x) :: l) st h := q_in rfl rfl
theorem r149_132 : zR d 149 Q 132 (o0 :: o1 :: o2 :: o3 :: o4 :: o5 :: some (.int x) :: l) st h = zR d 149 Q 134 (o0 :: o1 :: o2 :: o3 :: o4 :: o5 :: some (.int x) :: l) (.int x :: st) h := q_in rfl rfl
theorem r149_134 : zR d 149 Q 134 (o0 :: o1 :: o2 :: o3 :: o4 :: o5 :: o6 :: o7 :: o8 :: o9 :: some (.int x) :: l) st h = zR d 149 Q 136 (o0 :: o1 :: o2 :: o3 :: o4 :: o5 :: o6 :: o7 :: o8 :: o9 :: some (.int x) :: l) (.int x :: st) h := q_in rfl rfl
theorem r149_136 : zR d 149 Q 136 lv (.int x :: st) h = if x = 0 then zR d 149 Q 148 lv st h else zR d 149 Q 139 lv st h := q_if rfl rfl
theorem r149_139 : zR d 149 Q 139 (some (.ref c) :: l) st h = zR d 149 Q 140 (some (.ref c) :: l) (.ref c :: st) h := q_in rfl rfl
theorem r149_140 : zR d 149 Q 140 (o0 :: o1 :: o2 :: o3 :: o4 :: o5 :: o6 :: o7 :: o8 :: some (.int x) :: l) st h = zR d 149 Q 142 (o0 :: o1 :: o2 :: o3 :: o4 :: o5 :: o6 :: o7 :: o8 :: some (.int x) :: l) (.int x :: st) h := q_in rfl rfl
theorem r149_142 : zR d 149 Q 142 lv [.int x0, .ref 60, .int y0] h = zM d 121 [.ref 60, .int x0] h (fun r h' => zR d 149 Q 145 lv (r.toList ++ [.int y0]) h') := (q_clV rfl rfl (Nat.le_of_ble_eq_true rfl)).trans (zand_t ⟨rfl, Nat.le_of_ble_eq_true rfl⟩)
theorem r149_145 : zR d 149 Q 145 lv st h = zR d 149 Q 149 lv st h := q_in rfl rfl
theorem r149_148 : zR d 149 Q 148 lv st h = zR d 149 Q 149 lv (.int 0 :: st) h := q_in rfl rfl
set_option maxRecDepth 100000 in
theorem r149_149 : zR d 149 Q 149 lv (.int z :: .int x :: st) h = zR d 149 Q 150 lv (.int (x + z) :: st) h := q_in rfl rfl
set_option maxRecDepth 100000 in
theorem r149_150 : zR d 149 Q 150 (o0 :: o1 :: o2 :: o3 :: o4 :: o5 :: o6 :: l) (.int x :: st) h = zR d 149 Q 152 (o0 :: o1 :: o2 :: o3 :: o4 :: o5 :: some (.int x) :: l) st h := q_in rfl rfl
set_option maxRecDepth 100000 in
theorem r149_152 : zR d 149 Q 152 (o0 :: o1 :: o2 :: o3 :: o4 :: o5 :: o6 :: some (.int x) :: l) st h = zR d 149 Q 154 (o0 :: o1 :: o2 :: o3 :: o4 :: o5 :: o6 :: some (.int x) :: l) (.int x :: st) h := q_in rfl rfl
set_option maxRecDepth 100000 in
theorem r149_154 : zR d 149 Q 154 (o0 :: o1 :: o2 :: o3 :: o4 :: o5 :: o6 :: o7 :: o8 :: o9 :: some (.int x) :: l) st h = zR d 149 Q 156 (o0 :: o1 :: o2 :: o3 :: o4 :: o5 :: o6 :: o7 :: o8 :: o9 :: some (.int x) :: l) (.int x :: st) h := q_in rfl rfl
set_option maxRecDepth 100000 in
theorem r149_156 : zR d 149 Q 156 lv (.int x :: st) h = if x = 0 then zR d 149 Q 169 lv st h else zR d 149 Q 159 lv st h := q_if rfl rfl
set_option maxRecDepth 100000 in
theorem r149_159 : zR d 149 Q 159 (some (.ref c) :: l) st h = zR d 149 Q 160 (some (.ref c) :: l) (.ref c :: st) h := q_in rfl rfl
set_option maxRecDepth 100000 in
theorem r149_160 : zR d 149 Q 160 (o0 :: o1 :: o2 :: o3 :: o4 :: o5 :: o6 :: o7 :: o8 :: some (.int x) :: l) st h = zR d 149 Q 162 (o0 :: o1 :: o2 :: o3 :: o4 :: o5 :: o6 :: o7 :: o8 :: some (.int x) :: l) (.int x :: st) h := q_in rfl rfl
set_option maxRecDepth 100000 in
theorem r149_162 : zR d 149 Q 162 lv st h = zR d 149 Q 163 lv (.int 1 :: st) h := q_in rfl rfl
set_option maxRecDepth 100000 in
theorem r149_163 : zR d 149 Q 163 lv [.int x1, .int x0, .ref 60, .int y0] h = zM d 113 [.ref 60, .int x0, .int x1] h (fun r h' => zR d 149 Q 166 lv (r.toList ++ [.int y0]) h') := (q_clV rfl rfl (Nat.le_of_ble_eq_true rfl)).trans (zand_t ⟨rfl, Nat.le_of_ble_eq_true rfl⟩)
set_option maxRecDepth 100000 in
theorem r149_166 : zR d 149 Q 166 lv st h = zR d 149 Q 170 lv st h := q_in rfl rfl
set_option maxRecDepth 100000 in
theorem r149_169 : zR d 149 Q 169 lv st h = zR d 149 Q 170 lv (.int 0 :: st) h := q_in rfl rfl
set_option maxRecDepth 100000 in
theorem r149_170 : zR d 149 Q 170 lv (.int z :: .int x :: st) h = zR d 149 Q 171 lv (.int (x + z) :: st) h := q_in rfl rfl
set_option maxRecDepth 100000 in
theorem r149_171 : zR d 149 Q 171 (o0 :: o1 :: o2 :: o3 :: o4 :: o5 :: o6 :: o7 :: l) (.int x :: st) h = zR d 149 Q 173 (o0 :: o1 :: o2 :: o3 :: o4 :: o5 :: o6 :: some (.int x) :: l) st h := q_in rfl rfl
set_option maxRecDepth 100000 in
theorem r149_173 : zR d 149 Q 173 (o0 :: o1 :: o2 :: o3 :: o4 :: o5 :: o6 :: o7 :: some (.int x) :: l) st h = zR d 149 Q 175 (o0 :: o1 :: o2 :: o3 :: o4 :: o5 :: o6 :: o7 :: some (.int x) :: l) (.int x :: st) h := q_in rfl rfl
set_option maxRecDepth 100000 in
theorem r149_175 : zR d 149 Q 175 (o0 :: o1 :: o2 :: o3 :: o4 :: o5 :: o6 :: o7 :: o8 :: o9 :: some (.int x) :: l) st h = zR d 149 Q 177 (o0 :: o1 :: o2 :: o3 :: o4 :: o5 :: o6 :: o7 :: o8 :: o9 :: some (.int x) :: l) (.int x :: st) h := q_in rfl rfl
set_option maxRecDepth 100000 in
theorem r149_177 : zR d 149 Q 177 lv (.int x :: st) h = if x = 0 then zR d 149 Q 190 lv st h else zR d 149 Q 180 lv st h := q_if rfl rfl
set_option maxRecDepth 100000 in
theorem r149_180 : zR d 149 Q 180 (some (.ref c) :: l) st h = zR d 149 Q 181 (some (.ref c) :: l) (.ref c :: st) h := q_in rfl rfl
set_option maxRecDepth 100000 in
theorem r149_181 : zR d 149 Q 181 lv (.ref 60 :: st) h = zR d 149 Q 184 lv (.ref 72 :: st) h := (q_and rfl rfl).trans (zand_t rfl)
set_option maxRecDepth 100000 in
theorem r149_184 : zR d 149 Q 184 (o0 :: o1 :: o2 :: o3 :: o4 :: o5 :: o6 :: o7 :: o8 :: some (.int x) :: l) st h = zR d 149 Q 186 (o0 :: o1 :: o2 :: o3 :: o4 :: o5 :: o6 :: o7 :: o8 :: some (.int x) :: l) (.int x :: st) h := q_in rfl rfl
set_option maxRecDepth 100000 in
theorem r149_186 : zR d 149 Q 186 lv (.int x :: .ref c :: st) h = zal c x h (fun w => zR d 149 Q 187 lv (.int w :: st) h) := q_iald rfl
set_option maxRecDepth 100000 in
theorem r149_187 : zR d 149 Q 187 lv st h = zR d 149 Q 191 lv st h := q_in rfl rfl
set_option maxRecDepth 100000 in
theorem r149_190 : zR d 149 Q 190 lv st h = zR d 149 Q 191 lv (.int 0 :: st) h := q_in rfl rfl
set_option maxRecDepth 100000 in
theorem r149_191 : zR d 149 Q 191 lv (.int z :: .int x :: st) h = zR d 149 Q 192 lv (.int (x + z) :: st) h := q_in rfl rfl
set_option maxRecDepth 100000 in
theorem r149_192 : zR d 149 Q 192 (o0 :: o1 :: o2 :: o3 :: o4 :: o5 :: o6 :: o7 :: o8 :: l) (.int x :: st) h = zR d 149 Q 194 (o0 :: o1 :: o2 :: o3 :: o4 :: o5 :: o6 :: o7 :: some (.int x) :: l) st h := q_in rfl rfl
set_option maxRecDepth 100000 in
theorem r149_194 : zR d 149 Q 194 (o0 :: o1 :: o2 :: o3 :: o4 :: o5 :: o6 :: o7 :: o8 :: some (.int x) :: l) st h = zR d 149 Q 197 (o0 :: o1 :: o2 :: o3 :: o4 :: o5 :: o6 :: o7 :: o8 :: some (.int (x + 1)) :: l) st h := q_in rfl rfl
set_option maxRecDepth 100000 in
theorem r149_197 : zR d 149 Q 197 lv st h = zR d 149 Q 103 lv st h := q_in rfl rfl
set_option maxRecDepth 100000 in
theorem r149_200 : zR d 149 Q 200 (o0 :: o1 :: o2 :: some (.int x) :: l) st h = zR d 149 Q 201 (o0 :: o1 :: o2 :: some (.int x) :: l) (.int x :: st) h := q_in rfl rfl
set_option maxRecDepth 100000 in
theorem r149_201 : zR d 149 Q 201 lv (.int x :: st) h = if x < 0 then zR d 149 Q 230 lv st h else zR d 149 Q 204 lv st h := q_if rfl rfl
set_option maxRecDepth 100000 in
theorem r149_204 : zR d 149 Q 204 (o0 :: o1 :: o2 :: o3 :: o4 :: o5 :: o6 :: o7 :: some (.int x) :: l) st h = zR d 149 Q 206 (o0 :: o1 :: o2 :: o3 :: o4 :: o5 :: o6 :: o7 :: some (.int x) :: l) (.int x :: st) h := q_in rfl rfl
set_option maxRecDepth 100000 in
theorem r149_206 : zR d 149 Q 206 (o0 :: o1 :: o2 :: o3 :: some (.int x) :: l) st h = zR d 149 Q 208 (o0 :: o1 :: o2 :: o3 :: some (.int x) :: l) (.int x :: st) h := q_in rfl rfl
set_option maxRecDepth 100000 in
theorem r149_208 : zR d 149 Q 208 lv (.int z :: .int x :: st) h = if x ≤ z then zR d 149 Q 211 lv st h else zR d 149 Q 230 lv st h := q_if rfl rfl
set_option maxRecDepth 100000 in
theorem r149_211 : zR d 149 Q 211 (o0 :: o1 :: o2 :: o3 :: o4 :: o5 :: o6 :: o7 :: some (.int x) :: l) st h = zR d 149 Q 213 (o0 :: o1 :: o2 :: o3 :: o4 :: o5 :: o6 :: o7 :: some (.int x) :: l) (.int x :: st) h := q_in rfl rfl
set_option maxRecDepth 100000 in
theorem r149_213 : zR d 149 Q 213 (o0 :: o1 :: o2 :: o3 :: some (.int x) :: l) st h = zR d 149 Q 215 (o0 :: o1 :: o2 :: o3 :: some (.int x) :: l) (.int x :: st) h := q_in rfl rfl
set_option maxRecDepth 100000 in
theorem r149_215 : zR d 149 Q 215 lv (.int z :: .int x :: st) h = if x = z then zR d 149 Q 218 lv st h else zR d 149 Q 234 lv st h := q_if rfl rfl
set_option maxRecDepth 100000 in
theorem r149_218 : zR d 149 Q 218 (o0 :: o1 :: o2 :: o3 :: o4 :: some (.int x) :: l) st h = zR d 149 Q 220 (o0 :: o1 :: o2 :: o3 :: o4 :: some (.int x) :: l) (.int x :: st) h := q_in rfl rfl
set_option maxRecDepth 100000 in
theorem r149_220 : zR d 149 Q 220 lv [.int x0] h = zM d 110 [.int x0] h (fun r h' => zR d 149 Q 223 lv (r.toList ++ []) h') := q_clS rfl rfl ⟨Nat.le_of_ble_eq_true rfl, Nat.le_of_ble_eq_true rfl⟩
set_option maxRecDepth 100000 in
theorem r149_223 : zR d 149 Q 223 (o0 :: o1 :: o2 :: some (.int x) :: l) st h = zR d 149 Q 224 (o0 :: o1 :: o2 :: some (.int x) :: l) (.int x :: st) h := q_in rfl rfl
set_option maxRecDepth 100000 in
theorem r149_224 : zR d 149 Q 224 lv [.int x0, .int y0] h = zM d 110 [.int x0] h (fun r h' => zR d 149 Q 227 lv (r.toList ++ [.int y0]) h') := q_clS rfl rfl ⟨Nat.le_of_ble_eq_true rfl, Nat.le_of_ble_eq_true rfl⟩
set_option maxRecDepth 100000 in
theorem r149_227 : zR d 149 Q 227 lv (.int z :: .int x :: st) h = if x < z then zR d 149 Q 230 lv st h else zR d 149 Q 234 lv st h := q_if rfl rfl
set_option maxRecDepth 100000 in
theorem r149_230 : zR d 149 Q 230 lv st h = zR d 149 Q 231 lv (.int 1 :: st) h := q_in rfl rfl
set_option maxRecDepth 100000 in
theorem r149_231 : zR d 149 Q 231 lv st h = zR d 149 Q 235 lv st h := q_in rfl rfl
set_option maxRecDepth 100000 in
theorem r149_234 : zR d 149 Q 234 lv st h = zR d 149 Q 235 lv (.int 0 :: st) h := q_in rfl rfl
set_option maxRecDepth 100000 in
theorem r149_235 : zR d 149 Q 235 (o0 :: o1 :: o2 :: o3 :: o4 :: o5 :: o6 :: o7 :: o8 :: o9 :: l) (.int x :: st) h = zR d 149 Q 237 (o0 :: o1 :: o2 :: o3 :: o4 :: o5 :: o6 :: o7 :: o8 :: some (.int x) :: l) st h := q_in rfl rfl
set_option maxRecDepth 100000 in
theorem r149_237 : zR d 149 Q 237 (o0 :: o1 :: o2 :: o3 :: o4 :: o5 :: o6 :: o7 :: o8 :: some (.int x) :: l) st h = zR d 149 Q 239 (o0 :: o1 :: o2 :: o3 :: o4 :: o5 :: o6 :: o7 :: o8 :: some (.int x) :: l) (.int x :: st) h := q_in rfl rfl
set_option maxRecDepth 100000 in
theorem r149_239 : zR d 149 Q 239 lv (.int x :: st) h = if x = 0 then zR d 149 Q 286 lv st h else zR d 149 Q 242 lv st h := q_if rfl rfl
set_option maxRecDepth 100000 in
theorem r149_242 : zR d 149 Q 242 (o0 :: o1 :: o2 :: o3 :: o4 :: some (.int x) :: l) st h = zR d 149 Q 244 (o0 :: o1 :: o2 :: o3 :: o4 :: some (.int x) :: l) (.int x :: st) h := q_in rfl rfl
set_option maxRecDepth 100000 in
theorem r149_244 : zR d 149 Q 244 (o0 :: o1 :: some (.int x) :: l) st h = zR d 149 Q 245 (o0 :: o1 :: some (.int x) :: l) (.int x :: st) h := q_in rfl rfl
set_option maxRecDepth 100000 in
theorem r149_245 : zR d 149 Q 245 lv st h = zR d 149 Q 246 lv (.int (-1) :: st) h := q_in rfl rfl
set_option maxRecDepth 100000 in
theorem r149_246 : zR d 149 Q 246 lv (.int z :: .int x :: st) h = zR d 149 Q 247 lv (.int (x ^^^ z) :: st) h := q_in rfl rfl
set_option maxRecDepth 100000 in
theorem r149_247 : zR d 149 Q 247 lv (.int z :: .int x :: st) h = zR d 149 Q 248 lv (.int (x &&& z) :: st) h := q_in rfl rfl
set_option maxRecDepth 100000 in
theorem r149_248 : zR d 149 Q 248 lv (.int x :: st) h = if x = 0 then zR d 149 Q 251 lv st h else zR d 149 Q 286 lv st h := q_if rfl rfl
set_option maxRecDepth 100000 in
theorem r149_251 : zR d 149 Q 251 (o0 :: o1 :: o2 :: o3 :: o4 :: o5 :: some (.int x) :: l) st h = zR d 149 Q 253 (o0 :: o1 :: o2 :: o3 :: o4 :: o5 :: some (.int x) :: l) (.int x :: st) h := q_in rfl rfl
set_option maxRecDepth 100000 in
theorem r149_253 : zR d 149 Q 253 (some (.ref c) :: l) st h = zR d 149 Q 254 (some (.ref c) :: l) (.ref c :: st) h := q_in rfl rfl
set_option maxRecDepth 100000 in
theorem r149_254 : zR d 149 Q 254 lv (.ref 60 :: st) h = zR d 149 Q 257 lv (.ref 61 :: st) h := (q_and rfl rfl).trans (zand_t rfl)
set_option maxRecDepth 100000 in
theorem r149_257 : zR d 149 Q 257 lv st h = zR d 149 Q 259 lv (.int 8 :: st) h := q_in rfl rfl
set_option maxRecDepth 100000 in
theorem r149_259 : zR d 149 Q 259 lv (.int x :: .ref c :: st) h = zal c x h (fun w => zR d 149 Q 260 lv (.int w :: st) h) := q_iald rfl
set_option maxRecDepth 100000 in
theorem r149_260 : zR d 149 Q 260 lv (.int z :: .int x :: st) h = if x ≤ z then zR d 149 Q 263 lv st h else zR d 149 Q 286 lv st h := q_if rfl rfl
set_option maxRecDepth 100000 in
theorem r149_263 : zR d 149 Q 263 (some (.ref c) :: l) st h = zR d 149 Q 264 (some (.ref c) :: l) (.ref c :: st) h := q_in rfl rfl
set_option maxRecDepth 100000 in
theorem r149_264 : zR d 149 Q 264 (o0 :: o1 :: o2 :: o3 :: o4 :: o5 :: o6 :: some (.int x) :: l) st h = zR d 149 Q 266 (o0 :: o1 :: o2 :: o3 :: o4 :: o5 :: o6 :: some (.int x) :: l) (.int x :: st) h := q_in rfl rfl
set_option maxRecDepth 100000 in
theorem r149_266 : zR d 149 Q 266 lv [.int x0, .ref 60] h = zM d 134 [.ref 60, .int x0] h (fun r h' => zR d 149 Q 269 lv (r.toList ++ []) h') := (q_clV rfl rfl (Nat.le_of_ble_eq_true rfl)).trans (zand_t ⟨rfl, Nat.le_of_ble_eq_true rfl⟩)
set_option maxRecDepth 100000 in
theorem r149_269 : zR d 149 Q 269 (some (.ref c) :: l) st h = zR d 149 Q 270 (some (.ref c) :: l) (.ref c :: st) h := q_in rfl rfl
set_option maxRecDepth 100000 in
theorem r149_270 : zR d 149 Q 270 lv (.ref 60 :: st) h = zR d 149 Q 273 lv (.ref 61 :: st) h := (q_and rfl rfl).trans (zand_t rfl)
set_option maxRecDepth 100000 in
theorem r149_273 : zR d 149 Q 273 lv st h = zR d 149 Q 275 lv (.int 10 :: st) h := q_in rfl rfl
set_option maxRecDepth 100000 in
theorem r149_275 : zR d 149 Q 275 lv (.int x :: .ref c :: st) h = zal c x h (fun w => zR d 149 Q 276 lv (.int w :: st) h) := q_iald rfl
set_option maxRecDepth 100000 in
theorem r149_276 : zR d 149 Q 276 lv (.int z :: .int x :: st) h = if x ≤ z then zR d 149 Q 279 lv st h else zR d 149 Q 286 lv st h := q_if rfl rfl
set_option maxRecDepth 100000 in
theorem r149_279 : zR d 149 Q 279 (o0 :: o1 :: o2 :: o3 :: o4 :: some (.int x) :: l) st h = zR d 149 Q 281 (o0 :: o1 :: o2 :: o3 :: o4 :: some (.int x) :: l) (.int x :: st) h := q_in rfl rfl
set_option maxRecDepth 100000 in
theorem r149_281 : zR d 149 Q 281 (o0 :: o1 :: o2 :: o3 :: l) (.int x :: st) h = zR d 149 Q 282 (o0 :: o1 :: o2 :: some (.int x) :: l) st h := q_in rfl rfl
set_option maxRecDepth 100000 in
theorem r149_282 : zR d 149 Q 282 (o0 :: o1 :: o2 :: o3 :: o4 :: o5 :: o6 :: o7 :: some (.int x) :: l) st h = zR d 149 Q 284 (o0 :: o1 :: o2 :: o3 :: o4 :: o5 :: o6 :: o7 :: some (.int x) :: l) (.int x :: st) h := q_in rfl rfl
set_option maxRecDepth 100000 in
theorem r149_284 : zR d 149 Q 284 (o0 :: o1 :: o2 :: o3 :: o4 :: l) (.int x :: st) h = zR d 149 Q 286 (o0 :: o1 :: o2 :: o3 :: some (.int x) :: l) st h := q_in rfl rfl
set_option maxRecDepth 100000 in
theorem r149_286 : zR d 149 Q 286 (o0 :: o1 :: o2 :: o3 :: o4 :: some (.int x) :: l) st h = zR d 149 Q 289 (o0 :: o1 :: o2 :: o3 :: o4 :: some (.int (x + 1)) :: l) st h := q_in rfl rfl
set_option maxRecDepth 100000 in
theorem r149_289 : zR d 149 Q 289 lv st h = zR d 149 Q 78 lv st h := q_in rfl rfl
set_option maxRecDepth 100000 in
theorem r149_292 : zR d 149 Q 292 (o0 :: o1 :: o2 :: some (.int x) :: l) st h = zR d 149 Q 293 (o0 :: o1 :: o2 :: some (.int x) :: l) (.int x :: st) h := q_in rfl rfl
set_option maxRecDepth 100000 in
theorem r149_293 : zR d 149 Q 293 lv (.int x :: st) h = if x < 0 then zR d 149 Q 296 lv st h else zR d 149 Q 301 lv st h := q_if rfl rfl
set_option maxRecDepth 100000 in
theorem r149_296 : zR d 149 Q 296 lv st h = zR d 149 Q 298 lv (.int (-1000000005) :: st) h := q_in rfl rfl
set_option maxRecDepth 100000 in
theorem r149_298 : zR d 149 Q 298 lv st h = zR d 149 Q 311 lv st h := q_in rfl rfl
set_option maxRecDepth 100000 in
theorem r149_301 : zR d 149 Q 301 (o0 :: some (.int x) :: l) st h = zR d 149 Q 302 (o0 :: some (.int x) :: l) (.int x :: st) h := q_in rfl rfl
set_option maxRecDepth 100000 in
theorem r149_302 : zR d 149 Q 302 lv (.int x :: st) h = if x = 0 then zR d 149 Q 305 lv st h else zR d 149 Q 309 lv st h := q_if rfl rfl
set_option maxRecDepth 100000 in
theorem r149_305 : zR d 149 Q 305 (o0 :: o1 :: o2 :: some (.int x) :: l) st h = zR d 149 Q 306 (o0 :: o1 :: o2 :: some (.int x) :: l) (.int x :: st) h := q_in rfl rfl
set_option maxRecDepth 100000 in
theorem r149_306 : zR d 149 Q 306 lv st h = zR d 149 Q 311 lv st h := q_in rfl rfl
set_option maxRecDepth 100000 in
theorem r149_309 : zR d 149 Q 309 (o0 :: o1 :: o2 :: o3 :: some (.int x) :: l) st h = zR d 149 Q 311 (o0 :: o1 :: o2 :: o3 :: some (.int x) :: l) (.int x :: st) h := q_in rfl rfl
set_option maxRecDepth 100000 in
theorem r149_311 : zR d 149 Q 311 lv [.int x] h = Q (some (.int x)) h := q_retz rfl rfl (Or.inl rfl)
theorem r150_0 : zR d 150 Q 0 lv st h = zR d 150 Q 1 lv (.int 0 :: st) h := q_in rfl rfl
theorem r150_1 : zR d 150 Q 1 (o0 :: o1 :: l) (.int x :: st) h = zR d 150 Q 2 (o0 :: some (.int x) :: l) st h := q_in rfl rfl
theorem r150_2 : zR d 150 Q 2 (o0 :: some (.int x) :: l) st h = zR d 150 Q 3 (o0 :: some (.int x) :: l) (.int x :: st) h := q_in rfl rfl
theorem r150_3 : zR d 150 Q 3 lv st h = zR d 150 Q 5 lv (.int 62 :: st) h := q_in rfl rfl
theorem r150_5 : zR d 150 Q 5 lv (.int z :: .int x :: st) h = if x < z then zR d 150 Q 8 lv st h else zR d 150 Q 26 lv st h := q_if rfl rfl
theorem r150_8 : zR d 150 Q 8 (some (.ref c) :: l) st h = zR d 150 Q 9 (some (.ref c) :: l) (.ref c :: st) h := q_in rfl rfl
theorem r150_9 : zR d 150 Q 9 lv (.ref 60 :: st) h = zR d 150 Q 12 lv (.ref 73 :: st) h := (q_and rfl rfl).trans (zand_t rfl)
theorem r150_12 : zR d 150 Q 12 (o0 :: some (.int x) :: l) st h = zR d 150 Q 13 (o0 :: some (.int x) :: l) (.int x :: st) h := q_in rfl rfl
theorem r150_13 : zR d 150 Q 13 (some (.ref c) :: l) st h = zR d 150 Q 14 (some (.ref c) :: l) (.ref c :: st) h := q_in rfl rfl
theorem r150_14 : zR d 150 Q 14 lv (.ref 60 :: st) h = zR d 150 Q 17 lv (.ref 61 :: st) h := (q_and rfl rfl).trans (zand_t rfl)
theorem r150_17 : zR d 150 Q 17 (o0 :: some (.int x) :: l) st h = zR d 150 Q 18 (o0 :: some (.int x) :: l) (.int x :: st) h := q_in rfl rfl
theorem r150_18 : zR d 150 Q 18 lv (.int x :: .ref c :: st) h = zal c x h (fun w => zR d 150 Q 19 lv (.int w :: st) h) := q_iald rfl
theorem r150_19 : zR d 150 Q 19 lv (.int z :: .int x :: .ref c :: st) h = zas c x z h (fun h' => zR d 150 Q 20 lv st h') := q_iast rfl
theorem r150_20 : zR d 150 Q 20 (o0 :: some (.int x) :: l) st h = zR d 150 Q 23 (o0 :: some (.int (x + 1)) :: l) st h := q_in rfl rfl
theorem r150_23 : zR d 150 Q 23 lv st h = zR d 150 Q 2 lv st h := q_in rfl rfl
theorem r150_26 : zR d 150 Q 26 lv [] h = Q none h := q_ret rfl rfl
theorem r151_0 : zR d 151 Q 0 lv st h = zR d 151 Q 1 lv (.int 0 :: st) h := q_in rfl rfl
theorem r151_1 : zR d 151 Q 1 (o0 :: o1 :: l) (.int x :: st) h = zR d 151 Q 2 (o0 :: some (.int x) :: l) st h := q_in rfl rfl
theorem r151_2 : zR d 151 Q 2 (o0 :: some (.int x) :: l) st h = zR d 151 Q 3 (o0 :: some (.int x) :: l) (.int x :: st) h := q_in rfl rfl
theorem r151_3 : zR d 151 Q 3 lv st h = zR d 151 Q 5 lv (.int 62 :: st) h := q_in rfl rfl
theorem r151_5 : zR d 151 Q 5 lv (.int z :: .int x :: st) h = if x < z then zR d 151 Q 8 lv st h else zR d 151 Q 26 lv st h := q_if rfl rfl
theorem r151_8 : zR d 151 Q 8 (some (.ref c) :: l) st h = zR d 151 Q 9 (some (.ref c) :: l) (.ref c :: st) h := q_in rfl rfl
theorem r151_9 : zR d 151 Q 9 lv (.ref 60 :: st) h = zR d 151 Q 12 lv (.ref 61 :: st) h := (q_and rfl rfl).trans (zand_t rfl)
theorem r151_12 : zR d 151 Q 12 (o0 :: some (.int x) :: l) st h = zR d 151 Q 13 (o0 :: some (.int x) :: l) (.int x :: st) h := q_in rfl rfl
theorem r151_13 : zR d 151 Q 13 (some (.ref c) :: l) st h = zR d 151 Q 14 (some (.ref c) :: l) (.ref c :: st) h := q_in rfl rfl
theorem r151_14 : zR d 151 Q 14 lv (.ref 60 :: st) h = zR d 151 Q 17 lv (.ref 73 :: st) h := (q_and rfl rfl).trans (zand_t rfl)
theorem r151_17 : zR d 151 Q 17 (o0 :: some (.int x) :: l) st h = zR d 151 Q 18 (o0 :: some (.int x) :: l) (.int x :: st) h := q_in rfl rfl
theorem r151_18 : zR d 151 Q 18 lv (.int x :: .ref c :: st) h = zal c x h (fun w => zR d 151 Q 19 lv (.int w :: st) h) := q_iald rfl
theorem r151_19 : zR d 151 Q 19 lv (.int z :: .int x :: .ref c :: st) h = zas c x z h (fun h' => zR d 151 Q 20 lv st h') := q_iast rfl
theorem r151_20 : zR d 151 Q 20 (o0 :: some (.int x) :: l) st h = zR d 151 Q 23 (o0 :: some (.int (x + 1)) :: l) st h := q_in rfl rfl
theorem r151_23 : zR d 151 Q 23 lv st h = zR d 151 Q 2 lv st h := q_in rfl rfl
theorem r151_26 : zR d 151 Q 26 lv [] h = Q none h := q_ret rfl rfl
theorem r152_0 : zR d 152 Q 0 lv st h = zR d 152 Q 1 lv (.int 0 :: st) h := q_in rfl rfl
theorem r152_1 : zR d 152 Q 1 (o0 :: o1 :: o2 :: l) (.int x :: st) h = zR d 152 Q 2 (o0 :: o1 :: some (.int x) :: l) st h := q_in rfl rfl
theorem r152_2 : zR d 152 Q 2 (o0 :: o1 :: some (.int x) :: l) st h = zR d 152 Q 3 (o0 :: o1 :: some (.int x) :: l) (.int x :: st) h := q_in rfl rfl
theorem r152_3 : zR d 152 Q 3 (o0 :: some (.int x) :: l) st h = zR d 152 Q 4 (o0 :: some (.int x) :: l) (.int x :: st) h := q_in rfl rfl
theorem r152_4 : zR d 152 Q 4 lv (.int z :: .int x :: st) h = if x < z then zR d 152 Q 7 lv st h else zR d 152 Q 17 lv st h := q_if rfl rfl
theorem r152_7 : zR d 152 Q 7 (some (.ref c) :: l) st h = zR d 152 Q 8 (some (.ref c) :: l) (.ref c :: st) h := q_in rfl rfl
theorem r152_8 : zR d 152 Q 8 lv [.ref 60] h = zM d 144 [.ref 60] h (fun r h' => zR d 152 Q 11 lv (r.toList ++ []) h') := (q_clV rfl rfl (Nat.le_of_ble_eq_true rfl)).trans (zand_t ⟨rfl, Nat.le_of_ble_eq_true rfl⟩)
theorem r152_11 : zR d 152 Q 11 (o0 :: o1 :: some (.int x) :: l) st h = zR d 152 Q 14 (o0 :: o1 :: some (.int (x + 1)) :: l) st h := q_in rfl rfl
theorem r152_14 : zR d 152 Q 14 lv st h = zR d 152 Q 2 lv st h := q_in rfl rfl
theorem r152_17 : zR d 152 Q 17 lv [] h = Q none h := q_ret rfl rfl
theorem r153_0 : zR d 153 Q 0 (o0 :: some (.int x) :: l) st h = zR d 153 Q 1 (o0 :: some (.int x) :: l) (.int x :: st) h := q_in rfl rfl
theorem r153_1 : zR d 153 Q 1 lv (.int x :: st) h = zR d 153 Q 2 lv (.long x.toInt64 :: st) h := q_in rfl rfl
theorem r153_2 : zR d 153 Q 2 lv st h = zR d 153 Q 3 lv (.long (Int32.toInt64 0) :: st) h := q_in rfl rfl
theorem r153_3 : zR d 153 Q 3 lv st h = zR d 153 Q 6 lv (.long (Int32.toInt64 100) :: st) h := q_in rfl rfl
theorem r153_6 : zR d 153 Q 6 lv [.long j2, .long j1, .long j0] h = zM d 106 [.long j0, .long j1, .long j2] h (fun r h' => zR d 153 Q 9 lv (r.toList ++ []) h') := q_clS rfl rfl ⟨Nat.le_of_ble_eq_true rfl, Nat.le_of_ble_eq_true rfl⟩
theorem r153_9 : zR d 153 Q 9 lv (.int x :: st) h = if x = 0 then zR d 153 Q 24 lv st h else zR d 153 Q 12 lv st h := q_if rfl rfl
theorem r153_12 : zR d 153 Q 12 (o0 :: o1 :: some (.int x) :: l) st h = zR d 153 Q 13 (o0 :: o1 :: some (.int x) :: l) (.int x :: st) h := q_in rfl rfl
theorem r153_13 : zR d 153 Q 13 lv (.int x :: st) h = zR d 153 Q 14 lv (.long x.toInt64 :: st) h := q_in rfl rfl
theorem r153_14 : zR d 153 Q 14 lv st h = zR d 153 Q 15 lv (.long (Int32.toInt64 0) :: st) h := q_in rfl rfl
theorem r153_15 : zR d 153 Q 15 lv st h = zR d 153 Q 18 lv (.long (Int32.toInt64 4) :: st) h := q_in rfl rfl
theorem r153_18 : zR d 153 Q 18 lv [.long j2, .long j1, .long j0] h = zM d 106 [.long j0, .long j1, .long j2] h (fun r h' => zR d 153 Q 21 lv (r.toList ++ []) h') := q_clS rfl rfl ⟨Nat.le_of_ble_eq_true rfl, Nat.le_of_ble_eq_true rfl⟩
theorem r153_21 : zR d 153 Q 21 lv (.int x :: st) h = if x = 0 then zR d 153 Q 24 lv st h else zR d 153 Q 27 lv st h := q_if rfl rfl
theorem r153_24 : zR d 153 Q 24 lv st h = zR d 153 Q 26 lv (.int (-1000000001) :: st) h := q_in rfl rfl
theorem r153_26 : zR d 153 Q 26 lv [.int x] h = Q (some (.int x)) h := q_retz rfl rfl (Or.inl rfl)
theorem r153_27 : zR d 153 Q 27 (some (.ref c) :: l) st h = zR d 153 Q 28 (some (.ref c) :: l) (.ref c :: st) h := q_in rfl rfl
theorem r153_28 : zR d 153 Q 28 lv [.ref 60] h = zM d 150 [.ref 60] h (fun r h' => zR d 153 Q 31 lv (r.toList ++ []) h') := (q_clV rfl rfl (Nat.le_of_ble_eq_true rfl)).trans (zand_t ⟨rfl, Nat.le_of_ble_eq_true rfl⟩)
theorem r153_31 : zR d 153 Q 31 (some (.ref c) :: l) st h = zR d 153 Q 32 (some (.ref c) :: l) (.ref c :: st) h := q_in rfl rfl
theorem r153_32 : zR d 153 Q 32 (o0 :: some (.int x) :: l) st h = zR d 153 Q 33 (o0 :: some (.int x) :: l) (.int x :: st) h := q_in rfl rfl
theorem r153_33 : zR d 153 Q 33 lv [.int x0, .ref 60] h = zM d 152 [.ref 60, .int x0] h (fun r h' => zR d 153 Q 36 lv (r.toList ++ []) h') := (q_clV rfl rfl (Nat.le_of_ble_eq_true rfl)).trans (zand_t ⟨rfl, Nat.le_of_ble_eq_true rfl⟩)
theorem r153_36 : zR d 153 Q 36 (o0 :: o1 :: some (.int x) :: l) st h = zR d 153 Q 37 (o0 :: o1 :: some (.int x) :: l) (.int x :: st) h := q_in rfl rfl
theorem r153_37 : zR d 153 Q 37 lv (.int x :: st) h = if x = 0 then zR d 153 Q 40 lv st h else zR d 153 Q 49 lv st h := q_if rfl rfl
theorem r153_40 : zR d 153 Q 40 (some (.ref c) :: l) st h = zR d 153 Q 41 (some (.ref c) :: l) (.ref c :: st) h := q_in rfl rfl
theorem r153_41 : zR d 153 Q 41 lv (.ref 60 :: st) h = zR d 153 Q 44 lv (.ref 61 :: st) h := (q_and rfl rfl).trans (zand_t rfl)
theorem r153_44 : zR d 153 Q 44 lv st h = zR d 153 Q 45 lv (.int 4 :: st) h := q_in rfl rfl
theorem r153_45 : zR d 153 Q 45 lv (.int x :: .ref c :: st) h = zal c x h (fun w => zR d 153 Q 46 lv (.int w :: st) h) := q_iald rfl
theorem r153_46 : zR d 153 Q 46 lv st h = zR d 153 Q 98 lv st h := q_in rfl rfl
theorem r153_49 : zR d 153 Q 49 (o0 :: o1 :: some (.int x) :: l) st h = zR d 153 Q 50 (o0 :: o1 :: some (.int x) :: l) (.int x :: st) h := q_in rfl rfl
theorem r153_50 : zR d 153 Q 50 lv st h = zR d 153 Q 51 lv (.int 1 :: st) h := q_in rfl rfl
theorem r153_51 : zR d 153 Q 51 lv (.int z :: .int x :: st) h = if x = z then zR d 153 Q 54 lv st h else zR d 153 Q 63 lv st h := q_if rfl rfl
theorem r153_54 : zR d 153 Q 54 (some (.ref c) :: l) st h = zR d 153 Q 55 (some (.ref c) :: l) (.ref c :: st) h := q_in rfl rfl
theorem r153_55 : zR d 153 Q 55 lv (.ref 60 :: st) h = zR d 153 Q 58 lv (.ref 61 :: st) h := (q_and rfl rfl).trans (zand_t rfl)
theorem r153_58 : zR d 153 Q 58 lv st h = zR d 153 Q 59 lv (.int 3 :: st) h := q_in rfl rfl
theorem r153_59 : zR d 153 Q 59 lv (.int x :: .ref c :: st) h = zal c x h (fun w => zR d 153 Q 60 lv (.int w :: st) h) := q_iald rfl
theorem r153_60 : zR d 153 Q 60 lv st h = zR d 153 Q 98 lv st h := q_in rfl rfl
theorem r153_63 : zR d 153 Q 63 (o0 :: o1 :: some (.int x) :: l) st h = zR d 153 Q 64 (o0 :: o1 :: some (.int x) :: l) (.int x :: st) h := q_in rfl rfl
theorem r153_64 : zR d 153 Q 64 lv st h = zR d 153 Q 65 lv (.int 2 :: st) h := q_in rfl rfl
theorem r153_65 : zR d 153 Q 65 lv (.int z :: .int x :: st) h = if x = z then zR d 153 Q 68 lv st h else zR d 153 Q 76 lv st h := q_if rfl rfl
theorem r153_68 : zR d 153 Q 68 (some (.ref c) :: l) st h = zR d 153 Q 69 (some (.ref c) :: l) (.ref c :: st) h := q_in rfl rfl
theorem r153_69 : zR d 153 Q 69 lv st h = zR d 153 Q 70 lv (.int 3 :: st) h := q_in rfl rfl
theorem r153_70 : zR d 153 Q 70 lv [.int x0, .ref 60] h = zM d 146 [.ref 60, .int x0] h (fun r h' => zR d 153 Q 73 lv (r.toList ++ []) h') := (q_clV rfl rfl (Nat.le_of_ble_eq_true rfl)).trans (zand_t ⟨rfl, Nat.le_of_ble_eq_true rfl⟩)
theorem r153_73 : zR d 153 Q 73 lv st h = zR d 153 Q 98 lv st h := q_in rfl rfl
theorem r153_76 : zR d 153 Q 76 (o0 :: o1 :: some (.int x) :: l) st h = zR d 153 Q 77 (o0 :: o1 :: some (.int x) :: l) (.int x :: st) h := q_in rfl rfl
theorem r153_77 : zR d 153 Q 77 lv st h = zR d 153 Q 78 lv (.int 3 :: st) h := q_in rfl rfl
theorem r153_78 : zR d 153 Q 78 lv (.int z :: .int x :: st) h = if x = z then zR d 153 Q 81 lv st h else zR d 153 Q 91 lv st h := q_if rfl rfl
theorem r153_81 : zR d 153 Q 81 (some (.ref c) :: l) st h = zR d 153 Q 82 (some (.ref c) :: l) (.ref c :: st) h := q_in rfl rfl
theorem r153_82 : zR d 153 Q 82 lv (.ref 60 :: st) h = zR d 153 Q 85 lv (.ref 61 :: st) h := (q_and rfl rfl).trans (zand_t rfl)
theorem r153_85 : zR d 153 Q 85 lv st h = zR d 153 Q 87 lv (.int 6 :: st) h := q_in rfl rfl
theorem r153_87 : zR d 153 Q 87 lv (.int x :: .ref c :: st) h = zal c x h (fun w => zR d 153 Q 88 lv (.int w :: st) h) := q_iald rfl
theorem r153_88 : zR d 153 Q 88 lv st h = zR d 153 Q 98 lv st h := q_in rfl rfl
theorem r153_91 : zR d 153 Q 91 (some (.ref c) :: l) st h = zR d 153 Q 92 (some (.ref c) :: l) (.ref c :: st) h := q_in rfl rfl
theorem r153_92 : zR d 153 Q 92 lv (.ref 60 :: st) h = zR d 153 Q 95 lv (.ref 61 :: st) h := (q_and rfl rfl).trans (zand_t rfl)
theorem r153_95 : zR d 153 Q 95 lv st h = zR d 153 Q 97 lv (.int 9 :: st) h := q_in rfl rfl
theorem r153_97 : zR d 153 Q 97 lv (.int x :: .ref c :: st) h = zal c x h (fun w => zR d 153 Q 98 lv (.int w :: st) h) := q_iald rfl
theorem r153_98 : zR d 153 Q 98 (o0 :: o1 :: o2 :: o3 :: l) (.int x :: st) h = zR d 153 Q 99 (o0 :: o1 :: o2 :: some (.int x) :: l) st h := q_in rfl rfl
theorem r153_99 : zR d 153 Q 99 (some (.ref c) :: l) st h = zR d 153 Q 100 (some (.ref c) :: l) (.ref c :: st) h := q_in rfl rfl
theorem r153_100 : zR d 153 Q 100 lv [.ref 60] h = zM d 151 [.ref 60] h (fun r h' => zR d 153 Q 103 lv (r.toList ++ []) h') := (q_clV rfl rfl (Nat.le_of_ble_eq_true rfl)).trans (zand_t ⟨rfl, Nat.le_of_ble_eq_true rfl⟩)
theorem r153_103 : zR d 153 Q 103 (o0 :: o1 :: o2 :: some (.int x) :: l) st h = zR d 153 Q 104 (o0 :: o1 :: o2 :: some (.int x) :: l) (.int x :: st) h := q_in rfl rfl
theorem r153_104 : zR d 153 Q 104 lv [.int x] h = Q (some (.int x)) h := q_retz rfl rfl (Or.inl rfl)
theorem r154_0 : zR d 154 Q 0 (o0 :: some (.int x) :: l) st h = zR d 154 Q 1 (o0 :: some (.int x) :: l) (.int x :: st) h := q_in rfl rfl
theorem r154_1 : zR d 154 Q 1 lv (.int x :: st) h = zR d 154 Q 2 lv (.long x.toInt64 :: st) h := q_in rfl rfl
theorem r154_2 : zR d 154 Q 2 lv st h = zR d 154 Q 3 lv (.long (Int32.toInt64 1) :: st) h := q_in rfl rfl
theorem r154_3 : zR d 154 Q 3 lv st h = zR d 154 Q 6 lv (.long (Int32.toInt64 60) :: st) h := q_in rfl rfl
theorem r154_6 : zR d 154 Q 6 lv [.long j2, .long j1, .long j0] h = zM d 106 [.long j0, .long j1, .long j2] h (fun r h' => zR d 154 Q 9 lv (r.toList ++ []) h') := q_clS rfl rfl ⟨Nat.le_of_ble_eq_true rfl, Nat.le_of_ble_eq_true rfl⟩
theorem r154_9 : zR d 154 Q 9 lv (.int x :: st) h = if x = 0 then zR d 154 Q 22 lv st h else zR d 154 Q 12 lv st h := q_if rfl rfl
theorem r154_12 : zR d 154 Q 12 (o0 :: o1 :: some (.int x) :: l) st h = zR d 154 Q 13 (o0 :: o1 :: some (.int x) :: l) (.int x :: st) h := q_in rfl rfl
theorem r154_13 : zR d 154 Q 13 lv (.int x :: st) h = zR d 154 Q 14 lv (.long x.toInt64 :: st) h := q_in rfl rfl
theorem r154_14 : zR d 154 Q 14 lv st h = zR d 154 Q 15 lv (.long (Int32.toInt64 0) :: st) h := q_in rfl rfl
theorem r154_15 : zR d 154 Q 15 lv st h = zR d 154 Q 16 lv (.long (Int32.toInt64 1) :: st) h := q_in rfl rfl
theorem r154_16 : zR d 154 Q 16 lv [.long j2, .long j1, .long j0] h = zM d 106 [.long j0, .long j1, .long j2] h (fun r h' => zR d 154 Q 19 lv (r.toList ++ []) h') := q_clS rfl rfl ⟨Nat.le_of_ble_eq_true rfl, Nat.le_of_ble_eq_true rfl⟩
theorem r154_19 : zR d 154 Q 19 lv (.int x :: st) h = if x = 0 then zR d 154 Q 22 lv st h else zR d 154 Q 25 lv st h := q_if rfl rfl
theorem r154_22 : zR d 154 Q 22 lv st h = zR d 154 Q 24 lv (.int (-1000000001) :: st) h := q_in rfl rfl
theorem r154_24 : zR d 154 Q 24 lv [.int x] h = Q (some (.int x)) h := q_retz rfl rfl (Or.inl rfl)
theorem r154_25 : zR d 154 Q 25 (some (.ref c) :: l) st h = zR d 154 Q 26 (some (.ref c) :: l) (.ref c :: st) h := q_in rfl rfl
theorem r154_26 : zR d 154 Q 26 lv [.ref 60] h = zM d 150 [.ref 60] h (fun r h' => zR d 154 Q 29 lv (r.toList ++ []) h') := (q_clV rfl rfl (Nat.le_of_ble_eq_true rfl)).trans (zand_t ⟨rfl, Nat.le_of_ble_eq_true rfl⟩)
theorem r154_29 : zR d 154 Q 29 lv st h = zR d 154 Q 30 lv (.int (-1) :: st) h := q_in rfl rfl
theorem r154_30 : zR d 154 Q 30 (o0 :: o1 :: o2 :: o3 :: l) (.int x :: st) h = zR d 154 Q 31 (o0 :: o1 :: o2 :: some (.int x) :: l) st h := q_in rfl rfl
theorem r154_31 : zR d 154 Q 31 lv st h = zR d 154 Q 32 lv (.int 0 :: st) h := q_in rfl rfl
theorem r154_32 : zR d 154 Q 32 (o0 :: o1 :: o2 :: o3 :: o4 :: l) (.int x :: st) h = zR d 154 Q 34 (o0 :: o1 :: o2 :: o3 :: some (.int x) :: l) st h := q_in rfl rfl
theorem r154_34 : zR d 154 Q 34 lv st h = zR d 154 Q 35 lv (.int 0 :: st) h := q_in rfl rfl
theorem r154_35 : zR d 154 Q 35 (o0 :: o1 :: o2 :: o3 :: o4 :: o5 :: l) (.int x :: st) h = zR d 154 Q 37 (o0 :: o1 :: o2 :: o3 :: o4 :: some (.int x) :: l) st h := q_in rfl rfl
theorem r154_37 : zR d 154 Q 37 (o0 :: o1 :: o2 :: o3 :: o4 :: some (.int x) :: l) st h = zR d 154 Q 39 (o0 :: o1 :: o2 :: o3 :: o4 :: some (.int x) :: l) (.int x :: st) h := q_in rfl rfl
theorem r154_39 : zR d 154 Q 39 lv st h = zR d 154 Q 41 lv (.int 60 :: st) h := q_in rfl rfl
theorem r154_41 : zR d 154 Q 41 lv (.int z :: .int x :: st) h = if x ≤ z then zR d 154 Q 44 lv st h else zR d 154 Q 93 lv st h := q_if rfl rfl
theorem r154_44 : zR d 154 Q 44 (some (.ref c) :: l) st h = zR d 154 Q 45 (some (.ref c) :: l) (.ref c :: st) h := q_in rfl rfl
theorem r154_45 : zR d 154 Q 45 lv (.ref 60 :: st) h = zR d 154 Q 48 lv (.ref 61 :: st) h := (q_and rfl rfl).trans (zand_t rfl)
theorem r154_48 : zR d 154 Q 48 lv st h = zR d 154 Q 50 lv (.int 7 :: st) h := q_in rfl rfl
theorem r154_50 : zR d 154 Q 50 (o0 :: o1 :: o2 :: o3 :: o4 :: some (.int x) :: l) st h = zR d 154 Q 52 (o0 :: o1 :: o2 :: o3 :: o4 :: some (.int x) :: l) (.int x :: st) h := q_in rfl rfl
theorem r154_52 : zR d 154 Q 52 lv (.int z :: .int x :: .ref c :: st) h = zas c x z h (fun h' => zR d 154 Q 53 lv st h') := q_iast rfl
theorem r154_53 : zR d 154 Q 53 (some (.ref c) :: l) st h = zR d 154 Q 54 (some (.ref c) :: l) (.ref c :: st) h := q_in rfl rfl
theorem r154_54 : zR d 154 Q 54 (o0 :: some (.int x) :: l) st h = zR d 154 Q 55 (o0 :: some (.int x) :: l) (.int x :: st) h := q_in rfl rfl
theorem r154_55 : zR d 154 Q 55 lv [.int x0, .ref 60] h = zM d 152 [.ref 60, .int x0] h (fun r h' => zR d 154 Q 58 lv (r.toList ++ []) h') := (q_clV rfl rfl (Nat.le_of_ble_eq_true rfl)).trans (zand_t ⟨rfl, Nat.le_of_ble_eq_true rfl⟩)
theorem r154_58 : zR d 154 Q 58 (some (.ref c) :: l) st h = zR d 154 Q 59 (some (.ref c) :: l) (.ref c :: st) h := q_in rfl rfl
theorem r154_59 : zR d 154 Q 59 lv st h = zR d 154 Q 60 lv (.int 3 :: st) h := q_in rfl rfl
theorem r154_60 : zR d 154 Q 60 lv [.int x0, .ref 60] h = zM d 146 [.ref 60, .int x0] h (fun r h' => zR d 154 Q 63 lv (r.toList ++ []) h') := (q_clV rfl rfl (Nat.le_of_ble_eq_true rfl)).trans (zand_t ⟨rfl, Nat.le_of_ble_eq_true rfl⟩)
theorem r154_63 : zR d 154 Q 63 (o0 :: o1 :: o2 :: o3 :: o4 :: o5 :: o6 :: l) (.int x :: st) h = zR d 154 Q 65 (o0 :: o1 :: o2 :: o3 :: o4 :: o5 :: some (.int x) :: l) st h := q_in rfl rfl
theorem r154_65 : zR d 154 Q 65 (some (.ref c) :: l) st h = zR d 154 Q 66 (some (.ref c) :: l) (.ref c :: st) h := q_in rfl rfl
theorem r154_66 : zR d 154 Q 66 lv [.ref 60] h = zM d 151 [.ref 60] h (fun r h' => zR d 154 Q 69 lv (r.toList ++ []) h') := (q_clV rfl rfl (Nat.le_of_ble_eq_true rfl)).trans (zand_t ⟨rfl, Nat.le_of_ble_eq_true rfl⟩)
theorem r154_69 : zR d 154 Q 69 (o0 :: o1 :: o2 :: some (.int x) :: l) st h = zR d 154 Q 70 (o0 :: o1 :: o2 :: some (.int x) :: l) (.int x :: st) h := q_in rfl rfl
theorem r154_70 : zR d 154 Q 70 lv (.int x :: st) h = if x < 0 then zR d 154 Q 80 lv st h else zR d 154 Q 73 lv st h := q_if rfl rfl
theorem r154_73 : zR d 154 Q 73 (o0 :: o1 :: o2 :: o3 :: o4 :: o5 :: some (.int x) :: l) st h = zR d 154 Q 75 (o0 :: o1 :: o2 :: o3 :: o4 :: o5 :: some (.int x) :: l) (.int x :: st) h := q_in rfl rfl
theorem r154_75 : zR d 154 Q 75 (o0 :: o1 :: o2 :: o3 :: some (.int x) :: l) st h = zR d 154 Q 77 (o0 :: o1 :: o2 :: o3 :: some (.int x) :: l) (.int x :: st) h := q_in rfl rfl
theorem r154_77 : zR d 154 Q 77 lv (.int z :: .int x :: st) h = if x < z then zR d 154 Q 80 lv st h else zR d 154 Q 87 lv st h := q_if rfl rfl
theorem r154_80 : zR d 154 Q 80 (o0 :: o1 :: o2 :: o3 :: o4 :: some (.int x) :: l) st h = zR d 154 Q 82 (o0 :: o1 :: o2 :: o3 :: o4 :: some (.int x) :: l) (.int x :: st) h := q_in rfl rfl
theorem r154_82 : zR d 154 Q 82 (o0 :: o1 :: o2 :: o3 :: l) (.int x :: st) h = zR d 154 Q 83 (o0 :: o1 :: o2 :: some (.int x) :: l) st h := q_in rfl rfl
theorem r154_83 : zR d 154 Q 83 (o0 :: o1 :: o2 :: o3 :: o4 :: o5 :: some (.int x) :: l) st h = zR d 154 Q 85 (o0 :: o1 :: o2 :: o3 :: o4 :: o5 :: some (.int x) :: l) (.int x :: st) h := q_in rfl rfl
theorem r154_85 : zR d 154 Q 85 (o0 :: o1 :: o2 :: o3 :: o4 :: l) (.int x :: st) h = zR d 154 Q 87 (o0 :: o1 :: o2 :: o3 :: some (.int x) :: l) st h := q_in rfl rfl
theorem r154_87 : zR d 154 Q 87 (o0 :: o1 :: o2 :: o3 :: o4 :: some (.int x) :: l) st h = zR d 154 Q 90 (o0 :: o1 :: o2 :: o3 :: o4 :: some (.int (x + 1)) :: l) st h := q_in rfl rfl
theorem r154_90 : zR d 154 Q 90 lv st h = zR d 154 Q 37 lv st h := q_in rfl rfl
theorem r154_93 : zR d 154 Q 93 (o0 :: o1 :: some (.int x) :: l) st h = zR d 154 Q 94 (o0 :: o1 :: some (.int x) :: l) (.int x :: st) h := q_in rfl rfl
theorem r154_94 : zR d 154 Q 94 lv (.int x :: st) h = if x = 0 then zR d 154 Q 97 lv st h else zR d 154 Q 101 lv st h := q_if rfl rfl
theorem r154_97 : zR d 154 Q 97 (o0 :: o1 :: o2 :: some (.int x) :: l) st h = zR d 154 Q 98 (o0 :: o1 :: o2 :: some (.int x) :: l) (.int x :: st) h := q_in rfl rfl
theorem r154_98 : zR d 154 Q 98 lv st h = zR d 154 Q 103 lv st h := q_in rfl rfl
theorem r154_101 : zR d 154 Q 101 (o0 :: o1 :: o2 :: o3 :: some (.int x) :: l) st h = zR d 154 Q 103 (o0 :: o1 :: o2 :: o3 :: some (.int x) :: l) (.int x :: st) h := q_in rfl rfl
theorem r154_103 : zR d 154 Q 103 lv [.int x] h = Q (some (.int x)) h := q_retz rfl rfl (Or.inl rfl)
theorem r155_0 : zR d 155 Q 0 (o0 :: some (.int x) :: l) st h = zR d 155 Q 1 (o0 :: some (.int x) :: l) (.int x :: st) h := q_in rfl rfl
theorem r155_1 : zR d 155 Q 1 lv (.int x :: st) h = zR d 155 Q 2 lv (.long x.toInt64 :: st) h := q_in rfl rfl
theorem r155_2 : zR d 155 Q 2 lv st h = zR d 155 Q 3 lv (.long (Int32.toInt64 1) :: st) h := q_in rfl rfl
theorem r155_3 : zR d 155 Q 3 lv st h = zR d 155 Q 6 lv (.long (Int32.toInt64 60) :: st) h := q_in rfl rfl
theorem r155_6 : zR d 155 Q 6 lv [.long j2, .long j1, .long j0] h = zM d 106 [.long j0, .long j1, .long j2] h (fun r h' => zR d 155 Q 9 lv (r.toList ++ []) h') := q_clS rfl rfl ⟨Nat.le_of_ble_eq_true rfl, Nat.le_of_ble_eq_true rfl⟩
theorem r155_9 : zR d 155 Q 9 lv (.int x :: st) h = if x = 0 then zR d 155 Q 22 lv st h else zR d 155 Q 12 lv st h := q_if rfl rfl
theorem r155_12 : zR d 155 Q 12 (o0 :: o1 :: some (.int x) :: l) st h = zR d 155 Q 13 (o0 :: o1 :: some (.int x) :: l) (.int x :: st) h := q_in rfl rfl
theorem r155_13 : zR d 155 Q 13 lv (.int x :: st) h = zR d 155 Q 14 lv (.long x.toInt64 :: st) h := q_in rfl rfl
theorem r155_14 : zR d 155 Q 14 lv st h = zR d 155 Q 15 lv (.long (Int32.toInt64 0) :: st) h := q_in rfl rfl
theorem r155_15 : zR d 155 Q 15 lv st h = zR d 155 Q 16 lv (.long (Int32.toInt64 1) :: st) h := q_in rfl rfl
theorem r155_16 : zR d 155 Q 16 lv [.long j2, .long j1, .long j0] h = zM d 106 [.long j0, .long j1, .long j2] h (fun r h' => zR d 155 Q 19 lv (r.toList ++ []) h') := q_clS rfl rfl ⟨Nat.le_of_ble_eq_true rfl, Nat.le_of_ble_eq_true rfl⟩
theorem r155_19 : zR d 155 Q 19 lv (.int x :: st) h = if x = 0 then zR d 155 Q 22 lv st h else zR d 155 Q 25 lv st h := q_if rfl rfl
theorem r155_22 : zR d 155 Q 22 lv st h = zR d 155 Q 24 lv (.int (-1000000001) :: st) h := q_in rfl rfl
theorem r155_24 : zR d 155 Q 24 lv [.int x] h = Q (some (.int x)) h := q_retz rfl rfl (Or.inl rfl)
theorem r155_25 : zR d 155 Q 25 (some (.ref c) :: l) st h = zR d 155 Q 26 (some (.ref c) :: l) (.ref c :: st) h := q_in rfl rfl
theorem r155_26 : zR d 155 Q 26 lv [.ref 60] h = zM d 150 [.ref 60] h (fun r h' => zR d 155 Q 29 lv (r.toList ++ []) h') := (q_clV rfl rfl (Nat.le_of_ble_eq_true rfl)).trans (zand_t ⟨rfl, Nat.le_of_ble_eq_true rfl⟩)
theorem r155_29 : zR d 155 Q 29 lv st h = zR d 155 Q 30 lv (.int (-1) :: st) h := q_in rfl rfl
theorem r155_30 : zR d 155 Q 30 (o0 :: o1 :: o2 :: o3 :: l) (.int x :: st) h = zR d 155 Q 31 (o0 :: o1 :: o2 :: some (.int x) :: l) st h := q_in rfl rfl
theorem r155_31 : zR d 155 Q 31 lv st h = zR d 155 Q 32 lv (.int 0 :: st) h := q_in rfl rfl
theorem r155_32 : zR d 155 Q 32 (o0 :: o1 :: o2 :: o3 :: o4 :: l) (.int x :: st) h = zR d 155 Q 34 (o0 :: o1 :: o2 :: o3 :: some (.int x) :: l) st h := q_in rfl rfl
theorem r155_34 : zR d 155 Q 34 lv st h = zR d 155 Q 35 lv (.int 0 :: st) h := q_in rfl rfl
theorem r155_35 : zR d 155 Q 35 (o0 :: o1 :: o2 :: o3 :: o4 :: o5 :: l) (.int x :: st) h = zR d 155 Q 37 (o0 :: o1 :: o2 :: o3 :: o4 :: some (.int x) :: l) st h := q_in rfl rfl
theorem r155_37 : zR d 155 Q 37 (o0 :: o1 :: o2 :: o3 :: o4 :: some (.int x) :: l) st h = zR d 155 Q 39 (o0 :: o1 :: o2 :: o3 :: o4 :: some (.int x) :: l) (.int x :: st) h := q_in rfl rfl
theorem r155_39 : zR d 155 Q 39 lv st h = zR d 155 Q 41 lv (.int 10 :: st) h := q_in rfl rfl
theorem r155_41 : zR d 155 Q 41 lv (.int z :: .int x :: st) h = if x ≤ z then zR d 155 Q 44 lv st h else zR d 155 Q 94 lv st h := q_if rfl rfl
theorem r155_44 : zR d 155 Q 44 (some (.ref c) :: l) st h = zR d 155 Q 45 (some (.ref c) :: l) (.ref c :: st) h := q_in rfl rfl
theorem r155_45 : zR d 155 Q 45 lv (.ref 60 :: st) h = zR d 155 Q 48 lv (.ref 61 :: st) h := (q_and rfl rfl).trans (zand_t rfl)
theorem r155_48 : zR d 155 Q 48 lv st h = zR d 155 Q 50 lv (.int 11 :: st) h := q_in rfl rfl
theorem r155_50 : zR d 155 Q 50 (o0 :: o1 :: o2 :: o3 :: o4 :: some (.int x) :: l) st h = zR d 155 Q 52 (o0 :: o1 :: o2 :: o3 :: o4 :: some (.int x) :: l) (.int x :: st) h := q_in rfl rfl
theorem r155_52 : zR d 155 Q 52 lv (.int z :: .int x :: .ref c :: st) h = zas c x z h (fun h' => zR d 155 Q 53 lv st h') := q_iast rfl
theorem r155_53 : zR d 155 Q 53 (some (.ref c) :: l) st h = zR d 155 Q 54 (some (.ref c) :: l) (.ref c :: st) h := q_in rfl rfl
theorem r155_54 : zR d 155 Q 54 (o0 :: some (.int x) :: l) st h = zR d 155 Q 55 (o0 :: some (.int x) :: l) (.int x :: st) h := q_in rfl rfl
theorem r155_55 : zR d 155 Q 55 lv [.int x0, .ref 60] h = zM d 152 [.ref 60, .int x0] h (fun r h' => zR d 155 Q 58 lv (r.toList ++ []) h') := (q_clV rfl rfl (Nat.le_of_ble_eq_true rfl)).trans (zand_t ⟨rfl, Nat.le_of_ble_eq_true rfl⟩)
theorem r155_58 : zR d 155 Q 58 (some (.ref c) :: l) st h = zR d 155 Q 59 (some (.ref c) :: l) (.ref c :: st) h := q_in rfl rfl
theorem r155_59 : zR d 155 Q 59 lv (.ref 60 :: st) h = zR d 155 Q 62 lv (.ref 61 :: st) h := (q_and rfl rfl).trans (zand_t rfl)
theorem r155_62 : zR d 155 Q 62 lv st h = zR d 155 Q 63 lv (.int 4 :: st) h := q_in rfl rfl
theorem r155_63 : zR d 155 Q 63 lv (.int x :: .ref c :: st) h = zal c x h (fun w => zR d 155 Q 64 lv (.int w :: st) h) := q_iald rfl
theorem r155_64 : zR d 155 Q 64 (o0 :: o1 :: o2 :: o3 :: o4 :: o5 :: o6 :: l) (.int x :: st) h = zR d 155 Q 66 (o0 :: o1 :: o2 :: o3 :: o4 :: o5 :: some (.int x) :: l) st h := q_in rfl rfl
theorem r155_66 : zR d 155 Q 66 (some (.ref c) :: l) st h = zR d 155 Q 67 (some (.ref c) :: l) (.ref c :: st) h := q_in rfl rfl
theorem r155_67 : zR d 155 Q 67 lv [.ref 60] h = zM d 151 [.ref 60] h (fun r h' => zR d 155 Q 70 lv (r.toList ++ []) h') := (q_clV rfl rfl (Nat.le_of_ble_eq_true rfl)).trans (zand_t ⟨rfl, Nat.le_of_ble_eq_true rfl⟩)
theorem r155_70 : zR d 155 Q 70 (o0 :: o1 :: o2 :: some (.int x) :: l) st h = zR d 155 Q 71 (o0 :: o1 :: o2 :: some (.int x) :: l) (.int x :: st) h := q_in rfl rfl
theorem r155_71 : zR d 155 Q 71 lv (.int x :: st) h = if x < 0 then zR d 155 Q 81 lv st h else zR d 155 Q 74 lv st h := q_if rfl rfl
theorem r155_74 : zR d 155 Q 74 (o0 :: o1 :: o2 :: o3 :: o4 :: o5 :: some (.int x) :: l) st h = zR d 155 Q 76 (o0 :: o1 :: o2 :: o3 :: o4 :: o5 :: some (.int x) :: l) (.int x :: st) h := q_in rfl rfl
theorem r155_76 : zR d 155 Q 76 (o0 :: o1 :: o2 :: o3 :: some (.int x) :: l) st h = zR d 155 Q 78 (o0 :: o1 :: o2 :: o3 :: some (.int x) :: l) (.int x :: st) h := q_in rfl rfl
theorem r155_78 : zR d 155 Q 78 lv (.int z :: .int x :: st) h = if x ≤ z then zR d 155 Q 88 lv st h else zR d 155 Q 81 lv st h := q_if rfl rfl
theorem r155_81 : zR d 155 Q 81 (o0 :: o1 :: o2 :: o3 :: o4 :: some (.int x) :: l) st h = zR d 155 Q 83 (o0 :: o1 :: o2 :: o3 :: o4 :: some (.int x) :: l) (.int x :: st) h := q_in rfl rfl
theorem r155_83 : zR d 155 Q 83 (o0 :: o1 :: o2 :: o3 :: l) (.int x :: st) h = zR d 155 Q 84 (o0 :: o1 :: o2 :: some (.int x) :: l) st h := q_in rfl rfl
theorem r155_84 : zR d 155 Q 84 (o0 :: o1 :: o2 :: o3 :: o4 :: o5 :: some (.int x) :: l) st h = zR d 155 Q 86 (o0 :: o1 :: o2 :: o3 :: o4 :: o5 :: some (.int x) :: l) (.int x :: st) h := q_in rfl rfl
theorem r155_86 : zR d 155 Q 86 (o0 :: o1 :: o2 :: o3 :: o4 :: l) (.int x :: st) h = zR d 155 Q 88 (o0 :: o1 :: o2 :: o3 :: some (.int x) :: l) st h := q_in rfl rfl
theorem r155_88 : zR d 155 Q 88 (o0 :: o1 :: o2 :: o3 :: o4 :: some (.int x) :: l) st h = zR d 155 Q 91 (o0 :: o1 :: o2 :: o3 :: o4 :: some (.int (x + 1)) :: l) st h := q_in rfl rfl
theorem r155_91 : zR d 155 Q 91 lv st h = zR d 155 Q 37 lv st h := q_in rfl rfl
theorem r155_94 : zR d 155 Q 94 (o0 :: o1 :: some (.int x) :: l) st h = zR d 155 Q 95 (o0 :: o1 :: some (.int x) :: l) (.int x :: st) h := q_in rfl rfl
theorem r155_95 : zR d 155 Q 95 lv (.int x :: st) h = if x = 0 then zR d 155 Q 98 lv st h else zR d 155 Q 102 lv st h := q_if rfl rfl
theorem r155_98 : zR d 155 Q 98 (o0 :: o1 :: o2 :: some (.int x) :: l) st h = zR d 155 Q 99 (o0 :: o1 :: o2 :: some (.int x) :: l) (.int x :: st) h := q_in rfl rfl
theorem r155_99 : zR d 155 Q 99 lv st h = zR d 155 Q 104 lv st h := q_in rfl rfl
theorem r155_102 : zR d 155 Q 102 (o0 :: o1 :: o2 :: o3 :: some (.int x) :: l) st h = zR d 155 Q 104 (o0 :: o1 :: o2 :: o3 :: some (.int x) :: l) (.int x :: st) h := q_in rfl rfl
theorem r155_104 : zR d 155 Q 104 lv [.int x] h = Q (some (.int x)) h := q_retz rfl rfl (Or.inl rfl)
theorem r156_0 : zR d 156 Q 0 (o0 :: some (.int x) :: l) st h = zR d 156 Q 1 (o0 :: some (.int x) :: l) (.int x :: st) h := q_in rfl rfl
theorem r156_1 : zR d 156 Q 1 lv (.int x :: st) h = zR d 156 Q 2 lv (.long x.toInt64 :: st) h := q_in rfl rfl
theorem r156_2 : zR d 156 Q 2 lv st h = zR d 156 Q 3 lv (.long (Int32.toInt64 1) :: st) h := q_in rfl rfl
theorem r156_3 : zR d 156 Q 3 lv st h = zR d 156 Q 6 lv (.long (Int32.toInt64 60) :: st) h := q_in rfl rfl
theorem r156_6 : zR d 156 Q 6 lv [.long j2, .long j1, .long j0] h = zM d 106 [.long j0, .long j1, .long j2] h (fun r h' => zR d 156 Q 9 lv (r.toList ++ []) h') := q_clS rfl rfl ⟨Nat.le_of_ble_eq_true rfl, Nat.le_of_ble_eq_true rfl⟩
theorem r156_9 : zR d 156 Q 9 lv (.int x :: st) h = if x = 0 then zR d 156 Q 22 lv st h else zR d 156 Q 12 lv st h := q_if rfl rfl
theorem r156_12 : zR d 156 Q 12 (o0 :: o1 :: some (.int x) :: l) st h = zR d 156 Q 13 (o0 :: o1 :: some (.int x) :: l) (.int x :: st) h := q_in rfl rfl
theorem r156_13 : zR d 156 Q 13 lv (.int x :: st) h = zR d 156 Q 14 lv (.long x.toInt64 :: st) h := q_in rfl rfl
theorem r156_14 : zR d 156 Q 14 lv st h = zR d 156 Q 15 lv (.long (Int32.toInt64 0) :: st) h := q_in rfl rfl
theorem r156_15 : zR d 156 Q 15 lv st h = zR d 156 Q 16 lv (.long (Int32.toInt64 1) :: st) h := q_in rfl rfl
theorem r156_16 : zR d 156 Q 16 lv [.long j2, .long j1, .long j0] h = zM d 106 [.long j0, .long j1, .long j2] h (fun r h' => zR d 156 Q 19 lv (r.toList ++ []) h') := q_clS rfl rfl ⟨Nat.le_of_ble_eq_true rfl, Nat.le_of_ble_eq_true rfl⟩
theorem r156_19 : zR d 156 Q 19 lv (.int x :: st) h = if x = 0 then zR d 156 Q 22 lv st h else zR d 156 Q 25 lv st h := q_if rfl rfl
theorem r156_22 : zR d 156 Q 22 lv st h = zR d 156 Q 24 lv (.int (-1000000001) :: st) h := q_in rfl rfl
theorem r156_24 : zR d 156 Q 24 lv [.int x] h = Q (some (.int x)) h := q_retz rfl rfl (Or.inl rfl)
theorem r156_25 : zR d 156 Q 25 (some (.ref c) :: l) st h = zR d 156 Q 26 (some (.ref c) :: l) (.ref c :: st) h := q_in rfl rfl
theorem r156_26 : zR d 156 Q 26 lv [.ref 60] h = zM d 150 [.ref 60] h (fun r h' => zR d 156 Q 29 lv (r.toList ++ []) h') := (q_clV rfl rfl (Nat.le_of_ble_eq_true rfl)).trans (zand_t ⟨rfl, Nat.le_of_ble_eq_true rfl⟩)
theorem r156_29 : zR d 156 Q 29 lv st h = zR d 156 Q 30 lv (.int (-1) :: st) h := q_in rfl rfl
theorem r156_30 : zR d 156 Q 30 (o0 :: o1 :: o2 :: o3 :: l) (.int x :: st) h = zR d 156 Q 31 (o0 :: o1 :: o2 :: some (.int x) :: l) st h := q_in rfl rfl
theorem r156_31 : zR d 156 Q 31 lv st h = zR d 156 Q 32 lv (.int 0 :: st) h := q_in rfl rfl
theorem r156_32 : zR d 156 Q 32 (o0 :: o1 :: o2 :: o3 :: o4 :: l) (.int x :: st) h = zR d 156 Q 34 (o0 :: o1 :: o2 :: o3 :: some (.int x) :: l) st h := q_in rfl rfl
theorem r156_34 : zR d 156 Q 34 lv st h = zR d 156 Q 35 lv (.int 0 :: st) h := q_in rfl rfl
theorem r156_35 : zR d 156 Q 35 (o0 :: o1 :: o2 :: o3 :: o4 :: o5 :: l) (.int x :: st) h = zR d 156 Q 37 (o0 :: o1 :: o2 :: o3 :: o4 :: some (.int x) :: l) st h := q_in rfl rfl
theorem r156_37 : zR d 156 Q 37 (o0 :: o1 :: o2 :: o3 :: o4 :: some (.int x) :: l) st h = zR d 156 Q 39 (o0 :: o1 :: o2 :: o3 :: o4 :: some (.int x) :: l) (.int x :: st) h := q_in rfl rfl
theorem r156_39 : zR d 156 Q 39 (some (.ref c) :: l) st h = zR d 156 Q 40 (some (.ref c) :: l) (.ref c :: st) h := q_in rfl rfl
theorem r156_40 : zR d 156 Q 40 lv (.ref 60 :: st) h = zR d 156 Q 43 lv (.ref 61 :: st) h := (q_and rfl rfl).trans (zand_t rfl)
theorem r156_43 : zR d 156 Q 43 lv st h = zR d 156 Q 44 lv (.int 0 :: st) h := q_in rfl rfl
theorem r156_44 : zR d 156 Q 44 lv (.int x :: .ref c :: st) h = zal c x h (fun w => zR d 156 Q 45 lv (.int w :: st) h) := q_iald rfl
theorem r156_45 : zR d 156 Q 45 lv (.int z :: .int x :: st) h = if x < z then zR d 156 Q 48 lv st h else zR d 156 Q 95 lv st h := q_if rfl rfl
theorem r156_48 : zR d 156 Q 48 (some (.ref c) :: l) st h = zR d 156 Q 49 (some (.ref c) :: l) (.ref c :: st) h := q_in rfl rfl
theorem r156_49 : zR d 156 Q 49 (o0 :: o1 :: o2 :: o3 :: o4 :: some (.int x) :: l) st h = zR d 156 Q 51 (o0 :: o1 :: o2 :: o3 :: o4 :: some (.int x) :: l) (.int x :: st) h := q_in rfl rfl
theorem r156_51 : zR d 156 Q 51 lv (.int x :: .ref 60 :: st) h = zR d 156 Q 54 lv st (zhr h 60 (upd (h 60) 12 x)) := (q_and rfl rfl).trans (zand_t ⟨rfl, Or.inl rfl⟩)
theorem r156_54 : zR d 156 Q 54 (some (.ref c) :: l) st h = zR d 156 Q 55 (some (.ref c) :: l) (.ref c :: st) h := q_in rfl rfl
theorem r156_55 : zR d 156 Q 55 (o0 :: some (.int x) :: l) st h = zR d 156 Q 56 (o0 :: some (.int x) :: l) (.int x :: st) h := q_in rfl rfl
theorem r156_56 : zR d 156 Q 56 lv [.int x0, .ref 60] h = zM d 152 [.ref 60, .int x0] h (fun r h' => zR d 156 Q 59 lv (r.toList ++ []) h') := (q_clV rfl rfl (Nat.le_of_ble_eq_true rfl)).trans (zand_t ⟨rfl, Nat.le_of_ble_eq_true rfl⟩)
theorem r156_59 : zR d 156 Q 59 (some (.ref c) :: l) st h = zR d 156 Q 60 (some (.ref c) :: l) (.ref c :: st) h := q_in rfl rfl
theorem r156_60 : zR d 156 Q 60 lv (.ref 60 :: st) h = zR d 156 Q 63 lv (.ref 61 :: st) h := (q_and rfl rfl).trans (zand_t rfl)
theorem r156_63 : zR d 156 Q 63 lv st h = zR d 156 Q 64 lv (.int 4 :: st) h := q_in rfl rfl
theorem r156_64 : zR d 156 Q 64 lv (.int x :: .ref c :: st) h = zal c x h (fun w => zR d 156 Q 65 lv (.int w :: st) h) := q_iald rfl
theorem r156_65 : zR d 156 Q 65 (o0 :: o1 :: o2 :: o3 :: o4 :: o5 :: o6 :: l) (.int x :: st) h = zR d 156 Q 67 (o0 :: o1 :: o2 :: o3 :: o4 :: o5 :: some (.int x) :: l) st h := q_in rfl rfl
theorem r156_67 : zR d 156 Q 67 (some (.ref c) :: l) st h = zR d 156 Q 68 (some (.ref c) :: l) (.ref c :: st) h := q_in rfl rfl
theorem r156_68 : zR d 156 Q 68 lv [.ref 60] h = zM d 151 [.ref 60] h (fun r h' => zR d 156 Q 71 lv (r.toList ++ []) h') := (q_clV rfl rfl (Nat.le_of_ble_eq_true rfl)).trans (zand_t ⟨rfl, Nat.le_of_ble_eq_true rfl⟩)
theorem r156_71 : zR d 156 Q 71 (o0 :: o1 :: o2 :: some (.int x) :: l) st h = zR d 156 Q 72 (o0 :: o1 :: o2 :: some (.int x) :: l) (.int x :: st) h := q_in rfl rfl
theorem r156_72 : zR d 156 Q 72 lv (.int x :: st) h = if x < 0 then zR d 156 Q 82 lv st h else zR d 156 Q 75 lv st h := q_if rfl rfl
theorem r156_75 : zR d 156 Q 75 (o0 :: o1 :: o2 :: o3 :: o4 :: o5 :: some (.int x) :: l) st h = zR d 156 Q 77 (o0 :: o1 :: o2 :: o3 :: o4 :: o5 :: some (.int x) :: l) (.int x :: st) h := q_in rfl rfl
theorem r156_77 : zR d 156 Q 77 (o0 :: o1 :: o2 :: o3 :: some (.int x) :: l) st h = zR d 156 Q 79 (o0 :: o1 :: o2 :: o3 :: some (.int x) :: l) (.int x :: st) h := q_in rfl rfl
theorem r156_79 : zR d 156 Q 79 lv (.int z :: .int x :: st) h = if x ≤ z then zR d 156 Q 89 lv st h else zR d 156 Q 82 lv st h := q_if rfl rfl
theorem r156_82 : zR d 156 Q 82 (o0 :: o1 :: o2 :: o3 :: o4 :: some (.int x) :: l) st h = zR d 156 Q 84 (o0 :: o1 :: o2 :: o3 :: o4 :: some (.int x) :: l) (.int x :: st) h := q_in rfl rfl
theorem r156_84 : zR d 156 Q 84 (o0 :: o1 :: o2 :: o3 :: l) (.int x :: st) h = zR d 156 Q 85 (o0 :: o1 :: o2 :: some (.int x) :: l) st h := q_in rfl rfl
theorem r156_85 : zR d 156 Q 85 (o0 :: o1 :: o2 :: o3 :: o4 :: o5 :: some (.int x) :: l) st h = zR d 156 Q 87 (o0 :: o1 :: o2 :: o3 :: o4 :: o5 :: some (.int x) :: l) (.int x :: st) h := q_in rfl rfl
theorem r156_87 : zR d 156 Q 87 (o0 :: o1 :: o2 :: o3 :: o4 :: l) (.int x :: st) h = zR d 156 Q 89 (o0 :: o1 :: o2 :: o3 :: some (.int x) :: l) st h := q_in rfl rfl
theorem r156_89 : zR d 156 Q 89 (o0 :: o1 :: o2 :: o3 :: o4 :: some (.int x) :: l) st h = zR d 156 Q 92 (o0 :: o1 :: o2 :: o3 :: o4 :: some (.int (x + 1)) :: l) st h := q_in rfl rfl
theorem r156_92 : zR d 156 Q 92 lv st h = zR d 156 Q 37 lv st h := q_in rfl rfl
theorem r156_95 : zR d 156 Q 95 (some (.ref c) :: l) st h = zR d 156 Q 96 (some (.ref c) :: l) (.ref c :: st) h := q_in rfl rfl
theorem r156_96 : zR d 156 Q 96 lv st h = zR d 156 Q 97 lv (.int (-1) :: st) h := q_in rfl rfl
theorem r156_97 : zR d 156 Q 97 lv (.int x :: .ref 60 :: st) h = zR d 156 Q 100 lv st (zhr h 60 (upd (h 60) 12 x)) := (q_and rfl rfl).trans (zand_t ⟨rfl, Or.inl rfl⟩)
theorem r156_100 : zR d 156 Q 100 (o0 :: o1 :: o2 :: some (.int x) :: l) st h = zR d 156 Q 101 (o0 :: o1 :: o2 :: some (.int x) :: l) (.int x :: st) h := q_in rfl rfl
theorem r156_101 : zR d 156 Q 101 lv (.int x :: st) h = if x < 0 then zR d 156 Q 104 lv st h else zR d 156 Q 109 lv st h := q_if rfl rfl
theorem r156_104 : zR d 156 Q 104 lv st h = zR d 156 Q 106 lv (.int (-1000000005) :: st) h := q_in rfl rfl
theorem r156_106 : zR d 156 Q 106 lv st h = zR d 156 Q 119 lv st h := q_in rfl rfl
theorem r156_109 : zR d 156 Q 109 (o0 :: o1 :: some (.int x) :: l) st h = zR d 156 Q 110 (o0 :: o1 :: some (.int x) :: l) (.int x :: st) h := q_in rfl rfl
theorem r156_110 : zR d 156 Q 110 lv (.int x :: st) h = if x = 0 then zR d 156 Q 113 lv st h else zR d 156 Q 117 lv st h := q_if rfl rfl
theorem r156_113 : zR d 156 Q 113 (o0 :: o1 :: o2 :: some (.int x) :: l) st h = zR d 156 Q 114 (o0 :: o1 :: o2 :: some (.int x) :: l) (.int x :: st) h := q_in rfl rfl
theorem r156_114 : zR d 156 Q 114 lv st h = zR d 156 Q 119 lv st h := q_in rfl rfl
theorem r156_117 : zR d 156 Q 117 (o0 :: o1 :: o2 :: o3 :: some (.int x) :: l) st h = zR d 156 Q 119 (o0 :: o1 :: o2 :: o3 :: some (.int x) :: l) (.int x :: st) h := q_in rfl rfl
theorem r156_119 : zR d 156 Q 119 lv [.int x] h = Q (some (.int x)) h := q_retz rfl rfl (Or.inl rfl)
theorem r157_0 : zR d 157 Q 0 lv st h = zR d 157 Q 1 lv (.int 0 :: st) h := q_in rfl rfl
theorem r157_1 : zR d 157 Q 1 (o0 :: o1 :: l) (.int x :: st) h = zR d 157 Q 2 (o0 :: some (.int x) :: l) st h := q_in rfl rfl
theorem r157_2 : zR d 157 Q 2 (o0 :: some (.int x) :: l) st h = zR d 157 Q 3 (o0 :: some (.int x) :: l) (.int x :: st) h := q_in rfl rfl
theorem r157_3 : zR d 157 Q 3 (some (.ref c) :: l) st h = zR d 157 Q 4 (some (.ref c) :: l) (.ref c :: st) h := q_in rfl rfl
theorem r157_4 : zR d 157 Q 4 lv (.ref 60 :: st) h = zR d 157 Q 7 lv (.ref 61 :: st) h := (q_and rfl rfl).trans (zand_t rfl)
theorem r157_7 : zR d 157 Q 7 lv st h = zR d 157 Q 8 lv (.int 0 :: st) h := q_in rfl rfl
theorem r157_8 : zR d 157 Q 8 lv (.int x :: .ref c :: st) h = zal c x h (fun w => zR d 157 Q 9 lv (.int w :: st) h) := q_iald rfl
theorem r157_9 : zR d 157 Q 9 lv (.int z :: .int x :: st) h = if x < z then zR d 157 Q 12 lv st h else zR d 157 Q 29 lv st h := q_if rfl rfl
theorem r157_12 : zR d 157 Q 12 (some (.ref c) :: l) st h = zR d 157 Q 13 (some (.ref c) :: l) (.ref c :: st) h := q_in rfl rfl
theorem r157_13 : zR d 157 Q 13 (o0 :: some (.int x) :: l) st h = zR d 157 Q 14 (o0 :: some (.int x) :: l) (.int x :: st) h := q_in rfl rfl
theorem r157_14 : zR d 157 Q 14 lv st h = zR d 157 Q 15 lv (.int 4 :: st) h := q_in rfl rfl
theorem r157_15 : zR d 157 Q 15 lv [.int x1, .int x0, .ref 60] h = zM d 113 [.ref 60, .int x0, .int x1] h (fun r h' => zR d 157 Q 18 lv (r.toList ++ []) h') := (q_clV rfl rfl (Nat.le_of_ble_eq_true rfl)).trans (zand_t ⟨rfl, Nat.le_of_ble_eq_true rfl⟩)
theorem r157_18 : zR d 157 Q 18 lv (.int x :: st) h = if x = 0 then zR d 157 Q 21 lv st h else zR d 157 Q 23 lv st h := q_if rfl rfl
theorem r157_21 : zR d 157 Q 21 lv st h = zR d 157 Q 22 lv (.int 0 :: st) h := q_in rfl rfl
theorem r157_22f : zR d 157 Q 22 lv [.int 0] h = Q (some (.int 0)) h := q_retz rfl rfl (Or.inr (Or.inl rfl))
theorem r157_22t : zR d 157 Q 22 lv [.int 1] h = Q (some (.int 1)) h := q_retz rfl rfl (Or.inr (Or.inr rfl))
theorem r157_23 : zR d 157 Q 23 (o0 :: some (.int x) :: l) st h = zR d 157 Q 26 (o0 :: some (.int (x + 1)) :: l) st h := q_in rfl rfl
theorem r157_26 : zR d 157 Q 26 lv st h = zR d 157 Q 2 lv st h := q_in rfl rfl
theorem r157_29 : zR d 157 Q 29 lv st h = zR d 157 Q 30 lv (.int 1 :: st) h := q_in rfl rfl
theorem r157_30f : zR d 157 Q 30 lv [.int 0] h = Q (some (.int 0)) h := q_retz rfl rfl (Or.inr (Or.inl rfl))
theorem r157_30t : zR d 157 Q 30 lv [.int 1] h = Q (some (.int 1)) h := q_retz rfl rfl (Or.inr (Or.inr rfl))
theorem r158_0 : zR d 158 Q 0 (some (.ref c) :: l) st h = zR d 158 Q 1 (some (.ref c) :: l) (.ref c :: st) h := q_in rfl rfl
theorem r158_1 : zR d 158 Q 1 lv [.ref 60] h = zM d 150 [.ref 60] h (fun r h' => zR d 158 Q 4 lv (r.toList ++ []) h') := (q_clV rfl rfl (Nat.le_of_ble_eq_true rfl)).trans (zand_t ⟨rfl, Nat.le_of_ble_eq_true rfl⟩)
theorem r158_4 : zR d 158 Q 4 lv st h = zR d 158 Q 5 lv (.int (-1) :: st) h := q_in rfl rfl
theorem r158_5 : zR d 158 Q 5 (o0 :: o1 :: l) (.int x :: st) h = zR d 158 Q 6 (o0 :: some (.int x) :: l) st h := q_in rfl rfl
theorem r158_6 : zR d 158 Q 6 lv st h = zR d 158 Q 7 lv (.int 0 :: st) h := q_in rfl rfl
theorem r158_7 : zR d 158 Q 7 (o0 :: o1 :: o2 :: l) (.int x :: st) h = zR d 158 Q 8 (o0 :: o1 :: some (.int x) :: l) st h := q_in rfl rfl
theorem r158_8 : zR d 158 Q 8 (o0 :: o1 :: some (.int x) :: l) st h = zR d 158 Q 9 (o0 :: o1 :: some (.int x) :: l) (.int x :: st) h := q_in rfl rfl
theorem r158_9 : zR d 158 Q 9 lv st h = zR d 158 Q 11 lv (.int 100 :: st) h := q_in rfl rfl
theorem r158_11 : zR d 158 Q 11 lv (.int z :: .int x :: st) h = if x ≤ z then zR d 158 Q 14 lv st h else zR d 158 Q 41 lv st h := q_if rfl rfl
theorem r158_14 : zR d 158 Q 14 (o0 :: some (.int x) :: l) st h = zR d 158 Q 15 (o0 :: some (.int x) :: l) (.int x :: st) h := q_in rfl rfl
theorem r158_15 : zR d 158 Q 15 lv (.int x :: st) h = if x < 0 then zR d 158 Q 18 lv st h else zR d 158 Q 41 lv st h := q_if rfl rfl
theorem r158_18 : zR d 158 Q 18 (some (.ref c) :: l) st h = zR d 158 Q 19 (some (.ref c) :: l) (.ref c :: st) h := q_in rfl rfl
theorem r158_19 : zR d 158 Q 19 lv [.ref 60] h = zM d 157 [.ref 60] h (fun r h' => zR d 158 Q 22 lv (r.toList ++ []) h') := (q_clV rfl rfl (Nat.le_of_ble_eq_true rfl)).trans (zand_t ⟨rfl, Nat.le_of_ble_eq_true rfl⟩)
theorem r158_22 : zR d 158 Q 22 lv (.int x :: st) h = if x = 0 then zR d 158 Q 29 lv st h else zR d 158 Q 25 lv st h := q_if rfl rfl
theorem r158_25 : zR d 158 Q 25 (o0 :: o1 :: some (.int x) :: l) st h = zR d 158 Q 26 (o0 :: o1 :: some (.int x) :: l) (.int x :: st) h := q_in rfl rfl
theorem r158_26 : zR d 158 Q 26 lv st h = zR d 158 Q 30 lv st h := q_in rfl rfl
theorem r158_29 : zR d 158 Q 29 lv st h = zR d 158 Q 30 lv (.int (-1) :: st) h := q_in rfl rfl
theorem r158_30 : zR d 158 Q 30 (o0 :: o1 :: l) (.int x :: st) h = zR d 158 Q 31 (o0 :: some (.int x) :: l) st h := q_in rfl rfl
theorem r158_31 : zR d 158 Q 31 (some (.ref c) :: l) st h = zR d 158 Q 32 (some (.ref c) :: l) (.ref c :: st) h := q_in rfl rfl
theorem r158_32 : zR d 158 Q 32 lv [.ref 60] h = zM d 144 [.ref 60] h (fun r h' => zR d 158 Q 35 lv (r.toList ++ []) h') := (q_clV rfl rfl (Nat.le_of_ble_eq_true rfl)).trans (zand_t ⟨rfl, Nat.le_of_ble_eq_true rfl⟩)
theorem r158_35 : zR d 158 Q 35 (o0 :: o1 :: some (.int x) :: l) st h = zR d 158 Q 38 (o0 :: o1 :: some (.int (x + 1)) :: l) st h := q_in rfl rfl
theorem r158_38 : zR d 158 Q 38 lv st h = zR d 158 Q 8 lv st h := q_in rfl rfl
theorem r158_41 : zR d 158 Q 41 (some (.ref c) :: l) st h = zR d 158 Q 42 (some (.ref c) :: l) (.ref c :: st) h := q_in rfl rfl
theorem r158_42 : zR d 158 Q 42 lv [.ref 60] h = zM d 151 [.ref 60] h (fun r h' => zR d 158 Q 45 lv (r.toList ++ []) h') := (q_clV rfl rfl (Nat.le_of_ble_eq_true rfl)).trans (zand_t ⟨rfl, Nat.le_of_ble_eq_true rfl⟩)
theorem r158_45 : zR d 158 Q 45 (o0 :: some (.int x) :: l) st h = zR d 158 Q 46 (o0 :: some (.int x) :: l) (.int x :: st) h := q_in rfl rfl
theorem r158_46 : zR d 158 Q 46 lv [.int x0] h = zM d 107 [.int x0] h (fun r h' => zR d 158 Q 49 lv (r.toList ++ []) h') := q_clS rfl rfl ⟨Nat.le_of_ble_eq_true rfl, Nat.le_of_ble_eq_true rfl⟩
theorem r158_49 : zR d 158 Q 49 lv [.int x] h = Q (some (.int x)) h := q_retz rfl rfl (Or.inl rfl)
theorem r159_0 : zR d 159 Q 0 (some (.ref c) :: l) st h = zR d 159 Q 1 (some (.ref c) :: l) (.ref c :: st) h := q_in rfl rfl
theorem r159_1 : zR d 159 Q 1 lv st h = zR d 159 Q 2 lv (.int 2 :: st) h := q_in rfl rfl
theorem r159_2 : zR d 159 Q 2 lv [.int x0, .ref 60] h = zM d 179 [.ref 60, .int x0] h (fun r h' => zR d 159 Q 5 lv (r.toList ++ []) h') := (q_clV rfl rfl (Nat.le_of_ble_eq_true rfl)).trans (zand_t ⟨rfl, Nat.le_of_ble_eq_true rfl⟩)
theorem r159_5 : zR d 159 Q 5 (o0 :: o1 :: l) (.int x :: st) h = zR d 159 Q 6 (o0 :: some (.int x) :: l) st h := q_in rfl rfl
theorem r159_6 : zR d 159 Q 6 (o0 :: some (.int x) :: l) st h = zR d 159 Q 7 (o0 :: some (.int x) :: l) (.int x :: st) h := q_in rfl rfl
theorem r159_7 : zR d 159 Q 7 lv (.int x :: st) h = if x < 0 then zR d 159 Q 10 lv st h else zR d 159 Q 17 lv st h := q_if rfl rfl
theorem r159_10 : zR d 159 Q 10 (some (.ref c) :: l) st h = zR d 159 Q 11 (some (.ref c) :: l) (.ref c :: st) h := q_in rfl rfl
theorem r159_11 : zR d 159 Q 11 lv (.ref 60 :: st) h = zR d 159 Q 14 lv (.ref 61 :: st) h := (q_and rfl rfl).trans (zand_t rfl)
theorem r159_14 : zR d 159 Q 14 lv st h = zR d 159 Q 15 lv (.int 4 :: st) h := q_in rfl rfl
theorem r159_15 : zR d 159 Q 15 lv (.int x :: .ref c :: st) h = zal c x h (fun w => zR d 159 Q 16 lv (.int w :: st) h) := q_iald rfl
theorem r159_16 : zR d 159 Q 16 lv [.int x] h = Q (some (.int x)) h := q_retz rfl rfl (Or.inl rfl)
theorem r159_17 : zR d 159 Q 17 (some (.ref c) :: l) st h = zR d 159 Q 18 (some (.ref c) :: l) (.ref c :: st) h := q_in rfl rfl
theorem r159_18 : zR d 159 Q 18 lv (.ref 60 :: st) h = zR d 159 Q 21 lv (.ref 75 :: st) h := (q_and rfl rfl).trans (zand_t rfl)
theorem r159_21 : zR d 159 Q 21 lv st h = zR d 159 Q 23 lv (.int 116 :: st) h := q_in rfl rfl
theorem r159_23 : zR d 159 Q 23 (some (.ref c) :: l) st h = zR d 159 Q 24 (some (.ref c) :: l) (.ref c :: st) h := q_in rfl rfl
theorem r159_24 : zR d 159 Q 24 lv (.ref 60 :: st) h = zR d 159 Q 27 lv (.ref 61 :: st) h := (q_and rfl rfl).trans (zand_t rfl)
theorem r159_27 : zR d 159 Q 27 lv st h = zR d 159 Q 28 lv (.int 3 :: st) h := q_in rfl rfl
theorem r159_28 : zR d 159 Q 28 lv (.int x :: .ref c :: st) h = zal c x h (fun w => zR d 159 Q 29 lv (.int w :: st) h) := q_iald rfl
theorem r159_29 : zR d 159 Q 29 lv (.int z :: .int x :: .ref c :: st) h = zas c x z h (fun h' => zR d 159 Q 30 lv st h') := q_iast rfl
theorem r159_30 : zR d 159 Q 30 (some (.ref c) :: l) st h = zR d 159 Q 31 (some (.ref c) :: l) (.ref c :: st) h := q_in rfl rfl
theorem r159_31 : zR d 159 Q 31 lv (.ref 60 :: st) h = zR d 159 Q 34 lv (.ref 75 :: st) h := (q_and rfl rfl).trans (zand_t rfl)
theorem r159_34 : zR d 159 Q 34 lv st h = zR d 159 Q 36 lv (.int 112 :: st) h := q_in rfl rfl
theorem r159_36 : zR d 159 Q 36 (some (.ref c) :: l) st h = zR d 159 Q 37 (some (.ref c) :: l) (.ref c :: st) h := q_in rfl rfl
theorem r159_37 : zR d 159 Q 37 lv (.ref 60 :: st) h = zR d 159 Q 40 lv (.ref 61 :: st) h := (q_and rfl rfl).trans (zand_t rfl)
theorem r159_40 : zR d 159 Q 40 lv st h = zR d 159 Q 41 lv (.int 4 :: st) h := q_in rfl rfl
theorem r159_41 : zR d 159 Q 41 lv (.int x :: .ref c :: st) h = zal c x h (fun w => zR d 159 Q 42 lv (.int w :: st) h) := q_iald rfl
theorem r159_42 : zR d 159 Q 42 lv (.int z :: .int x :: .ref c :: st) h = zas c x z h (fun h' => zR d 159 Q 43 lv st h') := q_iast rfl
theorem r159_43 : zR d 159 Q 43 (some (.ref c) :: l) st h = zR d 159 Q 44 (some (.ref c) :: l) (.ref c :: st) h := q_in rfl rfl
theorem r159_44 : zR d 159 Q 44 (o0 :: some (.int x) :: l) st h = zR d 159 Q 45 (o0 :: some (.int x) :: l) (.int x :: st) h := q_in rfl rfl
theorem r159_45 : zR d 159 Q 45 lv [.int x0, .ref 60] h = zM d 182 [.ref 60, .int x0] h (fun r h' => zR d 159 Q 48 lv (r.toList ++ []) h') := (q_clV rfl rfl (Nat.le_of_ble_eq_true rfl)).trans (zand_t ⟨rfl, Nat.le_of_ble_eq_true rfl⟩)
theorem r159_48 : zR d 159 Q 48 lv [.int x] h = Q (some (.int x)) h := q_retz rfl rfl (Or.inl rfl)
theorem r160_0 : zR d 160 Q 0 (some (.ref c) :: l) st h = zR d 160 Q 1 (some (.ref c) :: l) (.ref c :: st) h := q_in rfl rfl
theorem r160_1 : zR d 160 Q 1 lv (.ref 60 :: st) h = zR d 160 Q 4 lv (.int (h 60 16) :: st) h := (q_and rfl rfl).trans (zand_t rfl)
theorem r160_4 : zR d 160 Q 4 lv st h = zR d 160 Q 6 lv (.int 12 :: st) h := q_in rfl rfl
theorem r160_6 : zR d 160 Q 6 lv (.int z :: .int x :: st) h = zR d 160 Q 7 lv (.int (x + z) :: st) h := q_in rfl rfl
theorem r160_7 : zR d 160 Q 7 lv st h = zR d 160 Q 9 lv (.int 96 :: st) h := q_in rfl rfl
theorem r160_9 : zR d 160 Q 9 lv (.int z :: .int x :: st) h = if x ≤ z then zR d 160 Q 15 lv st h else zR d 160 Q 12 lv st h := q_if rfl rfl
theorem r160_12 : zR d 160 Q 12 lv st h = zR d 160 Q 14 lv (.int (-1000000003) :: st) h := q_in rfl rfl
theorem r160_14 : zR d 160 Q 14 lv [.int x] h = Q (some (.int x)) h := q_retz rfl rfl (Or.inl rfl)
theorem r160_15 : zR d 160 Q 15 lv st h = zR d 160 Q 16 lv (.int 0 :: st) h := q_in rfl rfl
theorem r160_16 : zR d 160 Q 16 (o0 :: o1 :: o2 :: o3 :: o4 :: l) (.int x :: st) h = zR d 160 Q 18 (o0 :: o1 :: o2 :: o3 :: some (.int x) :: l) st h := q_in rfl rfl
theorem r160_18 : zR d 160 Q 18 (o0 :: o1 :: o2 :: o3 :: some (.int x) :: l) st h = zR d 160 Q 20 (o0 :: o1 :: o2 :: o3 :: some (.int x) :: l) (.int x :: st) h := q_in rfl rfl
theorem r160_20 : zR d 160 Q 20 lv st h = zR d 160 Q 22 lv (.int 12 :: st) h := q_in rfl rfl
theorem r160_22 : zR d 160 Q 22 lv (.int z :: .int x :: st) h = if x < z then zR d 160 Q 25 lv st h else zR d 160 Q 91 lv st h := q_if rfl rfl
theorem r160_25 : zR d 160 Q 25 (o0 :: o1 :: o2 :: o3 :: some (.int x) :: l) st h = zR d 160 Q 27 (o0 :: o1 :: o2 :: o3 :: some (.int x) :: l) (.int x :: st) h := q_in rfl rfl
theorem r160_27 : zR d 160 Q 27 lv st h = zR d 160 Q 28 lv (.int 4 :: st) h := q_in rfl rfl
theorem r160_28 : zR d 160 Q 28 lv (.int z :: .int x :: st) h = if x < z then zR d 160 Q 31 lv st h else zR d 160 Q 35 lv st h := q_if rfl rfl
theorem r160_31 : zR d 160 Q 31 (o0 :: some (.int x) :: l) st h = zR d 160 Q 32 (o0 :: some (.int x) :: l) (.int x :: st) h := q_in rfl rfl
theorem r160_32 : zR d 160 Q 32 lv st h = zR d 160 Q 47 lv st h := q_in rfl rfl
theorem r160_35 : zR d 160 Q 35 (o0 :: o1 :: o2 :: o3 :: some (.int x) :: l) st h = zR d 160 Q 37 (o0 :: o1 :: o2 :: o3 :: some (.int x) :: l) (.int x :: st) h := q_in rfl rfl
theorem r160_37 : zR d 160 Q 37 lv st h = zR d 160 Q 39 lv (.int 8 :: st) h := q_in rfl rfl
theorem r160_39 : zR d 160 Q 39 lv (.int z :: .int x :: st) h = if x < z then zR d 160 Q 42 lv st h else zR d 160 Q 46 lv st h := q_if rfl rfl
theorem r160_42 : zR d 160 Q 42 (o0 :: o1 :: some (.int x) :: l) st h = zR d 160 Q 43 (o0 :: o1 :: some (.int x) :: l) (.int x :: st) h := q_in rfl rfl
theorem r160_43 : zR d 160 Q 43 lv st h = zR d 160 Q 47 lv st h := q_in rfl rfl
theorem r160_46 : zR d 160 Q 46 (o0 :: o1 :: o2 :: some (.int x) :: l) st h = zR d 160 Q 47 (o0 :: o1 :: o2 :: some (.int x) :: l) (.int x :: st) h := q_in rfl rfl
theorem r160_47 : zR d 160 Q 47 (o0 :: o1 :: o2 :: o3 :: o4 :: o5 :: l) (.int x :: st) h = zR d 160 Q 49 (o0 :: o1 :: o2 :: o3 :: o4 :: some (.int x) :: l) st h := q_in rfl rfl
theorem r160_49 : zR d 160 Q 49 (some (.ref c) :: l) st h = zR d 160 Q 50 (some (.ref c) :: l) (.ref c :: st) h := q_in rfl rfl
theorem r160_50 : zR d 160 Q 50 lv (.ref 60 :: st) h = zR d 160 Q 53 lv (.ref 74 :: st) h := (q_and rfl rfl).trans (zand_t rfl)
theorem r160_53 : zR d 160 Q 53 (some (.ref c) :: l) st h = zR d 160 Q 54 (some (.ref c) :: l) (.ref c :: st) h := q_in rfl rfl
theorem r160_54 : zR d 160 Q 54 lv (.ref 60 :: st) h = zR d 160 Q 57 lv (.int (h 60 16) :: st) h := (q_and rfl rfl).trans (zand_t rfl)
theorem r160_57 : zR d 160 Q 57 (o0 :: o1 :: o2 :: o3 :: o4 :: some (.int x) :: l) st h = zR d 160 Q 59 (o0 :: o1 :: o2 :: o3 :: o4 :: some (.int x) :: l) (.int x :: st) h := q_in rfl rfl
theorem r160_59 : zR d 160 Q 59 lv st h = zR d 160 Q 61 lv (.int 24 :: st) h := q_in rfl rfl
theorem r160_61 : zR d 160 Q 61 lv st h = zR d 160 Q 63 lv (.int 8 :: st) h := q_in rfl rfl
theorem r160_63 : zR d 160 Q 63 (o0 :: o1 :: o2 :: o3 :: some (.int x) :: l) st h = zR d 160 Q 65 (o0 :: o1 :: o2 :: o3 :: some (.int x) :: l) (.int x :: st) h := q_in rfl rfl
theorem r160_65 : zR d 160 Q 65 lv st h = zR d 160 Q 66 lv (.int 4 :: st) h := q_in rfl rfl
theorem r160_66 : zR d 160 Q 66 lv (.int 4 :: .int x :: st) h = zR d 160 Q 67 lv (.int (x - x / 4 * 4) :: st) h := (q_and rfl rfl).trans (zand_t (by decide))
theorem r160_67 : zR d 160 Q 67 lv (.int z :: .int x :: st) h = zR d 160 Q 68 lv (.int (x * z) :: st) h := q_in rfl rfl
theorem r160_68 : zR d 160 Q 68 lv (.int z :: .int x :: st) h = zR d 160 Q 69 lv (.int (x - z) :: st) h := q_in rfl rfl
theorem r160_69 : zR d 160 Q 69 lv (.int z :: .int x :: st) h = zR d 160 Q 70 lv (.int (x >>> (z &&& 31)) :: st) h := q_in rfl rfl
theorem r160_70 : zR d 160 Q 70 lv st h = zR d 160 Q 73 lv (.int 255 :: st) h := q_in rfl rfl
theorem r160_73 : zR d 160 Q 73 lv (.int z :: .int x :: st) h = zR d 160 Q 74 lv (.int (x &&& z) :: st) h := q_in rfl rfl
theorem r160_74 : zR d 160 Q 74 lv (.int z :: .int x :: .ref c :: st) h = zas c x z h (fun h' => zR d 160 Q 75 lv st h') := q_iast rfl
theorem r160_75 : zR d 160 Q 75 (some (.ref c) :: l) st h = zR d 160 Q 76 (some (.ref c) :: l) (.ref c :: st) h := q_in rfl rfl
theorem r160_76 : zR d 160 Q 76 lv (.ref c :: st) h = zR d 160 Q 77 lv (.ref c :: .ref c :: st) h := q_in rfl rfl
theorem r160_77 : zR d 160 Q 77 lv (.ref 60 :: st) h = zR d 160 Q 80 lv (.int (h 60 16) :: st) h := (q_and rfl rfl).trans (zand_t rfl)
theorem r160_80 : zR d 160 Q 80 lv st h = zR d 160 Q 81 lv (.int 1 :: st) h := q_in rfl rfl
theorem r160_81 : zR d 160 Q 81 lv (.int z :: .int x :: st) h = zR d 160 Q 82 lv (.int (x + z) :: st) h := q_in rfl rfl
theorem r160_82 : zR d 160 Q 82 lv (.int x :: .ref 60 :: st) h = zR d 160 Q 85 lv st (zhr h 60 (upd (h 60) 16 x)) := (q_and rfl rfl).trans (zand_t ⟨rfl, Or.inl rfl⟩)
theorem r160_85 : zR d 160 Q 85 (o0 :: o1 :: o2 :: o3 :: some (.int x) :: l) st h = zR d 160 Q 88 (o0 :: o1 :: o2 :: o3 :: some (.int (x + 1)) :: l) st h := q_in rfl rfl
theorem r160_88 : zR d 160 Q 88 lv st h = zR d 160 Q 18 lv st h := q_in rfl rfl
theorem r160_91 : zR d 160 Q 91 (some (.ref c) :: l) st h = zR d 160 Q 92 (some (.ref c) :: l) (.ref c :: st) h := q_in rfl rfl
theorem r160_92 : zR d 160 Q 92 lv (.ref 60 :: st) h = zR d 160 Q 95 lv (.int (h 60 16) :: st) h := (q_and rfl rfl).trans (zand_t rfl)
theorem r160_95 : zR d 160 Q 95 lv [.int x] h = Q (some (.int x)) h := q_retz rfl rfl (Or.inl rfl)
theorem r161_0 : zR d 161 Q 0 (o0 :: some (.int x) :: l) st h = zR d 161 Q 1 (o0 :: some (.int x) :: l) (.int x :: st) h := q_in rfl rfl
theorem r161_1 : zR d 161 Q 1 lv (.int x :: st) h = zR d 161 Q 2 lv (.long x.toInt64 :: st) h := q_in rfl rfl
theorem r161_2 : zR d 161 Q 2 lv st h = zR d 161 Q 3 lv (.long (Int32.toInt64 0) :: st) h := q_in rfl rfl
theorem r161_3 : zR d 161 Q 3 (some (.ref c) :: l) st h = zR d 161 Q 4 (some (.ref c) :: l) (.ref c :: st) h := q_in rfl rfl
theorem r161_4 : zR d 161 Q 4 lv (.ref 60 :: st) h = zR d 161 Q 7 lv (.int (h 60 16) :: st) h := (q_and rfl rfl).trans (zand_t rfl)
theorem r161_7 : zR d 161 Q 7 lv (.int x :: st) h = zR d 161 Q 8 lv (.long x.toInt64 :: st) h := q_in rfl rfl
theorem r161_8 : zR d 161 Q 8 lv [.long j2, .long j1, .long j0] h = zM d 106 [.long j0, .long j1, .long j2] h (fun r h' => zR d 161 Q 11 lv (r.toList ++ []) h') := q_clS rfl rfl ⟨Nat.le_of_ble_eq_true rfl, Nat.le_of_ble_eq_true rfl⟩
theorem r161_11 : zR d 161 Q 11 lv (.int x :: st) h = if x = 0 then zR d 161 Q 14 lv st h else zR d 161 Q 17 lv st h := q_if rfl rfl
theorem r161_14 : zR d 161 Q 14 lv st h = zR d 161 Q 16 lv (.int (-1000000001) :: st) h := q_in rfl rfl
theorem r161_16 : zR d 161 Q 16 lv [.int x] h = Q (some (.int x)) h := q_retz rfl rfl (Or.inl rfl)
theorem r161_17 : zR d 161 Q 17 (some (.ref c) :: l) st h = zR d 161 Q 18 (some (.ref c) :: l) (.ref c :: st) h := q_in rfl rfl
theorem r161_18 : zR d 161 Q 18 (o0 :: some (.int x) :: l) st h = zR d 161 Q 19 (o0 :: some (.int x) :: l) (.int x :: st) h := q_in rfl rfl
theorem r161_19 : zR d 161 Q 19 lv (.int x :: .ref 60 :: st) h = zR d 161 Q 22 lv st (zhr h 60 (upd (h 60) 16 x)) := (q_and rfl rfl).trans (zand_t ⟨rfl, Or.inl rfl⟩)
theorem r161_22 : zR d 161 Q 22 (o0 :: some (.int x) :: l) st h = zR d 161 Q 23 (o0 :: some (.int x) :: l) (.int x :: st) h := q_in rfl rfl
theorem r161_23 : zR d 161 Q 23 lv [.int x] h = Q (some (.int x)) h := q_retz rfl rfl (Or.inl rfl)
theorem r162_0 : zR d 162 Q 0 (o0 :: some (.int x) :: l) st h = zR d 162 Q 1 (o0 :: some (.int x) :: l) (.int x :: st) h := q_in rfl rfl
theorem r162_1 : zR d 162 Q 1 (some (.ref c) :: l) st h = zR d 162 Q 2 (some (.ref c) :: l) (.ref c :: st) h := q_in rfl rfl
theorem r162_2 : zR d 162 Q 2 lv (.ref 60 :: st) h = zR d 162 Q 5 lv (.int (h 60 16) :: st) h := (q_and rfl rfl).trans (zand_t rfl)
theorem r162_5 : zR d 162 Q 5 lv (.int z :: .int x :: st) h = if x < z then zR d 162 Q 8 lv st h else zR d 162 Q 31 lv st h := q_if rfl rfl
theorem r162_8 : zR d 162 Q 8 (some (.ref c) :: l) st h = zR d 162 Q 9 (some (.ref c) :: l) (.ref c :: st) h := q_in rfl rfl
theorem r162_9 : zR d 162 Q 9 lv (.ref 60 :: st) h = zR d 162 Q 12 lv (.ref 74 :: st) h := (q_and rfl rfl).trans (zand_t rfl)
theorem r162_12 : zR d 162 Q 12 (o0 :: some (.int x) :: l) st h = zR d 162 Q 13 (o0 :: some (.int x) :: l) (.int x :: st) h := q_in rfl rfl
theorem r162_13 : zR d 162 Q 13 lv (.int x :: .ref c :: st) h = zal c x h (fun w => zR d 162 Q 14 lv (.int w :: st) h) := q_iald rfl
theorem r162_14 : zR d 162 Q 14 lv (.int x :: st) h = zR d 162 Q 15 lv (.long x.toInt64 :: st) h := q_in rfl rfl
theorem r162_15 : zR d 162 Q 15 lv st h = zR d 162 Q 18 lv (.long (Int32.toInt64 97) :: st) h := q_in rfl rfl
theorem r162_18 : zR d 162 Q 18 lv st h = zR d 162 Q 21 lv (.long (Int32.toInt64 122) :: st) h := q_in rfl rfl
theorem r162_21 : zR d 162 Q 21 lv [.long j2, .long j1, .long j0] h = zM d 106 [.long j0, .long j1, .long j2] h (fun r h' => zR d 162 Q 24 lv (r.toList ++ []) h') := q_clS rfl rfl ⟨Nat.le_of_ble_eq_true rfl, Nat.le_of_ble_eq_true rfl⟩
theorem r162_24 : zR d 162 Q 24 lv (.int x :: st) h = if x = 0 then zR d 162 Q 31 lv st h else zR d 162 Q 27 lv st h := q_if rfl rfl
theorem r162_27 : zR d 162 Q 27 lv st h = zR d 162 Q 28 lv (.int 1 :: st) h := q_in rfl rfl
theorem r162_28 : zR d 162 Q 28 lv st h = zR d 162 Q 32 lv st h := q_in rfl rfl
theorem r162_31 : zR d 162 Q 31 lv st h = zR d 162 Q 32 lv (.int 0 :: st) h := q_in rfl rfl
theorem r162_32f : zR d 162 Q 32 lv [.int 0] h = Q (some (.int 0)) h := q_retz rfl rfl (Or.inr (Or.inl rfl))
theorem r162_32t : zR d 162 Q 32 lv [.int 1] h = Q (some (.int 1)) h := q_retz rfl rfl (Or.inr (Or.inr rfl))
theorem r163_0 : zR d 163 Q 0 (o0 :: some (.int x) :: l) st h = zR d 163 Q 1 (o0 :: some (.int x) :: l) (.int x :: st) h := q_in rfl rfl
theorem r163_1 : zR d 163 Q 1 (some (.ref c) :: l) st h = zR d 163 Q 2 (some (.ref c) :: l) (.ref c :: st) h := q_in rfl rfl
theorem r163_2 : zR d 163 Q 2 lv (.ref 60 :: st) h = zR d 163 Q 5 lv (.int (h 60 16) :: st) h := (q_and rfl rfl).trans (zand_t rfl)
theorem r163_5 : zR d 163 Q 5 lv (.int z :: .int x :: st) h = if x < z then zR d 163 Q 8 lv st h else zR d 163 Q 31 lv st h := q_if rfl rfl
theorem r163_8 : zR d 163 Q 8 (some (.ref c) :: l) st h = zR d 163 Q 9 (some (.ref c) :: l) (.ref c :: st) h := q_in rfl rfl
theorem r163_9 : zR d 163 Q 9 lv (.ref 60 :: st) h = zR d 163 Q 12 lv (.ref 74 :: st) h := (q_and rfl rfl).trans (zand_t rfl)
theorem r163_12 : zR d 163 Q 12 (o0 :: some (.int x) :: l) st h = zR d 163 Q 13 (o0 :: some (.int x) :: l) (.int x :: st) h := q_in rfl rfl
theorem r163_13 : zR d 163 Q 13 lv (.int x :: .ref c :: st) h = zal c x h (fun w => zR d 163 Q 14 lv (.int w :: st) h) := q_iald rfl
theorem r163_14 : zR d 163 Q 14 lv (.int x :: st) h = zR d 163 Q 15 lv (.long x.toInt64 :: st) h := q_in rfl rfl
theorem r163_15 : zR d 163 Q 15 lv st h = zR d 163 Q 18 lv (.long (Int32.toInt64 48) :: st) h := q_in rfl rfl
theorem r163_18 : zR d 163 Q 18 lv st h = zR d 163 Q 21 lv (.long (Int32.toInt64 57) :: st) h := q_in rfl rfl
theorem r163_21 : zR d 163 Q 21 lv [.long j2, .long j1, .long j0] h = zM d 106 [.long j0, .long j1, .long j2] h (fun r h' => zR d 163 Q 24 lv (r.toList ++ []) h') := q_clS rfl rfl ⟨Nat.le_of_ble_eq_true rfl, Nat.le_of_ble_eq_true rfl⟩
theorem r163_24 : zR d 163 Q 24 lv (.int x :: st) h = if x = 0 then zR d 163 Q 31 lv st h else zR d 163 Q 27 lv st h := q_if rfl rfl
theorem r163_27 : zR d 163 Q 27 lv st h = zR d 163 Q 28 lv (.int 1 :: st) h := q_in rfl rfl
theorem r163_28 : zR d 163 Q 28 lv st h = zR d 163 Q 32 lv st h := q_in rfl rfl
theorem r163_31 : zR d 163 Q 31 lv st h = zR d 163 Q 32 lv (.int 0 :: st) h := q_in rfl rfl
theorem r163_32f : zR d 163 Q 32 lv [.int 0] h = Q (some (.int 0)) h := q_retz rfl rfl (Or.inr (Or.inl rfl))
theorem r163_32t : zR d 163 Q 32 lv [.int 1] h = Q (some (.int 1)) h := q_retz rfl rfl (Or.inr (Or.inr rfl))
end
