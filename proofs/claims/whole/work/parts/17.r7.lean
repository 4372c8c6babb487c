section
variable {d : Nat} {Q : Option Value → zH → Prop} {lv l : zL} {st : zS} {h : zH} {x z : Int32} {c : Nat} {i j : Int64} {o0 o1 o2 o3 o4 o5 o6 o7 o8 o9 o10 o11 o12 : Option Value} {x0 x1 x2 x3 x4 y0 y1 y2 y3 : Int32} {c0 c1 c2 c3 c4 a0 a1 a2 a3 : Nat} {j0 j1 j2 k0 k1 : Int64}

theorem r182_0 : zR d 182 Q 0 lv st h = zR d 182 Q 1 lv (.int 0 :: st) h := q_in rfl rfl
theorem r182_1 : zR d 182 Q 1 (o0 :: o1 :: o2 :: l) (.int x :: st) h = zR d 182 Q 2 (o0 :: o1 :: some (.int x) :: l) st h := q_in rfl rfl
theorem r182_2 : zR d 182 Q 2 lv st h = zR d 182 Q 3 lv (.int 0 :: st) h := q_in rfl rfl
theorem r182_3 : zR d 182 Q 3 (o0 :: o1 :: o2 :: o3 :: l) (.int x :: st) h = zR d 182 Q 4 (o0 :: o1 :: o2 :: some (.int x) :: l) st h := q_in rfl rfl
theorem r182_4 : zR d 182 Q 4 (o0 :: o1 :: o2 :: some (.int x) :: l) st h = zR d 182 Q 5 (o0 :: o1 :: o2 :: some (.int x) :: l) (.int x :: st) h := q_in rfl rfl
theorem r182_5 : zR d 182 Q 5 (some (.ref c) :: l) st h = zR d 182 Q 6 (some (.ref c) :: l) (.ref c :: st) h := q_in rfl rfl
theorem r182_6 : zR d 182 Q 6 lv (.ref 60 :: st) h = zR d 182 Q 9 lv (.ref 61 :: st) h := (q_and rfl rfl).trans (zand_t rfl)
theorem r182_9 : zR d 182 Q 9 (some (.ref c) :: l) st h = zR d 182 Q 10 (some (.ref c) :: l) (.ref c :: st) h := q_in rfl rfl
theorem r182_10 : zR d 182 Q 10 (o0 :: some (.int x) :: l) st h = zR d 182 Q 11 (o0 :: some (.int x) :: l) (.int x :: st) h := q_in rfl rfl
theorem r182_11 : zR d 182 Q 11 lv [.int x0, .ref 60, .ref a0, .int y1] h = zM d 112 [.ref 60, .int x0] h (fun r h' => zR d 182 Q 14 lv (r.toList ++ [.ref a0, .int y1]) h') := (q_clV rfl rfl (Nat.le_of_ble_eq_true rfl)).trans (zand_t ⟨rfl, Nat.le_of_ble_eq_true rfl⟩)
theorem r182_14 : zR d 182 Q 14 lv st h = zR d 182 Q 15 lv (.int 2 :: st) h := q_in rfl rfl
theorem r182_15 : zR d 182 Q 15 lv (.int z :: .int x :: st) h = zR d 182 Q 16 lv (.int (x + z) :: st) h := q_in rfl rfl
theorem r182_16 : zR d 182 Q 16 lv (.int x :: .ref c :: st) h = zal c x h (fun w => zR d 182 Q 17 lv (.int w :: st) h) := q_iald rfl
theorem r182_17 : zR d 182 Q 17 lv (.int z :: .int x :: st) h = if x < z then zR d 182 Q 20 lv st h else zR d 182 Q 163 lv st h := q_if rfl rfl
theorem r182_20 : zR d 182 Q 20 (some (.ref c) :: l) st h = zR d 182 Q 21 (some (.ref c) :: l) (.ref c :: st) h := q_in rfl rfl
theorem r182_21 : zR d 182 Q 21 lv (.ref 60 :: st) h = zR d 182 Q 24 lv (.ref 61 :: st) h := (q_and rfl rfl).trans (zand_t rfl)
theorem r182_24 : zR d 182 Q 24 (some (.ref c) :: l) st h = zR d 182 Q 25 (some (.ref c) :: l) (.ref c :: st) h := q_in rfl rfl
theorem r182_25 : zR d 182 Q 25 (o0 :: some (.int x) :: l) st h = zR d 182 Q 26 (o0 :: some (.int x) :: l) (.int x :: st) h := q_in rfl rfl
theorem r182_26 : zR d 182 Q 26 lv [.int x0, .ref 60, .ref a0] h = zM d 112 [.ref 60, .int x0] h (fun r h' => zR d 182 Q 29 lv (r.toList ++ [.ref a0]) h') := (q_clV rfl rfl (Nat.le_of_ble_eq_true rfl)).trans (zand_t ⟨rfl, Nat.le_of_ble_eq_true rfl⟩)
theorem r182_29 : zR d 182 Q 29 lv st h = zR d 182 Q 30 lv (.int 4 :: st) h := q_in rfl rfl
theorem r182_30 : zR d 182 Q 30 lv (.int z :: .int x :: st) h = zR d 182 Q 31 lv (.int (x + z) :: st) h := q_in rfl rfl
theorem r182_31 : zR d 182 Q 31 lv st h = zR d 182 Q 32 lv (.int 2 :: st) h := q_in rfl rfl
theorem r182_32 : zR d 182 Q 32 (o0 :: o1 :: o2 :: some (.int x) :: l) st h = zR d 182 Q 33 (o0 :: o1 :: o2 :: some (.int x) :: l) (.int x :: st) h := q_in rfl rfl
theorem r182_33 : zR d 182 Q 33 lv (.int z :: .int x :: st) h = zR d 182 Q 34 lv (.int (x * z) :: st) h := q_in rfl rfl
theorem r182_34 : zR d 182 Q 34 lv (.int z :: .int x :: st) h = zR d 182 Q 35 lv (.int (x + z) :: st) h := q_in rfl rfl
theorem r182_35 : zR d 182 Q 35 lv (.int x :: .ref c :: st) h = zal c x h (fun w => zR d 182 Q 36 lv (.int w :: st) h) := q_iald rfl
theorem r182_36 : zR d 182 Q 36 (o0 :: o1 :: o2 :: o3 :: o4 :: l) (.int x :: st) h = zR d 182 Q 38 (o0 :: o1 :: o2 :: o3 :: some (.int x) :: l) st h := q_in rfl rfl
theorem r182_38 : zR d 182 Q 38 (some (.ref c) :: l) st h = zR d 182 Q 39 (some (.ref c) :: l) (.ref c :: st) h := q_in rfl rfl
theorem r182_39 : zR d 182 Q 39 lv (.ref 60 :: st) h = zR d 182 Q 42 lv (.ref 61 :: st) h := (q_and rfl rfl).trans (zand_t rfl)
theorem r182_42 : zR d 182 Q 42 (some (.ref c) :: l) st h = zR d 182 Q 43 (some (.ref c) :: l) (.ref c :: st) h := q_in rfl rfl
theorem r182_43 : zR d 182 Q 43 (o0 :: some (.int x) :: l) st h = zR d 182 Q 44 (o0 :: some (.int x) :: l) (.int x :: st) h := q_in rfl rfl
theorem r182_44 : zR d 182 Q 44 lv [.int x0, .ref 60, .ref a0] h = zM d 112 [.ref 60, .int x0] h (fun r h' => zR d 182 Q 47 lv (r.toList ++ [.ref a0]) h') := (q_clV rfl rfl (Nat.le_of_ble_eq_true rfl)).trans (zand_t ⟨rfl, Nat.le_of_ble_eq_true rfl⟩)
theorem r182_47 : zR d 182 Q 47 lv st h = zR d 182 Q 48 lv (.int 4 :: st) h := q_in rfl rfl
theorem r182_48 : zR d 182 Q 48 lv (.int z :: .int x :: st) h = zR d 182 Q 49 lv (.int (x + z) :: st) h := q_in rfl rfl
theorem r182_49 : zR d 182 Q 49 lv st h = zR d 182 Q 50 lv (.int 2 :: st) h := q_in rfl rfl
theorem r182_50 : zR d 182 Q 50 (o0 :: o1 :: o2 :: some (.int x) :: l) st h = zR d 182 Q 51 (o0 :: o1 :: o2 :: some (.int x) :: l) (.int x :: st) h := q_in rfl rfl
theorem r182_51 : zR d 182 Q 51 lv (.int z :: .int x :: st) h = zR d 182 Q 52 lv (.int (x * z) :: st) h := q_in rfl rfl
theorem r182_52 : zR d 182 Q 52 lv (.int z :: .int x :: st) h = zR d 182 Q 53 lv (.int (x + z) :: st) h := q_in rfl rfl
theorem r182_53 : zR d 182 Q 53 lv st h = zR d 182 Q 54 lv (.int 1 :: st) h := q_in rfl rfl
theorem r182_54 : zR d 182 Q 54 lv (.int z :: .int x :: st) h = zR d 182 Q 55 lv (.int (x + z) :: st) h := q_in rfl rfl
theorem r182_55 : zR d 182 Q 55 lv (.int x :: .ref c :: st) h = zal c x h (fun w => zR d 182 Q 56 lv (.int w :: st) h) := q_iald rfl
theorem r182_56 : zR d 182 Q 56 (o0 :: o1 :: o2 :: o3 :: o4 :: o5 :: l) (.int x :: st) h = zR d 182 Q 58 (o0 :: o1 :: o2 :: o3 :: o4 :: some (.int x) :: l) st h := q_in rfl rfl
theorem r182_58 : zR d 182 Q 58 (o0 :: o1 :: o2 :: o3 :: some (.int x) :: l) st h = zR d 182 Q 60 (o0 :: o1 :: o2 :: o3 :: some (.int x) :: l) (.int x :: st) h := q_in rfl rfl
theorem r182_60 : zR d 182 Q 60 lv st h = zR d 182 Q 61 lv (.int 2 :: st) h := q_in rfl rfl
theorem r182_61 : zR d 182 Q 61 lv (.int z :: .int x :: st) h = if x = z then zR d 182 Q 93 lv st h else zR d 182 Q 64 lv st h := q_if rfl rfl
theorem r182_64 : zR d 182 Q 64 (some (.ref c) :: l) st h = zR d 182 Q 65 (some (.ref c) :: l) (.ref c :: st) h := q_in rfl rfl
theorem r182_65 : zR d 182 Q 65 lv (.ref 60 :: st) h = zR d 182 Q 68 lv (.ref 76 :: st) h := (q_and rfl rfl).trans (zand_t rfl)
theorem r182_68 : zR d 182 Q 68 (o0 :: o1 :: some (.int x) :: l) st h = zR d 182 Q 69 (o0 :: o1 :: some (.int x) :: l) (.int x :: st) h := q_in rfl rfl
theorem r182_69 : zR d 182 Q 69 (o0 :: o1 :: o2 :: o3 :: some (.int x) :: l) st h = zR d 182 Q 71 (o0 :: o1 :: o2 :: o3 :: some (.int x) :: l) (.int x :: st) h := q_in rfl rfl
theorem r182_71 : zR d 182 Q 71 lv (.int x :: st) h = if x = 0 then zR d 182 Q 74 lv st h else zR d 182 Q 79 lv st h := q_if rfl rfl
theorem r182_74 : zR d 182 Q 74 (o0 :: o1 :: o2 :: o3 :: o4 :: some (.int x) :: l) st h = zR d 182 Q 76 (o0 :: o1 :: o2 :: o3 :: o4 :: some (.int x) :: l) (.int x :: st) h := q_in rfl rfl
theorem r182_76 : zR d 182 Q 76 lv st h = zR d 182 Q 86 lv st h := q_in rfl rfl
theorem r182_79 : zR d 182 Q 79 (some (.ref c) :: l) st h = zR d 182 Q 80 (some (.ref c) :: l) (.ref c :: st) h := q_in rfl rfl
theorem r182_80 : zR d 182 Q 80 lv (.ref 60 :: st) h = zR d 182 Q 83 lv (.ref 75 :: st) h := (q_and rfl rfl).trans (zand_t rfl)
theorem r182_83 : zR d 182 Q 83 (o0 :: o1 :: o2 :: o3 :: o4 :: some (.int x) :: l) st h = zR d 182 Q 85 (o0 :: o1 :: o2 :: o3 :: o4 :: some (.int x) :: l) (.int x :: st) h := q_in rfl rfl
theorem r182_85 : zR d 182 Q 85 lv (.int x :: .ref c :: st) h = zal c x h (fun w => zR d 182 Q 86 lv (.int w :: st) h) := q_iald rfl
theorem r182_86 : zR d 182 Q 86 lv (.int z :: .int x :: .ref c :: st) h = zas c x z h (fun h' => zR d 182 Q 87 lv st h') := q_iast rfl
theorem r182_87 : zR d 182 Q 87 (o0 :: o1 :: some (.int x) :: l) st h = zR d 182 Q 90 (o0 :: o1 :: some (.int (x + 1)) :: l) st h := q_in rfl rfl
theorem r182_90 : zR d 182 Q 90 lv st h = zR d 182 Q 157 lv st h := q_in rfl rfl
theorem r182_93 : zR d 182 Q 93 (o0 :: o1 :: o2 :: o3 :: o4 :: some (.int x) :: l) st h = zR d 182 Q 95 (o0 :: o1 :: o2 :: o3 :: o4 :: some (.int x) :: l) (.int x :: st) h := q_in rfl rfl
theorem r182_95 : zR d 182 Q 95 lv st h = zR d 182 Q 97 lv (.int 33 :: st) h := q_in rfl rfl
theorem r182_97 : zR d 182 Q 97 lv (.int z :: .int x :: st) h = if x = z then zR d 182 Q 100 lv st h else zR d 182 Q 127 lv st h := q_if rfl rfl
theorem r182_100 : zR d 182 Q 100 (some (.ref c) :: l) st h = zR d 182 Q 101 (some (.ref c) :: l) (.ref c :: st) h := q_in rfl rfl
theorem r182_101 : zR d 182 Q 101 lv (.ref 60 :: st) h = zR d 182 Q 104 lv (.ref 76 :: st) h := (q_and rfl rfl).trans (zand_t rfl)
theorem r182_104 : zR d 182 Q 104 (o0 :: o1 :: some (.int x) :: l) st h = zR d 182 Q 105 (o0 :: o1 :: some (.int x) :: l) (.int x :: st) h := q_in rfl rfl
theorem r182_105 : zR d 182 Q 105 lv st h = zR d 182 Q 106 lv (.int 1 :: st) h := q_in rfl rfl
theorem r182_106 : zR d 182 Q 106 lv (.int z :: .int x :: st) h = zR d 182 Q 107 lv (.int (x - z) :: st) h := q_in rfl rfl
theorem r182_107 : zR d 182 Q 107 (some (.ref c) :: l) st h = zR d 182 Q 108 (some (.ref c) :: l) (.ref c :: st) h := q_in rfl rfl
theorem r182_108 : zR d 182 Q 108 lv (.ref 60 :: st) h = zR d 182 Q 111 lv (.ref 76 :: st) h := (q_and rfl rfl).trans (zand_t rfl)
theorem r182_111 : zR d 182 Q 111 (o0 :: o1 :: some (.int x) :: l) st h = zR d 182 Q 112 (o0 :: o1 :: some (.int x) :: l) (.int x :: st) h := q_in rfl rfl
theorem r182_112 : zR d 182 Q 112 lv st h = zR d 182 Q 113 lv (.int 1 :: st) h := q_in rfl rfl
theorem r182_113 : zR d 182 Q 113 lv (.int z :: .int x :: st) h = zR d 182 Q 114 lv (.int (x - z) :: st) h := q_in rfl rfl
theorem r182_114 : zR d 182 Q 114 lv (.int x :: .ref c :: st) h = zal c x h (fun w => zR d 182 Q 115 lv (.int w :: st) h) := q_iald rfl
theorem r182_115 : zR d 182 Q 115 lv (.int x :: st) h = if x = 0 then zR d 182 Q 118 lv st h else zR d 182 Q 122 lv st h := q_if rfl rfl
theorem r182_118 : zR d 182 Q 118 lv st h = zR d 182 Q 119 lv (.int 1 :: st) h := q_in rfl rfl
theorem r182_119 : zR d 182 Q 119 lv st h = zR d 182 Q 123 lv st h := q_in rfl rfl
theorem r182_122 : zR d 182 Q 122 lv st h = zR d 182 Q 123 lv (.int 0 :: st) h := q_in rfl rfl
theorem r182_123 : zR d 182 Q 123 lv (.int z :: .int x :: .ref c :: st) h = zas c x z h (fun h' => zR d 182 Q 124 lv st h') := q_iast rfl
theorem r182_124 : zR d 182 Q 124 lv st h = zR d 182 Q 157 lv st h := q_in rfl rfl
theorem r182_127 : zR d 182 Q 127 (o0 :: o1 :: some (.int x) :: l) st h = zR d 182 Q 130 (o0 :: o1 :: some (.int (x + (-1))) :: l) st h := q_in rfl rfl
theorem r182_130 : zR d 182 Q 130 (some (.ref c) :: l) st h = zR d 182 Q 131 (some (.ref c) :: l) (.ref c :: st) h := q_in rfl rfl
theorem r182_131 : zR d 182 Q 131 lv (.ref 60 :: st) h = zR d 182 Q 134 lv (.ref 76 :: st) h := (q_and rfl rfl).trans (zand_t rfl)
theorem r182_134 : zR d 182 Q 134 (o0 :: o1 :: some (.int x) :: l) st h = zR d 182 Q 135 (o0 :: o1 :: some (.int x) :: l) (.int x :: st) h := q_in rfl rfl
theorem r182_135 : zR d 182 Q 135 lv st h = zR d 182 Q 136 lv (.int 1 :: st) h := q_in rfl rfl
theorem r182_136 : zR d 182 Q 136 lv (.int z :: .int x :: st) h = zR d 182 Q 137 lv (.int (x - z) :: st) h := q_in rfl rfl
theorem r182_137 : zR d 182 Q 137 (o0 :: o1 :: o2 :: o3 :: o4 :: some (.int x) :: l) st h = zR d 182 Q 139 (o0 :: o1 :: o2 :: o3 :: o4 :: some (.int x) :: l) (.int x :: st) h := q_in rfl rfl
theorem r182_139 : zR d 182 Q 139 (some (.ref c) :: l) st h = zR d 182 Q 140 (some (.ref c) :: l) (.ref c :: st) h := q_in rfl rfl
theorem r182_140 : zR d 182 Q 140 lv (.ref 60 :: st) h = zR d 182 Q 143 lv (.ref 76 :: st) h := (q_and rfl rfl).trans (zand_t rfl)
theorem r182_143 : zR d 182 Q 143 (o0 :: o1 :: some (.int x) :: l) st h = zR d 182 Q 144 (o0 :: o1 :: some (.int x) :: l) (.int x :: st) h := q_in rfl rfl
theorem r182_144 : zR d 182 Q 144 lv st h = zR d 182 Q 145 lv (.int 1 :: st) h := q_in rfl rfl
theorem r182_145 : zR d 182 Q 145 lv (.int z :: .int x :: st) h = zR d 182 Q 146 lv (.int (x - z) :: st) h := q_in rfl rfl
set_option maxRecDepth 100000 in
theorem r182_146 : zR d 182 Q 146 lv (.int x :: .ref c :: st) h = zal c x h (fun w => zR d 182 Q 147 lv (.int w :: st) h) := q_iald rfl
set_option maxRecDepth 100000 in
theorem r182_147 : zR d 182 Q 147 (some (.ref c) :: l) st h = zR d 182 Q 148 (some (.ref c) :: l) (.ref c :: st) h := q_in rfl rfl
set_option maxRecDepth 100000 in
theorem r182_148 : zR d 182 Q 148 lv (.ref 60 :: st) h = zR d 182 Q 151 lv (.ref 76 :: st) h := (q_and rfl rfl).trans (zand_t rfl)
set_option maxRecDepth 100000 in
theorem r182_151 : zR d 182 Q 151 (o0 :: o1 :: some (.int x) :: l) st h = zR d 182 Q 152 (o0 :: o1 :: some (.int x) :: l) (.int x :: st) h := q_in rfl rfl
set_option maxRecDepth 100000 in
theorem r182_152 : zR d 182 Q 152 lv (.int x :: .ref c :: st) h = zal c x h (fun w => zR d 182 Q 153 lv (.int w :: st) h) := q_iald rfl
set_option maxRecDepth 100000 in
theorem r182_153 : zR d 182 Q 153 lv [.int x2, .int x1, .int x0, .int y0, .ref a1] h = zM d 181 [.int x0, .int x1, .int x2] h (fun r h' => zR d 182 Q 156 lv (r.toList ++ [.int y0, .ref a1]) h') := q_clS rfl rfl ⟨Nat.le_of_ble_eq_true rfl, Nat.le_of_ble_eq_true rfl⟩
set_option maxRecDepth 100000 in
theorem r182_156 : zR d 182 Q 156 lv (.int z :: .int x :: .ref c :: st) h = zas c x z h (fun h' => zR d 182 Q 157 lv st h') := q_iast rfl
set_option maxRecDepth 100000 in
theorem r182_157 : zR d 182 Q 157 (o0 :: o1 :: o2 :: some (.int x) :: l) st h = zR d 182 Q 160 (o0 :: o1 :: o2 :: some (.int (x + 1)) :: l) st h := q_in rfl rfl
set_option maxRecDepth 100000 in
theorem r182_160 : zR d 182 Q 160 lv st h = zR d 182 Q 4 lv st h := q_in rfl rfl
set_option maxRecDepth 100000 in
theorem r182_163 : zR d 182 Q 163 (some (.ref c) :: l) st h = zR d 182 Q 164 (some (.ref c) :: l) (.ref c :: st) h := q_in rfl rfl
set_option maxRecDepth 100000 in
theorem r182_164 : zR d 182 Q 164 lv (.ref 60 :: st) h = zR d 182 Q 167 lv (.ref 76 :: st) h := (q_and rfl rfl).trans (zand_t rfl)
set_option maxRecDepth 100000 in
theorem r182_167 : zR d 182 Q 167 lv st h = zR d 182 Q 168 lv (.int 0 :: st) h := q_in rfl rfl
set_option maxRecDepth 100000 in
theorem r182_168 : zR d 182 Q 168 lv (.int x :: .ref c :: st) h = zal c x h (fun w => zR d 182 Q 169 lv (.int w :: st) h) := q_iald rfl
set_option maxRecDepth 100000 in
theorem r182_169 : zR d 182 Q 169 lv [.int x] h = Q (some (.int x)) h := q_retz rfl rfl (Or.inl rfl)
theorem r183_0 : zR d 183 Q 0 (some (.int x) :: l) st h = zR d 183 Q 1 (some (.int x) :: l) (.int x :: st) h := q_in rfl rfl
theorem r183_1 : zR d 183 Q 1 lv (.int x :: st) h = zR d 183 Q 2 lv (.long x.toInt64 :: st) h := q_in rfl rfl
theorem r183_2 : zR d 183 Q 2 lv st h = zR d 183 Q 3 lv (.long (Int32.toInt64 0) :: st) h := q_in rfl rfl
theorem r183_3 : zR d 183 Q 3 lv st h = zR d 183 Q 6 lv (.long (Int32.toInt64 3) :: st) h := q_in rfl rfl
theorem r183_6 : zR d 183 Q 6 lv [.long j2, .long j1, .long j0] h = zM d 106 [.long j0, .long j1, .long j2] h (fun r h' => zR d 183 Q 9 lv (r.toList ++ []) h') := q_clS rfl rfl ⟨Nat.le_of_ble_eq_true rfl, Nat.le_of_ble_eq_true rfl⟩
theorem r183_9f : zR d 183 Q 9 lv [.int 0] h = Q (some (.int 0)) h := q_retz rfl rfl (Or.inr (Or.inl rfl))
theorem r183_9t : zR d 183 Q 9 lv [.int 1] h = Q (some (.int 1)) h := q_retz rfl rfl (Or.inr (Or.inr rfl))
theorem r184_0 : zR d 184 Q 0 (o0 :: some (.int x) :: l) st h = zR d 184 Q 1 (o0 :: some (.int x) :: l) (.int x :: st) h := q_in rfl rfl
theorem r184_1 : zR d 184 Q 1 lv [.int x0] h = zM d 183 [.int x0] h (fun r h' => zR d 184 Q 4 lv (r.toList ++ []) h') := q_clS rfl rfl ⟨Nat.le_of_ble_eq_true rfl, Nat.le_of_ble_eq_true rfl⟩
theorem r184_4 : zR d 184 Q 4 lv (.int x :: st) h = if x = 0 then zR d 184 Q 29 lv st h else zR d 184 Q 7 lv st h := q_if rfl rfl
theorem r184_7 : zR d 184 Q 7 (o0 :: o1 :: some (.int x) :: l) st h = zR d 184 Q 8 (o0 :: o1 :: some (.int x) :: l) (.int x :: st) h := q_in rfl rfl
theorem r184_8 : zR d 184 Q 8 lv (.int x :: st) h = zR d 184 Q 9 lv (.long x.toInt64 :: st) h := q_in rfl rfl
theorem r184_9 : zR d 184 Q 9 lv st h = zR d 184 Q 12 lv (.long (Int32.toInt64 (-1)) :: st) h := q_in rfl rfl
theorem r184_12 : zR d 184 Q 12 lv st h = zR d 184 Q 13 lv (.long (Int32.toInt64 1) :: st) h := q_in rfl rfl
theorem r184_13 : zR d 184 Q 13 lv [.long j2, .long j1, .long j0] h = zM d 106 [.long j0, .long j1, .long j2] h (fun r h' => zR d 184 Q 16 lv (r.toList ++ []) h') := q_clS rfl rfl ⟨Nat.le_of_ble_eq_true rfl, Nat.le_of_ble_eq_true rfl⟩
theorem r184_16 : zR d 184 Q 16 lv (.int x :: st) h = if x = 0 then zR d 184 Q 29 lv st h else zR d 184 Q 19 lv st h := q_if rfl rfl
theorem r184_19 : zR d 184 Q 19 (o0 :: o1 :: some (.int x) :: l) st h = zR d 184 Q 20 (o0 :: o1 :: some (.int x) :: l) (.int x :: st) h := q_in rfl rfl
theorem r184_20 : zR d 184 Q 20 lv (.int x :: st) h = if x < 0 then zR d 184 Q 32 lv st h else zR d 184 Q 23 lv st h := q_if rfl rfl
theorem r184_23 : zR d 184 Q 23 (o0 :: o1 :: o2 :: some (.int x) :: l) st h = zR d 184 Q 24 (o0 :: o1 :: o2 :: some (.int x) :: l) (.int x :: st) h := q_in rfl rfl
theorem r184_24 : zR d 184 Q 24 lv st h = zR d 184 Q 26 lv (.int 24 :: st) h := q_in rfl rfl
theorem r184_26 : zR d 184 Q 26 lv (.int z :: .int x :: st) h = if x ≤ z then zR d 184 Q 32 lv st h else zR d 184 Q 29 lv st h := q_if rfl rfl
theorem r184_29 : zR d 184 Q 29 lv st h = zR d 184 Q 31 lv (.int (-1000000001) :: st) h := q_in rfl rfl
theorem r184_31 : zR d 184 Q 31 lv [.int x] h = Q (some (.int x)) h := q_retz rfl rfl (Or.inl rfl)
theorem r184_32 : zR d 184 Q 32 (o0 :: o1 :: some (.int x) :: l) st h = zR d 184 Q 33 (o0 :: o1 :: some (.int x) :: l) (.int x :: st) h := q_in rfl rfl
theorem r184_33 : zR d 184 Q 33 lv (.int x :: st) h = if x < 0 then zR d 184 Q 44 lv st h else zR d 184 Q 36 lv st h := q_if rfl rfl
theorem r184_36 : zR d 184 Q 36 (o0 :: o1 :: o2 :: some (.int x) :: l) st h = zR d 184 Q 37 (o0 :: o1 :: o2 :: some (.int x) :: l) (.int x :: st) h := q_in rfl rfl
theorem r184_37 : zR d 184 Q 37 lv (.int x :: st) h = if x < 0 then zR d 184 Q 40 lv st h else zR d 184 Q 44 lv st h := q_if rfl rfl
theorem r184_40 : zR d 184 Q 40 lv st h = zR d 184 Q 43 lv (.int (-1000000014) :: st) h := q_in rfl rfl
theorem r184_43 : zR d 184 Q 43 lv [.int x] h = Q (some (.int x)) h := q_retz rfl rfl (Or.inl rfl)
theorem r184_44 : zR d 184 Q 44 (some (.ref c) :: l) st h = zR d 184 Q 45 (some (.ref c) :: l) (.ref c :: st) h := q_in rfl rfl
theorem r184_45 : zR d 184 Q 45 lv (.ref 60 :: st) h = zR d 184 Q 48 lv (.ref 64 :: st) h := (q_and rfl rfl).trans (zand_t rfl)
theorem r184_48 : zR d 184 Q 48 (o0 :: some (.int x) :: l) st h = zR d 184 Q 49 (o0 :: some (.int x) :: l) (.int x :: st) h := q_in rfl rfl
theorem r184_49 : zR d 184 Q 49 (o0 :: o1 :: some (.int x) :: l) st h = zR d 184 Q 50 (o0 :: o1 :: some (.int x) :: l) (.int x :: st) h := q_in rfl rfl
theorem r184_50 : zR d 184 Q 50 lv (.int z :: .int x :: .ref c :: st) h = zas c x z h (fun h' => zR d 184 Q 51 lv st h') := q_iast rfl
theorem r184_51 : zR d 184 Q 51 (some (.ref c) :: l) st h = zR d 184 Q 52 (some (.ref c) :: l) (.ref c :: st) h := q_in rfl rfl
theorem r184_52 : zR d 184 Q 52 lv (.ref 60 :: st) h = zR d 184 Q 55 lv (.ref 65 :: st) h := (q_and rfl rfl).trans (zand_t rfl)
theorem r184_55 : zR d 184 Q 55 (o0 :: some (.int x) :: l) st h = zR d 184 Q 56 (o0 :: some (.int x) :: l) (.int x :: st) h := q_in rfl rfl
theorem r184_56 : zR d 184 Q 56 (o0 :: o1 :: some (.int x) :: l) st h = zR d 184 Q 57 (o0 :: o1 :: some (.int x) :: l) (.int x :: st) h := q_in rfl rfl
theorem r184_57 : zR d 184 Q 57 lv (.int x :: st) h = if x < 0 then zR d 184 Q 60 lv st h else zR d 184 Q 64 lv st h := q_if rfl rfl
theorem r184_60 : zR d 184 Q 60 lv st h = zR d 184 Q 61 lv (.int 0 :: st) h := q_in rfl rfl
theorem r184_61 : zR d 184 Q 61 lv st h = zR d 184 Q 65 lv st h := q_in rfl rfl
theorem r184_64 : zR d 184 Q 64 (o0 :: o1 :: o2 :: some (.int x) :: l) st h = zR d 184 Q 65 (o0 :: o1 :: o2 :: some (.int x) :: l) (.int x :: st) h := q_in rfl rfl
theorem r184_65 : zR d 184 Q 65 lv (.int z :: .int x :: .ref c :: st) h = zas c x z h (fun h' => zR d 184 Q 66 lv st h') := q_iast rfl
theorem r184_66 : zR d 184 Q 66 lv st h = zR d 184 Q 67 lv (.int 0 :: st) h := q_in rfl rfl
theorem r184_67 : zR d 184 Q 67 (o0 :: o1 :: o2 :: o3 :: o4 :: l) (.int x :: st) h = zR d 184 Q 69 (o0 :: o1 :: o2 :: o3 :: some (.int x) :: l) st h := q_in rfl rfl
theorem r184_69 : zR d 184 Q 69 (o0 :: o1 :: o2 :: o3 :: some (.int x) :: l) st h = zR d 184 Q 71 (o0 :: o1 :: o2 :: o3 :: some (.int x) :: l) (.int x :: st) h := q_in rfl rfl
theorem r184_71 : zR d 184 Q 71 lv st h = zR d 184 Q 73 lv (.int 24 :: st) h := q_in rfl rfl
theorem r184_73 : zR d 184 Q 73 lv (.int z :: .int x :: st) h = if x < z then zR d 184 Q 76 lv st h else zR d 184 Q 95 lv st h := q_if rfl rfl
theorem r184_76 : zR d 184 Q 76 (some (.ref c) :: l) st h = zR d 184 Q 77 (some (.ref c) :: l) (.ref c :: st) h := q_in rfl rfl
theorem r184_77 : zR d 184 Q 77 lv (.ref 60 :: st) h = zR d 184 Q 80 lv (.ref 66 :: st) h := (q_and rfl rfl).trans (zand_t rfl)
theorem r184_80 : zR d 184 Q 80 lv st h = zR d 184 Q 82 lv (.int 24 :: st) h := q_in rfl rfl
theorem r184_82 : zR d 184 Q 82 (o0 :: some (.int x) :: l) st h = zR d 184 Q 83 (o0 :: some (.int x) :: l) (.int x :: st) h := q_in rfl rfl
theorem r184_83 : zR d 184 Q 83 lv (.int z :: .int x :: st) h = zR d 184 Q 84 lv (.int (x * z) :: st) h := q_in rfl rfl
theorem r184_84 : zR d 184 Q 84 (o0 :: o1 :: o2 :: o3 :: some (.int x) :: l) st h = zR d 184 Q 86 (o0 :: o1 :: o2 :: o3 :: some (.int x) :: l) (.int x :: st) h := q_in rfl rfl
theorem r184_86 : zR d 184 Q 86 lv (.int z :: .int x :: st) h = zR d 184 Q 87 lv (.int (x + z) :: st) h := q_in rfl rfl
theorem r184_87 : zR d 184 Q 87 lv st h = zR d 184 Q 88 lv (.int 0 :: st) h := q_in rfl rfl
theorem r184_88 : zR d 184 Q 88 lv (.int z :: .int x :: .ref c :: st) h = zas c x z h (fun h' => zR d 184 Q 89 lv st h') := q_iast rfl
theorem r184_89 : zR d 184 Q 89 (o0 :: o1 :: o2 :: o3 :: some (.int x) :: l) st h = zR d 184 Q 92 (o0 :: o1 :: o2 :: o3 :: some (.int (x + 1)) :: l) st h := q_in rfl rfl
theorem r184_92 : zR d 184 Q 92 lv st h = zR d 184 Q 69 lv st h := q_in rfl rfl
theorem r184_95 : zR d 184 Q 95 (some (.ref c) :: l) st h = zR d 184 Q 96 (some (.ref c) :: l) (.ref c :: st) h := q_in rfl rfl
theorem r184_96 : zR d 184 Q 96 lv (.ref 60 :: st) h = zR d 184 Q 99 lv (.ref 65 :: st) h := (q_and rfl rfl).trans (zand_t rfl)
theorem r184_99 : zR d 184 Q 99 (o0 :: some (.int x) :: l) st h = zR d 184 Q 100 (o0 :: some (.int x) :: l) (.int x :: st) h := q_in rfl rfl
theorem r184_100 : zR d 184 Q 100 lv (.int x :: .ref c :: st) h = zal c x h (fun w => zR d 184 Q 101 lv (.int w :: st) h) := q_iald rfl
theorem r184_101 : zR d 184 Q 101 lv [.int x] h = Q (some (.int x)) h := q_retz rfl rfl (Or.inl rfl)
theorem r185_0 : zR d 185 Q 0 (o0 :: some (.int x) :: l) st h = zR d 185 Q 1 (o0 :: some (.int x) :: l) (.int x :: st) h := q_in rfl rfl
theorem r185_1 : zR d 185 Q 1 lv [.int x0] h = zM d 183 [.int x0] h (fun r h' => zR d 185 Q 4 lv (r.toList ++ []) h') := q_clS rfl rfl ⟨Nat.le_of_ble_eq_true rfl, Nat.le_of_ble_eq_true rfl⟩
theorem r185_4 : zR d 185 Q 4 lv (.int x :: st) h = if x = 0 then zR d 185 Q 7 lv st h else zR d 185 Q 10 lv st h := q_if rfl rfl
theorem r185_7 : zR d 185 Q 7 lv st h = zR d 185 Q 9 lv (.int (-1000000001) :: st) h := q_in rfl rfl
theorem r185_9 : zR d 185 Q 9 lv [.int x] h = Q (some (.int x)) h := q_retz rfl rfl (Or.inl rfl)
theorem r185_10 : zR d 185 Q 10 (some (.ref c) :: l) st h = zR d 185 Q 11 (some (.ref c) :: l) (.ref c :: st) h := q_in rfl rfl
theorem r185_11 : zR d 185 Q 11 lv (.ref 60 :: st) h = zR d 185 Q 14 lv (.ref 64 :: st) h := (q_and rfl rfl).trans (zand_t rfl)
theorem r185_14 : zR d 185 Q 14 (o0 :: some (.int x) :: l) st h = zR d 185 Q 15 (o0 :: some (.int x) :: l) (.int x :: st) h := q_in rfl rfl
theorem r185_15 : zR d 185 Q 15 lv (.int x :: .ref c :: st) h = zal c x h (fun w => zR d 185 Q 16 lv (.int w :: st) h) := q_iald rfl
theorem r185_16 : zR d 185 Q 16 lv (.int x :: st) h = if x < 0 then zR d 185 Q 19 lv st h else zR d 185 Q 23 lv st h := q_if rfl rfl
theorem r185_19 : zR d 185 Q 19 lv st h = zR d 185 Q 22 lv (.int (-1000000011) :: st) h := q_in rfl rfl
theorem r185_22 : zR d 185 Q 22 lv [.int x] h = Q (some (.int x)) h := q_retz rfl rfl (Or.inl rfl)
theorem r185_23 : zR d 185 Q 23 (o0 :: o1 :: some (.int x) :: l) st h = zR d 185 Q 24 (o0 :: o1 :: some (.int x) :: l) (.int x :: st) h := q_in rfl rfl
theorem r185_24 : zR d 185 Q 24 lv (.int x :: st) h = zR d 185 Q 25 lv (.long x.toInt64 :: st) h := q_in rfl rfl
theorem r185_25 : zR d 185 Q 25 lv st h = zR d 185 Q 26 lv (.long (Int32.toInt64 0) :: st) h := q_in rfl rfl
theorem r185_26 : zR d 185 Q 26 (some (.ref c) :: l) st h = zR d 185 Q 27 (some (.ref c) :: l) (.ref c :: st) h := q_in rfl rfl
theorem r185_27 : zR d 185 Q 27 lv (.ref 60 :: st) h = zR d 185 Q 30 lv (.ref 65 :: st) h := (q_and rfl rfl).trans (zand_t rfl)
theorem r185_30 : zR d 185 Q 30 (o0 :: some (.int x) :: l) st h = zR d 185 Q 31 (o0 :: some (.int x) :: l) (.int x :: st) h := q_in rfl rfl
theorem r185_31 : zR d 185 Q 31 lv (.int x :: .ref c :: st) h = zal c x h (fun w => zR d 185 Q 32 lv (.int w :: st) h) := q_iald rfl
theorem r185_32 : zR d 185 Q 32 lv st h = zR d 185 Q 33 lv (.int 1 :: st) h := q_in rfl rfl
theorem r185_33 : zR d 185 Q 33 lv (.int z :: .int x :: st) h = zR d 185 Q 34 lv (.int (x - z) :: st) h := q_in rfl rfl
theorem r185_34 : zR d 185 Q 34 lv (.int x :: st) h = zR d 185 Q 35 lv (.long x.toInt64 :: st) h := q_in rfl rfl
theorem r185_35 : zR d 185 Q 35 lv [.long j2, .long j1, .long j0] h = zM d 106 [.long j0, .long j1, .long j2] h (fun r h' => zR d 185 Q 38 lv (r.toList ++ []) h') := q_clS rfl rfl ⟨Nat.le_of_ble_eq_true rfl, Nat.le_of_ble_eq_true rfl⟩
theorem r185_38 : zR d 185 Q 38 lv (.int x :: st) h = if x = 0 then zR d 185 Q 41 lv st h else zR d 185 Q 45 lv st h := q_if rfl rfl
theorem r185_41 : zR d 185 Q 41 lv st h = zR d 185 Q 44 lv (.int (-1000000013) :: st) h := q_in rfl rfl
theorem r185_44 : zR d 185 Q 44 lv [.int x] h = Q (some (.int x)) h := q_retz rfl rfl (Or.inl rfl)
theorem r185_45 : zR d 185 Q 45 (some (.ref c) :: l) st h = zR d 185 Q 46 (some (.ref c) :: l) (.ref c :: st) h := q_in rfl rfl
theorem r185_46 : zR d 185 Q 46 lv (.ref 60 :: st) h = zR d 185 Q 49 lv (.ref 64 :: st) h := (q_and rfl rfl).trans (zand_t rfl)
theorem r185_49 : zR d 185 Q 49 (o0 :: some (.int x) :: l) st h = zR d 185 Q 50 (o0 :: some (.int x) :: l) (.int x :: st) h := q_in rfl rfl
theorem r185_50 : zR d 185 Q 50 lv (.int x :: .ref c :: st) h = zal c x h (fun w => zR d 185 Q 51 lv (.int w :: st) h) := q_iald rfl
theorem r185_51 : zR d 185 Q 51 lv (.int x :: st) h = if x = 0 then zR d 185 Q 54 lv st h else zR d 185 Q 63 lv st h := q_if rfl rfl
theorem r185_54 : zR d 185 Q 54 (o0 :: o1 :: o2 :: some (.int x) :: l) st h = zR d 185 Q 55 (o0 :: o1 :: o2 :: some (.int x) :: l) (.int x :: st) h := q_in rfl rfl
theorem r185_55 : zR d 185 Q 55 lv st h = zR d 185 Q 57 lv (.int (-1000000005) :: st) h := q_in rfl rfl
theorem r185_57 : zR d 185 Q 57 lv (.int z :: .int x :: st) h = if x = z then zR d 185 Q 60 lv st h else zR d 185 Q 63 lv st h := q_if rfl rfl
theorem r185_60 : zR d 185 Q 60 lv st h = zR d 185 Q 62 lv (.int (-1000000012) :: st) h := q_in rfl rfl
theorem r185_62 : zR d 185 Q 62 lv [.int x] h = Q (some (.int x)) h := q_retz rfl rfl (Or.inl rfl)
theorem r185_63 : zR d 185 Q 63 (some (.ref c) :: l) st h = zR d 185 Q 64 (some (.ref c) :: l) (.ref c :: st) h := q_in rfl rfl
theorem r185_64 : zR d 185 Q 64 lv (.ref 60 :: st) h = zR d 185 Q 67 lv (.ref 64 :: st) h := (q_and rfl rfl).trans (zand_t rfl)
theorem r185_67 : zR d 185 Q 67 (o0 :: some (.int x) :: l) st h = zR d 185 Q 68 (o0 :: some (.int x) :: l) (.int x :: st) h := q_in rfl rfl
theorem r185_68 : zR d 185 Q 68 lv (.int x :: .ref c :: st) h = zal c x h (fun w => zR d 185 Q 69 lv (.int w :: st) h) := q_iald rfl
theorem r185_69 : zR d 185 Q 69 lv st h = zR d 185 Q 70 lv (.int 1 :: st) h := q_in rfl rfl
theorem r185_70 : zR d 185 Q 70 lv (.int z :: .int x :: st) h = if x = z then zR d 185 Q 73 lv st h else zR d 185 Q 96 lv st h := q_if rfl rfl
theorem r185_73 : zR d 185 Q 73 (o0 :: o1 :: o2 :: some (.int x) :: l) st h = zR d 185 Q 74 (o0 :: o1 :: o2 :: some (.int x) :: l) (.int x :: st) h := q_in rfl rfl
theorem r185_74 : zR d 185 Q 74 lv st h = zR d 185 Q 76 lv (.int (-1000000005) :: st) h := q_in rfl rfl
theorem r185_76 : zR d 185 Q 76 lv (.int z :: .int x :: st) h = if x = z then zR d 185 Q 96 lv st h else zR d 185 Q 79 lv st h := q_if rfl rfl
theorem r185_79 : zR d 185 Q 79 (o0 :: o1 :: o2 :: some (.int x) :: l) st h = zR d 185 Q 80 (o0 :: o1 :: o2 :: some (.int x) :: l) (.int x :: st) h := q_in rfl rfl
theorem r185_80 : zR d 185 Q 80 lv (.int x :: st) h = zR d 185 Q 81 lv (.long x.toInt64 :: st) h := q_in rfl rfl
theorem r185_81 : zR d 185 Q 81 lv st h = zR d 185 Q 84 lv (.long (Int32.toInt64 (-99999)) :: st) h := q_in rfl rfl
theorem r185_84 : zR d 185 Q 84 lv st h = zR d 185 Q 87 lv (.long (Int32.toInt64 99999) :: st) h := q_in rfl rfl
theorem r185_87 : zR d 185 Q 87 lv [.long j2, .long j1, .long j0] h = zM d 106 [.long j0, .long j1, .long j2] h (fun r h' => zR d 185 Q 90 lv (r.toList ++ []) h') := q_clS rfl rfl ⟨Nat.le_of_ble_eq_true rfl, Nat.le_of_ble_eq_true rfl⟩
theorem r185_90 : zR d 185 Q 90 lv (.int x :: st) h = if x = 0 then zR d 185 Q 93 lv st h else zR d 185 Q 96 lv st h := q_if rfl rfl
theorem r185_93 : zR d 185 Q 93 lv st h = zR d 185 Q 95 lv (.int (-1000000001) :: st) h := q_in rfl rfl
theorem r185_95 : zR d 185 Q 95 lv [.int x] h = Q (some (.int x)) h := q_retz rfl rfl (Or.inl rfl)
theorem r185_96 : zR d 185 Q 96 (some (.ref c) :: l) st h = zR d 185 Q 97 (some (.ref c) :: l) (.ref c :: st) h := q_in rfl rfl
theorem r185_97 : zR d 185 Q 97 lv (.ref 60 :: st) h = zR d 185 Q 100 lv (.ref 66 :: st) h := (q_and rfl rfl).trans (zand_t rfl)
theorem r185_100 : zR d 185 Q 100 lv st h = zR d 185 Q 102 lv (.int 24 :: st) h := q_in rfl rfl
theorem r185_102 : zR d 185 Q 102 (o0 :: some (.int x) :: l) st h = zR d 185 Q 103 (o0 :: some (.int x) :: l) (.int x :: st) h := q_in rfl rfl
theorem r185_103 : zR d 185 Q 103 lv (.int z :: .int x :: st) h = zR d 185 Q 104 lv (.int (x * z) :: st) h := q_in rfl rfl
theorem r185_104 : zR d 185 Q 104 (o0 :: o1 :: some (.int x) :: l) st h = zR d 185 Q 105 (o0 :: o1 :: some (.int x) :: l) (.int x :: st) h := q_in rfl rfl
theorem r185_105 : zR d 185 Q 105 lv (.int z :: .int x :: st) h = zR d 185 Q 106 lv (.int (x + z) :: st) h := q_in rfl rfl
theorem r185_106 : zR d 185 Q 106 (some (.ref c) :: l) st h = zR d 185 Q 107 (some (.ref c) :: l) (.ref c :: st) h := q_in rfl rfl
theorem r185_107 : zR d 185 Q 107 lv (.ref 60 :: st) h = zR d 185 Q 110 lv (.ref 64 :: st) h := (q_and rfl rfl).trans (zand_t rfl)
theorem r185_110 : zR d 185 Q 110 (o0 :: some (.int x) :: l) st h = zR d 185 Q 111 (o0 :: some (.int x) :: l) (.int x :: st) h := q_in rfl rfl
theorem r185_111 : zR d 185 Q 111 lv (.int x :: .ref c :: st) h = zal c x h (fun w => zR d 185 Q 112 lv (.int w :: st) h) := q_iald rfl
theorem r185_112 : zR d 185 Q 112 lv (.int x :: st) h = if x = 0 then zR d 185 Q 115 lv st h else zR d 185 Q 125 lv st h := q_if rfl rfl
theorem r185_115 : zR d 185 Q 115 (o0 :: o1 :: o2 :: some (.int x) :: l) st h = zR d 185 Q 116 (o0 :: o1 :: o2 :: some (.int x) :: l) (.int x :: st) h := q_in rfl rfl
theorem r185_116 : zR d 185 Q 116 lv st h = zR d 185 Q 118 lv (.int 16 :: st) h := q_in rfl rfl
theorem r185_118 : zR d 185 Q 118 lv (.int z :: .int x :: st) h = zR d 185 Q 119 lv (.int (x <<< (z &&& 31)) :: st) h := q_in rfl rfl
theorem r185_119 : zR d 185 Q 119 lv st h = zR d 185 Q 121 lv (.int 16 :: st) h := q_in rfl rfl
theorem r185_121 : zR d 185 Q 121 lv (.int z :: .int x :: st) h = zR d 185 Q 122 lv (.int (x >>> (z &&& 31)) :: st) h := q_in rfl rfl
theorem r185_122 : zR d 185 Q 122 lv st h = zR d 185 Q 126 lv st h := q_in rfl rfl
theorem r185_125 : zR d 185 Q 125 (o0 :: o1 :: o2 :: some (.int x) :: l) st h = zR d 185 Q 126 (o0 :: o1 :: o2 :: some (.int x) :: l) (.int x :: st) h := q_in rfl rfl
theorem r185_126 : zR d 185 Q 126 lv (.int z :: .int x :: .ref c :: st) h = zas c x z h (fun h' => zR d 185 Q 127 lv st h') := q_iast rfl
theorem r185_127 : zR d 185 Q 127 lv st h = zR d 185 Q 128 lv (.int 1 :: st) h := q_in rfl rfl
theorem r185_128 : zR d 185 Q 128 lv [.int x] h = Q (some (.int x)) h := q_retz rfl rfl (Or.inl rfl)
theorem r186_0 : zR d 186 Q 0 (o0 :: some (.int x) :: l) st h = zR d 186 Q 1 (o0 :: some (.int x) :: l) (.int x :: st) h := q_in rfl rfl
theorem r186_1 : zR d 186 Q 1 lv [.int x0] h = zM d 183 [.int x0] h (fun r h' => zR d 186 Q 4 lv (r.toList ++ []) h') := q_clS rfl rfl ⟨Nat.le_of_ble_eq_true rfl, Nat.le_of_ble_eq_true rfl⟩
theorem r186_4 : zR d 186 Q 4 lv (.int x :: st) h = if x = 0 then zR d 186 Q 7 lv st h else zR d 186 Q 10 lv st h := q_if rfl rfl
theorem r186_7 : zR d 186 Q 7 lv st h = zR d 186 Q 9 lv (.int (-1000000001) :: st) h := q_in rfl rfl
theorem r186_9 : zR d 186 Q 9 lv [.int x] h = Q (some (.int x)) h := q_retz rfl rfl (Or.inl rfl)
theorem r186_10 : zR d 186 Q 10 (some (.ref c) :: l) st h = zR d 186 Q 11 (some (.ref c) :: l) (.ref c :: st) h := q_in rfl rfl
theorem r186_11 : zR d 186 Q 11 lv (.ref 60 :: st) h = zR d 186 Q 14 lv (.ref 64 :: st) h := (q_and rfl rfl).trans (zand_t rfl)
theorem r186_14 : zR d 186 Q 14 (o0 :: some (.int x) :: l) st h = zR d 186 Q 15 (o0 :: some (.int x) :: l) (.int x :: st) h := q_in rfl rfl
theorem r186_15 : zR d 186 Q 15 lv (.int x :: .ref c :: st) h = zal c x h (fun w => zR d 186 Q 16 lv (.int w :: st) h) := q_iald rfl
theorem r186_16 : zR d 186 Q 16 lv (.int x :: st) h = if x < 0 then zR d 186 Q 19 lv st h else zR d 186 Q 23 lv st h := q_if rfl rfl
theorem r186_19 : zR d 186 Q 19 lv st h = zR d 186 Q 22 lv (.int (-1000000011) :: st) h := q_in rfl rfl
theorem r186_22 : zR d 186 Q 22 lv [.int x] h = Q (some (.int x)) h := q_retz rfl rfl (Or.inl rfl)
theorem r186_23 : zR d 186 Q 23 lv st h = zR d 186 Q 24 lv (.int 0 :: st) h := q_in rfl rfl
theorem r186_24 : zR d 186 Q 24 (o0 :: o1 :: o2 :: l) (.int x :: st) h = zR d 186 Q 25 (o0 :: o1 :: some (.int x) :: l) st h := q_in rfl rfl
theorem r186_25 : zR d 186 Q 25 lv st h = zR d 186 Q 26 lv (.int 0 :: st) h := q_in rfl rfl
theorem r186_26 : zR d 186 Q 26 (o0 :: o1 :: o2 :: o3 :: l) (.int x :: st) h = zR d 186 Q 27 (o0 :: o1 :: o2 :: some (.int x) :: l) st h := q_in rfl rfl
theorem r186_27 : zR d 186 Q 27 (o0 :: o1 :: o2 :: some (.int x) :: l) st h = zR d 186 Q 28 (o0 :: o1 :: o2 :: some (.int x) :: l) (.int x :: st) h := q_in rfl rfl
theorem r186_28 : zR d 186 Q 28 (some (.ref c) :: l) st h = zR d 186 Q 29 (some (.ref c) :: l) (.ref c :: st) h := q_in rfl rfl
theorem r186_29 : zR d 186 Q 29 lv (.ref 60 :: st) h = zR d 186 Q 32 lv (.ref 65 :: st) h := (q_and rfl rfl).trans (zand_t rfl)
theorem r186_32 : zR d 186 Q 32 (o0 :: some (.int x) :: l) st h = zR d 186 Q 33 (o0 :: some (.int x) :: l) (.int x :: st) h := q_in rfl rfl
theorem r186_33 : zR d 186 Q 33 lv (.int x :: .ref c :: st) h = zal c x h (fun w => zR d 186 Q 34 lv (.int w :: st) h) := q_iald rfl
theorem r186_34 : zR d 186 Q 34 lv (.int z :: .int x :: st) h = if x < z then zR d 186 Q 37 lv st h else zR d 186 Q 119 lv st h := q_if rfl rfl
theorem r186_37 : zR d 186 Q 37 (o0 :: o1 :: o2 :: some (.int x) :: l) st h = zR d 186 Q 38 (o0 :: o1 :: o2 :: some (.int x) :: l) (.int x :: st) h := q_in rfl rfl
theorem r186_38 : zR d 186 Q 38 (some (.ref c) :: l) st h = zR d 186 Q 39 (some (.ref c) :: l) (.ref c :: st) h := q_in rfl rfl
theorem r186_39 : zR d 186 Q 39 lv (.ref 60 :: st) h = zR d 186 Q 42 lv (.ref 61 :: st) h := (q_and rfl rfl).trans (zand_t rfl)
theorem r186_42 : zR d 186 Q 42 lv st h = zR d 186 Q 43 lv (.int 0 :: st) h := q_in rfl rfl
theorem r186_43 : zR d 186 Q 43 lv (.int x :: .ref c :: st) h = zal c x h (fun w => zR d 186 Q 44 lv (.int w :: st) h) := q_iald rfl
theorem r186_44 : zR d 186 Q 44 lv (.int z :: .int x :: st) h = if x < z then zR d 186 Q 47 lv st h else zR d 186 Q 119 lv st h := q_if rfl rfl
theorem r186_47 : zR d 186 Q 47 (some (.ref c) :: l) st h = zR d 186 Q 48 (some (.ref c) :: l) (.ref c :: st) h := q_in rfl rfl
theorem r186_48 : zR d 186 Q 48 lv (.ref 60 :: st) h = zR d 186 Q 51 lv (.ref 66 :: st) h := (q_and rfl rfl).trans (zand_t rfl)
theorem r186_51 : zR d 186 Q 51 lv st h = zR d 186 Q 53 lv (.int 24 :: st) h := q_in rfl rfl
theorem r186_53 : zR d 186 Q 53 (o0 :: some (.int x) :: l) st h = zR d 186 Q 54 (o0 :: some (.int x) :: l) (.int x :: st) h := q_in rfl rfl
theorem r186_54 : zR d 186 Q 54 lv (.int z :: .int x :: st) h = zR d 186 Q 55 lv (.int (x * z) :: st) h := q_in rfl rfl
theorem r186_55 : zR d 186 Q 55 (o0 :: o1 :: o2 :: some (.int x) :: l) st h = zR d 186 Q 56 (o0 :: o1 :: o2 :: some (.int x) :: l) (.int x :: st) h := q_in rfl rfl
theorem r186_56 : zR d 186 Q 56 lv (.int z :: .int x :: st) h = zR d 186 Q 57 lv (.int (x + z) :: st) h := q_in rfl rfl
theorem r186_57 : zR d 186 Q 57 lv (.int x :: .ref c :: st) h = zal c x h (fun w => zR d 186 Q 58 lv (.int w :: st) h) := q_iald rfl
theorem r186_58 : zR d 186 Q 58 (o0 :: o1 :: o2 :: o3 :: o4 :: l) (.int x :: st) h = zR d 186 Q 60 (o0 :: o1 :: o2 :: o3 :: some (.int x) :: l) st h := q_in rfl rfl
theorem r186_60 : zR d 186 Q 60 (o0 :: o1 :: o2 :: o3 :: some (.int x) :: l) st h = zR d 186 Q 62 (o0 :: o1 :: o2 :: o3 :: some (.int x) :: l) (.int x :: st) h := q_in rfl rfl
theorem r186_62 : zR d 186 Q 62 lv st h = zR d 186 Q 64 lv (.int (-1000000005) :: st) h := q_in rfl rfl
theorem r186_64 : zR d 186 Q 64 lv (.int z :: .int x :: st) h = if x = z then zR d 186 Q 67 lv st h else zR d 186 Q 76 lv st h := q_if rfl rfl
theorem r186_67 : zR d 186 Q 67 (some (.ref c) :: l) st h = zR d 186 Q 68 (some (.ref c) :: l) (.ref c :: st) h := q_in rfl rfl
theorem r186_68 : zR d 186 Q 68 (o0 :: o1 :: o2 :: some (.int x) :: l) st h = zR d 186 Q 69 (o0 :: o1 :: o2 :: some (.int x) :: l) (.int x :: st) h := q_in rfl rfl
theorem r186_69 : zR d 186 Q 69 lv st h = zR d 186 Q 70 lv (.int 1 :: st) h := q_in rfl rfl
theorem r186_70 : zR d 186 Q 70 lv [.int x1, .int x0, .ref 60] h = zM d 113 [.ref 60, .int x0, .int x1] h (fun r h' => zR d 186 Q 73 lv (r.toList ++ []) h') := (q_clV rfl rfl (Nat.le_of_ble_eq_true rfl)).trans (zand_t ⟨rfl, Nat.le_of_ble_eq_true rfl⟩)
theorem r186_73 : zR d 186 Q 73 lv st h = zR d 186 Q 84 lv st h := q_in rfl rfl
theorem r186_76 : zR d 186 Q 76 (o0 :: o1 :: o2 :: o3 :: some (.int x) :: l) st h = zR d 186 Q 78 (o0 :: o1 :: o2 :: o3 :: some (.int x) :: l) (.int x :: st) h := q_in rfl rfl
theorem r186_78 : zR d 186 Q 78 lv st h = zR d 186 Q 79 lv (.int 1 :: st) h := q_in rfl rfl
theorem r186_79 : zR d 186 Q 79 lv st h = zR d 186 Q 81 lv (.int 99 :: st) h := q_in rfl rfl
theorem r186_81 : zR d 186 Q 81 lv [.int x2, .int x1, .int x0] h = zM d 108 [.int x0, .int x1, .int x2] h (fun r h' => zR d 186 Q 84 lv (r.toList ++ []) h') := q_clS rfl rfl ⟨Nat.le_of_ble_eq_true rfl, Nat.le_of_ble_eq_true rfl⟩
theorem r186_84 : zR d 186 Q 84 (o0 :: o1 :: o2 :: o3 :: o4 :: o5 :: l) (.int x :: st) h = zR d 186 Q 86 (o0 :: o1 :: o2 :: o3 :: o4 :: some (.int x) :: l) st h := q_in rfl rfl
theorem r186_86 : zR d 186 Q 86 (o0 :: o1 :: some (.int x) :: l) st h = zR d 186 Q 87 (o0 :: o1 :: some (.int x) :: l) (.int x :: st) h := q_in rfl rfl
theorem r186_87 : zR d 186 Q 87 (o0 :: o1 :: o2 :: o3 :: o4 :: some (.int x) :: l) st h = zR d 186 Q 89 (o0 :: o1 :: o2 :: o3 :: o4 :: some (.int x) :: l) (.int x :: st) h := q_in rfl rfl
theorem r186_89 : zR d 186 Q 89 (some (.ref c) :: l) st h = zR d 186 Q 90 (some (.ref c) :: l) (.ref c :: st) h := q_in rfl rfl
theorem r186_90 : zR d 186 Q 90 lv st h = zR d 186 Q 92 lv (.int 12 :: st) h := q_in rfl rfl
theorem r186_92 : zR d 186 Q 92 lv st h = zR d 186 Q 93 lv (.int 5 :: st) h := q_in rfl rfl
theorem r186_93 : zR d 186 Q 93 (o0 :: o1 :: o2 :: some (.int x) :: l) st h = zR d 186 Q 94 (o0 :: o1 :: o2 :: some (.int x) :: l) (.int x :: st) h := q_in rfl rfl
theorem r186_94 : zR d 186 Q 94 lv (.int z :: .int x :: st) h = zR d 186 Q 95 lv (.int (x * z) :: st) h := q_in rfl rfl
theorem r186_95 : zR d 186 Q 95 lv (.int z :: .int x :: st) h = zR d 186 Q 96 lv (.int (x + z) :: st) h := q_in rfl rfl
theorem r186_96 : zR d 186 Q 96 lv st h = zR d 186 Q 97 lv (.int 1 :: st) h := q_in rfl rfl
theorem r186_97 : zR d 186 Q 97 lv (.int z :: .int x :: st) h = zR d 186 Q 98 lv (.int (x + z) :: st) h := q_in rfl rfl
theorem r186_98 : zR d 186 Q 98 (o0 :: o1 :: o2 :: o3 :: o4 :: some (.int x) :: l) st h = zR d 186 Q 100 (o0 :: o1 :: o2 :: o3 :: o4 :: some (.int x) :: l) (.int x :: st) h := q_in rfl rfl
theorem r186_100 : zR d 186 Q 100 lv [.int x1, .int x0, .ref 60, .int y0, .int y1] h = zM d 111 [.ref 60, .int x0, .int x1] h (fun r h' => zR d 186 Q 103 lv (r.toList ++ [.int y0, .int y1]) h') := (q_clV rfl rfl (Nat.le_of_ble_eq_true rfl)).trans (zand_t ⟨rfl, Nat.le_of_ble_eq_true rfl⟩)
theorem r186_103 : zR d 186 Q 103 lv (.int z :: .int x :: st) h = if x = z then zR d 186 Q 106 lv st h else zR d 186 Q 110 lv st h := q_if rfl rfl
theorem r186_106 : zR d 186 Q 106 lv st h = zR d 186 Q 107 lv (.int 0 :: st) h := q_in rfl rfl
theorem r186_107 : zR d 186 Q 107 lv st h = zR d 186 Q 111 lv st h := q_in rfl rfl
theorem r186_110 : zR d 186 Q 110 lv st h = zR d 186 Q 111 lv (.int 1 :: st) h := q_in rfl rfl
theorem r186_111 : zR d 186 Q 111 lv (.int z :: .int x :: st) h = zR d 186 Q 112 lv (.int (x + z) :: st) h := q_in rfl rfl
theorem r186_112 : zR d 186 Q 112 (o0 :: o1 :: o2 :: l) (.int x :: st) h = zR d 186 Q 113 (o0 :: o1 :: some (.int x) :: l) st h := q_in rfl rfl
theorem r186_113 : zR d 186 Q 113 (o0 :: o1 :: o2 :: some (.int x) :: l) st h = zR d 186 Q 116 (o0 :: o1 :: o2 :: some (.int (x + 1)) :: l) st h := q_in rfl rfl
theorem r186_116 : zR d 186 Q 116 lv st h = zR d 186 Q 27 lv st h := q_in rfl rfl
theorem r186_119 : zR d 186 Q 119 (o0 :: o1 :: some (.int x) :: l) st h = zR d 186 Q 120 (o0 :: o1 :: some (.int x) :: l) (.int x :: st) h := q_in rfl rfl
theorem r186_120 : zR d 186 Q 120 lv [.int x] h = Q (some (.int x)) h := q_retz rfl rfl (Or.inl rfl)
theorem r187_0 : zR d 187 Q 0 (o0 :: some (.int x) :: l) st h = zR d 187 Q 1 (o0 :: some (.int x) :: l) (.int x :: st) h := q_in rfl rfl
theorem r187_1 : zR d 187 Q 1 lv [.int x0] h = zM d 183 [.int x0] h (fun r h' => zR d 187 Q 4 lv (r.toList ++ []) h') := q_clS rfl rfl ⟨Nat.le_of_ble_eq_true rfl, Nat.le_of_ble_eq_true rfl⟩
theorem r187_4 : zR d 187 Q 4 lv (.int x :: st) h = if x = 0 then zR d 187 Q 7 lv st h else zR d 187 Q 10 lv st h := q_if rfl rfl
theorem r187_7 : zR d 187 Q 7 lv st h = zR d 187 Q 9 lv (.int (-1000000001) :: st) h := q_in rfl rfl
theorem r187_9 : zR d 187 Q 9 lv [.int x] h = Q (some (.int x)) h := q_retz rfl rfl (Or.inl rfl)
theorem r187_10 : zR d 187 Q 10 (some (.ref c) :: l) st h = zR d 187 Q 11 (some (.ref c) :: l) (.ref c :: st) h := q_in rfl rfl
theorem r187_11 : zR d 187 Q 11 lv (.ref 60 :: st) h = zR d 187 Q 14 lv (.ref 64 :: st) h := (q_and rfl rfl).trans (zand_t rfl)
theorem r187_14 : zR d 187 Q 14 (o0 :: some (.int x) :: l) st h = zR d 187 Q 15 (o0 :: some (.int x) :: l) (.int x :: st) h := q_in rfl rfl
theorem r187_15 : zR d 187 Q 15 lv (.int x :: .ref c :: st) h = zal c x h (fun w => zR d 187 Q 16 lv (.int w :: st) h) := q_iald rfl
theorem r187_16 : zR d 187 Q 16 lv (.int x :: st) h = if x < 0 then zR d 187 Q 19 lv st h else zR d 187 Q 23 lv st h := q_if rfl rfl
theorem r187_19 : zR d 187 Q 19 lv st h = zR d 187 Q 22 lv (.int (-1000000011) :: st) h := q_in rfl rfl
theorem r187_22 : zR d 187 Q 22 lv [.int x] h = Q (some (.int x)) h := q_retz rfl rfl (Or.inl rfl)
theorem r187_23 : zR d 187 Q 23 lv st h = zR d 187 Q 24 lv (.int 0 :: st) h := q_in rfl rfl
theorem r187_24 : zR d 187 Q 24 (o0 :: o1 :: o2 :: l) (.int x :: st) h = zR d 187 Q 25 (o0 :: o1 :: some (.int x) :: l) st h := q_in rfl rfl
theorem r187_25 : zR d 187 Q 25 (o0 :: o1 :: some (.int x) :: l) st h = zR d 187 Q 26 (o0 :: o1 :: some (.int x) :: l) (.int x :: st) h := q_in rfl rfl
theorem r187_26 : zR d 187 Q 26 (some (.ref c) :: l) st h = zR d 187 Q 27 (some (.ref c) :: l) (.ref c :: st) h := q_in rfl rfl
theorem r187_27 : zR d 187 Q 27 lv (.ref 60 :: st) h = zR d 187 Q 30 lv (.ref 65 :: st) h := (q_and rfl rfl).trans (zand_t rfl)
theorem r187_30 : zR d 187 Q 30 (o0 :: some (.int x) :: l) st h = zR d 187 Q 31 (o0 :: some (.int x) :: l) (.int x :: st) h := q_in rfl rfl
theorem r187_31 : zR d 187 Q 31 lv (.int x :: .ref c :: st) h = zal c x h (fun w => zR d 187 Q 32 lv (.int w :: st) h) := q_iald rfl
theorem r187_32 : zR d 187 Q 32 lv (.int z :: .int x :: st) h = if x < z then zR d 187 Q 35 lv st h else zR d 187 Q 81 lv st h := q_if rfl rfl
theorem r187_35 : zR d 187 Q 35 (some (.ref c) :: l) st h = zR d 187 Q 36 (some (.ref c) :: l) (.ref c :: st) h := q_in rfl rfl
theorem r187_36 : zR d 187 Q 36 lv (.ref 60 :: st) h = zR d 187 Q 39 lv (.ref 66 :: st) h := (q_and rfl rfl).trans (zand_t rfl)
theorem r187_39 : zR d 187 Q 39 lv st h = zR d 187 Q 41 lv (.int 24 :: st) h := q_in rfl rfl
theorem r187_41 : zR d 187 Q 41 (o0 :: some (.int x) :: l) st h = zR d 187 Q 42 (o0 :: some (.int x) :: l) (.int x :: st) h := q_in rfl rfl
theorem r187_42 : zR d 187 Q 42 lv (.int z :: .int x :: st) h = zR d 187 Q 43 lv (.int (x * z) :: st) h := q_in rfl rfl
theorem r187_43 : zR d 187 Q 43 (o0 :: o1 :: some (.int x) :: l) st h = zR d 187 Q 44 (o0 :: o1 :: some (.int x) :: l) (.int x :: st) h := q_in rfl rfl
theorem r187_44 : zR d 187 Q 44 lv (.int z :: .int x :: st) h = zR d 187 Q 45 lv (.int (x + z) :: st) h := q_in rfl rfl
theorem r187_45 : zR d 187 Q 45 lv (.int x :: .ref c :: st) h = zal c x h (fun w => zR d 187 Q 46 lv (.int w :: st) h) := q_iald rfl
theorem r187_46 : zR d 187 Q 46 (o0 :: o1 :: o2 :: o3 :: l) (.int x :: st) h = zR d 187 Q 47 (o0 :: o1 :: o2 :: some (.int x) :: l) st h := q_in rfl rfl
theorem r187_47 : zR d 187 Q 47 (o0 :: o1 :: o2 :: some (.int x) :: l) st h = zR d 187 Q 48 (o0 :: o1 :: o2 :: some (.int x) :: l) (.int x :: st) h := q_in rfl rfl
theorem r187_48 : zR d 187 Q 48 lv st h = zR d 187 Q 50 lv (.int (-1000000005) :: st) h := q_in rfl rfl
theorem r187_50 : zR d 187 Q 50 lv (.int z :: .int x :: st) h = if x = z then zR d 187 Q 75 lv st h else zR d 187 Q 53 lv st h := q_if rfl rfl
theorem r187_53 : zR d 187 Q 53 (o0 :: o1 :: some (.int x) :: l) st h = zR d 187 Q 54 (o0 :: o1 :: some (.int x) :: l) (.int x :: st) h := q_in rfl rfl
theorem r187_54 : zR d 187 Q 54 (some (.ref c) :: l) st h = zR d 187 Q 55 (some (.ref c) :: l) (.ref c :: st) h := q_in rfl rfl
theorem r187_55 : zR d 187 Q 55 lv (.ref 60 :: st) h = zR d 187 Q 58 lv (.ref 61 :: st) h := (q_and rfl rfl).trans (zand_t rfl)
theorem r187_58 : zR d 187 Q 58 lv st h = zR d 187 Q 59 lv (.int 0 :: st) h := q_in rfl rfl
theorem r187_59 : zR d 187 Q 59 lv (.int x :: .ref c :: st) h = zal c x h (fun w => zR d 187 Q 60 lv (.int w :: st) h) := q_iald rfl
theorem r187_60 : zR d 187 Q 60 lv (.int z :: .int x :: st) h = if x < z then zR d 187 Q 63 lv st h else zR d 187 Q 73 lv st h := q_if rfl rfl
theorem r187_63 : zR d 187 Q 63 (o0 :: o1 :: o2 :: some (.int x) :: l) st h = zR d 187 Q 64 (o0 :: o1 :: o2 :: some (.int x) :: l) (.int x :: st) h := q_in rfl rfl
theorem r187_64 : zR d 187 Q 64 (some (.ref c) :: l) st h = zR d 187 Q 65 (some (.ref c) :: l) (.ref c :: st) h := q_in rfl rfl
theorem r187_65 : zR d 187 Q 65 (o0 :: o1 :: some (.int x) :: l) st h = zR d 187 Q 66 (o0 :: o1 :: some (.int x) :: l) (.int x :: st) h := q_in rfl rfl
theorem r187_66 : zR d 187 Q 66 lv st h = zR d 187 Q 67 lv (.int 3 :: st) h := q_in rfl rfl
theorem r187_67 : zR d 187 Q 67 lv [.int x1, .int x0, .ref 60, .int y0] h = zM d 113 [.ref 60, .int x0, .int x1] h (fun r h' => zR d 187 Q 70 lv (r.toList ++ [.int y0]) h') := (q_clV rfl rfl (Nat.le_of_ble_eq_true rfl)).trans (zand_t ⟨rfl, Nat.le_of_ble_eq_true rfl⟩)
theorem r187_70 : zR d 187 Q 70 lv (.int z :: .int x :: st) h = if x = z then zR d 187 Q 75 lv st h else zR d 187 Q 73 lv st h := q_if rfl rfl
theorem r187_73 : zR d 187 Q 73 (o0 :: o1 :: some (.int x) :: l) st h = zR d 187 Q 74 (o0 :: o1 :: some (.int x) :: l) (.int x :: st) h := q_in rfl rfl
theorem r187_74 : zR d 187 Q 74 lv [.int x] h = Q (some (.int x)) h := q_retz rfl rfl (Or.inl rfl)
theorem r187_75 : zR d 187 Q 75 (o0 :: o1 :: some (.int x) :: l) st h = zR d 187 Q 78 (o0 :: o1 :: some (.int (x + 1)) :: l) st h := q_in rfl rfl
theorem r187_78 : zR d 187 Q 78 lv st h = zR d 187 Q 25 lv st h := q_in rfl rfl
theorem r187_81 : zR d 187 Q 81 lv st h = zR d 187 Q 83 lv (.int (-1000000005) :: st) h := q_in rfl rfl
theorem r187_83 : zR d 187 Q 83 lv [.int x] h = Q (some (.int x)) h := q_retz rfl rfl (Or.inl rfl)
theorem r188_0 : zR d 188 Q 0 (o0 :: some (.int x) :: l) st h = zR d 188 Q 1 (o0 :: some (.int x) :: l) (.int x :: st) h := q_in rfl rfl
theorem r188_1 : zR d 188 Q 1 lv [.int x0] h = zM d 183 [.int x0] h (fun r h' => zR d 188 Q 4 lv (r.toList ++ []) h') := q_clS rfl rfl ⟨Nat.le_of_ble_eq_true rfl, Nat.le_of_ble_eq_true rfl⟩
theorem r188_4 : zR d 188 Q 4 lv (.int x :: st) h = if x = 0 then zR d 188 Q 17 lv st h else zR d 188 Q 7 lv st h := q_if rfl rfl
theorem r188_7 : zR d 188 Q 7 (o0 :: o1 :: some (.int x) :: l) st h = zR d 188 Q 8 (o0 :: o1 :: some (.int x) :: l) (.int x :: st) h := q_in rfl rfl
theorem r188_8 : zR d 188 Q 8 lv (.int x :: st) h = zR d 188 Q 9 lv (.long x.toInt64 :: st) h := q_in rfl rfl
theorem r188_9 : zR d 188 Q 9 lv st h = zR d 188 Q 10 lv (.long (Int32.toInt64 0) :: st) h := q_in rfl rfl
theorem r188_10 : zR d 188 Q 10 lv st h = zR d 188 Q 11 lv (.long (Int32.toInt64 1) :: st) h := q_in rfl rfl
theorem r188_11 : zR d 188 Q 11 lv [.long j2, .long j1, .long j0] h = zM d 106 [.long j0, .long j1, .long j2] h (fun r h' => zR d 188 Q 14 lv (r.toList ++ []) h') := q_clS rfl rfl ⟨Nat.le_of_ble_eq_true rfl, Nat.le_of_ble_eq_true rfl⟩
theorem r188_14 : zR d 188 Q 14 lv (.int x :: st) h = if x = 0 then zR d 188 Q 17 lv st h else zR d 188 Q 20 lv st h := q_if rfl rfl
theorem r188_17 : zR d 188 Q 17 lv st h = zR d 188 Q 19 lv (.int (-1000000001) :: st) h := q_in rfl rfl
theorem r188_19 : zR d 188 Q 19 lv [.int x] h = Q (some (.int x)) h := q_retz rfl rfl (Or.inl rfl)
theorem r188_20 : zR d 188 Q 20 (some (.ref c) :: l) st h = zR d 188 Q 21 (some (.ref c) :: l) (.ref c :: st) h := q_in rfl rfl
theorem r188_21 : zR d 188 Q 21 lv (.ref 60 :: st) h = zR d 188 Q 24 lv (.ref 64 :: st) h := (q_and rfl rfl).trans (zand_t rfl)
theorem r188_24 : zR d 188 Q 24 (o0 :: some (.int x) :: l) st h = zR d 188 Q 25 (o0 :: some (.int x) :: l) (.int x :: st) h := q_in rfl rfl
theorem r188_25 : zR d 188 Q 25 lv (.int x :: .ref c :: st) h = zal c x h (fun w => zR d 188 Q 26 lv (.int w :: st) h) := q_iald rfl
theorem r188_26 : zR d 188 Q 26 lv (.int x :: st) h = if x < 0 then zR d 188 Q 29 lv st h else zR d 188 Q 33 lv st h := q_if rfl rfl
theorem r188_29 : zR d 188 Q 29 lv st h = zR d 188 Q 32 lv (.int (-1000000011) :: st) h := q_in rfl rfl
theorem r188_32 : zR d 188 Q 32 lv [.int x] h = Q (some (.int x)) h := q_retz rfl rfl (Or.inl rfl)
theorem r188_33 : zR d 188 Q 33 (some (.ref c) :: l) st h = zR d 188 Q 34 (some (.ref c) :: l) (.ref c :: st) h := q_in rfl rfl
theorem r188_34 : zR d 188 Q 34 lv [.ref 60] h = zM d 150 [.ref 60] h (fun r h' => zR d 188 Q 37 lv (r.toList ++ []) h') := (q_clV rfl rfl (Nat.le_of_ble_eq_true rfl)).trans (zand_t ⟨rfl, Nat.le_of_ble_eq_true rfl⟩)
theorem r188_37 : zR d 188 Q 37 lv st h = zR d 188 Q 38 lv (.int (-1) :: st) h := q_in rfl rfl
theorem r188_38 : zR d 188 Q 38 (o0 :: o1 :: o2 :: o3 :: l) (.int x :: st) h = zR d 188 Q 39 (o0 :: o1 :: o2 :: some (.int x) :: l) st h := q_in rfl rfl
theorem r188_39 : zR d 188 Q 39 lv st h = zR d 188 Q 40 lv (.int 0 :: st) h := q_in rfl rfl
theorem r188_40 : zR d 188 Q 40 (o0 :: o1 :: o2 :: o3 :: o4 :: l) (.int x :: st) h = zR d 188 Q 42 (o0 :: o1 :: o2 :: o3 :: some (.int x) :: l) st h := q_in rfl rfl
theorem r188_42 : zR d 188 Q 42 lv st h = zR d 188 Q 43 lv (.int 0 :: st) h := q_in rfl rfl
theorem r188_43 : zR d 188 Q 43 (o0 :: o1 :: o2 :: o3 :: o4 :: o5 :: l) (.int x :: st) h = zR d 188 Q 45 (o0 :: o1 :: o2 :: o3 :: o4 :: some (.int x) :: l) st h := q_in rfl rfl
theorem r188_45 : zR d 188 Q 45 (o0 :: o1 :: o2 :: o3 :: o4 :: some (.int x) :: l) st h = zR d 188 Q 47 (o0 :: o1 :: o2 :: o3 :: o4 :: some (.int x) :: l) (.int x :: st) h := q_in rfl rfl
theorem r188_47 : zR d 188 Q 47 lv st h = zR d 188 Q 49 lv (.int 60 :: st) h := q_in rfl rfl
theorem r188_49 : zR d 188 Q 49 lv (.int z :: .int x :: st) h = if x ≤ z then zR d 188 Q 52 lv st h else zR d 188 Q 157 lv st h := q_if rfl rfl
theorem r188_52 : zR d 188 Q 52 (some (.ref c) :: l) st h = zR d 188 Q 53 (some (.ref c) :: l) (.ref c :: st) h := q_in rfl rfl
theorem r188_53 : zR d 188 Q 53 lv (.ref 60 :: st) h = zR d 188 Q 56 lv (.ref 61 :: st) h := (q_and rfl rfl).trans (zand_t rfl)
theorem r188_56 : zR d 188 Q 56 lv st h = zR d 188 Q 58 lv (.int 7 :: st) h := q_in rfl rfl
theorem r188_58 : zR d 188 Q 58 (o0 :: o1 :: o2 :: o3 :: o4 :: some (.int x) :: l) st h = zR d 188 Q 60 (o0 :: o1 :: o2 :: o3 :: o4 :: some (.int x) :: l) (.int x :: st) h := q_in rfl rfl
theorem r188_60 : zR d 188 Q 60 lv (.int z :: .int x :: .ref c :: st) h = zas c x z h (fun h' => zR d 188 Q 61 lv st h') := q_iast rfl
theorem r188_61 : zR d 188 Q 61 lv st h = zR d 188 Q 62 lv (.int 0 :: st) h := q_in rfl rfl
theorem r188_62 : zR d 188 Q 62 (o0 :: o1 :: o2 :: o3 :: o4 :: o5 :: o6 :: l) (.int x :: st) h = zR d 188 Q 64 (o0 :: o1 :: o2 :: o3 :: o4 :: o5 :: some (.int x) :: l) st h := q_in rfl rfl
theorem r188_64 : zR d 188 Q 64 lv st h = zR d 188 Q 65 lv (.int 0 :: st) h := q_in rfl rfl
theorem r188_65 : zR d 188 Q 65 (o0 :: o1 :: o2 :: o3 :: o4 :: o5 :: o6 :: o7 :: l) (.int x :: st) h = zR d 188 Q 67 (o0 :: o1 :: o2 :: o3 :: o4 :: o5 :: o6 :: some (.int x) :: l) st h := q_in rfl rfl
theorem r188_67 : zR d 188 Q 67 (o0 :: o1 :: o2 :: o3 :: o4 :: o5 :: o6 :: some (.int x) :: l) st h = zR d 188 Q 69 (o0 :: o1 :: o2 :: o3 :: o4 :: o5 :: o6 :: some (.int x) :: l) (.int x :: st) h := q_in rfl rfl
theorem r188_69 : zR d 188 Q 69 (some (.ref c) :: l) st h = zR d 188 Q 70 (some (.ref c) :: l) (.ref c :: st) h := q_in rfl rfl
theorem r188_70 : zR d 188 Q 70 lv (.ref 60 :: st) h = zR d 188 Q 73 lv (.ref 65 :: st) h := (q_and rfl rfl).trans (zand_t rfl)
theorem r188_73 : zR d 188 Q 73 (o0 :: some (.int x) :: l) st h = zR d 188 Q 74 (o0 :: some (.int x) :: l) (.int x :: st) h := q_in rfl rfl
theorem r188_74 : zR d 188 Q 74 lv (.int x :: .ref c :: st) h = zal c x h (fun w => zR d 188 Q 75 lv (.int w :: st) h) := q_iald rfl
theorem r188_75 : zR d 188 Q 75 lv (.int z :: .int x :: st) h = if x < z then zR d 188 Q 78 lv st h else zR d 188 Q 129 lv st h := q_if rfl rfl
theorem r188_78 : zR d 188 Q 78 (some (.ref c) :: l) st h = zR d 188 Q 79 (some (.ref c) :: l) (.ref c :: st) h := q_in rfl rfl
theorem r188_79 : zR d 188 Q 79 lv (.ref 60 :: st) h = zR d 188 Q 82 lv (.ref 66 :: st) h := (q_and rfl rfl).trans (zand_t rfl)
theorem r188_82 : zR d 188 Q 82 lv st h = zR d 188 Q 84 lv (.int 24 :: st) h := q_in rfl rfl
theorem r188_84 : zR d 188 Q 84 (o0 :: some (.int x) :: l) st h = zR d 188 Q 85 (o0 :: some (.int x) :: l) (.int x :: st) h := q_in rfl rfl
theorem r188_85 : zR d 188 Q 85 lv (.int z :: .int x :: st) h = zR d 188 Q 86 lv (.int (x * z) :: st) h := q_in rfl rfl
theorem r188_86 : zR d 188 Q 86 (o0 :: o1 :: o2 :: o3 :: o4 :: o5 :: o6 :: some (.int x) :: l) st h = zR d 188 Q 88 (o0 :: o1 :: o2 :: o3 :: o4 :: o5 :: o6 :: some (.int x) :: l) (.int x :: st) h := q_in rfl rfl
theorem r188_88 : zR d 188 Q 88 lv (.int z :: .int x :: st) h = zR d 188 Q 89 lv (.int (x + z) :: st) h := q_in rfl rfl
theorem r188_89 : zR d 188 Q 89 lv (.int x :: .ref c :: st) h = zal c x h (fun w => zR d 188 Q 90 lv (.int w :: st) h) := q_iald rfl
theorem r188_90 : zR d 188 Q 90 (o0 :: o1 :: o2 :: o3 :: o4 :: o5 :: o6 :: o7 :: o8 :: l) (.int x :: st) h = zR d 188 Q 92 (o0 :: o1 :: o2 :: o3 :: o4 :: o5 :: o6 :: o7 :: some (.int x) :: l) st h := q_in rfl rfl
theorem r188_92 : zR d 188 Q 92 (o0 :: o1 :: o2 :: o3 :: o4 :: o5 :: some (.int x) :: l) st h = zR d 188 Q 94 (o0 :: o1 :: o2 :: o3 :: o4 :: o5 :: some (.int x) :: l) (.int x :: st) h := q_in rfl rfl
theorem r188_94 : zR d 188 Q 94 (o0 :: o1 :: o2 :: o3 :: o4 :: o5 :: o6 :: o7 :: some (.int x) :: l) st h = zR d 188 Q 96 (o0 :: o1 :: o2 :: o3 :: o4 :: o5 :: o6 :: o7 :: some (.int x) :: l) (.int x :: st) h := q_in rfl rfl
theorem r188_96 : zR d 188 Q 96 lv st h = zR d 188 Q 98 lv (.int (-1000000005) :: st) h := q_in rfl rfl
theorem r188_98 : zR d 188 Q 98 lv (.int z :: .int x :: st) h = if x = z then zR d 188 Q 101 lv st h else zR d 188 Q 105 lv st h := q_if rfl rfl
theorem r188_101 : zR d 188 Q 101 lv st h = zR d 188 Q 102 lv (.int 0 :: st) h := q_in rfl rfl
theorem r188_102 : zR d 188 Q 102 lv st h = zR d 188 Q 116 lv st h := q_in rfl rfl
theorem r188_105 : zR d 188 Q 105 (o0 :: o1 :: o2 :: o3 :: o4 :: o5 :: o6 :: o7 :: some (.int x) :: l) st h = zR d 188 Q 107 (o0 :: o1 :: o2 :: o3 :: o4 :: o5 :: o6 :: o7 :: some (.int x) :: l) (.int x :: st) h := q_in rfl rfl
theorem r188_107 : zR d 188 Q 107 (some (.ref c) :: l) st h = zR d 188 Q 108 (some (.ref c) :: l) (.ref c :: st) h := q_in rfl rfl
theorem r188_108 : zR d 188 Q 108 lv (.ref 60 :: st) h = zR d 188 Q 111 lv (.ref 61 :: st) h := (q_and rfl rfl).trans (zand_t rfl)
theorem r188_111 : zR d 188 Q 111 lv st h = zR d 188 Q 112 lv (.int 3 :: st) h := q_in rfl rfl
theorem r188_112 : zR d 188 Q 112 lv (.int x :: .ref c :: st) h = zal c x h (fun w => zR d 188 Q 113 lv (.int w :: st) h) := q_iald rfl
theorem r188_113 : zR d 188 Q 113 lv [.int x1, .int x0, .int y0] h = zM d 109 [.int x0, .int x1] h (fun r h' => zR d 188 Q 116 lv (r.toList ++ [.int y0]) h') := q_clS rfl rfl ⟨Nat.le_of_ble_eq_true rfl, Nat.le_of_ble_eq_true rfl⟩
theorem r188_116 : zR d 188 Q 116 lv (.int z :: .int x :: st) h = zR d 188 Q 117 lv (.int (x + z) :: st) h := q_in rfl rfl
theorem r188_117 : zR d 188 Q 117 (o0 :: o1 :: o2 :: o3 :: o4 :: o5 :: o6 :: l) (.int x :: st) h = zR d 188 Q 119 (o0 :: o1 :: o2 :: o3 :: o4 :: o5 :: some (.int x) :: l) st h := q_in rfl rfl
theorem r188_119 : zR d 188 Q 119 (some (.ref c) :: l) st h = zR d 188 Q 120 (some (.ref c) :: l) (.ref c :: st) h := q_in rfl rfl
theorem r188_120 : zR d 188 Q 120 lv [.ref 60] h = zM d 144 [.ref 60] h (fun r h' => zR d 188 Q 123 lv (r.toList ++ []) h') := (q_clV rfl rfl (Nat.le_of_ble_eq_true rfl)).trans (zand_t ⟨rfl, Nat.le_of_ble_eq_true rfl⟩)
theorem r188_123 : zR d 188 Q 123 (o0 :: o1 :: o2 :: o3 :: o4 :: o5 :: o6 :: some (.int x) :: l) st h = zR d 188 Q 126 (o0 :: o1 :: o2 :: o3 :: o4 :: o5 :: o6 :: some (.int (x + 1)) :: l) st h := q_in rfl rfl
theorem r188_126 : zR d 188 Q 126 lv st h = zR d 188 Q 67 lv st h := q_in rfl rfl
theorem r188_129 : zR d 188 Q 129 (some (.ref c) :: l) st h = zR d 188 Q 130 (some (.ref c) :: l) (.ref c :: st) h := q_in rfl rfl
theorem r188_130 : zR d 188 Q 130 lv [.ref 60] h = zM d 151 [.ref 60] h (fun r h' => zR d 188 Q 133 lv (r.toList ++ []) h') := (q_clV rfl rfl (Nat.le_of_ble_eq_true rfl)).trans (zand_t ⟨rfl, Nat.le_of_ble_eq_true rfl⟩)
theorem r188_133 : zR d 188 Q 133 (o0 :: o1 :: o2 :: some (.int x) :: l) st h = zR d 188 Q 134 (o0 :: o1 :: o2 :: some (.int x) :: l) (.int x :: st) h := q_in rfl rfl
theorem r188_134 : zR d 188 Q 134 lv (.int x :: st) h = if x < 0 then zR d 188 Q 144 lv st h else zR d 188 Q 137 lv st h := q_if rfl rfl
theorem r188_137 : zR d 188 Q 137 (o0 :: o1 :: o2 :: o3 :: o4 :: o5 :: some (.int x) :: l) st h = zR d 188 Q 139 (o0 :: o1 :: o2 :: o3 :: o4 :: o5 :: some (.int x) :: l) (.int x :: st) h := q_in rfl rfl
theorem r188_139 : zR d 188 Q 139 (o0 :: o1 :: o2 :: o3 :: some (.int x) :: l) st h = zR d 188 Q 141 (o0 :: o1 :: o2 :: o3 :: some (.int x) :: l) (.int x :: st) h := q_in rfl rfl
theorem r188_141 : zR d 188 Q 141 lv (.int z :: .int x :: st) h = if x < z then zR d 188 Q 144 lv st h else zR d 188 Q 151 lv st h := q_if rfl rfl
theorem r188_144 : zR d 188 Q 144 (o0 :: o1 :: o2 :: o3 :: o4 :: some (.int x) :: l) st h = zR d 188 Q 146 (o0 :: o1 :: o2 :: o3 :: o4 :: some (.int x) :: l) (.int x :: st) h := q_in rfl rfl
theorem r188_146 : zR d 188 Q 146 (o0 :: o1 :: o2 :: o3 :: l) (.int x :: st) h = zR d 188 Q 147 (o0 :: o1 :: o2 :: some (.int x) :: l) st h := q_in rfl rfl
theorem r188_147 : zR d 188 Q 147 (o0 :: o1 :: o2 :: o3 :: o4 :: o5 :: some (.int x) :: l) st h = zR d 188 Q 149 (o0 :: o1 :: o2 :: o3 :: o4 :: o5 :: some (.int x) :: l) (.int x :: st) h := q_in rfl rfl
theorem r188_149 : zR d 188 Q 149 (o0 :: o1 :: o2 :: o3 :: o4 :: l) (.int x :: st) h = zR d 188 Q 151 (o0 :: o1 :: o2 :: o3 :: some (.int x) :: l) st h := q_in rfl rfl
theorem r188_151 : zR d 188 Q 151 (o0 :: o1 :: o2 :: o3 :: o4 :: some (.int x) :: l) st h = zR d 188 Q 154 (o0 :: o1 :: o2 :: o3 :: o4 :: some (.int (x + 1)) :: l) st h := q_in rfl rfl
theorem r188_154 : zR d 188 Q 154 lv st h = zR d 188 Q 45 lv st h := q_in rfl rfl
theorem r188_157 : zR d 188 Q 157 (o0 :: o1 :: some (.int x) :: l) st h = zR d 188 Q 158 (o0 :: o1 :: some (.int x) :: l) (.int x :: st) h := q_in rfl rfl
theorem r188_158 : zR d 188 Q 158 lv (.int x :: st) h = if x = 0 then zR d 188 Q 161 lv st h else zR d 188 Q 165 lv st h := q_if rfl rfl
theorem r188_161 : zR d 188 Q 161 (o0 :: o1 :: o2 :: some (.int x) :: l) st h = zR d 188 Q 162 (o0 :: o1 :: o2 :: some (.int x) :: l) (.int x :: st) h := q_in rfl rfl
theorem r188_162 : zR d 188 Q 162 lv st h = zR d 188 Q 167 lv st h := q_in rfl rfl
theorem r188_165 : zR d 188 Q 165 (o0 :: o1 :: o2 :: o3 :: some (.int x) :: l) st h = zR d 188 Q 167 (o0 :: o1 :: o2 :: o3 :: some (.int x) :: l) (.int x :: st) h := q_in rfl rfl
theorem r188_167 : zR d 188 Q 167 lv [.int x] h = Q (some (.int x)) h := q_retz rfl rfl (Or.inl rfl)
theorem r189_0 : zR d 189 Q 0 (o0 :: some (.int x) :: l) st h = zR d 189 Q 1 (o0 :: some (.int x) :: l) (.int x :: st) h := q_in rfl rfl
theorem r189_1 : zR d 189 Q 1 lv [.int x0] h = zM d 183 [.int x0] h (fun r h' => zR d 189 Q 4 lv (r.toList ++ []) h') := q_clS rfl rfl ⟨Nat.le_of_ble_eq_true rfl, Nat.le_of_ble_eq_true rfl⟩
theorem r189_4 : zR d 189 Q 4 lv (.int x :: st) h = if x = 0 then zR d 189 Q 14 lv st h else zR d 189 Q 7 lv st h := q_if rfl rfl
theorem r189_7 : zR d 189 Q 7 (o0 :: o1 :: o2 :: some (.int x) :: l) st h = zR d 189 Q 8 (o0 :: o1 :: o2 :: some (.int x) :: l) (.int x :: st) h := q_in rfl rfl
theorem r189_8 : zR d 189 Q 8 lv [.int x0] h = zM d 183 [.int x0] h (fun r h' => zR d 189 Q 11 lv (r.toList ++ []) h') := q_clS rfl rfl ⟨Nat.le_of_ble_eq_true rfl, Nat.le_of_ble_eq_true rfl⟩
theorem r189_11 : zR d 189 Q 11 lv (.int x :: st) h = if x = 0 then zR d 189 Q 14 lv st h else zR d 189 Q 17 lv st h := q_if rfl rfl
theorem r189_14 : zR d 189 Q 14 lv st h = zR d 189 Q 16 lv (.int (-1000000001) :: st) h := q_in rfl rfl
theorem r189_16 : zR d 189 Q 16 lv [.int x] h = Q (some (.int x)) h := q_retz rfl rfl (Or.inl rfl)
theorem r189_17 : zR d 189 Q 17 (some (.ref c) :: l) st h = zR d 189 Q 18 (some (.ref c) :: l) (.ref c :: st) h := q_in rfl rfl
theorem r189_18 : zR d 189 Q 18 lv (.ref 60 :: st) h = zR d 189 Q 21 lv (.ref 64 :: st) h := (q_and rfl rfl).trans (zand_t rfl)
theorem r189_21 : zR d 189 Q 21 (o0 :: some (.int x) :: l) st h = zR d 189 Q 22 (o0 :: some (.int x) :: l) (.int x :: st) h := q_in rfl rfl
theorem r189_22 : zR d 189 Q 22 lv (.int x :: .ref c :: st) h = zal c x h (fun w => zR d 189 Q 23 lv (.int w :: st) h) := q_iald rfl
theorem r189_23 : zR d 189 Q 23 lv (.int x :: st) h = if x < 0 then zR d 189 Q 35 lv st h else zR d 189 Q 26 lv st h := q_if rfl rfl
theorem r189_26 : zR d 189 Q 26 (some (.ref c) :: l) st h = zR d 189 Q 27 (some (.ref c) :: l) (.ref c :: st) h := q_in rfl rfl
theorem r189_27 : zR d 189 Q 27 lv (.ref 60 :: st) h = zR d 189 Q 30 lv (.ref 64 :: st) h := (q_and rfl rfl).trans (zand_t rfl)
theorem r189_30 : zR d 189 Q 30 (o0 :: o1 :: o2 :: some (.int x) :: l) st h = zR d 189 Q 31 (o0 :: o1 :: o2 :: some (.int x) :: l) (.int x :: st) h := q_in rfl rfl
theorem r189_31 : zR d 189 Q 31 lv (.int x :: .ref c :: st) h = zal c x h (fun w => zR d 189 Q 32 lv (.int w :: st) h) := q_iald rfl
theorem r189_32 : zR d 189 Q 32 lv (.int x :: st) h = if x < 0 then zR d 189 Q 35 lv st h else zR d 189 Q 39 lv st h := q_if rfl rfl
theorem r189_35 : zR d 189 Q 35 lv st h = zR d 189 Q 38 lv (.int (-1000000011) :: st) h := q_in rfl rfl
theorem r189_38 : zR d 189 Q 38 lv [.int x] h = Q (some (.int x)) h := q_retz rfl rfl (Or.inl rfl)
theorem r189_39 : zR d 189 Q 39 (some (.ref c) :: l) st h = zR d 189 Q 40 (some (.ref c) :: l) (.ref c :: st) h := q_in rfl rfl
theorem r189_40 : zR d 189 Q 40 lv (.ref 60 :: st) h = zR d 189 Q 43 lv (.ref 64 :: st) h := (q_and rfl rfl).trans (zand_t rfl)
theorem r189_43 : zR d 189 Q 43 (o0 :: some (.int x) :: l) st h = zR d 189 Q 44 (o0 :: some (.int x) :: l) (.int x :: st) h := q_in rfl rfl
theorem r189_44 : zR d 189 Q 44 lv (.int x :: .ref c :: st) h = zal c x h (fun w => zR d 189 Q 45 lv (.int w :: st) h) := q_iald rfl
theorem r189_45 : zR d 189 Q 45 (some (.ref c) :: l) st h = zR d 189 Q 46 (some (.ref c) :: l) (.ref c :: st) h := q_in rfl rfl
theorem r189_46 : zR d 189 Q 46 lv (.ref 60 :: st) h = zR d 189 Q 49 lv (.ref 64 :: st) h := (q_and rfl rfl).trans (zand_t rfl)
theorem r189_49 : zR d 189 Q 49 (o0 :: o1 :: o2 :: some (.int x) :: l) st h = zR d 189 Q 50 (o0 :: o1 :: o2 :: some (.int x) :: l) (.int x :: st) h := q_in rfl rfl
theorem r189_50 : zR d 189 Q 50 lv (.int x :: .ref c :: st) h = zal c x h (fun w => zR d 189 Q 51 lv (.int w :: st) h) := q_iald rfl
theorem r189_51 : zR d 189 Q 51 lv (.int z :: .int x :: st) h = if x = z then zR d 189 Q 57 lv st h else zR d 189 Q 54 lv st h := q_if rfl rfl
theorem r189_54 : zR d 189 Q 54 lv st h = zR d 189 Q 56 lv (.int (-1000000012) :: st) h := q_in rfl rfl
theorem r189_56 : zR d 189 Q 56 lv [.int x] h = Q (some (.int x)) h := q_retz rfl rfl (Or.inl rfl)
theorem r189_57 : zR d 189 Q 57 (o0 :: o1 :: some (.int x) :: l) st h = zR d 189 Q 58 (o0 :: o1 :: some (.int x) :: l) (.int x :: st) h := q_in rfl rfl
theorem r189_58 : zR d 189 Q 58 lv (.int x :: st) h = if x < 0 then zR d 189 Q 106 lv st h else zR d 189 Q 61 lv st h := q_if rfl rfl
theorem r189_61 : zR d 189 Q 61 (o0 :: o1 :: o2 :: o3 :: some (.int x) :: l) st h = zR d 189 Q 63 (o0 :: o1 :: o2 :: o3 :: some (.int x) :: l) (.int x :: st) h := q_in rfl rfl
theorem r189_63 : zR d 189 Q 63 lv (.int x :: st) h = if x < 0 then zR d 189 Q 106 lv st h else zR d 189 Q 66 lv st h := q_if rfl rfl
theorem r189_66 : zR d 189 Q 66 (o0 :: o1 :: o2 :: o3 :: o4 :: some (.int x) :: l) st h = zR d 189 Q 68 (o0 :: o1 :: o2 :: o3 :: o4 :: some (.int x) :: l) (.int x :: st) h := q_in rfl rfl
theorem r189_68 : zR d 189 Q 68 lv (.int x :: st) h = if x < 0 then zR d 189 Q 106 lv st h else zR d 189 Q 71 lv st h := q_if rfl rfl
theorem r189_71 : zR d 189 Q 71 (o0 :: o1 :: some (.int x) :: l) st h = zR d 189 Q 72 (o0 :: o1 :: some (.int x) :: l) (.int x :: st) h := q_in rfl rfl
theorem r189_72 : zR d 189 Q 72 lv (.int x :: st) h = zR d 189 Q 73 lv (.long x.toInt64 :: st) h := q_in rfl rfl
theorem r189_73 : zR d 189 Q 73 (o0 :: o1 :: o2 :: o3 :: o4 :: some (.int x) :: l) st h = zR d 189 Q 75 (o0 :: o1 :: o2 :: o3 :: o4 :: some (.int x) :: l) (.int x :: st) h := q_in rfl rfl
theorem r189_75 : zR d 189 Q 75 lv (.int x :: st) h = zR d 189 Q 76 lv (.long x.toInt64 :: st) h := q_in rfl rfl
theorem r189_76 : zR d 189 Q 76 lv (.long i :: .long j :: st) h = zR d 189 Q 77 lv (.long (j + i) :: st) h := q_in rfl rfl
theorem r189_77 : zR d 189 Q 77 (some (.ref c) :: l) st h = zR d 189 Q 78 (some (.ref c) :: l) (.ref c :: st) h := q_in rfl rfl
theorem r189_78 : zR d 189 Q 78 lv (.ref 60 :: st) h = zR d 189 Q 81 lv (.ref 65 :: st) h := (q_and rfl rfl).trans (zand_t rfl)
theorem r189_81 : zR d 189 Q 81 (o0 :: some (.int x) :: l) st h = zR d 189 Q 82 (o0 :: some (.int x) :: l) (.int x :: st) h := q_in rfl rfl
theorem r189_82 : zR d 189 Q 82 lv (.int x :: .ref c :: st) h = zal c x h (fun w => zR d 189 Q 83 lv (.int w :: st) h) := q_iald rfl
theorem r189_83 : zR d 189 Q 83 lv (.int x :: st) h = zR d 189 Q 84 lv (.long x.toInt64 :: st) h := q_in rfl rfl
theorem r189_84 : zR d 189 Q 84 lv (.long i :: .long j :: st) h = zR d 189 Q 85 lv (.int (lg_cmp j i) :: st) h := q_in rfl rfl
theorem r189_85 : zR d 189 Q 85 lv (.int x :: st) h = if x ≤ 0 then zR d 189 Q 88 lv st h else zR d 189 Q 106 lv st h := q_if rfl rfl
theorem r189_88 : zR d 189 Q 88 (o0 :: o1 :: o2 :: o3 :: some (.int x) :: l) st h = zR d 189 Q 90 (o0 :: o1 :: o2 :: o3 :: some (.int x) :: l) (.int x :: st) h := q_in rfl rfl
theorem r189_90 : zR d 189 Q 90 lv (.int x :: st) h = zR d 189 Q 91 lv (.long x.toInt64 :: st) h := q_in rfl rfl
theorem r189_91 : zR d 189 Q 91 (o0 :: o1 :: o2 :: o3 :: o4 :: some (.int x) :: l) st h = zR d 189 Q 93 (o0 :: o1 :: o2 :: o3 :: o4 :: some (.int x) :: l) (.int x :: st) h := q_in rfl rfl
theorem r189_93 : zR d 189 Q 93 lv (.int x :: st) h = zR d 189 Q 94 lv (.long x.toInt64 :: st) h := q_in rfl rfl
theorem r189_94 : zR d 189 Q 94 lv (.long i :: .long j :: st) h = zR d 189 Q 95 lv (.long (j + i) :: st) h := q_in rfl rfl
theorem r189_95 : zR d 189 Q 95 (some (.ref c) :: l) st h = zR d 189 Q 96 (some (.ref c) :: l) (.ref c :: st) h := q_in rfl rfl
theorem r189_96 : zR d 189 Q 96 lv (.ref 60 :: st) h = zR d 189 Q 99 lv (.ref 65 :: st) h := (q_and rfl rfl).trans (zand_t rfl)
theorem r189_99 : zR d 189 Q 99 (o0 :: o1 :: o2 :: some (.int x) :: l) st h = zR d 189 Q 100 (o0 :: o1 :: o2 :: some (.int x) :: l) (.int x :: st) h := q_in rfl rfl
theorem r189_100 : zR d 189 Q 100 lv (.int x :: .ref c :: st) h = zal c x h (fun w => zR d 189 Q 101 lv (.int w :: st) h) := q_iald rfl
theorem r189_101 : zR d 189 Q 101 lv (.int x :: st) h = zR d 189 Q 102 lv (.long x.toInt64 :: st) h := q_in rfl rfl
theorem r189_102 : zR d 189 Q 102 lv (.long i :: .long j :: st) h = zR d 189 Q 103 lv (.int (lg_cmp j i) :: st) h := q_in rfl rfl
theorem r189_103 : zR d 189 Q 103 lv (.int x :: st) h = if x ≤ 0 then zR d 189 Q 110 lv st h else zR d 189 Q 106 lv st h := q_if rfl rfl
theorem r189_106 : zR d 189 Q 106 lv st h = zR d 189 Q 109 lv (.int (-1000000013) :: st) h := q_in rfl rfl
theorem r189_109 : zR d 189 Q 109 lv [.int x] h = Q (some (.int x)) h := q_retz rfl rfl (Or.inl rfl)
theorem r189_110 : zR d 189 Q 110 lv st h = zR d 189 Q 111 lv (.int 0 :: st) h := q_in rfl rfl
theorem r189_111 : zR d 189 Q 111 (o0 :: o1 :: o2 :: o3 :: o4 :: o5 :: o6 :: l) (.int x :: st) h = zR d 189 Q 113 (o0 :: o1 :: o2 :: o3 :: o4 :: o5 :: some (.int x) :: l) st h := q_in rfl rfl
theorem r189_113 : zR d 189 Q 113 (o0 :: o1 :: o2 :: o3 :: o4 :: o5 :: some (.int x) :: l) st h = zR d 189 Q 115 (o0 :: o1 :: o2 :: o3 :: o4 :: o5 :: some (.int x) :: l) (.int x :: st) h := q_in rfl rfl
theorem r189_115 : zR d 189 Q 115 (o0 :: o1 :: o2 :: o3 :: o4 :: some (.int x) :: l) st h = zR d 189 Q 117 (o0 :: o1 :: o2 :: o3 :: o4 :: some (.int x) :: l) (.int x :: st) h := q_in rfl rfl
theorem r189_117 : zR d 189 Q 117 lv (.int z :: .int x :: st) h = if x < z then zR d 189 Q 120 lv st h else zR d 189 Q 147 lv st h := q_if rfl rfl
theorem r189_120 : zR d 189 Q 120 (some (.ref c) :: l) st h = zR d 189 Q 121 (some (.ref c) :: l) (.ref c :: st) h := q_in rfl rfl
theorem r189_121 : zR d 189 Q 121 lv (.ref 60 :: st) h = zR d 189 Q 124 lv (.ref 77 :: st) h := (q_and rfl rfl).trans (zand_t rfl)
theorem r189_124 : zR d 189 Q 124 (o0 :: o1 :: o2 :: o3 :: o4 :: o5 :: some (.int x) :: l) st h = zR d 189 Q 126 (o0 :: o1 :: o2 :: o3 :: o4 :: o5 :: some (.int x) :: l) (.int x :: st) h := q_in rfl rfl
theorem r189_126 : zR d 189 Q 126 (some (.ref c) :: l) st h = zR d 189 Q 127 (some (.ref c) :: l) (.ref c :: st) h := q_in rfl rfl
theorem r189_127 : zR d 189 Q 127 lv (.ref 60 :: st) h = zR d 189 Q 130 lv (.ref 66 :: st) h := (q_and rfl rfl).trans (zand_t rfl)
theorem r189_130 : zR d 189 Q 130 lv st h = zR d 189 Q 132 lv (.int 24 :: st) h := q_in rfl rfl
theorem r189_132 : zR d 189 Q 132 (o0 :: some (.int x) :: l) st h = zR d 189 Q 133 (o0 :: some (.int x) :: l) (.int x :: st) h := q_in rfl rfl
theorem r189_133 : zR d 189 Q 133 lv (.int z :: .int x :: st) h = zR d 189 Q 134 lv (.int (x * z) :: st) h := q_in rfl rfl
theorem r189_134 : zR d 189 Q 134 (o0 :: o1 :: some (.int x) :: l) st h = zR d 189 Q 135 (o0 :: o1 :: some (.int x) :: l) (.int x :: st) h := q_in rfl rfl
theorem r189_135 : zR d 189 Q 135 lv (.int z :: .int x :: st) h = zR d 189 Q 136 lv (.int (x + z) :: st) h := q_in rfl rfl
theorem r189_136 : zR d 189 Q 136 (o0 :: o1 :: o2 :: o3 :: o4 :: o5 :: some (.int x) :: l) st h = zR d 189 Q 138 (o0 :: o1 :: o2 :: o3 :: o4 :: o5 :: some (.int x) :: l) (.int x :: st) h := q_in rfl rfl
theorem r189_138 : zR d 189 Q 138 lv (.int z :: .int x :: st) h = zR d 189 Q 139 lv (.int (x + z) :: st) h := q_in rfl rfl
theorem r189_139 : zR d 189 Q 139 lv (.int x :: .ref c :: st) h = zal c x h (fun w => zR d 189 Q 140 lv (.int w :: st) h) := q_iald rfl
theorem r189_140 : zR d 189 Q 140 lv (.int z :: .int x :: .ref c :: st) h = zas c x z h (fun h' => zR d 189 Q 141 lv st h') := q_iast rfl
theorem r189_141 : zR d 189 Q 141 (o0 :: o1 :: o2 :: o3 :: o4 :: o5 :: some (.int x) :: l) st h = zR d 189 Q 144 (o0 :: o1 :: o2 :: o3 :: o4 :: o5 :: some (.int (x + 1)) :: l) st h := q_in rfl rfl
theorem r189_144 : zR d 189 Q 144 lv st h = zR d 189 Q 113 lv st h := q_in rfl rfl
theorem r189_147 : zR d 189 Q 147 lv st h = zR d 189 Q 148 lv (.int 0 :: st) h := q_in rfl rfl
theorem r189_148 : zR d 189 Q 148 (o0 :: o1 :: o2 :: o3 :: o4 :: o5 :: o6 :: l) (.int x :: st) h = zR d 189 Q 150 (o0 :: o1 :: o2 :: o3 :: o4 :: o5 :: some (.int x) :: l) st h := q_in rfl rfl
theorem r189_150 : zR d 189 Q 150 (o0 :: o1 :: o2 :: o3 :: o4 :: o5 :: some (.int x) :: l) st h = zR d 189 Q 152 (o0 :: o1 :: o2 :: o3 :: o4 :: o5 :: some (.int x) :: l) (.int x :: st) h := q_in rfl rfl
theorem r189_152 : zR d 189 Q 152 (o0 :: o1 :: o2 :: o3 :: o4 :: some (.int x) :: l) st h = zR d 189 Q 154 (o0 :: o1 :: o2 :: o3 :: o4 :: some (.int x) :: l) (.int x :: st) h := q_in rfl rfl
theorem r189_154 : zR d 189 Q 154 lv (.int z :: .int x :: st) h = if x < z then zR d 189 Q 157 lv st h else zR d 189 Q 185 lv st h := q_if rfl rfl
theorem r189_157 : zR d 189 Q 157 (some (.ref c) :: l) st h = zR d 189 Q 158 (some (.ref c) :: l) (.ref c :: st) h := q_in rfl rfl
theorem r189_158 : zR d 189 Q 158 lv (.ref 60 :: st) h = zR d 189 Q 161 lv (.ref 66 :: st) h := (q_and rfl rfl).trans (zand_t rfl)
set_option maxRecDepth 100000 in
theorem r189_161 : zR d 189 Q 161 lv st h = zR d 189 Q 163 lv (.int 24 :: st) h := q_in rfl rfl
set_option maxRecDepth 100000 in
theorem r189_163 : zR d 189 Q 163 (o0 :: o1 :: o2 :: some (.int x) :: l) st h = zR d 189 Q 164 (o0 :: o1 :: o2 :: some (.int x) :: l) (.int x :: st) h := q_in rfl rfl
set_option maxRecDepth 100000 in
theorem r189_164 : zR d 189 Q 164 lv (.int z :: .int x :: st) h = zR d 189 Q 165 lv (.int (x * z) :: st) h := q_in rfl rfl
set_option maxRecDepth 100000 in
theorem r189_165 : zR d 189 Q 165 (o0 :: o1 :: o2 :: o3 :: some (.int x) :: l) st h = zR d 189 Q 167 (o0 :: o1 :: o2 :: o3 :: some (.int x) :: l) (.int x :: st) h := q_in rfl rfl
set_option maxRecDepth 100000 in
theorem r189_167 : zR d 189 Q 167 lv (.int z :: .int x :: st) h = zR d 189 Q 168 lv (.int (x + z) :: st) h := q_in rfl rfl
set_option maxRecDepth 100000 in
theorem r189_168 : zR d 189 Q 168 (o0 :: o1 :: o2 :: o3 :: o4 :: o5 :: some (.int x) :: l) st h = zR d 189 Q 170 (o0 :: o1 :: o2 :: o3 :: o4 :: o5 :: some (.int x) :: l) (.int x :: st) h := q_in rfl rfl
set_option maxRecDepth 100000 in
theorem r189_170 : zR d 189 Q 170 lv (.int z :: .int x :: st) h = zR d 189 Q 171 lv (.int (x + z) :: st) h := q_in rfl rfl
set_option maxRecDepth 100000 in
theorem r189_171 : zR d 189 Q 171 (some (.ref c) :: l) st h = zR d 189 Q 172 (some (.ref c) :: l) (.ref c :: st) h := q_in rfl rfl
set_option maxRecDepth 100000 in
theorem r189_172 : zR d 189 Q 172 lv (.ref 60 :: st) h = zR d 189 Q 175 lv (.ref 77 :: st) h := (q_and rfl rfl).trans (zand_t rfl)
set_option maxRecDepth 100000 in
theorem r189_175 : zR d 189 Q 175 (o0 :: o1 :: o2 :: o3 :: o4 :: o5 :: some (.int x) :: l) st h = zR d 189 Q 177 (o0 :: o1 :: o2 :: o3 :: o4 :: o5 :: some (.int x) :: l) (.int x :: st) h := q_in rfl rfl
set_option maxRecDepth 100000 in
theorem r189_177 : zR d 189 Q 177 lv (.int x :: .ref c :: st) h = zal c x h (fun w => zR d 189 Q 178 lv (.int w :: st) h) := q_iald rfl
set_option maxRecDepth 100000 in
theorem r189_178 : zR d 189 Q 178 lv (.int z :: .int x :: .ref c :: st) h = zas c x z h (fun h' => zR d 189 Q 179 lv st h') := q_iast rfl
set_option maxRecDepth 100000 in
theorem r189_179 : zR d 189 Q 179 (o0 :: o1 :: o2 :: o3 :: o4 :: o5 :: some (.int x) :: l) st h = zR d 189 Q 182 (o0 :: o1 :: o2 :: o3 :: o4 :: o5 :: some (.int (x + 1)) :: l) st h := q_in rfl rfl
set_option maxRecDepth 100000 in
theorem r189_182 : zR d 189 Q 182 lv st h = zR d 189 Q 150 lv st h := q_in rfl rfl
set_option maxRecDepth 100000 in
theorem r189_185 : zR d 189 Q 185 (o0 :: o1 :: o2 :: o3 :: o4 :: some (.int x) :: l) st h = zR d 189 Q 187 (o0 :: o1 :: o2 :: o3 :: o4 :: some (.int x) :: l) (.int x :: st) h := q_in rfl rfl
set_option maxRecDepth 100000 in
theorem r189_187 : zR d 189 Q 187 lv [.int x] h = Q (some (.int x)) h := q_retz rfl rfl (Or.inl rfl)
theorem r190_0 : zR d 190 Q 0 (some (.int x) :: l) st h = zR d 190 Q 1 (some (.int x) :: l) (.int x :: st) h := q_in rfl rfl
theorem r190_1 : zR d 190 Q 1 lv (.int x :: st) h = zR d 190 Q 2 lv (.long x.toInt64 :: st) h := q_in rfl rfl
theorem r190_2 : zR d 190 Q 2 lv st h = zR d 190 Q 3 lv (.long (Int32.toInt64 0) :: st) h := q_in rfl rfl
theorem r190_3 : zR d 190 Q 3 lv st h = zR d 190 Q 6 lv (.long (Int32.toInt64 4) :: st) h := q_in rfl rfl
theorem r190_6 : zR d 190 Q 6 lv [.long j2, .long j1, .long j0] h = zM d 106 [.long j0, .long j1, .long j2] h (fun r h' => zR d 190 Q 9 lv (r.toList ++ []) h') := q_clS rfl rfl ⟨Nat.le_of_ble_eq_true rfl, Nat.le_of_ble_eq_true rfl⟩
theorem r190_9f : zR d 190 Q 9 lv [.int 0] h = Q (some (.int 0)) h := q_retz rfl rfl (Or.inr (Or.inl rfl))
theorem r190_9t : zR d 190 Q 9 lv [.int 1] h = Q (some (.int 1)) h := q_retz rfl rfl (Or.inr (Or.inr rfl))
theorem r191_0 : zR d 191 Q 0 (o0 :: o1 :: some (.int x) :: l) st h = zR d 191 Q 1 (o0 :: o1 :: some (.int x) :: l) (.int x :: st) h := q_in rfl rfl
theorem r191_1 : zR d 191 Q 1 lv (.int x :: st) h = if x = 0 then zR d 191 Q 34 lv st h else zR d 191 Q 4 lv st h := q_if rfl rfl
theorem r191_4 : zR d 191 Q 4 (o0 :: o1 :: some (.int x) :: l) st h = zR d 191 Q 5 (o0 :: o1 :: some (.int x) :: l) (.int x :: st) h := q_in rfl rfl
theorem r191_5 : zR d 191 Q 5 lv st h = zR d 191 Q 6 lv (.int 3 :: st) h := q_in rfl rfl
theorem r191_6 : zR d 191 Q 6 lv (.int z :: .int x :: st) h = if x = z then zR d 191 Q 34 lv st h else zR d 191 Q 9 lv st h := q_if rfl rfl
theorem r191_9 : zR d 191 Q 9 (o0 :: o1 :: some (.int x) :: l) st h = zR d 191 Q 10 (o0 :: o1 :: some (.int x) :: l) (.int x :: st) h := q_in rfl rfl
theorem r191_10 : zR d 191 Q 10 lv st h = zR d 191 Q 11 lv (.int 1 :: st) h := q_in rfl rfl
theorem r191_11 : zR d 191 Q 11 lv (.int z :: .int x :: st) h = if x = z then zR d 191 Q 14 lv st h else zR d 191 Q 22 lv st h := q_if rfl rfl
theorem r191_14 : zR d 191 Q 14 (some (.ref c) :: l) st h = zR d 191 Q 15 (some (.ref c) :: l) (.ref c :: st) h := q_in rfl rfl
theorem r191_15 : zR d 191 Q 15 (o0 :: o1 :: o2 :: some (.int x) :: l) st h = zR d 191 Q 16 (o0 :: o1 :: o2 :: some (.int x) :: l) (.int x :: st) h := q_in rfl rfl
theorem r191_16 : zR d 191 Q 16 lv [.int x0, .ref 60] h = zM d 115 [.ref 60, .int x0] h (fun r h' => zR d 191 Q 19 lv (r.toList ++ []) h') := (q_clV rfl rfl (Nat.le_of_ble_eq_true rfl)).trans (zand_t ⟨rfl, Nat.le_of_ble_eq_true rfl⟩)
theorem r191_19 : zR d 191 Q 19 lv (.int x :: st) h = if x = 0 then zR d 191 Q 22 lv st h else zR d 191 Q 34 lv st h := q_if rfl rfl
theorem r191_22 : zR d 191 Q 22 (o0 :: o1 :: some (.int x) :: l) st h = zR d 191 Q 23 (o0 :: o1 :: some (.int x) :: l) (.int x :: st) h := q_in rfl rfl
theorem r191_23 : zR d 191 Q 23 lv st h = zR d 191 Q 24 lv (.int 2 :: st) h := q_in rfl rfl
theorem r191_24 : zR d 191 Q 24 lv (.int z :: .int x :: st) h = if x = z then zR d 191 Q 27 lv st h else zR d 191 Q 38 lv st h := q_if rfl rfl
theorem r191_27 : zR d 191 Q 27 (o0 :: o1 :: o2 :: some (.int x) :: l) st h = zR d 191 Q 28 (o0 :: o1 :: o2 :: some (.int x) :: l) (.int x :: st) h := q_in rfl rfl
theorem r191_28 : zR d 191 Q 28 lv [.int x0] h = zM d 183 [.int x0] h (fun r h' => zR d 191 Q 31 lv (r.toList ++ []) h') := q_clS rfl rfl ⟨Nat.le_of_ble_eq_true rfl, Nat.le_of_ble_eq_true rfl⟩
theorem r191_31 : zR d 191 Q 31 lv (.int x :: st) h = if x = 0 then zR d 191 Q 38 lv st h else zR d 191 Q 34 lv st h := q_if rfl rfl
theorem r191_34 : zR d 191 Q 34 lv st h = zR d 191 Q 35 lv (.int 1 :: st) h := q_in rfl rfl
theorem r191_35 : zR d 191 Q 35 lv st h = zR d 191 Q 39 lv st h := q_in rfl rfl
theorem r191_38 : zR d 191 Q 38 lv st h = zR d 191 Q 39 lv (.int 0 :: st) h := q_in rfl rfl
theorem r191_39 : zR d 191 Q 39 (o0 :: o1 :: o2 :: o3 :: o4 :: l) (.int x :: st) h = zR d 191 Q 41 (o0 :: o1 :: o2 :: o3 :: some (.int x) :: l) st h := q_in rfl rfl
theorem r191_41 : zR d 191 Q 41 (o0 :: some (.int x) :: l) st h = zR d 191 Q 42 (o0 :: some (.int x) :: l) (.int x :: st) h := q_in rfl rfl
theorem r191_42 : zR d 191 Q 42 lv [.int x0] h = zM d 190 [.int x0] h (fun r h' => zR d 191 Q 45 lv (r.toList ++ []) h') := q_clS rfl rfl ⟨Nat.le_of_ble_eq_true rfl, Nat.le_of_ble_eq_true rfl⟩
theorem r191_45 : zR d 191 Q 45 lv (.int x :: st) h = if x = 0 then zR d 191 Q 53 lv st h else zR d 191 Q 48 lv st h := q_if rfl rfl
theorem r191_48 : zR d 191 Q 48 (o0 :: o1 :: o2 :: o3 :: some (.int x) :: l) st h = zR d 191 Q 50 (o0 :: o1 :: o2 :: o3 :: some (.int x) :: l) (.int x :: st) h := q_in rfl rfl
theorem r191_50 : zR d 191 Q 50 lv (.int x :: st) h = if x = 0 then zR d 191 Q 53 lv st h else zR d 191 Q 56 lv st h := q_if rfl rfl
theorem r191_53 : zR d 191 Q 53 lv st h = zR d 191 Q 55 lv (.int (-1000000001) :: st) h := q_in rfl rfl
theorem r191_55 : zR d 191 Q 55 lv [.int x] h = Q (some (.int x)) h := q_retz rfl rfl (Or.inl rfl)
theorem r191_56 : zR d 191 Q 56 (o0 :: o1 :: some (.int x) :: l) st h = zR d 191 Q 57 (o0 :: o1 :: some (.int x) :: l) (.int x :: st) h := q_in rfl rfl
theorem r191_57 : zR d 191 Q 57 lv st h = zR d 191 Q 58 lv (.int 2 :: st) h := q_in rfl rfl
theorem r191_58 : zR d 191 Q 58 lv (.int z :: .int x :: st) h = if x = z then zR d 191 Q 61 lv st h else zR d 191 Q 74 lv st h := q_if rfl rfl
theorem r191_61 : zR d 191 Q 61 (some (.ref c) :: l) st h = zR d 191 Q 62 (some (.ref c) :: l) (.ref c :: st) h := q_in rfl rfl
theorem r191_62 : zR d 191 Q 62 lv (.ref 60 :: st) h = zR d 191 Q 65 lv (.ref 64 :: st) h := (q_and rfl rfl).trans (zand_t rfl)
theorem r191_65 : zR d 191 Q 65 (o0 :: o1 :: o2 :: some (.int x) :: l) st h = zR d 191 Q 66 (o0 :: o1 :: o2 :: some (.int x) :: l) (.int x :: st) h := q_in rfl rfl
theorem r191_66 : zR d 191 Q 66 lv (.int x :: .ref c :: st) h = zal c x h (fun w => zR d 191 Q 67 lv (.int w :: st) h) := q_iald rfl
theorem r191_67 : zR d 191 Q 67 lv (.int x :: st) h = if x < 0 then zR d 191 Q 70 lv st h else zR d 191 Q 74 lv st h := q_if rfl rfl
theorem r191_70 : zR d 191 Q 70 lv st h = zR d 191 Q 73 lv (.int (-1000000011) :: st) h := q_in rfl rfl
theorem r191_73 : zR d 191 Q 73 lv [.int x] h = Q (some (.int x)) h := q_retz rfl rfl (Or.inl rfl)
theorem r191_74 : zR d 191 Q 74 (some (.ref c) :: l) st h = zR d 191 Q 75 (some (.ref c) :: l) (.ref c :: st) h := q_in rfl rfl
theorem r191_75 : zR d 191 Q 75 lv (.ref 60 :: st) h = zR d 191 Q 78 lv (.ref 67 :: st) h := (q_and rfl rfl).trans (zand_t rfl)
theorem r191_78 : zR d 191 Q 78 (o0 :: some (.int x) :: l) st h = zR d 191 Q 79 (o0 :: some (.int x) :: l) (.int x :: st) h := q_in rfl rfl
theorem r191_79 : zR d 191 Q 79 lv (.int x :: .ref c :: st) h = zal c x h (fun w => zR d 191 Q 80 lv (.int w :: st) h) := q_iald rfl
theorem r191_80 : zR d 191 Q 80 (o0 :: o1 :: o2 :: o3 :: o4 :: o5 :: l) (.int x :: st) h = zR d 191 Q 82 (o0 :: o1 :: o2 :: o3 :: o4 :: some (.int x) :: l) st h := q_in rfl rfl
theorem r191_82 : zR d 191 Q 82 (some (.ref c) :: l) st h = zR d 191 Q 83 (some (.ref c) :: l) (.ref c :: st) h := q_in rfl rfl
theorem r191_83 : zR d 191 Q 83 lv (.ref 60 :: st) h = zR d 191 Q 86 lv (.ref 67 :: st) h := (q_and rfl rfl).trans (zand_t rfl)
theorem r191_86 : zR d 191 Q 86 (o0 :: some (.int x) :: l) st h = zR d 191 Q 87 (o0 :: some (.int x) :: l) (.int x :: st) h := q_in rfl rfl
theorem r191_87 : zR d 191 Q 87 (o0 :: o1 :: some (.int x) :: l) st h = zR d 191 Q 88 (o0 :: o1 :: some (.int x) :: l) (.int x :: st) h := q_in rfl rfl
theorem r191_88 : zR d 191 Q 88 lv (.int z :: .int x :: .ref c :: st) h = zas c x z h (fun h' => zR d 191 Q 89 lv st h') := q_iast rfl
theorem r191_89 : zR d 191 Q 89 (some (.ref c) :: l) st h = zR d 191 Q 90 (some (.ref c) :: l) (.ref c :: st) h := q_in rfl rfl
theorem r191_90 : zR d 191 Q 90 lv (.ref 60 :: st) h = zR d 191 Q 93 lv (.ref 68 :: st) h := (q_and rfl rfl).trans (zand_t rfl)
theorem r191_93 : zR d 191 Q 93 (o0 :: some (.int x) :: l) st h = zR d 191 Q 94 (o0 :: some (.int x) :: l) (.int x :: st) h := q_in rfl rfl
theorem r191_94 : zR d 191 Q 94 (o0 :: o1 :: some (.int x) :: l) st h = zR d 191 Q 95 (o0 :: o1 :: some (.int x) :: l) (.int x :: st) h := q_in rfl rfl
theorem r191_95 : zR d 191 Q 95 lv st h = zR d 191 Q 96 lv (.int 1 :: st) h := q_in rfl rfl
theorem r191_96 : zR d 191 Q 96 lv (.int z :: .int x :: st) h = if x = z then zR d 191 Q 99 lv st h else zR d 191 Q 108 lv st h := q_if rfl rfl
theorem r191_99 : zR d 191 Q 99 (some (.ref c) :: l) st h = zR d 191 Q 100 (some (.ref c) :: l) (.ref c :: st) h := q_in rfl rfl
theorem r191_100 : zR d 191 Q 100 (o0 :: o1 :: o2 :: some (.int x) :: l) st h = zR d 191 Q 101 (o0 :: o1 :: o2 :: some (.int x) :: l) (.int x :: st) h := q_in rfl rfl
theorem r191_101 : zR d 191 Q 101 lv st h = zR d 191 Q 102 lv (.int 0 :: st) h := q_in rfl rfl
theorem r191_102 : zR d 191 Q 102 lv [.int x1, .int x0, .ref 60, .int y0, .ref a1] h = zM d 113 [.ref 60, .int x0, .int x1] h (fun r h' => zR d 191 Q 105 lv (r.toList ++ [.int y0, .ref a1]) h') := (q_clV rfl rfl (Nat.le_of_ble_eq_true rfl)).trans (zand_t ⟨rfl, Nat.le_of_ble_eq_true rfl⟩)
theorem r191_105 : zR d 191 Q 105 lv st h = zR d 191 Q 109 lv st h := q_in rfl rfl
theorem r191_108 : zR d 191 Q 108 (o0 :: o1 :: o2 :: some (.int x) :: l) st h = zR d 191 Q 109 (o0 :: o1 :: o2 :: some (.int x) :: l) (.int x :: st) h := q_in rfl rfl
theorem r191_109 : zR d 191 Q 109 lv (.int z :: .int x :: .ref c :: st) h = zas c x z h (fun h' => zR d 191 Q 110 lv st h') := q_iast rfl
theorem r191_110 : zR d 191 Q 110 (some (.ref c) :: l) st h = zR d 191 Q 111 (some (.ref c) :: l) (.ref c :: st) h := q_in rfl rfl
theorem r191_111 : zR d 191 Q 111 lv (.ref 60 :: st) h = zR d 191 Q 114 lv (.ref 69 :: st) h := (q_and rfl rfl).trans (zand_t rfl)
theorem r191_114 : zR d 191 Q 114 (o0 :: some (.int x) :: l) st h = zR d 191 Q 115 (o0 :: some (.int x) :: l) (.int x :: st) h := q_in rfl rfl
theorem r191_115 : zR d 191 Q 115 (o0 :: o1 :: some (.int x) :: l) st h = zR d 191 Q 116 (o0 :: o1 :: some (.int x) :: l) (.int x :: st) h := q_in rfl rfl
theorem r191_116 : zR d 191 Q 116 lv st h = zR d 191 Q 117 lv (.int 1 :: st) h := q_in rfl rfl
theorem r191_117 : zR d 191 Q 117 lv (.int z :: .int x :: st) h = if x = z then zR d 191 Q 120 lv st h else zR d 191 Q 128 lv st h := q_if rfl rfl
theorem r191_120 : zR d 191 Q 120 (some (.ref c) :: l) st h = zR d 191 Q 121 (some (.ref c) :: l) (.ref c :: st) h := q_in rfl rfl
theorem r191_121 : zR d 191 Q 121 (o0 :: o1 :: o2 :: some (.int x) :: l) st h = zR d 191 Q 122 (o0 :: o1 :: o2 :: some (.int x) :: l) (.int x :: st) h := q_in rfl rfl
theorem r191_122 : zR d 191 Q 122 lv [.int x0, .ref 60, .int y0, .ref a1] h = zM d 123 [.ref 60, .int x0] h (fun r h' => zR d 191 Q 125 lv (r.toList ++ [.int y0, .ref a1]) h') := (q_clV rfl rfl (Nat.le_of_ble_eq_true rfl)).trans (zand_t ⟨rfl, Nat.le_of_ble_eq_true rfl⟩)
theorem r191_125 : zR d 191 Q 125 lv st h = zR d 191 Q 129 lv st h := q_in rfl rfl
theorem r191_128 : zR d 191 Q 128 lv st h = zR d 191 Q 129 lv (.int 0 :: st) h := q_in rfl rfl
theorem r191_129 : zR d 191 Q 129 lv (.int z :: .int x :: .ref c :: st) h = zas c x z h (fun h' => zR d 191 Q 130 lv st h') := q_iast rfl
theorem r191_130 : zR d 191 Q 130 (o0 :: o1 :: some (.int x) :: l) st h = zR d 191 Q 131 (o0 :: o1 :: some (.int x) :: l) (.int x :: st) h := q_in rfl rfl
theorem r191_131 : zR d 191 Q 131 lv st h = zR d 191 Q 132 lv (.int 2 :: st) h := q_in rfl rfl
theorem r191_132 : zR d 191 Q 132 lv (.int z :: .int x :: st) h = if x = z then zR d 191 Q 135 lv st h else zR d 191 Q 187 lv st h := q_if rfl rfl
theorem r191_135 : zR d 191 Q 135 (some (.ref c) :: l) st h = zR d 191 Q 136 (some (.ref c) :: l) (.ref c :: st) h := q_in rfl rfl
theorem r191_136 : zR d 191 Q 136 lv (.ref 60 :: st) h = zR d 191 Q 139 lv (.ref 70 :: st) h := (q_and rfl rfl).trans (zand_t rfl)
theorem r191_139 : zR d 191 Q 139 (o0 :: some (.int x) :: l) st h = zR d 191 Q 140 (o0 :: some (.int x) :: l) (.int x :: st) h := q_in rfl rfl
theorem r191_140 : zR d 191 Q 140 (some (.ref c) :: l) st h = zR d 191 Q 141 (some (.ref c) :: l) (.ref c :: st) h := q_in rfl rfl
theorem r191_141 : zR d 191 Q 141 lv (.ref 60 :: st) h = zR d 191 Q 144 lv (.ref 65 :: st) h := (q_and rfl rfl).trans (zand_t rfl)
theorem r191_144 : zR d 191 Q 144 (o0 :: o1 :: o2 :: some (.int x) :: l) st h = zR d 191 Q 145 (o0 :: o1 :: o2 :: some (.int x) :: l) (.int x :: st) h := q_in rfl rfl
theorem r191_145 : zR d 191 Q 145 lv (.int x :: .ref c :: st) h = zal c x h (fun w => zR d 191 Q 146 lv (.int w :: st) h) := q_iald rfl
theorem r191_146 : zR d 191 Q 146 lv (.int z :: .int x :: .ref c :: st) h = zas c x z h (fun h' => zR d 191 Q 147 lv st h') := q_iast rfl
theorem r191_147 : zR d 191 Q 147 lv st h = zR d 191 Q 148 lv (.int 0 :: st) h := q_in rfl rfl
theorem r191_148 : zR d 191 Q 148 (o0 :: o1 :: o2 :: o3 :: o4 :: o5 :: o6 :: l) (.int x :: st) h = zR d 191 Q 150 (o0 :: o1 :: o2 :: o3 :: o4 :: o5 :: some (.int x) :: l) st h := q_in rfl rfl
theorem r191_150 : zR d 191 Q 150 (o0 :: o1 :: o2 :: o3 :: o4 :: o5 :: some (.int x) :: l) st h = zR d 191 Q 152 (o0 :: o1 :: o2 :: o3 :: o4 :: o5 :: some (.int x) :: l) (.int x :: st) h := q_in rfl rfl
theorem r191_152 : zR d 191 Q 152 lv st h = zR d 191 Q 154 lv (.int 24 :: st) h := q_in rfl rfl
theorem r191_154 : zR d 191 Q 154 lv (.int z :: .int x :: st) h = if x < z then zR d 191 Q 157 lv st h else zR d 191 Q 187 lv st h := q_if rfl rfl
theorem r191_157 : zR d 191 Q 157 (some (.ref c) :: l) st h = zR d 191 Q 158 (some (.ref c) :: l) (.ref c :: st) h := q_in rfl rfl
set_option maxRecDepth 100000 in
theorem r191_158 : zR d 191 Q 158 lv (.ref 60 :: st) h = zR d 191 Q 161 lv (.ref 71 :: st) h := (q_and rfl rfl).trans (zand_t rfl)
set_option maxRecDepth 100000 in
theorem r191_161 : zR d 191 Q 161 lv st h = zR d 191 Q 163 lv (.int 24 :: st) h := q_in rfl rfl
set_option maxRecDepth 100000 in
theorem r191_163 : zR d 191 Q 163 (o0 :: some (.int x) :: l) st h = zR d 191 Q 164 (o0 :: some (.int x) :: l) (.int x :: st) h := q_in rfl rfl
set_option maxRecDepth 100000 in
theorem r191_164 : zR d 191 Q 164 lv (.int z :: .int x :: st) h = zR d 191 Q 165 lv (.int (x * z) :: st) h := q_in rfl rfl
set_option maxRecDepth 100000 in
theorem r191_165 : zR d 191 Q 165 (o0 :: o1 :: o2 :: o3 :: o4 :: o5 :: some (.int x) :: l) st h = zR d 191 Q 167 (o0 :: o1 :: o2 :: o3 :: o4 :: o5 :: some (.int x) :: l) (.int x :: st) h := q_in rfl rfl
set_option maxRecDepth 100000 in
theorem r191_167 : zR d 191 Q 167 lv (.int z :: .int x :: st) h = zR d 191 Q 168 lv (.int (x + z) :: st) h := q_in rfl rfl
set_option maxRecDepth 100000 in
theorem r191_168 : zR d 191 Q 168 (some (.ref c) :: l) st h = zR d 191 Q 169 (some (.ref c) :: l) (.ref c :: st) h := q_in rfl rfl
set_option maxRecDepth 100000 in
theorem r191_169 : zR d 191 Q 169 lv (.ref 60 :: st) h = zR d 191 Q 172 lv (.ref 66 :: st) h := (q_and rfl rfl).trans (zand_t rfl)
set_option maxRecDepth 100000 in
theorem r191_172 : zR d 191 Q 172 lv st h = zR d 191 Q 174 lv (.int 24 :: st) h := q_in rfl rfl
set_option maxRecDepth 100000 in
theorem r191_174 : zR d 191 Q 174 (o0 :: o1 :: o2 :: some (.int x) :: l) st h = zR d 191 Q 175 (o0 :: o1 :: o2 :: some (.int x) :: l) (.int x :: st) h := q_in rfl rfl
set_option maxRecDepth 100000 in
theorem r191_175 : zR d 191 Q 175 lv (.int z :: .int x :: st) h = zR d 191 Q 176 lv (.int (x * z) :: st) h := q_in rfl rfl
set_option maxRecDepth 100000 in
theorem r191_176 : zR d 191 Q 176 (o0 :: o1 :: o2 :: o3 :: o4 :: o5 :: some (.int x) :: l) st h = zR d 191 Q 178 (o0 :: o1 :: o2 :: o3 :: o4 :: o5 :: some (.int x) :: l) (.int x :: st) h := q_in rfl rfl
set_option maxRecDepth 100000 in
theorem r191_178 : zR d 191 Q 178 lv (.int z :: .int x :: st) h = zR d 191 Q 179 lv (.int (x + z) :: st) h := q_in rfl rfl
set_option maxRecDepth 100000 in
theorem r191_179 : zR d 191 Q 179 lv (.int x :: .ref c :: st) h = zal c x h (fun w => zR d 191 Q 180 lv (.int w :: st) h) := q_iald rfl
set_option maxRecDepth 100000 in
theorem r191_180 : zR d 191 Q 180 lv (.int z :: .int x :: .ref c :: st) h = zas c x z h (fun h' => zR d 191 Q 181 lv st h') := q_iast rfl
set_option maxRecDepth 100000 in
theorem r191_181 : zR d 191 Q 181 (o0 :: o1 :: o2 :: o3 :: o4 :: o5 :: some (.int x) :: l) st h = zR d 191 Q 184 (o0 :: o1 :: o2 :: o3 :: o4 :: o5 :: some (.int (x + 1)) :: l) st h := q_in rfl rfl
set_option maxRecDepth 100000 in
theorem r191_184 : zR d 191 Q 184 lv st h = zR d 191 Q 150 lv st h := q_in rfl rfl
set_option maxRecDepth 100000 in
theorem r191_187 : zR d 191 Q 187 (o0 :: o1 :: o2 :: o3 :: o4 :: some (.int x) :: l) st h = zR d 191 Q 189 (o0 :: o1 :: o2 :: o3 :: o4 :: some (.int x) :: l) (.int x :: st) h := q_in rfl rfl
set_option maxRecDepth 100000 in
theorem r191_189 : zR d 191 Q 189 lv [.int x] h = Q (some (.int x)) h := q_retz rfl rfl (Or.inl rfl)
theorem r192_0 : zR d 192 Q 0 (o0 :: some (.int x) :: l) st h = zR d 192 Q 1 (o0 :: some (.int x) :: l) (.int x :: st) h := q_in rfl rfl
theorem r192_1 : zR d 192 Q 1 lv [.int x0] h = zM d 190 [.int x0] h (fun r h' => zR d 192 Q 4 lv (r.toList ++ []) h') := q_clS rfl rfl ⟨Nat.le_of_ble_eq_true rfl, Nat.le_of_ble_eq_true rfl⟩
theorem r192_4 : zR d 192 Q 4 lv (.int x :: st) h = if x = 0 then zR d 192 Q 19 lv st h else zR d 192 Q 7 lv st h := q_if rfl rfl
theorem r192_7 : zR d 192 Q 7 (o0 :: o1 :: some (.int x) :: l) st h = zR d 192 Q 8 (o0 :: o1 :: some (.int x) :: l) (.int x :: st) h := q_in rfl rfl
theorem r192_8 : zR d 192 Q 8 lv (.int x :: st) h = zR d 192 Q 9 lv (.long x.toInt64 :: st) h := q_in rfl rfl
theorem r192_9 : zR d 192 Q 9 lv st h = zR d 192 Q 10 lv (.long (Int32.toInt64 0) :: st) h := q_in rfl rfl
theorem r192_10 : zR d 192 Q 10 lv st h = zR d 192 Q 13 lv (.long (Int32.toInt64 5) :: st) h := q_in rfl rfl
theorem r192_13 : zR d 192 Q 13 lv [.long j2, .long j1, .long j0] h = zM d 106 [.long j0, .long j1, .long j2] h (fun r h' => zR d 192 Q 16 lv (r.toList ++ []) h') := q_clS rfl rfl ⟨Nat.le_of_ble_eq_true rfl, Nat.le_of_ble_eq_true rfl⟩
theorem r192_16 : zR d 192 Q 16 lv (.int x :: st) h = if x = 0 then zR d 192 Q 19 lv st h else zR d 192 Q 22 lv st h := q_if rfl rfl
theorem r192_19 : zR d 192 Q 19 lv st h = zR d 192 Q 21 lv (.int (-1000000001) :: st) h := q_in rfl rfl
theorem r192_21 : zR d 192 Q 21 lv [.int x] h = Q (some (.int x)) h := q_retz rfl rfl (Or.inl rfl)
theorem r192_22 : zR d 192 Q 22 (some (.ref c) :: l) st h = zR d 192 Q 23 (some (.ref c) :: l) (.ref c :: st) h := q_in rfl rfl
theorem r192_23 : zR d 192 Q 23 lv (.ref 60 :: st) h = zR d 192 Q 26 lv (.ref 67 :: st) h := (q_and rfl rfl).trans (zand_t rfl)
theorem r192_26 : zR d 192 Q 26 (o0 :: some (.int x) :: l) st h = zR d 192 Q 27 (o0 :: some (.int x) :: l) (.int x :: st) h := q_in rfl rfl
theorem r192_27 : zR d 192 Q 27 lv (.int x :: .ref c :: st) h = zal c x h (fun w => zR d 192 Q 28 lv (.int w :: st) h) := q_iald rfl
theorem r192_28 : zR d 192 Q 28 lv (.int x :: st) h = if x = 0 then zR d 192 Q 31 lv st h else zR d 192 Q 35 lv st h := q_if rfl rfl
theorem r192_31 : zR d 192 Q 31 lv st h = zR d 192 Q 34 lv (.int (-1000000011) :: st) h := q_in rfl rfl
theorem r192_34 : zR d 192 Q 34 lv [.int x] h = Q (some (.int x)) h := q_retz rfl rfl (Or.inl rfl)
theorem r192_35 : zR d 192 Q 35 (some (.ref c) :: l) st h = zR d 192 Q 36 (some (.ref c) :: l) (.ref c :: st) h := q_in rfl rfl
theorem r192_36 : zR d 192 Q 36 lv (.ref 60 :: st) h = zR d 192 Q 39 lv (.ref 67 :: st) h := (q_and rfl rfl).trans (zand_t rfl)
theorem r192_39 : zR d 192 Q 39 (o0 :: some (.int x) :: l) st h = zR d 192 Q 40 (o0 :: some (.int x) :: l) (.int x :: st) h := q_in rfl rfl
theorem r192_40 : zR d 192 Q 40 lv (.int x :: .ref c :: st) h = zal c x h (fun w => zR d 192 Q 41 lv (.int w :: st) h) := q_iald rfl
theorem r192_41 : zR d 192 Q 41 lv st h = zR d 192 Q 42 lv (.int 1 :: st) h := q_in rfl rfl
theorem r192_42 : zR d 192 Q 42 lv (.int z :: .int x :: st) h = if x = z then zR d 192 Q 45 lv st h else zR d 192 Q 67 lv st h := q_if rfl rfl
theorem r192_45 : zR d 192 Q 45 (some (.ref c) :: l) st h = zR d 192 Q 46 (some (.ref c) :: l) (.ref c :: st) h := q_in rfl rfl
theorem r192_46 : zR d 192 Q 46 lv (.ref 60 :: st) h = zR d 192 Q 49 lv (.ref 68 :: st) h := (q_and rfl rfl).trans (zand_t rfl)
theorem r192_49 : zR d 192 Q 49 (o0 :: some (.int x) :: l) st h = zR d 192 Q 50 (o0 :: some (.int x) :: l) (.int x :: st) h := q_in rfl rfl
theorem r192_50 : zR d 192 Q 50 lv (.int x :: .ref c :: st) h = zal c x h (fun w => zR d 192 Q 51 lv (.int w :: st) h) := q_iald rfl
theorem r192_51 : zR d 192 Q 51 (o0 :: o1 :: some (.int x) :: l) st h = zR d 192 Q 52 (o0 :: o1 :: some (.int x) :: l) (.int x :: st) h := q_in rfl rfl
theorem r192_52 : zR d 192 Q 52 lv [.int x1, .int x0] h = zM d 125 [.int x0, .int x1] h (fun r h' => zR d 192 Q 55 lv (r.toList ++ []) h') := q_clS rfl rfl ⟨Nat.le_of_ble_eq_true rfl, Nat.le_of_ble_eq_true rfl⟩
theorem r192_55 : zR d 192 Q 55 lv (.int x :: st) h = if x = 0 then zR d 192 Q 67 lv st h else zR d 192 Q 58 lv st h := q_if rfl rfl
theorem r192_58 : zR d 192 Q 58 (some (.ref c) :: l) st h = zR d 192 Q 59 (some (.ref c) :: l) (.ref c :: st) h := q_in rfl rfl
theorem r192_59 : zR d 192 Q 59 lv (.ref 60 :: st) h = zR d 192 Q 62 lv (.ref 69 :: st) h := (q_and rfl rfl).trans (zand_t rfl)
theorem r192_62 : zR d 192 Q 62 (o0 :: some (.int x) :: l) st h = zR d 192 Q 63 (o0 :: some (.int x) :: l) (.int x :: st) h := q_in rfl rfl
theorem r192_63 : zR d 192 Q 63 lv (.int x :: .ref c :: st) h = zal c x h (fun w => zR d 192 Q 64 lv (.int w :: st) h) := q_iald rfl
theorem r192_64 : zR d 192 Q 64 lv st h = zR d 192 Q 69 lv st h := q_in rfl rfl
theorem r192_67 : zR d 192 Q 67 lv st h = zR d 192 Q 69 lv (.int (-1000000012) :: st) h := q_in rfl rfl
theorem r192_69 : zR d 192 Q 69 lv [.int x] h = Q (some (.int x)) h := q_retz rfl rfl (Or.inl rfl)
theorem r193_0 : zR d 193 Q 0 (o0 :: some (.int x) :: l) st h = zR d 193 Q 1 (o0 :: some (.int x) :: l) (.int x :: st) h := q_in rfl rfl
theorem r193_1 : zR d 193 Q 1 lv [.int x0] h = zM d 190 [.int x0] h (fun r h' => zR d 193 Q 4 lv (r.toList ++ []) h') := q_clS rfl rfl ⟨Nat.le_of_ble_eq_true rfl, Nat.le_of_ble_eq_true rfl⟩
theorem r193_4 : zR d 193 Q 4 lv (.int x :: st) h = if x = 0 then zR d 193 Q 7 lv st h else zR d 193 Q 10 lv st h := q_if rfl rfl
theorem r193_7 : zR d 193 Q 7 lv st h = zR d 193 Q 9 lv (.int (-1000000001) :: st) h := q_in rfl rfl
theorem r193_9 : zR d 193 Q 9 lv [.int x] h = Q (some (.int x)) h := q_retz rfl rfl (Or.inl rfl)
theorem r193_10 : zR d 193 Q 10 (some (.ref c) :: l) st h = zR d 193 Q 11 (some (.ref c) :: l) (.ref c :: st) h := q_in rfl rfl
theorem r193_11 : zR d 193 Q 11 lv (.ref 60 :: st) h = zR d 193 Q 14 lv (.ref 67 :: st) h := (q_and rfl rfl).trans (zand_t rfl)
theorem r193_14 : zR d 193 Q 14 (o0 :: some (.int x) :: l) st h = zR d 193 Q 15 (o0 :: some (.int x) :: l) (.int x :: st) h := q_in rfl rfl
theorem r193_15 : zR d 193 Q 15 lv (.int x :: .ref c :: st) h = zal c x h (fun w => zR d 193 Q 16 lv (.int w :: st) h) := q_iald rfl
theorem r193_16 : zR d 193 Q 16 lv st h = zR d 193 Q 17 lv (.int 2 :: st) h := q_in rfl rfl
theorem r193_17 : zR d 193 Q 17 lv (.int z :: .int x :: st) h = if x = z then zR d 193 Q 38 lv st h else zR d 193 Q 20 lv st h := q_if rfl rfl
theorem r193_20 : zR d 193 Q 20 (some (.ref c) :: l) st h = zR d 193 Q 21 (some (.ref c) :: l) (.ref c :: st) h := q_in rfl rfl
theorem r193_21 : zR d 193 Q 21 lv (.ref 60 :: st) h = zR d 193 Q 24 lv (.ref 67 :: st) h := (q_and rfl rfl).trans (zand_t rfl)
theorem r193_24 : zR d 193 Q 24 (o0 :: some (.int x) :: l) st h = zR d 193 Q 25 (o0 :: some (.int x) :: l) (.int x :: st) h := q_in rfl rfl
theorem r193_25 : zR d 193 Q 25 lv (.int x :: .ref c :: st) h = zal c x h (fun w => zR d 193 Q 26 lv (.int w :: st) h) := q_iald rfl
theorem r193_26 : zR d 193 Q 26 lv (.int x :: st) h = if x = 0 then zR d 193 Q 29 lv st h else zR d 193 Q 35 lv st h := q_if rfl rfl
theorem r193_29 : zR d 193 Q 29 lv st h = zR d 193 Q 32 lv (.int (-1000000011) :: st) h := q_in rfl rfl
theorem r193_32 : zR d 193 Q 32 lv st h = zR d 193 Q 37 lv st h := q_in rfl rfl
theorem r193_35 : zR d 193 Q 35 lv st h = zR d 193 Q 37 lv (.int (-1000000012) :: st) h := q_in rfl rfl
theorem r193_37 : zR d 193 Q 37 lv [.int x] h = Q (some (.int x)) h := q_retz rfl rfl (Or.inl rfl)
theorem r193_38 : zR d 193 Q 38 (o0 :: o1 :: some (.int x) :: l) st h = zR d 193 Q 39 (o0 :: o1 :: some (.int x) :: l) (.int x :: st) h := q_in rfl rfl
theorem r193_39 : zR d 193 Q 39 lv (.int x :: st) h = zR d 193 Q 40 lv (.long x.toInt64 :: st) h := q_in rfl rfl
theorem r193_40 : zR d 193 Q 40 lv st h = zR d 193 Q 41 lv (.long (Int32.toInt64 0) :: st) h := q_in rfl rfl
theorem r193_41 : zR d 193 Q 41 (some (.ref c) :: l) st h = zR d 193 Q 42 (some (.ref c) :: l) (.ref c :: st) h := q_in rfl rfl
theorem r193_42 : zR d 193 Q 42 lv (.ref 60 :: st) h = zR d 193 Q 45 lv (.ref 70 :: st) h := (q_and rfl rfl).trans (zand_t rfl)
theorem r193_45 : zR d 193 Q 45 (o0 :: some (.int x) :: l) st h = zR d 193 Q 46 (o0 :: some (.int x) :: l) (.int x :: st) h := q_in rfl rfl
theorem r193_46 : zR d 193 Q 46 lv (.int x :: .ref c :: st) h = zal c x h (fun w => zR d 193 Q 47 lv (.int w :: st) h) := q_iald rfl
theorem r193_47 : zR d 193 Q 47 lv st h = zR d 193 Q 48 lv (.int 1 :: st) h := q_in rfl rfl
theorem r193_48 : zR d 193 Q 48 lv (.int z :: .int x :: st) h = zR d 193 Q 49 lv (.int (x - z) :: st) h := q_in rfl rfl
theorem r193_49 : zR d 193 Q 49 lv (.int x :: st) h = zR d 193 Q 50 lv (.long x.toInt64 :: st) h := q_in rfl rfl
theorem r193_50 : zR d 193 Q 50 lv [.long j2, .long j1, .long j0] h = zM d 106 [.long j0, .long j1, .long j2] h (fun r h' => zR d 193 Q 53 lv (r.toList ++ []) h') := q_clS rfl rfl ⟨Nat.le_of_ble_eq_true rfl, Nat.le_of_ble_eq_true rfl⟩
theorem r193_53 : zR d 193 Q 53 lv (.int x :: st) h = if x = 0 then zR d 193 Q 56 lv st h else zR d 193 Q 60 lv st h := q_if rfl rfl
theorem r193_56 : zR d 193 Q 56 lv st h = zR d 193 Q 59 lv (.int (-1000000013) :: st) h := q_in rfl rfl
theorem r193_59 : zR d 193 Q 59 lv [.int x] h = Q (some (.int x)) h := q_retz rfl rfl (Or.inl rfl)
theorem r193_60 : zR d 193 Q 60 (some (.ref c) :: l) st h = zR d 193 Q 61 (some (.ref c) :: l) (.ref c :: st) h := q_in rfl rfl
theorem r193_61 : zR d 193 Q 61 lv (.ref 60 :: st) h = zR d 193 Q 64 lv (.ref 71 :: st) h := (q_and rfl rfl).trans (zand_t rfl)
theorem r193_64 : zR d 193 Q 64 lv st h = zR d 193 Q 66 lv (.int 24 :: st) h := q_in rfl rfl
theorem r193_66 : zR d 193 Q 66 (o0 :: some (.int x) :: l) st h = zR d 193 Q 67 (o0 :: some (.int x) :: l) (.int x :: st) h := q_in rfl rfl
theorem r193_67 : zR d 193 Q 67 lv (.int z :: .int x :: st) h = zR d 193 Q 68 lv (.int (x * z) :: st) h := q_in rfl rfl
theorem r193_68 : zR d 193 Q 68 (o0 :: o1 :: some (.int x) :: l) st h = zR d 193 Q 69 (o0 :: o1 :: some (.int x) :: l) (.int x :: st) h := q_in rfl rfl
theorem r193_69 : zR d 193 Q 69 lv (.int z :: .int x :: st) h = zR d 193 Q 70 lv (.int (x + z) :: st) h := q_in rfl rfl
theorem r193_70 : zR d 193 Q 70 lv (.int x :: .ref c :: st) h = zal c x h (fun w => zR d 193 Q 71 lv (.int w :: st) h) := q_iald rfl
theorem r193_71 : zR d 193 Q 71 (o0 :: o1 :: o2 :: o3 :: l) (.int x :: st) h = zR d 193 Q 72 (o0 :: o1 :: o2 :: some (.int x) :: l) st h := q_in rfl rfl
theorem r193_72 : zR d 193 Q 72 (o0 :: o1 :: o2 :: some (.int x) :: l) st h = zR d 193 Q 73 (o0 :: o1 :: o2 :: some (.int x) :: l) (.int x :: st) h := q_in rfl rfl
theorem r193_73 : zR d 193 Q 73 lv st h = zR d 193 Q 75 lv (.int (-1000000005) :: st) h := q_in rfl rfl
theorem r193_75 : zR d 193 Q 75 lv (.int z :: .int x :: st) h = if x = z then zR d 193 Q 78 lv st h else zR d 193 Q 83 lv st h := q_if rfl rfl
theorem r193_78 : zR d 193 Q 78 lv st h = zR d 193 Q 80 lv (.int (-1000000012) :: st) h := q_in rfl rfl
theorem r193_80 : zR d 193 Q 80 lv st h = zR d 193 Q 84 lv st h := q_in rfl rfl
theorem r193_83 : zR d 193 Q 83 (o0 :: o1 :: o2 :: some (.int x) :: l) st h = zR d 193 Q 84 (o0 :: o1 :: o2 :: some (.int x) :: l) (.int x :: st) h := q_in rfl rfl
theorem r193_84 : zR d 193 Q 84 lv [.int x] h = Q (some (.int x)) h := q_retz rfl rfl (Or.inl rfl)
theorem r194_0 : zR d 194 Q 0 (o0 :: some (.int x) :: l) st h = zR d 194 Q 1 (o0 :: some (.int x) :: l) (.int x :: st) h := q_in rfl rfl
theorem r194_1 : zR d 194 Q 1 lv [.int x0] h = zM d 190 [.int x0] h (fun r h' => zR d 194 Q 4 lv (r.toList ++ []) h') := q_clS rfl rfl ⟨Nat.le_of_ble_eq_true rfl, Nat.le_of_ble_eq_true rfl⟩
theorem r194_4 : zR d 194 Q 4 lv (.int x :: st) h = if x = 0 then zR d 194 Q 7 lv st h else zR d 194 Q 10 lv st h := q_if rfl rfl
theorem r194_7 : zR d 194 Q 7 lv st h = zR d 194 Q 9 lv (.int (-1000000001) :: st) h := q_in rfl rfl
theorem r194_9 : zR d 194 Q 9 lv [.int x] h = Q (some (.int x)) h := q_retz rfl rfl (Or.inl rfl)
theorem r194_10 : zR d 194 Q 10 (some (.ref c) :: l) st h = zR d 194 Q 11 (some (.ref c) :: l) (.ref c :: st) h := q_in rfl rfl
theorem r194_11 : zR d 194 Q 11 lv (.ref 60 :: st) h = zR d 194 Q 14 lv (.ref 67 :: st) h := (q_and rfl rfl).trans (zand_t rfl)
theorem r194_14 : zR d 194 Q 14 (o0 :: some (.int x) :: l) st h = zR d 194 Q 15 (o0 :: some (.int x) :: l) (.int x :: st) h := q_in rfl rfl
theorem r194_15 : zR d 194 Q 15 lv (.int x :: .ref c :: st) h = zal c x h (fun w => zR d 194 Q 16 lv (.int w :: st) h) := q_iald rfl
theorem r194_16 : zR d 194 Q 16 lv st h = zR d 194 Q 17 lv (.int 3 :: st) h := q_in rfl rfl
theorem r194_17 : zR d 194 Q 17 lv (.int z :: .int x :: st) h = if x = z then zR d 194 Q 38 lv st h else zR d 194 Q 20 lv st h := q_if rfl rfl
theorem r194_20 : zR d 194 Q 20 (some (.ref c) :: l) st h = zR d 194 Q 21 (some (.ref c) :: l) (.ref c :: st) h := q_in rfl rfl
theorem r194_21 : zR d 194 Q 21 lv (.ref 60 :: st) h = zR d 194 Q 24 lv (.ref 67 :: st) h := (q_and rfl rfl).trans (zand_t rfl)
theorem r194_24 : zR d 194 Q 24 (o0 :: some (.int x) :: l) st h = zR d 194 Q 25 (o0 :: some (.int x) :: l) (.int x :: st) h := q_in rfl rfl
theorem r194_25 : zR d 194 Q 25 lv (.int x :: .ref c :: st) h = zal c x h (fun w => zR d 194 Q 26 lv (.int w :: st) h) := q_iald rfl
theorem r194_26 : zR d 194 Q 26 lv (.int x :: st) h = if x = 0 then zR d 194 Q 29 lv st h else zR d 194 Q 35 lv st h := q_if rfl rfl
theorem r194_29 : zR d 194 Q 29 lv st h = zR d 194 Q 32 lv (.int (-1000000011) :: st) h := q_in rfl rfl
theorem r194_32 : zR d 194 Q 32 lv st h = zR d 194 Q 37 lv st h := q_in rfl rfl
theorem r194_35 : zR d 194 Q 35 lv st h = zR d 194 Q 37 lv (.int (-1000000012) :: st) h := q_in rfl rfl
theorem r194_37 : zR d 194 Q 37 lv [.int x] h = Q (some (.int x)) h := q_retz rfl rfl (Or.inl rfl)
theorem r194_38 : zR d 194 Q 38 (o0 :: o1 :: some (.int x) :: l) st h = zR d 194 Q 39 (o0 :: o1 :: some (.int x) :: l) (.int x :: st) h := q_in rfl rfl
theorem r194_39 : zR d 194 Q 39 lv (.int x :: st) h = if x = 0 then zR d 194 Q 42 lv st h else zR d 194 Q 48 lv st h := q_if rfl rfl
theorem r194_42 : zR d 194 Q 42 lv st h = zR d 194 Q 45 lv (.int (-1000000002) :: st) h := q_in rfl rfl
theorem r194_45 : zR d 194 Q 45 lv st h = zR d 194 Q 56 lv st h := q_in rfl rfl
theorem r194_48 : zR d 194 Q 48 (some (.ref c) :: l) st h = zR d 194 Q 49 (some (.ref c) :: l) (.ref c :: st) h := q_in rfl rfl
theorem r194_49 : zR d 194 Q 49 lv (.ref 60 :: st) h = zR d 194 Q 52 lv (.ref 68 :: st) h := (q_and rfl rfl).trans (zand_t rfl)
theorem r194_52 : zR d 194 Q 52 (o0 :: some (.int x) :: l) st h = zR d 194 Q 53 (o0 :: some (.int x) :: l) (.int x :: st) h := q_in rfl rfl
theorem r194_53 : zR d 194 Q 53 lv (.int x :: .ref c :: st) h = zal c x h (fun w => zR d 194 Q 54 lv (.int w :: st) h) := q_iald rfl
theorem r194_54 : zR d 194 Q 54 (o0 :: o1 :: some (.int x) :: l) st h = zR d 194 Q 55 (o0 :: o1 :: some (.int x) :: l) (.int x :: st) h := q_in rfl rfl
theorem r194_55 : zR d 194 Q 55 lv (.int z :: .int x :: st) h = (¬ z = 0 ∧ zR d 194 Q 56 lv (.int (x - x / z * z) :: st) h) := q_and rfl rfl
theorem r194_56 : zR d 194 Q 56 lv [.int x] h = Q (some (.int x)) h := q_retz rfl rfl (Or.inl rfl)
theorem r195_0 : zR d 195 Q 0 (some (.ref c) :: l) st h = zR d 195 Q 1 (some (.ref c) :: l) (.ref c :: st) h := q_in rfl rfl
theorem r195_1 : zR d 195 Q 1 lv (.ref 60 :: st) h = zR d 195 Q 4 lv (.int (h 60 31) :: st) h := (q_and rfl rfl).trans (zand_t rfl)
theorem r195_4 : zR d 195 Q 4 lv st h = zR d 195 Q 6 lv (.int 60 :: st) h := q_in rfl rfl
theorem r195_6 : zR d 195 Q 6 lv (.int z :: .int x :: st) h = if x = z then zR d 195 Q 9 lv st h else zR d 195 Q 12 lv st h := q_if rfl rfl
theorem r195_9 : zR d 195 Q 9 lv st h = zR d 195 Q 11 lv (.int (-1000000003) :: st) h := q_in rfl rfl
theorem r195_11 : zR d 195 Q 11 lv [.int x] h = Q (some (.int x)) h := q_retz rfl rfl (Or.inl rfl)
theorem r195_12 : zR d 195 Q 12 (some (.ref c) :: l) st h = zR d 195 Q 13 (some (.ref c) :: l) (.ref c :: st) h := q_in rfl rfl
theorem r195_13 : zR d 195 Q 13 lv (.ref 60 :: st) h = zR d 195 Q 16 lv (.ref 78 :: st) h := (q_and rfl rfl).trans (zand_t rfl)
theorem r195_16 : zR d 195 Q 16 (some (.ref c) :: l) st h = zR d 195 Q 17 (some (.ref c) :: l) (.ref c :: st) h := q_in rfl rfl
theorem r195_17 : zR d 195 Q 17 lv (.ref 60 :: st) h = zR d 195 Q 20 lv (.int (h 60 31) :: st) h := (q_and rfl rfl).trans (zand_t rfl)
theorem r195_20 : zR d 195 Q 20 (o0 :: some (.int x) :: l) st h = zR d 195 Q 21 (o0 :: some (.int x) :: l) (.int x :: st) h := q_in rfl rfl
theorem r195_21 : zR d 195 Q 21 lv (.int z :: .int x :: .ref c :: st) h = zas c x z h (fun h' => zR d 195 Q 22 lv st h') := q_iast rfl
theorem r195_22 : zR d 195 Q 22 (some (.ref c) :: l) st h = zR d 195 Q 23 (some (.ref c) :: l) (.ref c :: st) h := q_in rfl rfl
theorem r195_23 : zR d 195 Q 23 lv (.ref c :: st) h = zR d 195 Q 24 lv (.ref c :: .ref c :: st) h := q_in rfl rfl
theorem r195_24 : zR d 195 Q 24 lv (.ref 60 :: st) h = zR d 195 Q 27 lv (.int (h 60 31) :: st) h := (q_and rfl rfl).trans (zand_t rfl)
theorem r195_27 : zR d 195 Q 27 lv st h = zR d 195 Q 28 lv (.int 1 :: st) h := q_in rfl rfl
theorem r195_28 : zR d 195 Q 28 lv (.int z :: .int x :: st) h = zR d 195 Q 29 lv (.int (x + z) :: st) h := q_in rfl rfl
theorem r195_29 : zR d 195 Q 29 lv (.int x :: .ref 60 :: st) h = zR d 195 Q 32 lv st (zhr h 60 (upd (h 60) 31 x)) := (q_and rfl rfl).trans (zand_t ⟨rfl, Or.inl rfl⟩)
theorem r195_32 : zR d 195 Q 32 (some (.ref c) :: l) st h = zR d 195 Q 33 (some (.ref c) :: l) (.ref c :: st) h := q_in rfl rfl
theorem r195_33 : zR d 195 Q 33 lv (.ref 60 :: st) h = zR d 195 Q 36 lv (.int (h 60 31) :: st) h := (q_and rfl rfl).trans (zand_t rfl)
theorem r195_36 : zR d 195 Q 36 lv [.int x] h = Q (some (.int x)) h := q_retz rfl rfl (Or.inl rfl)
theorem r196_0 : zR d 196 Q 0 lv st h = zR d 196 Q 1 lv (.int 0 :: st) h := q_in rfl rfl
theorem r196_1 : zR d 196 Q 1 (o0 :: o1 :: o2 :: o3 :: l) (.int x :: st) h = zR d 196 Q 2 (o0 :: o1 :: o2 :: some (.int x) :: l) st h := q_in rfl rfl
theorem r196_2 : zR d 196 Q 2 (o0 :: o1 :: o2 :: some (.int x) :: l) st h = zR d 196 Q 3 (o0 :: o1 :: o2 :: some (.int x) :: l) (.int x :: st) h := q_in rfl rfl
theorem r196_3 : zR d 196 Q 3 lv st h = zR d 196 Q 6 lv (.int 2862 :: st) h := q_in rfl rfl
theorem r196_6 : zR d 196 Q 6 lv (.int z :: .int x :: st) h = if x < z then zR d 196 Q 9 lv st h else zR d 196 Q 21 lv st h := q_if rfl rfl
theorem r196_9 : zR d 196 Q 9 (o0 :: o1 :: some (.ref c) :: l) st h = zR d 196 Q 10 (o0 :: o1 :: some (.ref c) :: l) (.ref c :: st) h := q_in rfl rfl
theorem r196_10 : zR d 196 Q 10 (o0 :: o1 :: o2 :: some (.int x) :: l) st h = zR d 196 Q 11 (o0 :: o1 :: o2 :: some (.int x) :: l) (.int x :: st) h := q_in rfl rfl
theorem r196_11 : zR d 196 Q 11 (o0 :: some (.ref c) :: l) st h = zR d 196 Q 12 (o0 :: some (.ref c) :: l) (.ref c :: st) h := q_in rfl rfl
theorem r196_12 : zR d 196 Q 12 (o0 :: o1 :: o2 :: some (.int x) :: l) st h = zR d 196 Q 13 (o0 :: o1 :: o2 :: some (.int x) :: l) (.int x :: st) h := q_in rfl rfl
theorem r196_13 : zR d 196 Q 13 lv (.int x :: .ref c :: st) h = zal c x h (fun w => zR d 196 Q 14 lv (.int w :: st) h) := q_iald rfl
theorem r196_14 : zR d 196 Q 14 lv (.int z :: .int x :: .ref c :: st) h = zas c x z h (fun h' => zR d 196 Q 15 lv st h') := q_iast rfl
theorem r196_15 : zR d 196 Q 15 (o0 :: o1 :: o2 :: some (.int x) :: l) st h = zR d 196 Q 18 (o0 :: o1 :: o2 :: some (.int (x + 1)) :: l) st h := q_in rfl rfl
theorem r196_18 : zR d 196 Q 18 lv st h = zR d 196 Q 2 lv st h := q_in rfl rfl
theorem r196_21 : zR d 196 Q 21 lv [] h = Q none h := q_ret rfl rfl
end
