section
variable {d : Nat} {Q : Option Value → zH → Prop} {lv l : zL} {st : zS} {h : zH} {x z : Int32} {c : Nat} {i j : Int64} {o0 o1 o2 o3 o4 o5 o6 o7 o8 o9 o10 o11 o12 : Option Value} {x0 x1 x2 x3 x4 y0 y1 y2 y3 : Int32} {c0 c1 c2 c3 c4 a0 a1 a2 a3 : Nat} {j0 j1 j2 k0 k1 : Int64}

theorem r197_0 : zR d 197 Q 0 (some (.ref c) :: l) st h = zR d 197 Q 1 (some (.ref c) :: l) (.ref c :: st) h := q_in rfl rfl
theorem r197_1 : zR d 197 Q 1 lv (.ref 60 :: st) h = zR d 197 Q 4 lv (.int (h 60 31) :: st) h := (q_and rfl rfl).trans (zand_t rfl)
theorem r197_4 : zR d 197 Q 4 (o0 :: o1 :: o2 :: l) (.int x :: st) h = zR d 197 Q 5 (o0 :: o1 :: some (.int x) :: l) st h := q_in rfl rfl
theorem r197_5 : zR d 197 Q 5 (some (.ref c) :: l) st h = zR d 197 Q 6 (some (.ref c) :: l) (.ref c :: st) h := q_in rfl rfl
theorem r197_6 : zR d 197 Q 6 lv st h = zR d 197 Q 7 lv (.int 0 :: st) h := q_in rfl rfl
theorem r197_7 : zR d 197 Q 7 lv (.int x :: .ref 60 :: st) h = zR d 197 Q 10 lv st (zhr h 60 (upd (h 60) 31 x)) := (q_and rfl rfl).trans (zand_t ⟨rfl, Or.inl rfl⟩)
theorem r197_10 : zR d 197 Q 10 (o0 :: some (.int x) :: l) st h = zR d 197 Q 11 (o0 :: some (.int x) :: l) (.int x :: st) h := q_in rfl rfl
theorem r197_11 : zR d 197 Q 11 lv (.int x :: st) h = zR d 197 Q 12 lv (.long x.toInt64 :: st) h := q_in rfl rfl
theorem r197_12 : zR d 197 Q 12 lv st h = zR d 197 Q 13 lv (.long (Int32.toInt64 1) :: st) h := q_in rfl rfl
theorem r197_13 : zR d 197 Q 13 lv st h = zR d 197 Q 16 lv (.long (Int32.toInt64 30) :: st) h := q_in rfl rfl
theorem r197_16 : zR d 197 Q 16 lv [.long j2, .long j1, .long j0] h = zM d 106 [.long j0, .long j1, .long j2] h (fun r h' => zR d 197 Q 19 lv (r.toList ++ []) h') := q_clS rfl rfl ⟨Nat.le_of_ble_eq_true rfl, Nat.le_of_ble_eq_true rfl⟩
theorem r197_19 : zR d 197 Q 19 lv (.int x :: st) h = if x = 0 then zR d 197 Q 22 lv st h else zR d 197 Q 25 lv st h := q_if rfl rfl
theorem r197_22 : zR d 197 Q 22 lv st h = zR d 197 Q 24 lv (.int (-1000000001) :: st) h := q_in rfl rfl
theorem r197_24 : zR d 197 Q 24 lv [.int x] h = Q (some (.int x)) h := q_retz rfl rfl (Or.inl rfl)
theorem r197_25 : zR d 197 Q 25 (some (.ref c) :: l) st h = zR d 197 Q 26 (some (.ref c) :: l) (.ref c :: st) h := q_in rfl rfl
theorem r197_26 : zR d 197 Q 26 lv (.ref 60 :: st) h = zR d 197 Q 29 lv (.int (h 60 3) :: st) h := (q_and rfl rfl).trans (zand_t rfl)
theorem r197_29 : zR d 197 Q 29 lv (.int x :: st) h = if x = 0 then zR d 197 Q 32 lv st h else zR d 197 Q 36 lv st h := q_if rfl rfl
theorem r197_32 : zR d 197 Q 32 lv st h = zR d 197 Q 35 lv (.int (-1000000002) :: st) h := q_in rfl rfl
theorem r197_35 : zR d 197 Q 35 lv [.int x] h = Q (some (.int x)) h := q_retz rfl rfl (Or.inl rfl)
theorem r197_36 : zR d 197 Q 36 (some (.ref c) :: l) st h = zR d 197 Q 37 (some (.ref c) :: l) (.ref c :: st) h := q_in rfl rfl
theorem r197_37 : zR d 197 Q 37 (some (.ref c) :: l) st h = zR d 197 Q 38 (some (.ref c) :: l) (.ref c :: st) h := q_in rfl rfl
theorem r197_38 : zR d 197 Q 38 lv (.ref 60 :: st) h = zR d 197 Q 41 lv (.ref 61 :: st) h := (q_and rfl rfl).trans (zand_t rfl)
theorem r197_41 : zR d 197 Q 41 (some (.ref c) :: l) st h = zR d 197 Q 42 (some (.ref c) :: l) (.ref c :: st) h := q_in rfl rfl
theorem r197_42 : zR d 197 Q 42 lv (.ref 60 :: st) h = zR d 197 Q 45 lv (.ref 63 :: st) h := (q_and rfl rfl).trans (zand_t rfl)
theorem r197_45 : zR d 197 Q 45 lv [.ref c1, .ref c0, .ref 60] h = zM d 196 [.ref 60, .ref c0, .ref c1] h (fun r h' => zR d 197 Q 48 lv (r.toList ++ []) h') := (q_clV rfl rfl (Nat.le_of_ble_eq_true rfl)).trans (zand_t ⟨rfl, Nat.le_of_ble_eq_true rfl⟩)
theorem r197_48 : zR d 197 Q 48 (some (.ref c) :: l) st h = zR d 197 Q 49 (some (.ref c) :: l) (.ref c :: st) h := q_in rfl rfl
theorem r197_49 : zR d 197 Q 49 (some (.ref c) :: l) st h = zR d 197 Q 50 (some (.ref c) :: l) (.ref c :: st) h := q_in rfl rfl
theorem r197_50 : zR d 197 Q 50 lv (.ref 60 :: st) h = zR d 197 Q 53 lv (.ref 62 :: st) h := (q_and rfl rfl).trans (zand_t rfl)
theorem r197_53 : zR d 197 Q 53 (some (.ref c) :: l) st h = zR d 197 Q 54 (some (.ref c) :: l) (.ref c :: st) h := q_in rfl rfl
theorem r197_54 : zR d 197 Q 54 lv (.ref 60 :: st) h = zR d 197 Q 57 lv (.ref 61 :: st) h := (q_and rfl rfl).trans (zand_t rfl)
theorem r197_57 : zR d 197 Q 57 lv [.ref c1, .ref c0, .ref 60] h = zM d 196 [.ref 60, .ref c0, .ref c1] h (fun r h' => zR d 197 Q 60 lv (r.toList ++ []) h') := (q_clV rfl rfl (Nat.le_of_ble_eq_true rfl)).trans (zand_t ⟨rfl, Nat.le_of_ble_eq_true rfl⟩)
theorem r197_60 : zR d 197 Q 60 lv st h = zR d 197 Q 61 lv (.int 0 :: st) h := q_in rfl rfl
theorem r197_61 : zR d 197 Q 61 (o0 :: o1 :: o2 :: o3 :: l) (.int x :: st) h = zR d 197 Q 62 (o0 :: o1 :: o2 :: some (.int x) :: l) st h := q_in rfl rfl
theorem r197_62 : zR d 197 Q 62 lv st h = zR d 197 Q 63 lv (.int 0 :: st) h := q_in rfl rfl
theorem r197_63 : zR d 197 Q 63 (o0 :: o1 :: o2 :: o3 :: o4 :: l) (.int x :: st) h = zR d 197 Q 65 (o0 :: o1 :: o2 :: o3 :: some (.int x) :: l) st h := q_in rfl rfl
theorem r197_65 : zR d 197 Q 65 (o0 :: o1 :: o2 :: o3 :: some (.int x) :: l) st h = zR d 197 Q 67 (o0 :: o1 :: o2 :: o3 :: some (.int x) :: l) (.int x :: st) h := q_in rfl rfl
theorem r197_67 : zR d 197 Q 67 (o0 :: some (.int x) :: l) st h = zR d 197 Q 68 (o0 :: some (.int x) :: l) (.int x :: st) h := q_in rfl rfl
theorem r197_68 : zR d 197 Q 68 lv (.int z :: .int x :: st) h = if x < z then zR d 197 Q 71 lv st h else zR d 197 Q 122 lv st h := q_if rfl rfl
theorem r197_71 : zR d 197 Q 71 (some (.ref c) :: l) st h = zR d 197 Q 72 (some (.ref c) :: l) (.ref c :: st) h := q_in rfl rfl
theorem r197_72 : zR d 197 Q 72 lv (.ref 60 :: st) h = zR d 197 Q 75 lv (.ref 61 :: st) h := (q_and rfl rfl).trans (zand_t rfl)
theorem r197_75 : zR d 197 Q 75 lv st h = zR d 197 Q 76 lv (.int 2 :: st) h := q_in rfl rfl
theorem r197_76 : zR d 197 Q 76 lv (.int x :: .ref c :: st) h = zal c x h (fun w => zR d 197 Q 77 lv (.int w :: st) h) := q_iald rfl
theorem r197_77 : zR d 197 Q 77 lv st h = zR d 197 Q 80 lv (.int 9999 :: st) h := q_in rfl rfl
theorem r197_80 : zR d 197 Q 80 lv (.int z :: .int x :: st) h = if x < z then zR d 197 Q 83 lv st h else zR d 197 Q 122 lv st h := q_if rfl rfl
theorem r197_83 : zR d 197 Q 83 (some (.ref c) :: l) st h = zR d 197 Q 84 (some (.ref c) :: l) (.ref c :: st) h := q_in rfl rfl
theorem r197_84 : zR d 197 Q 84 lv [.ref 60] h = zM d 144 [.ref 60] h (fun r h' => zR d 197 Q 87 lv (r.toList ++ []) h') := (q_clV rfl rfl (Nat.le_of_ble_eq_true rfl)).trans (zand_t ⟨rfl, Nat.le_of_ble_eq_true rfl⟩)
theorem r197_87 : zR d 197 Q 87 (some (.ref c) :: l) st h = zR d 197 Q 88 (some (.ref c) :: l) (.ref c :: st) h := q_in rfl rfl
theorem r197_88 : zR d 197 Q 88 lv (.ref 60 :: st) h = zR d 197 Q 91 lv (.ref 79 :: st) h := (q_and rfl rfl).trans (zand_t rfl)
theorem r197_91 : zR d 197 Q 91 (o0 :: o1 :: o2 :: some (.int x) :: l) st h = zR d 197 Q 92 (o0 :: o1 :: o2 :: some (.int x) :: l) (.int x :: st) h := q_in rfl rfl
theorem r197_92 : zR d 197 Q 92 (some (.ref c) :: l) st h = zR d 197 Q 93 (some (.ref c) :: l) (.ref c :: st) h := q_in rfl rfl
theorem r197_93 : zR d 197 Q 93 lv (.ref 60 :: st) h = zR d 197 Q 96 lv (.ref 61 :: st) h := (q_and rfl rfl).trans (zand_t rfl)
theorem r197_96 : zR d 197 Q 96 lv st h = zR d 197 Q 97 lv (.int 3 :: st) h := q_in rfl rfl
theorem r197_97 : zR d 197 Q 97 lv (.int x :: .ref c :: st) h = zal c x h (fun w => zR d 197 Q 98 lv (.int w :: st) h) := q_iald rfl
theorem r197_98 : zR d 197 Q 98 lv (.int z :: .int x :: .ref c :: st) h = zas c x z h (fun h' => zR d 197 Q 99 lv st h') := q_iast rfl
theorem r197_99 : zR d 197 Q 99 (some (.ref c) :: l) st h = zR d 197 Q 100 (some (.ref c) :: l) (.ref c :: st) h := q_in rfl rfl
theorem r197_100 : zR d 197 Q 100 lv (.ref 60 :: st) h = zR d 197 Q 103 lv (.ref 79 :: st) h := (q_and rfl rfl).trans (zand_t rfl)
theorem r197_103 : zR d 197 Q 103 (o0 :: o1 :: o2 :: some (.int x) :: l) st h = zR d 197 Q 104 (o0 :: o1 :: o2 :: some (.int x) :: l) (.int x :: st) h := q_in rfl rfl
theorem r197_104 : zR d 197 Q 104 lv st h = zR d 197 Q 105 lv (.int 1 :: st) h := q_in rfl rfl
theorem r197_105 : zR d 197 Q 105 lv (.int z :: .int x :: st) h = zR d 197 Q 106 lv (.int (x + z) :: st) h := q_in rfl rfl
theorem r197_106 : zR d 197 Q 106 (some (.ref c) :: l) st h = zR d 197 Q 107 (some (.ref c) :: l) (.ref c :: st) h := q_in rfl rfl
theorem r197_107 : zR d 197 Q 107 lv (.ref 60 :: st) h = zR d 197 Q 110 lv (.ref 61 :: st) h := (q_and rfl rfl).trans (zand_t rfl)
theorem r197_110 : zR d 197 Q 110 lv st h = zR d 197 Q 111 lv (.int 4 :: st) h := q_in rfl rfl
theorem r197_111 : zR d 197 Q 111 lv (.int x :: .ref c :: st) h = zal c x h (fun w => zR d 197 Q 112 lv (.int w :: st) h) := q_iald rfl
theorem r197_112 : zR d 197 Q 112 lv (.int z :: .int x :: .ref c :: st) h = zas c x z h (fun h' => zR d 197 Q 113 lv st h') := q_iast rfl
theorem r197_113 : zR d 197 Q 113 (o0 :: o1 :: o2 :: some (.int x) :: l) st h = zR d 197 Q 116 (o0 :: o1 :: o2 :: some (.int (x + 2)) :: l) st h := q_in rfl rfl
theorem r197_116 : zR d 197 Q 116 (o0 :: o1 :: o2 :: o3 :: some (.int x) :: l) st h = zR d 197 Q 119 (o0 :: o1 :: o2 :: o3 :: some (.int (x + 1)) :: l) st h := q_in rfl rfl
theorem r197_119 : zR d 197 Q 119 lv st h = zR d 197 Q 65 lv st h := q_in rfl rfl
theorem r197_122 : zR d 197 Q 122 (some (.ref c) :: l) st h = zR d 197 Q 123 (some (.ref c) :: l) (.ref c :: st) h := q_in rfl rfl
theorem r197_123 : zR d 197 Q 123 (some (.ref c) :: l) st h = zR d 197 Q 124 (some (.ref c) :: l) (.ref c :: st) h := q_in rfl rfl
theorem r197_124 : zR d 197 Q 124 lv (.ref 60 :: st) h = zR d 197 Q 127 lv (.ref 63 :: st) h := (q_and rfl rfl).trans (zand_t rfl)
theorem r197_127 : zR d 197 Q 127 (some (.ref c) :: l) st h = zR d 197 Q 128 (some (.ref c) :: l) (.ref c :: st) h := q_in rfl rfl
theorem r197_128 : zR d 197 Q 128 lv (.ref 60 :: st) h = zR d 197 Q 131 lv (.ref 61 :: st) h := (q_and rfl rfl).trans (zand_t rfl)
theorem r197_131 : zR d 197 Q 131 lv [.ref c1, .ref c0, .ref 60] h = zM d 196 [.ref 60, .ref c0, .ref c1] h (fun r h' => zR d 197 Q 134 lv (r.toList ++ []) h') := (q_clV rfl rfl (Nat.le_of_ble_eq_true rfl)).trans (zand_t ⟨rfl, Nat.le_of_ble_eq_true rfl⟩)
theorem r197_134 : zR d 197 Q 134 lv st h = zR d 197 Q 135 lv (.int 0 :: st) h := q_in rfl rfl
theorem r197_135 : zR d 197 Q 135 (o0 :: o1 :: o2 :: o3 :: o4 :: l) (.int x :: st) h = zR d 197 Q 137 (o0 :: o1 :: o2 :: o3 :: some (.int x) :: l) st h := q_in rfl rfl
theorem r197_137 : zR d 197 Q 137 (o0 :: o1 :: o2 :: o3 :: some (.int x) :: l) st h = zR d 197 Q 139 (o0 :: o1 :: o2 :: o3 :: some (.int x) :: l) (.int x :: st) h := q_in rfl rfl
theorem r197_139 : zR d 197 Q 139 (o0 :: o1 :: some (.int x) :: l) st h = zR d 197 Q 140 (o0 :: o1 :: some (.int x) :: l) (.int x :: st) h := q_in rfl rfl
theorem r197_140 : zR d 197 Q 140 lv (.int z :: .int x :: st) h = if x < z then zR d 197 Q 143 lv st h else zR d 197 Q 172 lv st h := q_if rfl rfl
theorem r197_143 : zR d 197 Q 143 (o0 :: o1 :: o2 :: o3 :: some (.int x) :: l) st h = zR d 197 Q 145 (o0 :: o1 :: o2 :: o3 :: some (.int x) :: l) (.int x :: st) h := q_in rfl rfl
theorem r197_145 : zR d 197 Q 145 (o0 :: o1 :: o2 :: some (.int x) :: l) st h = zR d 197 Q 146 (o0 :: o1 :: o2 :: some (.int x) :: l) (.int x :: st) h := q_in rfl rfl
theorem r197_146 : zR d 197 Q 146 lv (.int z :: .int x :: st) h = if x < z then zR d 197 Q 149 lv st h else zR d 197 Q 172 lv st h := q_if rfl rfl
theorem r197_149 : zR d 197 Q 149 (some (.ref c) :: l) st h = zR d 197 Q 150 (some (.ref c) :: l) (.ref c :: st) h := q_in rfl rfl
theorem r197_150 : zR d 197 Q 150 lv (.ref 60 :: st) h = zR d 197 Q 153 lv (.ref 78 :: st) h := (q_and rfl rfl).trans (zand_t rfl)
theorem r197_153 : zR d 197 Q 153 (o0 :: o1 :: o2 :: o3 :: some (.int x) :: l) st h = zR d 197 Q 155 (o0 :: o1 :: o2 :: o3 :: some (.int x) :: l) (.int x :: st) h := q_in rfl rfl
theorem r197_155 : zR d 197 Q 155 lv (.int x :: .ref c :: st) h = zal c x h (fun w => zR d 197 Q 156 lv (.int w :: st) h) := q_iald rfl
theorem r197_156 : zR d 197 Q 156 (some (.ref c) :: l) st h = zR d 197 Q 157 (some (.ref c) :: l) (.ref c :: st) h := q_in rfl rfl
theorem r197_157 : zR d 197 Q 157 lv (.ref 60 :: st) h = zR d 197 Q 160 lv (.ref 79 :: st) h := (q_and rfl rfl).trans (zand_t rfl)
theorem r197_160 : zR d 197 Q 160 (o0 :: o1 :: o2 :: o3 :: some (.int x) :: l) st h = zR d 197 Q 162 (o0 :: o1 :: o2 :: o3 :: some (.int x) :: l) (.int x :: st) h := q_in rfl rfl
theorem r197_162 : zR d 197 Q 162 lv (.int x :: .ref c :: st) h = zal c x h (fun w => zR d 197 Q 163 lv (.int w :: st) h) := q_iald rfl
theorem r197_163 : zR d 197 Q 163 lv (.int z :: .int x :: st) h = if x = z then zR d 197 Q 166 lv st h else zR d 197 Q 172 lv st h := q_if rfl rfl
theorem r197_166 : zR d 197 Q 166 (o0 :: o1 :: o2 :: o3 :: some (.int x) :: l) st h = zR d 197 Q 169 (o0 :: o1 :: o2 :: o3 :: some (.int (x + 1)) :: l) st h := q_in rfl rfl
set_option maxRecDepth 100000 in
theorem r197_169 : zR d 197 Q 169 lv st h = zR d 197 Q 137 lv st h := q_in rfl rfl
set_option maxRecDepth 100000 in
theorem r197_172 : zR d 197 Q 172 (o0 :: o1 :: o2 :: o3 :: some (.int x) :: l) st h = zR d 197 Q 174 (o0 :: o1 :: o2 :: o3 :: some (.int x) :: l) (.int x :: st) h := q_in rfl rfl
set_option maxRecDepth 100000 in
theorem r197_174 : zR d 197 Q 174 (o0 :: o1 :: some (.int x) :: l) st h = zR d 197 Q 175 (o0 :: o1 :: some (.int x) :: l) (.int x :: st) h := q_in rfl rfl
set_option maxRecDepth 100000 in
theorem r197_175 : zR d 197 Q 175 lv (.int z :: .int x :: st) h = if x = z then zR d 197 Q 178 lv st h else zR d 197 Q 188 lv st h := q_if rfl rfl
set_option maxRecDepth 100000 in
theorem r197_178 : zR d 197 Q 178 (o0 :: o1 :: o2 :: o3 :: some (.int x) :: l) st h = zR d 197 Q 180 (o0 :: o1 :: o2 :: o3 :: some (.int x) :: l) (.int x :: st) h := q_in rfl rfl
set_option maxRecDepth 100000 in
theorem r197_180 : zR d 197 Q 180 (o0 :: o1 :: o2 :: some (.int x) :: l) st h = zR d 197 Q 181 (o0 :: o1 :: o2 :: some (.int x) :: l) (.int x :: st) h := q_in rfl rfl
set_option maxRecDepth 100000 in
theorem r197_181 : zR d 197 Q 181 lv (.int z :: .int x :: st) h = if x = z then zR d 197 Q 184 lv st h else zR d 197 Q 188 lv st h := q_if rfl rfl
set_option maxRecDepth 100000 in
theorem r197_184 : zR d 197 Q 184 lv st h = zR d 197 Q 185 lv (.int 0 :: st) h := q_in rfl rfl
set_option maxRecDepth 100000 in
theorem r197_185 : zR d 197 Q 185 lv st h = zR d 197 Q 192 lv st h := q_in rfl rfl
set_option maxRecDepth 100000 in
theorem r197_188 : zR d 197 Q 188 lv st h = zR d 197 Q 189 lv (.int 1 :: st) h := q_in rfl rfl
set_option maxRecDepth 100000 in
theorem r197_189 : zR d 197 Q 189 (o0 :: o1 :: o2 :: o3 :: some (.int x) :: l) st h = zR d 197 Q 191 (o0 :: o1 :: o2 :: o3 :: some (.int x) :: l) (.int x :: st) h := q_in rfl rfl
set_option maxRecDepth 100000 in
theorem r197_191 : zR d 197 Q 191 lv (.int z :: .int x :: st) h = zR d 197 Q 192 lv (.int (x + z) :: st) h := q_in rfl rfl
set_option maxRecDepth 100000 in
theorem r197_192 : zR d 197 Q 192 lv [.int x] h = Q (some (.int x)) h := q_retz rfl rfl (Or.inl rfl)
theorem r198_0 : zR d 198 Q 0 (some (.ref c) :: l) st h = zR d 198 Q 1 (some (.ref c) :: l) (.ref c :: st) h := q_in rfl rfl
theorem r198_1 : zR d 198 Q 1 lv st h = zR d 198 Q 2 lv (.int 1 :: st) h := q_in rfl rfl
theorem r198_2 : zR d 198 Q 2 lv (.int x :: .ref 60 :: st) h = ((x = 0 ∨ x = 1) ∧ zR d 198 Q 5 lv st (zhr h 60 (upd (h 60) 3 x))) := (q_and rfl rfl).trans zand_b
theorem r198_5 : zR d 198 Q 5 (some (.ref c) :: l) st h = zR d 198 Q 6 (some (.ref c) :: l) (.ref c :: st) h := q_in rfl rfl
theorem r198_6 : zR d 198 Q 6 (some (.ref c) :: l) st h = zR d 198 Q 7 (some (.ref c) :: l) (.ref c :: st) h := q_in rfl rfl
theorem r198_7 : zR d 198 Q 7 lv (.ref 60 :: st) h = zR d 198 Q 10 lv (.ref 61 :: st) h := (q_and rfl rfl).trans (zand_t rfl)
theorem r198_10 : zR d 198 Q 10 (some (.ref c) :: l) st h = zR d 198 Q 11 (some (.ref c) :: l) (.ref c :: st) h := q_in rfl rfl
theorem r198_11 : zR d 198 Q 11 lv (.ref 60 :: st) h = zR d 198 Q 14 lv (.ref 62 :: st) h := (q_and rfl rfl).trans (zand_t rfl)
theorem r198_14 : zR d 198 Q 14 lv [.ref c1, .ref c0, .ref 60] h = zM d 196 [.ref 60, .ref c0, .ref c1] h (fun r h' => zR d 198 Q 17 lv (r.toList ++ []) h') := (q_clV rfl rfl (Nat.le_of_ble_eq_true rfl)).trans (zand_t ⟨rfl, Nat.le_of_ble_eq_true rfl⟩)
theorem r198_17 : zR d 198 Q 17 (some (.ref c) :: l) st h = zR d 198 Q 18 (some (.ref c) :: l) (.ref c :: st) h := q_in rfl rfl
theorem r198_18 : zR d 198 Q 18 lv (.ref 60 :: st) h = zR d 198 Q 21 lv (.ref 61 :: st) h := (q_and rfl rfl).trans (zand_t rfl)
theorem r198_21 : zR d 198 Q 21 lv st h = zR d 198 Q 22 lv (.int 0 :: st) h := q_in rfl rfl
theorem r198_22 : zR d 198 Q 22 lv (.int x :: .ref c :: st) h = zal c x h (fun w => zR d 198 Q 23 lv (.int w :: st) h) := q_iald rfl
theorem r198_23 : zR d 198 Q 23 lv [.int x] h = Q (some (.int x)) h := q_retz rfl rfl (Or.inl rfl)
theorem r199_0 : zR d 199 Q 0 (some (.ref c) :: l) st h = zR d 199 Q 1 (some (.ref c) :: l) (.ref c :: st) h := q_in rfl rfl
theorem r199_1 : zR d 199 Q 1 lv (.ref 60 :: st) h = zR d 199 Q 4 lv (.int (h 60 3) :: st) h := (q_and rfl rfl).trans (zand_t rfl)
theorem r199_4 : zR d 199 Q 4 lv (.int x :: st) h = if x = 0 then zR d 199 Q 7 lv st h else zR d 199 Q 11 lv st h := q_if rfl rfl
theorem r199_7 : zR d 199 Q 7 lv st h = zR d 199 Q 10 lv (.int (-1000000002) :: st) h := q_in rfl rfl
theorem r199_10 : zR d 199 Q 10 lv [.int x] h = Q (some (.int x)) h := q_retz rfl rfl (Or.inl rfl)
theorem r199_11 : zR d 199 Q 11 (some (.ref c) :: l) st h = zR d 199 Q 12 (some (.ref c) :: l) (.ref c :: st) h := q_in rfl rfl
theorem r199_12 : zR d 199 Q 12 (some (.ref c) :: l) st h = zR d 199 Q 13 (some (.ref c) :: l) (.ref c :: st) h := q_in rfl rfl
theorem r199_13 : zR d 199 Q 13 lv (.ref 60 :: st) h = zR d 199 Q 16 lv (.ref 62 :: st) h := (q_and rfl rfl).trans (zand_t rfl)
theorem r199_16 : zR d 199 Q 16 (some (.ref c) :: l) st h = zR d 199 Q 17 (some (.ref c) :: l) (.ref c :: st) h := q_in rfl rfl
theorem r199_17 : zR d 199 Q 17 lv (.ref 60 :: st) h = zR d 199 Q 20 lv (.ref 61 :: st) h := (q_and rfl rfl).trans (zand_t rfl)
theorem r199_20 : zR d 199 Q 20 lv [.ref c1, .ref c0, .ref 60] h = zM d 196 [.ref 60, .ref c0, .ref c1] h (fun r h' => zR d 199 Q 23 lv (r.toList ++ []) h') := (q_clV rfl rfl (Nat.le_of_ble_eq_true rfl)).trans (zand_t ⟨rfl, Nat.le_of_ble_eq_true rfl⟩)
theorem r199_23 : zR d 199 Q 23 (some (.ref c) :: l) st h = zR d 199 Q 24 (some (.ref c) :: l) (.ref c :: st) h := q_in rfl rfl
theorem r199_24 : zR d 199 Q 24 lv (.ref 60 :: st) h = zR d 199 Q 27 lv (.ref 61 :: st) h := (q_and rfl rfl).trans (zand_t rfl)
theorem r199_27 : zR d 199 Q 27 lv st h = zR d 199 Q 28 lv (.int 0 :: st) h := q_in rfl rfl
theorem r199_28 : zR d 199 Q 28 lv (.int x :: .ref c :: st) h = zal c x h (fun w => zR d 199 Q 29 lv (.int w :: st) h) := q_iald rfl
theorem r199_29 : zR d 199 Q 29 lv [.int x] h = Q (some (.int x)) h := q_retz rfl rfl (Or.inl rfl)
theorem r200_0 : zR d 200 Q 0 (o0 :: some (.int x) :: l) st h = zR d 200 Q 1 (o0 :: some (.int x) :: l) (.int x :: st) h := q_in rfl rfl
theorem r200_1 : zR d 200 Q 1 lv (.int x :: st) h = if x = 0 then zR d 200 Q 48 lv st h else if x = 1 then zR d 200 Q 55 lv st h else if x = 2 then zR d 200 Q 62 lv st h else if x = 3 then zR d 200 Q 68 lv st h else if x = 4 then zR d 200 Q 80 lv st h else if x = 5 then zR d 200 Q 87 lv st h else if x = 6 then zR d 200 Q 92 lv st h else if x = 7 then zR d 200 Q 97 lv st h else zR d 200 Q 104 lv st h := (q_in rfl rfl).trans (by simp only [zsw, zR_ite])
theorem r200_48 : zR d 200 Q 48 (some (.ref c) :: l) st h = zR d 200 Q 49 (some (.ref c) :: l) (.ref c :: st) h := q_in rfl rfl
theorem r200_49 : zR d 200 Q 49 lv (.ref 60 :: st) h = zR d 200 Q 52 lv (.ref 61 :: st) h := (q_and rfl rfl).trans (zand_t rfl)
theorem r200_52 : zR d 200 Q 52 lv st h = zR d 200 Q 53 lv (.int 0 :: st) h := q_in rfl rfl
theorem r200_53 : zR d 200 Q 53 lv (.int x :: .ref c :: st) h = zal c x h (fun w => zR d 200 Q 54 lv (.int w :: st) h) := q_iald rfl
theorem r200_54 : zR d 200 Q 54 lv [.int x] h = Q (some (.int x)) h := q_retz rfl rfl (Or.inl rfl)
theorem r200_55 : zR d 200 Q 55 (some (.ref c) :: l) st h = zR d 200 Q 56 (some (.ref c) :: l) (.ref c :: st) h := q_in rfl rfl
theorem r200_56 : zR d 200 Q 56 lv (.ref 60 :: st) h = zR d 200 Q 59 lv (.ref 61 :: st) h := (q_and rfl rfl).trans (zand_t rfl)
theorem r200_59 : zR d 200 Q 59 lv st h = zR d 200 Q 60 lv (.int 2 :: st) h := q_in rfl rfl
theorem r200_60 : zR d 200 Q 60 lv (.int x :: .ref c :: st) h = zal c x h (fun w => zR d 200 Q 61 lv (.int w :: st) h) := q_iald rfl
theorem r200_61 : zR d 200 Q 61 lv [.int x] h = Q (some (.int x)) h := q_retz rfl rfl (Or.inl rfl)
theorem r200_62 : zR d 200 Q 62 (some (.ref c) :: l) st h = zR d 200 Q 63 (some (.ref c) :: l) (.ref c :: st) h := q_in rfl rfl
theorem r200_63 : zR d 200 Q 63 lv st h = zR d 200 Q 64 lv (.int 0 :: st) h := q_in rfl rfl
theorem r200_64 : zR d 200 Q 64 lv [.int x0, .ref 60] h = zM d 141 [.ref 60, .int x0] h (fun r h' => zR d 200 Q 67 lv (r.toList ++ []) h') := (q_clV rfl rfl (Nat.le_of_ble_eq_true rfl)).trans (zand_t ⟨rfl, Nat.le_of_ble_eq_true rfl⟩)
theorem r200_67 : zR d 200 Q 67 lv [.int x] h = Q (some (.int x)) h := q_retz rfl rfl (Or.inl rfl)
theorem r200_68 : zR d 200 Q 68 (some (.ref c) :: l) st h = zR d 200 Q 69 (some (.ref c) :: l) (.ref c :: st) h := q_in rfl rfl
theorem r200_69 : zR d 200 Q 69 (some (.ref c) :: l) st h = zR d 200 Q 70 (some (.ref c) :: l) (.ref c :: st) h := q_in rfl rfl
theorem r200_70 : zR d 200 Q 70 lv (.ref 60 :: st) h = zR d 200 Q 73 lv (.ref 61 :: st) h := (q_and rfl rfl).trans (zand_t rfl)
theorem r200_73 : zR d 200 Q 73 lv st h = zR d 200 Q 75 lv (.int 6 :: st) h := q_in rfl rfl
theorem r200_75 : zR d 200 Q 75 lv (.int x :: .ref c :: st) h = zal c x h (fun w => zR d 200 Q 76 lv (.int w :: st) h) := q_iald rfl
theorem r200_76 : zR d 200 Q 76 lv [.int x0, .ref 60] h = zM d 141 [.ref 60, .int x0] h (fun r h' => zR d 200 Q 79 lv (r.toList ++ []) h') := (q_clV rfl rfl (Nat.le_of_ble_eq_true rfl)).trans (zand_t ⟨rfl, Nat.le_of_ble_eq_true rfl⟩)
theorem r200_79 : zR d 200 Q 79 lv [.int x] h = Q (some (.int x)) h := q_retz rfl rfl (Or.inl rfl)
theorem r200_80 : zR d 200 Q 80 (some (.ref c) :: l) st h = zR d 200 Q 81 (some (.ref c) :: l) (.ref c :: st) h := q_in rfl rfl
theorem r200_81 : zR d 200 Q 81 lv (.ref 60 :: st) h = zR d 200 Q 84 lv (.ref 61 :: st) h := (q_and rfl rfl).trans (zand_t rfl)
theorem r200_84 : zR d 200 Q 84 lv st h = zR d 200 Q 85 lv (.int 1 :: st) h := q_in rfl rfl
theorem r200_85 : zR d 200 Q 85 lv (.int x :: .ref c :: st) h = zal c x h (fun w => zR d 200 Q 86 lv (.int w :: st) h) := q_iald rfl
theorem r200_86 : zR d 200 Q 86 lv [.int x] h = Q (some (.int x)) h := q_retz rfl rfl (Or.inl rfl)
theorem r200_87 : zR d 200 Q 87 (some (.ref c) :: l) st h = zR d 200 Q 88 (some (.ref c) :: l) (.ref c :: st) h := q_in rfl rfl
theorem r200_88 : zR d 200 Q 88 lv (.ref 60 :: st) h = zR d 200 Q 91 lv (.int (h 60 31) :: st) h := (q_and rfl rfl).trans (zand_t rfl)
theorem r200_91 : zR d 200 Q 91 lv [.int x] h = Q (some (.int x)) h := q_retz rfl rfl (Or.inl rfl)
theorem r200_92 : zR d 200 Q 92 (some (.ref c) :: l) st h = zR d 200 Q 93 (some (.ref c) :: l) (.ref c :: st) h := q_in rfl rfl
theorem r200_93 : zR d 200 Q 93 lv (.ref 60 :: st) h = zR d 200 Q 96 lv (.int (h 60 16) :: st) h := (q_and rfl rfl).trans (zand_t rfl)
theorem r200_96 : zR d 200 Q 96 lv [.int x] h = Q (some (.int x)) h := q_retz rfl rfl (Or.inl rfl)
theorem r200_97 : zR d 200 Q 97 (some (.ref c) :: l) st h = zR d 200 Q 98 (some (.ref c) :: l) (.ref c :: st) h := q_in rfl rfl
theorem r200_98 : zR d 200 Q 98 lv (.ref 60 :: st) h = zR d 200 Q 101 lv (.ref 61 :: st) h := (q_and rfl rfl).trans (zand_t rfl)
theorem r200_101 : zR d 200 Q 101 lv st h = zR d 200 Q 102 lv (.int 5 :: st) h := q_in rfl rfl
theorem r200_102 : zR d 200 Q 102 lv (.int x :: .ref c :: st) h = zal c x h (fun w => zR d 200 Q 103 lv (.int w :: st) h) := q_iald rfl
theorem r200_103 : zR d 200 Q 103 lv [.int x] h = Q (some (.int x)) h := q_retz rfl rfl (Or.inl rfl)
theorem r200_104 : zR d 200 Q 104 lv st h = zR d 200 Q 106 lv (.int (-1000000001) :: st) h := q_in rfl rfl
theorem r200_106 : zR d 200 Q 106 lv [.int x] h = Q (some (.int x)) h := q_retz rfl rfl (Or.inl rfl)
theorem r201_0 : zR d 201 Q 0 (some (.int x) :: l) st h = zR d 201 Q 1 (some (.int x) :: l) (.int x :: st) h := q_in rfl rfl
theorem r201_1 : zR d 201 Q 1 (some (.int x) :: l) st h = zR d 201 Q 2 (some (.int x) :: l) (.int x :: st) h := q_in rfl rfl
theorem r201_2 : zR d 201 Q 2 lv st h = zR d 201 Q 3 lv (.int 1 :: st) h := q_in rfl rfl
theorem r201_3 : zR d 201 Q 3 lv (.int z :: .int x :: st) h = zR d 201 Q 4 lv (.int ((x.toUInt32 >>> (z.toUInt32 &&& Int32.toUInt32 31)).toInt32) :: st) h := q_in rfl rfl
theorem r201_4 : zR d 201 Q 4 lv st h = zR d 201 Q 7 lv (.int 1431655765 :: st) h := q_in rfl rfl
theorem r201_7 : zR d 201 Q 7 lv (.int z :: .int x :: st) h = zR d 201 Q 8 lv (.int (x &&& z) :: st) h := q_in rfl rfl
theorem r201_8 : zR d 201 Q 8 lv (.int z :: .int x :: st) h = zR d 201 Q 9 lv (.int (x - z) :: st) h := q_in rfl rfl
theorem r201_9 : zR d 201 Q 9 (o0 :: l) (.int x :: st) h = zR d 201 Q 10 (some (.int x) :: l) st h := q_in rfl rfl
theorem r201_10 : zR d 201 Q 10 (some (.int x) :: l) st h = zR d 201 Q 11 (some (.int x) :: l) (.int x :: st) h := q_in rfl rfl
theorem r201_11 : zR d 201 Q 11 lv st h = zR d 201 Q 14 lv (.int 858993459 :: st) h := q_in rfl rfl
theorem r201_14 : zR d 201 Q 14 lv (.int z :: .int x :: st) h = zR d 201 Q 15 lv (.int (x &&& z) :: st) h := q_in rfl rfl
theorem r201_15 : zR d 201 Q 15 (some (.int x) :: l) st h = zR d 201 Q 16 (some (.int x) :: l) (.int x :: st) h := q_in rfl rfl
theorem r201_16 : zR d 201 Q 16 lv st h = zR d 201 Q 17 lv (.int 2 :: st) h := q_in rfl rfl
theorem r201_17 : zR d 201 Q 17 lv (.int z :: .int x :: st) h = zR d 201 Q 18 lv (.int ((x.toUInt32 >>> (z.toUInt32 &&& Int32.toUInt32 31)).toInt32) :: st) h := q_in rfl rfl
theorem r201_18 : zR d 201 Q 18 lv st h = zR d 201 Q 21 lv (.int 858993459 :: st) h := q_in rfl rfl
theorem r201_21 : zR d 201 Q 21 lv (.int z :: .int x :: st) h = zR d 201 Q 22 lv (.int (x &&& z) :: st) h := q_in rfl rfl
theorem r201_22 : zR d 201 Q 22 lv (.int z :: .int x :: st) h = zR d 201 Q 23 lv (.int (x + z) :: st) h := q_in rfl rfl
theorem r201_23 : zR d 201 Q 23 (o0 :: l) (.int x :: st) h = zR d 201 Q 24 (some (.int x) :: l) st h := q_in rfl rfl
theorem r201_24 : zR d 201 Q 24 (some (.int x) :: l) st h = zR d 201 Q 25 (some (.int x) :: l) (.int x :: st) h := q_in rfl rfl
theorem r201_25 : zR d 201 Q 25 (some (.int x) :: l) st h = zR d 201 Q 26 (some (.int x) :: l) (.int x :: st) h := q_in rfl rfl
theorem r201_26 : zR d 201 Q 26 lv st h = zR d 201 Q 27 lv (.int 4 :: st) h := q_in rfl rfl
theorem r201_27 : zR d 201 Q 27 lv (.int z :: .int x :: st) h = zR d 201 Q 28 lv (.int ((x.toUInt32 >>> (z.toUInt32 &&& Int32.toUInt32 31)).toInt32) :: st) h := q_in rfl rfl
theorem r201_28 : zR d 201 Q 28 lv (.int z :: .int x :: st) h = zR d 201 Q 29 lv (.int (x + z) :: st) h := q_in rfl rfl
theorem r201_29 : zR d 201 Q 29 lv st h = zR d 201 Q 32 lv (.int 252645135 :: st) h := q_in rfl rfl
theorem r201_32 : zR d 201 Q 32 lv (.int z :: .int x :: st) h = zR d 201 Q 33 lv (.int (x &&& z) :: st) h := q_in rfl rfl
theorem r201_33 : zR d 201 Q 33 (o0 :: l) (.int x :: st) h = zR d 201 Q 34 (some (.int x) :: l) st h := q_in rfl rfl
theorem r201_34 : zR d 201 Q 34 (some (.int x) :: l) st h = zR d 201 Q 35 (some (.int x) :: l) (.int x :: st) h := q_in rfl rfl
theorem r201_35 : zR d 201 Q 35 (some (.int x) :: l) st h = zR d 201 Q 36 (some (.int x) :: l) (.int x :: st) h := q_in rfl rfl
theorem r201_36 : zR d 201 Q 36 lv st h = zR d 201 Q 38 lv (.int 8 :: st) h := q_in rfl rfl
theorem r201_38 : zR d 201 Q 38 lv (.int z :: .int x :: st) h = zR d 201 Q 39 lv (.int ((x.toUInt32 >>> (z.toUInt32 &&& Int32.toUInt32 31)).toInt32) :: st) h := q_in rfl rfl
theorem r201_39 : zR d 201 Q 39 lv (.int z :: .int x :: st) h = zR d 201 Q 40 lv (.int (x + z) :: st) h := q_in rfl rfl
theorem r201_40 : zR d 201 Q 40 (o0 :: l) (.int x :: st) h = zR d 201 Q 41 (some (.int x) :: l) st h := q_in rfl rfl
theorem r201_41 : zR d 201 Q 41 (some (.int x) :: l) st h = zR d 201 Q 42 (some (.int x) :: l) (.int x :: st) h := q_in rfl rfl
theorem r201_42 : zR d 201 Q 42 (some (.int x) :: l) st h = zR d 201 Q 43 (some (.int x) :: l) (.int x :: st) h := q_in rfl rfl
theorem r201_43 : zR d 201 Q 43 lv st h = zR d 201 Q 45 lv (.int 16 :: st) h := q_in rfl rfl
theorem r201_45 : zR d 201 Q 45 lv (.int z :: .int x :: st) h = zR d 201 Q 46 lv (.int ((x.toUInt32 >>> (z.toUInt32 &&& Int32.toUInt32 31)).toInt32) :: st) h := q_in rfl rfl
theorem r201_46 : zR d 201 Q 46 lv (.int z :: .int x :: st) h = zR d 201 Q 47 lv (.int (x + z) :: st) h := q_in rfl rfl
theorem r201_47 : zR d 201 Q 47 (o0 :: l) (.int x :: st) h = zR d 201 Q 48 (some (.int x) :: l) st h := q_in rfl rfl
theorem r201_48 : zR d 201 Q 48 (some (.int x) :: l) st h = zR d 201 Q 49 (some (.int x) :: l) (.int x :: st) h := q_in rfl rfl
theorem r201_49 : zR d 201 Q 49 lv st h = zR d 201 Q 51 lv (.int 63 :: st) h := q_in rfl rfl
theorem r201_51 : zR d 201 Q 51 lv (.int z :: .int x :: st) h = zR d 201 Q 52 lv (.int (x &&& z) :: st) h := q_in rfl rfl
theorem r201_52 : zR d 201 Q 52 lv [.int x] h = Q (some (.int x)) h := q_retz rfl rfl (Or.inl rfl)
end
