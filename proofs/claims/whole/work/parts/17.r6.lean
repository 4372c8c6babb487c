section
variable {d : Nat} {Q : Option Value → zH → Prop} {lv l : zL} {st : zS} {h : zH} {x z : Int32} {c : Nat} {i j : Int64} {o0 o1 o2 o3 o4 o5 o6 o7 o8 o9 o10 o11 o12 : Option Value} {x0 x1 x2 x3 x4 y0 y1 y2 y3 : Int32} {c0 c1 c2 c3 c4 a0 a1 a2 a3 : Nat} {j0 j1 j2 k0 k1 : Int64}

theorem r164_0 : zR d 164 Q 0 (some (.ref c) :: l) st h = zR d 164 Q 1 (some (.ref c) :: l) (.ref c :: st) h := q_in rfl rfl
theorem r164_1 : zR d 164 Q 1 lv (.ref 60 :: st) h = zR d 164 Q 4 lv (.int (h 60 18) :: st) h := (q_and rfl rfl).trans (zand_t rfl)
theorem r164_4 : zR d 164 Q 4 lv (.int x :: st) h = if x ≤ 0 then zR d 164 Q 27 lv st h else zR d 164 Q 7 lv st h := q_if rfl rfl
theorem r164_7 : zR d 164 Q 7 (some (.ref c) :: l) st h = zR d 164 Q 8 (some (.ref c) :: l) (.ref c :: st) h := q_in rfl rfl
theorem r164_8 : zR d 164 Q 8 lv (.ref 60 :: st) h = zR d 164 Q 11 lv (.int (h 60 19) :: st) h := (q_and rfl rfl).trans (zand_t rfl)
theorem r164_11 : zR d 164 Q 11 lv st h = zR d 164 Q 12 lv (.int 1 :: st) h := q_in rfl rfl
theorem r164_12 : zR d 164 Q 12 lv (.int z :: .int x :: st) h = if x = z then zR d 164 Q 23 lv st h else zR d 164 Q 15 lv st h := q_if rfl rfl
theorem r164_15 : zR d 164 Q 15 (some (.ref c) :: l) st h = zR d 164 Q 16 (some (.ref c) :: l) (.ref c :: st) h := q_in rfl rfl
theorem r164_16 : zR d 164 Q 16 lv (.ref 60 :: st) h = zR d 164 Q 19 lv (.int (h 60 19) :: st) h := (q_and rfl rfl).trans (zand_t rfl)
theorem r164_19 : zR d 164 Q 19 lv st h = zR d 164 Q 20 lv (.int 2 :: st) h := q_in rfl rfl
theorem r164_20 : zR d 164 Q 20 lv (.int z :: .int x :: st) h = if x = z then zR d 164 Q 23 lv st h else zR d 164 Q 27 lv st h := q_if rfl rfl
theorem r164_23 : zR d 164 Q 23 lv st h = zR d 164 Q 24 lv (.int 1 :: st) h := q_in rfl rfl
theorem r164_24 : zR d 164 Q 24 lv st h = zR d 164 Q 28 lv st h := q_in rfl rfl
theorem r164_27 : zR d 164 Q 27 lv st h = zR d 164 Q 28 lv (.int 0 :: st) h := q_in rfl rfl
theorem r164_28 : zR d 164 Q 28 (o0 :: o1 :: l) (.int x :: st) h = zR d 164 Q 29 (o0 :: some (.int x) :: l) st h := q_in rfl rfl
theorem r164_29 : zR d 164 Q 29 (some (.ref c) :: l) st h = zR d 164 Q 30 (some (.ref c) :: l) (.ref c :: st) h := q_in rfl rfl
theorem r164_30 : zR d 164 Q 30 lv (.ref 60 :: st) h = zR d 164 Q 33 lv (.int (h 60 18) :: st) h := (q_and rfl rfl).trans (zand_t rfl)
theorem r164_33 : zR d 164 Q 33 (o0 :: o1 :: o2 :: l) (.int x :: st) h = zR d 164 Q 34 (o0 :: o1 :: some (.int x) :: l) st h := q_in rfl rfl
theorem r164_34 : zR d 164 Q 34 (some (.ref c) :: l) st h = zR d 164 Q 35 (some (.ref c) :: l) (.ref c :: st) h := q_in rfl rfl
theorem r164_35 : zR d 164 Q 35 lv (.ref 60 :: st) h = zR d 164 Q 38 lv (.int (h 60 18) :: st) h := (q_and rfl rfl).trans (zand_t rfl)
theorem r164_38 : zR d 164 Q 38 (some (.ref c) :: l) st h = zR d 164 Q 39 (some (.ref c) :: l) (.ref c :: st) h := q_in rfl rfl
theorem r164_39 : zR d 164 Q 39 lv (.ref 60 :: st) h = zR d 164 Q 42 lv (.int (h 60 16) :: st) h := (q_and rfl rfl).trans (zand_t rfl)
theorem r164_42 : zR d 164 Q 42 lv (.int z :: .int x :: st) h = if x < z then zR d 164 Q 45 lv st h else zR d 164 Q 72 lv st h := q_if rfl rfl
theorem r164_45 : zR d 164 Q 45 (some (.ref c) :: l) st h = zR d 164 Q 46 (some (.ref c) :: l) (.ref c :: st) h := q_in rfl rfl
theorem r164_46 : zR d 164 Q 46 lv (.ref 60 :: st) h = zR d 164 Q 49 lv (.ref 74 :: st) h := (q_and rfl rfl).trans (zand_t rfl)
theorem r164_49 : zR d 164 Q 49 (some (.ref c) :: l) st h = zR d 164 Q 50 (some (.ref c) :: l) (.ref c :: st) h := q_in rfl rfl
theorem r164_50 : zR d 164 Q 50 lv (.ref 60 :: st) h = zR d 164 Q 53 lv (.int (h 60 18) :: st) h := (q_and rfl rfl).trans (zand_t rfl)
theorem r164_53 : zR d 164 Q 53 lv (.int x :: .ref c :: st) h = zal c x h (fun w => zR d 164 Q 54 lv (.int w :: st) h) := q_iald rfl
theorem r164_54 : zR d 164 Q 54 lv st h = zR d 164 Q 56 lv (.int 32 :: st) h := q_in rfl rfl
theorem r164_56 : zR d 164 Q 56 lv (.int z :: .int x :: st) h = if x = z then zR d 164 Q 59 lv st h else zR d 164 Q 72 lv st h := q_if rfl rfl
theorem r164_59 : zR d 164 Q 59 (some (.ref c) :: l) st h = zR d 164 Q 60 (some (.ref c) :: l) (.ref c :: st) h := q_in rfl rfl
theorem r164_60 : zR d 164 Q 60 lv (.ref c :: st) h = zR d 164 Q 61 lv (.ref c :: .ref c :: st) h := q_in rfl rfl
theorem r164_61 : zR d 164 Q 61 lv (.ref 60 :: st) h = zR d 164 Q 64 lv (.int (h 60 18) :: st) h := (q_and rfl rfl).trans (zand_t rfl)
theorem r164_64 : zR d 164 Q 64 lv st h = zR d 164 Q 65 lv (.int 1 :: st) h := q_in rfl rfl
theorem r164_65 : zR d 164 Q 65 lv (.int z :: .int x :: st) h = zR d 164 Q 66 lv (.int (x + z) :: st) h := q_in rfl rfl
theorem r164_66 : zR d 164 Q 66 lv (.int x :: .ref 60 :: st) h = zR d 164 Q 69 lv st (zhr h 60 (upd (h 60) 18 x)) := (q_and rfl rfl).trans (zand_t ⟨rfl, Or.inl rfl⟩)
theorem r164_69 : zR d 164 Q 69 lv st h = zR d 164 Q 34 lv st h := q_in rfl rfl
theorem r164_72 : zR d 164 Q 72 (o0 :: some (.int x) :: l) st h = zR d 164 Q 73 (o0 :: some (.int x) :: l) (.int x :: st) h := q_in rfl rfl
theorem r164_73 : zR d 164 Q 73 lv (.int x :: st) h = if x = 0 then zR d 164 Q 88 lv st h else zR d 164 Q 76 lv st h := q_if rfl rfl
theorem r164_76 : zR d 164 Q 76 (o0 :: o1 :: some (.int x) :: l) st h = zR d 164 Q 77 (o0 :: o1 :: some (.int x) :: l) (.int x :: st) h := q_in rfl rfl
theorem r164_77 : zR d 164 Q 77 (some (.ref c) :: l) st h = zR d 164 Q 78 (some (.ref c) :: l) (.ref c :: st) h := q_in rfl rfl
theorem r164_78 : zR d 164 Q 78 lv (.ref 60 :: st) h = zR d 164 Q 81 lv (.int (h 60 18) :: st) h := (q_and rfl rfl).trans (zand_t rfl)
theorem r164_81 : zR d 164 Q 81 lv (.int z :: .int x :: st) h = if x = z then zR d 164 Q 84 lv st h else zR d 164 Q 88 lv st h := q_if rfl rfl
theorem r164_84 : zR d 164 Q 84 lv st h = zR d 164 Q 85 lv (.int 1 :: st) h := q_in rfl rfl
theorem r164_85 : zR d 164 Q 85 lv st h = zR d 164 Q 89 lv st h := q_in rfl rfl
theorem r164_88 : zR d 164 Q 88 lv st h = zR d 164 Q 89 lv (.int 0 :: st) h := q_in rfl rfl
theorem r164_89 : zR d 164 Q 89 (o0 :: o1 :: l) (.int x :: st) h = zR d 164 Q 90 (o0 :: some (.int x) :: l) st h := q_in rfl rfl
theorem r164_90 : zR d 164 Q 90 (some (.ref c) :: l) st h = zR d 164 Q 91 (some (.ref c) :: l) (.ref c :: st) h := q_in rfl rfl
theorem r164_91 : zR d 164 Q 91 (some (.ref c) :: l) st h = zR d 164 Q 92 (some (.ref c) :: l) (.ref c :: st) h := q_in rfl rfl
theorem r164_92 : zR d 164 Q 92 lv (.ref 60 :: st) h = zR d 164 Q 95 lv (.int (h 60 18) :: st) h := (q_and rfl rfl).trans (zand_t rfl)
theorem r164_95 : zR d 164 Q 95 lv (.int x :: .ref 60 :: st) h = zR d 164 Q 98 lv st (zhr h 60 (upd (h 60) 17 x)) := (q_and rfl rfl).trans (zand_t ⟨rfl, Or.inl rfl⟩)
theorem r164_98 : zR d 164 Q 98 (some (.ref c) :: l) st h = zR d 164 Q 99 (some (.ref c) :: l) (.ref c :: st) h := q_in rfl rfl
theorem r164_99 : zR d 164 Q 99 lv (.ref 60 :: st) h = zR d 164 Q 102 lv (.int (h 60 17) :: st) h := (q_and rfl rfl).trans (zand_t rfl)
theorem r164_102 : zR d 164 Q 102 (some (.ref c) :: l) st h = zR d 164 Q 103 (some (.ref c) :: l) (.ref c :: st) h := q_in rfl rfl
theorem r164_103 : zR d 164 Q 103 lv (.ref 60 :: st) h = zR d 164 Q 106 lv (.int (h 60 16) :: st) h := (q_and rfl rfl).trans (zand_t rfl)
theorem r164_106 : zR d 164 Q 106 lv (.int z :: .int x :: st) h = if x = z then zR d 164 Q 109 lv st h else zR d 164 Q 117 lv st h := q_if rfl rfl
theorem r164_109 : zR d 164 Q 109 (some (.ref c) :: l) st h = zR d 164 Q 110 (some (.ref c) :: l) (.ref c :: st) h := q_in rfl rfl
theorem r164_110 : zR d 164 Q 110 lv st h = zR d 164 Q 111 lv (.int 0 :: st) h := q_in rfl rfl
theorem r164_111 : zR d 164 Q 111 lv (.int x :: .ref 60 :: st) h = zR d 164 Q 114 lv st (zhr h 60 (upd (h 60) 19 x)) := (q_and rfl rfl).trans (zand_t ⟨rfl, Or.inl rfl⟩)
theorem r164_114 : zR d 164 Q 114 lv st h = zR d 164 Q 339 lv st h := q_in rfl rfl
theorem r164_117 : zR d 164 Q 117 (some (.ref c) :: l) st h = zR d 164 Q 118 (some (.ref c) :: l) (.ref c :: st) h := q_in rfl rfl
theorem r164_118 : zR d 164 Q 118 (some (.ref c) :: l) st h = zR d 164 Q 119 (some (.ref c) :: l) (.ref c :: st) h := q_in rfl rfl
theorem r164_119 : zR d 164 Q 119 lv (.ref 60 :: st) h = zR d 164 Q 122 lv (.int (h 60 17) :: st) h := (q_and rfl rfl).trans (zand_t rfl)
theorem r164_122 : zR d 164 Q 122 lv [.int x0, .ref 60] h = zM d 162 [.ref 60, .int x0] h (fun r h' => zR d 164 Q 125 lv (r.toList ++ []) h') := (q_clV rfl rfl (Nat.le_of_ble_eq_true rfl)).trans (zand_t ⟨rfl, Nat.le_of_ble_eq_true rfl⟩)
theorem r164_125 : zR d 164 Q 125 lv (.int x :: st) h = if x = 0 then zR d 164 Q 198 lv st h else zR d 164 Q 128 lv st h := q_if rfl rfl
theorem r164_128 : zR d 164 Q 128 (some (.ref c) :: l) st h = zR d 164 Q 129 (some (.ref c) :: l) (.ref c :: st) h := q_in rfl rfl
theorem r164_129 : zR d 164 Q 129 (some (.ref c) :: l) st h = zR d 164 Q 130 (some (.ref c) :: l) (.ref c :: st) h := q_in rfl rfl
theorem r164_130 : zR d 164 Q 130 lv (.ref 60 :: st) h = zR d 164 Q 133 lv (.int (h 60 18) :: st) h := (q_and rfl rfl).trans (zand_t rfl)
theorem r164_133 : zR d 164 Q 133 lv [.int x0, .ref 60] h = zM d 162 [.ref 60, .int x0] h (fun r h' => zR d 164 Q 136 lv (r.toList ++ []) h') := (q_clV rfl rfl (Nat.le_of_ble_eq_true rfl)).trans (zand_t ⟨rfl, Nat.le_of_ble_eq_true rfl⟩)
theorem r164_136 : zR d 164 Q 136 lv (.int x :: st) h = if x = 0 then zR d 164 Q 152 lv st h else zR d 164 Q 139 lv st h := q_if rfl rfl
theorem r164_139 : zR d 164 Q 139 (some (.ref c) :: l) st h = zR d 164 Q 140 (some (.ref c) :: l) (.ref c :: st) h := q_in rfl rfl
theorem r164_140 : zR d 164 Q 140 lv (.ref c :: st) h = zR d 164 Q 141 lv (.ref c :: .ref c :: st) h := q_in rfl rfl
theorem r164_141 : zR d 164 Q 141 lv (.ref 60 :: st) h = zR d 164 Q 144 lv (.int (h 60 18) :: st) h := (q_and rfl rfl).trans (zand_t rfl)
theorem r164_144 : zR d 164 Q 144 lv st h = zR d 164 Q 145 lv (.int 1 :: st) h := q_in rfl rfl
theorem r164_145 : zR d 164 Q 145 lv (.int z :: .int x :: st) h = zR d 164 Q 146 lv (.int (x + z) :: st) h := q_in rfl rfl
theorem r164_146 : zR d 164 Q 146 lv (.int x :: .ref 60 :: st) h = zR d 164 Q 149 lv st (zhr h 60 (upd (h 60) 18 x)) := (q_and rfl rfl).trans (zand_t ⟨rfl, Or.inl rfl⟩)
theorem r164_149 : zR d 164 Q 149 lv st h = zR d 164 Q 128 lv st h := q_in rfl rfl
theorem r164_152 : zR d 164 Q 152 (some (.ref c) :: l) st h = zR d 164 Q 153 (some (.ref c) :: l) (.ref c :: st) h := q_in rfl rfl
theorem r164_153 : zR d 164 Q 153 (o0 :: some (.int x) :: l) st h = zR d 164 Q 154 (o0 :: some (.int x) :: l) (.int x :: st) h := q_in rfl rfl
theorem r164_154 : zR d 164 Q 154 lv (.int x :: st) h = if x = 0 then zR d 164 Q 161 lv st h else zR d 164 Q 157 lv st h := q_if rfl rfl
theorem r164_157 : zR d 164 Q 157 lv st h = zR d 164 Q 158 lv (.int 4 :: st) h := q_in rfl rfl
theorem r164_158 : zR d 164 Q 158 lv st h = zR d 164 Q 162 lv st h := q_in rfl rfl
theorem r164_161 : zR d 164 Q 161 lv st h = zR d 164 Q 162 lv (.int 1 :: st) h := q_in rfl rfl
theorem r164_162 : zR d 164 Q 162 lv (.int x :: .ref 60 :: st) h = zR d 164 Q 165 lv st (zhr h 60 (upd (h 60) 19 x)) := (q_and rfl rfl).trans (zand_t ⟨rfl, Or.inl rfl⟩)
theorem r164_165 : zR d 164 Q 165 (some (.ref c) :: l) st h = zR d 164 Q 166 (some (.ref c) :: l) (.ref c :: st) h := q_in rfl rfl
theorem r164_166 : zR d 164 Q 166 (some (.ref c) :: l) st h = zR d 164 Q 167 (some (.ref c) :: l) (.ref c :: st) h := q_in rfl rfl
theorem r164_167 : zR d 164 Q 167 lv (.ref 60 :: st) h = zR d 164 Q 170 lv (.int (h 60 18) :: st) h := (q_and rfl rfl).trans (zand_t rfl)
theorem r164_170 : zR d 164 Q 170 (some (.ref c) :: l) st h = zR d 164 Q 171 (some (.ref c) :: l) (.ref c :: st) h := q_in rfl rfl
theorem r164_171 : zR d 164 Q 171 lv (.ref 60 :: st) h = zR d 164 Q 174 lv (.int (h 60 17) :: st) h := (q_and rfl rfl).trans (zand_t rfl)
theorem r164_174 : zR d 164 Q 174 lv (.int z :: .int x :: st) h = zR d 164 Q 175 lv (.int (x - z) :: st) h := q_in rfl rfl
theorem r164_175 : zR d 164 Q 175 lv st h = zR d 164 Q 176 lv (.int 1 :: st) h := q_in rfl rfl
set_option maxRecDepth 100000 in
theorem r164_176 : zR d 164 Q 176 lv (.int z :: .int x :: st) h = if x = z then zR d 164 Q 179 lv st h else zR d 164 Q 191 lv st h := q_if rfl rfl
set_option maxRecDepth 100000 in
theorem r164_179 : zR d 164 Q 179 (some (.ref c) :: l) st h = zR d 164 Q 180 (some (.ref c) :: l) (.ref c :: st) h := q_in rfl rfl
set_option maxRecDepth 100000 in
theorem r164_180 : zR d 164 Q 180 lv (.ref 60 :: st) h = zR d 164 Q 183 lv (.ref 74 :: st) h := (q_and rfl rfl).trans (zand_t rfl)
set_option maxRecDepth 100000 in
theorem r164_183 : zR d 164 Q 183 (some (.ref c) :: l) st h = zR d 164 Q 184 (some (.ref c) :: l) (.ref c :: st) h := q_in rfl rfl
set_option maxRecDepth 100000 in
theorem r164_184 : zR d 164 Q 184 lv (.ref 60 :: st) h = zR d 164 Q 187 lv (.int (h 60 17) :: st) h := (q_and rfl rfl).trans (zand_t rfl)
set_option maxRecDepth 100000 in
theorem r164_187 : zR d 164 Q 187 lv (.int x :: .ref c :: st) h = zal c x h (fun w => zR d 164 Q 188 lv (.int w :: st) h) := q_iald rfl
set_option maxRecDepth 100000 in
theorem r164_188 : zR d 164 Q 188 lv st h = zR d 164 Q 192 lv st h := q_in rfl rfl
set_option maxRecDepth 100000 in
theorem r164_191 : zR d 164 Q 191 lv st h = zR d 164 Q 192 lv (.int 0 :: st) h := q_in rfl rfl
set_option maxRecDepth 100000 in
theorem r164_192 : zR d 164 Q 192 lv (.int x :: .ref 60 :: st) h = zR d 164 Q 195 lv st (zhr h 60 (upd (h 60) 21 x)) := (q_and rfl rfl).trans (zand_t ⟨rfl, Or.inl rfl⟩)
set_option maxRecDepth 100000 in
theorem r164_195 : zR d 164 Q 195 lv st h = zR d 164 Q 339 lv st h := q_in rfl rfl
set_option maxRecDepth 100000 in
theorem r164_198 : zR d 164 Q 198 (some (.ref c) :: l) st h = zR d 164 Q 199 (some (.ref c) :: l) (.ref c :: st) h := q_in rfl rfl
set_option maxRecDepth 100000 in
theorem r164_199 : zR d 164 Q 199 (some (.ref c) :: l) st h = zR d 164 Q 200 (some (.ref c) :: l) (.ref c :: st) h := q_in rfl rfl
set_option maxRecDepth 100000 in
theorem r164_200 : zR d 164 Q 200 lv (.ref 60 :: st) h = zR d 164 Q 203 lv (.int (h 60 17) :: st) h := (q_and rfl rfl).trans (zand_t rfl)
set_option maxRecDepth 100000 in
theorem r164_203 : zR d 164 Q 203 lv [.int x0, .ref 60] h = zM d 163 [.ref 60, .int x0] h (fun r h' => zR d 164 Q 206 lv (r.toList ++ []) h') := (q_clV rfl rfl (Nat.le_of_ble_eq_true rfl)).trans (zand_t ⟨rfl, Nat.le_of_ble_eq_true rfl⟩)
set_option maxRecDepth 100000 in
theorem r164_206 : zR d 164 Q 206 lv (.int x :: st) h = if x = 0 then zR d 164 Q 311 lv st h else zR d 164 Q 209 lv st h := q_if rfl rfl
set_option maxRecDepth 100000 in
theorem r164_209 : zR d 164 Q 209 (some (.ref c) :: l) st h = zR d 164 Q 210 (some (.ref c) :: l) (.ref c :: st) h := q_in rfl rfl
set_option maxRecDepth 100000 in
theorem r164_210 : zR d 164 Q 210 lv st h = zR d 164 Q 211 lv (.int 0 :: st) h := q_in rfl rfl
set_option maxRecDepth 100000 in
theorem r164_211 : zR d 164 Q 211 lv (.int x :: .ref 60 :: st) h = zR d 164 Q 214 lv st (zhr h 60 (upd (h 60) 20 x)) := (q_and rfl rfl).trans (zand_t ⟨rfl, Or.inl rfl⟩)
set_option maxRecDepth 100000 in
theorem r164_214 : zR d 164 Q 214 (some (.ref c) :: l) st h = zR d 164 Q 215 (some (.ref c) :: l) (.ref c :: st) h := q_in rfl rfl
set_option maxRecDepth 100000 in
theorem r164_215 : zR d 164 Q 215 (some (.ref c) :: l) st h = zR d 164 Q 216 (some (.ref c) :: l) (.ref c :: st) h := q_in rfl rfl
set_option maxRecDepth 100000 in
theorem r164_216 : zR d 164 Q 216 lv (.ref 60 :: st) h = zR d 164 Q 219 lv (.int (h 60 18) :: st) h := (q_and rfl rfl).trans (zand_t rfl)
set_option maxRecDepth 100000 in
theorem r164_219 : zR d 164 Q 219 lv [.int x0, .ref 60] h = zM d 163 [.ref 60, .int x0] h (fun r h' => zR d 164 Q 222 lv (r.toList ++ []) h') := (q_clV rfl rfl (Nat.le_of_ble_eq_true rfl)).trans (zand_t ⟨rfl, Nat.le_of_ble_eq_true rfl⟩)
set_option maxRecDepth 100000 in
theorem r164_222 : zR d 164 Q 222 lv (.int x :: st) h = if x = 0 then zR d 164 Q 282 lv st h else zR d 164 Q 225 lv st h := q_if rfl rfl
set_option maxRecDepth 100000 in
theorem r164_225 : zR d 164 Q 225 (some (.ref c) :: l) st h = zR d 164 Q 226 (some (.ref c) :: l) (.ref c :: st) h := q_in rfl rfl
set_option maxRecDepth 100000 in
theorem r164_226 : zR d 164 Q 226 (some (.ref c) :: l) st h = zR d 164 Q 227 (some (.ref c) :: l) (.ref c :: st) h := q_in rfl rfl
set_option maxRecDepth 100000 in
theorem r164_227 : zR d 164 Q 227 lv (.ref 60 :: st) h = zR d 164 Q 230 lv (.int (h 60 18) :: st) h := (q_and rfl rfl).trans (zand_t rfl)
set_option maxRecDepth 100000 in
theorem r164_230 : zR d 164 Q 230 (some (.ref c) :: l) st h = zR d 164 Q 231 (some (.ref c) :: l) (.ref c :: st) h := q_in rfl rfl
set_option maxRecDepth 100000 in
theorem r164_231 : zR d 164 Q 231 lv (.ref 60 :: st) h = zR d 164 Q 234 lv (.int (h 60 17) :: st) h := (q_and rfl rfl).trans (zand_t rfl)
set_option maxRecDepth 100000 in
theorem r164_234 : zR d 164 Q 234 lv (.int z :: .int x :: st) h = zR d 164 Q 235 lv (.int (x - z) :: st) h := q_in rfl rfl
set_option maxRecDepth 100000 in
theorem r164_235 : zR d 164 Q 235 lv st h = zR d 164 Q 236 lv (.int 4 :: st) h := q_in rfl rfl
set_option maxRecDepth 100000 in
theorem r164_236 : zR d 164 Q 236 lv (.int z :: .int x :: st) h = if x < z then zR d 164 Q 239 lv st h else zR d 164 Q 262 lv st h := q_if rfl rfl
set_option maxRecDepth 100000 in
theorem r164_239 : zR d 164 Q 239 lv st h = zR d 164 Q 241 lv (.int 10 :: st) h := q_in rfl rfl
set_option maxRecDepth 100000 in
theorem r164_241 : zR d 164 Q 241 (some (.ref c) :: l) st h = zR d 164 Q 242 (some (.ref c) :: l) (.ref c :: st) h := q_in rfl rfl
set_option maxRecDepth 100000 in
theorem r164_242 : zR d 164 Q 242 lv (.ref 60 :: st) h = zR d 164 Q 245 lv (.int (h 60 20) :: st) h := (q_and rfl rfl).trans (zand_t rfl)
set_option maxRecDepth 100000 in
theorem r164_245 : zR d 164 Q 245 lv (.int z :: .int x :: st) h = zR d 164 Q 246 lv (.int (x * z) :: st) h := q_in rfl rfl
set_option maxRecDepth 100000 in
theorem r164_246 : zR d 164 Q 246 (some (.ref c) :: l) st h = zR d 164 Q 247 (some (.ref c) :: l) (.ref c :: st) h := q_in rfl rfl
set_option maxRecDepth 100000 in
theorem r164_247 : zR d 164 Q 247 lv (.ref 60 :: st) h = zR d 164 Q 250 lv (.ref 74 :: st) h := (q_and rfl rfl).trans (zand_t rfl)
set_option maxRecDepth 100000 in
theorem r164_250 : zR d 164 Q 250 (some (.ref c) :: l) st h = zR d 164 Q 251 (some (.ref c) :: l) (.ref c :: st) h := q_in rfl rfl
set_option maxRecDepth 100000 in
theorem r164_251 : zR d 164 Q 251 lv (.ref 60 :: st) h = zR d 164 Q 254 lv (.int (h 60 18) :: st) h := (q_and rfl rfl).trans (zand_t rfl)
set_option maxRecDepth 100000 in
theorem r164_254 : zR d 164 Q 254 lv (.int x :: .ref c :: st) h = zal c x h (fun w => zR d 164 Q 255 lv (.int w :: st) h) := q_iald rfl
set_option maxRecDepth 100000 in
theorem r164_255 : zR d 164 Q 255 lv (.int z :: .int x :: st) h = zR d 164 Q 256 lv (.int (x + z) :: st) h := q_in rfl rfl
set_option maxRecDepth 100000 in
theorem r164_256 : zR d 164 Q 256 lv st h = zR d 164 Q 258 lv (.int 48 :: st) h := q_in rfl rfl
set_option maxRecDepth 100000 in
theorem r164_258 : zR d 164 Q 258 lv (.int z :: .int x :: st) h = zR d 164 Q 259 lv (.int (x - z) :: st) h := q_in rfl rfl
set_option maxRecDepth 100000 in
theorem r164_259 : zR d 164 Q 259 lv st h = zR d 164 Q 266 lv st h := q_in rfl rfl
set_option maxRecDepth 100000 in
theorem r164_262 : zR d 164 Q 262 (some (.ref c) :: l) st h = zR d 164 Q 263 (some (.ref c) :: l) (.ref c :: st) h := q_in rfl rfl
set_option maxRecDepth 100000 in
theorem r164_263 : zR d 164 Q 263 lv (.ref 60 :: st) h = zR d 164 Q 266 lv (.int (h 60 20) :: st) h := (q_and rfl rfl).trans (zand_t rfl)
set_option maxRecDepth 100000 in
theorem r164_266 : zR d 164 Q 266 lv (.int x :: .ref 60 :: st) h = zR d 164 Q 269 lv st (zhr h 60 (upd (h 60) 20 x)) := (q_and rfl rfl).trans (zand_t ⟨rfl, Or.inl rfl⟩)
set_option maxRecDepth 100000 in
theorem r164_269 : zR d 164 Q 269 (some (.ref c) :: l) st h = zR d 164 Q 270 (some (.ref c) :: l) (.ref c :: st) h := q_in rfl rfl
set_option maxRecDepth 100000 in
theorem r164_270 : zR d 164 Q 270 lv (.ref c :: st) h = zR d 164 Q 271 lv (.ref c :: .ref c :: st) h := q_in rfl rfl
set_option maxRecDepth 100000 in
theorem r164_271 : zR d 164 Q 271 lv (.ref 60 :: st) h = zR d 164 Q 274 lv (.int (h 60 18) :: st) h := (q_and rfl rfl).trans (zand_t rfl)
set_option maxRecDepth 100000 in
theorem r164_274 : zR d 164 Q 274 lv st h = zR d 164 Q 275 lv (.int 1 :: st) h := q_in rfl rfl
set_option maxRecDepth 100000 in
theorem r164_275 : zR d 164 Q 275 lv (.int z :: .int x :: st) h = zR d 164 Q 276 lv (.int (x + z) :: st) h := q_in rfl rfl
set_option maxRecDepth 100000 in
theorem r164_276 : zR d 164 Q 276 lv (.int x :: .ref 60 :: st) h = zR d 164 Q 279 lv st (zhr h 60 (upd (h 60) 18 x)) := (q_and rfl rfl).trans (zand_t ⟨rfl, Or.inl rfl⟩)
set_option maxRecDepth 100000 in
theorem r164_279 : zR d 164 Q 279 lv st h = zR d 164 Q 214 lv st h := q_in rfl rfl
set_option maxRecDepth 100000 in
theorem r164_282 : zR d 164 Q 282 (some (.ref c) :: l) st h = zR d 164 Q 283 (some (.ref c) :: l) (.ref c :: st) h := q_in rfl rfl
set_option maxRecDepth 100000 in
theorem r164_283 : zR d 164 Q 283 (o0 :: some (.int x) :: l) st h = zR d 164 Q 284 (o0 :: some (.int x) :: l) (.int x :: st) h := q_in rfl rfl
set_option maxRecDepth 100000 in
theorem r164_284 : zR d 164 Q 284 lv (.int x :: st) h = if x = 0 then zR d 164 Q 287 lv st h else zR d 164 Q 300 lv st h := q_if rfl rfl
set_option maxRecDepth 100000 in
theorem r164_287 : zR d 164 Q 287 (some (.ref c) :: l) st h = zR d 164 Q 288 (some (.ref c) :: l) (.ref c :: st) h := q_in rfl rfl
set_option maxRecDepth 100000 in
theorem r164_288 : zR d 164 Q 288 lv (.ref 60 :: st) h = zR d 164 Q 291 lv (.int (h 60 18) :: st) h := (q_and rfl rfl).trans (zand_t rfl)
set_option maxRecDepth 100000 in
theorem r164_291 : zR d 164 Q 291 (some (.ref c) :: l) st h = zR d 164 Q 292 (some (.ref c) :: l) (.ref c :: st) h := q_in rfl rfl
set_option maxRecDepth 100000 in
theorem r164_292 : zR d 164 Q 292 lv (.ref 60 :: st) h = zR d 164 Q 295 lv (.int (h 60 17) :: st) h := (q_and rfl rfl).trans (zand_t rfl)
set_option maxRecDepth 100000 in
theorem r164_295 : zR d 164 Q 295 lv (.int z :: .int x :: st) h = zR d 164 Q 296 lv (.int (x - z) :: st) h := q_in rfl rfl
set_option maxRecDepth 100000 in
theorem r164_296 : zR d 164 Q 296 lv st h = zR d 164 Q 297 lv (.int 4 :: st) h := q_in rfl rfl
set_option maxRecDepth 100000 in
theorem r164_297 : zR d 164 Q 297 lv (.int z :: .int x :: st) h = if x ≤ z then zR d 164 Q 304 lv st h else zR d 164 Q 300 lv st h := q_if rfl rfl
set_option maxRecDepth 100000 in
theorem r164_300 : zR d 164 Q 300 lv st h = zR d 164 Q 301 lv (.int 4 :: st) h := q_in rfl rfl
set_option maxRecDepth 100000 in
theorem r164_301 : zR d 164 Q 301 lv st h = zR d 164 Q 305 lv st h := q_in rfl rfl
set_option maxRecDepth 100000 in
theorem r164_304 : zR d 164 Q 304 lv st h = zR d 164 Q 305 lv (.int 2 :: st) h := q_in rfl rfl
set_option maxRecDepth 100000 in
theorem r164_305 : zR d 164 Q 305 lv (.int x :: .ref 60 :: st) h = zR d 164 Q 308 lv st (zhr h 60 (upd (h 60) 19 x)) := (q_and rfl rfl).trans (zand_t ⟨rfl, Or.inl rfl⟩)
set_option maxRecDepth 100000 in
theorem r164_308 : zR d 164 Q 308 lv st h = zR d 164 Q 339 lv st h := q_in rfl rfl
set_option maxRecDepth 100000 in
theorem r164_311 : zR d 164 Q 311 (some (.ref c) :: l) st h = zR d 164 Q 312 (some (.ref c) :: l) (.ref c :: st) h := q_in rfl rfl
set_option maxRecDepth 100000 in
theorem r164_312 : zR d 164 Q 312 lv st h = zR d 164 Q 313 lv (.int 3 :: st) h := q_in rfl rfl
set_option maxRecDepth 100000 in
theorem r164_313 : zR d 164 Q 313 lv (.int x :: .ref 60 :: st) h = zR d 164 Q 316 lv st (zhr h 60 (upd (h 60) 19 x)) := (q_and rfl rfl).trans (zand_t ⟨rfl, Or.inl rfl⟩)
set_option maxRecDepth 100000 in
theorem r164_316 : zR d 164 Q 316 (some (.ref c) :: l) st h = zR d 164 Q 317 (some (.ref c) :: l) (.ref c :: st) h := q_in rfl rfl
set_option maxRecDepth 100000 in
theorem r164_317 : zR d 164 Q 317 (some (.ref c) :: l) st h = zR d 164 Q 318 (some (.ref c) :: l) (.ref c :: st) h := q_in rfl rfl
set_option maxRecDepth 100000 in
theorem r164_318 : zR d 164 Q 318 lv (.ref 60 :: st) h = zR d 164 Q 321 lv (.ref 74 :: st) h := (q_and rfl rfl).trans (zand_t rfl)
set_option maxRecDepth 100000 in
theorem r164_321 : zR d 164 Q 321 (some (.ref c) :: l) st h = zR d 164 Q 322 (some (.ref c) :: l) (.ref c :: st) h := q_in rfl rfl
set_option maxRecDepth 100000 in
theorem r164_322 : zR d 164 Q 322 lv (.ref 60 :: st) h = zR d 164 Q 325 lv (.int (h 60 17) :: st) h := (q_and rfl rfl).trans (zand_t rfl)
set_option maxRecDepth 100000 in
theorem r164_325 : zR d 164 Q 325 lv (.int x :: .ref c :: st) h = zal c x h (fun w => zR d 164 Q 326 lv (.int w :: st) h) := q_iald rfl
set_option maxRecDepth 100000 in
theorem r164_326 : zR d 164 Q 326 lv (.int x :: .ref 60 :: st) h = zR d 164 Q 329 lv st (zhr h 60 (upd (h 60) 21 x)) := (q_and rfl rfl).trans (zand_t ⟨rfl, Or.inl rfl⟩)
set_option maxRecDepth 100000 in
theorem r164_329 : zR d 164 Q 329 (some (.ref c) :: l) st h = zR d 164 Q 330 (some (.ref c) :: l) (.ref c :: st) h := q_in rfl rfl
set_option maxRecDepth 100000 in
theorem r164_330 : zR d 164 Q 330 lv (.ref c :: st) h = zR d 164 Q 331 lv (.ref c :: .ref c :: st) h := q_in rfl rfl
set_option maxRecDepth 100000 in
theorem r164_331 : zR d 164 Q 331 lv (.ref 60 :: st) h = zR d 164 Q 334 lv (.int (h 60 18) :: st) h := (q_and rfl rfl).trans (zand_t rfl)
set_option maxRecDepth 100000 in
theorem r164_334 : zR d 164 Q 334 lv st h = zR d 164 Q 335 lv (.int 1 :: st) h := q_in rfl rfl
set_option maxRecDepth 100000 in
theorem r164_335 : zR d 164 Q 335 lv (.int z :: .int x :: st) h = zR d 164 Q 336 lv (.int (x + z) :: st) h := q_in rfl rfl
set_option maxRecDepth 100000 in
theorem r164_336 : zR d 164 Q 336 lv (.int x :: .ref 60 :: st) h = zR d 164 Q 339 lv st (zhr h 60 (upd (h 60) 18 x)) := (q_and rfl rfl).trans (zand_t ⟨rfl, Or.inl rfl⟩)
set_option maxRecDepth 100000 in
theorem r164_339 : zR d 164 Q 339 lv [] h = Q none h := q_ret rfl rfl
theorem r165_0 : zR d 165 Q 0 (some (.ref c) :: l) st h = zR d 165 Q 1 (some (.ref c) :: l) (.ref c :: st) h := q_in rfl rfl
theorem r165_1 : zR d 165 Q 1 lv (.ref 60 :: st) h = zR d 165 Q 4 lv (.int (h 60 19) :: st) h := (q_and rfl rfl).trans (zand_t rfl)
theorem r165_4 : zR d 165 Q 4 lv st h = zR d 165 Q 5 lv (.int 3 :: st) h := q_in rfl rfl
theorem r165_5 : zR d 165 Q 5 lv (.int z :: .int x :: st) h = if x = z then zR d 165 Q 8 lv st h else zR d 165 Q 20 lv st h := q_if rfl rfl
theorem r165_8 : zR d 165 Q 8 (some (.ref c) :: l) st h = zR d 165 Q 9 (some (.ref c) :: l) (.ref c :: st) h := q_in rfl rfl
theorem r165_9 : zR d 165 Q 9 lv (.ref 60 :: st) h = zR d 165 Q 12 lv (.int (h 60 21) :: st) h := (q_and rfl rfl).trans (zand_t rfl)
theorem r165_12 : zR d 165 Q 12 (o0 :: some (.int x) :: l) st h = zR d 165 Q 13 (o0 :: some (.int x) :: l) (.int x :: st) h := q_in rfl rfl
theorem r165_13 : zR d 165 Q 13 lv (.int z :: .int x :: st) h = if x = z then zR d 165 Q 16 lv st h else zR d 165 Q 20 lv st h := q_if rfl rfl
theorem r165_16 : zR d 165 Q 16 lv st h = zR d 165 Q 17 lv (.int 1 :: st) h := q_in rfl rfl
theorem r165_17 : zR d 165 Q 17 lv st h = zR d 165 Q 21 lv st h := q_in rfl rfl
theorem r165_20 : zR d 165 Q 20 lv st h = zR d 165 Q 21 lv (.int 0 :: st) h := q_in rfl rfl
theorem r165_21f : zR d 165 Q 21 lv [.int 0] h = Q (some (.int 0)) h := q_retz rfl rfl (Or.inr (Or.inl rfl))
theorem r165_21t : zR d 165 Q 21 lv [.int 1] h = Q (some (.int 1)) h := q_retz rfl rfl (Or.inr (Or.inr rfl))
theorem r166_0 : zR d 166 Q 0 (o0 :: o1 :: o2 :: o3 :: some (.int x) :: l) st h = zR d 166 Q 2 (o0 :: o1 :: o2 :: o3 :: some (.int x) :: l) (.int x :: st) h := q_in rfl rfl
theorem r166_2 : zR d 166 Q 2 lv (.int x :: st) h = if x = 0 then zR d 166 Q 5 lv st h else zR d 166 Q 9 lv st h := q_if rfl rfl
theorem r166_5 : zR d 166 Q 5 lv st h = zR d 166 Q 6 lv (.int 3 :: st) h := q_in rfl rfl
theorem r166_6 : zR d 166 Q 6 lv st h = zR d 166 Q 10 lv st h := q_in rfl rfl
theorem r166_9 : zR d 166 Q 9 lv st h = zR d 166 Q 10 lv (.int 4 :: st) h := q_in rfl rfl
theorem r166_10 : zR d 166 Q 10 (o0 :: o1 :: o2 :: o3 :: o4 :: o5 :: l) (.int x :: st) h = zR d 166 Q 12 (o0 :: o1 :: o2 :: o3 :: o4 :: some (.int x) :: l) st h := q_in rfl rfl
theorem r166_12 : zR d 166 Q 12 (some (.ref c) :: l) st h = zR d 166 Q 13 (some (.ref c) :: l) (.ref c :: st) h := q_in rfl rfl
theorem r166_13 : zR d 166 Q 13 lv (.ref 60 :: st) h = zR d 166 Q 16 lv (.int (h 60 19) :: st) h := (q_and rfl rfl).trans (zand_t rfl)
theorem r166_16 : zR d 166 Q 16 lv st h = zR d 166 Q 17 lv (.int 1 :: st) h := q_in rfl rfl
theorem r166_17 : zR d 166 Q 17 lv (.int z :: .int x :: st) h = if x = z then zR d 166 Q 20 lv st h else zR d 166 Q 102 lv st h := q_if rfl rfl
theorem r166_20 : zR d 166 Q 20 (some (.ref c) :: l) st h = zR d 166 Q 21 (some (.ref c) :: l) (.ref c :: st) h := q_in rfl rfl
theorem r166_21 : zR d 166 Q 21 lv (.ref 60 :: st) h = zR d 166 Q 24 lv (.int (h 60 18) :: st) h := (q_and rfl rfl).trans (zand_t rfl)
theorem r166_24 : zR d 166 Q 24 (some (.ref c) :: l) st h = zR d 166 Q 25 (some (.ref c) :: l) (.ref c :: st) h := q_in rfl rfl
theorem r166_25 : zR d 166 Q 25 lv (.ref 60 :: st) h = zR d 166 Q 28 lv (.int (h 60 17) :: st) h := (q_and rfl rfl).trans (zand_t rfl)
theorem r166_28 : zR d 166 Q 28 lv (.int z :: .int x :: st) h = zR d 166 Q 29 lv (.int (x - z) :: st) h := q_in rfl rfl
theorem r166_29 : zR d 166 Q 29 (o0 :: o1 :: o2 :: o3 :: o4 :: some (.int x) :: l) st h = zR d 166 Q 31 (o0 :: o1 :: o2 :: o3 :: o4 :: some (.int x) :: l) (.int x :: st) h := q_in rfl rfl
theorem r166_31 : zR d 166 Q 31 lv (.int z :: .int x :: st) h = if x = z then zR d 166 Q 34 lv st h else zR d 166 Q 102 lv st h := q_if rfl rfl
theorem r166_34 : zR d 166 Q 34 (some (.ref c) :: l) st h = zR d 166 Q 35 (some (.ref c) :: l) (.ref c :: st) h := q_in rfl rfl
theorem r166_35 : zR d 166 Q 35 lv (.ref 60 :: st) h = zR d 166 Q 38 lv (.ref 74 :: st) h := (q_and rfl rfl).trans (zand_t rfl)
theorem r166_38 : zR d 166 Q 38 (some (.ref c) :: l) st h = zR d 166 Q 39 (some (.ref c) :: l) (.ref c :: st) h := q_in rfl rfl
theorem r166_39 : zR d 166 Q 39 lv (.ref 60 :: st) h = zR d 166 Q 42 lv (.int (h 60 17) :: st) h := (q_and rfl rfl).trans (zand_t rfl)
theorem r166_42 : zR d 166 Q 42 lv (.int x :: .ref c :: st) h = zal c x h (fun w => zR d 166 Q 43 lv (.int w :: st) h) := q_iald rfl
theorem r166_43 : zR d 166 Q 43 (o0 :: some (.int x) :: l) st h = zR d 166 Q 44 (o0 :: some (.int x) :: l) (.int x :: st) h := q_in rfl rfl
theorem r166_44 : zR d 166 Q 44 lv (.int z :: .int x :: st) h = if x = z then zR d 166 Q 47 lv st h else zR d 166 Q 102 lv st h := q_if rfl rfl
theorem r166_47 : zR d 166 Q 47 (some (.ref c) :: l) st h = zR d 166 Q 48 (some (.ref c) :: l) (.ref c :: st) h := q_in rfl rfl
theorem r166_48 : zR d 166 Q 48 lv (.ref 60 :: st) h = zR d 166 Q 51 lv (.ref 74 :: st) h := (q_and rfl rfl).trans (zand_t rfl)
theorem r166_51 : zR d 166 Q 51 (some (.ref c) :: l) st h = zR d 166 Q 52 (some (.ref c) :: l) (.ref c :: st) h := q_in rfl rfl
theorem r166_52 : zR d 166 Q 52 lv (.ref 60 :: st) h = zR d 166 Q 55 lv (.int (h 60 17) :: st) h := (q_and rfl rfl).trans (zand_t rfl)
theorem r166_55 : zR d 166 Q 55 lv st h = zR d 166 Q 56 lv (.int 1 :: st) h := q_in rfl rfl
theorem r166_56 : zR d 166 Q 56 lv (.int z :: .int x :: st) h = zR d 166 Q 57 lv (.int (x + z) :: st) h := q_in rfl rfl
theorem r166_57 : zR d 166 Q 57 lv (.int x :: .ref c :: st) h = zal c x h (fun w => zR d 166 Q 58 lv (.int w :: st) h) := q_iald rfl
theorem r166_58 : zR d 166 Q 58 (o0 :: o1 :: some (.int x) :: l) st h = zR d 166 Q 59 (o0 :: o1 :: some (.int x) :: l) (.int x :: st) h := q_in rfl rfl
theorem r166_59 : zR d 166 Q 59 lv (.int z :: .int x :: st) h = if x = z then zR d 166 Q 62 lv st h else zR d 166 Q 102 lv st h := q_if rfl rfl
theorem r166_62 : zR d 166 Q 62 (some (.ref c) :: l) st h = zR d 166 Q 63 (some (.ref c) :: l) (.ref c :: st) h := q_in rfl rfl
theorem r166_63 : zR d 166 Q 63 lv (.ref 60 :: st) h = zR d 166 Q 66 lv (.ref 74 :: st) h := (q_and rfl rfl).trans (zand_t rfl)
theorem r166_66 : zR d 166 Q 66 (some (.ref c) :: l) st h = zR d 166 Q 67 (some (.ref c) :: l) (.ref c :: st) h := q_in rfl rfl
theorem r166_67 : zR d 166 Q 67 lv (.ref 60 :: st) h = zR d 166 Q 70 lv (.int (h 60 17) :: st) h := (q_and rfl rfl).trans (zand_t rfl)
theorem r166_70 : zR d 166 Q 70 lv st h = zR d 166 Q 71 lv (.int 2 :: st) h := q_in rfl rfl
theorem r166_71 : zR d 166 Q 71 lv (.int z :: .int x :: st) h = zR d 166 Q 72 lv (.int (x + z) :: st) h := q_in rfl rfl
theorem r166_72 : zR d 166 Q 72 lv (.int x :: .ref c :: st) h = zal c x h (fun w => zR d 166 Q 73 lv (.int w :: st) h) := q_iald rfl
theorem r166_73 : zR d 166 Q 73 (o0 :: o1 :: o2 :: some (.int x) :: l) st h = zR d 166 Q 74 (o0 :: o1 :: o2 :: some (.int x) :: l) (.int x :: st) h := q_in rfl rfl
theorem r166_74 : zR d 166 Q 74 lv (.int z :: .int x :: st) h = if x = z then zR d 166 Q 77 lv st h else zR d 166 Q 102 lv st h := q_if rfl rfl
theorem r166_77 : zR d 166 Q 77 (o0 :: o1 :: o2 :: o3 :: some (.int x) :: l) st h = zR d 166 Q 79 (o0 :: o1 :: o2 :: o3 :: some (.int x) :: l) (.int x :: st) h := q_in rfl rfl
theorem r166_79 : zR d 166 Q 79 lv (.int x :: st) h = if x = 0 then zR d 166 Q 98 lv st h else zR d 166 Q 82 lv st h := q_if rfl rfl
theorem r166_82 : zR d 166 Q 82 (some (.ref c) :: l) st h = zR d 166 Q 83 (some (.ref c) :: l) (.ref c :: st) h := q_in rfl rfl
theorem r166_83 : zR d 166 Q 83 lv (.ref 60 :: st) h = zR d 166 Q 86 lv (.ref 74 :: st) h := (q_and rfl rfl).trans (zand_t rfl)
theorem r166_86 : zR d 166 Q 86 (some (.ref c) :: l) st h = zR d 166 Q 87 (some (.ref c) :: l) (.ref c :: st) h := q_in rfl rfl
theorem r166_87 : zR d 166 Q 87 lv (.ref 60 :: st) h = zR d 166 Q 90 lv (.int (h 60 17) :: st) h := (q_and rfl rfl).trans (zand_t rfl)
theorem r166_90 : zR d 166 Q 90 lv st h = zR d 166 Q 91 lv (.int 3 :: st) h := q_in rfl rfl
theorem r166_91 : zR d 166 Q 91 lv (.int z :: .int x :: st) h = zR d 166 Q 92 lv (.int (x + z) :: st) h := q_in rfl rfl
theorem r166_92 : zR d 166 Q 92 lv (.int x :: .ref c :: st) h = zal c x h (fun w => zR d 166 Q 93 lv (.int w :: st) h) := q_iald rfl
theorem r166_93 : zR d 166 Q 93 (o0 :: o1 :: o2 :: o3 :: some (.int x) :: l) st h = zR d 166 Q 95 (o0 :: o1 :: o2 :: o3 :: some (.int x) :: l) (.int x :: st) h := q_in rfl rfl
theorem r166_95 : zR d 166 Q 95 lv (.int z :: .int x :: st) h = if x = z then zR d 166 Q 98 lv st h else zR d 166 Q 102 lv st h := q_if rfl rfl
theorem r166_98 : zR d 166 Q 98 lv st h = zR d 166 Q 99 lv (.int 1 :: st) h := q_in rfl rfl
theorem r166_99 : zR d 166 Q 99 lv st h = zR d 166 Q 103 lv st h := q_in rfl rfl
theorem r166_102 : zR d 166 Q 102 lv st h = zR d 166 Q 103 lv (.int 0 :: st) h := q_in rfl rfl
theorem r166_103f : zR d 166 Q 103 lv [.int 0] h = Q (some (.int 0)) h := q_retz rfl rfl (Or.inr (Or.inl rfl))
theorem r166_103t : zR d 166 Q 103 lv [.int 1] h = Q (some (.int 1)) h := q_retz rfl rfl (Or.inr (Or.inr rfl))
theorem r167_0 : zR d 167 Q 0 (some (.ref c) :: l) st h = zR d 167 Q 1 (some (.ref c) :: l) (.ref c :: st) h := q_in rfl rfl
theorem r167_1 : zR d 167 Q 1 lv st h = zR d 167 Q 3 lv (.int 116 :: st) h := q_in rfl rfl
theorem r167_3 : zR d 167 Q 3 lv st h = zR d 167 Q 5 lv (.int 111 :: st) h := q_in rfl rfl
theorem r167_5 : zR d 167 Q 5 lv st h = zR d 167 Q 7 lv (.int 108 :: st) h := q_in rfl rfl
theorem r167_7 : zR d 167 Q 7 lv st h = zR d 167 Q 9 lv (.int 108 :: st) h := q_in rfl rfl
theorem r167_9 : zR d 167 Q 9 lv [.int x3, .int x2, .int x1, .int x0, .ref 60] h = zM d 166 [.ref 60, .int x0, .int x1, .int x2, .int x3] h (fun r h' => zR d 167 Q 12 lv (r.toList ++ []) h') := (q_clV rfl rfl (Nat.le_of_ble_eq_true rfl)).trans (zand_t ⟨rfl, Nat.le_of_ble_eq_true rfl⟩)
theorem r167_12 : zR d 167 Q 12 lv (.int x :: st) h = if x = 0 then zR d 167 Q 17 lv st h else zR d 167 Q 15 lv st h := q_if rfl rfl
theorem r167_15 : zR d 167 Q 15 lv st h = zR d 167 Q 16 lv (.int 0 :: st) h := q_in rfl rfl
theorem r167_16 : zR d 167 Q 16 lv [.int x] h = Q (some (.int x)) h := q_retz rfl rfl (Or.inl rfl)
theorem r167_17 : zR d 167 Q 17 (some (.ref c) :: l) st h = zR d 167 Q 18 (some (.ref c) :: l) (.ref c :: st) h := q_in rfl rfl
theorem r167_18 : zR d 167 Q 18 lv st h = zR d 167 Q 20 lv (.int 112 :: st) h := q_in rfl rfl
theorem r167_20 : zR d 167 Q 20 lv st h = zR d 167 Q 22 lv (.int 117 :: st) h := q_in rfl rfl
theorem r167_22 : zR d 167 Q 22 lv st h = zR d 167 Q 24 lv (.int 108 :: st) h := q_in rfl rfl
theorem r167_24 : zR d 167 Q 24 lv st h = zR d 167 Q 26 lv (.int 108 :: st) h := q_in rfl rfl
theorem r167_26 : zR d 167 Q 26 lv [.int x3, .int x2, .int x1, .int x0, .ref 60] h = zM d 166 [.ref 60, .int x0, .int x1, .int x2, .int x3] h (fun r h' => zR d 167 Q 29 lv (r.toList ++ []) h') := (q_clV rfl rfl (Nat.le_of_ble_eq_true rfl)).trans (zand_t ⟨rfl, Nat.le_of_ble_eq_true rfl⟩)
theorem r167_29 : zR d 167 Q 29 lv (.int x :: st) h = if x = 0 then zR d 167 Q 34 lv st h else zR d 167 Q 32 lv st h := q_if rfl rfl
theorem r167_32 : zR d 167 Q 32 lv st h = zR d 167 Q 33 lv (.int 1 :: st) h := q_in rfl rfl
theorem r167_33 : zR d 167 Q 33 lv [.int x] h = Q (some (.int x)) h := q_retz rfl rfl (Or.inl rfl)
theorem r167_34 : zR d 167 Q 34 (some (.ref c) :: l) st h = zR d 167 Q 35 (some (.ref c) :: l) (.ref c :: st) h := q_in rfl rfl
theorem r167_35 : zR d 167 Q 35 lv st h = zR d 167 Q 37 lv (.int 102 :: st) h := q_in rfl rfl
theorem r167_37 : zR d 167 Q 37 lv st h = zR d 167 Q 39 lv (.int 105 :: st) h := q_in rfl rfl
theorem r167_39 : zR d 167 Q 39 lv st h = zR d 167 Q 41 lv (.int 110 :: st) h := q_in rfl rfl
theorem r167_41 : zR d 167 Q 41 lv st h = zR d 167 Q 43 lv (.int 101 :: st) h := q_in rfl rfl
theorem r167_43 : zR d 167 Q 43 lv [.int x3, .int x2, .int x1, .int x0, .ref 60] h = zM d 166 [.ref 60, .int x0, .int x1, .int x2, .int x3] h (fun r h' => zR d 167 Q 46 lv (r.toList ++ []) h') := (q_clV rfl rfl (Nat.le_of_ble_eq_true rfl)).trans (zand_t ⟨rfl, Nat.le_of_ble_eq_true rfl⟩)
theorem r167_46 : zR d 167 Q 46 lv (.int x :: st) h = if x = 0 then zR d 167 Q 53 lv st h else zR d 167 Q 49 lv st h := q_if rfl rfl
theorem r167_49 : zR d 167 Q 49 lv st h = zR d 167 Q 50 lv (.int 2 :: st) h := q_in rfl rfl
theorem r167_50 : zR d 167 Q 50 lv st h = zR d 167 Q 54 lv st h := q_in rfl rfl
theorem r167_53 : zR d 167 Q 53 lv st h = zR d 167 Q 54 lv (.int (-1) :: st) h := q_in rfl rfl
theorem r167_54 : zR d 167 Q 54 lv [.int x] h = Q (some (.int x)) h := q_retz rfl rfl (Or.inl rfl)
theorem r168_0 : zR d 168 Q 0 (some (.int x) :: l) st h = zR d 168 Q 1 (some (.int x) :: l) (.int x :: st) h := q_in rfl rfl
theorem r168_1 : zR d 168 Q 1 lv (.int x :: st) h = if x = 0 then zR d 168 Q 28 lv st h else if x = 1 then zR d 168 Q 52 lv st h else zR d 168 Q 76 lv st h := (q_in rfl rfl).trans (by simp only [zsw, zR_ite])
theorem r168_28 : zR d 168 Q 28 (o0 :: some (.int x) :: l) st h = zR d 168 Q 29 (o0 :: some (.int x) :: l) (.int x :: st) h := q_in rfl rfl
theorem r168_29 : zR d 168 Q 29 lv st h = zR d 168 Q 31 lv (.int 119 :: st) h := q_in rfl rfl
theorem r168_31 : zR d 168 Q 31 lv (.int z :: .int x :: st) h = if x = z then zR d 168 Q 46 lv st h else zR d 168 Q 34 lv st h := q_if rfl rfl
theorem r168_34 : zR d 168 Q 34 (o0 :: some (.int x) :: l) st h = zR d 168 Q 35 (o0 :: some (.int x) :: l) (.int x :: st) h := q_in rfl rfl
theorem r168_35 : zR d 168 Q 35 lv st h = zR d 168 Q 37 lv (.int 115 :: st) h := q_in rfl rfl
theorem r168_37 : zR d 168 Q 37 lv (.int z :: .int x :: st) h = if x = z then zR d 168 Q 46 lv st h else zR d 168 Q 40 lv st h := q_if rfl rfl
theorem r168_40 : zR d 168 Q 40 (o0 :: some (.int x) :: l) st h = zR d 168 Q 41 (o0 :: some (.int x) :: l) (.int x :: st) h := q_in rfl rfl
theorem r168_41 : zR d 168 Q 41 lv st h = zR d 168 Q 43 lv (.int 118 :: st) h := q_in rfl rfl
theorem r168_43 : zR d 168 Q 43 lv (.int z :: .int x :: st) h = if x = z then zR d 168 Q 46 lv st h else zR d 168 Q 50 lv st h := q_if rfl rfl
theorem r168_46 : zR d 168 Q 46 lv st h = zR d 168 Q 47 lv (.int 1 :: st) h := q_in rfl rfl
theorem r168_47 : zR d 168 Q 47 lv st h = zR d 168 Q 51 lv st h := q_in rfl rfl
theorem r168_50 : zR d 168 Q 50 lv st h = zR d 168 Q 51 lv (.int 0 :: st) h := q_in rfl rfl
theorem r168_51f : zR d 168 Q 51 lv [.int 0] h = Q (some (.int 0)) h := q_retz rfl rfl (Or.inr (Or.inl rfl))
theorem r168_51t : zR d 168 Q 51 lv [.int 1] h = Q (some (.int 1)) h := q_retz rfl rfl (Or.inr (Or.inr rfl))
theorem r168_52 : zR d 168 Q 52 (o0 :: some (.int x) :: l) st h = zR d 168 Q 53 (o0 :: some (.int x) :: l) (.int x :: st) h := q_in rfl rfl
theorem r168_53 : zR d 168 Q 53 lv st h = zR d 168 Q 55 lv (.int 115 :: st) h := q_in rfl rfl
theorem r168_55 : zR d 168 Q 55 lv (.int z :: .int x :: st) h = if x = z then zR d 168 Q 70 lv st h else zR d 168 Q 58 lv st h := q_if rfl rfl
theorem r168_58 : zR d 168 Q 58 (o0 :: some (.int x) :: l) st h = zR d 168 Q 59 (o0 :: some (.int x) :: l) (.int x :: st) h := q_in rfl rfl
theorem r168_59 : zR d 168 Q 59 lv st h = zR d 168 Q 61 lv (.int 119 :: st) h := q_in rfl rfl
theorem r168_61 : zR d 168 Q 61 lv (.int z :: .int x :: st) h = if x = z then zR d 168 Q 70 lv st h else zR d 168 Q 64 lv st h := q_if rfl rfl
theorem r168_64 : zR d 168 Q 64 (o0 :: some (.int x) :: l) st h = zR d 168 Q 65 (o0 :: some (.int x) :: l) (.int x :: st) h := q_in rfl rfl
theorem r168_65 : zR d 168 Q 65 lv st h = zR d 168 Q 67 lv (.int 97 :: st) h := q_in rfl rfl
theorem r168_67 : zR d 168 Q 67 lv (.int z :: .int x :: st) h = if x = z then zR d 168 Q 70 lv st h else zR d 168 Q 74 lv st h := q_if rfl rfl
theorem r168_70 : zR d 168 Q 70 lv st h = zR d 168 Q 71 lv (.int 1 :: st) h := q_in rfl rfl
theorem r168_71 : zR d 168 Q 71 lv st h = zR d 168 Q 75 lv st h := q_in rfl rfl
theorem r168_74 : zR d 168 Q 74 lv st h = zR d 168 Q 75 lv (.int 0 :: st) h := q_in rfl rfl
theorem r168_75f : zR d 168 Q 75 lv [.int 0] h = Q (some (.int 0)) h := q_retz rfl rfl (Or.inr (Or.inl rfl))
theorem r168_75t : zR d 168 Q 75 lv [.int 1] h = Q (some (.int 1)) h := q_retz rfl rfl (Or.inr (Or.inr rfl))
theorem r168_76 : zR d 168 Q 76 (o0 :: some (.int x) :: l) st h = zR d 168 Q 77 (o0 :: some (.int x) :: l) (.int x :: st) h := q_in rfl rfl
theorem r168_77 : zR d 168 Q 77 lv st h = zR d 168 Q 79 lv (.int 116 :: st) h := q_in rfl rfl
theorem r168_79 : zR d 168 Q 79 lv (.int z :: .int x :: st) h = if x = z then zR d 168 Q 88 lv st h else zR d 168 Q 82 lv st h := q_if rfl rfl
theorem r168_82 : zR d 168 Q 82 (o0 :: some (.int x) :: l) st h = zR d 168 Q 83 (o0 :: some (.int x) :: l) (.int x :: st) h := q_in rfl rfl
theorem r168_83 : zR d 168 Q 83 lv st h = zR d 168 Q 85 lv (.int 112 :: st) h := q_in rfl rfl
theorem r168_85 : zR d 168 Q 85 lv (.int z :: .int x :: st) h = if x = z then zR d 168 Q 88 lv st h else zR d 168 Q 92 lv st h := q_if rfl rfl
theorem r168_88 : zR d 168 Q 88 lv st h = zR d 168 Q 89 lv (.int 1 :: st) h := q_in rfl rfl
theorem r168_89 : zR d 168 Q 89 lv st h = zR d 168 Q 93 lv st h := q_in rfl rfl
theorem r168_92 : zR d 168 Q 92 lv st h = zR d 168 Q 93 lv (.int 0 :: st) h := q_in rfl rfl
theorem r168_93f : zR d 168 Q 93 lv [.int 0] h = Q (some (.int 0)) h := q_retz rfl rfl (Or.inr (Or.inl rfl))
theorem r168_93t : zR d 168 Q 93 lv [.int 1] h = Q (some (.int 1)) h := q_retz rfl rfl (Or.inr (Or.inr rfl))
theorem r169_0 : zR d 169 Q 0 (some (.ref c) :: l) st h = zR d 169 Q 1 (some (.ref c) :: l) (.ref c :: st) h := q_in rfl rfl
theorem r169_1 : zR d 169 Q 1 lv (.ref 60 :: st) h = zR d 169 Q 4 lv (.ref 61 :: st) h := (q_and rfl rfl).trans (zand_t rfl)
theorem r169_4 : zR d 169 Q 4 (some (.ref c) :: l) st h = zR d 169 Q 5 (some (.ref c) :: l) (.ref c :: st) h := q_in rfl rfl
theorem r169_5 : zR d 169 Q 5 lv (.ref 60 :: st) h = zR d 169 Q 8 lv (.int (h 60 25) :: st) h := (q_and rfl rfl).trans (zand_t rfl)
theorem r169_8 : zR d 169 Q 8 lv st h = zR d 169 Q 9 lv (.int 2 :: st) h := q_in rfl rfl
theorem r169_9 : zR d 169 Q 9 (some (.ref c) :: l) st h = zR d 169 Q 10 (some (.ref c) :: l) (.ref c :: st) h := q_in rfl rfl
theorem r169_10 : zR d 169 Q 10 lv (.ref 60 :: st) h = zR d 169 Q 13 lv (.int (h 60 24) :: st) h := (q_and rfl rfl).trans (zand_t rfl)
theorem r169_13 : zR d 169 Q 13 lv (.int z :: .int x :: st) h = zR d 169 Q 14 lv (.int (x * z) :: st) h := q_in rfl rfl
theorem r169_14 : zR d 169 Q 14 lv (.int z :: .int x :: st) h = zR d 169 Q 15 lv (.int (x + z) :: st) h := q_in rfl rfl
theorem r169_15 : zR d 169 Q 15 (o0 :: some (.int x) :: l) st h = zR d 169 Q 16 (o0 :: some (.int x) :: l) (.int x :: st) h := q_in rfl rfl
theorem r169_16 : zR d 169 Q 16 lv (.int z :: .int x :: .ref c :: st) h = zas c x z h (fun h' => zR d 169 Q 17 lv st h') := q_iast rfl
theorem r169_17 : zR d 169 Q 17 (some (.ref c) :: l) st h = zR d 169 Q 18 (some (.ref c) :: l) (.ref c :: st) h := q_in rfl rfl
theorem r169_18 : zR d 169 Q 18 lv (.ref 60 :: st) h = zR d 169 Q 21 lv (.ref 61 :: st) h := (q_and rfl rfl).trans (zand_t rfl)
theorem r169_21 : zR d 169 Q 21 (some (.ref c) :: l) st h = zR d 169 Q 22 (some (.ref c) :: l) (.ref c :: st) h := q_in rfl rfl
theorem r169_22 : zR d 169 Q 22 lv (.ref 60 :: st) h = zR d 169 Q 25 lv (.int (h 60 25) :: st) h := (q_and rfl rfl).trans (zand_t rfl)
theorem r169_25 : zR d 169 Q 25 lv st h = zR d 169 Q 26 lv (.int 2 :: st) h := q_in rfl rfl
theorem r169_26 : zR d 169 Q 26 (some (.ref c) :: l) st h = zR d 169 Q 27 (some (.ref c) :: l) (.ref c :: st) h := q_in rfl rfl
theorem r169_27 : zR d 169 Q 27 lv (.ref 60 :: st) h = zR d 169 Q 30 lv (.int (h 60 24) :: st) h := (q_and rfl rfl).trans (zand_t rfl)
theorem r169_30 : zR d 169 Q 30 lv (.int z :: .int x :: st) h = zR d 169 Q 31 lv (.int (x * z) :: st) h := q_in rfl rfl
theorem r169_31 : zR d 169 Q 31 lv (.int z :: .int x :: st) h = zR d 169 Q 32 lv (.int (x + z) :: st) h := q_in rfl rfl
theorem r169_32 : zR d 169 Q 32 lv st h = zR d 169 Q 33 lv (.int 1 :: st) h := q_in rfl rfl
theorem r169_33 : zR d 169 Q 33 lv (.int z :: .int x :: st) h = zR d 169 Q 34 lv (.int (x + z) :: st) h := q_in rfl rfl
theorem r169_34 : zR d 169 Q 34 (o0 :: o1 :: some (.int x) :: l) st h = zR d 169 Q 35 (o0 :: o1 :: some (.int x) :: l) (.int x :: st) h := q_in rfl rfl
theorem r169_35 : zR d 169 Q 35 lv (.int z :: .int x :: .ref c :: st) h = zas c x z h (fun h' => zR d 169 Q 36 lv st h') := q_iast rfl
theorem r169_36 : zR d 169 Q 36 (some (.ref c) :: l) st h = zR d 169 Q 37 (some (.ref c) :: l) (.ref c :: st) h := q_in rfl rfl
theorem r169_37 : zR d 169 Q 37 lv (.ref c :: st) h = zR d 169 Q 38 lv (.ref c :: .ref c :: st) h := q_in rfl rfl
theorem r169_38 : zR d 169 Q 38 lv (.ref 60 :: st) h = zR d 169 Q 41 lv (.int (h 60 24) :: st) h := (q_and rfl rfl).trans (zand_t rfl)
theorem r169_41 : zR d 169 Q 41 lv st h = zR d 169 Q 42 lv (.int 1 :: st) h := q_in rfl rfl
theorem r169_42 : zR d 169 Q 42 lv (.int z :: .int x :: st) h = zR d 169 Q 43 lv (.int (x + z) :: st) h := q_in rfl rfl
theorem r169_43 : zR d 169 Q 43 lv (.int x :: .ref 60 :: st) h = zR d 169 Q 46 lv st (zhr h 60 (upd (h 60) 24 x)) := (q_and rfl rfl).trans (zand_t ⟨rfl, Or.inl rfl⟩)
theorem r169_46 : zR d 169 Q 46 lv [] h = Q none h := q_ret rfl rfl
theorem r170_0 : zR d 170 Q 0 (some (.ref c) :: l) st h = zR d 170 Q 1 (some (.ref c) :: l) (.ref c :: st) h := q_in rfl rfl
theorem r170_1 : zR d 170 Q 1 (o0 :: some (.int x) :: l) st h = zR d 170 Q 2 (o0 :: some (.int x) :: l) (.int x :: st) h := q_in rfl rfl
theorem r170_2 : zR d 170 Q 2 lv [.int x0, .ref 60] h = zM d 171 [.ref 60, .int x0] h (fun r h' => zR d 170 Q 5 lv (r.toList ++ []) h') := (q_clV rfl rfl (Nat.le_of_ble_eq_true rfl)).trans (zand_t ⟨rfl, Nat.le_of_ble_eq_true rfl⟩)
theorem r170_5 : zR d 170 Q 5 lv (.int x :: st) h = if x = 0 then zR d 170 Q 8 lv st h else zR d 170 Q 10 lv st h := q_if rfl rfl
theorem r170_8 : zR d 170 Q 8 lv st h = zR d 170 Q 9 lv (.int 0 :: st) h := q_in rfl rfl
theorem r170_9f : zR d 170 Q 9 lv [.int 0] h = Q (some (.int 0)) h := q_retz rfl rfl (Or.inr (Or.inl rfl))
theorem r170_9t : zR d 170 Q 9 lv [.int 1] h = Q (some (.int 1)) h := q_retz rfl rfl (Or.inr (Or.inr rfl))
theorem r170_10 : zR d 170 Q 10 (some (.ref c) :: l) st h = zR d 170 Q 11 (some (.ref c) :: l) (.ref c :: st) h := q_in rfl rfl
theorem r170_11 : zR d 170 Q 11 lv st h = zR d 170 Q 13 lv (.int 124 :: st) h := q_in rfl rfl
theorem r170_13 : zR d 170 Q 13 lv [.int x0, .ref 60] h = zM d 165 [.ref 60, .int x0] h (fun r h' => zR d 170 Q 16 lv (r.toList ++ []) h') := (q_clV rfl rfl (Nat.le_of_ble_eq_true rfl)).trans (zand_t ⟨rfl, Nat.le_of_ble_eq_true rfl⟩)
theorem r170_16 : zR d 170 Q 16 lv (.int x :: st) h = if x = 0 then zR d 170 Q 43 lv st h else zR d 170 Q 19 lv st h := q_if rfl rfl
theorem r170_19 : zR d 170 Q 19 (some (.ref c) :: l) st h = zR d 170 Q 20 (some (.ref c) :: l) (.ref c :: st) h := q_in rfl rfl
theorem r170_20 : zR d 170 Q 20 lv [.ref 60] h = zM d 164 [.ref 60] h (fun r h' => zR d 170 Q 23 lv (r.toList ++ []) h') := (q_clV rfl rfl (Nat.le_of_ble_eq_true rfl)).trans (zand_t ⟨rfl, Nat.le_of_ble_eq_true rfl⟩)
theorem r170_23 : zR d 170 Q 23 (some (.ref c) :: l) st h = zR d 170 Q 24 (some (.ref c) :: l) (.ref c :: st) h := q_in rfl rfl
theorem r170_24 : zR d 170 Q 24 (o0 :: some (.int x) :: l) st h = zR d 170 Q 25 (o0 :: some (.int x) :: l) (.int x :: st) h := q_in rfl rfl
theorem r170_25 : zR d 170 Q 25 lv [.int x0, .ref 60] h = zM d 171 [.ref 60, .int x0] h (fun r h' => zR d 170 Q 28 lv (r.toList ++ []) h') := (q_clV rfl rfl (Nat.le_of_ble_eq_true rfl)).trans (zand_t ⟨rfl, Nat.le_of_ble_eq_true rfl⟩)
theorem r170_28 : zR d 170 Q 28 lv (.int x :: st) h = if x = 0 then zR d 170 Q 31 lv st h else zR d 170 Q 33 lv st h := q_if rfl rfl
theorem r170_31 : zR d 170 Q 31 lv st h = zR d 170 Q 32 lv (.int 0 :: st) h := q_in rfl rfl
theorem r170_32f : zR d 170 Q 32 lv [.int 0] h = Q (some (.int 0)) h := q_retz rfl rfl (Or.inr (Or.inl rfl))
theorem r170_32t : zR d 170 Q 32 lv [.int 1] h = Q (some (.int 1)) h := q_retz rfl rfl (Or.inr (Or.inr rfl))
theorem r170_33 : zR d 170 Q 33 (some (.ref c) :: l) st h = zR d 170 Q 34 (some (.ref c) :: l) (.ref c :: st) h := q_in rfl rfl
theorem r170_34 : zR d 170 Q 34 lv st h = zR d 170 Q 35 lv (.int 2 :: st) h := q_in rfl rfl
theorem r170_35 : zR d 170 Q 35 lv st h = zR d 170 Q 37 lv (.int 124 :: st) h := q_in rfl rfl
theorem r170_37 : zR d 170 Q 37 lv [.int x1, .int x0, .ref 60] h = zM d 169 [.ref 60, .int x0, .int x1] h (fun r h' => zR d 170 Q 40 lv (r.toList ++ []) h') := (q_clV rfl rfl (Nat.le_of_ble_eq_true rfl)).trans (zand_t ⟨rfl, Nat.le_of_ble_eq_true rfl⟩)
theorem r170_40 : zR d 170 Q 40 lv st h = zR d 170 Q 10 lv st h := q_in rfl rfl
theorem r170_43 : zR d 170 Q 43 lv st h = zR d 170 Q 44 lv (.int 1 :: st) h := q_in rfl rfl
theorem r170_44f : zR d 170 Q 44 lv [.int 0] h = Q (some (.int 0)) h := q_retz rfl rfl (Or.inr (Or.inl rfl))
theorem r170_44t : zR d 170 Q 44 lv [.int 1] h = Q (some (.int 1)) h := q_retz rfl rfl (Or.inr (Or.inr rfl))
theorem r171_0 : zR d 171 Q 0 (some (.ref c) :: l) st h = zR d 171 Q 1 (some (.ref c) :: l) (.ref c :: st) h := q_in rfl rfl
theorem r171_1 : zR d 171 Q 1 (o0 :: some (.int x) :: l) st h = zR d 171 Q 2 (o0 :: some (.int x) :: l) (.int x :: st) h := q_in rfl rfl
theorem r171_2 : zR d 171 Q 2 lv [.int x0, .ref 60] h = zM d 172 [.ref 60, .int x0] h (fun r h' => zR d 171 Q 5 lv (r.toList ++ []) h') := (q_clV rfl rfl (Nat.le_of_ble_eq_true rfl)).trans (zand_t ⟨rfl, Nat.le_of_ble_eq_true rfl⟩)
theorem r171_5 : zR d 171 Q 5 lv (.int x :: st) h = if x = 0 then zR d 171 Q 8 lv st h else zR d 171 Q 10 lv st h := q_if rfl rfl
theorem r171_8 : zR d 171 Q 8 lv st h = zR d 171 Q 9 lv (.int 0 :: st) h := q_in rfl rfl
theorem r171_9f : zR d 171 Q 9 lv [.int 0] h = Q (some (.int 0)) h := q_retz rfl rfl (Or.inr (Or.inl rfl))
theorem r171_9t : zR d 171 Q 9 lv [.int 1] h = Q (some (.int 1)) h := q_retz rfl rfl (Or.inr (Or.inr rfl))
theorem r171_10 : zR d 171 Q 10 (some (.ref c) :: l) st h = zR d 171 Q 11 (some (.ref c) :: l) (.ref c :: st) h := q_in rfl rfl
theorem r171_11 : zR d 171 Q 11 lv st h = zR d 171 Q 13 lv (.int 38 :: st) h := q_in rfl rfl
theorem r171_13 : zR d 171 Q 13 lv [.int x0, .ref 60] h = zM d 165 [.ref 60, .int x0] h (fun r h' => zR d 171 Q 16 lv (r.toList ++ []) h') := (q_clV rfl rfl (Nat.le_of_ble_eq_true rfl)).trans (zand_t ⟨rfl, Nat.le_of_ble_eq_true rfl⟩)
theorem r171_16 : zR d 171 Q 16 lv (.int x :: st) h = if x = 0 then zR d 171 Q 43 lv st h else zR d 171 Q 19 lv st h := q_if rfl rfl
theorem r171_19 : zR d 171 Q 19 (some (.ref c) :: l) st h = zR d 171 Q 20 (some (.ref c) :: l) (.ref c :: st) h := q_in rfl rfl
theorem r171_20 : zR d 171 Q 20 lv [.ref 60] h = zM d 164 [.ref 60] h (fun r h' => zR d 171 Q 23 lv (r.toList ++ []) h') := (q_clV rfl rfl (Nat.le_of_ble_eq_true rfl)).trans (zand_t ⟨rfl, Nat.le_of_ble_eq_true rfl⟩)
theorem r171_23 : zR d 171 Q 23 (some (.ref c) :: l) st h = zR d 171 Q 24 (some (.ref c) :: l) (.ref c :: st) h := q_in rfl rfl
theorem r171_24 : zR d 171 Q 24 (o0 :: some (.int x) :: l) st h = zR d 171 Q 25 (o0 :: some (.int x) :: l) (.int x :: st) h := q_in rfl rfl
theorem r171_25 : zR d 171 Q 25 lv [.int x0, .ref 60] h = zM d 172 [.ref 60, .int x0] h (fun r h' => zR d 171 Q 28 lv (r.toList ++ []) h') := (q_clV rfl rfl (Nat.le_of_ble_eq_true rfl)).trans (zand_t ⟨rfl, Nat.le_of_ble_eq_true rfl⟩)
theorem r171_28 : zR d 171 Q 28 lv (.int x :: st) h = if x = 0 then zR d 171 Q 31 lv st h else zR d 171 Q 33 lv st h := q_if rfl rfl
theorem r171_31 : zR d 171 Q 31 lv st h = zR d 171 Q 32 lv (.int 0 :: st) h := q_in rfl rfl
theorem r171_32f : zR d 171 Q 32 lv [.int 0] h = Q (some (.int 0)) h := q_retz rfl rfl (Or.inr (Or.inl rfl))
theorem r171_32t : zR d 171 Q 32 lv [.int 1] h = Q (some (.int 1)) h := q_retz rfl rfl (Or.inr (Or.inr rfl))
theorem r171_33 : zR d 171 Q 33 (some (.ref c) :: l) st h = zR d 171 Q 34 (some (.ref c) :: l) (.ref c :: st) h := q_in rfl rfl
theorem r171_34 : zR d 171 Q 34 lv st h = zR d 171 Q 35 lv (.int 2 :: st) h := q_in rfl rfl
theorem r171_35 : zR d 171 Q 35 lv st h = zR d 171 Q 37 lv (.int 38 :: st) h := q_in rfl rfl
theorem r171_37 : zR d 171 Q 37 lv [.int x1, .int x0, .ref 60] h = zM d 169 [.ref 60, .int x0, .int x1] h (fun r h' => zR d 171 Q 40 lv (r.toList ++ []) h') := (q_clV rfl rfl (Nat.le_of_ble_eq_true rfl)).trans (zand_t ⟨rfl, Nat.le_of_ble_eq_true rfl⟩)
theorem r171_40 : zR d 171 Q 40 lv st h = zR d 171 Q 10 lv st h := q_in rfl rfl
theorem r171_43 : zR d 171 Q 43 lv st h = zR d 171 Q 44 lv (.int 1 :: st) h := q_in rfl rfl
theorem r171_44f : zR d 171 Q 44 lv [.int 0] h = Q (some (.int 0)) h := q_retz rfl rfl (Or.inr (Or.inl rfl))
theorem r171_44t : zR d 171 Q 44 lv [.int 1] h = Q (some (.int 1)) h := q_retz rfl rfl (Or.inr (Or.inr rfl))
theorem r172_0 : zR d 172 Q 0 (some (.ref c) :: l) st h = zR d 172 Q 1 (some (.ref c) :: l) (.ref c :: st) h := q_in rfl rfl
theorem r172_1 : zR d 172 Q 1 (o0 :: some (.int x) :: l) st h = zR d 172 Q 2 (o0 :: some (.int x) :: l) (.int x :: st) h := q_in rfl rfl
theorem r172_2 : zR d 172 Q 2 lv [.int x0, .ref 60] h = zM d 173 [.ref 60, .int x0] h (fun r h' => zR d 172 Q 5 lv (r.toList ++ []) h') := (q_clV rfl rfl (Nat.le_of_ble_eq_true rfl)).trans (zand_t ⟨rfl, Nat.le_of_ble_eq_true rfl⟩)
theorem r172_5 : zR d 172 Q 5 lv (.int x :: st) h = if x = 0 then zR d 172 Q 8 lv st h else zR d 172 Q 10 lv st h := q_if rfl rfl
theorem r172_8 : zR d 172 Q 8 lv st h = zR d 172 Q 9 lv (.int 0 :: st) h := q_in rfl rfl
theorem r172_9f : zR d 172 Q 9 lv [.int 0] h = Q (some (.int 0)) h := q_retz rfl rfl (Or.inr (Or.inl rfl))
theorem r172_9t : zR d 172 Q 9 lv [.int 1] h = Q (some (.int 1)) h := q_retz rfl rfl (Or.inr (Or.inr rfl))
theorem r172_10 : zR d 172 Q 10 (some (.ref c) :: l) st h = zR d 172 Q 11 (some (.ref c) :: l) (.ref c :: st) h := q_in rfl rfl
theorem r172_11 : zR d 172 Q 11 lv st h = zR d 172 Q 13 lv (.int 60 :: st) h := q_in rfl rfl
theorem r172_13 : zR d 172 Q 13 lv [.int x0, .ref 60] h = zM d 165 [.ref 60, .int x0] h (fun r h' => zR d 172 Q 16 lv (r.toList ++ []) h') := (q_clV rfl rfl (Nat.le_of_ble_eq_true rfl)).trans (zand_t ⟨rfl, Nat.le_of_ble_eq_true rfl⟩)
theorem r172_16 : zR d 172 Q 16 lv (.int x :: st) h = if x = 0 then zR d 172 Q 19 lv st h else zR d 172 Q 37 lv st h := q_if rfl rfl
theorem r172_19 : zR d 172 Q 19 (some (.ref c) :: l) st h = zR d 172 Q 20 (some (.ref c) :: l) (.ref c :: st) h := q_in rfl rfl
theorem r172_20 : zR d 172 Q 20 lv st h = zR d 172 Q 22 lv (.int 61 :: st) h := q_in rfl rfl
theorem r172_22 : zR d 172 Q 22 lv [.int x0, .ref 60] h = zM d 165 [.ref 60, .int x0] h (fun r h' => zR d 172 Q 25 lv (r.toList ++ []) h') := (q_clV rfl rfl (Nat.le_of_ble_eq_true rfl)).trans (zand_t ⟨rfl, Nat.le_of_ble_eq_true rfl⟩)
theorem r172_25 : zR d 172 Q 25 lv (.int x :: st) h = if x = 0 then zR d 172 Q 28 lv st h else zR d 172 Q 37 lv st h := q_if rfl rfl
theorem r172_28 : zR d 172 Q 28 (some (.ref c) :: l) st h = zR d 172 Q 29 (some (.ref c) :: l) (.ref c :: st) h := q_in rfl rfl
theorem r172_29 : zR d 172 Q 29 lv st h = zR d 172 Q 31 lv (.int 62 :: st) h := q_in rfl rfl
theorem r172_31 : zR d 172 Q 31 lv [.int x0, .ref 60] h = zM d 165 [.ref 60, .int x0] h (fun r h' => zR d 172 Q 34 lv (r.toList ++ []) h') := (q_clV rfl rfl (Nat.le_of_ble_eq_true rfl)).trans (zand_t ⟨rfl, Nat.le_of_ble_eq_true rfl⟩)
theorem r172_34 : zR d 172 Q 34 lv (.int x :: st) h = if x = 0 then zR d 172 Q 62 lv st h else zR d 172 Q 37 lv st h := q_if rfl rfl
theorem r172_37 : zR d 172 Q 37 (some (.ref c) :: l) st h = zR d 172 Q 38 (some (.ref c) :: l) (.ref c :: st) h := q_in rfl rfl
theorem r172_38 : zR d 172 Q 38 lv (.ref 60 :: st) h = zR d 172 Q 41 lv (.int (h 60 21) :: st) h := (q_and rfl rfl).trans (zand_t rfl)
theorem r172_41 : zR d 172 Q 41 (o0 :: o1 :: o2 :: l) (.int x :: st) h = zR d 172 Q 42 (o0 :: o1 :: some (.int x) :: l) st h := q_in rfl rfl
theorem r172_42 : zR d 172 Q 42 (some (.ref c) :: l) st h = zR d 172 Q 43 (some (.ref c) :: l) (.ref c :: st) h := q_in rfl rfl
theorem r172_43 : zR d 172 Q 43 lv [.ref 60] h = zM d 164 [.ref 60] h (fun r h' => zR d 172 Q 46 lv (r.toList ++ []) h') := (q_clV rfl rfl (Nat.le_of_ble_eq_true rfl)).trans (zand_t ⟨rfl, Nat.le_of_ble_eq_true rfl⟩)
theorem r172_46 : zR d 172 Q 46 (some (.ref c) :: l) st h = zR d 172 Q 47 (some (.ref c) :: l) (.ref c :: st) h := q_in rfl rfl
theorem r172_47 : zR d 172 Q 47 (o0 :: some (.int x) :: l) st h = zR d 172 Q 48 (o0 :: some (.int x) :: l) (.int x :: st) h := q_in rfl rfl
theorem r172_48 : zR d 172 Q 48 lv [.int x0, .ref 60] h = zM d 173 [.ref 60, .int x0] h (fun r h' => zR d 172 Q 51 lv (r.toList ++ []) h') := (q_clV rfl rfl (Nat.le_of_ble_eq_true rfl)).trans (zand_t ⟨rfl, Nat.le_of_ble_eq_true rfl⟩)
theorem r172_51 : zR d 172 Q 51 lv (.int x :: st) h = if x = 0 then zR d 172 Q 54 lv st h else zR d 172 Q 56 lv st h := q_if rfl rfl
theorem r172_54 : zR d 172 Q 54 lv st h = zR d 172 Q 55 lv (.int 0 :: st) h := q_in rfl rfl
theorem r172_55f : zR d 172 Q 55 lv [.int 0] h = Q (some (.int 0)) h := q_retz rfl rfl (Or.inr (Or.inl rfl))
theorem r172_55t : zR d 172 Q 55 lv [.int 1] h = Q (some (.int 1)) h := q_retz rfl rfl (Or.inr (Or.inr rfl))
theorem r172_56 : zR d 172 Q 56 (some (.ref c) :: l) st h = zR d 172 Q 57 (some (.ref c) :: l) (.ref c :: st) h := q_in rfl rfl
theorem r172_57 : zR d 172 Q 57 lv st h = zR d 172 Q 58 lv (.int 2 :: st) h := q_in rfl rfl
theorem r172_58 : zR d 172 Q 58 (o0 :: o1 :: some (.int x) :: l) st h = zR d 172 Q 59 (o0 :: o1 :: some (.int x) :: l) (.int x :: st) h := q_in rfl rfl
theorem r172_59 : zR d 172 Q 59 lv [.int x1, .int x0, .ref 60] h = zM d 169 [.ref 60, .int x0, .int x1] h (fun r h' => zR d 172 Q 62 lv (r.toList ++ []) h') := (q_clV rfl rfl (Nat.le_of_ble_eq_true rfl)).trans (zand_t ⟨rfl, Nat.le_of_ble_eq_true rfl⟩)
theorem r172_62 : zR d 172 Q 62 lv st h = zR d 172 Q 63 lv (.int 1 :: st) h := q_in rfl rfl
theorem r172_63f : zR d 172 Q 63 lv [.int 0] h = Q (some (.int 0)) h := q_retz rfl rfl (Or.inr (Or.inl rfl))
theorem r172_63t : zR d 172 Q 63 lv [.int 1] h = Q (some (.int 1)) h := q_retz rfl rfl (Or.inr (Or.inr rfl))
theorem r173_0 : zR d 173 Q 0 (some (.ref c) :: l) st h = zR d 173 Q 1 (some (.ref c) :: l) (.ref c :: st) h := q_in rfl rfl
theorem r173_1 : zR d 173 Q 1 (o0 :: some (.int x) :: l) st h = zR d 173 Q 2 (o0 :: some (.int x) :: l) (.int x :: st) h := q_in rfl rfl
theorem r173_2 : zR d 173 Q 2 lv [.int x0, .ref 60] h = zM d 174 [.ref 60, .int x0] h (fun r h' => zR d 173 Q 5 lv (r.toList ++ []) h') := (q_clV rfl rfl (Nat.le_of_ble_eq_true rfl)).trans (zand_t ⟨rfl, Nat.le_of_ble_eq_true rfl⟩)
theorem r173_5 : zR d 173 Q 5 lv (.int x :: st) h = if x = 0 then zR d 173 Q 8 lv st h else zR d 173 Q 10 lv st h := q_if rfl rfl
theorem r173_8 : zR d 173 Q 8 lv st h = zR d 173 Q 9 lv (.int 0 :: st) h := q_in rfl rfl
theorem r173_9f : zR d 173 Q 9 lv [.int 0] h = Q (some (.int 0)) h := q_retz rfl rfl (Or.inr (Or.inl rfl))
theorem r173_9t : zR d 173 Q 9 lv [.int 1] h = Q (some (.int 1)) h := q_retz rfl rfl (Or.inr (Or.inr rfl))
theorem r173_10 : zR d 173 Q 10 (some (.ref c) :: l) st h = zR d 173 Q 11 (some (.ref c) :: l) (.ref c :: st) h := q_in rfl rfl
theorem r173_11 : zR d 173 Q 11 lv st h = zR d 173 Q 13 lv (.int 43 :: st) h := q_in rfl rfl
theorem r173_13 : zR d 173 Q 13 lv [.int x0, .ref 60] h = zM d 165 [.ref 60, .int x0] h (fun r h' => zR d 173 Q 16 lv (r.toList ++ []) h') := (q_clV rfl rfl (Nat.le_of_ble_eq_true rfl)).trans (zand_t ⟨rfl, Nat.le_of_ble_eq_true rfl⟩)
theorem r173_16 : zR d 173 Q 16 lv (.int x :: st) h = if x = 0 then zR d 173 Q 19 lv st h else zR d 173 Q 28 lv st h := q_if rfl rfl
theorem r173_19 : zR d 173 Q 19 (some (.ref c) :: l) st h = zR d 173 Q 20 (some (.ref c) :: l) (.ref c :: st) h := q_in rfl rfl
theorem r173_20 : zR d 173 Q 20 lv st h = zR d 173 Q 22 lv (.int 45 :: st) h := q_in rfl rfl
theorem r173_22 : zR d 173 Q 22 lv [.int x0, .ref 60] h = zM d 165 [.ref 60, .int x0] h (fun r h' => zR d 173 Q 25 lv (r.toList ++ []) h') := (q_clV rfl rfl (Nat.le_of_ble_eq_true rfl)).trans (zand_t ⟨rfl, Nat.le_of_ble_eq_true rfl⟩)
theorem r173_25 : zR d 173 Q 25 lv (.int x :: st) h = if x = 0 then zR d 173 Q 56 lv st h else zR d 173 Q 28 lv st h := q_if rfl rfl
theorem r173_28 : zR d 173 Q 28 (some (.ref c) :: l) st h = zR d 173 Q 29 (some (.ref c) :: l) (.ref c :: st) h := q_in rfl rfl
theorem r173_29 : zR d 173 Q 29 lv (.ref 60 :: st) h = zR d 173 Q 32 lv (.int (h 60 21) :: st) h := (q_and rfl rfl).trans (zand_t rfl)
theorem r173_32 : zR d 173 Q 32 (o0 :: o1 :: o2 :: l) (.int x :: st) h = zR d 173 Q 33 (o0 :: o1 :: some (.int x) :: l) st h := q_in rfl rfl
theorem r173_33 : zR d 173 Q 33 (some (.ref c) :: l) st h = zR d 173 Q 34 (some (.ref c) :: l) (.ref c :: st) h := q_in rfl rfl
theorem r173_34 : zR d 173 Q 34 lv [.ref 60] h = zM d 164 [.ref 60] h (fun r h' => zR d 173 Q 37 lv (r.toList ++ []) h') := (q_clV rfl rfl (Nat.le_of_ble_eq_true rfl)).trans (zand_t ⟨rfl, Nat.le_of_ble_eq_true rfl⟩)
theorem r173_37 : zR d 173 Q 37 (some (.ref c) :: l) st h = zR d 173 Q 38 (some (.ref c) :: l) (.ref c :: st) h := q_in rfl rfl
theorem r173_38 : zR d 173 Q 38 (o0 :: some (.int x) :: l) st h = zR d 173 Q 39 (o0 :: some (.int x) :: l) (.int x :: st) h := q_in rfl rfl
theorem r173_39 : zR d 173 Q 39 lv [.int x0, .ref 60] h = zM d 174 [.ref 60, .int x0] h (fun r h' => zR d 173 Q 42 lv (r.toList ++ []) h') := (q_clV rfl rfl (Nat.le_of_ble_eq_true rfl)).trans (zand_t ⟨rfl, Nat.le_of_ble_eq_true rfl⟩)
theorem r173_42 : zR d 173 Q 42 lv (.int x :: st) h = if x = 0 then zR d 173 Q 45 lv st h else zR d 173 Q 47 lv st h := q_if rfl rfl
theorem r173_45 : zR d 173 Q 45 lv st h = zR d 173 Q 46 lv (.int 0 :: st) h := q_in rfl rfl
theorem r173_46f : zR d 173 Q 46 lv [.int 0] h = Q (some (.int 0)) h := q_retz rfl rfl (Or.inr (Or.inl rfl))
theorem r173_46t : zR d 173 Q 46 lv [.int 1] h = Q (some (.int 1)) h := q_retz rfl rfl (Or.inr (Or.inr rfl))
theorem r173_47 : zR d 173 Q 47 (some (.ref c) :: l) st h = zR d 173 Q 48 (some (.ref c) :: l) (.ref c :: st) h := q_in rfl rfl
theorem r173_48 : zR d 173 Q 48 lv st h = zR d 173 Q 49 lv (.int 2 :: st) h := q_in rfl rfl
theorem r173_49 : zR d 173 Q 49 (o0 :: o1 :: some (.int x) :: l) st h = zR d 173 Q 50 (o0 :: o1 :: some (.int x) :: l) (.int x :: st) h := q_in rfl rfl
theorem r173_50 : zR d 173 Q 50 lv [.int x1, .int x0, .ref 60] h = zM d 169 [.ref 60, .int x0, .int x1] h (fun r h' => zR d 173 Q 53 lv (r.toList ++ []) h') := (q_clV rfl rfl (Nat.le_of_ble_eq_true rfl)).trans (zand_t ⟨rfl, Nat.le_of_ble_eq_true rfl⟩)
theorem r173_53 : zR d 173 Q 53 lv st h = zR d 173 Q 10 lv st h := q_in rfl rfl
theorem r173_56 : zR d 173 Q 56 lv st h = zR d 173 Q 57 lv (.int 1 :: st) h := q_in rfl rfl
theorem r173_57f : zR d 173 Q 57 lv [.int 0] h = Q (some (.int 0)) h := q_retz rfl rfl (Or.inr (Or.inl rfl))
theorem r173_57t : zR d 173 Q 57 lv [.int 1] h = Q (some (.int 1)) h := q_retz rfl rfl (Or.inr (Or.inr rfl))
theorem r174_0 : zR d 174 Q 0 (some (.ref c) :: l) st h = zR d 174 Q 1 (some (.ref c) :: l) (.ref c :: st) h := q_in rfl rfl
theorem r174_1 : zR d 174 Q 1 (o0 :: some (.int x) :: l) st h = zR d 174 Q 2 (o0 :: some (.int x) :: l) (.int x :: st) h := q_in rfl rfl
theorem r174_2 : zR d 174 Q 2 lv [.int x0, .ref 60] h = zM d 175 [.ref 60, .int x0] h (fun r h' => zR d 174 Q 5 lv (r.toList ++ []) h') := (q_clV rfl rfl (Nat.le_of_ble_eq_true rfl)).trans (zand_t ⟨rfl, Nat.le_of_ble_eq_true rfl⟩)
theorem r174_5 : zR d 174 Q 5 lv (.int x :: st) h = if x = 0 then zR d 174 Q 8 lv st h else zR d 174 Q 10 lv st h := q_if rfl rfl
theorem r174_8 : zR d 174 Q 8 lv st h = zR d 174 Q 9 lv (.int 0 :: st) h := q_in rfl rfl
theorem r174_9f : zR d 174 Q 9 lv [.int 0] h = Q (some (.int 0)) h := q_retz rfl rfl (Or.inr (Or.inl rfl))
theorem r174_9t : zR d 174 Q 9 lv [.int 1] h = Q (some (.int 1)) h := q_retz rfl rfl (Or.inr (Or.inr rfl))
theorem r174_10 : zR d 174 Q 10 (some (.ref c) :: l) st h = zR d 174 Q 11 (some (.ref c) :: l) (.ref c :: st) h := q_in rfl rfl
theorem r174_11 : zR d 174 Q 11 lv st h = zR d 174 Q 13 lv (.int 42 :: st) h := q_in rfl rfl
theorem r174_13 : zR d 174 Q 13 lv [.int x0, .ref 60] h = zM d 165 [.ref 60, .int x0] h (fun r h' => zR d 174 Q 16 lv (r.toList ++ []) h') := (q_clV rfl rfl (Nat.le_of_ble_eq_true rfl)).trans (zand_t ⟨rfl, Nat.le_of_ble_eq_true rfl⟩)
theorem r174_16 : zR d 174 Q 16 lv (.int x :: st) h = if x = 0 then zR d 174 Q 19 lv st h else zR d 174 Q 28 lv st h := q_if rfl rfl
theorem r174_19 : zR d 174 Q 19 (some (.ref c) :: l) st h = zR d 174 Q 20 (some (.ref c) :: l) (.ref c :: st) h := q_in rfl rfl
theorem r174_20 : zR d 174 Q 20 lv st h = zR d 174 Q 22 lv (.int 47 :: st) h := q_in rfl rfl
theorem r174_22 : zR d 174 Q 22 lv [.int x0, .ref 60] h = zM d 165 [.ref 60, .int x0] h (fun r h' => zR d 174 Q 25 lv (r.toList ++ []) h') := (q_clV rfl rfl (Nat.le_of_ble_eq_true rfl)).trans (zand_t ⟨rfl, Nat.le_of_ble_eq_true rfl⟩)
theorem r174_25 : zR d 174 Q 25 lv (.int x :: st) h = if x = 0 then zR d 174 Q 56 lv st h else zR d 174 Q 28 lv st h := q_if rfl rfl
theorem r174_28 : zR d 174 Q 28 (some (.ref c) :: l) st h = zR d 174 Q 29 (some (.ref c) :: l) (.ref c :: st) h := q_in rfl rfl
theorem r174_29 : zR d 174 Q 29 lv (.ref 60 :: st) h = zR d 174 Q 32 lv (.int (h 60 21) :: st) h := (q_and rfl rfl).trans (zand_t rfl)
theorem r174_32 : zR d 174 Q 32 (o0 :: o1 :: o2 :: l) (.int x :: st) h = zR d 174 Q 33 (o0 :: o1 :: some (.int x) :: l) st h := q_in rfl rfl
theorem r174_33 : zR d 174 Q 33 (some (.ref c) :: l) st h = zR d 174 Q 34 (some (.ref c) :: l) (.ref c :: st) h := q_in rfl rfl
theorem r174_34 : zR d 174 Q 34 lv [.ref 60] h = zM d 164 [.ref 60] h (fun r h' => zR d 174 Q 37 lv (r.toList ++ []) h') := (q_clV rfl rfl (Nat.le_of_ble_eq_true rfl)).trans (zand_t ⟨rfl, Nat.le_of_ble_eq_true rfl⟩)
theorem r174_37 : zR d 174 Q 37 (some (.ref c) :: l) st h = zR d 174 Q 38 (some (.ref c) :: l) (.ref c :: st) h := q_in rfl rfl
theorem r174_38 : zR d 174 Q 38 (o0 :: some (.int x) :: l) st h = zR d 174 Q 39 (o0 :: some (.int x) :: l) (.int x :: st) h := q_in rfl rfl
theorem r174_39 : zR d 174 Q 39 lv [.int x0, .ref 60] h = zM d 175 [.ref 60, .int x0] h (fun r h' => zR d 174 Q 42 lv (r.toList ++ []) h') := (q_clV rfl rfl (Nat.le_of_ble_eq_true rfl)).trans (zand_t ⟨rfl, Nat.le_of_ble_eq_true rfl⟩)
theorem r174_42 : zR d 174 Q 42 lv (.int x :: st) h = if x = 0 then zR d 174 Q 45 lv st h else zR d 174 Q 47 lv st h := q_if rfl rfl
theorem r174_45 : zR d 174 Q 45 lv st h = zR d 174 Q 46 lv (.int 0 :: st) h := q_in rfl rfl
theorem r174_46f : zR d 174 Q 46 lv [.int 0] h = Q (some (.int 0)) h := q_retz rfl rfl (Or.inr (Or.inl rfl))
theorem r174_46t : zR d 174 Q 46 lv [.int 1] h = Q (some (.int 1)) h := q_retz rfl rfl (Or.inr (Or.inr rfl))
theorem r174_47 : zR d 174 Q 47 (some (.ref c) :: l) st h = zR d 174 Q 48 (some (.ref c) :: l) (.ref c :: st) h := q_in rfl rfl
theorem r174_48 : zR d 174 Q 48 lv st h = zR d 174 Q 49 lv (.int 2 :: st) h := q_in rfl rfl
theorem r174_49 : zR d 174 Q 49 (o0 :: o1 :: some (.int x) :: l) st h = zR d 174 Q 50 (o0 :: o1 :: some (.int x) :: l) (.int x :: st) h := q_in rfl rfl
theorem r174_50 : zR d 174 Q 50 lv [.int x1, .int x0, .ref 60] h = zM d 169 [.ref 60, .int x0, .int x1] h (fun r h' => zR d 174 Q 53 lv (r.toList ++ []) h') := (q_clV rfl rfl (Nat.le_of_ble_eq_true rfl)).trans (zand_t ⟨rfl, Nat.le_of_ble_eq_true rfl⟩)
theorem r174_53 : zR d 174 Q 53 lv st h = zR d 174 Q 10 lv st h := q_in rfl rfl
theorem r174_56 : zR d 174 Q 56 lv st h = zR d 174 Q 57 lv (.int 1 :: st) h := q_in rfl rfl
theorem r174_57f : zR d 174 Q 57 lv [.int 0] h = Q (some (.int 0)) h := q_retz rfl rfl (Or.inr (Or.inl rfl))
theorem r174_57t : zR d 174 Q 57 lv [.int 1] h = Q (some (.int 1)) h := q_retz rfl rfl (Or.inr (Or.inr rfl))
theorem r175_0 : zR d 175 Q 0 (some (.ref c) :: l) st h = zR d 175 Q 1 (some (.ref c) :: l) (.ref c :: st) h := q_in rfl rfl
theorem r175_1 : zR d 175 Q 1 lv (.ref 60 :: st) h = zR d 175 Q 4 lv (.int (h 60 19) :: st) h := (q_and rfl rfl).trans (zand_t rfl)
theorem r175_4 : zR d 175 Q 4 lv st h = zR d 175 Q 5 lv (.int 2 :: st) h := q_in rfl rfl
theorem r175_5 : zR d 175 Q 5 lv (.int z :: .int x :: st) h = if x = z then zR d 175 Q 8 lv st h else zR d 175 Q 33 lv st h := q_if rfl rfl
theorem r175_8 : zR d 175 Q 8 (some (.ref c) :: l) st h = zR d 175 Q 9 (some (.ref c) :: l) (.ref c :: st) h := q_in rfl rfl
theorem r175_9 : zR d 175 Q 9 lv st h = zR d 175 Q 10 lv (.int 0 :: st) h := q_in rfl rfl
theorem r175_10 : zR d 175 Q 10 (some (.ref c) :: l) st h = zR d 175 Q 11 (some (.ref c) :: l) (.ref c :: st) h := q_in rfl rfl
theorem r175_11 : zR d 175 Q 11 lv (.ref 60 :: st) h = zR d 175 Q 14 lv (.int (h 60 20) :: st) h := (q_and rfl rfl).trans (zand_t rfl)
theorem r175_14 : zR d 175 Q 14 lv [.int x1, .int x0, .ref 60] h = zM d 169 [.ref 60, .int x0, .int x1] h (fun r h' => zR d 175 Q 17 lv (r.toList ++ []) h') := (q_clV rfl rfl (Nat.le_of_ble_eq_true rfl)).trans (zand_t ⟨rfl, Nat.le_of_ble_eq_true rfl⟩)
theorem r175_17 : zR d 175 Q 17 (some (.ref c) :: l) st h = zR d 175 Q 18 (some (.ref c) :: l) (.ref c :: st) h := q_in rfl rfl
theorem r175_18 : zR d 175 Q 18 lv (.ref c :: st) h = zR d 175 Q 19 lv (.ref c :: .ref c :: st) h := q_in rfl rfl
theorem r175_19 : zR d 175 Q 19 lv (.ref 60 :: st) h = zR d 175 Q 22 lv (.int (h 60 26) :: st) h := (q_and rfl rfl).trans (zand_t rfl)
theorem r175_22 : zR d 175 Q 22 lv st h = zR d 175 Q 23 lv (.int 1 :: st) h := q_in rfl rfl
theorem r175_23 : zR d 175 Q 23 lv (.int z :: .int x :: st) h = zR d 175 Q 24 lv (.int (x + z) :: st) h := q_in rfl rfl
theorem r175_24 : zR d 175 Q 24 lv (.int x :: .ref 60 :: st) h = zR d 175 Q 27 lv st (zhr h 60 (upd (h 60) 26 x)) := (q_and rfl rfl).trans (zand_t ⟨rfl, Or.inl rfl⟩)
theorem r175_27 : zR d 175 Q 27 (some (.ref c) :: l) st h = zR d 175 Q 28 (some (.ref c) :: l) (.ref c :: st) h := q_in rfl rfl
theorem r175_28 : zR d 175 Q 28 lv [.ref 60] h = zM d 164 [.ref 60] h (fun r h' => zR d 175 Q 31 lv (r.toList ++ []) h') := (q_clV rfl rfl (Nat.le_of_ble_eq_true rfl)).trans (zand_t ⟨rfl, Nat.le_of_ble_eq_true rfl⟩)
theorem r175_31 : zR d 175 Q 31 lv st h = zR d 175 Q 32 lv (.int 1 :: st) h := q_in rfl rfl
theorem r175_32f : zR d 175 Q 32 lv [.int 0] h = Q (some (.int 0)) h := q_retz rfl rfl (Or.inr (Or.inl rfl))
theorem r175_32t : zR d 175 Q 32 lv [.int 1] h = Q (some (.int 1)) h := q_retz rfl rfl (Or.inr (Or.inr rfl))
theorem r175_33 : zR d 175 Q 33 (some (.ref c) :: l) st h = zR d 175 Q 34 (some (.ref c) :: l) (.ref c :: st) h := q_in rfl rfl
theorem r175_34 : zR d 175 Q 34 lv (.ref 60 :: st) h = zR d 175 Q 37 lv (.int (h 60 19) :: st) h := (q_and rfl rfl).trans (zand_t rfl)
theorem r175_37 : zR d 175 Q 37 lv st h = zR d 175 Q 38 lv (.int 1 :: st) h := q_in rfl rfl
theorem r175_38 : zR d 175 Q 38 lv (.int z :: .int x :: st) h = if x = z then zR d 175 Q 41 lv st h else zR d 175 Q 84 lv st h := q_if rfl rfl
theorem r175_41 : zR d 175 Q 41 (some (.ref c) :: l) st h = zR d 175 Q 42 (some (.ref c) :: l) (.ref c :: st) h := q_in rfl rfl
theorem r175_42 : zR d 175 Q 42 lv (.ref 60 :: st) h = zR d 175 Q 45 lv (.int (h 60 21) :: st) h := (q_and rfl rfl).trans (zand_t rfl)
theorem r175_45 : zR d 175 Q 45 lv (.int x :: st) h = if x = 0 then zR d 175 Q 84 lv st h else zR d 175 Q 48 lv st h := q_if rfl rfl
theorem r175_48 : zR d 175 Q 48 (o0 :: some (.int x) :: l) st h = zR d 175 Q 49 (o0 :: some (.int x) :: l) (.int x :: st) h := q_in rfl rfl
theorem r175_49 : zR d 175 Q 49 (some (.ref c) :: l) st h = zR d 175 Q 50 (some (.ref c) :: l) (.ref c :: st) h := q_in rfl rfl
theorem r175_50 : zR d 175 Q 50 lv (.ref 60 :: st) h = zR d 175 Q 53 lv (.int (h 60 21) :: st) h := (q_and rfl rfl).trans (zand_t rfl)
theorem r175_53 : zR d 175 Q 53 lv [.int x1, .int x0] h = zM d 168 [.int x0, .int x1] h (fun r h' => zR d 175 Q 56 lv (r.toList ++ []) h') := q_clS rfl rfl ⟨Nat.le_of_ble_eq_true rfl, Nat.le_of_ble_eq_true rfl⟩
theorem r175_56 : zR d 175 Q 56 lv (.int x :: st) h = if x = 0 then zR d 175 Q 84 lv st h else zR d 175 Q 59 lv st h := q_if rfl rfl
theorem r175_59 : zR d 175 Q 59 (some (.ref c) :: l) st h = zR d 175 Q 60 (some (.ref c) :: l) (.ref c :: st) h := q_in rfl rfl
theorem r175_60 : zR d 175 Q 60 lv st h = zR d 175 Q 61 lv (.int 1 :: st) h := q_in rfl rfl
theorem r175_61 : zR d 175 Q 61 (some (.ref c) :: l) st h = zR d 175 Q 62 (some (.ref c) :: l) (.ref c :: st) h := q_in rfl rfl
theorem r175_62 : zR d 175 Q 62 lv (.ref 60 :: st) h = zR d 175 Q 65 lv (.int (h 60 21) :: st) h := (q_and rfl rfl).trans (zand_t rfl)
theorem r175_65 : zR d 175 Q 65 lv [.int x1, .int x0, .ref 60] h = zM d 169 [.ref 60, .int x0, .int x1] h (fun r h' => zR d 175 Q 68 lv (r.toList ++ []) h') := (q_clV rfl rfl (Nat.le_of_ble_eq_true rfl)).trans (zand_t ⟨rfl, Nat.le_of_ble_eq_true rfl⟩)
theorem r175_68 : zR d 175 Q 68 (some (.ref c) :: l) st h = zR d 175 Q 69 (some (.ref c) :: l) (.ref c :: st) h := q_in rfl rfl
theorem r175_69 : zR d 175 Q 69 lv (.ref c :: st) h = zR d 175 Q 70 lv (.ref c :: .ref c :: st) h := q_in rfl rfl
theorem r175_70 : zR d 175 Q 70 lv (.ref 60 :: st) h = zR d 175 Q 73 lv (.int (h 60 26) :: st) h := (q_and rfl rfl).trans (zand_t rfl)
theorem r175_73 : zR d 175 Q 73 lv st h = zR d 175 Q 74 lv (.int 1 :: st) h := q_in rfl rfl
theorem r175_74 : zR d 175 Q 74 lv (.int z :: .int x :: st) h = zR d 175 Q 75 lv (.int (x + z) :: st) h := q_in rfl rfl
theorem r175_75 : zR d 175 Q 75 lv (.int x :: .ref 60 :: st) h = zR d 175 Q 78 lv st (zhr h 60 (upd (h 60) 26 x)) := (q_and rfl rfl).trans (zand_t ⟨rfl, Or.inl rfl⟩)
theorem r175_78 : zR d 175 Q 78 (some (.ref c) :: l) st h = zR d 175 Q 79 (some (.ref c) :: l) (.ref c :: st) h := q_in rfl rfl
theorem r175_79 : zR d 175 Q 79 lv [.ref 60] h = zM d 164 [.ref 60] h (fun r h' => zR d 175 Q 82 lv (r.toList ++ []) h') := (q_clV rfl rfl (Nat.le_of_ble_eq_true rfl)).trans (zand_t ⟨rfl, Nat.le_of_ble_eq_true rfl⟩)
theorem r175_82 : zR d 175 Q 82 lv st h = zR d 175 Q 83 lv (.int 1 :: st) h := q_in rfl rfl
theorem r175_83f : zR d 175 Q 83 lv [.int 0] h = Q (some (.int 0)) h := q_retz rfl rfl (Or.inr (Or.inl rfl))
theorem r175_83t : zR d 175 Q 83 lv [.int 1] h = Q (some (.int 1)) h := q_retz rfl rfl (Or.inr (Or.inr rfl))
theorem r175_84 : zR d 175 Q 84 (some (.ref c) :: l) st h = zR d 175 Q 85 (some (.ref c) :: l) (.ref c :: st) h := q_in rfl rfl
theorem r175_85 : zR d 175 Q 85 lv st h = zR d 175 Q 87 lv (.int 33 :: st) h := q_in rfl rfl
theorem r175_87 : zR d 175 Q 87 lv [.int x0, .ref 60] h = zM d 165 [.ref 60, .int x0] h (fun r h' => zR d 175 Q 90 lv (r.toList ++ []) h') := (q_clV rfl rfl (Nat.le_of_ble_eq_true rfl)).trans (zand_t ⟨rfl, Nat.le_of_ble_eq_true rfl⟩)
theorem r175_90 : zR d 175 Q 90 lv (.int x :: st) h = if x = 0 then zR d 175 Q 145 lv st h else zR d 175 Q 93 lv st h := q_if rfl rfl
theorem r175_93 : zR d 175 Q 93 (some (.ref c) :: l) st h = zR d 175 Q 94 (some (.ref c) :: l) (.ref c :: st) h := q_in rfl rfl
theorem r175_94 : zR d 175 Q 94 lv (.ref 60 :: st) h = zR d 175 Q 97 lv (.int (h 60 23) :: st) h := (q_and rfl rfl).trans (zand_t rfl)
theorem r175_97 : zR d 175 Q 97 lv st h = zR d 175 Q 99 lv (.int 8 :: st) h := q_in rfl rfl
theorem r175_99 : zR d 175 Q 99 lv (.int z :: .int x :: st) h = if x < z then zR d 175 Q 102 lv st h else zR d 175 Q 145 lv st h := q_if rfl rfl
theorem r175_102 : zR d 175 Q 102 (some (.ref c) :: l) st h = zR d 175 Q 103 (some (.ref c) :: l) (.ref c :: st) h := q_in rfl rfl
theorem r175_103 : zR d 175 Q 103 lv (.ref c :: st) h = zR d 175 Q 104 lv (.ref c :: .ref c :: st) h := q_in rfl rfl
theorem r175_104 : zR d 175 Q 104 lv (.ref 60 :: st) h = zR d 175 Q 107 lv (.int (h 60 23) :: st) h := (q_and rfl rfl).trans (zand_t rfl)
theorem r175_107 : zR d 175 Q 107 lv st h = zR d 175 Q 108 lv (.int 1 :: st) h := q_in rfl rfl
theorem r175_108 : zR d 175 Q 108 lv (.int z :: .int x :: st) h = zR d 175 Q 109 lv (.int (x + z) :: st) h := q_in rfl rfl
theorem r175_109 : zR d 175 Q 109 lv (.int x :: .ref 60 :: st) h = zR d 175 Q 112 lv st (zhr h 60 (upd (h 60) 23 x)) := (q_and rfl rfl).trans (zand_t ⟨rfl, Or.inl rfl⟩)
theorem r175_112 : zR d 175 Q 112 (some (.ref c) :: l) st h = zR d 175 Q 113 (some (.ref c) :: l) (.ref c :: st) h := q_in rfl rfl
theorem r175_113 : zR d 175 Q 113 lv [.ref 60] h = zM d 164 [.ref 60] h (fun r h' => zR d 175 Q 116 lv (r.toList ++ []) h') := (q_clV rfl rfl (Nat.le_of_ble_eq_true rfl)).trans (zand_t ⟨rfl, Nat.le_of_ble_eq_true rfl⟩)
theorem r175_116 : zR d 175 Q 116 (some (.ref c) :: l) st h = zR d 175 Q 117 (some (.ref c) :: l) (.ref c :: st) h := q_in rfl rfl
theorem r175_117 : zR d 175 Q 117 (o0 :: some (.int x) :: l) st h = zR d 175 Q 118 (o0 :: some (.int x) :: l) (.int x :: st) h := q_in rfl rfl
theorem r175_118 : zR d 175 Q 118 lv [.int x0, .ref 60] h = zM d 175 [.ref 60, .int x0] h (fun r h' => zR d 175 Q 121 lv (r.toList ++ []) h') := (q_clV rfl rfl (Nat.le_of_ble_eq_true rfl)).trans (zand_t ⟨rfl, Nat.le_of_ble_eq_true rfl⟩)
theorem r175_121 : zR d 175 Q 121 lv (.int x :: st) h = if x = 0 then zR d 175 Q 124 lv st h else zR d 175 Q 126 lv st h := q_if rfl rfl
theorem r175_124 : zR d 175 Q 124 lv st h = zR d 175 Q 125 lv (.int 0 :: st) h := q_in rfl rfl
theorem r175_125f : zR d 175 Q 125 lv [.int 0] h = Q (some (.int 0)) h := q_retz rfl rfl (Or.inr (Or.inl rfl))
theorem r175_125t : zR d 175 Q 125 lv [.int 1] h = Q (some (.int 1)) h := q_retz rfl rfl (Or.inr (Or.inr rfl))
theorem r175_126 : zR d 175 Q 126 (some (.ref c) :: l) st h = zR d 175 Q 127 (some (.ref c) :: l) (.ref c :: st) h := q_in rfl rfl
theorem r175_127 : zR d 175 Q 127 lv (.ref c :: st) h = zR d 175 Q 128 lv (.ref c :: .ref c :: st) h := q_in rfl rfl
theorem r175_128 : zR d 175 Q 128 lv (.ref 60 :: st) h = zR d 175 Q 131 lv (.int (h 60 23) :: st) h := (q_and rfl rfl).trans (zand_t rfl)
theorem r175_131 : zR d 175 Q 131 lv st h = zR d 175 Q 132 lv (.int 1 :: st) h := q_in rfl rfl
theorem r175_132 : zR d 175 Q 132 lv (.int z :: .int x :: st) h = zR d 175 Q 133 lv (.int (x - z) :: st) h := q_in rfl rfl
theorem r175_133 : zR d 175 Q 133 lv (.int x :: .ref 60 :: st) h = zR d 175 Q 136 lv st (zhr h 60 (upd (h 60) 23 x)) := (q_and rfl rfl).trans (zand_t ⟨rfl, Or.inl rfl⟩)
theorem r175_136 : zR d 175 Q 136 (some (.ref c) :: l) st h = zR d 175 Q 137 (some (.ref c) :: l) (.ref c :: st) h := q_in rfl rfl
theorem r175_137 : zR d 175 Q 137 lv st h = zR d 175 Q 138 lv (.int 2 :: st) h := q_in rfl rfl
theorem r175_138 : zR d 175 Q 138 lv st h = zR d 175 Q 140 lv (.int 33 :: st) h := q_in rfl rfl
theorem r175_140 : zR d 175 Q 140 lv [.int x1, .int x0, .ref 60] h = zM d 169 [.ref 60, .int x0, .int x1] h (fun r h' => zR d 175 Q 143 lv (r.toList ++ []) h') := (q_clV rfl rfl (Nat.le_of_ble_eq_true rfl)).trans (zand_t ⟨rfl, Nat.le_of_ble_eq_true rfl⟩)
theorem r175_143 : zR d 175 Q 143 lv st h = zR d 175 Q 144 lv (.int 1 :: st) h := q_in rfl rfl
theorem r175_144f : zR d 175 Q 144 lv [.int 0] h = Q (some (.int 0)) h := q_retz rfl rfl (Or.inr (Or.inl rfl))
theorem r175_144t : zR d 175 Q 144 lv [.int 1] h = Q (some (.int 1)) h := q_retz rfl rfl (Or.inr (Or.inr rfl))
theorem r175_145 : zR d 175 Q 145 (some (.ref c) :: l) st h = zR d 175 Q 146 (some (.ref c) :: l) (.ref c :: st) h := q_in rfl rfl
theorem r175_146 : zR d 175 Q 146 lv st h = zR d 175 Q 148 lv (.int 40 :: st) h := q_in rfl rfl
theorem r175_148 : zR d 175 Q 148 lv [.int x0, .ref 60] h = zM d 165 [.ref 60, .int x0] h (fun r h' => zR d 175 Q 151 lv (r.toList ++ []) h') := (q_clV rfl rfl (Nat.le_of_ble_eq_true rfl)).trans (zand_t ⟨rfl, Nat.le_of_ble_eq_true rfl⟩)
theorem r175_151 : zR d 175 Q 151 lv (.int x :: st) h = if x = 0 then zR d 175 Q 163 lv st h else zR d 175 Q 154 lv st h := q_if rfl rfl
theorem r175_154 : zR d 175 Q 154 (some (.ref c) :: l) st h = zR d 175 Q 155 (some (.ref c) :: l) (.ref c :: st) h := q_in rfl rfl
theorem r175_155 : zR d 175 Q 155 lv (.ref 60 :: st) h = zR d 175 Q 158 lv (.int (h 60 22) :: st) h := (q_and rfl rfl).trans (zand_t rfl)
theorem r175_158 : zR d 175 Q 158 lv st h = zR d 175 Q 160 lv (.int 8 :: st) h := q_in rfl rfl
theorem r175_160 : zR d 175 Q 160 lv (.int z :: .int x :: st) h = if x = z then zR d 175 Q 163 lv st h else zR d 175 Q 165 lv st h := q_if rfl rfl
theorem r175_163 : zR d 175 Q 163 lv st h = zR d 175 Q 164 lv (.int 0 :: st) h := q_in rfl rfl
theorem r175_164f : zR d 175 Q 164 lv [.int 0] h = Q (some (.int 0)) h := q_retz rfl rfl (Or.inr (Or.inl rfl))
theorem r175_164t : zR d 175 Q 164 lv [.int 1] h = Q (some (.int 1)) h := q_retz rfl rfl (Or.inr (Or.inr rfl))
theorem r175_165 : zR d 175 Q 165 (some (.ref c) :: l) st h = zR d 175 Q 166 (some (.ref c) :: l) (.ref c :: st) h := q_in rfl rfl
set_option maxRecDepth 100000 in
theorem r175_166 : zR d 175 Q 166 lv (.ref c :: st) h = zR d 175 Q 167 lv (.ref c :: .ref c :: st) h := q_in rfl rfl
set_option maxRecDepth 100000 in
theorem r175_167 : zR d 175 Q 167 lv (.ref 60 :: st) h = zR d 175 Q 170 lv (.int (h 60 22) :: st) h := (q_and rfl rfl).trans (zand_t rfl)
set_option maxRecDepth 100000 in
theorem r175_170 : zR d 175 Q 170 lv st h = zR d 175 Q 171 lv (.int 1 :: st) h := q_in rfl rfl
set_option maxRecDepth 100000 in
theorem r175_171 : zR d 175 Q 171 lv (.int z :: .int x :: st) h = zR d 175 Q 172 lv (.int (x + z) :: st) h := q_in rfl rfl
set_option maxRecDepth 100000 in
theorem r175_172 : zR d 175 Q 172 lv (.int x :: .ref 60 :: st) h = zR d 175 Q 175 lv st (zhr h 60 (upd (h 60) 22 x)) := (q_and rfl rfl).trans (zand_t ⟨rfl, Or.inl rfl⟩)
set_option maxRecDepth 100000 in
theorem r175_175 : zR d 175 Q 175 (some (.ref c) :: l) st h = zR d 175 Q 176 (some (.ref c) :: l) (.ref c :: st) h := q_in rfl rfl
set_option maxRecDepth 100000 in
theorem r175_176 : zR d 175 Q 176 lv [.ref 60] h = zM d 164 [.ref 60] h (fun r h' => zR d 175 Q 179 lv (r.toList ++ []) h') := (q_clV rfl rfl (Nat.le_of_ble_eq_true rfl)).trans (zand_t ⟨rfl, Nat.le_of_ble_eq_true rfl⟩)
set_option maxRecDepth 100000 in
theorem r175_179 : zR d 175 Q 179 (some (.ref c) :: l) st h = zR d 175 Q 180 (some (.ref c) :: l) (.ref c :: st) h := q_in rfl rfl
set_option maxRecDepth 100000 in
theorem r175_180 : zR d 175 Q 180 (o0 :: some (.int x) :: l) st h = zR d 175 Q 181 (o0 :: some (.int x) :: l) (.int x :: st) h := q_in rfl rfl
set_option maxRecDepth 100000 in
theorem r175_181 : zR d 175 Q 181 lv [.int x0, .ref 60] h = zM d 170 [.ref 60, .int x0] h (fun r h' => zR d 175 Q 184 lv (r.toList ++ []) h') := (q_clV rfl rfl (Nat.le_of_ble_eq_true rfl)).trans (zand_t ⟨rfl, Nat.le_of_ble_eq_true rfl⟩)
set_option maxRecDepth 100000 in
theorem r175_184 : zR d 175 Q 184 lv (.int x :: st) h = if x = 0 then zR d 175 Q 196 lv st h else zR d 175 Q 187 lv st h := q_if rfl rfl
set_option maxRecDepth 100000 in
theorem r175_187 : zR d 175 Q 187 (some (.ref c) :: l) st h = zR d 175 Q 188 (some (.ref c) :: l) (.ref c :: st) h := q_in rfl rfl
set_option maxRecDepth 100000 in
theorem r175_188 : zR d 175 Q 188 lv st h = zR d 175 Q 190 lv (.int 41 :: st) h := q_in rfl rfl
set_option maxRecDepth 100000 in
theorem r175_190 : zR d 175 Q 190 lv [.int x0, .ref 60] h = zM d 165 [.ref 60, .int x0] h (fun r h' => zR d 175 Q 193 lv (r.toList ++ []) h') := (q_clV rfl rfl (Nat.le_of_ble_eq_true rfl)).trans (zand_t ⟨rfl, Nat.le_of_ble_eq_true rfl⟩)
set_option maxRecDepth 100000 in
theorem r175_193 : zR d 175 Q 193 lv (.int x :: st) h = if x = 0 then zR d 175 Q 196 lv st h else zR d 175 Q 198 lv st h := q_if rfl rfl
set_option maxRecDepth 100000 in
theorem r175_196 : zR d 175 Q 196 lv st h = zR d 175 Q 197 lv (.int 0 :: st) h := q_in rfl rfl
set_option maxRecDepth 100000 in
theorem r175_197f : zR d 175 Q 197 lv [.int 0] h = Q (some (.int 0)) h := q_retz rfl rfl (Or.inr (Or.inl rfl))
set_option maxRecDepth 100000 in
theorem r175_197t : zR d 175 Q 197 lv [.int 1] h = Q (some (.int 1)) h := q_retz rfl rfl (Or.inr (Or.inr rfl))
set_option maxRecDepth 100000 in
theorem r175_198 : zR d 175 Q 198 (some (.ref c) :: l) st h = zR d 175 Q 199 (some (.ref c) :: l) (.ref c :: st) h := q_in rfl rfl
set_option maxRecDepth 100000 in
theorem r175_199 : zR d 175 Q 199 lv (.ref c :: st) h = zR d 175 Q 200 lv (.ref c :: .ref c :: st) h := q_in rfl rfl
set_option maxRecDepth 100000 in
theorem r175_200 : zR d 175 Q 200 lv (.ref 60 :: st) h = zR d 175 Q 203 lv (.int (h 60 22) :: st) h := (q_and rfl rfl).trans (zand_t rfl)
set_option maxRecDepth 100000 in
theorem r175_203 : zR d 175 Q 203 lv st h = zR d 175 Q 204 lv (.int 1 :: st) h := q_in rfl rfl
set_option maxRecDepth 100000 in
theorem r175_204 : zR d 175 Q 204 lv (.int z :: .int x :: st) h = zR d 175 Q 205 lv (.int (x - z) :: st) h := q_in rfl rfl
set_option maxRecDepth 100000 in
theorem r175_205 : zR d 175 Q 205 lv (.int x :: .ref 60 :: st) h = zR d 175 Q 208 lv st (zhr h 60 (upd (h 60) 22 x)) := (q_and rfl rfl).trans (zand_t ⟨rfl, Or.inl rfl⟩)
set_option maxRecDepth 100000 in
theorem r175_208 : zR d 175 Q 208 (some (.ref c) :: l) st h = zR d 175 Q 209 (some (.ref c) :: l) (.ref c :: st) h := q_in rfl rfl
set_option maxRecDepth 100000 in
theorem r175_209 : zR d 175 Q 209 lv [.ref 60] h = zM d 164 [.ref 60] h (fun r h' => zR d 175 Q 212 lv (r.toList ++ []) h') := (q_clV rfl rfl (Nat.le_of_ble_eq_true rfl)).trans (zand_t ⟨rfl, Nat.le_of_ble_eq_true rfl⟩)
set_option maxRecDepth 100000 in
theorem r175_212 : zR d 175 Q 212 lv st h = zR d 175 Q 213 lv (.int 1 :: st) h := q_in rfl rfl
set_option maxRecDepth 100000 in
theorem r175_213f : zR d 175 Q 213 lv [.int 0] h = Q (some (.int 0)) h := q_retz rfl rfl (Or.inr (Or.inl rfl))
set_option maxRecDepth 100000 in
theorem r175_213t : zR d 175 Q 213 lv [.int 1] h = Q (some (.int 1)) h := q_retz rfl rfl (Or.inr (Or.inr rfl))
theorem r176_0 : zR d 176 Q 0 (some (.ref c) :: l) st h = zR d 176 Q 1 (some (.ref c) :: l) (.ref c :: st) h := q_in rfl rfl
theorem r176_1 : zR d 176 Q 1 lv st h = zR d 176 Q 2 lv (.int 0 :: st) h := q_in rfl rfl
theorem r176_2 : zR d 176 Q 2 lv (.int x :: .ref 60 :: st) h = zR d 176 Q 5 lv st (zhr h 60 (upd (h 60) 18 x)) := (q_and rfl rfl).trans (zand_t ⟨rfl, Or.inl rfl⟩)
theorem r176_5 : zR d 176 Q 5 (some (.ref c) :: l) st h = zR d 176 Q 6 (some (.ref c) :: l) (.ref c :: st) h := q_in rfl rfl
theorem r176_6 : zR d 176 Q 6 lv st h = zR d 176 Q 7 lv (.int 3 :: st) h := q_in rfl rfl
theorem r176_7 : zR d 176 Q 7 lv (.int x :: .ref 60 :: st) h = zR d 176 Q 10 lv st (zhr h 60 (upd (h 60) 19 x)) := (q_and rfl rfl).trans (zand_t ⟨rfl, Or.inl rfl⟩)
theorem r176_10 : zR d 176 Q 10 (some (.ref c) :: l) st h = zR d 176 Q 11 (some (.ref c) :: l) (.ref c :: st) h := q_in rfl rfl
theorem r176_11 : zR d 176 Q 11 lv st h = zR d 176 Q 12 lv (.int 0 :: st) h := q_in rfl rfl
theorem r176_12 : zR d 176 Q 12 lv (.int x :: .ref 60 :: st) h = zR d 176 Q 15 lv st (zhr h 60 (upd (h 60) 22 x)) := (q_and rfl rfl).trans (zand_t ⟨rfl, Or.inl rfl⟩)
theorem r176_15 : zR d 176 Q 15 (some (.ref c) :: l) st h = zR d 176 Q 16 (some (.ref c) :: l) (.ref c :: st) h := q_in rfl rfl
theorem r176_16 : zR d 176 Q 16 lv st h = zR d 176 Q 17 lv (.int 0 :: st) h := q_in rfl rfl
theorem r176_17 : zR d 176 Q 17 lv (.int x :: .ref 60 :: st) h = zR d 176 Q 20 lv st (zhr h 60 (upd (h 60) 23 x)) := (q_and rfl rfl).trans (zand_t ⟨rfl, Or.inl rfl⟩)
theorem r176_20 : zR d 176 Q 20 (some (.ref c) :: l) st h = zR d 176 Q 21 (some (.ref c) :: l) (.ref c :: st) h := q_in rfl rfl
theorem r176_21 : zR d 176 Q 21 lv st h = zR d 176 Q 22 lv (.int 0 :: st) h := q_in rfl rfl
theorem r176_22 : zR d 176 Q 22 lv (.int x :: .ref 60 :: st) h = zR d 176 Q 25 lv st (zhr h 60 (upd (h 60) 24 x)) := (q_and rfl rfl).trans (zand_t ⟨rfl, Or.inl rfl⟩)
theorem r176_25 : zR d 176 Q 25 (some (.ref c) :: l) st h = zR d 176 Q 26 (some (.ref c) :: l) (.ref c :: st) h := q_in rfl rfl
theorem r176_26 : zR d 176 Q 26 lv st h = zR d 176 Q 27 lv (.int 0 :: st) h := q_in rfl rfl
theorem r176_27 : zR d 176 Q 27 lv (.int x :: .ref 60 :: st) h = zR d 176 Q 30 lv st (zhr h 60 (upd (h 60) 26 x)) := (q_and rfl rfl).trans (zand_t ⟨rfl, Or.inl rfl⟩)
theorem r176_30 : zR d 176 Q 30 (some (.ref c) :: l) st h = zR d 176 Q 31 (some (.ref c) :: l) (.ref c :: st) h := q_in rfl rfl
theorem r176_31 : zR d 176 Q 31 (some (.ref c) :: l) st h = zR d 176 Q 32 (some (.ref c) :: l) (.ref c :: st) h := q_in rfl rfl
theorem r176_32 : zR d 176 Q 32 lv (.ref 60 :: st) h = zR d 176 Q 35 lv (.ref 61 :: st) h := (q_and rfl rfl).trans (zand_t rfl)
theorem r176_35 : zR d 176 Q 35 lv st h = zR d 176 Q 36 lv (.int 1 :: st) h := q_in rfl rfl
theorem r176_36 : zR d 176 Q 36 lv (.int x :: .ref c :: st) h = zal c x h (fun w => zR d 176 Q 37 lv (.int w :: st) h) := q_iald rfl
theorem r176_37 : zR d 176 Q 37 lv st h = zR d 176 Q 39 lv (.int 14 :: st) h := q_in rfl rfl
theorem r176_39 : zR d 176 Q 39 lv (.int z :: .int x :: st) h = if x < z then zR d 176 Q 42 lv st h else zR d 176 Q 57 lv st h := q_if rfl rfl
theorem r176_42 : zR d 176 Q 42 (some (.ref c) :: l) st h = zR d 176 Q 43 (some (.ref c) :: l) (.ref c :: st) h := q_in rfl rfl
theorem r176_43 : zR d 176 Q 43 (some (.ref c) :: l) st h = zR d 176 Q 44 (some (.ref c) :: l) (.ref c :: st) h := q_in rfl rfl
theorem r176_44 : zR d 176 Q 44 lv (.ref 60 :: st) h = zR d 176 Q 47 lv (.ref 61 :: st) h := (q_and rfl rfl).trans (zand_t rfl)
theorem r176_47 : zR d 176 Q 47 lv st h = zR d 176 Q 48 lv (.int 1 :: st) h := q_in rfl rfl
theorem r176_48 : zR d 176 Q 48 lv (.int x :: .ref c :: st) h = zal c x h (fun w => zR d 176 Q 49 lv (.int w :: st) h) := q_iald rfl
theorem r176_49 : zR d 176 Q 49 lv [.int x0, .ref 60, .ref a0] h = zM d 112 [.ref 60, .int x0] h (fun r h' => zR d 176 Q 52 lv (r.toList ++ [.ref a0]) h') := (q_clV rfl rfl (Nat.le_of_ble_eq_true rfl)).trans (zand_t ⟨rfl, Nat.le_of_ble_eq_true rfl⟩)
theorem r176_52 : zR d 176 Q 52 lv st h = zR d 176 Q 53 lv (.int 4 :: st) h := q_in rfl rfl
theorem r176_53 : zR d 176 Q 53 lv (.int z :: .int x :: st) h = zR d 176 Q 54 lv (.int (x + z) :: st) h := q_in rfl rfl
theorem r176_54 : zR d 176 Q 54 lv st h = zR d 176 Q 60 lv st h := q_in rfl rfl
theorem r176_57 : zR d 176 Q 57 lv st h = zR d 176 Q 60 lv (.int 2862 :: st) h := q_in rfl rfl
theorem r176_60 : zR d 176 Q 60 lv (.int x :: .ref 60 :: st) h = zR d 176 Q 63 lv st (zhr h 60 (upd (h 60) 25 x)) := (q_and rfl rfl).trans (zand_t ⟨rfl, Or.inl rfl⟩)
theorem r176_63 : zR d 176 Q 63 (some (.ref c) :: l) st h = zR d 176 Q 64 (some (.ref c) :: l) (.ref c :: st) h := q_in rfl rfl
theorem r176_64 : zR d 176 Q 64 lv [.ref 60] h = zM d 164 [.ref 60] h (fun r h' => zR d 176 Q 67 lv (r.toList ++ []) h') := (q_clV rfl rfl (Nat.le_of_ble_eq_true rfl)).trans (zand_t ⟨rfl, Nat.le_of_ble_eq_true rfl⟩)
theorem r176_67 : zR d 176 Q 67 (some (.ref c) :: l) st h = zR d 176 Q 68 (some (.ref c) :: l) (.ref c :: st) h := q_in rfl rfl
theorem r176_68 : zR d 176 Q 68 lv [.ref 60] h = zM d 167 [.ref 60] h (fun r h' => zR d 176 Q 71 lv (r.toList ++ []) h') := (q_clV rfl rfl (Nat.le_of_ble_eq_true rfl)).trans (zand_t ⟨rfl, Nat.le_of_ble_eq_true rfl⟩)
theorem r176_71 : zR d 176 Q 71 (o0 :: o1 :: l) (.int x :: st) h = zR d 176 Q 72 (o0 :: some (.int x) :: l) st h := q_in rfl rfl
theorem r176_72 : zR d 176 Q 72 (o0 :: some (.int x) :: l) st h = zR d 176 Q 73 (o0 :: some (.int x) :: l) (.int x :: st) h := q_in rfl rfl
theorem r176_73 : zR d 176 Q 73 lv (.int x :: st) h = if x < 0 then zR d 176 Q 80 lv st h else zR d 176 Q 76 lv st h := q_if rfl rfl
theorem r176_76 : zR d 176 Q 76 lv st h = zR d 176 Q 77 lv (.int 1 :: st) h := q_in rfl rfl
theorem r176_77 : zR d 176 Q 77 lv st h = zR d 176 Q 81 lv st h := q_in rfl rfl
theorem r176_80 : zR d 176 Q 80 lv st h = zR d 176 Q 81 lv (.int 0 :: st) h := q_in rfl rfl
theorem r176_81 : zR d 176 Q 81 (o0 :: o1 :: o2 :: l) (.int x :: st) h = zR d 176 Q 82 (o0 :: o1 :: some (.int x) :: l) st h := q_in rfl rfl
theorem r176_82 : zR d 176 Q 82 (o0 :: o1 :: some (.int x) :: l) st h = zR d 176 Q 83 (o0 :: o1 :: some (.int x) :: l) (.int x :: st) h := q_in rfl rfl
theorem r176_83 : zR d 176 Q 83 lv (.int x :: st) h = if x = 0 then zR d 176 Q 111 lv st h else zR d 176 Q 86 lv st h := q_if rfl rfl
theorem r176_86 : zR d 176 Q 86 (some (.ref c) :: l) st h = zR d 176 Q 87 (some (.ref c) :: l) (.ref c :: st) h := q_in rfl rfl
theorem r176_87 : zR d 176 Q 87 lv [.ref 60] h = zM d 164 [.ref 60] h (fun r h' => zR d 176 Q 90 lv (r.toList ++ []) h') := (q_clV rfl rfl (Nat.le_of_ble_eq_true rfl)).trans (zand_t ⟨rfl, Nat.le_of_ble_eq_true rfl⟩)
theorem r176_90 : zR d 176 Q 90 (some (.ref c) :: l) st h = zR d 176 Q 91 (some (.ref c) :: l) (.ref c :: st) h := q_in rfl rfl
theorem r176_91 : zR d 176 Q 91 (o0 :: some (.int x) :: l) st h = zR d 176 Q 92 (o0 :: some (.int x) :: l) (.int x :: st) h := q_in rfl rfl
theorem r176_92 : zR d 176 Q 92 lv [.int x0, .ref 60] h = zM d 170 [.ref 60, .int x0] h (fun r h' => zR d 176 Q 95 lv (r.toList ++ []) h') := (q_clV rfl rfl (Nat.le_of_ble_eq_true rfl)).trans (zand_t ⟨rfl, Nat.le_of_ble_eq_true rfl⟩)
theorem r176_95 : zR d 176 Q 95 lv (.int x :: st) h = if x = 0 then zR d 176 Q 109 lv st h else zR d 176 Q 98 lv st h := q_if rfl rfl
theorem r176_98 : zR d 176 Q 98 (some (.ref c) :: l) st h = zR d 176 Q 99 (some (.ref c) :: l) (.ref c :: st) h := q_in rfl rfl
theorem r176_99 : zR d 176 Q 99 lv (.ref 60 :: st) h = zR d 176 Q 102 lv (.int (h 60 19) :: st) h := (q_and rfl rfl).trans (zand_t rfl)
theorem r176_102 : zR d 176 Q 102 lv (.int x :: st) h = if x = 0 then zR d 176 Q 105 lv st h else zR d 176 Q 109 lv st h := q_if rfl rfl
theorem r176_105 : zR d 176 Q 105 lv st h = zR d 176 Q 106 lv (.int 1 :: st) h := q_in rfl rfl
theorem r176_106 : zR d 176 Q 106 lv st h = zR d 176 Q 110 lv st h := q_in rfl rfl
theorem r176_109 : zR d 176 Q 109 lv st h = zR d 176 Q 110 lv (.int 0 :: st) h := q_in rfl rfl
theorem r176_110 : zR d 176 Q 110 (o0 :: o1 :: o2 :: l) (.int x :: st) h = zR d 176 Q 111 (o0 :: o1 :: some (.int x) :: l) st h := q_in rfl rfl
theorem r176_111 : zR d 176 Q 111 (some (.ref c) :: l) st h = zR d 176 Q 112 (some (.ref c) :: l) (.ref c :: st) h := q_in rfl rfl
theorem r176_112 : zR d 176 Q 112 lv st h = zR d 176 Q 113 lv (.int 0 :: st) h := q_in rfl rfl
theorem r176_113 : zR d 176 Q 113 lv (.int x :: .ref 60 :: st) h = zR d 176 Q 116 lv st (zhr h 60 (upd (h 60) 16 x)) := (q_and rfl rfl).trans (zand_t ⟨rfl, Or.inl rfl⟩)
theorem r176_116 : zR d 176 Q 116 (o0 :: o1 :: some (.int x) :: l) st h = zR d 176 Q 117 (o0 :: o1 :: some (.int x) :: l) (.int x :: st) h := q_in rfl rfl
theorem r176_117 : zR d 176 Q 117 lv (.int x :: st) h = if x = 0 then zR d 176 Q 124 lv st h else zR d 176 Q 120 lv st h := q_if rfl rfl
theorem r176_120 : zR d 176 Q 120 (o0 :: some (.int x) :: l) st h = zR d 176 Q 121 (o0 :: some (.int x) :: l) (.int x :: st) h := q_in rfl rfl
theorem r176_121 : zR d 176 Q 121 lv st h = zR d 176 Q 125 lv st h := q_in rfl rfl
theorem r176_124 : zR d 176 Q 124 lv st h = zR d 176 Q 125 lv (.int (-1) :: st) h := q_in rfl rfl
theorem r176_125 : zR d 176 Q 125 lv [.int x] h = Q (some (.int x)) h := q_retz rfl rfl (Or.inl rfl)
theorem r177_0 : zR d 177 Q 0 (some (.ref c) :: l) st h = zR d 177 Q 1 (some (.ref c) :: l) (.ref c :: st) h := q_in rfl rfl
theorem r177_1 : zR d 177 Q 1 lv [.ref 60] h = zM d 176 [.ref 60] h (fun r h' => zR d 177 Q 4 lv (r.toList ++ []) h') := (q_clV rfl rfl (Nat.le_of_ble_eq_true rfl)).trans (zand_t ⟨rfl, Nat.le_of_ble_eq_true rfl⟩)
theorem r177_4 : zR d 177 Q 4 (o0 :: o1 :: l) (.int x :: st) h = zR d 177 Q 5 (o0 :: some (.int x) :: l) st h := q_in rfl rfl
theorem r177_5 : zR d 177 Q 5 (o0 :: some (.int x) :: l) st h = zR d 177 Q 6 (o0 :: some (.int x) :: l) (.int x :: st) h := q_in rfl rfl
theorem r177_6 : zR d 177 Q 6 lv (.int x :: st) h = if x < 0 then zR d 177 Q 9 lv st h else zR d 177 Q 17 lv st h := q_if rfl rfl
theorem r177_9 : zR d 177 Q 9 lv st h = zR d 177 Q 11 lv (.int (-100) :: st) h := q_in rfl rfl
theorem r177_11 : zR d 177 Q 11 (some (.ref c) :: l) st h = zR d 177 Q 12 (some (.ref c) :: l) (.ref c :: st) h := q_in rfl rfl
theorem r177_12 : zR d 177 Q 12 lv (.ref 60 :: st) h = zR d 177 Q 15 lv (.int (h 60 17) :: st) h := (q_and rfl rfl).trans (zand_t rfl)
theorem r177_15 : zR d 177 Q 15 lv (.int z :: .int x :: st) h = zR d 177 Q 16 lv (.int (x - z) :: st) h := q_in rfl rfl
theorem r177_16 : zR d 177 Q 16 lv [.int x] h = Q (some (.int x)) h := q_retz rfl rfl (Or.inl rfl)
theorem r177_17 : zR d 177 Q 17 (some (.ref c) :: l) st h = zR d 177 Q 18 (some (.ref c) :: l) (.ref c :: st) h := q_in rfl rfl
theorem r177_18 : zR d 177 Q 18 lv (.ref 60 :: st) h = zR d 177 Q 21 lv (.ref 61 :: st) h := (q_and rfl rfl).trans (zand_t rfl)
theorem r177_21 : zR d 177 Q 21 lv st h = zR d 177 Q 22 lv (.int 1 :: st) h := q_in rfl rfl
theorem r177_22 : zR d 177 Q 22 lv (.int x :: .ref c :: st) h = zal c x h (fun w => zR d 177 Q 23 lv (.int w :: st) h) := q_iald rfl
theorem r177_23 : zR d 177 Q 23 lv st h = zR d 177 Q 25 lv (.int 14 :: st) h := q_in rfl rfl
theorem r177_25 : zR d 177 Q 25 lv (.int z :: .int x :: st) h = if x = z then zR d 177 Q 28 lv st h else zR d 177 Q 31 lv st h := q_if rfl rfl
theorem r177_28 : zR d 177 Q 28 lv st h = zR d 177 Q 30 lv (.int (-1000000003) :: st) h := q_in rfl rfl
theorem r177_30 : zR d 177 Q 30 lv [.int x] h = Q (some (.int x)) h := q_retz rfl rfl (Or.inl rfl)
theorem r177_31 : zR d 177 Q 31 (some (.ref c) :: l) st h = zR d 177 Q 32 (some (.ref c) :: l) (.ref c :: st) h := q_in rfl rfl
theorem r177_32 : zR d 177 Q 32 (some (.ref c) :: l) st h = zR d 177 Q 33 (some (.ref c) :: l) (.ref c :: st) h := q_in rfl rfl
theorem r177_33 : zR d 177 Q 33 lv (.ref 60 :: st) h = zR d 177 Q 36 lv (.ref 61 :: st) h := (q_and rfl rfl).trans (zand_t rfl)
theorem r177_36 : zR d 177 Q 36 lv st h = zR d 177 Q 37 lv (.int 1 :: st) h := q_in rfl rfl
theorem r177_37 : zR d 177 Q 37 lv (.int x :: .ref c :: st) h = zal c x h (fun w => zR d 177 Q 38 lv (.int w :: st) h) := q_iald rfl
theorem r177_38 : zR d 177 Q 38 lv [.int x0, .ref 60] h = zM d 112 [.ref 60, .int x0] h (fun r h' => zR d 177 Q 41 lv (r.toList ++ []) h') := (q_clV rfl rfl (Nat.le_of_ble_eq_true rfl)).trans (zand_t ⟨rfl, Nat.le_of_ble_eq_true rfl⟩)
theorem r177_41 : zR d 177 Q 41 (o0 :: o1 :: o2 :: l) (.int x :: st) h = zR d 177 Q 42 (o0 :: o1 :: some (.int x) :: l) st h := q_in rfl rfl
theorem r177_42 : zR d 177 Q 42 (some (.ref c) :: l) st h = zR d 177 Q 43 (some (.ref c) :: l) (.ref c :: st) h := q_in rfl rfl
theorem r177_43 : zR d 177 Q 43 lv (.ref 60 :: st) h = zR d 177 Q 46 lv (.ref 61 :: st) h := (q_and rfl rfl).trans (zand_t rfl)
theorem r177_46 : zR d 177 Q 46 (o0 :: o1 :: some (.int x) :: l) st h = zR d 177 Q 47 (o0 :: o1 :: some (.int x) :: l) (.int x :: st) h := q_in rfl rfl
theorem r177_47 : zR d 177 Q 47 lv st h = zR d 177 Q 48 lv (.int 0 :: st) h := q_in rfl rfl
theorem r177_48 : zR d 177 Q 48 lv (.int z :: .int x :: st) h = zR d 177 Q 49 lv (.int (x + z) :: st) h := q_in rfl rfl
theorem r177_49 : zR d 177 Q 49 (o0 :: some (.int x) :: l) st h = zR d 177 Q 50 (o0 :: some (.int x) :: l) (.int x :: st) h := q_in rfl rfl
theorem r177_50 : zR d 177 Q 50 lv (.int z :: .int x :: .ref c :: st) h = zas c x z h (fun h' => zR d 177 Q 51 lv st h') := q_iast rfl
theorem r177_51 : zR d 177 Q 51 (some (.ref c) :: l) st h = zR d 177 Q 52 (some (.ref c) :: l) (.ref c :: st) h := q_in rfl rfl
theorem r177_52 : zR d 177 Q 52 lv (.ref 60 :: st) h = zR d 177 Q 55 lv (.ref 61 :: st) h := (q_and rfl rfl).trans (zand_t rfl)
theorem r177_55 : zR d 177 Q 55 (o0 :: o1 :: some (.int x) :: l) st h = zR d 177 Q 56 (o0 :: o1 :: some (.int x) :: l) (.int x :: st) h := q_in rfl rfl
theorem r177_56 : zR d 177 Q 56 lv st h = zR d 177 Q 57 lv (.int 1 :: st) h := q_in rfl rfl
theorem r177_57 : zR d 177 Q 57 lv (.int z :: .int x :: st) h = zR d 177 Q 58 lv (.int (x + z) :: st) h := q_in rfl rfl
theorem r177_58 : zR d 177 Q 58 (some (.ref c) :: l) st h = zR d 177 Q 59 (some (.ref c) :: l) (.ref c :: st) h := q_in rfl rfl
theorem r177_59 : zR d 177 Q 59 lv (.ref 60 :: st) h = zR d 177 Q 62 lv (.int (h 60 26) :: st) h := (q_and rfl rfl).trans (zand_t rfl)
theorem r177_62 : zR d 177 Q 62 lv (.int z :: .int x :: .ref c :: st) h = zas c x z h (fun h' => zR d 177 Q 63 lv st h') := q_iast rfl
theorem r177_63 : zR d 177 Q 63 (some (.ref c) :: l) st h = zR d 177 Q 64 (some (.ref c) :: l) (.ref c :: st) h := q_in rfl rfl
theorem r177_64 : zR d 177 Q 64 lv (.ref 60 :: st) h = zR d 177 Q 67 lv (.ref 61 :: st) h := (q_and rfl rfl).trans (zand_t rfl)
theorem r177_67 : zR d 177 Q 67 (o0 :: o1 :: some (.int x) :: l) st h = zR d 177 Q 68 (o0 :: o1 :: some (.int x) :: l) (.int x :: st) h := q_in rfl rfl
theorem r177_68 : zR d 177 Q 68 lv st h = zR d 177 Q 69 lv (.int 2 :: st) h := q_in rfl rfl
theorem r177_69 : zR d 177 Q 69 lv (.int z :: .int x :: st) h = zR d 177 Q 70 lv (.int (x + z) :: st) h := q_in rfl rfl
theorem r177_70 : zR d 177 Q 70 (some (.ref c) :: l) st h = zR d 177 Q 71 (some (.ref c) :: l) (.ref c :: st) h := q_in rfl rfl
theorem r177_71 : zR d 177 Q 71 lv (.ref 60 :: st) h = zR d 177 Q 74 lv (.int (h 60 24) :: st) h := (q_and rfl rfl).trans (zand_t rfl)
theorem r177_74 : zR d 177 Q 74 lv (.int z :: .int x :: .ref c :: st) h = zas c x z h (fun h' => zR d 177 Q 75 lv st h') := q_iast rfl
theorem r177_75 : zR d 177 Q 75 (some (.ref c) :: l) st h = zR d 177 Q 76 (some (.ref c) :: l) (.ref c :: st) h := q_in rfl rfl
theorem r177_76 : zR d 177 Q 76 lv (.ref 60 :: st) h = zR d 177 Q 79 lv (.ref 61 :: st) h := (q_and rfl rfl).trans (zand_t rfl)
theorem r177_79 : zR d 177 Q 79 lv st h = zR d 177 Q 80 lv (.int 1 :: st) h := q_in rfl rfl
theorem r177_80 : zR d 177 Q 80 lv (.int x :: .ref c :: st) h = zR d 177 Q 81 lv (.int x :: .ref c :: .int x :: .ref c :: st) h := q_in rfl rfl
theorem r177_81 : zR d 177 Q 81 lv (.int x :: .ref c :: st) h = zal c x h (fun w => zR d 177 Q 82 lv (.int w :: st) h) := q_iald rfl
theorem r177_82 : zR d 177 Q 82 lv st h = zR d 177 Q 83 lv (.int 1 :: st) h := q_in rfl rfl
theorem r177_83 : zR d 177 Q 83 lv (.int z :: .int x :: st) h = zR d 177 Q 84 lv (.int (x + z) :: st) h := q_in rfl rfl
theorem r177_84 : zR d 177 Q 84 lv (.int z :: .int x :: .ref c :: st) h = zas c x z h (fun h' => zR d 177 Q 85 lv st h') := q_iast rfl
theorem r177_85 : zR d 177 Q 85 (some (.ref c) :: l) st h = zR d 177 Q 86 (some (.ref c) :: l) (.ref c :: st) h := q_in rfl rfl
theorem r177_86 : zR d 177 Q 86 lv (.ref 60 :: st) h = zR d 177 Q 89 lv (.ref 61 :: st) h := (q_and rfl rfl).trans (zand_t rfl)
theorem r177_89 : zR d 177 Q 89 lv st h = zR d 177 Q 90 lv (.int 1 :: st) h := q_in rfl rfl
theorem r177_90 : zR d 177 Q 90 lv (.int x :: .ref c :: st) h = zal c x h (fun w => zR d 177 Q 91 lv (.int w :: st) h) := q_iald rfl
theorem r177_91 : zR d 177 Q 91 lv st h = zR d 177 Q 92 lv (.int 1 :: st) h := q_in rfl rfl
theorem r177_92 : zR d 177 Q 92 lv (.int z :: .int x :: st) h = zR d 177 Q 93 lv (.int (x - z) :: st) h := q_in rfl rfl
theorem r177_93 : zR d 177 Q 93 lv [.int x] h = Q (some (.int x)) h := q_retz rfl rfl (Or.inl rfl)
theorem r178_0 : zR d 178 Q 0 (some (.ref c) :: l) st h = zR d 178 Q 1 (some (.ref c) :: l) (.ref c :: st) h := q_in rfl rfl
theorem r178_1 : zR d 178 Q 1 (o0 :: some (.int x) :: l) st h = zR d 178 Q 2 (o0 :: some (.int x) :: l) (.int x :: st) h := q_in rfl rfl
theorem r178_2 : zR d 178 Q 2 lv [.int x0, .ref 60] h = zM d 116 [.ref 60, .int x0] h (fun r h' => zR d 178 Q 5 lv (r.toList ++ []) h') := (q_clV rfl rfl (Nat.le_of_ble_eq_true rfl)).trans (zand_t ⟨rfl, Nat.le_of_ble_eq_true rfl⟩)
theorem r178_5 : zR d 178 Q 5 lv (.int x :: st) h = if x = 0 then zR d 178 Q 18 lv st h else zR d 178 Q 8 lv st h := q_if rfl rfl
theorem r178_8 : zR d 178 Q 8 (o0 :: o1 :: some (.int x) :: l) st h = zR d 178 Q 9 (o0 :: o1 :: some (.int x) :: l) (.int x :: st) h := q_in rfl rfl
theorem r178_9 : zR d 178 Q 9 lv (.int x :: st) h = zR d 178 Q 10 lv (.long x.toInt64 :: st) h := q_in rfl rfl
theorem r178_10 : zR d 178 Q 10 lv st h = zR d 178 Q 11 lv (.long (Int32.toInt64 0) :: st) h := q_in rfl rfl
theorem r178_11 : zR d 178 Q 11 lv st h = zR d 178 Q 12 lv (.long (Int32.toInt64 1) :: st) h := q_in rfl rfl
theorem r178_12 : zR d 178 Q 12 lv [.long j2, .long j1, .long j0] h = zM d 106 [.long j0, .long j1, .long j2] h (fun r h' => zR d 178 Q 15 lv (r.toList ++ []) h') := q_clS rfl rfl ⟨Nat.le_of_ble_eq_true rfl, Nat.le_of_ble_eq_true rfl⟩
theorem r178_15 : zR d 178 Q 15 lv (.int x :: st) h = if x = 0 then zR d 178 Q 18 lv st h else zR d 178 Q 21 lv st h := q_if rfl rfl
theorem r178_18 : zR d 178 Q 18 lv st h = zR d 178 Q 20 lv (.int (-1000000001) :: st) h := q_in rfl rfl
theorem r178_20 : zR d 178 Q 20 lv [.int x] h = Q (some (.int x)) h := q_retz rfl rfl (Or.inl rfl)
theorem r178_21 : zR d 178 Q 21 (some (.ref c) :: l) st h = zR d 178 Q 22 (some (.ref c) :: l) (.ref c :: st) h := q_in rfl rfl
theorem r178_22 : zR d 178 Q 22 lv (.ref 60 :: st) h = zR d 178 Q 25 lv (.ref 61 :: st) h := (q_and rfl rfl).trans (zand_t rfl)
theorem r178_25 : zR d 178 Q 25 (some (.ref c) :: l) st h = zR d 178 Q 26 (some (.ref c) :: l) (.ref c :: st) h := q_in rfl rfl
theorem r178_26 : zR d 178 Q 26 (o0 :: some (.int x) :: l) st h = zR d 178 Q 27 (o0 :: some (.int x) :: l) (.int x :: st) h := q_in rfl rfl
theorem r178_27 : zR d 178 Q 27 lv [.int x0, .ref 60, .ref a0] h = zM d 112 [.ref 60, .int x0] h (fun r h' => zR d 178 Q 30 lv (r.toList ++ [.ref a0]) h') := (q_clV rfl rfl (Nat.le_of_ble_eq_true rfl)).trans (zand_t ⟨rfl, Nat.le_of_ble_eq_true rfl⟩)
theorem r178_30 : zR d 178 Q 30 (o0 :: o1 :: some (.int x) :: l) st h = zR d 178 Q 31 (o0 :: o1 :: some (.int x) :: l) (.int x :: st) h := q_in rfl rfl
theorem r178_31 : zR d 178 Q 31 lv (.int z :: .int x :: st) h = zR d 178 Q 32 lv (.int (x + z) :: st) h := q_in rfl rfl
theorem r178_32 : zR d 178 Q 32 lv (.int x :: .ref c :: st) h = zal c x h (fun w => zR d 178 Q 33 lv (.int w :: st) h) := q_iald rfl
theorem r178_33 : zR d 178 Q 33 lv [.int x] h = Q (some (.int x)) h := q_retz rfl rfl (Or.inl rfl)
theorem r179_0 : zR d 179 Q 0 lv st h = zR d 179 Q 1 lv (.int (-1) :: st) h := q_in rfl rfl
theorem r179_1 : zR d 179 Q 1 (o0 :: o1 :: o2 :: l) (.int x :: st) h = zR d 179 Q 2 (o0 :: o1 :: some (.int x) :: l) st h := q_in rfl rfl
theorem r179_2 : zR d 179 Q 2 lv st h = zR d 179 Q 3 lv (.int 0 :: st) h := q_in rfl rfl
theorem r179_3 : zR d 179 Q 3 (o0 :: o1 :: o2 :: o3 :: l) (.int x :: st) h = zR d 179 Q 4 (o0 :: o1 :: o2 :: some (.int x) :: l) st h := q_in rfl rfl
theorem r179_4 : zR d 179 Q 4 (o0 :: o1 :: o2 :: some (.int x) :: l) st h = zR d 179 Q 5 (o0 :: o1 :: o2 :: some (.int x) :: l) (.int x :: st) h := q_in rfl rfl
theorem r179_5 : zR d 179 Q 5 (some (.ref c) :: l) st h = zR d 179 Q 6 (some (.ref c) :: l) (.ref c :: st) h := q_in rfl rfl
theorem r179_6 : zR d 179 Q 6 lv (.ref 60 :: st) h = zR d 179 Q 9 lv (.ref 61 :: st) h := (q_and rfl rfl).trans (zand_t rfl)
theorem r179_9 : zR d 179 Q 9 lv st h = zR d 179 Q 10 lv (.int 1 :: st) h := q_in rfl rfl
theorem r179_10 : zR d 179 Q 10 lv (.int x :: .ref c :: st) h = zal c x h (fun w => zR d 179 Q 11 lv (.int w :: st) h) := q_iald rfl
theorem r179_11 : zR d 179 Q 11 lv (.int z :: .int x :: st) h = if x < z then zR d 179 Q 14 lv st h else zR d 179 Q 40 lv st h := q_if rfl rfl
theorem r179_14 : zR d 179 Q 14 (some (.ref c) :: l) st h = zR d 179 Q 15 (some (.ref c) :: l) (.ref c :: st) h := q_in rfl rfl
theorem r179_15 : zR d 179 Q 15 lv (.ref 60 :: st) h = zR d 179 Q 18 lv (.ref 61 :: st) h := (q_and rfl rfl).trans (zand_t rfl)
theorem r179_18 : zR d 179 Q 18 (some (.ref c) :: l) st h = zR d 179 Q 19 (some (.ref c) :: l) (.ref c :: st) h := q_in rfl rfl
theorem r179_19 : zR d 179 Q 19 (o0 :: o1 :: o2 :: some (.int x) :: l) st h = zR d 179 Q 20 (o0 :: o1 :: o2 :: some (.int x) :: l) (.int x :: st) h := q_in rfl rfl
theorem r179_20 : zR d 179 Q 20 lv [.int x0, .ref 60, .ref a0] h = zM d 112 [.ref 60, .int x0] h (fun r h' => zR d 179 Q 23 lv (r.toList ++ [.ref a0]) h') := (q_clV rfl rfl (Nat.le_of_ble_eq_true rfl)).trans (zand_t ⟨rfl, Nat.le_of_ble_eq_true rfl⟩)
theorem r179_23 : zR d 179 Q 23 lv (.int x :: .ref c :: st) h = zal c x h (fun w => zR d 179 Q 24 lv (.int w :: st) h) := q_iald rfl
theorem r179_24 : zR d 179 Q 24 (o0 :: some (.int x) :: l) st h = zR d 179 Q 25 (o0 :: some (.int x) :: l) (.int x :: st) h := q_in rfl rfl
theorem r179_25 : zR d 179 Q 25 lv (.int z :: .int x :: st) h = if x = z then zR d 179 Q 28 lv st h else zR d 179 Q 32 lv st h := q_if rfl rfl
theorem r179_28 : zR d 179 Q 28 (o0 :: o1 :: o2 :: some (.int x) :: l) st h = zR d 179 Q 29 (o0 :: o1 :: o2 :: some (.int x) :: l) (.int x :: st) h := q_in rfl rfl
theorem r179_29 : zR d 179 Q 29 lv st h = zR d 179 Q 33 lv st h := q_in rfl rfl
theorem r179_32 : zR d 179 Q 32 (o0 :: o1 :: some (.int x) :: l) st h = zR d 179 Q 33 (o0 :: o1 :: some (.int x) :: l) (.int x :: st) h := q_in rfl rfl
theorem r179_33 : zR d 179 Q 33 (o0 :: o1 :: o2 :: l) (.int x :: st) h = zR d 179 Q 34 (o0 :: o1 :: some (.int x) :: l) st h := q_in rfl rfl
theorem r179_34 : zR d 179 Q 34 (o0 :: o1 :: o2 :: some (.int x) :: l) st h = zR d 179 Q 37 (o0 :: o1 :: o2 :: some (.int (x + 1)) :: l) st h := q_in rfl rfl
theorem r179_37 : zR d 179 Q 37 lv st h = zR d 179 Q 4 lv st h := q_in rfl rfl
theorem r179_40 : zR d 179 Q 40 (o0 :: o1 :: some (.int x) :: l) st h = zR d 179 Q 41 (o0 :: o1 :: some (.int x) :: l) (.int x :: st) h := q_in rfl rfl
theorem r179_41 : zR d 179 Q 41 lv [.int x] h = Q (some (.int x)) h := q_retz rfl rfl (Or.inl rfl)
theorem r180_0 : zR d 180 Q 0 (o0 :: some (.int x) :: l) st h = zR d 180 Q 1 (o0 :: some (.int x) :: l) (.int x :: st) h := q_in rfl rfl
theorem r180_1 : zR d 180 Q 1 lv (.int x :: st) h = zR d 180 Q 2 lv (.long x.toInt64 :: st) h := q_in rfl rfl
theorem r180_2 : zR d 180 Q 2 lv st h = zR d 180 Q 3 lv (.long (Int32.toInt64 0) :: st) h := q_in rfl rfl
theorem r180_3 : zR d 180 Q 3 lv st h = zR d 180 Q 6 lv (.long (Int32.toInt64 2) :: st) h := q_in rfl rfl
theorem r180_6 : zR d 180 Q 6 lv [.long j2, .long j1, .long j0] h = zM d 106 [.long j0, .long j1, .long j2] h (fun r h' => zR d 180 Q 9 lv (r.toList ++ []) h') := q_clS rfl rfl ⟨Nat.le_of_ble_eq_true rfl, Nat.le_of_ble_eq_true rfl⟩
theorem r180_9 : zR d 180 Q 9 lv (.int x :: st) h = if x = 0 then zR d 180 Q 23 lv st h else zR d 180 Q 12 lv st h := q_if rfl rfl
theorem r180_12 : zR d 180 Q 12 (some (.ref c) :: l) st h = zR d 180 Q 13 (some (.ref c) :: l) (.ref c :: st) h := q_in rfl rfl
theorem r180_13 : zR d 180 Q 13 (o0 :: some (.int x) :: l) st h = zR d 180 Q 14 (o0 :: some (.int x) :: l) (.int x :: st) h := q_in rfl rfl
theorem r180_14 : zR d 180 Q 14 lv [.int x0, .ref 60] h = zM d 179 [.ref 60, .int x0] h (fun r h' => zR d 180 Q 17 lv (r.toList ++ []) h') := (q_clV rfl rfl (Nat.le_of_ble_eq_true rfl)).trans (zand_t ⟨rfl, Nat.le_of_ble_eq_true rfl⟩)
theorem r180_17 : zR d 180 Q 17 lv [.int x0] h = zM d 107 [.int x0] h (fun r h' => zR d 180 Q 20 lv (r.toList ++ []) h') := q_clS rfl rfl ⟨Nat.le_of_ble_eq_true rfl, Nat.le_of_ble_eq_true rfl⟩
theorem r180_20 : zR d 180 Q 20 lv st h = zR d 180 Q 25 lv st h := q_in rfl rfl
theorem r180_23 : zR d 180 Q 23 lv st h = zR d 180 Q 25 lv (.int (-1000000001) :: st) h := q_in rfl rfl
theorem r180_25 : zR d 180 Q 25 lv [.int x] h = Q (some (.int x)) h := q_retz rfl rfl (Or.inl rfl)
theorem r181_0 : zR d 181 Q 0 (some (.int x) :: l) st h = zR d 181 Q 1 (some (.int x) :: l) (.int x :: st) h := q_in rfl rfl
theorem r181_1 : zR d 181 Q 1 lv (.int x :: st) h = if x = 38 then zR d 181 Q 183 lv st h else if x = 39 then zR d 181 Q 197 lv st h else if x = 40 then zR d 181 Q 197 lv st h else if x = 41 then zR d 181 Q 197 lv st h else if x = 42 then zR d 181 Q 124 lv st h else if x = 43 then zR d 181 Q 116 lv st h else if x = 44 then zR d 181 Q 197 lv st h else if x = 45 then zR d 181 Q 120 lv st h else if x = 46 then zR d 181 Q 197 lv st h else if x = 47 then zR d 181 Q 128 lv st h else if x = 48 then zR d 181 Q 197 lv st h else if x = 49 then zR d 181 Q 197 lv st h else if x = 50 then zR d 181 Q 197 lv st h else if x = 51 then zR d 181 Q 197 lv st h else if x = 52 then zR d 181 Q 197 lv st h else if x = 53 then zR d 181 Q 197 lv st h else if x = 54 then zR d 181 Q 197 lv st h else if x = 55 then zR d 181 Q 197 lv st h else if x = 56 then zR d 181 Q 197 lv st h else if x = 57 then zR d 181 Q 197 lv st h else if x = 58 then zR d 181 Q 197 lv st h else if x = 59 then zR d 181 Q 197 lv st h else if x = 60 then zR d 181 Q 150 lv st h else if x = 61 then zR d 181 Q 172 lv st h else if x = 62 then zR d 181 Q 161 lv st h else zR d 181 Q 197 lv st h := (q_in rfl rfl).trans (by simp only [zsw, zR_ite])
theorem r181_116 : zR d 181 Q 116 (o0 :: some (.int x) :: l) st h = zR d 181 Q 117 (o0 :: some (.int x) :: l) (.int x :: st) h := q_in rfl rfl
theorem r181_117 : zR d 181 Q 117 (o0 :: o1 :: some (.int x) :: l) st h = zR d 181 Q 118 (o0 :: o1 :: some (.int x) :: l) (.int x :: st) h := q_in rfl rfl
theorem r181_118 : zR d 181 Q 118 lv (.int z :: .int x :: st) h = zR d 181 Q 119 lv (.int (x + z) :: st) h := q_in rfl rfl
theorem r181_119 : zR d 181 Q 119 lv [.int x] h = Q (some (.int x)) h := q_retz rfl rfl (Or.inl rfl)
theorem r181_120 : zR d 181 Q 120 (o0 :: some (.int x) :: l) st h = zR d 181 Q 121 (o0 :: some (.int x) :: l) (.int x :: st) h := q_in rfl rfl
theorem r181_121 : zR d 181 Q 121 (o0 :: o1 :: some (.int x) :: l) st h = zR d 181 Q 122 (o0 :: o1 :: some (.int x) :: l) (.int x :: st) h := q_in rfl rfl
theorem r181_122 : zR d 181 Q 122 lv (.int z :: .int x :: st) h = zR d 181 Q 123 lv (.int (x - z) :: st) h := q_in rfl rfl
theorem r181_123 : zR d 181 Q 123 lv [.int x] h = Q (some (.int x)) h := q_retz rfl rfl (Or.inl rfl)
theorem r181_124 : zR d 181 Q 124 (o0 :: some (.int x) :: l) st h = zR d 181 Q 125 (o0 :: some (.int x) :: l) (.int x :: st) h := q_in rfl rfl
theorem r181_125 : zR d 181 Q 125 (o0 :: o1 :: some (.int x) :: l) st h = zR d 181 Q 126 (o0 :: o1 :: some (.int x) :: l) (.int x :: st) h := q_in rfl rfl
theorem r181_126 : zR d 181 Q 126 lv (.int z :: .int x :: st) h = zR d 181 Q 127 lv (.int (x * z) :: st) h := q_in rfl rfl
theorem r181_127 : zR d 181 Q 127 lv [.int x] h = Q (some (.int x)) h := q_retz rfl rfl (Or.inl rfl)
theorem r181_128 : zR d 181 Q 128 (o0 :: o1 :: some (.int x) :: l) st h = zR d 181 Q 129 (o0 :: o1 :: some (.int x) :: l) (.int x :: st) h := q_in rfl rfl
theorem r181_129 : zR d 181 Q 129 lv (.int x :: st) h = if x = 0 then zR d 181 Q 132 lv st h else zR d 181 Q 136 lv st h := q_if rfl rfl
theorem r181_132 : zR d 181 Q 132 lv st h = zR d 181 Q 133 lv (.int 0 :: st) h := q_in rfl rfl
theorem r181_133 : zR d 181 Q 133 lv st h = zR d 181 Q 149 lv st h := q_in rfl rfl
theorem r181_136 : zR d 181 Q 136 (o0 :: o1 :: some (.int x) :: l) st h = zR d 181 Q 137 (o0 :: o1 :: some (.int x) :: l) (.int x :: st) h := q_in rfl rfl
theorem r181_137 : zR d 181 Q 137 lv st h = zR d 181 Q 138 lv (.int (-1) :: st) h := q_in rfl rfl
theorem r181_138 : zR d 181 Q 138 lv (.int z :: .int x :: st) h = if x = z then zR d 181 Q 141 lv st h else zR d 181 Q 146 lv st h := q_if rfl rfl
theorem r181_141 : zR d 181 Q 141 (o0 :: some (.int x) :: l) st h = zR d 181 Q 142 (o0 :: some (.int x) :: l) (.int x :: st) h := q_in rfl rfl
theorem r181_142 : zR d 181 Q 142 lv (.int x :: st) h = zR d 181 Q 143 lv (.int (-x) :: st) h := q_in rfl rfl
theorem r181_143 : zR d 181 Q 143 lv st h = zR d 181 Q 149 lv st h := q_in rfl rfl
theorem r181_146 : zR d 181 Q 146 (o0 :: some (.int x) :: l) st h = zR d 181 Q 147 (o0 :: some (.int x) :: l) (.int x :: st) h := q_in rfl rfl
theorem r181_147 : zR d 181 Q 147 (o0 :: o1 :: some (.int x) :: l) st h = zR d 181 Q 148 (o0 :: o1 :: some (.int x) :: l) (.int x :: st) h := q_in rfl rfl
theorem r181_148 : zR d 181 Q 148 lv (.int z :: .int x :: st) h = (¬ z = 0 ∧ zR d 181 Q 149 lv (.int (x / z) :: st) h) := q_and rfl rfl
theorem r181_149 : zR d 181 Q 149 lv [.int x] h = Q (some (.int x)) h := q_retz rfl rfl (Or.inl rfl)
theorem r181_150 : zR d 181 Q 150 (o0 :: some (.int x) :: l) st h = zR d 181 Q 151 (o0 :: some (.int x) :: l) (.int x :: st) h := q_in rfl rfl
theorem r181_151 : zR d 181 Q 151 (o0 :: o1 :: some (.int x) :: l) st h = zR d 181 Q 152 (o0 :: o1 :: some (.int x) :: l) (.int x :: st) h := q_in rfl rfl
theorem r181_152 : zR d 181 Q 152 lv (.int z :: .int x :: st) h = if x < z then zR d 181 Q 155 lv st h else zR d 181 Q 159 lv st h := q_if rfl rfl
theorem r181_155 : zR d 181 Q 155 lv st h = zR d 181 Q 156 lv (.int 1 :: st) h := q_in rfl rfl
theorem r181_156 : zR d 181 Q 156 lv st h = zR d 181 Q 160 lv st h := q_in rfl rfl
theorem r181_159 : zR d 181 Q 159 lv st h = zR d 181 Q 160 lv (.int 0 :: st) h := q_in rfl rfl
theorem r181_160 : zR d 181 Q 160 lv [.int x] h = Q (some (.int x)) h := q_retz rfl rfl (Or.inl rfl)
theorem r181_161 : zR d 181 Q 161 (o0 :: some (.int x) :: l) st h = zR d 181 Q 162 (o0 :: some (.int x) :: l) (.int x :: st) h := q_in rfl rfl
theorem r181_162 : zR d 181 Q 162 (o0 :: o1 :: some (.int x) :: l) st h = zR d 181 Q 163 (o0 :: o1 :: some (.int x) :: l) (.int x :: st) h := q_in rfl rfl
theorem r181_163 : zR d 181 Q 163 lv (.int z :: .int x :: st) h = if x ≤ z then zR d 181 Q 170 lv st h else zR d 181 Q 166 lv st h := q_if rfl rfl
theorem r181_166 : zR d 181 Q 166 lv st h = zR d 181 Q 167 lv (.int 1 :: st) h := q_in rfl rfl
theorem r181_167 : zR d 181 Q 167 lv st h = zR d 181 Q 171 lv st h := q_in rfl rfl
theorem r181_170 : zR d 181 Q 170 lv st h = zR d 181 Q 171 lv (.int 0 :: st) h := q_in rfl rfl
theorem r181_171 : zR d 181 Q 171 lv [.int x] h = Q (some (.int x)) h := q_retz rfl rfl (Or.inl rfl)
theorem r181_172 : zR d 181 Q 172 (o0 :: some (.int x) :: l) st h = zR d 181 Q 173 (o0 :: some (.int x) :: l) (.int x :: st) h := q_in rfl rfl
theorem r181_173 : zR d 181 Q 173 (o0 :: o1 :: some (.int x) :: l) st h = zR d 181 Q 174 (o0 :: o1 :: some (.int x) :: l) (.int x :: st) h := q_in rfl rfl
theorem r181_174 : zR d 181 Q 174 lv (.int z :: .int x :: st) h = if x = z then zR d 181 Q 177 lv st h else zR d 181 Q 181 lv st h := q_if rfl rfl
theorem r181_177 : zR d 181 Q 177 lv st h = zR d 181 Q 178 lv (.int 1 :: st) h := q_in rfl rfl
theorem r181_178 : zR d 181 Q 178 lv st h = zR d 181 Q 182 lv st h := q_in rfl rfl
theorem r181_181 : zR d 181 Q 181 lv st h = zR d 181 Q 182 lv (.int 0 :: st) h := q_in rfl rfl
theorem r181_182 : zR d 181 Q 182 lv [.int x] h = Q (some (.int x)) h := q_retz rfl rfl (Or.inl rfl)
theorem r181_183 : zR d 181 Q 183 (o0 :: some (.int x) :: l) st h = zR d 181 Q 184 (o0 :: some (.int x) :: l) (.int x :: st) h := q_in rfl rfl
theorem r181_184 : zR d 181 Q 184 lv (.int x :: st) h = if x = 0 then zR d 181 Q 195 lv st h else zR d 181 Q 187 lv st h := q_if rfl rfl
theorem r181_187 : zR d 181 Q 187 (o0 :: o1 :: some (.int x) :: l) st h = zR d 181 Q 188 (o0 :: o1 :: some (.int x) :: l) (.int x :: st) h := q_in rfl rfl
theorem r181_188 : zR d 181 Q 188 lv (.int x :: st) h = if x = 0 then zR d 181 Q 195 lv st h else zR d 181 Q 191 lv st h := q_if rfl rfl
theorem r181_191 : zR d 181 Q 191 lv st h = zR d 181 Q 192 lv (.int 1 :: st) h := q_in rfl rfl
theorem r181_192 : zR d 181 Q 192 lv st h = zR d 181 Q 196 lv st h := q_in rfl rfl
theorem r181_195 : zR d 181 Q 195 lv st h = zR d 181 Q 196 lv (.int 0 :: st) h := q_in rfl rfl
theorem r181_196 : zR d 181 Q 196 lv [.int x] h = Q (some (.int x)) h := q_retz rfl rfl (Or.inl rfl)
theorem r181_197 : zR d 181 Q 197 (o0 :: some (.int x) :: l) st h = zR d 181 Q 198 (o0 :: some (.int x) :: l) (.int x :: st) h := q_in rfl rfl
theorem r181_198 : zR d 181 Q 198 lv (.int x :: st) h = if x = 0 then zR d 181 Q 201 lv st h else zR d 181 Q 205 lv st h := q_if rfl rfl
theorem r181_201 : zR d 181 Q 201 (o0 :: o1 :: some (.int x) :: l) st h = zR d 181 Q 202 (o0 :: o1 :: some (.int x) :: l) (.int x :: st) h := q_in rfl rfl
theorem r181_202 : zR d 181 Q 202 lv (.int x :: st) h = if x = 0 then zR d 181 Q 209 lv st h else zR d 181 Q 205 lv st h := q_if rfl rfl
theorem r181_205 : zR d 181 Q 205 lv st h = zR d 181 Q 206 lv (.int 1 :: st) h := q_in rfl rfl
theorem r181_206 : zR d 181 Q 206 lv st h = zR d 181 Q 210 lv st h := q_in rfl rfl
theorem r181_209 : zR d 181 Q 209 lv st h = zR d 181 Q 210 lv (.int 0 :: st) h := q_in rfl rfl
theorem r181_210 : zR d 181 Q 210 lv [.int x] h = Q (some (.int x)) h := q_retz rfl rfl (Or.inl rfl)
end
