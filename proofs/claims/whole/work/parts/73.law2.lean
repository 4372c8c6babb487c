/-! the law, an equation an instruction -/
section
variable {d : Nat} {Q : Option Value → zH → Prop} {lv l : zL} {st : zS} {h : zH} {x z : Int32} {c : Nat} {i j : Int64} {o0 o1 o2 o3 o4 o5 o6 o7 o8 o9 o10 o11 o12 : Option Value} {x0 x1 x2 x3 x4 y0 y1 y2 y3 : Int32} {c0 c1 c2 c3 c4 a0 a1 a2 a3 : Nat} {j0 j1 j2 k0 k1 : Int64}

set_option maxRecDepth 100000 in
theorem r300_1021 : zR d 300 Q 1021 lv [.int x2, .int x1, .int x0, .ref 60, .int y0] h = zM d 185 [.ref 60, .int x0, .int x1, .int x2] h (fun r h' => zR d 300 Q 1024 lv (r.toList ++ [.int y0]) h') := (q_clV rfl rfl (Nat.le_of_ble_eq_true rfl)).trans (zand_t ⟨rfl, Nat.le_of_ble_eq_true rfl⟩)
set_option maxRecDepth 100000 in
theorem r300_1024 : zR d 300 Q 1024 lv (.int z :: .int x :: st) h = if x = z then zR d 300 Q 1375 lv st h else zR d 300 Q 1027 lv st h := q_if rfl rfl
set_option maxRecDepth 100000 in
theorem r300_1027 : zR d 300 Q 1027 lv st h = zR d 300 Q 1028 lv (.int 0 :: st) h := q_in rfl rfl
set_option maxRecDepth 100000 in
theorem r300_1028f : zR d 300 Q 1028 lv [.int 0] h = Q (some (.int 0)) h := q_retz rfl rfl (Or.inr (Or.inl rfl))
set_option maxRecDepth 100000 in
theorem r300_1028t : zR d 300 Q 1028 lv [.int 1] h = Q (some (.int 1)) h := q_retz rfl rfl (Or.inr (Or.inr rfl))
set_option maxRecDepth 100000 in
theorem r300_1029 : zR d 300 Q 1029 (o0 :: some (.ref c) :: l) st h = zR d 300 Q 1030 (o0 :: some (.ref c) :: l) (.ref c :: st) h := q_in rfl rfl
set_option maxRecDepth 100000 in
theorem r300_1030 : zR d 300 Q 1030 (some (.ref c) :: l) st h = zR d 300 Q 1031 (some (.ref c) :: l) (.ref c :: st) h := q_in rfl rfl
set_option maxRecDepth 100000 in
theorem r300_1031 : zR d 300 Q 1031 (o0 :: o1 :: o2 :: some (.int x) :: l) st h = zR d 300 Q 1032 (o0 :: o1 :: o2 :: some (.int x) :: l) (.int x :: st) h := q_in rfl rfl
set_option maxRecDepth 100000 in
theorem r300_1032 : zR d 300 Q 1032 lv st h = zR d 300 Q 1033 lv (.int 1 :: st) h := q_in rfl rfl
set_option maxRecDepth 100000 in
theorem r300_1033 : zR d 300 Q 1033 lv (.int z :: .int x :: st) h = zR d 300 Q 1034 lv (.int (x + z) :: st) h := q_in rfl rfl
set_option maxRecDepth 100000 in
theorem r300_1034 : zR d 300 Q 1034 lv (.int x :: .ref c :: st) h = zal c x h (fun w => zR d 300 Q 1035 lv (.int w :: st) h) := q_iald rfl
set_option maxRecDepth 100000 in
theorem r300_1035 : zR d 300 Q 1035 lv [.int x0, .ref 0] h = zM d 88 [.ref 0, .int x0] h (fun r h' => zR d 300 Q 1038 lv (r.toList ++ []) h') := (q_clV rfl rfl (Nat.le_of_ble_eq_true rfl)).trans (zand_t ⟨rfl, Nat.le_of_ble_eq_true rfl⟩)
set_option maxRecDepth 100000 in
theorem r300_1038 : zR d 300 Q 1038 (o0 :: o1 :: some (.ref c) :: l) st h = zR d 300 Q 1039 (o0 :: o1 :: some (.ref c) :: l) (.ref c :: st) h := q_in rfl rfl
set_option maxRecDepth 100000 in
theorem r300_1039 : zR d 300 Q 1039 (some (.ref c) :: l) st h = zR d 300 Q 1040 (some (.ref c) :: l) (.ref c :: st) h := q_in rfl rfl
set_option maxRecDepth 100000 in
theorem r300_1040 : zR d 300 Q 1040 (o0 :: o1 :: o2 :: some (.int x) :: l) st h = zR d 300 Q 1041 (o0 :: o1 :: o2 :: some (.int x) :: l) (.int x :: st) h := q_in rfl rfl
set_option maxRecDepth 100000 in
theorem r300_1041 : zR d 300 Q 1041 lv st h = zR d 300 Q 1042 lv (.int 1 :: st) h := q_in rfl rfl
set_option maxRecDepth 100000 in
theorem r300_1042 : zR d 300 Q 1042 lv (.int z :: .int x :: st) h = zR d 300 Q 1043 lv (.int (x + z) :: st) h := q_in rfl rfl
set_option maxRecDepth 100000 in
theorem r300_1043 : zR d 300 Q 1043 lv (.int x :: .ref c :: st) h = zal c x h (fun w => zR d 300 Q 1044 lv (.int w :: st) h) := q_iald rfl
set_option maxRecDepth 100000 in
theorem r300_1044 : zR d 300 Q 1044 lv [.int x0, .ref 60, .int y0] h = zM d 186 [.ref 60, .int x0] h (fun r h' => zR d 300 Q 1047 lv (r.toList ++ [.int y0]) h') := (q_clV rfl rfl (Nat.le_of_ble_eq_true rfl)).trans (zand_t ⟨rfl, Nat.le_of_ble_eq_true rfl⟩)
set_option maxRecDepth 100000 in
theorem r300_1047 : zR d 300 Q 1047 lv (.int z :: .int x :: st) h = if x = z then zR d 300 Q 1375 lv st h else zR d 300 Q 1050 lv st h := q_if rfl rfl
set_option maxRecDepth 100000 in
theorem r300_1050 : zR d 300 Q 1050 lv st h = zR d 300 Q 1051 lv (.int 0 :: st) h := q_in rfl rfl
set_option maxRecDepth 100000 in
theorem r300_1051f : zR d 300 Q 1051 lv [.int 0] h = Q (some (.int 0)) h := q_retz rfl rfl (Or.inr (Or.inl rfl))
set_option maxRecDepth 100000 in
theorem r300_1051t : zR d 300 Q 1051 lv [.int 1] h = Q (some (.int 1)) h := q_retz rfl rfl (Or.inr (Or.inr rfl))
set_option maxRecDepth 100000 in
theorem r300_1052 : zR d 300 Q 1052 (o0 :: some (.ref c) :: l) st h = zR d 300 Q 1053 (o0 :: some (.ref c) :: l) (.ref c :: st) h := q_in rfl rfl
set_option maxRecDepth 100000 in
theorem r300_1053 : zR d 300 Q 1053 (some (.ref c) :: l) st h = zR d 300 Q 1054 (some (.ref c) :: l) (.ref c :: st) h := q_in rfl rfl
set_option maxRecDepth 100000 in
theorem r300_1054 : zR d 300 Q 1054 (o0 :: o1 :: o2 :: some (.int x) :: l) st h = zR d 300 Q 1055 (o0 :: o1 :: o2 :: some (.int x) :: l) (.int x :: st) h := q_in rfl rfl
set_option maxRecDepth 100000 in
theorem r300_1055 : zR d 300 Q 1055 lv st h = zR d 300 Q 1056 lv (.int 1 :: st) h := q_in rfl rfl
set_option maxRecDepth 100000 in
theorem r300_1056 : zR d 300 Q 1056 lv (.int z :: .int x :: st) h = zR d 300 Q 1057 lv (.int (x + z) :: st) h := q_in rfl rfl
set_option maxRecDepth 100000 in
theorem r300_1057 : zR d 300 Q 1057 lv (.int x :: .ref c :: st) h = zal c x h (fun w => zR d 300 Q 1058 lv (.int w :: st) h) := q_iald rfl
set_option maxRecDepth 100000 in
theorem r300_1058 : zR d 300 Q 1058 lv [.int x0, .ref 0] h = zM d 89 [.ref 0, .int x0] h (fun r h' => zR d 300 Q 1061 lv (r.toList ++ []) h') := (q_clV rfl rfl (Nat.le_of_ble_eq_true rfl)).trans (zand_t ⟨rfl, Nat.le_of_ble_eq_true rfl⟩)
set_option maxRecDepth 100000 in
theorem r300_1061 : zR d 300 Q 1061 (o0 :: o1 :: some (.ref c) :: l) st h = zR d 300 Q 1062 (o0 :: o1 :: some (.ref c) :: l) (.ref c :: st) h := q_in rfl rfl
set_option maxRecDepth 100000 in
theorem r300_1062 : zR d 300 Q 1062 (some (.ref c) :: l) st h = zR d 300 Q 1063 (some (.ref c) :: l) (.ref c :: st) h := q_in rfl rfl
set_option maxRecDepth 100000 in
theorem r300_1063 : zR d 300 Q 1063 (o0 :: o1 :: o2 :: some (.int x) :: l) st h = zR d 300 Q 1064 (o0 :: o1 :: o2 :: some (.int x) :: l) (.int x :: st) h := q_in rfl rfl
set_option maxRecDepth 100000 in
theorem r300_1064 : zR d 300 Q 1064 lv st h = zR d 300 Q 1065 lv (.int 1 :: st) h := q_in rfl rfl
set_option maxRecDepth 100000 in
theorem r300_1065 : zR d 300 Q 1065 lv (.int z :: .int x :: st) h = zR d 300 Q 1066 lv (.int (x + z) :: st) h := q_in rfl rfl
set_option maxRecDepth 100000 in
theorem r300_1066 : zR d 300 Q 1066 lv (.int x :: .ref c :: st) h = zal c x h (fun w => zR d 300 Q 1067 lv (.int w :: st) h) := q_iald rfl
set_option maxRecDepth 100000 in
theorem r300_1067 : zR d 300 Q 1067 lv [.int x0, .ref 60, .int y0] h = zM d 187 [.ref 60, .int x0] h (fun r h' => zR d 300 Q 1070 lv (r.toList ++ [.int y0]) h') := (q_clV rfl rfl (Nat.le_of_ble_eq_true rfl)).trans (zand_t ⟨rfl, Nat.le_of_ble_eq_true rfl⟩)
set_option maxRecDepth 100000 in
theorem r300_1070 : zR d 300 Q 1070 lv (.int z :: .int x :: st) h = if x = z then zR d 300 Q 1375 lv st h else zR d 300 Q 1073 lv st h := q_if rfl rfl
set_option maxRecDepth 100000 in
theorem r300_1073 : zR d 300 Q 1073 lv st h = zR d 300 Q 1074 lv (.int 0 :: st) h := q_in rfl rfl
set_option maxRecDepth 100000 in
theorem r300_1074f : zR d 300 Q 1074 lv [.int 0] h = Q (some (.int 0)) h := q_retz rfl rfl (Or.inr (Or.inl rfl))
set_option maxRecDepth 100000 in
theorem r300_1074t : zR d 300 Q 1074 lv [.int 1] h = Q (some (.int 1)) h := q_retz rfl rfl (Or.inr (Or.inr rfl))
set_option maxRecDepth 100000 in
theorem r300_1075 : zR d 300 Q 1075 (o0 :: some (.ref c) :: l) st h = zR d 300 Q 1076 (o0 :: some (.ref c) :: l) (.ref c :: st) h := q_in rfl rfl
set_option maxRecDepth 100000 in
theorem r300_1076 : zR d 300 Q 1076 (some (.ref c) :: l) st h = zR d 300 Q 1077 (some (.ref c) :: l) (.ref c :: st) h := q_in rfl rfl
set_option maxRecDepth 100000 in
theorem r300_1077 : zR d 300 Q 1077 (o0 :: o1 :: o2 :: some (.int x) :: l) st h = zR d 300 Q 1078 (o0 :: o1 :: o2 :: some (.int x) :: l) (.int x :: st) h := q_in rfl rfl
set_option maxRecDepth 100000 in
theorem r300_1078 : zR d 300 Q 1078 lv st h = zR d 300 Q 1079 lv (.int 1 :: st) h := q_in rfl rfl
set_option maxRecDepth 100000 in
theorem r300_1079 : zR d 300 Q 1079 lv (.int z :: .int x :: st) h = zR d 300 Q 1080 lv (.int (x + z) :: st) h := q_in rfl rfl
set_option maxRecDepth 100000 in
theorem r300_1080 : zR d 300 Q 1080 lv (.int x :: .ref c :: st) h = zal c x h (fun w => zR d 300 Q 1081 lv (.int w :: st) h) := q_iald rfl
set_option maxRecDepth 100000 in
theorem r300_1081 : zR d 300 Q 1081 (some (.ref c) :: l) st h = zR d 300 Q 1082 (some (.ref c) :: l) (.ref c :: st) h := q_in rfl rfl
set_option maxRecDepth 100000 in
theorem r300_1082 : zR d 300 Q 1082 (o0 :: o1 :: o2 :: some (.int x) :: l) st h = zR d 300 Q 1083 (o0 :: o1 :: o2 :: some (.int x) :: l) (.int x :: st) h := q_in rfl rfl
set_option maxRecDepth 100000 in
theorem r300_1083 : zR d 300 Q 1083 lv st h = zR d 300 Q 1084 lv (.int 2 :: st) h := q_in rfl rfl
set_option maxRecDepth 100000 in
theorem r300_1084 : zR d 300 Q 1084 lv (.int z :: .int x :: st) h = zR d 300 Q 1085 lv (.int (x + z) :: st) h := q_in rfl rfl
set_option maxRecDepth 100000 in
theorem r300_1085 : zR d 300 Q 1085 lv (.int x :: .ref c :: st) h = zal c x h (fun w => zR d 300 Q 1086 lv (.int w :: st) h) := q_iald rfl
set_option maxRecDepth 100000 in
theorem r300_1086 : zR d 300 Q 1086 (some (.ref c) :: l) st h = zR d 300 Q 1087 (some (.ref c) :: l) (.ref c :: st) h := q_in rfl rfl
set_option maxRecDepth 100000 in
theorem r300_1087 : zR d 300 Q 1087 (o0 :: o1 :: o2 :: some (.int x) :: l) st h = zR d 300 Q 1088 (o0 :: o1 :: o2 :: some (.int x) :: l) (.int x :: st) h := q_in rfl rfl
set_option maxRecDepth 100000 in
theorem r300_1088 : zR d 300 Q 1088 lv st h = zR d 300 Q 1089 lv (.int 3 :: st) h := q_in rfl rfl
set_option maxRecDepth 100000 in
theorem r300_1089 : zR d 300 Q 1089 lv (.int z :: .int x :: st) h = zR d 300 Q 1090 lv (.int (x + z) :: st) h := q_in rfl rfl
set_option maxRecDepth 100000 in
theorem r300_1090 : zR d 300 Q 1090 lv (.int x :: .ref c :: st) h = zal c x h (fun w => zR d 300 Q 1091 lv (.int w :: st) h) := q_iald rfl
set_option maxRecDepth 100000 in
theorem r300_1091 : zR d 300 Q 1091 (some (.ref c) :: l) st h = zR d 300 Q 1092 (some (.ref c) :: l) (.ref c :: st) h := q_in rfl rfl
set_option maxRecDepth 100000 in
theorem r300_1092 : zR d 300 Q 1092 (o0 :: o1 :: o2 :: some (.int x) :: l) st h = zR d 300 Q 1093 (o0 :: o1 :: o2 :: some (.int x) :: l) (.int x :: st) h := q_in rfl rfl
set_option maxRecDepth 100000 in
theorem r300_1093 : zR d 300 Q 1093 lv st h = zR d 300 Q 1094 lv (.int 4 :: st) h := q_in rfl rfl
set_option maxRecDepth 100000 in
theorem r300_1094 : zR d 300 Q 1094 lv (.int z :: .int x :: st) h = zR d 300 Q 1095 lv (.int (x + z) :: st) h := q_in rfl rfl
set_option maxRecDepth 100000 in
theorem r300_1095 : zR d 300 Q 1095 lv (.int x :: .ref c :: st) h = zal c x h (fun w => zR d 300 Q 1096 lv (.int w :: st) h) := q_iald rfl
set_option maxRecDepth 100000 in
theorem r300_1096 : zR d 300 Q 1096 (some (.ref c) :: l) st h = zR d 300 Q 1097 (some (.ref c) :: l) (.ref c :: st) h := q_in rfl rfl
set_option maxRecDepth 100000 in
theorem r300_1097 : zR d 300 Q 1097 (o0 :: o1 :: o2 :: some (.int x) :: l) st h = zR d 300 Q 1098 (o0 :: o1 :: o2 :: some (.int x) :: l) (.int x :: st) h := q_in rfl rfl
set_option maxRecDepth 100000 in
theorem r300_1098 : zR d 300 Q 1098 lv st h = zR d 300 Q 1099 lv (.int 5 :: st) h := q_in rfl rfl
set_option maxRecDepth 100000 in
theorem r300_1099 : zR d 300 Q 1099 lv (.int z :: .int x :: st) h = zR d 300 Q 1100 lv (.int (x + z) :: st) h := q_in rfl rfl
set_option maxRecDepth 100000 in
theorem r300_1100 : zR d 300 Q 1100 lv (.int x :: .ref c :: st) h = zal c x h (fun w => zR d 300 Q 1101 lv (.int w :: st) h) := q_iald rfl
set_option maxRecDepth 100000 in
theorem r300_1101 : zR d 300 Q 1101 lv [.int x4, .int x3, .int x2, .int x1, .int x0, .ref 0] h = zM d 90 [.ref 0, .int x0, .int x1, .int x2, .int x3, .int x4] h (fun r h' => zR d 300 Q 1104 lv (r.toList ++ []) h') := (q_clV rfl rfl (Nat.le_of_ble_eq_true rfl)).trans (zand_t ⟨rfl, Nat.le_of_ble_eq_true rfl⟩)
set_option maxRecDepth 100000 in
theorem r300_1104 : zR d 300 Q 1104 (o0 :: o1 :: some (.ref c) :: l) st h = zR d 300 Q 1105 (o0 :: o1 :: some (.ref c) :: l) (.ref c :: st) h := q_in rfl rfl
set_option maxRecDepth 100000 in
theorem r300_1105 : zR d 300 Q 1105 (some (.ref c) :: l) st h = zR d 300 Q 1106 (some (.ref c) :: l) (.ref c :: st) h := q_in rfl rfl
set_option maxRecDepth 100000 in
theorem r300_1106 : zR d 300 Q 1106 (o0 :: o1 :: o2 :: some (.int x) :: l) st h = zR d 300 Q 1107 (o0 :: o1 :: o2 :: some (.int x) :: l) (.int x :: st) h := q_in rfl rfl
set_option maxRecDepth 100000 in
theorem r300_1107 : zR d 300 Q 1107 lv st h = zR d 300 Q 1108 lv (.int 1 :: st) h := q_in rfl rfl
set_option maxRecDepth 100000 in
theorem r300_1108 : zR d 300 Q 1108 lv (.int z :: .int x :: st) h = zR d 300 Q 1109 lv (.int (x + z) :: st) h := q_in rfl rfl
set_option maxRecDepth 100000 in
theorem r300_1109 : zR d 300 Q 1109 lv (.int x :: .ref c :: st) h = zal c x h (fun w => zR d 300 Q 1110 lv (.int w :: st) h) := q_iald rfl
set_option maxRecDepth 100000 in
theorem r300_1110 : zR d 300 Q 1110 (some (.ref c) :: l) st h = zR d 300 Q 1111 (some (.ref c) :: l) (.ref c :: st) h := q_in rfl rfl
set_option maxRecDepth 100000 in
theorem r300_1111 : zR d 300 Q 1111 (o0 :: o1 :: o2 :: some (.int x) :: l) st h = zR d 300 Q 1112 (o0 :: o1 :: o2 :: some (.int x) :: l) (.int x :: st) h := q_in rfl rfl
set_option maxRecDepth 100000 in
theorem r300_1112 : zR d 300 Q 1112 lv st h = zR d 300 Q 1113 lv (.int 2 :: st) h := q_in rfl rfl
set_option maxRecDepth 100000 in
theorem r300_1113 : zR d 300 Q 1113 lv (.int z :: .int x :: st) h = zR d 300 Q 1114 lv (.int (x + z) :: st) h := q_in rfl rfl
set_option maxRecDepth 100000 in
theorem r300_1114 : zR d 300 Q 1114 lv (.int x :: .ref c :: st) h = zal c x h (fun w => zR d 300 Q 1115 lv (.int w :: st) h) := q_iald rfl
set_option maxRecDepth 100000 in
theorem r300_1115 : zR d 300 Q 1115 (some (.ref c) :: l) st h = zR d 300 Q 1116 (some (.ref c) :: l) (.ref c :: st) h := q_in rfl rfl
set_option maxRecDepth 100000 in
theorem r300_1116 : zR d 300 Q 1116 (o0 :: o1 :: o2 :: some (.int x) :: l) st h = zR d 300 Q 1117 (o0 :: o1 :: o2 :: some (.int x) :: l) (.int x :: st) h := q_in rfl rfl
set_option maxRecDepth 100000 in
theorem r300_1117 : zR d 300 Q 1117 lv st h = zR d 300 Q 1118 lv (.int 3 :: st) h := q_in rfl rfl
set_option maxRecDepth 100000 in
theorem r300_1118 : zR d 300 Q 1118 lv (.int z :: .int x :: st) h = zR d 300 Q 1119 lv (.int (x + z) :: st) h := q_in rfl rfl
set_option maxRecDepth 100000 in
theorem r300_1119 : zR d 300 Q 1119 lv (.int x :: .ref c :: st) h = zal c x h (fun w => zR d 300 Q 1120 lv (.int w :: st) h) := q_iald rfl
set_option maxRecDepth 100000 in
theorem r300_1120 : zR d 300 Q 1120 (some (.ref c) :: l) st h = zR d 300 Q 1121 (some (.ref c) :: l) (.ref c :: st) h := q_in rfl rfl
set_option maxRecDepth 100000 in
theorem r300_1121 : zR d 300 Q 1121 (o0 :: o1 :: o2 :: some (.int x) :: l) st h = zR d 300 Q 1122 (o0 :: o1 :: o2 :: some (.int x) :: l) (.int x :: st) h := q_in rfl rfl
set_option maxRecDepth 100000 in
theorem r300_1122 : zR d 300 Q 1122 lv st h = zR d 300 Q 1123 lv (.int 4 :: st) h := q_in rfl rfl
set_option maxRecDepth 100000 in
theorem r300_1123 : zR d 300 Q 1123 lv (.int z :: .int x :: st) h = zR d 300 Q 1124 lv (.int (x + z) :: st) h := q_in rfl rfl
set_option maxRecDepth 100000 in
theorem r300_1124 : zR d 300 Q 1124 lv (.int x :: .ref c :: st) h = zal c x h (fun w => zR d 300 Q 1125 lv (.int w :: st) h) := q_iald rfl
set_option maxRecDepth 100000 in
theorem r300_1125 : zR d 300 Q 1125 (some (.ref c) :: l) st h = zR d 300 Q 1126 (some (.ref c) :: l) (.ref c :: st) h := q_in rfl rfl
set_option maxRecDepth 100000 in
theorem r300_1126 : zR d 300 Q 1126 (o0 :: o1 :: o2 :: some (.int x) :: l) st h = zR d 300 Q 1127 (o0 :: o1 :: o2 :: some (.int x) :: l) (.int x :: st) h := q_in rfl rfl
set_option maxRecDepth 100000 in
theorem r300_1127 : zR d 300 Q 1127 lv st h = zR d 300 Q 1128 lv (.int 5 :: st) h := q_in rfl rfl
set_option maxRecDepth 100000 in
theorem r300_1128 : zR d 300 Q 1128 lv (.int z :: .int x :: st) h = zR d 300 Q 1129 lv (.int (x + z) :: st) h := q_in rfl rfl
set_option maxRecDepth 100000 in
theorem r300_1129 : zR d 300 Q 1129 lv (.int x :: .ref c :: st) h = zal c x h (fun w => zR d 300 Q 1130 lv (.int w :: st) h) := q_iald rfl
set_option maxRecDepth 100000 in
theorem r300_1130 : zR d 300 Q 1130 lv [.int x4, .int x3, .int x2, .int x1, .int x0, .ref 60, .int y0] h = zM d 189 [.ref 60, .int x0, .int x1, .int x2, .int x3, .int x4] h (fun r h' => zR d 300 Q 1133 lv (r.toList ++ [.int y0]) h') := (q_clV rfl rfl (Nat.le_of_ble_eq_true rfl)).trans (zand_t ⟨rfl, Nat.le_of_ble_eq_true rfl⟩)
set_option maxRecDepth 100000 in
theorem r300_1133 : zR d 300 Q 1133 lv (.int z :: .int x :: st) h = if x = z then zR d 300 Q 1375 lv st h else zR d 300 Q 1136 lv st h := q_if rfl rfl
set_option maxRecDepth 100000 in
theorem r300_1136 : zR d 300 Q 1136 lv st h = zR d 300 Q 1137 lv (.int 0 :: st) h := q_in rfl rfl
set_option maxRecDepth 100000 in
theorem r300_1137f : zR d 300 Q 1137 lv [.int 0] h = Q (some (.int 0)) h := q_retz rfl rfl (Or.inr (Or.inl rfl))
set_option maxRecDepth 100000 in
theorem r300_1137t : zR d 300 Q 1137 lv [.int 1] h = Q (some (.int 1)) h := q_retz rfl rfl (Or.inr (Or.inr rfl))
set_option maxRecDepth 100000 in
theorem r300_1138 : zR d 300 Q 1138 (o0 :: some (.ref c) :: l) st h = zR d 300 Q 1139 (o0 :: some (.ref c) :: l) (.ref c :: st) h := q_in rfl rfl
set_option maxRecDepth 100000 in
theorem r300_1139 : zR d 300 Q 1139 (some (.ref c) :: l) st h = zR d 300 Q 1140 (some (.ref c) :: l) (.ref c :: st) h := q_in rfl rfl
set_option maxRecDepth 100000 in
theorem r300_1140 : zR d 300 Q 1140 (o0 :: o1 :: o2 :: some (.int x) :: l) st h = zR d 300 Q 1141 (o0 :: o1 :: o2 :: some (.int x) :: l) (.int x :: st) h := q_in rfl rfl
set_option maxRecDepth 100000 in
theorem r300_1141 : zR d 300 Q 1141 lv st h = zR d 300 Q 1142 lv (.int 1 :: st) h := q_in rfl rfl
set_option maxRecDepth 100000 in
theorem r300_1142 : zR d 300 Q 1142 lv (.int z :: .int x :: st) h = zR d 300 Q 1143 lv (.int (x + z) :: st) h := q_in rfl rfl
set_option maxRecDepth 100000 in
theorem r300_1143 : zR d 300 Q 1143 lv (.int x :: .ref c :: st) h = zal c x h (fun w => zR d 300 Q 1144 lv (.int w :: st) h) := q_iald rfl
set_option maxRecDepth 100000 in
theorem r300_1144 : zR d 300 Q 1144 (some (.ref c) :: l) st h = zR d 300 Q 1145 (some (.ref c) :: l) (.ref c :: st) h := q_in rfl rfl
set_option maxRecDepth 100000 in
theorem r300_1145 : zR d 300 Q 1145 (o0 :: o1 :: o2 :: some (.int x) :: l) st h = zR d 300 Q 1146 (o0 :: o1 :: o2 :: some (.int x) :: l) (.int x :: st) h := q_in rfl rfl
set_option maxRecDepth 100000 in
theorem r300_1146 : zR d 300 Q 1146 lv st h = zR d 300 Q 1147 lv (.int 2 :: st) h := q_in rfl rfl
set_option maxRecDepth 100000 in
theorem r300_1147 : zR d 300 Q 1147 lv (.int z :: .int x :: st) h = zR d 300 Q 1148 lv (.int (x + z) :: st) h := q_in rfl rfl
set_option maxRecDepth 100000 in
theorem r300_1148 : zR d 300 Q 1148 lv (.int x :: .ref c :: st) h = zal c x h (fun w => zR d 300 Q 1149 lv (.int w :: st) h) := q_iald rfl
set_option maxRecDepth 100000 in
theorem r300_1149 : zR d 300 Q 1149 (some (.ref c) :: l) st h = zR d 300 Q 1150 (some (.ref c) :: l) (.ref c :: st) h := q_in rfl rfl
set_option maxRecDepth 100000 in
theorem r300_1150 : zR d 300 Q 1150 (o0 :: o1 :: o2 :: some (.int x) :: l) st h = zR d 300 Q 1151 (o0 :: o1 :: o2 :: some (.int x) :: l) (.int x :: st) h := q_in rfl rfl
set_option maxRecDepth 100000 in
theorem r300_1151 : zR d 300 Q 1151 lv st h = zR d 300 Q 1152 lv (.int 3 :: st) h := q_in rfl rfl
set_option maxRecDepth 100000 in
theorem r300_1152 : zR d 300 Q 1152 lv (.int z :: .int x :: st) h = zR d 300 Q 1153 lv (.int (x + z) :: st) h := q_in rfl rfl
set_option maxRecDepth 100000 in
theorem r300_1153 : zR d 300 Q 1153 lv (.int x :: .ref c :: st) h = zal c x h (fun w => zR d 300 Q 1154 lv (.int w :: st) h) := q_iald rfl
set_option maxRecDepth 100000 in
theorem r300_1154 : zR d 300 Q 1154 lv [.int x2, .int x1, .int x0, .ref 0] h = zM d 91 [.ref 0, .int x0, .int x1, .int x2] h (fun r h' => zR d 300 Q 1157 lv (r.toList ++ []) h') := (q_clV rfl rfl (Nat.le_of_ble_eq_true rfl)).trans (zand_t ⟨rfl, Nat.le_of_ble_eq_true rfl⟩)
set_option maxRecDepth 100000 in
theorem r300_1157 : zR d 300 Q 1157 (o0 :: o1 :: some (.ref c) :: l) st h = zR d 300 Q 1158 (o0 :: o1 :: some (.ref c) :: l) (.ref c :: st) h := q_in rfl rfl
set_option maxRecDepth 100000 in
theorem r300_1158 : zR d 300 Q 1158 (some (.ref c) :: l) st h = zR d 300 Q 1159 (some (.ref c) :: l) (.ref c :: st) h := q_in rfl rfl
set_option maxRecDepth 100000 in
theorem r300_1159 : zR d 300 Q 1159 (o0 :: o1 :: o2 :: some (.int x) :: l) st h = zR d 300 Q 1160 (o0 :: o1 :: o2 :: some (.int x) :: l) (.int x :: st) h := q_in rfl rfl
set_option maxRecDepth 100000 in
theorem r300_1160 : zR d 300 Q 1160 lv st h = zR d 300 Q 1161 lv (.int 1 :: st) h := q_in rfl rfl
set_option maxRecDepth 100000 in
theorem r300_1161 : zR d 300 Q 1161 lv (.int z :: .int x :: st) h = zR d 300 Q 1162 lv (.int (x + z) :: st) h := q_in rfl rfl
set_option maxRecDepth 100000 in
theorem r300_1162 : zR d 300 Q 1162 lv (.int x :: .ref c :: st) h = zal c x h (fun w => zR d 300 Q 1163 lv (.int w :: st) h) := q_iald rfl
set_option maxRecDepth 100000 in
theorem r300_1163 : zR d 300 Q 1163 (some (.ref c) :: l) st h = zR d 300 Q 1164 (some (.ref c) :: l) (.ref c :: st) h := q_in rfl rfl
set_option maxRecDepth 100000 in
theorem r300_1164 : zR d 300 Q 1164 (o0 :: o1 :: o2 :: some (.int x) :: l) st h = zR d 300 Q 1165 (o0 :: o1 :: o2 :: some (.int x) :: l) (.int x :: st) h := q_in rfl rfl
set_option maxRecDepth 100000 in
theorem r300_1165 : zR d 300 Q 1165 lv st h = zR d 300 Q 1166 lv (.int 2 :: st) h := q_in rfl rfl
set_option maxRecDepth 100000 in
theorem r300_1166 : zR d 300 Q 1166 lv (.int z :: .int x :: st) h = zR d 300 Q 1167 lv (.int (x + z) :: st) h := q_in rfl rfl
set_option maxRecDepth 100000 in
theorem r300_1167 : zR d 300 Q 1167 lv (.int x :: .ref c :: st) h = zal c x h (fun w => zR d 300 Q 1168 lv (.int w :: st) h) := q_iald rfl
set_option maxRecDepth 100000 in
theorem r300_1168 : zR d 300 Q 1168 (some (.ref c) :: l) st h = zR d 300 Q 1169 (some (.ref c) :: l) (.ref c :: st) h := q_in rfl rfl
set_option maxRecDepth 100000 in
theorem r300_1169 : zR d 300 Q 1169 (o0 :: o1 :: o2 :: some (.int x) :: l) st h = zR d 300 Q 1170 (o0 :: o1 :: o2 :: some (.int x) :: l) (.int x :: st) h := q_in rfl rfl
set_option maxRecDepth 100000 in
theorem r300_1170 : zR d 300 Q 1170 lv st h = zR d 300 Q 1171 lv (.int 3 :: st) h := q_in rfl rfl
set_option maxRecDepth 100000 in
theorem r300_1171 : zR d 300 Q 1171 lv (.int z :: .int x :: st) h = zR d 300 Q 1172 lv (.int (x + z) :: st) h := q_in rfl rfl
set_option maxRecDepth 100000 in
theorem r300_1172 : zR d 300 Q 1172 lv (.int x :: .ref c :: st) h = zal c x h (fun w => zR d 300 Q 1173 lv (.int w :: st) h) := q_iald rfl
set_option maxRecDepth 100000 in
theorem r300_1173 : zR d 300 Q 1173 lv [.int x2, .int x1, .int x0, .ref 60, .int y0] h = zM d 191 [.ref 60, .int x0, .int x1, .int x2] h (fun r h' => zR d 300 Q 1176 lv (r.toList ++ [.int y0]) h') := (q_clV rfl rfl (Nat.le_of_ble_eq_true rfl)).trans (zand_t ⟨rfl, Nat.le_of_ble_eq_true rfl⟩)
set_option maxRecDepth 100000 in
theorem r300_1176 : zR d 300 Q 1176 lv (.int z :: .int x :: st) h = if x = z then zR d 300 Q 1375 lv st h else zR d 300 Q 1179 lv st h := q_if rfl rfl
set_option maxRecDepth 100000 in
theorem r300_1179 : zR d 300 Q 1179 lv st h = zR d 300 Q 1180 lv (.int 0 :: st) h := q_in rfl rfl
set_option maxRecDepth 100000 in
theorem r300_1180f : zR d 300 Q 1180 lv [.int 0] h = Q (some (.int 0)) h := q_retz rfl rfl (Or.inr (Or.inl rfl))
set_option maxRecDepth 100000 in
theorem r300_1180t : zR d 300 Q 1180 lv [.int 1] h = Q (some (.int 1)) h := q_retz rfl rfl (Or.inr (Or.inr rfl))
set_option maxRecDepth 100000 in
theorem r300_1181 : zR d 300 Q 1181 (o0 :: some (.ref c) :: l) st h = zR d 300 Q 1182 (o0 :: some (.ref c) :: l) (.ref c :: st) h := q_in rfl rfl
set_option maxRecDepth 100000 in
theorem r300_1182 : zR d 300 Q 1182 (some (.ref c) :: l) st h = zR d 300 Q 1183 (some (.ref c) :: l) (.ref c :: st) h := q_in rfl rfl
set_option maxRecDepth 100000 in
theorem r300_1183 : zR d 300 Q 1183 (o0 :: o1 :: o2 :: some (.int x) :: l) st h = zR d 300 Q 1184 (o0 :: o1 :: o2 :: some (.int x) :: l) (.int x :: st) h := q_in rfl rfl
set_option maxRecDepth 100000 in
theorem r300_1184 : zR d 300 Q 1184 lv st h = zR d 300 Q 1185 lv (.int 1 :: st) h := q_in rfl rfl
set_option maxRecDepth 100000 in
theorem r300_1185 : zR d 300 Q 1185 lv (.int z :: .int x :: st) h = zR d 300 Q 1186 lv (.int (x + z) :: st) h := q_in rfl rfl
set_option maxRecDepth 100000 in
theorem r300_1186 : zR d 300 Q 1186 lv (.int x :: .ref c :: st) h = zal c x h (fun w => zR d 300 Q 1187 lv (.int w :: st) h) := q_iald rfl
set_option maxRecDepth 100000 in
theorem r300_1187 : zR d 300 Q 1187 (some (.ref c) :: l) st h = zR d 300 Q 1188 (some (.ref c) :: l) (.ref c :: st) h := q_in rfl rfl
set_option maxRecDepth 100000 in
theorem r300_1188 : zR d 300 Q 1188 (o0 :: o1 :: o2 :: some (.int x) :: l) st h = zR d 300 Q 1189 (o0 :: o1 :: o2 :: some (.int x) :: l) (.int x :: st) h := q_in rfl rfl
set_option maxRecDepth 100000 in
theorem r300_1189 : zR d 300 Q 1189 lv st h = zR d 300 Q 1190 lv (.int 2 :: st) h := q_in rfl rfl
set_option maxRecDepth 100000 in
theorem r300_1190 : zR d 300 Q 1190 lv (.int z :: .int x :: st) h = zR d 300 Q 1191 lv (.int (x + z) :: st) h := q_in rfl rfl
set_option maxRecDepth 100000 in
theorem r300_1191 : zR d 300 Q 1191 lv (.int x :: .ref c :: st) h = zal c x h (fun w => zR d 300 Q 1192 lv (.int w :: st) h) := q_iald rfl
set_option maxRecDepth 100000 in
theorem r300_1192 : zR d 300 Q 1192 lv [.int x1, .int x0, .ref 0] h = zM d 92 [.ref 0, .int x0, .int x1] h (fun r h' => zR d 300 Q 1195 lv (r.toList ++ []) h') := (q_clV rfl rfl (Nat.le_of_ble_eq_true rfl)).trans (zand_t ⟨rfl, Nat.le_of_ble_eq_true rfl⟩)
set_option maxRecDepth 100000 in
theorem r300_1195 : zR d 300 Q 1195 (o0 :: o1 :: some (.ref c) :: l) st h = zR d 300 Q 1196 (o0 :: o1 :: some (.ref c) :: l) (.ref c :: st) h := q_in rfl rfl
set_option maxRecDepth 100000 in
theorem r300_1196 : zR d 300 Q 1196 (some (.ref c) :: l) st h = zR d 300 Q 1197 (some (.ref c) :: l) (.ref c :: st) h := q_in rfl rfl
set_option maxRecDepth 100000 in
theorem r300_1197 : zR d 300 Q 1197 (o0 :: o1 :: o2 :: some (.int x) :: l) st h = zR d 300 Q 1198 (o0 :: o1 :: o2 :: some (.int x) :: l) (.int x :: st) h := q_in rfl rfl
set_option maxRecDepth 100000 in
theorem r300_1198 : zR d 300 Q 1198 lv st h = zR d 300 Q 1199 lv (.int 1 :: st) h := q_in rfl rfl
set_option maxRecDepth 100000 in
theorem r300_1199 : zR d 300 Q 1199 lv (.int z :: .int x :: st) h = zR d 300 Q 1200 lv (.int (x + z) :: st) h := q_in rfl rfl
set_option maxRecDepth 100000 in
theorem r300_1200 : zR d 300 Q 1200 lv (.int x :: .ref c :: st) h = zal c x h (fun w => zR d 300 Q 1201 lv (.int w :: st) h) := q_iald rfl
set_option maxRecDepth 100000 in
theorem r300_1201 : zR d 300 Q 1201 (some (.ref c) :: l) st h = zR d 300 Q 1202 (some (.ref c) :: l) (.ref c :: st) h := q_in rfl rfl
set_option maxRecDepth 100000 in
theorem r300_1202 : zR d 300 Q 1202 (o0 :: o1 :: o2 :: some (.int x) :: l) st h = zR d 300 Q 1203 (o0 :: o1 :: o2 :: some (.int x) :: l) (.int x :: st) h := q_in rfl rfl
set_option maxRecDepth 100000 in
theorem r300_1203 : zR d 300 Q 1203 lv st h = zR d 300 Q 1204 lv (.int 2 :: st) h := q_in rfl rfl
set_option maxRecDepth 100000 in
theorem r300_1204 : zR d 300 Q 1204 lv (.int z :: .int x :: st) h = zR d 300 Q 1205 lv (.int (x + z) :: st) h := q_in rfl rfl
set_option maxRecDepth 100000 in
theorem r300_1205 : zR d 300 Q 1205 lv (.int x :: .ref c :: st) h = zal c x h (fun w => zR d 300 Q 1206 lv (.int w :: st) h) := q_iald rfl
set_option maxRecDepth 100000 in
theorem r300_1206 : zR d 300 Q 1206 lv [.int x1, .int x0, .ref 60, .int y0] h = zM d 192 [.ref 60, .int x0, .int x1] h (fun r h' => zR d 300 Q 1209 lv (r.toList ++ [.int y0]) h') := (q_clV rfl rfl (Nat.le_of_ble_eq_true rfl)).trans (zand_t ⟨rfl, Nat.le_of_ble_eq_true rfl⟩)
set_option maxRecDepth 100000 in
theorem r300_1209 : zR d 300 Q 1209 lv (.int z :: .int x :: st) h = if x = z then zR d 300 Q 1375 lv st h else zR d 300 Q 1212 lv st h := q_if rfl rfl
set_option maxRecDepth 100000 in
theorem r300_1212 : zR d 300 Q 1212 lv st h = zR d 300 Q 1213 lv (.int 0 :: st) h := q_in rfl rfl
set_option maxRecDepth 100000 in
theorem r300_1213f : zR d 300 Q 1213 lv [.int 0] h = Q (some (.int 0)) h := q_retz rfl rfl (Or.inr (Or.inl rfl))
set_option maxRecDepth 100000 in
theorem r300_1213t : zR d 300 Q 1213 lv [.int 1] h = Q (some (.int 1)) h := q_retz rfl rfl (Or.inr (Or.inr rfl))
set_option maxRecDepth 100000 in
theorem r300_1214 : zR d 300 Q 1214 (o0 :: some (.ref c) :: l) st h = zR d 300 Q 1215 (o0 :: some (.ref c) :: l) (.ref c :: st) h := q_in rfl rfl
set_option maxRecDepth 100000 in
theorem r300_1215 : zR d 300 Q 1215 (some (.ref c) :: l) st h = zR d 300 Q 1216 (some (.ref c) :: l) (.ref c :: st) h := q_in rfl rfl
set_option maxRecDepth 100000 in
theorem r300_1216 : zR d 300 Q 1216 (o0 :: o1 :: o2 :: some (.int x) :: l) st h = zR d 300 Q 1217 (o0 :: o1 :: o2 :: some (.int x) :: l) (.int x :: st) h := q_in rfl rfl
set_option maxRecDepth 100000 in
theorem r300_1217 : zR d 300 Q 1217 lv st h = zR d 300 Q 1218 lv (.int 1 :: st) h := q_in rfl rfl
set_option maxRecDepth 100000 in
theorem r300_1218 : zR d 300 Q 1218 lv (.int z :: .int x :: st) h = zR d 300 Q 1219 lv (.int (x + z) :: st) h := q_in rfl rfl
set_option maxRecDepth 100000 in
theorem r300_1219 : zR d 300 Q 1219 lv (.int x :: .ref c :: st) h = zal c x h (fun w => zR d 300 Q 1220 lv (.int w :: st) h) := q_iald rfl
set_option maxRecDepth 100000 in
theorem r300_1220 : zR d 300 Q 1220 (some (.ref c) :: l) st h = zR d 300 Q 1221 (some (.ref c) :: l) (.ref c :: st) h := q_in rfl rfl
set_option maxRecDepth 100000 in
theorem r300_1221 : zR d 300 Q 1221 (o0 :: o1 :: o2 :: some (.int x) :: l) st h = zR d 300 Q 1222 (o0 :: o1 :: o2 :: some (.int x) :: l) (.int x :: st) h := q_in rfl rfl
set_option maxRecDepth 100000 in
theorem r300_1222 : zR d 300 Q 1222 lv st h = zR d 300 Q 1223 lv (.int 2 :: st) h := q_in rfl rfl
set_option maxRecDepth 100000 in
theorem r300_1223 : zR d 300 Q 1223 lv (.int z :: .int x :: st) h = zR d 300 Q 1224 lv (.int (x + z) :: st) h := q_in rfl rfl
set_option maxRecDepth 100000 in
theorem r300_1224 : zR d 300 Q 1224 lv (.int x :: .ref c :: st) h = zal c x h (fun w => zR d 300 Q 1225 lv (.int w :: st) h) := q_iald rfl
set_option maxRecDepth 100000 in
theorem r300_1225 : zR d 300 Q 1225 lv [.int x1, .int x0, .ref 0] h = zM d 93 [.ref 0, .int x0, .int x1] h (fun r h' => zR d 300 Q 1228 lv (r.toList ++ []) h') := (q_clV rfl rfl (Nat.le_of_ble_eq_true rfl)).trans (zand_t ⟨rfl, Nat.le_of_ble_eq_true rfl⟩)
set_option maxRecDepth 100000 in
theorem r300_1228 : zR d 300 Q 1228 (o0 :: o1 :: some (.ref c) :: l) st h = zR d 300 Q 1229 (o0 :: o1 :: some (.ref c) :: l) (.ref c :: st) h := q_in rfl rfl
set_option maxRecDepth 100000 in
theorem r300_1229 : zR d 300 Q 1229 (some (.ref c) :: l) st h = zR d 300 Q 1230 (some (.ref c) :: l) (.ref c :: st) h := q_in rfl rfl
set_option maxRecDepth 100000 in
theorem r300_1230 : zR d 300 Q 1230 (o0 :: o1 :: o2 :: some (.int x) :: l) st h = zR d 300 Q 1231 (o0 :: o1 :: o2 :: some (.int x) :: l) (.int x :: st) h := q_in rfl rfl
set_option maxRecDepth 100000 in
theorem r300_1231 : zR d 300 Q 1231 lv st h = zR d 300 Q 1232 lv (.int 1 :: st) h := q_in rfl rfl
set_option maxRecDepth 100000 in
theorem r300_1232 : zR d 300 Q 1232 lv (.int z :: .int x :: st) h = zR d 300 Q 1233 lv (.int (x + z) :: st) h := q_in rfl rfl
set_option maxRecDepth 100000 in
theorem r300_1233 : zR d 300 Q 1233 lv (.int x :: .ref c :: st) h = zal c x h (fun w => zR d 300 Q 1234 lv (.int w :: st) h) := q_iald rfl
set_option maxRecDepth 100000 in
theorem r300_1234 : zR d 300 Q 1234 (some (.ref c) :: l) st h = zR d 300 Q 1235 (some (.ref c) :: l) (.ref c :: st) h := q_in rfl rfl
set_option maxRecDepth 100000 in
theorem r300_1235 : zR d 300 Q 1235 (o0 :: o1 :: o2 :: some (.int x) :: l) st h = zR d 300 Q 1236 (o0 :: o1 :: o2 :: some (.int x) :: l) (.int x :: st) h := q_in rfl rfl
set_option maxRecDepth 100000 in
theorem r300_1236 : zR d 300 Q 1236 lv st h = zR d 300 Q 1237 lv (.int 2 :: st) h := q_in rfl rfl
set_option maxRecDepth 100000 in
theorem r300_1237 : zR d 300 Q 1237 lv (.int z :: .int x :: st) h = zR d 300 Q 1238 lv (.int (x + z) :: st) h := q_in rfl rfl
set_option maxRecDepth 100000 in
theorem r300_1238 : zR d 300 Q 1238 lv (.int x :: .ref c :: st) h = zal c x h (fun w => zR d 300 Q 1239 lv (.int w :: st) h) := q_iald rfl
set_option maxRecDepth 100000 in
theorem r300_1239 : zR d 300 Q 1239 lv [.int x1, .int x0, .ref 60, .int y0] h = zM d 193 [.ref 60, .int x0, .int x1] h (fun r h' => zR d 300 Q 1242 lv (r.toList ++ [.int y0]) h') := (q_clV rfl rfl (Nat.le_of_ble_eq_true rfl)).trans (zand_t ⟨rfl, Nat.le_of_ble_eq_true rfl⟩)
set_option maxRecDepth 100000 in
theorem r300_1242 : zR d 300 Q 1242 lv (.int z :: .int x :: st) h = if x = z then zR d 300 Q 1375 lv st h else zR d 300 Q 1245 lv st h := q_if rfl rfl
set_option maxRecDepth 100000 in
theorem r300_1245 : zR d 300 Q 1245 lv st h = zR d 300 Q 1246 lv (.int 0 :: st) h := q_in rfl rfl
set_option maxRecDepth 100000 in
theorem r300_1246f : zR d 300 Q 1246 lv [.int 0] h = Q (some (.int 0)) h := q_retz rfl rfl (Or.inr (Or.inl rfl))
set_option maxRecDepth 100000 in
theorem r300_1246t : zR d 300 Q 1246 lv [.int 1] h = Q (some (.int 1)) h := q_retz rfl rfl (Or.inr (Or.inr rfl))
set_option maxRecDepth 100000 in
theorem r300_1247 : zR d 300 Q 1247 (o0 :: some (.ref c) :: l) st h = zR d 300 Q 1248 (o0 :: some (.ref c) :: l) (.ref c :: st) h := q_in rfl rfl
set_option maxRecDepth 100000 in
theorem r300_1248 : zR d 300 Q 1248 (some (.ref c) :: l) st h = zR d 300 Q 1249 (some (.ref c) :: l) (.ref c :: st) h := q_in rfl rfl
set_option maxRecDepth 100000 in
theorem r300_1249 : zR d 300 Q 1249 (o0 :: o1 :: o2 :: some (.int x) :: l) st h = zR d 300 Q 1250 (o0 :: o1 :: o2 :: some (.int x) :: l) (.int x :: st) h := q_in rfl rfl
set_option maxRecDepth 100000 in
theorem r300_1250 : zR d 300 Q 1250 lv st h = zR d 300 Q 1251 lv (.int 1 :: st) h := q_in rfl rfl
set_option maxRecDepth 100000 in
theorem r300_1251 : zR d 300 Q 1251 lv (.int z :: .int x :: st) h = zR d 300 Q 1252 lv (.int (x + z) :: st) h := q_in rfl rfl
set_option maxRecDepth 100000 in
theorem r300_1252 : zR d 300 Q 1252 lv (.int x :: .ref c :: st) h = zal c x h (fun w => zR d 300 Q 1253 lv (.int w :: st) h) := q_iald rfl
set_option maxRecDepth 100000 in
theorem r300_1253 : zR d 300 Q 1253 (some (.ref c) :: l) st h = zR d 300 Q 1254 (some (.ref c) :: l) (.ref c :: st) h := q_in rfl rfl
set_option maxRecDepth 100000 in
theorem r300_1254 : zR d 300 Q 1254 (o0 :: o1 :: o2 :: some (.int x) :: l) st h = zR d 300 Q 1255 (o0 :: o1 :: o2 :: some (.int x) :: l) (.int x :: st) h := q_in rfl rfl
set_option maxRecDepth 100000 in
theorem r300_1255 : zR d 300 Q 1255 lv st h = zR d 300 Q 1256 lv (.int 2 :: st) h := q_in rfl rfl
set_option maxRecDepth 100000 in
theorem r300_1256 : zR d 300 Q 1256 lv (.int z :: .int x :: st) h = zR d 300 Q 1257 lv (.int (x + z) :: st) h := q_in rfl rfl
set_option maxRecDepth 100000 in
theorem r300_1257 : zR d 300 Q 1257 lv (.int x :: .ref c :: st) h = zal c x h (fun w => zR d 300 Q 1258 lv (.int w :: st) h) := q_iald rfl
set_option maxRecDepth 100000 in
theorem r300_1258 : zR d 300 Q 1258 lv [.int x1, .int x0, .ref 0] h = zM d 94 [.ref 0, .int x0, .int x1] h (fun r h' => zR d 300 Q 1261 lv (r.toList ++ []) h') := (q_clV rfl rfl (Nat.le_of_ble_eq_true rfl)).trans (zand_t ⟨rfl, Nat.le_of_ble_eq_true rfl⟩)
set_option maxRecDepth 100000 in
theorem r300_1261 : zR d 300 Q 1261 (o0 :: o1 :: some (.ref c) :: l) st h = zR d 300 Q 1262 (o0 :: o1 :: some (.ref c) :: l) (.ref c :: st) h := q_in rfl rfl
set_option maxRecDepth 100000 in
theorem r300_1262 : zR d 300 Q 1262 (some (.ref c) :: l) st h = zR d 300 Q 1263 (some (.ref c) :: l) (.ref c :: st) h := q_in rfl rfl
set_option maxRecDepth 100000 in
theorem r300_1263 : zR d 300 Q 1263 (o0 :: o1 :: o2 :: some (.int x) :: l) st h = zR d 300 Q 1264 (o0 :: o1 :: o2 :: some (.int x) :: l) (.int x :: st) h := q_in rfl rfl
set_option maxRecDepth 100000 in
theorem r300_1264 : zR d 300 Q 1264 lv st h = zR d 300 Q 1265 lv (.int 1 :: st) h := q_in rfl rfl
set_option maxRecDepth 100000 in
theorem r300_1265 : zR d 300 Q 1265 lv (.int z :: .int x :: st) h = zR d 300 Q 1266 lv (.int (x + z) :: st) h := q_in rfl rfl
set_option maxRecDepth 100000 in
theorem r300_1266 : zR d 300 Q 1266 lv (.int x :: .ref c :: st) h = zal c x h (fun w => zR d 300 Q 1267 lv (.int w :: st) h) := q_iald rfl
set_option maxRecDepth 100000 in
theorem r300_1267 : zR d 300 Q 1267 (some (.ref c) :: l) st h = zR d 300 Q 1268 (some (.ref c) :: l) (.ref c :: st) h := q_in rfl rfl
set_option maxRecDepth 100000 in
theorem r300_1268 : zR d 300 Q 1268 (o0 :: o1 :: o2 :: some (.int x) :: l) st h = zR d 300 Q 1269 (o0 :: o1 :: o2 :: some (.int x) :: l) (.int x :: st) h := q_in rfl rfl
set_option maxRecDepth 100000 in
theorem r300_1269 : zR d 300 Q 1269 lv st h = zR d 300 Q 1270 lv (.int 2 :: st) h := q_in rfl rfl
set_option maxRecDepth 100000 in
theorem r300_1270 : zR d 300 Q 1270 lv (.int z :: .int x :: st) h = zR d 300 Q 1271 lv (.int (x + z) :: st) h := q_in rfl rfl
set_option maxRecDepth 100000 in
theorem r300_1271 : zR d 300 Q 1271 lv (.int x :: .ref c :: st) h = zal c x h (fun w => zR d 300 Q 1272 lv (.int w :: st) h) := q_iald rfl
set_option maxRecDepth 100000 in
theorem r300_1272 : zR d 300 Q 1272 lv [.int x1, .int x0, .ref 60, .int y0] h = zM d 194 [.ref 60, .int x0, .int x1] h (fun r h' => zR d 300 Q 1275 lv (r.toList ++ [.int y0]) h') := (q_clV rfl rfl (Nat.le_of_ble_eq_true rfl)).trans (zand_t ⟨rfl, Nat.le_of_ble_eq_true rfl⟩)
set_option maxRecDepth 100000 in
theorem r300_1275 : zR d 300 Q 1275 lv (.int z :: .int x :: st) h = if x = z then zR d 300 Q 1375 lv st h else zR d 300 Q 1278 lv st h := q_if rfl rfl
set_option maxRecDepth 100000 in
theorem r300_1278 : zR d 300 Q 1278 lv st h = zR d 300 Q 1279 lv (.int 0 :: st) h := q_in rfl rfl
set_option maxRecDepth 100000 in
theorem r300_1279f : zR d 300 Q 1279 lv [.int 0] h = Q (some (.int 0)) h := q_retz rfl rfl (Or.inr (Or.inl rfl))
set_option maxRecDepth 100000 in
theorem r300_1279t : zR d 300 Q 1279 lv [.int 1] h = Q (some (.int 1)) h := q_retz rfl rfl (Or.inr (Or.inr rfl))
set_option maxRecDepth 100000 in
theorem r300_1280 : zR d 300 Q 1280 (o0 :: some (.ref c) :: l) st h = zR d 300 Q 1281 (o0 :: some (.ref c) :: l) (.ref c :: st) h := q_in rfl rfl
set_option maxRecDepth 100000 in
theorem r300_1281 : zR d 300 Q 1281 (some (.ref c) :: l) st h = zR d 300 Q 1282 (some (.ref c) :: l) (.ref c :: st) h := q_in rfl rfl
set_option maxRecDepth 100000 in
theorem r300_1282 : zR d 300 Q 1282 (o0 :: o1 :: o2 :: some (.int x) :: l) st h = zR d 300 Q 1283 (o0 :: o1 :: o2 :: some (.int x) :: l) (.int x :: st) h := q_in rfl rfl
set_option maxRecDepth 100000 in
theorem r300_1283 : zR d 300 Q 1283 lv st h = zR d 300 Q 1284 lv (.int 1 :: st) h := q_in rfl rfl
set_option maxRecDepth 100000 in
theorem r300_1284 : zR d 300 Q 1284 lv (.int z :: .int x :: st) h = zR d 300 Q 1285 lv (.int (x + z) :: st) h := q_in rfl rfl
set_option maxRecDepth 100000 in
theorem r300_1285 : zR d 300 Q 1285 lv (.int x :: .ref c :: st) h = zal c x h (fun w => zR d 300 Q 1286 lv (.int w :: st) h) := q_iald rfl
set_option maxRecDepth 100000 in
theorem r300_1286 : zR d 300 Q 1286 lv [.int x0, .ref 0] h = zM d 97 [.ref 0, .int x0] h (fun r h' => zR d 300 Q 1289 lv (r.toList ++ []) h') := (q_clV rfl rfl (Nat.le_of_ble_eq_true rfl)).trans (zand_t ⟨rfl, Nat.le_of_ble_eq_true rfl⟩)
set_option maxRecDepth 100000 in
theorem r300_1289 : zR d 300 Q 1289 (o0 :: o1 :: some (.ref c) :: l) st h = zR d 300 Q 1290 (o0 :: o1 :: some (.ref c) :: l) (.ref c :: st) h := q_in rfl rfl
set_option maxRecDepth 100000 in
theorem r300_1290 : zR d 300 Q 1290 (some (.ref c) :: l) st h = zR d 300 Q 1291 (some (.ref c) :: l) (.ref c :: st) h := q_in rfl rfl
set_option maxRecDepth 100000 in
theorem r300_1291 : zR d 300 Q 1291 (o0 :: o1 :: o2 :: some (.int x) :: l) st h = zR d 300 Q 1292 (o0 :: o1 :: o2 :: some (.int x) :: l) (.int x :: st) h := q_in rfl rfl
set_option maxRecDepth 100000 in
theorem r300_1292 : zR d 300 Q 1292 lv st h = zR d 300 Q 1293 lv (.int 1 :: st) h := q_in rfl rfl
set_option maxRecDepth 100000 in
theorem r300_1293 : zR d 300 Q 1293 lv (.int z :: .int x :: st) h = zR d 300 Q 1294 lv (.int (x + z) :: st) h := q_in rfl rfl
set_option maxRecDepth 100000 in
theorem r300_1294 : zR d 300 Q 1294 lv (.int x :: .ref c :: st) h = zal c x h (fun w => zR d 300 Q 1295 lv (.int w :: st) h) := q_iald rfl
set_option maxRecDepth 100000 in
theorem r300_1295 : zR d 300 Q 1295 lv [.int x0, .ref 60, .int y0] h = zM d 195 [.ref 60, .int x0] h (fun r h' => zR d 300 Q 1298 lv (r.toList ++ [.int y0]) h') := (q_clV rfl rfl (Nat.le_of_ble_eq_true rfl)).trans (zand_t ⟨rfl, Nat.le_of_ble_eq_true rfl⟩)
set_option maxRecDepth 100000 in
theorem r300_1298 : zR d 300 Q 1298 lv (.int z :: .int x :: st) h = if x = z then zR d 300 Q 1375 lv st h else zR d 300 Q 1301 lv st h := q_if rfl rfl
set_option maxRecDepth 100000 in
theorem r300_1301 : zR d 300 Q 1301 lv st h = zR d 300 Q 1302 lv (.int 0 :: st) h := q_in rfl rfl
set_option maxRecDepth 100000 in
theorem r300_1302f : zR d 300 Q 1302 lv [.int 0] h = Q (some (.int 0)) h := q_retz rfl rfl (Or.inr (Or.inl rfl))
set_option maxRecDepth 100000 in
theorem r300_1302t : zR d 300 Q 1302 lv [.int 1] h = Q (some (.int 1)) h := q_retz rfl rfl (Or.inr (Or.inr rfl))
set_option maxRecDepth 100000 in
theorem r300_1303 : zR d 300 Q 1303 (o0 :: some (.ref c) :: l) st h = zR d 300 Q 1304 (o0 :: some (.ref c) :: l) (.ref c :: st) h := q_in rfl rfl
set_option maxRecDepth 100000 in
theorem r300_1304 : zR d 300 Q 1304 (some (.ref c) :: l) st h = zR d 300 Q 1305 (some (.ref c) :: l) (.ref c :: st) h := q_in rfl rfl
set_option maxRecDepth 100000 in
theorem r300_1305 : zR d 300 Q 1305 (o0 :: o1 :: o2 :: some (.int x) :: l) st h = zR d 300 Q 1306 (o0 :: o1 :: o2 :: some (.int x) :: l) (.int x :: st) h := q_in rfl rfl
set_option maxRecDepth 100000 in
theorem r300_1306 : zR d 300 Q 1306 lv st h = zR d 300 Q 1307 lv (.int 1 :: st) h := q_in rfl rfl
set_option maxRecDepth 100000 in
theorem r300_1307 : zR d 300 Q 1307 lv (.int z :: .int x :: st) h = zR d 300 Q 1308 lv (.int (x + z) :: st) h := q_in rfl rfl
set_option maxRecDepth 100000 in
theorem r300_1308 : zR d 300 Q 1308 lv (.int x :: .ref c :: st) h = zal c x h (fun w => zR d 300 Q 1309 lv (.int w :: st) h) := q_iald rfl
set_option maxRecDepth 100000 in
theorem r300_1309 : zR d 300 Q 1309 lv [.int x0, .ref 0] h = zM d 98 [.ref 0, .int x0] h (fun r h' => zR d 300 Q 1312 lv (r.toList ++ []) h') := (q_clV rfl rfl (Nat.le_of_ble_eq_true rfl)).trans (zand_t ⟨rfl, Nat.le_of_ble_eq_true rfl⟩)
set_option maxRecDepth 100000 in
theorem r300_1312 : zR d 300 Q 1312 (o0 :: o1 :: some (.ref c) :: l) st h = zR d 300 Q 1313 (o0 :: o1 :: some (.ref c) :: l) (.ref c :: st) h := q_in rfl rfl
set_option maxRecDepth 100000 in
theorem r300_1313 : zR d 300 Q 1313 (some (.ref c) :: l) st h = zR d 300 Q 1314 (some (.ref c) :: l) (.ref c :: st) h := q_in rfl rfl
set_option maxRecDepth 100000 in
theorem r300_1314 : zR d 300 Q 1314 (o0 :: o1 :: o2 :: some (.int x) :: l) st h = zR d 300 Q 1315 (o0 :: o1 :: o2 :: some (.int x) :: l) (.int x :: st) h := q_in rfl rfl
set_option maxRecDepth 100000 in
theorem r300_1315 : zR d 300 Q 1315 lv st h = zR d 300 Q 1316 lv (.int 1 :: st) h := q_in rfl rfl
set_option maxRecDepth 100000 in
theorem r300_1316 : zR d 300 Q 1316 lv (.int z :: .int x :: st) h = zR d 300 Q 1317 lv (.int (x + z) :: st) h := q_in rfl rfl
set_option maxRecDepth 100000 in
theorem r300_1317 : zR d 300 Q 1317 lv (.int x :: .ref c :: st) h = zal c x h (fun w => zR d 300 Q 1318 lv (.int w :: st) h) := q_iald rfl
set_option maxRecDepth 100000 in
theorem r300_1318 : zR d 300 Q 1318 lv [.int x0, .ref 60, .int y0] h = zM d 197 [.ref 60, .int x0] h (fun r h' => zR d 300 Q 1321 lv (r.toList ++ [.int y0]) h') := (q_clV rfl rfl (Nat.le_of_ble_eq_true rfl)).trans (zand_t ⟨rfl, Nat.le_of_ble_eq_true rfl⟩)
set_option maxRecDepth 100000 in
theorem r300_1321 : zR d 300 Q 1321 lv (.int z :: .int x :: st) h = if x = z then zR d 300 Q 1375 lv st h else zR d 300 Q 1324 lv st h := q_if rfl rfl
set_option maxRecDepth 100000 in
theorem r300_1324 : zR d 300 Q 1324 lv st h = zR d 300 Q 1325 lv (.int 0 :: st) h := q_in rfl rfl
set_option maxRecDepth 100000 in
theorem r300_1325f : zR d 300 Q 1325 lv [.int 0] h = Q (some (.int 0)) h := q_retz rfl rfl (Or.inr (Or.inl rfl))
set_option maxRecDepth 100000 in
theorem r300_1325t : zR d 300 Q 1325 lv [.int 1] h = Q (some (.int 1)) h := q_retz rfl rfl (Or.inr (Or.inr rfl))
set_option maxRecDepth 100000 in
theorem r300_1326 : zR d 300 Q 1326 (o0 :: some (.ref c) :: l) st h = zR d 300 Q 1327 (o0 :: some (.ref c) :: l) (.ref c :: st) h := q_in rfl rfl
set_option maxRecDepth 100000 in
theorem r300_1327 : zR d 300 Q 1327 lv [.ref 0] h = zM d 100 [.ref 0] h (fun r h' => zR d 300 Q 1330 lv (r.toList ++ []) h') := (q_clV rfl rfl (Nat.le_of_ble_eq_true rfl)).trans (zand_t ⟨rfl, Nat.le_of_ble_eq_true rfl⟩)
set_option maxRecDepth 100000 in
theorem r300_1330 : zR d 300 Q 1330 (o0 :: o1 :: some (.ref c) :: l) st h = zR d 300 Q 1331 (o0 :: o1 :: some (.ref c) :: l) (.ref c :: st) h := q_in rfl rfl
set_option maxRecDepth 100000 in
theorem r300_1331 : zR d 300 Q 1331 lv [.ref 60, .int y0] h = zM d 198 [.ref 60] h (fun r h' => zR d 300 Q 1334 lv (r.toList ++ [.int y0]) h') := (q_clV rfl rfl (Nat.le_of_ble_eq_true rfl)).trans (zand_t ⟨rfl, Nat.le_of_ble_eq_true rfl⟩)
set_option maxRecDepth 100000 in
theorem r300_1334 : zR d 300 Q 1334 lv (.int z :: .int x :: st) h = if x = z then zR d 300 Q 1375 lv st h else zR d 300 Q 1337 lv st h := q_if rfl rfl
set_option maxRecDepth 100000 in
theorem r300_1337 : zR d 300 Q 1337 lv st h = zR d 300 Q 1338 lv (.int 0 :: st) h := q_in rfl rfl
set_option maxRecDepth 100000 in
theorem r300_1338f : zR d 300 Q 1338 lv [.int 0] h = Q (some (.int 0)) h := q_retz rfl rfl (Or.inr (Or.inl rfl))
set_option maxRecDepth 100000 in
theorem r300_1338t : zR d 300 Q 1338 lv [.int 1] h = Q (some (.int 1)) h := q_retz rfl rfl (Or.inr (Or.inr rfl))
set_option maxRecDepth 100000 in
theorem r300_1339 : zR d 300 Q 1339 (o0 :: some (.ref c) :: l) st h = zR d 300 Q 1340 (o0 :: some (.ref c) :: l) (.ref c :: st) h := q_in rfl rfl
set_option maxRecDepth 100000 in
theorem r300_1340 : zR d 300 Q 1340 lv [.ref 0] h = zM d 101 [.ref 0] h (fun r h' => zR d 300 Q 1343 lv (r.toList ++ []) h') := (q_clV rfl rfl (Nat.le_of_ble_eq_true rfl)).trans (zand_t ⟨rfl, Nat.le_of_ble_eq_true rfl⟩)
set_option maxRecDepth 100000 in
theorem r300_1343 : zR d 300 Q 1343 (o0 :: o1 :: some (.ref c) :: l) st h = zR d 300 Q 1344 (o0 :: o1 :: some (.ref c) :: l) (.ref c :: st) h := q_in rfl rfl
set_option maxRecDepth 100000 in
theorem r300_1344 : zR d 300 Q 1344 lv [.ref 60, .int y0] h = zM d 199 [.ref 60] h (fun r h' => zR d 300 Q 1347 lv (r.toList ++ [.int y0]) h') := (q_clV rfl rfl (Nat.le_of_ble_eq_true rfl)).trans (zand_t ⟨rfl, Nat.le_of_ble_eq_true rfl⟩)
set_option maxRecDepth 100000 in
theorem r300_1347 : zR d 300 Q 1347 lv (.int z :: .int x :: st) h = if x = z then zR d 300 Q 1375 lv st h else zR d 300 Q 1350 lv st h := q_if rfl rfl
set_option maxRecDepth 100000 in
theorem r300_1350 : zR d 300 Q 1350 lv st h = zR d 300 Q 1351 lv (.int 0 :: st) h := q_in rfl rfl
set_option maxRecDepth 100000 in
theorem r300_1351f : zR d 300 Q 1351 lv [.int 0] h = Q (some (.int 0)) h := q_retz rfl rfl (Or.inr (Or.inl rfl))
set_option maxRecDepth 100000 in
theorem r300_1351t : zR d 300 Q 1351 lv [.int 1] h = Q (some (.int 1)) h := q_retz rfl rfl (Or.inr (Or.inr rfl))
set_option maxRecDepth 100000 in
theorem r300_1352 : zR d 300 Q 1352 (o0 :: some (.ref c) :: l) st h = zR d 300 Q 1353 (o0 :: some (.ref c) :: l) (.ref c :: st) h := q_in rfl rfl
set_option maxRecDepth 100000 in
theorem r300_1353 : zR d 300 Q 1353 (some (.ref c) :: l) st h = zR d 300 Q 1354 (some (.ref c) :: l) (.ref c :: st) h := q_in rfl rfl
set_option maxRecDepth 100000 in
theorem r300_1354 : zR d 300 Q 1354 (o0 :: o1 :: o2 :: some (.int x) :: l) st h = zR d 300 Q 1355 (o0 :: o1 :: o2 :: some (.int x) :: l) (.int x :: st) h := q_in rfl rfl
set_option maxRecDepth 100000 in
theorem r300_1355 : zR d 300 Q 1355 lv st h = zR d 300 Q 1356 lv (.int 1 :: st) h := q_in rfl rfl
set_option maxRecDepth 100000 in
theorem r300_1356 : zR d 300 Q 1356 lv (.int z :: .int x :: st) h = zR d 300 Q 1357 lv (.int (x + z) :: st) h := q_in rfl rfl
set_option maxRecDepth 100000 in
theorem r300_1357 : zR d 300 Q 1357 lv (.int x :: .ref c :: st) h = zal c x h (fun w => zR d 300 Q 1358 lv (.int w :: st) h) := q_iald rfl
set_option maxRecDepth 100000 in
theorem r300_1358 : zR d 300 Q 1358 lv [.int x0, .ref 0] h = zM d 102 [.ref 0, .int x0] h (fun r h' => zR d 300 Q 1361 lv (r.toList ++ []) h') := (q_clV rfl rfl (Nat.le_of_ble_eq_true rfl)).trans (zand_t ⟨rfl, Nat.le_of_ble_eq_true rfl⟩)
set_option maxRecDepth 100000 in
theorem r300_1361 : zR d 300 Q 1361 (o0 :: o1 :: some (.ref c) :: l) st h = zR d 300 Q 1362 (o0 :: o1 :: some (.ref c) :: l) (.ref c :: st) h := q_in rfl rfl
set_option maxRecDepth 100000 in
theorem r300_1362 : zR d 300 Q 1362 (some (.ref c) :: l) st h = zR d 300 Q 1363 (some (.ref c) :: l) (.ref c :: st) h := q_in rfl rfl
set_option maxRecDepth 100000 in
theorem r300_1363 : zR d 300 Q 1363 (o0 :: o1 :: o2 :: some (.int x) :: l) st h = zR d 300 Q 1364 (o0 :: o1 :: o2 :: some (.int x) :: l) (.int x :: st) h := q_in rfl rfl
set_option maxRecDepth 100000 in
theorem r300_1364 : zR d 300 Q 1364 lv st h = zR d 300 Q 1365 lv (.int 1 :: st) h := q_in rfl rfl
set_option maxRecDepth 100000 in
theorem r300_1365 : zR d 300 Q 1365 lv (.int z :: .int x :: st) h = zR d 300 Q 1366 lv (.int (x + z) :: st) h := q_in rfl rfl
set_option maxRecDepth 100000 in
theorem r300_1366 : zR d 300 Q 1366 lv (.int x :: .ref c :: st) h = zal c x h (fun w => zR d 300 Q 1367 lv (.int w :: st) h) := q_iald rfl
set_option maxRecDepth 100000 in
theorem r300_1367 : zR d 300 Q 1367 lv [.int x0, .ref 60, .int y0] h = zM d 200 [.ref 60, .int x0] h (fun r h' => zR d 300 Q 1370 lv (r.toList ++ [.int y0]) h') := (q_clV rfl rfl (Nat.le_of_ble_eq_true rfl)).trans (zand_t ⟨rfl, Nat.le_of_ble_eq_true rfl⟩)
set_option maxRecDepth 100000 in
theorem r300_1370 : zR d 300 Q 1370 lv (.int z :: .int x :: st) h = if x = z then zR d 300 Q 1375 lv st h else zR d 300 Q 1373 lv st h := q_if rfl rfl
set_option maxRecDepth 100000 in
theorem r300_1373 : zR d 300 Q 1373 lv st h = zR d 300 Q 1374 lv (.int 0 :: st) h := q_in rfl rfl
set_option maxRecDepth 100000 in
theorem r300_1374f : zR d 300 Q 1374 lv [.int 0] h = Q (some (.int 0)) h := q_retz rfl rfl (Or.inr (Or.inl rfl))
set_option maxRecDepth 100000 in
theorem r300_1374t : zR d 300 Q 1374 lv [.int 1] h = Q (some (.int 1)) h := q_retz rfl rfl (Or.inr (Or.inr rfl))
set_option maxRecDepth 100000 in
theorem r300_1375 : zR d 300 Q 1375 (o0 :: o1 :: o2 :: some (.int x) :: l) st h = zR d 300 Q 1378 (o0 :: o1 :: o2 :: some (.int (x + 6)) :: l) st h := q_in rfl rfl
set_option maxRecDepth 100000 in
theorem r300_1378 : zR d 300 Q 1378 lv st h = zR d 300 Q 18 lv st h := q_in rfl rfl
set_option maxRecDepth 100000 in
theorem r300_1381 : zR d 300 Q 1381 lv st h = zR d 300 Q 1382 lv (.int 1 :: st) h := q_in rfl rfl
set_option maxRecDepth 100000 in
theorem r300_1382f : zR d 300 Q 1382 lv [.int 0] h = Q (some (.int 0)) h := q_retz rfl rfl (Or.inr (Or.inl rfl))
set_option maxRecDepth 100000 in
theorem r300_1382t : zR d 300 Q 1382 lv [.int 1] h = Q (some (.int 1)) h := q_retz rfl rfl (Or.inr (Or.inr rfl))
end
