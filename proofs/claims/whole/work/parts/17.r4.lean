section
variable {d : Nat} {Q : Option Value → zH → Prop} {lv l : zL} {st : zS} {h : zH} {x z : Int32} {c : Nat} {i j : Int64} {o0 o1 o2 o3 o4 o5 o6 o7 o8 o9 o10 o11 o12 : Option Value} {x0 x1 x2 x3 x4 y0 y1 y2 y3 : Int32} {c0 c1 c2 c3 c4 a0 a1 a2 a3 : Nat} {j0 j1 j2 k0 k1 : Int64}

theorem r117_0 : zR d 117 Q 0 (some (.ref c) :: l) st h = zR d 117 Q 1 (some (.ref c) :: l) (.ref c :: st) h := q_in rfl rfl
theorem r117_1 : zR d 117 Q 1 lv (.ref 60 :: st) h = zR d 117 Q 4 lv (.ref 61 :: st) h := (q_and rfl rfl).trans (zand_t rfl)
theorem r117_4 : zR d 117 Q 4 lv st h = zR d 117 Q 5 lv (.int 5 :: st) h := q_in rfl rfl
theorem r117_5 : zR d 117 Q 5 (some (.ref c) :: l) st h = zR d 117 Q 6 (some (.ref c) :: l) (.ref c :: st) h := q_in rfl rfl
theorem r117_6 : zR d 117 Q 6 lv (.ref 60 :: st) h = zR d 117 Q 9 lv (.ref 61 :: st) h := (q_and rfl rfl).trans (zand_t rfl)
theorem r117_9 : zR d 117 Q 9 lv st h = zR d 117 Q 10 lv (.int 5 :: st) h := q_in rfl rfl
theorem r117_10 : zR d 117 Q 10 lv (.int x :: .ref c :: st) h = zal c x h (fun w => zR d 117 Q 11 lv (.int w :: st) h) := q_iald rfl
theorem r117_11 : zR d 117 Q 11 lv st h = zR d 117 Q 13 lv (.int 1103515245 :: st) h := q_in rfl rfl
theorem r117_13 : zR d 117 Q 13 lv (.int z :: .int x :: st) h = zR d 117 Q 14 lv (.int (x * z) :: st) h := q_in rfl rfl
theorem r117_14 : zR d 117 Q 14 lv st h = zR d 117 Q 17 lv (.int 12345 :: st) h := q_in rfl rfl
theorem r117_17 : zR d 117 Q 17 lv (.int z :: .int x :: st) h = zR d 117 Q 18 lv (.int (x + z) :: st) h := q_in rfl rfl
theorem r117_18 : zR d 117 Q 18 lv (.int z :: .int x :: .ref c :: st) h = zas c x z h (fun h' => zR d 117 Q 19 lv st h') := q_iast rfl
theorem r117_19 : zR d 117 Q 19 (some (.ref c) :: l) st h = zR d 117 Q 20 (some (.ref c) :: l) (.ref c :: st) h := q_in rfl rfl
theorem r117_20 : zR d 117 Q 20 lv (.ref 60 :: st) h = zR d 117 Q 23 lv (.ref 61 :: st) h := (q_and rfl rfl).trans (zand_t rfl)
theorem r117_23 : zR d 117 Q 23 lv st h = zR d 117 Q 24 lv (.int 5 :: st) h := q_in rfl rfl
theorem r117_24 : zR d 117 Q 24 lv (.int x :: .ref c :: st) h = zal c x h (fun w => zR d 117 Q 25 lv (.int w :: st) h) := q_iald rfl
theorem r117_25 : zR d 117 Q 25 lv st h = zR d 117 Q 27 lv (.int 8 :: st) h := q_in rfl rfl
theorem r117_27 : zR d 117 Q 27 lv (.int z :: .int x :: st) h = zR d 117 Q 28 lv (.int ((x.toUInt32 >>> (z.toUInt32 &&& Int32.toUInt32 31)).toInt32) :: st) h := q_in rfl rfl
theorem r117_28 : zR d 117 Q 28 lv [.int x] h = Q (some (.int x)) h := q_retz rfl rfl (Or.inl rfl)
theorem r118_0 : zR d 118 Q 0 (some (.ref c) :: l) st h = zR d 118 Q 1 (some (.ref c) :: l) (.ref c :: st) h := q_in rfl rfl
theorem r118_1 : zR d 118 Q 1 lv (.ref 60 :: st) h = zR d 118 Q 4 lv (.ref 61 :: st) h := (q_and rfl rfl).trans (zand_t rfl)
theorem r118_4 : zR d 118 Q 4 lv st h = zR d 118 Q 5 lv (.int 0 :: st) h := q_in rfl rfl
theorem r118_5 : zR d 118 Q 5 lv (.int x :: .ref c :: st) h = zal c x h (fun w => zR d 118 Q 6 lv (.int w :: st) h) := q_iald rfl
theorem r118_6 : zR d 118 Q 6 (o0 :: o1 :: o2 :: o3 :: o4 :: l) (.int x :: st) h = zR d 118 Q 8 (o0 :: o1 :: o2 :: o3 :: some (.int x) :: l) st h := q_in rfl rfl
theorem r118_8 : zR d 118 Q 8 (some (.ref c) :: l) st h = zR d 118 Q 9 (some (.ref c) :: l) (.ref c :: st) h := q_in rfl rfl
theorem r118_9 : zR d 118 Q 9 lv (.ref 60 :: st) h = zR d 118 Q 12 lv (.ref 61 :: st) h := (q_and rfl rfl).trans (zand_t rfl)
theorem r118_12 : zR d 118 Q 12 lv st h = zR d 118 Q 13 lv (.int 0 :: st) h := q_in rfl rfl
theorem r118_13 : zR d 118 Q 13 lv (.int x :: .ref c :: st) h = zR d 118 Q 14 lv (.int x :: .ref c :: .int x :: .ref c :: st) h := q_in rfl rfl
theorem r118_14 : zR d 118 Q 14 lv (.int x :: .ref c :: st) h = zal c x h (fun w => zR d 118 Q 15 lv (.int w :: st) h) := q_iald rfl
theorem r118_15 : zR d 118 Q 15 lv st h = zR d 118 Q 16 lv (.int 1 :: st) h := q_in rfl rfl
theorem r118_16 : zR d 118 Q 16 lv (.int z :: .int x :: st) h = zR d 118 Q 17 lv (.int (x + z) :: st) h := q_in rfl rfl
theorem r118_17 : zR d 118 Q 17 lv (.int z :: .int x :: .ref c :: st) h = zas c x z h (fun h' => zR d 118 Q 18 lv st h') := q_iast rfl
theorem r118_18 : zR d 118 Q 18 (some (.ref c) :: l) st h = zR d 118 Q 19 (some (.ref c) :: l) (.ref c :: st) h := q_in rfl rfl
theorem r118_19 : zR d 118 Q 19 (o0 :: o1 :: o2 :: o3 :: some (.int x) :: l) st h = zR d 118 Q 21 (o0 :: o1 :: o2 :: o3 :: some (.int x) :: l) (.int x :: st) h := q_in rfl rfl
theorem r118_21 : zR d 118 Q 21 lv st h = zR d 118 Q 22 lv (.int 0 :: st) h := q_in rfl rfl
theorem r118_22 : zR d 118 Q 22 (o0 :: some (.int x) :: l) st h = zR d 118 Q 23 (o0 :: some (.int x) :: l) (.int x :: st) h := q_in rfl rfl
theorem r118_23 : zR d 118 Q 23 lv [.int x2, .int x1, .int x0, .ref 60] h = zM d 114 [.ref 60, .int x0, .int x1, .int x2] h (fun r h' => zR d 118 Q 26 lv (r.toList ++ []) h') := (q_clV rfl rfl (Nat.le_of_ble_eq_true rfl)).trans (zand_t ⟨rfl, Nat.le_of_ble_eq_true rfl⟩)
theorem r118_26 : zR d 118 Q 26 (some (.ref c) :: l) st h = zR d 118 Q 27 (some (.ref c) :: l) (.ref c :: st) h := q_in rfl rfl
theorem r118_27 : zR d 118 Q 27 (o0 :: o1 :: o2 :: o3 :: some (.int x) :: l) st h = zR d 118 Q 29 (o0 :: o1 :: o2 :: o3 :: some (.int x) :: l) (.int x :: st) h := q_in rfl rfl
theorem r118_29 : zR d 118 Q 29 lv st h = zR d 118 Q 30 lv (.int 1 :: st) h := q_in rfl rfl
theorem r118_30 : zR d 118 Q 30 (o0 :: o1 :: some (.int x) :: l) st h = zR d 118 Q 31 (o0 :: o1 :: some (.int x) :: l) (.int x :: st) h := q_in rfl rfl
theorem r118_31 : zR d 118 Q 31 lv [.int x2, .int x1, .int x0, .ref 60] h = zM d 114 [.ref 60, .int x0, .int x1, .int x2] h (fun r h' => zR d 118 Q 34 lv (r.toList ++ []) h') := (q_clV rfl rfl (Nat.le_of_ble_eq_true rfl)).trans (zand_t ⟨rfl, Nat.le_of_ble_eq_true rfl⟩)
theorem r118_34 : zR d 118 Q 34 (some (.ref c) :: l) st h = zR d 118 Q 35 (some (.ref c) :: l) (.ref c :: st) h := q_in rfl rfl
theorem r118_35 : zR d 118 Q 35 (o0 :: o1 :: o2 :: o3 :: some (.int x) :: l) st h = zR d 118 Q 37 (o0 :: o1 :: o2 :: o3 :: some (.int x) :: l) (.int x :: st) h := q_in rfl rfl
theorem r118_37 : zR d 118 Q 37 lv st h = zR d 118 Q 38 lv (.int 2 :: st) h := q_in rfl rfl
theorem r118_38 : zR d 118 Q 38 (o0 :: o1 :: o2 :: some (.int x) :: l) st h = zR d 118 Q 39 (o0 :: o1 :: o2 :: some (.int x) :: l) (.int x :: st) h := q_in rfl rfl
theorem r118_39 : zR d 118 Q 39 lv [.int x2, .int x1, .int x0, .ref 60] h = zM d 114 [.ref 60, .int x0, .int x1, .int x2] h (fun r h' => zR d 118 Q 42 lv (r.toList ++ []) h') := (q_clV rfl rfl (Nat.le_of_ble_eq_true rfl)).trans (zand_t ⟨rfl, Nat.le_of_ble_eq_true rfl⟩)
theorem r118_42 : zR d 118 Q 42 (some (.ref c) :: l) st h = zR d 118 Q 43 (some (.ref c) :: l) (.ref c :: st) h := q_in rfl rfl
theorem r118_43 : zR d 118 Q 43 (o0 :: o1 :: o2 :: o3 :: some (.int x) :: l) st h = zR d 118 Q 45 (o0 :: o1 :: o2 :: o3 :: some (.int x) :: l) (.int x :: st) h := q_in rfl rfl
theorem r118_45 : zR d 118 Q 45 lv st h = zR d 118 Q 46 lv (.int 3 :: st) h := q_in rfl rfl
theorem r118_46 : zR d 118 Q 46 lv st h = zR d 118 Q 47 lv (.int 0 :: st) h := q_in rfl rfl
theorem r118_47 : zR d 118 Q 47 lv [.int x2, .int x1, .int x0, .ref 60] h = zM d 114 [.ref 60, .int x0, .int x1, .int x2] h (fun r h' => zR d 118 Q 50 lv (r.toList ++ []) h') := (q_clV rfl rfl (Nat.le_of_ble_eq_true rfl)).trans (zand_t ⟨rfl, Nat.le_of_ble_eq_true rfl⟩)
theorem r118_50 : zR d 118 Q 50 (some (.ref c) :: l) st h = zR d 118 Q 51 (some (.ref c) :: l) (.ref c :: st) h := q_in rfl rfl
theorem r118_51 : zR d 118 Q 51 (o0 :: o1 :: o2 :: o3 :: some (.int x) :: l) st h = zR d 118 Q 53 (o0 :: o1 :: o2 :: o3 :: some (.int x) :: l) (.int x :: st) h := q_in rfl rfl
theorem r118_53 : zR d 118 Q 53 lv st h = zR d 118 Q 54 lv (.int 4 :: st) h := q_in rfl rfl
theorem r118_54 : zR d 118 Q 54 lv st h = zR d 118 Q 55 lv (.int 0 :: st) h := q_in rfl rfl
theorem r118_55 : zR d 118 Q 55 lv [.int x2, .int x1, .int x0, .ref 60] h = zM d 114 [.ref 60, .int x0, .int x1, .int x2] h (fun r h' => zR d 118 Q 58 lv (r.toList ++ []) h') := (q_clV rfl rfl (Nat.le_of_ble_eq_true rfl)).trans (zand_t ⟨rfl, Nat.le_of_ble_eq_true rfl⟩)
theorem r118_58 : zR d 118 Q 58 lv [] h = Q none h := q_ret rfl rfl
theorem r119_0 : zR d 119 Q 0 (o0 :: some (.int x) :: l) st h = zR d 119 Q 1 (o0 :: some (.int x) :: l) (.int x :: st) h := q_in rfl rfl
theorem r119_1 : zR d 119 Q 1 lv (.int x :: st) h = zR d 119 Q 2 lv (.long x.toInt64 :: st) h := q_in rfl rfl
theorem r119_2 : zR d 119 Q 2 lv st h = zR d 119 Q 3 lv (.long (Int32.toInt64 0) :: st) h := q_in rfl rfl
theorem r119_3 : zR d 119 Q 3 lv st h = zR d 119 Q 6 lv (.long (Int32.toInt64 5) :: st) h := q_in rfl rfl
theorem r119_6 : zR d 119 Q 6 lv [.long j2, .long j1, .long j0] h = zM d 106 [.long j0, .long j1, .long j2] h (fun r h' => zR d 119 Q 9 lv (r.toList ++ []) h') := q_clS rfl rfl ⟨Nat.le_of_ble_eq_true rfl, Nat.le_of_ble_eq_true rfl⟩
theorem r119_9 : zR d 119 Q 9 lv (.int x :: st) h = if x = 0 then zR d 119 Q 34 lv st h else zR d 119 Q 12 lv st h := q_if rfl rfl
theorem r119_12 : zR d 119 Q 12 (o0 :: o1 :: some (.int x) :: l) st h = zR d 119 Q 13 (o0 :: o1 :: some (.int x) :: l) (.int x :: st) h := q_in rfl rfl
theorem r119_13 : zR d 119 Q 13 lv (.int x :: st) h = zR d 119 Q 14 lv (.long x.toInt64 :: st) h := q_in rfl rfl
theorem r119_14 : zR d 119 Q 14 lv st h = zR d 119 Q 15 lv (.long (Int32.toInt64 1) :: st) h := q_in rfl rfl
theorem r119_15 : zR d 119 Q 15 lv st h = zR d 119 Q 18 lv (.long (Int32.toInt64 99) :: st) h := q_in rfl rfl
theorem r119_18 : zR d 119 Q 18 lv [.long j2, .long j1, .long j0] h = zM d 106 [.long j0, .long j1, .long j2] h (fun r h' => zR d 119 Q 21 lv (r.toList ++ []) h') := q_clS rfl rfl ⟨Nat.le_of_ble_eq_true rfl, Nat.le_of_ble_eq_true rfl⟩
theorem r119_21 : zR d 119 Q 21 lv (.int x :: st) h = if x = 0 then zR d 119 Q 34 lv st h else zR d 119 Q 24 lv st h := q_if rfl rfl
theorem r119_24 : zR d 119 Q 24 (o0 :: o1 :: o2 :: some (.int x) :: l) st h = zR d 119 Q 25 (o0 :: o1 :: o2 :: some (.int x) :: l) (.int x :: st) h := q_in rfl rfl
theorem r119_25 : zR d 119 Q 25 lv (.int x :: st) h = zR d 119 Q 26 lv (.long x.toInt64 :: st) h := q_in rfl rfl
theorem r119_26 : zR d 119 Q 26 lv st h = zR d 119 Q 27 lv (.long (Int32.toInt64 0) :: st) h := q_in rfl rfl
theorem r119_27 : zR d 119 Q 27 lv st h = zR d 119 Q 28 lv (.long (Int32.toInt64 1) :: st) h := q_in rfl rfl
theorem r119_28 : zR d 119 Q 28 lv [.long j2, .long j1, .long j0] h = zM d 106 [.long j0, .long j1, .long j2] h (fun r h' => zR d 119 Q 31 lv (r.toList ++ []) h') := q_clS rfl rfl ⟨Nat.le_of_ble_eq_true rfl, Nat.le_of_ble_eq_true rfl⟩
theorem r119_31 : zR d 119 Q 31 lv (.int x :: st) h = if x = 0 then zR d 119 Q 34 lv st h else zR d 119 Q 37 lv st h := q_if rfl rfl
theorem r119_34 : zR d 119 Q 34 lv st h = zR d 119 Q 36 lv (.int (-1000000001) :: st) h := q_in rfl rfl
theorem r119_36 : zR d 119 Q 36 lv [.int x] h = Q (some (.int x)) h := q_retz rfl rfl (Or.inl rfl)
theorem r119_37 : zR d 119 Q 37 (some (.ref c) :: l) st h = zR d 119 Q 38 (some (.ref c) :: l) (.ref c :: st) h := q_in rfl rfl
theorem r119_38 : zR d 119 Q 38 lv (.ref 60 :: st) h = zR d 119 Q 41 lv (.ref 61 :: st) h := (q_and rfl rfl).trans (zand_t rfl)
theorem r119_41 : zR d 119 Q 41 lv st h = zR d 119 Q 42 lv (.int 0 :: st) h := q_in rfl rfl
theorem r119_42 : zR d 119 Q 42 lv (.int x :: .ref c :: st) h = zal c x h (fun w => zR d 119 Q 43 lv (.int w :: st) h) := q_iald rfl
theorem r119_43 : zR d 119 Q 43 lv st h = zR d 119 Q 45 lv (.int 10 :: st) h := q_in rfl rfl
theorem r119_45 : zR d 119 Q 45 lv (.int z :: .int x :: st) h = if x = z then zR d 119 Q 48 lv st h else zR d 119 Q 51 lv st h := q_if rfl rfl
theorem r119_48 : zR d 119 Q 48 lv st h = zR d 119 Q 50 lv (.int (-1000000003) :: st) h := q_in rfl rfl
theorem r119_50 : zR d 119 Q 50 lv [.int x] h = Q (some (.int x)) h := q_retz rfl rfl (Or.inl rfl)
theorem r119_51 : zR d 119 Q 51 (some (.ref c) :: l) st h = zR d 119 Q 52 (some (.ref c) :: l) (.ref c :: st) h := q_in rfl rfl
theorem r119_52 : zR d 119 Q 52 (o0 :: some (.int x) :: l) st h = zR d 119 Q 53 (o0 :: some (.int x) :: l) (.int x :: st) h := q_in rfl rfl
theorem r119_53 : zR d 119 Q 53 (o0 :: o1 :: some (.int x) :: l) st h = zR d 119 Q 54 (o0 :: o1 :: some (.int x) :: l) (.int x :: st) h := q_in rfl rfl
theorem r119_54 : zR d 119 Q 54 (o0 :: o1 :: o2 :: some (.int x) :: l) st h = zR d 119 Q 55 (o0 :: o1 :: o2 :: some (.int x) :: l) (.int x :: st) h := q_in rfl rfl
theorem r119_55 : zR d 119 Q 55 lv [.int x2, .int x1, .int x0, .ref 60] h = zM d 118 [.ref 60, .int x0, .int x1, .int x2] h (fun r h' => zR d 119 Q 58 lv (r.toList ++ []) h') := (q_clV rfl rfl (Nat.le_of_ble_eq_true rfl)).trans (zand_t ⟨rfl, Nat.le_of_ble_eq_true rfl⟩)
theorem r119_58 : zR d 119 Q 58 (some (.ref c) :: l) st h = zR d 119 Q 59 (some (.ref c) :: l) (.ref c :: st) h := q_in rfl rfl
theorem r119_59 : zR d 119 Q 59 lv (.ref 60 :: st) h = zR d 119 Q 62 lv (.ref 61 :: st) h := (q_and rfl rfl).trans (zand_t rfl)
theorem r119_62 : zR d 119 Q 62 lv st h = zR d 119 Q 63 lv (.int 0 :: st) h := q_in rfl rfl
theorem r119_63 : zR d 119 Q 63 lv (.int x :: .ref c :: st) h = zal c x h (fun w => zR d 119 Q 64 lv (.int w :: st) h) := q_iald rfl
theorem r119_64 : zR d 119 Q 64 lv st h = zR d 119 Q 65 lv (.int 1 :: st) h := q_in rfl rfl
theorem r119_65 : zR d 119 Q 65 lv (.int z :: .int x :: st) h = zR d 119 Q 66 lv (.int (x - z) :: st) h := q_in rfl rfl
theorem r119_66 : zR d 119 Q 66 lv [.int x] h = Q (some (.int x)) h := q_retz rfl rfl (Or.inl rfl)
theorem r120_0 : zR d 120 Q 0 (some (.ref c) :: l) st h = zR d 120 Q 1 (some (.ref c) :: l) (.ref c :: st) h := q_in rfl rfl
theorem r120_1 : zR d 120 Q 1 (o0 :: some (.int x) :: l) st h = zR d 120 Q 2 (o0 :: some (.int x) :: l) (.int x :: st) h := q_in rfl rfl
theorem r120_2 : zR d 120 Q 2 lv st h = zR d 120 Q 3 lv (.int 1 :: st) h := q_in rfl rfl
theorem r120_3 : zR d 120 Q 3 lv [.int x1, .int x0, .ref 60] h = zM d 113 [.ref 60, .int x0, .int x1] h (fun r h' => zR d 120 Q 6 lv (r.toList ++ []) h') := (q_clV rfl rfl (Nat.le_of_ble_eq_true rfl)).trans (zand_t ⟨rfl, Nat.le_of_ble_eq_true rfl⟩)
theorem r120_6 : zR d 120 Q 6 (o0 :: o1 :: o2 :: l) (.int x :: st) h = zR d 120 Q 7 (o0 :: o1 :: some (.int x) :: l) st h := q_in rfl rfl
theorem r120_7 : zR d 120 Q 7 (some (.ref c) :: l) st h = zR d 120 Q 8 (some (.ref c) :: l) (.ref c :: st) h := q_in rfl rfl
theorem r120_8 : zR d 120 Q 8 lv st h = zR d 120 Q 9 lv (.int 0 :: st) h := q_in rfl rfl
theorem r120_9 : zR d 120 Q 9 lv [.int x0, .ref 60] h = zM d 179 [.ref 60, .int x0] h (fun r h' => zR d 120 Q 12 lv (r.toList ++ []) h') := (q_clV rfl rfl (Nat.le_of_ble_eq_true rfl)).trans (zand_t ⟨rfl, Nat.le_of_ble_eq_true rfl⟩)
theorem r120_12 : zR d 120 Q 12 (o0 :: o1 :: o2 :: o3 :: l) (.int x :: st) h = zR d 120 Q 13 (o0 :: o1 :: o2 :: some (.int x) :: l) st h := q_in rfl rfl
theorem r120_13 : zR d 120 Q 13 (o0 :: o1 :: o2 :: some (.int x) :: l) st h = zR d 120 Q 14 (o0 :: o1 :: o2 :: some (.int x) :: l) (.int x :: st) h := q_in rfl rfl
theorem r120_14 : zR d 120 Q 14 lv (.int x :: st) h = if x < 0 then zR d 120 Q 70 lv st h else zR d 120 Q 17 lv st h := q_if rfl rfl
theorem r120_17 : zR d 120 Q 17 (some (.ref c) :: l) st h = zR d 120 Q 18 (some (.ref c) :: l) (.ref c :: st) h := q_in rfl rfl
theorem r120_18 : zR d 120 Q 18 lv (.ref 60 :: st) h = zR d 120 Q 21 lv (.ref 75 :: st) h := (q_and rfl rfl).trans (zand_t rfl)
theorem r120_21 : zR d 120 Q 21 lv st h = zR d 120 Q 23 lv (.int 119 :: st) h := q_in rfl rfl
theorem r120_23 : zR d 120 Q 23 (some (.ref c) :: l) st h = zR d 120 Q 24 (some (.ref c) :: l) (.ref c :: st) h := q_in rfl rfl
theorem r120_24 : zR d 120 Q 24 (o0 :: some (.int x) :: l) st h = zR d 120 Q 25 (o0 :: some (.int x) :: l) (.int x :: st) h := q_in rfl rfl
theorem r120_25 : zR d 120 Q 25 lv st h = zR d 120 Q 26 lv (.int 1 :: st) h := q_in rfl rfl
theorem r120_26 : zR d 120 Q 26 lv [.int x1, .int x0, .ref 60, .int y0, .ref a1] h = zM d 113 [.ref 60, .int x0, .int x1] h (fun r h' => zR d 120 Q 29 lv (r.toList ++ [.int y0, .ref a1]) h') := (q_clV rfl rfl (Nat.le_of_ble_eq_true rfl)).trans (zand_t ⟨rfl, Nat.le_of_ble_eq_true rfl⟩)
theorem r120_29 : zR d 120 Q 29 lv (.int z :: .int x :: .ref c :: st) h = zas c x z h (fun h' => zR d 120 Q 30 lv st h') := q_iast rfl
theorem r120_30 : zR d 120 Q 30 (some (.ref c) :: l) st h = zR d 120 Q 31 (some (.ref c) :: l) (.ref c :: st) h := q_in rfl rfl
theorem r120_31 : zR d 120 Q 31 lv (.ref 60 :: st) h = zR d 120 Q 34 lv (.ref 75 :: st) h := (q_and rfl rfl).trans (zand_t rfl)
theorem r120_34 : zR d 120 Q 34 lv st h = zR d 120 Q 36 lv (.int 115 :: st) h := q_in rfl rfl
theorem r120_36 : zR d 120 Q 36 (some (.ref c) :: l) st h = zR d 120 Q 37 (some (.ref c) :: l) (.ref c :: st) h := q_in rfl rfl
theorem r120_37 : zR d 120 Q 37 lv (.ref 60 :: st) h = zR d 120 Q 40 lv (.ref 61 :: st) h := (q_and rfl rfl).trans (zand_t rfl)
theorem r120_40 : zR d 120 Q 40 lv st h = zR d 120 Q 42 lv (.int 9 :: st) h := q_in rfl rfl
theorem r120_42 : zR d 120 Q 42 lv (.int x :: .ref c :: st) h = zal c x h (fun w => zR d 120 Q 43 lv (.int w :: st) h) := q_iald rfl
theorem r120_43 : zR d 120 Q 43 lv (.int z :: .int x :: .ref c :: st) h = zas c x z h (fun h' => zR d 120 Q 44 lv st h') := q_iast rfl
theorem r120_44 : zR d 120 Q 44 (some (.ref c) :: l) st h = zR d 120 Q 45 (some (.ref c) :: l) (.ref c :: st) h := q_in rfl rfl
theorem r120_45 : zR d 120 Q 45 lv (.ref 60 :: st) h = zR d 120 Q 48 lv (.ref 75 :: st) h := (q_and rfl rfl).trans (zand_t rfl)
theorem r120_48 : zR d 120 Q 48 lv st h = zR d 120 Q 50 lv (.int 118 :: st) h := q_in rfl rfl
theorem r120_50 : zR d 120 Q 50 (some (.ref c) :: l) st h = zR d 120 Q 51 (some (.ref c) :: l) (.ref c :: st) h := q_in rfl rfl
theorem r120_51 : zR d 120 Q 51 (o0 :: some (.int x) :: l) st h = zR d 120 Q 52 (o0 :: some (.int x) :: l) (.int x :: st) h := q_in rfl rfl
theorem r120_52 : zR d 120 Q 52 lv st h = zR d 120 Q 53 lv (.int 3 :: st) h := q_in rfl rfl
theorem r120_53 : zR d 120 Q 53 lv [.int x1, .int x0, .ref 60, .int y0, .ref a1] h = zM d 113 [.ref 60, .int x0, .int x1] h (fun r h' => zR d 120 Q 56 lv (r.toList ++ [.int y0, .ref a1]) h') := (q_clV rfl rfl (Nat.le_of_ble_eq_true rfl)).trans (zand_t ⟨rfl, Nat.le_of_ble_eq_true rfl⟩)
theorem r120_56 : zR d 120 Q 56 lv (.int z :: .int x :: .ref c :: st) h = zas c x z h (fun h' => zR d 120 Q 57 lv st h') := q_iast rfl
theorem r120_57 : zR d 120 Q 57 (some (.ref c) :: l) st h = zR d 120 Q 58 (some (.ref c) :: l) (.ref c :: st) h := q_in rfl rfl
theorem r120_58 : zR d 120 Q 58 (o0 :: o1 :: o2 :: some (.int x) :: l) st h = zR d 120 Q 59 (o0 :: o1 :: o2 :: some (.int x) :: l) (.int x :: st) h := q_in rfl rfl
theorem r120_59 : zR d 120 Q 59 lv [.int x0, .ref 60] h = zM d 182 [.ref 60, .int x0] h (fun r h' => zR d 120 Q 62 lv (r.toList ++ []) h') := (q_clV rfl rfl (Nat.le_of_ble_eq_true rfl)).trans (zand_t ⟨rfl, Nat.le_of_ble_eq_true rfl⟩)
theorem r120_62 : zR d 120 Q 62 lv st h = zR d 120 Q 63 lv (.int 0 :: st) h := q_in rfl rfl
theorem r120_63 : zR d 120 Q 63 lv st h = zR d 120 Q 66 lv (.int 999 :: st) h := q_in rfl rfl
theorem r120_66 : zR d 120 Q 66 lv [.int x2, .int x1, .int x0] h = zM d 108 [.int x0, .int x1, .int x2] h (fun r h' => zR d 120 Q 69 lv (r.toList ++ []) h') := q_clS rfl rfl ⟨Nat.le_of_ble_eq_true rfl, Nat.le_of_ble_eq_true rfl⟩
theorem r120_69 : zR d 120 Q 69 (o0 :: o1 :: o2 :: l) (.int x :: st) h = zR d 120 Q 70 (o0 :: o1 :: some (.int x) :: l) st h := q_in rfl rfl
theorem r120_70 : zR d 120 Q 70 (some (.ref c) :: l) st h = zR d 120 Q 71 (some (.ref c) :: l) (.ref c :: st) h := q_in rfl rfl
theorem r120_71 : zR d 120 Q 71 (o0 :: some (.int x) :: l) st h = zR d 120 Q 72 (o0 :: some (.int x) :: l) (.int x :: st) h := q_in rfl rfl
theorem r120_72 : zR d 120 Q 72 lv st h = zR d 120 Q 73 lv (.int 0 :: st) h := q_in rfl rfl
theorem r120_73 : zR d 120 Q 73 lv [.int x1, .int x0, .ref 60] h = zM d 113 [.ref 60, .int x0, .int x1] h (fun r h' => zR d 120 Q 76 lv (r.toList ++ []) h') := (q_clV rfl rfl (Nat.le_of_ble_eq_true rfl)).trans (zand_t ⟨rfl, Nat.le_of_ble_eq_true rfl⟩)
theorem r120_76 : zR d 120 Q 76 lv (.int x :: st) h = if x = 1 then zR d 120 Q 112 lv st h else if x = 2 then zR d 120 Q 116 lv st h else if x = 3 then zR d 120 Q 120 lv st h else if x = 4 then zR d 120 Q 139 lv st h else if x = 5 then zR d 120 Q 145 lv st h else zR d 120 Q 147 lv st h := (q_in rfl rfl).trans (by simp only [zsw, zR_ite])
theorem r120_112 : zR d 120 Q 112 lv st h = zR d 120 Q 113 lv (.int 2 :: st) h := q_in rfl rfl
theorem r120_113 : zR d 120 Q 113 (o0 :: o1 :: some (.int x) :: l) st h = zR d 120 Q 114 (o0 :: o1 :: some (.int x) :: l) (.int x :: st) h := q_in rfl rfl
theorem r120_114 : zR d 120 Q 114 lv (.int z :: .int x :: st) h = zR d 120 Q 115 lv (.int (x * z) :: st) h := q_in rfl rfl
theorem r120_115 : zR d 120 Q 115 lv [.int x] h = Q (some (.int x)) h := q_retz rfl rfl (Or.inl rfl)
theorem r120_116 : zR d 120 Q 116 (o0 :: o1 :: some (.int x) :: l) st h = zR d 120 Q 117 (o0 :: o1 :: some (.int x) :: l) (.int x :: st) h := q_in rfl rfl
theorem r120_117 : zR d 120 Q 117 lv st h = zR d 120 Q 118 lv (.int 2 :: st) h := q_in rfl rfl
theorem r120_118 : zR d 120 Q 118 lv (.int 2 :: .int x :: st) h = zR d 120 Q 119 lv (.int (x / 2) :: st) h := (q_and rfl rfl).trans (zand_t (by decide))
theorem r120_119 : zR d 120 Q 119 lv [.int x] h = Q (some (.int x)) h := q_retz rfl rfl (Or.inl rfl)
theorem r120_120 : zR d 120 Q 120 lv st h = zR d 120 Q 121 lv (.int 2 :: st) h := q_in rfl rfl
theorem r120_121 : zR d 120 Q 121 (o0 :: o1 :: some (.int x) :: l) st h = zR d 120 Q 122 (o0 :: o1 :: some (.int x) :: l) (.int x :: st) h := q_in rfl rfl
theorem r120_122 : zR d 120 Q 122 lv (.int z :: .int x :: st) h = zR d 120 Q 123 lv (.int (x * z) :: st) h := q_in rfl rfl
theorem r120_123 : zR d 120 Q 123 lv st h = zR d 120 Q 125 lv (.int 10 :: st) h := q_in rfl rfl
theorem r120_125 : zR d 120 Q 125 lv (.int z :: .int x :: st) h = if x ≤ z then zR d 120 Q 137 lv st h else zR d 120 Q 128 lv st h := q_if rfl rfl
theorem r120_128 : zR d 120 Q 128 lv st h = zR d 120 Q 129 lv (.int 2 :: st) h := q_in rfl rfl
theorem r120_129 : zR d 120 Q 129 (o0 :: o1 :: some (.int x) :: l) st h = zR d 120 Q 130 (o0 :: o1 :: some (.int x) :: l) (.int x :: st) h := q_in rfl rfl
theorem r120_130 : zR d 120 Q 130 lv (.int z :: .int x :: st) h = zR d 120 Q 131 lv (.int (x * z) :: st) h := q_in rfl rfl
theorem r120_131 : zR d 120 Q 131 lv st h = zR d 120 Q 133 lv (.int 10 :: st) h := q_in rfl rfl
theorem r120_133 : zR d 120 Q 133 lv (.int z :: .int x :: st) h = zR d 120 Q 134 lv (.int (x - z) :: st) h := q_in rfl rfl
theorem r120_134 : zR d 120 Q 134 lv st h = zR d 120 Q 138 lv st h := q_in rfl rfl
theorem r120_137 : zR d 120 Q 137 lv st h = zR d 120 Q 138 lv (.int 0 :: st) h := q_in rfl rfl
theorem r120_138 : zR d 120 Q 138 lv [.int x] h = Q (some (.int x)) h := q_retz rfl rfl (Or.inl rfl)
theorem r120_139 : zR d 120 Q 139 (o0 :: o1 :: some (.int x) :: l) st h = zR d 120 Q 140 (o0 :: o1 :: some (.int x) :: l) (.int x :: st) h := q_in rfl rfl
theorem r120_140 : zR d 120 Q 140 lv st h = zR d 120 Q 141 lv (.int 2 :: st) h := q_in rfl rfl
theorem r120_141 : zR d 120 Q 141 lv (.int 2 :: .int x :: st) h = zR d 120 Q 142 lv (.int (x / 2) :: st) h := (q_and rfl rfl).trans (zand_t (by decide))
theorem r120_142 : zR d 120 Q 142 lv st h = zR d 120 Q 143 lv (.int 3 :: st) h := q_in rfl rfl
theorem r120_143 : zR d 120 Q 143 lv (.int z :: .int x :: st) h = zR d 120 Q 144 lv (.int (x + z) :: st) h := q_in rfl rfl
theorem r120_144 : zR d 120 Q 144 lv [.int x] h = Q (some (.int x)) h := q_retz rfl rfl (Or.inl rfl)
theorem r120_145 : zR d 120 Q 145 lv st h = zR d 120 Q 146 lv (.int 0 :: st) h := q_in rfl rfl
theorem r120_146 : zR d 120 Q 146 lv [.int x] h = Q (some (.int x)) h := q_retz rfl rfl (Or.inl rfl)
theorem r120_147 : zR d 120 Q 147 (o0 :: o1 :: some (.int x) :: l) st h = zR d 120 Q 148 (o0 :: o1 :: some (.int x) :: l) (.int x :: st) h := q_in rfl rfl
theorem r120_148 : zR d 120 Q 148 lv [.int x] h = Q (some (.int x)) h := q_retz rfl rfl (Or.inl rfl)
theorem r121_0 : zR d 121 Q 0 (some (.ref c) :: l) st h = zR d 121 Q 1 (some (.ref c) :: l) (.ref c :: st) h := q_in rfl rfl
theorem r121_1 : zR d 121 Q 1 (o0 :: some (.int x) :: l) st h = zR d 121 Q 2 (o0 :: some (.int x) :: l) (.int x :: st) h := q_in rfl rfl
theorem r121_2 : zR d 121 Q 2 lv st h = zR d 121 Q 3 lv (.int 0 :: st) h := q_in rfl rfl
theorem r121_3 : zR d 121 Q 3 lv [.int x1, .int x0, .ref 60] h = zM d 113 [.ref 60, .int x0, .int x1] h (fun r h' => zR d 121 Q 6 lv (r.toList ++ []) h') := (q_clV rfl rfl (Nat.le_of_ble_eq_true rfl)).trans (zand_t ⟨rfl, Nat.le_of_ble_eq_true rfl⟩)
theorem r121_6 : zR d 121 Q 6 lv (.int x :: st) h = if x = 1 then zR d 121 Q 36 lv st h else if x = 2 then zR d 121 Q 38 lv st h else if x = 3 then zR d 121 Q 36 lv st h else if x = 4 then zR d 121 Q 40 lv st h else zR d 121 Q 42 lv st h := (q_in rfl rfl).trans (by simp only [zsw, zR_ite])
theorem r121_36 : zR d 121 Q 36 lv st h = zR d 121 Q 37 lv (.int 3 :: st) h := q_in rfl rfl
theorem r121_37 : zR d 121 Q 37 lv [.int x] h = Q (some (.int x)) h := q_retz rfl rfl (Or.inl rfl)
theorem r121_38 : zR d 121 Q 38 lv st h = zR d 121 Q 39 lv (.int 1 :: st) h := q_in rfl rfl
theorem r121_39 : zR d 121 Q 39 lv [.int x] h = Q (some (.int x)) h := q_retz rfl rfl (Or.inl rfl)
theorem r121_40 : zR d 121 Q 40 lv st h = zR d 121 Q 41 lv (.int 4 :: st) h := q_in rfl rfl
theorem r121_41 : zR d 121 Q 41 lv [.int x] h = Q (some (.int x)) h := q_retz rfl rfl (Or.inl rfl)
theorem r121_42 : zR d 121 Q 42 lv st h = zR d 121 Q 43 lv (.int 2 :: st) h := q_in rfl rfl
theorem r121_43 : zR d 121 Q 43 lv [.int x] h = Q (some (.int x)) h := q_retz rfl rfl (Or.inl rfl)
theorem r122_0 : zR d 122 Q 0 (some (.ref c) :: l) st h = zR d 122 Q 1 (some (.ref c) :: l) (.ref c :: st) h := q_in rfl rfl
theorem r122_1 : zR d 122 Q 1 (o0 :: some (.int x) :: l) st h = zR d 122 Q 2 (o0 :: some (.int x) :: l) (.int x :: st) h := q_in rfl rfl
theorem r122_2 : zR d 122 Q 2 lv st h = zR d 122 Q 3 lv (.int 3 :: st) h := q_in rfl rfl
theorem r122_3 : zR d 122 Q 3 lv [.int x1, .int x0, .ref 60] h = zM d 113 [.ref 60, .int x0, .int x1] h (fun r h' => zR d 122 Q 6 lv (r.toList ++ []) h') := (q_clV rfl rfl (Nat.le_of_ble_eq_true rfl)).trans (zand_t ⟨rfl, Nat.le_of_ble_eq_true rfl⟩)
theorem r122_6 : zR d 122 Q 6 (o0 :: o1 :: o2 :: l) (.int x :: st) h = zR d 122 Q 7 (o0 :: o1 :: some (.int x) :: l) st h := q_in rfl rfl
theorem r122_7 : zR d 122 Q 7 (some (.ref c) :: l) st h = zR d 122 Q 8 (some (.ref c) :: l) (.ref c :: st) h := q_in rfl rfl
theorem r122_8 : zR d 122 Q 8 (o0 :: some (.int x) :: l) st h = zR d 122 Q 9 (o0 :: some (.int x) :: l) (.int x :: st) h := q_in rfl rfl
theorem r122_9 : zR d 122 Q 9 lv st h = zR d 122 Q 10 lv (.int 0 :: st) h := q_in rfl rfl
theorem r122_10 : zR d 122 Q 10 lv [.int x1, .int x0, .ref 60] h = zM d 113 [.ref 60, .int x0, .int x1] h (fun r h' => zR d 122 Q 13 lv (r.toList ++ []) h') := (q_clV rfl rfl (Nat.le_of_ble_eq_true rfl)).trans (zand_t ⟨rfl, Nat.le_of_ble_eq_true rfl⟩)
theorem r122_13 : zR d 122 Q 13 lv (.int x :: st) h = if x = 1 then zR d 122 Q 48 lv st h else if x = 2 then zR d 122 Q 52 lv st h else if x = 3 then zR d 122 Q 56 lv st h else if x = 4 then zR d 122 Q 52 lv st h else if x = 5 then zR d 122 Q 58 lv st h else zR d 122 Q 62 lv st h := (q_in rfl rfl).trans (by simp only [zsw, zR_ite])
theorem r122_48 : zR d 122 Q 48 (o0 :: o1 :: some (.int x) :: l) st h = zR d 122 Q 49 (o0 :: o1 :: some (.int x) :: l) (.int x :: st) h := q_in rfl rfl
theorem r122_49 : zR d 122 Q 49 lv st h = zR d 122 Q 50 lv (.int 5 :: st) h := q_in rfl rfl
theorem r122_50 : zR d 122 Q 50 lv (.int z :: .int x :: st) h = zR d 122 Q 51 lv (.int (x + z) :: st) h := q_in rfl rfl
theorem r122_51 : zR d 122 Q 51 lv [.int x] h = Q (some (.int x)) h := q_retz rfl rfl (Or.inl rfl)
theorem r122_52 : zR d 122 Q 52 (o0 :: o1 :: some (.int x) :: l) st h = zR d 122 Q 53 (o0 :: o1 :: some (.int x) :: l) (.int x :: st) h := q_in rfl rfl
theorem r122_53 : zR d 122 Q 53 lv st h = zR d 122 Q 54 lv (.int 2 :: st) h := q_in rfl rfl
theorem r122_54 : zR d 122 Q 54 lv (.int 2 :: .int x :: st) h = zR d 122 Q 55 lv (.int (x / 2) :: st) h := (q_and rfl rfl).trans (zand_t (by decide))
theorem r122_55 : zR d 122 Q 55 lv [.int x] h = Q (some (.int x)) h := q_retz rfl rfl (Or.inl rfl)
theorem r122_56 : zR d 122 Q 56 lv st h = zR d 122 Q 57 lv (.int 0 :: st) h := q_in rfl rfl
theorem r122_57 : zR d 122 Q 57 lv [.int x] h = Q (some (.int x)) h := q_retz rfl rfl (Or.inl rfl)
theorem r122_58 : zR d 122 Q 58 lv st h = zR d 122 Q 61 lv (.int 9999 :: st) h := q_in rfl rfl
theorem r122_61 : zR d 122 Q 61 lv [.int x] h = Q (some (.int x)) h := q_retz rfl rfl (Or.inl rfl)
theorem r122_62 : zR d 122 Q 62 (o0 :: o1 :: some (.int x) :: l) st h = zR d 122 Q 63 (o0 :: o1 :: some (.int x) :: l) (.int x :: st) h := q_in rfl rfl
theorem r122_63 : zR d 122 Q 63 lv [.int x] h = Q (some (.int x)) h := q_retz rfl rfl (Or.inl rfl)
theorem r123_0 : zR d 123 Q 0 (some (.ref c) :: l) st h = zR d 123 Q 1 (some (.ref c) :: l) (.ref c :: st) h := q_in rfl rfl
theorem r123_1 : zR d 123 Q 1 (o0 :: some (.int x) :: l) st h = zR d 123 Q 2 (o0 :: some (.int x) :: l) (.int x :: st) h := q_in rfl rfl
theorem r123_2 : zR d 123 Q 2 lv st h = zR d 123 Q 3 lv (.int 1 :: st) h := q_in rfl rfl
theorem r123_3 : zR d 123 Q 3 lv [.int x1, .int x0, .ref 60] h = zM d 113 [.ref 60, .int x0, .int x1] h (fun r h' => zR d 123 Q 6 lv (r.toList ++ []) h') := (q_clV rfl rfl (Nat.le_of_ble_eq_true rfl)).trans (zand_t ⟨rfl, Nat.le_of_ble_eq_true rfl⟩)
theorem r123_6 : zR d 123 Q 6 (o0 :: o1 :: o2 :: l) (.int x :: st) h = zR d 123 Q 7 (o0 :: o1 :: some (.int x) :: l) st h := q_in rfl rfl
theorem r123_7 : zR d 123 Q 7 (some (.ref c) :: l) st h = zR d 123 Q 8 (some (.ref c) :: l) (.ref c :: st) h := q_in rfl rfl
theorem r123_8 : zR d 123 Q 8 (o0 :: some (.int x) :: l) st h = zR d 123 Q 9 (o0 :: some (.int x) :: l) (.int x :: st) h := q_in rfl rfl
theorem r123_9 : zR d 123 Q 9 lv st h = zR d 123 Q 10 lv (.int 0 :: st) h := q_in rfl rfl
theorem r123_10 : zR d 123 Q 10 lv [.int x1, .int x0, .ref 60] h = zM d 113 [.ref 60, .int x0, .int x1] h (fun r h' => zR d 123 Q 13 lv (r.toList ++ []) h') := (q_clV rfl rfl (Nat.le_of_ble_eq_true rfl)).trans (zand_t ⟨rfl, Nat.le_of_ble_eq_true rfl⟩)
theorem r123_13 : zR d 123 Q 13 lv (.int x :: st) h = if x = 1 then zR d 123 Q 48 lv st h else if x = 2 then zR d 123 Q 53 lv st h else if x = 3 then zR d 123 Q 58 lv st h else if x = 4 then zR d 123 Q 65 lv st h else if x = 5 then zR d 123 Q 70 lv st h else zR d 123 Q 72 lv st h := (q_in rfl rfl).trans (by simp only [zsw, zR_ite])
theorem r123_48 : zR d 123 Q 48 (o0 :: o1 :: some (.int x) :: l) st h = zR d 123 Q 49 (o0 :: o1 :: some (.int x) :: l) (.int x :: st) h := q_in rfl rfl
theorem r123_49 : zR d 123 Q 49 lv st h = zR d 123 Q 51 lv (.int 8 :: st) h := q_in rfl rfl
theorem r123_51 : zR d 123 Q 51 lv (.int z :: .int x :: st) h = zR d 123 Q 52 lv (.int (x + z) :: st) h := q_in rfl rfl
theorem r123_52 : zR d 123 Q 52 lv [.int x] h = Q (some (.int x)) h := q_retz rfl rfl (Or.inl rfl)
theorem r123_53 : zR d 123 Q 53 lv st h = zR d 123 Q 55 lv (.int 99 :: st) h := q_in rfl rfl
theorem r123_55 : zR d 123 Q 55 (o0 :: o1 :: some (.int x) :: l) st h = zR d 123 Q 56 (o0 :: o1 :: some (.int x) :: l) (.int x :: st) h := q_in rfl rfl
theorem r123_56 : zR d 123 Q 56 lv (.int z :: .int x :: st) h = zR d 123 Q 57 lv (.int (x - z) :: st) h := q_in rfl rfl
theorem r123_57 : zR d 123 Q 57 lv [.int x] h = Q (some (.int x)) h := q_retz rfl rfl (Or.inl rfl)
theorem r123_58 : zR d 123 Q 58 lv st h = zR d 123 Q 59 lv (.int 2 :: st) h := q_in rfl rfl
theorem r123_59 : zR d 123 Q 59 (o0 :: o1 :: some (.int x) :: l) st h = zR d 123 Q 60 (o0 :: o1 :: some (.int x) :: l) (.int x :: st) h := q_in rfl rfl
theorem r123_60 : zR d 123 Q 60 lv st h = zR d 123 Q 62 lv (.int 8 :: st) h := q_in rfl rfl
theorem r123_62 : zR d 123 Q 62 lv (.int z :: .int x :: st) h = zR d 123 Q 63 lv (.int (x + z) :: st) h := q_in rfl rfl
theorem r123_63 : zR d 123 Q 63 lv (.int z :: .int x :: st) h = zR d 123 Q 64 lv (.int (x * z) :: st) h := q_in rfl rfl
theorem r123_64 : zR d 123 Q 64 lv [.int x] h = Q (some (.int x)) h := q_retz rfl rfl (Or.inl rfl)
theorem r123_65 : zR d 123 Q 65 lv st h = zR d 123 Q 67 lv (.int 92 :: st) h := q_in rfl rfl
theorem r123_67 : zR d 123 Q 67 (o0 :: o1 :: some (.int x) :: l) st h = zR d 123 Q 68 (o0 :: o1 :: some (.int x) :: l) (.int x :: st) h := q_in rfl rfl
theorem r123_68 : zR d 123 Q 68 lv (.int z :: .int x :: st) h = zR d 123 Q 69 lv (.int (x - z) :: st) h := q_in rfl rfl
theorem r123_69 : zR d 123 Q 69 lv [.int x] h = Q (some (.int x)) h := q_retz rfl rfl (Or.inl rfl)
theorem r123_70 : zR d 123 Q 70 lv st h = zR d 123 Q 71 lv (.int 5 :: st) h := q_in rfl rfl
theorem r123_71 : zR d 123 Q 71 lv [.int x] h = Q (some (.int x)) h := q_retz rfl rfl (Or.inl rfl)
theorem r123_72 : zR d 123 Q 72 (o0 :: o1 :: some (.int x) :: l) st h = zR d 123 Q 73 (o0 :: o1 :: some (.int x) :: l) (.int x :: st) h := q_in rfl rfl
theorem r123_73 : zR d 123 Q 73 lv [.int x] h = Q (some (.int x)) h := q_retz rfl rfl (Or.inl rfl)
theorem r124_0 : zR d 124 Q 0 (some (.ref c) :: l) st h = zR d 124 Q 1 (some (.ref c) :: l) (.ref c :: st) h := q_in rfl rfl
theorem r124_1 : zR d 124 Q 1 (o0 :: some (.int x) :: l) st h = zR d 124 Q 2 (o0 :: some (.int x) :: l) (.int x :: st) h := q_in rfl rfl
theorem r124_2 : zR d 124 Q 2 lv [.int x0, .ref 60] h = zM d 115 [.ref 60, .int x0] h (fun r h' => zR d 124 Q 5 lv (r.toList ++ []) h') := (q_clV rfl rfl (Nat.le_of_ble_eq_true rfl)).trans (zand_t ⟨rfl, Nat.le_of_ble_eq_true rfl⟩)
theorem r124_5 : zR d 124 Q 5 lv (.int x :: st) h = if x = 0 then zR d 124 Q 8 lv st h else zR d 124 Q 11 lv st h := q_if rfl rfl
theorem r124_8 : zR d 124 Q 8 lv st h = zR d 124 Q 10 lv (.int (-1000000001) :: st) h := q_in rfl rfl
theorem r124_10 : zR d 124 Q 10 lv [.int x] h = Q (some (.int x)) h := q_retz rfl rfl (Or.inl rfl)
theorem r124_11 : zR d 124 Q 11 (o0 :: o1 :: some (.int x) :: l) st h = zR d 124 Q 12 (o0 :: o1 :: some (.int x) :: l) (.int x :: st) h := q_in rfl rfl
theorem r124_12 : zR d 124 Q 12 lv (.int x :: st) h = if x = 0 then zR d 124 Q 64 lv st h else if x = 1 then zR d 124 Q 64 lv st h else if x = 2 then zR d 124 Q 64 lv st h else if x = 3 then zR d 124 Q 64 lv st h else if x = 4 then zR d 124 Q 64 lv st h else if x = 5 then zR d 124 Q 71 lv st h else if x = 6 then zR d 124 Q 77 lv st h else if x = 7 then zR d 124 Q 83 lv st h else if x = 8 then zR d 124 Q 89 lv st h else zR d 124 Q 95 lv st h := (q_in rfl rfl).trans (by simp only [zsw, zR_ite])
theorem r124_64 : zR d 124 Q 64 (some (.ref c) :: l) st h = zR d 124 Q 65 (some (.ref c) :: l) (.ref c :: st) h := q_in rfl rfl
theorem r124_65 : zR d 124 Q 65 (o0 :: some (.int x) :: l) st h = zR d 124 Q 66 (o0 :: some (.int x) :: l) (.int x :: st) h := q_in rfl rfl
theorem r124_66 : zR d 124 Q 66 (o0 :: o1 :: some (.int x) :: l) st h = zR d 124 Q 67 (o0 :: o1 :: some (.int x) :: l) (.int x :: st) h := q_in rfl rfl
theorem r124_67 : zR d 124 Q 67 lv [.int x1, .int x0, .ref 60] h = zM d 113 [.ref 60, .int x0, .int x1] h (fun r h' => zR d 124 Q 70 lv (r.toList ++ []) h') := (q_clV rfl rfl (Nat.le_of_ble_eq_true rfl)).trans (zand_t ⟨rfl, Nat.le_of_ble_eq_true rfl⟩)
theorem r124_70 : zR d 124 Q 70 lv [.int x] h = Q (some (.int x)) h := q_retz rfl rfl (Or.inl rfl)
theorem r124_71 : zR d 124 Q 71 (some (.ref c) :: l) st h = zR d 124 Q 72 (some (.ref c) :: l) (.ref c :: st) h := q_in rfl rfl
theorem r124_72 : zR d 124 Q 72 (o0 :: some (.int x) :: l) st h = zR d 124 Q 73 (o0 :: some (.int x) :: l) (.int x :: st) h := q_in rfl rfl
theorem r124_73 : zR d 124 Q 73 lv [.int x0, .ref 60] h = zM d 120 [.ref 60, .int x0] h (fun r h' => zR d 124 Q 76 lv (r.toList ++ []) h') := (q_clV rfl rfl (Nat.le_of_ble_eq_true rfl)).trans (zand_t ⟨rfl, Nat.le_of_ble_eq_true rfl⟩)
theorem r124_76 : zR d 124 Q 76 lv [.int x] h = Q (some (.int x)) h := q_retz rfl rfl (Or.inl rfl)
theorem r124_77 : zR d 124 Q 77 (some (.ref c) :: l) st h = zR d 124 Q 78 (some (.ref c) :: l) (.ref c :: st) h := q_in rfl rfl
theorem r124_78 : zR d 124 Q 78 (o0 :: some (.int x) :: l) st h = zR d 124 Q 79 (o0 :: some (.int x) :: l) (.int x :: st) h := q_in rfl rfl
theorem r124_79 : zR d 124 Q 79 lv [.int x0, .ref 60] h = zM d 121 [.ref 60, .int x0] h (fun r h' => zR d 124 Q 82 lv (r.toList ++ []) h') := (q_clV rfl rfl (Nat.le_of_ble_eq_true rfl)).trans (zand_t ⟨rfl, Nat.le_of_ble_eq_true rfl⟩)
theorem r124_82 : zR d 124 Q 82 lv [.int x] h = Q (some (.int x)) h := q_retz rfl rfl (Or.inl rfl)
theorem r124_83 : zR d 124 Q 83 (some (.ref c) :: l) st h = zR d 124 Q 84 (some (.ref c) :: l) (.ref c :: st) h := q_in rfl rfl
theorem r124_84 : zR d 124 Q 84 (o0 :: some (.int x) :: l) st h = zR d 124 Q 85 (o0 :: some (.int x) :: l) (.int x :: st) h := q_in rfl rfl
theorem r124_85 : zR d 124 Q 85 lv [.int x0, .ref 60] h = zM d 122 [.ref 60, .int x0] h (fun r h' => zR d 124 Q 88 lv (r.toList ++ []) h') := (q_clV rfl rfl (Nat.le_of_ble_eq_true rfl)).trans (zand_t ⟨rfl, Nat.le_of_ble_eq_true rfl⟩)
theorem r124_88 : zR d 124 Q 88 lv [.int x] h = Q (some (.int x)) h := q_retz rfl rfl (Or.inl rfl)
theorem r124_89 : zR d 124 Q 89 (some (.ref c) :: l) st h = zR d 124 Q 90 (some (.ref c) :: l) (.ref c :: st) h := q_in rfl rfl
theorem r124_90 : zR d 124 Q 90 (o0 :: some (.int x) :: l) st h = zR d 124 Q 91 (o0 :: some (.int x) :: l) (.int x :: st) h := q_in rfl rfl
theorem r124_91 : zR d 124 Q 91 lv [.int x0, .ref 60] h = zM d 123 [.ref 60, .int x0] h (fun r h' => zR d 124 Q 94 lv (r.toList ++ []) h') := (q_clV rfl rfl (Nat.le_of_ble_eq_true rfl)).trans (zand_t ⟨rfl, Nat.le_of_ble_eq_true rfl⟩)
theorem r124_94 : zR d 124 Q 94 lv [.int x] h = Q (some (.int x)) h := q_retz rfl rfl (Or.inl rfl)
theorem r124_95 : zR d 124 Q 95 lv st h = zR d 124 Q 97 lv (.int (-1000000001) :: st) h := q_in rfl rfl
theorem r124_97 : zR d 124 Q 97 lv [.int x] h = Q (some (.int x)) h := q_retz rfl rfl (Or.inl rfl)
theorem r125_0 : zR d 125 Q 0 (some (.int x) :: l) st h = zR d 125 Q 1 (some (.int x) :: l) (.int x :: st) h := q_in rfl rfl
theorem r125_1 : zR d 125 Q 1 (o0 :: some (.int x) :: l) st h = zR d 125 Q 2 (o0 :: some (.int x) :: l) (.int x :: st) h := q_in rfl rfl
theorem r125_2 : zR d 125 Q 2 lv (.int z :: .int x :: st) h = if x = z then zR d 125 Q 29 lv st h else zR d 125 Q 5 lv st h := q_if rfl rfl
theorem r125_5 : zR d 125 Q 5 (o0 :: some (.int x) :: l) st h = zR d 125 Q 6 (o0 :: some (.int x) :: l) (.int x :: st) h := q_in rfl rfl
theorem r125_6 : zR d 125 Q 6 lv (.int x :: st) h = if x = 0 then zR d 125 Q 29 lv st h else zR d 125 Q 9 lv st h := q_if rfl rfl
theorem r125_9 : zR d 125 Q 9 (o0 :: some (.int x) :: l) st h = zR d 125 Q 10 (o0 :: some (.int x) :: l) (.int x :: st) h := q_in rfl rfl
theorem r125_10 : zR d 125 Q 10 lv st h = zR d 125 Q 11 lv (.int 1 :: st) h := q_in rfl rfl
theorem r125_11 : zR d 125 Q 11 lv (.int z :: .int x :: st) h = if x = z then zR d 125 Q 14 lv st h else zR d 125 Q 19 lv st h := q_if rfl rfl
theorem r125_14 : zR d 125 Q 14 (some (.int x) :: l) st h = zR d 125 Q 15 (some (.int x) :: l) (.int x :: st) h := q_in rfl rfl
theorem r125_15 : zR d 125 Q 15 lv st h = zR d 125 Q 16 lv (.int 3 :: st) h := q_in rfl rfl
theorem r125_16 : zR d 125 Q 16 lv (.int z :: .int x :: st) h = if x = z then zR d 125 Q 29 lv st h else zR d 125 Q 19 lv st h := q_if rfl rfl
theorem r125_19 : zR d 125 Q 19 (o0 :: some (.int x) :: l) st h = zR d 125 Q 20 (o0 :: some (.int x) :: l) (.int x :: st) h := q_in rfl rfl
theorem r125_20 : zR d 125 Q 20 lv st h = zR d 125 Q 21 lv (.int 2 :: st) h := q_in rfl rfl
theorem r125_21 : zR d 125 Q 21 lv (.int z :: .int x :: st) h = if x = z then zR d 125 Q 24 lv st h else zR d 125 Q 33 lv st h := q_if rfl rfl
theorem r125_24 : zR d 125 Q 24 (some (.int x) :: l) st h = zR d 125 Q 25 (some (.int x) :: l) (.int x :: st) h := q_in rfl rfl
theorem r125_25 : zR d 125 Q 25 lv st h = zR d 125 Q 26 lv (.int 4 :: st) h := q_in rfl rfl
theorem r125_26 : zR d 125 Q 26 lv (.int z :: .int x :: st) h = if x = z then zR d 125 Q 29 lv st h else zR d 125 Q 33 lv st h := q_if rfl rfl
theorem r125_29 : zR d 125 Q 29 lv st h = zR d 125 Q 30 lv (.int 1 :: st) h := q_in rfl rfl
theorem r125_30 : zR d 125 Q 30 lv st h = zR d 125 Q 34 lv st h := q_in rfl rfl
theorem r125_33 : zR d 125 Q 33 lv st h = zR d 125 Q 34 lv (.int 0 :: st) h := q_in rfl rfl
theorem r125_34f : zR d 125 Q 34 lv [.int 0] h = Q (some (.int 0)) h := q_retz rfl rfl (Or.inr (Or.inl rfl))
theorem r125_34t : zR d 125 Q 34 lv [.int 1] h = Q (some (.int 1)) h := q_retz rfl rfl (Or.inr (Or.inr rfl))
theorem r126_0 : zR d 126 Q 0 (some (.ref c) :: l) st h = zR d 126 Q 1 (some (.ref c) :: l) (.ref c :: st) h := q_in rfl rfl
theorem r126_1 : zR d 126 Q 1 (o0 :: some (.int x) :: l) st h = zR d 126 Q 2 (o0 :: some (.int x) :: l) (.int x :: st) h := q_in rfl rfl
theorem r126_2 : zR d 126 Q 2 lv [.int x0, .ref 60] h = zM d 115 [.ref 60, .int x0] h (fun r h' => zR d 126 Q 5 lv (r.toList ++ []) h') := (q_clV rfl rfl (Nat.le_of_ble_eq_true rfl)).trans (zand_t ⟨rfl, Nat.le_of_ble_eq_true rfl⟩)
theorem r126_5 : zR d 126 Q 5 lv (.int x :: st) h = if x = 0 then zR d 126 Q 20 lv st h else zR d 126 Q 8 lv st h := q_if rfl rfl
theorem r126_8 : zR d 126 Q 8 (o0 :: o1 :: some (.int x) :: l) st h = zR d 126 Q 9 (o0 :: o1 :: some (.int x) :: l) (.int x :: st) h := q_in rfl rfl
theorem r126_9 : zR d 126 Q 9 lv (.int x :: st) h = zR d 126 Q 10 lv (.long x.toInt64 :: st) h := q_in rfl rfl
theorem r126_10 : zR d 126 Q 10 lv st h = zR d 126 Q 11 lv (.long (Int32.toInt64 0) :: st) h := q_in rfl rfl
theorem r126_11 : zR d 126 Q 11 lv st h = zR d 126 Q 14 lv (.long (Int32.toInt64 5) :: st) h := q_in rfl rfl
theorem r126_14 : zR d 126 Q 14 lv [.long j2, .long j1, .long j0] h = zM d 106 [.long j0, .long j1, .long j2] h (fun r h' => zR d 126 Q 17 lv (r.toList ++ []) h') := q_clS rfl rfl ⟨Nat.le_of_ble_eq_true rfl, Nat.le_of_ble_eq_true rfl⟩
theorem r126_17 : zR d 126 Q 17 lv (.int x :: st) h = if x = 0 then zR d 126 Q 20 lv st h else zR d 126 Q 23 lv st h := q_if rfl rfl
theorem r126_20 : zR d 126 Q 20 lv st h = zR d 126 Q 22 lv (.int (-1000000001) :: st) h := q_in rfl rfl
theorem r126_22 : zR d 126 Q 22 lv [.int x] h = Q (some (.int x)) h := q_retz rfl rfl (Or.inl rfl)
theorem r126_23 : zR d 126 Q 23 (some (.ref c) :: l) st h = zR d 126 Q 24 (some (.ref c) :: l) (.ref c :: st) h := q_in rfl rfl
theorem r126_24 : zR d 126 Q 24 (o0 :: some (.int x) :: l) st h = zR d 126 Q 25 (o0 :: some (.int x) :: l) (.int x :: st) h := q_in rfl rfl
theorem r126_25 : zR d 126 Q 25 lv st h = zR d 126 Q 26 lv (.int 0 :: st) h := q_in rfl rfl
theorem r126_26 : zR d 126 Q 26 lv [.int x1, .int x0, .ref 60] h = zM d 113 [.ref 60, .int x0, .int x1] h (fun r h' => zR d 126 Q 29 lv (r.toList ++ []) h') := (q_clV rfl rfl (Nat.le_of_ble_eq_true rfl)).trans (zand_t ⟨rfl, Nat.le_of_ble_eq_true rfl⟩)
theorem r126_29 : zR d 126 Q 29 (o0 :: o1 :: some (.int x) :: l) st h = zR d 126 Q 30 (o0 :: o1 :: some (.int x) :: l) (.int x :: st) h := q_in rfl rfl
theorem r126_30 : zR d 126 Q 30 lv [.int x1, .int x0] h = zM d 125 [.int x0, .int x1] h (fun r h' => zR d 126 Q 33 lv (r.toList ++ []) h') := q_clS rfl rfl ⟨Nat.le_of_ble_eq_true rfl, Nat.le_of_ble_eq_true rfl⟩
theorem r126_33 : zR d 126 Q 33 lv (.int x :: st) h = if x = 0 then zR d 126 Q 45 lv st h else zR d 126 Q 36 lv st h := q_if rfl rfl
theorem r126_36 : zR d 126 Q 36 (some (.ref c) :: l) st h = zR d 126 Q 37 (some (.ref c) :: l) (.ref c :: st) h := q_in rfl rfl
theorem r126_37 : zR d 126 Q 37 (o0 :: some (.int x) :: l) st h = zR d 126 Q 38 (o0 :: some (.int x) :: l) (.int x :: st) h := q_in rfl rfl
theorem r126_38 : zR d 126 Q 38 lv st h = zR d 126 Q 39 lv (.int 1 :: st) h := q_in rfl rfl
theorem r126_39 : zR d 126 Q 39 lv [.int x1, .int x0, .ref 60] h = zM d 113 [.ref 60, .int x0, .int x1] h (fun r h' => zR d 126 Q 42 lv (r.toList ++ []) h') := (q_clV rfl rfl (Nat.le_of_ble_eq_true rfl)).trans (zand_t ⟨rfl, Nat.le_of_ble_eq_true rfl⟩)
theorem r126_42 : zR d 126 Q 42 lv st h = zR d 126 Q 47 lv st h := q_in rfl rfl
theorem r126_45 : zR d 126 Q 45 lv st h = zR d 126 Q 47 lv (.int (-1000000012) :: st) h := q_in rfl rfl
theorem r126_47 : zR d 126 Q 47 lv [.int x] h = Q (some (.int x)) h := q_retz rfl rfl (Or.inl rfl)
theorem r127_0 : zR d 127 Q 0 (some (.ref c) :: l) st h = zR d 127 Q 1 (some (.ref c) :: l) (.ref c :: st) h := q_in rfl rfl
theorem r127_1 : zR d 127 Q 1 (o0 :: some (.int x) :: l) st h = zR d 127 Q 2 (o0 :: some (.int x) :: l) (.int x :: st) h := q_in rfl rfl
theorem r127_2 : zR d 127 Q 2 lv [.int x0, .ref 60] h = zM d 115 [.ref 60, .int x0] h (fun r h' => zR d 127 Q 5 lv (r.toList ++ []) h') := (q_clV rfl rfl (Nat.le_of_ble_eq_true rfl)).trans (zand_t ⟨rfl, Nat.le_of_ble_eq_true rfl⟩)
theorem r127_5 : zR d 127 Q 5 lv (.int x :: st) h = if x = 0 then zR d 127 Q 34 lv st h else zR d 127 Q 8 lv st h := q_if rfl rfl
theorem r127_8 : zR d 127 Q 8 (o0 :: o1 :: some (.int x) :: l) st h = zR d 127 Q 9 (o0 :: o1 :: some (.int x) :: l) (.int x :: st) h := q_in rfl rfl
theorem r127_9 : zR d 127 Q 9 lv (.int x :: st) h = zR d 127 Q 10 lv (.long x.toInt64 :: st) h := q_in rfl rfl
theorem r127_10 : zR d 127 Q 10 lv st h = zR d 127 Q 11 lv (.long (Int32.toInt64 0) :: st) h := q_in rfl rfl
theorem r127_11 : zR d 127 Q 11 lv st h = zR d 127 Q 14 lv (.long (Int32.toInt64 5) :: st) h := q_in rfl rfl
theorem r127_14 : zR d 127 Q 14 lv [.long j2, .long j1, .long j0] h = zM d 106 [.long j0, .long j1, .long j2] h (fun r h' => zR d 127 Q 17 lv (r.toList ++ []) h') := q_clS rfl rfl ⟨Nat.le_of_ble_eq_true rfl, Nat.le_of_ble_eq_true rfl⟩
theorem r127_17 : zR d 127 Q 17 lv (.int x :: st) h = if x = 0 then zR d 127 Q 34 lv st h else zR d 127 Q 20 lv st h := q_if rfl rfl
theorem r127_20 : zR d 127 Q 20 (some (.ref c) :: l) st h = zR d 127 Q 21 (some (.ref c) :: l) (.ref c :: st) h := q_in rfl rfl
theorem r127_21 : zR d 127 Q 21 lv st h = zR d 127 Q 23 lv (.int 12 :: st) h := q_in rfl rfl
theorem r127_23 : zR d 127 Q 23 lv st h = zR d 127 Q 24 lv (.int 5 :: st) h := q_in rfl rfl
theorem r127_24 : zR d 127 Q 24 (o0 :: some (.int x) :: l) st h = zR d 127 Q 25 (o0 :: some (.int x) :: l) (.int x :: st) h := q_in rfl rfl
theorem r127_25 : zR d 127 Q 25 lv (.int z :: .int x :: st) h = zR d 127 Q 26 lv (.int (x * z) :: st) h := q_in rfl rfl
theorem r127_26 : zR d 127 Q 26 lv (.int z :: .int x :: st) h = zR d 127 Q 27 lv (.int (x + z) :: st) h := q_in rfl rfl
theorem r127_27 : zR d 127 Q 27 (o0 :: o1 :: some (.int x) :: l) st h = zR d 127 Q 28 (o0 :: o1 :: some (.int x) :: l) (.int x :: st) h := q_in rfl rfl
theorem r127_28 : zR d 127 Q 28 lv [.int x1, .int x0, .ref 60] h = zM d 111 [.ref 60, .int x0, .int x1] h (fun r h' => zR d 127 Q 31 lv (r.toList ++ []) h') := (q_clV rfl rfl (Nat.le_of_ble_eq_true rfl)).trans (zand_t ⟨rfl, Nat.le_of_ble_eq_true rfl⟩)
theorem r127_31 : zR d 127 Q 31 lv st h = zR d 127 Q 36 lv st h := q_in rfl rfl
theorem r127_34 : zR d 127 Q 34 lv st h = zR d 127 Q 36 lv (.int (-1000000001) :: st) h := q_in rfl rfl
theorem r127_36 : zR d 127 Q 36 lv [.int x] h = Q (some (.int x)) h := q_retz rfl rfl (Or.inl rfl)
theorem r128_0 : zR d 128 Q 0 (some (.ref c) :: l) st h = zR d 128 Q 1 (some (.ref c) :: l) (.ref c :: st) h := q_in rfl rfl
theorem r128_1 : zR d 128 Q 1 (o0 :: some (.int x) :: l) st h = zR d 128 Q 2 (o0 :: some (.int x) :: l) (.int x :: st) h := q_in rfl rfl
theorem r128_2 : zR d 128 Q 2 lv [.int x0, .ref 60] h = zM d 115 [.ref 60, .int x0] h (fun r h' => zR d 128 Q 5 lv (r.toList ++ []) h') := (q_clV rfl rfl (Nat.le_of_ble_eq_true rfl)).trans (zand_t ⟨rfl, Nat.le_of_ble_eq_true rfl⟩)
theorem r128_5 : zR d 128 Q 5 lv (.int x :: st) h = if x = 0 then zR d 128 Q 61 lv st h else zR d 128 Q 8 lv st h := q_if rfl rfl
theorem r128_8 : zR d 128 Q 8 (o0 :: o1 :: some (.int x) :: l) st h = zR d 128 Q 9 (o0 :: o1 :: some (.int x) :: l) (.int x :: st) h := q_in rfl rfl
theorem r128_9 : zR d 128 Q 9 lv (.int x :: st) h = zR d 128 Q 10 lv (.long x.toInt64 :: st) h := q_in rfl rfl
theorem r128_10 : zR d 128 Q 10 lv st h = zR d 128 Q 11 lv (.long (Int32.toInt64 1) :: st) h := q_in rfl rfl
theorem r128_11 : zR d 128 Q 11 lv st h = zR d 128 Q 14 lv (.long (Int32.toInt64 3) :: st) h := q_in rfl rfl
theorem r128_14 : zR d 128 Q 14 lv [.long j2, .long j1, .long j0] h = zM d 106 [.long j0, .long j1, .long j2] h (fun r h' => zR d 128 Q 17 lv (r.toList ++ []) h') := q_clS rfl rfl ⟨Nat.le_of_ble_eq_true rfl, Nat.le_of_ble_eq_true rfl⟩
theorem r128_17 : zR d 128 Q 17 lv (.int x :: st) h = if x = 0 then zR d 128 Q 61 lv st h else zR d 128 Q 20 lv st h := q_if rfl rfl
theorem r128_20 : zR d 128 Q 20 (o0 :: o1 :: o2 :: some (.int x) :: l) st h = zR d 128 Q 21 (o0 :: o1 :: o2 :: some (.int x) :: l) (.int x :: st) h := q_in rfl rfl
theorem r128_21 : zR d 128 Q 21 lv (.int x :: st) h = zR d 128 Q 22 lv (.long x.toInt64 :: st) h := q_in rfl rfl
theorem r128_22 : zR d 128 Q 22 (o0 :: o1 :: some (.int x) :: l) st h = zR d 128 Q 23 (o0 :: o1 :: some (.int x) :: l) (.int x :: st) h := q_in rfl rfl
theorem r128_23 : zR d 128 Q 23 lv st h = zR d 128 Q 24 lv (.int 1 :: st) h := q_in rfl rfl
theorem r128_24 : zR d 128 Q 24 lv (.int z :: .int x :: st) h = if x = z then zR d 128 Q 27 lv st h else zR d 128 Q 31 lv st h := q_if rfl rfl
theorem r128_27 : zR d 128 Q 27 lv st h = zR d 128 Q 28 lv (.long (Int32.toInt64 1) :: st) h := q_in rfl rfl
theorem r128_28 : zR d 128 Q 28 lv st h = zR d 128 Q 32 lv st h := q_in rfl rfl
theorem r128_31 : zR d 128 Q 31 lv st h = zR d 128 Q 32 lv (.long (Int32.toInt64 0) :: st) h := q_in rfl rfl
theorem r128_32 : zR d 128 Q 32 (o0 :: o1 :: some (.int x) :: l) st h = zR d 128 Q 33 (o0 :: o1 :: some (.int x) :: l) (.int x :: st) h := q_in rfl rfl
theorem r128_33 : zR d 128 Q 33 lv st h = zR d 128 Q 34 lv (.int 1 :: st) h := q_in rfl rfl
theorem r128_34 : zR d 128 Q 34 lv (.int z :: .int x :: st) h = if x = z then zR d 128 Q 37 lv st h else zR d 128 Q 43 lv st h := q_if rfl rfl
theorem r128_37 : zR d 128 Q 37 lv st h = zR d 128 Q 40 lv (.long (Int32.toInt64 99) :: st) h := q_in rfl rfl
theorem r128_40 : zR d 128 Q 40 lv st h = zR d 128 Q 55 lv st h := q_in rfl rfl
theorem r128_43 : zR d 128 Q 43 (o0 :: o1 :: some (.int x) :: l) st h = zR d 128 Q 44 (o0 :: o1 :: some (.int x) :: l) (.int x :: st) h := q_in rfl rfl
theorem r128_44 : zR d 128 Q 44 lv st h = zR d 128 Q 45 lv (.int 2 :: st) h := q_in rfl rfl
theorem r128_45 : zR d 128 Q 45 lv (.int z :: .int x :: st) h = if x = z then zR d 128 Q 48 lv st h else zR d 128 Q 52 lv st h := q_if rfl rfl
theorem r128_48 : zR d 128 Q 48 lv st h = zR d 128 Q 49 lv (.long (Int32.toInt64 1) :: st) h := q_in rfl rfl
theorem r128_49 : zR d 128 Q 49 lv st h = zR d 128 Q 55 lv st h := q_in rfl rfl
theorem r128_52 : zR d 128 Q 52 lv st h = zR d 128 Q 55 lv (.long (Int32.toInt64 9999) :: st) h := q_in rfl rfl
theorem r128_55 : zR d 128 Q 55 lv [.long j2, .long j1, .long j0] h = zM d 106 [.long j0, .long j1, .long j2] h (fun r h' => zR d 128 Q 58 lv (r.toList ++ []) h') := q_clS rfl rfl ⟨Nat.le_of_ble_eq_true rfl, Nat.le_of_ble_eq_true rfl⟩
theorem r128_58 : zR d 128 Q 58 lv (.int x :: st) h = if x = 0 then zR d 128 Q 61 lv st h else zR d 128 Q 64 lv st h := q_if rfl rfl
theorem r128_61 : zR d 128 Q 61 lv st h = zR d 128 Q 63 lv (.int (-1000000001) :: st) h := q_in rfl rfl
theorem r128_63 : zR d 128 Q 63 lv [.int x] h = Q (some (.int x)) h := q_retz rfl rfl (Or.inl rfl)
theorem r128_64 : zR d 128 Q 64 (some (.ref c) :: l) st h = zR d 128 Q 65 (some (.ref c) :: l) (.ref c :: st) h := q_in rfl rfl
theorem r128_65 : zR d 128 Q 65 lv st h = zR d 128 Q 67 lv (.int 12 :: st) h := q_in rfl rfl
theorem r128_67 : zR d 128 Q 67 lv st h = zR d 128 Q 68 lv (.int 5 :: st) h := q_in rfl rfl
theorem r128_68 : zR d 128 Q 68 (o0 :: some (.int x) :: l) st h = zR d 128 Q 69 (o0 :: some (.int x) :: l) (.int x :: st) h := q_in rfl rfl
theorem r128_69 : zR d 128 Q 69 lv (.int z :: .int x :: st) h = zR d 128 Q 70 lv (.int (x * z) :: st) h := q_in rfl rfl
theorem r128_70 : zR d 128 Q 70 lv (.int z :: .int x :: st) h = zR d 128 Q 71 lv (.int (x + z) :: st) h := q_in rfl rfl
theorem r128_71 : zR d 128 Q 71 (o0 :: o1 :: some (.int x) :: l) st h = zR d 128 Q 72 (o0 :: o1 :: some (.int x) :: l) (.int x :: st) h := q_in rfl rfl
theorem r128_72 : zR d 128 Q 72 lv (.int z :: .int x :: st) h = zR d 128 Q 73 lv (.int (x + z) :: st) h := q_in rfl rfl
theorem r128_73 : zR d 128 Q 73 (o0 :: o1 :: o2 :: some (.int x) :: l) st h = zR d 128 Q 74 (o0 :: o1 :: o2 :: some (.int x) :: l) (.int x :: st) h := q_in rfl rfl
theorem r128_74 : zR d 128 Q 74 lv [.int x1, .int x0, .ref 60] h = zM d 111 [.ref 60, .int x0, .int x1] h (fun r h' => zR d 128 Q 77 lv (r.toList ++ []) h') := (q_clV rfl rfl (Nat.le_of_ble_eq_true rfl)).trans (zand_t ⟨rfl, Nat.le_of_ble_eq_true rfl⟩)
theorem r128_77 : zR d 128 Q 77 lv [.int x] h = Q (some (.int x)) h := q_retz rfl rfl (Or.inl rfl)
theorem r129_0 : zR d 129 Q 0 lv st h = zR d 129 Q 2 lv (.int 30 :: st) h := q_in rfl rfl
theorem r129_2 : zR d 129 Q 2 (some (.ref c) :: l) st h = zR d 129 Q 3 (some (.ref c) :: l) (.ref c :: st) h := q_in rfl rfl
theorem r129_3 : zR d 129 Q 3 lv (.ref 60 :: st) h = zR d 129 Q 6 lv (.ref 61 :: st) h := (q_and rfl rfl).trans (zand_t rfl)
theorem r129_6 : zR d 129 Q 6 lv st h = zR d 129 Q 8 lv (.int 7 :: st) h := q_in rfl rfl
theorem r129_8 : zR d 129 Q 8 lv (.int x :: .ref c :: st) h = zal c x h (fun w => zR d 129 Q 9 lv (.int w :: st) h) := q_iald rfl
theorem r129_9 : zR d 129 Q 9 lv st h = zR d 129 Q 11 lv (.int 30 :: st) h := q_in rfl rfl
theorem r129_11 : zR d 129 Q 11 lv [.int x1, .int x0, .int y0] h = zM d 109 [.int x0, .int x1] h (fun r h' => zR d 129 Q 14 lv (r.toList ++ [.int y0]) h') := q_clS rfl rfl ⟨Nat.le_of_ble_eq_true rfl, Nat.le_of_ble_eq_true rfl⟩
theorem r129_14 : zR d 129 Q 14 lv (.int z :: .int x :: st) h = zR d 129 Q 15 lv (.int (x - z) :: st) h := q_in rfl rfl
theorem r129_15 : zR d 129 Q 15 (o0 :: o1 :: l) (.int x :: st) h = zR d 129 Q 16 (o0 :: some (.int x) :: l) st h := q_in rfl rfl
theorem r129_16 : zR d 129 Q 16 (o0 :: some (.int x) :: l) st h = zR d 129 Q 17 (o0 :: some (.int x) :: l) (.int x :: st) h := q_in rfl rfl
theorem r129_17 : zR d 129 Q 17 lv (.int x :: st) h = if x < 0 then zR d 129 Q 20 lv st h else zR d 129 Q 24 lv st h := q_if rfl rfl
theorem r129_20 : zR d 129 Q 20 lv st h = zR d 129 Q 21 lv (.int 0 :: st) h := q_in rfl rfl
theorem r129_21 : zR d 129 Q 21 lv st h = zR d 129 Q 25 lv st h := q_in rfl rfl
theorem r129_24 : zR d 129 Q 24 (o0 :: some (.int x) :: l) st h = zR d 129 Q 25 (o0 :: some (.int x) :: l) (.int x :: st) h := q_in rfl rfl
theorem r129_25 : zR d 129 Q 25 lv [.int x] h = Q (some (.int x)) h := q_retz rfl rfl (Or.inl rfl)
theorem r130_0 : zR d 130 Q 0 (some (.ref c) :: l) st h = zR d 130 Q 1 (some (.ref c) :: l) (.ref c :: st) h := q_in rfl rfl
theorem r130_1 : zR d 130 Q 1 lv (.ref 60 :: st) h = zR d 130 Q 4 lv (.ref 61 :: st) h := (q_and rfl rfl).trans (zand_t rfl)
theorem r130_4 : zR d 130 Q 4 lv st h = zR d 130 Q 6 lv (.int 9 :: st) h := q_in rfl rfl
theorem r130_6 : zR d 130 Q 6 lv (.int x :: .ref c :: st) h = zal c x h (fun w => zR d 130 Q 7 lv (.int w :: st) h) := q_iald rfl
theorem r130_7 : zR d 130 Q 7 lv (.int x :: st) h = if x = 0 then zR d 130 Q 17 lv st h else zR d 130 Q 10 lv st h := q_if rfl rfl
theorem r130_10 : zR d 130 Q 10 (some (.ref c) :: l) st h = zR d 130 Q 11 (some (.ref c) :: l) (.ref c :: st) h := q_in rfl rfl
theorem r130_11 : zR d 130 Q 11 lv [.ref 60] h = zM d 129 [.ref 60] h (fun r h' => zR d 130 Q 14 lv (r.toList ++ []) h') := (q_clV rfl rfl (Nat.le_of_ble_eq_true rfl)).trans (zand_t ⟨rfl, Nat.le_of_ble_eq_true rfl⟩)
theorem r130_14 : zR d 130 Q 14 lv (.int x :: st) h = if x = 0 then zR d 130 Q 17 lv st h else zR d 130 Q 20 lv st h := q_if rfl rfl
theorem r130_17 : zR d 130 Q 17 lv st h = zR d 130 Q 19 lv (.int 60 :: st) h := q_in rfl rfl
theorem r130_19 : zR d 130 Q 19 lv [.int x] h = Q (some (.int x)) h := q_retz rfl rfl (Or.inl rfl)
theorem r130_20 : zR d 130 Q 20 lv st h = zR d 130 Q 21 lv (.int 4 :: st) h := q_in rfl rfl
theorem r130_21 : zR d 130 Q 21 lv st h = zR d 130 Q 24 lv (.int 300 :: st) h := q_in rfl rfl
theorem r130_24 : zR d 130 Q 24 lv st h = zR d 130 Q 25 lv (.int 1 :: st) h := q_in rfl rfl
theorem r130_25 : zR d 130 Q 25 (some (.ref c) :: l) st h = zR d 130 Q 26 (some (.ref c) :: l) (.ref c :: st) h := q_in rfl rfl
theorem r130_26 : zR d 130 Q 26 lv (.ref 60 :: st) h = zR d 130 Q 29 lv (.ref 61 :: st) h := (q_and rfl rfl).trans (zand_t rfl)
theorem r130_29 : zR d 130 Q 29 lv st h = zR d 130 Q 31 lv (.int 9 :: st) h := q_in rfl rfl
theorem r130_31 : zR d 130 Q 31 lv (.int x :: .ref c :: st) h = zal c x h (fun w => zR d 130 Q 32 lv (.int w :: st) h) := q_iald rfl
theorem r130_32 : zR d 130 Q 32 (some (.ref c) :: l) st h = zR d 130 Q 33 (some (.ref c) :: l) (.ref c :: st) h := q_in rfl rfl
theorem r130_33 : zR d 130 Q 33 lv [.ref 60, .int y0, .int y1, .int y2, .int y3] h = zM d 129 [.ref 60] h (fun r h' => zR d 130 Q 36 lv (r.toList ++ [.int y0, .int y1, .int y2, .int y3]) h') := (q_clV rfl rfl (Nat.le_of_ble_eq_true rfl)).trans (zand_t ⟨rfl, Nat.le_of_ble_eq_true rfl⟩)
theorem r130_36 : zR d 130 Q 36 lv (.int z :: .int x :: st) h = zR d 130 Q 37 lv (.int (x * z) :: st) h := q_in rfl rfl
theorem r130_37 : zR d 130 Q 37 lv st h = zR d 130 Q 39 lv (.int 30 :: st) h := q_in rfl rfl
theorem r130_39 : zR d 130 Q 39 lv (.int 30 :: .int x :: st) h = zR d 130 Q 40 lv (.int (x / 30) :: st) h := (q_and rfl rfl).trans (zand_t (by decide))
theorem r130_40 : zR d 130 Q 40 lv (.int z :: .int x :: st) h = zR d 130 Q 41 lv (.int (x + z) :: st) h := q_in rfl rfl
theorem r130_41 : zR d 130 Q 41 lv (.int z :: .int x :: st) h = (¬ z = 0 ∧ zR d 130 Q 42 lv (.int (x / z) :: st) h) := q_and rfl rfl
theorem r130_42 : zR d 130 Q 42 lv (.int z :: .int x :: st) h = zR d 130 Q 43 lv (.int (x + z) :: st) h := q_in rfl rfl
theorem r130_43 : zR d 130 Q 43 (o0 :: o1 :: l) (.int x :: st) h = zR d 130 Q 44 (o0 :: some (.int x) :: l) st h := q_in rfl rfl
theorem r130_44 : zR d 130 Q 44 (o0 :: some (.int x) :: l) st h = zR d 130 Q 45 (o0 :: some (.int x) :: l) (.int x :: st) h := q_in rfl rfl
theorem r130_45 : zR d 130 Q 45 lv st h = zR d 130 Q 47 lv (.int 60 :: st) h := q_in rfl rfl
theorem r130_47 : zR d 130 Q 47 lv (.int z :: .int x :: st) h = if x ≤ z then zR d 130 Q 55 lv st h else zR d 130 Q 50 lv st h := q_if rfl rfl
theorem r130_50 : zR d 130 Q 50 lv st h = zR d 130 Q 52 lv (.int 60 :: st) h := q_in rfl rfl
theorem r130_52 : zR d 130 Q 52 lv st h = zR d 130 Q 56 lv st h := q_in rfl rfl
theorem r130_55 : zR d 130 Q 55 (o0 :: some (.int x) :: l) st h = zR d 130 Q 56 (o0 :: some (.int x) :: l) (.int x :: st) h := q_in rfl rfl
theorem r130_56 : zR d 130 Q 56 lv [.int x] h = Q (some (.int x)) h := q_retz rfl rfl (Or.inl rfl)
theorem r131_0 : zR d 131 Q 0 (o0 :: some (.int x) :: l) st h = zR d 131 Q 1 (o0 :: some (.int x) :: l) (.int x :: st) h := q_in rfl rfl
theorem r131_1 : zR d 131 Q 1 lv (.int x :: st) h = zR d 131 Q 2 lv (.long x.toInt64 :: st) h := q_in rfl rfl
theorem r131_2 : zR d 131 Q 2 lv st h = zR d 131 Q 3 lv (.long (Int32.toInt64 0) :: st) h := q_in rfl rfl
theorem r131_3 : zR d 131 Q 3 lv st h = zR d 131 Q 6 lv (.long (Int32.toInt64 7) :: st) h := q_in rfl rfl
theorem r131_6 : zR d 131 Q 6 lv [.long j2, .long j1, .long j0] h = zM d 106 [.long j0, .long j1, .long j2] h (fun r h' => zR d 131 Q 9 lv (r.toList ++ []) h') := q_clS rfl rfl ⟨Nat.le_of_ble_eq_true rfl, Nat.le_of_ble_eq_true rfl⟩
theorem r131_9 : zR d 131 Q 9 lv (.int x :: st) h = if x = 0 then zR d 131 Q 12 lv st h else zR d 131 Q 15 lv st h := q_if rfl rfl
theorem r131_12 : zR d 131 Q 12 lv st h = zR d 131 Q 14 lv (.int (-1000000001) :: st) h := q_in rfl rfl
theorem r131_14 : zR d 131 Q 14 lv [.int x] h = Q (some (.int x)) h := q_retz rfl rfl (Or.inl rfl)
theorem r131_15 : zR d 131 Q 15 (o0 :: some (.int x) :: l) st h = zR d 131 Q 16 (o0 :: some (.int x) :: l) (.int x :: st) h := q_in rfl rfl
theorem r131_16 : zR d 131 Q 16 lv st h = zR d 131 Q 18 lv (.int 6 :: st) h := q_in rfl rfl
theorem r131_18 : zR d 131 Q 18 lv (.int z :: .int x :: st) h = if x < z then zR d 131 Q 21 lv st h else zR d 131 Q 33 lv st h := q_if rfl rfl
theorem r131_21 : zR d 131 Q 21 (some (.ref c) :: l) st h = zR d 131 Q 22 (some (.ref c) :: l) (.ref c :: st) h := q_in rfl rfl
theorem r131_22 : zR d 131 Q 22 lv (.ref 60 :: st) h = zR d 131 Q 25 lv (.ref 61 :: st) h := (q_and rfl rfl).trans (zand_t rfl)
theorem r131_25 : zR d 131 Q 25 lv st h = zR d 131 Q 27 lv (.int 6 :: st) h := q_in rfl rfl
theorem r131_27 : zR d 131 Q 27 (o0 :: some (.int x) :: l) st h = zR d 131 Q 28 (o0 :: some (.int x) :: l) (.int x :: st) h := q_in rfl rfl
theorem r131_28 : zR d 131 Q 28 lv (.int z :: .int x :: st) h = zR d 131 Q 29 lv (.int (x + z) :: st) h := q_in rfl rfl
theorem r131_29 : zR d 131 Q 29 lv (.int x :: .ref c :: st) h = zal c x h (fun w => zR d 131 Q 30 lv (.int w :: st) h) := q_iald rfl
theorem r131_30 : zR d 131 Q 30 lv st h = zR d 131 Q 50 lv st h := q_in rfl rfl
theorem r131_33 : zR d 131 Q 33 (o0 :: some (.int x) :: l) st h = zR d 131 Q 34 (o0 :: some (.int x) :: l) (.int x :: st) h := q_in rfl rfl
theorem r131_34 : zR d 131 Q 34 lv st h = zR d 131 Q 36 lv (.int 6 :: st) h := q_in rfl rfl
theorem r131_36 : zR d 131 Q 36 lv (.int z :: .int x :: st) h = if x = z then zR d 131 Q 39 lv st h else zR d 131 Q 46 lv st h := q_if rfl rfl
theorem r131_39 : zR d 131 Q 39 (some (.ref c) :: l) st h = zR d 131 Q 40 (some (.ref c) :: l) (.ref c :: st) h := q_in rfl rfl
theorem r131_40 : zR d 131 Q 40 lv [.ref 60] h = zM d 129 [.ref 60] h (fun r h' => zR d 131 Q 43 lv (r.toList ++ []) h') := (q_clV rfl rfl (Nat.le_of_ble_eq_true rfl)).trans (zand_t ⟨rfl, Nat.le_of_ble_eq_true rfl⟩)
theorem r131_43 : zR d 131 Q 43 lv st h = zR d 131 Q 50 lv st h := q_in rfl rfl
theorem r131_46 : zR d 131 Q 46 (some (.ref c) :: l) st h = zR d 131 Q 47 (some (.ref c) :: l) (.ref c :: st) h := q_in rfl rfl
theorem r131_47 : zR d 131 Q 47 lv [.ref 60] h = zM d 130 [.ref 60] h (fun r h' => zR d 131 Q 50 lv (r.toList ++ []) h') := (q_clV rfl rfl (Nat.le_of_ble_eq_true rfl)).trans (zand_t ⟨rfl, Nat.le_of_ble_eq_true rfl⟩)
theorem r131_50 : zR d 131 Q 50 lv [.int x] h = Q (some (.int x)) h := q_retz rfl rfl (Or.inl rfl)
theorem r132_0 : zR d 132 Q 0 (some (.int x) :: l) st h = zR d 132 Q 1 (some (.int x) :: l) (.int x :: st) h := q_in rfl rfl
theorem r132_1 : zR d 132 Q 1 lv (.int x :: st) h = if x = 0 then zR d 132 Q 36 lv st h else if x = 1 then zR d 132 Q 38 lv st h else if x = 2 then zR d 132 Q 41 lv st h else if x = 3 then zR d 132 Q 44 lv st h else if x = 4 then zR d 132 Q 47 lv st h else zR d 132 Q 51 lv st h := (q_in rfl rfl).trans (by simp only [zsw, zR_ite])
theorem r132_36 : zR d 132 Q 36 lv st h = zR d 132 Q 37 lv (.int 1 :: st) h := q_in rfl rfl
theorem r132_37 : zR d 132 Q 37 lv [.int x] h = Q (some (.int x)) h := q_retz rfl rfl (Or.inl rfl)
theorem r132_38 : zR d 132 Q 38 lv st h = zR d 132 Q 40 lv (.int 90 :: st) h := q_in rfl rfl
theorem r132_40 : zR d 132 Q 40 lv [.int x] h = Q (some (.int x)) h := q_retz rfl rfl (Or.inl rfl)
theorem r132_41 : zR d 132 Q 41 lv st h = zR d 132 Q 43 lv (.int 20 :: st) h := q_in rfl rfl
theorem r132_43 : zR d 132 Q 43 lv [.int x] h = Q (some (.int x)) h := q_retz rfl rfl (Or.inl rfl)
theorem r132_44 : zR d 132 Q 44 lv st h = zR d 132 Q 46 lv (.int 99 :: st) h := q_in rfl rfl
theorem r132_46 : zR d 132 Q 46 lv [.int x] h = Q (some (.int x)) h := q_retz rfl rfl (Or.inl rfl)
theorem r132_47 : zR d 132 Q 47 lv st h = zR d 132 Q 50 lv (.int 9999 :: st) h := q_in rfl rfl
theorem r132_50 : zR d 132 Q 50 lv [.int x] h = Q (some (.int x)) h := q_retz rfl rfl (Or.inl rfl)
theorem r132_51 : zR d 132 Q 51 lv st h = zR d 132 Q 53 lv (.int 10 :: st) h := q_in rfl rfl
theorem r132_53 : zR d 132 Q 53 lv [.int x] h = Q (some (.int x)) h := q_retz rfl rfl (Or.inl rfl)
theorem r133_0 : zR d 133 Q 0 (o0 :: some (.int x) :: l) st h = zR d 133 Q 1 (o0 :: some (.int x) :: l) (.int x :: st) h := q_in rfl rfl
theorem r133_1 : zR d 133 Q 1 lv (.int x :: st) h = zR d 133 Q 2 lv (.long x.toInt64 :: st) h := q_in rfl rfl
theorem r133_2 : zR d 133 Q 2 lv st h = zR d 133 Q 3 lv (.long (Int32.toInt64 0) :: st) h := q_in rfl rfl
theorem r133_3 : zR d 133 Q 3 lv st h = zR d 133 Q 6 lv (.long (Int32.toInt64 5) :: st) h := q_in rfl rfl
theorem r133_6 : zR d 133 Q 6 lv [.long j2, .long j1, .long j0] h = zM d 106 [.long j0, .long j1, .long j2] h (fun r h' => zR d 133 Q 9 lv (r.toList ++ []) h') := q_clS rfl rfl ⟨Nat.le_of_ble_eq_true rfl, Nat.le_of_ble_eq_true rfl⟩
theorem r133_9 : zR d 133 Q 9 lv (.int x :: st) h = if x = 0 then zR d 133 Q 40 lv st h else zR d 133 Q 12 lv st h := q_if rfl rfl
theorem r133_12 : zR d 133 Q 12 (o0 :: o1 :: some (.int x) :: l) st h = zR d 133 Q 13 (o0 :: o1 :: some (.int x) :: l) (.int x :: st) h := q_in rfl rfl
theorem r133_13 : zR d 133 Q 13 lv (.int x :: st) h = zR d 133 Q 14 lv (.long x.toInt64 :: st) h := q_in rfl rfl
theorem r133_14 : zR d 133 Q 14 (o0 :: some (.int x) :: l) st h = zR d 133 Q 15 (o0 :: some (.int x) :: l) (.int x :: st) h := q_in rfl rfl
theorem r133_15 : zR d 133 Q 15 lv st h = zR d 133 Q 16 lv (.int 2 :: st) h := q_in rfl rfl
theorem r133_16 : zR d 133 Q 16 lv (.int z :: .int x :: st) h = if x = z then zR d 133 Q 24 lv st h else zR d 133 Q 19 lv st h := q_if rfl rfl
theorem r133_19 : zR d 133 Q 19 (o0 :: some (.int x) :: l) st h = zR d 133 Q 20 (o0 :: some (.int x) :: l) (.int x :: st) h := q_in rfl rfl
theorem r133_20 : zR d 133 Q 20 lv st h = zR d 133 Q 21 lv (.int 4 :: st) h := q_in rfl rfl
theorem r133_21 : zR d 133 Q 21 lv (.int z :: .int x :: st) h = if x = z then zR d 133 Q 24 lv st h else zR d 133 Q 28 lv st h := q_if rfl rfl
theorem r133_24 : zR d 133 Q 24 lv st h = zR d 133 Q 25 lv (.long (Int32.toInt64 1) :: st) h := q_in rfl rfl
theorem r133_25 : zR d 133 Q 25 lv st h = zR d 133 Q 29 lv st h := q_in rfl rfl
theorem r133_28 : zR d 133 Q 28 lv st h = zR d 133 Q 29 lv (.long (Int32.toInt64 0) :: st) h := q_in rfl rfl
theorem r133_29 : zR d 133 Q 29 (o0 :: some (.int x) :: l) st h = zR d 133 Q 30 (o0 :: some (.int x) :: l) (.int x :: st) h := q_in rfl rfl
theorem r133_30 : zR d 133 Q 30 lv [.int x0, .long k0, .long k1] h = zM d 132 [.int x0] h (fun r h' => zR d 133 Q 33 lv (r.toList ++ [.long k0, .long k1]) h') := q_clS rfl rfl ⟨Nat.le_of_ble_eq_true rfl, Nat.le_of_ble_eq_true rfl⟩
theorem r133_33 : zR d 133 Q 33 lv (.int x :: st) h = zR d 133 Q 34 lv (.long x.toInt64 :: st) h := q_in rfl rfl
theorem r133_34 : zR d 133 Q 34 lv [.long j2, .long j1, .long j0] h = zM d 106 [.long j0, .long j1, .long j2] h (fun r h' => zR d 133 Q 37 lv (r.toList ++ []) h') := q_clS rfl rfl ⟨Nat.le_of_ble_eq_true rfl, Nat.le_of_ble_eq_true rfl⟩
theorem r133_37 : zR d 133 Q 37 lv (.int x :: st) h = if x = 0 then zR d 133 Q 40 lv st h else zR d 133 Q 43 lv st h := q_if rfl rfl
theorem r133_40 : zR d 133 Q 40 lv st h = zR d 133 Q 42 lv (.int (-1000000001) :: st) h := q_in rfl rfl
theorem r133_42 : zR d 133 Q 42 lv [.int x] h = Q (some (.int x)) h := q_retz rfl rfl (Or.inl rfl)
theorem r133_43 : zR d 133 Q 43 (some (.ref c) :: l) st h = zR d 133 Q 44 (some (.ref c) :: l) (.ref c :: st) h := q_in rfl rfl
theorem r133_44 : zR d 133 Q 44 lv st h = zR d 133 Q 46 lv (.int 6 :: st) h := q_in rfl rfl
theorem r133_46 : zR d 133 Q 46 (o0 :: some (.int x) :: l) st h = zR d 133 Q 47 (o0 :: some (.int x) :: l) (.int x :: st) h := q_in rfl rfl
theorem r133_47 : zR d 133 Q 47 lv (.int z :: .int x :: st) h = zR d 133 Q 48 lv (.int (x + z) :: st) h := q_in rfl rfl
theorem r133_48 : zR d 133 Q 48 (o0 :: o1 :: some (.int x) :: l) st h = zR d 133 Q 49 (o0 :: o1 :: some (.int x) :: l) (.int x :: st) h := q_in rfl rfl
theorem r133_49 : zR d 133 Q 49 lv [.int x1, .int x0, .ref 60] h = zM d 111 [.ref 60, .int x0, .int x1] h (fun r h' => zR d 133 Q 52 lv (r.toList ++ []) h') := (q_clV rfl rfl (Nat.le_of_ble_eq_true rfl)).trans (zand_t ⟨rfl, Nat.le_of_ble_eq_true rfl⟩)
theorem r133_52 : zR d 133 Q 52 lv [.int x] h = Q (some (.int x)) h := q_retz rfl rfl (Or.inl rfl)
theorem r134_0 : zR d 134 Q 0 (some (.ref c) :: l) st h = zR d 134 Q 1 (some (.ref c) :: l) (.ref c :: st) h := q_in rfl rfl
theorem r134_1 : zR d 134 Q 1 lv st h = zR d 134 Q 2 lv (.int 1 :: st) h := q_in rfl rfl
theorem r134_2 : zR d 134 Q 2 lv [.int x0, .ref 60] h = zM d 179 [.ref 60, .int x0] h (fun r h' => zR d 134 Q 5 lv (r.toList ++ []) h') := (q_clV rfl rfl (Nat.le_of_ble_eq_true rfl)).trans (zand_t ⟨rfl, Nat.le_of_ble_eq_true rfl⟩)
theorem r134_5 : zR d 134 Q 5 (o0 :: o1 :: o2 :: l) (.int x :: st) h = zR d 134 Q 6 (o0 :: o1 :: some (.int x) :: l) st h := q_in rfl rfl
theorem r134_6 : zR d 134 Q 6 (o0 :: o1 :: some (.int x) :: l) st h = zR d 134 Q 7 (o0 :: o1 :: some (.int x) :: l) (.int x :: st) h := q_in rfl rfl
theorem r134_7 : zR d 134 Q 7 lv (.int x :: st) h = if x < 0 then zR d 134 Q 10 lv st h else zR d 134 Q 26 lv st h := q_if rfl rfl
theorem r134_10 : zR d 134 Q 10 (some (.ref c) :: l) st h = zR d 134 Q 11 (some (.ref c) :: l) (.ref c :: st) h := q_in rfl rfl
theorem r134_11 : zR d 134 Q 11 lv (.ref 60 :: st) h = zR d 134 Q 14 lv (.ref 61 :: st) h := (q_and rfl rfl).trans (zand_t rfl)
theorem r134_14 : zR d 134 Q 14 lv st h = zR d 134 Q 16 lv (.int 9 :: st) h := q_in rfl rfl
theorem r134_16 : zR d 134 Q 16 lv (.int x :: .ref c :: st) h = zal c x h (fun w => zR d 134 Q 17 lv (.int w :: st) h) := q_iald rfl
theorem r134_17 : zR d 134 Q 17 (o0 :: some (.int x) :: l) st h = zR d 134 Q 18 (o0 :: some (.int x) :: l) (.int x :: st) h := q_in rfl rfl
theorem r134_18 : zR d 134 Q 18 lv st h = zR d 134 Q 20 lv (.int 20 :: st) h := q_in rfl rfl
theorem r134_20 : zR d 134 Q 20 lv (.int z :: .int x :: st) h = zR d 134 Q 21 lv (.int (x + z) :: st) h := q_in rfl rfl
theorem r134_21 : zR d 134 Q 21 lv (.int z :: .int x :: st) h = zR d 134 Q 22 lv (.int (x * z) :: st) h := q_in rfl rfl
theorem r134_22 : zR d 134 Q 22 lv st h = zR d 134 Q 24 lv (.int 10 :: st) h := q_in rfl rfl
theorem r134_24 : zR d 134 Q 24 lv (.int 10 :: .int x :: st) h = zR d 134 Q 25 lv (.int (x / 10) :: st) h := (q_and rfl rfl).trans (zand_t (by decide))
theorem r134_25 : zR d 134 Q 25 lv [.int x] h = Q (some (.int x)) h := q_retz rfl rfl (Or.inl rfl)
theorem r134_26 : zR d 134 Q 26 (some (.ref c) :: l) st h = zR d 134 Q 27 (some (.ref c) :: l) (.ref c :: st) h := q_in rfl rfl
theorem r134_27 : zR d 134 Q 27 lv (.ref 60 :: st) h = zR d 134 Q 30 lv (.ref 75 :: st) h := (q_and rfl rfl).trans (zand_t rfl)
theorem r134_30 : zR d 134 Q 30 lv st h = zR d 134 Q 32 lv (.int 115 :: st) h := q_in rfl rfl
theorem r134_32 : zR d 134 Q 32 (some (.ref c) :: l) st h = zR d 134 Q 33 (some (.ref c) :: l) (.ref c :: st) h := q_in rfl rfl
theorem r134_33 : zR d 134 Q 33 lv (.ref 60 :: st) h = zR d 134 Q 36 lv (.ref 61 :: st) h := (q_and rfl rfl).trans (zand_t rfl)
theorem r134_36 : zR d 134 Q 36 lv st h = zR d 134 Q 38 lv (.int 9 :: st) h := q_in rfl rfl
theorem r134_38 : zR d 134 Q 38 lv (.int x :: .ref c :: st) h = zal c x h (fun w => zR d 134 Q 39 lv (.int w :: st) h) := q_iald rfl
theorem r134_39 : zR d 134 Q 39 lv (.int z :: .int x :: .ref c :: st) h = zas c x z h (fun h' => zR d 134 Q 40 lv st h') := q_iast rfl
theorem r134_40 : zR d 134 Q 40 (some (.ref c) :: l) st h = zR d 134 Q 41 (some (.ref c) :: l) (.ref c :: st) h := q_in rfl rfl
theorem r134_41 : zR d 134 Q 41 lv (.ref 60 :: st) h = zR d 134 Q 44 lv (.ref 75 :: st) h := (q_and rfl rfl).trans (zand_t rfl)
theorem r134_44 : zR d 134 Q 44 lv st h = zR d 134 Q 46 lv (.int 119 :: st) h := q_in rfl rfl
theorem r134_46 : zR d 134 Q 46 (o0 :: some (.int x) :: l) st h = zR d 134 Q 47 (o0 :: some (.int x) :: l) (.int x :: st) h := q_in rfl rfl
theorem r134_47 : zR d 134 Q 47 lv (.int z :: .int x :: .ref c :: st) h = zas c x z h (fun h' => zR d 134 Q 48 lv st h') := q_iast rfl
theorem r134_48 : zR d 134 Q 48 (some (.ref c) :: l) st h = zR d 134 Q 49 (some (.ref c) :: l) (.ref c :: st) h := q_in rfl rfl
theorem r134_49 : zR d 134 Q 49 lv (.ref 60 :: st) h = zR d 134 Q 52 lv (.ref 75 :: st) h := (q_and rfl rfl).trans (zand_t rfl)
theorem r134_52 : zR d 134 Q 52 lv st h = zR d 134 Q 54 lv (.int 97 :: st) h := q_in rfl rfl
theorem r134_54 : zR d 134 Q 54 (some (.ref c) :: l) st h = zR d 134 Q 55 (some (.ref c) :: l) (.ref c :: st) h := q_in rfl rfl
theorem r134_55 : zR d 134 Q 55 lv (.ref 60 :: st) h = zR d 134 Q 58 lv (.ref 61 :: st) h := (q_and rfl rfl).trans (zand_t rfl)
theorem r134_58 : zR d 134 Q 58 lv st h = zR d 134 Q 60 lv (.int 7 :: st) h := q_in rfl rfl
theorem r134_60 : zR d 134 Q 60 lv (.int x :: .ref c :: st) h = zal c x h (fun w => zR d 134 Q 61 lv (.int w :: st) h) := q_iald rfl
theorem r134_61 : zR d 134 Q 61 lv (.int z :: .int x :: .ref c :: st) h = zas c x z h (fun h' => zR d 134 Q 62 lv st h') := q_iast rfl
theorem r134_62 : zR d 134 Q 62 (some (.ref c) :: l) st h = zR d 134 Q 63 (some (.ref c) :: l) (.ref c :: st) h := q_in rfl rfl
theorem r134_63 : zR d 134 Q 63 (o0 :: o1 :: some (.int x) :: l) st h = zR d 134 Q 64 (o0 :: o1 :: some (.int x) :: l) (.int x :: st) h := q_in rfl rfl
theorem r134_64 : zR d 134 Q 64 lv [.int x0, .ref 60] h = zM d 182 [.ref 60, .int x0] h (fun r h' => zR d 134 Q 67 lv (r.toList ++ []) h') := (q_clV rfl rfl (Nat.le_of_ble_eq_true rfl)).trans (zand_t ⟨rfl, Nat.le_of_ble_eq_true rfl⟩)
theorem r134_67 : zR d 134 Q 67 lv st h = zR d 134 Q 68 lv (.int 0 :: st) h := q_in rfl rfl
theorem r134_68 : zR d 134 Q 68 lv st h = zR d 134 Q 71 lv (.int 9999 :: st) h := q_in rfl rfl
theorem r134_71 : zR d 134 Q 71 lv [.int x2, .int x1, .int x0] h = zM d 108 [.int x0, .int x1, .int x2] h (fun r h' => zR d 134 Q 74 lv (r.toList ++ []) h') := q_clS rfl rfl ⟨Nat.le_of_ble_eq_true rfl, Nat.le_of_ble_eq_true rfl⟩
theorem r134_74 : zR d 134 Q 74 lv [.int x] h = Q (some (.int x)) h := q_retz rfl rfl (Or.inl rfl)
theorem r135_0 : zR d 135 Q 0 (o0 :: some (.int x) :: l) st h = zR d 135 Q 1 (o0 :: some (.int x) :: l) (.int x :: st) h := q_in rfl rfl
theorem r135_1 : zR d 135 Q 1 lv (.int x :: st) h = zR d 135 Q 2 lv (.long x.toInt64 :: st) h := q_in rfl rfl
theorem r135_2 : zR d 135 Q 2 lv st h = zR d 135 Q 3 lv (.long (Int32.toInt64 0) :: st) h := q_in rfl rfl
theorem r135_3 : zR d 135 Q 3 lv st h = zR d 135 Q 6 lv (.long (Int32.toInt64 999) :: st) h := q_in rfl rfl
theorem r135_6 : zR d 135 Q 6 lv [.long j2, .long j1, .long j0] h = zM d 106 [.long j0, .long j1, .long j2] h (fun r h' => zR d 135 Q 9 lv (r.toList ++ []) h') := q_clS rfl rfl ⟨Nat.le_of_ble_eq_true rfl, Nat.le_of_ble_eq_true rfl⟩
theorem r135_9 : zR d 135 Q 9 lv (.int x :: st) h = if x = 0 then zR d 135 Q 20 lv st h else zR d 135 Q 12 lv st h := q_if rfl rfl
theorem r135_12 : zR d 135 Q 12 (some (.ref c) :: l) st h = zR d 135 Q 13 (some (.ref c) :: l) (.ref c :: st) h := q_in rfl rfl
theorem r135_13 : zR d 135 Q 13 (o0 :: some (.int x) :: l) st h = zR d 135 Q 14 (o0 :: some (.int x) :: l) (.int x :: st) h := q_in rfl rfl
theorem r135_14 : zR d 135 Q 14 lv [.int x0, .ref 60] h = zM d 134 [.ref 60, .int x0] h (fun r h' => zR d 135 Q 17 lv (r.toList ++ []) h') := (q_clV rfl rfl (Nat.le_of_ble_eq_true rfl)).trans (zand_t ⟨rfl, Nat.le_of_ble_eq_true rfl⟩)
theorem r135_17 : zR d 135 Q 17 lv st h = zR d 135 Q 22 lv st h := q_in rfl rfl
theorem r135_20 : zR d 135 Q 20 lv st h = zR d 135 Q 22 lv (.int (-1000000001) :: st) h := q_in rfl rfl
theorem r135_22 : zR d 135 Q 22 lv [.int x] h = Q (some (.int x)) h := q_retz rfl rfl (Or.inl rfl)
theorem r136_0 : zR d 136 Q 0 lv st h = zR d 136 Q 1 lv (.int (-1) :: st) h := q_in rfl rfl
theorem r136_1 : zR d 136 Q 1 (o0 :: o1 :: o2 :: l) (.int x :: st) h = zR d 136 Q 2 (o0 :: o1 :: some (.int x) :: l) st h := q_in rfl rfl
theorem r136_2 : zR d 136 Q 2 lv st h = zR d 136 Q 3 lv (.int 0 :: st) h := q_in rfl rfl
theorem r136_3 : zR d 136 Q 3 (o0 :: o1 :: o2 :: o3 :: l) (.int x :: st) h = zR d 136 Q 4 (o0 :: o1 :: o2 :: some (.int x) :: l) st h := q_in rfl rfl
theorem r136_4 : zR d 136 Q 4 (o0 :: o1 :: o2 :: some (.int x) :: l) st h = zR d 136 Q 5 (o0 :: o1 :: o2 :: some (.int x) :: l) (.int x :: st) h := q_in rfl rfl
theorem r136_5 : zR d 136 Q 5 (some (.ref c) :: l) st h = zR d 136 Q 6 (some (.ref c) :: l) (.ref c :: st) h := q_in rfl rfl
theorem r136_6 : zR d 136 Q 6 lv (.ref 60 :: st) h = zR d 136 Q 9 lv (.ref 61 :: st) h := (q_and rfl rfl).trans (zand_t rfl)
theorem r136_9 : zR d 136 Q 9 lv st h = zR d 136 Q 10 lv (.int 0 :: st) h := q_in rfl rfl
theorem r136_10 : zR d 136 Q 10 lv (.int x :: .ref c :: st) h = zal c x h (fun w => zR d 136 Q 11 lv (.int w :: st) h) := q_iald rfl
theorem r136_11 : zR d 136 Q 11 lv (.int z :: .int x :: st) h = if x < z then zR d 136 Q 14 lv st h else zR d 136 Q 87 lv st h := q_if rfl rfl
theorem r136_14 : zR d 136 Q 14 (o0 :: some (.int x) :: l) st h = zR d 136 Q 15 (o0 :: some (.int x) :: l) (.int x :: st) h := q_in rfl rfl
theorem r136_15 : zR d 136 Q 15 (o0 :: o1 :: o2 :: some (.int x) :: l) st h = zR d 136 Q 16 (o0 :: o1 :: o2 :: some (.int x) :: l) (.int x :: st) h := q_in rfl rfl
theorem r136_16 : zR d 136 Q 16 lv (.int z :: .int x :: st) h = zR d 136 Q 17 lv (.int (x >>> (z &&& 31)) :: st) h := q_in rfl rfl
theorem r136_17 : zR d 136 Q 17 lv st h = zR d 136 Q 18 lv (.int 1 :: st) h := q_in rfl rfl
theorem r136_18 : zR d 136 Q 18 lv (.int z :: .int x :: st) h = zR d 136 Q 19 lv (.int (x &&& z) :: st) h := q_in rfl rfl
theorem r136_19 : zR d 136 Q 19 lv (.int x :: st) h = if x = 0 then zR d 136 Q 22 lv st h else zR d 136 Q 50 lv st h := q_if rfl rfl
theorem r136_22 : zR d 136 Q 22 (some (.ref c) :: l) st h = zR d 136 Q 23 (some (.ref c) :: l) (.ref c :: st) h := q_in rfl rfl
theorem r136_23 : zR d 136 Q 23 (o0 :: o1 :: o2 :: some (.int x) :: l) st h = zR d 136 Q 24 (o0 :: o1 :: o2 :: some (.int x) :: l) (.int x :: st) h := q_in rfl rfl
theorem r136_24 : zR d 136 Q 24 lv st h = zR d 136 Q 25 lv (.int 2 :: st) h := q_in rfl rfl
theorem r136_25 : zR d 136 Q 25 lv [.int x1, .int x0, .ref 60] h = zM d 113 [.ref 60, .int x0, .int x1] h (fun r h' => zR d 136 Q 28 lv (r.toList ++ []) h') := (q_clV rfl rfl (Nat.le_of_ble_eq_true rfl)).trans (zand_t ⟨rfl, Nat.le_of_ble_eq_true rfl⟩)
theorem r136_28 : zR d 136 Q 28 (some (.ref c) :: l) st h = zR d 136 Q 29 (some (.ref c) :: l) (.ref c :: st) h := q_in rfl rfl
theorem r136_29 : zR d 136 Q 29 lv (.ref 60 :: st) h = zR d 136 Q 32 lv (.ref 61 :: st) h := (q_and rfl rfl).trans (zand_t rfl)
theorem r136_32 : zR d 136 Q 32 lv st h = zR d 136 Q 34 lv (.int 6 :: st) h := q_in rfl rfl
theorem r136_34 : zR d 136 Q 34 lv (.int x :: .ref c :: st) h = zal c x h (fun w => zR d 136 Q 35 lv (.int w :: st) h) := q_iald rfl
theorem r136_35 : zR d 136 Q 35 lv (.int z :: .int x :: st) h = if x = z then zR d 136 Q 38 lv st h else zR d 136 Q 50 lv st h := q_if rfl rfl
theorem r136_38 : zR d 136 Q 38 (o0 :: o1 :: o2 :: some (.int x) :: l) st h = zR d 136 Q 39 (o0 :: o1 :: o2 :: some (.int x) :: l) (.int x :: st) h := q_in rfl rfl
theorem r136_39 : zR d 136 Q 39 (some (.ref c) :: l) st h = zR d 136 Q 40 (some (.ref c) :: l) (.ref c :: st) h := q_in rfl rfl
theorem r136_40 : zR d 136 Q 40 lv (.ref 60 :: st) h = zR d 136 Q 43 lv (.int (h 60 12) :: st) h := (q_and rfl rfl).trans (zand_t rfl)
theorem r136_43 : zR d 136 Q 43 lv (.int z :: .int x :: st) h = if x = z then zR d 136 Q 50 lv st h else zR d 136 Q 46 lv st h := q_if rfl rfl
theorem r136_46 : zR d 136 Q 46 lv st h = zR d 136 Q 47 lv (.int 1 :: st) h := q_in rfl rfl
theorem r136_47 : zR d 136 Q 47 lv st h = zR d 136 Q 51 lv st h := q_in rfl rfl
theorem r136_50 : zR d 136 Q 50 lv st h = zR d 136 Q 51 lv (.int 0 :: st) h := q_in rfl rfl
theorem r136_51 : zR d 136 Q 51 (o0 :: o1 :: o2 :: o3 :: o4 :: l) (.int x :: st) h = zR d 136 Q 53 (o0 :: o1 :: o2 :: o3 :: some (.int x) :: l) st h := q_in rfl rfl
theorem r136_53 : zR d 136 Q 53 (o0 :: o1 :: o2 :: o3 :: some (.int x) :: l) st h = zR d 136 Q 55 (o0 :: o1 :: o2 :: o3 :: some (.int x) :: l) (.int x :: st) h := q_in rfl rfl
theorem r136_55 : zR d 136 Q 55 lv (.int x :: st) h = if x = 0 then zR d 136 Q 79 lv st h else zR d 136 Q 58 lv st h := q_if rfl rfl
theorem r136_58 : zR d 136 Q 58 (o0 :: o1 :: some (.int x) :: l) st h = zR d 136 Q 59 (o0 :: o1 :: some (.int x) :: l) (.int x :: st) h := q_in rfl rfl
theorem r136_59 : zR d 136 Q 59 lv (.int x :: st) h = if x < 0 then zR d 136 Q 75 lv st h else zR d 136 Q 62 lv st h := q_if rfl rfl
theorem r136_62 : zR d 136 Q 62 (some (.ref c) :: l) st h = zR d 136 Q 63 (some (.ref c) :: l) (.ref c :: st) h := q_in rfl rfl
theorem r136_63 : zR d 136 Q 63 (o0 :: o1 :: o2 :: some (.int x) :: l) st h = zR d 136 Q 64 (o0 :: o1 :: o2 :: some (.int x) :: l) (.int x :: st) h := q_in rfl rfl
theorem r136_64 : zR d 136 Q 64 lv [.int x0, .ref 60] h = zM d 122 [.ref 60, .int x0] h (fun r h' => zR d 136 Q 67 lv (r.toList ++ []) h') := (q_clV rfl rfl (Nat.le_of_ble_eq_true rfl)).trans (zand_t ⟨rfl, Nat.le_of_ble_eq_true rfl⟩)
theorem r136_67 : zR d 136 Q 67 (some (.ref c) :: l) st h = zR d 136 Q 68 (some (.ref c) :: l) (.ref c :: st) h := q_in rfl rfl
theorem r136_68 : zR d 136 Q 68 (o0 :: o1 :: some (.int x) :: l) st h = zR d 136 Q 69 (o0 :: o1 :: some (.int x) :: l) (.int x :: st) h := q_in rfl rfl
theorem r136_69 : zR d 136 Q 69 lv [.int x0, .ref 60, .int y0] h = zM d 122 [.ref 60, .int x0] h (fun r h' => zR d 136 Q 72 lv (r.toList ++ [.int y0]) h') := (q_clV rfl rfl (Nat.le_of_ble_eq_true rfl)).trans (zand_t ⟨rfl, Nat.le_of_ble_eq_true rfl⟩)
theorem r136_72 : zR d 136 Q 72 lv (.int z :: .int x :: st) h = if x ≤ z then zR d 136 Q 79 lv st h else zR d 136 Q 75 lv st h := q_if rfl rfl
theorem r136_75 : zR d 136 Q 75 (o0 :: o1 :: o2 :: some (.int x) :: l) st h = zR d 136 Q 76 (o0 :: o1 :: o2 :: some (.int x) :: l) (.int x :: st) h := q_in rfl rfl
theorem r136_76 : zR d 136 Q 76 lv st h = zR d 136 Q 80 lv st h := q_in rfl rfl
theorem r136_79 : zR d 136 Q 79 (o0 :: o1 :: some (.int x) :: l) st h = zR d 136 Q 80 (o0 :: o1 :: some (.int x) :: l) (.int x :: st) h := q_in rfl rfl
theorem r136_80 : zR d 136 Q 80 (o0 :: o1 :: o2 :: l) (.int x :: st) h = zR d 136 Q 81 (o0 :: o1 :: some (.int x) :: l) st h := q_in rfl rfl
theorem r136_81 : zR d 136 Q 81 (o0 :: o1 :: o2 :: some (.int x) :: l) st h = zR d 136 Q 84 (o0 :: o1 :: o2 :: some (.int (x + 1)) :: l) st h := q_in rfl rfl
theorem r136_84 : zR d 136 Q 84 lv st h = zR d 136 Q 4 lv st h := q_in rfl rfl
theorem r136_87 : zR d 136 Q 87 (o0 :: o1 :: some (.int x) :: l) st h = zR d 136 Q 88 (o0 :: o1 :: some (.int x) :: l) (.int x :: st) h := q_in rfl rfl
theorem r136_88 : zR d 136 Q 88 lv [.int x] h = Q (some (.int x)) h := q_retz rfl rfl (Or.inl rfl)
theorem r137_0 : zR d 137 Q 0 lv st h = zR d 137 Q 1 lv (.int 0 :: st) h := q_in rfl rfl
theorem r137_1 : zR d 137 Q 1 (o0 :: o1 :: l) (.int x :: st) h = zR d 137 Q 2 (o0 :: some (.int x) :: l) st h := q_in rfl rfl
theorem r137_2 : zR d 137 Q 2 lv st h = zR d 137 Q 3 lv (.int 0 :: st) h := q_in rfl rfl
theorem r137_3 : zR d 137 Q 3 (o0 :: o1 :: o2 :: l) (.int x :: st) h = zR d 137 Q 4 (o0 :: o1 :: some (.int x) :: l) st h := q_in rfl rfl
theorem r137_4 : zR d 137 Q 4 (some (.ref c) :: l) st h = zR d 137 Q 5 (some (.ref c) :: l) (.ref c :: st) h := q_in rfl rfl
theorem r137_5 : zR d 137 Q 5 lv (.ref 60 :: st) h = zR d 137 Q 8 lv (.ref 61 :: st) h := (q_and rfl rfl).trans (zand_t rfl)
theorem r137_8 : zR d 137 Q 8 lv st h = zR d 137 Q 10 lv (.int 8 :: st) h := q_in rfl rfl
theorem r137_10 : zR d 137 Q 10 lv (.int x :: .ref c :: st) h = zal c x h (fun w => zR d 137 Q 11 lv (.int w :: st) h) := q_iald rfl
theorem r137_11 : zR d 137 Q 11 (o0 :: o1 :: o2 :: o3 :: l) (.int x :: st) h = zR d 137 Q 12 (o0 :: o1 :: o2 :: some (.int x) :: l) st h := q_in rfl rfl
theorem r137_12 : zR d 137 Q 12 lv st h = zR d 137 Q 13 lv (.int 0 :: st) h := q_in rfl rfl
theorem r137_13 : zR d 137 Q 13 (o0 :: o1 :: o2 :: o3 :: o4 :: l) (.int x :: st) h = zR d 137 Q 15 (o0 :: o1 :: o2 :: o3 :: some (.int x) :: l) st h := q_in rfl rfl
theorem r137_15 : zR d 137 Q 15 (some (.ref c) :: l) st h = zR d 137 Q 16 (some (.ref c) :: l) (.ref c :: st) h := q_in rfl rfl
theorem r137_16 : zR d 137 Q 16 (o0 :: some (.int x) :: l) st h = zR d 137 Q 17 (o0 :: some (.int x) :: l) (.int x :: st) h := q_in rfl rfl
theorem r137_17 : zR d 137 Q 17 lv [.int x0, .ref 60] h = zM d 136 [.ref 60, .int x0] h (fun r h' => zR d 137 Q 20 lv (r.toList ++ []) h') := (q_clV rfl rfl (Nat.le_of_ble_eq_true rfl)).trans (zand_t ⟨rfl, Nat.le_of_ble_eq_true rfl⟩)
theorem r137_20 : zR d 137 Q 20 (o0 :: o1 :: o2 :: o3 :: o4 :: o5 :: l) (.int x :: st) h = zR d 137 Q 22 (o0 :: o1 :: o2 :: o3 :: o4 :: some (.int x) :: l) st h := q_in rfl rfl
theorem r137_22 : zR d 137 Q 22 (o0 :: o1 :: o2 :: o3 :: o4 :: some (.int x) :: l) st h = zR d 137 Q 24 (o0 :: o1 :: o2 :: o3 :: o4 :: some (.int x) :: l) (.int x :: st) h := q_in rfl rfl
theorem r137_24 : zR d 137 Q 24 lv (.int x :: st) h = if x < 0 then zR d 137 Q 106 lv st h else zR d 137 Q 27 lv st h := q_if rfl rfl
theorem r137_27 : zR d 137 Q 27 (o0 :: some (.int x) :: l) st h = zR d 137 Q 28 (o0 :: some (.int x) :: l) (.int x :: st) h := q_in rfl rfl
theorem r137_28 : zR d 137 Q 28 lv st h = zR d 137 Q 29 lv (.int 1 :: st) h := q_in rfl rfl
theorem r137_29 : zR d 137 Q 29 (o0 :: o1 :: o2 :: o3 :: o4 :: some (.int x) :: l) st h = zR d 137 Q 31 (o0 :: o1 :: o2 :: o3 :: o4 :: some (.int x) :: l) (.int x :: st) h := q_in rfl rfl
theorem r137_31 : zR d 137 Q 31 lv (.int z :: .int x :: st) h = zR d 137 Q 32 lv (.int (x <<< (z &&& 31)) :: st) h := q_in rfl rfl
theorem r137_32 : zR d 137 Q 32 lv (.int z :: .int x :: st) h = zR d 137 Q 33 lv (.int (x ||| z) :: st) h := q_in rfl rfl
theorem r137_33 : zR d 137 Q 33 (o0 :: o1 :: l) (.int x :: st) h = zR d 137 Q 34 (o0 :: some (.int x) :: l) st h := q_in rfl rfl
theorem r137_34 : zR d 137 Q 34 (some (.ref c) :: l) st h = zR d 137 Q 35 (some (.ref c) :: l) (.ref c :: st) h := q_in rfl rfl
theorem r137_35 : zR d 137 Q 35 (o0 :: o1 :: o2 :: o3 :: o4 :: some (.int x) :: l) st h = zR d 137 Q 37 (o0 :: o1 :: o2 :: o3 :: o4 :: some (.int x) :: l) (.int x :: st) h := q_in rfl rfl
theorem r137_37 : zR d 137 Q 37 lv [.int x0, .ref 60] h = zM d 121 [.ref 60, .int x0] h (fun r h' => zR d 137 Q 40 lv (r.toList ++ []) h') := (q_clV rfl rfl (Nat.le_of_ble_eq_true rfl)).trans (zand_t ⟨rfl, Nat.le_of_ble_eq_true rfl⟩)
theorem r137_40 : zR d 137 Q 40 (o0 :: o1 :: o2 :: some (.int x) :: l) st h = zR d 137 Q 41 (o0 :: o1 :: o2 :: some (.int x) :: l) (.int x :: st) h := q_in rfl rfl
theorem r137_41 : zR d 137 Q 41 lv (.int z :: .int x :: st) h = if x ≤ z then zR d 137 Q 44 lv st h else zR d 137 Q 96 lv st h := q_if rfl rfl
theorem r137_44 : zR d 137 Q 44 (some (.ref c) :: l) st h = zR d 137 Q 45 (some (.ref c) :: l) (.ref c :: st) h := q_in rfl rfl
theorem r137_45 : zR d 137 Q 45 (o0 :: o1 :: o2 :: o3 :: some (.int x) :: l) st h = zR d 137 Q 47 (o0 :: o1 :: o2 :: o3 :: some (.int x) :: l) (.int x :: st) h := q_in rfl rfl
theorem r137_47 : zR d 137 Q 47 (some (.ref c) :: l) st h = zR d 137 Q 48 (some (.ref c) :: l) (.ref c :: st) h := q_in rfl rfl
theorem r137_48 : zR d 137 Q 48 (o0 :: o1 :: o2 :: o3 :: o4 :: some (.int x) :: l) st h = zR d 137 Q 50 (o0 :: o1 :: o2 :: o3 :: o4 :: some (.int x) :: l) (.int x :: st) h := q_in rfl rfl
theorem r137_50 : zR d 137 Q 50 lv st h = zR d 137 Q 51 lv (.int 1 :: st) h := q_in rfl rfl
theorem r137_51 : zR d 137 Q 51 lv [.int x1, .int x0, .ref 60, .int y0, .ref a1] h = zM d 113 [.ref 60, .int x0, .int x1] h (fun r h' => zR d 137 Q 54 lv (r.toList ++ [.int y0, .ref a1]) h') := (q_clV rfl rfl (Nat.le_of_ble_eq_true rfl)).trans (zand_t ⟨rfl, Nat.le_of_ble_eq_true rfl⟩)
theorem r137_54 : zR d 137 Q 54 lv (.int z :: .int x :: st) h = zR d 137 Q 55 lv (.int (x + z) :: st) h := q_in rfl rfl
theorem r137_55 : zR d 137 Q 55 lv [.int x0, .ref 60] h = zM d 134 [.ref 60, .int x0] h (fun r h' => zR d 137 Q 58 lv (r.toList ++ []) h') := (q_clV rfl rfl (Nat.le_of_ble_eq_true rfl)).trans (zand_t ⟨rfl, Nat.le_of_ble_eq_true rfl⟩)
theorem r137_58 : zR d 137 Q 58 (some (.ref c) :: l) st h = zR d 137 Q 59 (some (.ref c) :: l) (.ref c :: st) h := q_in rfl rfl
theorem r137_59 : zR d 137 Q 59 lv (.ref 60 :: st) h = zR d 137 Q 62 lv (.ref 61 :: st) h := (q_and rfl rfl).trans (zand_t rfl)
theorem r137_62 : zR d 137 Q 62 lv st h = zR d 137 Q 64 lv (.int 10 :: st) h := q_in rfl rfl
theorem r137_64 : zR d 137 Q 64 lv (.int x :: .ref c :: st) h = zal c x h (fun w => zR d 137 Q 65 lv (.int w :: st) h) := q_iald rfl
theorem r137_65 : zR d 137 Q 65 lv (.int z :: .int x :: st) h = if x ≤ z then zR d 137 Q 68 lv st h else zR d 137 Q 96 lv st h := q_if rfl rfl
theorem r137_68 : zR d 137 Q 68 (o0 :: o1 :: some (.int x) :: l) st h = zR d 137 Q 69 (o0 :: o1 :: some (.int x) :: l) (.int x :: st) h := q_in rfl rfl
theorem r137_69 : zR d 137 Q 69 lv st h = zR d 137 Q 70 lv (.int 1 :: st) h := q_in rfl rfl
theorem r137_70 : zR d 137 Q 70 (o0 :: o1 :: o2 :: o3 :: o4 :: some (.int x) :: l) st h = zR d 137 Q 72 (o0 :: o1 :: o2 :: o3 :: o4 :: some (.int x) :: l) (.int x :: st) h := q_in rfl rfl
theorem r137_72 : zR d 137 Q 72 lv (.int z :: .int x :: st) h = zR d 137 Q 73 lv (.int (x <<< (z &&& 31)) :: st) h := q_in rfl rfl
theorem r137_73 : zR d 137 Q 73 lv (.int z :: .int x :: st) h = zR d 137 Q 74 lv (.int (x ||| z) :: st) h := q_in rfl rfl
theorem r137_74 : zR d 137 Q 74 (o0 :: o1 :: o2 :: l) (.int x :: st) h = zR d 137 Q 75 (o0 :: o1 :: some (.int x) :: l) st h := q_in rfl rfl
theorem r137_75 : zR d 137 Q 75 (o0 :: o1 :: o2 :: some (.int x) :: l) st h = zR d 137 Q 76 (o0 :: o1 :: o2 :: some (.int x) :: l) (.int x :: st) h := q_in rfl rfl
theorem r137_76 : zR d 137 Q 76 (some (.ref c) :: l) st h = zR d 137 Q 77 (some (.ref c) :: l) (.ref c :: st) h := q_in rfl rfl
theorem r137_77 : zR d 137 Q 77 (o0 :: o1 :: o2 :: o3 :: o4 :: some (.int x) :: l) st h = zR d 137 Q 79 (o0 :: o1 :: o2 :: o3 :: o4 :: some (.int x) :: l) (.int x :: st) h := q_in rfl rfl
theorem r137_79 : zR d 137 Q 79 lv [.int x0, .ref 60, .int y0] h = zM d 121 [.ref 60, .int x0] h (fun r h' => zR d 137 Q 82 lv (r.toList ++ [.int y0]) h') := (q_clV rfl rfl (Nat.le_of_ble_eq_true rfl)).trans (zand_t ⟨rfl, Nat.le_of_ble_eq_true rfl⟩)
theorem r137_82 : zR d 137 Q 82 lv (.int z :: .int x :: st) h = zR d 137 Q 83 lv (.int (x - z) :: st) h := q_in rfl rfl
theorem r137_83 : zR d 137 Q 83 (o0 :: o1 :: o2 :: o3 :: l) (.int x :: st) h = zR d 137 Q 84 (o0 :: o1 :: o2 :: some (.int x) :: l) st h := q_in rfl rfl
theorem r137_84 : zR d 137 Q 84 (o0 :: o1 :: o2 :: o3 :: some (.int x) :: l) st h = zR d 137 Q 86 (o0 :: o1 :: o2 :: o3 :: some (.int x) :: l) (.int x :: st) h := q_in rfl rfl
theorem r137_86 : zR d 137 Q 86 (some (.ref c) :: l) st h = zR d 137 Q 87 (some (.ref c) :: l) (.ref c :: st) h := q_in rfl rfl
theorem r137_87 : zR d 137 Q 87 (o0 :: o1 :: o2 :: o3 :: o4 :: some (.int x) :: l) st h = zR d 137 Q 89 (o0 :: o1 :: o2 :: o3 :: o4 :: some (.int x) :: l) (.int x :: st) h := q_in rfl rfl
theorem r137_89 : zR d 137 Q 89 lv st h = zR d 137 Q 90 lv (.int 1 :: st) h := q_in rfl rfl
theorem r137_90 : zR d 137 Q 90 lv [.int x1, .int x0, .ref 60, .int y0] h = zM d 113 [.ref 60, .int x0, .int x1] h (fun r h' => zR d 137 Q 93 lv (r.toList ++ [.int y0]) h') := (q_clV rfl rfl (Nat.le_of_ble_eq_true rfl)).trans (zand_t ⟨rfl, Nat.le_of_ble_eq_true rfl⟩)
theorem r137_93 : zR d 137 Q 93 lv (.int z :: .int x :: st) h = zR d 137 Q 94 lv (.int (x + z) :: st) h := q_in rfl rfl
theorem r137_94 : zR d 137 Q 94 (o0 :: o1 :: o2 :: o3 :: o4 :: l) (.int x :: st) h = zR d 137 Q 96 (o0 :: o1 :: o2 :: o3 :: some (.int x) :: l) st h := q_in rfl rfl
theorem r137_96 : zR d 137 Q 96 (some (.ref c) :: l) st h = zR d 137 Q 97 (some (.ref c) :: l) (.ref c :: st) h := q_in rfl rfl
theorem r137_97 : zR d 137 Q 97 (o0 :: some (.int x) :: l) st h = zR d 137 Q 98 (o0 :: some (.int x) :: l) (.int x :: st) h := q_in rfl rfl
theorem r137_98 : zR d 137 Q 98 lv [.int x0, .ref 60] h = zM d 136 [.ref 60, .int x0] h (fun r h' => zR d 137 Q 101 lv (r.toList ++ []) h') := (q_clV rfl rfl (Nat.le_of_ble_eq_true rfl)).trans (zand_t ⟨rfl, Nat.le_of_ble_eq_true rfl⟩)
theorem r137_101 : zR d 137 Q 101 (o0 :: o1 :: o2 :: o3 :: o4 :: o5 :: l) (.int x :: st) h = zR d 137 Q 103 (o0 :: o1 :: o2 :: o3 :: o4 :: some (.int x) :: l) st h := q_in rfl rfl
theorem r137_103 : zR d 137 Q 103 lv st h = zR d 137 Q 22 lv st h := q_in rfl rfl
theorem r137_106 : zR d 137 Q 106 (o0 :: o1 :: some (.int x) :: l) st h = zR d 137 Q 107 (o0 :: o1 :: some (.int x) :: l) (.int x :: st) h := q_in rfl rfl
theorem r137_107 : zR d 137 Q 107 lv [.int x] h = Q (some (.int x)) h := q_retz rfl rfl (Or.inl rfl)
theorem r138_0 : zR d 138 Q 0 (some (.ref c) :: l) st h = zR d 138 Q 1 (some (.ref c) :: l) (.ref c :: st) h := q_in rfl rfl
theorem r138_1 : zR d 138 Q 1 lv [.ref 60] h = zM d 137 [.ref 60] h (fun r h' => zR d 138 Q 4 lv (r.toList ++ []) h') := (q_clV rfl rfl (Nat.le_of_ble_eq_true rfl)).trans (zand_t ⟨rfl, Nat.le_of_ble_eq_true rfl⟩)
theorem r138_4 : zR d 138 Q 4 lv [.int x] h = Q (some (.int x)) h := q_retz rfl rfl (Or.inl rfl)
theorem r139_0 : zR d 139 Q 0 (o0 :: some (.int x) :: l) st h = zR d 139 Q 1 (o0 :: some (.int x) :: l) (.int x :: st) h := q_in rfl rfl
theorem r139_1 : zR d 139 Q 1 lv (.int x :: st) h = zR d 139 Q 2 lv (.long x.toInt64 :: st) h := q_in rfl rfl
theorem r139_2 : zR d 139 Q 2 lv st h = zR d 139 Q 3 lv (.long (Int32.toInt64 1) :: st) h := q_in rfl rfl
theorem r139_3 : zR d 139 Q 3 lv st h = zR d 139 Q 6 lv (.long (Int32.toInt64 10) :: st) h := q_in rfl rfl
theorem r139_6 : zR d 139 Q 6 lv [.long j2, .long j1, .long j0] h = zM d 106 [.long j0, .long j1, .long j2] h (fun r h' => zR d 139 Q 9 lv (r.toList ++ []) h') := q_clS rfl rfl ⟨Nat.le_of_ble_eq_true rfl, Nat.le_of_ble_eq_true rfl⟩
theorem r139_9 : zR d 139 Q 9 lv (.int x :: st) h = if x = 0 then zR d 139 Q 12 lv st h else zR d 139 Q 15 lv st h := q_if rfl rfl
theorem r139_12 : zR d 139 Q 12 lv st h = zR d 139 Q 14 lv (.int (-1000000001) :: st) h := q_in rfl rfl
theorem r139_14 : zR d 139 Q 14 lv [.int x] h = Q (some (.int x)) h := q_retz rfl rfl (Or.inl rfl)
theorem r139_15 : zR d 139 Q 15 lv st h = zR d 139 Q 16 lv (.int 0 :: st) h := q_in rfl rfl
theorem r139_16 : zR d 139 Q 16 (o0 :: o1 :: o2 :: l) (.int x :: st) h = zR d 139 Q 17 (o0 :: o1 :: some (.int x) :: l) st h := q_in rfl rfl
theorem r139_17 : zR d 139 Q 17 (o0 :: o1 :: some (.int x) :: l) st h = zR d 139 Q 18 (o0 :: o1 :: some (.int x) :: l) (.int x :: st) h := q_in rfl rfl
theorem r139_18 : zR d 139 Q 18 (o0 :: some (.int x) :: l) st h = zR d 139 Q 19 (o0 :: some (.int x) :: l) (.int x :: st) h := q_in rfl rfl
theorem r139_19 : zR d 139 Q 19 lv (.int z :: .int x :: st) h = if x < z then zR d 139 Q 22 lv st h else zR d 139 Q 71 lv st h := q_if rfl rfl
theorem r139_22 : zR d 139 Q 22 (some (.ref c) :: l) st h = zR d 139 Q 23 (some (.ref c) :: l) (.ref c :: st) h := q_in rfl rfl
theorem r139_23 : zR d 139 Q 23 lv (.ref 60 :: st) h = zR d 139 Q 26 lv (.ref 61 :: st) h := (q_and rfl rfl).trans (zand_t rfl)
theorem r139_26 : zR d 139 Q 26 lv st h = zR d 139 Q 27 lv (.int 0 :: st) h := q_in rfl rfl
theorem r139_27 : zR d 139 Q 27 lv (.int x :: .ref c :: st) h = zal c x h (fun w => zR d 139 Q 28 lv (.int w :: st) h) := q_iald rfl
theorem r139_28 : zR d 139 Q 28 lv st h = zR d 139 Q 30 lv (.int 10 :: st) h := q_in rfl rfl
theorem r139_30 : zR d 139 Q 30 lv (.int z :: .int x :: st) h = if x < z then zR d 139 Q 33 lv st h else zR d 139 Q 71 lv st h := q_if rfl rfl
theorem r139_33 : zR d 139 Q 33 (some (.ref c) :: l) st h = zR d 139 Q 34 (some (.ref c) :: l) (.ref c :: st) h := q_in rfl rfl
theorem r139_34 : zR d 139 Q 34 lv [.ref 60] h = zM d 117 [.ref 60] h (fun r h' => zR d 139 Q 37 lv (r.toList ++ []) h') := (q_clV rfl rfl (Nat.le_of_ble_eq_true rfl)).trans (zand_t ⟨rfl, Nat.le_of_ble_eq_true rfl⟩)
theorem r139_37 : zR d 139 Q 37 lv st h = zR d 139 Q 39 lv (.int 6 :: st) h := q_in rfl rfl
theorem r139_39 : zR d 139 Q 39 lv (.int 6 :: .int x :: st) h = zR d 139 Q 40 lv (.int (x - x / 6 * 6) :: st) h := (q_and rfl rfl).trans (zand_t (by decide))
theorem r139_40 : zR d 139 Q 40 (o0 :: o1 :: o2 :: o3 :: l) (.int x :: st) h = zR d 139 Q 41 (o0 :: o1 :: o2 :: some (.int x) :: l) st h := q_in rfl rfl
theorem r139_41 : zR d 139 Q 41 lv st h = zR d 139 Q 42 lv (.int 1 :: st) h := q_in rfl rfl
theorem r139_42 : zR d 139 Q 42 (some (.ref c) :: l) st h = zR d 139 Q 43 (some (.ref c) :: l) (.ref c :: st) h := q_in rfl rfl
theorem r139_43 : zR d 139 Q 43 lv [.ref 60, .int y0] h = zM d 117 [.ref 60] h (fun r h' => zR d 139 Q 46 lv (r.toList ++ [.int y0]) h') := (q_clV rfl rfl (Nat.le_of_ble_eq_true rfl)).trans (zand_t ⟨rfl, Nat.le_of_ble_eq_true rfl⟩)
theorem r139_46 : zR d 139 Q 46 lv st h = zR d 139 Q 48 lv (.int 60 :: st) h := q_in rfl rfl
theorem r139_48 : zR d 139 Q 48 lv (.int 60 :: .int x :: st) h = zR d 139 Q 49 lv (.int (x - x / 60 * 60) :: st) h := (q_and rfl rfl).trans (zand_t (by decide))
theorem r139_49 : zR d 139 Q 49 lv (.int z :: .int x :: st) h = zR d 139 Q 50 lv (.int (x + z) :: st) h := q_in rfl rfl
theorem r139_50 : zR d 139 Q 50 (o0 :: o1 :: o2 :: o3 :: o4 :: l) (.int x :: st) h = zR d 139 Q 52 (o0 :: o1 :: o2 :: o3 :: some (.int x) :: l) st h := q_in rfl rfl
theorem r139_52 : zR d 139 Q 52 (some (.ref c) :: l) st h = zR d 139 Q 53 (some (.ref c) :: l) (.ref c :: st) h := q_in rfl rfl
theorem r139_53 : zR d 139 Q 53 (o0 :: o1 :: o2 :: some (.int x) :: l) st h = zR d 139 Q 54 (o0 :: o1 :: o2 :: some (.int x) :: l) (.int x :: st) h := q_in rfl rfl
theorem r139_54 : zR d 139 Q 54 (o0 :: o1 :: o2 :: o3 :: some (.int x) :: l) st h = zR d 139 Q 56 (o0 :: o1 :: o2 :: o3 :: some (.int x) :: l) (.int x :: st) h := q_in rfl rfl
theorem r139_56 : zR d 139 Q 56 (some (.ref c) :: l) st h = zR d 139 Q 57 (some (.ref c) :: l) (.ref c :: st) h := q_in rfl rfl
theorem r139_57 : zR d 139 Q 57 lv [.ref 60, .int y0, .int y1, .ref a2] h = zM d 117 [.ref 60] h (fun r h' => zR d 139 Q 60 lv (r.toList ++ [.int y0, .int y1, .ref a2]) h') := (q_clV rfl rfl (Nat.le_of_ble_eq_true rfl)).trans (zand_t ⟨rfl, Nat.le_of_ble_eq_true rfl⟩)
theorem r139_60 : zR d 139 Q 60 lv st h = zR d 139 Q 61 lv (.int 2 :: st) h := q_in rfl rfl
theorem r139_61 : zR d 139 Q 61 lv (.int 2 :: .int x :: st) h = zR d 139 Q 62 lv (.int (x - x / 2 * 2) :: st) h := (q_and rfl rfl).trans (zand_t (by decide))
theorem r139_62 : zR d 139 Q 62 lv [.int x2, .int x1, .int x0, .ref 60] h = zM d 118 [.ref 60, .int x0, .int x1, .int x2] h (fun r h' => zR d 139 Q 65 lv (r.toList ++ []) h') := (q_clV rfl rfl (Nat.le_of_ble_eq_true rfl)).trans (zand_t ⟨rfl, Nat.le_of_ble_eq_true rfl⟩)
theorem r139_65 : zR d 139 Q 65 (o0 :: o1 :: some (.int x) :: l) st h = zR d 139 Q 68 (o0 :: o1 :: some (.int (x + 1)) :: l) st h := q_in rfl rfl
theorem r139_68 : zR d 139 Q 68 lv st h = zR d 139 Q 17 lv st h := q_in rfl rfl
theorem r139_71 : zR d 139 Q 71 (o0 :: o1 :: some (.int x) :: l) st h = zR d 139 Q 72 (o0 :: o1 :: some (.int x) :: l) (.int x :: st) h := q_in rfl rfl
theorem r139_72 : zR d 139 Q 72 lv [.int x] h = Q (some (.int x)) h := q_retz rfl rfl (Or.inl rfl)
theorem r140_0 : zR d 140 Q 0 (some (.ref c) :: l) st h = zR d 140 Q 1 (some (.ref c) :: l) (.ref c :: st) h := q_in rfl rfl
theorem r140_1 : zR d 140 Q 1 lv st h = zR d 140 Q 2 lv (.int 5 :: st) h := q_in rfl rfl
theorem r140_2 : zR d 140 Q 2 (o0 :: some (.int x) :: l) st h = zR d 140 Q 3 (o0 :: some (.int x) :: l) (.int x :: st) h := q_in rfl rfl
theorem r140_3 : zR d 140 Q 3 lv [.int x1, .int x0, .ref 60] h = zM d 111 [.ref 60, .int x0, .int x1] h (fun r h' => zR d 140 Q 6 lv (r.toList ++ []) h') := (q_clV rfl rfl (Nat.le_of_ble_eq_true rfl)).trans (zand_t ⟨rfl, Nat.le_of_ble_eq_true rfl⟩)
theorem r140_6 : zR d 140 Q 6 lv [.int x] h = Q (some (.int x)) h := q_retz rfl rfl (Or.inl rfl)
theorem r141_0 : zR d 141 Q 0 lv st h = zR d 141 Q 1 lv (.int 0 :: st) h := q_in rfl rfl
theorem r141_1 : zR d 141 Q 1 (o0 :: o1 :: o2 :: l) (.int x :: st) h = zR d 141 Q 2 (o0 :: o1 :: some (.int x) :: l) st h := q_in rfl rfl
theorem r141_2 : zR d 141 Q 2 lv st h = zR d 141 Q 3 lv (.int 0 :: st) h := q_in rfl rfl
theorem r141_3 : zR d 141 Q 3 (o0 :: o1 :: o2 :: o3 :: l) (.int x :: st) h = zR d 141 Q 4 (o0 :: o1 :: o2 :: some (.int x) :: l) st h := q_in rfl rfl
theorem r141_4 : zR d 141 Q 4 (o0 :: o1 :: o2 :: some (.int x) :: l) st h = zR d 141 Q 5 (o0 :: o1 :: o2 :: some (.int x) :: l) (.int x :: st) h := q_in rfl rfl
theorem r141_5 : zR d 141 Q 5 (some (.ref c) :: l) st h = zR d 141 Q 6 (some (.ref c) :: l) (.ref c :: st) h := q_in rfl rfl
theorem r141_6 : zR d 141 Q 6 lv (.ref 60 :: st) h = zR d 141 Q 9 lv (.ref 61 :: st) h := (q_and rfl rfl).trans (zand_t rfl)
theorem r141_9 : zR d 141 Q 9 lv st h = zR d 141 Q 10 lv (.int 0 :: st) h := q_in rfl rfl
theorem r141_10 : zR d 141 Q 10 lv (.int x :: .ref c :: st) h = zal c x h (fun w => zR d 141 Q 11 lv (.int w :: st) h) := q_iald rfl
theorem r141_11 : zR d 141 Q 11 lv (.int z :: .int x :: st) h = if x < z then zR d 141 Q 14 lv st h else zR d 141 Q 38 lv st h := q_if rfl rfl
theorem r141_14 : zR d 141 Q 14 (o0 :: o1 :: some (.int x) :: l) st h = zR d 141 Q 15 (o0 :: o1 :: some (.int x) :: l) (.int x :: st) h := q_in rfl rfl
theorem r141_15 : zR d 141 Q 15 (some (.ref c) :: l) st h = zR d 141 Q 16 (some (.ref c) :: l) (.ref c :: st) h := q_in rfl rfl
theorem r141_16 : zR d 141 Q 16 (o0 :: o1 :: o2 :: some (.int x) :: l) st h = zR d 141 Q 17 (o0 :: o1 :: o2 :: some (.int x) :: l) (.int x :: st) h := q_in rfl rfl
theorem r141_17 : zR d 141 Q 17 lv st h = zR d 141 Q 18 lv (.int 2 :: st) h := q_in rfl rfl
theorem r141_18 : zR d 141 Q 18 lv [.int x1, .int x0, .ref 60, .int y0] h = zM d 113 [.ref 60, .int x0, .int x1] h (fun r h' => zR d 141 Q 21 lv (r.toList ++ [.int y0]) h') := (q_clV rfl rfl (Nat.le_of_ble_eq_true rfl)).trans (zand_t ⟨rfl, Nat.le_of_ble_eq_true rfl⟩)
theorem r141_21 : zR d 141 Q 21 (o0 :: some (.int x) :: l) st h = zR d 141 Q 22 (o0 :: some (.int x) :: l) (.int x :: st) h := q_in rfl rfl
theorem r141_22 : zR d 141 Q 22 lv (.int z :: .int x :: st) h = if x = z then zR d 141 Q 25 lv st h else zR d 141 Q 29 lv st h := q_if rfl rfl
theorem r141_25 : zR d 141 Q 25 lv st h = zR d 141 Q 26 lv (.int 1 :: st) h := q_in rfl rfl
theorem r141_26 : zR d 141 Q 26 lv st h = zR d 141 Q 30 lv st h := q_in rfl rfl
theorem r141_29 : zR d 141 Q 29 lv st h = zR d 141 Q 30 lv (.int 0 :: st) h := q_in rfl rfl
theorem r141_30 : zR d 141 Q 30 lv (.int z :: .int x :: st) h = zR d 141 Q 31 lv (.int (x + z) :: st) h := q_in rfl rfl
theorem r141_31 : zR d 141 Q 31 (o0 :: o1 :: o2 :: l) (.int x :: st) h = zR d 141 Q 32 (o0 :: o1 :: some (.int x) :: l) st h := q_in rfl rfl
theorem r141_32 : zR d 141 Q 32 (o0 :: o1 :: o2 :: some (.int x) :: l) st h = zR d 141 Q 35 (o0 :: o1 :: o2 :: some (.int (x + 1)) :: l) st h := q_in rfl rfl
theorem r141_35 : zR d 141 Q 35 lv st h = zR d 141 Q 4 lv st h := q_in rfl rfl
theorem r141_38 : zR d 141 Q 38 (o0 :: o1 :: some (.int x) :: l) st h = zR d 141 Q 39 (o0 :: o1 :: some (.int x) :: l) (.int x :: st) h := q_in rfl rfl
theorem r141_39 : zR d 141 Q 39 lv [.int x] h = Q (some (.int x)) h := q_retz rfl rfl (Or.inl rfl)
theorem r142_0 : zR d 142 Q 0 lv st h = zR d 142 Q 1 lv (.int 0 :: st) h := q_in rfl rfl
theorem r142_1 : zR d 142 Q 1 (o0 :: o1 :: o2 :: l) (.int x :: st) h = zR d 142 Q 2 (o0 :: o1 :: some (.int x) :: l) st h := q_in rfl rfl
theorem r142_2 : zR d 142 Q 2 (o0 :: o1 :: some (.int x) :: l) st h = zR d 142 Q 3 (o0 :: o1 :: some (.int x) :: l) (.int x :: st) h := q_in rfl rfl
theorem r142_3 : zR d 142 Q 3 (some (.ref c) :: l) st h = zR d 142 Q 4 (some (.ref c) :: l) (.ref c :: st) h := q_in rfl rfl
theorem r142_4 : zR d 142 Q 4 lv (.ref 60 :: st) h = zR d 142 Q 7 lv (.ref 61 :: st) h := (q_and rfl rfl).trans (zand_t rfl)
theorem r142_7 : zR d 142 Q 7 lv st h = zR d 142 Q 8 lv (.int 0 :: st) h := q_in rfl rfl
theorem r142_8 : zR d 142 Q 8 lv (.int x :: .ref c :: st) h = zal c x h (fun w => zR d 142 Q 9 lv (.int w :: st) h) := q_iald rfl
theorem r142_9 : zR d 142 Q 9 lv (.int z :: .int x :: st) h = if x < z then zR d 142 Q 12 lv st h else zR d 142 Q 40 lv st h := q_if rfl rfl
theorem r142_12 : zR d 142 Q 12 (some (.ref c) :: l) st h = zR d 142 Q 13 (some (.ref c) :: l) (.ref c :: st) h := q_in rfl rfl
theorem r142_13 : zR d 142 Q 13 (o0 :: o1 :: some (.int x) :: l) st h = zR d 142 Q 14 (o0 :: o1 :: some (.int x) :: l) (.int x :: st) h := q_in rfl rfl
theorem r142_14 : zR d 142 Q 14 lv st h = zR d 142 Q 15 lv (.int 2 :: st) h := q_in rfl rfl
theorem r142_15 : zR d 142 Q 15 lv [.int x1, .int x0, .ref 60] h = zM d 113 [.ref 60, .int x0, .int x1] h (fun r h' => zR d 142 Q 18 lv (r.toList ++ []) h') := (q_clV rfl rfl (Nat.le_of_ble_eq_true rfl)).trans (zand_t ⟨rfl, Nat.le_of_ble_eq_true rfl⟩)
theorem r142_18 : zR d 142 Q 18 (o0 :: some (.int x) :: l) st h = zR d 142 Q 19 (o0 :: some (.int x) :: l) (.int x :: st) h := q_in rfl rfl
theorem r142_19 : zR d 142 Q 19 lv (.int z :: .int x :: st) h = if x = z then zR d 142 Q 22 lv st h else zR d 142 Q 34 lv st h := q_if rfl rfl
theorem r142_22 : zR d 142 Q 22 (some (.ref c) :: l) st h = zR d 142 Q 23 (some (.ref c) :: l) (.ref c :: st) h := q_in rfl rfl
theorem r142_23 : zR d 142 Q 23 (o0 :: o1 :: some (.int x) :: l) st h = zR d 142 Q 24 (o0 :: o1 :: some (.int x) :: l) (.int x :: st) h := q_in rfl rfl
theorem r142_24 : zR d 142 Q 24 lv st h = zR d 142 Q 25 lv (.int 0 :: st) h := q_in rfl rfl
theorem r142_25 : zR d 142 Q 25 lv [.int x1, .int x0, .ref 60] h = zM d 113 [.ref 60, .int x0, .int x1] h (fun r h' => zR d 142 Q 28 lv (r.toList ++ []) h') := (q_clV rfl rfl (Nat.le_of_ble_eq_true rfl)).trans (zand_t ⟨rfl, Nat.le_of_ble_eq_true rfl⟩)
theorem r142_28 : zR d 142 Q 28 lv st h = zR d 142 Q 29 lv (.int 5 :: st) h := q_in rfl rfl
theorem r142_29 : zR d 142 Q 29 lv (.int z :: .int x :: st) h = if x = z then zR d 142 Q 32 lv st h else zR d 142 Q 34 lv st h := q_if rfl rfl
theorem r142_32 : zR d 142 Q 32 lv st h = zR d 142 Q 33 lv (.int 1 :: st) h := q_in rfl rfl
theorem r142_33f : zR d 142 Q 33 lv [.int 0] h = Q (some (.int 0)) h := q_retz rfl rfl (Or.inr (Or.inl rfl))
theorem r142_33t : zR d 142 Q 33 lv [.int 1] h = Q (some (.int 1)) h := q_retz rfl rfl (Or.inr (Or.inr rfl))
theorem r142_34 : zR d 142 Q 34 (o0 :: o1 :: some (.int x) :: l) st h = zR d 142 Q 37 (o0 :: o1 :: some (.int (x + 1)) :: l) st h := q_in rfl rfl
theorem r142_37 : zR d 142 Q 37 lv st h = zR d 142 Q 2 lv st h := q_in rfl rfl
theorem r142_40 : zR d 142 Q 40 lv st h = zR d 142 Q 41 lv (.int 0 :: st) h := q_in rfl rfl
theorem r142_41f : zR d 142 Q 41 lv [.int 0] h = Q (some (.int 0)) h := q_retz rfl rfl (Or.inr (Or.inl rfl))
theorem r142_41t : zR d 142 Q 41 lv [.int 1] h = Q (some (.int 1)) h := q_retz rfl rfl (Or.inr (Or.inr rfl))
theorem r143_0 : zR d 143 Q 0 (some (.ref c) :: l) st h = zR d 143 Q 1 (some (.ref c) :: l) (.ref c :: st) h := q_in rfl rfl
theorem r143_1 : zR d 143 Q 1 lv st h = zR d 143 Q 2 lv (.int 0 :: st) h := q_in rfl rfl
theorem r143_2 : zR d 143 Q 2 lv [.int x0, .ref 60] h = zM d 134 [.ref 60, .int x0] h (fun r h' => zR d 143 Q 5 lv (r.toList ++ []) h') := (q_clV rfl rfl (Nat.le_of_ble_eq_true rfl)).trans (zand_t ⟨rfl, Nat.le_of_ble_eq_true rfl⟩)
theorem r143_5 : zR d 143 Q 5 (some (.ref c) :: l) st h = zR d 143 Q 6 (some (.ref c) :: l) (.ref c :: st) h := q_in rfl rfl
theorem r143_6 : zR d 143 Q 6 lv (.ref 60 :: st) h = zR d 143 Q 9 lv (.ref 61 :: st) h := (q_and rfl rfl).trans (zand_t rfl)
theorem r143_9 : zR d 143 Q 9 lv st h = zR d 143 Q 11 lv (.int 10 :: st) h := q_in rfl rfl
theorem r143_11 : zR d 143 Q 11 lv (.int x :: .ref c :: st) h = zal c x h (fun w => zR d 143 Q 12 lv (.int w :: st) h) := q_iald rfl
theorem r143_12 : zR d 143 Q 12 lv (.int z :: .int x :: st) h = if x ≤ z then zR d 143 Q 18 lv st h else zR d 143 Q 15 lv st h := q_if rfl rfl
theorem r143_15 : zR d 143 Q 15 lv st h = zR d 143 Q 17 lv (.int 10 :: st) h := q_in rfl rfl
theorem r143_17 : zR d 143 Q 17 lv [.int x] h = Q (some (.int x)) h := q_retz rfl rfl (Or.inl rfl)
theorem r143_18 : zR d 143 Q 18 (some (.ref c) :: l) st h = zR d 143 Q 19 (some (.ref c) :: l) (.ref c :: st) h := q_in rfl rfl
theorem r143_19 : zR d 143 Q 19 (some (.ref c) :: l) st h = zR d 143 Q 20 (some (.ref c) :: l) (.ref c :: st) h := q_in rfl rfl
theorem r143_20 : zR d 143 Q 20 lv (.ref 60 :: st) h = zR d 143 Q 23 lv (.ref 61 :: st) h := (q_and rfl rfl).trans (zand_t rfl)
theorem r143_23 : zR d 143 Q 23 lv st h = zR d 143 Q 25 lv (.int 6 :: st) h := q_in rfl rfl
theorem r143_25 : zR d 143 Q 25 lv (.int x :: .ref c :: st) h = zal c x h (fun w => zR d 143 Q 26 lv (.int w :: st) h) := q_iald rfl
theorem r143_26 : zR d 143 Q 26 lv [.int x0, .ref 60] h = zM d 141 [.ref 60, .int x0] h (fun r h' => zR d 143 Q 29 lv (r.toList ++ []) h') := (q_clV rfl rfl (Nat.le_of_ble_eq_true rfl)).trans (zand_t ⟨rfl, Nat.le_of_ble_eq_true rfl⟩)
theorem r143_29 : zR d 143 Q 29 (o0 :: o1 :: l) (.int x :: st) h = zR d 143 Q 30 (o0 :: some (.int x) :: l) st h := q_in rfl rfl
theorem r143_30 : zR d 143 Q 30 (o0 :: some (.int x) :: l) st h = zR d 143 Q 31 (o0 :: some (.int x) :: l) (.int x :: st) h := q_in rfl rfl
theorem r143_31 : zR d 143 Q 31 (some (.ref c) :: l) st h = zR d 143 Q 32 (some (.ref c) :: l) (.ref c :: st) h := q_in rfl rfl
theorem r143_32 : zR d 143 Q 32 lv (.ref 60 :: st) h = zR d 143 Q 35 lv (.ref 61 :: st) h := (q_and rfl rfl).trans (zand_t rfl)
theorem r143_35 : zR d 143 Q 35 lv st h = zR d 143 Q 37 lv (.int 11 :: st) h := q_in rfl rfl
theorem r143_37 : zR d 143 Q 37 lv (.int x :: .ref c :: st) h = zal c x h (fun w => zR d 143 Q 38 lv (.int w :: st) h) := q_iald rfl
theorem r143_38 : zR d 143 Q 38 lv (.int z :: .int x :: st) h = if x < z then zR d 143 Q 41 lv st h else zR d 143 Q 55 lv st h := q_if rfl rfl
theorem r143_41 : zR d 143 Q 41 (some (.ref c) :: l) st h = zR d 143 Q 42 (some (.ref c) :: l) (.ref c :: st) h := q_in rfl rfl
theorem r143_42 : zR d 143 Q 42 (some (.ref c) :: l) st h = zR d 143 Q 43 (some (.ref c) :: l) (.ref c :: st) h := q_in rfl rfl
theorem r143_43 : zR d 143 Q 43 lv (.ref 60 :: st) h = zR d 143 Q 46 lv (.ref 61 :: st) h := (q_and rfl rfl).trans (zand_t rfl)
theorem r143_46 : zR d 143 Q 46 lv st h = zR d 143 Q 48 lv (.int 6 :: st) h := q_in rfl rfl
theorem r143_48 : zR d 143 Q 48 lv (.int x :: .ref c :: st) h = zal c x h (fun w => zR d 143 Q 49 lv (.int w :: st) h) := q_iald rfl
theorem r143_49 : zR d 143 Q 49 lv [.int x0, .ref 60] h = zM d 142 [.ref 60, .int x0] h (fun r h' => zR d 143 Q 52 lv (r.toList ++ []) h') := (q_clV rfl rfl (Nat.le_of_ble_eq_true rfl)).trans (zand_t ⟨rfl, Nat.le_of_ble_eq_true rfl⟩)
theorem r143_52 : zR d 143 Q 52 lv (.int x :: st) h = if x = 0 then zR d 143 Q 57 lv st h else zR d 143 Q 55 lv st h := q_if rfl rfl
theorem r143_55 : zR d 143 Q 55 lv st h = zR d 143 Q 56 lv (.int 0 :: st) h := q_in rfl rfl
theorem r143_56 : zR d 143 Q 56 lv [.int x] h = Q (some (.int x)) h := q_retz rfl rfl (Or.inl rfl)
theorem r143_57 : zR d 143 Q 57 (o0 :: some (.int x) :: l) st h = zR d 143 Q 58 (o0 :: some (.int x) :: l) (.int x :: st) h := q_in rfl rfl
theorem r143_58 : zR d 143 Q 58 lv (.int x :: st) h = if x ≤ 0 then zR d 143 Q 61 lv st h else zR d 143 Q 77 lv st h := q_if rfl rfl
theorem r143_61 : zR d 143 Q 61 (some (.ref c) :: l) st h = zR d 143 Q 62 (some (.ref c) :: l) (.ref c :: st) h := q_in rfl rfl
theorem r143_62 : zR d 143 Q 62 lv st h = zR d 143 Q 63 lv (.int 1 :: st) h := q_in rfl rfl
theorem r143_63 : zR d 143 Q 63 (some (.ref c) :: l) st h = zR d 143 Q 64 (some (.ref c) :: l) (.ref c :: st) h := q_in rfl rfl
theorem r143_64 : zR d 143 Q 64 lv (.ref 60 :: st) h = zR d 143 Q 67 lv (.ref 61 :: st) h := (q_and rfl rfl).trans (zand_t rfl)
theorem r143_67 : zR d 143 Q 67 lv st h = zR d 143 Q 69 lv (.int 6 :: st) h := q_in rfl rfl
theorem r143_69 : zR d 143 Q 69 lv (.int x :: .ref c :: st) h = zal c x h (fun w => zR d 143 Q 70 lv (.int w :: st) h) := q_iald rfl
theorem r143_70 : zR d 143 Q 70 lv (.int z :: .int x :: st) h = zR d 143 Q 71 lv (.int (x - z) :: st) h := q_in rfl rfl
theorem r143_71 : zR d 143 Q 71 lv [.int x0, .ref 60] h = zM d 141 [.ref 60, .int x0] h (fun r h' => zR d 143 Q 74 lv (r.toList ++ []) h') := (q_clV rfl rfl (Nat.le_of_ble_eq_true rfl)).trans (zand_t ⟨rfl, Nat.le_of_ble_eq_true rfl⟩)
theorem r143_74 : zR d 143 Q 74 lv (.int x :: st) h = if x = 0 then zR d 143 Q 77 lv st h else zR d 143 Q 81 lv st h := q_if rfl rfl
theorem r143_77 : zR d 143 Q 77 lv st h = zR d 143 Q 78 lv (.int 5 :: st) h := q_in rfl rfl
theorem r143_78 : zR d 143 Q 78 lv st h = zR d 143 Q 82 lv st h := q_in rfl rfl
theorem r143_81 : zR d 143 Q 81 lv st h = zR d 143 Q 82 lv (.int 0 :: st) h := q_in rfl rfl
theorem r143_82 : zR d 143 Q 82 lv [.int x] h = Q (some (.int x)) h := q_retz rfl rfl (Or.inl rfl)
end
