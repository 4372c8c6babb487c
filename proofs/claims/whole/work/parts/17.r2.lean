section
variable {d : Nat} {Q : Option Value → zH → Prop} {lv l : zL} {st : zS} {h : zH} {x z : Int32} {c : Nat} {i j : Int64} {o0 o1 o2 o3 o4 o5 o6 o7 o8 o9 o10 o11 o12 : Option Value} {x0 x1 x2 x3 x4 y0 y1 y2 y3 : Int32} {c0 c1 c2 c3 c4 a0 a1 a2 a3 : Nat} {j0 j1 j2 k0 k1 : Int64}

theorem r57_0 : zR d 57 Q 0 lv st h = zR d 57 Q 1 lv (.int 1 :: st) h := q_in rfl rfl
theorem r57_1 : zR d 57 Q 1 (some (.ref c) :: l) st h = zR d 57 Q 2 (some (.ref c) :: l) (.ref c :: st) h := q_in rfl rfl
theorem r57_2 : zR d 57 Q 2 lv (.ref c :: st) h = (zcls c = 5 ∧ zR d 57 Q 5 lv (.ref (c + 6) :: st) h) := q_and rfl rfl
theorem r57_5 : zR d 57 Q 5 lv st h = zR d 57 Q 6 lv (.int 0 :: st) h := q_in rfl rfl
theorem r57_6 : zR d 57 Q 6 lv (.int x :: .ref c :: st) h = zal c x h (fun w => zR d 57 Q 7 lv (.int w :: st) h) := q_iald rfl
theorem r57_7 : zR d 57 Q 7 lv (.int z :: .int x :: st) h = zR d 57 Q 8 lv (.int (x - z) :: st) h := q_in rfl rfl
theorem r57_8 : zR d 57 Q 8 (o0 :: o1 :: o2 :: l) (.int x :: st) h = zR d 57 Q 9 (o0 :: o1 :: some (.int x) :: l) st h := q_in rfl rfl
theorem r57_9 : zR d 57 Q 9 lv st h = zR d 57 Q 10 lv (.int 0 :: st) h := q_in rfl rfl
theorem r57_10 : zR d 57 Q 10 (o0 :: o1 :: o2 :: o3 :: l) (.int x :: st) h = zR d 57 Q 11 (o0 :: o1 :: o2 :: some (.int x) :: l) st h := q_in rfl rfl
theorem r57_11 : zR d 57 Q 11 (o0 :: o1 :: o2 :: some (.int x) :: l) st h = zR d 57 Q 12 (o0 :: o1 :: o2 :: some (.int x) :: l) (.int x :: st) h := q_in rfl rfl
theorem r57_12 : zR d 57 Q 12 (some (.ref c) :: l) st h = zR d 57 Q 13 (some (.ref c) :: l) (.ref c :: st) h := q_in rfl rfl
theorem r57_13 : zR d 57 Q 13 lv (.ref c :: st) h = (zcls c = 5 ∧ zR d 57 Q 16 lv (.int (h c 1) :: st) h) := q_and rfl rfl
theorem r57_16 : zR d 57 Q 16 lv (.int z :: .int x :: st) h = if x < z then zR d 57 Q 19 lv st h else zR d 57 Q 58 lv st h := q_if rfl rfl
theorem r57_19 : zR d 57 Q 19 (o0 :: some (.int x) :: l) st h = zR d 57 Q 20 (o0 :: some (.int x) :: l) (.int x :: st) h := q_in rfl rfl
theorem r57_20 : zR d 57 Q 20 (o0 :: o1 :: o2 :: some (.int x) :: l) st h = zR d 57 Q 21 (o0 :: o1 :: o2 :: some (.int x) :: l) (.int x :: st) h := q_in rfl rfl
theorem r57_21 : zR d 57 Q 21 lv (.int z :: .int x :: st) h = zR d 57 Q 22 lv (.int (x >>> (z &&& 31)) :: st) h := q_in rfl rfl
theorem r57_22 : zR d 57 Q 22 lv st h = zR d 57 Q 23 lv (.int 1 :: st) h := q_in rfl rfl
theorem r57_23 : zR d 57 Q 23 lv (.int z :: .int x :: st) h = zR d 57 Q 24 lv (.int (x &&& z) :: st) h := q_in rfl rfl
theorem r57_24 : zR d 57 Q 24 lv st h = zR d 57 Q 25 lv (.int 1 :: st) h := q_in rfl rfl
theorem r57_25 : zR d 57 Q 25 lv (.int z :: .int x :: st) h = if x = z then zR d 57 Q 28 lv st h else zR d 57 Q 52 lv st h := q_if rfl rfl
theorem r57_28 : zR d 57 Q 28 (some (.ref c) :: l) st h = zR d 57 Q 29 (some (.ref c) :: l) (.ref c :: st) h := q_in rfl rfl
theorem r57_29 : zR d 57 Q 29 lv (.ref c :: st) h = (zcls c = 5 ∧ zR d 57 Q 32 lv (.ref (c + 3) :: st) h) := q_and rfl rfl
theorem r57_32 : zR d 57 Q 32 (o0 :: o1 :: o2 :: some (.int x) :: l) st h = zR d 57 Q 33 (o0 :: o1 :: o2 :: some (.int x) :: l) (.int x :: st) h := q_in rfl rfl
theorem r57_33 : zR d 57 Q 33 (o0 :: o1 :: some (.int x) :: l) st h = zR d 57 Q 34 (o0 :: o1 :: some (.int x) :: l) (.int x :: st) h := q_in rfl rfl
theorem r57_34 : zR d 57 Q 34 lv (.int z :: .int x :: .ref c :: st) h = zas c x z h (fun h' => zR d 57 Q 35 lv st h') := q_iast rfl
theorem r57_35 : zR d 57 Q 35 (some (.ref c) :: l) st h = zR d 57 Q 36 (some (.ref c) :: l) (.ref c :: st) h := q_in rfl rfl
theorem r57_36 : zR d 57 Q 36 lv (.ref c :: st) h = (zcls c = 5 ∧ zR d 57 Q 39 lv (.ref (c + 4) :: st) h) := q_and rfl rfl
theorem r57_39 : zR d 57 Q 39 (o0 :: o1 :: o2 :: some (.int x) :: l) st h = zR d 57 Q 40 (o0 :: o1 :: o2 :: some (.int x) :: l) (.int x :: st) h := q_in rfl rfl
theorem r57_40 : zR d 57 Q 40 lv st h = zR d 57 Q 41 lv (.int 0 :: st) h := q_in rfl rfl
theorem r57_41 : zR d 57 Q 41 lv (.int z :: .int x :: .ref c :: st) h = zas c x z h (fun h' => zR d 57 Q 42 lv st h') := q_iast rfl
theorem r57_42 : zR d 57 Q 42 (some (.ref c) :: l) st h = zR d 57 Q 43 (some (.ref c) :: l) (.ref c :: st) h := q_in rfl rfl
theorem r57_43 : zR d 57 Q 43 lv (.ref c :: st) h = (zcls c = 5 ∧ zR d 57 Q 46 lv (.ref (c + 5) :: st) h) := q_and rfl rfl
theorem r57_46 : zR d 57 Q 46 (o0 :: o1 :: o2 :: some (.int x) :: l) st h = zR d 57 Q 47 (o0 :: o1 :: o2 :: some (.int x) :: l) (.int x :: st) h := q_in rfl rfl
theorem r57_47 : zR d 57 Q 47 lv (.int x :: .ref c :: st) h = zR d 57 Q 48 lv (.int x :: .ref c :: .int x :: .ref c :: st) h := q_in rfl rfl
theorem r57_48 : zR d 57 Q 48 lv (.int x :: .ref c :: st) h = zal c x h (fun w => zR d 57 Q 49 lv (.int w :: st) h) := q_iald rfl
theorem r57_49 : zR d 57 Q 49 lv st h = zR d 57 Q 50 lv (.int 1 :: st) h := q_in rfl rfl
theorem r57_50 : zR d 57 Q 50 lv (.int z :: .int x :: st) h = zR d 57 Q 51 lv (.int (x + z) :: st) h := q_in rfl rfl
theorem r57_51 : zR d 57 Q 51 lv (.int z :: .int x :: .ref c :: st) h = zas c x z h (fun h' => zR d 57 Q 52 lv st h') := q_iast rfl
theorem r57_52 : zR d 57 Q 52 (o0 :: o1 :: o2 :: some (.int x) :: l) st h = zR d 57 Q 55 (o0 :: o1 :: o2 :: some (.int (x + 1)) :: l) st h := q_in rfl rfl
theorem r57_55 : zR d 57 Q 55 lv st h = zR d 57 Q 11 lv st h := q_in rfl rfl
theorem r57_58 : zR d 57 Q 58 (some (.ref c) :: l) st h = zR d 57 Q 59 (some (.ref c) :: l) (.ref c :: st) h := q_in rfl rfl
theorem r57_59 : zR d 57 Q 59 lv (.ref c :: st) h = (zcls c = 5 ∧ zR d 57 Q 62 lv (.ref (c + 6) :: st) h) := q_and rfl rfl
theorem r57_62 : zR d 57 Q 62 lv st h = zR d 57 Q 63 lv (.int 0 :: st) h := q_in rfl rfl
theorem r57_63 : zR d 57 Q 63 (o0 :: o1 :: some (.int x) :: l) st h = zR d 57 Q 64 (o0 :: o1 :: some (.int x) :: l) (.int x :: st) h := q_in rfl rfl
theorem r57_64 : zR d 57 Q 64 lv (.int z :: .int x :: .ref c :: st) h = zas c x z h (fun h' => zR d 57 Q 65 lv st h') := q_iast rfl
theorem r57_65 : zR d 57 Q 65 lv [] h = Q none h := q_ret rfl rfl
theorem r58_0 : zR d 58 Q 0 (o0 :: some (.int x) :: l) st h = zR d 58 Q 1 (o0 :: some (.int x) :: l) (.int x :: st) h := q_in rfl rfl
theorem r58_1 : zR d 58 Q 1 lv [.int x0] h = zM d 0 [.int x0] h (fun r h' => zR d 58 Q 4 lv (r.toList ++ []) h') := q_clS rfl rfl ⟨Nat.le_of_ble_eq_true rfl, Nat.le_of_ble_eq_true rfl⟩
theorem r58_4 : zR d 58 Q 4 lv (.int x :: st) h = if x = 0 then zR d 58 Q 26 lv st h else zR d 58 Q 7 lv st h := q_if rfl rfl
theorem r58_7 : zR d 58 Q 7 (o0 :: o1 :: some (.int x) :: l) st h = zR d 58 Q 8 (o0 :: o1 :: some (.int x) :: l) (.int x :: st) h := q_in rfl rfl
theorem r58_8 : zR d 58 Q 8 lv st h = zR d 58 Q 9 lv (.int 1 :: st) h := q_in rfl rfl
theorem r58_9 : zR d 58 Q 9 lv st h = zR d 58 Q 11 lv (.int 99 :: st) h := q_in rfl rfl
theorem r58_11 : zR d 58 Q 11 lv [.int x2, .int x1, .int x0] h = zM d 103 [.int x0, .int x1, .int x2] h (fun r h' => zR d 58 Q 14 lv (r.toList ++ []) h') := q_clS rfl rfl ⟨Nat.le_of_ble_eq_true rfl, Nat.le_of_ble_eq_true rfl⟩
theorem r58_14 : zR d 58 Q 14 lv (.int x :: st) h = if x = 0 then zR d 58 Q 26 lv st h else zR d 58 Q 17 lv st h := q_if rfl rfl
theorem r58_17 : zR d 58 Q 17 (o0 :: o1 :: o2 :: some (.int x) :: l) st h = zR d 58 Q 18 (o0 :: o1 :: o2 :: some (.int x) :: l) (.int x :: st) h := q_in rfl rfl
theorem r58_18 : zR d 58 Q 18 lv st h = zR d 58 Q 19 lv (.int 0 :: st) h := q_in rfl rfl
theorem r58_19 : zR d 58 Q 19 lv st h = zR d 58 Q 20 lv (.int 1 :: st) h := q_in rfl rfl
theorem r58_20 : zR d 58 Q 20 lv [.int x2, .int x1, .int x0] h = zM d 103 [.int x0, .int x1, .int x2] h (fun r h' => zR d 58 Q 23 lv (r.toList ++ []) h') := q_clS rfl rfl ⟨Nat.le_of_ble_eq_true rfl, Nat.le_of_ble_eq_true rfl⟩
theorem r58_23 : zR d 58 Q 23 lv (.int x :: st) h = if x = 0 then zR d 58 Q 26 lv st h else zR d 58 Q 29 lv st h := q_if rfl rfl
theorem r58_26 : zR d 58 Q 26 lv st h = zR d 58 Q 28 lv (.int (-1000000001) :: st) h := q_in rfl rfl
theorem r58_28 : zR d 58 Q 28 lv [.int x] h = Q (some (.int x)) h := q_retz rfl rfl (Or.inl rfl)
theorem r58_29 : zR d 58 Q 29 (some (.ref c) :: l) st h = zR d 58 Q 30 (some (.ref c) :: l) (.ref c :: st) h := q_in rfl rfl
theorem r58_30 : zR d 58 Q 30 lv (.ref 0 :: st) h = zR d 58 Q 33 lv (.ref 10 :: st) h := (q_and rfl rfl).trans (zand_t rfl)
theorem r58_33 : zR d 58 Q 33 lv (.ref c :: st) h = (zcls c = 5 ∧ zR d 58 Q 36 lv (.int (h c 1) :: st) h) := q_and rfl rfl
theorem r58_36 : zR d 58 Q 36 lv st h = zR d 58 Q 38 lv (.int 10 :: st) h := q_in rfl rfl
theorem r58_38 : zR d 58 Q 38 lv (.int z :: .int x :: st) h = if x < z then zR d 58 Q 44 lv st h else zR d 58 Q 41 lv st h := q_if rfl rfl
theorem r58_41 : zR d 58 Q 41 lv st h = zR d 58 Q 43 lv (.int (-1000000003) :: st) h := q_in rfl rfl
theorem r58_43 : zR d 58 Q 43 lv [.int x] h = Q (some (.int x)) h := q_retz rfl rfl (Or.inl rfl)
theorem r58_44 : zR d 58 Q 44 (some (.ref c) :: l) st h = zR d 58 Q 45 (some (.ref c) :: l) (.ref c :: st) h := q_in rfl rfl
theorem r58_45 : zR d 58 Q 45 lv (.ref 0 :: st) h = zR d 58 Q 48 lv (.ref 10 :: st) h := (q_and rfl rfl).trans (zand_t rfl)
theorem r58_48 : zR d 58 Q 48 (o0 :: some (.int x) :: l) st h = zR d 58 Q 49 (o0 :: some (.int x) :: l) (.int x :: st) h := q_in rfl rfl
theorem r58_49 : zR d 58 Q 49 (o0 :: o1 :: some (.int x) :: l) st h = zR d 58 Q 50 (o0 :: o1 :: some (.int x) :: l) (.int x :: st) h := q_in rfl rfl
theorem r58_50 : zR d 58 Q 50 (o0 :: o1 :: o2 :: some (.int x) :: l) st h = zR d 58 Q 51 (o0 :: o1 :: o2 :: some (.int x) :: l) (.int x :: st) h := q_in rfl rfl
theorem r58_51 : zR d 58 Q 51 lv [.int x2, .int x1, .int x0, .ref c] h = (zcls c = 5 ∧ zM d 38 [.ref c, .int x0, .int x1, .int x2] h (fun r h' => zR d 58 Q 54 lv (r.toList ++ []) h')) := (q_clV rfl rfl (Nat.le_of_ble_eq_true rfl)).trans (zand_r (Nat.le_of_ble_eq_true rfl))
theorem r58_54 : zR d 58 Q 54 lv [.int x] h = Q (some (.int x)) h := q_retz rfl rfl (Or.inl rfl)
theorem r59_0 : zR d 59 Q 0 (some (.ref c) :: l) st h = zR d 59 Q 1 (some (.ref c) :: l) (.ref c :: st) h := q_in rfl rfl
theorem r59_1 : zR d 59 Q 1 lv (.ref 0 :: st) h = zR d 59 Q 4 lv (.ref 10 :: st) h := (q_and rfl rfl).trans (zand_t rfl)
theorem r59_4 : zR d 59 Q 4 (o0 :: some (.int x) :: l) st h = zR d 59 Q 5 (o0 :: some (.int x) :: l) (.int x :: st) h := q_in rfl rfl
theorem r59_5 : zR d 59 Q 5 lv [.int x0, .ref c] h = (zcls c = 5 ∧ zM d 37 [.ref c, .int x0] h (fun r h' => zR d 59 Q 8 lv (r.toList ++ []) h')) := (q_clV rfl rfl (Nat.le_of_ble_eq_true rfl)).trans (zand_r (Nat.le_of_ble_eq_true rfl))
theorem r59_8 : zR d 59 Q 8 lv (.int x :: st) h = if x = 0 then zR d 59 Q 11 lv st h else zR d 59 Q 14 lv st h := q_if rfl rfl
theorem r59_11 : zR d 59 Q 11 lv st h = zR d 59 Q 13 lv (.int (-1000000001) :: st) h := q_in rfl rfl
theorem r59_13 : zR d 59 Q 13 lv [.int x] h = Q (some (.int x)) h := q_retz rfl rfl (Or.inl rfl)
theorem r59_14 : zR d 59 Q 14 (o0 :: o1 :: some (.int x) :: l) st h = zR d 59 Q 15 (o0 :: o1 :: some (.int x) :: l) (.int x :: st) h := q_in rfl rfl
theorem r59_15 : zR d 59 Q 15 lv (.int x :: st) h = if x = 0 then zR d 59 Q 64 lv st h else if x = 1 then zR d 59 Q 74 lv st h else if x = 2 then zR d 59 Q 84 lv st h else if x = 3 then zR d 59 Q 94 lv st h else if x = 4 then zR d 59 Q 104 lv st h else if x = 5 then zR d 59 Q 114 lv st h else if x = 6 then zR d 59 Q 123 lv st h else if x = 7 then zR d 59 Q 136 lv st h else if x = 8 then zR d 59 Q 158 lv st h else zR d 59 Q 180 lv st h := (q_in rfl rfl).trans (by simp only [zsw, zR_ite])
theorem r59_64 : zR d 59 Q 64 (some (.ref c) :: l) st h = zR d 59 Q 65 (some (.ref c) :: l) (.ref c :: st) h := q_in rfl rfl
theorem r59_65 : zR d 59 Q 65 lv (.ref 0 :: st) h = zR d 59 Q 68 lv (.ref 10 :: st) h := (q_and rfl rfl).trans (zand_t rfl)
theorem r59_68 : zR d 59 Q 68 lv (.ref c :: st) h = (zcls c = 5 ∧ zR d 59 Q 71 lv (.ref (c + 1) :: st) h) := q_and rfl rfl
theorem r59_71 : zR d 59 Q 71 (o0 :: some (.int x) :: l) st h = zR d 59 Q 72 (o0 :: some (.int x) :: l) (.int x :: st) h := q_in rfl rfl
theorem r59_72 : zR d 59 Q 72 lv (.int x :: .ref c :: st) h = zal c x h (fun w => zR d 59 Q 73 lv (.int w :: st) h) := q_iald rfl
theorem r59_73 : zR d 59 Q 73 lv [.int x] h = Q (some (.int x)) h := q_retz rfl rfl (Or.inl rfl)
theorem r59_74 : zR d 59 Q 74 (some (.ref c) :: l) st h = zR d 59 Q 75 (some (.ref c) :: l) (.ref c :: st) h := q_in rfl rfl
theorem r59_75 : zR d 59 Q 75 lv (.ref 0 :: st) h = zR d 59 Q 78 lv (.ref 10 :: st) h := (q_and rfl rfl).trans (zand_t rfl)
theorem r59_78 : zR d 59 Q 78 lv (.ref c :: st) h = (zcls c = 5 ∧ zR d 59 Q 81 lv (.ref (c + 2) :: st) h) := q_and rfl rfl
theorem r59_81 : zR d 59 Q 81 (o0 :: some (.int x) :: l) st h = zR d 59 Q 82 (o0 :: some (.int x) :: l) (.int x :: st) h := q_in rfl rfl
theorem r59_82 : zR d 59 Q 82 lv (.int x :: .ref c :: st) h = zal c x h (fun w => zR d 59 Q 83 lv (.int w :: st) h) := q_iald rfl
theorem r59_83 : zR d 59 Q 83 lv [.int x] h = Q (some (.int x)) h := q_retz rfl rfl (Or.inl rfl)
theorem r59_84 : zR d 59 Q 84 (some (.ref c) :: l) st h = zR d 59 Q 85 (some (.ref c) :: l) (.ref c :: st) h := q_in rfl rfl
theorem r59_85 : zR d 59 Q 85 lv (.ref 0 :: st) h = zR d 59 Q 88 lv (.ref 10 :: st) h := (q_and rfl rfl).trans (zand_t rfl)
theorem r59_88 : zR d 59 Q 88 lv (.ref c :: st) h = (zcls c = 5 ∧ zR d 59 Q 91 lv (.ref (c + 3) :: st) h) := q_and rfl rfl
theorem r59_91 : zR d 59 Q 91 (o0 :: some (.int x) :: l) st h = zR d 59 Q 92 (o0 :: some (.int x) :: l) (.int x :: st) h := q_in rfl rfl
theorem r59_92 : zR d 59 Q 92 lv (.int x :: .ref c :: st) h = zal c x h (fun w => zR d 59 Q 93 lv (.int w :: st) h) := q_iald rfl
theorem r59_93 : zR d 59 Q 93 lv [.int x] h = Q (some (.int x)) h := q_retz rfl rfl (Or.inl rfl)
theorem r59_94 : zR d 59 Q 94 (some (.ref c) :: l) st h = zR d 59 Q 95 (some (.ref c) :: l) (.ref c :: st) h := q_in rfl rfl
theorem r59_95 : zR d 59 Q 95 lv (.ref 0 :: st) h = zR d 59 Q 98 lv (.ref 10 :: st) h := (q_and rfl rfl).trans (zand_t rfl)
theorem r59_98 : zR d 59 Q 98 lv (.ref c :: st) h = (zcls c = 5 ∧ zR d 59 Q 101 lv (.ref (c + 4) :: st) h) := q_and rfl rfl
theorem r59_101 : zR d 59 Q 101 (o0 :: some (.int x) :: l) st h = zR d 59 Q 102 (o0 :: some (.int x) :: l) (.int x :: st) h := q_in rfl rfl
theorem r59_102 : zR d 59 Q 102 lv (.int x :: .ref c :: st) h = zal c x h (fun w => zR d 59 Q 103 lv (.int w :: st) h) := q_iald rfl
theorem r59_103 : zR d 59 Q 103 lv [.int x] h = Q (some (.int x)) h := q_retz rfl rfl (Or.inl rfl)
theorem r59_104 : zR d 59 Q 104 (some (.ref c) :: l) st h = zR d 59 Q 105 (some (.ref c) :: l) (.ref c :: st) h := q_in rfl rfl
theorem r59_105 : zR d 59 Q 105 lv (.ref 0 :: st) h = zR d 59 Q 108 lv (.ref 10 :: st) h := (q_and rfl rfl).trans (zand_t rfl)
theorem r59_108 : zR d 59 Q 108 lv (.ref c :: st) h = (zcls c = 5 ∧ zR d 59 Q 111 lv (.ref (c + 5) :: st) h) := q_and rfl rfl
theorem r59_111 : zR d 59 Q 111 (o0 :: some (.int x) :: l) st h = zR d 59 Q 112 (o0 :: some (.int x) :: l) (.int x :: st) h := q_in rfl rfl
theorem r59_112 : zR d 59 Q 112 lv (.int x :: .ref c :: st) h = zal c x h (fun w => zR d 59 Q 113 lv (.int w :: st) h) := q_iald rfl
theorem r59_113 : zR d 59 Q 113 lv [.int x] h = Q (some (.int x)) h := q_retz rfl rfl (Or.inl rfl)
theorem r59_114 : zR d 59 Q 114 (some (.ref c) :: l) st h = zR d 59 Q 115 (some (.ref c) :: l) (.ref c :: st) h := q_in rfl rfl
theorem r59_115 : zR d 59 Q 115 lv (.ref 0 :: st) h = zR d 59 Q 118 lv (.ref 10 :: st) h := (q_and rfl rfl).trans (zand_t rfl)
theorem r59_118 : zR d 59 Q 118 (o0 :: some (.int x) :: l) st h = zR d 59 Q 119 (o0 :: some (.int x) :: l) (.int x :: st) h := q_in rfl rfl
theorem r59_119 : zR d 59 Q 119 lv [.int x0, .ref c] h = (zcls c = 5 ∧ zM d 43 [.ref c, .int x0] h (fun r h' => zR d 59 Q 122 lv (r.toList ++ []) h')) := (q_clV rfl rfl (Nat.le_of_ble_eq_true rfl)).trans (zand_r (Nat.le_of_ble_eq_true rfl))
theorem r59_122 : zR d 59 Q 122 lv [.int x] h = Q (some (.int x)) h := q_retz rfl rfl (Or.inl rfl)
theorem r59_123 : zR d 59 Q 123 (some (.ref c) :: l) st h = zR d 59 Q 124 (some (.ref c) :: l) (.ref c :: st) h := q_in rfl rfl
theorem r59_124 : zR d 59 Q 124 lv (.ref 0 :: st) h = zR d 59 Q 127 lv (.ref 10 :: st) h := (q_and rfl rfl).trans (zand_t rfl)
theorem r59_127 : zR d 59 Q 127 lv (.ref c :: st) h = (zcls c = 5 ∧ zR d 59 Q 130 lv (.ref (c + 1) :: st) h) := q_and rfl rfl
theorem r59_130 : zR d 59 Q 130 (o0 :: some (.int x) :: l) st h = zR d 59 Q 131 (o0 :: some (.int x) :: l) (.int x :: st) h := q_in rfl rfl
theorem r59_131 : zR d 59 Q 131 lv (.int x :: .ref c :: st) h = zal c x h (fun w => zR d 59 Q 132 lv (.int w :: st) h) := q_iald rfl
theorem r59_132 : zR d 59 Q 132 lv [.int x0] h = zM d 3 [.int x0] h (fun r h' => zR d 59 Q 135 lv (r.toList ++ []) h') := q_clS rfl rfl ⟨Nat.le_of_ble_eq_true rfl, Nat.le_of_ble_eq_true rfl⟩
theorem r59_135 : zR d 59 Q 135 lv [.int x] h = Q (some (.int x)) h := q_retz rfl rfl (Or.inl rfl)
theorem r59_136 : zR d 59 Q 136 (some (.ref c) :: l) st h = zR d 59 Q 137 (some (.ref c) :: l) (.ref c :: st) h := q_in rfl rfl
theorem r59_137 : zR d 59 Q 137 lv (.ref 0 :: st) h = zR d 59 Q 140 lv (.ref 10 :: st) h := (q_and rfl rfl).trans (zand_t rfl)
theorem r59_140 : zR d 59 Q 140 lv (.ref c :: st) h = (zcls c = 5 ∧ zR d 59 Q 143 lv (.ref (c + 1) :: st) h) := q_and rfl rfl
theorem r59_143 : zR d 59 Q 143 (o0 :: some (.int x) :: l) st h = zR d 59 Q 144 (o0 :: some (.int x) :: l) (.int x :: st) h := q_in rfl rfl
theorem r59_144 : zR d 59 Q 144 lv (.int x :: .ref c :: st) h = zal c x h (fun w => zR d 59 Q 145 lv (.int w :: st) h) := q_iald rfl
theorem r59_145 : zR d 59 Q 145 (some (.ref c) :: l) st h = zR d 59 Q 146 (some (.ref c) :: l) (.ref c :: st) h := q_in rfl rfl
theorem r59_146 : zR d 59 Q 146 lv (.ref 0 :: st) h = zR d 59 Q 149 lv (.ref 10 :: st) h := (q_and rfl rfl).trans (zand_t rfl)
theorem r59_149 : zR d 59 Q 149 lv (.ref c :: st) h = (zcls c = 5 ∧ zR d 59 Q 152 lv (.ref (c + 4) :: st) h) := q_and rfl rfl
theorem r59_152 : zR d 59 Q 152 (o0 :: some (.int x) :: l) st h = zR d 59 Q 153 (o0 :: some (.int x) :: l) (.int x :: st) h := q_in rfl rfl
theorem r59_153 : zR d 59 Q 153 lv (.int x :: .ref c :: st) h = zal c x h (fun w => zR d 59 Q 154 lv (.int w :: st) h) := q_iald rfl
theorem r59_154 : zR d 59 Q 154 lv [.int x1, .int x0] h = zM d 4 [.int x0, .int x1] h (fun r h' => zR d 59 Q 157 lv (r.toList ++ []) h') := q_clS rfl rfl ⟨Nat.le_of_ble_eq_true rfl, Nat.le_of_ble_eq_true rfl⟩
theorem r59_157 : zR d 59 Q 157 lv [.int x] h = Q (some (.int x)) h := q_retz rfl rfl (Or.inl rfl)
theorem r59_158 : zR d 59 Q 158 (some (.ref c) :: l) st h = zR d 59 Q 159 (some (.ref c) :: l) (.ref c :: st) h := q_in rfl rfl
theorem r59_159 : zR d 59 Q 159 lv (.ref 0 :: st) h = zR d 59 Q 162 lv (.ref 10 :: st) h := (q_and rfl rfl).trans (zand_t rfl)
theorem r59_162 : zR d 59 Q 162 lv (.ref c :: st) h = (zcls c = 5 ∧ zR d 59 Q 165 lv (.ref (c + 1) :: st) h) := q_and rfl rfl
theorem r59_165 : zR d 59 Q 165 (o0 :: some (.int x) :: l) st h = zR d 59 Q 166 (o0 :: some (.int x) :: l) (.int x :: st) h := q_in rfl rfl
theorem r59_166 : zR d 59 Q 166 lv (.int x :: .ref c :: st) h = zal c x h (fun w => zR d 59 Q 167 lv (.int w :: st) h) := q_iald rfl
theorem r59_167 : zR d 59 Q 167 (some (.ref c) :: l) st h = zR d 59 Q 168 (some (.ref c) :: l) (.ref c :: st) h := q_in rfl rfl
theorem r59_168 : zR d 59 Q 168 lv (.ref 0 :: st) h = zR d 59 Q 171 lv (.ref 10 :: st) h := (q_and rfl rfl).trans (zand_t rfl)
theorem r59_171 : zR d 59 Q 171 lv (.ref c :: st) h = (zcls c = 5 ∧ zR d 59 Q 174 lv (.ref (c + 2) :: st) h) := q_and rfl rfl
theorem r59_174 : zR d 59 Q 174 (o0 :: some (.int x) :: l) st h = zR d 59 Q 175 (o0 :: some (.int x) :: l) (.int x :: st) h := q_in rfl rfl
theorem r59_175 : zR d 59 Q 175 lv (.int x :: .ref c :: st) h = zal c x h (fun w => zR d 59 Q 176 lv (.int w :: st) h) := q_iald rfl
theorem r59_176 : zR d 59 Q 176 lv [.int x1, .int x0] h = zM d 5 [.int x0, .int x1] h (fun r h' => zR d 59 Q 179 lv (r.toList ++ []) h') := q_clS rfl rfl ⟨Nat.le_of_ble_eq_true rfl, Nat.le_of_ble_eq_true rfl⟩
theorem r59_179 : zR d 59 Q 179 lv [.int x] h = Q (some (.int x)) h := q_retz rfl rfl (Or.inl rfl)
theorem r59_180 : zR d 59 Q 180 lv st h = zR d 59 Q 182 lv (.int (-1000000001) :: st) h := q_in rfl rfl
theorem r59_182 : zR d 59 Q 182 lv [.int x] h = Q (some (.int x)) h := q_retz rfl rfl (Or.inl rfl)
theorem r60_0 : zR d 60 Q 0 (some (.ref c) :: l) st h = zR d 60 Q 1 (some (.ref c) :: l) (.ref c :: st) h := q_in rfl rfl
theorem r60_1 : zR d 60 Q 1 lv (.ref 0 :: st) h = zR d 60 Q 4 lv (.ref 10 :: st) h := (q_and rfl rfl).trans (zand_t rfl)
theorem r60_4 : zR d 60 Q 4 (o0 :: some (.int x) :: l) st h = zR d 60 Q 5 (o0 :: some (.int x) :: l) (.int x :: st) h := q_in rfl rfl
theorem r60_5 : zR d 60 Q 5 lv [.int x0, .ref c] h = (zcls c = 5 ∧ zM d 37 [.ref c, .int x0] h (fun r h' => zR d 60 Q 8 lv (r.toList ++ []) h')) := (q_clV rfl rfl (Nat.le_of_ble_eq_true rfl)).trans (zand_r (Nat.le_of_ble_eq_true rfl))
theorem r60_8 : zR d 60 Q 8 lv (.int x :: st) h = if x = 0 then zR d 60 Q 18 lv st h else zR d 60 Q 11 lv st h := q_if rfl rfl
theorem r60_11 : zR d 60 Q 11 (o0 :: o1 :: some (.int x) :: l) st h = zR d 60 Q 12 (o0 :: o1 :: some (.int x) :: l) (.int x :: st) h := q_in rfl rfl
theorem r60_12 : zR d 60 Q 12 lv [.int x0] h = zM d 0 [.int x0] h (fun r h' => zR d 60 Q 15 lv (r.toList ++ []) h') := q_clS rfl rfl ⟨Nat.le_of_ble_eq_true rfl, Nat.le_of_ble_eq_true rfl⟩
theorem r60_15 : zR d 60 Q 15 lv (.int x :: st) h = if x = 0 then zR d 60 Q 18 lv st h else zR d 60 Q 21 lv st h := q_if rfl rfl
theorem r60_18 : zR d 60 Q 18 lv st h = zR d 60 Q 20 lv (.int (-1000000001) :: st) h := q_in rfl rfl
theorem r60_20 : zR d 60 Q 20 lv [.int x] h = Q (some (.int x)) h := q_retz rfl rfl (Or.inl rfl)
theorem r60_21 : zR d 60 Q 21 (some (.ref c) :: l) st h = zR d 60 Q 22 (some (.ref c) :: l) (.ref c :: st) h := q_in rfl rfl
theorem r60_22 : zR d 60 Q 22 lv (.ref 0 :: st) h = zR d 60 Q 25 lv (.ref 10 :: st) h := (q_and rfl rfl).trans (zand_t rfl)
theorem r60_25 : zR d 60 Q 25 lv (.ref c :: st) h = (zcls c = 5 ∧ zR d 60 Q 28 lv (.ref (c + 1) :: st) h) := q_and rfl rfl
theorem r60_28 : zR d 60 Q 28 (o0 :: some (.int x) :: l) st h = zR d 60 Q 29 (o0 :: some (.int x) :: l) (.int x :: st) h := q_in rfl rfl
theorem r60_29 : zR d 60 Q 29 lv (.int x :: .ref c :: st) h = zal c x h (fun w => zR d 60 Q 30 lv (.int w :: st) h) := q_iald rfl
theorem r60_30 : zR d 60 Q 30 (o0 :: o1 :: some (.int x) :: l) st h = zR d 60 Q 31 (o0 :: o1 :: some (.int x) :: l) (.int x :: st) h := q_in rfl rfl
theorem r60_31 : zR d 60 Q 31 lv [.int x1, .int x0] h = zM d 1 [.int x0, .int x1] h (fun r h' => zR d 60 Q 34 lv (r.toList ++ []) h') := q_clS rfl rfl ⟨Nat.le_of_ble_eq_true rfl, Nat.le_of_ble_eq_true rfl⟩
theorem r60_34 : zR d 60 Q 34 lv (.int x :: st) h = if x = 0 then zR d 60 Q 49 lv st h else zR d 60 Q 37 lv st h := q_if rfl rfl
theorem r60_37 : zR d 60 Q 37 (some (.ref c) :: l) st h = zR d 60 Q 38 (some (.ref c) :: l) (.ref c :: st) h := q_in rfl rfl
theorem r60_38 : zR d 60 Q 38 lv (.ref 0 :: st) h = zR d 60 Q 41 lv (.ref 10 :: st) h := (q_and rfl rfl).trans (zand_t rfl)
theorem r60_41 : zR d 60 Q 41 lv (.ref c :: st) h = (zcls c = 5 ∧ zR d 60 Q 44 lv (.ref (c + 2) :: st) h) := q_and rfl rfl
theorem r60_44 : zR d 60 Q 44 (o0 :: some (.int x) :: l) st h = zR d 60 Q 45 (o0 :: some (.int x) :: l) (.int x :: st) h := q_in rfl rfl
theorem r60_45 : zR d 60 Q 45 lv (.int x :: .ref c :: st) h = zal c x h (fun w => zR d 60 Q 46 lv (.int w :: st) h) := q_iald rfl
theorem r60_46 : zR d 60 Q 46 lv st h = zR d 60 Q 51 lv st h := q_in rfl rfl
theorem r60_49 : zR d 60 Q 49 lv st h = zR d 60 Q 51 lv (.int (-1000000012) :: st) h := q_in rfl rfl
theorem r60_51 : zR d 60 Q 51 lv [.int x] h = Q (some (.int x)) h := q_retz rfl rfl (Or.inl rfl)
theorem r61_0 : zR d 61 Q 0 (some (.ref c) :: l) st h = zR d 61 Q 1 (some (.ref c) :: l) (.ref c :: st) h := q_in rfl rfl
theorem r61_1 : zR d 61 Q 1 lv (.ref 0 :: st) h = zR d 61 Q 4 lv (.ref 10 :: st) h := (q_and rfl rfl).trans (zand_t rfl)
theorem r61_4 : zR d 61 Q 4 (o0 :: some (.int x) :: l) st h = zR d 61 Q 5 (o0 :: some (.int x) :: l) (.int x :: st) h := q_in rfl rfl
theorem r61_5 : zR d 61 Q 5 lv [.int x0, .ref c] h = (zcls c = 5 ∧ zM d 37 [.ref c, .int x0] h (fun r h' => zR d 61 Q 8 lv (r.toList ++ []) h')) := (q_clV rfl rfl (Nat.le_of_ble_eq_true rfl)).trans (zand_r (Nat.le_of_ble_eq_true rfl))
theorem r61_8 : zR d 61 Q 8 lv (.int x :: st) h = if x = 0 then zR d 61 Q 11 lv st h else zR d 61 Q 14 lv st h := q_if rfl rfl
theorem r61_11 : zR d 61 Q 11 lv st h = zR d 61 Q 13 lv (.int (-1000000001) :: st) h := q_in rfl rfl
theorem r61_13 : zR d 61 Q 13 lv [.int x] h = Q (some (.int x)) h := q_retz rfl rfl (Or.inl rfl)
theorem r61_14 : zR d 61 Q 14 (some (.ref c) :: l) st h = zR d 61 Q 15 (some (.ref c) :: l) (.ref c :: st) h := q_in rfl rfl
theorem r61_15 : zR d 61 Q 15 lv (.ref 0 :: st) h = zR d 61 Q 18 lv (.ref 10 :: st) h := (q_and rfl rfl).trans (zand_t rfl)
theorem r61_18 : zR d 61 Q 18 lv (.ref c :: st) h = (zcls c = 5 ∧ zR d 61 Q 21 lv (.ref (c + 1) :: st) h) := q_and rfl rfl
theorem r61_21 : zR d 61 Q 21 (o0 :: some (.int x) :: l) st h = zR d 61 Q 22 (o0 :: some (.int x) :: l) (.int x :: st) h := q_in rfl rfl
theorem r61_22 : zR d 61 Q 22 (o0 :: o1 :: some (.int x) :: l) st h = zR d 61 Q 23 (o0 :: o1 :: some (.int x) :: l) (.int x :: st) h := q_in rfl rfl
theorem r61_23 : zR d 61 Q 23 lv st h = zR d 61 Q 24 lv (.int 0 :: st) h := q_in rfl rfl
theorem r61_24 : zR d 61 Q 24 lv st h = zR d 61 Q 25 lv (.int 5 :: st) h := q_in rfl rfl
theorem r61_25 : zR d 61 Q 25 lv [.int x4, .int x3, .int x2, .int x1, .ref c0] h = zM d 105 [.ref c0, .int x1, .int x2, .int x3, .int x4] h (fun r h' => zR d 61 Q 28 lv (r.toList ++ []) h') := q_clS rfl rfl ⟨Nat.le_of_ble_eq_true rfl, Nat.le_of_ble_eq_true rfl⟩
theorem r61_28 : zR d 61 Q 28 lv [.int x] h = Q (some (.int x)) h := q_retz rfl rfl (Or.inl rfl)
theorem r62_0 : zR d 62 Q 0 (some (.ref c) :: l) st h = zR d 62 Q 1 (some (.ref c) :: l) (.ref c :: st) h := q_in rfl rfl
theorem r62_1 : zR d 62 Q 1 lv (.ref 0 :: st) h = zR d 62 Q 4 lv (.ref 10 :: st) h := (q_and rfl rfl).trans (zand_t rfl)
theorem r62_4 : zR d 62 Q 4 (o0 :: some (.int x) :: l) st h = zR d 62 Q 5 (o0 :: some (.int x) :: l) (.int x :: st) h := q_in rfl rfl
theorem r62_5 : zR d 62 Q 5 lv [.int x0, .ref c] h = (zcls c = 5 ∧ zM d 37 [.ref c, .int x0] h (fun r h' => zR d 62 Q 8 lv (r.toList ++ []) h')) := (q_clV rfl rfl (Nat.le_of_ble_eq_true rfl)).trans (zand_r (Nat.le_of_ble_eq_true rfl))
theorem r62_8 : zR d 62 Q 8 lv (.int x :: st) h = if x = 0 then zR d 62 Q 11 lv st h else zR d 62 Q 14 lv st h := q_if rfl rfl
theorem r62_11 : zR d 62 Q 11 lv st h = zR d 62 Q 13 lv (.int (-1000000001) :: st) h := q_in rfl rfl
theorem r62_13 : zR d 62 Q 13 lv [.int x] h = Q (some (.int x)) h := q_retz rfl rfl (Or.inl rfl)
theorem r62_14 : zR d 62 Q 14 (o0 :: o1 :: some (.int x) :: l) st h = zR d 62 Q 15 (o0 :: o1 :: some (.int x) :: l) (.int x :: st) h := q_in rfl rfl
theorem r62_15 : zR d 62 Q 15 lv (.int x :: st) h = if x = 1 then zR d 62 Q 40 lv st h else if x = 2 then zR d 62 Q 56 lv st h else if x = 3 then zR d 62 Q 71 lv st h else zR d 62 Q 88 lv st h := (q_in rfl rfl).trans (by simp only [zsw, zR_ite])
theorem r62_40 : zR d 62 Q 40 (some (.ref c) :: l) st h = zR d 62 Q 41 (some (.ref c) :: l) (.ref c :: st) h := q_in rfl rfl
theorem r62_41 : zR d 62 Q 41 lv (.ref 0 :: st) h = zR d 62 Q 44 lv (.ref 10 :: st) h := (q_and rfl rfl).trans (zand_t rfl)
theorem r62_44 : zR d 62 Q 44 lv (.ref c :: st) h = (zcls c = 5 ∧ zR d 62 Q 47 lv (.ref (c + 2) :: st) h) := q_and rfl rfl
theorem r62_47 : zR d 62 Q 47 (o0 :: some (.int x) :: l) st h = zR d 62 Q 48 (o0 :: some (.int x) :: l) (.int x :: st) h := q_in rfl rfl
theorem r62_48 : zR d 62 Q 48 (o0 :: o1 :: o2 :: some (.int x) :: l) st h = zR d 62 Q 49 (o0 :: o1 :: o2 :: some (.int x) :: l) (.int x :: st) h := q_in rfl rfl
theorem r62_49 : zR d 62 Q 49 lv st h = zR d 62 Q 50 lv (.int 1 :: st) h := q_in rfl rfl
theorem r62_50 : zR d 62 Q 50 lv st h = zR d 62 Q 52 lv (.int 99 :: st) h := q_in rfl rfl
theorem r62_52 : zR d 62 Q 52 lv [.int x4, .int x3, .int x2, .int x1, .ref c0] h = zM d 105 [.ref c0, .int x1, .int x2, .int x3, .int x4] h (fun r h' => zR d 62 Q 55 lv (r.toList ++ []) h') := q_clS rfl rfl ⟨Nat.le_of_ble_eq_true rfl, Nat.le_of_ble_eq_true rfl⟩
theorem r62_55 : zR d 62 Q 55 lv [.int x] h = Q (some (.int x)) h := q_retz rfl rfl (Or.inl rfl)
theorem r62_56 : zR d 62 Q 56 (some (.ref c) :: l) st h = zR d 62 Q 57 (some (.ref c) :: l) (.ref c :: st) h := q_in rfl rfl
theorem r62_57 : zR d 62 Q 57 lv (.ref 0 :: st) h = zR d 62 Q 60 lv (.ref 10 :: st) h := (q_and rfl rfl).trans (zand_t rfl)
theorem r62_60 : zR d 62 Q 60 lv (.ref c :: st) h = (zcls c = 5 ∧ zR d 62 Q 63 lv (.ref (c + 3) :: st) h) := q_and rfl rfl
theorem r62_63 : zR d 62 Q 63 (o0 :: some (.int x) :: l) st h = zR d 62 Q 64 (o0 :: some (.int x) :: l) (.int x :: st) h := q_in rfl rfl
theorem r62_64 : zR d 62 Q 64 (o0 :: o1 :: o2 :: some (.int x) :: l) st h = zR d 62 Q 65 (o0 :: o1 :: o2 :: some (.int x) :: l) (.int x :: st) h := q_in rfl rfl
theorem r62_65 : zR d 62 Q 65 lv st h = zR d 62 Q 66 lv (.int 0 :: st) h := q_in rfl rfl
theorem r62_66 : zR d 62 Q 66 lv st h = zR d 62 Q 67 lv (.int 1 :: st) h := q_in rfl rfl
theorem r62_67 : zR d 62 Q 67 lv [.int x4, .int x3, .int x2, .int x1, .ref c0] h = zM d 105 [.ref c0, .int x1, .int x2, .int x3, .int x4] h (fun r h' => zR d 62 Q 70 lv (r.toList ++ []) h') := q_clS rfl rfl ⟨Nat.le_of_ble_eq_true rfl, Nat.le_of_ble_eq_true rfl⟩
theorem r62_70 : zR d 62 Q 70 lv [.int x] h = Q (some (.int x)) h := q_retz rfl rfl (Or.inl rfl)
theorem r62_71 : zR d 62 Q 71 (some (.ref c) :: l) st h = zR d 62 Q 72 (some (.ref c) :: l) (.ref c :: st) h := q_in rfl rfl
theorem r62_72 : zR d 62 Q 72 lv (.ref 0 :: st) h = zR d 62 Q 75 lv (.ref 10 :: st) h := (q_and rfl rfl).trans (zand_t rfl)
theorem r62_75 : zR d 62 Q 75 lv (.ref c :: st) h = (zcls c = 5 ∧ zR d 62 Q 78 lv (.ref (c + 4) :: st) h) := q_and rfl rfl
theorem r62_78 : zR d 62 Q 78 (o0 :: some (.int x) :: l) st h = zR d 62 Q 79 (o0 :: some (.int x) :: l) (.int x :: st) h := q_in rfl rfl
theorem r62_79 : zR d 62 Q 79 (o0 :: o1 :: o2 :: some (.int x) :: l) st h = zR d 62 Q 80 (o0 :: o1 :: o2 :: some (.int x) :: l) (.int x :: st) h := q_in rfl rfl
theorem r62_80 : zR d 62 Q 80 lv st h = zR d 62 Q 81 lv (.int 0 :: st) h := q_in rfl rfl
theorem r62_81 : zR d 62 Q 81 lv st h = zR d 62 Q 84 lv (.int 9999 :: st) h := q_in rfl rfl
theorem r62_84 : zR d 62 Q 84 lv [.int x4, .int x3, .int x2, .int x1, .ref c0] h = zM d 105 [.ref c0, .int x1, .int x2, .int x3, .int x4] h (fun r h' => zR d 62 Q 87 lv (r.toList ++ []) h') := q_clS rfl rfl ⟨Nat.le_of_ble_eq_true rfl, Nat.le_of_ble_eq_true rfl⟩
theorem r62_87 : zR d 62 Q 87 lv [.int x] h = Q (some (.int x)) h := q_retz rfl rfl (Or.inl rfl)
theorem r62_88 : zR d 62 Q 88 lv st h = zR d 62 Q 90 lv (.int (-1000000001) :: st) h := q_in rfl rfl
theorem r62_90 : zR d 62 Q 90 lv [.int x] h = Q (some (.int x)) h := q_retz rfl rfl (Or.inl rfl)
theorem r63_0 : zR d 63 Q 0 (o0 :: some (.int x) :: l) st h = zR d 63 Q 1 (o0 :: some (.int x) :: l) (.int x :: st) h := q_in rfl rfl
theorem r63_1 : zR d 63 Q 1 lv (.int x :: st) h = if x = 6 then zR d 63 Q 28 lv st h else if x = 7 then zR d 63 Q 36 lv st h else zR d 63 Q 44 lv st h := (q_in rfl rfl).trans (by simp only [zsw, zR_ite])
theorem r63_28 : zR d 63 Q 28 (some (.ref c) :: l) st h = zR d 63 Q 29 (some (.ref c) :: l) (.ref c :: st) h := q_in rfl rfl
theorem r63_29 : zR d 63 Q 29 lv (.ref 0 :: st) h = zR d 63 Q 32 lv (.ref 10 :: st) h := (q_and rfl rfl).trans (zand_t rfl)
theorem r63_32 : zR d 63 Q 32 lv [.ref c] h = (zcls c = 5 ∧ zM d 46 [.ref c] h (fun r h' => zR d 63 Q 35 lv (r.toList ++ []) h')) := (q_clV rfl rfl (Nat.le_of_ble_eq_true rfl)).trans (zand_r (Nat.le_of_ble_eq_true rfl))
theorem r63_35 : zR d 63 Q 35 lv [.int x] h = Q (some (.int x)) h := q_retz rfl rfl (Or.inl rfl)
theorem r63_36 : zR d 63 Q 36 (some (.ref c) :: l) st h = zR d 63 Q 37 (some (.ref c) :: l) (.ref c :: st) h := q_in rfl rfl
theorem r63_37 : zR d 63 Q 37 lv (.ref 0 :: st) h = zR d 63 Q 40 lv (.ref 10 :: st) h := (q_and rfl rfl).trans (zand_t rfl)
theorem r63_40 : zR d 63 Q 40 lv [.ref c] h = (zcls c = 5 ∧ zM d 47 [.ref c] h (fun r h' => zR d 63 Q 43 lv (r.toList ++ []) h')) := (q_clV rfl rfl (Nat.le_of_ble_eq_true rfl)).trans (zand_r (Nat.le_of_ble_eq_true rfl))
theorem r63_43 : zR d 63 Q 43 lv [.int x] h = Q (some (.int x)) h := q_retz rfl rfl (Or.inl rfl)
theorem r63_44 : zR d 63 Q 44 (o0 :: some (.int x) :: l) st h = zR d 63 Q 45 (o0 :: some (.int x) :: l) (.int x :: st) h := q_in rfl rfl
theorem r63_45 : zR d 63 Q 45 lv st h = zR d 63 Q 46 lv (.int 0 :: st) h := q_in rfl rfl
theorem r63_46 : zR d 63 Q 46 lv st h = zR d 63 Q 47 lv (.int 5 :: st) h := q_in rfl rfl
theorem r63_47 : zR d 63 Q 47 lv [.int x2, .int x1, .int x0] h = zM d 103 [.int x0, .int x1, .int x2] h (fun r h' => zR d 63 Q 50 lv (r.toList ++ []) h') := q_clS rfl rfl ⟨Nat.le_of_ble_eq_true rfl, Nat.le_of_ble_eq_true rfl⟩
theorem r63_50 : zR d 63 Q 50 lv (.int x :: st) h = if x = 0 then zR d 63 Q 65 lv st h else zR d 63 Q 53 lv st h := q_if rfl rfl
theorem r63_53 : zR d 63 Q 53 (some (.ref c) :: l) st h = zR d 63 Q 54 (some (.ref c) :: l) (.ref c :: st) h := q_in rfl rfl
theorem r63_54 : zR d 63 Q 54 lv (.ref 0 :: st) h = zR d 63 Q 57 lv (.ref 10 :: st) h := (q_and rfl rfl).trans (zand_t rfl)
theorem r63_57 : zR d 63 Q 57 lv (.ref c :: st) h = (zcls c = 5 ∧ zR d 63 Q 60 lv (.ref (c + 6) :: st) h) := q_and rfl rfl
theorem r63_60 : zR d 63 Q 60 (o0 :: some (.int x) :: l) st h = zR d 63 Q 61 (o0 :: some (.int x) :: l) (.int x :: st) h := q_in rfl rfl
theorem r63_61 : zR d 63 Q 61 lv (.int x :: .ref c :: st) h = zal c x h (fun w => zR d 63 Q 62 lv (.int w :: st) h) := q_iald rfl
theorem r63_62 : zR d 63 Q 62 lv st h = zR d 63 Q 67 lv st h := q_in rfl rfl
theorem r63_65 : zR d 63 Q 65 lv st h = zR d 63 Q 67 lv (.int (-1000000001) :: st) h := q_in rfl rfl
theorem r63_67 : zR d 63 Q 67 lv [.int x] h = Q (some (.int x)) h := q_retz rfl rfl (Or.inl rfl)
theorem r64_0 : zR d 64 Q 0 (o0 :: some (.int x) :: l) st h = zR d 64 Q 1 (o0 :: some (.int x) :: l) (.int x :: st) h := q_in rfl rfl
theorem r64_1 : zR d 64 Q 1 lv st h = zR d 64 Q 2 lv (.int 0 :: st) h := q_in rfl rfl
theorem r64_2 : zR d 64 Q 2 lv st h = zR d 64 Q 3 lv (.int 5 :: st) h := q_in rfl rfl
theorem r64_3 : zR d 64 Q 3 lv [.int x2, .int x1, .int x0] h = zM d 103 [.int x0, .int x1, .int x2] h (fun r h' => zR d 64 Q 6 lv (r.toList ++ []) h') := q_clS rfl rfl ⟨Nat.le_of_ble_eq_true rfl, Nat.le_of_ble_eq_true rfl⟩
theorem r64_6 : zR d 64 Q 6 lv (.int x :: st) h = if x = 0 then zR d 64 Q 9 lv st h else zR d 64 Q 12 lv st h := q_if rfl rfl
theorem r64_9 : zR d 64 Q 9 lv st h = zR d 64 Q 11 lv (.int (-1000000001) :: st) h := q_in rfl rfl
theorem r64_11 : zR d 64 Q 11 lv [.int x] h = Q (some (.int x)) h := q_retz rfl rfl (Or.inl rfl)
theorem r64_12 : zR d 64 Q 12 (some (.ref c) :: l) st h = zR d 64 Q 13 (some (.ref c) :: l) (.ref c :: st) h := q_in rfl rfl
theorem r64_13 : zR d 64 Q 13 lv (.ref 0 :: st) h = zR d 64 Q 16 lv (.ref 10 :: st) h := (q_and rfl rfl).trans (zand_t rfl)
theorem r64_16 : zR d 64 Q 16 lv (.ref c :: st) h = (zcls c = 5 ∧ zR d 64 Q 19 lv (.ref (c + 6) :: st) h) := q_and rfl rfl
theorem r64_19 : zR d 64 Q 19 (o0 :: some (.int x) :: l) st h = zR d 64 Q 20 (o0 :: some (.int x) :: l) (.int x :: st) h := q_in rfl rfl
theorem r64_20 : zR d 64 Q 20 (o0 :: o1 :: some (.int x) :: l) st h = zR d 64 Q 21 (o0 :: o1 :: some (.int x) :: l) (.int x :: st) h := q_in rfl rfl
theorem r64_21 : zR d 64 Q 21 lv st h = zR d 64 Q 24 lv (.ref 81 :: st) h := q_in rfl rfl
theorem r64_24 : zR d 64 Q 24 (o0 :: some (.int x) :: l) st h = zR d 64 Q 25 (o0 :: some (.int x) :: l) (.int x :: st) h := q_in rfl rfl
theorem r64_25 : zR d 64 Q 25 lv (.int x :: .ref c :: st) h = zal c x h (fun w => zR d 64 Q 26 lv (.int w :: st) h) := q_iald rfl
theorem r64_26 : zR d 64 Q 26 lv st h = zR d 64 Q 29 lv (.ref 82 :: st) h := q_in rfl rfl
theorem r64_29 : zR d 64 Q 29 (o0 :: some (.int x) :: l) st h = zR d 64 Q 30 (o0 :: some (.int x) :: l) (.int x :: st) h := q_in rfl rfl
theorem r64_30 : zR d 64 Q 30 lv (.int x :: .ref c :: st) h = zal c x h (fun w => zR d 64 Q 31 lv (.int w :: st) h) := q_iald rfl
theorem r64_31 : zR d 64 Q 31 lv [.int x4, .int x3, .int x2, .int x1, .ref c0] h = zM d 105 [.ref c0, .int x1, .int x2, .int x3, .int x4] h (fun r h' => zR d 64 Q 34 lv (r.toList ++ []) h') := q_clS rfl rfl ⟨Nat.le_of_ble_eq_true rfl, Nat.le_of_ble_eq_true rfl⟩
theorem r64_34 : zR d 64 Q 34 lv [.int x] h = Q (some (.int x)) h := q_retz rfl rfl (Or.inl rfl)
theorem r65_0 : zR d 65 Q 0 (o0 :: some (.int x) :: l) st h = zR d 65 Q 1 (o0 :: some (.int x) :: l) (.int x :: st) h := q_in rfl rfl
theorem r65_1 : zR d 65 Q 1 lv st h = zR d 65 Q 2 lv (.int 0 :: st) h := q_in rfl rfl
theorem r65_2 : zR d 65 Q 2 lv st h = zR d 65 Q 5 lv (.int 999 :: st) h := q_in rfl rfl
theorem r65_5 : zR d 65 Q 5 lv [.int x2, .int x1, .int x0] h = zM d 103 [.int x0, .int x1, .int x2] h (fun r h' => zR d 65 Q 8 lv (r.toList ++ []) h') := q_clS rfl rfl ⟨Nat.le_of_ble_eq_true rfl, Nat.le_of_ble_eq_true rfl⟩
theorem r65_8 : zR d 65 Q 8 lv (.int x :: st) h = if x = 0 then zR d 65 Q 31 lv st h else zR d 65 Q 11 lv st h := q_if rfl rfl
theorem r65_11 : zR d 65 Q 11 (some (.ref c) :: l) st h = zR d 65 Q 12 (some (.ref c) :: l) (.ref c :: st) h := q_in rfl rfl
theorem r65_12 : zR d 65 Q 12 lv (.ref 0 :: st) h = zR d 65 Q 15 lv (.ref 10 :: st) h := (q_and rfl rfl).trans (zand_t rfl)
theorem r65_15 : zR d 65 Q 15 (some (.ref c) :: l) st h = zR d 65 Q 16 (some (.ref c) :: l) (.ref c :: st) h := q_in rfl rfl
theorem r65_16 : zR d 65 Q 16 lv (.ref 0 :: st) h = zR d 65 Q 19 lv (.ref 10 :: st) h := (q_and rfl rfl).trans (zand_t rfl)
theorem r65_19 : zR d 65 Q 19 lv (.ref c :: st) h = (zcls c = 5 ∧ zR d 65 Q 22 lv (.ref (c + 6) :: st) h) := q_and rfl rfl
theorem r65_22 : zR d 65 Q 22 lv st h = zR d 65 Q 23 lv (.int 3 :: st) h := q_in rfl rfl
theorem r65_23 : zR d 65 Q 23 lv (.int x :: .ref c :: st) h = zal c x h (fun w => zR d 65 Q 24 lv (.int w :: st) h) := q_iald rfl
theorem r65_24 : zR d 65 Q 24 (o0 :: some (.int x) :: l) st h = zR d 65 Q 25 (o0 :: some (.int x) :: l) (.int x :: st) h := q_in rfl rfl
theorem r65_25 : zR d 65 Q 25 lv [.int x1, .int x0, .ref c] h = (zcls c = 5 ∧ zM d 45 [.ref c, .int x0, .int x1] h (fun r h' => zR d 65 Q 28 lv (r.toList ++ []) h')) := (q_clV rfl rfl (Nat.le_of_ble_eq_true rfl)).trans (zand_r (Nat.le_of_ble_eq_true rfl))
theorem r65_28 : zR d 65 Q 28 lv st h = zR d 65 Q 33 lv st h := q_in rfl rfl
theorem r65_31 : zR d 65 Q 31 lv st h = zR d 65 Q 33 lv (.int (-1000000001) :: st) h := q_in rfl rfl
theorem r65_33 : zR d 65 Q 33 lv [.int x] h = Q (some (.int x)) h := q_retz rfl rfl (Or.inl rfl)
theorem r66_0 : zR d 66 Q 0 (some (.ref c) :: l) st h = zR d 66 Q 1 (some (.ref c) :: l) (.ref c :: st) h := q_in rfl rfl
theorem r66_1 : zR d 66 Q 1 lv (.ref 0 :: st) h = zR d 66 Q 4 lv (.ref 10 :: st) h := (q_and rfl rfl).trans (zand_t rfl)
theorem r66_4 : zR d 66 Q 4 lv [.ref c] h = (zcls c = 5 ∧ zM d 48 [.ref c] h (fun r h' => zR d 66 Q 7 lv (r.toList ++ []) h')) := (q_clV rfl rfl (Nat.le_of_ble_eq_true rfl)).trans (zand_r (Nat.le_of_ble_eq_true rfl))
theorem r66_7 : zR d 66 Q 7 lv [.int x] h = Q (some (.int x)) h := q_retz rfl rfl (Or.inl rfl)
theorem r67_0 : zR d 67 Q 0 (o0 :: some (.int x) :: l) st h = zR d 67 Q 1 (o0 :: some (.int x) :: l) (.int x :: st) h := q_in rfl rfl
theorem r67_1 : zR d 67 Q 1 lv st h = zR d 67 Q 2 lv (.int 1 :: st) h := q_in rfl rfl
theorem r67_2 : zR d 67 Q 2 lv st h = zR d 67 Q 4 lv (.int 10 :: st) h := q_in rfl rfl
theorem r67_4 : zR d 67 Q 4 lv [.int x2, .int x1, .int x0] h = zM d 103 [.int x0, .int x1, .int x2] h (fun r h' => zR d 67 Q 7 lv (r.toList ++ []) h') := q_clS rfl rfl ⟨Nat.le_of_ble_eq_true rfl, Nat.le_of_ble_eq_true rfl⟩
theorem r67_7 : zR d 67 Q 7 lv (.int x :: st) h = if x = 0 then zR d 67 Q 10 lv st h else zR d 67 Q 13 lv st h := q_if rfl rfl
theorem r67_10 : zR d 67 Q 10 lv st h = zR d 67 Q 12 lv (.int (-1000000001) :: st) h := q_in rfl rfl
theorem r67_12 : zR d 67 Q 12 lv [.int x] h = Q (some (.int x)) h := q_retz rfl rfl (Or.inl rfl)
theorem r67_13 : zR d 67 Q 13 (o0 :: some (.int x) :: l) st h = zR d 67 Q 14 (o0 :: some (.int x) :: l) (.int x :: st) h := q_in rfl rfl
theorem r67_14 : zR d 67 Q 14 lv st h = zR d 67 Q 16 lv (.int 10 :: st) h := q_in rfl rfl
theorem r67_16 : zR d 67 Q 16 (some (.ref c) :: l) st h = zR d 67 Q 17 (some (.ref c) :: l) (.ref c :: st) h := q_in rfl rfl
theorem r67_17 : zR d 67 Q 17 lv (.ref 0 :: st) h = zR d 67 Q 20 lv (.ref 10 :: st) h := (q_and rfl rfl).trans (zand_t rfl)
theorem r67_20 : zR d 67 Q 20 lv (.ref c :: st) h = (zcls c = 5 ∧ zR d 67 Q 23 lv (.int (h c 1) :: st) h) := q_and rfl rfl
theorem r67_23 : zR d 67 Q 23 lv (.int z :: .int x :: st) h = zR d 67 Q 24 lv (.int (x - z) :: st) h := q_in rfl rfl
theorem r67_24 : zR d 67 Q 24 lv [.int x1, .int x0] h = zM d 1001 [.int x0, .int x1] h (fun r h' => zR d 67 Q 27 lv (r.toList ++ []) h') := q_clS rfl rfl ⟨Nat.le_of_ble_eq_true rfl, Nat.le_of_ble_eq_true rfl⟩
theorem r67_27 : zR d 67 Q 27 (o0 :: o1 :: o2 :: l) (.int x :: st) h = zR d 67 Q 28 (o0 :: o1 :: some (.int x) :: l) st h := q_in rfl rfl
theorem r67_28 : zR d 67 Q 28 lv st h = zR d 67 Q 29 lv (.int 0 :: st) h := q_in rfl rfl
theorem r67_29 : zR d 67 Q 29 (o0 :: o1 :: o2 :: o3 :: l) (.int x :: st) h = zR d 67 Q 30 (o0 :: o1 :: o2 :: some (.int x) :: l) st h := q_in rfl rfl
theorem r67_30 : zR d 67 Q 30 (o0 :: o1 :: o2 :: some (.int x) :: l) st h = zR d 67 Q 31 (o0 :: o1 :: o2 :: some (.int x) :: l) (.int x :: st) h := q_in rfl rfl
theorem r67_31 : zR d 67 Q 31 (o0 :: o1 :: some (.int x) :: l) st h = zR d 67 Q 32 (o0 :: o1 :: some (.int x) :: l) (.int x :: st) h := q_in rfl rfl
theorem r67_32 : zR d 67 Q 32 lv (.int z :: .int x :: st) h = if x < z then zR d 67 Q 35 lv st h else zR d 67 Q 92 lv st h := q_if rfl rfl
theorem r67_35 : zR d 67 Q 35 (some (.ref c) :: l) st h = zR d 67 Q 36 (some (.ref c) :: l) (.ref c :: st) h := q_in rfl rfl
theorem r67_36 : zR d 67 Q 36 lv (.ref 0 :: st) h = zR d 67 Q 39 lv (.ref 10 :: st) h := (q_and rfl rfl).trans (zand_t rfl)
theorem r67_39 : zR d 67 Q 39 lv [.ref c] h = (zcls c = 5 ∧ zM d 39 [.ref c] h (fun r h' => zR d 67 Q 42 lv (r.toList ++ []) h')) := (q_clV rfl rfl (Nat.le_of_ble_eq_true rfl)).trans (zand_r (Nat.le_of_ble_eq_true rfl))
theorem r67_42 : zR d 67 Q 42 lv st h = zR d 67 Q 44 lv (.int 6 :: st) h := q_in rfl rfl
theorem r67_44 : zR d 67 Q 44 lv (.int 6 :: .int x :: st) h = zR d 67 Q 45 lv (.int (x - x / 6 * 6) :: st) h := (q_and rfl rfl).trans (zand_t (by decide))
theorem r67_45 : zR d 67 Q 45 (o0 :: o1 :: o2 :: o3 :: o4 :: l) (.int x :: st) h = zR d 67 Q 47 (o0 :: o1 :: o2 :: o3 :: some (.int x) :: l) st h := q_in rfl rfl
theorem r67_47 : zR d 67 Q 47 lv st h = zR d 67 Q 48 lv (.int 1 :: st) h := q_in rfl rfl
theorem r67_48 : zR d 67 Q 48 (some (.ref c) :: l) st h = zR d 67 Q 49 (some (.ref c) :: l) (.ref c :: st) h := q_in rfl rfl
theorem r67_49 : zR d 67 Q 49 lv (.ref 0 :: st) h = zR d 67 Q 52 lv (.ref 10 :: st) h := (q_and rfl rfl).trans (zand_t rfl)
theorem r67_52 : zR d 67 Q 52 lv [.ref c, .int y0] h = (zcls c = 5 ∧ zM d 39 [.ref c] h (fun r h' => zR d 67 Q 55 lv (r.toList ++ [.int y0]) h')) := (q_clV rfl rfl (Nat.le_of_ble_eq_true rfl)).trans (zand_r (Nat.le_of_ble_eq_true rfl))
theorem r67_55 : zR d 67 Q 55 lv st h = zR d 67 Q 57 lv (.int 60 :: st) h := q_in rfl rfl
theorem r67_57 : zR d 67 Q 57 lv (.int 60 :: .int x :: st) h = zR d 67 Q 58 lv (.int (x - x / 60 * 60) :: st) h := (q_and rfl rfl).trans (zand_t (by decide))
theorem r67_58 : zR d 67 Q 58 lv (.int z :: .int x :: st) h = zR d 67 Q 59 lv (.int (x + z) :: st) h := q_in rfl rfl
theorem r67_59 : zR d 67 Q 59 (o0 :: o1 :: o2 :: o3 :: o4 :: o5 :: l) (.int x :: st) h = zR d 67 Q 61 (o0 :: o1 :: o2 :: o3 :: o4 :: some (.int x) :: l) st h := q_in rfl rfl
theorem r67_61 : zR d 67 Q 61 (some (.ref c) :: l) st h = zR d 67 Q 62 (some (.ref c) :: l) (.ref c :: st) h := q_in rfl rfl
theorem r67_62 : zR d 67 Q 62 lv (.ref 0 :: st) h = zR d 67 Q 65 lv (.ref 10 :: st) h := (q_and rfl rfl).trans (zand_t rfl)
theorem r67_65 : zR d 67 Q 65 lv [.ref c] h = (zcls c = 5 ∧ zM d 39 [.ref c] h (fun r h' => zR d 67 Q 68 lv (r.toList ++ []) h')) := (q_clV rfl rfl (Nat.le_of_ble_eq_true rfl)).trans (zand_r (Nat.le_of_ble_eq_true rfl))
theorem r67_68 : zR d 67 Q 68 lv st h = zR d 67 Q 69 lv (.int 2 :: st) h := q_in rfl rfl
theorem r67_69 : zR d 67 Q 69 lv (.int 2 :: .int x :: st) h = zR d 67 Q 70 lv (.int (x - x / 2 * 2) :: st) h := (q_and rfl rfl).trans (zand_t (by decide))
theorem r67_70 : zR d 67 Q 70 (o0 :: o1 :: o2 :: o3 :: o4 :: o5 :: o6 :: l) (.int x :: st) h = zR d 67 Q 72 (o0 :: o1 :: o2 :: o3 :: o4 :: o5 :: some (.int x) :: l) st h := q_in rfl rfl
theorem r67_72 : zR d 67 Q 72 (some (.ref c) :: l) st h = zR d 67 Q 73 (some (.ref c) :: l) (.ref c :: st) h := q_in rfl rfl
theorem r67_73 : zR d 67 Q 73 lv (.ref 0 :: st) h = zR d 67 Q 76 lv (.ref 10 :: st) h := (q_and rfl rfl).trans (zand_t rfl)
theorem r67_76 : zR d 67 Q 76 (o0 :: o1 :: o2 :: o3 :: some (.int x) :: l) st h = zR d 67 Q 78 (o0 :: o1 :: o2 :: o3 :: some (.int x) :: l) (.int x :: st) h := q_in rfl rfl
theorem r67_78 : zR d 67 Q 78 (o0 :: o1 :: o2 :: o3 :: o4 :: some (.int x) :: l) st h = zR d 67 Q 80 (o0 :: o1 :: o2 :: o3 :: o4 :: some (.int x) :: l) (.int x :: st) h := q_in rfl rfl
theorem r67_80 : zR d 67 Q 80 (o0 :: o1 :: o2 :: o3 :: o4 :: o5 :: some (.int x) :: l) st h = zR d 67 Q 82 (o0 :: o1 :: o2 :: o3 :: o4 :: o5 :: some (.int x) :: l) (.int x :: st) h := q_in rfl rfl
theorem r67_82 : zR d 67 Q 82 lv [.int x2, .int x1, .int x0, .ref c] h = (zcls c = 5 ∧ zM d 38 [.ref c, .int x0, .int x1, .int x2] h (fun r h' => zR d 67 Q 85 lv (r.toList ++ []) h')) := (q_clV rfl rfl (Nat.le_of_ble_eq_true rfl)).trans (zand_r (Nat.le_of_ble_eq_true rfl))
theorem r67_85 : zR d 67 Q 85 lv (.int x :: st) h = zR d 67 Q 86 lv st h := q_in rfl rfl
theorem r67_86 : zR d 67 Q 86 (o0 :: o1 :: o2 :: some (.int x) :: l) st h = zR d 67 Q 89 (o0 :: o1 :: o2 :: some (.int (x + 1)) :: l) st h := q_in rfl rfl
theorem r67_89 : zR d 67 Q 89 lv st h = zR d 67 Q 30 lv st h := q_in rfl rfl
theorem r67_92 : zR d 67 Q 92 (o0 :: o1 :: some (.int x) :: l) st h = zR d 67 Q 93 (o0 :: o1 :: some (.int x) :: l) (.int x :: st) h := q_in rfl rfl
theorem r67_93 : zR d 67 Q 93 lv [.int x] h = Q (some (.int x)) h := q_retz rfl rfl (Or.inl rfl)
theorem r68_0 : zR d 68 Q 0 (some (.ref c) :: l) st h = zR d 68 Q 1 (some (.ref c) :: l) (.ref c :: st) h := q_in rfl rfl
theorem r68_1 : zR d 68 Q 1 lv (.ref 0 :: st) h = zR d 68 Q 4 lv (.ref 10 :: st) h := (q_and rfl rfl).trans (zand_t rfl)
theorem r68_4 : zR d 68 Q 4 lv (.ref c :: st) h = (zcls c = 5 ∧ zR d 68 Q 7 lv (.int (h c 11) :: st) h) := q_and rfl rfl
theorem r68_7 : zR d 68 Q 7 (o0 :: o1 :: o2 :: l) (.int x :: st) h = zR d 68 Q 8 (o0 :: o1 :: some (.int x) :: l) st h := q_in rfl rfl
theorem r68_8 : zR d 68 Q 8 (some (.ref c) :: l) st h = zR d 68 Q 9 (some (.ref c) :: l) (.ref c :: st) h := q_in rfl rfl
theorem r68_9 : zR d 68 Q 9 lv (.ref 0 :: st) h = zR d 68 Q 12 lv (.ref 10 :: st) h := (q_and rfl rfl).trans (zand_t rfl)
theorem r68_12 : zR d 68 Q 12 (o0 :: some (.int x) :: l) st h = zR d 68 Q 13 (o0 :: some (.int x) :: l) (.int x :: st) h := q_in rfl rfl
theorem r68_13 : zR d 68 Q 13 lv (.int x :: .ref c :: st) h = (zcls c = 5 ∧ zR d 68 Q 16 lv st (zhr h c (upd (h c) 11 x))) := (q_and rfl rfl).trans zand_0
theorem r68_16 : zR d 68 Q 16 (o0 :: o1 :: some (.int x) :: l) st h = zR d 68 Q 17 (o0 :: o1 :: some (.int x) :: l) (.int x :: st) h := q_in rfl rfl
theorem r68_17 : zR d 68 Q 17 lv [.int x] h = Q (some (.int x)) h := q_retz rfl rfl (Or.inl rfl)
theorem r69_0 : zR d 69 Q 0 (o0 :: some (.int x) :: l) st h = zR d 69 Q 1 (o0 :: some (.int x) :: l) (.int x :: st) h := q_in rfl rfl
theorem r69_1 : zR d 69 Q 1 lv st h = zR d 69 Q 2 lv (.int 1 :: st) h := q_in rfl rfl
theorem r69_2 : zR d 69 Q 2 lv st h = zR d 69 Q 4 lv (.int 100 :: st) h := q_in rfl rfl
theorem r69_4 : zR d 69 Q 4 lv [.int x2, .int x1, .int x0] h = zM d 103 [.int x0, .int x1, .int x2] h (fun r h' => zR d 69 Q 7 lv (r.toList ++ []) h') := q_clS rfl rfl ⟨Nat.le_of_ble_eq_true rfl, Nat.le_of_ble_eq_true rfl⟩
theorem r69_7 : zR d 69 Q 7 lv (.int x :: st) h = if x = 0 then zR d 69 Q 10 lv st h else zR d 69 Q 13 lv st h := q_if rfl rfl
theorem r69_10 : zR d 69 Q 10 lv st h = zR d 69 Q 12 lv (.int (-1000000001) :: st) h := q_in rfl rfl
theorem r69_12 : zR d 69 Q 12 lv [.int x] h = Q (some (.int x)) h := q_retz rfl rfl (Or.inl rfl)
theorem r69_13 : zR d 69 Q 13 (some (.ref c) :: l) st h = zR d 69 Q 14 (some (.ref c) :: l) (.ref c :: st) h := q_in rfl rfl
theorem r69_14 : zR d 69 Q 14 lv (.ref 0 :: st) h = zR d 69 Q 17 lv (.ref 10 :: st) h := (q_and rfl rfl).trans (zand_t rfl)
theorem r69_17 : zR d 69 Q 17 lv (.ref c :: st) h = (zcls c = 5 ∧ zR d 69 Q 20 lv (.int (h c 9) :: st) h) := q_and rfl rfl
theorem r69_20 : zR d 69 Q 20 (o0 :: o1 :: o2 :: l) (.int x :: st) h = zR d 69 Q 21 (o0 :: o1 :: some (.int x) :: l) st h := q_in rfl rfl
theorem r69_21 : zR d 69 Q 21 (some (.ref c) :: l) st h = zR d 69 Q 22 (some (.ref c) :: l) (.ref c :: st) h := q_in rfl rfl
theorem r69_22 : zR d 69 Q 22 lv (.ref 0 :: st) h = zR d 69 Q 25 lv (.ref 10 :: st) h := (q_and rfl rfl).trans (zand_t rfl)
theorem r69_25 : zR d 69 Q 25 (o0 :: some (.int x) :: l) st h = zR d 69 Q 26 (o0 :: some (.int x) :: l) (.int x :: st) h := q_in rfl rfl
theorem r69_26 : zR d 69 Q 26 lv st h = zR d 69 Q 29 lv (.int 9999 :: st) h := q_in rfl rfl
theorem r69_29 : zR d 69 Q 29 (some (.ref c) :: l) st h = zR d 69 Q 30 (some (.ref c) :: l) (.ref c :: st) h := q_in rfl rfl
theorem r69_30 : zR d 69 Q 30 lv (.ref 0 :: st) h = zR d 69 Q 33 lv (.ref 10 :: st) h := (q_and rfl rfl).trans (zand_t rfl)
theorem r69_33 : zR d 69 Q 33 lv (.ref c :: st) h = (zcls c = 5 ∧ zR d 69 Q 36 lv (.int (h c 10) :: st) h) := q_and rfl rfl
theorem r69_36 : zR d 69 Q 36 lv (.int z :: .int x :: st) h = zR d 69 Q 37 lv (.int (x - z) :: st) h := q_in rfl rfl
theorem r69_37 : zR d 69 Q 37 lv [.int x1, .int x0, .ref a0] h = zM d 1001 [.int x0, .int x1] h (fun r h' => zR d 69 Q 40 lv (r.toList ++ [.ref a0]) h') := q_clS rfl rfl ⟨Nat.le_of_ble_eq_true rfl, Nat.le_of_ble_eq_true rfl⟩
theorem r69_40 : zR d 69 Q 40 lv [.int x0, .ref c] h = (zcls c = 5 ∧ zM d 53 [.ref c, .int x0] h (fun r h' => zR d 69 Q 43 lv (r.toList ++ []) h')) := (q_clV rfl rfl (Nat.le_of_ble_eq_true rfl)).trans (zand_r (Nat.le_of_ble_eq_true rfl))
theorem r69_43 : zR d 69 Q 43 (some (.ref c) :: l) st h = zR d 69 Q 44 (some (.ref c) :: l) (.ref c :: st) h := q_in rfl rfl
theorem r69_44 : zR d 69 Q 44 lv (.ref 0 :: st) h = zR d 69 Q 47 lv (.ref 10 :: st) h := (q_and rfl rfl).trans (zand_t rfl)
theorem r69_47 : zR d 69 Q 47 lv (.ref c :: st) h = (zcls c = 5 ∧ zR d 69 Q 50 lv (.int (h c 9) :: st) h) := q_and rfl rfl
theorem r69_50 : zR d 69 Q 50 (o0 :: o1 :: some (.int x) :: l) st h = zR d 69 Q 51 (o0 :: o1 :: some (.int x) :: l) (.int x :: st) h := q_in rfl rfl
theorem r69_51 : zR d 69 Q 51 lv (.int z :: .int x :: st) h = zR d 69 Q 52 lv (.int (x - z) :: st) h := q_in rfl rfl
theorem r69_52 : zR d 69 Q 52 lv [.int x] h = Q (some (.int x)) h := q_retz rfl rfl (Or.inl rfl)
theorem r70_0 : zR d 70 Q 0 (o0 :: some (.int x) :: l) st h = zR d 70 Q 1 (o0 :: some (.int x) :: l) (.int x :: st) h := q_in rfl rfl
theorem r70_1 : zR d 70 Q 1 lv (.int x :: st) h = if x = 0 then zR d 70 Q 32 lv st h else if x = 1 then zR d 70 Q 40 lv st h else if x = 2 then zR d 70 Q 48 lv st h else if x = 3 then zR d 70 Q 63 lv st h else zR d 70 Q 78 lv st h := (q_in rfl rfl).trans (by simp only [zsw, zR_ite])
theorem r70_32 : zR d 70 Q 32 (some (.ref c) :: l) st h = zR d 70 Q 33 (some (.ref c) :: l) (.ref c :: st) h := q_in rfl rfl
theorem r70_33 : zR d 70 Q 33 lv (.ref 0 :: st) h = zR d 70 Q 36 lv (.ref 10 :: st) h := (q_and rfl rfl).trans (zand_t rfl)
theorem r70_36 : zR d 70 Q 36 lv (.ref c :: st) h = (zcls c = 5 ∧ zR d 70 Q 39 lv (.int (h c 8) :: st) h) := q_and rfl rfl
theorem r70_39 : zR d 70 Q 39 lv [.int x] h = Q (some (.int x)) h := q_retz rfl rfl (Or.inl rfl)
theorem r70_40 : zR d 70 Q 40 (some (.ref c) :: l) st h = zR d 70 Q 41 (some (.ref c) :: l) (.ref c :: st) h := q_in rfl rfl
theorem r70_41 : zR d 70 Q 41 lv (.ref 0 :: st) h = zR d 70 Q 44 lv (.ref 10 :: st) h := (q_and rfl rfl).trans (zand_t rfl)
theorem r70_44 : zR d 70 Q 44 lv (.ref c :: st) h = (zcls c = 5 ∧ zR d 70 Q 47 lv (.int (h c 9) :: st) h) := q_and rfl rfl
theorem r70_47 : zR d 70 Q 47 lv [.int x] h = Q (some (.int x)) h := q_retz rfl rfl (Or.inl rfl)
theorem r70_48 : zR d 70 Q 48 (some (.ref c) :: l) st h = zR d 70 Q 49 (some (.ref c) :: l) (.ref c :: st) h := q_in rfl rfl
theorem r70_49 : zR d 70 Q 49 lv (.ref 0 :: st) h = zR d 70 Q 52 lv (.ref 10 :: st) h := (q_and rfl rfl).trans (zand_t rfl)
theorem r70_52 : zR d 70 Q 52 (some (.ref c) :: l) st h = zR d 70 Q 53 (some (.ref c) :: l) (.ref c :: st) h := q_in rfl rfl
theorem r70_53 : zR d 70 Q 53 lv (.ref 0 :: st) h = zR d 70 Q 56 lv (.ref 10 :: st) h := (q_and rfl rfl).trans (zand_t rfl)
theorem r70_56 : zR d 70 Q 56 lv (.ref c :: st) h = (zcls c = 5 ∧ zR d 70 Q 59 lv (.ref (c + 4) :: st) h) := q_and rfl rfl
theorem r70_59 : zR d 70 Q 59 lv [.ref c0, .ref c] h = (zcls c = 5 ∧ zM d 41 [.ref c, .ref c0] h (fun r h' => zR d 70 Q 62 lv (r.toList ++ []) h')) := (q_clV rfl rfl (Nat.le_of_ble_eq_true rfl)).trans (zand_r (Nat.le_of_ble_eq_true rfl))
theorem r70_62 : zR d 70 Q 62 lv [.int x] h = Q (some (.int x)) h := q_retz rfl rfl (Or.inl rfl)
theorem r70_63 : zR d 70 Q 63 (some (.ref c) :: l) st h = zR d 70 Q 64 (some (.ref c) :: l) (.ref c :: st) h := q_in rfl rfl
theorem r70_64 : zR d 70 Q 64 lv (.ref 0 :: st) h = zR d 70 Q 67 lv (.ref 10 :: st) h := (q_and rfl rfl).trans (zand_t rfl)
theorem r70_67 : zR d 70 Q 67 (some (.ref c) :: l) st h = zR d 70 Q 68 (some (.ref c) :: l) (.ref c :: st) h := q_in rfl rfl
theorem r70_68 : zR d 70 Q 68 lv (.ref 0 :: st) h = zR d 70 Q 71 lv (.ref 10 :: st) h := (q_and rfl rfl).trans (zand_t rfl)
theorem r70_71 : zR d 70 Q 71 lv (.ref c :: st) h = (zcls c = 5 ∧ zR d 70 Q 74 lv (.ref (c + 5) :: st) h) := q_and rfl rfl
theorem r70_74 : zR d 70 Q 74 lv [.ref c0, .ref c] h = (zcls c = 5 ∧ zM d 41 [.ref c, .ref c0] h (fun r h' => zR d 70 Q 77 lv (r.toList ++ []) h')) := (q_clV rfl rfl (Nat.le_of_ble_eq_true rfl)).trans (zand_r (Nat.le_of_ble_eq_true rfl))
theorem r70_77 : zR d 70 Q 77 lv [.int x] h = Q (some (.int x)) h := q_retz rfl rfl (Or.inl rfl)
theorem r70_78 : zR d 70 Q 78 lv st h = zR d 70 Q 80 lv (.int (-1000000001) :: st) h := q_in rfl rfl
theorem r70_80 : zR d 70 Q 80 lv [.int x] h = Q (some (.int x)) h := q_retz rfl rfl (Or.inl rfl)
theorem r71_0 : zR d 71 Q 0 lv st h = zR d 71 Q 1 lv (.int 0 :: st) h := q_in rfl rfl
theorem r71_1 : zR d 71 Q 1 (o0 :: o1 :: l) (.int x :: st) h = zR d 71 Q 2 (o0 :: some (.int x) :: l) st h := q_in rfl rfl
theorem r71_2 : zR d 71 Q 2 (o0 :: some (.int x) :: l) st h = zR d 71 Q 3 (o0 :: some (.int x) :: l) (.int x :: st) h := q_in rfl rfl
theorem r71_3 : zR d 71 Q 3 lv st h = zR d 71 Q 5 lv (.int 99 :: st) h := q_in rfl rfl
theorem r71_5 : zR d 71 Q 5 lv (.int z :: .int x :: st) h = if x ≤ z then zR d 71 Q 8 lv st h else zR d 71 Q 37 lv st h := q_if rfl rfl
theorem r71_8 : zR d 71 Q 8 (some (.ref c) :: l) st h = zR d 71 Q 9 (some (.ref c) :: l) (.ref c :: st) h := q_in rfl rfl
theorem r71_9 : zR d 71 Q 9 lv (.ref 0 :: st) h = zR d 71 Q 12 lv (.ref 10 :: st) h := (q_and rfl rfl).trans (zand_t rfl)
theorem r71_12 : zR d 71 Q 12 (o0 :: some (.int x) :: l) st h = zR d 71 Q 13 (o0 :: some (.int x) :: l) (.int x :: st) h := q_in rfl rfl
theorem r71_13 : zR d 71 Q 13 lv st h = zR d 71 Q 14 lv (.int 0 :: st) h := q_in rfl rfl
theorem r71_14 : zR d 71 Q 14 lv [.int x1, .int x0, .ref c] h = (zcls c = 5 ∧ zM d 45 [.ref c, .int x0, .int x1] h (fun r h' => zR d 71 Q 17 lv (r.toList ++ []) h')) := (q_clV rfl rfl (Nat.le_of_ble_eq_true rfl)).trans (zand_r (Nat.le_of_ble_eq_true rfl))
theorem r71_17 : zR d 71 Q 17 (some (.ref c) :: l) st h = zR d 71 Q 18 (some (.ref c) :: l) (.ref c :: st) h := q_in rfl rfl
theorem r71_18 : zR d 71 Q 18 lv (.ref 0 :: st) h = zR d 71 Q 21 lv (.ref 10 :: st) h := (q_and rfl rfl).trans (zand_t rfl)
theorem r71_21 : zR d 71 Q 21 lv (.ref c :: st) h = (zcls c = 5 ∧ zR d 71 Q 24 lv (.ref (c + 6) :: st) h) := q_and rfl rfl
theorem r71_24 : zR d 71 Q 24 lv st h = zR d 71 Q 25 lv (.int 4 :: st) h := q_in rfl rfl
theorem r71_25 : zR d 71 Q 25 lv (.int x :: .ref c :: st) h = zal c x h (fun w => zR d 71 Q 26 lv (.int w :: st) h) := q_iald rfl
theorem r71_26 : zR d 71 Q 26 lv (.int z :: .int x :: st) h = if x ≤ z then zR d 71 Q 31 lv st h else zR d 71 Q 29 lv st h := q_if rfl rfl
theorem r71_29 : zR d 71 Q 29 (o0 :: some (.int x) :: l) st h = zR d 71 Q 30 (o0 :: some (.int x) :: l) (.int x :: st) h := q_in rfl rfl
theorem r71_30 : zR d 71 Q 30 lv [.int x] h = Q (some (.int x)) h := q_retz rfl rfl (Or.inl rfl)
theorem r71_31 : zR d 71 Q 31 (o0 :: some (.int x) :: l) st h = zR d 71 Q 34 (o0 :: some (.int (x + 1)) :: l) st h := q_in rfl rfl
theorem r71_34 : zR d 71 Q 34 lv st h = zR d 71 Q 2 lv st h := q_in rfl rfl
theorem r71_37 : zR d 71 Q 37 lv st h = zR d 71 Q 39 lv (.int (-1000000005) :: st) h := q_in rfl rfl
theorem r71_39 : zR d 71 Q 39 lv [.int x] h = Q (some (.int x)) h := q_retz rfl rfl (Or.inl rfl)
theorem r72_0 : zR d 72 Q 0 (o0 :: some (.int x) :: l) st h = zR d 72 Q 1 (o0 :: some (.int x) :: l) (.int x :: st) h := q_in rfl rfl
theorem r72_1 : zR d 72 Q 1 lv st h = zR d 72 Q 2 lv (.int 0 :: st) h := q_in rfl rfl
theorem r72_2 : zR d 72 Q 2 lv st h = zR d 72 Q 3 lv (.int 1 :: st) h := q_in rfl rfl
theorem r72_3 : zR d 72 Q 3 lv [.int x2, .int x1, .int x0] h = zM d 103 [.int x0, .int x1, .int x2] h (fun r h' => zR d 72 Q 6 lv (r.toList ++ []) h') := q_clS rfl rfl ⟨Nat.le_of_ble_eq_true rfl, Nat.le_of_ble_eq_true rfl⟩
theorem r72_6 : zR d 72 Q 6 lv (.int x :: st) h = if x = 0 then zR d 72 Q 9 lv st h else zR d 72 Q 12 lv st h := q_if rfl rfl
theorem r72_9 : zR d 72 Q 9 lv st h = zR d 72 Q 11 lv (.int (-1000000001) :: st) h := q_in rfl rfl
theorem r72_11 : zR d 72 Q 11 lv [.int x] h = Q (some (.int x)) h := q_retz rfl rfl (Or.inl rfl)
theorem r72_12 : zR d 72 Q 12 (some (.ref c) :: l) st h = zR d 72 Q 13 (some (.ref c) :: l) (.ref c :: st) h := q_in rfl rfl
theorem r72_13 : zR d 72 Q 13 lv (.ref 0 :: st) h = zR d 72 Q 16 lv (.ref 10 :: st) h := (q_and rfl rfl).trans (zand_t rfl)
theorem r72_16 : zR d 72 Q 16 lv [.ref c] h = (zcls c = 5 ∧ zM d 50 [.ref c] h (fun r h' => zR d 72 Q 19 lv (r.toList ++ []) h')) := (q_clV rfl rfl (Nat.le_of_ble_eq_true rfl)).trans (zand_r (Nat.le_of_ble_eq_true rfl))
theorem r72_19 : zR d 72 Q 19 (o0 :: o1 :: o2 :: l) (.int x :: st) h = zR d 72 Q 20 (o0 :: o1 :: some (.int x) :: l) st h := q_in rfl rfl
theorem r72_20 : zR d 72 Q 20 (o0 :: o1 :: some (.int x) :: l) st h = zR d 72 Q 21 (o0 :: o1 :: some (.int x) :: l) (.int x :: st) h := q_in rfl rfl
theorem r72_21 : zR d 72 Q 21 lv (.int x :: st) h = if x < 0 then zR d 72 Q 24 lv st h else zR d 72 Q 27 lv st h := q_if rfl rfl
theorem r72_24 : zR d 72 Q 24 lv st h = zR d 72 Q 26 lv (.int (-1000000005) :: st) h := q_in rfl rfl
theorem r72_26 : zR d 72 Q 26 lv [.int x] h = Q (some (.int x)) h := q_retz rfl rfl (Or.inl rfl)
theorem r72_27 : zR d 72 Q 27 (o0 :: some (.int x) :: l) st h = zR d 72 Q 28 (o0 :: some (.int x) :: l) (.int x :: st) h := q_in rfl rfl
theorem r72_28 : zR d 72 Q 28 lv (.int x :: st) h = if x = 0 then zR d 72 Q 31 lv st h else zR d 72 Q 35 lv st h := q_if rfl rfl
theorem r72_31 : zR d 72 Q 31 (o0 :: o1 :: some (.int x) :: l) st h = zR d 72 Q 32 (o0 :: o1 :: some (.int x) :: l) (.int x :: st) h := q_in rfl rfl
theorem r72_32 : zR d 72 Q 32 lv st h = zR d 72 Q 43 lv st h := q_in rfl rfl
theorem r72_35 : zR d 72 Q 35 (some (.ref c) :: l) st h = zR d 72 Q 36 (some (.ref c) :: l) (.ref c :: st) h := q_in rfl rfl
theorem r72_36 : zR d 72 Q 36 lv (.ref 0 :: st) h = zR d 72 Q 39 lv (.ref 10 :: st) h := (q_and rfl rfl).trans (zand_t rfl)
theorem r72_39 : zR d 72 Q 39 (o0 :: o1 :: some (.int x) :: l) st h = zR d 72 Q 40 (o0 :: o1 :: some (.int x) :: l) (.int x :: st) h := q_in rfl rfl
theorem r72_40 : zR d 72 Q 40 lv [.int x0, .ref c] h = (zcls c = 5 ∧ zM d 44 [.ref c, .int x0] h (fun r h' => zR d 72 Q 43 lv (r.toList ++ []) h')) := (q_clV rfl rfl (Nat.le_of_ble_eq_true rfl)).trans (zand_r (Nat.le_of_ble_eq_true rfl))
theorem r72_43 : zR d 72 Q 43 lv [.int x] h = Q (some (.int x)) h := q_retz rfl rfl (Or.inl rfl)
theorem r73_0 : zR d 73 Q 0 (o0 :: some (.int x) :: l) st h = zR d 73 Q 1 (o0 :: some (.int x) :: l) (.int x :: st) h := q_in rfl rfl
theorem r73_1 : zR d 73 Q 1 lv st h = zR d 73 Q 2 lv (.int 0 :: st) h := q_in rfl rfl
theorem r73_2 : zR d 73 Q 2 lv st h = zR d 73 Q 4 lv (.int 100 :: st) h := q_in rfl rfl
theorem r73_4 : zR d 73 Q 4 lv [.int x2, .int x1, .int x0] h = zM d 103 [.int x0, .int x1, .int x2] h (fun r h' => zR d 73 Q 7 lv (r.toList ++ []) h') := q_clS rfl rfl ⟨Nat.le_of_ble_eq_true rfl, Nat.le_of_ble_eq_true rfl⟩
theorem r73_7 : zR d 73 Q 7 lv (.int x :: st) h = if x = 0 then zR d 73 Q 19 lv st h else zR d 73 Q 10 lv st h := q_if rfl rfl
theorem r73_10 : zR d 73 Q 10 (o0 :: o1 :: some (.int x) :: l) st h = zR d 73 Q 11 (o0 :: o1 :: some (.int x) :: l) (.int x :: st) h := q_in rfl rfl
theorem r73_11 : zR d 73 Q 11 lv st h = zR d 73 Q 12 lv (.int 0 :: st) h := q_in rfl rfl
theorem r73_12 : zR d 73 Q 12 lv st h = zR d 73 Q 13 lv (.int 4 :: st) h := q_in rfl rfl
theorem r73_13 : zR d 73 Q 13 lv [.int x2, .int x1, .int x0] h = zM d 103 [.int x0, .int x1, .int x2] h (fun r h' => zR d 73 Q 16 lv (r.toList ++ []) h') := q_clS rfl rfl ⟨Nat.le_of_ble_eq_true rfl, Nat.le_of_ble_eq_true rfl⟩
theorem r73_16 : zR d 73 Q 16 lv (.int x :: st) h = if x = 0 then zR d 73 Q 19 lv st h else zR d 73 Q 22 lv st h := q_if rfl rfl
theorem r73_19 : zR d 73 Q 19 lv st h = zR d 73 Q 21 lv (.int (-1000000001) :: st) h := q_in rfl rfl
theorem r73_21 : zR d 73 Q 21 lv [.int x] h = Q (some (.int x)) h := q_retz rfl rfl (Or.inl rfl)
theorem r73_22 : zR d 73 Q 22 (some (.ref c) :: l) st h = zR d 73 Q 23 (some (.ref c) :: l) (.ref c :: st) h := q_in rfl rfl
theorem r73_23 : zR d 73 Q 23 lv (.ref 0 :: st) h = zR d 73 Q 26 lv (.ref 26 :: st) h := (q_and rfl rfl).trans (zand_t rfl)
theorem r73_26 : zR d 73 Q 26 (some (.ref c) :: l) st h = zR d 73 Q 27 (some (.ref c) :: l) (.ref c :: st) h := q_in rfl rfl
theorem r73_27 : zR d 73 Q 27 lv (.ref 0 :: st) h = zR d 73 Q 30 lv (.ref 10 :: st) h := (q_and rfl rfl).trans (zand_t rfl)
theorem r73_30 : zR d 73 Q 30 lv [.ref c0, .ref c] h = (zcls c = 5 ∧ zM d 36 [.ref c, .ref c0] h (fun r h' => zR d 73 Q 33 lv (r.toList ++ []) h')) := (q_clV rfl rfl (Nat.le_of_ble_eq_true rfl)).trans (zand_r (Nat.le_of_ble_eq_true rfl))
theorem r73_33 : zR d 73 Q 33 (some (.ref c) :: l) st h = zR d 73 Q 34 (some (.ref c) :: l) (.ref c :: st) h := q_in rfl rfl
theorem r73_34 : zR d 73 Q 34 lv (.ref 0 :: st) h = zR d 73 Q 37 lv (.ref 26 :: st) h := (q_and rfl rfl).trans (zand_t rfl)
theorem r73_37 : zR d 73 Q 37 (o0 :: some (.int x) :: l) st h = zR d 73 Q 38 (o0 :: some (.int x) :: l) (.int x :: st) h := q_in rfl rfl
theorem r73_38 : zR d 73 Q 38 lv [.int x0, .ref c] h = (zcls c = 5 ∧ zM d 53 [.ref c, .int x0] h (fun r h' => zR d 73 Q 41 lv (r.toList ++ []) h')) := (q_clV rfl rfl (Nat.le_of_ble_eq_true rfl)).trans (zand_r (Nat.le_of_ble_eq_true rfl))
theorem r73_41 : zR d 73 Q 41 (o0 :: o1 :: some (.int x) :: l) st h = zR d 73 Q 42 (o0 :: o1 :: some (.int x) :: l) (.int x :: st) h := q_in rfl rfl
theorem r73_42 : zR d 73 Q 42 lv (.int x :: st) h = if x = 0 then zR d 73 Q 72 lv st h else if x = 1 then zR d 73 Q 80 lv st h else if x = 2 then zR d 73 Q 88 lv st h else if x = 3 then zR d 73 Q 103 lv st h else zR d 73 Q 113 lv st h := (q_in rfl rfl).trans (by simp only [zsw, zR_ite])
theorem r73_72 : zR d 73 Q 72 (some (.ref c) :: l) st h = zR d 73 Q 73 (some (.ref c) :: l) (.ref c :: st) h := q_in rfl rfl
theorem r73_73 : zR d 73 Q 73 lv (.ref 0 :: st) h = zR d 73 Q 76 lv (.ref 26 :: st) h := (q_and rfl rfl).trans (zand_t rfl)
theorem r73_76 : zR d 73 Q 76 lv (.ref c :: st) h = (zcls c = 5 ∧ zR d 73 Q 79 lv (.int (h c 9) :: st) h) := q_and rfl rfl
theorem r73_79 : zR d 73 Q 79 lv [.int x] h = Q (some (.int x)) h := q_retz rfl rfl (Or.inl rfl)
theorem r73_80 : zR d 73 Q 80 (some (.ref c) :: l) st h = zR d 73 Q 81 (some (.ref c) :: l) (.ref c :: st) h := q_in rfl rfl
theorem r73_81 : zR d 73 Q 81 lv (.ref 0 :: st) h = zR d 73 Q 84 lv (.ref 26 :: st) h := (q_and rfl rfl).trans (zand_t rfl)
theorem r73_84 : zR d 73 Q 84 lv (.ref c :: st) h = (zcls c = 5 ∧ zR d 73 Q 87 lv (.int (h c 8) :: st) h) := q_and rfl rfl
theorem r73_87 : zR d 73 Q 87 lv [.int x] h = Q (some (.int x)) h := q_retz rfl rfl (Or.inl rfl)
theorem r73_88 : zR d 73 Q 88 (some (.ref c) :: l) st h = zR d 73 Q 89 (some (.ref c) :: l) (.ref c :: st) h := q_in rfl rfl
theorem r73_89 : zR d 73 Q 89 lv (.ref 0 :: st) h = zR d 73 Q 92 lv (.ref 26 :: st) h := (q_and rfl rfl).trans (zand_t rfl)
theorem r73_92 : zR d 73 Q 92 (some (.ref c) :: l) st h = zR d 73 Q 93 (some (.ref c) :: l) (.ref c :: st) h := q_in rfl rfl
theorem r73_93 : zR d 73 Q 93 lv (.ref 0 :: st) h = zR d 73 Q 96 lv (.ref 26 :: st) h := (q_and rfl rfl).trans (zand_t rfl)
theorem r73_96 : zR d 73 Q 96 lv (.ref c :: st) h = (zcls c = 5 ∧ zR d 73 Q 99 lv (.ref (c + 4) :: st) h) := q_and rfl rfl
theorem r73_99 : zR d 73 Q 99 lv [.ref c0, .ref c] h = (zcls c = 5 ∧ zM d 41 [.ref c, .ref c0] h (fun r h' => zR d 73 Q 102 lv (r.toList ++ []) h')) := (q_clV rfl rfl (Nat.le_of_ble_eq_true rfl)).trans (zand_r (Nat.le_of_ble_eq_true rfl))
theorem r73_102 : zR d 73 Q 102 lv [.int x] h = Q (some (.int x)) h := q_retz rfl rfl (Or.inl rfl)
theorem r73_103 : zR d 73 Q 103 (some (.ref c) :: l) st h = zR d 73 Q 104 (some (.ref c) :: l) (.ref c :: st) h := q_in rfl rfl
theorem r73_104 : zR d 73 Q 104 lv (.ref 0 :: st) h = zR d 73 Q 107 lv (.ref 26 :: st) h := (q_and rfl rfl).trans (zand_t rfl)
theorem r73_107 : zR d 73 Q 107 lv (.ref c :: st) h = (zcls c = 5 ∧ zR d 73 Q 110 lv (.ref (c + 6) :: st) h) := q_and rfl rfl
theorem r73_110 : zR d 73 Q 110 lv st h = zR d 73 Q 111 lv (.int 0 :: st) h := q_in rfl rfl
theorem r73_111 : zR d 73 Q 111 lv (.int x :: .ref c :: st) h = zal c x h (fun w => zR d 73 Q 112 lv (.int w :: st) h) := q_iald rfl
theorem r73_112 : zR d 73 Q 112 lv [.int x] h = Q (some (.int x)) h := q_retz rfl rfl (Or.inl rfl)
theorem r73_113 : zR d 73 Q 113 (some (.ref c) :: l) st h = zR d 73 Q 114 (some (.ref c) :: l) (.ref c :: st) h := q_in rfl rfl
theorem r73_114 : zR d 73 Q 114 lv (.ref 0 :: st) h = zR d 73 Q 117 lv (.ref 26 :: st) h := (q_and rfl rfl).trans (zand_t rfl)
theorem r73_117 : zR d 73 Q 117 lv (.ref c :: st) h = (zcls c = 5 ∧ zR d 73 Q 120 lv (.ref (c + 6) :: st) h) := q_and rfl rfl
theorem r73_120 : zR d 73 Q 120 lv st h = zR d 73 Q 121 lv (.int 3 :: st) h := q_in rfl rfl
theorem r73_121 : zR d 73 Q 121 lv (.int x :: .ref c :: st) h = zal c x h (fun w => zR d 73 Q 122 lv (.int w :: st) h) := q_iald rfl
theorem r73_122 : zR d 73 Q 122 lv [.int x] h = Q (some (.int x)) h := q_retz rfl rfl (Or.inl rfl)
theorem r74_0 : zR d 74 Q 0 (o0 :: some (.int x) :: l) st h = zR d 74 Q 1 (o0 :: some (.int x) :: l) (.int x :: st) h := q_in rfl rfl
theorem r74_1 : zR d 74 Q 1 lv st h = zR d 74 Q 2 lv (.int 1 :: st) h := q_in rfl rfl
theorem r74_2 : zR d 74 Q 2 lv st h = zR d 74 Q 4 lv (.int 60 :: st) h := q_in rfl rfl
theorem r74_4 : zR d 74 Q 4 lv [.int x2, .int x1, .int x0] h = zM d 103 [.int x0, .int x1, .int x2] h (fun r h' => zR d 74 Q 7 lv (r.toList ++ []) h') := q_clS rfl rfl ⟨Nat.le_of_ble_eq_true rfl, Nat.le_of_ble_eq_true rfl⟩
theorem r74_7 : zR d 74 Q 7 lv (.int x :: st) h = if x = 0 then zR d 74 Q 19 lv st h else zR d 74 Q 10 lv st h := q_if rfl rfl
theorem r74_10 : zR d 74 Q 10 (o0 :: o1 :: some (.int x) :: l) st h = zR d 74 Q 11 (o0 :: o1 :: some (.int x) :: l) (.int x :: st) h := q_in rfl rfl
theorem r74_11 : zR d 74 Q 11 lv st h = zR d 74 Q 12 lv (.int 0 :: st) h := q_in rfl rfl
theorem r74_12 : zR d 74 Q 12 lv st h = zR d 74 Q 13 lv (.int 1 :: st) h := q_in rfl rfl
theorem r74_13 : zR d 74 Q 13 lv [.int x2, .int x1, .int x0] h = zM d 103 [.int x0, .int x1, .int x2] h (fun r h' => zR d 74 Q 16 lv (r.toList ++ []) h') := q_clS rfl rfl ⟨Nat.le_of_ble_eq_true rfl, Nat.le_of_ble_eq_true rfl⟩
theorem r74_16 : zR d 74 Q 16 lv (.int x :: st) h = if x = 0 then zR d 74 Q 19 lv st h else zR d 74 Q 22 lv st h := q_if rfl rfl
theorem r74_19 : zR d 74 Q 19 lv st h = zR d 74 Q 21 lv (.int (-1000000001) :: st) h := q_in rfl rfl
theorem r74_21 : zR d 74 Q 21 lv [.int x] h = Q (some (.int x)) h := q_retz rfl rfl (Or.inl rfl)
theorem r74_22 : zR d 74 Q 22 lv st h = zR d 74 Q 23 lv (.int 0 :: st) h := q_in rfl rfl
theorem r74_23 : zR d 74 Q 23 (o0 :: o1 :: o2 :: o3 :: l) (.int x :: st) h = zR d 74 Q 24 (o0 :: o1 :: o2 :: some (.int x) :: l) st h := q_in rfl rfl
theorem r74_24 : zR d 74 Q 24 lv st h = zR d 74 Q 25 lv (.int 0 :: st) h := q_in rfl rfl
theorem r74_25 : zR d 74 Q 25 (o0 :: o1 :: o2 :: o3 :: o4 :: l) (.int x :: st) h = zR d 74 Q 27 (o0 :: o1 :: o2 :: o3 :: some (.int x) :: l) st h := q_in rfl rfl
theorem r74_27 : zR d 74 Q 27 lv st h = zR d 74 Q 28 lv (.int 0 :: st) h := q_in rfl rfl
theorem r74_28 : zR d 74 Q 28 (o0 :: o1 :: o2 :: o3 :: o4 :: o5 :: l) (.int x :: st) h = zR d 74 Q 30 (o0 :: o1 :: o2 :: o3 :: o4 :: some (.int x) :: l) st h := q_in rfl rfl
theorem r74_30 : zR d 74 Q 30 (o0 :: o1 :: o2 :: o3 :: o4 :: some (.int x) :: l) st h = zR d 74 Q 32 (o0 :: o1 :: o2 :: o3 :: o4 :: some (.int x) :: l) (.int x :: st) h := q_in rfl rfl
theorem r74_32 : zR d 74 Q 32 lv st h = zR d 74 Q 34 lv (.int 60 :: st) h := q_in rfl rfl
theorem r74_34 : zR d 74 Q 34 lv (.int z :: .int x :: st) h = if x ≤ z then zR d 74 Q 37 lv st h else zR d 74 Q 108 lv st h := q_if rfl rfl
theorem r74_37 : zR d 74 Q 37 (some (.ref c) :: l) st h = zR d 74 Q 38 (some (.ref c) :: l) (.ref c :: st) h := q_in rfl rfl
theorem r74_38 : zR d 74 Q 38 lv (.ref 0 :: st) h = zR d 74 Q 41 lv (.ref 26 :: st) h := (q_and rfl rfl).trans (zand_t rfl)
theorem r74_41 : zR d 74 Q 41 (some (.ref c) :: l) st h = zR d 74 Q 42 (some (.ref c) :: l) (.ref c :: st) h := q_in rfl rfl
theorem r74_42 : zR d 74 Q 42 lv (.ref 0 :: st) h = zR d 74 Q 45 lv (.ref 10 :: st) h := (q_and rfl rfl).trans (zand_t rfl)
theorem r74_45 : zR d 74 Q 45 lv [.ref c0, .ref c] h = (zcls c = 5 ∧ zM d 36 [.ref c, .ref c0] h (fun r h' => zR d 74 Q 48 lv (r.toList ++ []) h')) := (q_clV rfl rfl (Nat.le_of_ble_eq_true rfl)).trans (zand_r (Nat.le_of_ble_eq_true rfl))
theorem r74_48 : zR d 74 Q 48 (some (.ref c) :: l) st h = zR d 74 Q 49 (some (.ref c) :: l) (.ref c :: st) h := q_in rfl rfl
theorem r74_49 : zR d 74 Q 49 lv (.ref 0 :: st) h = zR d 74 Q 52 lv (.ref 26 :: st) h := (q_and rfl rfl).trans (zand_t rfl)
theorem r74_52 : zR d 74 Q 52 lv (.ref c :: st) h = (zcls c = 5 ∧ zR d 74 Q 55 lv (.ref (c + 6) :: st) h) := q_and rfl rfl
theorem r74_55 : zR d 74 Q 55 lv st h = zR d 74 Q 56 lv (.int 1 :: st) h := q_in rfl rfl
theorem r74_56 : zR d 74 Q 56 (o0 :: o1 :: o2 :: o3 :: o4 :: some (.int x) :: l) st h = zR d 74 Q 58 (o0 :: o1 :: o2 :: o3 :: o4 :: some (.int x) :: l) (.int x :: st) h := q_in rfl rfl
theorem r74_58 : zR d 74 Q 58 lv (.int z :: .int x :: .ref c :: st) h = zas c x z h (fun h' => zR d 74 Q 59 lv st h') := q_iast rfl
theorem r74_59 : zR d 74 Q 59 (some (.ref c) :: l) st h = zR d 74 Q 60 (some (.ref c) :: l) (.ref c :: st) h := q_in rfl rfl
theorem r74_60 : zR d 74 Q 60 lv (.ref 0 :: st) h = zR d 74 Q 63 lv (.ref 26 :: st) h := (q_and rfl rfl).trans (zand_t rfl)
theorem r74_63 : zR d 74 Q 63 (o0 :: some (.int x) :: l) st h = zR d 74 Q 64 (o0 :: some (.int x) :: l) (.int x :: st) h := q_in rfl rfl
theorem r74_64 : zR d 74 Q 64 lv [.int x0, .ref c] h = (zcls c = 5 ∧ zM d 53 [.ref c, .int x0] h (fun r h' => zR d 74 Q 67 lv (r.toList ++ []) h')) := (q_clV rfl rfl (Nat.le_of_ble_eq_true rfl)).trans (zand_r (Nat.le_of_ble_eq_true rfl))
theorem r74_67 : zR d 74 Q 67 (some (.ref c) :: l) st h = zR d 74 Q 68 (some (.ref c) :: l) (.ref c :: st) h := q_in rfl rfl
theorem r74_68 : zR d 74 Q 68 lv (.ref 0 :: st) h = zR d 74 Q 71 lv (.ref 26 :: st) h := (q_and rfl rfl).trans (zand_t rfl)
theorem r74_71 : zR d 74 Q 71 (some (.ref c) :: l) st h = zR d 74 Q 72 (some (.ref c) :: l) (.ref c :: st) h := q_in rfl rfl
theorem r74_72 : zR d 74 Q 72 lv (.ref 0 :: st) h = zR d 74 Q 75 lv (.ref 26 :: st) h := (q_and rfl rfl).trans (zand_t rfl)
theorem r74_75 : zR d 74 Q 75 lv (.ref c :: st) h = (zcls c = 5 ∧ zR d 74 Q 78 lv (.ref (c + 4) :: st) h) := q_and rfl rfl
theorem r74_78 : zR d 74 Q 78 lv [.ref c0, .ref c] h = (zcls c = 5 ∧ zM d 41 [.ref c, .ref c0] h (fun r h' => zR d 74 Q 81 lv (r.toList ++ []) h')) := (q_clV rfl rfl (Nat.le_of_ble_eq_true rfl)).trans (zand_r (Nat.le_of_ble_eq_true rfl))
theorem r74_81 : zR d 74 Q 81 (o0 :: o1 :: o2 :: o3 :: o4 :: o5 :: o6 :: l) (.int x :: st) h = zR d 74 Q 83 (o0 :: o1 :: o2 :: o3 :: o4 :: o5 :: some (.int x) :: l) st h := q_in rfl rfl
theorem r74_83 : zR d 74 Q 83 (o0 :: o1 :: o2 :: o3 :: o4 :: some (.int x) :: l) st h = zR d 74 Q 85 (o0 :: o1 :: o2 :: o3 :: o4 :: some (.int x) :: l) (.int x :: st) h := q_in rfl rfl
theorem r74_85 : zR d 74 Q 85 lv (.int x :: st) h = if x = 0 then zR d 74 Q 95 lv st h else zR d 74 Q 88 lv st h := q_if rfl rfl
theorem r74_88 : zR d 74 Q 88 (o0 :: o1 :: o2 :: o3 :: o4 :: o5 :: some (.int x) :: l) st h = zR d 74 Q 90 (o0 :: o1 :: o2 :: o3 :: o4 :: o5 :: some (.int x) :: l) (.int x :: st) h := q_in rfl rfl
theorem r74_90 : zR d 74 Q 90 (o0 :: o1 :: o2 :: o3 :: some (.int x) :: l) st h = zR d 74 Q 92 (o0 :: o1 :: o2 :: o3 :: some (.int x) :: l) (.int x :: st) h := q_in rfl rfl
theorem r74_92 : zR d 74 Q 92 lv (.int z :: .int x :: st) h = if x < z then zR d 74 Q 95 lv st h else zR d 74 Q 102 lv st h := q_if rfl rfl
theorem r74_95 : zR d 74 Q 95 (o0 :: o1 :: o2 :: o3 :: o4 :: some (.int x) :: l) st h = zR d 74 Q 97 (o0 :: o1 :: o2 :: o3 :: o4 :: some (.int x) :: l) (.int x :: st) h := q_in rfl rfl
theorem r74_97 : zR d 74 Q 97 (o0 :: o1 :: o2 :: o3 :: l) (.int x :: st) h = zR d 74 Q 98 (o0 :: o1 :: o2 :: some (.int x) :: l) st h := q_in rfl rfl
theorem r74_98 : zR d 74 Q 98 (o0 :: o1 :: o2 :: o3 :: o4 :: o5 :: some (.int x) :: l) st h = zR d 74 Q 100 (o0 :: o1 :: o2 :: o3 :: o4 :: o5 :: some (.int x) :: l) (.int x :: st) h := q_in rfl rfl
theorem r74_100 : zR d 74 Q 100 (o0 :: o1 :: o2 :: o3 :: o4 :: l) (.int x :: st) h = zR d 74 Q 102 (o0 :: o1 :: o2 :: o3 :: some (.int x) :: l) st h := q_in rfl rfl
theorem r74_102 : zR d 74 Q 102 (o0 :: o1 :: o2 :: o3 :: o4 :: some (.int x) :: l) st h = zR d 74 Q 105 (o0 :: o1 :: o2 :: o3 :: o4 :: some (.int (x + 1)) :: l) st h := q_in rfl rfl
theorem r74_105 : zR d 74 Q 105 lv st h = zR d 74 Q 30 lv st h := q_in rfl rfl
theorem r74_108 : zR d 74 Q 108 (o0 :: o1 :: some (.int x) :: l) st h = zR d 74 Q 109 (o0 :: o1 :: some (.int x) :: l) (.int x :: st) h := q_in rfl rfl
theorem r74_109 : zR d 74 Q 109 lv (.int x :: st) h = if x = 0 then zR d 74 Q 112 lv st h else zR d 74 Q 116 lv st h := q_if rfl rfl
theorem r74_112 : zR d 74 Q 112 (o0 :: o1 :: o2 :: some (.int x) :: l) st h = zR d 74 Q 113 (o0 :: o1 :: o2 :: some (.int x) :: l) (.int x :: st) h := q_in rfl rfl
theorem r74_113 : zR d 74 Q 113 lv st h = zR d 74 Q 118 lv st h := q_in rfl rfl
theorem r74_116 : zR d 74 Q 116 (o0 :: o1 :: o2 :: o3 :: some (.int x) :: l) st h = zR d 74 Q 118 (o0 :: o1 :: o2 :: o3 :: some (.int x) :: l) (.int x :: st) h := q_in rfl rfl
theorem r74_118 : zR d 74 Q 118 lv [.int x] h = Q (some (.int x)) h := q_retz rfl rfl (Or.inl rfl)
theorem r75_0 : zR d 75 Q 0 (o0 :: some (.int x) :: l) st h = zR d 75 Q 1 (o0 :: some (.int x) :: l) (.int x :: st) h := q_in rfl rfl
theorem r75_1 : zR d 75 Q 1 lv st h = zR d 75 Q 2 lv (.int 1 :: st) h := q_in rfl rfl
theorem r75_2 : zR d 75 Q 2 lv st h = zR d 75 Q 4 lv (.int 60 :: st) h := q_in rfl rfl
theorem r75_4 : zR d 75 Q 4 lv [.int x2, .int x1, .int x0] h = zM d 103 [.int x0, .int x1, .int x2] h (fun r h' => zR d 75 Q 7 lv (r.toList ++ []) h') := q_clS rfl rfl ⟨Nat.le_of_ble_eq_true rfl, Nat.le_of_ble_eq_true rfl⟩
theorem r75_7 : zR d 75 Q 7 lv (.int x :: st) h = if x = 0 then zR d 75 Q 19 lv st h else zR d 75 Q 10 lv st h := q_if rfl rfl
theorem r75_10 : zR d 75 Q 10 (o0 :: o1 :: some (.int x) :: l) st h = zR d 75 Q 11 (o0 :: o1 :: some (.int x) :: l) (.int x :: st) h := q_in rfl rfl
theorem r75_11 : zR d 75 Q 11 lv st h = zR d 75 Q 12 lv (.int 0 :: st) h := q_in rfl rfl
theorem r75_12 : zR d 75 Q 12 lv st h = zR d 75 Q 13 lv (.int 1 :: st) h := q_in rfl rfl
theorem r75_13 : zR d 75 Q 13 lv [.int x2, .int x1, .int x0] h = zM d 103 [.int x0, .int x1, .int x2] h (fun r h' => zR d 75 Q 16 lv (r.toList ++ []) h') := q_clS rfl rfl ⟨Nat.le_of_ble_eq_true rfl, Nat.le_of_ble_eq_true rfl⟩
theorem r75_16 : zR d 75 Q 16 lv (.int x :: st) h = if x = 0 then zR d 75 Q 19 lv st h else zR d 75 Q 22 lv st h := q_if rfl rfl
theorem r75_19 : zR d 75 Q 19 lv st h = zR d 75 Q 21 lv (.int (-1000000001) :: st) h := q_in rfl rfl
theorem r75_21 : zR d 75 Q 21 lv [.int x] h = Q (some (.int x)) h := q_retz rfl rfl (Or.inl rfl)
theorem r75_22 : zR d 75 Q 22 lv st h = zR d 75 Q 23 lv (.int 0 :: st) h := q_in rfl rfl
theorem r75_23 : zR d 75 Q 23 (o0 :: o1 :: o2 :: o3 :: l) (.int x :: st) h = zR d 75 Q 24 (o0 :: o1 :: o2 :: some (.int x) :: l) st h := q_in rfl rfl
theorem r75_24 : zR d 75 Q 24 lv st h = zR d 75 Q 25 lv (.int 0 :: st) h := q_in rfl rfl
theorem r75_25 : zR d 75 Q 25 (o0 :: o1 :: o2 :: o3 :: o4 :: l) (.int x :: st) h = zR d 75 Q 27 (o0 :: o1 :: o2 :: o3 :: some (.int x) :: l) st h := q_in rfl rfl
theorem r75_27 : zR d 75 Q 27 lv st h = zR d 75 Q 28 lv (.int 0 :: st) h := q_in rfl rfl
theorem r75_28 : zR d 75 Q 28 (o0 :: o1 :: o2 :: o3 :: o4 :: o5 :: l) (.int x :: st) h = zR d 75 Q 30 (o0 :: o1 :: o2 :: o3 :: o4 :: some (.int x) :: l) st h := q_in rfl rfl
theorem r75_30 : zR d 75 Q 30 (o0 :: o1 :: o2 :: o3 :: o4 :: some (.int x) :: l) st h = zR d 75 Q 32 (o0 :: o1 :: o2 :: o3 :: o4 :: some (.int x) :: l) (.int x :: st) h := q_in rfl rfl
theorem r75_32 : zR d 75 Q 32 lv st h = zR d 75 Q 34 lv (.int 10 :: st) h := q_in rfl rfl
theorem r75_34 : zR d 75 Q 34 lv (.int z :: .int x :: st) h = if x ≤ z then zR d 75 Q 37 lv st h else zR d 75 Q 102 lv st h := q_if rfl rfl
theorem r75_37 : zR d 75 Q 37 (some (.ref c) :: l) st h = zR d 75 Q 38 (some (.ref c) :: l) (.ref c :: st) h := q_in rfl rfl
theorem r75_38 : zR d 75 Q 38 lv (.ref 0 :: st) h = zR d 75 Q 41 lv (.ref 26 :: st) h := (q_and rfl rfl).trans (zand_t rfl)
theorem r75_41 : zR d 75 Q 41 (some (.ref c) :: l) st h = zR d 75 Q 42 (some (.ref c) :: l) (.ref c :: st) h := q_in rfl rfl
theorem r75_42 : zR d 75 Q 42 lv (.ref 0 :: st) h = zR d 75 Q 45 lv (.ref 10 :: st) h := (q_and rfl rfl).trans (zand_t rfl)
theorem r75_45 : zR d 75 Q 45 lv [.ref c0, .ref c] h = (zcls c = 5 ∧ zM d 36 [.ref c, .ref c0] h (fun r h' => zR d 75 Q 48 lv (r.toList ++ []) h')) := (q_clV rfl rfl (Nat.le_of_ble_eq_true rfl)).trans (zand_r (Nat.le_of_ble_eq_true rfl))
theorem r75_48 : zR d 75 Q 48 (some (.ref c) :: l) st h = zR d 75 Q 49 (some (.ref c) :: l) (.ref c :: st) h := q_in rfl rfl
theorem r75_49 : zR d 75 Q 49 lv (.ref 0 :: st) h = zR d 75 Q 52 lv (.ref 26 :: st) h := (q_and rfl rfl).trans (zand_t rfl)
theorem r75_52 : zR d 75 Q 52 lv (.ref c :: st) h = (zcls c = 5 ∧ zR d 75 Q 55 lv (.ref (c + 6) :: st) h) := q_and rfl rfl
theorem r75_55 : zR d 75 Q 55 lv st h = zR d 75 Q 56 lv (.int 5 :: st) h := q_in rfl rfl
theorem r75_56 : zR d 75 Q 56 (o0 :: o1 :: o2 :: o3 :: o4 :: some (.int x) :: l) st h = zR d 75 Q 58 (o0 :: o1 :: o2 :: o3 :: o4 :: some (.int x) :: l) (.int x :: st) h := q_in rfl rfl
theorem r75_58 : zR d 75 Q 58 lv (.int z :: .int x :: .ref c :: st) h = zas c x z h (fun h' => zR d 75 Q 59 lv st h') := q_iast rfl
theorem r75_59 : zR d 75 Q 59 (some (.ref c) :: l) st h = zR d 75 Q 60 (some (.ref c) :: l) (.ref c :: st) h := q_in rfl rfl
theorem r75_60 : zR d 75 Q 60 lv (.ref 0 :: st) h = zR d 75 Q 63 lv (.ref 26 :: st) h := (q_and rfl rfl).trans (zand_t rfl)
theorem r75_63 : zR d 75 Q 63 (o0 :: some (.int x) :: l) st h = zR d 75 Q 64 (o0 :: some (.int x) :: l) (.int x :: st) h := q_in rfl rfl
theorem r75_64 : zR d 75 Q 64 lv [.int x0, .ref c] h = (zcls c = 5 ∧ zM d 53 [.ref c, .int x0] h (fun r h' => zR d 75 Q 67 lv (r.toList ++ []) h')) := (q_clV rfl rfl (Nat.le_of_ble_eq_true rfl)).trans (zand_r (Nat.le_of_ble_eq_true rfl))
theorem r75_67 : zR d 75 Q 67 (o0 :: o1 :: o2 :: o3 :: o4 :: some (.int x) :: l) st h = zR d 75 Q 69 (o0 :: o1 :: o2 :: o3 :: o4 :: some (.int x) :: l) (.int x :: st) h := q_in rfl rfl
theorem r75_69 : zR d 75 Q 69 lv (.int x :: st) h = if x = 0 then zR d 75 Q 84 lv st h else zR d 75 Q 72 lv st h := q_if rfl rfl
theorem r75_72 : zR d 75 Q 72 (some (.ref c) :: l) st h = zR d 75 Q 73 (some (.ref c) :: l) (.ref c :: st) h := q_in rfl rfl
theorem r75_73 : zR d 75 Q 73 lv (.ref 0 :: st) h = zR d 75 Q 76 lv (.ref 26 :: st) h := (q_and rfl rfl).trans (zand_t rfl)
theorem r75_76 : zR d 75 Q 76 lv (.ref c :: st) h = (zcls c = 5 ∧ zR d 75 Q 79 lv (.int (h c 9) :: st) h) := q_and rfl rfl
theorem r75_79 : zR d 75 Q 79 (o0 :: o1 :: o2 :: o3 :: some (.int x) :: l) st h = zR d 75 Q 81 (o0 :: o1 :: o2 :: o3 :: some (.int x) :: l) (.int x :: st) h := q_in rfl rfl
theorem r75_81 : zR d 75 Q 81 lv (.int z :: .int x :: st) h = if x ≤ z then zR d 75 Q 96 lv st h else zR d 75 Q 84 lv st h := q_if rfl rfl
theorem r75_84 : zR d 75 Q 84 (o0 :: o1 :: o2 :: o3 :: o4 :: some (.int x) :: l) st h = zR d 75 Q 86 (o0 :: o1 :: o2 :: o3 :: o4 :: some (.int x) :: l) (.int x :: st) h := q_in rfl rfl
theorem r75_86 : zR d 75 Q 86 (o0 :: o1 :: o2 :: o3 :: l) (.int x :: st) h = zR d 75 Q 87 (o0 :: o1 :: o2 :: some (.int x) :: l) st h := q_in rfl rfl
theorem r75_87 : zR d 75 Q 87 (some (.ref c) :: l) st h = zR d 75 Q 88 (some (.ref c) :: l) (.ref c :: st) h := q_in rfl rfl
theorem r75_88 : zR d 75 Q 88 lv (.ref 0 :: st) h = zR d 75 Q 91 lv (.ref 26 :: st) h := (q_and rfl rfl).trans (zand_t rfl)
theorem r75_91 : zR d 75 Q 91 lv (.ref c :: st) h = (zcls c = 5 ∧ zR d 75 Q 94 lv (.int (h c 9) :: st) h) := q_and rfl rfl
theorem r75_94 : zR d 75 Q 94 (o0 :: o1 :: o2 :: o3 :: o4 :: l) (.int x :: st) h = zR d 75 Q 96 (o0 :: o1 :: o2 :: o3 :: some (.int x) :: l) st h := q_in rfl rfl
theorem r75_96 : zR d 75 Q 96 (o0 :: o1 :: o2 :: o3 :: o4 :: some (.int x) :: l) st h = zR d 75 Q 99 (o0 :: o1 :: o2 :: o3 :: o4 :: some (.int (x + 1)) :: l) st h := q_in rfl rfl
theorem r75_99 : zR d 75 Q 99 lv st h = zR d 75 Q 30 lv st h := q_in rfl rfl
theorem r75_102 : zR d 75 Q 102 (o0 :: o1 :: some (.int x) :: l) st h = zR d 75 Q 103 (o0 :: o1 :: some (.int x) :: l) (.int x :: st) h := q_in rfl rfl
theorem r75_103 : zR d 75 Q 103 lv (.int x :: st) h = if x = 0 then zR d 75 Q 106 lv st h else zR d 75 Q 110 lv st h := q_if rfl rfl
theorem r75_106 : zR d 75 Q 106 (o0 :: o1 :: o2 :: some (.int x) :: l) st h = zR d 75 Q 107 (o0 :: o1 :: o2 :: some (.int x) :: l) (.int x :: st) h := q_in rfl rfl
theorem r75_107 : zR d 75 Q 107 lv st h = zR d 75 Q 112 lv st h := q_in rfl rfl
theorem r75_110 : zR d 75 Q 110 (o0 :: o1 :: o2 :: o3 :: some (.int x) :: l) st h = zR d 75 Q 112 (o0 :: o1 :: o2 :: o3 :: some (.int x) :: l) (.int x :: st) h := q_in rfl rfl
theorem r75_112 : zR d 75 Q 112 lv [.int x] h = Q (some (.int x)) h := q_retz rfl rfl (Or.inl rfl)
theorem r76_0 : zR d 76 Q 0 (o0 :: some (.int x) :: l) st h = zR d 76 Q 1 (o0 :: some (.int x) :: l) (.int x :: st) h := q_in rfl rfl
theorem r76_1 : zR d 76 Q 1 lv st h = zR d 76 Q 2 lv (.int 1 :: st) h := q_in rfl rfl
theorem r76_2 : zR d 76 Q 2 lv st h = zR d 76 Q 4 lv (.int 60 :: st) h := q_in rfl rfl
theorem r76_4 : zR d 76 Q 4 lv [.int x2, .int x1, .int x0] h = zM d 103 [.int x0, .int x1, .int x2] h (fun r h' => zR d 76 Q 7 lv (r.toList ++ []) h') := q_clS rfl rfl ⟨Nat.le_of_ble_eq_true rfl, Nat.le_of_ble_eq_true rfl⟩
theorem r76_7 : zR d 76 Q 7 lv (.int x :: st) h = if x = 0 then zR d 76 Q 19 lv st h else zR d 76 Q 10 lv st h := q_if rfl rfl
theorem r76_10 : zR d 76 Q 10 (o0 :: o1 :: some (.int x) :: l) st h = zR d 76 Q 11 (o0 :: o1 :: some (.int x) :: l) (.int x :: st) h := q_in rfl rfl
theorem r76_11 : zR d 76 Q 11 lv st h = zR d 76 Q 12 lv (.int 0 :: st) h := q_in rfl rfl
theorem r76_12 : zR d 76 Q 12 lv st h = zR d 76 Q 13 lv (.int 1 :: st) h := q_in rfl rfl
theorem r76_13 : zR d 76 Q 13 lv [.int x2, .int x1, .int x0] h = zM d 103 [.int x0, .int x1, .int x2] h (fun r h' => zR d 76 Q 16 lv (r.toList ++ []) h') := q_clS rfl rfl ⟨Nat.le_of_ble_eq_true rfl, Nat.le_of_ble_eq_true rfl⟩
theorem r76_16 : zR d 76 Q 16 lv (.int x :: st) h = if x = 0 then zR d 76 Q 19 lv st h else zR d 76 Q 22 lv st h := q_if rfl rfl
theorem r76_19 : zR d 76 Q 19 lv st h = zR d 76 Q 21 lv (.int (-1000000001) :: st) h := q_in rfl rfl
theorem r76_21 : zR d 76 Q 21 lv [.int x] h = Q (some (.int x)) h := q_retz rfl rfl (Or.inl rfl)
theorem r76_22 : zR d 76 Q 22 lv st h = zR d 76 Q 24 lv (.int (-1000000005) :: st) h := q_in rfl rfl
theorem r76_24 : zR d 76 Q 24 (o0 :: o1 :: o2 :: o3 :: l) (.int x :: st) h = zR d 76 Q 25 (o0 :: o1 :: o2 :: some (.int x) :: l) st h := q_in rfl rfl
theorem r76_25 : zR d 76 Q 25 lv st h = zR d 76 Q 27 lv (.int (-1000000005) :: st) h := q_in rfl rfl
theorem r76_27 : zR d 76 Q 27 (o0 :: o1 :: o2 :: o3 :: o4 :: l) (.int x :: st) h = zR d 76 Q 29 (o0 :: o1 :: o2 :: o3 :: some (.int x) :: l) st h := q_in rfl rfl
theorem r76_29 : zR d 76 Q 29 lv st h = zR d 76 Q 30 lv (.int 0 :: st) h := q_in rfl rfl
theorem r76_30 : zR d 76 Q 30 (o0 :: o1 :: o2 :: o3 :: o4 :: o5 :: l) (.int x :: st) h = zR d 76 Q 32 (o0 :: o1 :: o2 :: o3 :: o4 :: some (.int x) :: l) st h := q_in rfl rfl
theorem r76_32 : zR d 76 Q 32 (o0 :: o1 :: o2 :: o3 :: o4 :: some (.int x) :: l) st h = zR d 76 Q 34 (o0 :: o1 :: o2 :: o3 :: o4 :: some (.int x) :: l) (.int x :: st) h := q_in rfl rfl
theorem r76_34 : zR d 76 Q 34 (some (.ref c) :: l) st h = zR d 76 Q 35 (some (.ref c) :: l) (.ref c :: st) h := q_in rfl rfl
theorem r76_35 : zR d 76 Q 35 lv (.ref 0 :: st) h = zR d 76 Q 38 lv (.ref 10 :: st) h := (q_and rfl rfl).trans (zand_t rfl)
theorem r76_38 : zR d 76 Q 38 lv (.ref c :: st) h = (zcls c = 5 ∧ zR d 76 Q 41 lv (.int (h c 1) :: st) h) := q_and rfl rfl
theorem r76_41 : zR d 76 Q 41 lv (.int z :: .int x :: st) h = if x < z then zR d 76 Q 44 lv st h else zR d 76 Q 107 lv st h := q_if rfl rfl
theorem r76_44 : zR d 76 Q 44 (some (.ref c) :: l) st h = zR d 76 Q 45 (some (.ref c) :: l) (.ref c :: st) h := q_in rfl rfl
theorem r76_45 : zR d 76 Q 45 lv (.ref 0 :: st) h = zR d 76 Q 48 lv (.ref 26 :: st) h := (q_and rfl rfl).trans (zand_t rfl)
theorem r76_48 : zR d 76 Q 48 (some (.ref c) :: l) st h = zR d 76 Q 49 (some (.ref c) :: l) (.ref c :: st) h := q_in rfl rfl
theorem r76_49 : zR d 76 Q 49 lv (.ref 0 :: st) h = zR d 76 Q 52 lv (.ref 10 :: st) h := (q_and rfl rfl).trans (zand_t rfl)
theorem r76_52 : zR d 76 Q 52 lv [.ref c0, .ref c] h = (zcls c = 5 ∧ zM d 36 [.ref c, .ref c0] h (fun r h' => zR d 76 Q 55 lv (r.toList ++ []) h')) := (q_clV rfl rfl (Nat.le_of_ble_eq_true rfl)).trans (zand_r (Nat.le_of_ble_eq_true rfl))
theorem r76_55 : zR d 76 Q 55 (some (.ref c) :: l) st h = zR d 76 Q 56 (some (.ref c) :: l) (.ref c :: st) h := q_in rfl rfl
theorem r76_56 : zR d 76 Q 56 lv (.ref 0 :: st) h = zR d 76 Q 59 lv (.ref 26 :: st) h := (q_and rfl rfl).trans (zand_t rfl)
theorem r76_59 : zR d 76 Q 59 (o0 :: o1 :: o2 :: o3 :: o4 :: some (.int x) :: l) st h = zR d 76 Q 61 (o0 :: o1 :: o2 :: o3 :: o4 :: some (.int x) :: l) (.int x :: st) h := q_in rfl rfl
theorem r76_61 : zR d 76 Q 61 lv (.int x :: .ref c :: st) h = (zcls c = 5 ∧ zR d 76 Q 64 lv st (zhr h c (upd (h c) 14 x))) := (q_and rfl rfl).trans zand_0
theorem r76_64 : zR d 76 Q 64 (some (.ref c) :: l) st h = zR d 76 Q 65 (some (.ref c) :: l) (.ref c :: st) h := q_in rfl rfl
theorem r76_65 : zR d 76 Q 65 lv (.ref 0 :: st) h = zR d 76 Q 68 lv (.ref 26 :: st) h := (q_and rfl rfl).trans (zand_t rfl)
theorem r76_68 : zR d 76 Q 68 (o0 :: some (.int x) :: l) st h = zR d 76 Q 69 (o0 :: some (.int x) :: l) (.int x :: st) h := q_in rfl rfl
theorem r76_69 : zR d 76 Q 69 lv [.int x0, .ref c] h = (zcls c = 5 ∧ zM d 53 [.ref c, .int x0] h (fun r h' => zR d 76 Q 72 lv (r.toList ++ []) h')) := (q_clV rfl rfl (Nat.le_of_ble_eq_true rfl)).trans (zand_r (Nat.le_of_ble_eq_true rfl))
theorem r76_72 : zR d 76 Q 72 (o0 :: o1 :: o2 :: o3 :: o4 :: some (.int x) :: l) st h = zR d 76 Q 74 (o0 :: o1 :: o2 :: o3 :: o4 :: some (.int x) :: l) (.int x :: st) h := q_in rfl rfl
theorem r76_74 : zR d 76 Q 74 lv (.int x :: st) h = if x = 0 then zR d 76 Q 89 lv st h else zR d 76 Q 77 lv st h := q_if rfl rfl
theorem r76_77 : zR d 76 Q 77 (some (.ref c) :: l) st h = zR d 76 Q 78 (some (.ref c) :: l) (.ref c :: st) h := q_in rfl rfl
theorem r76_78 : zR d 76 Q 78 lv (.ref 0 :: st) h = zR d 76 Q 81 lv (.ref 26 :: st) h := (q_and rfl rfl).trans (zand_t rfl)
theorem r76_81 : zR d 76 Q 81 lv (.ref c :: st) h = (zcls c = 5 ∧ zR d 76 Q 84 lv (.int (h c 9) :: st) h) := q_and rfl rfl
theorem r76_84 : zR d 76 Q 84 (o0 :: o1 :: o2 :: o3 :: some (.int x) :: l) st h = zR d 76 Q 86 (o0 :: o1 :: o2 :: o3 :: some (.int x) :: l) (.int x :: st) h := q_in rfl rfl
theorem r76_86 : zR d 76 Q 86 lv (.int z :: .int x :: st) h = if x ≤ z then zR d 76 Q 101 lv st h else zR d 76 Q 89 lv st h := q_if rfl rfl
theorem r76_89 : zR d 76 Q 89 (o0 :: o1 :: o2 :: o3 :: o4 :: some (.int x) :: l) st h = zR d 76 Q 91 (o0 :: o1 :: o2 :: o3 :: o4 :: some (.int x) :: l) (.int x :: st) h := q_in rfl rfl
theorem r76_91 : zR d 76 Q 91 (o0 :: o1 :: o2 :: o3 :: l) (.int x :: st) h = zR d 76 Q 92 (o0 :: o1 :: o2 :: some (.int x) :: l) st h := q_in rfl rfl
theorem r76_92 : zR d 76 Q 92 (some (.ref c) :: l) st h = zR d 76 Q 93 (some (.ref c) :: l) (.ref c :: st) h := q_in rfl rfl
theorem r76_93 : zR d 76 Q 93 lv (.ref 0 :: st) h = zR d 76 Q 96 lv (.ref 26 :: st) h := (q_and rfl rfl).trans (zand_t rfl)
theorem r76_96 : zR d 76 Q 96 lv (.ref c :: st) h = (zcls c = 5 ∧ zR d 76 Q 99 lv (.int (h c 9) :: st) h) := q_and rfl rfl
theorem r76_99 : zR d 76 Q 99 (o0 :: o1 :: o2 :: o3 :: o4 :: l) (.int x :: st) h = zR d 76 Q 101 (o0 :: o1 :: o2 :: o3 :: some (.int x) :: l) st h := q_in rfl rfl
theorem r76_101 : zR d 76 Q 101 (o0 :: o1 :: o2 :: o3 :: o4 :: some (.int x) :: l) st h = zR d 76 Q 104 (o0 :: o1 :: o2 :: o3 :: o4 :: some (.int (x + 1)) :: l) st h := q_in rfl rfl
theorem r76_104 : zR d 76 Q 104 lv st h = zR d 76 Q 32 lv st h := q_in rfl rfl
theorem r76_107 : zR d 76 Q 107 (o0 :: o1 :: some (.int x) :: l) st h = zR d 76 Q 108 (o0 :: o1 :: some (.int x) :: l) (.int x :: st) h := q_in rfl rfl
theorem r76_108 : zR d 76 Q 108 lv (.int x :: st) h = if x = 0 then zR d 76 Q 111 lv st h else zR d 76 Q 115 lv st h := q_if rfl rfl
theorem r76_111 : zR d 76 Q 111 (o0 :: o1 :: o2 :: some (.int x) :: l) st h = zR d 76 Q 112 (o0 :: o1 :: o2 :: some (.int x) :: l) (.int x :: st) h := q_in rfl rfl
theorem r76_112 : zR d 76 Q 112 lv st h = zR d 76 Q 117 lv st h := q_in rfl rfl
theorem r76_115 : zR d 76 Q 115 (o0 :: o1 :: o2 :: o3 :: some (.int x) :: l) st h = zR d 76 Q 117 (o0 :: o1 :: o2 :: o3 :: some (.int x) :: l) (.int x :: st) h := q_in rfl rfl
theorem r76_117 : zR d 76 Q 117 lv [.int x] h = Q (some (.int x)) h := q_retz rfl rfl (Or.inl rfl)
theorem r77_0 : zR d 77 Q 0 (some (.ref c) :: l) st h = zR d 77 Q 1 (some (.ref c) :: l) (.ref c :: st) h := q_in rfl rfl
theorem r77_1 : zR d 77 Q 1 lv (.ref 0 :: st) h = zR d 77 Q 4 lv (.ref 26 :: st) h := (q_and rfl rfl).trans (zand_t rfl)
theorem r77_4 : zR d 77 Q 4 (some (.ref c) :: l) st h = zR d 77 Q 5 (some (.ref c) :: l) (.ref c :: st) h := q_in rfl rfl
theorem r77_5 : zR d 77 Q 5 lv (.ref 0 :: st) h = zR d 77 Q 8 lv (.ref 10 :: st) h := (q_and rfl rfl).trans (zand_t rfl)
theorem r77_8 : zR d 77 Q 8 lv [.ref c0, .ref c] h = (zcls c = 5 ∧ zM d 36 [.ref c, .ref c0] h (fun r h' => zR d 77 Q 11 lv (r.toList ++ []) h')) := (q_clV rfl rfl (Nat.le_of_ble_eq_true rfl)).trans (zand_r (Nat.le_of_ble_eq_true rfl))
theorem r77_11 : zR d 77 Q 11 lv st h = zR d 77 Q 12 lv (.int 0 :: st) h := q_in rfl rfl
theorem r77_12 : zR d 77 Q 12 (o0 :: o1 :: l) (.int x :: st) h = zR d 77 Q 13 (o0 :: some (.int x) :: l) st h := q_in rfl rfl
theorem r77_13 : zR d 77 Q 13 (o0 :: some (.int x) :: l) st h = zR d 77 Q 14 (o0 :: some (.int x) :: l) (.int x :: st) h := q_in rfl rfl
theorem r77_14 : zR d 77 Q 14 lv st h = zR d 77 Q 16 lv (.int 100 :: st) h := q_in rfl rfl
theorem r77_16 : zR d 77 Q 16 lv (.int z :: .int x :: st) h = if x ≤ z then zR d 77 Q 19 lv st h else zR d 77 Q 44 lv st h := q_if rfl rfl
theorem r77_19 : zR d 77 Q 19 (some (.ref c) :: l) st h = zR d 77 Q 20 (some (.ref c) :: l) (.ref c :: st) h := q_in rfl rfl
theorem r77_20 : zR d 77 Q 20 lv (.ref 0 :: st) h = zR d 77 Q 23 lv (.ref 26 :: st) h := (q_and rfl rfl).trans (zand_t rfl)
theorem r77_23 : zR d 77 Q 23 lv [.ref c] h = (zcls c = 5 ∧ zM d 42 [.ref c] h (fun r h' => zR d 77 Q 26 lv (r.toList ++ []) h')) := (q_clV rfl rfl (Nat.le_of_ble_eq_true rfl)).trans (zand_r (Nat.le_of_ble_eq_true rfl))
theorem r77_26 : zR d 77 Q 26 lv (.int x :: st) h = if x = 0 then zR d 77 Q 31 lv st h else zR d 77 Q 29 lv st h := q_if rfl rfl
theorem r77_29 : zR d 77 Q 29 (o0 :: some (.int x) :: l) st h = zR d 77 Q 30 (o0 :: some (.int x) :: l) (.int x :: st) h := q_in rfl rfl
theorem r77_30 : zR d 77 Q 30 lv [.int x] h = Q (some (.int x)) h := q_retz rfl rfl (Or.inl rfl)
theorem r77_31 : zR d 77 Q 31 (some (.ref c) :: l) st h = zR d 77 Q 32 (some (.ref c) :: l) (.ref c :: st) h := q_in rfl rfl
theorem r77_32 : zR d 77 Q 32 lv (.ref 0 :: st) h = zR d 77 Q 35 lv (.ref 26 :: st) h := (q_and rfl rfl).trans (zand_t rfl)
theorem r77_35 : zR d 77 Q 35 lv [.ref c] h = (zcls c = 5 ∧ zM d 54 [.ref c] h (fun r h' => zR d 77 Q 38 lv (r.toList ++ []) h')) := (q_clV rfl rfl (Nat.le_of_ble_eq_true rfl)).trans (zand_r (Nat.le_of_ble_eq_true rfl))
theorem r77_38 : zR d 77 Q 38 (o0 :: some (.int x) :: l) st h = zR d 77 Q 41 (o0 :: some (.int (x + 1)) :: l) st h := q_in rfl rfl
theorem r77_41 : zR d 77 Q 41 lv st h = zR d 77 Q 13 lv st h := q_in rfl rfl
theorem r77_44 : zR d 77 Q 44 lv st h = zR d 77 Q 46 lv (.int (-1000000005) :: st) h := q_in rfl rfl
theorem r77_46 : zR d 77 Q 46 lv [.int x] h = Q (some (.int x)) h := q_retz rfl rfl (Or.inl rfl)
theorem r78_0 : zR d 78 Q 0 (some (.ref c) :: l) st h = zR d 78 Q 1 (some (.ref c) :: l) (.ref c :: st) h := q_in rfl rfl
theorem r78_1 : zR d 78 Q 1 (o0 :: some (.int x) :: l) st h = zR d 78 Q 2 (o0 :: some (.int x) :: l) (.int x :: st) h := q_in rfl rfl
theorem r78_2 : zR d 78 Q 2 lv [.int x0, .ref 0] h = zM d 95 [.ref 0, .int x0] h (fun r h' => zR d 78 Q 5 lv (r.toList ++ []) h') := (q_clV rfl rfl (Nat.le_of_ble_eq_true rfl)).trans (zand_t ⟨rfl, Nat.le_of_ble_eq_true rfl⟩)
theorem r78_5 : zR d 78 Q 5 (o0 :: o1 :: o2 :: o3 :: l) (.ref c :: st) h = zR d 78 Q 6 (o0 :: o1 :: o2 :: some (.ref c) :: l) st h := q_in rfl rfl
theorem r78_5n : zR d 78 Q 5 (o0 :: o1 :: o2 :: o3 :: l) (.null :: st) h = zR d 78 Q 6 (o0 :: o1 :: o2 :: some .null :: l) st h := q_in rfl rfl
theorem r78_6 : zR d 78 Q 6 (o0 :: o1 :: o2 :: some (.ref c) :: l) st h = zR d 78 Q 7 (o0 :: o1 :: o2 :: some (.ref c) :: l) (.ref c :: st) h := q_in rfl rfl
theorem r78_6n : zR d 78 Q 6 (o0 :: o1 :: o2 :: some .null :: l) st h = zR d 78 Q 7 (o0 :: o1 :: o2 :: some .null :: l) (.null :: st) h := q_in rfl rfl
theorem r78_7 : zR d 78 Q 7 lv (.ref c :: st) h = zR d 78 Q 10 lv st h := q_in rfl rfl
theorem r78_7n : zR d 78 Q 7 lv (.null :: st) h = zR d 78 Q 19 lv st h := q_in rfl rfl
theorem r78_10 : zR d 78 Q 10 (o0 :: o1 :: some (.int x) :: l) st h = zR d 78 Q 11 (o0 :: o1 :: some (.int x) :: l) (.int x :: st) h := q_in rfl rfl
theorem r78_11 : zR d 78 Q 11 lv st h = zR d 78 Q 12 lv (.int 0 :: st) h := q_in rfl rfl
theorem r78_12 : zR d 78 Q 12 lv st h = zR d 78 Q 13 lv (.int 1 :: st) h := q_in rfl rfl
theorem r78_13 : zR d 78 Q 13 lv [.int x2, .int x1, .int x0] h = zM d 103 [.int x0, .int x1, .int x2] h (fun r h' => zR d 78 Q 16 lv (r.toList ++ []) h') := q_clS rfl rfl ⟨Nat.le_of_ble_eq_true rfl, Nat.le_of_ble_eq_true rfl⟩
theorem r78_16 : zR d 78 Q 16 lv (.int x :: st) h = if x = 0 then zR d 78 Q 19 lv st h else zR d 78 Q 22 lv st h := q_if rfl rfl
theorem r78_19 : zR d 78 Q 19 lv st h = zR d 78 Q 21 lv (.int (-1000000001) :: st) h := q_in rfl rfl
theorem r78_21 : zR d 78 Q 21 lv [.int x] h = Q (some (.int x)) h := q_retz rfl rfl (Or.inl rfl)
theorem r78_22 : zR d 78 Q 22 (o0 :: o1 :: o2 :: some (.ref c) :: l) st h = zR d 78 Q 23 (o0 :: o1 :: o2 :: some (.ref c) :: l) (.ref c :: st) h := q_in rfl rfl
theorem r78_22n : zR d 78 Q 22 (o0 :: o1 :: o2 :: some .null :: l) st h = zR d 78 Q 23 (o0 :: o1 :: o2 :: some .null :: l) (.null :: st) h := q_in rfl rfl
theorem r78_23 : zR d 78 Q 23 lv [.ref c] h = (zcls c = 3 ∧ zM d 32 [.ref c] h (fun r h' => zR d 78 Q 26 lv (r.toList ++ []) h')) := (q_clV rfl rfl (Nat.le_of_ble_eq_true rfl)).trans (zand_r (Nat.le_of_ble_eq_true rfl))
theorem r78_26 : zR d 78 Q 26 lv (.int x :: st) h = if x = 0 then zR d 78 Q 32 lv st h else zR d 78 Q 29 lv st h := q_if rfl rfl
theorem r78_29 : zR d 78 Q 29 lv st h = zR d 78 Q 31 lv (.int (-1000000011) :: st) h := q_in rfl rfl
theorem r78_31 : zR d 78 Q 31 lv [.int x] h = Q (some (.int x)) h := q_retz rfl rfl (Or.inl rfl)
theorem r78_32 : zR d 78 Q 32 lv st h = zR d 78 Q 33 lv (.int 0 :: st) h := q_in rfl rfl
theorem r78_33 : zR d 78 Q 33 (o0 :: o1 :: o2 :: o3 :: o4 :: l) (.int x :: st) h = zR d 78 Q 35 (o0 :: o1 :: o2 :: o3 :: some (.int x) :: l) st h := q_in rfl rfl
theorem r78_35 : zR d 78 Q 35 lv st h = zR d 78 Q 36 lv (.int 0 :: st) h := q_in rfl rfl
theorem r78_36 : zR d 78 Q 36 (o0 :: o1 :: o2 :: o3 :: o4 :: o5 :: l) (.int x :: st) h = zR d 78 Q 38 (o0 :: o1 :: o2 :: o3 :: o4 :: some (.int x) :: l) st h := q_in rfl rfl
theorem r78_38 : zR d 78 Q 38 lv st h = zR d 78 Q 39 lv (.int 0 :: st) h := q_in rfl rfl
theorem r78_39 : zR d 78 Q 39 (o0 :: o1 :: o2 :: o3 :: o4 :: o5 :: o6 :: l) (.int x :: st) h = zR d 78 Q 41 (o0 :: o1 :: o2 :: o3 :: o4 :: o5 :: some (.int x) :: l) st h := q_in rfl rfl
theorem r78_41 : zR d 78 Q 41 (o0 :: o1 :: o2 :: o3 :: o4 :: o5 :: some (.int x) :: l) st h = zR d 78 Q 43 (o0 :: o1 :: o2 :: o3 :: o4 :: o5 :: some (.int x) :: l) (.int x :: st) h := q_in rfl rfl
theorem r78_43 : zR d 78 Q 43 lv st h = zR d 78 Q 45 lv (.int 60 :: st) h := q_in rfl rfl
theorem r78_45 : zR d 78 Q 45 lv (.int z :: .int x :: st) h = if x ≤ z then zR d 78 Q 48 lv st h else zR d 78 Q 83 lv st h := q_if rfl rfl
theorem r78_48 : zR d 78 Q 48 (some (.ref c) :: l) st h = zR d 78 Q 49 (some (.ref c) :: l) (.ref c :: st) h := q_in rfl rfl
theorem r78_49 : zR d 78 Q 49 (o0 :: o1 :: o2 :: some (.ref c) :: l) st h = zR d 78 Q 50 (o0 :: o1 :: o2 :: some (.ref c) :: l) (.ref c :: st) h := q_in rfl rfl
theorem r78_49n : zR d 78 Q 49 (o0 :: o1 :: o2 :: some .null :: l) st h = zR d 78 Q 50 (o0 :: o1 :: o2 :: some .null :: l) (.null :: st) h := q_in rfl rfl
theorem r78_50 : zR d 78 Q 50 (o0 :: o1 :: o2 :: o3 :: o4 :: o5 :: some (.int x) :: l) st h = zR d 78 Q 52 (o0 :: o1 :: o2 :: o3 :: o4 :: o5 :: some (.int x) :: l) (.int x :: st) h := q_in rfl rfl
theorem r78_52 : zR d 78 Q 52 lv [.int x1, .ref c0, .ref 0] h = zM d 79 [.ref 0, .ref c0, .int x1] h (fun r h' => zR d 78 Q 55 lv (r.toList ++ []) h') := (q_clV rfl rfl (Nat.le_of_ble_eq_true rfl)).trans (zand_t ⟨rfl, Nat.le_of_ble_eq_true rfl⟩)
theorem r78_55 : zR d 78 Q 55 (o0 :: o1 :: o2 :: o3 :: o4 :: o5 :: o6 :: o7 :: l) (.int x :: st) h = zR d 78 Q 57 (o0 :: o1 :: o2 :: o3 :: o4 :: o5 :: o6 :: some (.int x) :: l) st h := q_in rfl rfl
theorem r78_57 : zR d 78 Q 57 (o0 :: o1 :: o2 :: o3 :: o4 :: o5 :: some (.int x) :: l) st h = zR d 78 Q 59 (o0 :: o1 :: o2 :: o3 :: o4 :: o5 :: some (.int x) :: l) (.int x :: st) h := q_in rfl rfl
theorem r78_59 : zR d 78 Q 59 lv (.int x :: st) h = if x = 0 then zR d 78 Q 69 lv st h else zR d 78 Q 62 lv st h := q_if rfl rfl
theorem r78_62 : zR d 78 Q 62 (o0 :: o1 :: o2 :: o3 :: o4 :: o5 :: o6 :: some (.int x) :: l) st h = zR d 78 Q 64 (o0 :: o1 :: o2 :: o3 :: o4 :: o5 :: o6 :: some (.int x) :: l) (.int x :: st) h := q_in rfl rfl
theorem r78_64 : zR d 78 Q 64 (o0 :: o1 :: o2 :: o3 :: o4 :: some (.int x) :: l) st h = zR d 78 Q 66 (o0 :: o1 :: o2 :: o3 :: o4 :: some (.int x) :: l) (.int x :: st) h := q_in rfl rfl
theorem r78_66 : zR d 78 Q 66 lv (.int z :: .int x :: st) h = if x < z then zR d 78 Q 69 lv st h else zR d 78 Q 77 lv st h := q_if rfl rfl
theorem r78_69 : zR d 78 Q 69 (o0 :: o1 :: o2 :: o3 :: o4 :: o5 :: some (.int x) :: l) st h = zR d 78 Q 71 (o0 :: o1 :: o2 :: o3 :: o4 :: o5 :: some (.int x) :: l) (.int x :: st) h := q_in rfl rfl
theorem r78_71 : zR d 78 Q 71 (o0 :: o1 :: o2 :: o3 :: o4 :: l) (.int x :: st) h = zR d 78 Q 73 (o0 :: o1 :: o2 :: o3 :: some (.int x) :: l) st h := q_in rfl rfl
theorem r78_73 : zR d 78 Q 73 (o0 :: o1 :: o2 :: o3 :: o4 :: o5 :: o6 :: some (.int x) :: l) st h = zR d 78 Q 75 (o0 :: o1 :: o2 :: o3 :: o4 :: o5 :: o6 :: some (.int x) :: l) (.int x :: st) h := q_in rfl rfl
theorem r78_75 : zR d 78 Q 75 (o0 :: o1 :: o2 :: o3 :: o4 :: o5 :: l) (.int x :: st) h = zR d 78 Q 77 (o0 :: o1 :: o2 :: o3 :: o4 :: some (.int x) :: l) st h := q_in rfl rfl
theorem r78_77 : zR d 78 Q 77 (o0 :: o1 :: o2 :: o3 :: o4 :: o5 :: some (.int x) :: l) st h = zR d 78 Q 80 (o0 :: o1 :: o2 :: o3 :: o4 :: o5 :: some (.int (x + 1)) :: l) st h := q_in rfl rfl
theorem r78_80 : zR d 78 Q 80 lv st h = zR d 78 Q 41 lv st h := q_in rfl rfl
theorem r78_83 : zR d 78 Q 83 (o0 :: o1 :: some (.int x) :: l) st h = zR d 78 Q 84 (o0 :: o1 :: some (.int x) :: l) (.int x :: st) h := q_in rfl rfl
theorem r78_84 : zR d 78 Q 84 lv (.int x :: st) h = if x = 0 then zR d 78 Q 87 lv st h else zR d 78 Q 92 lv st h := q_if rfl rfl
theorem r78_87 : zR d 78 Q 87 (o0 :: o1 :: o2 :: o3 :: some (.int x) :: l) st h = zR d 78 Q 89 (o0 :: o1 :: o2 :: o3 :: some (.int x) :: l) (.int x :: st) h := q_in rfl rfl
theorem r78_89 : zR d 78 Q 89 lv st h = zR d 78 Q 94 lv st h := q_in rfl rfl
theorem r78_92 : zR d 78 Q 92 (o0 :: o1 :: o2 :: o3 :: o4 :: some (.int x) :: l) st h = zR d 78 Q 94 (o0 :: o1 :: o2 :: o3 :: o4 :: some (.int x) :: l) (.int x :: st) h := q_in rfl rfl
theorem r78_94 : zR d 78 Q 94 lv [.int x] h = Q (some (.int x)) h := q_retz rfl rfl (Or.inl rfl)
theorem r79_0 : zR d 79 Q 0 lv st h = zR d 79 Q 1 lv (.int 0 :: st) h := q_in rfl rfl
theorem r79_1 : zR d 79 Q 1 (o0 :: o1 :: o2 :: o3 :: l) (.int x :: st) h = zR d 79 Q 2 (o0 :: o1 :: o2 :: some (.int x) :: l) st h := q_in rfl rfl
theorem r79_2 : zR d 79 Q 2 (some (.ref c) :: l) st h = zR d 79 Q 3 (some (.ref c) :: l) (.ref c :: st) h := q_in rfl rfl
theorem r79_3 : zR d 79 Q 3 lv (.ref 0 :: st) h = zR d 79 Q 6 lv (.ref 26 :: st) h := (q_and rfl rfl).trans (zand_t rfl)
theorem r79_6 : zR d 79 Q 6 (some (.ref c) :: l) st h = zR d 79 Q 7 (some (.ref c) :: l) (.ref c :: st) h := q_in rfl rfl
theorem r79_7 : zR d 79 Q 7 lv (.ref 0 :: st) h = zR d 79 Q 10 lv (.ref 10 :: st) h := (q_and rfl rfl).trans (zand_t rfl)
theorem r79_10 : zR d 79 Q 10 lv [.ref c0, .ref c] h = (zcls c = 5 ∧ zM d 36 [.ref c, .ref c0] h (fun r h' => zR d 79 Q 13 lv (r.toList ++ []) h')) := (q_clV rfl rfl (Nat.le_of_ble_eq_true rfl)).trans (zand_r (Nat.le_of_ble_eq_true rfl))
theorem r79_13 : zR d 79 Q 13 (some (.ref c) :: l) st h = zR d 79 Q 14 (some (.ref c) :: l) (.ref c :: st) h := q_in rfl rfl
theorem r79_14 : zR d 79 Q 14 lv (.ref 0 :: st) h = zR d 79 Q 17 lv (.ref 26 :: st) h := (q_and rfl rfl).trans (zand_t rfl)
theorem r79_17 : zR d 79 Q 17 lv (.ref c :: st) h = (zcls c = 5 ∧ zR d 79 Q 20 lv (.ref (c + 6) :: st) h) := q_and rfl rfl
theorem r79_20 : zR d 79 Q 20 lv st h = zR d 79 Q 21 lv (.int 1 :: st) h := q_in rfl rfl
theorem r79_21 : zR d 79 Q 21 (o0 :: o1 :: some (.int x) :: l) st h = zR d 79 Q 22 (o0 :: o1 :: some (.int x) :: l) (.int x :: st) h := q_in rfl rfl
theorem r79_22 : zR d 79 Q 22 lv (.int z :: .int x :: .ref c :: st) h = zas c x z h (fun h' => zR d 79 Q 23 lv st h') := q_iast rfl
theorem r79_23 : zR d 79 Q 23 lv st h = zR d 79 Q 24 lv (.int 0 :: st) h := q_in rfl rfl
theorem r79_24 : zR d 79 Q 24 (o0 :: o1 :: o2 :: o3 :: o4 :: l) (.int x :: st) h = zR d 79 Q 26 (o0 :: o1 :: o2 :: o3 :: some (.int x) :: l) st h := q_in rfl rfl
theorem r79_26 : zR d 79 Q 26 (o0 :: o1 :: o2 :: o3 :: some (.int x) :: l) st h = zR d 79 Q 28 (o0 :: o1 :: o2 :: o3 :: some (.int x) :: l) (.int x :: st) h := q_in rfl rfl
theorem r79_28 : zR d 79 Q 28 (o0 :: some (.ref c) :: l) st h = zR d 79 Q 29 (o0 :: some (.ref c) :: l) (.ref c :: st) h := q_in rfl rfl
theorem r79_29 : zR d 79 Q 29 lv (.ref c :: st) h = (zcls c = 3 ∧ zR d 79 Q 32 lv (.int (h c 1) :: st) h) := q_and rfl rfl
theorem r79_32 : zR d 79 Q 32 lv (.int z :: .int x :: st) h = if x < z then zR d 79 Q 35 lv st h else zR d 79 Q 78 lv st h := q_if rfl rfl
theorem r79_35 : zR d 79 Q 35 (o0 :: some (.ref c) :: l) st h = zR d 79 Q 36 (o0 :: some (.ref c) :: l) (.ref c :: st) h := q_in rfl rfl
theorem r79_36 : zR d 79 Q 36 (o0 :: o1 :: o2 :: o3 :: some (.int x) :: l) st h = zR d 79 Q 38 (o0 :: o1 :: o2 :: o3 :: some (.int x) :: l) (.int x :: st) h := q_in rfl rfl
theorem r79_38 : zR d 79 Q 38 lv [.int x0, .ref c] h = (zcls c = 3 ∧ zM d 35 [.ref c, .int x0] h (fun r h' => zR d 79 Q 41 lv (r.toList ++ []) h')) := (q_clV rfl rfl (Nat.le_of_ble_eq_true rfl)).trans (zand_r (Nat.le_of_ble_eq_true rfl))
theorem r79_41 : zR d 79 Q 41 lv (.int x :: st) h = if x = 0 then zR d 79 Q 65 lv st h else zR d 79 Q 44 lv st h := q_if rfl rfl
theorem r79_44 : zR d 79 Q 44 (o0 :: o1 :: o2 :: some (.int x) :: l) st h = zR d 79 Q 45 (o0 :: o1 :: o2 :: some (.int x) :: l) (.int x :: st) h := q_in rfl rfl
theorem r79_45 : zR d 79 Q 45 (some (.ref c) :: l) st h = zR d 79 Q 46 (some (.ref c) :: l) (.ref c :: st) h := q_in rfl rfl
theorem r79_46 : zR d 79 Q 46 lv (.ref 0 :: st) h = zR d 79 Q 49 lv (.ref 26 :: st) h := (q_and rfl rfl).trans (zand_t rfl)
theorem r79_49 : zR d 79 Q 49 lv (.ref c :: st) h = (zcls c = 5 ∧ zR d 79 Q 52 lv (.int (h c 8) :: st) h) := q_and rfl rfl
theorem r79_52 : zR d 79 Q 52 (o0 :: some (.ref c) :: l) st h = zR d 79 Q 53 (o0 :: some (.ref c) :: l) (.ref c :: st) h := q_in rfl rfl
theorem r79_53 : zR d 79 Q 53 lv (.ref c :: st) h = (zcls c = 3 ∧ zR d 79 Q 56 lv (.ref (c + 1) :: st) h) := q_and rfl rfl
theorem r79_56 : zR d 79 Q 56 (o0 :: o1 :: o2 :: o3 :: some (.int x) :: l) st h = zR d 79 Q 58 (o0 :: o1 :: o2 :: o3 :: some (.int x) :: l) (.int x :: st) h := q_in rfl rfl
theorem r79_58 : zR d 79 Q 58 lv (.int x :: .ref c :: st) h = zal c x h (fun w => zR d 79 Q 59 lv (.int w :: st) h) := q_iald rfl
theorem r79_59 : zR d 79 Q 59 lv (.int z :: .int x :: st) h = zR d 79 Q 60 lv (.int (x - z) :: st) h := q_in rfl rfl
theorem r79_60 : zR d 79 Q 60 lv [.int x0, .int y0] h = zM d 1002 [.int x0] h (fun r h' => zR d 79 Q 63 lv (r.toList ++ [.int y0]) h') := q_clS rfl rfl ⟨Nat.le_of_ble_eq_true rfl, Nat.le_of_ble_eq_true rfl⟩
theorem r79_63 : zR d 79 Q 63 lv (.int z :: .int x :: st) h = zR d 79 Q 64 lv (.int (x + z) :: st) h := q_in rfl rfl
theorem r79_64 : zR d 79 Q 64 (o0 :: o1 :: o2 :: o3 :: l) (.int x :: st) h = zR d 79 Q 65 (o0 :: o1 :: o2 :: some (.int x) :: l) st h := q_in rfl rfl
theorem r79_65 : zR d 79 Q 65 (some (.ref c) :: l) st h = zR d 79 Q 66 (some (.ref c) :: l) (.ref c :: st) h := q_in rfl rfl
theorem r79_66 : zR d 79 Q 66 lv (.ref 0 :: st) h = zR d 79 Q 69 lv (.ref 26 :: st) h := (q_and rfl rfl).trans (zand_t rfl)
theorem r79_69 : zR d 79 Q 69 lv [.ref c] h = (zcls c = 5 ∧ zM d 54 [.ref c] h (fun r h' => zR d 79 Q 72 lv (r.toList ++ []) h')) := (q_clV rfl rfl (Nat.le_of_ble_eq_true rfl)).trans (zand_r (Nat.le_of_ble_eq_true rfl))
theorem r79_72 : zR d 79 Q 72 (o0 :: o1 :: o2 :: o3 :: some (.int x) :: l) st h = zR d 79 Q 75 (o0 :: o1 :: o2 :: o3 :: some (.int (x + 1)) :: l) st h := q_in rfl rfl
theorem r79_75 : zR d 79 Q 75 lv st h = zR d 79 Q 26 lv st h := q_in rfl rfl
theorem r79_78 : zR d 79 Q 78 (o0 :: o1 :: o2 :: some (.int x) :: l) st h = zR d 79 Q 79 (o0 :: o1 :: o2 :: some (.int x) :: l) (.int x :: st) h := q_in rfl rfl
theorem r79_79 : zR d 79 Q 79 lv [.int x] h = Q (some (.int x)) h := q_retz rfl rfl (Or.inl rfl)
theorem r80_0 : zR d 80 Q 0 (some (.ref c) :: l) st h = zR d 80 Q 1 (some (.ref c) :: l) (.ref c :: st) h := q_in rfl rfl
theorem r80_1 : zR d 80 Q 1 lv (.ref 0 :: st) h = zR d 80 Q 4 lv (.ref 10 :: st) h := (q_and rfl rfl).trans (zand_t rfl)
theorem r80_4 : zR d 80 Q 4 lv (.ref c :: st) h = (zcls c = 5 ∧ zR d 80 Q 7 lv (.ref (c + 7) :: st) h) := q_and rfl rfl
theorem r80_7 : zR d 80 Q 7 lv st h = zR d 80 Q 8 lv (.int 2 :: st) h := q_in rfl rfl
theorem r80_8 : zR d 80 Q 8 lv (.int x :: .ref c :: st) h = zal c x h (fun w => zR d 80 Q 9 lv (.int w :: st) h) := q_iald rfl
theorem r80_9 : zR d 80 Q 9 (o0 :: o1 :: l) (.int x :: st) h = zR d 80 Q 10 (o0 :: some (.int x) :: l) st h := q_in rfl rfl
theorem r80_10 : zR d 80 Q 10 (o0 :: some (.int x) :: l) st h = zR d 80 Q 11 (o0 :: some (.int x) :: l) (.int x :: st) h := q_in rfl rfl
theorem r80_11 : zR d 80 Q 11 lv (.int x :: st) h = if x < 0 then zR d 80 Q 14 lv st h else zR d 80 Q 24 lv st h := q_if rfl rfl
theorem r80_14 : zR d 80 Q 14 (some (.ref c) :: l) st h = zR d 80 Q 15 (some (.ref c) :: l) (.ref c :: st) h := q_in rfl rfl
theorem r80_15 : zR d 80 Q 15 lv (.ref 0 :: st) h = zR d 80 Q 18 lv (.ref 10 :: st) h := (q_and rfl rfl).trans (zand_t rfl)
theorem r80_18 : zR d 80 Q 18 lv (.ref c :: st) h = (zcls c = 5 ∧ zR d 80 Q 21 lv (.int (h c 9) :: st) h) := q_and rfl rfl
theorem r80_21 : zR d 80 Q 21 lv st h = zR d 80 Q 47 lv st h := q_in rfl rfl
theorem r80_24 : zR d 80 Q 24 (some (.ref c) :: l) st h = zR d 80 Q 25 (some (.ref c) :: l) (.ref c :: st) h := q_in rfl rfl
theorem r80_25 : zR d 80 Q 25 lv (.ref 0 :: st) h = zR d 80 Q 28 lv (.ref 1 :: st) h := (q_and rfl rfl).trans (zand_t rfl)
theorem r80_28 : zR d 80 Q 28 (o0 :: some (.int x) :: l) st h = zR d 80 Q 29 (o0 :: some (.int x) :: l) (.int x :: st) h := q_in rfl rfl
theorem r80_29 : zR d 80 Q 29 (some (.ref c) :: l) st h = zR d 80 Q 30 (some (.ref c) :: l) (.ref c :: st) h := q_in rfl rfl
theorem r80_30 : zR d 80 Q 30 lv (.ref 0 :: st) h = zR d 80 Q 33 lv (.ref 10 :: st) h := (q_and rfl rfl).trans (zand_t rfl)
theorem r80_33 : zR d 80 Q 33 lv (.ref c :: st) h = (zcls c = 5 ∧ zR d 80 Q 36 lv (.int (h c 8) :: st) h) := q_and rfl rfl
theorem r80_36 : zR d 80 Q 36 (some (.ref c) :: l) st h = zR d 80 Q 37 (some (.ref c) :: l) (.ref c :: st) h := q_in rfl rfl
theorem r80_37 : zR d 80 Q 37 lv (.ref 0 :: st) h = zR d 80 Q 40 lv (.ref 10 :: st) h := (q_and rfl rfl).trans (zand_t rfl)
theorem r80_40 : zR d 80 Q 40 lv (.ref c :: st) h = (zcls c = 5 ∧ zR d 80 Q 43 lv (.int (h c 9) :: st) h) := q_and rfl rfl
theorem r80_43 : zR d 80 Q 43 lv st h = zR d 80 Q 44 lv (.int 0 :: st) h := q_in rfl rfl
theorem r80_44 : zR d 80 Q 44 lv [.int x3, .int x2, .int x1, .int x0, .ref 1] h = zM d 7 [.ref 1, .int x0, .int x1, .int x2, .int x3] h (fun r h' => zR d 80 Q 47 lv (r.toList ++ []) h') := (q_clV rfl rfl (Nat.le_of_ble_eq_true rfl)).trans (zand_t ⟨rfl, Nat.le_of_ble_eq_true rfl⟩)
theorem r80_47 : zR d 80 Q 47 lv [.int x] h = Q (some (.int x)) h := q_retz rfl rfl (Or.inl rfl)
theorem r81_0 : zR d 81 Q 0 (some (.ref c) :: l) st h = zR d 81 Q 1 (some (.ref c) :: l) (.ref c :: st) h := q_in rfl rfl
theorem r81_1 : zR d 81 Q 1 lv (.ref 0 :: st) h = zR d 81 Q 4 lv (.ref 7 :: st) h := (q_and rfl rfl).trans (zand_t rfl)
theorem r81_4 : zR d 81 Q 4 lv (.ref 7 :: st) h = zR d 81 Q 7 lv (.int (h 7 1) :: st) h := (q_and rfl rfl).trans (zand_t rfl)
theorem r81_7 : zR d 81 Q 7 lv st h = zR d 81 Q 9 lv (.int 84 :: st) h := q_in rfl rfl
theorem r81_9 : zR d 81 Q 9 lv (.int z :: .int x :: st) h = if x ≤ z then zR d 81 Q 15 lv st h else zR d 81 Q 12 lv st h := q_if rfl rfl
theorem r81_12 : zR d 81 Q 12 lv st h = zR d 81 Q 14 lv (.int (-1000000003) :: st) h := q_in rfl rfl
theorem r81_14 : zR d 81 Q 14 lv [.int x] h = Q (some (.int x)) h := q_retz rfl rfl (Or.inl rfl)
theorem r81_15 : zR d 81 Q 15 (some (.ref c) :: l) st h = zR d 81 Q 16 (some (.ref c) :: l) (.ref c :: st) h := q_in rfl rfl
theorem r81_16 : zR d 81 Q 16 lv (.ref 0 :: st) h = zR d 81 Q 19 lv (.ref 7 :: st) h := (q_and rfl rfl).trans (zand_t rfl)
theorem r81_19 : zR d 81 Q 19 (o0 :: some (.int x) :: l) st h = zR d 81 Q 20 (o0 :: some (.int x) :: l) (.int x :: st) h := q_in rfl rfl
theorem r81_20 : zR d 81 Q 20 lv [.int x0, .ref 7] h = zM d 9 [.ref 7, .int x0] h (fun r h' => zR d 81 Q 23 lv (r.toList ++ []) h') := (q_clV rfl rfl (Nat.le_of_ble_eq_true rfl)).trans (zand_t ⟨rfl, Nat.le_of_ble_eq_true rfl⟩)
theorem r81_23 : zR d 81 Q 23 (some (.ref c) :: l) st h = zR d 81 Q 24 (some (.ref c) :: l) (.ref c :: st) h := q_in rfl rfl
theorem r81_24 : zR d 81 Q 24 lv (.ref 0 :: st) h = zR d 81 Q 27 lv (.ref 7 :: st) h := (q_and rfl rfl).trans (zand_t rfl)
theorem r81_27 : zR d 81 Q 27 (o0 :: o1 :: some (.int x) :: l) st h = zR d 81 Q 28 (o0 :: o1 :: some (.int x) :: l) (.int x :: st) h := q_in rfl rfl
theorem r81_28 : zR d 81 Q 28 lv [.int x0, .ref 7] h = zM d 9 [.ref 7, .int x0] h (fun r h' => zR d 81 Q 31 lv (r.toList ++ []) h') := (q_clV rfl rfl (Nat.le_of_ble_eq_true rfl)).trans (zand_t ⟨rfl, Nat.le_of_ble_eq_true rfl⟩)
theorem r81_31 : zR d 81 Q 31 (some (.ref c) :: l) st h = zR d 81 Q 32 (some (.ref c) :: l) (.ref c :: st) h := q_in rfl rfl
theorem r81_32 : zR d 81 Q 32 lv (.ref 0 :: st) h = zR d 81 Q 35 lv (.ref 7 :: st) h := (q_and rfl rfl).trans (zand_t rfl)
theorem r81_35 : zR d 81 Q 35 (o0 :: o1 :: o2 :: some (.int x) :: l) st h = zR d 81 Q 36 (o0 :: o1 :: o2 :: some (.int x) :: l) (.int x :: st) h := q_in rfl rfl
theorem r81_36 : zR d 81 Q 36 lv [.int x0, .ref 7] h = zM d 9 [.ref 7, .int x0] h (fun r h' => zR d 81 Q 39 lv (r.toList ++ []) h') := (q_clV rfl rfl (Nat.le_of_ble_eq_true rfl)).trans (zand_t ⟨rfl, Nat.le_of_ble_eq_true rfl⟩)
theorem r81_39 : zR d 81 Q 39 (some (.ref c) :: l) st h = zR d 81 Q 40 (some (.ref c) :: l) (.ref c :: st) h := q_in rfl rfl
theorem r81_40 : zR d 81 Q 40 lv (.ref 0 :: st) h = zR d 81 Q 43 lv (.ref 7 :: st) h := (q_and rfl rfl).trans (zand_t rfl)
theorem r81_43 : zR d 81 Q 43 lv (.ref 7 :: st) h = zR d 81 Q 46 lv (.int (h 7 1) :: st) h := (q_and rfl rfl).trans (zand_t rfl)
theorem r81_46 : zR d 81 Q 46 lv [.int x] h = Q (some (.int x)) h := q_retz rfl rfl (Or.inl rfl)
theorem r82_0 : zR d 82 Q 0 (o0 :: some (.int x) :: l) st h = zR d 82 Q 1 (o0 :: some (.int x) :: l) (.int x :: st) h := q_in rfl rfl
theorem r82_1 : zR d 82 Q 1 lv st h = zR d 82 Q 2 lv (.int 0 :: st) h := q_in rfl rfl
theorem r82_2 : zR d 82 Q 2 (some (.ref c) :: l) st h = zR d 82 Q 3 (some (.ref c) :: l) (.ref c :: st) h := q_in rfl rfl
theorem r82_3 : zR d 82 Q 3 lv (.ref 0 :: st) h = zR d 82 Q 6 lv (.ref 7 :: st) h := (q_and rfl rfl).trans (zand_t rfl)
theorem r82_6 : zR d 82 Q 6 lv (.ref 7 :: st) h = zR d 82 Q 9 lv (.int (h 7 1) :: st) h := (q_and rfl rfl).trans (zand_t rfl)
theorem r82_9 : zR d 82 Q 9 lv [.int x2, .int x1, .int x0] h = zM d 103 [.int x0, .int x1, .int x2] h (fun r h' => zR d 82 Q 12 lv (r.toList ++ []) h') := q_clS rfl rfl ⟨Nat.le_of_ble_eq_true rfl, Nat.le_of_ble_eq_true rfl⟩
theorem r82_12 : zR d 82 Q 12 lv (.int x :: st) h = if x = 0 then zR d 82 Q 15 lv st h else zR d 82 Q 18 lv st h := q_if rfl rfl
theorem r82_15 : zR d 82 Q 15 lv st h = zR d 82 Q 17 lv (.int (-1000000001) :: st) h := q_in rfl rfl
theorem r82_17 : zR d 82 Q 17 lv [.int x] h = Q (some (.int x)) h := q_retz rfl rfl (Or.inl rfl)
theorem r82_18 : zR d 82 Q 18 (some (.ref c) :: l) st h = zR d 82 Q 19 (some (.ref c) :: l) (.ref c :: st) h := q_in rfl rfl
theorem r82_19 : zR d 82 Q 19 lv (.ref 0 :: st) h = zR d 82 Q 22 lv (.ref 7 :: st) h := (q_and rfl rfl).trans (zand_t rfl)
theorem r82_22 : zR d 82 Q 22 (o0 :: some (.int x) :: l) st h = zR d 82 Q 23 (o0 :: some (.int x) :: l) (.int x :: st) h := q_in rfl rfl
theorem r82_23 : zR d 82 Q 23 lv (.int x :: .ref 7 :: st) h = zR d 82 Q 26 lv st (zhr h 7 (upd (h 7) 1 x)) := (q_and rfl rfl).trans (zand_t ⟨rfl, Or.inl rfl⟩)
theorem r82_26 : zR d 82 Q 26 (o0 :: some (.int x) :: l) st h = zR d 82 Q 27 (o0 :: some (.int x) :: l) (.int x :: st) h := q_in rfl rfl
theorem r82_27 : zR d 82 Q 27 lv [.int x] h = Q (some (.int x)) h := q_retz rfl rfl (Or.inl rfl)
end
