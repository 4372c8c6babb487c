section
variable {d : Nat} {Q : Option Value → zH → Prop} {lv l : zL} {st : zS} {h : zH} {x z : Int32} {c : Nat} {i j : Int64} {o0 o1 o2 o3 o4 o5 o6 o7 o8 o9 o10 o11 o12 : Option Value} {x0 x1 x2 x3 x4 y0 y1 y2 y3 : Int32} {c0 c1 c2 c3 c4 a0 a1 a2 a3 : Nat} {j0 j1 j2 k0 k1 : Int64}

theorem r83_0 : zR d 83 Q 0 (some (.ref c) :: l) st h = zR d 83 Q 1 (some (.ref c) :: l) (.ref c :: st) h := q_in rfl rfl
theorem r83_1 : zR d 83 Q 1 lv (.ref 0 :: st) h = zR d 83 Q 4 lv (.ref 7 :: st) h := (q_and rfl rfl).trans (zand_t rfl)
theorem r83_4 : zR d 83 Q 4 lv [.ref 7] h = zM d 10 [.ref 7] h (fun r h' => zR d 83 Q 7 lv (r.toList ++ []) h') := (q_clV rfl rfl (Nat.le_of_ble_eq_true rfl)).trans (zand_t ⟨rfl, Nat.le_of_ble_eq_true rfl⟩)
theorem r83_7 : zR d 83 Q 7 (o0 :: o1 :: l) (.int x :: st) h = zR d 83 Q 8 (o0 :: some (.int x) :: l) st h := q_in rfl rfl
theorem r83_8 : zR d 83 Q 8 (some (.ref c) :: l) st h = zR d 83 Q 9 (some (.ref c) :: l) (.ref c :: st) h := q_in rfl rfl
theorem r83_9 : zR d 83 Q 9 lv (.ref 0 :: st) h = zR d 83 Q 12 lv (.ref 7 :: st) h := (q_and rfl rfl).trans (zand_t rfl)
theorem r83_12 : zR d 83 Q 12 lv st h = zR d 83 Q 13 lv (.int 0 :: st) h := q_in rfl rfl
theorem r83_13 : zR d 83 Q 13 lv (.int x :: .ref 7 :: st) h = zR d 83 Q 16 lv st (zhr h 7 (upd (h 7) 1 x)) := (q_and rfl rfl).trans (zand_t ⟨rfl, Or.inl rfl⟩)
theorem r83_16 : zR d 83 Q 16 (o0 :: some (.int x) :: l) st h = zR d 83 Q 17 (o0 :: some (.int x) :: l) (.int x :: st) h := q_in rfl rfl
theorem r83_17 : zR d 83 Q 17 lv (.int x :: st) h = if x < 0 then zR d 83 Q 25 lv st h else zR d 83 Q 20 lv st h := q_if rfl rfl
theorem r83_20 : zR d 83 Q 20 lv st h = zR d 83 Q 22 lv (.int (-100) :: st) h := q_in rfl rfl
theorem r83_22 : zR d 83 Q 22 (o0 :: some (.int x) :: l) st h = zR d 83 Q 23 (o0 :: some (.int x) :: l) (.int x :: st) h := q_in rfl rfl
theorem r83_23 : zR d 83 Q 23 lv (.int z :: .int x :: st) h = zR d 83 Q 24 lv (.int (x - z) :: st) h := q_in rfl rfl
theorem r83_24 : zR d 83 Q 24 lv [.int x] h = Q (some (.int x)) h := q_retz rfl rfl (Or.inl rfl)
theorem r83_25 : zR d 83 Q 25 (some (.ref c) :: l) st h = zR d 83 Q 26 (some (.ref c) :: l) (.ref c :: st) h := q_in rfl rfl
theorem r83_26 : zR d 83 Q 26 lv (.ref 0 :: st) h = zR d 83 Q 29 lv (.ref 10 :: st) h := (q_and rfl rfl).trans (zand_t rfl)
theorem r83_29 : zR d 83 Q 29 lv (.ref c :: st) h = (zcls c = 5 ∧ zR d 83 Q 32 lv (.int (h c 12) :: st) h) := q_and rfl rfl
theorem r83_32 : zR d 83 Q 32 lv st h = zR d 83 Q 34 lv (.int 14 :: st) h := q_in rfl rfl
theorem r83_34 : zR d 83 Q 34 lv (.int z :: .int x :: st) h = if x < z then zR d 83 Q 40 lv st h else zR d 83 Q 37 lv st h := q_if rfl rfl
theorem r83_37 : zR d 83 Q 37 lv st h = zR d 83 Q 39 lv (.int (-1000000003) :: st) h := q_in rfl rfl
theorem r83_39 : zR d 83 Q 39 lv [.int x] h = Q (some (.int x)) h := q_retz rfl rfl (Or.inl rfl)
theorem r83_40 : zR d 83 Q 40 (some (.ref c) :: l) st h = zR d 83 Q 41 (some (.ref c) :: l) (.ref c :: st) h := q_in rfl rfl
theorem r83_41 : zR d 83 Q 41 lv (.ref 0 :: st) h = zR d 83 Q 44 lv (.ref 10 :: st) h := (q_and rfl rfl).trans (zand_t rfl)
theorem r83_44 : zR d 83 Q 44 lv (.ref c :: st) h = (zcls c = 5 ∧ zR d 83 Q 47 lv (.int (h c 12) :: st) h) := q_and rfl rfl
theorem r83_47 : zR d 83 Q 47 (o0 :: o1 :: o2 :: l) (.int x :: st) h = zR d 83 Q 48 (o0 :: o1 :: some (.int x) :: l) st h := q_in rfl rfl
theorem r83_48 : zR d 83 Q 48 (some (.ref c) :: l) st h = zR d 83 Q 49 (some (.ref c) :: l) (.ref c :: st) h := q_in rfl rfl
theorem r83_49 : zR d 83 Q 49 lv (.ref 0 :: st) h = zR d 83 Q 52 lv (.ref 1 :: st) h := (q_and rfl rfl).trans (zand_t rfl)
theorem r83_52 : zR d 83 Q 52 (o0 :: o1 :: some (.int x) :: l) st h = zR d 83 Q 53 (o0 :: o1 :: some (.int x) :: l) (.int x :: st) h := q_in rfl rfl
theorem r83_53 : zR d 83 Q 53 (some (.ref c) :: l) st h = zR d 83 Q 54 (some (.ref c) :: l) (.ref c :: st) h := q_in rfl rfl
theorem r83_54 : zR d 83 Q 54 lv (.ref 0 :: st) h = zR d 83 Q 57 lv (.ref 7 :: st) h := (q_and rfl rfl).trans (zand_t rfl)
theorem r83_57 : zR d 83 Q 57 lv [.ref c1, .int x0, .ref 1] h = zM d 6 [.ref 1, .int x0, .ref c1] h (fun r h' => zR d 83 Q 60 lv (r.toList ++ []) h') := (q_clV rfl rfl (Nat.le_of_ble_eq_true rfl)).trans (zand_t ⟨rfl, Nat.le_of_ble_eq_true rfl⟩)
theorem r83_60 : zR d 83 Q 60 (some (.ref c) :: l) st h = zR d 83 Q 61 (some (.ref c) :: l) (.ref c :: st) h := q_in rfl rfl
theorem r83_61 : zR d 83 Q 61 lv (.ref 0 :: st) h = zR d 83 Q 64 lv (.ref 10 :: st) h := (q_and rfl rfl).trans (zand_t rfl)
theorem r83_64 : zR d 83 Q 64 lv (.ref c :: st) h = (zcls c = 5 ∧ zR d 83 Q 67 lv (.ref (c + 7) :: st) h) := q_and rfl rfl
theorem r83_67 : zR d 83 Q 67 (some (.ref c) :: l) st h = zR d 83 Q 68 (some (.ref c) :: l) (.ref c :: st) h := q_in rfl rfl
theorem r83_68 : zR d 83 Q 68 lv (.ref 0 :: st) h = zR d 83 Q 71 lv (.ref 7 :: st) h := (q_and rfl rfl).trans (zand_t rfl)
theorem r83_71 : zR d 83 Q 71 lv (.ref 7 :: st) h = zR d 83 Q 74 lv (.int (h 7 7) :: st) h := (q_and rfl rfl).trans (zand_t rfl)
theorem r83_74 : zR d 83 Q 74 (o0 :: o1 :: some (.int x) :: l) st h = zR d 83 Q 75 (o0 :: o1 :: some (.int x) :: l) (.int x :: st) h := q_in rfl rfl
theorem r83_75 : zR d 83 Q 75 lv (.int z :: .int x :: .ref c :: st) h = zas c x z h (fun h' => zR d 83 Q 76 lv st h') := q_iast rfl
theorem r83_76 : zR d 83 Q 76 (some (.ref c) :: l) st h = zR d 83 Q 77 (some (.ref c) :: l) (.ref c :: st) h := q_in rfl rfl
theorem r83_77 : zR d 83 Q 77 lv (.ref 0 :: st) h = zR d 83 Q 80 lv (.ref 10 :: st) h := (q_and rfl rfl).trans (zand_t rfl)
theorem r83_80 : zR d 83 Q 80 (o0 :: o1 :: some (.int x) :: l) st h = zR d 83 Q 81 (o0 :: o1 :: some (.int x) :: l) (.int x :: st) h := q_in rfl rfl
theorem r83_81 : zR d 83 Q 81 lv st h = zR d 83 Q 82 lv (.int 1 :: st) h := q_in rfl rfl
theorem r83_82 : zR d 83 Q 82 lv (.int z :: .int x :: st) h = zR d 83 Q 83 lv (.int (x + z) :: st) h := q_in rfl rfl
theorem r83_83 : zR d 83 Q 83 lv (.int x :: .ref c :: st) h = (zcls c = 5 ∧ zR d 83 Q 86 lv st (zhr h c (upd (h c) 12 x))) := (q_and rfl rfl).trans zand_0
theorem r83_86 : zR d 83 Q 86 (o0 :: o1 :: some (.int x) :: l) st h = zR d 83 Q 87 (o0 :: o1 :: some (.int x) :: l) (.int x :: st) h := q_in rfl rfl
theorem r83_87 : zR d 83 Q 87 lv [.int x] h = Q (some (.int x)) h := q_retz rfl rfl (Or.inl rfl)
theorem r84_0 : zR d 84 Q 0 (o0 :: some (.int x) :: l) st h = zR d 84 Q 1 (o0 :: some (.int x) :: l) (.int x :: st) h := q_in rfl rfl
theorem r84_1 : zR d 84 Q 1 lv st h = zR d 84 Q 2 lv (.int 0 :: st) h := q_in rfl rfl
theorem r84_2 : zR d 84 Q 2 (some (.ref c) :: l) st h = zR d 84 Q 3 (some (.ref c) :: l) (.ref c :: st) h := q_in rfl rfl
theorem r84_3 : zR d 84 Q 3 lv (.ref 0 :: st) h = zR d 84 Q 6 lv (.ref 10 :: st) h := (q_and rfl rfl).trans (zand_t rfl)
theorem r84_6 : zR d 84 Q 6 lv (.ref c :: st) h = (zcls c = 5 ∧ zR d 84 Q 9 lv (.int (h c 12) :: st) h) := q_and rfl rfl
theorem r84_9 : zR d 84 Q 9 lv st h = zR d 84 Q 10 lv (.int 1 :: st) h := q_in rfl rfl
theorem r84_10 : zR d 84 Q 10 lv (.int z :: .int x :: st) h = zR d 84 Q 11 lv (.int (x - z) :: st) h := q_in rfl rfl
theorem r84_11 : zR d 84 Q 11 lv [.int x2, .int x1, .int x0] h = zM d 103 [.int x0, .int x1, .int x2] h (fun r h' => zR d 84 Q 14 lv (r.toList ++ []) h') := q_clS rfl rfl ⟨Nat.le_of_ble_eq_true rfl, Nat.le_of_ble_eq_true rfl⟩
theorem r84_14 : zR d 84 Q 14 lv (.int x :: st) h = if x = 0 then zR d 84 Q 17 lv st h else zR d 84 Q 20 lv st h := q_if rfl rfl
theorem r84_17 : zR d 84 Q 17 lv st h = zR d 84 Q 19 lv (.int (-1000000001) :: st) h := q_in rfl rfl
theorem r84_19 : zR d 84 Q 19 lv [.int x] h = Q (some (.int x)) h := q_retz rfl rfl (Or.inl rfl)
theorem r84_20 : zR d 84 Q 20 (o0 :: o1 :: some (.int x) :: l) st h = zR d 84 Q 21 (o0 :: o1 :: some (.int x) :: l) (.int x :: st) h := q_in rfl rfl
theorem r84_21 : zR d 84 Q 21 lv (.int x :: st) h = if x = 0 then zR d 84 Q 48 lv st h else if x = 1 then zR d 84 Q 58 lv st h else zR d 84 Q 68 lv st h := (q_in rfl rfl).trans (by simp only [zsw, zR_ite])
theorem r84_48 : zR d 84 Q 48 (some (.ref c) :: l) st h = zR d 84 Q 49 (some (.ref c) :: l) (.ref c :: st) h := q_in rfl rfl
theorem r84_49 : zR d 84 Q 49 lv (.ref 0 :: st) h = zR d 84 Q 52 lv (.ref 1 :: st) h := (q_and rfl rfl).trans (zand_t rfl)
theorem r84_52 : zR d 84 Q 52 lv (.ref 1 :: st) h = zR d 84 Q 55 lv (.ref 2 :: st) h := (q_and rfl rfl).trans (zand_t rfl)
theorem r84_55 : zR d 84 Q 55 (o0 :: some (.int x) :: l) st h = zR d 84 Q 56 (o0 :: some (.int x) :: l) (.int x :: st) h := q_in rfl rfl
theorem r84_56 : zR d 84 Q 56 lv (.int x :: .ref c :: st) h = zal c x h (fun w => zR d 84 Q 57 lv (.int w :: st) h) := q_iald rfl
theorem r84_57 : zR d 84 Q 57 lv [.int x] h = Q (some (.int x)) h := q_retz rfl rfl (Or.inl rfl)
theorem r84_58 : zR d 84 Q 58 (some (.ref c) :: l) st h = zR d 84 Q 59 (some (.ref c) :: l) (.ref c :: st) h := q_in rfl rfl
theorem r84_59 : zR d 84 Q 59 lv (.ref 0 :: st) h = zR d 84 Q 62 lv (.ref 1 :: st) h := (q_and rfl rfl).trans (zand_t rfl)
theorem r84_62 : zR d 84 Q 62 lv (.ref 1 :: st) h = zR d 84 Q 65 lv (.ref 3 :: st) h := (q_and rfl rfl).trans (zand_t rfl)
theorem r84_65 : zR d 84 Q 65 (o0 :: some (.int x) :: l) st h = zR d 84 Q 66 (o0 :: some (.int x) :: l) (.int x :: st) h := q_in rfl rfl
theorem r84_66 : zR d 84 Q 66 lv (.int x :: .ref c :: st) h = zal c x h (fun w => zR d 84 Q 67 lv (.int w :: st) h) := q_iald rfl
theorem r84_67 : zR d 84 Q 67 lv [.int x] h = Q (some (.int x)) h := q_retz rfl rfl (Or.inl rfl)
theorem r84_68 : zR d 84 Q 68 lv st h = zR d 84 Q 70 lv (.int (-1000000001) :: st) h := q_in rfl rfl
theorem r84_70 : zR d 84 Q 70 lv [.int x] h = Q (some (.int x)) h := q_retz rfl rfl (Or.inl rfl)
theorem r85_0 : zR d 85 Q 0 (o0 :: some (.int x) :: l) st h = zR d 85 Q 1 (o0 :: some (.int x) :: l) (.int x :: st) h := q_in rfl rfl
theorem r85_1 : zR d 85 Q 1 lv st h = zR d 85 Q 2 lv (.int 0 :: st) h := q_in rfl rfl
theorem r85_2 : zR d 85 Q 2 lv st h = zR d 85 Q 3 lv (.int 2 :: st) h := q_in rfl rfl
theorem r85_3 : zR d 85 Q 3 lv [.int x2, .int x1, .int x0] h = zM d 103 [.int x0, .int x1, .int x2] h (fun r h' => zR d 85 Q 6 lv (r.toList ++ []) h') := q_clS rfl rfl ⟨Nat.le_of_ble_eq_true rfl, Nat.le_of_ble_eq_true rfl⟩
theorem r85_6 : zR d 85 Q 6 lv (.int x :: st) h = if x = 0 then zR d 85 Q 9 lv st h else zR d 85 Q 12 lv st h := q_if rfl rfl
theorem r85_9 : zR d 85 Q 9 lv st h = zR d 85 Q 11 lv (.int (-1000000001) :: st) h := q_in rfl rfl
theorem r85_11 : zR d 85 Q 11 lv [.int x] h = Q (some (.int x)) h := q_retz rfl rfl (Or.inl rfl)
theorem r85_12 : zR d 85 Q 12 (some (.ref c) :: l) st h = zR d 85 Q 13 (some (.ref c) :: l) (.ref c :: st) h := q_in rfl rfl
theorem r85_13 : zR d 85 Q 13 lv (.ref 0 :: st) h = zR d 85 Q 16 lv (.ref 10 :: st) h := (q_and rfl rfl).trans (zand_t rfl)
theorem r85_16 : zR d 85 Q 16 lv (.ref c :: st) h = (zcls c = 5 ∧ zR d 85 Q 19 lv (.ref (c + 7) :: st) h) := q_and rfl rfl
theorem r85_19 : zR d 85 Q 19 (o0 :: some (.int x) :: l) st h = zR d 85 Q 20 (o0 :: some (.int x) :: l) (.int x :: st) h := q_in rfl rfl
theorem r85_20 : zR d 85 Q 20 lv (.int x :: .ref c :: st) h = zal c x h (fun w => zR d 85 Q 21 lv (.int w :: st) h) := q_iald rfl
theorem r85_21 : zR d 85 Q 21 lv (.int x :: st) h = if x < 0 then zR d 85 Q 24 lv st h else zR d 85 Q 29 lv st h := q_if rfl rfl
theorem r85_24 : zR d 85 Q 24 lv st h = zR d 85 Q 26 lv (.int (-1000000005) :: st) h := q_in rfl rfl
theorem r85_26 : zR d 85 Q 26 lv st h = zR d 85 Q 38 lv st h := q_in rfl rfl
theorem r85_29 : zR d 85 Q 29 (some (.ref c) :: l) st h = zR d 85 Q 30 (some (.ref c) :: l) (.ref c :: st) h := q_in rfl rfl
theorem r85_30 : zR d 85 Q 30 lv (.ref 0 :: st) h = zR d 85 Q 33 lv (.ref 10 :: st) h := (q_and rfl rfl).trans (zand_t rfl)
theorem r85_33 : zR d 85 Q 33 lv (.ref c :: st) h = (zcls c = 5 ∧ zR d 85 Q 36 lv (.ref (c + 7) :: st) h) := q_and rfl rfl
theorem r85_36 : zR d 85 Q 36 (o0 :: some (.int x) :: l) st h = zR d 85 Q 37 (o0 :: some (.int x) :: l) (.int x :: st) h := q_in rfl rfl
theorem r85_37 : zR d 85 Q 37 lv (.int x :: .ref c :: st) h = zal c x h (fun w => zR d 85 Q 38 lv (.int w :: st) h) := q_iald rfl
theorem r85_38 : zR d 85 Q 38 lv [.int x] h = Q (some (.int x)) h := q_retz rfl rfl (Or.inl rfl)
theorem r86_0 : zR d 86 Q 0 (some (.ref c) :: l) st h = zR d 86 Q 1 (some (.ref c) :: l) (.ref c :: st) h := q_in rfl rfl
theorem r86_1 : zR d 86 Q 1 (o0 :: some (.int x) :: l) st h = zR d 86 Q 2 (o0 :: some (.int x) :: l) (.int x :: st) h := q_in rfl rfl
theorem r86_2 : zR d 86 Q 2 lv [.int x0, .ref 0] h = zM d 95 [.ref 0, .int x0] h (fun r h' => zR d 86 Q 5 lv (r.toList ++ []) h') := (q_clV rfl rfl (Nat.le_of_ble_eq_true rfl)).trans (zand_t ⟨rfl, Nat.le_of_ble_eq_true rfl⟩)
theorem r86_5 : zR d 86 Q 5 (o0 :: o1 :: o2 :: o3 :: o4 :: l) (.ref c :: st) h = zR d 86 Q 7 (o0 :: o1 :: o2 :: o3 :: some (.ref c) :: l) st h := q_in rfl rfl
theorem r86_5n : zR d 86 Q 5 (o0 :: o1 :: o2 :: o3 :: o4 :: l) (.null :: st) h = zR d 86 Q 7 (o0 :: o1 :: o2 :: o3 :: some .null :: l) st h := q_in rfl rfl
theorem r86_7 : zR d 86 Q 7 (o0 :: o1 :: o2 :: o3 :: some (.ref c) :: l) st h = zR d 86 Q 9 (o0 :: o1 :: o2 :: o3 :: some (.ref c) :: l) (.ref c :: st) h := q_in rfl rfl
theorem r86_7n : zR d 86 Q 7 (o0 :: o1 :: o2 :: o3 :: some .null :: l) st h = zR d 86 Q 9 (o0 :: o1 :: o2 :: o3 :: some .null :: l) (.null :: st) h := q_in rfl rfl
theorem r86_9 : zR d 86 Q 9 lv (.ref c :: st) h = zR d 86 Q 12 lv st h := q_in rfl rfl
theorem r86_9n : zR d 86 Q 9 lv (.null :: st) h = zR d 86 Q 21 lv st h := q_in rfl rfl
theorem r86_12 : zR d 86 Q 12 (o0 :: o1 :: some (.int x) :: l) st h = zR d 86 Q 13 (o0 :: o1 :: some (.int x) :: l) (.int x :: st) h := q_in rfl rfl
theorem r86_13 : zR d 86 Q 13 lv st h = zR d 86 Q 14 lv (.int (-1) :: st) h := q_in rfl rfl
theorem r86_14 : zR d 86 Q 14 lv st h = zR d 86 Q 15 lv (.int 1 :: st) h := q_in rfl rfl
theorem r86_15 : zR d 86 Q 15 lv [.int x2, .int x1, .int x0] h = zM d 103 [.int x0, .int x1, .int x2] h (fun r h' => zR d 86 Q 18 lv (r.toList ++ []) h') := q_clS rfl rfl ⟨Nat.le_of_ble_eq_true rfl, Nat.le_of_ble_eq_true rfl⟩
theorem r86_18 : zR d 86 Q 18 lv (.int x :: st) h = if x = 0 then zR d 86 Q 21 lv st h else zR d 86 Q 24 lv st h := q_if rfl rfl
theorem r86_21 : zR d 86 Q 21 lv st h = zR d 86 Q 23 lv (.int (-1000000001) :: st) h := q_in rfl rfl
theorem r86_23 : zR d 86 Q 23 lv [.int x] h = Q (some (.int x)) h := q_retz rfl rfl (Or.inl rfl)
theorem r86_24 : zR d 86 Q 24 (o0 :: o1 :: some (.int x) :: l) st h = zR d 86 Q 25 (o0 :: o1 :: some (.int x) :: l) (.int x :: st) h := q_in rfl rfl
theorem r86_25 : zR d 86 Q 25 lv st h = zR d 86 Q 26 lv (.int (-1) :: st) h := q_in rfl rfl
theorem r86_26 : zR d 86 Q 26 lv (.int z :: .int x :: st) h = if x = z then zR d 86 Q 29 lv st h else zR d 86 Q 38 lv st h := q_if rfl rfl
theorem r86_29 : zR d 86 Q 29 (o0 :: o1 :: o2 :: o3 :: some (.ref c) :: l) st h = zR d 86 Q 31 (o0 :: o1 :: o2 :: o3 :: some (.ref c) :: l) (.ref c :: st) h := q_in rfl rfl
theorem r86_29n : zR d 86 Q 29 (o0 :: o1 :: o2 :: o3 :: some .null :: l) st h = zR d 86 Q 31 (o0 :: o1 :: o2 :: o3 :: some .null :: l) (.null :: st) h := q_in rfl rfl
theorem r86_31 : zR d 86 Q 31 (o0 :: o1 :: some (.int x) :: l) st h = zR d 86 Q 32 (o0 :: o1 :: some (.int x) :: l) (.int x :: st) h := q_in rfl rfl
theorem r86_32 : zR d 86 Q 32 lv st h = zR d 86 Q 33 lv (.int 0 :: st) h := q_in rfl rfl
theorem r86_33 : zR d 86 Q 33 lv [.int x1, .int x0, .ref c] h = (zcls c = 3 ∧ zM d 30 [.ref c, .int x0, .int x1] h (fun r h' => zR d 86 Q 36 lv (r.toList ++ []) h')) := (q_clV rfl rfl (Nat.le_of_ble_eq_true rfl)).trans (zand_r (Nat.le_of_ble_eq_true rfl))
theorem r86_36 : zR d 86 Q 36 lv st h = zR d 86 Q 37 lv (.int 0 :: st) h := q_in rfl rfl
theorem r86_37 : zR d 86 Q 37 lv [.int x] h = Q (some (.int x)) h := q_retz rfl rfl (Or.inl rfl)
theorem r86_38 : zR d 86 Q 38 (o0 :: o1 :: o2 :: some (.int x) :: l) st h = zR d 86 Q 39 (o0 :: o1 :: o2 :: some (.int x) :: l) (.int x :: st) h := q_in rfl rfl
theorem r86_39 : zR d 86 Q 39 lv st h = zR d 86 Q 41 lv (.int 24 :: st) h := q_in rfl rfl
theorem r86_41 : zR d 86 Q 41 lv (.int z :: .int x :: st) h = if x ≤ z then zR d 86 Q 47 lv st h else zR d 86 Q 44 lv st h := q_if rfl rfl
theorem r86_44 : zR d 86 Q 44 lv st h = zR d 86 Q 46 lv (.int (-1000000001) :: st) h := q_in rfl rfl
theorem r86_46 : zR d 86 Q 46 lv [.int x] h = Q (some (.int x)) h := q_retz rfl rfl (Or.inl rfl)
theorem r86_47 : zR d 86 Q 47 (o0 :: o1 :: o2 :: some (.int x) :: l) st h = zR d 86 Q 48 (o0 :: o1 :: o2 :: some (.int x) :: l) (.int x :: st) h := q_in rfl rfl
theorem r86_48 : zR d 86 Q 48 lv (.int x :: st) h = if x < 0 then zR d 86 Q 51 lv st h else zR d 86 Q 54 lv st h := q_if rfl rfl
theorem r86_51 : zR d 86 Q 51 lv st h = zR d 86 Q 53 lv (.int (-1000000014) :: st) h := q_in rfl rfl
theorem r86_53 : zR d 86 Q 53 lv [.int x] h = Q (some (.int x)) h := q_retz rfl rfl (Or.inl rfl)
theorem r86_54 : zR d 86 Q 54 (o0 :: o1 :: o2 :: o3 :: some (.ref c) :: l) st h = zR d 86 Q 56 (o0 :: o1 :: o2 :: o3 :: some (.ref c) :: l) (.ref c :: st) h := q_in rfl rfl
theorem r86_54n : zR d 86 Q 54 (o0 :: o1 :: o2 :: o3 :: some .null :: l) st h = zR d 86 Q 56 (o0 :: o1 :: o2 :: o3 :: some .null :: l) (.null :: st) h := q_in rfl rfl
theorem r86_56 : zR d 86 Q 56 (o0 :: o1 :: some (.int x) :: l) st h = zR d 86 Q 57 (o0 :: o1 :: some (.int x) :: l) (.int x :: st) h := q_in rfl rfl
theorem r86_57 : zR d 86 Q 57 (o0 :: o1 :: o2 :: some (.int x) :: l) st h = zR d 86 Q 58 (o0 :: o1 :: o2 :: some (.int x) :: l) (.int x :: st) h := q_in rfl rfl
theorem r86_58 : zR d 86 Q 58 lv [.int x1, .int x0, .ref c] h = (zcls c = 3 ∧ zM d 30 [.ref c, .int x0, .int x1] h (fun r h' => zR d 86 Q 61 lv (r.toList ++ []) h')) := (q_clV rfl rfl (Nat.le_of_ble_eq_true rfl)).trans (zand_r (Nat.le_of_ble_eq_true rfl))
theorem r86_61 : zR d 86 Q 61 (o0 :: o1 :: o2 :: some (.int x) :: l) st h = zR d 86 Q 62 (o0 :: o1 :: o2 :: some (.int x) :: l) (.int x :: st) h := q_in rfl rfl
theorem r86_62 : zR d 86 Q 62 lv [.int x] h = Q (some (.int x)) h := q_retz rfl rfl (Or.inl rfl)
theorem r87_0 : zR d 87 Q 0 (some (.ref c) :: l) st h = zR d 87 Q 1 (some (.ref c) :: l) (.ref c :: st) h := q_in rfl rfl
theorem r87_1 : zR d 87 Q 1 (o0 :: some (.int x) :: l) st h = zR d 87 Q 2 (o0 :: some (.int x) :: l) (.int x :: st) h := q_in rfl rfl
theorem r87_2 : zR d 87 Q 2 lv [.int x0, .ref 0] h = zM d 95 [.ref 0, .int x0] h (fun r h' => zR d 87 Q 5 lv (r.toList ++ []) h') := (q_clV rfl rfl (Nat.le_of_ble_eq_true rfl)).trans (zand_t ⟨rfl, Nat.le_of_ble_eq_true rfl⟩)
theorem r87_5 : zR d 87 Q 5 (o0 :: o1 :: o2 :: o3 :: o4 :: l) (.ref c :: st) h = zR d 87 Q 7 (o0 :: o1 :: o2 :: o3 :: some (.ref c) :: l) st h := q_in rfl rfl
theorem r87_5n : zR d 87 Q 5 (o0 :: o1 :: o2 :: o3 :: o4 :: l) (.null :: st) h = zR d 87 Q 7 (o0 :: o1 :: o2 :: o3 :: some .null :: l) st h := q_in rfl rfl
theorem r87_7 : zR d 87 Q 7 (o0 :: o1 :: o2 :: o3 :: some (.ref c) :: l) st h = zR d 87 Q 9 (o0 :: o1 :: o2 :: o3 :: some (.ref c) :: l) (.ref c :: st) h := q_in rfl rfl
theorem r87_7n : zR d 87 Q 7 (o0 :: o1 :: o2 :: o3 :: some .null :: l) st h = zR d 87 Q 9 (o0 :: o1 :: o2 :: o3 :: some .null :: l) (.null :: st) h := q_in rfl rfl
theorem r87_9 : zR d 87 Q 9 lv (.ref c :: st) h = zR d 87 Q 15 lv st h := q_in rfl rfl
theorem r87_9n : zR d 87 Q 9 lv (.null :: st) h = zR d 87 Q 12 lv st h := q_in rfl rfl
theorem r87_12 : zR d 87 Q 12 lv st h = zR d 87 Q 14 lv (.int (-1000000001) :: st) h := q_in rfl rfl
theorem r87_14 : zR d 87 Q 14 lv [.int x] h = Q (some (.int x)) h := q_retz rfl rfl (Or.inl rfl)
theorem r87_15 : zR d 87 Q 15 (o0 :: o1 :: o2 :: o3 :: some (.ref c) :: l) st h = zR d 87 Q 17 (o0 :: o1 :: o2 :: o3 :: some (.ref c) :: l) (.ref c :: st) h := q_in rfl rfl
theorem r87_15n : zR d 87 Q 15 (o0 :: o1 :: o2 :: o3 :: some .null :: l) st h = zR d 87 Q 17 (o0 :: o1 :: o2 :: o3 :: some .null :: l) (.null :: st) h := q_in rfl rfl
theorem r87_17 : zR d 87 Q 17 lv [.ref c] h = (zcls c = 3 ∧ zM d 32 [.ref c] h (fun r h' => zR d 87 Q 20 lv (r.toList ++ []) h')) := (q_clV rfl rfl (Nat.le_of_ble_eq_true rfl)).trans (zand_r (Nat.le_of_ble_eq_true rfl))
theorem r87_20 : zR d 87 Q 20 lv (.int x :: st) h = if x = 0 then zR d 87 Q 26 lv st h else zR d 87 Q 23 lv st h := q_if rfl rfl
theorem r87_23 : zR d 87 Q 23 lv st h = zR d 87 Q 25 lv (.int (-1000000011) :: st) h := q_in rfl rfl
theorem r87_25 : zR d 87 Q 25 lv [.int x] h = Q (some (.int x)) h := q_retz rfl rfl (Or.inl rfl)
theorem r87_26 : zR d 87 Q 26 (o0 :: o1 :: o2 :: o3 :: some (.ref c) :: l) st h = zR d 87 Q 28 (o0 :: o1 :: o2 :: o3 :: some (.ref c) :: l) (.ref c :: st) h := q_in rfl rfl
theorem r87_26n : zR d 87 Q 26 (o0 :: o1 :: o2 :: o3 :: some .null :: l) st h = zR d 87 Q 28 (o0 :: o1 :: o2 :: o3 :: some .null :: l) (.null :: st) h := q_in rfl rfl
theorem r87_28 : zR d 87 Q 28 (o0 :: o1 :: some (.int x) :: l) st h = zR d 87 Q 29 (o0 :: o1 :: some (.int x) :: l) (.int x :: st) h := q_in rfl rfl
theorem r87_29 : zR d 87 Q 29 lv [.int x0, .ref c] h = (zcls c = 3 ∧ zM d 33 [.ref c, .int x0] h (fun r h' => zR d 87 Q 32 lv (r.toList ++ []) h')) := (q_clV rfl rfl (Nat.le_of_ble_eq_true rfl)).trans (zand_r (Nat.le_of_ble_eq_true rfl))
theorem r87_32 : zR d 87 Q 32 lv (.int x :: st) h = if x = 0 then zR d 87 Q 35 lv st h else zR d 87 Q 39 lv st h := q_if rfl rfl
theorem r87_35 : zR d 87 Q 35 lv st h = zR d 87 Q 38 lv (.int (-1000000013) :: st) h := q_in rfl rfl
theorem r87_38 : zR d 87 Q 38 lv [.int x] h = Q (some (.int x)) h := q_retz rfl rfl (Or.inl rfl)
theorem r87_39 : zR d 87 Q 39 (o0 :: o1 :: o2 :: o3 :: some (.ref c) :: l) st h = zR d 87 Q 41 (o0 :: o1 :: o2 :: o3 :: some (.ref c) :: l) (.ref c :: st) h := q_in rfl rfl
theorem r87_39n : zR d 87 Q 39 (o0 :: o1 :: o2 :: o3 :: some .null :: l) st h = zR d 87 Q 41 (o0 :: o1 :: o2 :: o3 :: some .null :: l) (.null :: st) h := q_in rfl rfl
theorem r87_41 : zR d 87 Q 41 lv (.ref c :: st) h = (zcls c = 3 ∧ zR d 87 Q 44 lv (.int (h c 0) :: st) h) := q_and rfl rfl
theorem r87_44 : zR d 87 Q 44 lv (.int x :: st) h = if x = 0 then zR d 87 Q 47 lv st h else zR d 87 Q 67 lv st h := q_if rfl rfl
theorem r87_47 : zR d 87 Q 47 (o0 :: o1 :: o2 :: some (.int x) :: l) st h = zR d 87 Q 48 (o0 :: o1 :: o2 :: some (.int x) :: l) (.int x :: st) h := q_in rfl rfl
theorem r87_48 : zR d 87 Q 48 lv st h = zR d 87 Q 50 lv (.int (-1000000005) :: st) h := q_in rfl rfl
theorem r87_50 : zR d 87 Q 50 lv (.int z :: .int x :: st) h = if x = z then zR d 87 Q 53 lv st h else zR d 87 Q 56 lv st h := q_if rfl rfl
theorem r87_53 : zR d 87 Q 53 lv st h = zR d 87 Q 55 lv (.int (-1000000012) :: st) h := q_in rfl rfl
theorem r87_55 : zR d 87 Q 55 lv [.int x] h = Q (some (.int x)) h := q_retz rfl rfl (Or.inl rfl)
theorem r87_56 : zR d 87 Q 56 (o0 :: o1 :: o2 :: o3 :: some (.ref c) :: l) st h = zR d 87 Q 58 (o0 :: o1 :: o2 :: o3 :: some (.ref c) :: l) (.ref c :: st) h := q_in rfl rfl
theorem r87_56n : zR d 87 Q 56 (o0 :: o1 :: o2 :: o3 :: some .null :: l) st h = zR d 87 Q 58 (o0 :: o1 :: o2 :: o3 :: some .null :: l) (.null :: st) h := q_in rfl rfl
theorem r87_58 : zR d 87 Q 58 lv (.ref c :: st) h = (zcls c = 3 ∧ zR d 87 Q 61 lv (.ref (c + 1) :: st) h) := q_and rfl rfl
theorem r87_61 : zR d 87 Q 61 (o0 :: o1 :: some (.int x) :: l) st h = zR d 87 Q 62 (o0 :: o1 :: some (.int x) :: l) (.int x :: st) h := q_in rfl rfl
theorem r87_62 : zR d 87 Q 62 (o0 :: o1 :: o2 :: some (.int x) :: l) st h = zR d 87 Q 63 (o0 :: o1 :: o2 :: some (.int x) :: l) (.int x :: st) h := q_in rfl rfl
theorem r87_63 : zR d 87 Q 63 lv (.int x :: st) h = zR d 87 Q 64 lv (.int x.toInt16.toInt32 :: st) h := q_in rfl rfl
theorem r87_64 : zR d 87 Q 64 lv (.int z :: .int x :: .ref c :: st) h = zas c x z h (fun h' => zR d 87 Q 65 lv st h') := q_iast rfl
theorem r87_65 : zR d 87 Q 65 lv st h = zR d 87 Q 66 lv (.int 1 :: st) h := q_in rfl rfl
theorem r87_66 : zR d 87 Q 66 lv [.int x] h = Q (some (.int x)) h := q_retz rfl rfl (Or.inl rfl)
theorem r87_67 : zR d 87 Q 67 (o0 :: o1 :: o2 :: some (.int x) :: l) st h = zR d 87 Q 68 (o0 :: o1 :: o2 :: some (.int x) :: l) (.int x :: st) h := q_in rfl rfl
theorem r87_68 : zR d 87 Q 68 lv st h = zR d 87 Q 70 lv (.int (-1000000005) :: st) h := q_in rfl rfl
theorem r87_70 : zR d 87 Q 70 lv (.int z :: .int x :: st) h = if x = z then zR d 87 Q 73 lv st h else zR d 87 Q 85 lv st h := q_if rfl rfl
theorem r87_73 : zR d 87 Q 73 (o0 :: o1 :: o2 :: o3 :: some (.ref c) :: l) st h = zR d 87 Q 75 (o0 :: o1 :: o2 :: o3 :: some (.ref c) :: l) (.ref c :: st) h := q_in rfl rfl
theorem r87_73n : zR d 87 Q 73 (o0 :: o1 :: o2 :: o3 :: some .null :: l) st h = zR d 87 Q 75 (o0 :: o1 :: o2 :: o3 :: some .null :: l) (.null :: st) h := q_in rfl rfl
theorem r87_75 : zR d 87 Q 75 lv (.ref c :: st) h = (zcls c = 3 ∧ zR d 87 Q 78 lv (.ref (c + 1) :: st) h) := q_and rfl rfl
theorem r87_78 : zR d 87 Q 78 (o0 :: o1 :: some (.int x) :: l) st h = zR d 87 Q 79 (o0 :: o1 :: some (.int x) :: l) (.int x :: st) h := q_in rfl rfl
theorem r87_79 : zR d 87 Q 79 lv st h = zR d 87 Q 82 lv (.int (-2147483648) :: st) h := q_in rfl rfl
theorem r87_82 : zR d 87 Q 82 lv (.int z :: .int x :: .ref c :: st) h = zas c x z h (fun h' => zR d 87 Q 83 lv st h') := q_iast rfl
theorem r87_83 : zR d 87 Q 83 lv st h = zR d 87 Q 84 lv (.int 1 :: st) h := q_in rfl rfl
theorem r87_84 : zR d 87 Q 84 lv [.int x] h = Q (some (.int x)) h := q_retz rfl rfl (Or.inl rfl)
theorem r87_85 : zR d 87 Q 85 (o0 :: o1 :: o2 :: some (.int x) :: l) st h = zR d 87 Q 86 (o0 :: o1 :: o2 :: some (.int x) :: l) (.int x :: st) h := q_in rfl rfl
theorem r87_86 : zR d 87 Q 86 lv st h = zR d 87 Q 89 lv (.int (-99999) :: st) h := q_in rfl rfl
theorem r87_89 : zR d 87 Q 89 lv st h = zR d 87 Q 92 lv (.int 99999 :: st) h := q_in rfl rfl
theorem r87_92 : zR d 87 Q 92 lv [.int x2, .int x1, .int x0] h = zM d 103 [.int x0, .int x1, .int x2] h (fun r h' => zR d 87 Q 95 lv (r.toList ++ []) h') := q_clS rfl rfl ⟨Nat.le_of_ble_eq_true rfl, Nat.le_of_ble_eq_true rfl⟩
theorem r87_95 : zR d 87 Q 95 lv (.int x :: st) h = if x = 0 then zR d 87 Q 98 lv st h else zR d 87 Q 101 lv st h := q_if rfl rfl
theorem r87_98 : zR d 87 Q 98 lv st h = zR d 87 Q 100 lv (.int (-1000000001) :: st) h := q_in rfl rfl
theorem r87_100 : zR d 87 Q 100 lv [.int x] h = Q (some (.int x)) h := q_retz rfl rfl (Or.inl rfl)
theorem r87_101 : zR d 87 Q 101 (o0 :: o1 :: o2 :: o3 :: some (.ref c) :: l) st h = zR d 87 Q 103 (o0 :: o1 :: o2 :: o3 :: some (.ref c) :: l) (.ref c :: st) h := q_in rfl rfl
theorem r87_101n : zR d 87 Q 101 (o0 :: o1 :: o2 :: o3 :: some .null :: l) st h = zR d 87 Q 103 (o0 :: o1 :: o2 :: o3 :: some .null :: l) (.null :: st) h := q_in rfl rfl
theorem r87_103 : zR d 87 Q 103 lv (.ref c :: st) h = (zcls c = 3 ∧ zR d 87 Q 106 lv (.ref (c + 1) :: st) h) := q_and rfl rfl
theorem r87_106 : zR d 87 Q 106 (o0 :: o1 :: some (.int x) :: l) st h = zR d 87 Q 107 (o0 :: o1 :: some (.int x) :: l) (.int x :: st) h := q_in rfl rfl
theorem r87_107 : zR d 87 Q 107 (o0 :: o1 :: o2 :: some (.int x) :: l) st h = zR d 87 Q 108 (o0 :: o1 :: o2 :: some (.int x) :: l) (.int x :: st) h := q_in rfl rfl
theorem r87_108 : zR d 87 Q 108 lv (.int z :: .int x :: .ref c :: st) h = zas c x z h (fun h' => zR d 87 Q 109 lv st h') := q_iast rfl
theorem r87_109 : zR d 87 Q 109 lv st h = zR d 87 Q 110 lv (.int 1 :: st) h := q_in rfl rfl
theorem r87_110 : zR d 87 Q 110 lv [.int x] h = Q (some (.int x)) h := q_retz rfl rfl (Or.inl rfl)
theorem r88_0 : zR d 88 Q 0 (some (.ref c) :: l) st h = zR d 88 Q 1 (some (.ref c) :: l) (.ref c :: st) h := q_in rfl rfl
theorem r88_1 : zR d 88 Q 1 (o0 :: some (.int x) :: l) st h = zR d 88 Q 2 (o0 :: some (.int x) :: l) (.int x :: st) h := q_in rfl rfl
theorem r88_2 : zR d 88 Q 2 lv [.int x0, .ref 0] h = zM d 95 [.ref 0, .int x0] h (fun r h' => zR d 88 Q 5 lv (r.toList ++ []) h') := (q_clV rfl rfl (Nat.le_of_ble_eq_true rfl)).trans (zand_t ⟨rfl, Nat.le_of_ble_eq_true rfl⟩)
theorem r88_5 : zR d 88 Q 5 (o0 :: o1 :: o2 :: l) (.ref c :: st) h = zR d 88 Q 6 (o0 :: o1 :: some (.ref c) :: l) st h := q_in rfl rfl
theorem r88_5n : zR d 88 Q 5 (o0 :: o1 :: o2 :: l) (.null :: st) h = zR d 88 Q 6 (o0 :: o1 :: some .null :: l) st h := q_in rfl rfl
theorem r88_6 : zR d 88 Q 6 (o0 :: o1 :: some (.ref c) :: l) st h = zR d 88 Q 7 (o0 :: o1 :: some (.ref c) :: l) (.ref c :: st) h := q_in rfl rfl
theorem r88_6n : zR d 88 Q 6 (o0 :: o1 :: some .null :: l) st h = zR d 88 Q 7 (o0 :: o1 :: some .null :: l) (.null :: st) h := q_in rfl rfl
theorem r88_7 : zR d 88 Q 7 lv (.ref c :: st) h = zR d 88 Q 13 lv st h := q_in rfl rfl
theorem r88_7n : zR d 88 Q 7 lv (.null :: st) h = zR d 88 Q 10 lv st h := q_in rfl rfl
theorem r88_10 : zR d 88 Q 10 lv st h = zR d 88 Q 12 lv (.int (-1000000001) :: st) h := q_in rfl rfl
theorem r88_12 : zR d 88 Q 12 lv [.int x] h = Q (some (.int x)) h := q_retz rfl rfl (Or.inl rfl)
theorem r88_13 : zR d 88 Q 13 (o0 :: o1 :: some (.ref c) :: l) st h = zR d 88 Q 14 (o0 :: o1 :: some (.ref c) :: l) (.ref c :: st) h := q_in rfl rfl
theorem r88_13n : zR d 88 Q 13 (o0 :: o1 :: some .null :: l) st h = zR d 88 Q 14 (o0 :: o1 :: some .null :: l) (.null :: st) h := q_in rfl rfl
theorem r88_14 : zR d 88 Q 14 lv [.ref c] h = (zcls c = 3 ∧ zM d 32 [.ref c] h (fun r h' => zR d 88 Q 17 lv (r.toList ++ []) h')) := (q_clV rfl rfl (Nat.le_of_ble_eq_true rfl)).trans (zand_r (Nat.le_of_ble_eq_true rfl))
theorem r88_17 : zR d 88 Q 17 lv (.int x :: st) h = if x = 0 then zR d 88 Q 23 lv st h else zR d 88 Q 20 lv st h := q_if rfl rfl
theorem r88_20 : zR d 88 Q 20 lv st h = zR d 88 Q 22 lv (.int (-1000000011) :: st) h := q_in rfl rfl
theorem r88_22 : zR d 88 Q 22 lv [.int x] h = Q (some (.int x)) h := q_retz rfl rfl (Or.inl rfl)
theorem r88_23 : zR d 88 Q 23 lv st h = zR d 88 Q 24 lv (.int 0 :: st) h := q_in rfl rfl
theorem r88_24 : zR d 88 Q 24 (o0 :: o1 :: o2 :: o3 :: l) (.int x :: st) h = zR d 88 Q 25 (o0 :: o1 :: o2 :: some (.int x) :: l) st h := q_in rfl rfl
theorem r88_25 : zR d 88 Q 25 lv st h = zR d 88 Q 26 lv (.int 0 :: st) h := q_in rfl rfl
theorem r88_26 : zR d 88 Q 26 (o0 :: o1 :: o2 :: o3 :: o4 :: l) (.int x :: st) h = zR d 88 Q 28 (o0 :: o1 :: o2 :: o3 :: some (.int x) :: l) st h := q_in rfl rfl
theorem r88_28 : zR d 88 Q 28 (o0 :: o1 :: o2 :: o3 :: some (.int x) :: l) st h = zR d 88 Q 30 (o0 :: o1 :: o2 :: o3 :: some (.int x) :: l) (.int x :: st) h := q_in rfl rfl
theorem r88_30 : zR d 88 Q 30 (some (.ref c) :: l) st h = zR d 88 Q 31 (some (.ref c) :: l) (.ref c :: st) h := q_in rfl rfl
theorem r88_31 : zR d 88 Q 31 lv (.ref 0 :: st) h = zR d 88 Q 34 lv (.ref 10 :: st) h := (q_and rfl rfl).trans (zand_t rfl)
theorem r88_34 : zR d 88 Q 34 lv (.ref c :: st) h = (zcls c = 5 ∧ zR d 88 Q 37 lv (.int (h c 1) :: st) h) := q_and rfl rfl
theorem r88_37 : zR d 88 Q 37 lv (.int z :: .int x :: st) h = if x < z then zR d 88 Q 40 lv st h else zR d 88 Q 109 lv st h := q_if rfl rfl
theorem r88_40 : zR d 88 Q 40 (o0 :: o1 :: o2 :: o3 :: some (.int x) :: l) st h = zR d 88 Q 42 (o0 :: o1 :: o2 :: o3 :: some (.int x) :: l) (.int x :: st) h := q_in rfl rfl
theorem r88_42 : zR d 88 Q 42 (o0 :: o1 :: some (.ref c) :: l) st h = zR d 88 Q 43 (o0 :: o1 :: some (.ref c) :: l) (.ref c :: st) h := q_in rfl rfl
theorem r88_42n : zR d 88 Q 42 (o0 :: o1 :: some .null :: l) st h = zR d 88 Q 43 (o0 :: o1 :: some .null :: l) (.null :: st) h := q_in rfl rfl
theorem r88_43 : zR d 88 Q 43 lv (.ref c :: st) h = (zcls c = 3 ∧ zR d 88 Q 46 lv (.int (h c 1) :: st) h) := q_and rfl rfl
theorem r88_46 : zR d 88 Q 46 lv (.int z :: .int x :: st) h = if x < z then zR d 88 Q 49 lv st h else zR d 88 Q 109 lv st h := q_if rfl rfl
theorem r88_49 : zR d 88 Q 49 (o0 :: o1 :: some (.ref c) :: l) st h = zR d 88 Q 50 (o0 :: o1 :: some (.ref c) :: l) (.ref c :: st) h := q_in rfl rfl
theorem r88_49n : zR d 88 Q 49 (o0 :: o1 :: some .null :: l) st h = zR d 88 Q 50 (o0 :: o1 :: some .null :: l) (.null :: st) h := q_in rfl rfl
theorem r88_50 : zR d 88 Q 50 (o0 :: o1 :: o2 :: o3 :: some (.int x) :: l) st h = zR d 88 Q 52 (o0 :: o1 :: o2 :: o3 :: some (.int x) :: l) (.int x :: st) h := q_in rfl rfl
theorem r88_52 : zR d 88 Q 52 lv [.int x0, .ref c] h = (zcls c = 3 ∧ zM d 35 [.ref c, .int x0] h (fun r h' => zR d 88 Q 55 lv (r.toList ++ []) h')) := (q_clV rfl rfl (Nat.le_of_ble_eq_true rfl)).trans (zand_r (Nat.le_of_ble_eq_true rfl))
theorem r88_55 : zR d 88 Q 55 lv (.int x :: st) h = if x = 0 then zR d 88 Q 103 lv st h else zR d 88 Q 58 lv st h := q_if rfl rfl
theorem r88_58 : zR d 88 Q 58 (o0 :: o1 :: some (.ref c) :: l) st h = zR d 88 Q 59 (o0 :: o1 :: some (.ref c) :: l) (.ref c :: st) h := q_in rfl rfl
theorem r88_58n : zR d 88 Q 58 (o0 :: o1 :: some .null :: l) st h = zR d 88 Q 59 (o0 :: o1 :: some .null :: l) (.null :: st) h := q_in rfl rfl
theorem r88_59 : zR d 88 Q 59 lv (.ref c :: st) h = (zcls c = 3 ∧ zR d 88 Q 62 lv (.ref (c + 1) :: st) h) := q_and rfl rfl
theorem r88_62 : zR d 88 Q 62 (o0 :: o1 :: o2 :: o3 :: some (.int x) :: l) st h = zR d 88 Q 64 (o0 :: o1 :: o2 :: o3 :: some (.int x) :: l) (.int x :: st) h := q_in rfl rfl
theorem r88_64 : zR d 88 Q 64 lv (.int x :: .ref c :: st) h = zal c x h (fun w => zR d 88 Q 65 lv (.int w :: st) h) := q_iald rfl
theorem r88_65 : zR d 88 Q 65 lv st h = zR d 88 Q 66 lv (.int 1 :: st) h := q_in rfl rfl
theorem r88_66 : zR d 88 Q 66 lv st h = zR d 88 Q 68 lv (.int 99 :: st) h := q_in rfl rfl
theorem r88_68 : zR d 88 Q 68 lv [.int x2, .int x1, .int x0] h = zM d 104 [.int x0, .int x1, .int x2] h (fun r h' => zR d 88 Q 71 lv (r.toList ++ []) h') := q_clS rfl rfl ⟨Nat.le_of_ble_eq_true rfl, Nat.le_of_ble_eq_true rfl⟩
theorem r88_71 : zR d 88 Q 71 (o0 :: o1 :: o2 :: o3 :: o4 :: o5 :: l) (.int x :: st) h = zR d 88 Q 73 (o0 :: o1 :: o2 :: o3 :: o4 :: some (.int x) :: l) st h := q_in rfl rfl
theorem r88_73 : zR d 88 Q 73 (o0 :: o1 :: o2 :: o3 :: o4 :: some (.int x) :: l) st h = zR d 88 Q 75 (o0 :: o1 :: o2 :: o3 :: o4 :: some (.int x) :: l) (.int x :: st) h := q_in rfl rfl
theorem r88_75 : zR d 88 Q 75 (some (.ref c) :: l) st h = zR d 88 Q 76 (some (.ref c) :: l) (.ref c :: st) h := q_in rfl rfl
theorem r88_76 : zR d 88 Q 76 lv (.ref 0 :: st) h = zR d 88 Q 79 lv (.ref 10 :: st) h := (q_and rfl rfl).trans (zand_t rfl)
theorem r88_79 : zR d 88 Q 79 lv (.ref c :: st) h = (zcls c = 5 ∧ zR d 88 Q 82 lv (.ref (c + 2) :: st) h) := q_and rfl rfl
theorem r88_82 : zR d 88 Q 82 (o0 :: o1 :: o2 :: o3 :: some (.int x) :: l) st h = zR d 88 Q 84 (o0 :: o1 :: o2 :: o3 :: some (.int x) :: l) (.int x :: st) h := q_in rfl rfl
theorem r88_84 : zR d 88 Q 84 lv (.int x :: .ref c :: st) h = zal c x h (fun w => zR d 88 Q 85 lv (.int w :: st) h) := q_iald rfl
theorem r88_85 : zR d 88 Q 85 lv (.int z :: .int x :: st) h = if x = z then zR d 88 Q 91 lv st h else zR d 88 Q 88 lv st h := q_if rfl rfl
theorem r88_88 : zR d 88 Q 88 (o0 :: o1 :: o2 :: some (.int x) :: l) st h = zR d 88 Q 91 (o0 :: o1 :: o2 :: some (.int (x + 1)) :: l) st h := q_in rfl rfl
theorem r88_91 : zR d 88 Q 91 (some (.ref c) :: l) st h = zR d 88 Q 92 (some (.ref c) :: l) (.ref c :: st) h := q_in rfl rfl
theorem r88_92 : zR d 88 Q 92 lv (.ref 0 :: st) h = zR d 88 Q 95 lv (.ref 10 :: st) h := (q_and rfl rfl).trans (zand_t rfl)
theorem r88_95 : zR d 88 Q 95 lv (.ref c :: st) h = (zcls c = 5 ∧ zR d 88 Q 98 lv (.ref (c + 2) :: st) h) := q_and rfl rfl
theorem r88_98 : zR d 88 Q 98 (o0 :: o1 :: o2 :: o3 :: some (.int x) :: l) st h = zR d 88 Q 100 (o0 :: o1 :: o2 :: o3 :: some (.int x) :: l) (.int x :: st) h := q_in rfl rfl
theorem r88_100 : zR d 88 Q 100 (o0 :: o1 :: o2 :: o3 :: o4 :: some (.int x) :: l) st h = zR d 88 Q 102 (o0 :: o1 :: o2 :: o3 :: o4 :: some (.int x) :: l) (.int x :: st) h := q_in rfl rfl
theorem r88_102 : zR d 88 Q 102 lv (.int z :: .int x :: .ref c :: st) h = zas c x z h (fun h' => zR d 88 Q 103 lv st h') := q_iast rfl
theorem r88_103 : zR d 88 Q 103 (o0 :: o1 :: o2 :: o3 :: some (.int x) :: l) st h = zR d 88 Q 106 (o0 :: o1 :: o2 :: o3 :: some (.int (x + 1)) :: l) st h := q_in rfl rfl
theorem r88_106 : zR d 88 Q 106 lv st h = zR d 88 Q 28 lv st h := q_in rfl rfl
theorem r88_109 : zR d 88 Q 109 (o0 :: o1 :: o2 :: some (.int x) :: l) st h = zR d 88 Q 110 (o0 :: o1 :: o2 :: some (.int x) :: l) (.int x :: st) h := q_in rfl rfl
theorem r88_110 : zR d 88 Q 110 lv [.int x] h = Q (some (.int x)) h := q_retz rfl rfl (Or.inl rfl)
theorem r89_0 : zR d 89 Q 0 (some (.ref c) :: l) st h = zR d 89 Q 1 (some (.ref c) :: l) (.ref c :: st) h := q_in rfl rfl
theorem r89_1 : zR d 89 Q 1 (o0 :: some (.int x) :: l) st h = zR d 89 Q 2 (o0 :: some (.int x) :: l) (.int x :: st) h := q_in rfl rfl
theorem r89_2 : zR d 89 Q 2 lv [.int x0, .ref 0] h = zM d 95 [.ref 0, .int x0] h (fun r h' => zR d 89 Q 5 lv (r.toList ++ []) h') := (q_clV rfl rfl (Nat.le_of_ble_eq_true rfl)).trans (zand_t ⟨rfl, Nat.le_of_ble_eq_true rfl⟩)
theorem r89_5 : zR d 89 Q 5 (o0 :: o1 :: o2 :: l) (.ref c :: st) h = zR d 89 Q 6 (o0 :: o1 :: some (.ref c) :: l) st h := q_in rfl rfl
theorem r89_5n : zR d 89 Q 5 (o0 :: o1 :: o2 :: l) (.null :: st) h = zR d 89 Q 6 (o0 :: o1 :: some .null :: l) st h := q_in rfl rfl
theorem r89_6 : zR d 89 Q 6 (o0 :: o1 :: some (.ref c) :: l) st h = zR d 89 Q 7 (o0 :: o1 :: some (.ref c) :: l) (.ref c :: st) h := q_in rfl rfl
theorem r89_6n : zR d 89 Q 6 (o0 :: o1 :: some .null :: l) st h = zR d 89 Q 7 (o0 :: o1 :: some .null :: l) (.null :: st) h := q_in rfl rfl
theorem r89_7 : zR d 89 Q 7 lv (.ref c :: st) h = zR d 89 Q 13 lv st h := q_in rfl rfl
theorem r89_7n : zR d 89 Q 7 lv (.null :: st) h = zR d 89 Q 10 lv st h := q_in rfl rfl
theorem r89_10 : zR d 89 Q 10 lv st h = zR d 89 Q 12 lv (.int (-1000000001) :: st) h := q_in rfl rfl
theorem r89_12 : zR d 89 Q 12 lv [.int x] h = Q (some (.int x)) h := q_retz rfl rfl (Or.inl rfl)
theorem r89_13 : zR d 89 Q 13 (o0 :: o1 :: some (.ref c) :: l) st h = zR d 89 Q 14 (o0 :: o1 :: some (.ref c) :: l) (.ref c :: st) h := q_in rfl rfl
theorem r89_13n : zR d 89 Q 13 (o0 :: o1 :: some .null :: l) st h = zR d 89 Q 14 (o0 :: o1 :: some .null :: l) (.null :: st) h := q_in rfl rfl
theorem r89_14 : zR d 89 Q 14 lv [.ref c] h = (zcls c = 3 ∧ zM d 32 [.ref c] h (fun r h' => zR d 89 Q 17 lv (r.toList ++ []) h')) := (q_clV rfl rfl (Nat.le_of_ble_eq_true rfl)).trans (zand_r (Nat.le_of_ble_eq_true rfl))
theorem r89_17 : zR d 89 Q 17 lv (.int x :: st) h = if x = 0 then zR d 89 Q 23 lv st h else zR d 89 Q 20 lv st h := q_if rfl rfl
theorem r89_20 : zR d 89 Q 20 lv st h = zR d 89 Q 22 lv (.int (-1000000011) :: st) h := q_in rfl rfl
theorem r89_22 : zR d 89 Q 22 lv [.int x] h = Q (some (.int x)) h := q_retz rfl rfl (Or.inl rfl)
theorem r89_23 : zR d 89 Q 23 lv st h = zR d 89 Q 24 lv (.int 0 :: st) h := q_in rfl rfl
theorem r89_24 : zR d 89 Q 24 (o0 :: o1 :: o2 :: o3 :: l) (.int x :: st) h = zR d 89 Q 25 (o0 :: o1 :: o2 :: some (.int x) :: l) st h := q_in rfl rfl
theorem r89_25 : zR d 89 Q 25 (o0 :: o1 :: o2 :: some (.int x) :: l) st h = zR d 89 Q 26 (o0 :: o1 :: o2 :: some (.int x) :: l) (.int x :: st) h := q_in rfl rfl
theorem r89_26 : zR d 89 Q 26 (o0 :: o1 :: some (.ref c) :: l) st h = zR d 89 Q 27 (o0 :: o1 :: some (.ref c) :: l) (.ref c :: st) h := q_in rfl rfl
theorem r89_26n : zR d 89 Q 26 (o0 :: o1 :: some .null :: l) st h = zR d 89 Q 27 (o0 :: o1 :: some .null :: l) (.null :: st) h := q_in rfl rfl
theorem r89_27 : zR d 89 Q 27 lv (.ref c :: st) h = (zcls c = 3 ∧ zR d 89 Q 30 lv (.int (h c 1) :: st) h) := q_and rfl rfl
theorem r89_30 : zR d 89 Q 30 lv (.int z :: .int x :: st) h = if x < z then zR d 89 Q 33 lv st h else zR d 89 Q 78 lv st h := q_if rfl rfl
theorem r89_33 : zR d 89 Q 33 (o0 :: o1 :: some (.ref c) :: l) st h = zR d 89 Q 34 (o0 :: o1 :: some (.ref c) :: l) (.ref c :: st) h := q_in rfl rfl
theorem r89_33n : zR d 89 Q 33 (o0 :: o1 :: some .null :: l) st h = zR d 89 Q 34 (o0 :: o1 :: some .null :: l) (.null :: st) h := q_in rfl rfl
theorem r89_34 : zR d 89 Q 34 (o0 :: o1 :: o2 :: some (.int x) :: l) st h = zR d 89 Q 35 (o0 :: o1 :: o2 :: some (.int x) :: l) (.int x :: st) h := q_in rfl rfl
theorem r89_35 : zR d 89 Q 35 lv [.int x0, .ref c] h = (zcls c = 3 ∧ zM d 35 [.ref c, .int x0] h (fun r h' => zR d 89 Q 38 lv (r.toList ++ []) h')) := (q_clV rfl rfl (Nat.le_of_ble_eq_true rfl)).trans (zand_r (Nat.le_of_ble_eq_true rfl))
theorem r89_38 : zR d 89 Q 38 lv (.int x :: st) h = if x = 0 then zR d 89 Q 72 lv st h else zR d 89 Q 41 lv st h := q_if rfl rfl
theorem r89_41 : zR d 89 Q 41 (some (.ref c) :: l) st h = zR d 89 Q 42 (some (.ref c) :: l) (.ref c :: st) h := q_in rfl rfl
theorem r89_42 : zR d 89 Q 42 lv (.ref 0 :: st) h = zR d 89 Q 45 lv (.ref 10 :: st) h := (q_and rfl rfl).trans (zand_t rfl)
theorem r89_45 : zR d 89 Q 45 (o0 :: o1 :: o2 :: some (.int x) :: l) st h = zR d 89 Q 46 (o0 :: o1 :: o2 :: some (.int x) :: l) (.int x :: st) h := q_in rfl rfl
theorem r89_46 : zR d 89 Q 46 lv [.int x0, .ref c] h = (zcls c = 5 ∧ zM d 37 [.ref c, .int x0] h (fun r h' => zR d 89 Q 49 lv (r.toList ++ []) h')) := (q_clV rfl rfl (Nat.le_of_ble_eq_true rfl)).trans (zand_r (Nat.le_of_ble_eq_true rfl))
theorem r89_49 : zR d 89 Q 49 lv (.int x :: st) h = if x = 0 then zR d 89 Q 70 lv st h else zR d 89 Q 52 lv st h := q_if rfl rfl
theorem r89_52 : zR d 89 Q 52 (some (.ref c) :: l) st h = zR d 89 Q 53 (some (.ref c) :: l) (.ref c :: st) h := q_in rfl rfl
theorem r89_53 : zR d 89 Q 53 lv (.ref 0 :: st) h = zR d 89 Q 56 lv (.ref 10 :: st) h := (q_and rfl rfl).trans (zand_t rfl)
theorem r89_56 : zR d 89 Q 56 lv (.ref c :: st) h = (zcls c = 5 ∧ zR d 89 Q 59 lv (.ref (c + 4) :: st) h) := q_and rfl rfl
theorem r89_59 : zR d 89 Q 59 (o0 :: o1 :: o2 :: some (.int x) :: l) st h = zR d 89 Q 60 (o0 :: o1 :: o2 :: some (.int x) :: l) (.int x :: st) h := q_in rfl rfl
theorem r89_60 : zR d 89 Q 60 lv (.int x :: .ref c :: st) h = zal c x h (fun w => zR d 89 Q 61 lv (.int w :: st) h) := q_iald rfl
theorem r89_61 : zR d 89 Q 61 (o0 :: o1 :: some (.ref c) :: l) st h = zR d 89 Q 62 (o0 :: o1 :: some (.ref c) :: l) (.ref c :: st) h := q_in rfl rfl
theorem r89_61n : zR d 89 Q 61 (o0 :: o1 :: some .null :: l) st h = zR d 89 Q 62 (o0 :: o1 :: some .null :: l) (.null :: st) h := q_in rfl rfl
theorem r89_62 : zR d 89 Q 62 lv (.ref c :: st) h = (zcls c = 3 ∧ zR d 89 Q 65 lv (.ref (c + 1) :: st) h) := q_and rfl rfl
theorem r89_65 : zR d 89 Q 65 (o0 :: o1 :: o2 :: some (.int x) :: l) st h = zR d 89 Q 66 (o0 :: o1 :: o2 :: some (.int x) :: l) (.int x :: st) h := q_in rfl rfl
theorem r89_66 : zR d 89 Q 66 lv (.int x :: .ref c :: st) h = zal c x h (fun w => zR d 89 Q 67 lv (.int w :: st) h) := q_iald rfl
theorem r89_67 : zR d 89 Q 67 lv (.int z :: .int x :: st) h = if x = z then zR d 89 Q 72 lv st h else zR d 89 Q 70 lv st h := q_if rfl rfl
theorem r89_70 : zR d 89 Q 70 (o0 :: o1 :: o2 :: some (.int x) :: l) st h = zR d 89 Q 71 (o0 :: o1 :: o2 :: some (.int x) :: l) (.int x :: st) h := q_in rfl rfl
theorem r89_71 : zR d 89 Q 71 lv [.int x] h = Q (some (.int x)) h := q_retz rfl rfl (Or.inl rfl)
theorem r89_72 : zR d 89 Q 72 (o0 :: o1 :: o2 :: some (.int x) :: l) st h = zR d 89 Q 75 (o0 :: o1 :: o2 :: some (.int (x + 1)) :: l) st h := q_in rfl rfl
theorem r89_75 : zR d 89 Q 75 lv st h = zR d 89 Q 25 lv st h := q_in rfl rfl
theorem r89_78 : zR d 89 Q 78 lv st h = zR d 89 Q 80 lv (.int (-1000000005) :: st) h := q_in rfl rfl
theorem r89_80 : zR d 89 Q 80 lv [.int x] h = Q (some (.int x)) h := q_retz rfl rfl (Or.inl rfl)
theorem r90_0 : zR d 90 Q 0 (some (.ref c) :: l) st h = zR d 90 Q 1 (some (.ref c) :: l) (.ref c :: st) h := q_in rfl rfl
theorem r90_1 : zR d 90 Q 1 (o0 :: some (.int x) :: l) st h = zR d 90 Q 2 (o0 :: some (.int x) :: l) (.int x :: st) h := q_in rfl rfl
theorem r90_2 : zR d 90 Q 2 lv [.int x0, .ref 0] h = zM d 95 [.ref 0, .int x0] h (fun r h' => zR d 90 Q 5 lv (r.toList ++ []) h') := (q_clV rfl rfl (Nat.le_of_ble_eq_true rfl)).trans (zand_t ⟨rfl, Nat.le_of_ble_eq_true rfl⟩)
theorem r90_5 : zR d 90 Q 5 (o0 :: o1 :: o2 :: o3 :: o4 :: o5 :: o6 :: l) (.ref c :: st) h = zR d 90 Q 7 (o0 :: o1 :: o2 :: o3 :: o4 :: o5 :: some (.ref c) :: l) st h := q_in rfl rfl
theorem r90_5n : zR d 90 Q 5 (o0 :: o1 :: o2 :: o3 :: o4 :: o5 :: o6 :: l) (.null :: st) h = zR d 90 Q 7 (o0 :: o1 :: o2 :: o3 :: o4 :: o5 :: some .null :: l) st h := q_in rfl rfl
theorem r90_7 : zR d 90 Q 7 (some (.ref c) :: l) st h = zR d 90 Q 8 (some (.ref c) :: l) (.ref c :: st) h := q_in rfl rfl
theorem r90_8 : zR d 90 Q 8 (o0 :: o1 :: o2 :: some (.int x) :: l) st h = zR d 90 Q 9 (o0 :: o1 :: o2 :: some (.int x) :: l) (.int x :: st) h := q_in rfl rfl
theorem r90_9 : zR d 90 Q 9 lv [.int x0, .ref 0] h = zM d 95 [.ref 0, .int x0] h (fun r h' => zR d 90 Q 12 lv (r.toList ++ []) h') := (q_clV rfl rfl (Nat.le_of_ble_eq_true rfl)).trans (zand_t ⟨rfl, Nat.le_of_ble_eq_true rfl⟩)
theorem r90_12 : zR d 90 Q 12 (o0 :: o1 :: o2 :: o3 :: o4 :: o5 :: o6 :: o7 :: l) (.ref c :: st) h = zR d 90 Q 14 (o0 :: o1 :: o2 :: o3 :: o4 :: o5 :: o6 :: some (.ref c) :: l) st h := q_in rfl rfl
theorem r90_12n : zR d 90 Q 12 (o0 :: o1 :: o2 :: o3 :: o4 :: o5 :: o6 :: o7 :: l) (.null :: st) h = zR d 90 Q 14 (o0 :: o1 :: o2 :: o3 :: o4 :: o5 :: o6 :: some .null :: l) st h := q_in rfl rfl
theorem r90_14 : zR d 90 Q 14 (o0 :: o1 :: o2 :: o3 :: o4 :: o5 :: some (.ref c) :: l) st h = zR d 90 Q 16 (o0 :: o1 :: o2 :: o3 :: o4 :: o5 :: some (.ref c) :: l) (.ref c :: st) h := q_in rfl rfl
theorem r90_14n : zR d 90 Q 14 (o0 :: o1 :: o2 :: o3 :: o4 :: o5 :: some .null :: l) st h = zR d 90 Q 16 (o0 :: o1 :: o2 :: o3 :: o4 :: o5 :: some .null :: l) (.null :: st) h := q_in rfl rfl
theorem r90_16 : zR d 90 Q 16 lv (.ref c :: st) h = zR d 90 Q 19 lv st h := q_in rfl rfl
theorem r90_16n : zR d 90 Q 16 lv (.null :: st) h = zR d 90 Q 24 lv st h := q_in rfl rfl
theorem r90_19 : zR d 90 Q 19 (o0 :: o1 :: o2 :: o3 :: o4 :: o5 :: o6 :: some (.ref c) :: l) st h = zR d 90 Q 21 (o0 :: o1 :: o2 :: o3 :: o4 :: o5 :: o6 :: some (.ref c) :: l) (.ref c :: st) h := q_in rfl rfl
theorem r90_19n : zR d 90 Q 19 (o0 :: o1 :: o2 :: o3 :: o4 :: o5 :: o6 :: some .null :: l) st h = zR d 90 Q 21 (o0 :: o1 :: o2 :: o3 :: o4 :: o5 :: o6 :: some .null :: l) (.null :: st) h := q_in rfl rfl
theorem r90_21 : zR d 90 Q 21 lv (.ref c :: st) h = zR d 90 Q 27 lv st h := q_in rfl rfl
theorem r90_21n : zR d 90 Q 21 lv (.null :: st) h = zR d 90 Q 24 lv st h := q_in rfl rfl
theorem r90_24 : zR d 90 Q 24 lv st h = zR d 90 Q 26 lv (.int (-1000000001) :: st) h := q_in rfl rfl
theorem r90_26 : zR d 90 Q 26 lv [.int x] h = Q (some (.int x)) h := q_retz rfl rfl (Or.inl rfl)
theorem r90_27 : zR d 90 Q 27 (o0 :: o1 :: o2 :: o3 :: o4 :: o5 :: some (.ref c) :: l) st h = zR d 90 Q 29 (o0 :: o1 :: o2 :: o3 :: o4 :: o5 :: some (.ref c) :: l) (.ref c :: st) h := q_in rfl rfl
theorem r90_27n : zR d 90 Q 27 (o0 :: o1 :: o2 :: o3 :: o4 :: o5 :: some .null :: l) st h = zR d 90 Q 29 (o0 :: o1 :: o2 :: o3 :: o4 :: o5 :: some .null :: l) (.null :: st) h := q_in rfl rfl
theorem r90_29 : zR d 90 Q 29 lv [.ref c] h = (zcls c = 3 ∧ zM d 32 [.ref c] h (fun r h' => zR d 90 Q 32 lv (r.toList ++ []) h')) := (q_clV rfl rfl (Nat.le_of_ble_eq_true rfl)).trans (zand_r (Nat.le_of_ble_eq_true rfl))
theorem r90_32 : zR d 90 Q 32 lv (.int x :: st) h = if x = 0 then zR d 90 Q 35 lv st h else zR d 90 Q 43 lv st h := q_if rfl rfl
theorem r90_35 : zR d 90 Q 35 (o0 :: o1 :: o2 :: o3 :: o4 :: o5 :: o6 :: some (.ref c) :: l) st h = zR d 90 Q 37 (o0 :: o1 :: o2 :: o3 :: o4 :: o5 :: o6 :: some (.ref c) :: l) (.ref c :: st) h := q_in rfl rfl
theorem r90_35n : zR d 90 Q 35 (o0 :: o1 :: o2 :: o3 :: o4 :: o5 :: o6 :: some .null :: l) st h = zR d 90 Q 37 (o0 :: o1 :: o2 :: o3 :: o4 :: o5 :: o6 :: some .null :: l) (.null :: st) h := q_in rfl rfl
theorem r90_37 : zR d 90 Q 37 lv [.ref c] h = (zcls c = 3 ∧ zM d 32 [.ref c] h (fun r h' => zR d 90 Q 40 lv (r.toList ++ []) h')) := (q_clV rfl rfl (Nat.le_of_ble_eq_true rfl)).trans (zand_r (Nat.le_of_ble_eq_true rfl))
theorem r90_40 : zR d 90 Q 40 lv (.int x :: st) h = if x = 0 then zR d 90 Q 46 lv st h else zR d 90 Q 43 lv st h := q_if rfl rfl
theorem r90_43 : zR d 90 Q 43 lv st h = zR d 90 Q 45 lv (.int (-1000000011) :: st) h := q_in rfl rfl
theorem r90_45 : zR d 90 Q 45 lv [.int x] h = Q (some (.int x)) h := q_retz rfl rfl (Or.inl rfl)
theorem r90_46 : zR d 90 Q 46 (o0 :: o1 :: o2 :: o3 :: o4 :: o5 :: some (.ref c) :: l) st h = zR d 90 Q 48 (o0 :: o1 :: o2 :: o3 :: o4 :: o5 :: some (.ref c) :: l) (.ref c :: st) h := q_in rfl rfl
theorem r90_46n : zR d 90 Q 46 (o0 :: o1 :: o2 :: o3 :: o4 :: o5 :: some .null :: l) st h = zR d 90 Q 48 (o0 :: o1 :: o2 :: o3 :: o4 :: o5 :: some .null :: l) (.null :: st) h := q_in rfl rfl
theorem r90_48 : zR d 90 Q 48 lv (.ref c :: st) h = (zcls c = 3 ∧ zR d 90 Q 51 lv (.int (h c 0) :: st) h) := q_and rfl rfl
theorem r90_51 : zR d 90 Q 51 (o0 :: o1 :: o2 :: o3 :: o4 :: o5 :: o6 :: some (.ref c) :: l) st h = zR d 90 Q 53 (o0 :: o1 :: o2 :: o3 :: o4 :: o5 :: o6 :: some (.ref c) :: l) (.ref c :: st) h := q_in rfl rfl
theorem r90_51n : zR d 90 Q 51 (o0 :: o1 :: o2 :: o3 :: o4 :: o5 :: o6 :: some .null :: l) st h = zR d 90 Q 53 (o0 :: o1 :: o2 :: o3 :: o4 :: o5 :: o6 :: some .null :: l) (.null :: st) h := q_in rfl rfl
theorem r90_53 : zR d 90 Q 53 lv (.ref c :: st) h = (zcls c = 3 ∧ zR d 90 Q 56 lv (.int (h c 0) :: st) h) := q_and rfl rfl
theorem r90_56 : zR d 90 Q 56 lv (.int z :: .int x :: st) h = if x = z then zR d 90 Q 62 lv st h else zR d 90 Q 59 lv st h := q_if rfl rfl
theorem r90_59 : zR d 90 Q 59 lv st h = zR d 90 Q 61 lv (.int (-1000000012) :: st) h := q_in rfl rfl
theorem r90_61 : zR d 90 Q 61 lv [.int x] h = Q (some (.int x)) h := q_retz rfl rfl (Or.inl rfl)
theorem r90_62 : zR d 90 Q 62 (o0 :: o1 :: o2 :: o3 :: o4 :: o5 :: some (.ref c) :: l) st h = zR d 90 Q 64 (o0 :: o1 :: o2 :: o3 :: o4 :: o5 :: some (.ref c) :: l) (.ref c :: st) h := q_in rfl rfl
theorem r90_62n : zR d 90 Q 62 (o0 :: o1 :: o2 :: o3 :: o4 :: o5 :: some .null :: l) st h = zR d 90 Q 64 (o0 :: o1 :: o2 :: o3 :: o4 :: o5 :: some .null :: l) (.null :: st) h := q_in rfl rfl
theorem r90_64 : zR d 90 Q 64 (o0 :: o1 :: some (.int x) :: l) st h = zR d 90 Q 65 (o0 :: o1 :: some (.int x) :: l) (.int x :: st) h := q_in rfl rfl
theorem r90_65 : zR d 90 Q 65 (o0 :: o1 :: o2 :: o3 :: o4 :: some (.int x) :: l) st h = zR d 90 Q 67 (o0 :: o1 :: o2 :: o3 :: o4 :: some (.int x) :: l) (.int x :: st) h := q_in rfl rfl
theorem r90_67 : zR d 90 Q 67 lv [.int x1, .int x0, .ref c] h = (zcls c = 3 ∧ zM d 34 [.ref c, .int x0, .int x1] h (fun r h' => zR d 90 Q 70 lv (r.toList ++ []) h')) := (q_clV rfl rfl (Nat.le_of_ble_eq_true rfl)).trans (zand_r (Nat.le_of_ble_eq_true rfl))
theorem r90_70 : zR d 90 Q 70 lv (.int x :: st) h = if x = 0 then zR d 90 Q 85 lv st h else zR d 90 Q 73 lv st h := q_if rfl rfl
theorem r90_73 : zR d 90 Q 73 (o0 :: o1 :: o2 :: o3 :: o4 :: o5 :: o6 :: some (.ref c) :: l) st h = zR d 90 Q 75 (o0 :: o1 :: o2 :: o3 :: o4 :: o5 :: o6 :: some (.ref c) :: l) (.ref c :: st) h := q_in rfl rfl
theorem r90_73n : zR d 90 Q 73 (o0 :: o1 :: o2 :: o3 :: o4 :: o5 :: o6 :: some .null :: l) st h = zR d 90 Q 75 (o0 :: o1 :: o2 :: o3 :: o4 :: o5 :: o6 :: some .null :: l) (.null :: st) h := q_in rfl rfl
theorem r90_75 : zR d 90 Q 75 (o0 :: o1 :: o2 :: o3 :: some (.int x) :: l) st h = zR d 90 Q 77 (o0 :: o1 :: o2 :: o3 :: some (.int x) :: l) (.int x :: st) h := q_in rfl rfl
theorem r90_77 : zR d 90 Q 77 (o0 :: o1 :: o2 :: o3 :: o4 :: some (.int x) :: l) st h = zR d 90 Q 79 (o0 :: o1 :: o2 :: o3 :: o4 :: some (.int x) :: l) (.int x :: st) h := q_in rfl rfl
theorem r90_79 : zR d 90 Q 79 lv [.int x1, .int x0, .ref c] h = (zcls c = 3 ∧ zM d 34 [.ref c, .int x0, .int x1] h (fun r h' => zR d 90 Q 82 lv (r.toList ++ []) h')) := (q_clV rfl rfl (Nat.le_of_ble_eq_true rfl)).trans (zand_r (Nat.le_of_ble_eq_true rfl))
theorem r90_82 : zR d 90 Q 82 lv (.int x :: st) h = if x = 0 then zR d 90 Q 85 lv st h else zR d 90 Q 89 lv st h := q_if rfl rfl
theorem r90_85 : zR d 90 Q 85 lv st h = zR d 90 Q 88 lv (.int (-1000000013) :: st) h := q_in rfl rfl
theorem r90_88 : zR d 90 Q 88 lv [.int x] h = Q (some (.int x)) h := q_retz rfl rfl (Or.inl rfl)
theorem r90_89 : zR d 90 Q 89 (o0 :: o1 :: o2 :: o3 :: o4 :: o5 :: some (.ref c) :: l) st h = zR d 90 Q 91 (o0 :: o1 :: o2 :: o3 :: o4 :: o5 :: some (.ref c) :: l) (.ref c :: st) h := q_in rfl rfl
theorem r90_89n : zR d 90 Q 89 (o0 :: o1 :: o2 :: o3 :: o4 :: o5 :: some .null :: l) st h = zR d 90 Q 91 (o0 :: o1 :: o2 :: o3 :: o4 :: o5 :: some .null :: l) (.null :: st) h := q_in rfl rfl
theorem r90_91 : zR d 90 Q 91 lv (.ref c :: st) h = (zcls c = 3 ∧ zR d 90 Q 94 lv (.ref (c + 1) :: st) h) := q_and rfl rfl
theorem r90_94 : zR d 90 Q 94 (o0 :: o1 :: some (.int x) :: l) st h = zR d 90 Q 95 (o0 :: o1 :: some (.int x) :: l) (.int x :: st) h := q_in rfl rfl
theorem r90_95 : zR d 90 Q 95 (o0 :: o1 :: o2 :: o3 :: o4 :: o5 :: o6 :: some (.ref c) :: l) st h = zR d 90 Q 97 (o0 :: o1 :: o2 :: o3 :: o4 :: o5 :: o6 :: some (.ref c) :: l) (.ref c :: st) h := q_in rfl rfl
theorem r90_95n : zR d 90 Q 95 (o0 :: o1 :: o2 :: o3 :: o4 :: o5 :: o6 :: some .null :: l) st h = zR d 90 Q 97 (o0 :: o1 :: o2 :: o3 :: o4 :: o5 :: o6 :: some .null :: l) (.null :: st) h := q_in rfl rfl
theorem r90_97 : zR d 90 Q 97 lv (.ref c :: st) h = (zcls c = 3 ∧ zR d 90 Q 100 lv (.ref (c + 1) :: st) h) := q_and rfl rfl
theorem r90_100 : zR d 90 Q 100 (o0 :: o1 :: o2 :: o3 :: some (.int x) :: l) st h = zR d 90 Q 102 (o0 :: o1 :: o2 :: o3 :: some (.int x) :: l) (.int x :: st) h := q_in rfl rfl
theorem r90_102 : zR d 90 Q 102 (o0 :: o1 :: o2 :: o3 :: o4 :: some (.int x) :: l) st h = zR d 90 Q 104 (o0 :: o1 :: o2 :: o3 :: o4 :: some (.int x) :: l) (.int x :: st) h := q_in rfl rfl
theorem r90_104 : zR d 90 Q 104 lv [.int x4, .int x3, .ref c2, .int x1, .ref c0] h = zM d 1003 [.ref c0, .int x1, .ref c2, .int x3, .int x4] h (fun r h' => zR d 90 Q 107 lv (r.toList ++ []) h') := q_clS rfl rfl ⟨Nat.le_of_ble_eq_true rfl, Nat.le_of_ble_eq_true rfl⟩
theorem r90_107 : zR d 90 Q 107 (o0 :: o1 :: o2 :: o3 :: o4 :: some (.int x) :: l) st h = zR d 90 Q 109 (o0 :: o1 :: o2 :: o3 :: o4 :: some (.int x) :: l) (.int x :: st) h := q_in rfl rfl
theorem r90_109 : zR d 90 Q 109 lv [.int x] h = Q (some (.int x)) h := q_retz rfl rfl (Or.inl rfl)
theorem r91_0 : zR d 91 Q 0 (some (.ref c) :: l) st h = zR d 91 Q 1 (some (.ref c) :: l) (.ref c :: st) h := q_in rfl rfl
theorem r91_1 : zR d 91 Q 1 (o0 :: some (.int x) :: l) st h = zR d 91 Q 2 (o0 :: some (.int x) :: l) (.int x :: st) h := q_in rfl rfl
theorem r91_2 : zR d 91 Q 2 lv [.int x0, .ref 0] h = zM d 96 [.ref 0, .int x0] h (fun r h' => zR d 91 Q 5 lv (r.toList ++ []) h') := (q_clV rfl rfl (Nat.le_of_ble_eq_true rfl)).trans (zand_t ⟨rfl, Nat.le_of_ble_eq_true rfl⟩)
theorem r91_5 : zR d 91 Q 5 (o0 :: o1 :: o2 :: o3 :: o4 :: l) (.ref c :: st) h = zR d 91 Q 7 (o0 :: o1 :: o2 :: o3 :: some (.ref c) :: l) st h := q_in rfl rfl
theorem r91_5n : zR d 91 Q 5 (o0 :: o1 :: o2 :: o3 :: o4 :: l) (.null :: st) h = zR d 91 Q 7 (o0 :: o1 :: o2 :: o3 :: some .null :: l) st h := q_in rfl rfl
theorem r91_7 : zR d 91 Q 7 (o0 :: o1 :: o2 :: o3 :: some (.ref c) :: l) st h = zR d 91 Q 9 (o0 :: o1 :: o2 :: o3 :: some (.ref c) :: l) (.ref c :: st) h := q_in rfl rfl
theorem r91_7n : zR d 91 Q 7 (o0 :: o1 :: o2 :: o3 :: some .null :: l) st h = zR d 91 Q 9 (o0 :: o1 :: o2 :: o3 :: some .null :: l) (.null :: st) h := q_in rfl rfl
theorem r91_9 : zR d 91 Q 9 lv (.ref c :: st) h = zR d 91 Q 12 lv st h := q_in rfl rfl
theorem r91_9n : zR d 91 Q 9 lv (.null :: st) h = zR d 91 Q 21 lv st h := q_in rfl rfl
theorem r91_12 : zR d 91 Q 12 (o0 :: o1 :: some (.int x) :: l) st h = zR d 91 Q 13 (o0 :: o1 :: some (.int x) :: l) (.int x :: st) h := q_in rfl rfl
theorem r91_13 : zR d 91 Q 13 lv st h = zR d 91 Q 14 lv (.int 0 :: st) h := q_in rfl rfl
theorem r91_14 : zR d 91 Q 14 lv st h = zR d 91 Q 15 lv (.int 3 :: st) h := q_in rfl rfl
theorem r91_15 : zR d 91 Q 15 lv [.int x2, .int x1, .int x0] h = zM d 103 [.int x0, .int x1, .int x2] h (fun r h' => zR d 91 Q 18 lv (r.toList ++ []) h') := q_clS rfl rfl ⟨Nat.le_of_ble_eq_true rfl, Nat.le_of_ble_eq_true rfl⟩
theorem r91_18 : zR d 91 Q 18 lv (.int x :: st) h = if x = 0 then zR d 91 Q 21 lv st h else zR d 91 Q 24 lv st h := q_if rfl rfl
theorem r91_21 : zR d 91 Q 21 lv st h = zR d 91 Q 23 lv (.int (-1000000001) :: st) h := q_in rfl rfl
theorem r91_23 : zR d 91 Q 23 lv [.int x] h = Q (some (.int x)) h := q_retz rfl rfl (Or.inl rfl)
theorem r91_24 : zR d 91 Q 24 (o0 :: o1 :: some (.int x) :: l) st h = zR d 91 Q 25 (o0 :: o1 :: some (.int x) :: l) (.int x :: st) h := q_in rfl rfl
theorem r91_25 : zR d 91 Q 25 lv st h = zR d 91 Q 26 lv (.int 1 :: st) h := q_in rfl rfl
theorem r91_26 : zR d 91 Q 26 lv (.int z :: .int x :: st) h = if x = z then zR d 91 Q 29 lv st h else zR d 91 Q 71 lv st h := q_if rfl rfl
theorem r91_29 : zR d 91 Q 29 (some (.ref c) :: l) st h = zR d 91 Q 30 (some (.ref c) :: l) (.ref c :: st) h := q_in rfl rfl
theorem r91_30 : zR d 91 Q 30 lv (.ref 0 :: st) h = zR d 91 Q 33 lv (.ref 10 :: st) h := (q_and rfl rfl).trans (zand_t rfl)
theorem r91_33 : zR d 91 Q 33 (o0 :: o1 :: o2 :: some (.int x) :: l) st h = zR d 91 Q 34 (o0 :: o1 :: o2 :: some (.int x) :: l) (.int x :: st) h := q_in rfl rfl
theorem r91_34 : zR d 91 Q 34 lv [.int x0, .ref c] h = (zcls c = 5 ∧ zM d 37 [.ref c, .int x0] h (fun r h' => zR d 91 Q 37 lv (r.toList ++ []) h')) := (q_clV rfl rfl (Nat.le_of_ble_eq_true rfl)).trans (zand_r (Nat.le_of_ble_eq_true rfl))
theorem r91_37 : zR d 91 Q 37 lv (.int x :: st) h = if x = 0 then zR d 91 Q 40 lv st h else zR d 91 Q 43 lv st h := q_if rfl rfl
theorem r91_40 : zR d 91 Q 40 lv st h = zR d 91 Q 42 lv (.int (-1000000001) :: st) h := q_in rfl rfl
theorem r91_42 : zR d 91 Q 42 lv [.int x] h = Q (some (.int x)) h := q_retz rfl rfl (Or.inl rfl)
theorem r91_43 : zR d 91 Q 43 (o0 :: o1 :: o2 :: o3 :: some (.ref c) :: l) st h = zR d 91 Q 45 (o0 :: o1 :: o2 :: o3 :: some (.ref c) :: l) (.ref c :: st) h := q_in rfl rfl
theorem r91_43n : zR d 91 Q 43 (o0 :: o1 :: o2 :: o3 :: some .null :: l) st h = zR d 91 Q 45 (o0 :: o1 :: o2 :: o3 :: some .null :: l) (.null :: st) h := q_in rfl rfl
theorem r91_45 : zR d 91 Q 45 (some (.ref c) :: l) st h = zR d 91 Q 46 (some (.ref c) :: l) (.ref c :: st) h := q_in rfl rfl
theorem r91_46 : zR d 91 Q 46 lv (.ref 0 :: st) h = zR d 91 Q 49 lv (.ref 10 :: st) h := (q_and rfl rfl).trans (zand_t rfl)
theorem r91_49 : zR d 91 Q 49 lv (.ref c :: st) h = (zcls c = 5 ∧ zR d 91 Q 52 lv (.ref (c + 1) :: st) h) := q_and rfl rfl
theorem r91_52 : zR d 91 Q 52 (o0 :: o1 :: o2 :: some (.int x) :: l) st h = zR d 91 Q 53 (o0 :: o1 :: o2 :: some (.int x) :: l) (.int x :: st) h := q_in rfl rfl
theorem r91_53 : zR d 91 Q 53 lv (.int x :: .ref c :: st) h = zal c x h (fun w => zR d 91 Q 54 lv (.int w :: st) h) := q_iald rfl
theorem r91_54 : zR d 91 Q 54 lv (.int x :: .ref c :: st) h = (zcls c = 4 ∧ zR d 91 Q 57 lv st (zhr h c (upd (h c) 1 x))) := (q_and rfl rfl).trans zand_0
theorem r91_57 : zR d 91 Q 57 (o0 :: o1 :: o2 :: o3 :: some (.ref c) :: l) st h = zR d 91 Q 59 (o0 :: o1 :: o2 :: o3 :: some (.ref c) :: l) (.ref c :: st) h := q_in rfl rfl
theorem r91_57n : zR d 91 Q 57 (o0 :: o1 :: o2 :: o3 :: some .null :: l) st h = zR d 91 Q 59 (o0 :: o1 :: o2 :: o3 :: some .null :: l) (.null :: st) h := q_in rfl rfl
theorem r91_59 : zR d 91 Q 59 (some (.ref c) :: l) st h = zR d 91 Q 60 (some (.ref c) :: l) (.ref c :: st) h := q_in rfl rfl
theorem r91_60 : zR d 91 Q 60 lv (.ref 0 :: st) h = zR d 91 Q 63 lv (.ref 10 :: st) h := (q_and rfl rfl).trans (zand_t rfl)
theorem r91_63 : zR d 91 Q 63 lv (.ref c :: st) h = (zcls c = 5 ∧ zR d 91 Q 66 lv (.ref (c + 2) :: st) h) := q_and rfl rfl
theorem r91_66 : zR d 91 Q 66 (o0 :: o1 :: o2 :: some (.int x) :: l) st h = zR d 91 Q 67 (o0 :: o1 :: o2 :: some (.int x) :: l) (.int x :: st) h := q_in rfl rfl
theorem r91_67 : zR d 91 Q 67 lv (.int x :: .ref c :: st) h = zal c x h (fun w => zR d 91 Q 68 lv (.int w :: st) h) := q_iald rfl
theorem r91_68 : zR d 91 Q 68 lv (.int x :: .ref c :: st) h = (zcls c = 4 ∧ zR d 91 Q 71 lv st (zhr h c (upd (h c) 2 x))) := (q_and rfl rfl).trans zand_0
theorem r91_71 : zR d 91 Q 71 (o0 :: o1 :: some (.int x) :: l) st h = zR d 91 Q 72 (o0 :: o1 :: some (.int x) :: l) (.int x :: st) h := q_in rfl rfl
theorem r91_72 : zR d 91 Q 72 lv st h = zR d 91 Q 73 lv (.int 2 :: st) h := q_in rfl rfl
theorem r91_73 : zR d 91 Q 73 lv (.int z :: .int x :: st) h = if x = z then zR d 91 Q 76 lv st h else zR d 91 Q 112 lv st h := q_if rfl rfl
theorem r91_76 : zR d 91 Q 76 (some (.ref c) :: l) st h = zR d 91 Q 77 (some (.ref c) :: l) (.ref c :: st) h := q_in rfl rfl
theorem r91_77 : zR d 91 Q 77 (o0 :: o1 :: o2 :: some (.int x) :: l) st h = zR d 91 Q 78 (o0 :: o1 :: o2 :: some (.int x) :: l) (.int x :: st) h := q_in rfl rfl
theorem r91_78 : zR d 91 Q 78 lv [.int x0, .ref 0] h = zM d 95 [.ref 0, .int x0] h (fun r h' => zR d 91 Q 81 lv (r.toList ++ []) h') := (q_clV rfl rfl (Nat.le_of_ble_eq_true rfl)).trans (zand_t ⟨rfl, Nat.le_of_ble_eq_true rfl⟩)
theorem r91_81 : zR d 91 Q 81 (o0 :: o1 :: o2 :: o3 :: o4 :: o5 :: l) (.ref c :: st) h = zR d 91 Q 83 (o0 :: o1 :: o2 :: o3 :: o4 :: some (.ref c) :: l) st h := q_in rfl rfl
theorem r91_81n : zR d 91 Q 81 (o0 :: o1 :: o2 :: o3 :: o4 :: o5 :: l) (.null :: st) h = zR d 91 Q 83 (o0 :: o1 :: o2 :: o3 :: o4 :: some .null :: l) st h := q_in rfl rfl
theorem r91_83 : zR d 91 Q 83 (o0 :: o1 :: o2 :: o3 :: o4 :: some (.ref c) :: l) st h = zR d 91 Q 85 (o0 :: o1 :: o2 :: o3 :: o4 :: some (.ref c) :: l) (.ref c :: st) h := q_in rfl rfl
theorem r91_83n : zR d 91 Q 83 (o0 :: o1 :: o2 :: o3 :: o4 :: some .null :: l) st h = zR d 91 Q 85 (o0 :: o1 :: o2 :: o3 :: o4 :: some .null :: l) (.null :: st) h := q_in rfl rfl
theorem r91_85 : zR d 91 Q 85 lv (.ref c :: st) h = zR d 91 Q 91 lv st h := q_in rfl rfl
theorem r91_85n : zR d 91 Q 85 lv (.null :: st) h = zR d 91 Q 88 lv st h := q_in rfl rfl
theorem r91_88 : zR d 91 Q 88 lv st h = zR d 91 Q 90 lv (.int (-1000000001) :: st) h := q_in rfl rfl
theorem r91_90 : zR d 91 Q 90 lv [.int x] h = Q (some (.int x)) h := q_retz rfl rfl (Or.inl rfl)
theorem r91_91 : zR d 91 Q 91 (o0 :: o1 :: o2 :: o3 :: o4 :: some (.ref c) :: l) st h = zR d 91 Q 93 (o0 :: o1 :: o2 :: o3 :: o4 :: some (.ref c) :: l) (.ref c :: st) h := q_in rfl rfl
theorem r91_91n : zR d 91 Q 91 (o0 :: o1 :: o2 :: o3 :: o4 :: some .null :: l) st h = zR d 91 Q 93 (o0 :: o1 :: o2 :: o3 :: o4 :: some .null :: l) (.null :: st) h := q_in rfl rfl
theorem r91_93 : zR d 91 Q 93 lv [.ref c] h = (zcls c = 3 ∧ zM d 32 [.ref c] h (fun r h' => zR d 91 Q 96 lv (r.toList ++ []) h')) := (q_clV rfl rfl (Nat.le_of_ble_eq_true rfl)).trans (zand_r (Nat.le_of_ble_eq_true rfl))
theorem r91_96 : zR d 91 Q 96 lv (.int x :: st) h = if x = 0 then zR d 91 Q 102 lv st h else zR d 91 Q 99 lv st h := q_if rfl rfl
theorem r91_99 : zR d 91 Q 99 lv st h = zR d 91 Q 101 lv (.int (-1000000011) :: st) h := q_in rfl rfl
theorem r91_101 : zR d 91 Q 101 lv [.int x] h = Q (some (.int x)) h := q_retz rfl rfl (Or.inl rfl)
theorem r91_102 : zR d 91 Q 102 (o0 :: o1 :: o2 :: o3 :: some (.ref c) :: l) st h = zR d 91 Q 104 (o0 :: o1 :: o2 :: o3 :: some (.ref c) :: l) (.ref c :: st) h := q_in rfl rfl
theorem r91_102n : zR d 91 Q 102 (o0 :: o1 :: o2 :: o3 :: some .null :: l) st h = zR d 91 Q 104 (o0 :: o1 :: o2 :: o3 :: some .null :: l) (.null :: st) h := q_in rfl rfl
theorem r91_104 : zR d 91 Q 104 lv (.ref c :: st) h = (zcls c = 4 ∧ zR d 91 Q 107 lv (.ref (c + 1) :: st) h) := q_and rfl rfl
theorem r91_107 : zR d 91 Q 107 (o0 :: o1 :: o2 :: o3 :: o4 :: some (.ref c) :: l) st h = zR d 91 Q 109 (o0 :: o1 :: o2 :: o3 :: o4 :: some (.ref c) :: l) (.ref c :: st) h := q_in rfl rfl
theorem r91_107n : zR d 91 Q 107 (o0 :: o1 :: o2 :: o3 :: o4 :: some .null :: l) st h = zR d 91 Q 109 (o0 :: o1 :: o2 :: o3 :: o4 :: some .null :: l) (.null :: st) h := q_in rfl rfl
theorem r91_109 : zR d 91 Q 109 lv [.ref c0, .ref c] h = (zcls c = 3 ∧ zM d 31 [.ref c, .ref c0] h (fun r h' => zR d 91 Q 112 lv (r.toList ++ []) h')) := (q_clV rfl rfl (Nat.le_of_ble_eq_true rfl)).trans (zand_r (Nat.le_of_ble_eq_true rfl))
theorem r91_112 : zR d 91 Q 112 (o0 :: o1 :: some (.int x) :: l) st h = zR d 91 Q 113 (o0 :: o1 :: some (.int x) :: l) (.int x :: st) h := q_in rfl rfl
theorem r91_113 : zR d 91 Q 113 lv st h = zR d 91 Q 114 lv (.int 3 :: st) h := q_in rfl rfl
theorem r91_114 : zR d 91 Q 114 lv (.int z :: .int x :: st) h = if x = z then zR d 91 Q 117 lv st h else zR d 91 Q 123 lv st h := q_if rfl rfl
theorem r91_117 : zR d 91 Q 117 (o0 :: o1 :: o2 :: o3 :: some (.ref c) :: l) st h = zR d 91 Q 119 (o0 :: o1 :: o2 :: o3 :: some (.ref c) :: l) (.ref c :: st) h := q_in rfl rfl
theorem r91_117n : zR d 91 Q 117 (o0 :: o1 :: o2 :: o3 :: some .null :: l) st h = zR d 91 Q 119 (o0 :: o1 :: o2 :: o3 :: some .null :: l) (.null :: st) h := q_in rfl rfl
theorem r91_119 : zR d 91 Q 119 (o0 :: o1 :: o2 :: some (.int x) :: l) st h = zR d 91 Q 120 (o0 :: o1 :: o2 :: some (.int x) :: l) (.int x :: st) h := q_in rfl rfl
theorem r91_120 : zR d 91 Q 120 lv (.int x :: .ref c :: st) h = (zcls c = 4 ∧ zR d 91 Q 123 lv st (zhr h c (upd (h c) 3 x))) := (q_and rfl rfl).trans zand_0
theorem r91_123 : zR d 91 Q 123 (o0 :: o1 :: o2 :: o3 :: some (.ref c) :: l) st h = zR d 91 Q 125 (o0 :: o1 :: o2 :: o3 :: some (.ref c) :: l) (.ref c :: st) h := q_in rfl rfl
theorem r91_123n : zR d 91 Q 123 (o0 :: o1 :: o2 :: o3 :: some .null :: l) st h = zR d 91 Q 125 (o0 :: o1 :: o2 :: o3 :: some .null :: l) (.null :: st) h := q_in rfl rfl
theorem r91_125 : zR d 91 Q 125 lv (.ref c :: st) h = (zcls c = 4 ∧ zR d 91 Q 128 lv (.int (h c 0) :: st) h) := q_and rfl rfl
theorem r91_128 : zR d 91 Q 128 (o0 :: o1 :: o2 :: o3 :: o4 :: o5 :: l) (.int x :: st) h = zR d 91 Q 130 (o0 :: o1 :: o2 :: o3 :: o4 :: some (.int x) :: l) st h := q_in rfl rfl
theorem r91_130 : zR d 91 Q 130 (o0 :: o1 :: o2 :: o3 :: some (.ref c) :: l) st h = zR d 91 Q 132 (o0 :: o1 :: o2 :: o3 :: some (.ref c) :: l) (.ref c :: st) h := q_in rfl rfl
theorem r91_130n : zR d 91 Q 130 (o0 :: o1 :: o2 :: o3 :: some .null :: l) st h = zR d 91 Q 132 (o0 :: o1 :: o2 :: o3 :: some .null :: l) (.null :: st) h := q_in rfl rfl
theorem r91_132 : zR d 91 Q 132 (o0 :: o1 :: some (.int x) :: l) st h = zR d 91 Q 133 (o0 :: o1 :: some (.int x) :: l) (.int x :: st) h := q_in rfl rfl
theorem r91_133 : zR d 91 Q 133 lv (.int x :: .ref c :: st) h = (zcls c = 4 ∧ zR d 91 Q 136 lv st (zhr h c (upd (h c) 0 x))) := (q_and rfl rfl).trans zand_0
theorem r91_136 : zR d 91 Q 136 (o0 :: o1 :: o2 :: o3 :: o4 :: some (.int x) :: l) st h = zR d 91 Q 138 (o0 :: o1 :: o2 :: o3 :: o4 :: some (.int x) :: l) (.int x :: st) h := q_in rfl rfl
theorem r91_138 : zR d 91 Q 138 lv [.int x] h = Q (some (.int x)) h := q_retz rfl rfl (Or.inl rfl)
theorem r92_0 : zR d 92 Q 0 (some (.ref c) :: l) st h = zR d 92 Q 1 (some (.ref c) :: l) (.ref c :: st) h := q_in rfl rfl
theorem r92_1 : zR d 92 Q 1 (o0 :: some (.int x) :: l) st h = zR d 92 Q 2 (o0 :: some (.int x) :: l) (.int x :: st) h := q_in rfl rfl
theorem r92_2 : zR d 92 Q 2 lv [.int x0, .ref 0] h = zM d 96 [.ref 0, .int x0] h (fun r h' => zR d 92 Q 5 lv (r.toList ++ []) h') := (q_clV rfl rfl (Nat.le_of_ble_eq_true rfl)).trans (zand_t ⟨rfl, Nat.le_of_ble_eq_true rfl⟩)
theorem r92_5 : zR d 92 Q 5 (o0 :: o1 :: o2 :: o3 :: l) (.ref c :: st) h = zR d 92 Q 6 (o0 :: o1 :: o2 :: some (.ref c) :: l) st h := q_in rfl rfl
theorem r92_5n : zR d 92 Q 5 (o0 :: o1 :: o2 :: o3 :: l) (.null :: st) h = zR d 92 Q 6 (o0 :: o1 :: o2 :: some .null :: l) st h := q_in rfl rfl
theorem r92_6 : zR d 92 Q 6 (o0 :: o1 :: o2 :: some (.ref c) :: l) st h = zR d 92 Q 7 (o0 :: o1 :: o2 :: some (.ref c) :: l) (.ref c :: st) h := q_in rfl rfl
theorem r92_6n : zR d 92 Q 6 (o0 :: o1 :: o2 :: some .null :: l) st h = zR d 92 Q 7 (o0 :: o1 :: o2 :: some .null :: l) (.null :: st) h := q_in rfl rfl
theorem r92_7 : zR d 92 Q 7 lv (.ref c :: st) h = zR d 92 Q 10 lv st h := q_in rfl rfl
theorem r92_7n : zR d 92 Q 7 lv (.null :: st) h = zR d 92 Q 17 lv st h := q_in rfl rfl
theorem r92_10 : zR d 92 Q 10 (o0 :: o1 :: some (.int x) :: l) st h = zR d 92 Q 11 (o0 :: o1 :: some (.int x) :: l) (.int x :: st) h := q_in rfl rfl
theorem r92_11 : zR d 92 Q 11 lv [.int x0] h = zM d 0 [.int x0] h (fun r h' => zR d 92 Q 14 lv (r.toList ++ []) h') := q_clS rfl rfl ⟨Nat.le_of_ble_eq_true rfl, Nat.le_of_ble_eq_true rfl⟩
theorem r92_14 : zR d 92 Q 14 lv (.int x :: st) h = if x = 0 then zR d 92 Q 17 lv st h else zR d 92 Q 20 lv st h := q_if rfl rfl
theorem r92_17 : zR d 92 Q 17 lv st h = zR d 92 Q 19 lv (.int (-1000000001) :: st) h := q_in rfl rfl
theorem r92_19 : zR d 92 Q 19 lv [.int x] h = Q (some (.int x)) h := q_retz rfl rfl (Or.inl rfl)
theorem r92_20 : zR d 92 Q 20 (o0 :: o1 :: o2 :: some (.ref c) :: l) st h = zR d 92 Q 21 (o0 :: o1 :: o2 :: some (.ref c) :: l) (.ref c :: st) h := q_in rfl rfl
theorem r92_20n : zR d 92 Q 20 (o0 :: o1 :: o2 :: some .null :: l) st h = zR d 92 Q 21 (o0 :: o1 :: o2 :: some .null :: l) (.null :: st) h := q_in rfl rfl
theorem r92_21 : zR d 92 Q 21 lv (.ref c :: st) h = (zcls c = 4 ∧ zR d 92 Q 24 lv (.int (h c 0) :: st) h) := q_and rfl rfl
theorem r92_24 : zR d 92 Q 24 lv (.int x :: st) h = if x = 0 then zR d 92 Q 27 lv st h else zR d 92 Q 30 lv st h := q_if rfl rfl
theorem r92_27 : zR d 92 Q 27 lv st h = zR d 92 Q 29 lv (.int (-1000000011) :: st) h := q_in rfl rfl
theorem r92_29 : zR d 92 Q 29 lv [.int x] h = Q (some (.int x)) h := q_retz rfl rfl (Or.inl rfl)
theorem r92_30 : zR d 92 Q 30 (o0 :: o1 :: o2 :: some (.ref c) :: l) st h = zR d 92 Q 31 (o0 :: o1 :: o2 :: some (.ref c) :: l) (.ref c :: st) h := q_in rfl rfl
theorem r92_30n : zR d 92 Q 30 (o0 :: o1 :: o2 :: some .null :: l) st h = zR d 92 Q 31 (o0 :: o1 :: o2 :: some .null :: l) (.null :: st) h := q_in rfl rfl
theorem r92_31 : zR d 92 Q 31 lv (.ref c :: st) h = (zcls c = 4 ∧ zR d 92 Q 34 lv (.int (h c 0) :: st) h) := q_and rfl rfl
theorem r92_34 : zR d 92 Q 34 lv st h = zR d 92 Q 35 lv (.int 1 :: st) h := q_in rfl rfl
theorem r92_35 : zR d 92 Q 35 lv (.int z :: .int x :: st) h = if x = z then zR d 92 Q 38 lv st h else zR d 92 Q 49 lv st h := q_if rfl rfl
theorem r92_38 : zR d 92 Q 38 (o0 :: o1 :: o2 :: some (.ref c) :: l) st h = zR d 92 Q 39 (o0 :: o1 :: o2 :: some (.ref c) :: l) (.ref c :: st) h := q_in rfl rfl
theorem r92_38n : zR d 92 Q 38 (o0 :: o1 :: o2 :: some .null :: l) st h = zR d 92 Q 39 (o0 :: o1 :: o2 :: some .null :: l) (.null :: st) h := q_in rfl rfl
theorem r92_39 : zR d 92 Q 39 lv (.ref c :: st) h = (zcls c = 4 ∧ zR d 92 Q 42 lv (.int (h c 1) :: st) h) := q_and rfl rfl
theorem r92_42 : zR d 92 Q 42 (o0 :: o1 :: some (.int x) :: l) st h = zR d 92 Q 43 (o0 :: o1 :: some (.int x) :: l) (.int x :: st) h := q_in rfl rfl
theorem r92_43 : zR d 92 Q 43 lv [.int x1, .int x0] h = zM d 1 [.int x0, .int x1] h (fun r h' => zR d 92 Q 46 lv (r.toList ++ []) h') := q_clS rfl rfl ⟨Nat.le_of_ble_eq_true rfl, Nat.le_of_ble_eq_true rfl⟩
theorem r92_46 : zR d 92 Q 46 lv (.int x :: st) h = if x = 0 then zR d 92 Q 49 lv st h else zR d 92 Q 52 lv st h := q_if rfl rfl
theorem r92_49 : zR d 92 Q 49 lv st h = zR d 92 Q 51 lv (.int (-1000000012) :: st) h := q_in rfl rfl
theorem r92_51 : zR d 92 Q 51 lv [.int x] h = Q (some (.int x)) h := q_retz rfl rfl (Or.inl rfl)
theorem r92_52 : zR d 92 Q 52 (o0 :: o1 :: o2 :: some (.ref c) :: l) st h = zR d 92 Q 53 (o0 :: o1 :: o2 :: some (.ref c) :: l) (.ref c :: st) h := q_in rfl rfl
theorem r92_52n : zR d 92 Q 52 (o0 :: o1 :: o2 :: some .null :: l) st h = zR d 92 Q 53 (o0 :: o1 :: o2 :: some .null :: l) (.null :: st) h := q_in rfl rfl
theorem r92_53 : zR d 92 Q 53 lv (.ref c :: st) h = (zcls c = 4 ∧ zR d 92 Q 56 lv (.int (h c 1) :: st) h) := q_and rfl rfl
theorem r92_56 : zR d 92 Q 56 (o0 :: o1 :: o2 :: some (.ref c) :: l) st h = zR d 92 Q 57 (o0 :: o1 :: o2 :: some (.ref c) :: l) (.ref c :: st) h := q_in rfl rfl
theorem r92_56n : zR d 92 Q 56 (o0 :: o1 :: o2 :: some .null :: l) st h = zR d 92 Q 57 (o0 :: o1 :: o2 :: some .null :: l) (.null :: st) h := q_in rfl rfl
theorem r92_57 : zR d 92 Q 57 lv (.ref c :: st) h = (zcls c = 4 ∧ zR d 92 Q 60 lv (.int (h c 2) :: st) h) := q_and rfl rfl
theorem r92_60 : zR d 92 Q 60 lv [.int x1, .int x0] h = zM d 5 [.int x0, .int x1] h (fun r h' => zR d 92 Q 63 lv (r.toList ++ []) h') := q_clS rfl rfl ⟨Nat.le_of_ble_eq_true rfl, Nat.le_of_ble_eq_true rfl⟩
theorem r92_63 : zR d 92 Q 63 lv [.int x] h = Q (some (.int x)) h := q_retz rfl rfl (Or.inl rfl)
theorem r93_0 : zR d 93 Q 0 (some (.ref c) :: l) st h = zR d 93 Q 1 (some (.ref c) :: l) (.ref c :: st) h := q_in rfl rfl
theorem r93_1 : zR d 93 Q 1 (o0 :: some (.int x) :: l) st h = zR d 93 Q 2 (o0 :: some (.int x) :: l) (.int x :: st) h := q_in rfl rfl
theorem r93_2 : zR d 93 Q 2 lv [.int x0, .ref 0] h = zM d 96 [.ref 0, .int x0] h (fun r h' => zR d 93 Q 5 lv (r.toList ++ []) h') := (q_clV rfl rfl (Nat.le_of_ble_eq_true rfl)).trans (zand_t ⟨rfl, Nat.le_of_ble_eq_true rfl⟩)
theorem r93_5 : zR d 93 Q 5 (o0 :: o1 :: o2 :: o3 :: l) (.ref c :: st) h = zR d 93 Q 6 (o0 :: o1 :: o2 :: some (.ref c) :: l) st h := q_in rfl rfl
theorem r93_5n : zR d 93 Q 5 (o0 :: o1 :: o2 :: o3 :: l) (.null :: st) h = zR d 93 Q 6 (o0 :: o1 :: o2 :: some .null :: l) st h := q_in rfl rfl
theorem r93_6 : zR d 93 Q 6 (o0 :: o1 :: o2 :: some (.ref c) :: l) st h = zR d 93 Q 7 (o0 :: o1 :: o2 :: some (.ref c) :: l) (.ref c :: st) h := q_in rfl rfl
theorem r93_6n : zR d 93 Q 6 (o0 :: o1 :: o2 :: some .null :: l) st h = zR d 93 Q 7 (o0 :: o1 :: o2 :: some .null :: l) (.null :: st) h := q_in rfl rfl
theorem r93_7 : zR d 93 Q 7 lv (.ref c :: st) h = zR d 93 Q 13 lv st h := q_in rfl rfl
theorem r93_7n : zR d 93 Q 7 lv (.null :: st) h = zR d 93 Q 10 lv st h := q_in rfl rfl
theorem r93_10 : zR d 93 Q 10 lv st h = zR d 93 Q 12 lv (.int (-1000000001) :: st) h := q_in rfl rfl
theorem r93_12 : zR d 93 Q 12 lv [.int x] h = Q (some (.int x)) h := q_retz rfl rfl (Or.inl rfl)
theorem r93_13 : zR d 93 Q 13 (o0 :: o1 :: o2 :: some (.ref c) :: l) st h = zR d 93 Q 14 (o0 :: o1 :: o2 :: some (.ref c) :: l) (.ref c :: st) h := q_in rfl rfl
theorem r93_13n : zR d 93 Q 13 (o0 :: o1 :: o2 :: some .null :: l) st h = zR d 93 Q 14 (o0 :: o1 :: o2 :: some .null :: l) (.null :: st) h := q_in rfl rfl
theorem r93_14 : zR d 93 Q 14 lv (.ref c :: st) h = (zcls c = 4 ∧ zR d 93 Q 17 lv (.int (h c 0) :: st) h) := q_and rfl rfl
theorem r93_17 : zR d 93 Q 17 lv (.int x :: st) h = if x = 0 then zR d 93 Q 20 lv st h else zR d 93 Q 23 lv st h := q_if rfl rfl
theorem r93_20 : zR d 93 Q 20 lv st h = zR d 93 Q 22 lv (.int (-1000000011) :: st) h := q_in rfl rfl
theorem r93_22 : zR d 93 Q 22 lv [.int x] h = Q (some (.int x)) h := q_retz rfl rfl (Or.inl rfl)
theorem r93_23 : zR d 93 Q 23 (o0 :: o1 :: o2 :: some (.ref c) :: l) st h = zR d 93 Q 24 (o0 :: o1 :: o2 :: some (.ref c) :: l) (.ref c :: st) h := q_in rfl rfl
theorem r93_23n : zR d 93 Q 23 (o0 :: o1 :: o2 :: some .null :: l) st h = zR d 93 Q 24 (o0 :: o1 :: o2 :: some .null :: l) (.null :: st) h := q_in rfl rfl
theorem r93_24 : zR d 93 Q 24 lv (.ref c :: st) h = (zcls c = 4 ∧ zR d 93 Q 27 lv (.int (h c 0) :: st) h) := q_and rfl rfl
theorem r93_27 : zR d 93 Q 27 lv st h = zR d 93 Q 28 lv (.int 2 :: st) h := q_in rfl rfl
theorem r93_28 : zR d 93 Q 28 lv (.int z :: .int x :: st) h = if x = z then zR d 93 Q 34 lv st h else zR d 93 Q 31 lv st h := q_if rfl rfl
theorem r93_31 : zR d 93 Q 31 lv st h = zR d 93 Q 33 lv (.int (-1000000012) :: st) h := q_in rfl rfl
theorem r93_33 : zR d 93 Q 33 lv [.int x] h = Q (some (.int x)) h := q_retz rfl rfl (Or.inl rfl)
theorem r93_34 : zR d 93 Q 34 (o0 :: o1 :: o2 :: some (.ref c) :: l) st h = zR d 93 Q 35 (o0 :: o1 :: o2 :: some (.ref c) :: l) (.ref c :: st) h := q_in rfl rfl
theorem r93_34n : zR d 93 Q 34 (o0 :: o1 :: o2 :: some .null :: l) st h = zR d 93 Q 35 (o0 :: o1 :: o2 :: some .null :: l) (.null :: st) h := q_in rfl rfl
theorem r93_35 : zR d 93 Q 35 lv (.ref c :: st) h = (zcls c = 4 ∧ zR d 93 Q 38 lv (.ref (c + 1) :: st) h) := q_and rfl rfl
theorem r93_38 : zR d 93 Q 38 (o0 :: o1 :: some (.int x) :: l) st h = zR d 93 Q 39 (o0 :: o1 :: some (.int x) :: l) (.int x :: st) h := q_in rfl rfl
theorem r93_39 : zR d 93 Q 39 lv [.int x0, .ref c] h = (zcls c = 3 ∧ zM d 33 [.ref c, .int x0] h (fun r h' => zR d 93 Q 42 lv (r.toList ++ []) h')) := (q_clV rfl rfl (Nat.le_of_ble_eq_true rfl)).trans (zand_r (Nat.le_of_ble_eq_true rfl))
theorem r93_42 : zR d 93 Q 42 lv (.int x :: st) h = if x = 0 then zR d 93 Q 45 lv st h else zR d 93 Q 49 lv st h := q_if rfl rfl
theorem r93_45 : zR d 93 Q 45 lv st h = zR d 93 Q 48 lv (.int (-1000000013) :: st) h := q_in rfl rfl
theorem r93_48 : zR d 93 Q 48 lv [.int x] h = Q (some (.int x)) h := q_retz rfl rfl (Or.inl rfl)
theorem r93_49 : zR d 93 Q 49 (o0 :: o1 :: o2 :: some (.ref c) :: l) st h = zR d 93 Q 50 (o0 :: o1 :: o2 :: some (.ref c) :: l) (.ref c :: st) h := q_in rfl rfl
theorem r93_49n : zR d 93 Q 49 (o0 :: o1 :: o2 :: some .null :: l) st h = zR d 93 Q 50 (o0 :: o1 :: o2 :: some .null :: l) (.null :: st) h := q_in rfl rfl
theorem r93_50 : zR d 93 Q 50 lv (.ref c :: st) h = (zcls c = 4 ∧ zR d 93 Q 53 lv (.ref (c + 1) :: st) h) := q_and rfl rfl
theorem r93_53 : zR d 93 Q 53 (o0 :: o1 :: some (.int x) :: l) st h = zR d 93 Q 54 (o0 :: o1 :: some (.int x) :: l) (.int x :: st) h := q_in rfl rfl
theorem r93_54 : zR d 93 Q 54 lv [.int x0, .ref c] h = (zcls c = 3 ∧ zM d 35 [.ref c, .int x0] h (fun r h' => zR d 93 Q 57 lv (r.toList ++ []) h')) := (q_clV rfl rfl (Nat.le_of_ble_eq_true rfl)).trans (zand_r (Nat.le_of_ble_eq_true rfl))
theorem r93_57 : zR d 93 Q 57 lv (.int x :: st) h = if x = 0 then zR d 93 Q 72 lv st h else zR d 93 Q 60 lv st h := q_if rfl rfl
theorem r93_60 : zR d 93 Q 60 (o0 :: o1 :: o2 :: some (.ref c) :: l) st h = zR d 93 Q 61 (o0 :: o1 :: o2 :: some (.ref c) :: l) (.ref c :: st) h := q_in rfl rfl
theorem r93_60n : zR d 93 Q 60 (o0 :: o1 :: o2 :: some .null :: l) st h = zR d 93 Q 61 (o0 :: o1 :: o2 :: some .null :: l) (.null :: st) h := q_in rfl rfl
theorem r93_61 : zR d 93 Q 61 lv (.ref c :: st) h = (zcls c = 4 ∧ zR d 93 Q 64 lv (.ref (c + 1) :: st) h) := q_and rfl rfl
theorem r93_64 : zR d 93 Q 64 lv (.ref c :: st) h = (zcls c = 3 ∧ zR d 93 Q 67 lv (.ref (c + 1) :: st) h) := q_and rfl rfl
theorem r93_67 : zR d 93 Q 67 (o0 :: o1 :: some (.int x) :: l) st h = zR d 93 Q 68 (o0 :: o1 :: some (.int x) :: l) (.int x :: st) h := q_in rfl rfl
theorem r93_68 : zR d 93 Q 68 lv (.int x :: .ref c :: st) h = zal c x h (fun w => zR d 93 Q 69 lv (.int w :: st) h) := q_iald rfl
theorem r93_69 : zR d 93 Q 69 lv st h = zR d 93 Q 74 lv st h := q_in rfl rfl
theorem r93_72 : zR d 93 Q 72 lv st h = zR d 93 Q 74 lv (.int (-1000000012) :: st) h := q_in rfl rfl
theorem r93_74 : zR d 93 Q 74 lv [.int x] h = Q (some (.int x)) h := q_retz rfl rfl (Or.inl rfl)
theorem r94_0 : zR d 94 Q 0 (some (.ref c) :: l) st h = zR d 94 Q 1 (some (.ref c) :: l) (.ref c :: st) h := q_in rfl rfl
theorem r94_1 : zR d 94 Q 1 (o0 :: some (.int x) :: l) st h = zR d 94 Q 2 (o0 :: some (.int x) :: l) (.int x :: st) h := q_in rfl rfl
theorem r94_2 : zR d 94 Q 2 lv [.int x0, .ref 0] h = zM d 96 [.ref 0, .int x0] h (fun r h' => zR d 94 Q 5 lv (r.toList ++ []) h') := (q_clV rfl rfl (Nat.le_of_ble_eq_true rfl)).trans (zand_t ⟨rfl, Nat.le_of_ble_eq_true rfl⟩)
theorem r94_5 : zR d 94 Q 5 (o0 :: o1 :: o2 :: o3 :: l) (.ref c :: st) h = zR d 94 Q 6 (o0 :: o1 :: o2 :: some (.ref c) :: l) st h := q_in rfl rfl
theorem r94_5n : zR d 94 Q 5 (o0 :: o1 :: o2 :: o3 :: l) (.null :: st) h = zR d 94 Q 6 (o0 :: o1 :: o2 :: some .null :: l) st h := q_in rfl rfl
theorem r94_6 : zR d 94 Q 6 (o0 :: o1 :: o2 :: some (.ref c) :: l) st h = zR d 94 Q 7 (o0 :: o1 :: o2 :: some (.ref c) :: l) (.ref c :: st) h := q_in rfl rfl
theorem r94_6n : zR d 94 Q 6 (o0 :: o1 :: o2 :: some .null :: l) st h = zR d 94 Q 7 (o0 :: o1 :: o2 :: some .null :: l) (.null :: st) h := q_in rfl rfl
theorem r94_7 : zR d 94 Q 7 lv (.ref c :: st) h = zR d 94 Q 13 lv st h := q_in rfl rfl
theorem r94_7n : zR d 94 Q 7 lv (.null :: st) h = zR d 94 Q 10 lv st h := q_in rfl rfl
theorem r94_10 : zR d 94 Q 10 lv st h = zR d 94 Q 12 lv (.int (-1000000001) :: st) h := q_in rfl rfl
theorem r94_12 : zR d 94 Q 12 lv [.int x] h = Q (some (.int x)) h := q_retz rfl rfl (Or.inl rfl)
theorem r94_13 : zR d 94 Q 13 (o0 :: o1 :: o2 :: some (.ref c) :: l) st h = zR d 94 Q 14 (o0 :: o1 :: o2 :: some (.ref c) :: l) (.ref c :: st) h := q_in rfl rfl
theorem r94_13n : zR d 94 Q 13 (o0 :: o1 :: o2 :: some .null :: l) st h = zR d 94 Q 14 (o0 :: o1 :: o2 :: some .null :: l) (.null :: st) h := q_in rfl rfl
theorem r94_14 : zR d 94 Q 14 lv (.ref c :: st) h = (zcls c = 4 ∧ zR d 94 Q 17 lv (.int (h c 0) :: st) h) := q_and rfl rfl
theorem r94_17 : zR d 94 Q 17 lv (.int x :: st) h = if x = 0 then zR d 94 Q 20 lv st h else zR d 94 Q 23 lv st h := q_if rfl rfl
theorem r94_20 : zR d 94 Q 20 lv st h = zR d 94 Q 22 lv (.int (-1000000011) :: st) h := q_in rfl rfl
theorem r94_22 : zR d 94 Q 22 lv [.int x] h = Q (some (.int x)) h := q_retz rfl rfl (Or.inl rfl)
theorem r94_23 : zR d 94 Q 23 (o0 :: o1 :: o2 :: some (.ref c) :: l) st h = zR d 94 Q 24 (o0 :: o1 :: o2 :: some (.ref c) :: l) (.ref c :: st) h := q_in rfl rfl
theorem r94_23n : zR d 94 Q 23 (o0 :: o1 :: o2 :: some .null :: l) st h = zR d 94 Q 24 (o0 :: o1 :: o2 :: some .null :: l) (.null :: st) h := q_in rfl rfl
theorem r94_24 : zR d 94 Q 24 lv (.ref c :: st) h = (zcls c = 4 ∧ zR d 94 Q 27 lv (.int (h c 0) :: st) h) := q_and rfl rfl
theorem r94_27 : zR d 94 Q 27 lv st h = zR d 94 Q 28 lv (.int 3 :: st) h := q_in rfl rfl
theorem r94_28 : zR d 94 Q 28 lv (.int z :: .int x :: st) h = if x = z then zR d 94 Q 34 lv st h else zR d 94 Q 31 lv st h := q_if rfl rfl
theorem r94_31 : zR d 94 Q 31 lv st h = zR d 94 Q 33 lv (.int (-1000000012) :: st) h := q_in rfl rfl
theorem r94_33 : zR d 94 Q 33 lv [.int x] h = Q (some (.int x)) h := q_retz rfl rfl (Or.inl rfl)
theorem r94_34 : zR d 94 Q 34 (o0 :: o1 :: some (.int x) :: l) st h = zR d 94 Q 35 (o0 :: o1 :: some (.int x) :: l) (.int x :: st) h := q_in rfl rfl
theorem r94_35 : zR d 94 Q 35 lv (.int x :: st) h = if x = 0 then zR d 94 Q 38 lv st h else zR d 94 Q 44 lv st h := q_if rfl rfl
theorem r94_38 : zR d 94 Q 38 lv st h = zR d 94 Q 41 lv (.int (-1000000002) :: st) h := q_in rfl rfl
theorem r94_41 : zR d 94 Q 41 lv st h = zR d 94 Q 50 lv st h := q_in rfl rfl
theorem r94_44 : zR d 94 Q 44 (o0 :: o1 :: o2 :: some (.ref c) :: l) st h = zR d 94 Q 45 (o0 :: o1 :: o2 :: some (.ref c) :: l) (.ref c :: st) h := q_in rfl rfl
theorem r94_44n : zR d 94 Q 44 (o0 :: o1 :: o2 :: some .null :: l) st h = zR d 94 Q 45 (o0 :: o1 :: o2 :: some .null :: l) (.null :: st) h := q_in rfl rfl
theorem r94_45 : zR d 94 Q 45 lv (.ref c :: st) h = (zcls c = 4 ∧ zR d 94 Q 48 lv (.int (h c 3) :: st) h) := q_and rfl rfl
theorem r94_48 : zR d 94 Q 48 (o0 :: o1 :: some (.int x) :: l) st h = zR d 94 Q 49 (o0 :: o1 :: some (.int x) :: l) (.int x :: st) h := q_in rfl rfl
theorem r94_49 : zR d 94 Q 49 lv (.int z :: .int x :: st) h = (¬ z = 0 ∧ zR d 94 Q 50 lv (.int (x - x / z * z) :: st) h) := q_and rfl rfl
theorem r94_50 : zR d 94 Q 50 lv [.int x] h = Q (some (.int x)) h := q_retz rfl rfl (Or.inl rfl)
theorem r95_0 : zR d 95 Q 0 (o0 :: some (.int x) :: l) st h = zR d 95 Q 1 (o0 :: some (.int x) :: l) (.int x :: st) h := q_in rfl rfl
theorem r95_1 : zR d 95 Q 1 lv st h = zR d 95 Q 2 lv (.int 0 :: st) h := q_in rfl rfl
theorem r95_2 : zR d 95 Q 2 lv st h = zR d 95 Q 3 lv (.int 3 :: st) h := q_in rfl rfl
theorem r95_3 : zR d 95 Q 3 lv [.int x2, .int x1, .int x0] h = zM d 103 [.int x0, .int x1, .int x2] h (fun r h' => zR d 95 Q 6 lv (r.toList ++ []) h') := q_clS rfl rfl ⟨Nat.le_of_ble_eq_true rfl, Nat.le_of_ble_eq_true rfl⟩
theorem r95_6 : zR d 95 Q 6 lv (.int x :: st) h = if x = 0 then zR d 95 Q 18 lv st h else zR d 95 Q 9 lv st h := q_if rfl rfl
theorem r95_9 : zR d 95 Q 9 (some (.ref c) :: l) st h = zR d 95 Q 10 (some (.ref c) :: l) (.ref c :: st) h := q_in rfl rfl
theorem r95_10 : zR d 95 Q 10 lv (.ref 0 :: st) h = zR d 95 Q 13 lv (.ref 34 :: st) h := (q_and rfl rfl).trans (zand_t rfl)
theorem r95_13 : zR d 95 Q 13 (o0 :: some (.int x) :: l) st h = zR d 95 Q 14 (o0 :: some (.int x) :: l) (.int x :: st) h := q_in rfl rfl
theorem r95_14 : zR d 95 Q 14 lv (.int x :: .ref c :: st) h = zaa c x (fun w => zR d 95 Q 15 lv (.ref w :: st) h) := q_aald rfl
theorem r95_15 : zR d 95 Q 15 lv st h = zR d 95 Q 19 lv st h := q_in rfl rfl
theorem r95_18 : zR d 95 Q 18 lv st h = zR d 95 Q 19 lv (.null :: st) h := q_in rfl rfl
theorem r95_19 : zR d 95 Q 19 lv [.ref c] h = Q (some (.ref c)) h := q_ret rfl rfl
theorem r95_19n : zR d 95 Q 19 lv [.null] h = Q (some .null) h := q_ret rfl rfl
theorem r96_0 : zR d 96 Q 0 (o0 :: some (.int x) :: l) st h = zR d 96 Q 1 (o0 :: some (.int x) :: l) (.int x :: st) h := q_in rfl rfl
theorem r96_1 : zR d 96 Q 1 lv st h = zR d 96 Q 2 lv (.int 0 :: st) h := q_in rfl rfl
theorem r96_2 : zR d 96 Q 2 lv st h = zR d 96 Q 3 lv (.int 4 :: st) h := q_in rfl rfl
theorem r96_3 : zR d 96 Q 3 lv [.int x2, .int x1, .int x0] h = zM d 103 [.int x0, .int x1, .int x2] h (fun r h' => zR d 96 Q 6 lv (r.toList ++ []) h') := q_clS rfl rfl ⟨Nat.le_of_ble_eq_true rfl, Nat.le_of_ble_eq_true rfl⟩
theorem r96_6 : zR d 96 Q 6 lv (.int x :: st) h = if x = 0 then zR d 96 Q 18 lv st h else zR d 96 Q 9 lv st h := q_if rfl rfl
theorem r96_9 : zR d 96 Q 9 (some (.ref c) :: l) st h = zR d 96 Q 10 (some (.ref c) :: l) (.ref c :: st) h := q_in rfl rfl
theorem r96_10 : zR d 96 Q 10 lv (.ref 0 :: st) h = zR d 96 Q 13 lv (.ref 43 :: st) h := (q_and rfl rfl).trans (zand_t rfl)
theorem r96_13 : zR d 96 Q 13 (o0 :: some (.int x) :: l) st h = zR d 96 Q 14 (o0 :: some (.int x) :: l) (.int x :: st) h := q_in rfl rfl
theorem r96_14 : zR d 96 Q 14 lv (.int x :: .ref c :: st) h = zaa c x (fun w => zR d 96 Q 15 lv (.ref w :: st) h) := q_aald rfl
theorem r96_15 : zR d 96 Q 15 lv st h = zR d 96 Q 19 lv st h := q_in rfl rfl
theorem r96_18 : zR d 96 Q 18 lv st h = zR d 96 Q 19 lv (.null :: st) h := q_in rfl rfl
theorem r96_19 : zR d 96 Q 19 lv [.ref c] h = Q (some (.ref c)) h := q_ret rfl rfl
theorem r96_19n : zR d 96 Q 19 lv [.null] h = Q (some .null) h := q_ret rfl rfl
theorem r97_0 : zR d 97 Q 0 (some (.ref c) :: l) st h = zR d 97 Q 1 (some (.ref c) :: l) (.ref c :: st) h := q_in rfl rfl
theorem r97_1 : zR d 97 Q 1 lv (.ref 0 :: st) h = zR d 97 Q 4 lv (.int (h 0 9) :: st) h := (q_and rfl rfl).trans (zand_t rfl)
theorem r97_4 : zR d 97 Q 4 lv st h = zR d 97 Q 6 lv (.int 60 :: st) h := q_in rfl rfl
theorem r97_6 : zR d 97 Q 6 lv (.int z :: .int x :: st) h = if x < z then zR d 97 Q 12 lv st h else zR d 97 Q 9 lv st h := q_if rfl rfl
theorem r97_9 : zR d 97 Q 9 lv st h = zR d 97 Q 11 lv (.int (-1000000003) :: st) h := q_in rfl rfl
theorem r97_11 : zR d 97 Q 11 lv [.int x] h = Q (some (.int x)) h := q_retz rfl rfl (Or.inl rfl)
theorem r97_12 : zR d 97 Q 12 (some (.ref c) :: l) st h = zR d 97 Q 13 (some (.ref c) :: l) (.ref c :: st) h := q_in rfl rfl
theorem r97_13 : zR d 97 Q 13 lv (.ref 0 :: st) h = zR d 97 Q 16 lv (.ref 59 :: st) h := (q_and rfl rfl).trans (zand_t rfl)
theorem r97_16 : zR d 97 Q 16 (some (.ref c) :: l) st h = zR d 97 Q 17 (some (.ref c) :: l) (.ref c :: st) h := q_in rfl rfl
theorem r97_17 : zR d 97 Q 17 lv (.ref 0 :: st) h = zR d 97 Q 20 lv (.int (h 0 9) :: st) h := (q_and rfl rfl).trans (zand_t rfl)
theorem r97_20 : zR d 97 Q 20 (o0 :: some (.int x) :: l) st h = zR d 97 Q 21 (o0 :: some (.int x) :: l) (.int x :: st) h := q_in rfl rfl
theorem r97_21 : zR d 97 Q 21 lv (.int z :: .int x :: .ref c :: st) h = zas c x z h (fun h' => zR d 97 Q 22 lv st h') := q_iast rfl
theorem r97_22 : zR d 97 Q 22 (some (.ref c) :: l) st h = zR d 97 Q 23 (some (.ref c) :: l) (.ref c :: st) h := q_in rfl rfl
theorem r97_23 : zR d 97 Q 23 lv (.ref c :: st) h = zR d 97 Q 24 lv (.ref c :: .ref c :: st) h := q_in rfl rfl
theorem r97_24 : zR d 97 Q 24 lv (.ref 0 :: st) h = zR d 97 Q 27 lv (.int (h 0 9) :: st) h := (q_and rfl rfl).trans (zand_t rfl)
theorem r97_27 : zR d 97 Q 27 lv st h = zR d 97 Q 28 lv (.int 1 :: st) h := q_in rfl rfl
theorem r97_28 : zR d 97 Q 28 lv (.int z :: .int x :: st) h = zR d 97 Q 29 lv (.int (x + z) :: st) h := q_in rfl rfl
theorem r97_29 : zR d 97 Q 29 lv (.int x :: .ref 0 :: st) h = zR d 97 Q 32 lv st (zhr h 0 (upd (h 0) 9 x)) := (q_and rfl rfl).trans (zand_t ⟨rfl, Or.inl rfl⟩)
theorem r97_32 : zR d 97 Q 32 (some (.ref c) :: l) st h = zR d 97 Q 33 (some (.ref c) :: l) (.ref c :: st) h := q_in rfl rfl
theorem r97_33 : zR d 97 Q 33 lv (.ref 0 :: st) h = zR d 97 Q 36 lv (.int (h 0 9) :: st) h := (q_and rfl rfl).trans (zand_t rfl)
theorem r97_36 : zR d 97 Q 36 lv [.int x] h = Q (some (.int x)) h := q_retz rfl rfl (Or.inl rfl)
theorem r98_0 : zR d 98 Q 0 (some (.ref c) :: l) st h = zR d 98 Q 1 (some (.ref c) :: l) (.ref c :: st) h := q_in rfl rfl
theorem r98_1 : zR d 98 Q 1 lv (.ref 0 :: st) h = zR d 98 Q 4 lv (.int (h 0 9) :: st) h := (q_and rfl rfl).trans (zand_t rfl)
theorem r98_4 : zR d 98 Q 4 (o0 :: o1 :: o2 :: l) (.int x :: st) h = zR d 98 Q 5 (o0 :: o1 :: some (.int x) :: l) st h := q_in rfl rfl
theorem r98_5 : zR d 98 Q 5 (some (.ref c) :: l) st h = zR d 98 Q 6 (some (.ref c) :: l) (.ref c :: st) h := q_in rfl rfl
theorem r98_6 : zR d 98 Q 6 lv st h = zR d 98 Q 7 lv (.int 0 :: st) h := q_in rfl rfl
theorem r98_7 : zR d 98 Q 7 lv (.int x :: .ref 0 :: st) h = zR d 98 Q 10 lv st (zhr h 0 (upd (h 0) 9 x)) := (q_and rfl rfl).trans (zand_t ⟨rfl, Or.inl rfl⟩)
theorem r98_10 : zR d 98 Q 10 (o0 :: some (.int x) :: l) st h = zR d 98 Q 11 (o0 :: some (.int x) :: l) (.int x :: st) h := q_in rfl rfl
theorem r98_11 : zR d 98 Q 11 lv st h = zR d 98 Q 12 lv (.int 1 :: st) h := q_in rfl rfl
theorem r98_12 : zR d 98 Q 12 lv st h = zR d 98 Q 14 lv (.int 30 :: st) h := q_in rfl rfl
theorem r98_14 : zR d 98 Q 14 lv [.int x2, .int x1, .int x0] h = zM d 103 [.int x0, .int x1, .int x2] h (fun r h' => zR d 98 Q 17 lv (r.toList ++ []) h') := q_clS rfl rfl ⟨Nat.le_of_ble_eq_true rfl, Nat.le_of_ble_eq_true rfl⟩
theorem r98_17 : zR d 98 Q 17 lv (.int x :: st) h = if x = 0 then zR d 98 Q 20 lv st h else zR d 98 Q 23 lv st h := q_if rfl rfl
theorem r98_20 : zR d 98 Q 20 lv st h = zR d 98 Q 22 lv (.int (-1000000001) :: st) h := q_in rfl rfl
theorem r98_22 : zR d 98 Q 22 lv [.int x] h = Q (some (.int x)) h := q_retz rfl rfl (Or.inl rfl)
theorem r98_23 : zR d 98 Q 23 (some (.ref c) :: l) st h = zR d 98 Q 24 (some (.ref c) :: l) (.ref c :: st) h := q_in rfl rfl
theorem r98_24 : zR d 98 Q 24 lv (.ref 0 :: st) h = zR d 98 Q 27 lv (.int (h 0 5) :: st) h := (q_and rfl rfl).trans (zand_t rfl)
theorem r98_27 : zR d 98 Q 27 lv (.int x :: st) h = if x = 0 then zR d 98 Q 30 lv st h else zR d 98 Q 34 lv st h := q_if rfl rfl
theorem r98_30 : zR d 98 Q 30 lv st h = zR d 98 Q 33 lv (.int (-1000000002) :: st) h := q_in rfl rfl
theorem r98_33 : zR d 98 Q 33 lv [.int x] h = Q (some (.int x)) h := q_retz rfl rfl (Or.inl rfl)
theorem r98_34 : zR d 98 Q 34 (some (.ref c) :: l) st h = zR d 98 Q 35 (some (.ref c) :: l) (.ref c :: st) h := q_in rfl rfl
theorem r98_35 : zR d 98 Q 35 lv (.ref 0 :: st) h = zR d 98 Q 38 lv (.ref 26 :: st) h := (q_and rfl rfl).trans (zand_t rfl)
theorem r98_38 : zR d 98 Q 38 (some (.ref c) :: l) st h = zR d 98 Q 39 (some (.ref c) :: l) (.ref c :: st) h := q_in rfl rfl
theorem r98_39 : zR d 98 Q 39 lv (.ref 0 :: st) h = zR d 98 Q 42 lv (.ref 18 :: st) h := (q_and rfl rfl).trans (zand_t rfl)
theorem r98_42 : zR d 98 Q 42 lv [.ref c0, .ref c] h = (zcls c = 5 ∧ zM d 36 [.ref c, .ref c0] h (fun r h' => zR d 98 Q 45 lv (r.toList ++ []) h')) := (q_clV rfl rfl (Nat.le_of_ble_eq_true rfl)).trans (zand_r (Nat.le_of_ble_eq_true rfl))
theorem r98_45 : zR d 98 Q 45 (o0 :: some (.int x) :: l) st h = zR d 98 Q 46 (o0 :: some (.int x) :: l) (.int x :: st) h := q_in rfl rfl
theorem r98_46 : zR d 98 Q 46 lv st h = zR d 98 Q 49 lv (.int 9999 :: st) h := q_in rfl rfl
theorem r98_49 : zR d 98 Q 49 (some (.ref c) :: l) st h = zR d 98 Q 50 (some (.ref c) :: l) (.ref c :: st) h := q_in rfl rfl
theorem r98_50 : zR d 98 Q 50 lv (.ref 0 :: st) h = zR d 98 Q 53 lv (.ref 26 :: st) h := (q_and rfl rfl).trans (zand_t rfl)
theorem r98_53 : zR d 98 Q 53 lv (.ref c :: st) h = (zcls c = 5 ∧ zR d 98 Q 56 lv (.int (h c 10) :: st) h) := q_and rfl rfl
theorem r98_56 : zR d 98 Q 56 lv (.int z :: .int x :: st) h = zR d 98 Q 57 lv (.int (x - z) :: st) h := q_in rfl rfl
theorem r98_57 : zR d 98 Q 57 lv [.int x1, .int x0] h = zM d 1001 [.int x0, .int x1] h (fun r h' => zR d 98 Q 60 lv (r.toList ++ []) h') := q_clS rfl rfl ⟨Nat.le_of_ble_eq_true rfl, Nat.le_of_ble_eq_true rfl⟩
theorem r98_60 : zR d 98 Q 60 (o0 :: o1 :: o2 :: o3 :: l) (.int x :: st) h = zR d 98 Q 61 (o0 :: o1 :: o2 :: some (.int x) :: l) st h := q_in rfl rfl
theorem r98_61 : zR d 98 Q 61 lv st h = zR d 98 Q 62 lv (.int 0 :: st) h := q_in rfl rfl
theorem r98_62 : zR d 98 Q 62 (o0 :: o1 :: o2 :: o3 :: o4 :: l) (.int x :: st) h = zR d 98 Q 64 (o0 :: o1 :: o2 :: o3 :: some (.int x) :: l) st h := q_in rfl rfl
theorem r98_64 : zR d 98 Q 64 (o0 :: o1 :: o2 :: o3 :: some (.int x) :: l) st h = zR d 98 Q 66 (o0 :: o1 :: o2 :: o3 :: some (.int x) :: l) (.int x :: st) h := q_in rfl rfl
theorem r98_66 : zR d 98 Q 66 (o0 :: o1 :: o2 :: some (.int x) :: l) st h = zR d 98 Q 67 (o0 :: o1 :: o2 :: some (.int x) :: l) (.int x :: st) h := q_in rfl rfl
theorem r98_67 : zR d 98 Q 67 lv (.int z :: .int x :: st) h = if x < z then zR d 98 Q 70 lv st h else zR d 98 Q 137 lv st h := q_if rfl rfl
theorem r98_70 : zR d 98 Q 70 (some (.ref c) :: l) st h = zR d 98 Q 71 (some (.ref c) :: l) (.ref c :: st) h := q_in rfl rfl
theorem r98_71 : zR d 98 Q 71 lv (.ref 0 :: st) h = zR d 98 Q 74 lv (.ref 26 :: st) h := (q_and rfl rfl).trans (zand_t rfl)
theorem r98_74 : zR d 98 Q 74 lv [.ref c] h = (zcls c = 5 ∧ zM d 54 [.ref c] h (fun r h' => zR d 98 Q 77 lv (r.toList ++ []) h')) := (q_clV rfl rfl (Nat.le_of_ble_eq_true rfl)).trans (zand_r (Nat.le_of_ble_eq_true rfl))
theorem r98_77 : zR d 98 Q 77 (some (.ref c) :: l) st h = zR d 98 Q 78 (some (.ref c) :: l) (.ref c :: st) h := q_in rfl rfl
theorem r98_78 : zR d 98 Q 78 lv st h = zR d 98 Q 79 lv (.int 2 :: st) h := q_in rfl rfl
theorem r98_79 : zR d 98 Q 79 (o0 :: o1 :: o2 :: o3 :: some (.int x) :: l) st h = zR d 98 Q 81 (o0 :: o1 :: o2 :: o3 :: some (.int x) :: l) (.int x :: st) h := q_in rfl rfl
theorem r98_81 : zR d 98 Q 81 lv (.int z :: .int x :: st) h = zR d 98 Q 82 lv (.int (x * z) :: st) h := q_in rfl rfl
theorem r98_82 : zR d 98 Q 82 (o0 :: o1 :: some (.int x) :: l) st h = zR d 98 Q 83 (o0 :: o1 :: some (.int x) :: l) (.int x :: st) h := q_in rfl rfl
theorem r98_83 : zR d 98 Q 83 (some (.ref c) :: l) st h = zR d 98 Q 84 (some (.ref c) :: l) (.ref c :: st) h := q_in rfl rfl
theorem r98_84 : zR d 98 Q 84 lv (.ref 0 :: st) h = zR d 98 Q 87 lv (.ref 26 :: st) h := (q_and rfl rfl).trans (zand_t rfl)
theorem r98_87 : zR d 98 Q 87 lv (.ref c :: st) h = (zcls c = 5 ∧ zR d 98 Q 90 lv (.int (h c 8) :: st) h) := q_and rfl rfl
theorem r98_90 : zR d 98 Q 90 lv [.int x2, .int x1, .int x0, .ref 0] h = zM d 99 [.ref 0, .int x0, .int x1, .int x2] h (fun r h' => zR d 98 Q 93 lv (r.toList ++ []) h') := (q_clV rfl rfl (Nat.le_of_ble_eq_true rfl)).trans (zand_t ⟨rfl, Nat.le_of_ble_eq_true rfl⟩)
theorem r98_93 : zR d 98 Q 93 lv (.int x :: st) h = if x = 0 then zR d 98 Q 96 lv st h else zR d 98 Q 103 lv st h := q_if rfl rfl
theorem r98_96 : zR d 98 Q 96 lv st h = zR d 98 Q 97 lv (.int 1 :: st) h := q_in rfl rfl
theorem r98_97 : zR d 98 Q 97 lv st h = zR d 98 Q 98 lv (.int 2 :: st) h := q_in rfl rfl
theorem r98_98 : zR d 98 Q 98 (o0 :: o1 :: o2 :: o3 :: some (.int x) :: l) st h = zR d 98 Q 100 (o0 :: o1 :: o2 :: o3 :: some (.int x) :: l) (.int x :: st) h := q_in rfl rfl
theorem r98_100 : zR d 98 Q 100 lv (.int z :: .int x :: st) h = zR d 98 Q 101 lv (.int (x * z) :: st) h := q_in rfl rfl
theorem r98_101 : zR d 98 Q 101 lv (.int z :: .int x :: st) h = zR d 98 Q 102 lv (.int (x + z) :: st) h := q_in rfl rfl
theorem r98_102 : zR d 98 Q 102 lv [.int x] h = Q (some (.int x)) h := q_retz rfl rfl (Or.inl rfl)
theorem r98_103 : zR d 98 Q 103 (some (.ref c) :: l) st h = zR d 98 Q 104 (some (.ref c) :: l) (.ref c :: st) h := q_in rfl rfl
theorem r98_104 : zR d 98 Q 104 lv st h = zR d 98 Q 105 lv (.int 2 :: st) h := q_in rfl rfl
theorem r98_105 : zR d 98 Q 105 (o0 :: o1 :: o2 :: o3 :: some (.int x) :: l) st h = zR d 98 Q 107 (o0 :: o1 :: o2 :: o3 :: some (.int x) :: l) (.int x :: st) h := q_in rfl rfl
theorem r98_107 : zR d 98 Q 107 lv (.int z :: .int x :: st) h = zR d 98 Q 108 lv (.int (x * z) :: st) h := q_in rfl rfl
theorem r98_108 : zR d 98 Q 108 lv st h = zR d 98 Q 109 lv (.int 1 :: st) h := q_in rfl rfl
theorem r98_109 : zR d 98 Q 109 lv (.int z :: .int x :: st) h = zR d 98 Q 110 lv (.int (x + z) :: st) h := q_in rfl rfl
theorem r98_110 : zR d 98 Q 110 (o0 :: o1 :: some (.int x) :: l) st h = zR d 98 Q 111 (o0 :: o1 :: some (.int x) :: l) (.int x :: st) h := q_in rfl rfl
theorem r98_111 : zR d 98 Q 111 (some (.ref c) :: l) st h = zR d 98 Q 112 (some (.ref c) :: l) (.ref c :: st) h := q_in rfl rfl
theorem r98_112 : zR d 98 Q 112 lv (.ref 0 :: st) h = zR d 98 Q 115 lv (.ref 26 :: st) h := (q_and rfl rfl).trans (zand_t rfl)
theorem r98_115 : zR d 98 Q 115 lv (.ref c :: st) h = (zcls c = 5 ∧ zR d 98 Q 118 lv (.int (h c 9) :: st) h) := q_and rfl rfl
theorem r98_118 : zR d 98 Q 118 lv [.int x2, .int x1, .int x0, .ref 0] h = zM d 99 [.ref 0, .int x0, .int x1, .int x2] h (fun r h' => zR d 98 Q 121 lv (r.toList ++ []) h') := (q_clV rfl rfl (Nat.le_of_ble_eq_true rfl)).trans (zand_t ⟨rfl, Nat.le_of_ble_eq_true rfl⟩)
theorem r98_121 : zR d 98 Q 121 lv (.int x :: st) h = if x = 0 then zR d 98 Q 124 lv st h else zR d 98 Q 131 lv st h := q_if rfl rfl
theorem r98_124 : zR d 98 Q 124 lv st h = zR d 98 Q 125 lv (.int 2 :: st) h := q_in rfl rfl
theorem r98_125 : zR d 98 Q 125 lv st h = zR d 98 Q 126 lv (.int 2 :: st) h := q_in rfl rfl
theorem r98_126 : zR d 98 Q 126 (o0 :: o1 :: o2 :: o3 :: some (.int x) :: l) st h = zR d 98 Q 128 (o0 :: o1 :: o2 :: o3 :: some (.int x) :: l) (.int x :: st) h := q_in rfl rfl
theorem r98_128 : zR d 98 Q 128 lv (.int z :: .int x :: st) h = zR d 98 Q 129 lv (.int (x * z) :: st) h := q_in rfl rfl
theorem r98_129 : zR d 98 Q 129 lv (.int z :: .int x :: st) h = zR d 98 Q 130 lv (.int (x + z) :: st) h := q_in rfl rfl
theorem r98_130 : zR d 98 Q 130 lv [.int x] h = Q (some (.int x)) h := q_retz rfl rfl (Or.inl rfl)
theorem r98_131 : zR d 98 Q 131 (o0 :: o1 :: o2 :: o3 :: some (.int x) :: l) st h = zR d 98 Q 134 (o0 :: o1 :: o2 :: o3 :: some (.int (x + 1)) :: l) st h := q_in rfl rfl
theorem r98_134 : zR d 98 Q 134 lv st h = zR d 98 Q 64 lv st h := q_in rfl rfl
theorem r98_137 : zR d 98 Q 137 (o0 :: o1 :: some (.int x) :: l) st h = zR d 98 Q 138 (o0 :: o1 :: some (.int x) :: l) (.int x :: st) h := q_in rfl rfl
theorem r98_138 : zR d 98 Q 138 lv st h = zR d 98 Q 139 lv (.int 2 :: st) h := q_in rfl rfl
theorem r98_139 : zR d 98 Q 139 (o0 :: o1 :: o2 :: some (.int x) :: l) st h = zR d 98 Q 140 (o0 :: o1 :: o2 :: some (.int x) :: l) (.int x :: st) h := q_in rfl rfl
theorem r98_140 : zR d 98 Q 140 lv (.int z :: .int x :: st) h = zR d 98 Q 141 lv (.int (x * z) :: st) h := q_in rfl rfl
theorem r98_141 : zR d 98 Q 141 lv (.int z :: .int x :: st) h = if x ≤ z then zR d 98 Q 152 lv st h else zR d 98 Q 144 lv st h := q_if rfl rfl
theorem r98_144 : zR d 98 Q 144 lv st h = zR d 98 Q 145 lv (.int 1 :: st) h := q_in rfl rfl
theorem r98_145 : zR d 98 Q 145 lv st h = zR d 98 Q 146 lv (.int 2 :: st) h := q_in rfl rfl
theorem r98_146 : zR d 98 Q 146 (o0 :: o1 :: o2 :: some (.int x) :: l) st h = zR d 98 Q 147 (o0 :: o1 :: o2 :: some (.int x) :: l) (.int x :: st) h := q_in rfl rfl
theorem r98_147 : zR d 98 Q 147 lv (.int z :: .int x :: st) h = zR d 98 Q 148 lv (.int (x * z) :: st) h := q_in rfl rfl
theorem r98_148 : zR d 98 Q 148 lv (.int z :: .int x :: st) h = zR d 98 Q 149 lv (.int (x + z) :: st) h := q_in rfl rfl
theorem r98_149 : zR d 98 Q 149 lv st h = zR d 98 Q 153 lv st h := q_in rfl rfl
theorem r98_152 : zR d 98 Q 152 lv st h = zR d 98 Q 153 lv (.int 0 :: st) h := q_in rfl rfl
theorem r98_153 : zR d 98 Q 153 lv [.int x] h = Q (some (.int x)) h := q_retz rfl rfl (Or.inl rfl)
theorem r99_0 : zR d 99 Q 0 (o0 :: some (.int x) :: l) st h = zR d 99 Q 1 (o0 :: some (.int x) :: l) (.int x :: st) h := q_in rfl rfl
theorem r99_1 : zR d 99 Q 1 (o0 :: o1 :: some (.int x) :: l) st h = zR d 99 Q 2 (o0 :: o1 :: some (.int x) :: l) (.int x :: st) h := q_in rfl rfl
theorem r99_2 : zR d 99 Q 2 lv (.int z :: .int x :: st) h = if x < z then zR d 99 Q 5 lv st h else zR d 99 Q 29 lv st h := q_if rfl rfl
theorem r99_5 : zR d 99 Q 5 (o0 :: some (.int x) :: l) st h = zR d 99 Q 6 (o0 :: some (.int x) :: l) (.int x :: st) h := q_in rfl rfl
theorem r99_6 : zR d 99 Q 6 lv st h = zR d 99 Q 7 lv (.int 0 :: st) h := q_in rfl rfl
theorem r99_7 : zR d 99 Q 7 lv st h = zR d 99 Q 9 lv (.int 59 :: st) h := q_in rfl rfl
theorem r99_9 : zR d 99 Q 9 lv [.int x2, .int x1, .int x0] h = zM d 103 [.int x0, .int x1, .int x2] h (fun r h' => zR d 99 Q 12 lv (r.toList ++ []) h') := q_clS rfl rfl ⟨Nat.le_of_ble_eq_true rfl, Nat.le_of_ble_eq_true rfl⟩
theorem r99_12 : zR d 99 Q 12 lv (.int x :: st) h = if x = 0 then zR d 99 Q 29 lv st h else zR d 99 Q 15 lv st h := q_if rfl rfl
theorem r99_15 : zR d 99 Q 15 (some (.ref c) :: l) st h = zR d 99 Q 16 (some (.ref c) :: l) (.ref c :: st) h := q_in rfl rfl
theorem r99_16 : zR d 99 Q 16 lv (.ref 0 :: st) h = zR d 99 Q 19 lv (.ref 59 :: st) h := (q_and rfl rfl).trans (zand_t rfl)
theorem r99_19 : zR d 99 Q 19 (o0 :: some (.int x) :: l) st h = zR d 99 Q 20 (o0 :: some (.int x) :: l) (.int x :: st) h := q_in rfl rfl
theorem r99_20 : zR d 99 Q 20 lv (.int x :: .ref c :: st) h = zal c x h (fun w => zR d 99 Q 21 lv (.int w :: st) h) := q_iald rfl
theorem r99_21 : zR d 99 Q 21 (o0 :: o1 :: o2 :: some (.int x) :: l) st h = zR d 99 Q 22 (o0 :: o1 :: o2 :: some (.int x) :: l) (.int x :: st) h := q_in rfl rfl
theorem r99_22 : zR d 99 Q 22 lv (.int z :: .int x :: st) h = if x = z then zR d 99 Q 25 lv st h else zR d 99 Q 29 lv st h := q_if rfl rfl
theorem r99_25 : zR d 99 Q 25 lv st h = zR d 99 Q 26 lv (.int 1 :: st) h := q_in rfl rfl
theorem r99_26 : zR d 99 Q 26 lv st h = zR d 99 Q 30 lv st h := q_in rfl rfl
theorem r99_29 : zR d 99 Q 29 lv st h = zR d 99 Q 30 lv (.int 0 :: st) h := q_in rfl rfl
theorem r99_30f : zR d 99 Q 30 lv [.int 0] h = Q (some (.int 0)) h := q_retz rfl rfl (Or.inr (Or.inl rfl))
theorem r99_30t : zR d 99 Q 30 lv [.int 1] h = Q (some (.int 1)) h := q_retz rfl rfl (Or.inr (Or.inr rfl))
theorem r100_0 : zR d 100 Q 0 (some (.ref c) :: l) st h = zR d 100 Q 1 (some (.ref c) :: l) (.ref c :: st) h := q_in rfl rfl
theorem r100_1 : zR d 100 Q 1 lv (.ref 0 :: st) h = zR d 100 Q 4 lv (.ref 18 :: st) h := (q_and rfl rfl).trans (zand_t rfl)
theorem r100_4 : zR d 100 Q 4 (some (.ref c) :: l) st h = zR d 100 Q 5 (some (.ref c) :: l) (.ref c :: st) h := q_in rfl rfl
theorem r100_5 : zR d 100 Q 5 lv (.ref 0 :: st) h = zR d 100 Q 8 lv (.ref 10 :: st) h := (q_and rfl rfl).trans (zand_t rfl)
theorem r100_8 : zR d 100 Q 8 lv [.ref c0, .ref c] h = (zcls c = 5 ∧ zM d 36 [.ref c, .ref c0] h (fun r h' => zR d 100 Q 11 lv (r.toList ++ []) h')) := (q_clV rfl rfl (Nat.le_of_ble_eq_true rfl)).trans (zand_r (Nat.le_of_ble_eq_true rfl))
theorem r100_11 : zR d 100 Q 11 (some (.ref c) :: l) st h = zR d 100 Q 12 (some (.ref c) :: l) (.ref c :: st) h := q_in rfl rfl
theorem r100_12 : zR d 100 Q 12 lv st h = zR d 100 Q 13 lv (.int 1 :: st) h := q_in rfl rfl
theorem r100_13 : zR d 100 Q 13 lv (.int x :: .ref 0 :: st) h = ((x = 0 ∨ x = 1) ∧ zR d 100 Q 16 lv st (zhr h 0 (upd (h 0) 5 x))) := (q_and rfl rfl).trans zand_b
theorem r100_16 : zR d 100 Q 16 (some (.ref c) :: l) st h = zR d 100 Q 17 (some (.ref c) :: l) (.ref c :: st) h := q_in rfl rfl
theorem r100_17 : zR d 100 Q 17 lv (.ref 0 :: st) h = zR d 100 Q 20 lv (.ref 10 :: st) h := (q_and rfl rfl).trans (zand_t rfl)
theorem r100_20 : zR d 100 Q 20 lv (.ref c :: st) h = (zcls c = 5 ∧ zR d 100 Q 23 lv (.int (h c 1) :: st) h) := q_and rfl rfl
theorem r100_23 : zR d 100 Q 23 lv [.int x] h = Q (some (.int x)) h := q_retz rfl rfl (Or.inl rfl)
theorem r101_0 : zR d 101 Q 0 (some (.ref c) :: l) st h = zR d 101 Q 1 (some (.ref c) :: l) (.ref c :: st) h := q_in rfl rfl
theorem r101_1 : zR d 101 Q 1 lv (.ref 0 :: st) h = zR d 101 Q 4 lv (.int (h 0 5) :: st) h := (q_and rfl rfl).trans (zand_t rfl)
theorem r101_4 : zR d 101 Q 4 lv (.int x :: st) h = if x = 0 then zR d 101 Q 7 lv st h else zR d 101 Q 11 lv st h := q_if rfl rfl
theorem r101_7 : zR d 101 Q 7 lv st h = zR d 101 Q 10 lv (.int (-1000000002) :: st) h := q_in rfl rfl
theorem r101_10 : zR d 101 Q 10 lv [.int x] h = Q (some (.int x)) h := q_retz rfl rfl (Or.inl rfl)
theorem r101_11 : zR d 101 Q 11 (some (.ref c) :: l) st h = zR d 101 Q 12 (some (.ref c) :: l) (.ref c :: st) h := q_in rfl rfl
theorem r101_12 : zR d 101 Q 12 lv (.ref 0 :: st) h = zR d 101 Q 15 lv (.ref 10 :: st) h := (q_and rfl rfl).trans (zand_t rfl)
theorem r101_15 : zR d 101 Q 15 (some (.ref c) :: l) st h = zR d 101 Q 16 (some (.ref c) :: l) (.ref c :: st) h := q_in rfl rfl
theorem r101_16 : zR d 101 Q 16 lv (.ref 0 :: st) h = zR d 101 Q 19 lv (.ref 18 :: st) h := (q_and rfl rfl).trans (zand_t rfl)
theorem r101_19 : zR d 101 Q 19 lv [.ref c0, .ref c] h = (zcls c = 5 ∧ zM d 36 [.ref c, .ref c0] h (fun r h' => zR d 101 Q 22 lv (r.toList ++ []) h')) := (q_clV rfl rfl (Nat.le_of_ble_eq_true rfl)).trans (zand_r (Nat.le_of_ble_eq_true rfl))
theorem r101_22 : zR d 101 Q 22 (some (.ref c) :: l) st h = zR d 101 Q 23 (some (.ref c) :: l) (.ref c :: st) h := q_in rfl rfl
theorem r101_23 : zR d 101 Q 23 lv (.ref 0 :: st) h = zR d 101 Q 26 lv (.ref 10 :: st) h := (q_and rfl rfl).trans (zand_t rfl)
theorem r101_26 : zR d 101 Q 26 lv (.ref c :: st) h = (zcls c = 5 ∧ zR d 101 Q 29 lv (.int (h c 1) :: st) h) := q_and rfl rfl
theorem r101_29 : zR d 101 Q 29 lv [.int x] h = Q (some (.int x)) h := q_retz rfl rfl (Or.inl rfl)
theorem r102_0 : zR d 102 Q 0 (o0 :: some (.int x) :: l) st h = zR d 102 Q 1 (o0 :: some (.int x) :: l) (.int x :: st) h := q_in rfl rfl
theorem r102_1 : zR d 102 Q 1 lv (.int x :: st) h = if x = 0 then zR d 102 Q 48 lv st h else if x = 1 then zR d 102 Q 56 lv st h else if x = 2 then zR d 102 Q 64 lv st h else if x = 3 then zR d 102 Q 73 lv st h else if x = 4 then zR d 102 Q 90 lv st h else if x = 5 then zR d 102 Q 98 lv st h else if x = 6 then zR d 102 Q 103 lv st h else if x = 7 then zR d 102 Q 111 lv st h else zR d 102 Q 119 lv st h := (q_in rfl rfl).trans (by simp only [zsw, zR_ite])
theorem r102_48 : zR d 102 Q 48 (some (.ref c) :: l) st h = zR d 102 Q 49 (some (.ref c) :: l) (.ref c :: st) h := q_in rfl rfl
theorem r102_49 : zR d 102 Q 49 lv (.ref 0 :: st) h = zR d 102 Q 52 lv (.ref 10 :: st) h := (q_and rfl rfl).trans (zand_t rfl)
theorem r102_52 : zR d 102 Q 52 lv (.ref c :: st) h = (zcls c = 5 ∧ zR d 102 Q 55 lv (.int (h c 1) :: st) h) := q_and rfl rfl
theorem r102_55 : zR d 102 Q 55 lv [.int x] h = Q (some (.int x)) h := q_retz rfl rfl (Or.inl rfl)
theorem r102_56 : zR d 102 Q 56 (some (.ref c) :: l) st h = zR d 102 Q 57 (some (.ref c) :: l) (.ref c :: st) h := q_in rfl rfl
theorem r102_57 : zR d 102 Q 57 lv (.ref 0 :: st) h = zR d 102 Q 60 lv (.ref 10 :: st) h := (q_and rfl rfl).trans (zand_t rfl)
theorem r102_60 : zR d 102 Q 60 lv (.ref c :: st) h = (zcls c = 5 ∧ zR d 102 Q 63 lv (.int (h c 10) :: st) h) := q_and rfl rfl
theorem r102_63 : zR d 102 Q 63 lv [.int x] h = Q (some (.int x)) h := q_retz rfl rfl (Or.inl rfl)
theorem r102_64 : zR d 102 Q 64 (some (.ref c) :: l) st h = zR d 102 Q 65 (some (.ref c) :: l) (.ref c :: st) h := q_in rfl rfl
theorem r102_65 : zR d 102 Q 65 lv (.ref 0 :: st) h = zR d 102 Q 68 lv (.ref 10 :: st) h := (q_and rfl rfl).trans (zand_t rfl)
theorem r102_68 : zR d 102 Q 68 lv st h = zR d 102 Q 69 lv (.int 0 :: st) h := q_in rfl rfl
theorem r102_69 : zR d 102 Q 69 lv [.int x0, .ref c] h = (zcls c = 5 ∧ zM d 40 [.ref c, .int x0] h (fun r h' => zR d 102 Q 72 lv (r.toList ++ []) h')) := (q_clV rfl rfl (Nat.le_of_ble_eq_true rfl)).trans (zand_r (Nat.le_of_ble_eq_true rfl))
theorem r102_72 : zR d 102 Q 72 lv [.int x] h = Q (some (.int x)) h := q_retz rfl rfl (Or.inl rfl)
theorem r102_73 : zR d 102 Q 73 (some (.ref c) :: l) st h = zR d 102 Q 74 (some (.ref c) :: l) (.ref c :: st) h := q_in rfl rfl
theorem r102_74 : zR d 102 Q 74 lv (.ref 0 :: st) h = zR d 102 Q 77 lv (.ref 10 :: st) h := (q_and rfl rfl).trans (zand_t rfl)
theorem r102_77 : zR d 102 Q 77 (some (.ref c) :: l) st h = zR d 102 Q 78 (some (.ref c) :: l) (.ref c :: st) h := q_in rfl rfl
theorem r102_78 : zR d 102 Q 78 lv (.ref 0 :: st) h = zR d 102 Q 81 lv (.ref 10 :: st) h := (q_and rfl rfl).trans (zand_t rfl)
theorem r102_81 : zR d 102 Q 81 lv (.ref c :: st) h = (zcls c = 5 ∧ zR d 102 Q 84 lv (.ref (c + 6) :: st) h) := q_and rfl rfl
theorem r102_84 : zR d 102 Q 84 lv st h = zR d 102 Q 85 lv (.int 0 :: st) h := q_in rfl rfl
theorem r102_85 : zR d 102 Q 85 lv (.int x :: .ref c :: st) h = zal c x h (fun w => zR d 102 Q 86 lv (.int w :: st) h) := q_iald rfl
theorem r102_86 : zR d 102 Q 86 lv [.int x0, .ref c] h = (zcls c = 5 ∧ zM d 40 [.ref c, .int x0] h (fun r h' => zR d 102 Q 89 lv (r.toList ++ []) h')) := (q_clV rfl rfl (Nat.le_of_ble_eq_true rfl)).trans (zand_r (Nat.le_of_ble_eq_true rfl))
theorem r102_89 : zR d 102 Q 89 lv [.int x] h = Q (some (.int x)) h := q_retz rfl rfl (Or.inl rfl)
theorem r102_90 : zR d 102 Q 90 (some (.ref c) :: l) st h = zR d 102 Q 91 (some (.ref c) :: l) (.ref c :: st) h := q_in rfl rfl
theorem r102_91 : zR d 102 Q 91 lv (.ref 0 :: st) h = zR d 102 Q 94 lv (.ref 10 :: st) h := (q_and rfl rfl).trans (zand_t rfl)
theorem r102_94 : zR d 102 Q 94 lv (.ref c :: st) h = (zcls c = 5 ∧ zR d 102 Q 97 lv (.int (h c 12) :: st) h) := q_and rfl rfl
theorem r102_97 : zR d 102 Q 97 lv [.int x] h = Q (some (.int x)) h := q_retz rfl rfl (Or.inl rfl)
theorem r102_98 : zR d 102 Q 98 (some (.ref c) :: l) st h = zR d 102 Q 99 (some (.ref c) :: l) (.ref c :: st) h := q_in rfl rfl
theorem r102_99 : zR d 102 Q 99 lv (.ref 0 :: st) h = zR d 102 Q 102 lv (.int (h 0 9) :: st) h := (q_and rfl rfl).trans (zand_t rfl)
theorem r102_102 : zR d 102 Q 102 lv [.int x] h = Q (some (.int x)) h := q_retz rfl rfl (Or.inl rfl)
theorem r102_103 : zR d 102 Q 103 (some (.ref c) :: l) st h = zR d 102 Q 104 (some (.ref c) :: l) (.ref c :: st) h := q_in rfl rfl
theorem r102_104 : zR d 102 Q 104 lv (.ref 0 :: st) h = zR d 102 Q 107 lv (.ref 7 :: st) h := (q_and rfl rfl).trans (zand_t rfl)
theorem r102_107 : zR d 102 Q 107 lv (.ref 7 :: st) h = zR d 102 Q 110 lv (.int (h 7 1) :: st) h := (q_and rfl rfl).trans (zand_t rfl)
theorem r102_110 : zR d 102 Q 110 lv [.int x] h = Q (some (.int x)) h := q_retz rfl rfl (Or.inl rfl)
theorem r102_111 : zR d 102 Q 111 (some (.ref c) :: l) st h = zR d 102 Q 112 (some (.ref c) :: l) (.ref c :: st) h := q_in rfl rfl
theorem r102_112 : zR d 102 Q 112 lv (.ref 0 :: st) h = zR d 102 Q 115 lv (.ref 10 :: st) h := (q_and rfl rfl).trans (zand_t rfl)
theorem r102_115 : zR d 102 Q 115 lv (.ref c :: st) h = (zcls c = 5 ∧ zR d 102 Q 118 lv (.int (h c 11) :: st) h) := q_and rfl rfl
theorem r102_118 : zR d 102 Q 118 lv [.int x] h = Q (some (.int x)) h := q_retz rfl rfl (Or.inl rfl)
theorem r102_119 : zR d 102 Q 119 lv st h = zR d 102 Q 121 lv (.int (-1000000001) :: st) h := q_in rfl rfl
theorem r102_121 : zR d 102 Q 121 lv [.int x] h = Q (some (.int x)) h := q_retz rfl rfl (Or.inl rfl)
theorem r103_0 : zR d 103 Q 0 (some (.int x) :: l) st h = zR d 103 Q 1 (some (.int x) :: l) (.int x :: st) h := q_in rfl rfl
theorem r103_1 : zR d 103 Q 1 (o0 :: some (.int x) :: l) st h = zR d 103 Q 2 (o0 :: some (.int x) :: l) (.int x :: st) h := q_in rfl rfl
theorem r103_2 : zR d 103 Q 2 lv (.int z :: .int x :: st) h = if x < z then zR d 103 Q 14 lv st h else zR d 103 Q 5 lv st h := q_if rfl rfl
theorem r103_5 : zR d 103 Q 5 (some (.int x) :: l) st h = zR d 103 Q 6 (some (.int x) :: l) (.int x :: st) h := q_in rfl rfl
theorem r103_6 : zR d 103 Q 6 (o0 :: o1 :: some (.int x) :: l) st h = zR d 103 Q 7 (o0 :: o1 :: some (.int x) :: l) (.int x :: st) h := q_in rfl rfl
theorem r103_7 : zR d 103 Q 7 lv (.int z :: .int x :: st) h = if x ≤ z then zR d 103 Q 10 lv st h else zR d 103 Q 14 lv st h := q_if rfl rfl
theorem r103_10 : zR d 103 Q 10 lv st h = zR d 103 Q 11 lv (.int 1 :: st) h := q_in rfl rfl
theorem r103_11 : zR d 103 Q 11 lv st h = zR d 103 Q 15 lv st h := q_in rfl rfl
theorem r103_14 : zR d 103 Q 14 lv st h = zR d 103 Q 15 lv (.int 0 :: st) h := q_in rfl rfl
theorem r103_15f : zR d 103 Q 15 lv [.int 0] h = Q (some (.int 0)) h := q_retz rfl rfl (Or.inr (Or.inl rfl))
theorem r103_15t : zR d 103 Q 15 lv [.int 1] h = Q (some (.int 1)) h := q_retz rfl rfl (Or.inr (Or.inr rfl))
theorem r104_0 : zR d 104 Q 0 (o0 :: some (.int x) :: l) st h = zR d 104 Q 1 (o0 :: some (.int x) :: l) (.int x :: st) h := q_in rfl rfl
theorem r104_1 : zR d 104 Q 1 (o0 :: o1 :: some (.int x) :: l) st h = zR d 104 Q 2 (o0 :: o1 :: some (.int x) :: l) (.int x :: st) h := q_in rfl rfl
theorem r104_2 : zR d 104 Q 2 (some (.int x) :: l) st h = zR d 104 Q 3 (some (.int x) :: l) (.int x :: st) h := q_in rfl rfl
theorem r104_3 : zR d 104 Q 3 lv [.int x1, .int x0, .int y0] h = zM d 1001 [.int x0, .int x1] h (fun r h' => zR d 104 Q 6 lv (r.toList ++ [.int y0]) h') := q_clS rfl rfl ⟨Nat.le_of_ble_eq_true rfl, Nat.le_of_ble_eq_true rfl⟩
theorem r104_6 : zR d 104 Q 6 lv [.int x1, .int x0] h = zM d 1000 [.int x0, .int x1] h (fun r h' => zR d 104 Q 9 lv (r.toList ++ []) h') := q_clS rfl rfl ⟨Nat.le_of_ble_eq_true rfl, Nat.le_of_ble_eq_true rfl⟩
theorem r104_9 : zR d 104 Q 9 lv [.int x] h = Q (some (.int x)) h := q_retz rfl rfl (Or.inl rfl)
theorem r105_0 : zR d 105 Q 0 (o0 :: o1 :: some (.int x) :: l) st h = zR d 105 Q 1 (o0 :: o1 :: some (.int x) :: l) (.int x :: st) h := q_in rfl rfl
theorem r105_1 : zR d 105 Q 1 (o0 :: o1 :: o2 :: some (.int x) :: l) st h = zR d 105 Q 2 (o0 :: o1 :: o2 :: some (.int x) :: l) (.int x :: st) h := q_in rfl rfl
theorem r105_2 : zR d 105 Q 2 (o0 :: o1 :: o2 :: o3 :: some (.int x) :: l) st h = zR d 105 Q 4 (o0 :: o1 :: o2 :: o3 :: some (.int x) :: l) (.int x :: st) h := q_in rfl rfl
theorem r105_4 : zR d 105 Q 4 lv [.int x2, .int x1, .int x0] h = zM d 103 [.int x0, .int x1, .int x2] h (fun r h' => zR d 105 Q 7 lv (r.toList ++ []) h') := q_clS rfl rfl ⟨Nat.le_of_ble_eq_true rfl, Nat.le_of_ble_eq_true rfl⟩
theorem r105_7 : zR d 105 Q 7 lv (.int x :: st) h = if x = 0 then zR d 105 Q 22 lv st h else zR d 105 Q 10 lv st h := q_if rfl rfl
theorem r105_10 : zR d 105 Q 10 (o0 :: some (.int x) :: l) st h = zR d 105 Q 11 (o0 :: some (.int x) :: l) (.int x :: st) h := q_in rfl rfl
theorem r105_11 : zR d 105 Q 11 lv st h = zR d 105 Q 12 lv (.int 0 :: st) h := q_in rfl rfl
theorem r105_12 : zR d 105 Q 12 (some (.ref c) :: l) st h = zR d 105 Q 13 (some (.ref c) :: l) (.ref c :: st) h := q_in rfl rfl
theorem r105_13 : zR d 105 Q 13 lv (.ref c :: st) h = zan c h (fun w => zR d 105 Q 14 lv (.int w :: st) h) := q_alen rfl
theorem r105_14 : zR d 105 Q 14 lv st h = zR d 105 Q 15 lv (.int 1 :: st) h := q_in rfl rfl
theorem r105_15 : zR d 105 Q 15 lv (.int z :: .int x :: st) h = zR d 105 Q 16 lv (.int (x - z) :: st) h := q_in rfl rfl
theorem r105_16 : zR d 105 Q 16 lv [.int x2, .int x1, .int x0] h = zM d 103 [.int x0, .int x1, .int x2] h (fun r h' => zR d 105 Q 19 lv (r.toList ++ []) h') := q_clS rfl rfl ⟨Nat.le_of_ble_eq_true rfl, Nat.le_of_ble_eq_true rfl⟩
theorem r105_19 : zR d 105 Q 19 lv (.int x :: st) h = if x = 0 then zR d 105 Q 22 lv st h else zR d 105 Q 25 lv st h := q_if rfl rfl
theorem r105_22 : zR d 105 Q 22 lv st h = zR d 105 Q 24 lv (.int (-1000000001) :: st) h := q_in rfl rfl
theorem r105_24 : zR d 105 Q 24 lv [.int x] h = Q (some (.int x)) h := q_retz rfl rfl (Or.inl rfl)
theorem r105_25 : zR d 105 Q 25 (some (.ref c) :: l) st h = zR d 105 Q 26 (some (.ref c) :: l) (.ref c :: st) h := q_in rfl rfl
theorem r105_26 : zR d 105 Q 26 (o0 :: some (.int x) :: l) st h = zR d 105 Q 27 (o0 :: some (.int x) :: l) (.int x :: st) h := q_in rfl rfl
theorem r105_27 : zR d 105 Q 27 lv (.int x :: .ref c :: st) h = zal c x h (fun w => zR d 105 Q 28 lv (.int w :: st) h) := q_iald rfl
theorem r105_28 : zR d 105 Q 28 (o0 :: o1 :: o2 :: o3 :: o4 :: o5 :: l) (.int x :: st) h = zR d 105 Q 30 (o0 :: o1 :: o2 :: o3 :: o4 :: some (.int x) :: l) st h := q_in rfl rfl
theorem r105_30 : zR d 105 Q 30 (some (.ref c) :: l) st h = zR d 105 Q 31 (some (.ref c) :: l) (.ref c :: st) h := q_in rfl rfl
theorem r105_31 : zR d 105 Q 31 (o0 :: some (.int x) :: l) st h = zR d 105 Q 32 (o0 :: some (.int x) :: l) (.int x :: st) h := q_in rfl rfl
theorem r105_32 : zR d 105 Q 32 (o0 :: o1 :: some (.int x) :: l) st h = zR d 105 Q 33 (o0 :: o1 :: some (.int x) :: l) (.int x :: st) h := q_in rfl rfl
theorem r105_33 : zR d 105 Q 33 lv (.int z :: .int x :: .ref c :: st) h = zas c x z h (fun h' => zR d 105 Q 34 lv st h') := q_iast rfl
theorem r105_34 : zR d 105 Q 34 (o0 :: o1 :: o2 :: o3 :: o4 :: some (.int x) :: l) st h = zR d 105 Q 36 (o0 :: o1 :: o2 :: o3 :: o4 :: some (.int x) :: l) (.int x :: st) h := q_in rfl rfl
theorem r105_36 : zR d 105 Q 36 lv [.int x] h = Q (some (.int x)) h := q_retz rfl rfl (Or.inl rfl)
theorem r106_0 : zR d 106 Q 0 (some (.long j) :: l) st h = zR d 106 Q 1 (some (.long j) :: l) (.long j :: st) h := q_in rfl rfl
theorem r106_1 : zR d 106 Q 1 (o0 :: o1 :: some (.long j) :: l) st h = zR d 106 Q 2 (o0 :: o1 :: some (.long j) :: l) (.long j :: st) h := q_in rfl rfl
theorem r106_2 : zR d 106 Q 2 lv (.long i :: .long j :: st) h = zR d 106 Q 3 lv (.int (lg_cmp j i) :: st) h := q_in rfl rfl
theorem r106_3 : zR d 106 Q 3 lv (.int x :: st) h = if x < 0 then zR d 106 Q 17 lv st h else zR d 106 Q 6 lv st h := q_if rfl rfl
theorem r106_6 : zR d 106 Q 6 (some (.long j) :: l) st h = zR d 106 Q 7 (some (.long j) :: l) (.long j :: st) h := q_in rfl rfl
theorem r106_7 : zR d 106 Q 7 (o0 :: o1 :: o2 :: o3 :: some (.long j) :: l) st h = zR d 106 Q 9 (o0 :: o1 :: o2 :: o3 :: some (.long j) :: l) (.long j :: st) h := q_in rfl rfl
theorem r106_9 : zR d 106 Q 9 lv (.long i :: .long j :: st) h = zR d 106 Q 10 lv (.int (lg_cmp j i) :: st) h := q_in rfl rfl
theorem r106_10 : zR d 106 Q 10 lv (.int x :: st) h = if x ≤ 0 then zR d 106 Q 13 lv st h else zR d 106 Q 17 lv st h := q_if rfl rfl
theorem r106_13 : zR d 106 Q 13 lv st h = zR d 106 Q 14 lv (.int 1 :: st) h := q_in rfl rfl
theorem r106_14 : zR d 106 Q 14 lv st h = zR d 106 Q 18 lv st h := q_in rfl rfl
theorem r106_17 : zR d 106 Q 17 lv st h = zR d 106 Q 18 lv (.int 0 :: st) h := q_in rfl rfl
theorem r106_18f : zR d 106 Q 18 lv [.int 0] h = Q (some (.int 0)) h := q_retz rfl rfl (Or.inr (Or.inl rfl))
theorem r106_18t : zR d 106 Q 18 lv [.int 1] h = Q (some (.int 1)) h := q_retz rfl rfl (Or.inr (Or.inr rfl))
theorem r107_0 : zR d 107 Q 0 (some (.int x) :: l) st h = zR d 107 Q 1 (some (.int x) :: l) (.int x :: st) h := q_in rfl rfl
theorem r107_1 : zR d 107 Q 1 lv (.int x :: st) h = if x < 0 then zR d 107 Q 4 lv st h else zR d 107 Q 9 lv st h := q_if rfl rfl
theorem r107_4 : zR d 107 Q 4 lv st h = zR d 107 Q 6 lv (.int (-1000000005) :: st) h := q_in rfl rfl
theorem r107_6 : zR d 107 Q 6 lv st h = zR d 107 Q 10 lv st h := q_in rfl rfl
theorem r107_9 : zR d 107 Q 9 (some (.int x) :: l) st h = zR d 107 Q 10 (some (.int x) :: l) (.int x :: st) h := q_in rfl rfl
theorem r107_10 : zR d 107 Q 10 lv [.int x] h = Q (some (.int x)) h := q_retz rfl rfl (Or.inl rfl)
theorem r108_0 : zR d 108 Q 0 (some (.int x) :: l) st h = zR d 108 Q 1 (some (.int x) :: l) (.int x :: st) h := q_in rfl rfl
theorem r108_1 : zR d 108 Q 1 (o0 :: some (.int x) :: l) st h = zR d 108 Q 2 (o0 :: some (.int x) :: l) (.int x :: st) h := q_in rfl rfl
theorem r108_2 : zR d 108 Q 2 lv (.int z :: .int x :: st) h = if x < z then zR d 108 Q 5 lv st h else zR d 108 Q 9 lv st h := q_if rfl rfl
theorem r108_5 : zR d 108 Q 5 (o0 :: some (.int x) :: l) st h = zR d 108 Q 6 (o0 :: some (.int x) :: l) (.int x :: st) h := q_in rfl rfl
theorem r108_6 : zR d 108 Q 6 lv st h = zR d 108 Q 19 lv st h := q_in rfl rfl
theorem r108_9 : zR d 108 Q 9 (some (.int x) :: l) st h = zR d 108 Q 10 (some (.int x) :: l) (.int x :: st) h := q_in rfl rfl
theorem r108_10 : zR d 108 Q 10 (o0 :: o1 :: some (.int x) :: l) st h = zR d 108 Q 11 (o0 :: o1 :: some (.int x) :: l) (.int x :: st) h := q_in rfl rfl
theorem r108_11 : zR d 108 Q 11 lv (.int z :: .int x :: st) h = if x ≤ z then zR d 108 Q 18 lv st h else zR d 108 Q 14 lv st h := q_if rfl rfl
theorem r108_14 : zR d 108 Q 14 (o0 :: o1 :: some (.int x) :: l) st h = zR d 108 Q 15 (o0 :: o1 :: some (.int x) :: l) (.int x :: st) h := q_in rfl rfl
theorem r108_15 : zR d 108 Q 15 lv st h = zR d 108 Q 19 lv st h := q_in rfl rfl
theorem r108_18 : zR d 108 Q 18 (some (.int x) :: l) st h = zR d 108 Q 19 (some (.int x) :: l) (.int x :: st) h := q_in rfl rfl
theorem r108_19 : zR d 108 Q 19 lv [.int x] h = Q (some (.int x)) h := q_retz rfl rfl (Or.inl rfl)
theorem r109_0 : zR d 109 Q 0 (some (.int x) :: l) st h = zR d 109 Q 1 (some (.int x) :: l) (.int x :: st) h := q_in rfl rfl
theorem r109_1 : zR d 109 Q 1 (o0 :: some (.int x) :: l) st h = zR d 109 Q 2 (o0 :: some (.int x) :: l) (.int x :: st) h := q_in rfl rfl
theorem r109_2 : zR d 109 Q 2 lv (.int z :: .int x :: st) h = if x < z then zR d 109 Q 5 lv st h else zR d 109 Q 11 lv st h := q_if rfl rfl
theorem r109_5 : zR d 109 Q 5 (o0 :: some (.int x) :: l) st h = zR d 109 Q 6 (o0 :: some (.int x) :: l) (.int x :: st) h := q_in rfl rfl
theorem r109_6 : zR d 109 Q 6 (some (.int x) :: l) st h = zR d 109 Q 7 (some (.int x) :: l) (.int x :: st) h := q_in rfl rfl
theorem r109_7 : zR d 109 Q 7 lv (.int z :: .int x :: st) h = zR d 109 Q 8 lv (.int (x - z) :: st) h := q_in rfl rfl
theorem r109_8 : zR d 109 Q 8 lv st h = zR d 109 Q 14 lv st h := q_in rfl rfl
theorem r109_11 : zR d 109 Q 11 (some (.int x) :: l) st h = zR d 109 Q 12 (some (.int x) :: l) (.int x :: st) h := q_in rfl rfl
theorem r109_12 : zR d 109 Q 12 (o0 :: some (.int x) :: l) st h = zR d 109 Q 13 (o0 :: some (.int x) :: l) (.int x :: st) h := q_in rfl rfl
theorem r109_13 : zR d 109 Q 13 lv (.int z :: .int x :: st) h = zR d 109 Q 14 lv (.int (x - z) :: st) h := q_in rfl rfl
theorem r109_14 : zR d 109 Q 14 lv [.int x] h = Q (some (.int x)) h := q_retz rfl rfl (Or.inl rfl)
theorem r110_0 : zR d 110 Q 0 lv st h = zR d 110 Q 1 lv (.int 0 :: st) h := q_in rfl rfl
theorem r110_1 : zR d 110 Q 1 (o0 :: o1 :: l) (.int x :: st) h = zR d 110 Q 2 (o0 :: some (.int x) :: l) st h := q_in rfl rfl
theorem r110_2 : zR d 110 Q 2 (some (.int x) :: l) st h = zR d 110 Q 3 (some (.int x) :: l) (.int x :: st) h := q_in rfl rfl
theorem r110_3 : zR d 110 Q 3 (o0 :: o1 :: o2 :: l) (.int x :: st) h = zR d 110 Q 4 (o0 :: o1 :: some (.int x) :: l) st h := q_in rfl rfl
theorem r110_4 : zR d 110 Q 4 (o0 :: o1 :: some (.int x) :: l) st h = zR d 110 Q 5 (o0 :: o1 :: some (.int x) :: l) (.int x :: st) h := q_in rfl rfl
theorem r110_5 : zR d 110 Q 5 lv (.int x :: st) h = if x = 0 then zR d 110 Q 20 lv st h else zR d 110 Q 8 lv st h := q_if rfl rfl
theorem r110_8 : zR d 110 Q 8 (o0 :: some (.int x) :: l) st h = zR d 110 Q 11 (o0 :: some (.int (x + 1)) :: l) st h := q_in rfl rfl
theorem r110_11 : zR d 110 Q 11 (o0 :: o1 :: some (.int x) :: l) st h = zR d 110 Q 12 (o0 :: o1 :: some (.int x) :: l) (.int x :: st) h := q_in rfl rfl
theorem r110_12 : zR d 110 Q 12 (o0 :: o1 :: some (.int x) :: l) st h = zR d 110 Q 13 (o0 :: o1 :: some (.int x) :: l) (.int x :: st) h := q_in rfl rfl
theorem r110_13 : zR d 110 Q 13 lv st h = zR d 110 Q 14 lv (.int 1 :: st) h := q_in rfl rfl
theorem r110_14 : zR d 110 Q 14 lv (.int z :: .int x :: st) h = zR d 110 Q 15 lv (.int (x - z) :: st) h := q_in rfl rfl
theorem r110_15 : zR d 110 Q 15 lv (.int z :: .int x :: st) h = zR d 110 Q 16 lv (.int (x &&& z) :: st) h := q_in rfl rfl
theorem r110_16 : zR d 110 Q 16 (o0 :: o1 :: o2 :: l) (.int x :: st) h = zR d 110 Q 17 (o0 :: o1 :: some (.int x) :: l) st h := q_in rfl rfl
theorem r110_17 : zR d 110 Q 17 lv st h = zR d 110 Q 4 lv st h := q_in rfl rfl
theorem r110_20 : zR d 110 Q 20 (o0 :: some (.int x) :: l) st h = zR d 110 Q 21 (o0 :: some (.int x) :: l) (.int x :: st) h := q_in rfl rfl
theorem r110_21 : zR d 110 Q 21 lv [.int x] h = Q (some (.int x)) h := q_retz rfl rfl (Or.inl rfl)
theorem r111_0 : zR d 111 Q 0 (some (.ref c) :: l) st h = zR d 111 Q 1 (some (.ref c) :: l) (.ref c :: st) h := q_in rfl rfl
theorem r111_1 : zR d 111 Q 1 lv (.ref 60 :: st) h = zR d 111 Q 4 lv (.ref 61 :: st) h := (q_and rfl rfl).trans (zand_t rfl)
theorem r111_4 : zR d 111 Q 4 (o0 :: some (.int x) :: l) st h = zR d 111 Q 5 (o0 :: some (.int x) :: l) (.int x :: st) h := q_in rfl rfl
theorem r111_5 : zR d 111 Q 5 lv (.int x :: .ref c :: st) h = zal c x h (fun w => zR d 111 Q 6 lv (.int w :: st) h) := q_iald rfl
theorem r111_6 : zR d 111 Q 6 (o0 :: o1 :: o2 :: o3 :: l) (.int x :: st) h = zR d 111 Q 7 (o0 :: o1 :: o2 :: some (.int x) :: l) st h := q_in rfl rfl
theorem r111_7 : zR d 111 Q 7 (some (.ref c) :: l) st h = zR d 111 Q 8 (some (.ref c) :: l) (.ref c :: st) h := q_in rfl rfl
theorem r111_8 : zR d 111 Q 8 lv (.ref 60 :: st) h = zR d 111 Q 11 lv (.ref 61 :: st) h := (q_and rfl rfl).trans (zand_t rfl)
theorem r111_11 : zR d 111 Q 11 (o0 :: some (.int x) :: l) st h = zR d 111 Q 12 (o0 :: some (.int x) :: l) (.int x :: st) h := q_in rfl rfl
theorem r111_12 : zR d 111 Q 12 (o0 :: o1 :: some (.int x) :: l) st h = zR d 111 Q 13 (o0 :: o1 :: some (.int x) :: l) (.int x :: st) h := q_in rfl rfl
theorem r111_13 : zR d 111 Q 13 lv (.int z :: .int x :: .ref c :: st) h = zas c x z h (fun h' => zR d 111 Q 14 lv st h') := q_iast rfl
theorem r111_14 : zR d 111 Q 14 (o0 :: o1 :: o2 :: some (.int x) :: l) st h = zR d 111 Q 15 (o0 :: o1 :: o2 :: some (.int x) :: l) (.int x :: st) h := q_in rfl rfl
theorem r111_15 : zR d 111 Q 15 lv [.int x] h = Q (some (.int x)) h := q_retz rfl rfl (Or.inl rfl)
theorem r112_0 : zR d 112 Q 0 lv st h = zR d 112 Q 2 lv (.int 62 :: st) h := q_in rfl rfl
theorem r112_2 : zR d 112 Q 2 lv st h = zR d 112 Q 5 lv (.int 200 :: st) h := q_in rfl rfl
theorem r112_5 : zR d 112 Q 5 (o0 :: some (.int x) :: l) st h = zR d 112 Q 6 (o0 :: some (.int x) :: l) (.int x :: st) h := q_in rfl rfl
theorem r112_6 : zR d 112 Q 6 lv (.int z :: .int x :: st) h = zR d 112 Q 7 lv (.int (x * z) :: st) h := q_in rfl rfl
theorem r112_7 : zR d 112 Q 7 lv (.int z :: .int x :: st) h = zR d 112 Q 8 lv (.int (x + z) :: st) h := q_in rfl rfl
theorem r112_8 : zR d 112 Q 8 lv [.int x] h = Q (some (.int x)) h := q_retz rfl rfl (Or.inl rfl)
theorem r113_0 : zR d 113 Q 0 (some (.ref c) :: l) st h = zR d 113 Q 1 (some (.ref c) :: l) (.ref c :: st) h := q_in rfl rfl
theorem r113_1 : zR d 113 Q 1 lv (.ref 60 :: st) h = zR d 113 Q 4 lv (.ref 61 :: st) h := (q_and rfl rfl).trans (zand_t rfl)
theorem r113_4 : zR d 113 Q 4 lv st h = zR d 113 Q 6 lv (.int 12 :: st) h := q_in rfl rfl
theorem r113_6 : zR d 113 Q 6 lv st h = zR d 113 Q 7 lv (.int 5 :: st) h := q_in rfl rfl
theorem r113_7 : zR d 113 Q 7 (o0 :: some (.int x) :: l) st h = zR d 113 Q 8 (o0 :: some (.int x) :: l) (.int x :: st) h := q_in rfl rfl
theorem r113_8 : zR d 113 Q 8 lv (.int z :: .int x :: st) h = zR d 113 Q 9 lv (.int (x * z) :: st) h := q_in rfl rfl
theorem r113_9 : zR d 113 Q 9 lv (.int z :: .int x :: st) h = zR d 113 Q 10 lv (.int (x + z) :: st) h := q_in rfl rfl
theorem r113_10 : zR d 113 Q 10 (o0 :: o1 :: some (.int x) :: l) st h = zR d 113 Q 11 (o0 :: o1 :: some (.int x) :: l) (.int x :: st) h := q_in rfl rfl
theorem r113_11 : zR d 113 Q 11 lv (.int z :: .int x :: st) h = zR d 113 Q 12 lv (.int (x + z) :: st) h := q_in rfl rfl
theorem r113_12 : zR d 113 Q 12 lv (.int x :: .ref c :: st) h = zal c x h (fun w => zR d 113 Q 13 lv (.int w :: st) h) := q_iald rfl
theorem r113_13 : zR d 113 Q 13 lv [.int x] h = Q (some (.int x)) h := q_retz rfl rfl (Or.inl rfl)
theorem r114_0 : zR d 114 Q 0 (some (.ref c) :: l) st h = zR d 114 Q 1 (some (.ref c) :: l) (.ref c :: st) h := q_in rfl rfl
theorem r114_1 : zR d 114 Q 1 lv (.ref 60 :: st) h = zR d 114 Q 4 lv (.ref 61 :: st) h := (q_and rfl rfl).trans (zand_t rfl)
theorem r114_4 : zR d 114 Q 4 lv st h = zR d 114 Q 6 lv (.int 12 :: st) h := q_in rfl rfl
theorem r114_6 : zR d 114 Q 6 lv st h = zR d 114 Q 7 lv (.int 5 :: st) h := q_in rfl rfl
theorem r114_7 : zR d 114 Q 7 (o0 :: some (.int x) :: l) st h = zR d 114 Q 8 (o0 :: some (.int x) :: l) (.int x :: st) h := q_in rfl rfl
theorem r114_8 : zR d 114 Q 8 lv (.int z :: .int x :: st) h = zR d 114 Q 9 lv (.int (x * z) :: st) h := q_in rfl rfl
theorem r114_9 : zR d 114 Q 9 lv (.int z :: .int x :: st) h = zR d 114 Q 10 lv (.int (x + z) :: st) h := q_in rfl rfl
theorem r114_10 : zR d 114 Q 10 (o0 :: o1 :: some (.int x) :: l) st h = zR d 114 Q 11 (o0 :: o1 :: some (.int x) :: l) (.int x :: st) h := q_in rfl rfl
theorem r114_11 : zR d 114 Q 11 lv (.int z :: .int x :: st) h = zR d 114 Q 12 lv (.int (x + z) :: st) h := q_in rfl rfl
theorem r114_12 : zR d 114 Q 12 (o0 :: o1 :: o2 :: some (.int x) :: l) st h = zR d 114 Q 13 (o0 :: o1 :: o2 :: some (.int x) :: l) (.int x :: st) h := q_in rfl rfl
theorem r114_13 : zR d 114 Q 13 lv (.int z :: .int x :: .ref c :: st) h = zas c x z h (fun h' => zR d 114 Q 14 lv st h') := q_iast rfl
theorem r114_14 : zR d 114 Q 14 lv [] h = Q none h := q_ret rfl rfl
theorem r115_0 : zR d 115 Q 0 (o0 :: some (.int x) :: l) st h = zR d 115 Q 1 (o0 :: some (.int x) :: l) (.int x :: st) h := q_in rfl rfl
theorem r115_1 : zR d 115 Q 1 lv (.int x :: st) h = zR d 115 Q 2 lv (.long x.toInt64 :: st) h := q_in rfl rfl
theorem r115_2 : zR d 115 Q 2 lv st h = zR d 115 Q 3 lv (.long (Int32.toInt64 0) :: st) h := q_in rfl rfl
theorem r115_3 : zR d 115 Q 3 (some (.ref c) :: l) st h = zR d 115 Q 4 (some (.ref c) :: l) (.ref c :: st) h := q_in rfl rfl
theorem r115_4 : zR d 115 Q 4 lv (.ref 60 :: st) h = zR d 115 Q 7 lv (.ref 61 :: st) h := (q_and rfl rfl).trans (zand_t rfl)
theorem r115_7 : zR d 115 Q 7 lv st h = zR d 115 Q 8 lv (.int 0 :: st) h := q_in rfl rfl
theorem r115_8 : zR d 115 Q 8 lv (.int x :: .ref c :: st) h = zal c x h (fun w => zR d 115 Q 9 lv (.int w :: st) h) := q_iald rfl
theorem r115_9 : zR d 115 Q 9 lv st h = zR d 115 Q 10 lv (.int 1 :: st) h := q_in rfl rfl
theorem r115_10 : zR d 115 Q 10 lv (.int z :: .int x :: st) h = zR d 115 Q 11 lv (.int (x - z) :: st) h := q_in rfl rfl
theorem r115_11 : zR d 115 Q 11 lv (.int x :: st) h = zR d 115 Q 12 lv (.long x.toInt64 :: st) h := q_in rfl rfl
theorem r115_12 : zR d 115 Q 12 lv [.long j2, .long j1, .long j0] h = zM d 106 [.long j0, .long j1, .long j2] h (fun r h' => zR d 115 Q 15 lv (r.toList ++ []) h') := q_clS rfl rfl ⟨Nat.le_of_ble_eq_true rfl, Nat.le_of_ble_eq_true rfl⟩
theorem r115_15f : zR d 115 Q 15 lv [.int 0] h = Q (some (.int 0)) h := q_retz rfl rfl (Or.inr (Or.inl rfl))
theorem r115_15t : zR d 115 Q 15 lv [.int 1] h = Q (some (.int 1)) h := q_retz rfl rfl (Or.inr (Or.inr rfl))
theorem r116_0 : zR d 116 Q 0 (o0 :: some (.int x) :: l) st h = zR d 116 Q 1 (o0 :: some (.int x) :: l) (.int x :: st) h := q_in rfl rfl
theorem r116_1 : zR d 116 Q 1 lv (.int x :: st) h = zR d 116 Q 2 lv (.long x.toInt64 :: st) h := q_in rfl rfl
theorem r116_2 : zR d 116 Q 2 lv st h = zR d 116 Q 3 lv (.long (Int32.toInt64 0) :: st) h := q_in rfl rfl
theorem r116_3 : zR d 116 Q 3 (some (.ref c) :: l) st h = zR d 116 Q 4 (some (.ref c) :: l) (.ref c :: st) h := q_in rfl rfl
theorem r116_4 : zR d 116 Q 4 lv (.ref 60 :: st) h = zR d 116 Q 7 lv (.ref 61 :: st) h := (q_and rfl rfl).trans (zand_t rfl)
theorem r116_7 : zR d 116 Q 7 lv st h = zR d 116 Q 8 lv (.int 1 :: st) h := q_in rfl rfl
theorem r116_8 : zR d 116 Q 8 lv (.int x :: .ref c :: st) h = zal c x h (fun w => zR d 116 Q 9 lv (.int w :: st) h) := q_iald rfl
theorem r116_9 : zR d 116 Q 9 lv st h = zR d 116 Q 10 lv (.int 1 :: st) h := q_in rfl rfl
theorem r116_10 : zR d 116 Q 10 lv (.int z :: .int x :: st) h = zR d 116 Q 11 lv (.int (x - z) :: st) h := q_in rfl rfl
theorem r116_11 : zR d 116 Q 11 lv (.int x :: st) h = zR d 116 Q 12 lv (.long x.toInt64 :: st) h := q_in rfl rfl
theorem r116_12 : zR d 116 Q 12 lv [.long j2, .long j1, .long j0] h = zM d 106 [.long j0, .long j1, .long j2] h (fun r h' => zR d 116 Q 15 lv (r.toList ++ []) h') := q_clS rfl rfl ⟨Nat.le_of_ble_eq_true rfl, Nat.le_of_ble_eq_true rfl⟩
theorem r116_15f : zR d 116 Q 15 lv [.int 0] h = Q (some (.int 0)) h := q_retz rfl rfl (Or.inr (Or.inl rfl))
theorem r116_15t : zR d 116 Q 15 lv [.int 1] h = Q (some (.int 1)) h := q_retz rfl rfl (Or.inr (Or.inr rfl))
end
