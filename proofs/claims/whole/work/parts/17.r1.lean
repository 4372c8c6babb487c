section
variable {d : Nat} {Q : Option Value → zH → Prop} {lv l : zL} {st : zS} {h : zH} {x z : Int32} {c : Nat} {i j : Int64} {o0 o1 o2 o3 o4 o5 o6 o7 o8 o9 o10 o11 o12 : Option Value} {x0 x1 x2 x3 x4 y0 y1 y2 y3 : Int32} {c0 c1 c2 c3 c4 a0 a1 a2 a3 : Nat} {j0 j1 j2 k0 k1 : Int64}

theorem r29_0 : zR d 29 Q 0 lv st h = zR d 29 Q 1 lv (.int 0 :: st) h := q_in rfl rfl
theorem r29_1 : zR d 29 Q 1 (o0 :: o1 :: l) (.int x :: st) h = zR d 29 Q 2 (o0 :: some (.int x) :: l) st h := q_in rfl rfl
theorem r29_2 : zR d 29 Q 2 (o0 :: some (.int x) :: l) st h = zR d 29 Q 3 (o0 :: some (.int x) :: l) (.int x :: st) h := q_in rfl rfl
theorem r29_3 : zR d 29 Q 3 lv st h = zR d 29 Q 4 lv (.int 3 :: st) h := q_in rfl rfl
theorem r29_4 : zR d 29 Q 4 lv (.int z :: .int x :: st) h = if x < z then zR d 29 Q 7 lv st h else zR d 29 Q 67 lv st h := q_if rfl rfl
theorem r29_7 : zR d 29 Q 7 (some (.ref c) :: l) st h = zR d 29 Q 8 (some (.ref c) :: l) (.ref c :: st) h := q_in rfl rfl
theorem r29_8 : zR d 29 Q 8 lv (.ref 7 :: st) h = zR d 29 Q 11 lv (.int (h 7 7) :: st) h := (q_and rfl rfl).trans (zand_t rfl)
theorem r29_11 : zR d 29 Q 11 lv st h = zR d 29 Q 12 lv (.int 3 :: st) h := q_in rfl rfl
theorem r29_12 : zR d 29 Q 12 lv (.int z :: .int x :: st) h = zR d 29 Q 13 lv (.int (x * z) :: st) h := q_in rfl rfl
theorem r29_13 : zR d 29 Q 13 (o0 :: some (.int x) :: l) st h = zR d 29 Q 14 (o0 :: some (.int x) :: l) (.int x :: st) h := q_in rfl rfl
theorem r29_14 : zR d 29 Q 14 lv (.int z :: .int x :: st) h = zR d 29 Q 15 lv (.int (x + z) :: st) h := q_in rfl rfl
theorem r29_15 : zR d 29 Q 15 (o0 :: o1 :: o2 :: l) (.int x :: st) h = zR d 29 Q 16 (o0 :: o1 :: some (.int x) :: l) st h := q_in rfl rfl
theorem r29_16 : zR d 29 Q 16 (some (.ref c) :: l) st h = zR d 29 Q 17 (some (.ref c) :: l) (.ref c :: st) h := q_in rfl rfl
theorem r29_17 : zR d 29 Q 17 lv (.ref 7 :: st) h = zR d 29 Q 20 lv (.int (h 7 3) :: st) h := (q_and rfl rfl).trans (zand_t rfl)
theorem r29_20 : zR d 29 Q 20 (some (.ref c) :: l) st h = zR d 29 Q 21 (some (.ref c) :: l) (.ref c :: st) h := q_in rfl rfl
theorem r29_21 : zR d 29 Q 21 lv (.ref 7 :: st) h = zR d 29 Q 24 lv (.int (h 7 2) :: st) h := (q_and rfl rfl).trans (zand_t rfl)
theorem r29_24 : zR d 29 Q 24 lv (.int z :: .int x :: st) h = zR d 29 Q 25 lv (.int (x - z) :: st) h := q_in rfl rfl
theorem r29_25 : zR d 29 Q 25 lv st h = zR d 29 Q 26 lv (.int 1 :: st) h := q_in rfl rfl
theorem r29_26 : zR d 29 Q 26 lv (.int z :: .int x :: st) h = if x = z then zR d 29 Q 29 lv st h else zR d 29 Q 61 lv st h := q_if rfl rfl
theorem r29_29 : zR d 29 Q 29 (o0 :: o1 :: some (.int x) :: l) st h = zR d 29 Q 30 (o0 :: o1 :: some (.int x) :: l) (.int x :: st) h := q_in rfl rfl
theorem r29_30 : zR d 29 Q 30 lv st h = zR d 29 Q 31 lv (.int 0 :: st) h := q_in rfl rfl
theorem r29_31 : zR d 29 Q 31 lv st h = zR d 29 Q 34 lv (.ref 83 :: st) h := q_in rfl rfl
theorem r29_34 : zR d 29 Q 34 lv (.ref c :: st) h = zan c h (fun w => zR d 29 Q 35 lv (.int w :: st) h) := q_alen rfl
theorem r29_35 : zR d 29 Q 35 lv st h = zR d 29 Q 36 lv (.int 1 :: st) h := q_in rfl rfl
theorem r29_36 : zR d 29 Q 36 lv (.int z :: .int x :: st) h = zR d 29 Q 37 lv (.int (x - z) :: st) h := q_in rfl rfl
theorem r29_37 : zR d 29 Q 37 lv [.int x2, .int x1, .int x0] h = zM d 103 [.int x0, .int x1, .int x2] h (fun r h' => zR d 29 Q 40 lv (r.toList ++ []) h') := q_clS rfl rfl ⟨Nat.le_of_ble_eq_true rfl, Nat.le_of_ble_eq_true rfl⟩
theorem r29_40 : zR d 29 Q 40 lv (.int x :: st) h = if x = 0 then zR d 29 Q 61 lv st h else zR d 29 Q 43 lv st h := q_if rfl rfl
theorem r29_43 : zR d 29 Q 43 (some (.ref c) :: l) st h = zR d 29 Q 44 (some (.ref c) :: l) (.ref c :: st) h := q_in rfl rfl
theorem r29_44 : zR d 29 Q 44 (some (.ref c) :: l) st h = zR d 29 Q 45 (some (.ref c) :: l) (.ref c :: st) h := q_in rfl rfl
theorem r29_45 : zR d 29 Q 45 lv (.ref 7 :: st) h = zR d 29 Q 48 lv (.int (h 7 2) :: st) h := (q_and rfl rfl).trans (zand_t rfl)
theorem r29_48 : zR d 29 Q 48 lv [.int x0, .ref 7] h = zM d 13 [.ref 7, .int x0] h (fun r h' => zR d 29 Q 51 lv (r.toList ++ []) h') := (q_clV rfl rfl (Nat.le_of_ble_eq_true rfl)).trans (zand_t ⟨rfl, Nat.le_of_ble_eq_true rfl⟩)
theorem r29_51 : zR d 29 Q 51 lv st h = zR d 29 Q 54 lv (.ref 83 :: st) h := q_in rfl rfl
theorem r29_54 : zR d 29 Q 54 (o0 :: o1 :: some (.int x) :: l) st h = zR d 29 Q 55 (o0 :: o1 :: some (.int x) :: l) (.int x :: st) h := q_in rfl rfl
theorem r29_55 : zR d 29 Q 55 lv (.int x :: .ref 83 :: st) h = (zok x 9 ∧ zR d 29 Q 56 lv (.int (zkon 83 (zix x)) :: st) h) := (q_and rfl rfl).trans (zand_l rfl)
theorem r29_56 : zR d 29 Q 56 lv (.int z :: .int x :: st) h = if x = z then zR d 29 Q 59 lv st h else zR d 29 Q 61 lv st h := q_if rfl rfl
theorem r29_59 : zR d 29 Q 59 (o0 :: some (.int x) :: l) st h = zR d 29 Q 60 (o0 :: some (.int x) :: l) (.int x :: st) h := q_in rfl rfl
theorem r29_60 : zR d 29 Q 60 lv [.int x] h = Q (some (.int x)) h := q_retz rfl rfl (Or.inl rfl)
theorem r29_61 : zR d 29 Q 61 (o0 :: some (.int x) :: l) st h = zR d 29 Q 64 (o0 :: some (.int (x + 1)) :: l) st h := q_in rfl rfl
theorem r29_64 : zR d 29 Q 64 lv st h = zR d 29 Q 2 lv st h := q_in rfl rfl
theorem r29_67 : zR d 29 Q 67 lv st h = zR d 29 Q 68 lv (.int (-1) :: st) h := q_in rfl rfl
theorem r29_68 : zR d 29 Q 68 lv [.int x] h = Q (some (.int x)) h := q_retz rfl rfl (Or.inl rfl)
theorem r30_0 : zR d 30 Q 0 (some (.ref c) :: l) st h = zR d 30 Q 1 (some (.ref c) :: l) (.ref c :: st) h := q_in rfl rfl
theorem r30_1 : zR d 30 Q 1 (o0 :: some (.int x) :: l) st h = zR d 30 Q 2 (o0 :: some (.int x) :: l) (.int x :: st) h := q_in rfl rfl
theorem r30_2 : zR d 30 Q 2 lv (.int x :: .ref c :: st) h = (zcls c = 3 ∧ zR d 30 Q 5 lv st (zhr h c (upd (h c) 0 x))) := (q_and rfl rfl).trans zand_0
theorem r30_5 : zR d 30 Q 5 (some (.ref c) :: l) st h = zR d 30 Q 6 (some (.ref c) :: l) (.ref c :: st) h := q_in rfl rfl
theorem r30_6 : zR d 30 Q 6 (o0 :: o1 :: some (.int x) :: l) st h = zR d 30 Q 7 (o0 :: o1 :: some (.int x) :: l) (.int x :: st) h := q_in rfl rfl
theorem r30_7 : zR d 30 Q 7 lv st h = zR d 30 Q 8 lv (.int 0 :: st) h := q_in rfl rfl
theorem r30_8 : zR d 30 Q 8 lv st h = zR d 30 Q 10 lv (.int 24 :: st) h := q_in rfl rfl
theorem r30_10 : zR d 30 Q 10 lv [.int x2, .int x1, .int x0, .ref a0] h = zM d 104 [.int x0, .int x1, .int x2] h (fun r h' => zR d 30 Q 13 lv (r.toList ++ [.ref a0]) h') := q_clS rfl rfl ⟨Nat.le_of_ble_eq_true rfl, Nat.le_of_ble_eq_true rfl⟩
theorem r30_13 : zR d 30 Q 13 lv (.int x :: .ref c :: st) h = (zcls c = 3 ∧ zR d 30 Q 16 lv st (zhr h c (upd (h c) 1 x))) := (q_and rfl rfl).trans zand_0
theorem r30_16 : zR d 30 Q 16 lv st h = zR d 30 Q 17 lv (.int 0 :: st) h := q_in rfl rfl
theorem r30_17 : zR d 30 Q 17 (o0 :: o1 :: o2 :: o3 :: l) (.int x :: st) h = zR d 30 Q 18 (o0 :: o1 :: o2 :: some (.int x) :: l) st h := q_in rfl rfl
theorem r30_18 : zR d 30 Q 18 (o0 :: o1 :: o2 :: some (.int x) :: l) st h = zR d 30 Q 19 (o0 :: o1 :: o2 :: some (.int x) :: l) (.int x :: st) h := q_in rfl rfl
theorem r30_19 : zR d 30 Q 19 lv st h = zR d 30 Q 21 lv (.int 24 :: st) h := q_in rfl rfl
theorem r30_21 : zR d 30 Q 21 lv (.int z :: .int x :: st) h = if x < z then zR d 30 Q 24 lv st h else zR d 30 Q 37 lv st h := q_if rfl rfl
theorem r30_24 : zR d 30 Q 24 (some (.ref c) :: l) st h = zR d 30 Q 25 (some (.ref c) :: l) (.ref c :: st) h := q_in rfl rfl
theorem r30_25 : zR d 30 Q 25 lv (.ref c :: st) h = (zcls c = 3 ∧ zR d 30 Q 28 lv (.ref (c + 1) :: st) h) := q_and rfl rfl
theorem r30_28 : zR d 30 Q 28 (o0 :: o1 :: o2 :: some (.int x) :: l) st h = zR d 30 Q 29 (o0 :: o1 :: o2 :: some (.int x) :: l) (.int x :: st) h := q_in rfl rfl
theorem r30_29 : zR d 30 Q 29 lv st h = zR d 30 Q 30 lv (.int 0 :: st) h := q_in rfl rfl
theorem r30_30 : zR d 30 Q 30 lv (.int z :: .int x :: .ref c :: st) h = zas c x z h (fun h' => zR d 30 Q 31 lv st h') := q_iast rfl
theorem r30_31 : zR d 30 Q 31 (o0 :: o1 :: o2 :: some (.int x) :: l) st h = zR d 30 Q 34 (o0 :: o1 :: o2 :: some (.int (x + 1)) :: l) st h := q_in rfl rfl
theorem r30_34 : zR d 30 Q 34 lv st h = zR d 30 Q 18 lv st h := q_in rfl rfl
theorem r30_37 : zR d 30 Q 37 lv [] h = Q none h := q_ret rfl rfl
theorem r31_0 : zR d 31 Q 0 (some (.ref c) :: l) st h = zR d 31 Q 1 (some (.ref c) :: l) (.ref c :: st) h := q_in rfl rfl
theorem r31_1 : zR d 31 Q 1 (o0 :: some (.ref c) :: l) st h = zR d 31 Q 2 (o0 :: some (.ref c) :: l) (.ref c :: st) h := q_in rfl rfl
theorem r31_2 : zR d 31 Q 2 lv (.ref c :: st) h = (zcls c = 3 ∧ zR d 31 Q 5 lv (.int (h c 0) :: st) h) := q_and rfl rfl
theorem r31_5 : zR d 31 Q 5 lv (.int x :: .ref c :: st) h = (zcls c = 3 ∧ zR d 31 Q 8 lv st (zhr h c (upd (h c) 0 x))) := (q_and rfl rfl).trans zand_0
theorem r31_8 : zR d 31 Q 8 (some (.ref c) :: l) st h = zR d 31 Q 9 (some (.ref c) :: l) (.ref c :: st) h := q_in rfl rfl
theorem r31_9 : zR d 31 Q 9 (o0 :: some (.ref c) :: l) st h = zR d 31 Q 10 (o0 :: some (.ref c) :: l) (.ref c :: st) h := q_in rfl rfl
theorem r31_10 : zR d 31 Q 10 lv (.ref c :: st) h = (zcls c = 3 ∧ zR d 31 Q 13 lv (.int (h c 1) :: st) h) := q_and rfl rfl
theorem r31_13 : zR d 31 Q 13 lv (.int x :: .ref c :: st) h = (zcls c = 3 ∧ zR d 31 Q 16 lv st (zhr h c (upd (h c) 1 x))) := (q_and rfl rfl).trans zand_0
theorem r31_16 : zR d 31 Q 16 (o0 :: some (.ref c) :: l) st h = zR d 31 Q 17 (o0 :: some (.ref c) :: l) (.ref c :: st) h := q_in rfl rfl
theorem r31_17 : zR d 31 Q 17 lv (.ref c :: st) h = (zcls c = 3 ∧ zR d 31 Q 20 lv (.ref (c + 1) :: st) h) := q_and rfl rfl
theorem r31_20 : zR d 31 Q 20 lv st h = zR d 31 Q 21 lv (.int 0 :: st) h := q_in rfl rfl
theorem r31_21 : zR d 31 Q 21 (some (.ref c) :: l) st h = zR d 31 Q 22 (some (.ref c) :: l) (.ref c :: st) h := q_in rfl rfl
theorem r31_22 : zR d 31 Q 22 lv (.ref c :: st) h = (zcls c = 3 ∧ zR d 31 Q 25 lv (.ref (c + 1) :: st) h) := q_and rfl rfl
theorem r31_25 : zR d 31 Q 25 lv st h = zR d 31 Q 26 lv (.int 0 :: st) h := q_in rfl rfl
theorem r31_26 : zR d 31 Q 26 lv st h = zR d 31 Q 28 lv (.int 24 :: st) h := q_in rfl rfl
theorem r31_28 : zR d 31 Q 28 lv [.int x4, .int x3, .ref c2, .int x1, .ref c0] h = zM d 1003 [.ref c0, .int x1, .ref c2, .int x3, .int x4] h (fun r h' => zR d 31 Q 31 lv (r.toList ++ []) h') := q_clS rfl rfl ⟨Nat.le_of_ble_eq_true rfl, Nat.le_of_ble_eq_true rfl⟩
theorem r31_31 : zR d 31 Q 31 lv [] h = Q none h := q_ret rfl rfl
theorem r32_0 : zR d 32 Q 0 (some (.ref c) :: l) st h = zR d 32 Q 1 (some (.ref c) :: l) (.ref c :: st) h := q_in rfl rfl
theorem r32_1 : zR d 32 Q 1 lv (.ref c :: st) h = (zcls c = 3 ∧ zR d 32 Q 4 lv (.int (h c 0) :: st) h) := q_and rfl rfl
theorem r32_4 : zR d 32 Q 4 lv st h = zR d 32 Q 5 lv (.int (-1) :: st) h := q_in rfl rfl
theorem r32_5 : zR d 32 Q 5 lv (.int z :: .int x :: st) h = if x = z then zR d 32 Q 8 lv st h else zR d 32 Q 12 lv st h := q_if rfl rfl
theorem r32_8 : zR d 32 Q 8 lv st h = zR d 32 Q 9 lv (.int 1 :: st) h := q_in rfl rfl
theorem r32_9 : zR d 32 Q 9 lv st h = zR d 32 Q 13 lv st h := q_in rfl rfl
theorem r32_12 : zR d 32 Q 12 lv st h = zR d 32 Q 13 lv (.int 0 :: st) h := q_in rfl rfl
theorem r32_13f : zR d 32 Q 13 lv [.int 0] h = Q (some (.int 0)) h := q_retz rfl rfl (Or.inr (Or.inl rfl))
theorem r32_13t : zR d 32 Q 13 lv [.int 1] h = Q (some (.int 1)) h := q_retz rfl rfl (Or.inr (Or.inr rfl))
theorem r33_0 : zR d 33 Q 0 (o0 :: some (.int x) :: l) st h = zR d 33 Q 1 (o0 :: some (.int x) :: l) (.int x :: st) h := q_in rfl rfl
theorem r33_1 : zR d 33 Q 1 lv st h = zR d 33 Q 2 lv (.int 0 :: st) h := q_in rfl rfl
theorem r33_2 : zR d 33 Q 2 (some (.ref c) :: l) st h = zR d 33 Q 3 (some (.ref c) :: l) (.ref c :: st) h := q_in rfl rfl
theorem r33_3 : zR d 33 Q 3 lv (.ref c :: st) h = (zcls c = 3 ∧ zR d 33 Q 6 lv (.int (h c 1) :: st) h) := q_and rfl rfl
theorem r33_6 : zR d 33 Q 6 lv st h = zR d 33 Q 7 lv (.int 1 :: st) h := q_in rfl rfl
theorem r33_7 : zR d 33 Q 7 lv (.int z :: .int x :: st) h = zR d 33 Q 8 lv (.int (x - z) :: st) h := q_in rfl rfl
theorem r33_8 : zR d 33 Q 8 lv [.int x2, .int x1, .int x0] h = zM d 103 [.int x0, .int x1, .int x2] h (fun r h' => zR d 33 Q 11 lv (r.toList ++ []) h') := q_clS rfl rfl ⟨Nat.le_of_ble_eq_true rfl, Nat.le_of_ble_eq_true rfl⟩
theorem r33_11f : zR d 33 Q 11 lv [.int 0] h = Q (some (.int 0)) h := q_retz rfl rfl (Or.inr (Or.inl rfl))
theorem r33_11t : zR d 33 Q 11 lv [.int 1] h = Q (some (.int 1)) h := q_retz rfl rfl (Or.inr (Or.inr rfl))
theorem r34_0 : zR d 34 Q 0 (o0 :: o1 :: some (.int x) :: l) st h = zR d 34 Q 1 (o0 :: o1 :: some (.int x) :: l) (.int x :: st) h := q_in rfl rfl
theorem r34_1 : zR d 34 Q 1 lv st h = zR d 34 Q 2 lv (.int 0 :: st) h := q_in rfl rfl
theorem r34_2 : zR d 34 Q 2 (some (.ref c) :: l) st h = zR d 34 Q 3 (some (.ref c) :: l) (.ref c :: st) h := q_in rfl rfl
theorem r34_3 : zR d 34 Q 3 lv (.ref c :: st) h = (zcls c = 3 ∧ zR d 34 Q 6 lv (.int (h c 1) :: st) h) := q_and rfl rfl
theorem r34_6 : zR d 34 Q 6 lv [.int x2, .int x1, .int x0] h = zM d 103 [.int x0, .int x1, .int x2] h (fun r h' => zR d 34 Q 9 lv (r.toList ++ []) h') := q_clS rfl rfl ⟨Nat.le_of_ble_eq_true rfl, Nat.le_of_ble_eq_true rfl⟩
theorem r34_9 : zR d 34 Q 9 lv (.int x :: st) h = if x = 0 then zR d 34 Q 30 lv st h else zR d 34 Q 12 lv st h := q_if rfl rfl
theorem r34_12 : zR d 34 Q 12 (o0 :: some (.int x) :: l) st h = zR d 34 Q 13 (o0 :: some (.int x) :: l) (.int x :: st) h := q_in rfl rfl
theorem r34_13 : zR d 34 Q 13 lv st h = zR d 34 Q 14 lv (.int 0 :: st) h := q_in rfl rfl
theorem r34_14 : zR d 34 Q 14 (some (.ref c) :: l) st h = zR d 34 Q 15 (some (.ref c) :: l) (.ref c :: st) h := q_in rfl rfl
theorem r34_15 : zR d 34 Q 15 lv (.ref c :: st) h = (zcls c = 3 ∧ zR d 34 Q 18 lv (.int (h c 1) :: st) h) := q_and rfl rfl
theorem r34_18 : zR d 34 Q 18 (o0 :: o1 :: some (.int x) :: l) st h = zR d 34 Q 19 (o0 :: o1 :: some (.int x) :: l) (.int x :: st) h := q_in rfl rfl
theorem r34_19 : zR d 34 Q 19 lv (.int z :: .int x :: st) h = zR d 34 Q 20 lv (.int (x - z) :: st) h := q_in rfl rfl
theorem r34_20 : zR d 34 Q 20 lv [.int x2, .int x1, .int x0] h = zM d 103 [.int x0, .int x1, .int x2] h (fun r h' => zR d 34 Q 23 lv (r.toList ++ []) h') := q_clS rfl rfl ⟨Nat.le_of_ble_eq_true rfl, Nat.le_of_ble_eq_true rfl⟩
theorem r34_23 : zR d 34 Q 23 lv (.int x :: st) h = if x = 0 then zR d 34 Q 30 lv st h else zR d 34 Q 26 lv st h := q_if rfl rfl
theorem r34_26 : zR d 34 Q 26 lv st h = zR d 34 Q 27 lv (.int 1 :: st) h := q_in rfl rfl
theorem r34_27 : zR d 34 Q 27 lv st h = zR d 34 Q 31 lv st h := q_in rfl rfl
theorem r34_30 : zR d 34 Q 30 lv st h = zR d 34 Q 31 lv (.int 0 :: st) h := q_in rfl rfl
theorem r34_31f : zR d 34 Q 31 lv [.int 0] h = Q (some (.int 0)) h := q_retz rfl rfl (Or.inr (Or.inl rfl))
theorem r34_31t : zR d 34 Q 31 lv [.int 1] h = Q (some (.int 1)) h := q_retz rfl rfl (Or.inr (Or.inr rfl))
theorem r35_0 : zR d 35 Q 0 (some (.ref c) :: l) st h = zR d 35 Q 1 (some (.ref c) :: l) (.ref c :: st) h := q_in rfl rfl
theorem r35_1 : zR d 35 Q 1 (o0 :: some (.int x) :: l) st h = zR d 35 Q 2 (o0 :: some (.int x) :: l) (.int x :: st) h := q_in rfl rfl
theorem r35_2 : zR d 35 Q 2 lv [.int x0, .ref c] h = (zcls c = 3 ∧ zM d 33 [.ref c, .int x0] h (fun r h' => zR d 35 Q 5 lv (r.toList ++ []) h')) := (q_clV rfl rfl (Nat.le_of_ble_eq_true rfl)).trans (zand_r (Nat.le_of_ble_eq_true rfl))
theorem r35_5 : zR d 35 Q 5 lv (.int x :: st) h = if x = 0 then zR d 35 Q 23 lv st h else zR d 35 Q 8 lv st h := q_if rfl rfl
theorem r35_8 : zR d 35 Q 8 (some (.ref c) :: l) st h = zR d 35 Q 9 (some (.ref c) :: l) (.ref c :: st) h := q_in rfl rfl
theorem r35_9 : zR d 35 Q 9 lv (.ref c :: st) h = (zcls c = 3 ∧ zR d 35 Q 12 lv (.ref (c + 1) :: st) h) := q_and rfl rfl
theorem r35_12 : zR d 35 Q 12 (o0 :: some (.int x) :: l) st h = zR d 35 Q 13 (o0 :: some (.int x) :: l) (.int x :: st) h := q_in rfl rfl
theorem r35_13 : zR d 35 Q 13 lv (.int x :: .ref c :: st) h = zal c x h (fun w => zR d 35 Q 14 lv (.int w :: st) h) := q_iald rfl
theorem r35_14 : zR d 35 Q 14 lv st h = zR d 35 Q 16 lv (.int (-2147483648) :: st) h := q_in rfl rfl
theorem r35_16 : zR d 35 Q 16 lv (.int z :: .int x :: st) h = if x = z then zR d 35 Q 23 lv st h else zR d 35 Q 19 lv st h := q_if rfl rfl
theorem r35_19 : zR d 35 Q 19 lv st h = zR d 35 Q 20 lv (.int 1 :: st) h := q_in rfl rfl
theorem r35_20 : zR d 35 Q 20 lv st h = zR d 35 Q 24 lv st h := q_in rfl rfl
theorem r35_23 : zR d 35 Q 23 lv st h = zR d 35 Q 24 lv (.int 0 :: st) h := q_in rfl rfl
theorem r35_24f : zR d 35 Q 24 lv [.int 0] h = Q (some (.int 0)) h := q_retz rfl rfl (Or.inr (Or.inl rfl))
theorem r35_24t : zR d 35 Q 24 lv [.int 1] h = Q (some (.int 1)) h := q_retz rfl rfl (Or.inr (Or.inr rfl))
theorem r36_0 : zR d 36 Q 0 (some (.ref c) :: l) st h = zR d 36 Q 1 (some (.ref c) :: l) (.ref c :: st) h := q_in rfl rfl
theorem r36_1 : zR d 36 Q 1 (o0 :: some (.ref c) :: l) st h = zR d 36 Q 2 (o0 :: some (.ref c) :: l) (.ref c :: st) h := q_in rfl rfl
theorem r36_2 : zR d 36 Q 2 lv (.ref c :: st) h = (zcls c = 5 ∧ zR d 36 Q 5 lv (.int (h c 1) :: st) h) := q_and rfl rfl
theorem r36_5 : zR d 36 Q 5 lv (.int x :: .ref c :: st) h = (zcls c = 5 ∧ zR d 36 Q 8 lv st (zhr h c (upd (h c) 1 x))) := (q_and rfl rfl).trans zand_0
theorem r36_8 : zR d 36 Q 8 (o0 :: some (.ref c) :: l) st h = zR d 36 Q 9 (o0 :: some (.ref c) :: l) (.ref c :: st) h := q_in rfl rfl
theorem r36_9 : zR d 36 Q 9 lv (.ref c :: st) h = (zcls c = 5 ∧ zR d 36 Q 12 lv (.ref (c + 1) :: st) h) := q_and rfl rfl
theorem r36_12 : zR d 36 Q 12 lv st h = zR d 36 Q 13 lv (.int 0 :: st) h := q_in rfl rfl
theorem r36_13 : zR d 36 Q 13 (some (.ref c) :: l) st h = zR d 36 Q 14 (some (.ref c) :: l) (.ref c :: st) h := q_in rfl rfl
theorem r36_14 : zR d 36 Q 14 lv (.ref c :: st) h = (zcls c = 5 ∧ zR d 36 Q 17 lv (.ref (c + 1) :: st) h) := q_and rfl rfl
theorem r36_17 : zR d 36 Q 17 lv st h = zR d 36 Q 18 lv (.int 0 :: st) h := q_in rfl rfl
theorem r36_18 : zR d 36 Q 18 lv st h = zR d 36 Q 20 lv (.int 10 :: st) h := q_in rfl rfl
theorem r36_20 : zR d 36 Q 20 lv [.int x4, .int x3, .ref c2, .int x1, .ref c0] h = zM d 1003 [.ref c0, .int x1, .ref c2, .int x3, .int x4] h (fun r h' => zR d 36 Q 23 lv (r.toList ++ []) h') := q_clS rfl rfl ⟨Nat.le_of_ble_eq_true rfl, Nat.le_of_ble_eq_true rfl⟩
theorem r36_23 : zR d 36 Q 23 (o0 :: some (.ref c) :: l) st h = zR d 36 Q 24 (o0 :: some (.ref c) :: l) (.ref c :: st) h := q_in rfl rfl
theorem r36_24 : zR d 36 Q 24 lv (.ref c :: st) h = (zcls c = 5 ∧ zR d 36 Q 27 lv (.ref (c + 2) :: st) h) := q_and rfl rfl
theorem r36_27 : zR d 36 Q 27 lv st h = zR d 36 Q 28 lv (.int 0 :: st) h := q_in rfl rfl
theorem r36_28 : zR d 36 Q 28 (some (.ref c) :: l) st h = zR d 36 Q 29 (some (.ref c) :: l) (.ref c :: st) h := q_in rfl rfl
theorem r36_29 : zR d 36 Q 29 lv (.ref c :: st) h = (zcls c = 5 ∧ zR d 36 Q 32 lv (.ref (c + 2) :: st) h) := q_and rfl rfl
theorem r36_32 : zR d 36 Q 32 lv st h = zR d 36 Q 33 lv (.int 0 :: st) h := q_in rfl rfl
theorem r36_33 : zR d 36 Q 33 lv st h = zR d 36 Q 35 lv (.int 10 :: st) h := q_in rfl rfl
theorem r36_35 : zR d 36 Q 35 lv [.int x4, .int x3, .ref c2, .int x1, .ref c0] h = zM d 1003 [.ref c0, .int x1, .ref c2, .int x3, .int x4] h (fun r h' => zR d 36 Q 38 lv (r.toList ++ []) h') := q_clS rfl rfl ⟨Nat.le_of_ble_eq_true rfl, Nat.le_of_ble_eq_true rfl⟩
theorem r36_38 : zR d 36 Q 38 (o0 :: some (.ref c) :: l) st h = zR d 36 Q 39 (o0 :: some (.ref c) :: l) (.ref c :: st) h := q_in rfl rfl
theorem r36_39 : zR d 36 Q 39 lv (.ref c :: st) h = (zcls c = 5 ∧ zR d 36 Q 42 lv (.ref (c + 3) :: st) h) := q_and rfl rfl
theorem r36_42 : zR d 36 Q 42 lv st h = zR d 36 Q 43 lv (.int 0 :: st) h := q_in rfl rfl
theorem r36_43 : zR d 36 Q 43 (some (.ref c) :: l) st h = zR d 36 Q 44 (some (.ref c) :: l) (.ref c :: st) h := q_in rfl rfl
theorem r36_44 : zR d 36 Q 44 lv (.ref c :: st) h = (zcls c = 5 ∧ zR d 36 Q 47 lv (.ref (c + 3) :: st) h) := q_and rfl rfl
theorem r36_47 : zR d 36 Q 47 lv st h = zR d 36 Q 48 lv (.int 0 :: st) h := q_in rfl rfl
theorem r36_48 : zR d 36 Q 48 lv st h = zR d 36 Q 50 lv (.int 10 :: st) h := q_in rfl rfl
theorem r36_50 : zR d 36 Q 50 lv [.int x4, .int x3, .ref c2, .int x1, .ref c0] h = zM d 1003 [.ref c0, .int x1, .ref c2, .int x3, .int x4] h (fun r h' => zR d 36 Q 53 lv (r.toList ++ []) h') := q_clS rfl rfl ⟨Nat.le_of_ble_eq_true rfl, Nat.le_of_ble_eq_true rfl⟩
theorem r36_53 : zR d 36 Q 53 (o0 :: some (.ref c) :: l) st h = zR d 36 Q 54 (o0 :: some (.ref c) :: l) (.ref c :: st) h := q_in rfl rfl
theorem r36_54 : zR d 36 Q 54 lv (.ref c :: st) h = (zcls c = 5 ∧ zR d 36 Q 57 lv (.ref (c + 4) :: st) h) := q_and rfl rfl
theorem r36_57 : zR d 36 Q 57 lv st h = zR d 36 Q 58 lv (.int 0 :: st) h := q_in rfl rfl
theorem r36_58 : zR d 36 Q 58 (some (.ref c) :: l) st h = zR d 36 Q 59 (some (.ref c) :: l) (.ref c :: st) h := q_in rfl rfl
theorem r36_59 : zR d 36 Q 59 lv (.ref c :: st) h = (zcls c = 5 ∧ zR d 36 Q 62 lv (.ref (c + 4) :: st) h) := q_and rfl rfl
theorem r36_62 : zR d 36 Q 62 lv st h = zR d 36 Q 63 lv (.int 0 :: st) h := q_in rfl rfl
theorem r36_63 : zR d 36 Q 63 lv st h = zR d 36 Q 65 lv (.int 10 :: st) h := q_in rfl rfl
theorem r36_65 : zR d 36 Q 65 lv [.int x4, .int x3, .ref c2, .int x1, .ref c0] h = zM d 1003 [.ref c0, .int x1, .ref c2, .int x3, .int x4] h (fun r h' => zR d 36 Q 68 lv (r.toList ++ []) h') := q_clS rfl rfl ⟨Nat.le_of_ble_eq_true rfl, Nat.le_of_ble_eq_true rfl⟩
theorem r36_68 : zR d 36 Q 68 (o0 :: some (.ref c) :: l) st h = zR d 36 Q 69 (o0 :: some (.ref c) :: l) (.ref c :: st) h := q_in rfl rfl
theorem r36_69 : zR d 36 Q 69 lv (.ref c :: st) h = (zcls c = 5 ∧ zR d 36 Q 72 lv (.ref (c + 5) :: st) h) := q_and rfl rfl
theorem r36_72 : zR d 36 Q 72 lv st h = zR d 36 Q 73 lv (.int 0 :: st) h := q_in rfl rfl
theorem r36_73 : zR d 36 Q 73 (some (.ref c) :: l) st h = zR d 36 Q 74 (some (.ref c) :: l) (.ref c :: st) h := q_in rfl rfl
theorem r36_74 : zR d 36 Q 74 lv (.ref c :: st) h = (zcls c = 5 ∧ zR d 36 Q 77 lv (.ref (c + 5) :: st) h) := q_and rfl rfl
theorem r36_77 : zR d 36 Q 77 lv st h = zR d 36 Q 78 lv (.int 0 :: st) h := q_in rfl rfl
theorem r36_78 : zR d 36 Q 78 lv st h = zR d 36 Q 80 lv (.int 10 :: st) h := q_in rfl rfl
theorem r36_80 : zR d 36 Q 80 lv [.int x4, .int x3, .ref c2, .int x1, .ref c0] h = zM d 1003 [.ref c0, .int x1, .ref c2, .int x3, .int x4] h (fun r h' => zR d 36 Q 83 lv (r.toList ++ []) h') := q_clS rfl rfl ⟨Nat.le_of_ble_eq_true rfl, Nat.le_of_ble_eq_true rfl⟩
theorem r36_83 : zR d 36 Q 83 (o0 :: some (.ref c) :: l) st h = zR d 36 Q 84 (o0 :: some (.ref c) :: l) (.ref c :: st) h := q_in rfl rfl
theorem r36_84 : zR d 36 Q 84 lv (.ref c :: st) h = (zcls c = 5 ∧ zR d 36 Q 87 lv (.ref (c + 6) :: st) h) := q_and rfl rfl
theorem r36_87 : zR d 36 Q 87 lv st h = zR d 36 Q 88 lv (.int 0 :: st) h := q_in rfl rfl
theorem r36_88 : zR d 36 Q 88 (some (.ref c) :: l) st h = zR d 36 Q 89 (some (.ref c) :: l) (.ref c :: st) h := q_in rfl rfl
theorem r36_89 : zR d 36 Q 89 lv (.ref c :: st) h = (zcls c = 5 ∧ zR d 36 Q 92 lv (.ref (c + 6) :: st) h) := q_and rfl rfl
theorem r36_92 : zR d 36 Q 92 lv st h = zR d 36 Q 93 lv (.int 0 :: st) h := q_in rfl rfl
theorem r36_93 : zR d 36 Q 93 lv st h = zR d 36 Q 95 lv (.int 6 :: st) h := q_in rfl rfl
theorem r36_95 : zR d 36 Q 95 lv [.int x4, .int x3, .ref c2, .int x1, .ref c0] h = zM d 1003 [.ref c0, .int x1, .ref c2, .int x3, .int x4] h (fun r h' => zR d 36 Q 98 lv (r.toList ++ []) h') := q_clS rfl rfl ⟨Nat.le_of_ble_eq_true rfl, Nat.le_of_ble_eq_true rfl⟩
theorem r36_98 : zR d 36 Q 98 (o0 :: some (.ref c) :: l) st h = zR d 36 Q 99 (o0 :: some (.ref c) :: l) (.ref c :: st) h := q_in rfl rfl
theorem r36_99 : zR d 36 Q 99 lv (.ref c :: st) h = (zcls c = 5 ∧ zR d 36 Q 102 lv (.ref (c + 7) :: st) h) := q_and rfl rfl
theorem r36_102 : zR d 36 Q 102 lv st h = zR d 36 Q 103 lv (.int 0 :: st) h := q_in rfl rfl
theorem r36_103 : zR d 36 Q 103 (some (.ref c) :: l) st h = zR d 36 Q 104 (some (.ref c) :: l) (.ref c :: st) h := q_in rfl rfl
theorem r36_104 : zR d 36 Q 104 lv (.ref c :: st) h = (zcls c = 5 ∧ zR d 36 Q 107 lv (.ref (c + 7) :: st) h) := q_and rfl rfl
theorem r36_107 : zR d 36 Q 107 lv st h = zR d 36 Q 108 lv (.int 0 :: st) h := q_in rfl rfl
theorem r36_108 : zR d 36 Q 108 lv st h = zR d 36 Q 109 lv (.int 3 :: st) h := q_in rfl rfl
theorem r36_109 : zR d 36 Q 109 lv [.int x4, .int x3, .ref c2, .int x1, .ref c0] h = zM d 1003 [.ref c0, .int x1, .ref c2, .int x3, .int x4] h (fun r h' => zR d 36 Q 112 lv (r.toList ++ []) h') := q_clS rfl rfl ⟨Nat.le_of_ble_eq_true rfl, Nat.le_of_ble_eq_true rfl⟩
theorem r36_112 : zR d 36 Q 112 (some (.ref c) :: l) st h = zR d 36 Q 113 (some (.ref c) :: l) (.ref c :: st) h := q_in rfl rfl
theorem r36_113 : zR d 36 Q 113 (o0 :: some (.ref c) :: l) st h = zR d 36 Q 114 (o0 :: some (.ref c) :: l) (.ref c :: st) h := q_in rfl rfl
theorem r36_114 : zR d 36 Q 114 lv (.ref c :: st) h = (zcls c = 5 ∧ zR d 36 Q 117 lv (.int (h c 8) :: st) h) := q_and rfl rfl
theorem r36_117 : zR d 36 Q 117 lv (.int x :: .ref c :: st) h = (zcls c = 5 ∧ zR d 36 Q 120 lv st (zhr h c (upd (h c) 8 x))) := (q_and rfl rfl).trans zand_0
theorem r36_120 : zR d 36 Q 120 (some (.ref c) :: l) st h = zR d 36 Q 121 (some (.ref c) :: l) (.ref c :: st) h := q_in rfl rfl
theorem r36_121 : zR d 36 Q 121 (o0 :: some (.ref c) :: l) st h = zR d 36 Q 122 (o0 :: some (.ref c) :: l) (.ref c :: st) h := q_in rfl rfl
theorem r36_122 : zR d 36 Q 122 lv (.ref c :: st) h = (zcls c = 5 ∧ zR d 36 Q 125 lv (.int (h c 9) :: st) h) := q_and rfl rfl
theorem r36_125 : zR d 36 Q 125 lv (.int x :: .ref c :: st) h = (zcls c = 5 ∧ zR d 36 Q 128 lv st (zhr h c (upd (h c) 9 x))) := (q_and rfl rfl).trans zand_0
theorem r36_128 : zR d 36 Q 128 (some (.ref c) :: l) st h = zR d 36 Q 129 (some (.ref c) :: l) (.ref c :: st) h := q_in rfl rfl
theorem r36_129 : zR d 36 Q 129 (o0 :: some (.ref c) :: l) st h = zR d 36 Q 130 (o0 :: some (.ref c) :: l) (.ref c :: st) h := q_in rfl rfl
theorem r36_130 : zR d 36 Q 130 lv (.ref c :: st) h = (zcls c = 5 ∧ zR d 36 Q 133 lv (.int (h c 10) :: st) h) := q_and rfl rfl
theorem r36_133 : zR d 36 Q 133 lv (.int x :: .ref c :: st) h = (zcls c = 5 ∧ zR d 36 Q 136 lv st (zhr h c (upd (h c) 10 x))) := (q_and rfl rfl).trans zand_0
theorem r36_136 : zR d 36 Q 136 (some (.ref c) :: l) st h = zR d 36 Q 137 (some (.ref c) :: l) (.ref c :: st) h := q_in rfl rfl
theorem r36_137 : zR d 36 Q 137 (o0 :: some (.ref c) :: l) st h = zR d 36 Q 138 (o0 :: some (.ref c) :: l) (.ref c :: st) h := q_in rfl rfl
theorem r36_138 : zR d 36 Q 138 lv (.ref c :: st) h = (zcls c = 5 ∧ zR d 36 Q 141 lv (.int (h c 11) :: st) h) := q_and rfl rfl
theorem r36_141 : zR d 36 Q 141 lv (.int x :: .ref c :: st) h = (zcls c = 5 ∧ zR d 36 Q 144 lv st (zhr h c (upd (h c) 11 x))) := (q_and rfl rfl).trans zand_0
theorem r36_144 : zR d 36 Q 144 (some (.ref c) :: l) st h = zR d 36 Q 145 (some (.ref c) :: l) (.ref c :: st) h := q_in rfl rfl
theorem r36_145 : zR d 36 Q 145 (o0 :: some (.ref c) :: l) st h = zR d 36 Q 146 (o0 :: some (.ref c) :: l) (.ref c :: st) h := q_in rfl rfl
theorem r36_146 : zR d 36 Q 146 lv (.ref c :: st) h = (zcls c = 5 ∧ zR d 36 Q 149 lv (.int (h c 12) :: st) h) := q_and rfl rfl
theorem r36_149 : zR d 36 Q 149 lv (.int x :: .ref c :: st) h = (zcls c = 5 ∧ zR d 36 Q 152 lv st (zhr h c (upd (h c) 12 x))) := (q_and rfl rfl).trans zand_0
theorem r36_152 : zR d 36 Q 152 (some (.ref c) :: l) st h = zR d 36 Q 153 (some (.ref c) :: l) (.ref c :: st) h := q_in rfl rfl
theorem r36_153 : zR d 36 Q 153 (o0 :: some (.ref c) :: l) st h = zR d 36 Q 154 (o0 :: some (.ref c) :: l) (.ref c :: st) h := q_in rfl rfl
theorem r36_154 : zR d 36 Q 154 lv (.ref c :: st) h = (zcls c = 5 ∧ zR d 36 Q 157 lv (.int (h c 14) :: st) h) := q_and rfl rfl
theorem r36_157 : zR d 36 Q 157 lv (.int x :: .ref c :: st) h = (zcls c = 5 ∧ zR d 36 Q 160 lv st (zhr h c (upd (h c) 14 x))) := (q_and rfl rfl).trans zand_0
theorem r36_160 : zR d 36 Q 160 lv [] h = Q none h := q_ret rfl rfl
theorem r37_0 : zR d 37 Q 0 (o0 :: some (.int x) :: l) st h = zR d 37 Q 1 (o0 :: some (.int x) :: l) (.int x :: st) h := q_in rfl rfl
theorem r37_1 : zR d 37 Q 1 lv st h = zR d 37 Q 2 lv (.int 0 :: st) h := q_in rfl rfl
theorem r37_2 : zR d 37 Q 2 (some (.ref c) :: l) st h = zR d 37 Q 3 (some (.ref c) :: l) (.ref c :: st) h := q_in rfl rfl
theorem r37_3 : zR d 37 Q 3 lv (.ref c :: st) h = (zcls c = 5 ∧ zR d 37 Q 6 lv (.int (h c 1) :: st) h) := q_and rfl rfl
theorem r37_6 : zR d 37 Q 6 lv st h = zR d 37 Q 7 lv (.int 1 :: st) h := q_in rfl rfl
theorem r37_7 : zR d 37 Q 7 lv (.int z :: .int x :: st) h = zR d 37 Q 8 lv (.int (x - z) :: st) h := q_in rfl rfl
theorem r37_8 : zR d 37 Q 8 lv [.int x2, .int x1, .int x0] h = zM d 103 [.int x0, .int x1, .int x2] h (fun r h' => zR d 37 Q 11 lv (r.toList ++ []) h') := q_clS rfl rfl ⟨Nat.le_of_ble_eq_true rfl, Nat.le_of_ble_eq_true rfl⟩
theorem r37_11f : zR d 37 Q 11 lv [.int 0] h = Q (some (.int 0)) h := q_retz rfl rfl (Or.inr (Or.inl rfl))
theorem r37_11t : zR d 37 Q 11 lv [.int 1] h = Q (some (.int 1)) h := q_retz rfl rfl (Or.inr (Or.inr rfl))
theorem r38_0 : zR d 38 Q 0 (some (.ref c) :: l) st h = zR d 38 Q 1 (some (.ref c) :: l) (.ref c :: st) h := q_in rfl rfl
theorem r38_1 : zR d 38 Q 1 lv (.ref c :: st) h = (zcls c = 5 ∧ zR d 38 Q 4 lv (.int (h c 1) :: st) h) := q_and rfl rfl
theorem r38_4 : zR d 38 Q 4 (o0 :: o1 :: o2 :: o3 :: o4 :: l) (.int x :: st) h = zR d 38 Q 6 (o0 :: o1 :: o2 :: o3 :: some (.int x) :: l) st h := q_in rfl rfl
theorem r38_6 : zR d 38 Q 6 (o0 :: o1 :: o2 :: o3 :: some (.int x) :: l) st h = zR d 38 Q 8 (o0 :: o1 :: o2 :: o3 :: some (.int x) :: l) (.int x :: st) h := q_in rfl rfl
theorem r38_8 : zR d 38 Q 8 lv st h = zR d 38 Q 9 lv (.int 0 :: st) h := q_in rfl rfl
theorem r38_9 : zR d 38 Q 9 lv st h = zR d 38 Q 11 lv (.int 9 :: st) h := q_in rfl rfl
theorem r38_11 : zR d 38 Q 11 lv [.int x2, .int x1, .int x0] h = zM d 103 [.int x0, .int x1, .int x2] h (fun r h' => zR d 38 Q 14 lv (r.toList ++ []) h') := q_clS rfl rfl ⟨Nat.le_of_ble_eq_true rfl, Nat.le_of_ble_eq_true rfl⟩
theorem r38_14 : zR d 38 Q 14 lv (.int x :: st) h = if x = 0 then zR d 38 Q 17 lv st h else zR d 38 Q 20 lv st h := q_if rfl rfl
theorem r38_17 : zR d 38 Q 17 lv st h = zR d 38 Q 19 lv (.int (-1000000003) :: st) h := q_in rfl rfl
theorem r38_19 : zR d 38 Q 19 lv [.int x] h = Q (some (.int x)) h := q_retz rfl rfl (Or.inl rfl)
theorem r38_20 : zR d 38 Q 20 (some (.ref c) :: l) st h = zR d 38 Q 21 (some (.ref c) :: l) (.ref c :: st) h := q_in rfl rfl
theorem r38_21 : zR d 38 Q 21 lv (.ref c :: st) h = (zcls c = 5 ∧ zR d 38 Q 24 lv (.ref (c + 1) :: st) h) := q_and rfl rfl
theorem r38_24 : zR d 38 Q 24 (o0 :: o1 :: o2 :: o3 :: some (.int x) :: l) st h = zR d 38 Q 26 (o0 :: o1 :: o2 :: o3 :: some (.int x) :: l) (.int x :: st) h := q_in rfl rfl
theorem r38_26 : zR d 38 Q 26 (o0 :: some (.int x) :: l) st h = zR d 38 Q 27 (o0 :: some (.int x) :: l) (.int x :: st) h := q_in rfl rfl
theorem r38_27 : zR d 38 Q 27 lv (.int z :: .int x :: .ref c :: st) h = zas c x z h (fun h' => zR d 38 Q 28 lv st h') := q_iast rfl
theorem r38_28 : zR d 38 Q 28 (some (.ref c) :: l) st h = zR d 38 Q 29 (some (.ref c) :: l) (.ref c :: st) h := q_in rfl rfl
theorem r38_29 : zR d 38 Q 29 lv (.ref c :: st) h = (zcls c = 5 ∧ zR d 38 Q 32 lv (.ref (c + 2) :: st) h) := q_and rfl rfl
theorem r38_32 : zR d 38 Q 32 (o0 :: o1 :: o2 :: o3 :: some (.int x) :: l) st h = zR d 38 Q 34 (o0 :: o1 :: o2 :: o3 :: some (.int x) :: l) (.int x :: st) h := q_in rfl rfl
theorem r38_34 : zR d 38 Q 34 (o0 :: o1 :: some (.int x) :: l) st h = zR d 38 Q 35 (o0 :: o1 :: some (.int x) :: l) (.int x :: st) h := q_in rfl rfl
theorem r38_35 : zR d 38 Q 35 lv (.int z :: .int x :: .ref c :: st) h = zas c x z h (fun h' => zR d 38 Q 36 lv st h') := q_iast rfl
theorem r38_36 : zR d 38 Q 36 (some (.ref c) :: l) st h = zR d 38 Q 37 (some (.ref c) :: l) (.ref c :: st) h := q_in rfl rfl
theorem r38_37 : zR d 38 Q 37 lv (.ref c :: st) h = (zcls c = 5 ∧ zR d 38 Q 40 lv (.ref (c + 3) :: st) h) := q_and rfl rfl
theorem r38_40 : zR d 38 Q 40 (o0 :: o1 :: o2 :: o3 :: some (.int x) :: l) st h = zR d 38 Q 42 (o0 :: o1 :: o2 :: o3 :: some (.int x) :: l) (.int x :: st) h := q_in rfl rfl
theorem r38_42 : zR d 38 Q 42 (o0 :: o1 :: o2 :: some (.int x) :: l) st h = zR d 38 Q 43 (o0 :: o1 :: o2 :: some (.int x) :: l) (.int x :: st) h := q_in rfl rfl
theorem r38_43 : zR d 38 Q 43 lv (.int z :: .int x :: .ref c :: st) h = zas c x z h (fun h' => zR d 38 Q 44 lv st h') := q_iast rfl
theorem r38_44 : zR d 38 Q 44 (some (.ref c) :: l) st h = zR d 38 Q 45 (some (.ref c) :: l) (.ref c :: st) h := q_in rfl rfl
theorem r38_45 : zR d 38 Q 45 lv (.ref c :: st) h = (zcls c = 5 ∧ zR d 38 Q 48 lv (.ref (c + 4) :: st) h) := q_and rfl rfl
theorem r38_48 : zR d 38 Q 48 (o0 :: o1 :: o2 :: o3 :: some (.int x) :: l) st h = zR d 38 Q 50 (o0 :: o1 :: o2 :: o3 :: some (.int x) :: l) (.int x :: st) h := q_in rfl rfl
theorem r38_50 : zR d 38 Q 50 lv st h = zR d 38 Q 51 lv (.int 0 :: st) h := q_in rfl rfl
theorem r38_51 : zR d 38 Q 51 lv (.int z :: .int x :: .ref c :: st) h = zas c x z h (fun h' => zR d 38 Q 52 lv st h') := q_iast rfl
theorem r38_52 : zR d 38 Q 52 (some (.ref c) :: l) st h = zR d 38 Q 53 (some (.ref c) :: l) (.ref c :: st) h := q_in rfl rfl
theorem r38_53 : zR d 38 Q 53 lv (.ref c :: st) h = (zcls c = 5 ∧ zR d 38 Q 56 lv (.ref (c + 5) :: st) h) := q_and rfl rfl
theorem r38_56 : zR d 38 Q 56 (o0 :: o1 :: o2 :: o3 :: some (.int x) :: l) st h = zR d 38 Q 58 (o0 :: o1 :: o2 :: o3 :: some (.int x) :: l) (.int x :: st) h := q_in rfl rfl
theorem r38_58 : zR d 38 Q 58 lv st h = zR d 38 Q 59 lv (.int 0 :: st) h := q_in rfl rfl
theorem r38_59 : zR d 38 Q 59 lv (.int z :: .int x :: .ref c :: st) h = zas c x z h (fun h' => zR d 38 Q 60 lv st h') := q_iast rfl
theorem r38_60 : zR d 38 Q 60 (some (.ref c) :: l) st h = zR d 38 Q 61 (some (.ref c) :: l) (.ref c :: st) h := q_in rfl rfl
theorem r38_61 : zR d 38 Q 61 (o0 :: o1 :: o2 :: o3 :: some (.int x) :: l) st h = zR d 38 Q 63 (o0 :: o1 :: o2 :: o3 :: some (.int x) :: l) (.int x :: st) h := q_in rfl rfl
theorem r38_63 : zR d 38 Q 63 lv st h = zR d 38 Q 64 lv (.int 1 :: st) h := q_in rfl rfl
theorem r38_64 : zR d 38 Q 64 lv (.int z :: .int x :: st) h = zR d 38 Q 65 lv (.int (x + z) :: st) h := q_in rfl rfl
theorem r38_65 : zR d 38 Q 65 lv (.int x :: .ref c :: st) h = (zcls c = 5 ∧ zR d 38 Q 68 lv st (zhr h c (upd (h c) 1 x))) := (q_and rfl rfl).trans zand_0
theorem r38_68 : zR d 38 Q 68 (o0 :: o1 :: o2 :: o3 :: some (.int x) :: l) st h = zR d 38 Q 70 (o0 :: o1 :: o2 :: o3 :: some (.int x) :: l) (.int x :: st) h := q_in rfl rfl
theorem r38_70 : zR d 38 Q 70 lv [.int x] h = Q (some (.int x)) h := q_retz rfl rfl (Or.inl rfl)
theorem r39_0 : zR d 39 Q 0 (some (.ref c) :: l) st h = zR d 39 Q 1 (some (.ref c) :: l) (.ref c :: st) h := q_in rfl rfl
theorem r39_1 : zR d 39 Q 1 (some (.ref c) :: l) st h = zR d 39 Q 2 (some (.ref c) :: l) (.ref c :: st) h := q_in rfl rfl
theorem r39_2 : zR d 39 Q 2 lv (.ref c :: st) h = (zcls c = 5 ∧ zR d 39 Q 5 lv (.int (h c 11) :: st) h) := q_and rfl rfl
theorem r39_5 : zR d 39 Q 5 lv st h = zR d 39 Q 7 lv (.int 1103515245 :: st) h := q_in rfl rfl
theorem r39_7 : zR d 39 Q 7 lv (.int z :: .int x :: st) h = zR d 39 Q 8 lv (.int (x * z) :: st) h := q_in rfl rfl
theorem r39_8 : zR d 39 Q 8 lv st h = zR d 39 Q 11 lv (.int 12345 :: st) h := q_in rfl rfl
theorem r39_11 : zR d 39 Q 11 lv (.int z :: .int x :: st) h = zR d 39 Q 12 lv (.int (x + z) :: st) h := q_in rfl rfl
theorem r39_12 : zR d 39 Q 12 lv (.int x :: .ref c :: st) h = (zcls c = 5 ∧ zR d 39 Q 15 lv st (zhr h c (upd (h c) 11 x))) := (q_and rfl rfl).trans zand_0
theorem r39_15 : zR d 39 Q 15 (some (.ref c) :: l) st h = zR d 39 Q 16 (some (.ref c) :: l) (.ref c :: st) h := q_in rfl rfl
theorem r39_16 : zR d 39 Q 16 lv (.ref c :: st) h = (zcls c = 5 ∧ zR d 39 Q 19 lv (.int (h c 11) :: st) h) := q_and rfl rfl
theorem r39_19 : zR d 39 Q 19 lv st h = zR d 39 Q 21 lv (.int 8 :: st) h := q_in rfl rfl
theorem r39_21 : zR d 39 Q 21 lv (.int z :: .int x :: st) h = zR d 39 Q 22 lv (.int ((x.toUInt32 >>> (z.toUInt32 &&& Int32.toUInt32 31)).toInt32) :: st) h := q_in rfl rfl
theorem r39_22 : zR d 39 Q 22 lv [.int x] h = Q (some (.int x)) h := q_retz rfl rfl (Or.inl rfl)
theorem r40_0 : zR d 40 Q 0 lv st h = zR d 40 Q 1 lv (.int 0 :: st) h := q_in rfl rfl
theorem r40_1 : zR d 40 Q 1 (o0 :: o1 :: o2 :: l) (.int x :: st) h = zR d 40 Q 2 (o0 :: o1 :: some (.int x) :: l) st h := q_in rfl rfl
theorem r40_2 : zR d 40 Q 2 lv st h = zR d 40 Q 3 lv (.int 0 :: st) h := q_in rfl rfl
theorem r40_3 : zR d 40 Q 3 (o0 :: o1 :: o2 :: o3 :: l) (.int x :: st) h = zR d 40 Q 4 (o0 :: o1 :: o2 :: some (.int x) :: l) st h := q_in rfl rfl
theorem r40_4 : zR d 40 Q 4 (o0 :: o1 :: o2 :: some (.int x) :: l) st h = zR d 40 Q 5 (o0 :: o1 :: o2 :: some (.int x) :: l) (.int x :: st) h := q_in rfl rfl
theorem r40_5 : zR d 40 Q 5 (some (.ref c) :: l) st h = zR d 40 Q 6 (some (.ref c) :: l) (.ref c :: st) h := q_in rfl rfl
theorem r40_6 : zR d 40 Q 6 lv (.ref c :: st) h = (zcls c = 5 ∧ zR d 40 Q 9 lv (.int (h c 1) :: st) h) := q_and rfl rfl
theorem r40_9 : zR d 40 Q 9 lv (.int z :: .int x :: st) h = if x < z then zR d 40 Q 12 lv st h else zR d 40 Q 31 lv st h := q_if rfl rfl
theorem r40_12 : zR d 40 Q 12 (some (.ref c) :: l) st h = zR d 40 Q 13 (some (.ref c) :: l) (.ref c :: st) h := q_in rfl rfl
theorem r40_13 : zR d 40 Q 13 lv (.ref c :: st) h = (zcls c = 5 ∧ zR d 40 Q 16 lv (.ref (c + 3) :: st) h) := q_and rfl rfl
theorem r40_16 : zR d 40 Q 16 (o0 :: o1 :: o2 :: some (.int x) :: l) st h = zR d 40 Q 17 (o0 :: o1 :: o2 :: some (.int x) :: l) (.int x :: st) h := q_in rfl rfl
theorem r40_17 : zR d 40 Q 17 lv (.int x :: .ref c :: st) h = zal c x h (fun w => zR d 40 Q 18 lv (.int w :: st) h) := q_iald rfl
theorem r40_18 : zR d 40 Q 18 (o0 :: some (.int x) :: l) st h = zR d 40 Q 19 (o0 :: some (.int x) :: l) (.int x :: st) h := q_in rfl rfl
theorem r40_19 : zR d 40 Q 19 lv (.int z :: .int x :: st) h = if x = z then zR d 40 Q 22 lv st h else zR d 40 Q 25 lv st h := q_if rfl rfl
theorem r40_22 : zR d 40 Q 22 (o0 :: o1 :: some (.int x) :: l) st h = zR d 40 Q 25 (o0 :: o1 :: some (.int (x + 1)) :: l) st h := q_in rfl rfl
theorem r40_25 : zR d 40 Q 25 (o0 :: o1 :: o2 :: some (.int x) :: l) st h = zR d 40 Q 28 (o0 :: o1 :: o2 :: some (.int (x + 1)) :: l) st h := q_in rfl rfl
theorem r40_28 : zR d 40 Q 28 lv st h = zR d 40 Q 4 lv st h := q_in rfl rfl
theorem r40_31 : zR d 40 Q 31 (o0 :: o1 :: some (.int x) :: l) st h = zR d 40 Q 32 (o0 :: o1 :: some (.int x) :: l) (.int x :: st) h := q_in rfl rfl
theorem r40_32 : zR d 40 Q 32 lv [.int x] h = Q (some (.int x)) h := q_retz rfl rfl (Or.inl rfl)
theorem r41_0 : zR d 41 Q 0 lv st h = zR d 41 Q 1 lv (.int 0 :: st) h := q_in rfl rfl
theorem r41_1 : zR d 41 Q 1 (o0 :: o1 :: o2 :: l) (.int x :: st) h = zR d 41 Q 2 (o0 :: o1 :: some (.int x) :: l) st h := q_in rfl rfl
theorem r41_2 : zR d 41 Q 2 lv st h = zR d 41 Q 3 lv (.int 0 :: st) h := q_in rfl rfl
theorem r41_3 : zR d 41 Q 3 (o0 :: o1 :: o2 :: o3 :: l) (.int x :: st) h = zR d 41 Q 4 (o0 :: o1 :: o2 :: some (.int x) :: l) st h := q_in rfl rfl
theorem r41_4 : zR d 41 Q 4 (o0 :: o1 :: o2 :: some (.int x) :: l) st h = zR d 41 Q 5 (o0 :: o1 :: o2 :: some (.int x) :: l) (.int x :: st) h := q_in rfl rfl
theorem r41_5 : zR d 41 Q 5 (some (.ref c) :: l) st h = zR d 41 Q 6 (some (.ref c) :: l) (.ref c :: st) h := q_in rfl rfl
theorem r41_6 : zR d 41 Q 6 lv (.ref c :: st) h = (zcls c = 5 ∧ zR d 41 Q 9 lv (.int (h c 1) :: st) h) := q_and rfl rfl
theorem r41_9 : zR d 41 Q 9 lv (.int z :: .int x :: st) h = if x < z then zR d 41 Q 12 lv st h else zR d 41 Q 30 lv st h := q_if rfl rfl
theorem r41_12 : zR d 41 Q 12 (o0 :: o1 :: o2 :: some (.int x) :: l) st h = zR d 41 Q 13 (o0 :: o1 :: o2 :: some (.int x) :: l) (.int x :: st) h := q_in rfl rfl
theorem r41_13 : zR d 41 Q 13 (o0 :: some (.ref c) :: l) st h = zR d 41 Q 14 (o0 :: some (.ref c) :: l) (.ref c :: st) h := q_in rfl rfl
theorem r41_14 : zR d 41 Q 14 lv (.ref c :: st) h = zan c h (fun w => zR d 41 Q 15 lv (.int w :: st) h) := q_alen rfl
theorem r41_15 : zR d 41 Q 15 lv (.int z :: .int x :: st) h = if x < z then zR d 41 Q 18 lv st h else zR d 41 Q 30 lv st h := q_if rfl rfl
theorem r41_18 : zR d 41 Q 18 (o0 :: o1 :: some (.int x) :: l) st h = zR d 41 Q 19 (o0 :: o1 :: some (.int x) :: l) (.int x :: st) h := q_in rfl rfl
theorem r41_19 : zR d 41 Q 19 (o0 :: some (.ref c) :: l) st h = zR d 41 Q 20 (o0 :: some (.ref c) :: l) (.ref c :: st) h := q_in rfl rfl
theorem r41_20 : zR d 41 Q 20 (o0 :: o1 :: o2 :: some (.int x) :: l) st h = zR d 41 Q 21 (o0 :: o1 :: o2 :: some (.int x) :: l) (.int x :: st) h := q_in rfl rfl
theorem r41_21 : zR d 41 Q 21 lv (.int x :: .ref c :: st) h = zal c x h (fun w => zR d 41 Q 22 lv (.int w :: st) h) := q_iald rfl
theorem r41_22 : zR d 41 Q 22 lv (.int z :: .int x :: st) h = zR d 41 Q 23 lv (.int (x + z) :: st) h := q_in rfl rfl
theorem r41_23 : zR d 41 Q 23 (o0 :: o1 :: o2 :: l) (.int x :: st) h = zR d 41 Q 24 (o0 :: o1 :: some (.int x) :: l) st h := q_in rfl rfl
theorem r41_24 : zR d 41 Q 24 (o0 :: o1 :: o2 :: some (.int x) :: l) st h = zR d 41 Q 27 (o0 :: o1 :: o2 :: some (.int (x + 1)) :: l) st h := q_in rfl rfl
theorem r41_27 : zR d 41 Q 27 lv st h = zR d 41 Q 4 lv st h := q_in rfl rfl
theorem r41_30 : zR d 41 Q 30 (o0 :: o1 :: some (.int x) :: l) st h = zR d 41 Q 31 (o0 :: o1 :: some (.int x) :: l) (.int x :: st) h := q_in rfl rfl
theorem r41_31 : zR d 41 Q 31 lv [.int x] h = Q (some (.int x)) h := q_retz rfl rfl (Or.inl rfl)
theorem r42_0 : zR d 42 Q 0 lv st h = zR d 42 Q 1 lv (.int 0 :: st) h := q_in rfl rfl
theorem r42_1 : zR d 42 Q 1 (o0 :: o1 :: l) (.int x :: st) h = zR d 42 Q 2 (o0 :: some (.int x) :: l) st h := q_in rfl rfl
theorem r42_2 : zR d 42 Q 2 (o0 :: some (.int x) :: l) st h = zR d 42 Q 3 (o0 :: some (.int x) :: l) (.int x :: st) h := q_in rfl rfl
theorem r42_3 : zR d 42 Q 3 (some (.ref c) :: l) st h = zR d 42 Q 4 (some (.ref c) :: l) (.ref c :: st) h := q_in rfl rfl
theorem r42_4 : zR d 42 Q 4 lv (.ref c :: st) h = (zcls c = 5 ∧ zR d 42 Q 7 lv (.int (h c 1) :: st) h) := q_and rfl rfl
theorem r42_7 : zR d 42 Q 7 lv (.int z :: .int x :: st) h = if x < z then zR d 42 Q 10 lv st h else zR d 42 Q 28 lv st h := q_if rfl rfl
theorem r42_10 : zR d 42 Q 10 (some (.ref c) :: l) st h = zR d 42 Q 11 (some (.ref c) :: l) (.ref c :: st) h := q_in rfl rfl
theorem r42_11 : zR d 42 Q 11 lv (.ref c :: st) h = (zcls c = 5 ∧ zR d 42 Q 14 lv (.ref (c + 5) :: st) h) := q_and rfl rfl
theorem r42_14 : zR d 42 Q 14 (o0 :: some (.int x) :: l) st h = zR d 42 Q 15 (o0 :: some (.int x) :: l) (.int x :: st) h := q_in rfl rfl
theorem r42_15 : zR d 42 Q 15 lv (.int x :: .ref c :: st) h = zal c x h (fun w => zR d 42 Q 16 lv (.int w :: st) h) := q_iald rfl
theorem r42_16 : zR d 42 Q 16 lv st h = zR d 42 Q 17 lv (.int 1 :: st) h := q_in rfl rfl
theorem r42_17 : zR d 42 Q 17 lv (.int z :: .int x :: st) h = if x < z then zR d 42 Q 20 lv st h else zR d 42 Q 22 lv st h := q_if rfl rfl
theorem r42_20 : zR d 42 Q 20 lv st h = zR d 42 Q 21 lv (.int 0 :: st) h := q_in rfl rfl
theorem r42_21f : zR d 42 Q 21 lv [.int 0] h = Q (some (.int 0)) h := q_retz rfl rfl (Or.inr (Or.inl rfl))
theorem r42_21t : zR d 42 Q 21 lv [.int 1] h = Q (some (.int 1)) h := q_retz rfl rfl (Or.inr (Or.inr rfl))
theorem r42_22 : zR d 42 Q 22 (o0 :: some (.int x) :: l) st h = zR d 42 Q 25 (o0 :: some (.int (x + 1)) :: l) st h := q_in rfl rfl
theorem r42_25 : zR d 42 Q 25 lv st h = zR d 42 Q 2 lv st h := q_in rfl rfl
theorem r42_28 : zR d 42 Q 28 lv st h = zR d 42 Q 29 lv (.int 1 :: st) h := q_in rfl rfl
theorem r42_29f : zR d 42 Q 29 lv [.int 0] h = Q (some (.int 0)) h := q_retz rfl rfl (Or.inr (Or.inl rfl))
theorem r42_29t : zR d 42 Q 29 lv [.int 1] h = Q (some (.int 1)) h := q_retz rfl rfl (Or.inr (Or.inr rfl))
theorem r43_0 : zR d 43 Q 0 (some (.ref c) :: l) st h = zR d 43 Q 1 (some (.ref c) :: l) (.ref c :: st) h := q_in rfl rfl
theorem r43_1 : zR d 43 Q 1 (o0 :: some (.int x) :: l) st h = zR d 43 Q 2 (o0 :: some (.int x) :: l) (.int x :: st) h := q_in rfl rfl
theorem r43_2 : zR d 43 Q 2 lv [.int x0, .ref c] h = (zcls c = 5 ∧ zM d 37 [.ref c, .int x0] h (fun r h' => zR d 43 Q 5 lv (r.toList ++ []) h')) := (q_clV rfl rfl (Nat.le_of_ble_eq_true rfl)).trans (zand_r (Nat.le_of_ble_eq_true rfl))
theorem r43_5 : zR d 43 Q 5 lv (.int x :: st) h = if x = 0 then zR d 43 Q 8 lv st h else zR d 43 Q 10 lv st h := q_if rfl rfl
theorem r43_8 : zR d 43 Q 8 lv st h = zR d 43 Q 9 lv (.int 0 :: st) h := q_in rfl rfl
theorem r43_9 : zR d 43 Q 9 lv [.int x] h = Q (some (.int x)) h := q_retz rfl rfl (Or.inl rfl)
theorem r43_10 : zR d 43 Q 10 (some (.ref c) :: l) st h = zR d 43 Q 11 (some (.ref c) :: l) (.ref c :: st) h := q_in rfl rfl
theorem r43_11 : zR d 43 Q 11 lv (.ref c :: st) h = (zcls c = 5 ∧ zR d 43 Q 14 lv (.ref (c + 7) :: st) h) := q_and rfl rfl
theorem r43_14 : zR d 43 Q 14 lv st h = zR d 43 Q 15 lv (.int 0 :: st) h := q_in rfl rfl
theorem r43_15 : zR d 43 Q 15 lv (.int x :: .ref c :: st) h = zal c x h (fun w => zR d 43 Q 16 lv (.int w :: st) h) := q_iald rfl
theorem r43_16 : zR d 43 Q 16 (o0 :: o1 :: o2 :: l) (.int x :: st) h = zR d 43 Q 17 (o0 :: o1 :: some (.int x) :: l) st h := q_in rfl rfl
theorem r43_17 : zR d 43 Q 17 (o0 :: o1 :: some (.int x) :: l) st h = zR d 43 Q 18 (o0 :: o1 :: some (.int x) :: l) (.int x :: st) h := q_in rfl rfl
theorem r43_18 : zR d 43 Q 18 lv (.int x :: st) h = if x < 0 then zR d 43 Q 21 lv st h else zR d 43 Q 30 lv st h := q_if rfl rfl
theorem r43_21 : zR d 43 Q 21 (some (.ref c) :: l) st h = zR d 43 Q 22 (some (.ref c) :: l) (.ref c :: st) h := q_in rfl rfl
theorem r43_22 : zR d 43 Q 22 lv (.ref c :: st) h = (zcls c = 5 ∧ zR d 43 Q 25 lv (.ref (c + 2) :: st) h) := q_and rfl rfl
theorem r43_25 : zR d 43 Q 25 (o0 :: some (.int x) :: l) st h = zR d 43 Q 26 (o0 :: some (.int x) :: l) (.int x :: st) h := q_in rfl rfl
theorem r43_26 : zR d 43 Q 26 lv (.int x :: .ref c :: st) h = zal c x h (fun w => zR d 43 Q 27 lv (.int w :: st) h) := q_iald rfl
theorem r43_27 : zR d 43 Q 27 lv st h = zR d 43 Q 56 lv st h := q_in rfl rfl
theorem r43_30 : zR d 43 Q 30 (some (.ref c) :: l) st h = zR d 43 Q 31 (some (.ref c) :: l) (.ref c :: st) h := q_in rfl rfl
theorem r43_31 : zR d 43 Q 31 lv (.ref c :: st) h = (zcls c = 5 ∧ zR d 43 Q 34 lv (.ref 1 :: st) h) := q_and rfl rfl
theorem r43_34 : zR d 43 Q 34 (o0 :: o1 :: some (.int x) :: l) st h = zR d 43 Q 35 (o0 :: o1 :: some (.int x) :: l) (.int x :: st) h := q_in rfl rfl
theorem r43_35 : zR d 43 Q 35 (some (.ref c) :: l) st h = zR d 43 Q 36 (some (.ref c) :: l) (.ref c :: st) h := q_in rfl rfl
theorem r43_36 : zR d 43 Q 36 lv (.ref c :: st) h = (zcls c = 5 ∧ zR d 43 Q 39 lv (.ref (c + 2) :: st) h) := q_and rfl rfl
theorem r43_39 : zR d 43 Q 39 (o0 :: some (.int x) :: l) st h = zR d 43 Q 40 (o0 :: some (.int x) :: l) (.int x :: st) h := q_in rfl rfl
theorem r43_40 : zR d 43 Q 40 lv (.int x :: .ref c :: st) h = zal c x h (fun w => zR d 43 Q 41 lv (.int w :: st) h) := q_iald rfl
theorem r43_41 : zR d 43 Q 41 (some (.ref c) :: l) st h = zR d 43 Q 42 (some (.ref c) :: l) (.ref c :: st) h := q_in rfl rfl
theorem r43_42 : zR d 43 Q 42 lv (.ref c :: st) h = (zcls c = 5 ∧ zR d 43 Q 45 lv (.ref (c + 6) :: st) h) := q_and rfl rfl
theorem r43_45 : zR d 43 Q 45 lv st h = zR d 43 Q 46 lv (.int 3 :: st) h := q_in rfl rfl
theorem r43_46 : zR d 43 Q 46 lv (.int x :: .ref c :: st) h = zal c x h (fun w => zR d 43 Q 47 lv (.int w :: st) h) := q_iald rfl
theorem r43_47 : zR d 43 Q 47 (some (.ref c) :: l) st h = zR d 43 Q 48 (some (.ref c) :: l) (.ref c :: st) h := q_in rfl rfl
theorem r43_48 : zR d 43 Q 48 lv (.ref c :: st) h = (zcls c = 5 ∧ zR d 43 Q 51 lv (.ref (c + 4) :: st) h) := q_and rfl rfl
theorem r43_51 : zR d 43 Q 51 (o0 :: some (.int x) :: l) st h = zR d 43 Q 52 (o0 :: some (.int x) :: l) (.int x :: st) h := q_in rfl rfl
theorem r43_52 : zR d 43 Q 52 lv (.int x :: .ref c :: st) h = zal c x h (fun w => zR d 43 Q 53 lv (.int w :: st) h) := q_iald rfl
theorem r43_53 : zR d 43 Q 53 lv [.int x3, .int x2, .int x1, .int x0, .ref 1] h = zM d 7 [.ref 1, .int x0, .int x1, .int x2, .int x3] h (fun r h' => zR d 43 Q 56 lv (r.toList ++ []) h') := (q_clV rfl rfl (Nat.le_of_ble_eq_true rfl)).trans (zand_t ⟨rfl, Nat.le_of_ble_eq_true rfl⟩)
theorem r43_56 : zR d 43 Q 56 (o0 :: o1 :: o2 :: o3 :: l) (.int x :: st) h = zR d 43 Q 57 (o0 :: o1 :: o2 :: some (.int x) :: l) st h := q_in rfl rfl
theorem r43_57 : zR d 43 Q 57 (some (.ref c) :: l) st h = zR d 43 Q 58 (some (.ref c) :: l) (.ref c :: st) h := q_in rfl rfl
theorem r43_58 : zR d 43 Q 58 lv (.ref c :: st) h = (zcls c = 5 ∧ zR d 43 Q 61 lv (.ref (c + 1) :: st) h) := q_and rfl rfl
theorem r43_61 : zR d 43 Q 61 (o0 :: some (.int x) :: l) st h = zR d 43 Q 62 (o0 :: some (.int x) :: l) (.int x :: st) h := q_in rfl rfl
theorem r43_62 : zR d 43 Q 62 lv (.int x :: .ref c :: st) h = zal c x h (fun w => zR d 43 Q 63 lv (.int w :: st) h) := q_iald rfl
theorem r43_63 : zR d 43 Q 63 (o0 :: o1 :: o2 :: some (.int x) :: l) st h = zR d 43 Q 64 (o0 :: o1 :: o2 :: some (.int x) :: l) (.int x :: st) h := q_in rfl rfl
theorem r43_64 : zR d 43 Q 64 lv st h = zR d 43 Q 65 lv (.int 0 :: st) h := q_in rfl rfl
theorem r43_65 : zR d 43 Q 65 lv st h = zR d 43 Q 68 lv (.int 999 :: st) h := q_in rfl rfl
theorem r43_68 : zR d 43 Q 68 lv [.int x2, .int x1, .int x0, .int y0] h = zM d 104 [.int x0, .int x1, .int x2] h (fun r h' => zR d 43 Q 71 lv (r.toList ++ [.int y0]) h') := q_clS rfl rfl ⟨Nat.le_of_ble_eq_true rfl, Nat.le_of_ble_eq_true rfl⟩
theorem r43_71 : zR d 43 Q 71 lv [.int x1, .int x0] h = zM d 2 [.int x0, .int x1] h (fun r h' => zR d 43 Q 74 lv (r.toList ++ []) h') := q_clS rfl rfl ⟨Nat.le_of_ble_eq_true rfl, Nat.le_of_ble_eq_true rfl⟩
theorem r43_74 : zR d 43 Q 74 lv [.int x] h = Q (some (.int x)) h := q_retz rfl rfl (Or.inl rfl)
theorem r44_0 : zR d 44 Q 0 lv st h = zR d 44 Q 1 lv (.int 0 :: st) h := q_in rfl rfl
theorem r44_1 : zR d 44 Q 1 (o0 :: o1 :: o2 :: l) (.int x :: st) h = zR d 44 Q 2 (o0 :: o1 :: some (.int x) :: l) st h := q_in rfl rfl
theorem r44_2 : zR d 44 Q 2 lv st h = zR d 44 Q 3 lv (.int 0 :: st) h := q_in rfl rfl
theorem r44_3 : zR d 44 Q 3 (o0 :: o1 :: o2 :: o3 :: l) (.int x :: st) h = zR d 44 Q 4 (o0 :: o1 :: o2 :: some (.int x) :: l) st h := q_in rfl rfl
theorem r44_4 : zR d 44 Q 4 (o0 :: o1 :: o2 :: some (.int x) :: l) st h = zR d 44 Q 5 (o0 :: o1 :: o2 :: some (.int x) :: l) (.int x :: st) h := q_in rfl rfl
theorem r44_5 : zR d 44 Q 5 (some (.ref c) :: l) st h = zR d 44 Q 6 (some (.ref c) :: l) (.ref c :: st) h := q_in rfl rfl
theorem r44_6 : zR d 44 Q 6 lv (.ref c :: st) h = (zcls c = 5 ∧ zR d 44 Q 9 lv (.int (h c 1) :: st) h) := q_and rfl rfl
theorem r44_9 : zR d 44 Q 9 lv (.int z :: .int x :: st) h = if x < z then zR d 44 Q 12 lv st h else zR d 44 Q 35 lv st h := q_if rfl rfl
theorem r44_12 : zR d 44 Q 12 (o0 :: some (.int x) :: l) st h = zR d 44 Q 13 (o0 :: some (.int x) :: l) (.int x :: st) h := q_in rfl rfl
theorem r44_13 : zR d 44 Q 13 (o0 :: o1 :: o2 :: some (.int x) :: l) st h = zR d 44 Q 14 (o0 :: o1 :: o2 :: some (.int x) :: l) (.int x :: st) h := q_in rfl rfl
theorem r44_14 : zR d 44 Q 14 lv (.int z :: .int x :: st) h = zR d 44 Q 15 lv (.int (x >>> (z &&& 31)) :: st) h := q_in rfl rfl
theorem r44_15 : zR d 44 Q 15 lv st h = zR d 44 Q 16 lv (.int 1 :: st) h := q_in rfl rfl
theorem r44_16 : zR d 44 Q 16 lv (.int z :: .int x :: st) h = zR d 44 Q 17 lv (.int (x &&& z) :: st) h := q_in rfl rfl
theorem r44_17 : zR d 44 Q 17 lv st h = zR d 44 Q 18 lv (.int 1 :: st) h := q_in rfl rfl
theorem r44_18 : zR d 44 Q 18 lv (.int z :: .int x :: st) h = if x = z then zR d 44 Q 21 lv st h else zR d 44 Q 29 lv st h := q_if rfl rfl
theorem r44_21 : zR d 44 Q 21 (o0 :: o1 :: some (.int x) :: l) st h = zR d 44 Q 22 (o0 :: o1 :: some (.int x) :: l) (.int x :: st) h := q_in rfl rfl
theorem r44_22 : zR d 44 Q 22 (some (.ref c) :: l) st h = zR d 44 Q 23 (some (.ref c) :: l) (.ref c :: st) h := q_in rfl rfl
theorem r44_23 : zR d 44 Q 23 (o0 :: o1 :: o2 :: some (.int x) :: l) st h = zR d 44 Q 24 (o0 :: o1 :: o2 :: some (.int x) :: l) (.int x :: st) h := q_in rfl rfl
theorem r44_24 : zR d 44 Q 24 lv [.int x0, .ref c, .int y0] h = (zcls c = 5 ∧ zM d 43 [.ref c, .int x0] h (fun r h' => zR d 44 Q 27 lv (r.toList ++ [.int y0]) h')) := (q_clV rfl rfl (Nat.le_of_ble_eq_true rfl)).trans (zand_r (Nat.le_of_ble_eq_true rfl))
theorem r44_27 : zR d 44 Q 27 lv (.int z :: .int x :: st) h = zR d 44 Q 28 lv (.int (x + z) :: st) h := q_in rfl rfl
theorem r44_28 : zR d 44 Q 28 (o0 :: o1 :: o2 :: l) (.int x :: st) h = zR d 44 Q 29 (o0 :: o1 :: some (.int x) :: l) st h := q_in rfl rfl
theorem r44_29 : zR d 44 Q 29 (o0 :: o1 :: o2 :: some (.int x) :: l) st h = zR d 44 Q 32 (o0 :: o1 :: o2 :: some (.int (x + 1)) :: l) st h := q_in rfl rfl
theorem r44_32 : zR d 44 Q 32 lv st h = zR d 44 Q 4 lv st h := q_in rfl rfl
theorem r44_35 : zR d 44 Q 35 (o0 :: o1 :: some (.int x) :: l) st h = zR d 44 Q 36 (o0 :: o1 :: some (.int x) :: l) (.int x :: st) h := q_in rfl rfl
theorem r44_36 : zR d 44 Q 36 lv [.int x] h = Q (some (.int x)) h := q_retz rfl rfl (Or.inl rfl)
theorem r45_0 : zR d 45 Q 0 (some (.ref c) :: l) st h = zR d 45 Q 1 (some (.ref c) :: l) (.ref c :: st) h := q_in rfl rfl
theorem r45_1 : zR d 45 Q 1 lv (.ref c :: st) h = (zcls c = 5 ∧ zR d 45 Q 4 lv (.ref (c + 7) :: st) h) := q_and rfl rfl
theorem r45_4 : zR d 45 Q 4 lv st h = zR d 45 Q 5 lv (.int 1 :: st) h := q_in rfl rfl
theorem r45_5 : zR d 45 Q 5 lv (.int x :: .ref c :: st) h = zal c x h (fun w => zR d 45 Q 6 lv (.int w :: st) h) := q_iald rfl
theorem r45_6 : zR d 45 Q 6 (o0 :: o1 :: o2 :: o3 :: l) (.int x :: st) h = zR d 45 Q 7 (o0 :: o1 :: o2 :: some (.int x) :: l) st h := q_in rfl rfl
theorem r45_7 : zR d 45 Q 7 (o0 :: o1 :: o2 :: some (.int x) :: l) st h = zR d 45 Q 8 (o0 :: o1 :: o2 :: some (.int x) :: l) (.int x :: st) h := q_in rfl rfl
theorem r45_8 : zR d 45 Q 8 lv (.int x :: st) h = if x < 0 then zR d 45 Q 11 lv st h else zR d 45 Q 21 lv st h := q_if rfl rfl
theorem r45_11 : zR d 45 Q 11 (o0 :: some (.int x) :: l) st h = zR d 45 Q 12 (o0 :: some (.int x) :: l) (.int x :: st) h := q_in rfl rfl
theorem r45_12 : zR d 45 Q 12 (o0 :: o1 :: some (.int x) :: l) st h = zR d 45 Q 13 (o0 :: o1 :: some (.int x) :: l) (.int x :: st) h := q_in rfl rfl
theorem r45_13 : zR d 45 Q 13 lv st h = zR d 45 Q 15 lv (.int 20 :: st) h := q_in rfl rfl
theorem r45_15 : zR d 45 Q 15 lv (.int z :: .int x :: st) h = zR d 45 Q 16 lv (.int (x + z) :: st) h := q_in rfl rfl
theorem r45_16 : zR d 45 Q 16 lv (.int z :: .int x :: st) h = zR d 45 Q 17 lv (.int (x * z) :: st) h := q_in rfl rfl
theorem r45_17 : zR d 45 Q 17 lv st h = zR d 45 Q 19 lv (.int 10 :: st) h := q_in rfl rfl
theorem r45_19 : zR d 45 Q 19 lv (.int 10 :: .int x :: st) h = zR d 45 Q 20 lv (.int (x / 10) :: st) h := (q_and rfl rfl).trans (zand_t (by decide))
theorem r45_20 : zR d 45 Q 20 lv [.int x] h = Q (some (.int x)) h := q_retz rfl rfl (Or.inl rfl)
theorem r45_21 : zR d 45 Q 21 (some (.ref c) :: l) st h = zR d 45 Q 22 (some (.ref c) :: l) (.ref c :: st) h := q_in rfl rfl
theorem r45_22 : zR d 45 Q 22 lv (.ref c :: st) h = (zcls c = 5 ∧ zR d 45 Q 25 lv (.ref 1 :: st) h) := q_and rfl rfl
theorem r45_25 : zR d 45 Q 25 (o0 :: o1 :: o2 :: some (.int x) :: l) st h = zR d 45 Q 26 (o0 :: o1 :: o2 :: some (.int x) :: l) (.int x :: st) h := q_in rfl rfl
theorem r45_26 : zR d 45 Q 26 (o0 :: some (.int x) :: l) st h = zR d 45 Q 27 (o0 :: some (.int x) :: l) (.int x :: st) h := q_in rfl rfl
theorem r45_27 : zR d 45 Q 27 (o0 :: o1 :: some (.int x) :: l) st h = zR d 45 Q 28 (o0 :: o1 :: some (.int x) :: l) (.int x :: st) h := q_in rfl rfl
theorem r45_28 : zR d 45 Q 28 (some (.ref c) :: l) st h = zR d 45 Q 29 (some (.ref c) :: l) (.ref c :: st) h := q_in rfl rfl
theorem r45_29 : zR d 45 Q 29 lv (.ref c :: st) h = (zcls c = 5 ∧ zR d 45 Q 32 lv (.ref (c + 6) :: st) h) := q_and rfl rfl
theorem r45_32 : zR d 45 Q 32 lv st h = zR d 45 Q 33 lv (.int 1 :: st) h := q_in rfl rfl
theorem r45_33 : zR d 45 Q 33 lv (.int x :: .ref c :: st) h = zal c x h (fun w => zR d 45 Q 34 lv (.int w :: st) h) := q_iald rfl
theorem r45_34 : zR d 45 Q 34 lv [.int x3, .int x2, .int x1, .int x0, .ref 1] h = zM d 7 [.ref 1, .int x0, .int x1, .int x2, .int x3] h (fun r h' => zR d 45 Q 37 lv (r.toList ++ []) h') := (q_clV rfl rfl (Nat.le_of_ble_eq_true rfl)).trans (zand_t ⟨rfl, Nat.le_of_ble_eq_true rfl⟩)
theorem r45_37 : zR d 45 Q 37 lv st h = zR d 45 Q 38 lv (.int 0 :: st) h := q_in rfl rfl
theorem r45_38 : zR d 45 Q 38 lv st h = zR d 45 Q 41 lv (.int 9999 :: st) h := q_in rfl rfl
theorem r45_41 : zR d 45 Q 41 lv [.int x2, .int x1, .int x0] h = zM d 104 [.int x0, .int x1, .int x2] h (fun r h' => zR d 45 Q 44 lv (r.toList ++ []) h') := q_clS rfl rfl ⟨Nat.le_of_ble_eq_true rfl, Nat.le_of_ble_eq_true rfl⟩
theorem r45_44 : zR d 45 Q 44 lv [.int x] h = Q (some (.int x)) h := q_retz rfl rfl (Or.inl rfl)
theorem r46_0 : zR d 46 Q 0 lv st h = zR d 46 Q 1 lv (.int 0 :: st) h := q_in rfl rfl
theorem r46_1 : zR d 46 Q 1 lv st h = zR d 46 Q 3 lv (.int 30 :: st) h := q_in rfl rfl
theorem r46_3 : zR d 46 Q 3 (some (.ref c) :: l) st h = zR d 46 Q 4 (some (.ref c) :: l) (.ref c :: st) h := q_in rfl rfl
theorem r46_4 : zR d 46 Q 4 lv (.ref c :: st) h = (zcls c = 5 ∧ zR d 46 Q 7 lv (.ref (c + 6) :: st) h) := q_and rfl rfl
theorem r46_7 : zR d 46 Q 7 lv st h = zR d 46 Q 8 lv (.int 1 :: st) h := q_in rfl rfl
theorem r46_8 : zR d 46 Q 8 lv (.int x :: .ref c :: st) h = zal c x h (fun w => zR d 46 Q 9 lv (.int w :: st) h) := q_iald rfl
theorem r46_9 : zR d 46 Q 9 lv st h = zR d 46 Q 11 lv (.int 30 :: st) h := q_in rfl rfl
theorem r46_11 : zR d 46 Q 11 lv (.int z :: .int x :: st) h = zR d 46 Q 12 lv (.int (x - z) :: st) h := q_in rfl rfl
theorem r46_12 : zR d 46 Q 12 lv [.int x0, .int y0, .int y1] h = zM d 1002 [.int x0] h (fun r h' => zR d 46 Q 15 lv (r.toList ++ [.int y0, .int y1]) h') := q_clS rfl rfl ⟨Nat.le_of_ble_eq_true rfl, Nat.le_of_ble_eq_true rfl⟩
theorem r46_15 : zR d 46 Q 15 lv (.int z :: .int x :: st) h = zR d 46 Q 16 lv (.int (x - z) :: st) h := q_in rfl rfl
theorem r46_16 : zR d 46 Q 16 lv [.int x1, .int x0] h = zM d 1000 [.int x0, .int x1] h (fun r h' => zR d 46 Q 19 lv (r.toList ++ []) h') := q_clS rfl rfl ⟨Nat.le_of_ble_eq_true rfl, Nat.le_of_ble_eq_true rfl⟩
theorem r46_19 : zR d 46 Q 19 lv [.int x] h = Q (some (.int x)) h := q_retz rfl rfl (Or.inl rfl)
theorem r47_0 : zR d 47 Q 0 (some (.ref c) :: l) st h = zR d 47 Q 1 (some (.ref c) :: l) (.ref c :: st) h := q_in rfl rfl
theorem r47_1 : zR d 47 Q 1 lv (.ref c :: st) h = (zcls c = 5 ∧ zR d 47 Q 4 lv (.ref (c + 6) :: st) h) := q_and rfl rfl
theorem r47_4 : zR d 47 Q 4 lv st h = zR d 47 Q 5 lv (.int 3 :: st) h := q_in rfl rfl
theorem r47_5 : zR d 47 Q 5 lv (.int x :: .ref c :: st) h = zal c x h (fun w => zR d 47 Q 6 lv (.int w :: st) h) := q_iald rfl
theorem r47_6 : zR d 47 Q 6 (some (.ref c) :: l) st h = zR d 47 Q 7 (some (.ref c) :: l) (.ref c :: st) h := q_in rfl rfl
theorem r47_7 : zR d 47 Q 7 lv [.ref c, .int y0] h = (zcls c = 5 ∧ zM d 46 [.ref c] h (fun r h' => zR d 47 Q 10 lv (r.toList ++ [.int y0]) h')) := (q_clV rfl rfl (Nat.le_of_ble_eq_true rfl)).trans (zand_r (Nat.le_of_ble_eq_true rfl))
theorem r47_10 : zR d 47 Q 10 lv (.int z :: .int x :: st) h = zR d 47 Q 11 lv (.int (x * z) :: st) h := q_in rfl rfl
theorem r47_11 : zR d 47 Q 11 (o0 :: o1 :: l) (.int x :: st) h = zR d 47 Q 12 (o0 :: some (.int x) :: l) st h := q_in rfl rfl
theorem r47_12 : zR d 47 Q 12 (o0 :: some (.int x) :: l) st h = zR d 47 Q 13 (o0 :: some (.int x) :: l) (.int x :: st) h := q_in rfl rfl
theorem r47_13 : zR d 47 Q 13 lv (.int x :: st) h = if x ≤ 0 then zR d 47 Q 16 lv st h else zR d 47 Q 19 lv st h := q_if rfl rfl
theorem r47_16 : zR d 47 Q 16 lv st h = zR d 47 Q 18 lv (.int 60 :: st) h := q_in rfl rfl
theorem r47_18 : zR d 47 Q 18 lv [.int x] h = Q (some (.int x)) h := q_retz rfl rfl (Or.inl rfl)
theorem r47_19 : zR d 47 Q 19 lv st h = zR d 47 Q 21 lv (.int 60 :: st) h := q_in rfl rfl
theorem r47_21 : zR d 47 Q 21 lv st h = zR d 47 Q 22 lv (.int 4 :: st) h := q_in rfl rfl
theorem r47_22 : zR d 47 Q 22 lv st h = zR d 47 Q 25 lv (.int 300 :: st) h := q_in rfl rfl
theorem r47_25 : zR d 47 Q 25 lv st h = zR d 47 Q 26 lv (.int 1 :: st) h := q_in rfl rfl
theorem r47_26 : zR d 47 Q 26 (o0 :: some (.int x) :: l) st h = zR d 47 Q 27 (o0 :: some (.int x) :: l) (.int x :: st) h := q_in rfl rfl
theorem r47_27 : zR d 47 Q 27 lv st h = zR d 47 Q 29 lv (.int 30 :: st) h := q_in rfl rfl
theorem r47_29 : zR d 47 Q 29 lv (.int 30 :: .int x :: st) h = zR d 47 Q 30 lv (.int (x / 30) :: st) h := (q_and rfl rfl).trans (zand_t (by decide))
theorem r47_30 : zR d 47 Q 30 lv (.int z :: .int x :: st) h = zR d 47 Q 31 lv (.int (x + z) :: st) h := q_in rfl rfl
theorem r47_31 : zR d 47 Q 31 lv (.int z :: .int x :: st) h = (¬ z = 0 ∧ zR d 47 Q 32 lv (.int (x / z) :: st) h) := q_and rfl rfl
theorem r47_32 : zR d 47 Q 32 lv (.int z :: .int x :: st) h = zR d 47 Q 33 lv (.int (x + z) :: st) h := q_in rfl rfl
theorem r47_33 : zR d 47 Q 33 lv [.int x1, .int x0] h = zM d 1001 [.int x0, .int x1] h (fun r h' => zR d 47 Q 36 lv (r.toList ++ []) h') := q_clS rfl rfl ⟨Nat.le_of_ble_eq_true rfl, Nat.le_of_ble_eq_true rfl⟩
theorem r47_36 : zR d 47 Q 36 lv [.int x] h = Q (some (.int x)) h := q_retz rfl rfl (Or.inl rfl)
theorem r48_0 : zR d 48 Q 0 lv st h = zR d 48 Q 1 lv (.int 0 :: st) h := q_in rfl rfl
theorem r48_1 : zR d 48 Q 1 (o0 :: o1 :: l) (.int x :: st) h = zR d 48 Q 2 (o0 :: some (.int x) :: l) st h := q_in rfl rfl
theorem r48_2 : zR d 48 Q 2 lv st h = zR d 48 Q 3 lv (.int 0 :: st) h := q_in rfl rfl
theorem r48_3 : zR d 48 Q 3 (o0 :: o1 :: o2 :: l) (.int x :: st) h = zR d 48 Q 4 (o0 :: o1 :: some (.int x) :: l) st h := q_in rfl rfl
theorem r48_4 : zR d 48 Q 4 (some (.ref c) :: l) st h = zR d 48 Q 5 (some (.ref c) :: l) (.ref c :: st) h := q_in rfl rfl
theorem r48_5 : zR d 48 Q 5 lv (.ref c :: st) h = (zcls c = 5 ∧ zR d 48 Q 8 lv (.ref (c + 6) :: st) h) := q_and rfl rfl
theorem r48_8 : zR d 48 Q 8 lv st h = zR d 48 Q 9 lv (.int 2 :: st) h := q_in rfl rfl
theorem r48_9 : zR d 48 Q 9 lv (.int x :: .ref c :: st) h = zal c x h (fun w => zR d 48 Q 10 lv (.int w :: st) h) := q_iald rfl
theorem r48_10 : zR d 48 Q 10 (o0 :: o1 :: o2 :: o3 :: l) (.int x :: st) h = zR d 48 Q 11 (o0 :: o1 :: o2 :: some (.int x) :: l) st h := q_in rfl rfl
theorem r48_11 : zR d 48 Q 11 lv st h = zR d 48 Q 12 lv (.int 0 :: st) h := q_in rfl rfl
theorem r48_12 : zR d 48 Q 12 (o0 :: o1 :: o2 :: o3 :: o4 :: l) (.int x :: st) h = zR d 48 Q 14 (o0 :: o1 :: o2 :: o3 :: some (.int x) :: l) st h := q_in rfl rfl
theorem r48_14 : zR d 48 Q 14 lv st h = zR d 48 Q 15 lv (.int 0 :: st) h := q_in rfl rfl
theorem r48_15 : zR d 48 Q 15 (o0 :: o1 :: o2 :: o3 :: o4 :: o5 :: l) (.int x :: st) h = zR d 48 Q 17 (o0 :: o1 :: o2 :: o3 :: o4 :: some (.int x) :: l) st h := q_in rfl rfl
theorem r48_17 : zR d 48 Q 17 (o0 :: o1 :: o2 :: o3 :: o4 :: some (.int x) :: l) st h = zR d 48 Q 19 (o0 :: o1 :: o2 :: o3 :: o4 :: some (.int x) :: l) (.int x :: st) h := q_in rfl rfl
theorem r48_19 : zR d 48 Q 19 (some (.ref c) :: l) st h = zR d 48 Q 20 (some (.ref c) :: l) (.ref c :: st) h := q_in rfl rfl
theorem r48_20 : zR d 48 Q 20 lv (.ref c :: st) h = (zcls c = 5 ∧ zR d 48 Q 23 lv (.int (h c 1) :: st) h) := q_and rfl rfl
theorem r48_23 : zR d 48 Q 23 lv (.int z :: .int x :: st) h = if x < z then zR d 48 Q 26 lv st h else zR d 48 Q 124 lv st h := q_if rfl rfl
theorem r48_26 : zR d 48 Q 26 (some (.ref c) :: l) st h = zR d 48 Q 27 (some (.ref c) :: l) (.ref c :: st) h := q_in rfl rfl
theorem r48_27 : zR d 48 Q 27 (o0 :: some (.int x) :: l) st h = zR d 48 Q 28 (o0 :: some (.int x) :: l) (.int x :: st) h := q_in rfl rfl
theorem r48_28 : zR d 48 Q 28 lv [.int x0, .ref c] h = (zcls c = 5 ∧ zM d 49 [.ref c, .int x0] h (fun r h' => zR d 48 Q 31 lv (r.toList ++ []) h')) := (q_clV rfl rfl (Nat.le_of_ble_eq_true rfl)).trans (zand_r (Nat.le_of_ble_eq_true rfl))
theorem r48_31 : zR d 48 Q 31 (o0 :: o1 :: o2 :: o3 :: o4 :: o5 :: o6 :: l) (.int x :: st) h = zR d 48 Q 33 (o0 :: o1 :: o2 :: o3 :: o4 :: o5 :: some (.int x) :: l) st h := q_in rfl rfl
theorem r48_33 : zR d 48 Q 33 (o0 :: o1 :: o2 :: o3 :: o4 :: o5 :: some (.int x) :: l) st h = zR d 48 Q 35 (o0 :: o1 :: o2 :: o3 :: o4 :: o5 :: some (.int x) :: l) (.int x :: st) h := q_in rfl rfl
theorem r48_35 : zR d 48 Q 35 lv (.int x :: st) h = if x < 0 then zR d 48 Q 38 lv st h else zR d 48 Q 40 lv st h := q_if rfl rfl
theorem r48_38 : zR d 48 Q 38 (o0 :: o1 :: some (.int x) :: l) st h = zR d 48 Q 39 (o0 :: o1 :: some (.int x) :: l) (.int x :: st) h := q_in rfl rfl
theorem r48_39 : zR d 48 Q 39 lv [.int x] h = Q (some (.int x)) h := q_retz rfl rfl (Or.inl rfl)
theorem r48_40 : zR d 48 Q 40 (o0 :: some (.int x) :: l) st h = zR d 48 Q 41 (o0 :: some (.int x) :: l) (.int x :: st) h := q_in rfl rfl
theorem r48_41 : zR d 48 Q 41 lv st h = zR d 48 Q 42 lv (.int 1 :: st) h := q_in rfl rfl
theorem r48_42 : zR d 48 Q 42 (o0 :: o1 :: o2 :: o3 :: o4 :: o5 :: some (.int x) :: l) st h = zR d 48 Q 44 (o0 :: o1 :: o2 :: o3 :: o4 :: o5 :: some (.int x) :: l) (.int x :: st) h := q_in rfl rfl
theorem r48_44 : zR d 48 Q 44 lv (.int z :: .int x :: st) h = zR d 48 Q 45 lv (.int (x <<< (z &&& 31)) :: st) h := q_in rfl rfl
theorem r48_45 : zR d 48 Q 45 lv (.int z :: .int x :: st) h = zR d 48 Q 46 lv (.int (x ||| z) :: st) h := q_in rfl rfl
theorem r48_46 : zR d 48 Q 46 (o0 :: o1 :: l) (.int x :: st) h = zR d 48 Q 47 (o0 :: some (.int x) :: l) st h := q_in rfl rfl
theorem r48_47 : zR d 48 Q 47 (some (.ref c) :: l) st h = zR d 48 Q 48 (some (.ref c) :: l) (.ref c :: st) h := q_in rfl rfl
theorem r48_48 : zR d 48 Q 48 lv (.ref c :: st) h = (zcls c = 5 ∧ zR d 48 Q 51 lv (.ref (c + 1) :: st) h) := q_and rfl rfl
theorem r48_51 : zR d 48 Q 51 (o0 :: o1 :: o2 :: o3 :: o4 :: o5 :: some (.int x) :: l) st h = zR d 48 Q 53 (o0 :: o1 :: o2 :: o3 :: o4 :: o5 :: some (.int x) :: l) (.int x :: st) h := q_in rfl rfl
theorem r48_53 : zR d 48 Q 53 lv (.int x :: .ref c :: st) h = zal c x h (fun w => zR d 48 Q 54 lv (.int w :: st) h) := q_iald rfl
theorem r48_54 : zR d 48 Q 54 lv [.int x0] h = zM d 3 [.int x0] h (fun r h' => zR d 48 Q 57 lv (r.toList ++ []) h') := q_clS rfl rfl ⟨Nat.le_of_ble_eq_true rfl, Nat.le_of_ble_eq_true rfl⟩
theorem r48_57 : zR d 48 Q 57 (o0 :: o1 :: o2 :: o3 :: o4 :: o5 :: o6 :: o7 :: l) (.int x :: st) h = zR d 48 Q 59 (o0 :: o1 :: o2 :: o3 :: o4 :: o5 :: o6 :: some (.int x) :: l) st h := q_in rfl rfl
theorem r48_59 : zR d 48 Q 59 (o0 :: o1 :: o2 :: o3 :: o4 :: o5 :: o6 :: some (.int x) :: l) st h = zR d 48 Q 61 (o0 :: o1 :: o2 :: o3 :: o4 :: o5 :: o6 :: some (.int x) :: l) (.int x :: st) h := q_in rfl rfl
theorem r48_61 : zR d 48 Q 61 (o0 :: o1 :: o2 :: some (.int x) :: l) st h = zR d 48 Q 62 (o0 :: o1 :: o2 :: some (.int x) :: l) (.int x :: st) h := q_in rfl rfl
theorem r48_62 : zR d 48 Q 62 lv (.int z :: .int x :: st) h = if x ≤ z then zR d 48 Q 65 lv st h else zR d 48 Q 118 lv st h := q_if rfl rfl
theorem r48_65 : zR d 48 Q 65 (some (.ref c) :: l) st h = zR d 48 Q 66 (some (.ref c) :: l) (.ref c :: st) h := q_in rfl rfl
theorem r48_66 : zR d 48 Q 66 (some (.ref c) :: l) st h = zR d 48 Q 67 (some (.ref c) :: l) (.ref c :: st) h := q_in rfl rfl
theorem r48_67 : zR d 48 Q 67 lv (.ref c :: st) h = (zcls c = 5 ∧ zR d 48 Q 70 lv (.ref (c + 6) :: st) h) := q_and rfl rfl
theorem r48_70 : zR d 48 Q 70 lv st h = zR d 48 Q 71 lv (.int 3 :: st) h := q_in rfl rfl
theorem r48_71 : zR d 48 Q 71 lv (.int x :: .ref c :: st) h = zal c x h (fun w => zR d 48 Q 72 lv (.int w :: st) h) := q_iald rfl
theorem r48_72 : zR d 48 Q 72 (o0 :: o1 :: o2 :: o3 :: some (.int x) :: l) st h = zR d 48 Q 74 (o0 :: o1 :: o2 :: o3 :: some (.int x) :: l) (.int x :: st) h := q_in rfl rfl
theorem r48_74 : zR d 48 Q 74 (some (.ref c) :: l) st h = zR d 48 Q 75 (some (.ref c) :: l) (.ref c :: st) h := q_in rfl rfl
theorem r48_75 : zR d 48 Q 75 lv (.ref c :: st) h = (zcls c = 5 ∧ zR d 48 Q 78 lv (.ref (c + 2) :: st) h) := q_and rfl rfl
theorem r48_78 : zR d 48 Q 78 (o0 :: o1 :: o2 :: o3 :: o4 :: o5 :: some (.int x) :: l) st h = zR d 48 Q 80 (o0 :: o1 :: o2 :: o3 :: o4 :: o5 :: some (.int x) :: l) (.int x :: st) h := q_in rfl rfl
theorem r48_80 : zR d 48 Q 80 lv (.int x :: .ref c :: st) h = zal c x h (fun w => zR d 48 Q 81 lv (.int w :: st) h) := q_iald rfl
theorem r48_81 : zR d 48 Q 81 lv (.int z :: .int x :: st) h = zR d 48 Q 82 lv (.int (x + z) :: st) h := q_in rfl rfl
theorem r48_82 : zR d 48 Q 82 lv [.int x1, .int x0, .ref c] h = (zcls c = 5 ∧ zM d 45 [.ref c, .int x0, .int x1] h (fun r h' => zR d 48 Q 85 lv (r.toList ++ []) h')) := (q_clV rfl rfl (Nat.le_of_ble_eq_true rfl)).trans (zand_r (Nat.le_of_ble_eq_true rfl))
theorem r48_85 : zR d 48 Q 85 (some (.ref c) :: l) st h = zR d 48 Q 86 (some (.ref c) :: l) (.ref c :: st) h := q_in rfl rfl
theorem r48_86 : zR d 48 Q 86 lv (.ref c :: st) h = (zcls c = 5 ∧ zR d 48 Q 89 lv (.ref (c + 6) :: st) h) := q_and rfl rfl
theorem r48_89 : zR d 48 Q 89 lv st h = zR d 48 Q 90 lv (.int 4 :: st) h := q_in rfl rfl
theorem r48_90 : zR d 48 Q 90 lv (.int x :: .ref c :: st) h = zal c x h (fun w => zR d 48 Q 91 lv (.int w :: st) h) := q_iald rfl
theorem r48_91 : zR d 48 Q 91 lv (.int z :: .int x :: st) h = if x ≤ z then zR d 48 Q 94 lv st h else zR d 48 Q 118 lv st h := q_if rfl rfl
theorem r48_94 : zR d 48 Q 94 (o0 :: o1 :: some (.int x) :: l) st h = zR d 48 Q 95 (o0 :: o1 :: some (.int x) :: l) (.int x :: st) h := q_in rfl rfl
theorem r48_95 : zR d 48 Q 95 lv st h = zR d 48 Q 96 lv (.int 1 :: st) h := q_in rfl rfl
theorem r48_96 : zR d 48 Q 96 (o0 :: o1 :: o2 :: o3 :: o4 :: o5 :: some (.int x) :: l) st h = zR d 48 Q 98 (o0 :: o1 :: o2 :: o3 :: o4 :: o5 :: some (.int x) :: l) (.int x :: st) h := q_in rfl rfl
theorem r48_98 : zR d 48 Q 98 lv (.int z :: .int x :: st) h = zR d 48 Q 99 lv (.int (x <<< (z &&& 31)) :: st) h := q_in rfl rfl
theorem r48_99 : zR d 48 Q 99 lv (.int z :: .int x :: st) h = zR d 48 Q 100 lv (.int (x ||| z) :: st) h := q_in rfl rfl
theorem r48_100 : zR d 48 Q 100 (o0 :: o1 :: o2 :: l) (.int x :: st) h = zR d 48 Q 101 (o0 :: o1 :: some (.int x) :: l) st h := q_in rfl rfl
theorem r48_101 : zR d 48 Q 101 (o0 :: o1 :: o2 :: some (.int x) :: l) st h = zR d 48 Q 102 (o0 :: o1 :: o2 :: some (.int x) :: l) (.int x :: st) h := q_in rfl rfl
theorem r48_102 : zR d 48 Q 102 (o0 :: o1 :: o2 :: o3 :: o4 :: o5 :: o6 :: some (.int x) :: l) st h = zR d 48 Q 104 (o0 :: o1 :: o2 :: o3 :: o4 :: o5 :: o6 :: some (.int x) :: l) (.int x :: st) h := q_in rfl rfl
theorem r48_104 : zR d 48 Q 104 lv (.int z :: .int x :: st) h = zR d 48 Q 105 lv (.int (x - z) :: st) h := q_in rfl rfl
theorem r48_105 : zR d 48 Q 105 (o0 :: o1 :: o2 :: o3 :: l) (.int x :: st) h = zR d 48 Q 106 (o0 :: o1 :: o2 :: some (.int x) :: l) st h := q_in rfl rfl
theorem r48_106 : zR d 48 Q 106 (o0 :: o1 :: o2 :: o3 :: some (.int x) :: l) st h = zR d 48 Q 108 (o0 :: o1 :: o2 :: o3 :: some (.int x) :: l) (.int x :: st) h := q_in rfl rfl
theorem r48_108 : zR d 48 Q 108 (some (.ref c) :: l) st h = zR d 48 Q 109 (some (.ref c) :: l) (.ref c :: st) h := q_in rfl rfl
theorem r48_109 : zR d 48 Q 109 lv (.ref c :: st) h = (zcls c = 5 ∧ zR d 48 Q 112 lv (.ref (c + 2) :: st) h) := q_and rfl rfl
theorem r48_112 : zR d 48 Q 112 (o0 :: o1 :: o2 :: o3 :: o4 :: o5 :: some (.int x) :: l) st h = zR d 48 Q 114 (o0 :: o1 :: o2 :: o3 :: o4 :: o5 :: some (.int x) :: l) (.int x :: st) h := q_in rfl rfl
theorem r48_114 : zR d 48 Q 114 lv (.int x :: .ref c :: st) h = zal c x h (fun w => zR d 48 Q 115 lv (.int w :: st) h) := q_iald rfl
theorem r48_115 : zR d 48 Q 115 lv (.int z :: .int x :: st) h = zR d 48 Q 116 lv (.int (x + z) :: st) h := q_in rfl rfl
theorem r48_116 : zR d 48 Q 116 (o0 :: o1 :: o2 :: o3 :: o4 :: l) (.int x :: st) h = zR d 48 Q 118 (o0 :: o1 :: o2 :: o3 :: some (.int x) :: l) st h := q_in rfl rfl
theorem r48_118 : zR d 48 Q 118 (o0 :: o1 :: o2 :: o3 :: o4 :: some (.int x) :: l) st h = zR d 48 Q 121 (o0 :: o1 :: o2 :: o3 :: o4 :: some (.int (x + 1)) :: l) st h := q_in rfl rfl
theorem r48_121 : zR d 48 Q 121 lv st h = zR d 48 Q 17 lv st h := q_in rfl rfl
theorem r48_124 : zR d 48 Q 124 (o0 :: o1 :: some (.int x) :: l) st h = zR d 48 Q 125 (o0 :: o1 :: some (.int x) :: l) (.int x :: st) h := q_in rfl rfl
theorem r48_125 : zR d 48 Q 125 lv [.int x] h = Q (some (.int x)) h := q_retz rfl rfl (Or.inl rfl)
theorem r49_0 : zR d 49 Q 0 lv st h = zR d 49 Q 1 lv (.int (-1) :: st) h := q_in rfl rfl
theorem r49_1 : zR d 49 Q 1 (o0 :: o1 :: o2 :: l) (.int x :: st) h = zR d 49 Q 2 (o0 :: o1 :: some (.int x) :: l) st h := q_in rfl rfl
theorem r49_2 : zR d 49 Q 2 lv st h = zR d 49 Q 3 lv (.int 0 :: st) h := q_in rfl rfl
theorem r49_3 : zR d 49 Q 3 (o0 :: o1 :: o2 :: o3 :: l) (.int x :: st) h = zR d 49 Q 4 (o0 :: o1 :: o2 :: some (.int x) :: l) st h := q_in rfl rfl
theorem r49_4 : zR d 49 Q 4 lv st h = zR d 49 Q 5 lv (.int 0 :: st) h := q_in rfl rfl
theorem r49_5 : zR d 49 Q 5 (o0 :: o1 :: o2 :: o3 :: o4 :: l) (.int x :: st) h = zR d 49 Q 7 (o0 :: o1 :: o2 :: o3 :: some (.int x) :: l) st h := q_in rfl rfl
theorem r49_7 : zR d 49 Q 7 (o0 :: o1 :: o2 :: o3 :: some (.int x) :: l) st h = zR d 49 Q 9 (o0 :: o1 :: o2 :: o3 :: some (.int x) :: l) (.int x :: st) h := q_in rfl rfl
theorem r49_9 : zR d 49 Q 9 (some (.ref c) :: l) st h = zR d 49 Q 10 (some (.ref c) :: l) (.ref c :: st) h := q_in rfl rfl
theorem r49_10 : zR d 49 Q 10 lv (.ref c :: st) h = (zcls c = 5 ∧ zR d 49 Q 13 lv (.int (h c 1) :: st) h) := q_and rfl rfl
theorem r49_13 : zR d 49 Q 13 lv (.int z :: .int x :: st) h = if x < z then zR d 49 Q 16 lv st h else zR d 49 Q 91 lv st h := q_if rfl rfl
theorem r49_16 : zR d 49 Q 16 (some (.ref c) :: l) st h = zR d 49 Q 17 (some (.ref c) :: l) (.ref c :: st) h := q_in rfl rfl
theorem r49_17 : zR d 49 Q 17 lv (.ref c :: st) h = (zcls c = 5 ∧ zR d 49 Q 20 lv (.ref (c + 3) :: st) h) := q_and rfl rfl
theorem r49_20 : zR d 49 Q 20 (o0 :: o1 :: o2 :: o3 :: some (.int x) :: l) st h = zR d 49 Q 22 (o0 :: o1 :: o2 :: o3 :: some (.int x) :: l) (.int x :: st) h := q_in rfl rfl
theorem r49_22 : zR d 49 Q 22 lv (.int x :: .ref c :: st) h = zal c x h (fun w => zR d 49 Q 23 lv (.int w :: st) h) := q_iald rfl
theorem r49_23 : zR d 49 Q 23 (some (.ref c) :: l) st h = zR d 49 Q 24 (some (.ref c) :: l) (.ref c :: st) h := q_in rfl rfl
theorem r49_24 : zR d 49 Q 24 lv (.ref c :: st) h = (zcls c = 5 ∧ zR d 49 Q 27 lv (.ref (c + 6) :: st) h) := q_and rfl rfl
theorem r49_27 : zR d 49 Q 27 lv st h = zR d 49 Q 28 lv (.int 0 :: st) h := q_in rfl rfl
theorem r49_28 : zR d 49 Q 28 lv (.int x :: .ref c :: st) h = zal c x h (fun w => zR d 49 Q 29 lv (.int w :: st) h) := q_iald rfl
theorem r49_29 : zR d 49 Q 29 lv (.int z :: .int x :: st) h = if x = z then zR d 49 Q 32 lv st h else zR d 49 Q 85 lv st h := q_if rfl rfl
theorem r49_32 : zR d 49 Q 32 (o0 :: some (.int x) :: l) st h = zR d 49 Q 33 (o0 :: some (.int x) :: l) (.int x :: st) h := q_in rfl rfl
theorem r49_33 : zR d 49 Q 33 (o0 :: o1 :: o2 :: o3 :: some (.int x) :: l) st h = zR d 49 Q 35 (o0 :: o1 :: o2 :: o3 :: some (.int x) :: l) (.int x :: st) h := q_in rfl rfl
theorem r49_35 : zR d 49 Q 35 lv (.int z :: .int x :: st) h = zR d 49 Q 36 lv (.int (x >>> (z &&& 31)) :: st) h := q_in rfl rfl
theorem r49_36 : zR d 49 Q 36 lv st h = zR d 49 Q 37 lv (.int 1 :: st) h := q_in rfl rfl
theorem r49_37 : zR d 49 Q 37 lv (.int z :: .int x :: st) h = zR d 49 Q 38 lv (.int (x &&& z) :: st) h := q_in rfl rfl
theorem r49_38 : zR d 49 Q 38 lv (.int x :: st) h = if x = 0 then zR d 49 Q 41 lv st h else zR d 49 Q 85 lv st h := q_if rfl rfl
theorem r49_41 : zR d 49 Q 41 (o0 :: o1 :: o2 :: o3 :: some (.int x) :: l) st h = zR d 49 Q 43 (o0 :: o1 :: o2 :: o3 :: some (.int x) :: l) (.int x :: st) h := q_in rfl rfl
theorem r49_43 : zR d 49 Q 43 (some (.ref c) :: l) st h = zR d 49 Q 44 (some (.ref c) :: l) (.ref c :: st) h := q_in rfl rfl
theorem r49_44 : zR d 49 Q 44 lv (.ref c :: st) h = (zcls c = 5 ∧ zR d 49 Q 47 lv (.int (h c 14) :: st) h) := q_and rfl rfl
theorem r49_47 : zR d 49 Q 47 lv (.int z :: .int x :: st) h = if x = z then zR d 49 Q 85 lv st h else zR d 49 Q 50 lv st h := q_if rfl rfl
theorem r49_50 : zR d 49 Q 50 (some (.ref c) :: l) st h = zR d 49 Q 51 (some (.ref c) :: l) (.ref c :: st) h := q_in rfl rfl
theorem r49_51 : zR d 49 Q 51 lv (.ref c :: st) h = (zcls c = 5 ∧ zR d 49 Q 54 lv (.ref (c + 1) :: st) h) := q_and rfl rfl
theorem r49_54 : zR d 49 Q 54 (o0 :: o1 :: o2 :: o3 :: some (.int x) :: l) st h = zR d 49 Q 56 (o0 :: o1 :: o2 :: o3 :: some (.int x) :: l) (.int x :: st) h := q_in rfl rfl
theorem r49_56 : zR d 49 Q 56 lv (.int x :: .ref c :: st) h = zal c x h (fun w => zR d 49 Q 57 lv (.int w :: st) h) := q_iald rfl
theorem r49_57 : zR d 49 Q 57 (some (.ref c) :: l) st h = zR d 49 Q 58 (some (.ref c) :: l) (.ref c :: st) h := q_in rfl rfl
theorem r49_58 : zR d 49 Q 58 lv (.ref c :: st) h = (zcls c = 5 ∧ zR d 49 Q 61 lv (.ref (c + 4) :: st) h) := q_and rfl rfl
theorem r49_61 : zR d 49 Q 61 (o0 :: o1 :: o2 :: o3 :: some (.int x) :: l) st h = zR d 49 Q 63 (o0 :: o1 :: o2 :: o3 :: some (.int x) :: l) (.int x :: st) h := q_in rfl rfl
theorem r49_63 : zR d 49 Q 63 lv (.int x :: .ref c :: st) h = zal c x h (fun w => zR d 49 Q 64 lv (.int w :: st) h) := q_iald rfl
theorem r49_64 : zR d 49 Q 64 lv [.int x1, .int x0] h = zM d 4 [.int x0, .int x1] h (fun r h' => zR d 49 Q 67 lv (r.toList ++ []) h') := q_clS rfl rfl ⟨Nat.le_of_ble_eq_true rfl, Nat.le_of_ble_eq_true rfl⟩
theorem r49_67 : zR d 49 Q 67 (o0 :: o1 :: o2 :: o3 :: o4 :: o5 :: l) (.int x :: st) h = zR d 49 Q 69 (o0 :: o1 :: o2 :: o3 :: o4 :: some (.int x) :: l) st h := q_in rfl rfl
theorem r49_69 : zR d 49 Q 69 (o0 :: o1 :: some (.int x) :: l) st h = zR d 49 Q 70 (o0 :: o1 :: some (.int x) :: l) (.int x :: st) h := q_in rfl rfl
theorem r49_70 : zR d 49 Q 70 lv (.int x :: st) h = if x < 0 then zR d 49 Q 79 lv st h else zR d 49 Q 73 lv st h := q_if rfl rfl
theorem r49_73 : zR d 49 Q 73 (o0 :: o1 :: o2 :: o3 :: o4 :: some (.int x) :: l) st h = zR d 49 Q 75 (o0 :: o1 :: o2 :: o3 :: o4 :: some (.int x) :: l) (.int x :: st) h := q_in rfl rfl
theorem r49_75 : zR d 49 Q 75 (o0 :: o1 :: o2 :: some (.int x) :: l) st h = zR d 49 Q 76 (o0 :: o1 :: o2 :: some (.int x) :: l) (.int x :: st) h := q_in rfl rfl
theorem r49_76 : zR d 49 Q 76 lv (.int z :: .int x :: st) h = if x ≤ z then zR d 49 Q 85 lv st h else zR d 49 Q 79 lv st h := q_if rfl rfl
theorem r49_79 : zR d 49 Q 79 (o0 :: o1 :: o2 :: o3 :: some (.int x) :: l) st h = zR d 49 Q 81 (o0 :: o1 :: o2 :: o3 :: some (.int x) :: l) (.int x :: st) h := q_in rfl rfl
theorem r49_81 : zR d 49 Q 81 (o0 :: o1 :: o2 :: l) (.int x :: st) h = zR d 49 Q 82 (o0 :: o1 :: some (.int x) :: l) st h := q_in rfl rfl
theorem r49_82 : zR d 49 Q 82 (o0 :: o1 :: o2 :: o3 :: o4 :: some (.int x) :: l) st h = zR d 49 Q 84 (o0 :: o1 :: o2 :: o3 :: o4 :: some (.int x) :: l) (.int x :: st) h := q_in rfl rfl
theorem r49_84 : zR d 49 Q 84 (o0 :: o1 :: o2 :: o3 :: l) (.int x :: st) h = zR d 49 Q 85 (o0 :: o1 :: o2 :: some (.int x) :: l) st h := q_in rfl rfl
theorem r49_85 : zR d 49 Q 85 (o0 :: o1 :: o2 :: o3 :: some (.int x) :: l) st h = zR d 49 Q 88 (o0 :: o1 :: o2 :: o3 :: some (.int (x + 1)) :: l) st h := q_in rfl rfl
theorem r49_88 : zR d 49 Q 88 lv st h = zR d 49 Q 7 lv st h := q_in rfl rfl
theorem r49_91 : zR d 49 Q 91 (o0 :: o1 :: some (.int x) :: l) st h = zR d 49 Q 92 (o0 :: o1 :: some (.int x) :: l) (.int x :: st) h := q_in rfl rfl
theorem r49_92 : zR d 49 Q 92 lv [.int x] h = Q (some (.int x)) h := q_retz rfl rfl (Or.inl rfl)
theorem r50_0 : zR d 50 Q 0 (some (.ref c) :: l) st h = zR d 50 Q 1 (some (.ref c) :: l) (.ref c :: st) h := q_in rfl rfl
theorem r50_1 : zR d 50 Q 1 (some (.ref c) :: l) st h = zR d 50 Q 2 (some (.ref c) :: l) (.ref c :: st) h := q_in rfl rfl
theorem r50_2 : zR d 50 Q 2 lv (.ref c :: st) h = (zcls c = 5 ∧ zR d 50 Q 5 lv (.ref (c + 6) :: st) h) := q_and rfl rfl
theorem r50_5 : zR d 50 Q 5 lv st h = zR d 50 Q 6 lv (.int 0 :: st) h := q_in rfl rfl
theorem r50_6 : zR d 50 Q 6 lv (.int x :: .ref c :: st) h = zal c x h (fun w => zR d 50 Q 7 lv (.int w :: st) h) := q_iald rfl
theorem r50_7 : zR d 50 Q 7 lv [.int x0, .ref c] h = (zcls c = 5 ∧ zM d 51 [.ref c, .int x0] h (fun r h' => zR d 50 Q 10 lv (r.toList ++ []) h')) := (q_clV rfl rfl (Nat.le_of_ble_eq_true rfl)).trans (zand_r (Nat.le_of_ble_eq_true rfl))
theorem r50_10 : zR d 50 Q 10 (o0 :: o1 :: l) (.int x :: st) h = zR d 50 Q 11 (o0 :: some (.int x) :: l) st h := q_in rfl rfl
theorem r50_11 : zR d 50 Q 11 lv st h = zR d 50 Q 12 lv (.int (-1) :: st) h := q_in rfl rfl
theorem r50_12 : zR d 50 Q 12 (o0 :: o1 :: o2 :: l) (.int x :: st) h = zR d 50 Q 13 (o0 :: o1 :: some (.int x) :: l) st h := q_in rfl rfl
theorem r50_13 : zR d 50 Q 13 lv st h = zR d 50 Q 14 lv (.int 0 :: st) h := q_in rfl rfl
theorem r50_14 : zR d 50 Q 14 (o0 :: o1 :: o2 :: o3 :: l) (.int x :: st) h = zR d 50 Q 15 (o0 :: o1 :: o2 :: some (.int x) :: l) st h := q_in rfl rfl
theorem r50_15 : zR d 50 Q 15 lv st h = zR d 50 Q 16 lv (.int 0 :: st) h := q_in rfl rfl
theorem r50_16 : zR d 50 Q 16 (o0 :: o1 :: o2 :: o3 :: o4 :: l) (.int x :: st) h = zR d 50 Q 18 (o0 :: o1 :: o2 :: o3 :: some (.int x) :: l) st h := q_in rfl rfl
theorem r50_18 : zR d 50 Q 18 (o0 :: o1 :: o2 :: o3 :: some (.int x) :: l) st h = zR d 50 Q 20 (o0 :: o1 :: o2 :: o3 :: some (.int x) :: l) (.int x :: st) h := q_in rfl rfl
theorem r50_20 : zR d 50 Q 20 (o0 :: some (.int x) :: l) st h = zR d 50 Q 21 (o0 :: some (.int x) :: l) (.int x :: st) h := q_in rfl rfl
theorem r50_21 : zR d 50 Q 21 lv (.int z :: .int x :: st) h = if x ≤ z then zR d 50 Q 24 lv st h else zR d 50 Q 102 lv st h := q_if rfl rfl
theorem r50_24 : zR d 50 Q 24 (o0 :: o1 :: o2 :: o3 :: some (.int x) :: l) st h = zR d 50 Q 26 (o0 :: o1 :: o2 :: o3 :: some (.int x) :: l) (.int x :: st) h := q_in rfl rfl
theorem r50_26 : zR d 50 Q 26 (o0 :: some (.int x) :: l) st h = zR d 50 Q 27 (o0 :: some (.int x) :: l) (.int x :: st) h := q_in rfl rfl
theorem r50_27 : zR d 50 Q 27 lv st h = zR d 50 Q 28 lv (.int (-1) :: st) h := q_in rfl rfl
theorem r50_28 : zR d 50 Q 28 lv (.int z :: .int x :: st) h = zR d 50 Q 29 lv (.int (x ^^^ z) :: st) h := q_in rfl rfl
theorem r50_29 : zR d 50 Q 29 lv (.int z :: .int x :: st) h = zR d 50 Q 30 lv (.int (x &&& z) :: st) h := q_in rfl rfl
theorem r50_30 : zR d 50 Q 30 lv (.int x :: st) h = if x = 0 then zR d 50 Q 33 lv st h else zR d 50 Q 96 lv st h := q_if rfl rfl
theorem r50_33 : zR d 50 Q 33 (some (.ref c) :: l) st h = zR d 50 Q 34 (some (.ref c) :: l) (.ref c :: st) h := q_in rfl rfl
theorem r50_34 : zR d 50 Q 34 (o0 :: o1 :: o2 :: o3 :: some (.int x) :: l) st h = zR d 50 Q 36 (o0 :: o1 :: o2 :: o3 :: some (.int x) :: l) (.int x :: st) h := q_in rfl rfl
theorem r50_36 : zR d 50 Q 36 lv [.int x0, .ref c] h = (zcls c = 5 ∧ zM d 52 [.ref c, .int x0] h (fun r h' => zR d 50 Q 39 lv (r.toList ++ []) h')) := (q_clV rfl rfl (Nat.le_of_ble_eq_true rfl)).trans (zand_r (Nat.le_of_ble_eq_true rfl))
theorem r50_39 : zR d 50 Q 39 lv (.int x :: st) h = if x = 0 then zR d 50 Q 96 lv st h else zR d 50 Q 42 lv st h := q_if rfl rfl
theorem r50_42 : zR d 50 Q 42 (some (.ref c) :: l) st h = zR d 50 Q 43 (some (.ref c) :: l) (.ref c :: st) h := q_in rfl rfl
theorem r50_43 : zR d 50 Q 43 (o0 :: o1 :: o2 :: o3 :: some (.int x) :: l) st h = zR d 50 Q 45 (o0 :: o1 :: o2 :: o3 :: some (.int x) :: l) (.int x :: st) h := q_in rfl rfl
theorem r50_45 : zR d 50 Q 45 lv [.int x0, .ref c] h = (zcls c = 5 ∧ zM d 44 [.ref c, .int x0] h (fun r h' => zR d 50 Q 48 lv (r.toList ++ []) h')) := (q_clV rfl rfl (Nat.le_of_ble_eq_true rfl)).trans (zand_r (Nat.le_of_ble_eq_true rfl))
theorem r50_48 : zR d 50 Q 48 (o0 :: o1 :: o2 :: o3 :: o4 :: o5 :: l) (.int x :: st) h = zR d 50 Q 50 (o0 :: o1 :: o2 :: o3 :: o4 :: some (.int x) :: l) st h := q_in rfl rfl
theorem r50_50 : zR d 50 Q 50 (o0 :: o1 :: o2 :: o3 :: o4 :: some (.int x) :: l) st h = zR d 50 Q 52 (o0 :: o1 :: o2 :: o3 :: o4 :: some (.int x) :: l) (.int x :: st) h := q_in rfl rfl
theorem r50_52 : zR d 50 Q 52 (o0 :: o1 :: o2 :: some (.int x) :: l) st h = zR d 50 Q 53 (o0 :: o1 :: o2 :: some (.int x) :: l) (.int x :: st) h := q_in rfl rfl
theorem r50_53 : zR d 50 Q 53 lv (.int z :: .int x :: st) h = if x = z then zR d 50 Q 56 lv st h else zR d 50 Q 72 lv st h := q_if rfl rfl
theorem r50_56 : zR d 50 Q 56 (o0 :: o1 :: o2 :: o3 :: some (.int x) :: l) st h = zR d 50 Q 58 (o0 :: o1 :: o2 :: o3 :: some (.int x) :: l) (.int x :: st) h := q_in rfl rfl
theorem r50_58 : zR d 50 Q 58 lv [.int x0] h = zM d 201 [.int x0] h (fun r h' => zR d 50 Q 61 lv (r.toList ++ []) h') := q_clS rfl rfl ⟨Nat.le_of_ble_eq_true rfl, Nat.le_of_ble_eq_true rfl⟩
theorem r50_61 : zR d 50 Q 61 (o0 :: o1 :: some (.int x) :: l) st h = zR d 50 Q 62 (o0 :: o1 :: some (.int x) :: l) (.int x :: st) h := q_in rfl rfl
theorem r50_62 : zR d 50 Q 62 lv [.int x0, .int y0] h = zM d 201 [.int x0] h (fun r h' => zR d 50 Q 65 lv (r.toList ++ [.int y0]) h') := q_clS rfl rfl ⟨Nat.le_of_ble_eq_true rfl, Nat.le_of_ble_eq_true rfl⟩
theorem r50_65 : zR d 50 Q 65 lv (.int z :: .int x :: st) h = if x < z then zR d 50 Q 68 lv st h else zR d 50 Q 72 lv st h := q_if rfl rfl
theorem r50_68 : zR d 50 Q 68 lv st h = zR d 50 Q 69 lv (.int 1 :: st) h := q_in rfl rfl
theorem r50_69 : zR d 50 Q 69 lv st h = zR d 50 Q 73 lv st h := q_in rfl rfl
theorem r50_72 : zR d 50 Q 72 lv st h = zR d 50 Q 73 lv (.int 0 :: st) h := q_in rfl rfl
theorem r50_73 : zR d 50 Q 73 (o0 :: o1 :: o2 :: o3 :: o4 :: o5 :: o6 :: l) (.int x :: st) h = zR d 50 Q 75 (o0 :: o1 :: o2 :: o3 :: o4 :: o5 :: some (.int x) :: l) st h := q_in rfl rfl
theorem r50_75 : zR d 50 Q 75 (o0 :: o1 :: some (.int x) :: l) st h = zR d 50 Q 76 (o0 :: o1 :: some (.int x) :: l) (.int x :: st) h := q_in rfl rfl
theorem r50_76 : zR d 50 Q 76 lv (.int x :: st) h = if x < 0 then zR d 50 Q 90 lv st h else zR d 50 Q 79 lv st h := q_if rfl rfl
theorem r50_79 : zR d 50 Q 79 (o0 :: o1 :: o2 :: o3 :: o4 :: some (.int x) :: l) st h = zR d 50 Q 81 (o0 :: o1 :: o2 :: o3 :: o4 :: some (.int x) :: l) (.int x :: st) h := q_in rfl rfl
theorem r50_81 : zR d 50 Q 81 (o0 :: o1 :: o2 :: some (.int x) :: l) st h = zR d 50 Q 82 (o0 :: o1 :: o2 :: some (.int x) :: l) (.int x :: st) h := q_in rfl rfl
theorem r50_82 : zR d 50 Q 82 lv (.int z :: .int x :: st) h = if x ≤ z then zR d 50 Q 85 lv st h else zR d 50 Q 90 lv st h := q_if rfl rfl
theorem r50_85 : zR d 50 Q 85 (o0 :: o1 :: o2 :: o3 :: o4 :: o5 :: some (.int x) :: l) st h = zR d 50 Q 87 (o0 :: o1 :: o2 :: o3 :: o4 :: o5 :: some (.int x) :: l) (.int x :: st) h := q_in rfl rfl
theorem r50_87 : zR d 50 Q 87 lv (.int x :: st) h = if x = 0 then zR d 50 Q 96 lv st h else zR d 50 Q 90 lv st h := q_if rfl rfl
theorem r50_90 : zR d 50 Q 90 (o0 :: o1 :: o2 :: o3 :: some (.int x) :: l) st h = zR d 50 Q 92 (o0 :: o1 :: o2 :: o3 :: some (.int x) :: l) (.int x :: st) h := q_in rfl rfl
theorem r50_92 : zR d 50 Q 92 (o0 :: o1 :: o2 :: l) (.int x :: st) h = zR d 50 Q 93 (o0 :: o1 :: some (.int x) :: l) st h := q_in rfl rfl
theorem r50_93 : zR d 50 Q 93 (o0 :: o1 :: o2 :: o3 :: o4 :: some (.int x) :: l) st h = zR d 50 Q 95 (o0 :: o1 :: o2 :: o3 :: o4 :: some (.int x) :: l) (.int x :: st) h := q_in rfl rfl
theorem r50_95 : zR d 50 Q 95 (o0 :: o1 :: o2 :: o3 :: l) (.int x :: st) h = zR d 50 Q 96 (o0 :: o1 :: o2 :: some (.int x) :: l) st h := q_in rfl rfl
theorem r50_96 : zR d 50 Q 96 (o0 :: o1 :: o2 :: o3 :: some (.int x) :: l) st h = zR d 50 Q 99 (o0 :: o1 :: o2 :: o3 :: some (.int (x + 1)) :: l) st h := q_in rfl rfl
theorem r50_99 : zR d 50 Q 99 lv st h = zR d 50 Q 18 lv st h := q_in rfl rfl
theorem r50_102 : zR d 50 Q 102 (o0 :: o1 :: some (.int x) :: l) st h = zR d 50 Q 103 (o0 :: o1 :: some (.int x) :: l) (.int x :: st) h := q_in rfl rfl
theorem r50_103 : zR d 50 Q 103 lv [.int x] h = Q (some (.int x)) h := q_retz rfl rfl (Or.inl rfl)
theorem r51_0 : zR d 51 Q 0 lv st h = zR d 51 Q 1 lv (.int 0 :: st) h := q_in rfl rfl
theorem r51_1 : zR d 51 Q 1 (o0 :: o1 :: o2 :: l) (.int x :: st) h = zR d 51 Q 2 (o0 :: o1 :: some (.int x) :: l) st h := q_in rfl rfl
theorem r51_2 : zR d 51 Q 2 lv st h = zR d 51 Q 3 lv (.int 0 :: st) h := q_in rfl rfl
theorem r51_3 : zR d 51 Q 3 (o0 :: o1 :: o2 :: o3 :: l) (.int x :: st) h = zR d 51 Q 4 (o0 :: o1 :: o2 :: some (.int x) :: l) st h := q_in rfl rfl
theorem r51_4 : zR d 51 Q 4 (o0 :: o1 :: o2 :: some (.int x) :: l) st h = zR d 51 Q 5 (o0 :: o1 :: o2 :: some (.int x) :: l) (.int x :: st) h := q_in rfl rfl
theorem r51_5 : zR d 51 Q 5 (some (.ref c) :: l) st h = zR d 51 Q 6 (some (.ref c) :: l) (.ref c :: st) h := q_in rfl rfl
theorem r51_6 : zR d 51 Q 6 lv (.ref c :: st) h = (zcls c = 5 ∧ zR d 51 Q 9 lv (.int (h c 1) :: st) h) := q_and rfl rfl
theorem r51_9 : zR d 51 Q 9 lv (.int z :: .int x :: st) h = if x < z then zR d 51 Q 12 lv st h else zR d 51 Q 34 lv st h := q_if rfl rfl
theorem r51_12 : zR d 51 Q 12 (some (.ref c) :: l) st h = zR d 51 Q 13 (some (.ref c) :: l) (.ref c :: st) h := q_in rfl rfl
theorem r51_13 : zR d 51 Q 13 lv (.ref c :: st) h = (zcls c = 5 ∧ zR d 51 Q 16 lv (.ref (c + 3) :: st) h) := q_and rfl rfl
theorem r51_16 : zR d 51 Q 16 (o0 :: o1 :: o2 :: some (.int x) :: l) st h = zR d 51 Q 17 (o0 :: o1 :: o2 :: some (.int x) :: l) (.int x :: st) h := q_in rfl rfl
theorem r51_17 : zR d 51 Q 17 lv (.int x :: .ref c :: st) h = zal c x h (fun w => zR d 51 Q 18 lv (.int w :: st) h) := q_iald rfl
theorem r51_18 : zR d 51 Q 18 (o0 :: some (.int x) :: l) st h = zR d 51 Q 19 (o0 :: some (.int x) :: l) (.int x :: st) h := q_in rfl rfl
theorem r51_19 : zR d 51 Q 19 lv (.int z :: .int x :: st) h = if x = z then zR d 51 Q 22 lv st h else zR d 51 Q 28 lv st h := q_if rfl rfl
theorem r51_22 : zR d 51 Q 22 (o0 :: o1 :: some (.int x) :: l) st h = zR d 51 Q 23 (o0 :: o1 :: some (.int x) :: l) (.int x :: st) h := q_in rfl rfl
theorem r51_23 : zR d 51 Q 23 lv st h = zR d 51 Q 24 lv (.int 1 :: st) h := q_in rfl rfl
theorem r51_24 : zR d 51 Q 24 (o0 :: o1 :: o2 :: some (.int x) :: l) st h = zR d 51 Q 25 (o0 :: o1 :: o2 :: some (.int x) :: l) (.int x :: st) h := q_in rfl rfl
theorem r51_25 : zR d 51 Q 25 lv (.int z :: .int x :: st) h = zR d 51 Q 26 lv (.int (x <<< (z &&& 31)) :: st) h := q_in rfl rfl
theorem r51_26 : zR d 51 Q 26 lv (.int z :: .int x :: st) h = zR d 51 Q 27 lv (.int (x ||| z) :: st) h := q_in rfl rfl
theorem r51_27 : zR d 51 Q 27 (o0 :: o1 :: o2 :: l) (.int x :: st) h = zR d 51 Q 28 (o0 :: o1 :: some (.int x) :: l) st h := q_in rfl rfl
theorem r51_28 : zR d 51 Q 28 (o0 :: o1 :: o2 :: some (.int x) :: l) st h = zR d 51 Q 31 (o0 :: o1 :: o2 :: some (.int (x + 1)) :: l) st h := q_in rfl rfl
theorem r51_31 : zR d 51 Q 31 lv st h = zR d 51 Q 4 lv st h := q_in rfl rfl
theorem r51_34 : zR d 51 Q 34 (o0 :: o1 :: some (.int x) :: l) st h = zR d 51 Q 35 (o0 :: o1 :: some (.int x) :: l) (.int x :: st) h := q_in rfl rfl
theorem r51_35 : zR d 51 Q 35 lv [.int x] h = Q (some (.int x)) h := q_retz rfl rfl (Or.inl rfl)
theorem r52_0 : zR d 52 Q 0 lv st h = zR d 52 Q 1 lv (.int 0 :: st) h := q_in rfl rfl
theorem r52_1 : zR d 52 Q 1 (o0 :: o1 :: o2 :: l) (.int x :: st) h = zR d 52 Q 2 (o0 :: o1 :: some (.int x) :: l) st h := q_in rfl rfl
theorem r52_2 : zR d 52 Q 2 lv st h = zR d 52 Q 3 lv (.int 0 :: st) h := q_in rfl rfl
theorem r52_3 : zR d 52 Q 3 (o0 :: o1 :: o2 :: o3 :: l) (.int x :: st) h = zR d 52 Q 4 (o0 :: o1 :: o2 :: some (.int x) :: l) st h := q_in rfl rfl
theorem r52_4 : zR d 52 Q 4 lv st h = zR d 52 Q 5 lv (.int 0 :: st) h := q_in rfl rfl
theorem r52_5 : zR d 52 Q 5 (o0 :: o1 :: o2 :: o3 :: o4 :: l) (.int x :: st) h = zR d 52 Q 7 (o0 :: o1 :: o2 :: o3 :: some (.int x) :: l) st h := q_in rfl rfl
theorem r52_7 : zR d 52 Q 7 (o0 :: o1 :: o2 :: o3 :: some (.int x) :: l) st h = zR d 52 Q 9 (o0 :: o1 :: o2 :: o3 :: some (.int x) :: l) (.int x :: st) h := q_in rfl rfl
theorem r52_9 : zR d 52 Q 9 (some (.ref c) :: l) st h = zR d 52 Q 10 (some (.ref c) :: l) (.ref c :: st) h := q_in rfl rfl
theorem r52_10 : zR d 52 Q 10 lv (.ref c :: st) h = (zcls c = 5 ∧ zR d 52 Q 13 lv (.int (h c 1) :: st) h) := q_and rfl rfl
theorem r52_13 : zR d 52 Q 13 lv (.int z :: .int x :: st) h = if x < z then zR d 52 Q 16 lv st h else zR d 52 Q 55 lv st h := q_if rfl rfl
theorem r52_16 : zR d 52 Q 16 (o0 :: some (.int x) :: l) st h = zR d 52 Q 17 (o0 :: some (.int x) :: l) (.int x :: st) h := q_in rfl rfl
theorem r52_17 : zR d 52 Q 17 (o0 :: o1 :: o2 :: o3 :: some (.int x) :: l) st h = zR d 52 Q 19 (o0 :: o1 :: o2 :: o3 :: some (.int x) :: l) (.int x :: st) h := q_in rfl rfl
theorem r52_19 : zR d 52 Q 19 lv (.int z :: .int x :: st) h = zR d 52 Q 20 lv (.int (x >>> (z &&& 31)) :: st) h := q_in rfl rfl
theorem r52_20 : zR d 52 Q 20 lv st h = zR d 52 Q 21 lv (.int 1 :: st) h := q_in rfl rfl
theorem r52_21 : zR d 52 Q 21 lv (.int z :: .int x :: st) h = zR d 52 Q 22 lv (.int (x &&& z) :: st) h := q_in rfl rfl
theorem r52_22 : zR d 52 Q 22 lv st h = zR d 52 Q 23 lv (.int 1 :: st) h := q_in rfl rfl
theorem r52_23 : zR d 52 Q 23 lv (.int z :: .int x :: st) h = if x = z then zR d 52 Q 26 lv st h else zR d 52 Q 49 lv st h := q_if rfl rfl
theorem r52_26 : zR d 52 Q 26 (o0 :: o1 :: some (.int x) :: l) st h = zR d 52 Q 27 (o0 :: o1 :: some (.int x) :: l) (.int x :: st) h := q_in rfl rfl
theorem r52_27 : zR d 52 Q 27 (some (.ref c) :: l) st h = zR d 52 Q 28 (some (.ref c) :: l) (.ref c :: st) h := q_in rfl rfl
theorem r52_28 : zR d 52 Q 28 lv (.ref c :: st) h = (zcls c = 5 ∧ zR d 52 Q 31 lv (.ref (c + 1) :: st) h) := q_and rfl rfl
theorem r52_31 : zR d 52 Q 31 (o0 :: o1 :: o2 :: o3 :: some (.int x) :: l) st h = zR d 52 Q 33 (o0 :: o1 :: o2 :: o3 :: some (.int x) :: l) (.int x :: st) h := q_in rfl rfl
theorem r52_33 : zR d 52 Q 33 lv (.int x :: .ref c :: st) h = zal c x h (fun w => zR d 52 Q 34 lv (.int w :: st) h) := q_iald rfl
theorem r52_34 : zR d 52 Q 34 lv [.int x0, .int y0] h = zM d 3 [.int x0] h (fun r h' => zR d 52 Q 37 lv (r.toList ++ [.int y0]) h') := q_clS rfl rfl ⟨Nat.le_of_ble_eq_true rfl, Nat.le_of_ble_eq_true rfl⟩
theorem r52_37 : zR d 52 Q 37 lv (.int z :: .int x :: st) h = zR d 52 Q 38 lv (.int (x + z) :: st) h := q_in rfl rfl
theorem r52_38 : zR d 52 Q 38 (o0 :: o1 :: o2 :: l) (.int x :: st) h = zR d 52 Q 39 (o0 :: o1 :: some (.int x) :: l) st h := q_in rfl rfl
theorem r52_39 : zR d 52 Q 39 (o0 :: o1 :: o2 :: some (.int x) :: l) st h = zR d 52 Q 40 (o0 :: o1 :: o2 :: some (.int x) :: l) (.int x :: st) h := q_in rfl rfl
theorem r52_40 : zR d 52 Q 40 (some (.ref c) :: l) st h = zR d 52 Q 41 (some (.ref c) :: l) (.ref c :: st) h := q_in rfl rfl
theorem r52_41 : zR d 52 Q 41 lv (.ref c :: st) h = (zcls c = 5 ∧ zR d 52 Q 44 lv (.ref (c + 2) :: st) h) := q_and rfl rfl
theorem r52_44 : zR d 52 Q 44 (o0 :: o1 :: o2 :: o3 :: some (.int x) :: l) st h = zR d 52 Q 46 (o0 :: o1 :: o2 :: o3 :: some (.int x) :: l) (.int x :: st) h := q_in rfl rfl
theorem r52_46 : zR d 52 Q 46 lv (.int x :: .ref c :: st) h = zal c x h (fun w => zR d 52 Q 47 lv (.int w :: st) h) := q_iald rfl
theorem r52_47 : zR d 52 Q 47 lv (.int z :: .int x :: st) h = zR d 52 Q 48 lv (.int (x + z) :: st) h := q_in rfl rfl
theorem r52_48 : zR d 52 Q 48 (o0 :: o1 :: o2 :: o3 :: l) (.int x :: st) h = zR d 52 Q 49 (o0 :: o1 :: o2 :: some (.int x) :: l) st h := q_in rfl rfl
theorem r52_49 : zR d 52 Q 49 (o0 :: o1 :: o2 :: o3 :: some (.int x) :: l) st h = zR d 52 Q 52 (o0 :: o1 :: o2 :: o3 :: some (.int (x + 1)) :: l) st h := q_in rfl rfl
theorem r52_52 : zR d 52 Q 52 lv st h = zR d 52 Q 7 lv st h := q_in rfl rfl
theorem r52_55 : zR d 52 Q 55 (o0 :: o1 :: some (.int x) :: l) st h = zR d 52 Q 56 (o0 :: o1 :: some (.int x) :: l) (.int x :: st) h := q_in rfl rfl
theorem r52_56 : zR d 52 Q 56 (some (.ref c) :: l) st h = zR d 52 Q 57 (some (.ref c) :: l) (.ref c :: st) h := q_in rfl rfl
theorem r52_57 : zR d 52 Q 57 lv (.ref c :: st) h = (zcls c = 5 ∧ zR d 52 Q 60 lv (.ref (c + 6) :: st) h) := q_and rfl rfl
theorem r52_60 : zR d 52 Q 60 lv st h = zR d 52 Q 61 lv (.int 2 :: st) h := q_in rfl rfl
theorem r52_61 : zR d 52 Q 61 lv (.int x :: .ref c :: st) h = zal c x h (fun w => zR d 52 Q 62 lv (.int w :: st) h) := q_iald rfl
theorem r52_62 : zR d 52 Q 62 lv (.int z :: .int x :: st) h = if x ≤ z then zR d 52 Q 65 lv st h else zR d 52 Q 89 lv st h := q_if rfl rfl
theorem r52_65 : zR d 52 Q 65 (some (.ref c) :: l) st h = zR d 52 Q 66 (some (.ref c) :: l) (.ref c :: st) h := q_in rfl rfl
theorem r52_66 : zR d 52 Q 66 (some (.ref c) :: l) st h = zR d 52 Q 67 (some (.ref c) :: l) (.ref c :: st) h := q_in rfl rfl
theorem r52_67 : zR d 52 Q 67 lv (.ref c :: st) h = (zcls c = 5 ∧ zR d 52 Q 70 lv (.ref (c + 6) :: st) h) := q_and rfl rfl
theorem r52_70 : zR d 52 Q 70 lv st h = zR d 52 Q 71 lv (.int 3 :: st) h := q_in rfl rfl
theorem r52_71 : zR d 52 Q 71 lv (.int x :: .ref c :: st) h = zal c x h (fun w => zR d 52 Q 72 lv (.int w :: st) h) := q_iald rfl
theorem r52_72 : zR d 52 Q 72 (o0 :: o1 :: o2 :: some (.int x) :: l) st h = zR d 52 Q 73 (o0 :: o1 :: o2 :: some (.int x) :: l) (.int x :: st) h := q_in rfl rfl
theorem r52_73 : zR d 52 Q 73 lv [.int x1, .int x0, .ref c] h = (zcls c = 5 ∧ zM d 45 [.ref c, .int x0, .int x1] h (fun r h' => zR d 52 Q 76 lv (r.toList ++ []) h')) := (q_clV rfl rfl (Nat.le_of_ble_eq_true rfl)).trans (zand_r (Nat.le_of_ble_eq_true rfl))
theorem r52_76 : zR d 52 Q 76 (some (.ref c) :: l) st h = zR d 52 Q 77 (some (.ref c) :: l) (.ref c :: st) h := q_in rfl rfl
theorem r52_77 : zR d 52 Q 77 lv (.ref c :: st) h = (zcls c = 5 ∧ zR d 52 Q 80 lv (.ref (c + 6) :: st) h) := q_and rfl rfl
theorem r52_80 : zR d 52 Q 80 lv st h = zR d 52 Q 81 lv (.int 4 :: st) h := q_in rfl rfl
theorem r52_81 : zR d 52 Q 81 lv (.int x :: .ref c :: st) h = zal c x h (fun w => zR d 52 Q 82 lv (.int w :: st) h) := q_iald rfl
theorem r52_82 : zR d 52 Q 82 lv (.int z :: .int x :: st) h = if x ≤ z then zR d 52 Q 85 lv st h else zR d 52 Q 89 lv st h := q_if rfl rfl
theorem r52_85 : zR d 52 Q 85 lv st h = zR d 52 Q 86 lv (.int 1 :: st) h := q_in rfl rfl
theorem r52_86 : zR d 52 Q 86 lv st h = zR d 52 Q 90 lv st h := q_in rfl rfl
theorem r52_89 : zR d 52 Q 89 lv st h = zR d 52 Q 90 lv (.int 0 :: st) h := q_in rfl rfl
theorem r52_90f : zR d 52 Q 90 lv [.int 0] h = Q (some (.int 0)) h := q_retz rfl rfl (Or.inr (Or.inl rfl))
theorem r52_90t : zR d 52 Q 90 lv [.int 1] h = Q (some (.int 1)) h := q_retz rfl rfl (Or.inr (Or.inr rfl))
theorem r53_0 : zR d 53 Q 0 lv st h = zR d 53 Q 1 lv (.int 0 :: st) h := q_in rfl rfl
theorem r53_1 : zR d 53 Q 1 (o0 :: o1 :: o2 :: l) (.int x :: st) h = zR d 53 Q 2 (o0 :: o1 :: some (.int x) :: l) st h := q_in rfl rfl
theorem r53_2 : zR d 53 Q 2 (o0 :: o1 :: some (.int x) :: l) st h = zR d 53 Q 3 (o0 :: o1 :: some (.int x) :: l) (.int x :: st) h := q_in rfl rfl
theorem r53_3 : zR d 53 Q 3 (o0 :: some (.int x) :: l) st h = zR d 53 Q 4 (o0 :: some (.int x) :: l) (.int x :: st) h := q_in rfl rfl
theorem r53_4 : zR d 53 Q 4 lv (.int z :: .int x :: st) h = if x < z then zR d 53 Q 7 lv st h else zR d 53 Q 17 lv st h := q_if rfl rfl
theorem r53_7 : zR d 53 Q 7 (some (.ref c) :: l) st h = zR d 53 Q 8 (some (.ref c) :: l) (.ref c :: st) h := q_in rfl rfl
theorem r53_8 : zR d 53 Q 8 lv [.ref c] h = (zcls c = 5 ∧ zM d 54 [.ref c] h (fun r h' => zR d 53 Q 11 lv (r.toList ++ []) h')) := (q_clV rfl rfl (Nat.le_of_ble_eq_true rfl)).trans (zand_r (Nat.le_of_ble_eq_true rfl))
theorem r53_11 : zR d 53 Q 11 (o0 :: o1 :: some (.int x) :: l) st h = zR d 53 Q 14 (o0 :: o1 :: some (.int (x + 1)) :: l) st h := q_in rfl rfl
theorem r53_14 : zR d 53 Q 14 lv st h = zR d 53 Q 2 lv st h := q_in rfl rfl
theorem r53_17 : zR d 53 Q 17 lv [] h = Q none h := q_ret rfl rfl
theorem r54_0 : zR d 54 Q 0 lv st h = zR d 54 Q 1 lv (.int 0 :: st) h := q_in rfl rfl
theorem r54_1 : zR d 54 Q 1 (o0 :: o1 :: l) (.int x :: st) h = zR d 54 Q 2 (o0 :: some (.int x) :: l) st h := q_in rfl rfl
theorem r54_2 : zR d 54 Q 2 (some (.ref c) :: l) st h = zR d 54 Q 3 (some (.ref c) :: l) (.ref c :: st) h := q_in rfl rfl
theorem r54_3 : zR d 54 Q 3 (some (.ref c) :: l) st h = zR d 54 Q 4 (some (.ref c) :: l) (.ref c :: st) h := q_in rfl rfl
theorem r54_4 : zR d 54 Q 4 lv (.ref c :: st) h = (zcls c = 5 ∧ zR d 54 Q 7 lv (.ref (c + 6) :: st) h) := q_and rfl rfl
theorem r54_7 : zR d 54 Q 7 lv st h = zR d 54 Q 8 lv (.int 3 :: st) h := q_in rfl rfl
theorem r54_8 : zR d 54 Q 8 lv (.int x :: .ref c :: st) h = zal c x h (fun w => zR d 54 Q 9 lv (.int w :: st) h) := q_iald rfl
theorem r54_9 : zR d 54 Q 9 lv st h = zR d 54 Q 10 lv (.int 0 :: st) h := q_in rfl rfl
theorem r54_10 : zR d 54 Q 10 lv [.int x1, .int x0, .ref c] h = (zcls c = 5 ∧ zM d 45 [.ref c, .int x0, .int x1] h (fun r h' => zR d 54 Q 13 lv (r.toList ++ []) h')) := (q_clV rfl rfl (Nat.le_of_ble_eq_true rfl)).trans (zand_r (Nat.le_of_ble_eq_true rfl))
theorem r54_13 : zR d 54 Q 13 (some (.ref c) :: l) st h = zR d 54 Q 14 (some (.ref c) :: l) (.ref c :: st) h := q_in rfl rfl
theorem r54_14 : zR d 54 Q 14 lv (.ref c :: st) h = (zcls c = 5 ∧ zR d 54 Q 17 lv (.ref (c + 6) :: st) h) := q_and rfl rfl
theorem r54_17 : zR d 54 Q 17 lv st h = zR d 54 Q 18 lv (.int 4 :: st) h := q_in rfl rfl
theorem r54_18 : zR d 54 Q 18 lv (.int x :: .ref c :: st) h = zal c x h (fun w => zR d 54 Q 19 lv (.int w :: st) h) := q_iald rfl
theorem r54_19 : zR d 54 Q 19 lv (.int z :: .int x :: st) h = if x ≤ z then zR d 54 Q 28 lv st h else zR d 54 Q 22 lv st h := q_if rfl rfl
theorem r54_22 : zR d 54 Q 22 lv st h = zR d 54 Q 24 lv (.int 10 :: st) h := q_in rfl rfl
theorem r54_24 : zR d 54 Q 24 (o0 :: o1 :: o2 :: l) (.int x :: st) h = zR d 54 Q 25 (o0 :: o1 :: some (.int x) :: l) st h := q_in rfl rfl
theorem r54_25 : zR d 54 Q 25 lv st h = zR d 54 Q 69 lv st h := q_in rfl rfl
theorem r54_28 : zR d 54 Q 28 (some (.ref c) :: l) st h = zR d 54 Q 29 (some (.ref c) :: l) (.ref c :: st) h := q_in rfl rfl
theorem r54_29 : zR d 54 Q 29 lv [.ref c] h = (zcls c = 5 ∧ zM d 55 [.ref c] h (fun r h' => zR d 54 Q 32 lv (r.toList ++ []) h')) := (q_clV rfl rfl (Nat.le_of_ble_eq_true rfl)).trans (zand_r (Nat.le_of_ble_eq_true rfl))
theorem r54_32 : zR d 54 Q 32 lv (.int x :: st) h = if x = 0 then zR d 54 Q 40 lv st h else zR d 54 Q 35 lv st h := q_if rfl rfl
theorem r54_35 : zR d 54 Q 35 lv st h = zR d 54 Q 36 lv (.int 5 :: st) h := q_in rfl rfl
theorem r54_36 : zR d 54 Q 36 (o0 :: o1 :: o2 :: l) (.int x :: st) h = zR d 54 Q 37 (o0 :: o1 :: some (.int x) :: l) st h := q_in rfl rfl
theorem r54_37 : zR d 54 Q 37 lv st h = zR d 54 Q 69 lv st h := q_in rfl rfl
theorem r54_40 : zR d 54 Q 40 (some (.ref c) :: l) st h = zR d 54 Q 41 (some (.ref c) :: l) (.ref c :: st) h := q_in rfl rfl
theorem r54_41 : zR d 54 Q 41 lv [.ref c] h = (zcls c = 5 ∧ zM d 48 [.ref c] h (fun r h' => zR d 54 Q 44 lv (r.toList ++ []) h')) := (q_clV rfl rfl (Nat.le_of_ble_eq_true rfl)).trans (zand_r (Nat.le_of_ble_eq_true rfl))
theorem r54_44 : zR d 54 Q 44 (o0 :: o1 :: l) (.int x :: st) h = zR d 54 Q 45 (o0 :: some (.int x) :: l) st h := q_in rfl rfl
theorem r54_45 : zR d 54 Q 45 (some (.ref c) :: l) st h = zR d 54 Q 46 (some (.ref c) :: l) (.ref c :: st) h := q_in rfl rfl
theorem r54_46 : zR d 54 Q 46 lv [.ref c] h = (zcls c = 5 ∧ zM d 47 [.ref c] h (fun r h' => zR d 54 Q 49 lv (r.toList ++ []) h')) := (q_clV rfl rfl (Nat.le_of_ble_eq_true rfl)).trans (zand_r (Nat.le_of_ble_eq_true rfl))
theorem r54_49 : zR d 54 Q 49 (o0 :: o1 :: o2 :: l) (.int x :: st) h = zR d 54 Q 50 (o0 :: o1 :: some (.int x) :: l) st h := q_in rfl rfl
theorem r54_50 : zR d 54 Q 50 (some (.ref c) :: l) st h = zR d 54 Q 51 (some (.ref c) :: l) (.ref c :: st) h := q_in rfl rfl
theorem r54_51 : zR d 54 Q 51 lv (.ref c :: st) h = zR d 54 Q 52 lv (.ref c :: .ref c :: st) h := q_in rfl rfl
theorem r54_52 : zR d 54 Q 52 lv (.ref c :: st) h = (zcls c = 5 ∧ zR d 54 Q 55 lv (.int (h c 9) :: st) h) := q_and rfl rfl
theorem r54_55 : zR d 54 Q 55 (some (.ref c) :: l) st h = zR d 54 Q 56 (some (.ref c) :: l) (.ref c :: st) h := q_in rfl rfl
theorem r54_56 : zR d 54 Q 56 (o0 :: some (.int x) :: l) st h = zR d 54 Q 57 (o0 :: some (.int x) :: l) (.int x :: st) h := q_in rfl rfl
theorem r54_57 : zR d 54 Q 57 lv [.int x0, .ref c, .int y0, .ref a1] h = (zcls c = 5 ∧ zM d 44 [.ref c, .int x0] h (fun r h' => zR d 54 Q 60 lv (r.toList ++ [.int y0, .ref a1]) h')) := (q_clV rfl rfl (Nat.le_of_ble_eq_true rfl)).trans (zand_r (Nat.le_of_ble_eq_true rfl))
theorem r54_60 : zR d 54 Q 60 lv (.int z :: .int x :: st) h = zR d 54 Q 61 lv (.int (x + z) :: st) h := q_in rfl rfl
theorem r54_61 : zR d 54 Q 61 lv (.int x :: .ref c :: st) h = (zcls c = 5 ∧ zR d 54 Q 64 lv st (zhr h c (upd (h c) 9 x))) := (q_and rfl rfl).trans zand_0
theorem r54_64 : zR d 54 Q 64 (some (.ref c) :: l) st h = zR d 54 Q 65 (some (.ref c) :: l) (.ref c :: st) h := q_in rfl rfl
theorem r54_65 : zR d 54 Q 65 (o0 :: some (.int x) :: l) st h = zR d 54 Q 66 (o0 :: some (.int x) :: l) (.int x :: st) h := q_in rfl rfl
theorem r54_66 : zR d 54 Q 66 lv [.int x0, .ref c] h = (zcls c = 5 ∧ zM d 57 [.ref c, .int x0] h (fun r h' => zR d 54 Q 69 lv (r.toList ++ []) h')) := (q_clV rfl rfl (Nat.le_of_ble_eq_true rfl)).trans (zand_r (Nat.le_of_ble_eq_true rfl))
theorem r54_69 : zR d 54 Q 69 (some (.ref c) :: l) st h = zR d 54 Q 70 (some (.ref c) :: l) (.ref c :: st) h := q_in rfl rfl
theorem r54_70 : zR d 54 Q 70 lv (.ref c :: st) h = zR d 54 Q 71 lv (.ref c :: .ref c :: st) h := q_in rfl rfl
theorem r54_71 : zR d 54 Q 71 lv (.ref c :: st) h = (zcls c = 5 ∧ zR d 54 Q 74 lv (.int (h c 8) :: st) h) := q_and rfl rfl
theorem r54_74 : zR d 54 Q 74 (o0 :: o1 :: some (.int x) :: l) st h = zR d 54 Q 75 (o0 :: o1 :: some (.int x) :: l) (.int x :: st) h := q_in rfl rfl
theorem r54_75 : zR d 54 Q 75 lv (.int z :: .int x :: st) h = zR d 54 Q 76 lv (.int (x + z) :: st) h := q_in rfl rfl
theorem r54_76 : zR d 54 Q 76 lv (.int x :: .ref c :: st) h = (zcls c = 5 ∧ zR d 54 Q 79 lv st (zhr h c (upd (h c) 8 x))) := (q_and rfl rfl).trans zand_0
theorem r54_79 : zR d 54 Q 79 lv st h = zR d 54 Q 80 lv (.int 0 :: st) h := q_in rfl rfl
theorem r54_80 : zR d 54 Q 80 (o0 :: o1 :: o2 :: o3 :: l) (.int x :: st) h = zR d 54 Q 81 (o0 :: o1 :: o2 :: some (.int x) :: l) st h := q_in rfl rfl
theorem r54_81 : zR d 54 Q 81 (o0 :: o1 :: o2 :: some (.int x) :: l) st h = zR d 54 Q 82 (o0 :: o1 :: o2 :: some (.int x) :: l) (.int x :: st) h := q_in rfl rfl
theorem r54_82 : zR d 54 Q 82 (some (.ref c) :: l) st h = zR d 54 Q 83 (some (.ref c) :: l) (.ref c :: st) h := q_in rfl rfl
theorem r54_83 : zR d 54 Q 83 lv (.ref c :: st) h = (zcls c = 5 ∧ zR d 54 Q 86 lv (.int (h c 1) :: st) h) := q_and rfl rfl
theorem r54_86 : zR d 54 Q 86 lv (.int z :: .int x :: st) h = if x < z then zR d 54 Q 89 lv st h else zR d 54 Q 113 lv st h := q_if rfl rfl
theorem r54_89 : zR d 54 Q 89 (o0 :: some (.int x) :: l) st h = zR d 54 Q 90 (o0 :: some (.int x) :: l) (.int x :: st) h := q_in rfl rfl
theorem r54_90 : zR d 54 Q 90 (o0 :: o1 :: o2 :: some (.int x) :: l) st h = zR d 54 Q 91 (o0 :: o1 :: o2 :: some (.int x) :: l) (.int x :: st) h := q_in rfl rfl
theorem r54_91 : zR d 54 Q 91 lv (.int z :: .int x :: st) h = zR d 54 Q 92 lv (.int (x >>> (z &&& 31)) :: st) h := q_in rfl rfl
theorem r54_92 : zR d 54 Q 92 lv st h = zR d 54 Q 93 lv (.int 1 :: st) h := q_in rfl rfl
theorem r54_93 : zR d 54 Q 93 lv (.int z :: .int x :: st) h = zR d 54 Q 94 lv (.int (x &&& z) :: st) h := q_in rfl rfl
theorem r54_94 : zR d 54 Q 94 lv (.int x :: st) h = if x = 0 then zR d 54 Q 97 lv st h else zR d 54 Q 107 lv st h := q_if rfl rfl
theorem r54_97 : zR d 54 Q 97 (some (.ref c) :: l) st h = zR d 54 Q 98 (some (.ref c) :: l) (.ref c :: st) h := q_in rfl rfl
theorem r54_98 : zR d 54 Q 98 lv (.ref c :: st) h = (zcls c = 5 ∧ zR d 54 Q 101 lv (.ref (c + 4) :: st) h) := q_and rfl rfl
theorem r54_101 : zR d 54 Q 101 (o0 :: o1 :: o2 :: some (.int x) :: l) st h = zR d 54 Q 102 (o0 :: o1 :: o2 :: some (.int x) :: l) (.int x :: st) h := q_in rfl rfl
theorem r54_102 : zR d 54 Q 102 lv (.int x :: .ref c :: st) h = zR d 54 Q 103 lv (.int x :: .ref c :: .int x :: .ref c :: st) h := q_in rfl rfl
theorem r54_103 : zR d 54 Q 103 lv (.int x :: .ref c :: st) h = zal c x h (fun w => zR d 54 Q 104 lv (.int w :: st) h) := q_iald rfl
theorem r54_104 : zR d 54 Q 104 (o0 :: o1 :: some (.int x) :: l) st h = zR d 54 Q 105 (o0 :: o1 :: some (.int x) :: l) (.int x :: st) h := q_in rfl rfl
theorem r54_105 : zR d 54 Q 105 lv (.int z :: .int x :: st) h = zR d 54 Q 106 lv (.int (x + z) :: st) h := q_in rfl rfl
theorem r54_106 : zR d 54 Q 106 lv (.int z :: .int x :: .ref c :: st) h = zas c x z h (fun h' => zR d 54 Q 107 lv st h') := q_iast rfl
theorem r54_107 : zR d 54 Q 107 (o0 :: o1 :: o2 :: some (.int x) :: l) st h = zR d 54 Q 110 (o0 :: o1 :: o2 :: some (.int (x + 1)) :: l) st h := q_in rfl rfl
theorem r54_110 : zR d 54 Q 110 lv st h = zR d 54 Q 81 lv st h := q_in rfl rfl
theorem r54_113 : zR d 54 Q 113 (some (.ref c) :: l) st h = zR d 54 Q 114 (some (.ref c) :: l) (.ref c :: st) h := q_in rfl rfl
theorem r54_114 : zR d 54 Q 114 lv (.ref c :: st) h = (zcls c = 5 ∧ zR d 54 Q 117 lv (.ref (c + 6) :: st) h) := q_and rfl rfl
theorem r54_117 : zR d 54 Q 117 lv st h = zR d 54 Q 118 lv (.int 3 :: st) h := q_in rfl rfl
theorem r54_118 : zR d 54 Q 118 (some (.ref c) :: l) st h = zR d 54 Q 119 (some (.ref c) :: l) (.ref c :: st) h := q_in rfl rfl
theorem r54_119 : zR d 54 Q 119 lv (.ref c :: st) h = (zcls c = 5 ∧ zR d 54 Q 122 lv (.ref (c + 6) :: st) h) := q_and rfl rfl
theorem r54_122 : zR d 54 Q 122 lv st h = zR d 54 Q 123 lv (.int 3 :: st) h := q_in rfl rfl
theorem r54_123 : zR d 54 Q 123 lv (.int x :: .ref c :: st) h = zal c x h (fun w => zR d 54 Q 124 lv (.int w :: st) h) := q_iald rfl
theorem r54_124 : zR d 54 Q 124 (some (.ref c) :: l) st h = zR d 54 Q 125 (some (.ref c) :: l) (.ref c :: st) h := q_in rfl rfl
theorem r54_125 : zR d 54 Q 125 lv [.ref c, .int y0, .int y1, .ref a2] h = (zcls c = 5 ∧ zM d 39 [.ref c] h (fun r h' => zR d 54 Q 128 lv (r.toList ++ [.int y0, .int y1, .ref a2]) h')) := (q_clV rfl rfl (Nat.le_of_ble_eq_true rfl)).trans (zand_r (Nat.le_of_ble_eq_true rfl))
theorem r54_128 : zR d 54 Q 128 lv st h = zR d 54 Q 130 lv (.int 7 :: st) h := q_in rfl rfl
theorem r54_130 : zR d 54 Q 130 lv (.int 7 :: .int x :: st) h = zR d 54 Q 131 lv (.int (x - x / 7 * 7) :: st) h := (q_and rfl rfl).trans (zand_t (by decide))
theorem r54_131 : zR d 54 Q 131 lv (.int z :: .int x :: st) h = zR d 54 Q 132 lv (.int (x + z) :: st) h := q_in rfl rfl
theorem r54_132 : zR d 54 Q 132 lv st h = zR d 54 Q 133 lv (.int 3 :: st) h := q_in rfl rfl
theorem r54_133 : zR d 54 Q 133 lv (.int z :: .int x :: st) h = zR d 54 Q 134 lv (.int (x - z) :: st) h := q_in rfl rfl
theorem r54_134 : zR d 54 Q 134 lv st h = zR d 54 Q 135 lv (.int 0 :: st) h := q_in rfl rfl
theorem r54_135 : zR d 54 Q 135 lv st h = zR d 54 Q 137 lv (.int 99 :: st) h := q_in rfl rfl
theorem r54_137 : zR d 54 Q 137 lv [.int x2, .int x1, .int x0, .int y0, .ref a1] h = zM d 104 [.int x0, .int x1, .int x2] h (fun r h' => zR d 54 Q 140 lv (r.toList ++ [.int y0, .ref a1]) h') := q_clS rfl rfl ⟨Nat.le_of_ble_eq_true rfl, Nat.le_of_ble_eq_true rfl⟩
theorem r54_140 : zR d 54 Q 140 lv (.int z :: .int x :: .ref c :: st) h = zas c x z h (fun h' => zR d 54 Q 141 lv st h') := q_iast rfl
theorem r54_141 : zR d 54 Q 141 (some (.ref c) :: l) st h = zR d 54 Q 142 (some (.ref c) :: l) (.ref c :: st) h := q_in rfl rfl
theorem r54_142 : zR d 54 Q 142 lv (.ref c :: st) h = zR d 54 Q 143 lv (.ref c :: .ref c :: st) h := q_in rfl rfl
theorem r54_143 : zR d 54 Q 143 lv (.ref c :: st) h = (zcls c = 5 ∧ zR d 54 Q 146 lv (.int (h c 10) :: st) h) := q_and rfl rfl
theorem r54_146 : zR d 54 Q 146 lv st h = zR d 54 Q 147 lv (.int 1 :: st) h := q_in rfl rfl
theorem r54_147 : zR d 54 Q 147 lv (.int z :: .int x :: st) h = zR d 54 Q 148 lv (.int (x + z) :: st) h := q_in rfl rfl
set_option maxRecDepth 100000 in
theorem r54_148 : zR d 54 Q 148 lv (.int x :: .ref c :: st) h = (zcls c = 5 ∧ zR d 54 Q 151 lv st (zhr h c (upd (h c) 10 x))) := (q_and rfl rfl).trans zand_0
set_option maxRecDepth 100000 in
theorem r54_151 : zR d 54 Q 151 lv [] h = Q none h := q_ret rfl rfl
theorem r55_0 : zR d 55 Q 0 (some (.ref c) :: l) st h = zR d 55 Q 1 (some (.ref c) :: l) (.ref c :: st) h := q_in rfl rfl
theorem r55_1 : zR d 55 Q 1 (some (.ref c) :: l) st h = zR d 55 Q 2 (some (.ref c) :: l) (.ref c :: st) h := q_in rfl rfl
theorem r55_2 : zR d 55 Q 2 lv (.ref c :: st) h = (zcls c = 5 ∧ zR d 55 Q 5 lv (.ref (c + 6) :: st) h) := q_and rfl rfl
theorem r55_5 : zR d 55 Q 5 lv st h = zR d 55 Q 6 lv (.int 0 :: st) h := q_in rfl rfl
theorem r55_6 : zR d 55 Q 6 lv (.int x :: .ref c :: st) h = zal c x h (fun w => zR d 55 Q 7 lv (.int w :: st) h) := q_iald rfl
theorem r55_7 : zR d 55 Q 7 lv [.int x0, .ref c] h = (zcls c = 5 ∧ zM d 40 [.ref c, .int x0] h (fun r h' => zR d 55 Q 10 lv (r.toList ++ []) h')) := (q_clV rfl rfl (Nat.le_of_ble_eq_true rfl)).trans (zand_r (Nat.le_of_ble_eq_true rfl))
theorem r55_10 : zR d 55 Q 10 (o0 :: o1 :: l) (.int x :: st) h = zR d 55 Q 11 (o0 :: some (.int x) :: l) st h := q_in rfl rfl
theorem r55_11 : zR d 55 Q 11 (o0 :: some (.int x) :: l) st h = zR d 55 Q 12 (o0 :: some (.int x) :: l) (.int x :: st) h := q_in rfl rfl
theorem r55_12 : zR d 55 Q 12 (some (.ref c) :: l) st h = zR d 55 Q 13 (some (.ref c) :: l) (.ref c :: st) h := q_in rfl rfl
theorem r55_13 : zR d 55 Q 13 lv (.ref c :: st) h = (zcls c = 5 ∧ zR d 55 Q 16 lv (.ref (c + 6) :: st) h) := q_and rfl rfl
theorem r55_16 : zR d 55 Q 16 lv st h = zR d 55 Q 17 lv (.int 5 :: st) h := q_in rfl rfl
theorem r55_17 : zR d 55 Q 17 lv (.int x :: .ref c :: st) h = zal c x h (fun w => zR d 55 Q 18 lv (.int w :: st) h) := q_iald rfl
theorem r55_18 : zR d 55 Q 18 lv (.int z :: .int x :: st) h = if x < z then zR d 55 Q 21 lv st h else zR d 55 Q 28 lv st h := q_if rfl rfl
theorem r55_21 : zR d 55 Q 21 (some (.ref c) :: l) st h = zR d 55 Q 22 (some (.ref c) :: l) (.ref c :: st) h := q_in rfl rfl
theorem r55_22 : zR d 55 Q 22 lv [.ref c] h = (zcls c = 5 ∧ zM d 56 [.ref c] h (fun r h' => zR d 55 Q 25 lv (r.toList ++ []) h')) := (q_clV rfl rfl (Nat.le_of_ble_eq_true rfl)).trans (zand_r (Nat.le_of_ble_eq_true rfl))
theorem r55_25 : zR d 55 Q 25 lv (.int x :: st) h = if x = 0 then zR d 55 Q 30 lv st h else zR d 55 Q 28 lv st h := q_if rfl rfl
theorem r55_28 : zR d 55 Q 28 lv st h = zR d 55 Q 29 lv (.int 0 :: st) h := q_in rfl rfl
theorem r55_29f : zR d 55 Q 29 lv [.int 0] h = Q (some (.int 0)) h := q_retz rfl rfl (Or.inr (Or.inl rfl))
theorem r55_29t : zR d 55 Q 29 lv [.int 1] h = Q (some (.int 1)) h := q_retz rfl rfl (Or.inr (Or.inr rfl))
theorem r55_30 : zR d 55 Q 30 (o0 :: some (.int x) :: l) st h = zR d 55 Q 31 (o0 :: some (.int x) :: l) (.int x :: st) h := q_in rfl rfl
theorem r55_31 : zR d 55 Q 31 lv (.int x :: st) h = if x ≤ 0 then zR d 55 Q 34 lv st h else zR d 55 Q 42 lv st h := q_if rfl rfl
theorem r55_34 : zR d 55 Q 34 (some (.ref c) :: l) st h = zR d 55 Q 35 (some (.ref c) :: l) (.ref c :: st) h := q_in rfl rfl
theorem r55_35 : zR d 55 Q 35 lv (.ref c :: st) h = (zcls c = 5 ∧ zR d 55 Q 38 lv (.int (h c 1) :: st) h) := q_and rfl rfl
theorem r55_38 : zR d 55 Q 38 (o0 :: some (.int x) :: l) st h = zR d 55 Q 39 (o0 :: some (.int x) :: l) (.int x :: st) h := q_in rfl rfl
theorem r55_39 : zR d 55 Q 39 lv (.int z :: .int x :: st) h = if x = z then zR d 55 Q 42 lv st h else zR d 55 Q 46 lv st h := q_if rfl rfl
theorem r55_42 : zR d 55 Q 42 lv st h = zR d 55 Q 43 lv (.int 1 :: st) h := q_in rfl rfl
theorem r55_43 : zR d 55 Q 43 lv st h = zR d 55 Q 47 lv st h := q_in rfl rfl
theorem r55_46 : zR d 55 Q 46 lv st h = zR d 55 Q 47 lv (.int 0 :: st) h := q_in rfl rfl
theorem r55_47f : zR d 55 Q 47 lv [.int 0] h = Q (some (.int 0)) h := q_retz rfl rfl (Or.inr (Or.inl rfl))
theorem r55_47t : zR d 55 Q 47 lv [.int 1] h = Q (some (.int 1)) h := q_retz rfl rfl (Or.inr (Or.inr rfl))
theorem r56_0 : zR d 56 Q 0 lv st h = zR d 56 Q 1 lv (.int 0 :: st) h := q_in rfl rfl
theorem r56_1 : zR d 56 Q 1 (o0 :: o1 :: l) (.int x :: st) h = zR d 56 Q 2 (o0 :: some (.int x) :: l) st h := q_in rfl rfl
theorem r56_2 : zR d 56 Q 2 (o0 :: some (.int x) :: l) st h = zR d 56 Q 3 (o0 :: some (.int x) :: l) (.int x :: st) h := q_in rfl rfl
theorem r56_3 : zR d 56 Q 3 (some (.ref c) :: l) st h = zR d 56 Q 4 (some (.ref c) :: l) (.ref c :: st) h := q_in rfl rfl
theorem r56_4 : zR d 56 Q 4 lv (.ref c :: st) h = (zcls c = 5 ∧ zR d 56 Q 7 lv (.int (h c 1) :: st) h) := q_and rfl rfl
theorem r56_7 : zR d 56 Q 7 lv (.int z :: .int x :: st) h = if x < z then zR d 56 Q 10 lv st h else zR d 56 Q 46 lv st h := q_if rfl rfl
theorem r56_10 : zR d 56 Q 10 (some (.ref c) :: l) st h = zR d 56 Q 11 (some (.ref c) :: l) (.ref c :: st) h := q_in rfl rfl
theorem r56_11 : zR d 56 Q 11 lv (.ref c :: st) h = (zcls c = 5 ∧ zR d 56 Q 14 lv (.ref (c + 3) :: st) h) := q_and rfl rfl
theorem r56_14 : zR d 56 Q 14 (o0 :: some (.int x) :: l) st h = zR d 56 Q 15 (o0 :: some (.int x) :: l) (.int x :: st) h := q_in rfl rfl
theorem r56_15 : zR d 56 Q 15 lv (.int x :: .ref c :: st) h = zal c x h (fun w => zR d 56 Q 16 lv (.int w :: st) h) := q_iald rfl
theorem r56_16 : zR d 56 Q 16 (some (.ref c) :: l) st h = zR d 56 Q 17 (some (.ref c) :: l) (.ref c :: st) h := q_in rfl rfl
theorem r56_17 : zR d 56 Q 17 lv (.ref c :: st) h = (zcls c = 5 ∧ zR d 56 Q 20 lv (.ref (c + 6) :: st) h) := q_and rfl rfl
theorem r56_20 : zR d 56 Q 20 lv st h = zR d 56 Q 21 lv (.int 0 :: st) h := q_in rfl rfl
theorem r56_21 : zR d 56 Q 21 lv (.int x :: .ref c :: st) h = zal c x h (fun w => zR d 56 Q 22 lv (.int w :: st) h) := q_iald rfl
theorem r56_22 : zR d 56 Q 22 lv (.int z :: .int x :: st) h = if x = z then zR d 56 Q 25 lv st h else zR d 56 Q 40 lv st h := q_if rfl rfl
theorem r56_25 : zR d 56 Q 25 (some (.ref c) :: l) st h = zR d 56 Q 26 (some (.ref c) :: l) (.ref c :: st) h := q_in rfl rfl
theorem r56_26 : zR d 56 Q 26 lv (.ref c :: st) h = (zcls c = 5 ∧ zR d 56 Q 29 lv (.ref (c + 1) :: st) h) := q_and rfl rfl
theorem r56_29 : zR d 56 Q 29 (o0 :: some (.int x) :: l) st h = zR d 56 Q 30 (o0 :: some (.int x) :: l) (.int x :: st) h := q_in rfl rfl
theorem r56_30 : zR d 56 Q 30 lv (.int x :: .ref c :: st) h = zal c x h (fun w => zR d 56 Q 31 lv (.int w :: st) h) := q_iald rfl
theorem r56_31 : zR d 56 Q 31 lv st h = zR d 56 Q 32 lv (.int 5 :: st) h := q_in rfl rfl
theorem r56_32 : zR d 56 Q 32 lv [.int x1, .int x0] h = zM d 1 [.int x0, .int x1] h (fun r h' => zR d 56 Q 35 lv (r.toList ++ []) h') := q_clS rfl rfl ⟨Nat.le_of_ble_eq_true rfl, Nat.le_of_ble_eq_true rfl⟩
theorem r56_35 : zR d 56 Q 35 lv (.int x :: st) h = if x = 0 then zR d 56 Q 40 lv st h else zR d 56 Q 38 lv st h := q_if rfl rfl
theorem r56_38 : zR d 56 Q 38 lv st h = zR d 56 Q 39 lv (.int 1 :: st) h := q_in rfl rfl
theorem r56_39f : zR d 56 Q 39 lv [.int 0] h = Q (some (.int 0)) h := q_retz rfl rfl (Or.inr (Or.inl rfl))
theorem r56_39t : zR d 56 Q 39 lv [.int 1] h = Q (some (.int 1)) h := q_retz rfl rfl (Or.inr (Or.inr rfl))
theorem r56_40 : zR d 56 Q 40 (o0 :: some (.int x) :: l) st h = zR d 56 Q 43 (o0 :: some (.int (x + 1)) :: l) st h := q_in rfl rfl
theorem r56_43 : zR d 56 Q 43 lv st h = zR d 56 Q 2 lv st h := q_in rfl rfl
theorem r56_46 : zR d 56 Q 46 lv st h = zR d 56 Q 47 lv (.int 0 :: st) h := q_in rfl rfl
theorem r56_47f : zR d 56 Q 47 lv [.int 0] h = Q (some (.int 0)) h := q_retz rfl rfl (Or.inr (Or.inl rfl))
theorem r56_47t : zR d 56 Q 47 lv [.int 1] h = Q (some (.int 1)) h := q_retz rfl rfl (Or.inr (Or.inr rfl))
end
