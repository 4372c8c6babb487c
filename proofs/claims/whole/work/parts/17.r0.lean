section
variable {d : Nat} {Q : Option Value → zH → Prop} {lv l : zL} {st : zS} {h : zH} {x z : Int32} {c : Nat} {i j : Int64} {o0 o1 o2 o3 o4 o5 o6 o7 o8 o9 o10 o11 o12 : Option Value} {x0 x1 x2 x3 x4 y0 y1 y2 y3 : Int32} {c0 c1 c2 c3 c4 a0 a1 a2 a3 : Nat} {j0 j1 j2 k0 k1 : Int64}

theorem r0_0 : zR d 0 Q 0 (some (.int x) :: l) st h = zR d 0 Q 1 (some (.int x) :: l) (.int x :: st) h := q_in rfl rfl
theorem r0_1 : zR d 0 Q 1 lv st h = zR d 0 Q 2 lv (.int 0 :: st) h := q_in rfl rfl
theorem r0_2 : zR d 0 Q 2 lv st h = zR d 0 Q 3 lv (.int 5 :: st) h := q_in rfl rfl
theorem r0_3 : zR d 0 Q 3 lv [.int x2, .int x1, .int x0] h = zM d 103 [.int x0, .int x1, .int x2] h (fun r h' => zR d 0 Q 6 lv (r.toList ++ []) h') := q_clS rfl rfl ⟨Nat.le_of_ble_eq_true rfl, Nat.le_of_ble_eq_true rfl⟩
theorem r0_6f : zR d 0 Q 6 lv [.int 0] h = Q (some (.int 0)) h := q_retz rfl rfl (Or.inr (Or.inl rfl))
theorem r0_6t : zR d 0 Q 6 lv [.int 1] h = Q (some (.int 1)) h := q_retz rfl rfl (Or.inr (Or.inr rfl))
theorem r1_0 : zR d 1 Q 0 (some (.int x) :: l) st h = zR d 1 Q 1 (some (.int x) :: l) (.int x :: st) h := q_in rfl rfl
theorem r1_1 : zR d 1 Q 1 (o0 :: o1 :: o2 :: l) (.int x :: st) h = zR d 1 Q 2 (o0 :: o1 :: some (.int x) :: l) st h := q_in rfl rfl
theorem r1_2 : zR d 1 Q 2 lv st h = zR d 1 Q 3 lv (.int 0 :: st) h := q_in rfl rfl
theorem r1_3 : zR d 1 Q 3 (o0 :: o1 :: o2 :: o3 :: l) (.int x :: st) h = zR d 1 Q 4 (o0 :: o1 :: o2 :: some (.int x) :: l) st h := q_in rfl rfl
theorem r1_4 : zR d 1 Q 4 (o0 :: o1 :: o2 :: some (.int x) :: l) st h = zR d 1 Q 5 (o0 :: o1 :: o2 :: some (.int x) :: l) (.int x :: st) h := q_in rfl rfl
theorem r1_5 : zR d 1 Q 5 lv st h = zR d 1 Q 6 lv (.int 5 :: st) h := q_in rfl rfl
theorem r1_6 : zR d 1 Q 6 lv (.int z :: .int x :: st) h = if x ≤ z then zR d 1 Q 9 lv st h else zR d 1 Q 35 lv st h := q_if rfl rfl
theorem r1_9 : zR d 1 Q 9 (o0 :: o1 :: some (.int x) :: l) st h = zR d 1 Q 10 (o0 :: o1 :: some (.int x) :: l) (.int x :: st) h := q_in rfl rfl
theorem r1_10 : zR d 1 Q 10 lv [.int x0] h = zM d 0 [.int x0] h (fun r h' => zR d 1 Q 13 lv (r.toList ++ []) h') := q_clS rfl rfl ⟨Nat.le_of_ble_eq_true rfl, Nat.le_of_ble_eq_true rfl⟩
theorem r1_13 : zR d 1 Q 13 lv (.int x :: st) h = if x = 0 then zR d 1 Q 35 lv st h else zR d 1 Q 16 lv st h := q_if rfl rfl
theorem r1_16 : zR d 1 Q 16 (o0 :: o1 :: some (.int x) :: l) st h = zR d 1 Q 17 (o0 :: o1 :: some (.int x) :: l) (.int x :: st) h := q_in rfl rfl
theorem r1_17 : zR d 1 Q 17 (o0 :: some (.int x) :: l) st h = zR d 1 Q 18 (o0 :: some (.int x) :: l) (.int x :: st) h := q_in rfl rfl
theorem r1_18 : zR d 1 Q 18 lv (.int z :: .int x :: st) h = if x = z then zR d 1 Q 21 lv st h else zR d 1 Q 23 lv st h := q_if rfl rfl
theorem r1_21 : zR d 1 Q 21 lv st h = zR d 1 Q 22 lv (.int 1 :: st) h := q_in rfl rfl
theorem r1_22f : zR d 1 Q 22 lv [.int 0] h = Q (some (.int 0)) h := q_retz rfl rfl (Or.inr (Or.inl rfl))
theorem r1_22t : zR d 1 Q 22 lv [.int 1] h = Q (some (.int 1)) h := q_retz rfl rfl (Or.inr (Or.inr rfl))
theorem r1_23 : zR d 1 Q 23 lv st h = zR d 1 Q 26 lv (.ref 80 :: st) h := q_in rfl rfl
theorem r1_26 : zR d 1 Q 26 (o0 :: o1 :: some (.int x) :: l) st h = zR d 1 Q 27 (o0 :: o1 :: some (.int x) :: l) (.int x :: st) h := q_in rfl rfl
theorem r1_27 : zR d 1 Q 27 lv (.int x :: .ref c :: st) h = zal c x h (fun w => zR d 1 Q 28 lv (.int w :: st) h) := q_iald rfl
theorem r1_28 : zR d 1 Q 28 (o0 :: o1 :: o2 :: l) (.int x :: st) h = zR d 1 Q 29 (o0 :: o1 :: some (.int x) :: l) st h := q_in rfl rfl
theorem r1_29 : zR d 1 Q 29 (o0 :: o1 :: o2 :: some (.int x) :: l) st h = zR d 1 Q 32 (o0 :: o1 :: o2 :: some (.int (x + 1)) :: l) st h := q_in rfl rfl
theorem r1_32 : zR d 1 Q 32 lv st h = zR d 1 Q 4 lv st h := q_in rfl rfl
theorem r1_35 : zR d 1 Q 35 lv st h = zR d 1 Q 36 lv (.int 0 :: st) h := q_in rfl rfl
theorem r1_36f : zR d 1 Q 36 lv [.int 0] h = Q (some (.int 0)) h := q_retz rfl rfl (Or.inr (Or.inl rfl))
theorem r1_36t : zR d 1 Q 36 lv [.int 1] h = Q (some (.int 1)) h := q_retz rfl rfl (Or.inr (Or.inr rfl))
theorem r2_0 : zR d 2 Q 0 (some (.int x) :: l) st h = zR d 2 Q 1 (some (.int x) :: l) (.int x :: st) h := q_in rfl rfl
theorem r2_1 : zR d 2 Q 1 lv (.int x :: st) h = if x = 1 then zR d 2 Q 36 lv st h else if x = 2 then zR d 2 Q 51 lv st h else if x = 3 then zR d 2 Q 40 lv st h else if x = 4 then zR d 2 Q 55 lv st h else if x = 5 then zR d 2 Q 61 lv st h else zR d 2 Q 63 lv st h := (q_in rfl rfl).trans (by simp only [zsw, zR_ite])
theorem r2_36 : zR d 2 Q 36 lv st h = zR d 2 Q 37 lv (.int 2 :: st) h := q_in rfl rfl
theorem r2_37 : zR d 2 Q 37 (o0 :: some (.int x) :: l) st h = zR d 2 Q 38 (o0 :: some (.int x) :: l) (.int x :: st) h := q_in rfl rfl
theorem r2_38 : zR d 2 Q 38 lv (.int z :: .int x :: st) h = zR d 2 Q 39 lv (.int (x * z) :: st) h := q_in rfl rfl
theorem r2_39 : zR d 2 Q 39 lv [.int x] h = Q (some (.int x)) h := q_retz rfl rfl (Or.inl rfl)
theorem r2_40 : zR d 2 Q 40 lv st h = zR d 2 Q 41 lv (.int 0 :: st) h := q_in rfl rfl
theorem r2_41 : zR d 2 Q 41 lv st h = zR d 2 Q 42 lv (.int 2 :: st) h := q_in rfl rfl
theorem r2_42 : zR d 2 Q 42 (o0 :: some (.int x) :: l) st h = zR d 2 Q 43 (o0 :: some (.int x) :: l) (.int x :: st) h := q_in rfl rfl
theorem r2_43 : zR d 2 Q 43 lv (.int z :: .int x :: st) h = zR d 2 Q 44 lv (.int (x * z) :: st) h := q_in rfl rfl
theorem r2_44 : zR d 2 Q 44 lv st h = zR d 2 Q 46 lv (.int 10 :: st) h := q_in rfl rfl
theorem r2_46 : zR d 2 Q 46 lv (.int z :: .int x :: st) h = zR d 2 Q 47 lv (.int (x - z) :: st) h := q_in rfl rfl
theorem r2_47 : zR d 2 Q 47 lv [.int x1, .int x0] h = zM d 1000 [.int x0, .int x1] h (fun r h' => zR d 2 Q 50 lv (r.toList ++ []) h') := q_clS rfl rfl ⟨Nat.le_of_ble_eq_true rfl, Nat.le_of_ble_eq_true rfl⟩
theorem r2_50 : zR d 2 Q 50 lv [.int x] h = Q (some (.int x)) h := q_retz rfl rfl (Or.inl rfl)
theorem r2_51 : zR d 2 Q 51 (o0 :: some (.int x) :: l) st h = zR d 2 Q 52 (o0 :: some (.int x) :: l) (.int x :: st) h := q_in rfl rfl
theorem r2_52 : zR d 2 Q 52 lv st h = zR d 2 Q 53 lv (.int 2 :: st) h := q_in rfl rfl
theorem r2_53 : zR d 2 Q 53 lv (.int 2 :: .int x :: st) h = zR d 2 Q 54 lv (.int (x / 2) :: st) h := (q_and rfl rfl).trans (zand_t (by decide))
theorem r2_54 : zR d 2 Q 54 lv [.int x] h = Q (some (.int x)) h := q_retz rfl rfl (Or.inl rfl)
theorem r2_55 : zR d 2 Q 55 (o0 :: some (.int x) :: l) st h = zR d 2 Q 56 (o0 :: some (.int x) :: l) (.int x :: st) h := q_in rfl rfl
theorem r2_56 : zR d 2 Q 56 lv st h = zR d 2 Q 57 lv (.int 2 :: st) h := q_in rfl rfl
theorem r2_57 : zR d 2 Q 57 lv (.int 2 :: .int x :: st) h = zR d 2 Q 58 lv (.int (x / 2) :: st) h := (q_and rfl rfl).trans (zand_t (by decide))
theorem r2_58 : zR d 2 Q 58 lv st h = zR d 2 Q 59 lv (.int 3 :: st) h := q_in rfl rfl
theorem r2_59 : zR d 2 Q 59 lv (.int z :: .int x :: st) h = zR d 2 Q 60 lv (.int (x + z) :: st) h := q_in rfl rfl
theorem r2_60 : zR d 2 Q 60 lv [.int x] h = Q (some (.int x)) h := q_retz rfl rfl (Or.inl rfl)
theorem r2_61 : zR d 2 Q 61 lv st h = zR d 2 Q 62 lv (.int 0 :: st) h := q_in rfl rfl
theorem r2_62 : zR d 2 Q 62 lv [.int x] h = Q (some (.int x)) h := q_retz rfl rfl (Or.inl rfl)
theorem r2_63 : zR d 2 Q 63 (o0 :: some (.int x) :: l) st h = zR d 2 Q 64 (o0 :: some (.int x) :: l) (.int x :: st) h := q_in rfl rfl
theorem r2_64 : zR d 2 Q 64 lv [.int x] h = Q (some (.int x)) h := q_retz rfl rfl (Or.inl rfl)
theorem r3_0 : zR d 3 Q 0 (some (.int x) :: l) st h = zR d 3 Q 1 (some (.int x) :: l) (.int x :: st) h := q_in rfl rfl
theorem r3_1 : zR d 3 Q 1 lv (.int x :: st) h = if x = 1 then zR d 3 Q 32 lv st h else if x = 2 then zR d 3 Q 34 lv st h else if x = 3 then zR d 3 Q 32 lv st h else if x = 4 then zR d 3 Q 36 lv st h else zR d 3 Q 38 lv st h := (q_in rfl rfl).trans (by simp only [zsw, zR_ite])
theorem r3_32 : zR d 3 Q 32 lv st h = zR d 3 Q 33 lv (.int 3 :: st) h := q_in rfl rfl
theorem r3_33 : zR d 3 Q 33 lv [.int x] h = Q (some (.int x)) h := q_retz rfl rfl (Or.inl rfl)
theorem r3_34 : zR d 3 Q 34 lv st h = zR d 3 Q 35 lv (.int 1 :: st) h := q_in rfl rfl
theorem r3_35 : zR d 3 Q 35 lv [.int x] h = Q (some (.int x)) h := q_retz rfl rfl (Or.inl rfl)
theorem r3_36 : zR d 3 Q 36 lv st h = zR d 3 Q 37 lv (.int 4 :: st) h := q_in rfl rfl
theorem r3_37 : zR d 3 Q 37 lv [.int x] h = Q (some (.int x)) h := q_retz rfl rfl (Or.inl rfl)
theorem r3_38 : zR d 3 Q 38 lv st h = zR d 3 Q 39 lv (.int 2 :: st) h := q_in rfl rfl
theorem r3_39 : zR d 3 Q 39 lv [.int x] h = Q (some (.int x)) h := q_retz rfl rfl (Or.inl rfl)
theorem r4_0 : zR d 4 Q 0 (some (.int x) :: l) st h = zR d 4 Q 1 (some (.int x) :: l) (.int x :: st) h := q_in rfl rfl
theorem r4_1 : zR d 4 Q 1 lv (.int x :: st) h = if x = 1 then zR d 4 Q 36 lv st h else if x = 2 then zR d 4 Q 42 lv st h else if x = 3 then zR d 4 Q 40 lv st h else if x = 4 then zR d 4 Q 42 lv st h else if x = 5 then zR d 4 Q 46 lv st h else zR d 4 Q 50 lv st h := (q_in rfl rfl).trans (by simp only [zsw, zR_ite])
theorem r4_36 : zR d 4 Q 36 (o0 :: some (.int x) :: l) st h = zR d 4 Q 37 (o0 :: some (.int x) :: l) (.int x :: st) h := q_in rfl rfl
theorem r4_37 : zR d 4 Q 37 lv st h = zR d 4 Q 38 lv (.int 5 :: st) h := q_in rfl rfl
theorem r4_38 : zR d 4 Q 38 lv (.int z :: .int x :: st) h = zR d 4 Q 39 lv (.int (x + z) :: st) h := q_in rfl rfl
theorem r4_39 : zR d 4 Q 39 lv [.int x] h = Q (some (.int x)) h := q_retz rfl rfl (Or.inl rfl)
theorem r4_40 : zR d 4 Q 40 lv st h = zR d 4 Q 41 lv (.int 0 :: st) h := q_in rfl rfl
theorem r4_41 : zR d 4 Q 41 lv [.int x] h = Q (some (.int x)) h := q_retz rfl rfl (Or.inl rfl)
theorem r4_42 : zR d 4 Q 42 (o0 :: some (.int x) :: l) st h = zR d 4 Q 43 (o0 :: some (.int x) :: l) (.int x :: st) h := q_in rfl rfl
theorem r4_43 : zR d 4 Q 43 lv st h = zR d 4 Q 44 lv (.int 2 :: st) h := q_in rfl rfl
theorem r4_44 : zR d 4 Q 44 lv (.int 2 :: .int x :: st) h = zR d 4 Q 45 lv (.int (x / 2) :: st) h := (q_and rfl rfl).trans (zand_t (by decide))
theorem r4_45 : zR d 4 Q 45 lv [.int x] h = Q (some (.int x)) h := q_retz rfl rfl (Or.inl rfl)
theorem r4_46 : zR d 4 Q 46 lv st h = zR d 4 Q 49 lv (.int 9999 :: st) h := q_in rfl rfl
theorem r4_49 : zR d 4 Q 49 lv [.int x] h = Q (some (.int x)) h := q_retz rfl rfl (Or.inl rfl)
theorem r4_50 : zR d 4 Q 50 (o0 :: some (.int x) :: l) st h = zR d 4 Q 51 (o0 :: some (.int x) :: l) (.int x :: st) h := q_in rfl rfl
theorem r4_51 : zR d 4 Q 51 lv [.int x] h = Q (some (.int x)) h := q_retz rfl rfl (Or.inl rfl)
theorem r5_0 : zR d 5 Q 0 (some (.int x) :: l) st h = zR d 5 Q 1 (some (.int x) :: l) (.int x :: st) h := q_in rfl rfl
theorem r5_1 : zR d 5 Q 1 lv (.int x :: st) h = if x = 1 then zR d 5 Q 36 lv st h else if x = 2 then zR d 5 Q 48 lv st h else if x = 3 then zR d 5 Q 41 lv st h else if x = 4 then zR d 5 Q 53 lv st h else if x = 5 then zR d 5 Q 61 lv st h else zR d 5 Q 63 lv st h := (q_in rfl rfl).trans (by simp only [zsw, zR_ite])
theorem r5_36 : zR d 5 Q 36 (o0 :: some (.int x) :: l) st h = zR d 5 Q 37 (o0 :: some (.int x) :: l) (.int x :: st) h := q_in rfl rfl
theorem r5_37 : zR d 5 Q 37 lv st h = zR d 5 Q 39 lv (.int 8 :: st) h := q_in rfl rfl
theorem r5_39 : zR d 5 Q 39 lv (.int z :: .int x :: st) h = zR d 5 Q 40 lv (.int (x + z) :: st) h := q_in rfl rfl
theorem r5_40 : zR d 5 Q 40 lv [.int x] h = Q (some (.int x)) h := q_retz rfl rfl (Or.inl rfl)
theorem r5_41 : zR d 5 Q 41 lv st h = zR d 5 Q 42 lv (.int 2 :: st) h := q_in rfl rfl
theorem r5_42 : zR d 5 Q 42 (o0 :: some (.int x) :: l) st h = zR d 5 Q 43 (o0 :: some (.int x) :: l) (.int x :: st) h := q_in rfl rfl
theorem r5_43 : zR d 5 Q 43 lv st h = zR d 5 Q 45 lv (.int 8 :: st) h := q_in rfl rfl
theorem r5_45 : zR d 5 Q 45 lv (.int z :: .int x :: st) h = zR d 5 Q 46 lv (.int (x + z) :: st) h := q_in rfl rfl
theorem r5_46 : zR d 5 Q 46 lv (.int z :: .int x :: st) h = zR d 5 Q 47 lv (.int (x * z) :: st) h := q_in rfl rfl
theorem r5_47 : zR d 5 Q 47 lv [.int x] h = Q (some (.int x)) h := q_retz rfl rfl (Or.inl rfl)
theorem r5_48 : zR d 5 Q 48 lv st h = zR d 5 Q 50 lv (.int 99 :: st) h := q_in rfl rfl
theorem r5_50 : zR d 5 Q 50 (o0 :: some (.int x) :: l) st h = zR d 5 Q 51 (o0 :: some (.int x) :: l) (.int x :: st) h := q_in rfl rfl
theorem r5_51 : zR d 5 Q 51 lv (.int z :: .int x :: st) h = zR d 5 Q 52 lv (.int (x - z) :: st) h := q_in rfl rfl
theorem r5_52 : zR d 5 Q 52 lv [.int x] h = Q (some (.int x)) h := q_retz rfl rfl (Or.inl rfl)
theorem r5_53 : zR d 5 Q 53 lv st h = zR d 5 Q 55 lv (.int 99 :: st) h := q_in rfl rfl
theorem r5_55 : zR d 5 Q 55 (o0 :: some (.int x) :: l) st h = zR d 5 Q 56 (o0 :: some (.int x) :: l) (.int x :: st) h := q_in rfl rfl
theorem r5_56 : zR d 5 Q 56 lv (.int z :: .int x :: st) h = zR d 5 Q 57 lv (.int (x - z) :: st) h := q_in rfl rfl
theorem r5_57 : zR d 5 Q 57 lv st h = zR d 5 Q 59 lv (.int 7 :: st) h := q_in rfl rfl
theorem r5_59 : zR d 5 Q 59 lv (.int z :: .int x :: st) h = zR d 5 Q 60 lv (.int (x - z) :: st) h := q_in rfl rfl
theorem r5_60 : zR d 5 Q 60 lv [.int x] h = Q (some (.int x)) h := q_retz rfl rfl (Or.inl rfl)
theorem r5_61 : zR d 5 Q 61 lv st h = zR d 5 Q 62 lv (.int 5 :: st) h := q_in rfl rfl
theorem r5_62 : zR d 5 Q 62 lv [.int x] h = Q (some (.int x)) h := q_retz rfl rfl (Or.inl rfl)
theorem r5_63 : zR d 5 Q 63 (o0 :: some (.int x) :: l) st h = zR d 5 Q 64 (o0 :: some (.int x) :: l) (.int x :: st) h := q_in rfl rfl
theorem r5_64 : zR d 5 Q 64 lv [.int x] h = Q (some (.int x)) h := q_retz rfl rfl (Or.inl rfl)
theorem r6_0 : zR d 6 Q 0 (o0 :: some (.int x) :: l) st h = zR d 6 Q 1 (o0 :: some (.int x) :: l) (.int x :: st) h := q_in rfl rfl
theorem r6_1 : zR d 6 Q 1 lv st h = zR d 6 Q 2 lv (.int 0 :: st) h := q_in rfl rfl
theorem r6_2 : zR d 6 Q 2 lv st h = zR d 6 Q 4 lv (.int 13 :: st) h := q_in rfl rfl
theorem r6_4 : zR d 6 Q 4 lv [.int x2, .int x1, .int x0] h = zM d 103 [.int x0, .int x1, .int x2] h (fun r h' => zR d 6 Q 7 lv (r.toList ++ []) h') := q_clS rfl rfl ⟨Nat.le_of_ble_eq_true rfl, Nat.le_of_ble_eq_true rfl⟩
theorem r6_7 : zR d 6 Q 7 lv (.int x :: st) h = if x = 0 then zR d 6 Q 10 lv st h else zR d 6 Q 11 lv st h := q_if rfl rfl
theorem r6_10 : zR d 6 Q 10 lv [] h = Q none h := q_ret rfl rfl
theorem r6_11 : zR d 6 Q 11 (some (.ref c) :: l) st h = zR d 6 Q 12 (some (.ref c) :: l) (.ref c :: st) h := q_in rfl rfl
theorem r6_12 : zR d 6 Q 12 lv (.ref 1 :: st) h = zR d 6 Q 15 lv (.ref 2 :: st) h := (q_and rfl rfl).trans (zand_t rfl)
theorem r6_15 : zR d 6 Q 15 (o0 :: some (.int x) :: l) st h = zR d 6 Q 16 (o0 :: some (.int x) :: l) (.int x :: st) h := q_in rfl rfl
theorem r6_16 : zR d 6 Q 16 (o0 :: o1 :: some (.ref c) :: l) st h = zR d 6 Q 17 (o0 :: o1 :: some (.ref c) :: l) (.ref c :: st) h := q_in rfl rfl
theorem r6_17 : zR d 6 Q 17 lv (.ref 7 :: st) h = zR d 6 Q 20 lv (.int (h 7 7) :: st) h := (q_and rfl rfl).trans (zand_t rfl)
theorem r6_20 : zR d 6 Q 20 lv (.int z :: .int x :: .ref c :: st) h = zas c x z h (fun h' => zR d 6 Q 21 lv st h') := q_iast rfl
theorem r6_21 : zR d 6 Q 21 (some (.ref c) :: l) st h = zR d 6 Q 22 (some (.ref c) :: l) (.ref c :: st) h := q_in rfl rfl
theorem r6_22 : zR d 6 Q 22 lv (.ref 1 :: st) h = zR d 6 Q 25 lv (.ref 3 :: st) h := (q_and rfl rfl).trans (zand_t rfl)
theorem r6_25 : zR d 6 Q 25 (o0 :: some (.int x) :: l) st h = zR d 6 Q 26 (o0 :: some (.int x) :: l) (.int x :: st) h := q_in rfl rfl
theorem r6_26 : zR d 6 Q 26 (o0 :: o1 :: some (.ref c) :: l) st h = zR d 6 Q 27 (o0 :: o1 :: some (.ref c) :: l) (.ref c :: st) h := q_in rfl rfl
theorem r6_27 : zR d 6 Q 27 lv (.ref 7 :: st) h = zR d 6 Q 30 lv (.int (h 7 10) :: st) h := (q_and rfl rfl).trans (zand_t rfl)
theorem r6_30 : zR d 6 Q 30 lv (.int z :: .int x :: .ref c :: st) h = zas c x z h (fun h' => zR d 6 Q 31 lv st h') := q_iast rfl
theorem r6_31 : zR d 6 Q 31 (some (.ref c) :: l) st h = zR d 6 Q 32 (some (.ref c) :: l) (.ref c :: st) h := q_in rfl rfl
theorem r6_32 : zR d 6 Q 32 lv (.ref 1 :: st) h = zR d 6 Q 35 lv (.ref 4 :: st) h := (q_and rfl rfl).trans (zand_t rfl)
theorem r6_35 : zR d 6 Q 35 (o0 :: some (.int x) :: l) st h = zR d 6 Q 36 (o0 :: some (.int x) :: l) (.int x :: st) h := q_in rfl rfl
theorem r6_36 : zR d 6 Q 36 (o0 :: o1 :: some (.ref c) :: l) st h = zR d 6 Q 37 (o0 :: o1 :: some (.ref c) :: l) (.ref c :: st) h := q_in rfl rfl
theorem r6_37 : zR d 6 Q 37 lv (.ref 7 :: st) h = zR d 6 Q 40 lv (.int (h 7 9) :: st) h := (q_and rfl rfl).trans (zand_t rfl)
theorem r6_40 : zR d 6 Q 40 lv (.int z :: .int x :: .ref c :: st) h = zas c x z h (fun h' => zR d 6 Q 41 lv st h') := q_iast rfl
theorem r6_41 : zR d 6 Q 41 (o0 :: o1 :: some (.ref c) :: l) st h = zR d 6 Q 42 (o0 :: o1 :: some (.ref c) :: l) (.ref c :: st) h := q_in rfl rfl
theorem r6_42 : zR d 6 Q 42 lv (.ref 7 :: st) h = zR d 6 Q 45 lv (.ref 9 :: st) h := (q_and rfl rfl).trans (zand_t rfl)
theorem r6_45 : zR d 6 Q 45 lv st h = zR d 6 Q 46 lv (.int 0 :: st) h := q_in rfl rfl
theorem r6_46 : zR d 6 Q 46 (some (.ref c) :: l) st h = zR d 6 Q 47 (some (.ref c) :: l) (.ref c :: st) h := q_in rfl rfl
theorem r6_47 : zR d 6 Q 47 lv (.ref 1 :: st) h = zR d 6 Q 50 lv (.ref 5 :: st) h := (q_and rfl rfl).trans (zand_t rfl)
theorem r6_50 : zR d 6 Q 50 (o0 :: some (.int x) :: l) st h = zR d 6 Q 51 (o0 :: some (.int x) :: l) (.int x :: st) h := q_in rfl rfl
theorem r6_51 : zR d 6 Q 51 lv st h = zR d 6 Q 53 lv (.int 96 :: st) h := q_in rfl rfl
theorem r6_53 : zR d 6 Q 53 lv (.int z :: .int x :: st) h = zR d 6 Q 54 lv (.int (x * z) :: st) h := q_in rfl rfl
theorem r6_54 : zR d 6 Q 54 lv st h = zR d 6 Q 56 lv (.int 96 :: st) h := q_in rfl rfl
theorem r6_56 : zR d 6 Q 56 lv [.int x4, .int x3, .ref c2, .int x1, .ref c0] h = zM d 1003 [.ref c0, .int x1, .ref c2, .int x3, .int x4] h (fun r h' => zR d 6 Q 59 lv (r.toList ++ []) h') := q_clS rfl rfl ⟨Nat.le_of_ble_eq_true rfl, Nat.le_of_ble_eq_true rfl⟩
theorem r6_59 : zR d 6 Q 59 lv [] h = Q none h := q_ret rfl rfl
theorem r7_0 : zR d 7 Q 0 (o0 :: some (.int x) :: l) st h = zR d 7 Q 1 (o0 :: some (.int x) :: l) (.int x :: st) h := q_in rfl rfl
theorem r7_1 : zR d 7 Q 1 lv st h = zR d 7 Q 2 lv (.int 0 :: st) h := q_in rfl rfl
theorem r7_2 : zR d 7 Q 2 lv st h = zR d 7 Q 4 lv (.int 13 :: st) h := q_in rfl rfl
theorem r7_4 : zR d 7 Q 4 lv [.int x2, .int x1, .int x0] h = zM d 103 [.int x0, .int x1, .int x2] h (fun r h' => zR d 7 Q 7 lv (r.toList ++ []) h') := q_clS rfl rfl ⟨Nat.le_of_ble_eq_true rfl, Nat.le_of_ble_eq_true rfl⟩
theorem r7_7 : zR d 7 Q 7 lv (.int x :: st) h = if x = 0 then zR d 7 Q 10 lv st h else zR d 7 Q 12 lv st h := q_if rfl rfl
theorem r7_10 : zR d 7 Q 10 lv st h = zR d 7 Q 11 lv (.int 0 :: st) h := q_in rfl rfl
theorem r7_11 : zR d 7 Q 11 lv [.int x] h = Q (some (.int x)) h := q_retz rfl rfl (Or.inl rfl)
theorem r7_12 : zR d 7 Q 12 lv st h = zR d 7 Q 13 lv (.int 0 :: st) h := q_in rfl rfl
theorem r7_13 : zR d 7 Q 13 (o0 :: o1 :: o2 :: o3 :: o4 :: o5 :: l) (.int x :: st) h = zR d 7 Q 15 (o0 :: o1 :: o2 :: o3 :: o4 :: some (.int x) :: l) st h := q_in rfl rfl
theorem r7_15 : zR d 7 Q 15 lv st h = zR d 7 Q 16 lv (.int 0 :: st) h := q_in rfl rfl
theorem r7_16 : zR d 7 Q 16 (o0 :: o1 :: o2 :: o3 :: o4 :: o5 :: o6 :: l) (.int x :: st) h = zR d 7 Q 18 (o0 :: o1 :: o2 :: o3 :: o4 :: o5 :: some (.int x) :: l) st h := q_in rfl rfl
theorem r7_18 : zR d 7 Q 18 (o0 :: o1 :: o2 :: o3 :: o4 :: o5 :: some (.int x) :: l) st h = zR d 7 Q 20 (o0 :: o1 :: o2 :: o3 :: o4 :: o5 :: some (.int x) :: l) (.int x :: st) h := q_in rfl rfl
theorem r7_20 : zR d 7 Q 20 (some (.ref c) :: l) st h = zR d 7 Q 21 (some (.ref c) :: l) (.ref c :: st) h := q_in rfl rfl
theorem r7_21 : zR d 7 Q 21 lv (.ref 1 :: st) h = zR d 7 Q 24 lv (.ref 4 :: st) h := (q_and rfl rfl).trans (zand_t rfl)
theorem r7_24 : zR d 7 Q 24 (o0 :: some (.int x) :: l) st h = zR d 7 Q 25 (o0 :: some (.int x) :: l) (.int x :: st) h := q_in rfl rfl
theorem r7_25 : zR d 7 Q 25 lv (.int x :: .ref c :: st) h = zal c x h (fun w => zR d 7 Q 26 lv (.int w :: st) h) := q_iald rfl
theorem r7_26 : zR d 7 Q 26 lv (.int z :: .int x :: st) h = if x < z then zR d 7 Q 29 lv st h else zR d 7 Q 198 lv st h := q_if rfl rfl
theorem r7_29 : zR d 7 Q 29 (o0 :: o1 :: o2 :: o3 :: o4 :: o5 :: some (.int x) :: l) st h = zR d 7 Q 31 (o0 :: o1 :: o2 :: o3 :: o4 :: o5 :: some (.int x) :: l) (.int x :: st) h := q_in rfl rfl
theorem r7_31 : zR d 7 Q 31 lv st h = zR d 7 Q 33 lv (.int 96 :: st) h := q_in rfl rfl
theorem r7_33 : zR d 7 Q 33 lv (.int z :: .int x :: st) h = if x < z then zR d 7 Q 36 lv st h else zR d 7 Q 198 lv st h := q_if rfl rfl
theorem r7_36 : zR d 7 Q 36 (some (.ref c) :: l) st h = zR d 7 Q 37 (some (.ref c) :: l) (.ref c :: st) h := q_in rfl rfl
theorem r7_37 : zR d 7 Q 37 lv (.ref 1 :: st) h = zR d 7 Q 40 lv (.ref 5 :: st) h := (q_and rfl rfl).trans (zand_t rfl)
theorem r7_40 : zR d 7 Q 40 (o0 :: some (.int x) :: l) st h = zR d 7 Q 41 (o0 :: some (.int x) :: l) (.int x :: st) h := q_in rfl rfl
theorem r7_41 : zR d 7 Q 41 lv st h = zR d 7 Q 43 lv (.int 96 :: st) h := q_in rfl rfl
theorem r7_43 : zR d 7 Q 43 lv (.int z :: .int x :: st) h = zR d 7 Q 44 lv (.int (x * z) :: st) h := q_in rfl rfl
theorem r7_44 : zR d 7 Q 44 (o0 :: o1 :: o2 :: o3 :: o4 :: o5 :: some (.int x) :: l) st h = zR d 7 Q 46 (o0 :: o1 :: o2 :: o3 :: o4 :: o5 :: some (.int x) :: l) (.int x :: st) h := q_in rfl rfl
theorem r7_46 : zR d 7 Q 46 lv (.int z :: .int x :: st) h = zR d 7 Q 47 lv (.int (x + z) :: st) h := q_in rfl rfl
theorem r7_47 : zR d 7 Q 47 lv (.int x :: .ref c :: st) h = zal c x h (fun w => zR d 7 Q 48 lv (.int w :: st) h) := q_iald rfl
theorem r7_48 : zR d 7 Q 48 (o0 :: o1 :: o2 :: o3 :: o4 :: o5 :: o6 :: o7 :: l) (.int x :: st) h = zR d 7 Q 50 (o0 :: o1 :: o2 :: o3 :: o4 :: o5 :: o6 :: some (.int x) :: l) st h := q_in rfl rfl
theorem r7_50 : zR d 7 Q 50 (o0 :: o1 :: o2 :: o3 :: o4 :: o5 :: o6 :: some (.int x) :: l) st h = zR d 7 Q 52 (o0 :: o1 :: o2 :: o3 :: o4 :: o5 :: o6 :: some (.int x) :: l) (.int x :: st) h := q_in rfl rfl
theorem r7_52 : zR d 7 Q 52 lv st h = zR d 7 Q 54 lv (.int (-3) :: st) h := q_in rfl rfl
theorem r7_54 : zR d 7 Q 54 lv (.int z :: .int x :: st) h = if x < z then zR d 7 Q 110 lv st h else zR d 7 Q 57 lv st h := q_if rfl rfl
theorem r7_57 : zR d 7 Q 57 (o0 :: o1 :: o2 :: o3 :: o4 :: some (.int x) :: l) st h = zR d 7 Q 59 (o0 :: o1 :: o2 :: o3 :: o4 :: some (.int x) :: l) (.int x :: st) h := q_in rfl rfl
theorem r7_59 : zR d 7 Q 59 lv st h = zR d 7 Q 61 lv (.int 96 :: st) h := q_in rfl rfl
theorem r7_61 : zR d 7 Q 61 lv (.int z :: .int x :: st) h = if x < z then zR d 7 Q 64 lv st h else zR d 7 Q 192 lv st h := q_if rfl rfl
theorem r7_64 : zR d 7 Q 64 (some (.ref c) :: l) st h = zR d 7 Q 65 (some (.ref c) :: l) (.ref c :: st) h := q_in rfl rfl
theorem r7_65 : zR d 7 Q 65 lv (.ref 1 :: st) h = zR d 7 Q 68 lv (.ref 6 :: st) h := (q_and rfl rfl).trans (zand_t rfl)
theorem r7_68 : zR d 7 Q 68 (o0 :: o1 :: o2 :: o3 :: o4 :: some (.int x) :: l) st h = zR d 7 Q 70 (o0 :: o1 :: o2 :: o3 :: o4 :: some (.int x) :: l) (.int x :: st) h := q_in rfl rfl
theorem r7_70 : zR d 7 Q 70 (o0 :: o1 :: o2 :: o3 :: o4 :: o5 :: o6 :: some (.int x) :: l) st h = zR d 7 Q 72 (o0 :: o1 :: o2 :: o3 :: o4 :: o5 :: o6 :: some (.int x) :: l) (.int x :: st) h := q_in rfl rfl
theorem r7_72 : zR d 7 Q 72 lv (.int x :: st) h = if x < 0 then zR d 7 Q 80 lv st h else zR d 7 Q 75 lv st h := q_if rfl rfl
theorem r7_75 : zR d 7 Q 75 (o0 :: o1 :: o2 :: o3 :: o4 :: o5 :: o6 :: some (.int x) :: l) st h = zR d 7 Q 77 (o0 :: o1 :: o2 :: o3 :: o4 :: o5 :: o6 :: some (.int x) :: l) (.int x :: st) h := q_in rfl rfl
theorem r7_77 : zR d 7 Q 77 lv st h = zR d 7 Q 103 lv st h := q_in rfl rfl
theorem r7_80 : zR d 7 Q 80 (o0 :: o1 :: o2 :: o3 :: o4 :: o5 :: o6 :: some (.int x) :: l) st h = zR d 7 Q 82 (o0 :: o1 :: o2 :: o3 :: o4 :: o5 :: o6 :: some (.int x) :: l) (.int x :: st) h := q_in rfl rfl
theorem r7_82 : zR d 7 Q 82 lv st h = zR d 7 Q 83 lv (.int (-1) :: st) h := q_in rfl rfl
theorem r7_83 : zR d 7 Q 83 lv (.int z :: .int x :: st) h = if x = z then zR d 7 Q 86 lv st h else zR d 7 Q 90 lv st h := q_if rfl rfl
theorem r7_86 : zR d 7 Q 86 (o0 :: o1 :: some (.int x) :: l) st h = zR d 7 Q 87 (o0 :: o1 :: some (.int x) :: l) (.int x :: st) h := q_in rfl rfl
theorem r7_87 : zR d 7 Q 87 lv st h = zR d 7 Q 103 lv st h := q_in rfl rfl
theorem r7_90 : zR d 7 Q 90 (o0 :: o1 :: o2 :: o3 :: o4 :: o5 :: o6 :: some (.int x) :: l) st h = zR d 7 Q 92 (o0 :: o1 :: o2 :: o3 :: o4 :: o5 :: o6 :: some (.int x) :: l) (.int x :: st) h := q_in rfl rfl
theorem r7_92 : zR d 7 Q 92 lv st h = zR d 7 Q 94 lv (.int (-2) :: st) h := q_in rfl rfl
theorem r7_94 : zR d 7 Q 94 lv (.int z :: .int x :: st) h = if x = z then zR d 7 Q 97 lv st h else zR d 7 Q 101 lv st h := q_if rfl rfl
theorem r7_97 : zR d 7 Q 97 (o0 :: o1 :: o2 :: some (.int x) :: l) st h = zR d 7 Q 98 (o0 :: o1 :: o2 :: some (.int x) :: l) (.int x :: st) h := q_in rfl rfl
theorem r7_98 : zR d 7 Q 98 lv st h = zR d 7 Q 103 lv st h := q_in rfl rfl
theorem r7_101 : zR d 7 Q 101 (o0 :: o1 :: o2 :: o3 :: some (.int x) :: l) st h = zR d 7 Q 103 (o0 :: o1 :: o2 :: o3 :: some (.int x) :: l) (.int x :: st) h := q_in rfl rfl
theorem r7_103 : zR d 7 Q 103 lv (.int z :: .int x :: .ref c :: st) h = zas c x z h (fun h' => zR d 7 Q 104 lv st h') := q_iast rfl
theorem r7_104 : zR d 7 Q 104 (o0 :: o1 :: o2 :: o3 :: o4 :: some (.int x) :: l) st h = zR d 7 Q 107 (o0 :: o1 :: o2 :: o3 :: o4 :: some (.int (x + 1)) :: l) st h := q_in rfl rfl
theorem r7_107 : zR d 7 Q 107 lv st h = zR d 7 Q 192 lv st h := q_in rfl rfl
theorem r7_110 : zR d 7 Q 110 (o0 :: o1 :: o2 :: o3 :: o4 :: o5 :: o6 :: some (.int x) :: l) st h = zR d 7 Q 112 (o0 :: o1 :: o2 :: o3 :: o4 :: o5 :: o6 :: some (.int x) :: l) (.int x :: st) h := q_in rfl rfl
theorem r7_112 : zR d 7 Q 112 lv st h = zR d 7 Q 114 lv (.int (-33) :: st) h := q_in rfl rfl
theorem r7_114 : zR d 7 Q 114 lv (.int z :: .int x :: st) h = if x = z then zR d 7 Q 117 lv st h else zR d 7 Q 152 lv st h := q_if rfl rfl
theorem r7_117 : zR d 7 Q 117 (o0 :: o1 :: o2 :: o3 :: o4 :: some (.int x) :: l) st h = zR d 7 Q 119 (o0 :: o1 :: o2 :: o3 :: o4 :: some (.int x) :: l) (.int x :: st) h := q_in rfl rfl
theorem r7_119 : zR d 7 Q 119 lv st h = zR d 7 Q 120 lv (.int 1 :: st) h := q_in rfl rfl
theorem r7_120 : zR d 7 Q 120 lv (.int z :: .int x :: st) h = if x < z then zR d 7 Q 192 lv st h else zR d 7 Q 123 lv st h := q_if rfl rfl
theorem r7_123 : zR d 7 Q 123 (some (.ref c) :: l) st h = zR d 7 Q 124 (some (.ref c) :: l) (.ref c :: st) h := q_in rfl rfl
theorem r7_124 : zR d 7 Q 124 lv (.ref 1 :: st) h = zR d 7 Q 127 lv (.ref 6 :: st) h := (q_and rfl rfl).trans (zand_t rfl)
theorem r7_127 : zR d 7 Q 127 (o0 :: o1 :: o2 :: o3 :: o4 :: some (.int x) :: l) st h = zR d 7 Q 129 (o0 :: o1 :: o2 :: o3 :: o4 :: some (.int x) :: l) (.int x :: st) h := q_in rfl rfl
theorem r7_129 : zR d 7 Q 129 lv st h = zR d 7 Q 130 lv (.int 1 :: st) h := q_in rfl rfl
theorem r7_130 : zR d 7 Q 130 lv (.int z :: .int x :: st) h = zR d 7 Q 131 lv (.int (x - z) :: st) h := q_in rfl rfl
theorem r7_131 : zR d 7 Q 131 (some (.ref c) :: l) st h = zR d 7 Q 132 (some (.ref c) :: l) (.ref c :: st) h := q_in rfl rfl
theorem r7_132 : zR d 7 Q 132 lv (.ref 1 :: st) h = zR d 7 Q 135 lv (.ref 6 :: st) h := (q_and rfl rfl).trans (zand_t rfl)
theorem r7_135 : zR d 7 Q 135 (o0 :: o1 :: o2 :: o3 :: o4 :: some (.int x) :: l) st h = zR d 7 Q 137 (o0 :: o1 :: o2 :: o3 :: o4 :: some (.int x) :: l) (.int x :: st) h := q_in rfl rfl
theorem r7_137 : zR d 7 Q 137 lv st h = zR d 7 Q 138 lv (.int 1 :: st) h := q_in rfl rfl
theorem r7_138 : zR d 7 Q 138 lv (.int z :: .int x :: st) h = zR d 7 Q 139 lv (.int (x - z) :: st) h := q_in rfl rfl
theorem r7_139 : zR d 7 Q 139 lv (.int x :: .ref c :: st) h = zal c x h (fun w => zR d 7 Q 140 lv (.int w :: st) h) := q_iald rfl
theorem r7_140 : zR d 7 Q 140 lv (.int x :: st) h = if x = 0 then zR d 7 Q 143 lv st h else zR d 7 Q 147 lv st h := q_if rfl rfl
theorem r7_143 : zR d 7 Q 143 lv st h = zR d 7 Q 144 lv (.int 1 :: st) h := q_in rfl rfl
theorem r7_144 : zR d 7 Q 144 lv st h = zR d 7 Q 148 lv st h := q_in rfl rfl
theorem r7_147 : zR d 7 Q 147 lv st h = zR d 7 Q 148 lv (.int 0 :: st) h := q_in rfl rfl
theorem r7_148 : zR d 7 Q 148 lv (.int z :: .int x :: .ref c :: st) h = zas c x z h (fun h' => zR d 7 Q 149 lv st h') := q_iast rfl
theorem r7_149 : zR d 7 Q 149 lv st h = zR d 7 Q 192 lv st h := q_in rfl rfl
theorem r7_152 : zR d 7 Q 152 (o0 :: o1 :: o2 :: o3 :: o4 :: some (.int x) :: l) st h = zR d 7 Q 154 (o0 :: o1 :: o2 :: o3 :: o4 :: some (.int x) :: l) (.int x :: st) h := q_in rfl rfl
theorem r7_154 : zR d 7 Q 154 lv st h = zR d 7 Q 155 lv (.int 2 :: st) h := q_in rfl rfl
theorem r7_155 : zR d 7 Q 155 lv (.int z :: .int x :: st) h = if x < z then zR d 7 Q 192 lv st h else zR d 7 Q 158 lv st h := q_if rfl rfl
theorem r7_158 : zR d 7 Q 158 (o0 :: o1 :: o2 :: o3 :: o4 :: some (.int x) :: l) st h = zR d 7 Q 161 (o0 :: o1 :: o2 :: o3 :: o4 :: some (.int (x + (-1))) :: l) st h := q_in rfl rfl
theorem r7_161 : zR d 7 Q 161 (some (.ref c) :: l) st h = zR d 7 Q 162 (some (.ref c) :: l) (.ref c :: st) h := q_in rfl rfl
theorem r7_162 : zR d 7 Q 162 lv (.ref 1 :: st) h = zR d 7 Q 165 lv (.ref 6 :: st) h := (q_and rfl rfl).trans (zand_t rfl)
theorem r7_165 : zR d 7 Q 165 (o0 :: o1 :: o2 :: o3 :: o4 :: some (.int x) :: l) st h = zR d 7 Q 167 (o0 :: o1 :: o2 :: o3 :: o4 :: some (.int x) :: l) (.int x :: st) h := q_in rfl rfl
theorem r7_167 : zR d 7 Q 167 lv st h = zR d 7 Q 168 lv (.int 1 :: st) h := q_in rfl rfl
theorem r7_168 : zR d 7 Q 168 lv (.int z :: .int x :: st) h = zR d 7 Q 169 lv (.int (x - z) :: st) h := q_in rfl rfl
theorem r7_169 : zR d 7 Q 169 (o0 :: o1 :: o2 :: o3 :: o4 :: o5 :: o6 :: some (.int x) :: l) st h = zR d 7 Q 171 (o0 :: o1 :: o2 :: o3 :: o4 :: o5 :: o6 :: some (.int x) :: l) (.int x :: st) h := q_in rfl rfl
theorem r7_171 : zR d 7 Q 171 lv (.int x :: st) h = zR d 7 Q 172 lv (.int (-x) :: st) h := q_in rfl rfl
theorem r7_172 : zR d 7 Q 172 (some (.ref c) :: l) st h = zR d 7 Q 173 (some (.ref c) :: l) (.ref c :: st) h := q_in rfl rfl
set_option maxRecDepth 100000 in
theorem r7_173 : zR d 7 Q 173 lv (.ref 1 :: st) h = zR d 7 Q 176 lv (.ref 6 :: st) h := (q_and rfl rfl).trans (zand_t rfl)
set_option maxRecDepth 100000 in
theorem r7_176 : zR d 7 Q 176 (o0 :: o1 :: o2 :: o3 :: o4 :: some (.int x) :: l) st h = zR d 7 Q 178 (o0 :: o1 :: o2 :: o3 :: o4 :: some (.int x) :: l) (.int x :: st) h := q_in rfl rfl
set_option maxRecDepth 100000 in
theorem r7_178 : zR d 7 Q 178 lv st h = zR d 7 Q 179 lv (.int 1 :: st) h := q_in rfl rfl
set_option maxRecDepth 100000 in
theorem r7_179 : zR d 7 Q 179 lv (.int z :: .int x :: st) h = zR d 7 Q 180 lv (.int (x - z) :: st) h := q_in rfl rfl
set_option maxRecDepth 100000 in
theorem r7_180 : zR d 7 Q 180 lv (.int x :: .ref c :: st) h = zal c x h (fun w => zR d 7 Q 181 lv (.int w :: st) h) := q_iald rfl
set_option maxRecDepth 100000 in
theorem r7_181 : zR d 7 Q 181 (some (.ref c) :: l) st h = zR d 7 Q 182 (some (.ref c) :: l) (.ref c :: st) h := q_in rfl rfl
set_option maxRecDepth 100000 in
theorem r7_182 : zR d 7 Q 182 lv (.ref 1 :: st) h = zR d 7 Q 185 lv (.ref 6 :: st) h := (q_and rfl rfl).trans (zand_t rfl)
set_option maxRecDepth 100000 in
theorem r7_185 : zR d 7 Q 185 (o0 :: o1 :: o2 :: o3 :: o4 :: some (.int x) :: l) st h = zR d 7 Q 187 (o0 :: o1 :: o2 :: o3 :: o4 :: some (.int x) :: l) (.int x :: st) h := q_in rfl rfl
set_option maxRecDepth 100000 in
theorem r7_187 : zR d 7 Q 187 lv (.int x :: .ref c :: st) h = zal c x h (fun w => zR d 7 Q 188 lv (.int w :: st) h) := q_iald rfl
set_option maxRecDepth 100000 in
theorem r7_188 : zR d 7 Q 188 lv [.int x2, .int x1, .int x0, .int y0, .ref a1] h = zM d 8 [.int x0, .int x1, .int x2] h (fun r h' => zR d 7 Q 191 lv (r.toList ++ [.int y0, .ref a1]) h') := q_clS rfl rfl ⟨Nat.le_of_ble_eq_true rfl, Nat.le_of_ble_eq_true rfl⟩
set_option maxRecDepth 100000 in
theorem r7_191 : zR d 7 Q 191 lv (.int z :: .int x :: .ref c :: st) h = zas c x z h (fun h' => zR d 7 Q 192 lv st h') := q_iast rfl
set_option maxRecDepth 100000 in
theorem r7_192 : zR d 7 Q 192 (o0 :: o1 :: o2 :: o3 :: o4 :: o5 :: some (.int x) :: l) st h = zR d 7 Q 195 (o0 :: o1 :: o2 :: o3 :: o4 :: o5 :: some (.int (x + 1)) :: l) st h := q_in rfl rfl
set_option maxRecDepth 100000 in
theorem r7_195 : zR d 7 Q 195 lv st h = zR d 7 Q 18 lv st h := q_in rfl rfl
set_option maxRecDepth 100000 in
theorem r7_198 : zR d 7 Q 198 (o0 :: o1 :: o2 :: o3 :: o4 :: some (.int x) :: l) st h = zR d 7 Q 200 (o0 :: o1 :: o2 :: o3 :: o4 :: some (.int x) :: l) (.int x :: st) h := q_in rfl rfl
set_option maxRecDepth 100000 in
theorem r7_200 : zR d 7 Q 200 lv st h = zR d 7 Q 201 lv (.int 1 :: st) h := q_in rfl rfl
set_option maxRecDepth 100000 in
theorem r7_201 : zR d 7 Q 201 lv (.int z :: .int x :: st) h = if x < z then zR d 7 Q 216 lv st h else zR d 7 Q 204 lv st h := q_if rfl rfl
set_option maxRecDepth 100000 in
theorem r7_204 : zR d 7 Q 204 (some (.ref c) :: l) st h = zR d 7 Q 205 (some (.ref c) :: l) (.ref c :: st) h := q_in rfl rfl
set_option maxRecDepth 100000 in
theorem r7_205 : zR d 7 Q 205 lv (.ref 1 :: st) h = zR d 7 Q 208 lv (.ref 6 :: st) h := (q_and rfl rfl).trans (zand_t rfl)
set_option maxRecDepth 100000 in
theorem r7_208 : zR d 7 Q 208 (o0 :: o1 :: o2 :: o3 :: o4 :: some (.int x) :: l) st h = zR d 7 Q 210 (o0 :: o1 :: o2 :: o3 :: o4 :: some (.int x) :: l) (.int x :: st) h := q_in rfl rfl
set_option maxRecDepth 100000 in
theorem r7_210 : zR d 7 Q 210 lv st h = zR d 7 Q 211 lv (.int 1 :: st) h := q_in rfl rfl
set_option maxRecDepth 100000 in
theorem r7_211 : zR d 7 Q 211 lv (.int z :: .int x :: st) h = zR d 7 Q 212 lv (.int (x - z) :: st) h := q_in rfl rfl
set_option maxRecDepth 100000 in
theorem r7_212 : zR d 7 Q 212 lv (.int x :: .ref c :: st) h = zal c x h (fun w => zR d 7 Q 213 lv (.int w :: st) h) := q_iald rfl
set_option maxRecDepth 100000 in
theorem r7_213 : zR d 7 Q 213 lv st h = zR d 7 Q 217 lv st h := q_in rfl rfl
set_option maxRecDepth 100000 in
theorem r7_216 : zR d 7 Q 216 lv st h = zR d 7 Q 217 lv (.int 0 :: st) h := q_in rfl rfl
set_option maxRecDepth 100000 in
theorem r7_217 : zR d 7 Q 217 lv [.int x] h = Q (some (.int x)) h := q_retz rfl rfl (Or.inl rfl)
theorem r8_0 : zR d 8 Q 0 (some (.int x) :: l) st h = zR d 8 Q 1 (some (.int x) :: l) (.int x :: st) h := q_in rfl rfl
theorem r8_1 : zR d 8 Q 1 lv (.int x :: st) h = if x = 38 then zR d 8 Q 98 lv st h else if x = 42 then zR d 8 Q 153 lv st h else if x = 43 then zR d 8 Q 145 lv st h else if x = 45 then zR d 8 Q 149 lv st h else if x = 47 then zR d 8 Q 157 lv st h else if x = 60 then zR d 8 Q 112 lv st h else if x = 61 then zR d 8 Q 123 lv st h else if x = 62 then zR d 8 Q 134 lv st h else if x = 124 then zR d 8 Q 84 lv st h else zR d 8 Q 169 lv st h := (q_in rfl rfl).trans (by simp only [zsw, zR_ite])
theorem r8_84 : zR d 8 Q 84 (o0 :: some (.int x) :: l) st h = zR d 8 Q 85 (o0 :: some (.int x) :: l) (.int x :: st) h := q_in rfl rfl
theorem r8_85 : zR d 8 Q 85 lv (.int x :: st) h = if x = 0 then zR d 8 Q 88 lv st h else zR d 8 Q 92 lv st h := q_if rfl rfl
theorem r8_88 : zR d 8 Q 88 (o0 :: o1 :: some (.int x) :: l) st h = zR d 8 Q 89 (o0 :: o1 :: some (.int x) :: l) (.int x :: st) h := q_in rfl rfl
theorem r8_89 : zR d 8 Q 89 lv (.int x :: st) h = if x = 0 then zR d 8 Q 96 lv st h else zR d 8 Q 92 lv st h := q_if rfl rfl
theorem r8_92 : zR d 8 Q 92 lv st h = zR d 8 Q 93 lv (.int 1 :: st) h := q_in rfl rfl
theorem r8_93 : zR d 8 Q 93 lv st h = zR d 8 Q 97 lv st h := q_in rfl rfl
theorem r8_96 : zR d 8 Q 96 lv st h = zR d 8 Q 97 lv (.int 0 :: st) h := q_in rfl rfl
theorem r8_97 : zR d 8 Q 97 lv [.int x] h = Q (some (.int x)) h := q_retz rfl rfl (Or.inl rfl)
theorem r8_98 : zR d 8 Q 98 (o0 :: some (.int x) :: l) st h = zR d 8 Q 99 (o0 :: some (.int x) :: l) (.int x :: st) h := q_in rfl rfl
theorem r8_99 : zR d 8 Q 99 lv (.int x :: st) h = if x = 0 then zR d 8 Q 110 lv st h else zR d 8 Q 102 lv st h := q_if rfl rfl
theorem r8_102 : zR d 8 Q 102 (o0 :: o1 :: some (.int x) :: l) st h = zR d 8 Q 103 (o0 :: o1 :: some (.int x) :: l) (.int x :: st) h := q_in rfl rfl
theorem r8_103 : zR d 8 Q 103 lv (.int x :: st) h = if x = 0 then zR d 8 Q 110 lv st h else zR d 8 Q 106 lv st h := q_if rfl rfl
theorem r8_106 : zR d 8 Q 106 lv st h = zR d 8 Q 107 lv (.int 1 :: st) h := q_in rfl rfl
theorem r8_107 : zR d 8 Q 107 lv st h = zR d 8 Q 111 lv st h := q_in rfl rfl
theorem r8_110 : zR d 8 Q 110 lv st h = zR d 8 Q 111 lv (.int 0 :: st) h := q_in rfl rfl
theorem r8_111 : zR d 8 Q 111 lv [.int x] h = Q (some (.int x)) h := q_retz rfl rfl (Or.inl rfl)
theorem r8_112 : zR d 8 Q 112 (o0 :: some (.int x) :: l) st h = zR d 8 Q 113 (o0 :: some (.int x) :: l) (.int x :: st) h := q_in rfl rfl
theorem r8_113 : zR d 8 Q 113 (o0 :: o1 :: some (.int x) :: l) st h = zR d 8 Q 114 (o0 :: o1 :: some (.int x) :: l) (.int x :: st) h := q_in rfl rfl
theorem r8_114 : zR d 8 Q 114 lv (.int z :: .int x :: st) h = if x < z then zR d 8 Q 117 lv st h else zR d 8 Q 121 lv st h := q_if rfl rfl
theorem r8_117 : zR d 8 Q 117 lv st h = zR d 8 Q 118 lv (.int 1 :: st) h := q_in rfl rfl
theorem r8_118 : zR d 8 Q 118 lv st h = zR d 8 Q 122 lv st h := q_in rfl rfl
theorem r8_121 : zR d 8 Q 121 lv st h = zR d 8 Q 122 lv (.int 0 :: st) h := q_in rfl rfl
theorem r8_122 : zR d 8 Q 122 lv [.int x] h = Q (some (.int x)) h := q_retz rfl rfl (Or.inl rfl)
theorem r8_123 : zR d 8 Q 123 (o0 :: some (.int x) :: l) st h = zR d 8 Q 124 (o0 :: some (.int x) :: l) (.int x :: st) h := q_in rfl rfl
theorem r8_124 : zR d 8 Q 124 (o0 :: o1 :: some (.int x) :: l) st h = zR d 8 Q 125 (o0 :: o1 :: some (.int x) :: l) (.int x :: st) h := q_in rfl rfl
theorem r8_125 : zR d 8 Q 125 lv (.int z :: .int x :: st) h = if x = z then zR d 8 Q 128 lv st h else zR d 8 Q 132 lv st h := q_if rfl rfl
theorem r8_128 : zR d 8 Q 128 lv st h = zR d 8 Q 129 lv (.int 1 :: st) h := q_in rfl rfl
theorem r8_129 : zR d 8 Q 129 lv st h = zR d 8 Q 133 lv st h := q_in rfl rfl
theorem r8_132 : zR d 8 Q 132 lv st h = zR d 8 Q 133 lv (.int 0 :: st) h := q_in rfl rfl
theorem r8_133 : zR d 8 Q 133 lv [.int x] h = Q (some (.int x)) h := q_retz rfl rfl (Or.inl rfl)
theorem r8_134 : zR d 8 Q 134 (o0 :: some (.int x) :: l) st h = zR d 8 Q 135 (o0 :: some (.int x) :: l) (.int x :: st) h := q_in rfl rfl
theorem r8_135 : zR d 8 Q 135 (o0 :: o1 :: some (.int x) :: l) st h = zR d 8 Q 136 (o0 :: o1 :: some (.int x) :: l) (.int x :: st) h := q_in rfl rfl
theorem r8_136 : zR d 8 Q 136 lv (.int z :: .int x :: st) h = if x ≤ z then zR d 8 Q 143 lv st h else zR d 8 Q 139 lv st h := q_if rfl rfl
theorem r8_139 : zR d 8 Q 139 lv st h = zR d 8 Q 140 lv (.int 1 :: st) h := q_in rfl rfl
theorem r8_140 : zR d 8 Q 140 lv st h = zR d 8 Q 144 lv st h := q_in rfl rfl
theorem r8_143 : zR d 8 Q 143 lv st h = zR d 8 Q 144 lv (.int 0 :: st) h := q_in rfl rfl
theorem r8_144 : zR d 8 Q 144 lv [.int x] h = Q (some (.int x)) h := q_retz rfl rfl (Or.inl rfl)
theorem r8_145 : zR d 8 Q 145 (o0 :: some (.int x) :: l) st h = zR d 8 Q 146 (o0 :: some (.int x) :: l) (.int x :: st) h := q_in rfl rfl
theorem r8_146 : zR d 8 Q 146 (o0 :: o1 :: some (.int x) :: l) st h = zR d 8 Q 147 (o0 :: o1 :: some (.int x) :: l) (.int x :: st) h := q_in rfl rfl
theorem r8_147 : zR d 8 Q 147 lv (.int z :: .int x :: st) h = zR d 8 Q 148 lv (.int (x + z) :: st) h := q_in rfl rfl
theorem r8_148 : zR d 8 Q 148 lv [.int x] h = Q (some (.int x)) h := q_retz rfl rfl (Or.inl rfl)
theorem r8_149 : zR d 8 Q 149 (o0 :: some (.int x) :: l) st h = zR d 8 Q 150 (o0 :: some (.int x) :: l) (.int x :: st) h := q_in rfl rfl
theorem r8_150 : zR d 8 Q 150 (o0 :: o1 :: some (.int x) :: l) st h = zR d 8 Q 151 (o0 :: o1 :: some (.int x) :: l) (.int x :: st) h := q_in rfl rfl
theorem r8_151 : zR d 8 Q 151 lv (.int z :: .int x :: st) h = zR d 8 Q 152 lv (.int (x - z) :: st) h := q_in rfl rfl
theorem r8_152 : zR d 8 Q 152 lv [.int x] h = Q (some (.int x)) h := q_retz rfl rfl (Or.inl rfl)
theorem r8_153 : zR d 8 Q 153 (o0 :: some (.int x) :: l) st h = zR d 8 Q 154 (o0 :: some (.int x) :: l) (.int x :: st) h := q_in rfl rfl
theorem r8_154 : zR d 8 Q 154 (o0 :: o1 :: some (.int x) :: l) st h = zR d 8 Q 155 (o0 :: o1 :: some (.int x) :: l) (.int x :: st) h := q_in rfl rfl
theorem r8_155 : zR d 8 Q 155 lv (.int z :: .int x :: st) h = zR d 8 Q 156 lv (.int (x * z) :: st) h := q_in rfl rfl
theorem r8_156 : zR d 8 Q 156 lv [.int x] h = Q (some (.int x)) h := q_retz rfl rfl (Or.inl rfl)
theorem r8_157 : zR d 8 Q 157 (o0 :: o1 :: some (.int x) :: l) st h = zR d 8 Q 158 (o0 :: o1 :: some (.int x) :: l) (.int x :: st) h := q_in rfl rfl
theorem r8_158 : zR d 8 Q 158 lv (.int x :: st) h = if x = 0 then zR d 8 Q 161 lv st h else zR d 8 Q 165 lv st h := q_if rfl rfl
theorem r8_161 : zR d 8 Q 161 lv st h = zR d 8 Q 162 lv (.int 0 :: st) h := q_in rfl rfl
theorem r8_162 : zR d 8 Q 162 lv st h = zR d 8 Q 168 lv st h := q_in rfl rfl
theorem r8_165 : zR d 8 Q 165 (o0 :: some (.int x) :: l) st h = zR d 8 Q 166 (o0 :: some (.int x) :: l) (.int x :: st) h := q_in rfl rfl
theorem r8_166 : zR d 8 Q 166 (o0 :: o1 :: some (.int x) :: l) st h = zR d 8 Q 167 (o0 :: o1 :: some (.int x) :: l) (.int x :: st) h := q_in rfl rfl
theorem r8_167 : zR d 8 Q 167 lv (.int z :: .int x :: st) h = (¬ z = 0 ∧ zR d 8 Q 168 lv (.int (x / z) :: st) h) := q_and rfl rfl
theorem r8_168 : zR d 8 Q 168 lv [.int x] h = Q (some (.int x)) h := q_retz rfl rfl (Or.inl rfl)
theorem r8_169 : zR d 8 Q 169 lv st h = zR d 8 Q 170 lv (.int 0 :: st) h := q_in rfl rfl
theorem r8_170 : zR d 8 Q 170 lv [.int x] h = Q (some (.int x)) h := q_retz rfl rfl (Or.inl rfl)
theorem r9_0 : zR d 9 Q 0 lv st h = zR d 9 Q 2 lv (.int 24 :: st) h := q_in rfl rfl
theorem r9_2 : zR d 9 Q 2 (o0 :: o1 :: o2 :: l) (.int x :: st) h = zR d 9 Q 3 (o0 :: o1 :: some (.int x) :: l) st h := q_in rfl rfl
theorem r9_3 : zR d 9 Q 3 (o0 :: o1 :: some (.int x) :: l) st h = zR d 9 Q 4 (o0 :: o1 :: some (.int x) :: l) (.int x :: st) h := q_in rfl rfl
theorem r9_4 : zR d 9 Q 4 lv (.int x :: st) h = if x < 0 then zR d 9 Q 48 lv st h else zR d 9 Q 7 lv st h := q_if rfl rfl
theorem r9_7 : zR d 9 Q 7 (some (.ref c) :: l) st h = zR d 9 Q 8 (some (.ref c) :: l) (.ref c :: st) h := q_in rfl rfl
theorem r9_8 : zR d 9 Q 8 lv (.ref 7 :: st) h = zR d 9 Q 11 lv (.int (h 7 1) :: st) h := (q_and rfl rfl).trans (zand_t rfl)
theorem r9_11 : zR d 9 Q 11 lv st h = zR d 9 Q 13 lv (.int 96 :: st) h := q_in rfl rfl
theorem r9_13 : zR d 9 Q 13 lv (.int z :: .int x :: st) h = if x < z then zR d 9 Q 16 lv st h else zR d 9 Q 42 lv st h := q_if rfl rfl
theorem r9_16 : zR d 9 Q 16 (some (.ref c) :: l) st h = zR d 9 Q 17 (some (.ref c) :: l) (.ref c :: st) h := q_in rfl rfl
theorem r9_17 : zR d 9 Q 17 lv (.ref 7 :: st) h = zR d 9 Q 20 lv (.ref 8 :: st) h := (q_and rfl rfl).trans (zand_t rfl)
theorem r9_20 : zR d 9 Q 20 (some (.ref c) :: l) st h = zR d 9 Q 21 (some (.ref c) :: l) (.ref c :: st) h := q_in rfl rfl
theorem r9_21 : zR d 9 Q 21 lv (.ref 7 :: st) h = zR d 9 Q 24 lv (.int (h 7 1) :: st) h := (q_and rfl rfl).trans (zand_t rfl)
theorem r9_24 : zR d 9 Q 24 (o0 :: some (.int x) :: l) st h = zR d 9 Q 25 (o0 :: some (.int x) :: l) (.int x :: st) h := q_in rfl rfl
theorem r9_25 : zR d 9 Q 25 (o0 :: o1 :: some (.int x) :: l) st h = zR d 9 Q 26 (o0 :: o1 :: some (.int x) :: l) (.int x :: st) h := q_in rfl rfl
theorem r9_26 : zR d 9 Q 26 lv (.int z :: .int x :: st) h = zR d 9 Q 27 lv (.int ((x.toUInt32 >>> (z.toUInt32 &&& Int32.toUInt32 31)).toInt32) :: st) h := q_in rfl rfl
theorem r9_27 : zR d 9 Q 27 lv st h = zR d 9 Q 30 lv (.int 255 :: st) h := q_in rfl rfl
theorem r9_30 : zR d 9 Q 30 lv (.int z :: .int x :: st) h = zR d 9 Q 31 lv (.int (x &&& z) :: st) h := q_in rfl rfl
theorem r9_31 : zR d 9 Q 31 lv (.int z :: .int x :: .ref c :: st) h = zas c x z h (fun h' => zR d 9 Q 32 lv st h') := q_iast rfl
theorem r9_32 : zR d 9 Q 32 (some (.ref c) :: l) st h = zR d 9 Q 33 (some (.ref c) :: l) (.ref c :: st) h := q_in rfl rfl
theorem r9_33 : zR d 9 Q 33 lv (.ref c :: st) h = zR d 9 Q 34 lv (.ref c :: .ref c :: st) h := q_in rfl rfl
theorem r9_34 : zR d 9 Q 34 lv (.ref 7 :: st) h = zR d 9 Q 37 lv (.int (h 7 1) :: st) h := (q_and rfl rfl).trans (zand_t rfl)
theorem r9_37 : zR d 9 Q 37 lv st h = zR d 9 Q 38 lv (.int 1 :: st) h := q_in rfl rfl
theorem r9_38 : zR d 9 Q 38 lv (.int z :: .int x :: st) h = zR d 9 Q 39 lv (.int (x + z) :: st) h := q_in rfl rfl
theorem r9_39 : zR d 9 Q 39 lv (.int x :: .ref 7 :: st) h = zR d 9 Q 42 lv st (zhr h 7 (upd (h 7) 1 x)) := (q_and rfl rfl).trans (zand_t ⟨rfl, Or.inl rfl⟩)
theorem r9_42 : zR d 9 Q 42 (o0 :: o1 :: some (.int x) :: l) st h = zR d 9 Q 45 (o0 :: o1 :: some (.int (x + (-8))) :: l) st h := q_in rfl rfl
theorem r9_45 : zR d 9 Q 45 lv st h = zR d 9 Q 3 lv st h := q_in rfl rfl
theorem r9_48 : zR d 9 Q 48 lv [] h = Q none h := q_ret rfl rfl
theorem r10_0 : zR d 10 Q 0 (some (.ref c) :: l) st h = zR d 10 Q 1 (some (.ref c) :: l) (.ref c :: st) h := q_in rfl rfl
theorem r10_1 : zR d 10 Q 1 lv st h = zR d 10 Q 2 lv (.int 0 :: st) h := q_in rfl rfl
theorem r10_2 : zR d 10 Q 2 lv (.int x :: .ref 7 :: st) h = zR d 10 Q 5 lv st (zhr h 7 (upd (h 7) 3 x)) := (q_and rfl rfl).trans (zand_t ⟨rfl, Or.inl rfl⟩)
theorem r10_5 : zR d 10 Q 5 (some (.ref c) :: l) st h = zR d 10 Q 6 (some (.ref c) :: l) (.ref c :: st) h := q_in rfl rfl
theorem r10_6 : zR d 10 Q 6 lv st h = zR d 10 Q 7 lv (.int (-1) :: st) h := q_in rfl rfl
theorem r10_7 : zR d 10 Q 7 lv (.int x :: .ref 7 :: st) h = zR d 10 Q 10 lv st (zhr h 7 (upd (h 7) 4 x)) := (q_and rfl rfl).trans (zand_t ⟨rfl, Or.inl rfl⟩)
theorem r10_10 : zR d 10 Q 10 (some (.ref c) :: l) st h = zR d 10 Q 11 (some (.ref c) :: l) (.ref c :: st) h := q_in rfl rfl
theorem r10_11 : zR d 10 Q 11 lv st h = zR d 10 Q 12 lv (.int (-1) :: st) h := q_in rfl rfl
theorem r10_12 : zR d 10 Q 12 lv (.int x :: .ref 7 :: st) h = zR d 10 Q 15 lv st (zhr h 7 (upd (h 7) 6 x)) := (q_and rfl rfl).trans (zand_t ⟨rfl, Or.inl rfl⟩)
theorem r10_15 : zR d 10 Q 15 (some (.ref c) :: l) st h = zR d 10 Q 16 (some (.ref c) :: l) (.ref c :: st) h := q_in rfl rfl
theorem r10_16 : zR d 10 Q 16 lv st h = zR d 10 Q 17 lv (.int 0 :: st) h := q_in rfl rfl
theorem r10_17 : zR d 10 Q 17 lv (.int x :: .ref 7 :: st) h = zR d 10 Q 20 lv st (zhr h 7 (upd (h 7) 9 x)) := (q_and rfl rfl).trans (zand_t ⟨rfl, Or.inl rfl⟩)
theorem r10_20 : zR d 10 Q 20 (some (.ref c) :: l) st h = zR d 10 Q 21 (some (.ref c) :: l) (.ref c :: st) h := q_in rfl rfl
theorem r10_21 : zR d 10 Q 21 lv st h = zR d 10 Q 22 lv (.int 0 :: st) h := q_in rfl rfl
theorem r10_22 : zR d 10 Q 22 lv (.int x :: .ref 7 :: st) h = zR d 10 Q 25 lv st (zhr h 7 (upd (h 7) 10 x)) := (q_and rfl rfl).trans (zand_t ⟨rfl, Or.inl rfl⟩)
theorem r10_25 : zR d 10 Q 25 (some (.ref c) :: l) st h = zR d 10 Q 26 (some (.ref c) :: l) (.ref c :: st) h := q_in rfl rfl
theorem r10_26 : zR d 10 Q 26 lv [.ref 7] h = zM d 11 [.ref 7] h (fun r h' => zR d 10 Q 29 lv (r.toList ++ []) h') := (q_clV rfl rfl (Nat.le_of_ble_eq_true rfl)).trans (zand_t ⟨rfl, Nat.le_of_ble_eq_true rfl⟩)
theorem r10_29 : zR d 10 Q 29 (some (.ref c) :: l) st h = zR d 10 Q 30 (some (.ref c) :: l) (.ref c :: st) h := q_in rfl rfl
theorem r10_30 : zR d 10 Q 30 lv [.ref 7] h = zM d 18 [.ref 7] h (fun r h' => zR d 10 Q 33 lv (r.toList ++ []) h') := (q_clV rfl rfl (Nat.le_of_ble_eq_true rfl)).trans (zand_t ⟨rfl, Nat.le_of_ble_eq_true rfl⟩)
theorem r10_33 : zR d 10 Q 33 (some (.ref c) :: l) st h = zR d 10 Q 34 (some (.ref c) :: l) (.ref c :: st) h := q_in rfl rfl
theorem r10_34 : zR d 10 Q 34 lv st h = zR d 10 Q 35 lv (.int 0 :: st) h := q_in rfl rfl
theorem r10_35 : zR d 10 Q 35 lv st h = zR d 10 Q 36 lv (.int 0 :: st) h := q_in rfl rfl
theorem r10_36 : zR d 10 Q 36 lv [.int x1, .int x0, .ref 7] h = zM d 20 [.ref 7, .int x0, .int x1] h (fun r h' => zR d 10 Q 39 lv (r.toList ++ []) h') := (q_clV rfl rfl (Nat.le_of_ble_eq_true rfl)).trans (zand_t ⟨rfl, Nat.le_of_ble_eq_true rfl⟩)
theorem r10_39 : zR d 10 Q 39 (some (.ref c) :: l) st h = zR d 10 Q 40 (some (.ref c) :: l) (.ref c :: st) h := q_in rfl rfl
theorem r10_40 : zR d 10 Q 40 lv (.ref 7 :: st) h = zR d 10 Q 43 lv (.int (h 7 4) :: st) h := (q_and rfl rfl).trans (zand_t rfl)
theorem r10_43 : zR d 10 Q 43 lv st h = zR d 10 Q 44 lv (.int (-1) :: st) h := q_in rfl rfl
theorem r10_44 : zR d 10 Q 44 lv (.int z :: .int x :: st) h = if x = z then zR d 10 Q 51 lv st h else zR d 10 Q 47 lv st h := q_if rfl rfl
theorem r10_47 : zR d 10 Q 47 (some (.ref c) :: l) st h = zR d 10 Q 48 (some (.ref c) :: l) (.ref c :: st) h := q_in rfl rfl
theorem r10_48 : zR d 10 Q 48 lv [.ref 7] h = zM d 15 [.ref 7] h (fun r h' => zR d 10 Q 51 lv (r.toList ++ []) h') := (q_clV rfl rfl (Nat.le_of_ble_eq_true rfl)).trans (zand_t ⟨rfl, Nat.le_of_ble_eq_true rfl⟩)
theorem r10_51 : zR d 10 Q 51 (some (.ref c) :: l) st h = zR d 10 Q 52 (some (.ref c) :: l) (.ref c :: st) h := q_in rfl rfl
theorem r10_52 : zR d 10 Q 52 lv (.ref 7 :: st) h = zR d 10 Q 55 lv (.int (h 7 6) :: st) h := (q_and rfl rfl).trans (zand_t rfl)
theorem r10_55 : zR d 10 Q 55 lv [.int x] h = Q (some (.int x)) h := q_retz rfl rfl (Or.inl rfl)
theorem r11_0 : zR d 11 Q 0 (some (.ref c) :: l) st h = zR d 11 Q 1 (some (.ref c) :: l) (.ref c :: st) h := q_in rfl rfl
theorem r11_1 : zR d 11 Q 1 lv [.ref 7] h = zM d 12 [.ref 7] h (fun r h' => zR d 11 Q 4 lv (r.toList ++ []) h') := (q_clV rfl rfl (Nat.le_of_ble_eq_true rfl)).trans (zand_t ⟨rfl, Nat.le_of_ble_eq_true rfl⟩)
theorem r11_4 : zR d 11 Q 4 (o0 :: o1 :: l) (.int x :: st) h = zR d 11 Q 5 (o0 :: some (.int x) :: l) st h := q_in rfl rfl
theorem r11_5 : zR d 11 Q 5 (some (.ref c) :: l) st h = zR d 11 Q 6 (some (.ref c) :: l) (.ref c :: st) h := q_in rfl rfl
theorem r11_6 : zR d 11 Q 6 lv (.ref 7 :: st) h = zR d 11 Q 9 lv (.int (h 7 3) :: st) h := (q_and rfl rfl).trans (zand_t rfl)
theorem r11_9 : zR d 11 Q 9 (o0 :: o1 :: o2 :: l) (.int x :: st) h = zR d 11 Q 10 (o0 :: o1 :: some (.int x) :: l) st h := q_in rfl rfl
theorem r11_10 : zR d 11 Q 10 (some (.ref c) :: l) st h = zR d 11 Q 11 (some (.ref c) :: l) (.ref c :: st) h := q_in rfl rfl
theorem r11_11 : zR d 11 Q 11 (some (.ref c) :: l) st h = zR d 11 Q 12 (some (.ref c) :: l) (.ref c :: st) h := q_in rfl rfl
theorem r11_12 : zR d 11 Q 12 lv (.ref 7 :: st) h = zR d 11 Q 15 lv (.int (h 7 3) :: st) h := (q_and rfl rfl).trans (zand_t rfl)
theorem r11_15 : zR d 11 Q 15 lv (.int x :: .ref 7 :: st) h = zR d 11 Q 18 lv st (zhr h 7 (upd (h 7) 2 x)) := (q_and rfl rfl).trans (zand_t ⟨rfl, Or.inl rfl⟩)
theorem r11_18 : zR d 11 Q 18 (some (.ref c) :: l) st h = zR d 11 Q 19 (some (.ref c) :: l) (.ref c :: st) h := q_in rfl rfl
theorem r11_19 : zR d 11 Q 19 lv (.ref 7 :: st) h = zR d 11 Q 22 lv (.int (h 7 2) :: st) h := (q_and rfl rfl).trans (zand_t rfl)
theorem r11_22 : zR d 11 Q 22 (some (.ref c) :: l) st h = zR d 11 Q 23 (some (.ref c) :: l) (.ref c :: st) h := q_in rfl rfl
theorem r11_23 : zR d 11 Q 23 lv (.ref 7 :: st) h = zR d 11 Q 26 lv (.int (h 7 1) :: st) h := (q_and rfl rfl).trans (zand_t rfl)
theorem r11_26 : zR d 11 Q 26 lv (.int z :: .int x :: st) h = if x < z then zR d 11 Q 29 lv st h else zR d 11 Q 55 lv st h := q_if rfl rfl
theorem r11_29 : zR d 11 Q 29 (some (.ref c) :: l) st h = zR d 11 Q 30 (some (.ref c) :: l) (.ref c :: st) h := q_in rfl rfl
theorem r11_30 : zR d 11 Q 30 (some (.ref c) :: l) st h = zR d 11 Q 31 (some (.ref c) :: l) (.ref c :: st) h := q_in rfl rfl
theorem r11_31 : zR d 11 Q 31 lv (.ref 7 :: st) h = zR d 11 Q 34 lv (.int (h 7 2) :: st) h := (q_and rfl rfl).trans (zand_t rfl)
theorem r11_34 : zR d 11 Q 34 lv [.int x0, .ref 7] h = zM d 13 [.ref 7, .int x0] h (fun r h' => zR d 11 Q 37 lv (r.toList ++ []) h') := (q_clV rfl rfl (Nat.le_of_ble_eq_true rfl)).trans (zand_t ⟨rfl, Nat.le_of_ble_eq_true rfl⟩)
theorem r11_37 : zR d 11 Q 37 lv st h = zR d 11 Q 39 lv (.int 32 :: st) h := q_in rfl rfl
theorem r11_39 : zR d 11 Q 39 lv (.int z :: .int x :: st) h = if x = z then zR d 11 Q 42 lv st h else zR d 11 Q 55 lv st h := q_if rfl rfl
theorem r11_42 : zR d 11 Q 42 (some (.ref c) :: l) st h = zR d 11 Q 43 (some (.ref c) :: l) (.ref c :: st) h := q_in rfl rfl
theorem r11_43 : zR d 11 Q 43 lv (.ref c :: st) h = zR d 11 Q 44 lv (.ref c :: .ref c :: st) h := q_in rfl rfl
theorem r11_44 : zR d 11 Q 44 lv (.ref 7 :: st) h = zR d 11 Q 47 lv (.int (h 7 2) :: st) h := (q_and rfl rfl).trans (zand_t rfl)
theorem r11_47 : zR d 11 Q 47 lv st h = zR d 11 Q 48 lv (.int 1 :: st) h := q_in rfl rfl
theorem r11_48 : zR d 11 Q 48 lv (.int z :: .int x :: st) h = zR d 11 Q 49 lv (.int (x + z) :: st) h := q_in rfl rfl
theorem r11_49 : zR d 11 Q 49 lv (.int x :: .ref 7 :: st) h = zR d 11 Q 52 lv st (zhr h 7 (upd (h 7) 2 x)) := (q_and rfl rfl).trans (zand_t ⟨rfl, Or.inl rfl⟩)
theorem r11_52 : zR d 11 Q 52 lv st h = zR d 11 Q 18 lv st h := q_in rfl rfl
theorem r11_55 : zR d 11 Q 55 (some (.ref c) :: l) st h = zR d 11 Q 56 (some (.ref c) :: l) (.ref c :: st) h := q_in rfl rfl
theorem r11_56 : zR d 11 Q 56 (some (.ref c) :: l) st h = zR d 11 Q 57 (some (.ref c) :: l) (.ref c :: st) h := q_in rfl rfl
theorem r11_57 : zR d 11 Q 57 (some (.ref c) :: l) st h = zR d 11 Q 58 (some (.ref c) :: l) (.ref c :: st) h := q_in rfl rfl
theorem r11_58 : zR d 11 Q 58 lv (.ref 7 :: st) h = zR d 11 Q 61 lv (.int (h 7 2) :: st) h := (q_and rfl rfl).trans (zand_t rfl)
theorem r11_61 : zR d 11 Q 61 lv [.int x0, .ref 7, .ref a0] h = zM d 14 [.ref 7, .int x0] h (fun r h' => zR d 11 Q 64 lv (r.toList ++ [.ref a0]) h') := (q_clV rfl rfl (Nat.le_of_ble_eq_true rfl)).trans (zand_t ⟨rfl, Nat.le_of_ble_eq_true rfl⟩)
theorem r11_64 : zR d 11 Q 64 lv (.int x :: .ref 7 :: st) h = zR d 11 Q 67 lv st (zhr h 7 (upd (h 7) 4 x)) := (q_and rfl rfl).trans (zand_t ⟨rfl, Or.inl rfl⟩)
theorem r11_67 : zR d 11 Q 67 (some (.ref c) :: l) st h = zR d 11 Q 68 (some (.ref c) :: l) (.ref c :: st) h := q_in rfl rfl
theorem r11_68 : zR d 11 Q 68 (some (.ref c) :: l) st h = zR d 11 Q 69 (some (.ref c) :: l) (.ref c :: st) h := q_in rfl rfl
theorem r11_69 : zR d 11 Q 69 lv (.ref 7 :: st) h = zR d 11 Q 72 lv (.int (h 7 2) :: st) h := (q_and rfl rfl).trans (zand_t rfl)
theorem r11_72 : zR d 11 Q 72 lv st h = zR d 11 Q 73 lv (.int 1 :: st) h := q_in rfl rfl
theorem r11_73 : zR d 11 Q 73 lv (.int z :: .int x :: st) h = zR d 11 Q 74 lv (.int (x + z) :: st) h := q_in rfl rfl
theorem r11_74 : zR d 11 Q 74 (some (.ref c) :: l) st h = zR d 11 Q 75 (some (.ref c) :: l) (.ref c :: st) h := q_in rfl rfl
theorem r11_75 : zR d 11 Q 75 lv (.ref 7 :: st) h = zR d 11 Q 78 lv (.int (h 7 1) :: st) h := (q_and rfl rfl).trans (zand_t rfl)
theorem r11_78 : zR d 11 Q 78 lv [.int x1, .int x0, .ref a0] h = zM d 1001 [.int x0, .int x1] h (fun r h' => zR d 11 Q 81 lv (r.toList ++ [.ref a0]) h') := q_clS rfl rfl ⟨Nat.le_of_ble_eq_true rfl, Nat.le_of_ble_eq_true rfl⟩
theorem r11_81 : zR d 11 Q 81 lv (.int x :: .ref 7 :: st) h = zR d 11 Q 84 lv st (zhr h 7 (upd (h 7) 3 x)) := (q_and rfl rfl).trans (zand_t ⟨rfl, Or.inl rfl⟩)
theorem r11_84 : zR d 11 Q 84 (some (.ref c) :: l) st h = zR d 11 Q 85 (some (.ref c) :: l) (.ref c :: st) h := q_in rfl rfl
theorem r11_85 : zR d 11 Q 85 lv [.ref 7] h = zM d 12 [.ref 7] h (fun r h' => zR d 11 Q 88 lv (r.toList ++ []) h') := (q_clV rfl rfl (Nat.le_of_ble_eq_true rfl)).trans (zand_t ⟨rfl, Nat.le_of_ble_eq_true rfl⟩)
theorem r11_88 : zR d 11 Q 88 lv (.int x :: st) h = if x = 0 then zR d 11 Q 130 lv st h else zR d 11 Q 91 lv st h := q_if rfl rfl
theorem r11_91 : zR d 11 Q 91 (some (.ref c) :: l) st h = zR d 11 Q 92 (some (.ref c) :: l) (.ref c :: st) h := q_in rfl rfl
theorem r11_92 : zR d 11 Q 92 lv (.ref 7 :: st) h = zR d 11 Q 95 lv (.int (h 7 3) :: st) h := (q_and rfl rfl).trans (zand_t rfl)
theorem r11_95 : zR d 11 Q 95 (some (.ref c) :: l) st h = zR d 11 Q 96 (some (.ref c) :: l) (.ref c :: st) h := q_in rfl rfl
theorem r11_96 : zR d 11 Q 96 lv (.ref 7 :: st) h = zR d 11 Q 99 lv (.int (h 7 1) :: st) h := (q_and rfl rfl).trans (zand_t rfl)
theorem r11_99 : zR d 11 Q 99 lv (.int z :: .int x :: st) h = if x < z then zR d 11 Q 102 lv st h else zR d 11 Q 130 lv st h := q_if rfl rfl
theorem r11_102 : zR d 11 Q 102 (some (.ref c) :: l) st h = zR d 11 Q 103 (some (.ref c) :: l) (.ref c :: st) h := q_in rfl rfl
theorem r11_103 : zR d 11 Q 103 (some (.ref c) :: l) st h = zR d 11 Q 104 (some (.ref c) :: l) (.ref c :: st) h := q_in rfl rfl
theorem r11_104 : zR d 11 Q 104 lv (.ref 7 :: st) h = zR d 11 Q 107 lv (.int (h 7 3) :: st) h := (q_and rfl rfl).trans (zand_t rfl)
theorem r11_107 : zR d 11 Q 107 lv [.int x0, .ref 7] h = zM d 14 [.ref 7, .int x0] h (fun r h' => zR d 11 Q 110 lv (r.toList ++ []) h') := (q_clV rfl rfl (Nat.le_of_ble_eq_true rfl)).trans (zand_t ⟨rfl, Nat.le_of_ble_eq_true rfl⟩)
theorem r11_110 : zR d 11 Q 110 (some (.ref c) :: l) st h = zR d 11 Q 111 (some (.ref c) :: l) (.ref c :: st) h := q_in rfl rfl
theorem r11_111 : zR d 11 Q 111 lv (.ref 7 :: st) h = zR d 11 Q 114 lv (.int (h 7 4) :: st) h := (q_and rfl rfl).trans (zand_t rfl)
theorem r11_114 : zR d 11 Q 114 lv (.int z :: .int x :: st) h = if x = z then zR d 11 Q 117 lv st h else zR d 11 Q 130 lv st h := q_if rfl rfl
theorem r11_117 : zR d 11 Q 117 (some (.ref c) :: l) st h = zR d 11 Q 118 (some (.ref c) :: l) (.ref c :: st) h := q_in rfl rfl
theorem r11_118 : zR d 11 Q 118 lv (.ref c :: st) h = zR d 11 Q 119 lv (.ref c :: .ref c :: st) h := q_in rfl rfl
theorem r11_119 : zR d 11 Q 119 lv (.ref 7 :: st) h = zR d 11 Q 122 lv (.int (h 7 3) :: st) h := (q_and rfl rfl).trans (zand_t rfl)
theorem r11_122 : zR d 11 Q 122 lv st h = zR d 11 Q 123 lv (.int 1 :: st) h := q_in rfl rfl
theorem r11_123 : zR d 11 Q 123 lv (.int z :: .int x :: st) h = zR d 11 Q 124 lv (.int (x + z) :: st) h := q_in rfl rfl
theorem r11_124 : zR d 11 Q 124 lv (.int x :: .ref 7 :: st) h = zR d 11 Q 127 lv st (zhr h 7 (upd (h 7) 3 x)) := (q_and rfl rfl).trans (zand_t ⟨rfl, Or.inl rfl⟩)
theorem r11_127 : zR d 11 Q 127 lv st h = zR d 11 Q 84 lv st h := q_in rfl rfl
theorem r11_130 : zR d 11 Q 130 (some (.ref c) :: l) st h = zR d 11 Q 131 (some (.ref c) :: l) (.ref c :: st) h := q_in rfl rfl
theorem r11_131 : zR d 11 Q 131 (o0 :: some (.int x) :: l) st h = zR d 11 Q 132 (o0 :: some (.int x) :: l) (.int x :: st) h := q_in rfl rfl
theorem r11_132 : zR d 11 Q 132 lv (.int x :: st) h = if x = 0 then zR d 11 Q 154 lv st h else zR d 11 Q 135 lv st h := q_if rfl rfl
theorem r11_135 : zR d 11 Q 135 (some (.ref c) :: l) st h = zR d 11 Q 136 (some (.ref c) :: l) (.ref c :: st) h := q_in rfl rfl
theorem r11_136 : zR d 11 Q 136 lv [.ref 7, .ref a0] h = zM d 12 [.ref 7] h (fun r h' => zR d 11 Q 139 lv (r.toList ++ [.ref a0]) h') := (q_clV rfl rfl (Nat.le_of_ble_eq_true rfl)).trans (zand_t ⟨rfl, Nat.le_of_ble_eq_true rfl⟩)
theorem r11_139 : zR d 11 Q 139 lv (.int x :: st) h = if x = 0 then zR d 11 Q 154 lv st h else zR d 11 Q 142 lv st h := q_if rfl rfl
theorem r11_142 : zR d 11 Q 142 (some (.ref c) :: l) st h = zR d 11 Q 143 (some (.ref c) :: l) (.ref c :: st) h := q_in rfl rfl
theorem r11_143 : zR d 11 Q 143 lv (.ref 7 :: st) h = zR d 11 Q 146 lv (.int (h 7 2) :: st) h := (q_and rfl rfl).trans (zand_t rfl)
theorem r11_146 : zR d 11 Q 146 (o0 :: o1 :: some (.int x) :: l) st h = zR d 11 Q 147 (o0 :: o1 :: some (.int x) :: l) (.int x :: st) h := q_in rfl rfl
theorem r11_147 : zR d 11 Q 147 lv (.int z :: .int x :: st) h = if x = z then zR d 11 Q 150 lv st h else zR d 11 Q 154 lv st h := q_if rfl rfl
theorem r11_150 : zR d 11 Q 150 lv st h = zR d 11 Q 151 lv (.int 1 :: st) h := q_in rfl rfl
theorem r11_151 : zR d 11 Q 151 lv st h = zR d 11 Q 155 lv st h := q_in rfl rfl
theorem r11_154 : zR d 11 Q 154 lv st h = zR d 11 Q 155 lv (.int 0 :: st) h := q_in rfl rfl
theorem r11_155 : zR d 11 Q 155 lv (.int x :: .ref 7 :: st) h = ((x = 0 ∨ x = 1) ∧ zR d 11 Q 158 lv st (zhr h 7 (upd (h 7) 5 x))) := (q_and rfl rfl).trans zand_b
theorem r11_158 : zR d 11 Q 158 lv [] h = Q none h := q_ret rfl rfl
theorem r12_0 : zR d 12 Q 0 (some (.ref c) :: l) st h = zR d 12 Q 1 (some (.ref c) :: l) (.ref c :: st) h := q_in rfl rfl
theorem r12_1 : zR d 12 Q 1 lv (.ref 7 :: st) h = zR d 12 Q 4 lv (.int (h 7 4) :: st) h := (q_and rfl rfl).trans (zand_t rfl)
theorem r12_4 : zR d 12 Q 4 lv st h = zR d 12 Q 6 lv (.int (-2) :: st) h := q_in rfl rfl
theorem r12_6 : zR d 12 Q 6 lv (.int z :: .int x :: st) h = if x = z then zR d 12 Q 18 lv st h else zR d 12 Q 9 lv st h := q_if rfl rfl
theorem r12_9 : zR d 12 Q 9 (some (.ref c) :: l) st h = zR d 12 Q 10 (some (.ref c) :: l) (.ref c :: st) h := q_in rfl rfl
theorem r12_10 : zR d 12 Q 10 lv (.ref 7 :: st) h = zR d 12 Q 13 lv (.int (h 7 4) :: st) h := (q_and rfl rfl).trans (zand_t rfl)
theorem r12_13 : zR d 12 Q 13 lv st h = zR d 12 Q 15 lv (.int (-3) :: st) h := q_in rfl rfl
theorem r12_15 : zR d 12 Q 15 lv (.int z :: .int x :: st) h = if x = z then zR d 12 Q 18 lv st h else zR d 12 Q 22 lv st h := q_if rfl rfl
theorem r12_18 : zR d 12 Q 18 lv st h = zR d 12 Q 19 lv (.int 1 :: st) h := q_in rfl rfl
theorem r12_19 : zR d 12 Q 19 lv st h = zR d 12 Q 23 lv st h := q_in rfl rfl
theorem r12_22 : zR d 12 Q 22 lv st h = zR d 12 Q 23 lv (.int 0 :: st) h := q_in rfl rfl
theorem r12_23f : zR d 12 Q 23 lv [.int 0] h = Q (some (.int 0)) h := q_retz rfl rfl (Or.inr (Or.inl rfl))
theorem r12_23t : zR d 12 Q 23 lv [.int 1] h = Q (some (.int 1)) h := q_retz rfl rfl (Or.inr (Or.inr rfl))
theorem r13_0 : zR d 13 Q 0 (o0 :: some (.int x) :: l) st h = zR d 13 Q 1 (o0 :: some (.int x) :: l) (.int x :: st) h := q_in rfl rfl
theorem r13_1 : zR d 13 Q 1 lv (.int x :: st) h = if x < 0 then zR d 13 Q 27 lv st h else zR d 13 Q 4 lv st h := q_if rfl rfl
theorem r13_4 : zR d 13 Q 4 (o0 :: some (.int x) :: l) st h = zR d 13 Q 5 (o0 :: some (.int x) :: l) (.int x :: st) h := q_in rfl rfl
theorem r13_5 : zR d 13 Q 5 (some (.ref c) :: l) st h = zR d 13 Q 6 (some (.ref c) :: l) (.ref c :: st) h := q_in rfl rfl
theorem r13_6 : zR d 13 Q 6 lv (.ref 7 :: st) h = zR d 13 Q 9 lv (.int (h 7 1) :: st) h := (q_and rfl rfl).trans (zand_t rfl)
theorem r13_9 : zR d 13 Q 9 lv (.int z :: .int x :: st) h = if x < z then zR d 13 Q 12 lv st h else zR d 13 Q 27 lv st h := q_if rfl rfl
theorem r13_12 : zR d 13 Q 12 (o0 :: some (.int x) :: l) st h = zR d 13 Q 13 (o0 :: some (.int x) :: l) (.int x :: st) h := q_in rfl rfl
theorem r13_13 : zR d 13 Q 13 lv st h = zR d 13 Q 15 lv (.int 96 :: st) h := q_in rfl rfl
theorem r13_15 : zR d 13 Q 15 lv (.int z :: .int x :: st) h = if x < z then zR d 13 Q 18 lv st h else zR d 13 Q 27 lv st h := q_if rfl rfl
theorem r13_18 : zR d 13 Q 18 (some (.ref c) :: l) st h = zR d 13 Q 19 (some (.ref c) :: l) (.ref c :: st) h := q_in rfl rfl
theorem r13_19 : zR d 13 Q 19 lv (.ref 7 :: st) h = zR d 13 Q 22 lv (.ref 8 :: st) h := (q_and rfl rfl).trans (zand_t rfl)
theorem r13_22 : zR d 13 Q 22 (o0 :: some (.int x) :: l) st h = zR d 13 Q 23 (o0 :: some (.int x) :: l) (.int x :: st) h := q_in rfl rfl
theorem r13_23 : zR d 13 Q 23 lv (.int x :: .ref c :: st) h = zal c x h (fun w => zR d 13 Q 24 lv (.int w :: st) h) := q_iald rfl
theorem r13_24 : zR d 13 Q 24 lv st h = zR d 13 Q 28 lv st h := q_in rfl rfl
theorem r13_27 : zR d 13 Q 27 lv st h = zR d 13 Q 28 lv (.int (-1) :: st) h := q_in rfl rfl
theorem r13_28 : zR d 13 Q 28 lv [.int x] h = Q (some (.int x)) h := q_retz rfl rfl (Or.inl rfl)
theorem r14_0 : zR d 14 Q 0 (some (.ref c) :: l) st h = zR d 14 Q 1 (some (.ref c) :: l) (.ref c :: st) h := q_in rfl rfl
theorem r14_1 : zR d 14 Q 1 (o0 :: some (.int x) :: l) st h = zR d 14 Q 2 (o0 :: some (.int x) :: l) (.int x :: st) h := q_in rfl rfl
theorem r14_2 : zR d 14 Q 2 lv [.int x0, .ref 7] h = zM d 13 [.ref 7, .int x0] h (fun r h' => zR d 14 Q 5 lv (r.toList ++ []) h') := (q_clV rfl rfl (Nat.le_of_ble_eq_true rfl)).trans (zand_t ⟨rfl, Nat.le_of_ble_eq_true rfl⟩)
theorem r14_5 : zR d 14 Q 5 (o0 :: o1 :: o2 :: l) (.int x :: st) h = zR d 14 Q 6 (o0 :: o1 :: some (.int x) :: l) st h := q_in rfl rfl
theorem r14_6 : zR d 14 Q 6 (o0 :: o1 :: some (.int x) :: l) st h = zR d 14 Q 7 (o0 :: o1 :: some (.int x) :: l) (.int x :: st) h := q_in rfl rfl
theorem r14_7 : zR d 14 Q 7 lv st h = zR d 14 Q 9 lv (.int 97 :: st) h := q_in rfl rfl
theorem r14_9 : zR d 14 Q 9 lv st h = zR d 14 Q 11 lv (.int 122 :: st) h := q_in rfl rfl
theorem r14_11 : zR d 14 Q 11 lv [.int x2, .int x1, .int x0] h = zM d 103 [.int x0, .int x1, .int x2] h (fun r h' => zR d 14 Q 14 lv (r.toList ++ []) h') := q_clS rfl rfl ⟨Nat.le_of_ble_eq_true rfl, Nat.le_of_ble_eq_true rfl⟩
theorem r14_14 : zR d 14 Q 14 lv (.int x :: st) h = if x = 0 then zR d 14 Q 20 lv st h else zR d 14 Q 17 lv st h := q_if rfl rfl
theorem r14_17 : zR d 14 Q 17 lv st h = zR d 14 Q 19 lv (.int (-2) :: st) h := q_in rfl rfl
theorem r14_19 : zR d 14 Q 19 lv [.int x] h = Q (some (.int x)) h := q_retz rfl rfl (Or.inl rfl)
theorem r14_20 : zR d 14 Q 20 (o0 :: o1 :: some (.int x) :: l) st h = zR d 14 Q 21 (o0 :: o1 :: some (.int x) :: l) (.int x :: st) h := q_in rfl rfl
theorem r14_21 : zR d 14 Q 21 lv st h = zR d 14 Q 23 lv (.int 48 :: st) h := q_in rfl rfl
theorem r14_23 : zR d 14 Q 23 lv st h = zR d 14 Q 25 lv (.int 57 :: st) h := q_in rfl rfl
theorem r14_25 : zR d 14 Q 25 lv [.int x2, .int x1, .int x0] h = zM d 103 [.int x0, .int x1, .int x2] h (fun r h' => zR d 14 Q 28 lv (r.toList ++ []) h') := q_clS rfl rfl ⟨Nat.le_of_ble_eq_true rfl, Nat.le_of_ble_eq_true rfl⟩
theorem r14_28 : zR d 14 Q 28 lv (.int x :: st) h = if x = 0 then zR d 14 Q 36 lv st h else zR d 14 Q 31 lv st h := q_if rfl rfl
theorem r14_31 : zR d 14 Q 31 lv st h = zR d 14 Q 33 lv (.int (-3) :: st) h := q_in rfl rfl
theorem r14_33 : zR d 14 Q 33 lv st h = zR d 14 Q 37 lv st h := q_in rfl rfl
theorem r14_36 : zR d 14 Q 36 (o0 :: o1 :: some (.int x) :: l) st h = zR d 14 Q 37 (o0 :: o1 :: some (.int x) :: l) (.int x :: st) h := q_in rfl rfl
theorem r14_37 : zR d 14 Q 37 lv [.int x] h = Q (some (.int x)) h := q_retz rfl rfl (Or.inl rfl)
theorem r15_0 : zR d 15 Q 0 (some (.ref c) :: l) st h = zR d 15 Q 1 (some (.ref c) :: l) (.ref c :: st) h := q_in rfl rfl
theorem r15_1 : zR d 15 Q 1 lv (.ref 7 :: st) h = zR d 15 Q 4 lv (.int (h 7 6) :: st) h := (q_and rfl rfl).trans (zand_t rfl)
theorem r15_4 : zR d 15 Q 4 lv st h = zR d 15 Q 5 lv (.int (-1) :: st) h := q_in rfl rfl
theorem r15_5 : zR d 15 Q 5 lv (.int z :: .int x :: st) h = if x = z then zR d 15 Q 8 lv st h else zR d 15 Q 16 lv st h := q_if rfl rfl
theorem r15_8 : zR d 15 Q 8 (some (.ref c) :: l) st h = zR d 15 Q 9 (some (.ref c) :: l) (.ref c :: st) h := q_in rfl rfl
theorem r15_9 : zR d 15 Q 9 (some (.ref c) :: l) st h = zR d 15 Q 10 (some (.ref c) :: l) (.ref c :: st) h := q_in rfl rfl
theorem r15_10 : zR d 15 Q 10 lv (.ref 7 :: st) h = zR d 15 Q 13 lv (.int (h 7 2) :: st) h := (q_and rfl rfl).trans (zand_t rfl)
theorem r15_13 : zR d 15 Q 13 lv (.int x :: .ref 7 :: st) h = zR d 15 Q 16 lv st (zhr h 7 (upd (h 7) 6 x)) := (q_and rfl rfl).trans (zand_t ⟨rfl, Or.inl rfl⟩)
theorem r15_16 : zR d 15 Q 16 lv [] h = Q none h := q_ret rfl rfl
theorem r16_0 : zR d 16 Q 0 (some (.ref c) :: l) st h = zR d 16 Q 1 (some (.ref c) :: l) (.ref c :: st) h := q_in rfl rfl
theorem r16_1 : zR d 16 Q 1 lv (.ref 7 :: st) h = zR d 16 Q 4 lv (.int (h 7 6) :: st) h := (q_and rfl rfl).trans (zand_t rfl)
theorem r16_4 : zR d 16 Q 4 lv st h = zR d 16 Q 5 lv (.int (-1) :: st) h := q_in rfl rfl
theorem r16_5 : zR d 16 Q 5 lv (.int z :: .int x :: st) h = if x = z then zR d 16 Q 8 lv st h else zR d 16 Q 20 lv st h := q_if rfl rfl
theorem r16_8 : zR d 16 Q 8 (some (.ref c) :: l) st h = zR d 16 Q 9 (some (.ref c) :: l) (.ref c :: st) h := q_in rfl rfl
theorem r16_9 : zR d 16 Q 9 lv (.ref 7 :: st) h = zR d 16 Q 12 lv (.int (h 7 4) :: st) h := (q_and rfl rfl).trans (zand_t rfl)
theorem r16_12 : zR d 16 Q 12 (o0 :: some (.int x) :: l) st h = zR d 16 Q 13 (o0 :: some (.int x) :: l) (.int x :: st) h := q_in rfl rfl
theorem r16_13 : zR d 16 Q 13 lv (.int z :: .int x :: st) h = if x = z then zR d 16 Q 16 lv st h else zR d 16 Q 20 lv st h := q_if rfl rfl
theorem r16_16 : zR d 16 Q 16 lv st h = zR d 16 Q 17 lv (.int 1 :: st) h := q_in rfl rfl
theorem r16_17 : zR d 16 Q 17 lv st h = zR d 16 Q 21 lv st h := q_in rfl rfl
theorem r16_20 : zR d 16 Q 20 lv st h = zR d 16 Q 21 lv (.int 0 :: st) h := q_in rfl rfl
theorem r16_21f : zR d 16 Q 21 lv [.int 0] h = Q (some (.int 0)) h := q_retz rfl rfl (Or.inr (Or.inl rfl))
theorem r16_21t : zR d 16 Q 21 lv [.int 1] h = Q (some (.int 1)) h := q_retz rfl rfl (Or.inr (Or.inr rfl))
theorem r17_0 : zR d 17 Q 0 (some (.ref c) :: l) st h = zR d 17 Q 1 (some (.ref c) :: l) (.ref c :: st) h := q_in rfl rfl
theorem r17_1 : zR d 17 Q 1 lv (.ref 7 :: st) h = zR d 17 Q 4 lv (.int (h 7 9) :: st) h := (q_and rfl rfl).trans (zand_t rfl)
theorem r17_4 : zR d 17 Q 4 lv st h = zR d 17 Q 6 lv (.int 96 :: st) h := q_in rfl rfl
theorem r17_6 : zR d 17 Q 6 lv (.int z :: .int x :: st) h = if x < z then zR d 17 Q 9 lv st h else zR d 17 Q 29 lv st h := q_if rfl rfl
theorem r17_9 : zR d 17 Q 9 (some (.ref c) :: l) st h = zR d 17 Q 10 (some (.ref c) :: l) (.ref c :: st) h := q_in rfl rfl
theorem r17_10 : zR d 17 Q 10 lv (.ref 7 :: st) h = zR d 17 Q 13 lv (.ref 9 :: st) h := (q_and rfl rfl).trans (zand_t rfl)
theorem r17_13 : zR d 17 Q 13 (some (.ref c) :: l) st h = zR d 17 Q 14 (some (.ref c) :: l) (.ref c :: st) h := q_in rfl rfl
theorem r17_14 : zR d 17 Q 14 lv (.ref 7 :: st) h = zR d 17 Q 17 lv (.int (h 7 9) :: st) h := (q_and rfl rfl).trans (zand_t rfl)
theorem r17_17 : zR d 17 Q 17 (o0 :: some (.int x) :: l) st h = zR d 17 Q 18 (o0 :: some (.int x) :: l) (.int x :: st) h := q_in rfl rfl
theorem r17_18 : zR d 17 Q 18 lv (.int z :: .int x :: .ref c :: st) h = zas c x z h (fun h' => zR d 17 Q 19 lv st h') := q_iast rfl
theorem r17_19 : zR d 17 Q 19 (some (.ref c) :: l) st h = zR d 17 Q 20 (some (.ref c) :: l) (.ref c :: st) h := q_in rfl rfl
theorem r17_20 : zR d 17 Q 20 lv (.ref c :: st) h = zR d 17 Q 21 lv (.ref c :: .ref c :: st) h := q_in rfl rfl
theorem r17_21 : zR d 17 Q 21 lv (.ref 7 :: st) h = zR d 17 Q 24 lv (.int (h 7 9) :: st) h := (q_and rfl rfl).trans (zand_t rfl)
theorem r17_24 : zR d 17 Q 24 lv st h = zR d 17 Q 25 lv (.int 1 :: st) h := q_in rfl rfl
theorem r17_25 : zR d 17 Q 25 lv (.int z :: .int x :: st) h = zR d 17 Q 26 lv (.int (x + z) :: st) h := q_in rfl rfl
theorem r17_26 : zR d 17 Q 26 lv (.int x :: .ref 7 :: st) h = zR d 17 Q 29 lv st (zhr h 7 (upd (h 7) 9 x)) := (q_and rfl rfl).trans (zand_t ⟨rfl, Or.inl rfl⟩)
theorem r17_29 : zR d 17 Q 29 lv [] h = Q none h := q_ret rfl rfl
theorem r18_0 : zR d 18 Q 0 (some (.ref c) :: l) st h = zR d 18 Q 1 (some (.ref c) :: l) (.ref c :: st) h := q_in rfl rfl
theorem r18_1 : zR d 18 Q 1 lv st h = zR d 18 Q 3 lv (.ref 86 :: st) h := q_in rfl rfl
theorem r18_3 : zR d 18 Q 3 lv [.ref c0, .ref 7] h = zM d 19 [.ref 7, .ref c0] h (fun r h' => zR d 18 Q 6 lv (r.toList ++ []) h') := (q_clV rfl rfl (Nat.le_of_ble_eq_true rfl)).trans (zand_t ⟨rfl, Nat.le_of_ble_eq_true rfl⟩)
theorem r18_6 : zR d 18 Q 6 lv (.int x :: st) h = if x = 0 then zR d 18 Q 17 lv st h else zR d 18 Q 9 lv st h := q_if rfl rfl
theorem r18_9 : zR d 18 Q 9 (some (.ref c) :: l) st h = zR d 18 Q 10 (some (.ref c) :: l) (.ref c :: st) h := q_in rfl rfl
theorem r18_10 : zR d 18 Q 10 lv st h = zR d 18 Q 11 lv (.int 0 :: st) h := q_in rfl rfl
theorem r18_11 : zR d 18 Q 11 lv (.int x :: .ref 7 :: st) h = zR d 18 Q 14 lv st (zhr h 7 (upd (h 7) 7 x)) := (q_and rfl rfl).trans (zand_t ⟨rfl, Or.inl rfl⟩)
theorem r18_14 : zR d 18 Q 14 lv st h = zR d 18 Q 56 lv st h := q_in rfl rfl
theorem r18_17 : zR d 18 Q 17 (some (.ref c) :: l) st h = zR d 18 Q 18 (some (.ref c) :: l) (.ref c :: st) h := q_in rfl rfl
theorem r18_18 : zR d 18 Q 18 lv st h = zR d 18 Q 20 lv (.ref 87 :: st) h := q_in rfl rfl
theorem r18_20 : zR d 18 Q 20 lv [.ref c0, .ref 7] h = zM d 19 [.ref 7, .ref c0] h (fun r h' => zR d 18 Q 23 lv (r.toList ++ []) h') := (q_clV rfl rfl (Nat.le_of_ble_eq_true rfl)).trans (zand_t ⟨rfl, Nat.le_of_ble_eq_true rfl⟩)
theorem r18_23 : zR d 18 Q 23 lv (.int x :: st) h = if x = 0 then zR d 18 Q 34 lv st h else zR d 18 Q 26 lv st h := q_if rfl rfl
theorem r18_26 : zR d 18 Q 26 (some (.ref c) :: l) st h = zR d 18 Q 27 (some (.ref c) :: l) (.ref c :: st) h := q_in rfl rfl
theorem r18_27 : zR d 18 Q 27 lv st h = zR d 18 Q 28 lv (.int 1 :: st) h := q_in rfl rfl
theorem r18_28 : zR d 18 Q 28 lv (.int x :: .ref 7 :: st) h = zR d 18 Q 31 lv st (zhr h 7 (upd (h 7) 7 x)) := (q_and rfl rfl).trans (zand_t ⟨rfl, Or.inl rfl⟩)
theorem r18_31 : zR d 18 Q 31 lv st h = zR d 18 Q 56 lv st h := q_in rfl rfl
theorem r18_34 : zR d 18 Q 34 (some (.ref c) :: l) st h = zR d 18 Q 35 (some (.ref c) :: l) (.ref c :: st) h := q_in rfl rfl
theorem r18_35 : zR d 18 Q 35 lv st h = zR d 18 Q 37 lv (.ref 88 :: st) h := q_in rfl rfl
theorem r18_37 : zR d 18 Q 37 lv [.ref c0, .ref 7] h = zM d 19 [.ref 7, .ref c0] h (fun r h' => zR d 18 Q 40 lv (r.toList ++ []) h') := (q_clV rfl rfl (Nat.le_of_ble_eq_true rfl)).trans (zand_t ⟨rfl, Nat.le_of_ble_eq_true rfl⟩)
theorem r18_40 : zR d 18 Q 40 lv (.int x :: st) h = if x = 0 then zR d 18 Q 51 lv st h else zR d 18 Q 43 lv st h := q_if rfl rfl
theorem r18_43 : zR d 18 Q 43 (some (.ref c) :: l) st h = zR d 18 Q 44 (some (.ref c) :: l) (.ref c :: st) h := q_in rfl rfl
theorem r18_44 : zR d 18 Q 44 lv st h = zR d 18 Q 45 lv (.int 2 :: st) h := q_in rfl rfl
theorem r18_45 : zR d 18 Q 45 lv (.int x :: .ref 7 :: st) h = zR d 18 Q 48 lv st (zhr h 7 (upd (h 7) 7 x)) := (q_and rfl rfl).trans (zand_t ⟨rfl, Or.inl rfl⟩)
theorem r18_48 : zR d 18 Q 48 lv st h = zR d 18 Q 56 lv st h := q_in rfl rfl
theorem r18_51 : zR d 18 Q 51 (some (.ref c) :: l) st h = zR d 18 Q 52 (some (.ref c) :: l) (.ref c :: st) h := q_in rfl rfl
theorem r18_52 : zR d 18 Q 52 lv [.ref 7] h = zM d 15 [.ref 7] h (fun r h' => zR d 18 Q 55 lv (r.toList ++ []) h') := (q_clV rfl rfl (Nat.le_of_ble_eq_true rfl)).trans (zand_t ⟨rfl, Nat.le_of_ble_eq_true rfl⟩)
theorem r18_55 : zR d 18 Q 55 lv [] h = Q none h := q_ret rfl rfl
theorem r18_56 : zR d 18 Q 56 (some (.ref c) :: l) st h = zR d 18 Q 57 (some (.ref c) :: l) (.ref c :: st) h := q_in rfl rfl
theorem r18_57 : zR d 18 Q 57 lv [.ref 7] h = zM d 11 [.ref 7] h (fun r h' => zR d 18 Q 60 lv (r.toList ++ []) h') := (q_clV rfl rfl (Nat.le_of_ble_eq_true rfl)).trans (zand_t ⟨rfl, Nat.le_of_ble_eq_true rfl⟩)
theorem r18_60 : zR d 18 Q 60 lv [] h = Q none h := q_ret rfl rfl
theorem r19_0 : zR d 19 Q 0 (some (.ref c) :: l) st h = zR d 19 Q 1 (some (.ref c) :: l) (.ref c :: st) h := q_in rfl rfl
theorem r19_1 : zR d 19 Q 1 lv (.ref 7 :: st) h = zR d 19 Q 4 lv (.int (h 7 4) :: st) h := (q_and rfl rfl).trans (zand_t rfl)
theorem r19_4 : zR d 19 Q 4 lv st h = zR d 19 Q 6 lv (.int (-2) :: st) h := q_in rfl rfl
theorem r19_6 : zR d 19 Q 6 lv (.int z :: .int x :: st) h = if x = z then zR d 19 Q 9 lv st h else zR d 19 Q 25 lv st h := q_if rfl rfl
theorem r19_9 : zR d 19 Q 9 (some (.ref c) :: l) st h = zR d 19 Q 10 (some (.ref c) :: l) (.ref c :: st) h := q_in rfl rfl
theorem r19_10 : zR d 19 Q 10 lv (.ref 7 :: st) h = zR d 19 Q 13 lv (.int (h 7 3) :: st) h := (q_and rfl rfl).trans (zand_t rfl)
theorem r19_13 : zR d 19 Q 13 (some (.ref c) :: l) st h = zR d 19 Q 14 (some (.ref c) :: l) (.ref c :: st) h := q_in rfl rfl
theorem r19_14 : zR d 19 Q 14 lv (.ref 7 :: st) h = zR d 19 Q 17 lv (.int (h 7 2) :: st) h := (q_and rfl rfl).trans (zand_t rfl)
theorem r19_17 : zR d 19 Q 17 lv (.int z :: .int x :: st) h = zR d 19 Q 18 lv (.int (x - z) :: st) h := q_in rfl rfl
theorem r19_18 : zR d 19 Q 18 (o0 :: some (.ref c) :: l) st h = zR d 19 Q 19 (o0 :: some (.ref c) :: l) (.ref c :: st) h := q_in rfl rfl
theorem r19_19 : zR d 19 Q 19 lv [.ref c, .int y0] h = (zcls c = 23 ∧ zM d 1004 [.ref c] h (fun r h' => zR d 19 Q 22 lv (r.toList ++ [.int y0]) h')) := (q_clV rfl rfl (Nat.le_of_ble_eq_true rfl)).trans (zand_r (Nat.le_of_ble_eq_true rfl))
theorem r19_22 : zR d 19 Q 22 lv (.int z :: .int x :: st) h = if x = z then zR d 19 Q 27 lv st h else zR d 19 Q 25 lv st h := q_if rfl rfl
theorem r19_25 : zR d 19 Q 25 lv st h = zR d 19 Q 26 lv (.int 0 :: st) h := q_in rfl rfl
theorem r19_26f : zR d 19 Q 26 lv [.int 0] h = Q (some (.int 0)) h := q_retz rfl rfl (Or.inr (Or.inl rfl))
theorem r19_26t : zR d 19 Q 26 lv [.int 1] h = Q (some (.int 1)) h := q_retz rfl rfl (Or.inr (Or.inr rfl))
theorem r19_27 : zR d 19 Q 27 lv st h = zR d 19 Q 28 lv (.int 0 :: st) h := q_in rfl rfl
theorem r19_28 : zR d 19 Q 28 (o0 :: o1 :: o2 :: l) (.int x :: st) h = zR d 19 Q 29 (o0 :: o1 :: some (.int x) :: l) st h := q_in rfl rfl
theorem r19_29 : zR d 19 Q 29 (o0 :: o1 :: some (.int x) :: l) st h = zR d 19 Q 30 (o0 :: o1 :: some (.int x) :: l) (.int x :: st) h := q_in rfl rfl
theorem r19_30 : zR d 19 Q 30 (o0 :: some (.ref c) :: l) st h = zR d 19 Q 31 (o0 :: some (.ref c) :: l) (.ref c :: st) h := q_in rfl rfl
theorem r19_31 : zR d 19 Q 31 lv [.ref c, .int y0] h = (zcls c = 23 ∧ zM d 1004 [.ref c] h (fun r h' => zR d 19 Q 34 lv (r.toList ++ [.int y0]) h')) := (q_clV rfl rfl (Nat.le_of_ble_eq_true rfl)).trans (zand_r (Nat.le_of_ble_eq_true rfl))
theorem r19_34 : zR d 19 Q 34 lv (.int z :: .int x :: st) h = if x < z then zR d 19 Q 37 lv st h else zR d 19 Q 63 lv st h := q_if rfl rfl
theorem r19_37 : zR d 19 Q 37 (some (.ref c) :: l) st h = zR d 19 Q 38 (some (.ref c) :: l) (.ref c :: st) h := q_in rfl rfl
theorem r19_38 : zR d 19 Q 38 (some (.ref c) :: l) st h = zR d 19 Q 39 (some (.ref c) :: l) (.ref c :: st) h := q_in rfl rfl
theorem r19_39 : zR d 19 Q 39 lv (.ref 7 :: st) h = zR d 19 Q 42 lv (.int (h 7 2) :: st) h := (q_and rfl rfl).trans (zand_t rfl)
theorem r19_42 : zR d 19 Q 42 (o0 :: o1 :: some (.int x) :: l) st h = zR d 19 Q 43 (o0 :: o1 :: some (.int x) :: l) (.int x :: st) h := q_in rfl rfl
theorem r19_43 : zR d 19 Q 43 lv (.int z :: .int x :: st) h = zR d 19 Q 44 lv (.int (x + z) :: st) h := q_in rfl rfl
theorem r19_44 : zR d 19 Q 44 lv [.int x0, .ref 7] h = zM d 13 [.ref 7, .int x0] h (fun r h' => zR d 19 Q 47 lv (r.toList ++ []) h') := (q_clV rfl rfl (Nat.le_of_ble_eq_true rfl)).trans (zand_t ⟨rfl, Nat.le_of_ble_eq_true rfl⟩)
theorem r19_47 : zR d 19 Q 47 (o0 :: some (.ref c) :: l) st h = zR d 19 Q 48 (o0 :: some (.ref c) :: l) (.ref c :: st) h := q_in rfl rfl
theorem r19_48 : zR d 19 Q 48 (o0 :: o1 :: some (.int x) :: l) st h = zR d 19 Q 49 (o0 :: o1 :: some (.int x) :: l) (.int x :: st) h := q_in rfl rfl
theorem r19_49 : zR d 19 Q 49 lv [.int x0, .ref c, .int y0] h = (zcls c = 23 ∧ zM d 1005 [.ref c, .int x0] h (fun r h' => zR d 19 Q 52 lv (r.toList ++ [.int y0]) h')) := (q_clV rfl rfl (Nat.le_of_ble_eq_true rfl)).trans (zand_r (Nat.le_of_ble_eq_true rfl))
theorem r19_52 : zR d 19 Q 52 lv (.int z :: .int x :: st) h = if x = z then zR d 19 Q 57 lv st h else zR d 19 Q 55 lv st h := q_if rfl rfl
theorem r19_55 : zR d 19 Q 55 lv st h = zR d 19 Q 56 lv (.int 0 :: st) h := q_in rfl rfl
theorem r19_56f : zR d 19 Q 56 lv [.int 0] h = Q (some (.int 0)) h := q_retz rfl rfl (Or.inr (Or.inl rfl))
theorem r19_56t : zR d 19 Q 56 lv [.int 1] h = Q (some (.int 1)) h := q_retz rfl rfl (Or.inr (Or.inr rfl))
theorem r19_57 : zR d 19 Q 57 (o0 :: o1 :: some (.int x) :: l) st h = zR d 19 Q 60 (o0 :: o1 :: some (.int (x + 1)) :: l) st h := q_in rfl rfl
theorem r19_60 : zR d 19 Q 60 lv st h = zR d 19 Q 29 lv st h := q_in rfl rfl
theorem r19_63 : zR d 19 Q 63 lv st h = zR d 19 Q 64 lv (.int 1 :: st) h := q_in rfl rfl
theorem r19_64f : zR d 19 Q 64 lv [.int 0] h = Q (some (.int 0)) h := q_retz rfl rfl (Or.inr (Or.inl rfl))
theorem r19_64t : zR d 19 Q 64 lv [.int 1] h = Q (some (.int 1)) h := q_retz rfl rfl (Or.inr (Or.inr rfl))
theorem r20_0 : zR d 20 Q 0 (some (.ref c) :: l) st h = zR d 20 Q 1 (some (.ref c) :: l) (.ref c :: st) h := q_in rfl rfl
theorem r20_1 : zR d 20 Q 1 (o0 :: some (.int x) :: l) st h = zR d 20 Q 2 (o0 :: some (.int x) :: l) (.int x :: st) h := q_in rfl rfl
theorem r20_2 : zR d 20 Q 2 (o0 :: o1 :: some (.int x) :: l) st h = zR d 20 Q 3 (o0 :: o1 :: some (.int x) :: l) (.int x :: st) h := q_in rfl rfl
theorem r20_3 : zR d 20 Q 3 lv [.int x1, .int x0, .ref 7] h = zM d 21 [.ref 7, .int x0, .int x1] h (fun r h' => zR d 20 Q 6 lv (r.toList ++ []) h') := (q_clV rfl rfl (Nat.le_of_ble_eq_true rfl)).trans (zand_t ⟨rfl, Nat.le_of_ble_eq_true rfl⟩)
theorem r20_6 : zR d 20 Q 6 lv st h = zR d 20 Q 7 lv (.int 0 :: st) h := q_in rfl rfl
theorem r20_7 : zR d 20 Q 7 (o0 :: o1 :: o2 :: o3 :: l) (.int x :: st) h = zR d 20 Q 8 (o0 :: o1 :: o2 :: some (.int x) :: l) st h := q_in rfl rfl
theorem r20_8 : zR d 20 Q 8 (o0 :: o1 :: o2 :: some (.int x) :: l) st h = zR d 20 Q 9 (o0 :: o1 :: o2 :: some (.int x) :: l) (.int x :: st) h := q_in rfl rfl
theorem r20_9 : zR d 20 Q 9 lv st h = zR d 20 Q 11 lv (.int 96 :: st) h := q_in rfl rfl
theorem r20_11 : zR d 20 Q 11 lv (.int z :: .int x :: st) h = if x < z then zR d 20 Q 14 lv st h else zR d 20 Q 45 lv st h := q_if rfl rfl
theorem r20_14 : zR d 20 Q 14 (some (.ref c) :: l) st h = zR d 20 Q 15 (some (.ref c) :: l) (.ref c :: st) h := q_in rfl rfl
theorem r20_15 : zR d 20 Q 15 lv st h = zR d 20 Q 17 lv (.int 124 :: st) h := q_in rfl rfl
theorem r20_17 : zR d 20 Q 17 lv [.int x0, .ref 7] h = zM d 16 [.ref 7, .int x0] h (fun r h' => zR d 20 Q 20 lv (r.toList ++ []) h') := (q_clV rfl rfl (Nat.le_of_ble_eq_true rfl)).trans (zand_t ⟨rfl, Nat.le_of_ble_eq_true rfl⟩)
theorem r20_20 : zR d 20 Q 20 lv (.int x :: st) h = if x = 0 then zR d 20 Q 45 lv st h else zR d 20 Q 23 lv st h := q_if rfl rfl
theorem r20_23 : zR d 20 Q 23 (some (.ref c) :: l) st h = zR d 20 Q 24 (some (.ref c) :: l) (.ref c :: st) h := q_in rfl rfl
theorem r20_24 : zR d 20 Q 24 lv [.ref 7] h = zM d 11 [.ref 7] h (fun r h' => zR d 20 Q 27 lv (r.toList ++ []) h') := (q_clV rfl rfl (Nat.le_of_ble_eq_true rfl)).trans (zand_t ⟨rfl, Nat.le_of_ble_eq_true rfl⟩)
theorem r20_27 : zR d 20 Q 27 (some (.ref c) :: l) st h = zR d 20 Q 28 (some (.ref c) :: l) (.ref c :: st) h := q_in rfl rfl
theorem r20_28 : zR d 20 Q 28 (o0 :: some (.int x) :: l) st h = zR d 20 Q 29 (o0 :: some (.int x) :: l) (.int x :: st) h := q_in rfl rfl
theorem r20_29 : zR d 20 Q 29 (o0 :: o1 :: some (.int x) :: l) st h = zR d 20 Q 30 (o0 :: o1 :: some (.int x) :: l) (.int x :: st) h := q_in rfl rfl
theorem r20_30 : zR d 20 Q 30 lv [.int x1, .int x0, .ref 7] h = zM d 21 [.ref 7, .int x0, .int x1] h (fun r h' => zR d 20 Q 33 lv (r.toList ++ []) h') := (q_clV rfl rfl (Nat.le_of_ble_eq_true rfl)).trans (zand_t ⟨rfl, Nat.le_of_ble_eq_true rfl⟩)
theorem r20_33 : zR d 20 Q 33 (some (.ref c) :: l) st h = zR d 20 Q 34 (some (.ref c) :: l) (.ref c :: st) h := q_in rfl rfl
theorem r20_34 : zR d 20 Q 34 lv st h = zR d 20 Q 36 lv (.int (-124) :: st) h := q_in rfl rfl
theorem r20_36 : zR d 20 Q 36 lv [.int x0, .ref 7] h = zM d 17 [.ref 7, .int x0] h (fun r h' => zR d 20 Q 39 lv (r.toList ++ []) h') := (q_clV rfl rfl (Nat.le_of_ble_eq_true rfl)).trans (zand_t ⟨rfl, Nat.le_of_ble_eq_true rfl⟩)
theorem r20_39 : zR d 20 Q 39 (o0 :: o1 :: o2 :: some (.int x) :: l) st h = zR d 20 Q 42 (o0 :: o1 :: o2 :: some (.int (x + 1)) :: l) st h := q_in rfl rfl
theorem r20_42 : zR d 20 Q 42 lv st h = zR d 20 Q 8 lv st h := q_in rfl rfl
theorem r20_45 : zR d 20 Q 45 lv [] h = Q none h := q_ret rfl rfl
theorem r21_0 : zR d 21 Q 0 (some (.ref c) :: l) st h = zR d 21 Q 1 (some (.ref c) :: l) (.ref c :: st) h := q_in rfl rfl
theorem r21_1 : zR d 21 Q 1 (o0 :: some (.int x) :: l) st h = zR d 21 Q 2 (o0 :: some (.int x) :: l) (.int x :: st) h := q_in rfl rfl
theorem r21_2 : zR d 21 Q 2 (o0 :: o1 :: some (.int x) :: l) st h = zR d 21 Q 3 (o0 :: o1 :: some (.int x) :: l) (.int x :: st) h := q_in rfl rfl
theorem r21_3 : zR d 21 Q 3 lv [.int x1, .int x0, .ref 7] h = zM d 22 [.ref 7, .int x0, .int x1] h (fun r h' => zR d 21 Q 6 lv (r.toList ++ []) h') := (q_clV rfl rfl (Nat.le_of_ble_eq_true rfl)).trans (zand_t ⟨rfl, Nat.le_of_ble_eq_true rfl⟩)
theorem r21_6 : zR d 21 Q 6 lv st h = zR d 21 Q 7 lv (.int 0 :: st) h := q_in rfl rfl
theorem r21_7 : zR d 21 Q 7 (o0 :: o1 :: o2 :: o3 :: l) (.int x :: st) h = zR d 21 Q 8 (o0 :: o1 :: o2 :: some (.int x) :: l) st h := q_in rfl rfl
theorem r21_8 : zR d 21 Q 8 (o0 :: o1 :: o2 :: some (.int x) :: l) st h = zR d 21 Q 9 (o0 :: o1 :: o2 :: some (.int x) :: l) (.int x :: st) h := q_in rfl rfl
theorem r21_9 : zR d 21 Q 9 lv st h = zR d 21 Q 11 lv (.int 96 :: st) h := q_in rfl rfl
theorem r21_11 : zR d 21 Q 11 lv (.int z :: .int x :: st) h = if x < z then zR d 21 Q 14 lv st h else zR d 21 Q 45 lv st h := q_if rfl rfl
theorem r21_14 : zR d 21 Q 14 (some (.ref c) :: l) st h = zR d 21 Q 15 (some (.ref c) :: l) (.ref c :: st) h := q_in rfl rfl
theorem r21_15 : zR d 21 Q 15 lv st h = zR d 21 Q 17 lv (.int 38 :: st) h := q_in rfl rfl
theorem r21_17 : zR d 21 Q 17 lv [.int x0, .ref 7] h = zM d 16 [.ref 7, .int x0] h (fun r h' => zR d 21 Q 20 lv (r.toList ++ []) h') := (q_clV rfl rfl (Nat.le_of_ble_eq_true rfl)).trans (zand_t ⟨rfl, Nat.le_of_ble_eq_true rfl⟩)
theorem r21_20 : zR d 21 Q 20 lv (.int x :: st) h = if x = 0 then zR d 21 Q 45 lv st h else zR d 21 Q 23 lv st h := q_if rfl rfl
theorem r21_23 : zR d 21 Q 23 (some (.ref c) :: l) st h = zR d 21 Q 24 (some (.ref c) :: l) (.ref c :: st) h := q_in rfl rfl
theorem r21_24 : zR d 21 Q 24 lv [.ref 7] h = zM d 11 [.ref 7] h (fun r h' => zR d 21 Q 27 lv (r.toList ++ []) h') := (q_clV rfl rfl (Nat.le_of_ble_eq_true rfl)).trans (zand_t ⟨rfl, Nat.le_of_ble_eq_true rfl⟩)
theorem r21_27 : zR d 21 Q 27 (some (.ref c) :: l) st h = zR d 21 Q 28 (some (.ref c) :: l) (.ref c :: st) h := q_in rfl rfl
theorem r21_28 : zR d 21 Q 28 (o0 :: some (.int x) :: l) st h = zR d 21 Q 29 (o0 :: some (.int x) :: l) (.int x :: st) h := q_in rfl rfl
theorem r21_29 : zR d 21 Q 29 (o0 :: o1 :: some (.int x) :: l) st h = zR d 21 Q 30 (o0 :: o1 :: some (.int x) :: l) (.int x :: st) h := q_in rfl rfl
theorem r21_30 : zR d 21 Q 30 lv [.int x1, .int x0, .ref 7] h = zM d 22 [.ref 7, .int x0, .int x1] h (fun r h' => zR d 21 Q 33 lv (r.toList ++ []) h') := (q_clV rfl rfl (Nat.le_of_ble_eq_true rfl)).trans (zand_t ⟨rfl, Nat.le_of_ble_eq_true rfl⟩)
theorem r21_33 : zR d 21 Q 33 (some (.ref c) :: l) st h = zR d 21 Q 34 (some (.ref c) :: l) (.ref c :: st) h := q_in rfl rfl
theorem r21_34 : zR d 21 Q 34 lv st h = zR d 21 Q 36 lv (.int (-38) :: st) h := q_in rfl rfl
theorem r21_36 : zR d 21 Q 36 lv [.int x0, .ref 7] h = zM d 17 [.ref 7, .int x0] h (fun r h' => zR d 21 Q 39 lv (r.toList ++ []) h') := (q_clV rfl rfl (Nat.le_of_ble_eq_true rfl)).trans (zand_t ⟨rfl, Nat.le_of_ble_eq_true rfl⟩)
theorem r21_39 : zR d 21 Q 39 (o0 :: o1 :: o2 :: some (.int x) :: l) st h = zR d 21 Q 42 (o0 :: o1 :: o2 :: some (.int (x + 1)) :: l) st h := q_in rfl rfl
theorem r21_42 : zR d 21 Q 42 lv st h = zR d 21 Q 8 lv st h := q_in rfl rfl
theorem r21_45 : zR d 21 Q 45 lv [] h = Q none h := q_ret rfl rfl
theorem r22_0 : zR d 22 Q 0 (some (.ref c) :: l) st h = zR d 22 Q 1 (some (.ref c) :: l) (.ref c :: st) h := q_in rfl rfl
theorem r22_1 : zR d 22 Q 1 (o0 :: some (.int x) :: l) st h = zR d 22 Q 2 (o0 :: some (.int x) :: l) (.int x :: st) h := q_in rfl rfl
theorem r22_2 : zR d 22 Q 2 (o0 :: o1 :: some (.int x) :: l) st h = zR d 22 Q 3 (o0 :: o1 :: some (.int x) :: l) (.int x :: st) h := q_in rfl rfl
theorem r22_3 : zR d 22 Q 3 lv [.int x1, .int x0, .ref 7] h = zM d 23 [.ref 7, .int x0, .int x1] h (fun r h' => zR d 22 Q 6 lv (r.toList ++ []) h') := (q_clV rfl rfl (Nat.le_of_ble_eq_true rfl)).trans (zand_t ⟨rfl, Nat.le_of_ble_eq_true rfl⟩)
theorem r22_6 : zR d 22 Q 6 (some (.ref c) :: l) st h = zR d 22 Q 7 (some (.ref c) :: l) (.ref c :: st) h := q_in rfl rfl
theorem r22_7 : zR d 22 Q 7 lv st h = zR d 22 Q 9 lv (.int 60 :: st) h := q_in rfl rfl
theorem r22_9 : zR d 22 Q 9 lv [.int x0, .ref 7] h = zM d 16 [.ref 7, .int x0] h (fun r h' => zR d 22 Q 12 lv (r.toList ++ []) h') := (q_clV rfl rfl (Nat.le_of_ble_eq_true rfl)).trans (zand_t ⟨rfl, Nat.le_of_ble_eq_true rfl⟩)
theorem r22_12 : zR d 22 Q 12 lv (.int x :: st) h = if x = 0 then zR d 22 Q 15 lv st h else zR d 22 Q 33 lv st h := q_if rfl rfl
theorem r22_15 : zR d 22 Q 15 (some (.ref c) :: l) st h = zR d 22 Q 16 (some (.ref c) :: l) (.ref c :: st) h := q_in rfl rfl
theorem r22_16 : zR d 22 Q 16 lv st h = zR d 22 Q 18 lv (.int 61 :: st) h := q_in rfl rfl
theorem r22_18 : zR d 22 Q 18 lv [.int x0, .ref 7] h = zM d 16 [.ref 7, .int x0] h (fun r h' => zR d 22 Q 21 lv (r.toList ++ []) h') := (q_clV rfl rfl (Nat.le_of_ble_eq_true rfl)).trans (zand_t ⟨rfl, Nat.le_of_ble_eq_true rfl⟩)
theorem r22_21 : zR d 22 Q 21 lv (.int x :: st) h = if x = 0 then zR d 22 Q 24 lv st h else zR d 22 Q 33 lv st h := q_if rfl rfl
theorem r22_24 : zR d 22 Q 24 (some (.ref c) :: l) st h = zR d 22 Q 25 (some (.ref c) :: l) (.ref c :: st) h := q_in rfl rfl
theorem r22_25 : zR d 22 Q 25 lv st h = zR d 22 Q 27 lv (.int 62 :: st) h := q_in rfl rfl
theorem r22_27 : zR d 22 Q 27 lv [.int x0, .ref 7] h = zM d 16 [.ref 7, .int x0] h (fun r h' => zR d 22 Q 30 lv (r.toList ++ []) h') := (q_clV rfl rfl (Nat.le_of_ble_eq_true rfl)).trans (zand_t ⟨rfl, Nat.le_of_ble_eq_true rfl⟩)
theorem r22_30 : zR d 22 Q 30 lv (.int x :: st) h = if x = 0 then zR d 22 Q 54 lv st h else zR d 22 Q 33 lv st h := q_if rfl rfl
theorem r22_33 : zR d 22 Q 33 (some (.ref c) :: l) st h = zR d 22 Q 34 (some (.ref c) :: l) (.ref c :: st) h := q_in rfl rfl
theorem r22_34 : zR d 22 Q 34 lv (.ref 7 :: st) h = zR d 22 Q 37 lv (.int (h 7 4) :: st) h := (q_and rfl rfl).trans (zand_t rfl)
theorem r22_37 : zR d 22 Q 37 (o0 :: o1 :: o2 :: o3 :: l) (.int x :: st) h = zR d 22 Q 38 (o0 :: o1 :: o2 :: some (.int x) :: l) st h := q_in rfl rfl
theorem r22_38 : zR d 22 Q 38 (some (.ref c) :: l) st h = zR d 22 Q 39 (some (.ref c) :: l) (.ref c :: st) h := q_in rfl rfl
theorem r22_39 : zR d 22 Q 39 lv [.ref 7] h = zM d 11 [.ref 7] h (fun r h' => zR d 22 Q 42 lv (r.toList ++ []) h') := (q_clV rfl rfl (Nat.le_of_ble_eq_true rfl)).trans (zand_t ⟨rfl, Nat.le_of_ble_eq_true rfl⟩)
theorem r22_42 : zR d 22 Q 42 (some (.ref c) :: l) st h = zR d 22 Q 43 (some (.ref c) :: l) (.ref c :: st) h := q_in rfl rfl
theorem r22_43 : zR d 22 Q 43 (o0 :: some (.int x) :: l) st h = zR d 22 Q 44 (o0 :: some (.int x) :: l) (.int x :: st) h := q_in rfl rfl
theorem r22_44 : zR d 22 Q 44 (o0 :: o1 :: some (.int x) :: l) st h = zR d 22 Q 45 (o0 :: o1 :: some (.int x) :: l) (.int x :: st) h := q_in rfl rfl
theorem r22_45 : zR d 22 Q 45 lv [.int x1, .int x0, .ref 7] h = zM d 23 [.ref 7, .int x0, .int x1] h (fun r h' => zR d 22 Q 48 lv (r.toList ++ []) h') := (q_clV rfl rfl (Nat.le_of_ble_eq_true rfl)).trans (zand_t ⟨rfl, Nat.le_of_ble_eq_true rfl⟩)
theorem r22_48 : zR d 22 Q 48 (some (.ref c) :: l) st h = zR d 22 Q 49 (some (.ref c) :: l) (.ref c :: st) h := q_in rfl rfl
theorem r22_49 : zR d 22 Q 49 (o0 :: o1 :: o2 :: some (.int x) :: l) st h = zR d 22 Q 50 (o0 :: o1 :: o2 :: some (.int x) :: l) (.int x :: st) h := q_in rfl rfl
theorem r22_50 : zR d 22 Q 50 lv (.int x :: st) h = zR d 22 Q 51 lv (.int (-x) :: st) h := q_in rfl rfl
theorem r22_51 : zR d 22 Q 51 lv [.int x0, .ref 7] h = zM d 17 [.ref 7, .int x0] h (fun r h' => zR d 22 Q 54 lv (r.toList ++ []) h') := (q_clV rfl rfl (Nat.le_of_ble_eq_true rfl)).trans (zand_t ⟨rfl, Nat.le_of_ble_eq_true rfl⟩)
theorem r22_54 : zR d 22 Q 54 lv [] h = Q none h := q_ret rfl rfl
theorem r23_0 : zR d 23 Q 0 (some (.ref c) :: l) st h = zR d 23 Q 1 (some (.ref c) :: l) (.ref c :: st) h := q_in rfl rfl
theorem r23_1 : zR d 23 Q 1 (o0 :: some (.int x) :: l) st h = zR d 23 Q 2 (o0 :: some (.int x) :: l) (.int x :: st) h := q_in rfl rfl
theorem r23_2 : zR d 23 Q 2 (o0 :: o1 :: some (.int x) :: l) st h = zR d 23 Q 3 (o0 :: o1 :: some (.int x) :: l) (.int x :: st) h := q_in rfl rfl
theorem r23_3 : zR d 23 Q 3 lv [.int x1, .int x0, .ref 7] h = zM d 24 [.ref 7, .int x0, .int x1] h (fun r h' => zR d 23 Q 6 lv (r.toList ++ []) h') := (q_clV rfl rfl (Nat.le_of_ble_eq_true rfl)).trans (zand_t ⟨rfl, Nat.le_of_ble_eq_true rfl⟩)
theorem r23_6 : zR d 23 Q 6 lv st h = zR d 23 Q 7 lv (.int 0 :: st) h := q_in rfl rfl
theorem r23_7 : zR d 23 Q 7 (o0 :: o1 :: o2 :: o3 :: l) (.int x :: st) h = zR d 23 Q 8 (o0 :: o1 :: o2 :: some (.int x) :: l) st h := q_in rfl rfl
theorem r23_8 : zR d 23 Q 8 (o0 :: o1 :: o2 :: some (.int x) :: l) st h = zR d 23 Q 9 (o0 :: o1 :: o2 :: some (.int x) :: l) (.int x :: st) h := q_in rfl rfl
theorem r23_9 : zR d 23 Q 9 lv st h = zR d 23 Q 11 lv (.int 96 :: st) h := q_in rfl rfl
theorem r23_11 : zR d 23 Q 11 lv (.int z :: .int x :: st) h = if x < z then zR d 23 Q 14 lv st h else zR d 23 Q 61 lv st h := q_if rfl rfl
theorem r23_14 : zR d 23 Q 14 (some (.ref c) :: l) st h = zR d 23 Q 15 (some (.ref c) :: l) (.ref c :: st) h := q_in rfl rfl
theorem r23_15 : zR d 23 Q 15 lv st h = zR d 23 Q 17 lv (.int 43 :: st) h := q_in rfl rfl
theorem r23_17 : zR d 23 Q 17 lv [.int x0, .ref 7] h = zM d 16 [.ref 7, .int x0] h (fun r h' => zR d 23 Q 20 lv (r.toList ++ []) h') := (q_clV rfl rfl (Nat.le_of_ble_eq_true rfl)).trans (zand_t ⟨rfl, Nat.le_of_ble_eq_true rfl⟩)
theorem r23_20 : zR d 23 Q 20 lv (.int x :: st) h = if x = 0 then zR d 23 Q 23 lv st h else zR d 23 Q 32 lv st h := q_if rfl rfl
theorem r23_23 : zR d 23 Q 23 (some (.ref c) :: l) st h = zR d 23 Q 24 (some (.ref c) :: l) (.ref c :: st) h := q_in rfl rfl
theorem r23_24 : zR d 23 Q 24 lv st h = zR d 23 Q 26 lv (.int 45 :: st) h := q_in rfl rfl
theorem r23_26 : zR d 23 Q 26 lv [.int x0, .ref 7] h = zM d 16 [.ref 7, .int x0] h (fun r h' => zR d 23 Q 29 lv (r.toList ++ []) h') := (q_clV rfl rfl (Nat.le_of_ble_eq_true rfl)).trans (zand_t ⟨rfl, Nat.le_of_ble_eq_true rfl⟩)
theorem r23_29 : zR d 23 Q 29 lv (.int x :: st) h = if x = 0 then zR d 23 Q 61 lv st h else zR d 23 Q 32 lv st h := q_if rfl rfl
theorem r23_32 : zR d 23 Q 32 (some (.ref c) :: l) st h = zR d 23 Q 33 (some (.ref c) :: l) (.ref c :: st) h := q_in rfl rfl
theorem r23_33 : zR d 23 Q 33 lv (.ref 7 :: st) h = zR d 23 Q 36 lv (.int (h 7 4) :: st) h := (q_and rfl rfl).trans (zand_t rfl)
theorem r23_36 : zR d 23 Q 36 (o0 :: o1 :: o2 :: o3 :: o4 :: l) (.int x :: st) h = zR d 23 Q 38 (o0 :: o1 :: o2 :: o3 :: some (.int x) :: l) st h := q_in rfl rfl
theorem r23_38 : zR d 23 Q 38 (some (.ref c) :: l) st h = zR d 23 Q 39 (some (.ref c) :: l) (.ref c :: st) h := q_in rfl rfl
theorem r23_39 : zR d 23 Q 39 lv [.ref 7] h = zM d 11 [.ref 7] h (fun r h' => zR d 23 Q 42 lv (r.toList ++ []) h') := (q_clV rfl rfl (Nat.le_of_ble_eq_true rfl)).trans (zand_t ⟨rfl, Nat.le_of_ble_eq_true rfl⟩)
theorem r23_42 : zR d 23 Q 42 (some (.ref c) :: l) st h = zR d 23 Q 43 (some (.ref c) :: l) (.ref c :: st) h := q_in rfl rfl
theorem r23_43 : zR d 23 Q 43 (o0 :: some (.int x) :: l) st h = zR d 23 Q 44 (o0 :: some (.int x) :: l) (.int x :: st) h := q_in rfl rfl
theorem r23_44 : zR d 23 Q 44 (o0 :: o1 :: some (.int x) :: l) st h = zR d 23 Q 45 (o0 :: o1 :: some (.int x) :: l) (.int x :: st) h := q_in rfl rfl
theorem r23_45 : zR d 23 Q 45 lv [.int x1, .int x0, .ref 7] h = zM d 24 [.ref 7, .int x0, .int x1] h (fun r h' => zR d 23 Q 48 lv (r.toList ++ []) h') := (q_clV rfl rfl (Nat.le_of_ble_eq_true rfl)).trans (zand_t ⟨rfl, Nat.le_of_ble_eq_true rfl⟩)
theorem r23_48 : zR d 23 Q 48 (some (.ref c) :: l) st h = zR d 23 Q 49 (some (.ref c) :: l) (.ref c :: st) h := q_in rfl rfl
theorem r23_49 : zR d 23 Q 49 (o0 :: o1 :: o2 :: o3 :: some (.int x) :: l) st h = zR d 23 Q 51 (o0 :: o1 :: o2 :: o3 :: some (.int x) :: l) (.int x :: st) h := q_in rfl rfl
theorem r23_51 : zR d 23 Q 51 lv (.int x :: st) h = zR d 23 Q 52 lv (.int (-x) :: st) h := q_in rfl rfl
theorem r23_52 : zR d 23 Q 52 lv [.int x0, .ref 7] h = zM d 17 [.ref 7, .int x0] h (fun r h' => zR d 23 Q 55 lv (r.toList ++ []) h') := (q_clV rfl rfl (Nat.le_of_ble_eq_true rfl)).trans (zand_t ⟨rfl, Nat.le_of_ble_eq_true rfl⟩)
theorem r23_55 : zR d 23 Q 55 (o0 :: o1 :: o2 :: some (.int x) :: l) st h = zR d 23 Q 58 (o0 :: o1 :: o2 :: some (.int (x + 1)) :: l) st h := q_in rfl rfl
theorem r23_58 : zR d 23 Q 58 lv st h = zR d 23 Q 8 lv st h := q_in rfl rfl
theorem r23_61 : zR d 23 Q 61 lv [] h = Q none h := q_ret rfl rfl
theorem r24_0 : zR d 24 Q 0 (some (.ref c) :: l) st h = zR d 24 Q 1 (some (.ref c) :: l) (.ref c :: st) h := q_in rfl rfl
theorem r24_1 : zR d 24 Q 1 (o0 :: some (.int x) :: l) st h = zR d 24 Q 2 (o0 :: some (.int x) :: l) (.int x :: st) h := q_in rfl rfl
theorem r24_2 : zR d 24 Q 2 (o0 :: o1 :: some (.int x) :: l) st h = zR d 24 Q 3 (o0 :: o1 :: some (.int x) :: l) (.int x :: st) h := q_in rfl rfl
theorem r24_3 : zR d 24 Q 3 lv [.int x1, .int x0, .ref 7] h = zM d 25 [.ref 7, .int x0, .int x1] h (fun r h' => zR d 24 Q 6 lv (r.toList ++ []) h') := (q_clV rfl rfl (Nat.le_of_ble_eq_true rfl)).trans (zand_t ⟨rfl, Nat.le_of_ble_eq_true rfl⟩)
theorem r24_6 : zR d 24 Q 6 lv st h = zR d 24 Q 7 lv (.int 0 :: st) h := q_in rfl rfl
theorem r24_7 : zR d 24 Q 7 (o0 :: o1 :: o2 :: o3 :: l) (.int x :: st) h = zR d 24 Q 8 (o0 :: o1 :: o2 :: some (.int x) :: l) st h := q_in rfl rfl
theorem r24_8 : zR d 24 Q 8 (o0 :: o1 :: o2 :: some (.int x) :: l) st h = zR d 24 Q 9 (o0 :: o1 :: o2 :: some (.int x) :: l) (.int x :: st) h := q_in rfl rfl
theorem r24_9 : zR d 24 Q 9 lv st h = zR d 24 Q 11 lv (.int 96 :: st) h := q_in rfl rfl
theorem r24_11 : zR d 24 Q 11 lv (.int z :: .int x :: st) h = if x < z then zR d 24 Q 14 lv st h else zR d 24 Q 61 lv st h := q_if rfl rfl
theorem r24_14 : zR d 24 Q 14 (some (.ref c) :: l) st h = zR d 24 Q 15 (some (.ref c) :: l) (.ref c :: st) h := q_in rfl rfl
theorem r24_15 : zR d 24 Q 15 lv st h = zR d 24 Q 17 lv (.int 42 :: st) h := q_in rfl rfl
theorem r24_17 : zR d 24 Q 17 lv [.int x0, .ref 7] h = zM d 16 [.ref 7, .int x0] h (fun r h' => zR d 24 Q 20 lv (r.toList ++ []) h') := (q_clV rfl rfl (Nat.le_of_ble_eq_true rfl)).trans (zand_t ⟨rfl, Nat.le_of_ble_eq_true rfl⟩)
theorem r24_20 : zR d 24 Q 20 lv (.int x :: st) h = if x = 0 then zR d 24 Q 23 lv st h else zR d 24 Q 32 lv st h := q_if rfl rfl
theorem r24_23 : zR d 24 Q 23 (some (.ref c) :: l) st h = zR d 24 Q 24 (some (.ref c) :: l) (.ref c :: st) h := q_in rfl rfl
theorem r24_24 : zR d 24 Q 24 lv st h = zR d 24 Q 26 lv (.int 47 :: st) h := q_in rfl rfl
theorem r24_26 : zR d 24 Q 26 lv [.int x0, .ref 7] h = zM d 16 [.ref 7, .int x0] h (fun r h' => zR d 24 Q 29 lv (r.toList ++ []) h') := (q_clV rfl rfl (Nat.le_of_ble_eq_true rfl)).trans (zand_t ⟨rfl, Nat.le_of_ble_eq_true rfl⟩)
theorem r24_29 : zR d 24 Q 29 lv (.int x :: st) h = if x = 0 then zR d 24 Q 61 lv st h else zR d 24 Q 32 lv st h := q_if rfl rfl
theorem r24_32 : zR d 24 Q 32 (some (.ref c) :: l) st h = zR d 24 Q 33 (some (.ref c) :: l) (.ref c :: st) h := q_in rfl rfl
theorem r24_33 : zR d 24 Q 33 lv (.ref 7 :: st) h = zR d 24 Q 36 lv (.int (h 7 4) :: st) h := (q_and rfl rfl).trans (zand_t rfl)
theorem r24_36 : zR d 24 Q 36 (o0 :: o1 :: o2 :: o3 :: o4 :: l) (.int x :: st) h = zR d 24 Q 38 (o0 :: o1 :: o2 :: o3 :: some (.int x) :: l) st h := q_in rfl rfl
theorem r24_38 : zR d 24 Q 38 (some (.ref c) :: l) st h = zR d 24 Q 39 (some (.ref c) :: l) (.ref c :: st) h := q_in rfl rfl
theorem r24_39 : zR d 24 Q 39 lv [.ref 7] h = zM d 11 [.ref 7] h (fun r h' => zR d 24 Q 42 lv (r.toList ++ []) h') := (q_clV rfl rfl (Nat.le_of_ble_eq_true rfl)).trans (zand_t ⟨rfl, Nat.le_of_ble_eq_true rfl⟩)
theorem r24_42 : zR d 24 Q 42 (some (.ref c) :: l) st h = zR d 24 Q 43 (some (.ref c) :: l) (.ref c :: st) h := q_in rfl rfl
theorem r24_43 : zR d 24 Q 43 (o0 :: some (.int x) :: l) st h = zR d 24 Q 44 (o0 :: some (.int x) :: l) (.int x :: st) h := q_in rfl rfl
theorem r24_44 : zR d 24 Q 44 (o0 :: o1 :: some (.int x) :: l) st h = zR d 24 Q 45 (o0 :: o1 :: some (.int x) :: l) (.int x :: st) h := q_in rfl rfl
theorem r24_45 : zR d 24 Q 45 lv [.int x1, .int x0, .ref 7] h = zM d 25 [.ref 7, .int x0, .int x1] h (fun r h' => zR d 24 Q 48 lv (r.toList ++ []) h') := (q_clV rfl rfl (Nat.le_of_ble_eq_true rfl)).trans (zand_t ⟨rfl, Nat.le_of_ble_eq_true rfl⟩)
theorem r24_48 : zR d 24 Q 48 (some (.ref c) :: l) st h = zR d 24 Q 49 (some (.ref c) :: l) (.ref c :: st) h := q_in rfl rfl
theorem r24_49 : zR d 24 Q 49 (o0 :: o1 :: o2 :: o3 :: some (.int x) :: l) st h = zR d 24 Q 51 (o0 :: o1 :: o2 :: o3 :: some (.int x) :: l) (.int x :: st) h := q_in rfl rfl
theorem r24_51 : zR d 24 Q 51 lv (.int x :: st) h = zR d 24 Q 52 lv (.int (-x) :: st) h := q_in rfl rfl
theorem r24_52 : zR d 24 Q 52 lv [.int x0, .ref 7] h = zM d 17 [.ref 7, .int x0] h (fun r h' => zR d 24 Q 55 lv (r.toList ++ []) h') := (q_clV rfl rfl (Nat.le_of_ble_eq_true rfl)).trans (zand_t ⟨rfl, Nat.le_of_ble_eq_true rfl⟩)
theorem r24_55 : zR d 24 Q 55 (o0 :: o1 :: o2 :: some (.int x) :: l) st h = zR d 24 Q 58 (o0 :: o1 :: o2 :: some (.int (x + 1)) :: l) st h := q_in rfl rfl
theorem r24_58 : zR d 24 Q 58 lv st h = zR d 24 Q 8 lv st h := q_in rfl rfl
theorem r24_61 : zR d 24 Q 61 lv [] h = Q none h := q_ret rfl rfl
theorem r25_0 : zR d 25 Q 0 (some (.ref c) :: l) st h = zR d 25 Q 1 (some (.ref c) :: l) (.ref c :: st) h := q_in rfl rfl
theorem r25_1 : zR d 25 Q 1 lv (.ref 7 :: st) h = zR d 25 Q 4 lv (.int (h 7 6) :: st) h := (q_and rfl rfl).trans (zand_t rfl)
theorem r25_4 : zR d 25 Q 4 lv st h = zR d 25 Q 5 lv (.int (-1) :: st) h := q_in rfl rfl
theorem r25_5 : zR d 25 Q 5 lv (.int z :: .int x :: st) h = if x = z then zR d 25 Q 9 lv st h else zR d 25 Q 8 lv st h := q_if rfl rfl
theorem r25_8 : zR d 25 Q 8 lv [] h = Q none h := q_ret rfl rfl
theorem r25_9 : zR d 25 Q 9 (some (.ref c) :: l) st h = zR d 25 Q 10 (some (.ref c) :: l) (.ref c :: st) h := q_in rfl rfl
theorem r25_10 : zR d 25 Q 10 lv (.ref 7 :: st) h = zR d 25 Q 13 lv (.int (h 7 4) :: st) h := (q_and rfl rfl).trans (zand_t rfl)
theorem r25_13 : zR d 25 Q 13 lv st h = zR d 25 Q 15 lv (.int (-3) :: st) h := q_in rfl rfl
theorem r25_15 : zR d 25 Q 15 lv (.int z :: .int x :: st) h = if x = z then zR d 25 Q 18 lv st h else zR d 25 Q 32 lv st h := q_if rfl rfl
theorem r25_18 : zR d 25 Q 18 (some (.ref c) :: l) st h = zR d 25 Q 19 (some (.ref c) :: l) (.ref c :: st) h := q_in rfl rfl
theorem r25_19 : zR d 25 Q 19 lv (.ref 7 :: st) h = zR d 25 Q 22 lv (.int (h 7 5) :: st) h := (q_and rfl rfl).trans (zand_t rfl)
theorem r25_22 : zR d 25 Q 22 lv (.int x :: st) h = if x = 0 then zR d 25 Q 25 lv st h else zR d 25 Q 32 lv st h := q_if rfl rfl
theorem r25_25 : zR d 25 Q 25 (some (.ref c) :: l) st h = zR d 25 Q 26 (some (.ref c) :: l) (.ref c :: st) h := q_in rfl rfl
theorem r25_26 : zR d 25 Q 26 lv [.ref 7] h = zM d 27 [.ref 7] h (fun r h' => zR d 25 Q 29 lv (r.toList ++ []) h') := (q_clV rfl rfl (Nat.le_of_ble_eq_true rfl)).trans (zand_t ⟨rfl, Nat.le_of_ble_eq_true rfl⟩)
theorem r25_29 : zR d 25 Q 29 lv st h = zR d 25 Q 129 lv st h := q_in rfl rfl
theorem r25_32 : zR d 25 Q 32 (some (.ref c) :: l) st h = zR d 25 Q 33 (some (.ref c) :: l) (.ref c :: st) h := q_in rfl rfl
theorem r25_33 : zR d 25 Q 33 lv (.ref 7 :: st) h = zR d 25 Q 36 lv (.int (h 7 4) :: st) h := (q_and rfl rfl).trans (zand_t rfl)
theorem r25_36 : zR d 25 Q 36 lv st h = zR d 25 Q 38 lv (.int (-2) :: st) h := q_in rfl rfl
theorem r25_38 : zR d 25 Q 38 lv (.int z :: .int x :: st) h = if x = z then zR d 25 Q 41 lv st h else zR d 25 Q 55 lv st h := q_if rfl rfl
theorem r25_41 : zR d 25 Q 41 (some (.ref c) :: l) st h = zR d 25 Q 42 (some (.ref c) :: l) (.ref c :: st) h := q_in rfl rfl
theorem r25_42 : zR d 25 Q 42 lv (.ref 7 :: st) h = zR d 25 Q 45 lv (.int (h 7 5) :: st) h := (q_and rfl rfl).trans (zand_t rfl)
theorem r25_45 : zR d 25 Q 45 lv (.int x :: st) h = if x = 0 then zR d 25 Q 48 lv st h else zR d 25 Q 55 lv st h := q_if rfl rfl
theorem r25_48 : zR d 25 Q 48 (some (.ref c) :: l) st h = zR d 25 Q 49 (some (.ref c) :: l) (.ref c :: st) h := q_in rfl rfl
theorem r25_49 : zR d 25 Q 49 lv [.ref 7] h = zM d 28 [.ref 7] h (fun r h' => zR d 25 Q 52 lv (r.toList ++ []) h') := (q_clV rfl rfl (Nat.le_of_ble_eq_true rfl)).trans (zand_t ⟨rfl, Nat.le_of_ble_eq_true rfl⟩)
theorem r25_52 : zR d 25 Q 52 lv st h = zR d 25 Q 129 lv st h := q_in rfl rfl
theorem r25_55 : zR d 25 Q 55 (some (.ref c) :: l) st h = zR d 25 Q 56 (some (.ref c) :: l) (.ref c :: st) h := q_in rfl rfl
theorem r25_56 : zR d 25 Q 56 lv (.ref 7 :: st) h = zR d 25 Q 59 lv (.int (h 7 4) :: st) h := (q_and rfl rfl).trans (zand_t rfl)
theorem r25_59 : zR d 25 Q 59 lv st h = zR d 25 Q 61 lv (.int 33 :: st) h := q_in rfl rfl
theorem r25_61 : zR d 25 Q 61 lv (.int z :: .int x :: st) h = if x = z then zR d 25 Q 64 lv st h else zR d 25 Q 91 lv st h := q_if rfl rfl
theorem r25_64 : zR d 25 Q 64 (o0 :: o1 :: some (.int x) :: l) st h = zR d 25 Q 65 (o0 :: o1 :: some (.int x) :: l) (.int x :: st) h := q_in rfl rfl
theorem r25_65 : zR d 25 Q 65 lv st h = zR d 25 Q 67 lv (.int 8 :: st) h := q_in rfl rfl
theorem r25_67 : zR d 25 Q 67 lv (.int z :: .int x :: st) h = if x < z then zR d 25 Q 70 lv st h else zR d 25 Q 91 lv st h := q_if rfl rfl
theorem r25_70 : zR d 25 Q 70 (some (.ref c) :: l) st h = zR d 25 Q 71 (some (.ref c) :: l) (.ref c :: st) h := q_in rfl rfl
theorem r25_71 : zR d 25 Q 71 lv [.ref 7] h = zM d 11 [.ref 7] h (fun r h' => zR d 25 Q 74 lv (r.toList ++ []) h') := (q_clV rfl rfl (Nat.le_of_ble_eq_true rfl)).trans (zand_t ⟨rfl, Nat.le_of_ble_eq_true rfl⟩)
theorem r25_74 : zR d 25 Q 74 (some (.ref c) :: l) st h = zR d 25 Q 75 (some (.ref c) :: l) (.ref c :: st) h := q_in rfl rfl
theorem r25_75 : zR d 25 Q 75 (o0 :: some (.int x) :: l) st h = zR d 25 Q 76 (o0 :: some (.int x) :: l) (.int x :: st) h := q_in rfl rfl
theorem r25_76 : zR d 25 Q 76 (o0 :: o1 :: some (.int x) :: l) st h = zR d 25 Q 77 (o0 :: o1 :: some (.int x) :: l) (.int x :: st) h := q_in rfl rfl
theorem r25_77 : zR d 25 Q 77 lv st h = zR d 25 Q 78 lv (.int 1 :: st) h := q_in rfl rfl
theorem r25_78 : zR d 25 Q 78 lv (.int z :: .int x :: st) h = zR d 25 Q 79 lv (.int (x + z) :: st) h := q_in rfl rfl
theorem r25_79 : zR d 25 Q 79 lv [.int x1, .int x0, .ref 7] h = zM d 25 [.ref 7, .int x0, .int x1] h (fun r h' => zR d 25 Q 82 lv (r.toList ++ []) h') := (q_clV rfl rfl (Nat.le_of_ble_eq_true rfl)).trans (zand_t ⟨rfl, Nat.le_of_ble_eq_true rfl⟩)
theorem r25_82 : zR d 25 Q 82 (some (.ref c) :: l) st h = zR d 25 Q 83 (some (.ref c) :: l) (.ref c :: st) h := q_in rfl rfl
theorem r25_83 : zR d 25 Q 83 lv st h = zR d 25 Q 85 lv (.int (-33) :: st) h := q_in rfl rfl
theorem r25_85 : zR d 25 Q 85 lv [.int x0, .ref 7] h = zM d 17 [.ref 7, .int x0] h (fun r h' => zR d 25 Q 88 lv (r.toList ++ []) h') := (q_clV rfl rfl (Nat.le_of_ble_eq_true rfl)).trans (zand_t ⟨rfl, Nat.le_of_ble_eq_true rfl⟩)
theorem r25_88 : zR d 25 Q 88 lv st h = zR d 25 Q 129 lv st h := q_in rfl rfl
theorem r25_91 : zR d 25 Q 91 (some (.ref c) :: l) st h = zR d 25 Q 92 (some (.ref c) :: l) (.ref c :: st) h := q_in rfl rfl
theorem r25_92 : zR d 25 Q 92 lv (.ref 7 :: st) h = zR d 25 Q 95 lv (.int (h 7 4) :: st) h := (q_and rfl rfl).trans (zand_t rfl)
theorem r25_95 : zR d 25 Q 95 lv st h = zR d 25 Q 97 lv (.int 40 :: st) h := q_in rfl rfl
theorem r25_97 : zR d 25 Q 97 lv (.int z :: .int x :: st) h = if x = z then zR d 25 Q 100 lv st h else zR d 25 Q 125 lv st h := q_if rfl rfl
theorem r25_100 : zR d 25 Q 100 (o0 :: some (.int x) :: l) st h = zR d 25 Q 101 (o0 :: some (.int x) :: l) (.int x :: st) h := q_in rfl rfl
theorem r25_101 : zR d 25 Q 101 lv st h = zR d 25 Q 103 lv (.int 8 :: st) h := q_in rfl rfl
theorem r25_103 : zR d 25 Q 103 lv (.int z :: .int x :: st) h = if x < z then zR d 25 Q 106 lv st h else zR d 25 Q 125 lv st h := q_if rfl rfl
theorem r25_106 : zR d 25 Q 106 (some (.ref c) :: l) st h = zR d 25 Q 107 (some (.ref c) :: l) (.ref c :: st) h := q_in rfl rfl
theorem r25_107 : zR d 25 Q 107 lv [.ref 7] h = zM d 11 [.ref 7] h (fun r h' => zR d 25 Q 110 lv (r.toList ++ []) h') := (q_clV rfl rfl (Nat.le_of_ble_eq_true rfl)).trans (zand_t ⟨rfl, Nat.le_of_ble_eq_true rfl⟩)
theorem r25_110 : zR d 25 Q 110 (some (.ref c) :: l) st h = zR d 25 Q 111 (some (.ref c) :: l) (.ref c :: st) h := q_in rfl rfl
theorem r25_111 : zR d 25 Q 111 (o0 :: some (.int x) :: l) st h = zR d 25 Q 112 (o0 :: some (.int x) :: l) (.int x :: st) h := q_in rfl rfl
theorem r25_112 : zR d 25 Q 112 lv st h = zR d 25 Q 113 lv (.int 1 :: st) h := q_in rfl rfl
theorem r25_113 : zR d 25 Q 113 lv (.int z :: .int x :: st) h = zR d 25 Q 114 lv (.int (x + z) :: st) h := q_in rfl rfl
theorem r25_114 : zR d 25 Q 114 (o0 :: o1 :: some (.int x) :: l) st h = zR d 25 Q 115 (o0 :: o1 :: some (.int x) :: l) (.int x :: st) h := q_in rfl rfl
theorem r25_115 : zR d 25 Q 115 lv [.int x1, .int x0, .ref 7] h = zM d 20 [.ref 7, .int x0, .int x1] h (fun r h' => zR d 25 Q 118 lv (r.toList ++ []) h') := (q_clV rfl rfl (Nat.le_of_ble_eq_true rfl)).trans (zand_t ⟨rfl, Nat.le_of_ble_eq_true rfl⟩)
theorem r25_118 : zR d 25 Q 118 (some (.ref c) :: l) st h = zR d 25 Q 119 (some (.ref c) :: l) (.ref c :: st) h := q_in rfl rfl
theorem r25_119 : zR d 25 Q 119 lv [.ref 7] h = zM d 26 [.ref 7] h (fun r h' => zR d 25 Q 122 lv (r.toList ++ []) h') := (q_clV rfl rfl (Nat.le_of_ble_eq_true rfl)).trans (zand_t ⟨rfl, Nat.le_of_ble_eq_true rfl⟩)
theorem r25_122 : zR d 25 Q 122 lv st h = zR d 25 Q 129 lv st h := q_in rfl rfl
theorem r25_125 : zR d 25 Q 125 (some (.ref c) :: l) st h = zR d 25 Q 126 (some (.ref c) :: l) (.ref c :: st) h := q_in rfl rfl
theorem r25_126 : zR d 25 Q 126 lv [.ref 7] h = zM d 15 [.ref 7] h (fun r h' => zR d 25 Q 129 lv (r.toList ++ []) h') := (q_clV rfl rfl (Nat.le_of_ble_eq_true rfl)).trans (zand_t ⟨rfl, Nat.le_of_ble_eq_true rfl⟩)
theorem r25_129 : zR d 25 Q 129 lv [] h = Q none h := q_ret rfl rfl
theorem r26_0 : zR d 26 Q 0 (some (.ref c) :: l) st h = zR d 26 Q 1 (some (.ref c) :: l) (.ref c :: st) h := q_in rfl rfl
theorem r26_1 : zR d 26 Q 1 lv st h = zR d 26 Q 3 lv (.int 41 :: st) h := q_in rfl rfl
theorem r26_3 : zR d 26 Q 3 lv [.int x0, .ref 7] h = zM d 16 [.ref 7, .int x0] h (fun r h' => zR d 26 Q 6 lv (r.toList ++ []) h') := (q_clV rfl rfl (Nat.le_of_ble_eq_true rfl)).trans (zand_t ⟨rfl, Nat.le_of_ble_eq_true rfl⟩)
theorem r26_6 : zR d 26 Q 6 lv (.int x :: st) h = if x = 0 then zR d 26 Q 16 lv st h else zR d 26 Q 9 lv st h := q_if rfl rfl
theorem r26_9 : zR d 26 Q 9 (some (.ref c) :: l) st h = zR d 26 Q 10 (some (.ref c) :: l) (.ref c :: st) h := q_in rfl rfl
theorem r26_10 : zR d 26 Q 10 lv [.ref 7] h = zM d 11 [.ref 7] h (fun r h' => zR d 26 Q 13 lv (r.toList ++ []) h') := (q_clV rfl rfl (Nat.le_of_ble_eq_true rfl)).trans (zand_t ⟨rfl, Nat.le_of_ble_eq_true rfl⟩)
theorem r26_13 : zR d 26 Q 13 lv st h = zR d 26 Q 20 lv st h := q_in rfl rfl
theorem r26_16 : zR d 26 Q 16 (some (.ref c) :: l) st h = zR d 26 Q 17 (some (.ref c) :: l) (.ref c :: st) h := q_in rfl rfl
theorem r26_17 : zR d 26 Q 17 lv [.ref 7] h = zM d 15 [.ref 7] h (fun r h' => zR d 26 Q 20 lv (r.toList ++ []) h') := (q_clV rfl rfl (Nat.le_of_ble_eq_true rfl)).trans (zand_t ⟨rfl, Nat.le_of_ble_eq_true rfl⟩)
theorem r26_20 : zR d 26 Q 20 lv [] h = Q none h := q_ret rfl rfl
theorem r27_0 : zR d 27 Q 0 (some (.ref c) :: l) st h = zR d 27 Q 1 (some (.ref c) :: l) (.ref c :: st) h := q_in rfl rfl
theorem r27_1 : zR d 27 Q 1 lv (.ref 7 :: st) h = zR d 27 Q 4 lv (.int (h 7 3) :: st) h := (q_and rfl rfl).trans (zand_t rfl)
theorem r27_4 : zR d 27 Q 4 (some (.ref c) :: l) st h = zR d 27 Q 5 (some (.ref c) :: l) (.ref c :: st) h := q_in rfl rfl
theorem r27_5 : zR d 27 Q 5 lv (.ref 7 :: st) h = zR d 27 Q 8 lv (.int (h 7 2) :: st) h := (q_and rfl rfl).trans (zand_t rfl)
theorem r27_8 : zR d 27 Q 8 lv (.int z :: .int x :: st) h = zR d 27 Q 9 lv (.int (x - z) :: st) h := q_in rfl rfl
theorem r27_9 : zR d 27 Q 9 lv st h = zR d 27 Q 10 lv (.int 4 :: st) h := q_in rfl rfl
theorem r27_10 : zR d 27 Q 10 lv (.int z :: .int x :: st) h = if x ≤ z then zR d 27 Q 18 lv st h else zR d 27 Q 13 lv st h := q_if rfl rfl
theorem r27_13 : zR d 27 Q 13 (some (.ref c) :: l) st h = zR d 27 Q 14 (some (.ref c) :: l) (.ref c :: st) h := q_in rfl rfl
theorem r27_14 : zR d 27 Q 14 lv [.ref 7] h = zM d 15 [.ref 7] h (fun r h' => zR d 27 Q 17 lv (r.toList ++ []) h') := (q_clV rfl rfl (Nat.le_of_ble_eq_true rfl)).trans (zand_t ⟨rfl, Nat.le_of_ble_eq_true rfl⟩)
theorem r27_17 : zR d 27 Q 17 lv [] h = Q none h := q_ret rfl rfl
theorem r27_18 : zR d 27 Q 18 lv st h = zR d 27 Q 19 lv (.int 0 :: st) h := q_in rfl rfl
theorem r27_19 : zR d 27 Q 19 (o0 :: o1 :: l) (.int x :: st) h = zR d 27 Q 20 (o0 :: some (.int x) :: l) st h := q_in rfl rfl
theorem r27_20 : zR d 27 Q 20 (some (.ref c) :: l) st h = zR d 27 Q 21 (some (.ref c) :: l) (.ref c :: st) h := q_in rfl rfl
theorem r27_21 : zR d 27 Q 21 lv (.ref 7 :: st) h = zR d 27 Q 24 lv (.int (h 7 2) :: st) h := (q_and rfl rfl).trans (zand_t rfl)
theorem r27_24 : zR d 27 Q 24 (o0 :: o1 :: o2 :: l) (.int x :: st) h = zR d 27 Q 25 (o0 :: o1 :: some (.int x) :: l) st h := q_in rfl rfl
theorem r27_25 : zR d 27 Q 25 (o0 :: o1 :: some (.int x) :: l) st h = zR d 27 Q 26 (o0 :: o1 :: some (.int x) :: l) (.int x :: st) h := q_in rfl rfl
theorem r27_26 : zR d 27 Q 26 (some (.ref c) :: l) st h = zR d 27 Q 27 (some (.ref c) :: l) (.ref c :: st) h := q_in rfl rfl
theorem r27_27 : zR d 27 Q 27 lv (.ref 7 :: st) h = zR d 27 Q 30 lv (.int (h 7 3) :: st) h := (q_and rfl rfl).trans (zand_t rfl)
theorem r27_30 : zR d 27 Q 30 lv (.int z :: .int x :: st) h = if x < z then zR d 27 Q 33 lv st h else zR d 27 Q 53 lv st h := q_if rfl rfl
theorem r27_33 : zR d 27 Q 33 (o0 :: some (.int x) :: l) st h = zR d 27 Q 34 (o0 :: some (.int x) :: l) (.int x :: st) h := q_in rfl rfl
theorem r27_34 : zR d 27 Q 34 lv st h = zR d 27 Q 36 lv (.int 10 :: st) h := q_in rfl rfl
theorem r27_36 : zR d 27 Q 36 lv (.int z :: .int x :: st) h = zR d 27 Q 37 lv (.int (x * z) :: st) h := q_in rfl rfl
theorem r27_37 : zR d 27 Q 37 (some (.ref c) :: l) st h = zR d 27 Q 38 (some (.ref c) :: l) (.ref c :: st) h := q_in rfl rfl
theorem r27_38 : zR d 27 Q 38 (o0 :: o1 :: some (.int x) :: l) st h = zR d 27 Q 39 (o0 :: o1 :: some (.int x) :: l) (.int x :: st) h := q_in rfl rfl
theorem r27_39 : zR d 27 Q 39 lv [.int x0, .ref 7, .int y0] h = zM d 13 [.ref 7, .int x0] h (fun r h' => zR d 27 Q 42 lv (r.toList ++ [.int y0]) h') := (q_clV rfl rfl (Nat.le_of_ble_eq_true rfl)).trans (zand_t ⟨rfl, Nat.le_of_ble_eq_true rfl⟩)
theorem r27_42 : zR d 27 Q 42 lv st h = zR d 27 Q 44 lv (.int 48 :: st) h := q_in rfl rfl
theorem r27_44 : zR d 27 Q 44 lv (.int z :: .int x :: st) h = zR d 27 Q 45 lv (.int (x - z) :: st) h := q_in rfl rfl
theorem r27_45 : zR d 27 Q 45 lv (.int z :: .int x :: st) h = zR d 27 Q 46 lv (.int (x + z) :: st) h := q_in rfl rfl
theorem r27_46 : zR d 27 Q 46 (o0 :: o1 :: l) (.int x :: st) h = zR d 27 Q 47 (o0 :: some (.int x) :: l) st h := q_in rfl rfl
theorem r27_47 : zR d 27 Q 47 (o0 :: o1 :: some (.int x) :: l) st h = zR d 27 Q 50 (o0 :: o1 :: some (.int (x + 1)) :: l) st h := q_in rfl rfl
theorem r27_50 : zR d 27 Q 50 lv st h = zR d 27 Q 25 lv st h := q_in rfl rfl
theorem r27_53 : zR d 27 Q 53 (some (.ref c) :: l) st h = zR d 27 Q 54 (some (.ref c) :: l) (.ref c :: st) h := q_in rfl rfl
theorem r27_54 : zR d 27 Q 54 (o0 :: some (.int x) :: l) st h = zR d 27 Q 55 (o0 :: some (.int x) :: l) (.int x :: st) h := q_in rfl rfl
theorem r27_55 : zR d 27 Q 55 lv [.int x0, .ref 7] h = zM d 17 [.ref 7, .int x0] h (fun r h' => zR d 27 Q 58 lv (r.toList ++ []) h') := (q_clV rfl rfl (Nat.le_of_ble_eq_true rfl)).trans (zand_t ⟨rfl, Nat.le_of_ble_eq_true rfl⟩)
theorem r27_58 : zR d 27 Q 58 (some (.ref c) :: l) st h = zR d 27 Q 59 (some (.ref c) :: l) (.ref c :: st) h := q_in rfl rfl
theorem r27_59 : zR d 27 Q 59 lv (.ref c :: st) h = zR d 27 Q 60 lv (.ref c :: .ref c :: st) h := q_in rfl rfl
theorem r27_60 : zR d 27 Q 60 lv (.ref 7 :: st) h = zR d 27 Q 63 lv (.int (h 7 10) :: st) h := (q_and rfl rfl).trans (zand_t rfl)
theorem r27_63 : zR d 27 Q 63 lv st h = zR d 27 Q 64 lv (.int 1 :: st) h := q_in rfl rfl
theorem r27_64 : zR d 27 Q 64 lv (.int z :: .int x :: st) h = zR d 27 Q 65 lv (.int (x + z) :: st) h := q_in rfl rfl
theorem r27_65 : zR d 27 Q 65 lv (.int x :: .ref 7 :: st) h = zR d 27 Q 68 lv st (zhr h 7 (upd (h 7) 10 x)) := (q_and rfl rfl).trans (zand_t ⟨rfl, Or.inl rfl⟩)
theorem r27_68 : zR d 27 Q 68 (some (.ref c) :: l) st h = zR d 27 Q 69 (some (.ref c) :: l) (.ref c :: st) h := q_in rfl rfl
theorem r27_69 : zR d 27 Q 69 lv [.ref 7] h = zM d 11 [.ref 7] h (fun r h' => zR d 27 Q 72 lv (r.toList ++ []) h') := (q_clV rfl rfl (Nat.le_of_ble_eq_true rfl)).trans (zand_t ⟨rfl, Nat.le_of_ble_eq_true rfl⟩)
theorem r27_72 : zR d 27 Q 72 lv [] h = Q none h := q_ret rfl rfl
theorem r28_0 : zR d 28 Q 0 (some (.ref c) :: l) st h = zR d 28 Q 1 (some (.ref c) :: l) (.ref c :: st) h := q_in rfl rfl
theorem r28_1 : zR d 28 Q 1 lv [.ref 7] h = zM d 29 [.ref 7] h (fun r h' => zR d 28 Q 4 lv (r.toList ++ []) h') := (q_clV rfl rfl (Nat.le_of_ble_eq_true rfl)).trans (zand_t ⟨rfl, Nat.le_of_ble_eq_true rfl⟩)
theorem r28_4 : zR d 28 Q 4 (o0 :: o1 :: l) (.int x :: st) h = zR d 28 Q 5 (o0 :: some (.int x) :: l) st h := q_in rfl rfl
theorem r28_5 : zR d 28 Q 5 (o0 :: some (.int x) :: l) st h = zR d 28 Q 6 (o0 :: some (.int x) :: l) (.int x :: st) h := q_in rfl rfl
theorem r28_6 : zR d 28 Q 6 lv st h = zR d 28 Q 7 lv (.int (-1) :: st) h := q_in rfl rfl
theorem r28_7 : zR d 28 Q 7 lv (.int z :: .int x :: st) h = if x = z then zR d 28 Q 10 lv st h else zR d 28 Q 15 lv st h := q_if rfl rfl
theorem r28_10 : zR d 28 Q 10 (some (.ref c) :: l) st h = zR d 28 Q 11 (some (.ref c) :: l) (.ref c :: st) h := q_in rfl rfl
theorem r28_11 : zR d 28 Q 11 lv [.ref 7] h = zM d 15 [.ref 7] h (fun r h' => zR d 28 Q 14 lv (r.toList ++ []) h') := (q_clV rfl rfl (Nat.le_of_ble_eq_true rfl)).trans (zand_t ⟨rfl, Nat.le_of_ble_eq_true rfl⟩)
theorem r28_14 : zR d 28 Q 14 lv [] h = Q none h := q_ret rfl rfl
theorem r28_15 : zR d 28 Q 15 (some (.ref c) :: l) st h = zR d 28 Q 16 (some (.ref c) :: l) (.ref c :: st) h := q_in rfl rfl
theorem r28_16 : zR d 28 Q 16 lv st h = zR d 28 Q 17 lv (.int (-1) :: st) h := q_in rfl rfl
theorem r28_17 : zR d 28 Q 17 (o0 :: some (.int x) :: l) st h = zR d 28 Q 18 (o0 :: some (.int x) :: l) (.int x :: st) h := q_in rfl rfl
theorem r28_18 : zR d 28 Q 18 lv (.int z :: .int x :: st) h = zR d 28 Q 19 lv (.int (x - z) :: st) h := q_in rfl rfl
theorem r28_19 : zR d 28 Q 19 lv [.int x0, .ref 7] h = zM d 17 [.ref 7, .int x0] h (fun r h' => zR d 28 Q 22 lv (r.toList ++ []) h') := (q_clV rfl rfl (Nat.le_of_ble_eq_true rfl)).trans (zand_t ⟨rfl, Nat.le_of_ble_eq_true rfl⟩)
theorem r28_22 : zR d 28 Q 22 (some (.ref c) :: l) st h = zR d 28 Q 23 (some (.ref c) :: l) (.ref c :: st) h := q_in rfl rfl
theorem r28_23 : zR d 28 Q 23 lv (.ref c :: st) h = zR d 28 Q 24 lv (.ref c :: .ref c :: st) h := q_in rfl rfl
theorem r28_24 : zR d 28 Q 24 lv (.ref 7 :: st) h = zR d 28 Q 27 lv (.int (h 7 10) :: st) h := (q_and rfl rfl).trans (zand_t rfl)
theorem r28_27 : zR d 28 Q 27 lv st h = zR d 28 Q 28 lv (.int 1 :: st) h := q_in rfl rfl
theorem r28_28 : zR d 28 Q 28 lv (.int z :: .int x :: st) h = zR d 28 Q 29 lv (.int (x + z) :: st) h := q_in rfl rfl
theorem r28_29 : zR d 28 Q 29 lv (.int x :: .ref 7 :: st) h = zR d 28 Q 32 lv st (zhr h 7 (upd (h 7) 10 x)) := (q_and rfl rfl).trans (zand_t ⟨rfl, Or.inl rfl⟩)
theorem r28_32 : zR d 28 Q 32 (some (.ref c) :: l) st h = zR d 28 Q 33 (some (.ref c) :: l) (.ref c :: st) h := q_in rfl rfl
theorem r28_33 : zR d 28 Q 33 lv [.ref 7] h = zM d 11 [.ref 7] h (fun r h' => zR d 28 Q 36 lv (r.toList ++ []) h') := (q_clV rfl rfl (Nat.le_of_ble_eq_true rfl)).trans (zand_t ⟨rfl, Nat.le_of_ble_eq_true rfl⟩)
theorem r28_36 : zR d 28 Q 36 lv [] h = Q none h := q_ret rfl rfl
end
