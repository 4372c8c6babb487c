/-! the methods: name, bytes, locals, result, how many parameters, static -/
def zyT0 : List (MethodName × ByteArray × Nat × Option FieldType × Nat × Bool) := [(yX0_isKind, cX0_isKind, 1, (some .boolean), 1, true),
  (yX0_isOf, cX0_isOf, 4, (some .boolean), 2, true),
  (yX0_pays, cX0_pays, 2, (some .int), 2, true),
  (yX0_takes, cX0_takes, 1, (some .int), 1, true),
  (yX0_urges, cX0_urges, 2, (some .int), 2, true),
  (yX0_worth, cX0_worth, 2, (some .int), 2, true),
  (yX1_learn, cX1_learn, 3, none, 2, false),
  (yX1_gives, cX1_gives, 8, (some .int), 4, false),
  (yX1_joined, cX1_joined, 3, (some .int), 3, true),
  (yX2_take, cX2_take, 3, none, 1, false),
  (yX2_readTape, cX2_readTape, 1, (some .int), 0, false),
  (yX2_goAhead, cX2_goAhead, 3, none, 0, false),
  (yX2_isWord, cX2_isWord, 1, (some .boolean), 0, false),
  (yX2_byteAt, cX2_byteAt, 2, (some .int), 1, false),
  (yX2_sortAt, cX2_sortAt, 3, (some .int), 1, false),
  (yX2_meetsFault, cX2_meetsFault, 1, none, 0, false),
  (yX2_isSign, cX2_isSign, 2, (some .boolean), 1, false),
  (yX2_puts, cX2_puts, 2, none, 1, false),
  (yX2_readKey, cX2_readKey, 1, none, 0, false),
  (yX2_spells, cX2_spells, 3, (some .boolean), 1, false),
  (yX2_readOr, cX2_readOr, 4, none, 2, false),
  (yX2_readAnd, cX2_readAnd, 4, none, 2, false),
  (yX2_readTest, cX2_readTest, 4, none, 2, false),
  (yX2_readSum, cX2_readSum, 5, none, 2, false),
  (yX2_readTerm, cX2_readTerm, 5, none, 2, false),
  (yX2_readPiece, cX2_readPiece, 3, none, 2, false)]
def zyT1 : List (MethodName × ByteArray × Nat × Option FieldType × Nat × Bool) := [(yX2_readClosing, cX2_readClosing, 1, none, 0, false),
  (yX2_readNumber, cX2_readNumber, 3, none, 0, false),
  (yX2_readName, cX2_readName, 2, none, 0, false),
  (yX2_name, cX2_name, 3, (some .int), 0, false),
  (yX3_becomesNew, cX3_becomesNew, 4, none, 2, false),
  (yX3_become, cX3_become, 2, none, 1, false),
  (yX3_isMissing, cX3_isMissing, 1, (some .boolean), 0, false),
  (yX3_hasPlace, cX3_hasPlace, 2, (some .boolean), 1, false),
  (yX3_hasPlaces, cX3_hasPlaces, 3, (some .boolean), 2, false),
  (yX3_isNumber, cX3_isNumber, 2, (some .boolean), 1, false),
  (yX5_become, cX5_become, 2, none, 1, false),
  (yX5_has, cX5_has, 2, (some .boolean), 1, false),
  (yX5_comes, cX5_comes, 5, (some .int), 3, false),
  (yX5_draw, cX5_draw, 1, (some .int), 0, false),
  (yX5_howManyOn, cX5_howManyOn, 4, (some .int), 1, false),
  (yX5_allOf, cX5_allOf, 4, (some .int), 1, false),
  (yX5_haveAllBeenOver, cX5_haveAllBeenOver, 2, (some .boolean), 0, false),
  (yX5_pays, cX5_pays, 4, (some .int), 1, false),
  (yX5_paidBy, cX5_paidBy, 4, (some .int), 1, false),
  (yX5_pullAt, cX5_pullAt, 4, (some .int), 2, false),
  (yX5_effect, cX5_effect, 1, (some .int), 0, false),
  (yX5_minutes, cX5_minutes, 2, (some .int), 0, false),
  (yX5_whoBoards, cX5_whoBoards, 8, (some .int), 0, false),
  (yX5_mostUrging, cX5_mostUrging, 6, (some .int), 1, false),
  (yX5_bestSet, cX5_bestSet, 7, (some .int), 0, false),
  (yX5_setOn, cX5_setOn, 4, (some .int), 1, false)]
def zyT2 : List (MethodName × ByteArray × Nat × Option FieldType × Nat × Bool) := [(yX5_mayCross, cX5_mayCross, 5, (some .boolean), 1, false),
  (yX5_goOn, cX5_goOn, 3, none, 1, false),
  (yX5_takeStep, cX5_takeStep, 4, none, 0, false),
  (yX5_waitsForMore, cX5_waitsForMore, 2, (some .boolean), 0, false),
  (yX5_isDoctorHere, cX5_isDoctorHere, 2, (some .boolean), 0, false),
  (yX5_crosses, cX5_crosses, 4, none, 1, false),
  (yX6_load, cX6_load, 4, (some .int), 3, false),
  (yX6_told, cX6_told, 3, (some .int), 2, false),
  (yX6_as, cX6_as, 3, (some .int), 2, false),
  (yX6_turns, cX6_turns, 3, (some .int), 2, false),
  (yX6_set, cX6_set, 4, (some .int), 3, false),
  (yX6_boat, cX6_boat, 2, (some .int), 1, false),
  (yX6_rule, cX6_rule, 3, (some .int), 2, false),
  (yX6_pull, cX6_pull, 2, (some .int), 1, false),
  (yX6_loading, cX6_loading, 1, (some .int), 0, false),
  (yX6_deal, cX6_deal, 7, (some .int), 1, false),
  (yX6_seed, cX6_seed, 3, (some .int), 1, false),
  (yX6_steps, cX6_steps, 3, (some .int), 1, false),
  (yX6_book, cX6_book, 2, (some .int), 1, false),
  (yX6_high, cX6_high, 2, (some .int), 0, false),
  (yX6_best, cX6_best, 3, (some .int), 1, false),
  (yX6_behind, cX6_behind, 3, (some .int), 2, false),
  (yX6_slant, cX6_slant, 7, (some .int), 2, false),
  (yX6_patience, cX6_patience, 6, (some .int), 2, false),
  (yX6_left, cX6_left, 6, (some .int), 2, false),
  (yX6_allOver, cX6_allOver, 2, (some .int), 0, false)]
def zyT3 : List (MethodName × ByteArray × Nat × Option FieldType × Nat × Bool) := [(yX6_slanted, cX6_slanted, 8, (some .int), 2, false),
  (yX6_differences, cX6_differences, 5, (some .int), 2, false),
  (yX6_fine, cX6_fine, 2, (some .int), 0, false),
  (yX6_feed, cX6_feed, 4, (some .int), 3, false),
  (yX6_trim, cX6_trim, 2, (some .int), 1, false),
  (yX6_text, cX6_text, 3, (some .int), 0, false),
  (yX6_textTold, cX6_textTold, 3, (some .int), 2, false),
  (yX6_why, cX6_why, 2, (some .int), 1, false),
  (yX6_sheet, cX6_sheet, 5, (some .int), 3, false),
  (yX6_mark, cX6_mark, 5, (some .int), 3, false),
  (yX6_pour, cX6_pour, 6, (some .int), 1, false),
  (yX6_reads, cX6_reads, 4, (some .int), 1, false),
  (yX6_copy, cX6_copy, 8, (some .int), 5, false),
  (yX6_lay, cX6_lay, 6, (some .int), 3, false),
  (yX6_ask, cX6_ask, 4, (some .int), 2, false),
  (yX6_item, cX6_item, 4, (some .int), 2, false),
  (yX6_rest, cX6_rest, 4, (some .int), 2, false),
  (yX6_sheetAt, cX6_sheetAt, 2, (some (.object "RopeFerry$Sheet")), 1, false),
  (yX6_slotAt, cX6_slotAt, 2, (some (.object "RopeFerry$Slot")), 1, false),
  (yX6_tell, cX6_tell, 2, (some .int), 1, false),
  (yX6_check, cX6_check, 5, (some .int), 1, false),
  (yX6_isNumberAt, cX6_isNumberAt, 4, (some .boolean), 3, false),
  (yX6_keep, cX6_keep, 1, (some .int), 0, false),
  (yX6_back, cX6_back, 1, (some .int), 0, false),
  (yX6_count, cX6_count, 2, (some .int), 1, false),
  (yX6_within, cX6_within, 3, (some .boolean), 3, true)]
def zyT4 : List (MethodName × ByteArray × Nat × Option FieldType × Nat × Bool) := [(yX6_held, cX6_held, 3, (some .int), 3, true),
  (yX6_swapped, cX6_swapped, 6, (some .int), 5, true),
  (yX7_isIn, cX7_isIn, 6, (some .boolean), 3, true),
  (yX7_orNone, cX7_orNone, 1, (some .int), 1, true),
  (yX7_held, cX7_held, 3, (some .int), 3, true),
  (yX7_off, cX7_off, 2, (some .int), 2, true),
  (yX7_manyIn, cX7_manyIn, 3, (some .int), 1, true),
  (yX7_becomes, cX7_becomes, 4, (some .int), 2, false),
  (yX7_textAt, cX7_textAt, 2, (some .int), 1, false),
  (yX7_of, cX7_of, 3, (some .int), 2, false),
  (yX7_sets, cX7_sets, 4, none, 3, false),
  (yX7_isLoad, cX7_isLoad, 2, (some .boolean), 1, false),
  (yX7_isText, cX7_isText, 2, (some .boolean), 1, false),
  (yX7_drawn, cX7_drawn, 1, (some .int), 0, false),
  (yX7_comes, cX7_comes, 5, none, 3, false),
  (yX7_load, cX7_load, 4, (some .int), 3, false),
  (yX7_pays, cX7_pays, 4, (some .int), 1, false),
  (yX7_takes, cX7_takes, 2, (some .int), 1, false),
  (yX7_urges, cX7_urges, 3, (some .int), 1, false),
  (yX7_worth, cX7_worth, 3, (some .int), 1, false),
  (yX7_told, cX7_told, 3, (some .int), 2, false),
  (yX7_isOf, cX7_isOf, 2, (some .boolean), 2, true),
  (yX7_as, cX7_as, 3, (some .int), 2, false),
  (yX7_turns, cX7_turns, 3, (some .int), 2, false),
  (yX7_set, cX7_set, 4, (some .int), 3, false),
  (yX7_effect, cX7_effect, 2, (some .int), 0, false)]
def zyT5 : List (MethodName × ByteArray × Nat × Option FieldType × Nat × Bool) := [(yX7_minutes, cX7_minutes, 2, (some .int), 0, false),
  (yX7_boat, cX7_boat, 2, (some .int), 1, false),
  (yX7_mostOf, cX7_mostOf, 1, (some .int), 1, true),
  (yX7_rule, cX7_rule, 3, (some .int), 2, false),
  (yX7_pullOf, cX7_pullOf, 3, (some .int), 1, false),
  (yX7_pull, cX7_pull, 2, (some .int), 1, false),
  (yX7_nextUrging, cX7_nextUrging, 5, (some .int), 1, false),
  (yX7_loads, cX7_loads, 6, (some .int), 0, false),
  (yX7_loading, cX7_loading, 1, (some .int), 0, false),
  (yX7_deal, cX7_deal, 5, (some .int), 1, false),
  (yX7_seed, cX7_seed, 2, (some .int), 1, false),
  (yX7_manyOn, cX7_manyOn, 4, (some .int), 1, false),
  (yX7_hasDoctor, cX7_hasDoctor, 3, (some .boolean), 1, false),
  (yX7_stays, cX7_stays, 2, (some .int), 0, false),
  (yX7_goesOn, cX7_goesOn, 4, none, 0, false),
  (yX7_steps, cX7_steps, 4, (some .int), 1, false),
  (yX7_allOf, cX7_allOf, 4, (some .int), 1, false),
  (yX7_book, cX7_book, 2, (some .int), 1, false),
  (yX7_high, cX7_high, 4, (some .int), 0, false),
  (yX7_best, cX7_best, 11, (some .int), 1, false),
  (yX7_laysBy, cX7_laysBy, 2, none, 0, false),
  (yX7_laysBack, cX7_laysBack, 2, none, 0, false),
  (yX7_goesOnMany, cX7_goesOnMany, 3, none, 1, false),
  (yX7_behind, cX7_behind, 4, (some .int), 2, false),
  (yX7_slant, cX7_slant, 7, (some .int), 2, false),
  (yX7_patience, cX7_patience, 7, (some .int), 2, false)]
def zyT6 : List (MethodName × ByteArray × Nat × Option FieldType × Nat × Bool) := [(yX7_left, cX7_left, 7, (some .int), 2, false),
  (yX7_areOver, cX7_areOver, 2, (some .boolean), 0, false),
  (yX7_allOver, cX7_allOver, 3, (some .int), 0, false),
  (yX7_fine, cX7_fine, 2, (some .int), 0, false),
  (yX7_feed, cX7_feed, 6, (some .int), 3, false),
  (yX7_trim, cX7_trim, 2, (some .int), 1, false),
  (yX7_isLetter, cX7_isLetter, 2, (some .boolean), 1, false),
  (yX7_isDigit, cX7_isDigit, 2, (some .boolean), 1, false),
  (yX7_nextToken, cX7_nextToken, 3, none, 0, false),
  (yX7_isSign, cX7_isSign, 2, (some .boolean), 1, false),
  (yX7_isWordAt, cX7_isWordAt, 6, (some .boolean), 4, false),
  (yX7_key, cX7_key, 1, (some .int), 0, false),
  (yX7_isName, cX7_isName, 2, (some .boolean), 2, true),
  (yX7_step, cX7_step, 3, none, 2, false),
  (yX7_either, cX7_either, 2, (some .boolean), 1, false),
  (yX7_both, cX7_both, 2, (some .boolean), 1, false),
  (yX7_test, cX7_test, 3, (some .boolean), 1, false),
  (yX7_sum, cX7_sum, 3, (some .boolean), 1, false),
  (yX7_term, cX7_term, 3, (some .boolean), 1, false),
  (yX7_part0, cX7_part0, 2, (some .boolean), 1, false),
  (yX7_parse, cX7_parse, 3, (some .int), 0, false),
  (yX7_text, cX7_text, 3, (some .int), 0, false),
  (yX7_textTold, cX7_textTold, 3, (some .int), 2, false),
  (yX7_counts, cX7_counts, 4, (some .int), 1, false),
  (yX7_why, cX7_why, 2, (some .int), 1, false),
  (yX7_joined, cX7_joined, 3, (some .int), 3, true)]
def zyT7 : List (MethodName × ByteArray × Nat × Option FieldType × Nat × Bool) := [(yX7_worked, cX7_worked, 6, (some .int), 1, false),
  (yX7_isSheet, cX7_isSheet, 1, (some .boolean), 1, true),
  (yX7_sheet, cX7_sheet, 5, (some .int), 3, false),
  (yX7_mark, cX7_mark, 4, (some .int), 3, false),
  (yX7_pour, cX7_pour, 6, (some .int), 1, false),
  (yX7_reads, cX7_reads, 4, (some .int), 1, false),
  (yX7_slanted, cX7_slanted, 9, (some .int), 2, false),
  (yX7_copy, cX7_copy, 7, (some .int), 5, false),
  (yX7_isSlot, cX7_isSlot, 1, (some .boolean), 1, true),
  (yX7_lay, cX7_lay, 7, (some .int), 3, false),
  (yX7_ask, cX7_ask, 3, (some .int), 2, false),
  (yX7_item, cX7_item, 4, (some .int), 2, false),
  (yX7_rest, cX7_rest, 3, (some .int), 2, false),
  (yX7_tell, cX7_tell, 2, (some .int), 1, false),
  (yX7_setAside, cX7_setAside, 4, none, 2, false),
  (yX7_check, cX7_check, 5, (some .int), 1, false),
  (yX7_keep, cX7_keep, 1, (some .int), 0, false),
  (yX7_back, cX7_back, 1, (some .int), 0, false),
  (yX7_count, cX7_count, 2, (some .int), 1, false),
  (yJ6_bitCount_0f7a4, cJ6_bitCount_0f7a4, 1, (some .int), 1, true)]
def zyT : List (MethodName × ByteArray × Nat × Option FieldType × Nat × Bool) := zyT0 ++ zyT1 ++ zyT2 ++ zyT3 ++ zyT4 ++ zyT5 ++ zyT6 ++ zyT7
def zyR (y : Nat) : MethodName × ByteArray × Nat × Option FieldType × Nat × Bool := zyT.getD y (yX0_isKind, cX0_isKind, 1, some .boolean, 1, true)
def zyN (y : Nat) : MethodName := (zyR y).1
def zyB (y : Nat) : ByteArray := (zyR y).2.1
def zyL (y : Nat) : Nat := (zyR y).2.2.1
def zyQ (y : Nat) : Option FieldType := (zyR y).2.2.2.1
def zyP (y : Nat) : Nat := (zyR y).2.2.2.2.1
def zyS (y : Nat) : Bool := (zyR y).2.2.2.2.2
def zNest : Jvm.Cond → Bool
  | .fieldLinkNest _ _ _ _ _ _ => true
  | .methodLinkNest _ _ _ _ => true
  | _ => false
def ztab (k : Nat) : List Jvm.Cond := match k with
  | 0 => k2_sels lw_privs | 1 => tables_1_1 | 2 => tables_1_2 | 3 => tables_1_3 | 4 => tables_1_4 | 5 => tables_1_5 | 6 => tables_1_6 | _ => []
/-- a word of the tables by its place -/
def zG (u : Nat) (w : Jvm.Cond) : Bool := decide ((ztab (u / 1000))[u % 1000]? = some w) && goodWord w
def zN (u : Nat) (w : Jvm.Cond) : Bool := decide ((ztab (u / 1000))[u % 1000]? = some w) && zNest w
theorem ztab_in {k : Nat} {w : Jvm.Cond} (h : w ∈ ztab k) : w ∈ lw_tbl := by
  unfold lw_tbl tables_1
  match k, h with
  | 0, h => exact List.mem_append_left _ h
  | 1, h => exact List.mem_append_right _ (List.mem_append_left _ h)
  | 2, h => exact List.mem_append_right _ (List.mem_append_right _ (List.mem_append_left _ h))
  | 3, h => exact List.mem_append_right _ (List.mem_append_right _ (List.mem_append_right _ (List.mem_append_left _ h)))
  | 4, h => exact List.mem_append_right _ (List.mem_append_right _ (List.mem_append_right _ (List.mem_append_right _ (List.mem_append_left _ h))))
  | 5, h => exact List.mem_append_right _ (List.mem_append_right _ (List.mem_append_right _ (List.mem_append_right _ (List.mem_append_right _ (List.mem_append_left _ h)))))
  | 6, h => exact List.mem_append_right _ (List.mem_append_right _ (List.mem_append_right _ (List.mem_append_right _ (List.mem_append_right _ (List.mem_append_right _ h)))))
  | k + 7, h => exact absurd h List.not_mem_nil
theorem zG_in {u : Nat} {w : Jvm.Cond} (h : zG u w = true) : w ∈ lw_tbl ∧ goodWord w = true := by
  simp only [zG, Bool.and_eq_true, decide_eq_true_eq] at h
  exact ⟨ztab_in (List.mem_of_getElem? h.1), h.2⟩
theorem zN_in {u : Nat} {w : Jvm.Cond} (h : zN u w = true) : w ∈ lw_tbl ∧ zNest w = true := by
  simp only [zN, Bool.and_eq_true, decide_eq_true_eq] at h
  exact ⟨ztab_in (List.mem_of_getElem? h.1), h.2⟩
abbrev zcl : List vw_C := [(RX1, TX1, 0), (RX1, TX1, 5), (RX2, TX2, 11), (RX3, TX3, 3), (RX4, TX4, 5), (RX5, TX5, 15), (RX6, TX6, 10), (RX7, TX7, 33)]
def zstc : List (String × String × String × FieldType × Nat) := [(RX0, "ABOVE", "[I", .int, 80), (RX5, "LOWEST", "[I", .int, 81), (RX5, "HIGHEST", "[I", .int, 82), (RX2, "NAMES_BY_KEY", "[C", .char, 83)]
def zlit : List (Nat × String × Nat) := [(81, "toll", 86), (89, "pull", 87), (91, "fine", 88)]
/-- the length of an instruction -/
def zlen (ins : Instr) (b : Nat) : Nat := match ins with
  | .iconst _ | .lconst _ | .aconst_null | .iload_n _ | .lload_n _ | .aload_n _ | .istore_n _ | .astore_n _ | .iadd | .isub | .imul | .iand | .ior | .ixor | .idiv | .irem | .ineg | .ishl | .ishr | .iushr | .i2l | .i2s | .ladd | .lcmp | .dup | .pop | .dup2 | .iaload | .caload | .aaload | .iastore | .arraylength | .ireturn | .areturn | .return_ => 1
  | .bipush _ | .ldc _ | .iload _ | .lload _ | .aload _ | .istore _ | .astore _ => 2
  | .tableswitch _ _ _ _ | .lookupswitch _ _ => b
  | _ => 3
def zksT (pc : Nat) : Int → List Int → List (Int32 × Nat) → Bool
  | _, [], [] => true
  | lo, o :: os, q :: ks => decide (q.1 = Int32.ofInt lo) && decide ((pc : Int) + o = (q.2 : Int)) && zksT pc (lo + 1) os ks
  | _, _, _ => false
def zksL (pc : Nat) : List (Int × Int) → List (Int32 × Nat) → Bool
  | [], [] => true
  | p :: ps, q :: ks => decide (q.1 = Int32.ofInt p.1) && decide ((pc : Int) + p.2 = (q.2 : Int)) && decide (-2147483648 ≤ p.1 ∧ p.1 < 2147483648) && zksL pc ps ks
  | _, _ => false
def zF (u : Nat) (own : String) (i a b : Nat) : Bool := match zcl[a]? with
  | some q => decide (b < q.2.2) && decide ((q.2.1 b).1 = q.1) && (zG u (.fieldLink own i q.1 (q.2.1 b).2.1 (q.2.1 b).2.2.1) || zN u (.fieldLinkNest own i q.1 (q.2.1 b).2.1 (q.2.1 b).2.2.1 "RopeFerry"))
  | none => false
def zFw (a b d : Nat) : Bool := match zcl[a]? with
  | some q => decide ((q.2.1 b).2.2.2 = false) && decide (zrfo a b 0 = none) && decide ((parseFieldDescriptor (q.2.1 b).2.2.1 = some .int) ∨ (d = 1 ∧ parseFieldDescriptor (q.2.1 b).2.2.1 = some .boolean))
  | none => false
def zFs (u : Nat) (own : String) (i a b : Nat) : Bool := match zstc[a]? with
  | some q => decide (q.2.2.2.2 = b) && (zG u (.fieldLink own i q.1 q.2.1 q.2.2.1) || zN u (.fieldLinkNest own i q.1 q.2.1 q.2.2.1 "RopeFerry"))
  | none => false
def zML (u : Nat) (own : String) (i : Nat) (y : MethodName) : Bool := zG u (.methodLink own i y) || zN u (.methodLinkNest own i y "RopeFerry")
def zcS (u : Nat) (own : String) (i a b : Nat) : Bool := match a with
  | 1000 => zG u (.methodLink own i Lib.Math.max.name) && decide (b = 2)
  | 1001 => zG u (.methodLink own i Lib.Math.min.name) && decide (b = 2)
  | 1002 => zG u (.methodLink own i Lib.Math.abs.name) && decide (b = 1)
  | 1003 => zG u (.methodLink own i arraycopyName) && decide (b = 5)
  | y => decide (y < 202) && zML u own i (zyN y) && zyS y && decide (b = zyP y)
def zcV (u : Nat) (own : String) (i a b d : Nat) : Bool := match a with
  | 1004 => zG u (.methodLink own i yJ0_length_8abf5) && decide (b = 0 ∧ d = 23)
  | 1005 => zG u (.methodLink own i yJ0_charAt_5068e) && decide (b = 1 ∧ d = 23)
  | y => decide (y < 202) && zML u own i (zyN y) && !(zyS y) && decide (b = zyP y) && decide ((zcl[d]?).map (·.1) = some (zyN y).cls)
/-- what an entry of a code table must fit -/
def zlk (own : String) (nL : Nat) (nol : Bool) (rk : Option FieldType) (u : Nat) : zE → Bool
  | (pc, ins, a, b, d, v, ks) => match ins with
    | .iconst n => decide (Int32.ofInt n = v)
    | .bipush n => decide ((Int8.ofInt n).toInt32 = v)
    | .sipush n => decide ((Int16.ofInt n).toInt32 = v)
    | .ldc i => (decide (a = 0) && zG u (.constant own i v)) || (decide (a = 1) && decide (own = RX2) && zlit.any (fun q => decide (q.1 = i ∧ q.2.2 = b)))
    | .ldc_w i => zG u (.constant own i v)
    | .lconst n => decide (Int64.ofNat (n : Nat) = v.toInt64)
    | .ldc2_w i => zG u (.constantLong own i v.toInt64)
    | .iload i | .lload i | .aload i => decide (i = a)
    | .iload_n k | .lload_n k | .aload_n k => decide ((k : Nat) = a)
    | .istore i | .astore i => decide (i = a) && decide (a < nL) && nol
    | .istore_n k | .astore_n k => decide ((k : Nat) = a) && decide (a < nL) && nol
    | .iinc i n => decide (i = a) && decide (a < nL) && nol && decide (Int32.ofInt n = v)
    | .goto off | .ifCond _ off | .if_icmp _ off | .ifnull off | .ifnonnull off => decide ((pc : Int) + off = (a : Int))
    | .tableswitch df lo hi offs => decide ((pc : Int) + df = (a : Int)) && zksT pc lo offs.toList ks && decide (hi + 1 = lo + offs.toList.length) && decide (-2147483648 ≤ lo ∧ hi < 2147483648)
    | .lookupswitch df ps => decide ((pc : Int) + df = (a : Int)) && zksL pc ps.toList ks && (ps.toList.zip (ps.toList.drop 1)).all (fun (a, next) => a.1 < next.1)
    | .getfield i => zF u own i a b
    | .putfield i => zF u own i a b && zFw a b d
    | .getstatic i => zFs u own i a b
    | .invokestatic i => zcS u own i a b
    | .invokevirtual i => zcV u own i a b d
    | .ireturn => decide (rk = some .int) || (decide (rk = some .boolean) && decide (d = 1))
    | .areturn => (match rk with | some (.object _) => true | _ => false)
    | .return_ => decide (rk = none)
    | _ => true
def zchk (own : String) (cc : ByteArray) (nL : Nat) (nol : Bool) (rk : Option FieldType) : List zE → List Nat → Bool
  | [], [] => true
  | e :: l, u :: us => decide (decode cc e.1 = .ok (e.2.1, zlen e.2.1 e.2.2.2.1)) && zlk own nL nol rk u e && zchk own cc nL nol rk l us
  | _, _ => false
/-- what a method's row must fit -/
def zmok (u : Nat × Nat × Nat × Nat) (q : MethodName × ByteArray × Nat × Option FieldType × Nat × Bool) : Bool :=
  zG u.1 (.code q.1 q.2.1 q.2.2.1 q.2.2.2.1) && zG u.2.1 (.initialized q.1.cls) && (if q.2.2.2.2.2 then zG u.2.2.1 (.static q.1) else zG u.2.2.1 (.instanceMethod q.1) && zG u.2.2.2 (.selects q.1.cls q.1 q.1))
  && plainName q.1.cls && decide (q.1.cls ≠ "java/lang/invoke/MethodHandle" ∧ q.1.cls ≠ "java/lang/invoke/VarHandle") && decide ((parseMethodDescriptor q.1.desc).map (fun d => d.parameters.length) = some q.2.2.2.2.1) && decide (q.2.2.1 ≤ 30)
def zmoks : List (Nat × Nat × Nat × Nat) → List (MethodName × ByteArray × Nat × Option FieldType × Nat × Bool) → Bool
  | [], [] => true
  | u :: us, q :: qs => zmok u q && zmoks us qs
  | _, _ => false
theorem zmok_0 : zmoks [(2008, 1008, 2007, 0), (2070, 1008, 2069, 0), (2053, 1008, 2052, 0), (2057, 1008, 2056, 0), (2060, 1008, 2059, 0), (2063, 1008, 2062, 0), (3200, 1003, 3198, 3199), (2037, 1003, 2035, 2036), (2041, 1003, 2040, 0), (3053, 1002, 3051, 3052), (3065, 1002, 3063, 3064), (3069, 1002, 3068, 8), (3073, 1002, 3072, 9), (3077, 1002, 3076, 10), (3081, 1002, 3080, 11), (3146, 1002, 3145, 14), (3196, 1002, 3195, 26), (3178, 1002, 3177, 22), (3087, 1002, 3086, 12), (3092, 1002, 3091, 13), (3150, 1002, 3149, 15), (3154, 1002, 3153, 16), (3158, 1002, 3157, 17), (3162, 1002, 3161, 18), (3166, 1002, 3165, 19), (3170, 1002, 3169, 20)] zyT0 = true := by decide +kernel
theorem zmok_1 : zmoks [(3192, 1002, 3191, 25), (3174, 1002, 3173, 21), (3182, 1002, 3181, 23), (3186, 1002, 3185, 24), (3218, 1005, 3216, 3217), (4019, 1005, 4017, 4018), (3024, 1005, 3022, 3023), (3037, 1005, 3035, 3036), (4006, 1005, 4004, 4005), (3033, 1005, 3031, 3032), (2228, 1004, 2226, 2227), (2028, 1004, 2026, 2027), (2018, 1004, 2016, 2017), (2142, 1004, 2140, 2141), (2167, 1004, 2165, 2166), (2192, 1004, 2190, 2191), (3011, 1004, 3009, 3010), (2032, 1004, 2030, 2031), (2178, 1004, 2176, 2177), (2119, 1004, 2117, 2118), (2093, 1004, 2091, 2092), (2101, 1004, 2099, 2100), (2127, 1004, 2125, 2126), (2131, 1004, 2130, 0), (2205, 1004, 2203, 2204), (2209, 1004, 2208, 4)] zyT1 = true := by decide +kernel
theorem zmok_2 : zmoks [(2213, 1004, 2212, 5), (2155, 1004, 2153, 2154), (2159, 1004, 2157, 2158), (2163, 1004, 2162, 1), (2171, 1004, 2170, 2), (2183, 1004, 2182, 3), (2005, 1001, 2003, 2004), (2024, 1001, 2022, 2023), (2067, 1001, 2065, 2066), (2078, 1001, 2076, 2077), (2085, 1001, 2083, 2084), (2089, 1001, 2087, 2088), (2107, 1001, 2105, 2106), (2115, 1001, 2113, 2114), (2123, 1001, 2121, 2122), (2138, 1001, 2136, 2137), (2147, 1001, 2145, 2146), (2151, 1001, 2149, 2150), (2188, 1001, 2186, 2187), (2196, 1001, 2194, 2195), (2201, 1001, 2199, 2200), (2224, 1001, 2222, 2223), (2235, 1001, 2233, 2234), (2239, 1001, 2237, 2238), (3003, 1001, 3001, 3002), (3007, 1001, 3005, 3006)] zyT2 = true := by decide +kernel
theorem zmok_3 : zmoks [(3016, 1001, 3014, 3015), (3029, 1001, 3028, 7), (3044, 1001, 3042, 3043), (3049, 1001, 3047, 3048), (3057, 1001, 3055, 3056), (3061, 1001, 3059, 3060), (3206, 1001, 3204, 3205), (3210, 1001, 3208, 3209), (3214, 1001, 3212, 3213), (3224, 1001, 3222, 3223), (3233, 1001, 3231, 3232), (3238, 1001, 3236, 3237), (4002, 1001, 4000, 4001), (4011, 1001, 4009, 4010), (4024, 1001, 4022, 4023), (4028, 1001, 4026, 4027), (4032, 1001, 4030, 4031), (3020, 1001, 3019, 6), (4015, 1001, 4014, 27), (4037, 1001, 4035, 4036), (4041, 1001, 4039, 4040), (4045, 1001, 4044, 28), (4049, 1001, 4047, 4048), (4053, 1001, 4051, 4052), (4057, 1001, 4055, 4056), (2011, 1001, 2010, 0)] zyT3 = true := by decide +kernel
theorem zmok_4 : zmoks [(2044, 1001, 2043, 0), (2081, 1001, 2080, 0), (4172, 1007, 4171, 0), (5105, 1007, 5104, 0), (4217, 1007, 4216, 0), (5023, 1007, 5022, 0), (5113, 1007, 5112, 0), (5005, 1007, 5004, 40), (4207, 1007, 4206, 35), (4195, 1007, 4194, 32), (4183, 1007, 4182, 30), (4191, 1007, 4190, 31), (5238, 1007, 5237, 70), (5064, 1007, 5063, 46), (4179, 1007, 4178, 29), (4168, 1007, 4166, 4167), (4199, 1007, 4198, 33), (4221, 1007, 4220, 37), (4225, 1007, 4224, 38), (4229, 1007, 4228, 39), (4187, 1007, 4185, 4186), (4236, 1007, 4235, 0), (4233, 1007, 4231, 4232), (5001, 1007, 4239, 5000), (5009, 1007, 5007, 5008), (5020, 1007, 5019, 41)] zyT4 = true := by decide +kernel
theorem zmok_5 : zmoks [(5027, 1007, 5026, 42), (5015, 1007, 5013, 5014), (5034, 1007, 5033, 0), (5031, 1007, 5029, 5030), (5043, 1007, 5042, 43), (5038, 1007, 5036, 5037), (5055, 1007, 5054, 45), (5051, 1007, 5050, 44), (5047, 1007, 5045, 5046), (5059, 1007, 5057, 5058), (5069, 1007, 5067, 5068), (5086, 1007, 5085, 49), (5090, 1007, 5089, 50), (5082, 1007, 5081, 48), (5078, 1007, 5077, 47), (5073, 1007, 5071, 5072), (5098, 1007, 5097, 51), (5094, 1007, 5092, 5093), (5102, 1007, 5100, 5101), (5110, 1007, 5108, 5109), (5122, 1007, 5121, 52), (5130, 1007, 5129, 54), (5126, 1007, 5125, 53), (5117, 1007, 5115, 5116), (5134, 1007, 5132, 5133), (5139, 1007, 5137, 5138)] zyT5 = true := by decide +kernel
theorem zmok_6 : zmoks [(5143, 1007, 5141, 5142), (5151, 1007, 5150, 55), (5147, 1007, 5145, 5146), (5155, 1007, 5153, 5154), (5159, 1007, 5157, 5158), (5163, 1007, 5161, 5162), (5179, 1007, 5178, 58), (5185, 1007, 5184, 59), (5175, 1007, 5174, 57), (5230, 1007, 5229, 69), (5195, 1007, 5194, 61), (5191, 1007, 5190, 60), (5226, 1007, 5225, 0), (5223, 1007, 5222, 68), (5199, 1007, 5198, 62), (5203, 1007, 5202, 63), (5207, 1007, 5206, 64), (5211, 1007, 5210, 65), (5215, 1007, 5214, 66), (5219, 1007, 5218, 67), (5171, 1007, 5170, 56), (5167, 1007, 5165, 5166), (5234, 1007, 5232, 5233), (4203, 1007, 4202, 34), (6002, 1007, 6000, 6001), (4214, 1007, 4213, 0)] zyT6 = true := by decide +kernel
theorem zmok_7 : zmoks [(4211, 1007, 4210, 36), (6010, 1007, 6009, 0), (6007, 1007, 6005, 6006), (6016, 1007, 6014, 6015), (6024, 1007, 6022, 6023), (6028, 1007, 6026, 6027), (6032, 1007, 6030, 6031), (6036, 1007, 6034, 6035), (6043, 1007, 6042, 0), (6040, 1007, 6038, 6039), (6047, 1007, 6045, 6046), (6051, 1007, 6049, 6050), (6055, 1007, 6053, 6054), (6060, 1007, 6058, 6059), (6069, 1007, 6068, 71), (6064, 1007, 6062, 6063), (6073, 1007, 6071, 6072), (6077, 1007, 6075, 6076), (6081, 1007, 6079, 6080), (2216, 1010, 2215, 0)] zyT7 = true := by decide +kernel
