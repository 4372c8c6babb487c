/-! sheets: mark, pour, reads -/
def pourF (f : Nat → Int32) (i : Nat) (p : (Nat → Int32) × Int32) : (Nat → Int32) × Int32 := if f i = -2147483648 then p else (upd p.1 (12 + 5 * i + 1) (clI 1 99 (f i)), if clI 1 99 (f i) = p.1 (12 + 5 * i + 1) then p.2 else p.2 + 1)
section
variable {d : Nat} {x0 x1 x2 v x z a : Int32} {h h' : zH} {n m N n' m' k w j f b c t i : Nat} {s row row' : Nat → Int32} {Q : Option Value → zH → Prop}
theorem zl_36k (hk : k < 4) {K : Int32 → Prop} : zal (36 + 2 * k) x h K = (zok x 24 ∧ K (h (36 + 2 * k) (zix x))) := by
  have := zl_h (x := x) (h := h) (k := K) (zsh_k hk)
  rwa [show 35 + 2 * k + 1 = 36 + 2 * k by omega] at this
theorem zs_36k (hk : k < 4) {K : zH → Prop} : zas (36 + 2 * k) x z h K = (zok x 24 ∧ K (zhr h (36 + 2 * k) (upd (h (36 + 2 * k)) (zix x) z))) := by
  have := zs_h (x := x) (z := z) (h := h) (k := K) (zsh_k hk)
  rwa [show 35 + 2 * k + 1 = 36 + 2 * k by omega] at this
theorem i2s_eq (x : Int32) : (x <<< (16 &&& 31)) >>> (16 &&& 31) = x.toInt16.toInt32 := by
  apply b_ext
  intro i hi
  rw [show (16 : Int32) = nI 16 from rfl, b_sshr 16 (by omega) _ hi]
  have e : bt x.toInt16.toInt32 i = if i < 16 then bt x i else bt x 15 := by
    unfold bt
    rw [Int16.toBitVec_toInt32, Int32.toBitVec_toInt16, BitVec.getLsbD_signExtend, BitVec.msb_eq_getLsbD_last]
    simp [hi]
    by_cases g : i < 16
    · simp [g, hi, BitVec.getElem_signExtend]
    · simp [g, BitVec.getElem_signExtend]
  rw [e]
  by_cases g : i < 16
  · rw [if_pos (by omega), if_pos g, b_shl 16 (by omega) _ (by omega)]
    simp
  · rw [if_neg (by omega), if_neg g, b_shl 16 (by omega) _ (by omega)]
    simp
theorem i2s_in (x : Int32) : -99999 ≤ x.toInt16.toInt32 ∧ x.toInt16.toInt32 ≤ 99999 := by
  have h1 := Int16.le_toInt x.toInt16
  have h2 := Int16.toInt_lt x.toInt16
  rw [Int32.le_iff_toInt_le, Int32.le_iff_toInt_le, Int16.toInt_toInt32]
  have e1 : (-99999 : Int32).toInt = -99999 := by decide
  have e2 : (99999 : Int32).toInt = 99999 := by decide
  rw [e1, e2]
  omega
def shEnc (f g : Int32) : Prop := (g = -1000000005 ∧ f = -2147483648) ∨ (¬ g = -1000000005 ∧ f = g ∧ -99999 ≤ f ∧ f ≤ 99999)
theorem shEnc_in (g : -99999 ≤ v ∧ v ≤ 99999) : shEnc v v := Or.inr ⟨by grind, rfl, g.1, g.2⟩
theorem shEnc_iff {f g : Int32} (e : shEnc f g) : f = -2147483648 ↔ g = -1000000005 := by
  rcases e with ⟨a, b⟩ | ⟨a, b, c, d⟩
  · exact ⟨fun _ => a, fun _ => b⟩
  · exact ⟨fun q => by grind, fun q => absurd q a⟩
theorem rSheets_put {fv gv : Int32} (hSh : ∀ k, k < 4 → rSheet (h (35 + 2 * k)) (h (36 + 2 * k)) (h 64) (h 65) (h 66) k) (hk : k < 4) (hi : i < 24) (he : shEnc fv gv) : rSheets (zhr (zhr h (36 + 2 * k) (upd (h (36 + 2 * k)) i fv)) 66 (upd (h 66) (24 * k + i) gv)) := by
  rw [rSheets_all]
  intro j hj
  have hSj := hSh j hj
  have o : ∀ c, c ≠ 36 + 2 * k → c ≠ 66 → zhr (zhr h (36 + 2 * k) (upd (h (36 + 2 * k)) i fv)) 66 (upd (h 66) (24 * k + i) gv) c = h c := fun c a b => by rw [zhr_ne _ _ b, zhr_ne _ _ a]
  by_cases gj : j = k
  · subst gj
    rw [o (35 + 2 * j) (by omega) (by omega), o 64 (by omega) (by omega), o 65 (by omega) (by omega), zhr_ne _ _ (by omega : 36 + 2 * j ≠ 66), zhr_same, zhr_same]
    obtain ⟨q1, q2, q3, q4⟩ := hSj
    refine ⟨q1, q2, q3, fun i' hi' => ?_⟩
    by_cases gi : i' = i
    · subst gi
      rw [pk_us, pk_us]
      exact he
    · rw [pk_un (by omega), pk_un gi]
      exact q4 i' hi'
  · refine rSheet_cong hSj (o _ (by omega) (by omega)) (o _ (by omega) (by omega)) (by rw [o _ (by omega) (by omega)]) (by rw [o _ (by omega) (by omega)]) (fun i' hi' => ?_)
    rw [zhr_same, pk_un (by omega)]
theorem p_mark : zPair (d + 20) (d + 20) 87 185 [.int x0, .int x1, .int x2] := by
  intro h Q2 hR hQ
  have hR0 := hR
  obtain ⟨n, m, N, hRN⟩ := hR
  obtain ⟨-, -, -, hSh, -⟩ := id hRN
  rw [rSheets_all] at hSh
  by_cases g0 : 0 ≤ x0 ∧ x0 ≤ 3
  · obtain ⟨k, hk, rfl⟩ := hasN (q := 3) (by decide) g0
    have hk4 : k < 4 := by omega
    have hc := zsh_k hk4
    obtain ⟨q1, q2, ⟨z, hz, q3, q3'⟩, q4⟩ := hSh k hk4
    rw [m87]
    simp (decide := true) only [↓r87_0, ↓r87_1, ↓r87_2, ↓r87_5, ↓r87_5n, ↓r87_7, ↓r87_7n, ↓r87_9, ↓r87_9n, ↓r87_12, ↓r87_14, ↓r87_15, ↓r87_15n, ↓r87_17, ↓r87_20, ↓r87_23, ↓r87_25, ↓r87_26, ↓r87_26n, ↓r87_28, ↓r87_29, ↓r87_32, ↓r87_35, ↓r87_38, ↓r87_39, ↓r87_39n, ↓r87_41, ↓r87_44, ↓r87_47, ↓r87_48, ↓r87_50, ↓r87_53, ↓r87_55, ↓r87_56, ↓r87_56n, ↓r87_58, ↓r87_61, ↓r87_62, ↓r87_63, ↓r87_64, ↓r87_65, ↓r87_66, ↓r87_67, ↓r87_68, ↓r87_70, ↓r87_73, ↓r87_73n, ↓r87_75, ↓r87_78, ↓r87_79, ↓r87_82, ↓r87_83, ↓r87_84, ↓r87_85, ↓r87_86, ↓r87_89, ↓r87_92, ↓r87_95, ↓r87_98, ↓r87_100, ↓r87_101, ↓r87_101n, ↓r87_103, ↓r87_106, ↓r87_107, ↓r87_108, ↓r87_109, ↓r87_110, c95k hk4, c32 hc, c33 hc, zc_h hc, Option.toList, List.cons_append, List.nil_append, true_and, q3', q1]
    by_cases g1 : h 64 k = -1
    · have g1' : h 64 k < 0 := by rw [g1]; decide
      simp (decide := true) only [if_pos g1, ↓reduceIte]
      refine zPo_in rfl rfl ?_
      rw [m185]
      simp (decide := true) only [↓r185_0, ↓r185_1, ↓r185_4, ↓r185_7, ↓r185_9, ↓r185_10, ↓r185_11, ↓r185_14, ↓r185_15, ↓r185_16, ↓r185_19, ↓r185_22, ↓r185_23, ↓r185_24, ↓r185_25, ↓r185_26, ↓r185_27, ↓r185_30, ↓r185_31, ↓r185_32, ↓r185_33, ↓r185_34, ↓r185_35, ↓r185_38, ↓r185_41, ↓r185_44, ↓r185_45, ↓r185_46, ↓r185_49, ↓r185_50, ↓r185_51, ↓r185_54, ↓r185_55, ↓r185_57, ↓r185_60, ↓r185_62, ↓r185_63, ↓r185_64, ↓r185_67, ↓r185_68, ↓r185_69, ↓r185_70, ↓r185_73, ↓r185_74, ↓r185_76, ↓r185_79, ↓r185_80, ↓r185_81, ↓r185_84, ↓r185_87, ↓r185_90, ↓r185_93, ↓r185_95, ↓r185_96, ↓r185_97, ↓r185_100, ↓r185_102, ↓r185_103, ↓r185_104, ↓r185_105, ↓r185_106, ↓r185_107, ↓r185_110, ↓r185_111, ↓r185_112, ↓r185_115, ↓r185_116, ↓r185_118, ↓r185_119, ↓r185_121, ↓r185_122, ↓r185_125, ↓r185_126, ↓r185_127, ↓r185_128, c183, if_pos g0, ↓reduceIte, Option.toList, List.cons_append, List.nil_append, zl_64, zok_nI hk4 (by omega), zix_nI (by omega : k < 2 ^ 31), if_pos g1', true_and]
      exact zPq_in rfl (hQ _ _ hR0 rfl rfl)
    · have g1' : ¬ h 64 k < 0 := by
        rcases q2 with e | e | e
        · exact absurd e g1
        · rw [e]; decide
        · rw [e]; decide
      simp (decide := true) only [if_neg g1, ↓reduceIte]
      by_cases g2 : 0 ≤ x1 ∧ x1 ≤ nI z - 1
      · simp (decide := true) only [if_pos g2, ↓reduceIte]
        obtain ⟨i, hi, rfl⟩ := hasT (by omega : z ≤ 24) g2
        have i24 : i < 24 := by omega
        have hend : ∀ fv gv : Int32, shEnc fv gv → zPq 1 Q2 (some (.int 1)) (zhr (zhr h (36 + 2 * k) (upd (h (36 + 2 * k)) i fv)) 66 (upd (h 66) (24 * k + i) gv)) := by
          intro fv gv he
          refine zPq_in rfl (hQ _ _ ⟨n, m, N, zRel_sh hRN (fun c a1 a2 a3 a4 _ => by rw [zhr_ne _ _ a4, zhr_ne _ _ (by omega)]) (rSheets_put hSh hk4 i24 he)⟩ (by rw [zhr_ne _ _ (by omega), zhr_ne _ _ (by omega)]) (by rw [zhr_ne _ _ (by omega), zhr_ne _ _ (by omega)]))
        have e36 : 35 + 2 * k + 1 = 36 + 2 * k := by omega
        have o64 : ∀ r, zhr h (36 + 2 * k) r 64 = h 64 := fun r => zhr_ne _ _ (by omega)
        have o65 : ∀ r, zhr h (36 + 2 * k) r 65 = h 65 := fun r => zhr_ne _ _ (by omega)
        have o66 : ∀ r, zhr h (36 + 2 * k) r 66 = h 66 := fun r => zhr_ne _ _ (by omega)
        by_cases g3 : h 64 k = 0
        · simp only [if_pos g3]
          by_cases g4 : x2 = -1000000005
          · simp only [if_pos g4]
            refine zPo_in rfl rfl ?_
            rw [m185]
            simp (decide := true) only [↓r185_0, ↓r185_1, ↓r185_4, ↓r185_7, ↓r185_9, ↓r185_10, ↓r185_11, ↓r185_14, ↓r185_15, ↓r185_16, ↓r185_19, ↓r185_22, ↓r185_23, ↓r185_24, ↓r185_25, ↓r185_26, ↓r185_27, ↓r185_30, ↓r185_31, ↓r185_32, ↓r185_33, ↓r185_34, ↓r185_35, ↓r185_38, ↓r185_41, ↓r185_44, ↓r185_45, ↓r185_46, ↓r185_49, ↓r185_50, ↓r185_51, ↓r185_54, ↓r185_55, ↓r185_57, ↓r185_60, ↓r185_62, ↓r185_63, ↓r185_64, ↓r185_67, ↓r185_68, ↓r185_69, ↓r185_70, ↓r185_73, ↓r185_74, ↓r185_76, ↓r185_79, ↓r185_80, ↓r185_81, ↓r185_84, ↓r185_87, ↓r185_90, ↓r185_93, ↓r185_95, ↓r185_96, ↓r185_97, ↓r185_100, ↓r185_102, ↓r185_103, ↓r185_104, ↓r185_105, ↓r185_106, ↓r185_107, ↓r185_110, ↓r185_111, ↓r185_112, ↓r185_115, ↓r185_116, ↓r185_118, ↓r185_119, ↓r185_121, ↓r185_122, ↓r185_125, ↓r185_126, ↓r185_127, ↓r185_128, c183, c106, if_pos g0, if_pos g2, if_pos g3, if_pos g4, ↓reduceIte, Option.toList, List.cons_append, List.nil_append, zl_64, zl_65, q3, zok_nI hk4 (by omega), zix_nI (by omega : k < 2 ^ 31), if_neg g1', true_and]
            exact zPq_in rfl (hQ _ _ hR0 rfl rfl)
          · simp only [if_neg g4, zs_36k hk4, zok_nI i24 (by omega), zix_nI (by omega : i < 2 ^ 31), true_and, e36]
            refine zPo_in (by rw [zhr_ne _ _ (by omega)]) (by rw [zhr_ne _ _ (by omega)]) ?_
            have g5 : ¬ h 64 k = 1 := by rw [g3]; decide
            rw [m185]
            simp (decide := true) only [↓r185_0, ↓r185_1, ↓r185_4, ↓r185_7, ↓r185_9, ↓r185_10, ↓r185_11, ↓r185_14, ↓r185_15, ↓r185_16, ↓r185_19, ↓r185_22, ↓r185_23, ↓r185_24, ↓r185_25, ↓r185_26, ↓r185_27, ↓r185_30, ↓r185_31, ↓r185_32, ↓r185_33, ↓r185_34, ↓r185_35, ↓r185_38, ↓r185_41, ↓r185_44, ↓r185_45, ↓r185_46, ↓r185_49, ↓r185_50, ↓r185_51, ↓r185_54, ↓r185_55, ↓r185_57, ↓r185_60, ↓r185_62, ↓r185_63, ↓r185_64, ↓r185_67, ↓r185_68, ↓r185_69, ↓r185_70, ↓r185_73, ↓r185_74, ↓r185_76, ↓r185_79, ↓r185_80, ↓r185_81, ↓r185_84, ↓r185_87, ↓r185_90, ↓r185_93, ↓r185_95, ↓r185_96, ↓r185_97, ↓r185_100, ↓r185_102, ↓r185_103, ↓r185_104, ↓r185_105, ↓r185_106, ↓r185_107, ↓r185_110, ↓r185_111, ↓r185_112, ↓r185_115, ↓r185_116, ↓r185_118, ↓r185_119, ↓r185_121, ↓r185_122, ↓r185_125, ↓r185_126, ↓r185_127, ↓r185_128, c183, c106, if_pos g0, if_pos g2, if_pos g3, if_neg g4, if_neg g5, ↓reduceIte, Option.toList, List.cons_append, List.nil_append, zl_64, zl_65, zs_66, q3, zok_nI hk4 (by omega), zix_nI (by omega : k < 2 ^ 31), if_neg g1', true_and, o64, o65, o66, x24, zok_nI (by omega : 24 * k + i < 96) (by omega), zix_nI (by omega : 24 * k + i < 2 ^ 31), i2s_eq]
            exact hend _ _ (shEnc_in (i2s_in x2))
        · have g5 : h 64 k = 1 := by
            rcases q2 with e | e | e
            · exact absurd e g1
            · exact absurd e g3
            · exact e
          simp only [if_neg g3]
          by_cases g4 : x2 = -1000000005
          · simp only [if_pos g4, zs_36k hk4, zok_nI i24 (by omega), zix_nI (by omega : i < 2 ^ 31), true_and, e36]
            refine zPo_in (by rw [zhr_ne _ _ (by omega)]) (by rw [zhr_ne _ _ (by omega)]) ?_
            rw [m185]
            simp (decide := true) only [↓r185_0, ↓r185_1, ↓r185_4, ↓r185_7, ↓r185_9, ↓r185_10, ↓r185_11, ↓r185_14, ↓r185_15, ↓r185_16, ↓r185_19, ↓r185_22, ↓r185_23, ↓r185_24, ↓r185_25, ↓r185_26, ↓r185_27, ↓r185_30, ↓r185_31, ↓r185_32, ↓r185_33, ↓r185_34, ↓r185_35, ↓r185_38, ↓r185_41, ↓r185_44, ↓r185_45, ↓r185_46, ↓r185_49, ↓r185_50, ↓r185_51, ↓r185_54, ↓r185_55, ↓r185_57, ↓r185_60, ↓r185_62, ↓r185_63, ↓r185_64, ↓r185_67, ↓r185_68, ↓r185_69, ↓r185_70, ↓r185_73, ↓r185_74, ↓r185_76, ↓r185_79, ↓r185_80, ↓r185_81, ↓r185_84, ↓r185_87, ↓r185_90, ↓r185_93, ↓r185_95, ↓r185_96, ↓r185_97, ↓r185_100, ↓r185_102, ↓r185_103, ↓r185_104, ↓r185_105, ↓r185_106, ↓r185_107, ↓r185_110, ↓r185_111, ↓r185_112, ↓r185_115, ↓r185_116, ↓r185_118, ↓r185_119, ↓r185_121, ↓r185_122, ↓r185_125, ↓r185_126, ↓r185_127, ↓r185_128, c183, c106, if_pos g0, if_pos g2, if_neg g3, if_pos g4, if_pos g5, ↓reduceIte, Option.toList, List.cons_append, List.nil_append, zl_64, zl_65, zs_66, q3, zok_nI hk4 (by omega), zix_nI (by omega : k < 2 ^ 31), if_neg g1', true_and, o64, o65, o66, x24, zok_nI (by omega : 24 * k + i < 96) (by omega), zix_nI (by omega : 24 * k + i < 2 ^ 31)]
            exact hend _ _ (Or.inl ⟨g4, rfl⟩)
          · simp only [if_neg g4, c103, ↓r87_0, ↓r87_1, ↓r87_2, ↓r87_5, ↓r87_5n, ↓r87_7, ↓r87_7n, ↓r87_9, ↓r87_9n, ↓r87_12, ↓r87_14, ↓r87_15, ↓r87_15n, ↓r87_17, ↓r87_20, ↓r87_23, ↓r87_25, ↓r87_26, ↓r87_26n, ↓r87_28, ↓r87_29, ↓r87_32, ↓r87_35, ↓r87_38, ↓r87_39, ↓r87_39n, ↓r87_41, ↓r87_44, ↓r87_47, ↓r87_48, ↓r87_50, ↓r87_53, ↓r87_55, ↓r87_56, ↓r87_56n, ↓r87_58, ↓r87_61, ↓r87_62, ↓r87_63, ↓r87_64, ↓r87_65, ↓r87_66, ↓r87_67, ↓r87_68, ↓r87_70, ↓r87_73, ↓r87_73n, ↓r87_75, ↓r87_78, ↓r87_79, ↓r87_82, ↓r87_83, ↓r87_84, ↓r87_85, ↓r87_86, ↓r87_89, ↓r87_92, ↓r87_95, ↓r87_98, ↓r87_100, ↓r87_101, ↓r87_101n, ↓r87_103, ↓r87_106, ↓r87_107, ↓r87_108, ↓r87_109, ↓r87_110, Option.toList, List.cons_append, List.nil_append, zc_h hc, true_and]
            by_cases g6 : -99999 ≤ x2 ∧ x2 ≤ 99999
            · simp (decide := true) only [if_pos g6, ↓reduceIte, zs_36k hk4, zok_nI i24 (by omega), zix_nI (by omega : i < 2 ^ 31), true_and, e36]
              refine zPo_in (by rw [zhr_ne _ _ (by omega)]) (by rw [zhr_ne _ _ (by omega)]) ?_
              rw [m185]
              simp (decide := true) only [↓r185_0, ↓r185_1, ↓r185_4, ↓r185_7, ↓r185_9, ↓r185_10, ↓r185_11, ↓r185_14, ↓r185_15, ↓r185_16, ↓r185_19, ↓r185_22, ↓r185_23, ↓r185_24, ↓r185_25, ↓r185_26, ↓r185_27, ↓r185_30, ↓r185_31, ↓r185_32, ↓r185_33, ↓r185_34, ↓r185_35, ↓r185_38, ↓r185_41, ↓r185_44, ↓r185_45, ↓r185_46, ↓r185_49, ↓r185_50, ↓r185_51, ↓r185_54, ↓r185_55, ↓r185_57, ↓r185_60, ↓r185_62, ↓r185_63, ↓r185_64, ↓r185_67, ↓r185_68, ↓r185_69, ↓r185_70, ↓r185_73, ↓r185_74, ↓r185_76, ↓r185_79, ↓r185_80, ↓r185_81, ↓r185_84, ↓r185_87, ↓r185_90, ↓r185_93, ↓r185_95, ↓r185_96, ↓r185_97, ↓r185_100, ↓r185_102, ↓r185_103, ↓r185_104, ↓r185_105, ↓r185_106, ↓r185_107, ↓r185_110, ↓r185_111, ↓r185_112, ↓r185_115, ↓r185_116, ↓r185_118, ↓r185_119, ↓r185_121, ↓r185_122, ↓r185_125, ↓r185_126, ↓r185_127, ↓r185_128, c183, c106, if_pos g0, if_pos g2, if_neg g3, if_neg g4, if_pos g5, if_pos g6, ↓reduceIte, Option.toList, List.cons_append, List.nil_append, zl_64, zl_65, zs_66, q3, zok_nI hk4 (by omega), zix_nI (by omega : k < 2 ^ 31), if_neg g1', true_and, o64, o65, o66, x24, zok_nI (by omega : 24 * k + i < 96) (by omega), zix_nI (by omega : 24 * k + i < 2 ^ 31)]
              exact hend _ _ (shEnc_in g6)
            · simp (decide := true) only [if_neg g6, ↓reduceIte]
              refine zPo_in rfl rfl ?_
              rw [m185]
              simp (decide := true) only [↓r185_0, ↓r185_1, ↓r185_4, ↓r185_7, ↓r185_9, ↓r185_10, ↓r185_11, ↓r185_14, ↓r185_15, ↓r185_16, ↓r185_19, ↓r185_22, ↓r185_23, ↓r185_24, ↓r185_25, ↓r185_26, ↓r185_27, ↓r185_30, ↓r185_31, ↓r185_32, ↓r185_33, ↓r185_34, ↓r185_35, ↓r185_38, ↓r185_41, ↓r185_44, ↓r185_45, ↓r185_46, ↓r185_49, ↓r185_50, ↓r185_51, ↓r185_54, ↓r185_55, ↓r185_57, ↓r185_60, ↓r185_62, ↓r185_63, ↓r185_64, ↓r185_67, ↓r185_68, ↓r185_69, ↓r185_70, ↓r185_73, ↓r185_74, ↓r185_76, ↓r185_79, ↓r185_80, ↓r185_81, ↓r185_84, ↓r185_87, ↓r185_90, ↓r185_93, ↓r185_95, ↓r185_96, ↓r185_97, ↓r185_100, ↓r185_102, ↓r185_103, ↓r185_104, ↓r185_105, ↓r185_106, ↓r185_107, ↓r185_110, ↓r185_111, ↓r185_112, ↓r185_115, ↓r185_116, ↓r185_118, ↓r185_119, ↓r185_121, ↓r185_122, ↓r185_125, ↓r185_126, ↓r185_127, ↓r185_128, c183, c106, if_pos g0, if_pos g2, if_neg g3, if_neg g4, if_pos g5, if_neg g6, ↓reduceIte, Option.toList, List.cons_append, List.nil_append, zl_64, zl_65, q3, zok_nI hk4 (by omega), zix_nI (by omega : k < 2 ^ 31), if_neg g1', true_and]
              exact zPq_in rfl (hQ _ _ hR0 rfl rfl)
      · simp (decide := true) only [if_neg g2, ↓reduceIte]
        refine zPo_in rfl rfl ?_
        rw [m185]
        simp (decide := true) only [↓r185_0, ↓r185_1, ↓r185_4, ↓r185_7, ↓r185_9, ↓r185_10, ↓r185_11, ↓r185_14, ↓r185_15, ↓r185_16, ↓r185_19, ↓r185_22, ↓r185_23, ↓r185_24, ↓r185_25, ↓r185_26, ↓r185_27, ↓r185_30, ↓r185_31, ↓r185_32, ↓r185_33, ↓r185_34, ↓r185_35, ↓r185_38, ↓r185_41, ↓r185_44, ↓r185_45, ↓r185_46, ↓r185_49, ↓r185_50, ↓r185_51, ↓r185_54, ↓r185_55, ↓r185_57, ↓r185_60, ↓r185_62, ↓r185_63, ↓r185_64, ↓r185_67, ↓r185_68, ↓r185_69, ↓r185_70, ↓r185_73, ↓r185_74, ↓r185_76, ↓r185_79, ↓r185_80, ↓r185_81, ↓r185_84, ↓r185_87, ↓r185_90, ↓r185_93, ↓r185_95, ↓r185_96, ↓r185_97, ↓r185_100, ↓r185_102, ↓r185_103, ↓r185_104, ↓r185_105, ↓r185_106, ↓r185_107, ↓r185_110, ↓r185_111, ↓r185_112, ↓r185_115, ↓r185_116, ↓r185_118, ↓r185_119, ↓r185_121, ↓r185_122, ↓r185_125, ↓r185_126, ↓r185_127, ↓r185_128, c183, c106, if_pos g0, if_neg g2, ↓reduceIte, Option.toList, List.cons_append, List.nil_append, zl_64, zl_65, q3, zok_nI hk4 (by omega), zix_nI (by omega : k < 2 ^ 31), if_neg g1', true_and]
        exact zPq_in rfl (hQ _ _ hR0 rfl rfl)
  · rw [m87]
    simp (decide := true) only [↓r87_0, ↓r87_1, ↓r87_2, ↓r87_5, ↓r87_5n, ↓r87_7, ↓r87_7n, ↓r87_9, ↓r87_9n, ↓r87_12, ↓r87_14, ↓r87_15, ↓r87_15n, ↓r87_17, ↓r87_20, ↓r87_23, ↓r87_25, ↓r87_26, ↓r87_26n, ↓r87_28, ↓r87_29, ↓r87_32, ↓r87_35, ↓r87_38, ↓r87_39, ↓r87_39n, ↓r87_41, ↓r87_44, ↓r87_47, ↓r87_48, ↓r87_50, ↓r87_53, ↓r87_55, ↓r87_56, ↓r87_56n, ↓r87_58, ↓r87_61, ↓r87_62, ↓r87_63, ↓r87_64, ↓r87_65, ↓r87_66, ↓r87_67, ↓r87_68, ↓r87_70, ↓r87_73, ↓r87_73n, ↓r87_75, ↓r87_78, ↓r87_79, ↓r87_82, ↓r87_83, ↓r87_84, ↓r87_85, ↓r87_86, ↓r87_89, ↓r87_92, ↓r87_95, ↓r87_98, ↓r87_100, ↓r87_101, ↓r87_101n, ↓r87_103, ↓r87_106, ↓r87_107, ↓r87_108, ↓r87_109, ↓r87_110, c95n g0, Option.toList, List.cons_append, List.nil_append]
    refine zPo_in rfl rfl ?_
    rw [m185]
    simp (decide := true) only [↓r185_0, ↓r185_1, ↓r185_4, ↓r185_7, ↓r185_9, ↓r185_10, ↓r185_11, ↓r185_14, ↓r185_15, ↓r185_16, ↓r185_19, ↓r185_22, ↓r185_23, ↓r185_24, ↓r185_25, ↓r185_26, ↓r185_27, ↓r185_30, ↓r185_31, ↓r185_32, ↓r185_33, ↓r185_34, ↓r185_35, ↓r185_38, ↓r185_41, ↓r185_44, ↓r185_45, ↓r185_46, ↓r185_49, ↓r185_50, ↓r185_51, ↓r185_54, ↓r185_55, ↓r185_57, ↓r185_60, ↓r185_62, ↓r185_63, ↓r185_64, ↓r185_67, ↓r185_68, ↓r185_69, ↓r185_70, ↓r185_73, ↓r185_74, ↓r185_76, ↓r185_79, ↓r185_80, ↓r185_81, ↓r185_84, ↓r185_87, ↓r185_90, ↓r185_93, ↓r185_95, ↓r185_96, ↓r185_97, ↓r185_100, ↓r185_102, ↓r185_103, ↓r185_104, ↓r185_105, ↓r185_106, ↓r185_107, ↓r185_110, ↓r185_111, ↓r185_112, ↓r185_115, ↓r185_116, ↓r185_118, ↓r185_119, ↓r185_121, ↓r185_122, ↓r185_125, ↓r185_126, ↓r185_127, ↓r185_128, c183, if_neg g0, ↓reduceIte, Option.toList, List.cons_append, List.nil_append, true_and]
    exact zPq_in rfl (hQ _ _ hR0 rfl rfl)
theorem pour_min (x : Int32) : clI 1 99 x = (if x < 1 then 1 else if x ≤ 99 then x else 99) := rfl
theorem pourF_keep {F : Nat → Int32} (r : Nat → Int32) (hj : j < 12 ∨ 62 ≤ j) : ∀ i, i ≤ 10 → (zfo (pourF F) i (r, (0 : Int32))).1 j = r j
  | 0, _ => rfl
  | i + 1, hi => by
    have ih := pourF_keep (F := F) r hj i (by omega)
    show (pourF F i (zfo (pourF F) i (r, 0))).1 j = r j
    unfold pourF
    by_cases g : F i = -2147483648
    · rw [if_pos g]; exact ih
    · rw [if_neg g]
      show upd _ _ _ j = _
      rw [pk_un (by omega)]
      exact ih
theorem zB_pour {F : Nat → Int32} (hB : zB s n m) : ∀ i, i ≤ n → zB (zfo (pourF F) i (s, (0 : Int32))).1 n m
  | 0, _ => hB
  | i + 1, hi => by
    have ih := zB_pour (F := F) hB i (by omega)
    show zB (pourF F i (zfo (pourF F) i (s, 0))).1 n m
    unfold pourF
    by_cases g : F i = -2147483648
    · rw [if_pos g]; exact ih
    · rw [if_neg g]
      exact zB_ld (w := 1) ih (by omega) (Or.inr (Or.inl ⟨rfl, clI_in (by decide)⟩))
theorem c88_loop {o1 : Int32} (hc : zsh c) (hc12 : c ≠ 12 ∧ c + 1 ≠ 12) {Z M : Nat} (hZ : Z ≤ 24) (hn10 : n ≤ 10) (hM : M = if n < Z then n else Z) (F : Nat → Int32) (s : Nat → Int32) (h : zH) (hF : h (c + 1) = F) (hz : h c 1 = nI Z) (hs : s 0 = nI n) (hQ : ∀ h', (∀ c', c' ≠ 12 → h' c' = h c') → zV h' 10 (zfo (pourF F) M (s, (0 : Int32))).1 → Q (some (.int (zfo (pourF F) M (s, (0 : Int32))).2)) h') : ∀ (f i : Nat) (h' : zH) (o5 : Option Value), i + f = M → (∀ c', c' ≠ 12 → h' c' = h c') → zV h' 10 (zfo (pourF F) i (s, (0 : Int32))).1 → zR (d + 5) 88 Q 28 [some (.ref 0), some (.int o1), some (.ref c), some (.int (zfo (pourF F) i (s, (0 : Int32))).2), some (.int (nI i)), o5] [] h' := by
  have hM1 : M ≤ n ∧ M ≤ Z ∧ (M = n ∨ M = Z) := by
    by_cases g : n < Z
    · rw [if_pos g] at hM; omega
    · rw [if_neg g] at hM; omega
  intro f
  induction f with
  | zero =>
    intro i h' o5 hi e hV
    have hi' : i = M := by omega
    subst hi'
    have hn' : h' 10 1 = nI n := hV.1.1.trans ((pourF_keep s (Or.inl (by omega)) i (by omega)).trans hs)
    have hz' : h' c 1 = nI Z := by rw [e c hc12.1]; exact hz
    rw [r88_28]
    simp only [↓r88_0, ↓r88_1, ↓r88_2, ↓r88_5, ↓r88_5n, ↓r88_6, ↓r88_6n, ↓r88_7, ↓r88_7n, ↓r88_10, ↓r88_12, ↓r88_13, ↓r88_13n, ↓r88_14, ↓r88_17, ↓r88_20, ↓r88_22, ↓r88_23, ↓r88_24, ↓r88_25, ↓r88_26, ↓r88_30, ↓r88_31, ↓r88_34, ↓r88_37, ↓r88_40, ↓r88_42, ↓r88_42n, ↓r88_43, ↓r88_46, ↓r88_49, ↓r88_49n, ↓r88_50, ↓r88_52, ↓r88_55, ↓r88_58, ↓r88_58n, ↓r88_59, ↓r88_62, ↓r88_64, ↓r88_65, ↓r88_66, ↓r88_68, ↓r88_71, ↓r88_73, ↓r88_75, ↓r88_76, ↓r88_79, ↓r88_82, ↓r88_84, ↓r88_85, ↓r88_88, ↓r88_91, ↓r88_92, ↓r88_95, ↓r88_98, ↓r88_100, ↓r88_102, ↓r88_103, ↓r88_106, ↓r88_109, ↓r88_110, zc_10, zc_18, zc_26, zc_0, zc_1, zc_7, zc_60, Nat.reduceAdd, true_and, hn', hz', nI_ltk (by omega : i < 2 ^ 31) (by omega : n < 2 ^ 31), nI_ltk (by omega : i < 2 ^ 31) (by omega : Z < 2 ^ 31), zc_h hc]
    have hQ' := hQ h' e hV
    by_cases g1 : i < n
    · have g2 : ¬ i < Z := by omega
      simp only [if_pos g1, if_neg g2]
      exact hQ'
    · simp only [if_neg g1]
      exact hQ'
  | succ f ih =>
    intro i h' o5 hi e hV
    have hn' : h' 10 1 = nI n := hV.1.1.trans ((pourF_keep s (Or.inl (by omega)) i (by omega)).trans hs)
    have hz' : h' c 1 = nI Z := by rw [e c hc12.1]; exact hz
    have hf' : h' (c + 1) i = F i := by rw [e _ hc12.2, hF]
    have hw : h' 12 i = (zfo (pourF F) i (s, (0 : Int32))).1 (12 + 5 * i + 1) := (zV10 hV (by omega : i < 10)).2.1
    have g1 : i < n := by omega
    have g2 : i < Z := by omega
    rw [r88_28]
    simp only [↓r88_0, ↓r88_1, ↓r88_2, ↓r88_5, ↓r88_5n, ↓r88_6, ↓r88_6n, ↓r88_7, ↓r88_7n, ↓r88_10, ↓r88_12, ↓r88_13, ↓r88_13n, ↓r88_14, ↓r88_17, ↓r88_20, ↓r88_22, ↓r88_23, ↓r88_24, ↓r88_25, ↓r88_26, ↓r88_30, ↓r88_31, ↓r88_34, ↓r88_37, ↓r88_40, ↓r88_42, ↓r88_42n, ↓r88_43, ↓r88_46, ↓r88_49, ↓r88_49n, ↓r88_50, ↓r88_52, ↓r88_55, ↓r88_58, ↓r88_58n, ↓r88_59, ↓r88_62, ↓r88_64, ↓r88_65, ↓r88_66, ↓r88_68, ↓r88_71, ↓r88_73, ↓r88_75, ↓r88_76, ↓r88_79, ↓r88_82, ↓r88_84, ↓r88_85, ↓r88_88, ↓r88_91, ↓r88_92, ↓r88_95, ↓r88_98, ↓r88_100, ↓r88_102, ↓r88_103, ↓r88_106, ↓r88_109, ↓r88_110, zc_10, zc_18, zc_26, zc_0, zc_1, zc_7, zc_60, Nat.reduceAdd, true_and, hn', hz', nI_ltk (by omega : i < 2 ^ 31) (by omega : n < 2 ^ 31), nI_ltk (by omega : i < 2 ^ 31) (by omega : Z < 2 ^ 31), zc_h hc, if_pos g1, if_pos g2, c35k hc hz' hZ g2, Option.toList, List.cons_append, List.nil_append, zl_h hc, zok_nI (by omega : i < 24) (by omega), zix_nI (by omega : i < 2 ^ 31), hf', c104, clI_eq (show (1 : Int32) ≤ 99 by decide), zl_12, zs_12, zok_nI (by omega : i < 10) (by omega), hw, nI_1]
    by_cases g3 : F i = -2147483648
    · have e1 : zfo (pourF F) (i + 1) (s, (0 : Int32)) = zfo (pourF F) i (s, (0 : Int32)) := by
        show pourF F i (zfo (pourF F) i (s, 0)) = _
        unfold pourF
        rw [if_pos g3]
      have := ih (i + 1) h' o5 (by omega) e (by rw [e1]; exact hV)
      rw [e1] at this
      simp (decide := true) only [if_pos g3, ↓reduceIte]
      exact this
    · have e1 : zfo (pourF F) (i + 1) (s, (0 : Int32)) = (upd (zfo (pourF F) i (s, (0 : Int32))).1 (12 + 5 * i + 1) (clI 1 99 (F i)), if clI 1 99 (F i) = (zfo (pourF F) i (s, (0 : Int32))).1 (12 + 5 * i + 1) then (zfo (pourF F) i (s, (0 : Int32))).2 else (zfo (pourF F) i (s, (0 : Int32))).2 + 1) := by
        show pourF F i (zfo (pourF F) i (s, 0)) = _
        unfold pourF
        rw [if_neg g3]
      have := ih (i + 1) (zhr h' 12 (upd (h' 12) i (clI 1 99 (F i)))) (some (.int (clI 1 99 (F i)))) (by omega) (fun c' a => by rw [zhr_ne _ _ a]; exact e c' a) (by rw [e1]; exact zV_load (w := 1) (by omega) (by omega) hV)
      rw [e1] at this
      simp (decide := true) only [if_neg g3, ↓reduceIte]
      by_cases g4 : clI 1 99 (F i) = (zfo (pourF F) i (s, (0 : Int32))).1 (12 + 5 * i + 1)
      · simp only [if_pos g4] at this ⊢
        exact this
      · simp only [if_neg g4] at this ⊢
        exact this
theorem c186_loop (hk : k < 4) {Z M : Nat} (hZ : Z ≤ 24) (hn10 : n ≤ 10) (hM : M = if n < Z then n else Z) (F : Nat → Int32) (h : zH) (hF : ∀ i, i < 24 → shEnc (F i) (h 66 (24 * k + i))) (hz : h 65 k = nI Z) (hs : h 61 0 = nI n) (hQ : ∀ h', (∀ c', c' ≠ 61 → h' c' = h c') → h' 61 = (zfo (pourF F) M (h 61, (0 : Int32))).1 → Q (some (.int (zfo (pourF F) M (h 61, (0 : Int32))).2)) h') : ∀ (f i : Nat) (h' : zH) (o4 o5 : Option Value), i + f = M → (∀ c', c' ≠ 61 → h' c' = h c') → h' 61 = (zfo (pourF F) i (h 61, (0 : Int32))).1 → zR (d + 5) 186 Q 27 [some (.ref 60), some (.int (nI k)), some (.int (zfo (pourF F) i (h 61, (0 : Int32))).2), some (.int (nI i)), o4, o5] [] h' := by
  have hM1 : M ≤ n ∧ M ≤ Z ∧ (M = n ∨ M = Z) := by
    by_cases g : n < Z
    · rw [if_pos g] at hM; omega
    · rw [if_neg g] at hM; omega
  intro f
  induction f with
  | zero =>
    intro i h' o4 o5 hi e hV
    have hi' : i = M := by omega
    subst hi'
    have hn' : h' 61 0 = nI n := by rw [hV]; exact (pourF_keep _ (Or.inl (by omega)) i (by omega)).trans hs
    have hz' : h' 65 k = nI Z := by rw [e 65 (by omega)]; exact hz
    rw [r186_27]
    simp only [↓r186_0, ↓r186_1, ↓r186_4, ↓r186_7, ↓r186_9, ↓r186_10, ↓r186_11, ↓r186_14, ↓r186_15, ↓r186_16, ↓r186_19, ↓r186_22, ↓r186_23, ↓r186_24, ↓r186_25, ↓r186_26, ↓r186_28, ↓r186_29, ↓r186_32, ↓r186_33, ↓r186_34, ↓r186_37, ↓r186_38, ↓r186_39, ↓r186_42, ↓r186_43, ↓r186_44, ↓r186_47, ↓r186_48, ↓r186_51, ↓r186_53, ↓r186_54, ↓r186_55, ↓r186_56, ↓r186_57, ↓r186_58, ↓r186_60, ↓r186_62, ↓r186_64, ↓r186_67, ↓r186_68, ↓r186_69, ↓r186_70, ↓r186_73, ↓r186_76, ↓r186_78, ↓r186_79, ↓r186_81, ↓r186_84, ↓r186_86, ↓r186_87, ↓r186_89, ↓r186_90, ↓r186_92, ↓r186_93, ↓r186_94, ↓r186_95, ↓r186_96, ↓r186_97, ↓r186_98, ↓r186_100, ↓r186_103, ↓r186_106, ↓r186_107, ↓r186_110, ↓r186_111, ↓r186_112, ↓r186_113, ↓r186_116, ↓r186_119, ↓r186_120, zc_10, zc_18, zc_26, zc_0, zc_1, zc_7, zc_60, Nat.reduceAdd, true_and, hn', hz', zl_65, zl_61, zok_nI hk (by omega), zix_nI (by omega : k < 2 ^ 31), zok0, zix0, nI_ltk (by omega : i < 2 ^ 31) (by omega : n < 2 ^ 31), nI_ltk (by omega : i < 2 ^ 31) (by omega : Z < 2 ^ 31)]
    have hQ' := hQ h' e hV
    by_cases g1 : i < Z
    · have g2 : ¬ i < n := by omega
      simp only [if_pos g1, if_neg g2]
      exact hQ'
    · simp only [if_neg g1]
      exact hQ'
  | succ f ih =>
    intro i h' o4 o5 hi e hV
    have hn' : h' 61 0 = nI n := by rw [hV]; exact (pourF_keep _ (Or.inl (by omega)) i (by omega)).trans hs
    have hz' : h' 65 k = nI Z := by rw [e 65 (by omega)]; exact hz
    have h66 : h' 66 (24 * k + i) = h 66 (24 * k + i) := by rw [e 66 (by omega)]
    have hen := hF i (by omega)
    have g1 : i < n := by omega
    have g2 : i < Z := by omega
    have c113' := fun (Q' : Option Value → zH → Prop) => c113_1 (d := d + 4) (h := h') (Q := Q') (by omega : i < 10)
    have c111' := fun (x : Int32) (Q' : Option Value → zH → Prop) => c111k (d := d + 4) (h := h') (Q := Q') (x1 := x) (by omega : 12 + 5 * i + 1 < 3062)
    rw [r186_27]
    simp only [↓r186_0, ↓r186_1, ↓r186_4, ↓r186_7, ↓r186_9, ↓r186_10, ↓r186_11, ↓r186_14, ↓r186_15, ↓r186_16, ↓r186_19, ↓r186_22, ↓r186_23, ↓r186_24, ↓r186_25, ↓r186_26, ↓r186_28, ↓r186_29, ↓r186_32, ↓r186_33, ↓r186_34, ↓r186_37, ↓r186_38, ↓r186_39, ↓r186_42, ↓r186_43, ↓r186_44, ↓r186_47, ↓r186_48, ↓r186_51, ↓r186_53, ↓r186_54, ↓r186_55, ↓r186_56, ↓r186_57, ↓r186_58, ↓r186_60, ↓r186_62, ↓r186_64, ↓r186_67, ↓r186_68, ↓r186_69, ↓r186_70, ↓r186_73, ↓r186_76, ↓r186_78, ↓r186_79, ↓r186_81, ↓r186_84, ↓r186_86, ↓r186_87, ↓r186_89, ↓r186_90, ↓r186_92, ↓r186_93, ↓r186_94, ↓r186_95, ↓r186_96, ↓r186_97, ↓r186_98, ↓r186_100, ↓r186_103, ↓r186_106, ↓r186_107, ↓r186_110, ↓r186_111, ↓r186_112, ↓r186_113, ↓r186_116, ↓r186_119, ↓r186_120, zc_10, zc_18, zc_26, zc_0, zc_1, zc_7, zc_60, Nat.reduceAdd, true_and, hn', hz', zl_65, zl_61, zok_nI hk (by omega), zix_nI (by omega : k < 2 ^ 31), zok0, zix0, nI_ltk (by omega : i < 2 ^ 31) (by omega : n < 2 ^ 31), nI_ltk (by omega : i < 2 ^ 31) (by omega : Z < 2 ^ 31), if_pos g1, if_pos g2, zl_66, x24, zok_nI (by omega : 24 * k + i < 96) (by omega), zix_nI (by omega : 24 * k + i < 2 ^ 31), h66, c113', c108c, kix1, c111', nI_1, Option.toList, List.cons_append, List.nil_append]
    by_cases g3 : F i = -2147483648
    · have g3' : h 66 (24 * k + i) = -1000000005 := (shEnc_iff hen).mp g3
      have e1 : zfo (pourF F) (i + 1) (h 61, (0 : Int32)) = zfo (pourF F) i (h 61, (0 : Int32)) := by
        show pourF F i (zfo (pourF F) i (h 61, 0)) = _
        unfold pourF
        rw [if_pos g3]
      have := ih (i + 1) h' (some (.int (h 66 (24 * k + i)))) (some (.int (h' 61 (12 + 5 * i + 1)))) (by omega) e (by rw [e1]; exact hV)
      rw [e1] at this
      simp only [if_pos g3', ↓reduceIte, upd_self, zhr_self, Int32.add_zero]
      exact this
    · have g3' : ¬ h 66 (24 * k + i) = -1000000005 := fun z => g3 ((shEnc_iff hen).mpr z)
      have e2 : h 66 (24 * k + i) = F i := by
        rcases hen with ⟨a, _⟩ | ⟨_, b, _⟩
        · exact absurd a g3'
        · exact b.symm
      have e1 : zfo (pourF F) (i + 1) (h 61, (0 : Int32)) = (upd (zfo (pourF F) i (h 61, (0 : Int32))).1 (12 + 5 * i + 1) (clI 1 99 (F i)), if clI 1 99 (F i) = (zfo (pourF F) i (h 61, (0 : Int32))).1 (12 + 5 * i + 1) then (zfo (pourF F) i (h 61, (0 : Int32))).2 else (zfo (pourF F) i (h 61, (0 : Int32))).2 + 1) := by
        show pourF F i (zfo (pourF F) i (h 61, 0)) = _
        unfold pourF
        rw [if_neg g3]
      have := ih (i + 1) (zhr h' 61 (upd (h' 61) (12 + 5 * i + 1) (clI 1 99 (F i)))) (some (.int (h 66 (24 * k + i)))) (some (.int (clI 1 99 (F i)))) (by omega) (fun c' a => by rw [zhr_ne _ _ a]; exact e c' a) (by rw [e1, zhr_same, hV])
      rw [e1] at this
      rw [e2] at g3' this ⊢
      simp only [if_neg g3']
      rw [hV] at this ⊢
      by_cases g4 : clI 1 99 (F i) = (zfo (pourF F) i (h 61, (0 : Int32))).1 (12 + 5 * i + 1)
      · simp only [if_pos g4, Int32.add_zero] at this ⊢
        exact this
      · simp only [if_neg g4] at this ⊢
        exact this
end
