/-! slots: lay -/
section
variable {d : Nat} {x0 x1 x2 x3 x4 v x z a : Int32} {h h' : zH} {n m N n' m' k w j f b c t i : Nat} {s row row' : Nat → Int32} {Q : Option Value → zH → Prop}
theorem zRel_sl (hR : zRelN h n m N) (e : ∀ c, ¬ (44 ≤ c ∧ c ≤ 58) → ¬ (67 ≤ c ∧ c ≤ 71) → h' c = h c) (hS' : rSlots h') : zRelN h' n m N := by
  obtain ⟨⟨hSt, hm⟩, hu, hI, hSh, hSl, hNu, hTa⟩ := hR
  have e0 : h' 0 = h 0 := e _ (by omega) (by omega)
  have e60 : h' 60 = h 60 := e _ (by omega) (by omega)
  refine ⟨⟨?_, hm⟩, by rw [e60]; exact hu, rImg_keep hI (fun c' hc' => e _ (by omega) (by omega)) (by rw [e0]) (by rw [e60]), rSheets_keep hSh (fun c' hc' => e _ (by omega) (by omega)), hS', ?_, ?_⟩
  · rw [e 61 (by omega) (by omega)]
    exact zSt_keep hSt (fun j hj => e _ (by omega) (by omega)) (fun c' a b => e _ (by omega) (by omega))
  · rw [e0, e60, e 59 (by omega) (by omega), e 78 (by omega) (by omega)]; exact hNu
  · rw [e60, e 7 (by omega) (by omega), e 8 (by omega) (by omega), e 74 (by omega) (by omega)]; exact hTa
theorem rSlots_put {vt vn vw : Int32} (hSl : ∀ k, k < 5 → rSlot (h (44 + 3 * k)) (h (45 + 3 * k)) (h (46 + 3 * k)) (h 67) (h 68) (h 69) (h 70) (h 71) k) (hk : k < 5) (e : ∀ c, 44 ≤ c ∧ c ≤ 58 → c ≠ 44 + 3 * k → c ≠ 45 + 3 * k → c ≠ 46 + 3 * k → h' c = h c) (e67 : h' 67 = upd (h 67) k vt) (e68 : h' 68 = upd (h 68) k vn) (e69 : h' 69 = upd (h 69) k vw) (e70 : ∀ j, j ≠ k → h' 70 j = h 70 j) (e71 : ∀ j, ¬ (24 * k ≤ j ∧ j < 24 * k + 24) → h' 71 j = h 71 j) (hk' : rSlot (h' (44 + 3 * k)) (h' (45 + 3 * k)) (h' (46 + 3 * k)) (h' 67) (h' 68) (h' 69) (h' 70) (h' 71) k) : rSlots h' := by
  rw [rSlots_all]
  intro j hj
  by_cases gj : j = k
  · subst gj; exact hk'
  · obtain ⟨a, b⟩ := hSl j hj
    have w67 : h' 67 j = h 67 j := by rw [e67, pk_un gj]
    have w68 : h' 68 j = h 68 j := by rw [e68, pk_un gj]
    have w69 : h' 69 j = h 69 j := by rw [e69, pk_un gj]
    rw [e (44 + 3 * j) (by omega) (by omega) (by omega) (by omega), e (45 + 3 * j) (by omega) (by omega) (by omega) (by omega), e (46 + 3 * j) (by omega) (by omega) (by omega) (by omega)]
    refine ⟨by rw [w67]; exact a, ?_⟩
    rw [w67, w68, w69, e70 j gj]
    rcases b with b | b | ⟨b1, b2, b3⟩ | b
    · exact Or.inl b
    · exact Or.inr (Or.inl b)
    · refine Or.inr (Or.inr (Or.inl ⟨b1, b2, fun i hi => ?_⟩))
      rw [e71 _ (by omega)]
      exact b3 i hi
    · exact Or.inr (Or.inr (Or.inr b))
theorem c191_loop {o2 o4 o5 : Option Value} (hj : j < 5) (hk : k < 4) : ∀ (f i : Nat) (g : Nat → Int32), i + f = 24 → (∀ g', (∀ l, (24 * j + i ≤ l ∧ l < 24 * j + 24 → g' l = h 66 (24 * k + (l - 24 * j))) ∧ (¬ (24 * j + i ≤ l ∧ l < 24 * j + 24) → g' l = g l)) → zR (d + 5) 191 Q 187 [some (.ref 60), some (.int (nI j)), o2, some (.int (nI k)), o4, o5, some (.int 24)] [] (zhr h 71 g')) → zR (d + 5) 191 Q 150 [some (.ref 60), some (.int (nI j)), o2, some (.int (nI k)), o4, o5, some (.int (nI i))] [] (zhr h 71 g) := by
  intro f
  induction f with
  | zero =>
    intro i g hi hQ
    have hi' : i = 24 := by omega
    subst hi'
    rw [r191_150]
    simp (decide := true) only [↓r191_0, ↓r191_1, ↓r191_4, ↓r191_5, ↓r191_6, ↓r191_9, ↓r191_10, ↓r191_11, ↓r191_14, ↓r191_15, ↓r191_16, ↓r191_19, ↓r191_22, ↓r191_23, ↓r191_24, ↓r191_27, ↓r191_28, ↓r191_31, ↓r191_34, ↓r191_35, ↓r191_38, ↓r191_39, ↓r191_41, ↓r191_42, ↓r191_45, ↓r191_48, ↓r191_50, ↓r191_53, ↓r191_55, ↓r191_56, ↓r191_57, ↓r191_58, ↓r191_61, ↓r191_62, ↓r191_65, ↓r191_66, ↓r191_67, ↓r191_70, ↓r191_73, ↓r191_74, ↓r191_75, ↓r191_78, ↓r191_79, ↓r191_80, ↓r191_82, ↓r191_83, ↓r191_86, ↓r191_87, ↓r191_88, ↓r191_89, ↓r191_90, ↓r191_93, ↓r191_94, ↓r191_95, ↓r191_96, ↓r191_99, ↓r191_100, ↓r191_101, ↓r191_102, ↓r191_105, ↓r191_108, ↓r191_109, ↓r191_110, ↓r191_111, ↓r191_114, ↓r191_115, ↓r191_116, ↓r191_117, ↓r191_120, ↓r191_121, ↓r191_122, ↓r191_125, ↓r191_128, ↓r191_129, ↓r191_130, ↓r191_131, ↓r191_132, ↓r191_135, ↓r191_136, ↓r191_139, ↓r191_140, ↓r191_141, ↓r191_144, ↓r191_145, ↓r191_146, ↓r191_147, ↓r191_148, ↓r191_152, ↓r191_154, ↓r191_157, ↓r191_158, ↓r191_161, ↓r191_163, ↓r191_164, ↓r191_165, ↓r191_167, ↓r191_168, ↓r191_169, ↓r191_172, ↓r191_174, ↓r191_175, ↓r191_176, ↓r191_178, ↓r191_179, ↓r191_180, ↓r191_181, ↓r191_184, ↓r191_189, ↓reduceIte]
    exact hQ g (fun l => ⟨fun z => absurd z (by omega), fun _ => rfl⟩)
  | succ f ih =>
    intro i g hi hQ
    have q : nI i < 24 := nI_lt (b := 24) (by omega) (by omega)
    rw [r191_150]
    simp only [↓r191_0, ↓r191_1, ↓r191_4, ↓r191_5, ↓r191_6, ↓r191_9, ↓r191_10, ↓r191_11, ↓r191_14, ↓r191_15, ↓r191_16, ↓r191_19, ↓r191_22, ↓r191_23, ↓r191_24, ↓r191_27, ↓r191_28, ↓r191_31, ↓r191_34, ↓r191_35, ↓r191_38, ↓r191_39, ↓r191_41, ↓r191_42, ↓r191_45, ↓r191_48, ↓r191_50, ↓r191_53, ↓r191_55, ↓r191_56, ↓r191_57, ↓r191_58, ↓r191_61, ↓r191_62, ↓r191_65, ↓r191_66, ↓r191_67, ↓r191_70, ↓r191_73, ↓r191_74, ↓r191_75, ↓r191_78, ↓r191_79, ↓r191_80, ↓r191_82, ↓r191_83, ↓r191_86, ↓r191_87, ↓r191_88, ↓r191_89, ↓r191_90, ↓r191_93, ↓r191_94, ↓r191_95, ↓r191_96, ↓r191_99, ↓r191_100, ↓r191_101, ↓r191_102, ↓r191_105, ↓r191_108, ↓r191_109, ↓r191_110, ↓r191_111, ↓r191_114, ↓r191_115, ↓r191_116, ↓r191_117, ↓r191_120, ↓r191_121, ↓r191_122, ↓r191_125, ↓r191_128, ↓r191_129, ↓r191_130, ↓r191_131, ↓r191_132, ↓r191_135, ↓r191_136, ↓r191_139, ↓r191_140, ↓r191_141, ↓r191_144, ↓r191_145, ↓r191_146, ↓r191_147, ↓r191_148, ↓r191_152, ↓r191_154, ↓r191_157, ↓r191_158, ↓r191_161, ↓r191_163, ↓r191_164, ↓r191_165, ↓r191_167, ↓r191_168, ↓r191_169, ↓r191_172, ↓r191_174, ↓r191_175, ↓r191_176, ↓r191_178, ↓r191_179, ↓r191_180, ↓r191_181, ↓r191_184, ↓r191_189, if_pos q, zl_66, zs_71, x24, zok_nI (by omega : 24 * j + i < 120) (by omega), zix_nI (by omega : 24 * j + i < 2 ^ 31), zok_nI (by omega : 24 * k + i < 96) (by omega), zix_nI (by omega : 24 * k + i < 2 ^ 31), nI_1, true_and, zhr_ne _ _ (by omega : 66 ≠ 71), zhr_same, zhr_zhr]
    refine ih (i + 1) _ (by omega) (fun g' hg' => ?_)
    refine hQ g' (fun l => ⟨fun z => ?_, fun z => ?_⟩)
    · by_cases q2 : l = 24 * j + i
      · rw [(hg' l).2 (by omega), q2, pk_us, show 24 * j + i - 24 * j = i by omega]
      · exact (hg' l).1 (by omega)
    · rw [(hg' l).2 (by omega), pk_un (by omega)]
theorem p_lay : zPair (d + 20) (d + 20) 91 191 [.int x0, .int x1, .int x2] := by
  intro h Q2 hR hQ
  have hR0 := hR
  obtain ⟨n, m, N, hRN⟩ := hR
  obtain ⟨⟨hSt, hm⟩, -, -, hSh, hSl, -⟩ := id hRN
  obtain ⟨⟨hn, h10⟩, hld, -⟩ := hSt.2.1
  have hn' : h 10 1 = nI n := hSt.1.1.1.trans hn
  rw [rSlots_all] at hSl
  rw [rSheets_all] at hSh
  by_cases g0 : 0 ≤ x0 ∧ x0 ≤ 4
  · obtain ⟨j, hj, rfl⟩ := hasN (q := 4) (by decide) g0
    have hj5 : j < 5 := by omega
    have hc := zc_so hj5
    have hs := zsh_s hj5
    obtain ⟨q1, q2⟩ := hSl j hj5
    have hx : ∀ v, (∀ h1 Q, h1 = h → zM (d + 20) 191 [.ref 60, .int (nI j), .int x1, .int x2] h1 Q = Q (some (.int v)) h) → zPo h (d + 20) 191 [.int (nI j), .int x1, .int x2] Q2 (some (.int v)) h := by
      intro v e
      refine zPo_in rfl rfl ?_
      rw [e _ _ rfl]
      exact zPq_in rfl (hQ _ _ hR0 rfl rfl)
    have zz := zok_nI hj5 (by omega : 5 < 2 ^ 31)
    have zy : zix (nI j) = j := zix_nI (by omega)
    have e45 : 44 + 3 * j + 1 = 45 + 3 * j := by omega
    have hend : ∀ (vt vn vw : Int32) (h1 : zH) (g70 g71 : Nat → Int32), (∀ c, c ≠ 44 + 3 * j → c ≠ 45 + 3 * j → c ≠ 46 + 3 * j → h1 c = h c) → (∀ l, l ≠ j → g70 l = h 70 l) → (∀ l, ¬ (24 * j ≤ l ∧ l < 24 * j + 24) → g71 l = h 71 l) → rSlot (h1 (44 + 3 * j)) (h1 (45 + 3 * j)) (h1 (46 + 3 * j)) (upd (h 67) j vt) (upd (h 68) j vn) (upd (h 69) j vw) g70 g71 j → zPq (h 67 j) Q2 (some (.int (h 67 j))) (zhr (zhr (zhr (zhr (zhr h1 67 (upd (h 67) j vt)) 68 (upd (h 68) j vn)) 69 (upd (h 69) j vw)) 70 g70) 71 g71) := by
      intro vt vn vw h1 g70 g71 e e70 e71 hk'
      have o : ∀ c, c ≠ 44 + 3 * j → c ≠ 45 + 3 * j → c ≠ 46 + 3 * j → ¬ (67 ≤ c ∧ c ≤ 71) → (zhr (zhr (zhr (zhr (zhr h1 67 (upd (h 67) j vt)) 68 (upd (h 68) j vn)) 69 (upd (h 69) j vw)) 70 g70) 71 g71) c = h c := by
        intro c a1 a2 a3 a4
        rw [zhr_ne _ _ (by omega), zhr_ne _ _ (by omega), zhr_ne _ _ (by omega), zhr_ne _ _ (by omega), zhr_ne _ _ (by omega)]
        exact e c a1 a2 a3
      have o1 : ∀ c, 44 ≤ c ∧ c ≤ 58 → (zhr (zhr (zhr (zhr (zhr h1 67 (upd (h 67) j vt)) 68 (upd (h 68) j vn)) 69 (upd (h 69) j vw)) 70 g70) 71 g71) c = h1 c := by
        intro c a
        rw [zhr_ne _ _ (by omega), zhr_ne _ _ (by omega), zhr_ne _ _ (by omega), zhr_ne _ _ (by omega), zhr_ne _ _ (by omega)]
      refine zPq_in rfl (hQ _ _ ⟨n, m, N, zRel_sl hRN (fun c a1 a2 => o c (by omega) (by omega) (by omega) a2) ?_⟩ (o _ (by omega) (by omega) (by omega) (by omega)) (o _ (by omega) (by omega) (by omega) (by omega)))
      refine rSlots_put (vt := vt) (vn := vn) (vw := vw) hSl hj5 (fun c a a1 a2 a3 => o c a1 a2 a3 (by omega)) ?_ ?_ ?_ ?_ ?_ ?_
      · (repeat rw [zhr_ne _ _ (by omega)]); rw [zhr_same]
      · (repeat rw [zhr_ne _ _ (by omega)]); rw [zhr_same]
      · (repeat rw [zhr_ne _ _ (by omega)]); rw [zhr_same]
      · rw [zhr_ne _ _ (by omega), zhr_same]; exact e70
      · rw [zhr_same]; exact e71
      · rw [o1 (44 + 3 * j) (by omega), o1 (45 + 3 * j) (by omega), o1 (46 + 3 * j) (by omega)]
        rw [zhr_ne _ _ (by omega : 67 ≠ 71), zhr_ne _ _ (by omega : 67 ≠ 70), zhr_ne _ _ (by omega : 67 ≠ 69), zhr_ne _ _ (by omega : 67 ≠ 68), zhr_same, zhr_ne _ _ (by omega : 68 ≠ 71), zhr_ne _ _ (by omega : 68 ≠ 70), zhr_ne _ _ (by omega : 68 ≠ 69), zhr_same, zhr_ne _ _ (by omega : 69 ≠ 71), zhr_ne _ _ (by omega : 69 ≠ 70), zhr_same, zhr_ne _ _ (by omega : 70 ≠ 71), zhr_same, zhr_same]
        exact hk'
    have hend2 : ∀ (vt vn vw : Int32) (h1 : zH), (∀ c, c ≠ 44 + 3 * j → c ≠ 45 + 3 * j → c ≠ 46 + 3 * j → h1 c = h c) → rSlot (h1 (44 + 3 * j)) (h1 (45 + 3 * j)) (h1 (46 + 3 * j)) (upd (h 67) j vt) (upd (h 68) j vn) (upd (h 69) j vw) (h 70) (h 71) j → zPq (h 67 j) Q2 (some (.int (h 67 j))) (zhr (zhr (zhr h1 67 (upd (h 67) j vt)) 68 (upd (h 68) j vn)) 69 (upd (h 69) j vw)) := by
      intro vt vn vw h1 e hk'
      have := hend vt vn vw h1 (h 70) (h 71) e (fun _ _ => rfl) (fun _ _ => rfl) hk'
      have e1 : (zhr (zhr (zhr (zhr (zhr h1 67 (upd (h 67) j vt)) 68 (upd (h 68) j vn)) 69 (upd (h 69) j vw)) 70 (h 70)) 71 (h 71)) = (zhr (zhr (zhr h1 67 (upd (h 67) j vt)) 68 (upd (h 68) j vn)) 69 (upd (h 69) j vw)) := by
        funext c
        rw [zhr_ap]
        by_cases g : c = 71
        · subst g; rw [if_pos rfl, zhr_ne _ _ (by omega), zhr_ne _ _ (by omega), zhr_ne _ _ (by omega), e _ (by omega) (by omega) (by omega)]
        · rw [if_neg g, zhr_ap]
          by_cases g : c = 70
          · subst g; rw [if_pos rfl, zhr_ne _ _ (by omega), zhr_ne _ _ (by omega), zhr_ne _ _ (by omega), e _ (by omega) (by omega) (by omega)]
          · rw [if_neg g]
      rw [e1] at this
      exact this
    have on : ∀ r (c : Nat), c ≠ 44 + 3 * j → zhr h (44 + 3 * j) r c = h c := fun r c a => zhr_ne _ _ a
    have rn : ∀ (h1 : zH) r (c : Nat), c ≠ 67 → zhr h1 67 r c = h1 c := fun h1 r c a => zhr_ne _ _ a
    have rn8 : ∀ (h1 : zH) r (c : Nat), c ≠ 68 → zhr h1 68 r c = h1 c := fun h1 r c a => zhr_ne _ _ a
    have rn9 : ∀ (h1 : zH) r (c : Nat), c ≠ 69 → zhr h1 69 r c = h1 c := fun h1 r c a => zhr_ne _ _ a
    rw [m91]
    simp (decide := true) only [↓r91_0, ↓r91_1, ↓r91_2, ↓r91_5, ↓r91_5n, ↓r91_7, ↓r91_7n, ↓r91_9, ↓r91_9n, ↓r91_12, ↓r91_13, ↓r91_14, ↓r91_15, ↓r91_18, ↓r91_21, ↓r91_23, ↓r91_25, ↓r91_26, ↓r91_29, ↓r91_30, ↓r91_33, ↓r91_34, ↓r91_37, ↓r91_40, ↓r91_42, ↓r91_43, ↓r91_43n, ↓r91_45, ↓r91_46, ↓r91_49, ↓r91_52, ↓r91_53, ↓r91_54, ↓r91_57, ↓r91_57n, ↓r91_59, ↓r91_60, ↓r91_63, ↓r91_66, ↓r91_67, ↓r91_68, ↓r91_71, ↓r91_72, ↓r91_73, ↓r91_76, ↓r91_77, ↓r91_78, ↓r91_81, ↓r91_81n, ↓r91_83, ↓r91_83n, ↓r91_85, ↓r91_85n, ↓r91_88, ↓r91_90, ↓r91_91, ↓r91_91n, ↓r91_93, ↓r91_96, ↓r91_99, ↓r91_101, ↓r91_102, ↓r91_102n, ↓r91_104, ↓r91_107, ↓r91_107n, ↓r91_109, ↓r91_112, ↓r91_113, ↓r91_114, ↓r91_117, ↓r91_117n, ↓r91_119, ↓r91_120, ↓r91_123, ↓r91_123n, ↓r91_125, ↓r91_128, ↓r91_130, ↓r91_130n, ↓r91_132, ↓r91_133, ↓r91_136, ↓r91_138, c96k hj5, c103, Option.toList, List.cons_append, List.nil_append, true_and]
    by_cases g1 : x1 = 0
    · subst g1
      simp (decide := true) only [↓r91_0, ↓r91_1, ↓r91_2, ↓r91_5, ↓r91_5n, ↓r91_7, ↓r91_7n, ↓r91_9, ↓r91_9n, ↓r91_12, ↓r91_13, ↓r91_14, ↓r91_15, ↓r91_18, ↓r91_21, ↓r91_23, ↓r91_24, ↓r91_25, ↓r91_26, ↓r91_29, ↓r91_30, ↓r91_33, ↓r91_34, ↓r91_37, ↓r91_40, ↓r91_42, ↓r91_43, ↓r91_43n, ↓r91_45, ↓r91_46, ↓r91_49, ↓r91_52, ↓r91_53, ↓r91_54, ↓r91_57, ↓r91_57n, ↓r91_59, ↓r91_60, ↓r91_63, ↓r91_66, ↓r91_67, ↓r91_68, ↓r91_71, ↓r91_72, ↓r91_73, ↓r91_76, ↓r91_77, ↓r91_78, ↓r91_81, ↓r91_81n, ↓r91_83, ↓r91_83n, ↓r91_85, ↓r91_85n, ↓r91_88, ↓r91_90, ↓r91_91, ↓r91_91n, ↓r91_93, ↓r91_96, ↓r91_99, ↓r91_101, ↓r91_102, ↓r91_102n, ↓r91_104, ↓r91_107, ↓r91_107n, ↓r91_109, ↓r91_112, ↓r91_113, ↓r91_114, ↓r91_117, ↓r91_117n, ↓r91_119, ↓r91_120, ↓r91_123, ↓r91_123n, ↓r91_125, ↓r91_128, ↓r91_130, ↓r91_130n, ↓r91_132, ↓r91_133, ↓r91_136, ↓r91_138, ↓reduceIte, hc, true_and, q1]
      refine zPo_in (on _ _ (by omega)) (on _ _ (by omega)) ?_
      rw [m191]
      simp (decide := true) only [↓r191_0, ↓r191_1, ↓r191_4, ↓r191_5, ↓r191_6, ↓r191_9, ↓r191_10, ↓r191_11, ↓r191_14, ↓r191_15, ↓r191_16, ↓r191_19, ↓r191_22, ↓r191_23, ↓r191_24, ↓r191_27, ↓r191_28, ↓r191_31, ↓r191_34, ↓r191_35, ↓r191_38, ↓r191_39, ↓r191_41, ↓r191_42, ↓r191_45, ↓r191_48, ↓r191_50, ↓r191_53, ↓r191_55, ↓r191_56, ↓r191_57, ↓r191_58, ↓r191_61, ↓r191_62, ↓r191_65, ↓r191_66, ↓r191_67, ↓r191_70, ↓r191_73, ↓r191_74, ↓r191_75, ↓r191_78, ↓r191_79, ↓r191_80, ↓r191_82, ↓r191_83, ↓r191_86, ↓r191_87, ↓r191_88, ↓r191_89, ↓r191_90, ↓r191_93, ↓r191_94, ↓r191_95, ↓r191_96, ↓r191_99, ↓r191_100, ↓r191_101, ↓r191_102, ↓r191_105, ↓r191_108, ↓r191_109, ↓r191_110, ↓r191_111, ↓r191_114, ↓r191_115, ↓r191_116, ↓r191_117, ↓r191_120, ↓r191_121, ↓r191_122, ↓r191_125, ↓r191_128, ↓r191_129, ↓r191_130, ↓r191_131, ↓r191_132, ↓r191_135, ↓r191_136, ↓r191_139, ↓r191_140, ↓r191_141, ↓r191_144, ↓r191_145, ↓r191_146, ↓r191_147, ↓r191_148, ↓r191_152, ↓r191_154, ↓r191_157, ↓r191_158, ↓r191_161, ↓r191_163, ↓r191_164, ↓r191_165, ↓r191_167, ↓r191_168, ↓r191_169, ↓r191_172, ↓r191_174, ↓r191_175, ↓r191_176, ↓r191_178, ↓r191_179, ↓r191_180, ↓r191_181, ↓r191_184, ↓r191_187, ↓r191_189, c190, if_pos g0, ↓reduceIte, Option.toList, List.cons_append, List.nil_append, zl_67, zs_67, zs_68, zs_69, zz, zy, true_and, on _ 67 (by omega), on _ 68 (by omega), on _ 69 (by omega), rn _ _ 68 (by omega), rn _ _ 69 (by omega), rn8 _ _ 69 (by omega)]
      refine hend2 _ _ _ _ (fun c a _ _ => on _ _ a) ⟨?_, Or.inl ?_⟩
      · rw [zhr_same, pk_us, pk_us]
      · rw [pk_us]
    by_cases g3 : x1 = 3
    · subst g3
      simp (decide := true) only [↓r91_0, ↓r91_1, ↓r91_2, ↓r91_5, ↓r91_5n, ↓r91_7, ↓r91_7n, ↓r91_9, ↓r91_9n, ↓r91_12, ↓r91_13, ↓r91_14, ↓r91_15, ↓r91_18, ↓r91_21, ↓r91_23, ↓r91_24, ↓r91_25, ↓r91_26, ↓r91_29, ↓r91_30, ↓r91_33, ↓r91_34, ↓r91_37, ↓r91_40, ↓r91_42, ↓r91_43, ↓r91_43n, ↓r91_45, ↓r91_46, ↓r91_49, ↓r91_52, ↓r91_53, ↓r91_54, ↓r91_57, ↓r91_57n, ↓r91_59, ↓r91_60, ↓r91_63, ↓r91_66, ↓r91_67, ↓r91_68, ↓r91_71, ↓r91_72, ↓r91_73, ↓r91_76, ↓r91_77, ↓r91_78, ↓r91_81, ↓r91_81n, ↓r91_83, ↓r91_83n, ↓r91_85, ↓r91_85n, ↓r91_88, ↓r91_90, ↓r91_91, ↓r91_91n, ↓r91_93, ↓r91_96, ↓r91_99, ↓r91_101, ↓r91_102, ↓r91_102n, ↓r91_104, ↓r91_107, ↓r91_107n, ↓r91_109, ↓r91_112, ↓r91_113, ↓r91_114, ↓r91_117, ↓r91_117n, ↓r91_119, ↓r91_120, ↓r91_123, ↓r91_123n, ↓r91_125, ↓r91_128, ↓r91_130, ↓r91_130n, ↓r91_132, ↓r91_133, ↓r91_136, ↓r91_138, ↓reduceIte, hc, true_and, zhr_same, zhr_zhr, pk_un (by omega : 0 ≠ 3), q1]
      refine zPo_in (on _ _ (by omega)) (on _ _ (by omega)) ?_
      rw [m191]
      simp (decide := true) only [↓r191_0, ↓r191_1, ↓r191_4, ↓r191_5, ↓r191_6, ↓r191_9, ↓r191_10, ↓r191_11, ↓r191_14, ↓r191_15, ↓r191_16, ↓r191_19, ↓r191_22, ↓r191_23, ↓r191_24, ↓r191_27, ↓r191_28, ↓r191_31, ↓r191_34, ↓r191_35, ↓r191_38, ↓r191_39, ↓r191_41, ↓r191_42, ↓r191_45, ↓r191_48, ↓r191_50, ↓r191_53, ↓r191_55, ↓r191_56, ↓r191_57, ↓r191_58, ↓r191_61, ↓r191_62, ↓r191_65, ↓r191_66, ↓r191_67, ↓r191_70, ↓r191_73, ↓r191_74, ↓r191_75, ↓r191_78, ↓r191_79, ↓r191_80, ↓r191_82, ↓r191_83, ↓r191_86, ↓r191_87, ↓r191_88, ↓r191_89, ↓r191_90, ↓r191_93, ↓r191_94, ↓r191_95, ↓r191_96, ↓r191_99, ↓r191_100, ↓r191_101, ↓r191_102, ↓r191_105, ↓r191_108, ↓r191_109, ↓r191_110, ↓r191_111, ↓r191_114, ↓r191_115, ↓r191_116, ↓r191_117, ↓r191_120, ↓r191_121, ↓r191_122, ↓r191_125, ↓r191_128, ↓r191_129, ↓r191_130, ↓r191_131, ↓r191_132, ↓r191_135, ↓r191_136, ↓r191_139, ↓r191_140, ↓r191_141, ↓r191_144, ↓r191_145, ↓r191_146, ↓r191_147, ↓r191_148, ↓r191_152, ↓r191_154, ↓r191_157, ↓r191_158, ↓r191_161, ↓r191_163, ↓r191_164, ↓r191_165, ↓r191_167, ↓r191_168, ↓r191_169, ↓r191_172, ↓r191_174, ↓r191_175, ↓r191_176, ↓r191_178, ↓r191_179, ↓r191_180, ↓r191_181, ↓r191_184, ↓r191_187, ↓r191_189, c190, if_pos g0, ↓reduceIte, Option.toList, List.cons_append, List.nil_append, zl_67, zs_67, zs_68, zs_69, zz, zy, true_and, on _ 67 (by omega), on _ 68 (by omega), on _ 69 (by omega), rn _ _ 68 (by omega), rn _ _ 69 (by omega), rn8 _ _ 69 (by omega)]
      refine hend2 _ _ _ _ (fun c a _ _ => on _ _ a) ⟨?_, Or.inr (Or.inr (Or.inr ⟨?_, ?_⟩))⟩
      · rw [zhr_same, pk_us, pk_us]
      · rw [pk_us]
      · rw [zhr_same, pk_un (by omega), pk_us, pk_us]
    by_cases g2 : x1 = 1
    · subst g2
      simp (decide := true) only [↓r91_0, ↓r91_1, ↓r91_2, ↓r91_5, ↓r91_5n, ↓r91_7, ↓r91_7n, ↓r91_9, ↓r91_9n, ↓r91_12, ↓r91_13, ↓r91_14, ↓r91_15, ↓r91_18, ↓r91_21, ↓r91_23, ↓r91_24, ↓r91_25, ↓r91_26, ↓r91_29, ↓r91_30, ↓r91_33, ↓r91_34, ↓r91_37, ↓r91_40, ↓r91_42, ↓r91_43, ↓r91_43n, ↓r91_45, ↓r91_46, ↓r91_49, ↓r91_52, ↓r91_53, ↓r91_54, ↓r91_57, ↓r91_57n, ↓r91_59, ↓r91_60, ↓r91_63, ↓r91_66, ↓r91_67, ↓r91_68, ↓r91_71, ↓r91_72, ↓r91_73, ↓r91_76, ↓r91_77, ↓r91_78, ↓r91_81, ↓r91_81n, ↓r91_83, ↓r91_83n, ↓r91_85, ↓r91_85n, ↓r91_88, ↓r91_90, ↓r91_91, ↓r91_91n, ↓r91_93, ↓r91_96, ↓r91_99, ↓r91_101, ↓r91_102, ↓r91_102n, ↓r91_104, ↓r91_107, ↓r91_107n, ↓r91_109, ↓r91_112, ↓r91_113, ↓r91_114, ↓r91_117, ↓r91_117n, ↓r91_119, ↓r91_120, ↓r91_123, ↓r91_123n, ↓r91_125, ↓r91_128, ↓r91_130, ↓r91_130n, ↓r91_132, ↓r91_133, ↓r91_136, ↓r91_138, ↓reduceIte, hc, true_and, c37 zst10, hn', Option.toList, List.cons_append, List.nil_append, zc_10, zc_18, zc_26, zc_0, zc_1, zc_7, zc_60, Nat.reduceAdd, true_and]
      by_cases g : 0 ≤ x2 ∧ x2 ≤ nI n - 1
      · obtain ⟨k, hk, rfl⟩ := hasK h10 g
        obtain ⟨l0, l1, l2, l3, l4⟩ := zV10 hSt.1 (by omega : k < 10)
        have o12 : ∀ r, zhr h (44 + 3 * j) r 12 = h 12 := fun r => on r 12 (by omega)
        have o61 : ∀ r, zhr h (44 + 3 * j) r 61 = h 61 := fun r => on r 61 (by omega)
        simp (decide := true) only [if_pos g, ↓reduceIte, hc, true_and, zl_11, zl_12, zok_nI (by omega : k < 10) (by omega), zix_nI (by omega : k < 2 ^ 31), l0, l1, o12, zhr_same, zhr_zhr, pk_un (by omega : 0 ≠ 2), pk_un (by omega : 0 ≠ 1), q1]
        refine zPo_in (on _ _ (by omega)) (on _ _ (by omega)) ?_
        rw [m191]
        have c113' := fun (r67 r : Nat → Int32) (Q' : Option Value → zH → Prop) => c113_0 (d := d + 18) (h := zhr (zhr h (44 + 3 * j) r) 67 r67) (Q := Q') (by omega : k < 10)
        have c123' := fun (r67 r68 r : Nat → Int32) (Q' : Option Value → zH → Prop) => c123k (d := d + 17) (h := zhr (zhr (zhr h (44 + 3 * j) r) 67 r67) 68 r68) (Q := Q') (by omega : k < 10)
        simp only [rn _ _ 61 (by omega), rn8 _ _ 61 (by omega), on _ 61 (by omega)] at c113' c123'
        simp (decide := true) only [↓r191_0, ↓r191_1, ↓r191_4, ↓r191_5, ↓r191_6, ↓r191_9, ↓r191_10, ↓r191_11, ↓r191_14, ↓r191_15, ↓r191_16, ↓r191_19, ↓r191_22, ↓r191_23, ↓r191_24, ↓r191_27, ↓r191_28, ↓r191_31, ↓r191_34, ↓r191_35, ↓r191_38, ↓r191_39, ↓r191_41, ↓r191_42, ↓r191_45, ↓r191_48, ↓r191_50, ↓r191_53, ↓r191_55, ↓r191_56, ↓r191_57, ↓r191_58, ↓r191_61, ↓r191_62, ↓r191_65, ↓r191_66, ↓r191_67, ↓r191_70, ↓r191_73, ↓r191_74, ↓r191_75, ↓r191_78, ↓r191_79, ↓r191_80, ↓r191_82, ↓r191_83, ↓r191_86, ↓r191_87, ↓r191_88, ↓r191_89, ↓r191_90, ↓r191_93, ↓r191_94, ↓r191_95, ↓r191_96, ↓r191_99, ↓r191_100, ↓r191_101, ↓r191_102, ↓r191_105, ↓r191_108, ↓r191_109, ↓r191_110, ↓r191_111, ↓r191_114, ↓r191_115, ↓r191_116, ↓r191_117, ↓r191_120, ↓r191_121, ↓r191_122, ↓r191_125, ↓r191_128, ↓r191_129, ↓r191_130, ↓r191_131, ↓r191_132, ↓r191_135, ↓r191_136, ↓r191_139, ↓r191_140, ↓r191_141, ↓r191_144, ↓r191_145, ↓r191_146, ↓r191_147, ↓r191_148, ↓r191_152, ↓r191_154, ↓r191_157, ↓r191_158, ↓r191_161, ↓r191_163, ↓r191_164, ↓r191_165, ↓r191_167, ↓r191_168, ↓r191_169, ↓r191_172, ↓r191_174, ↓r191_175, ↓r191_176, ↓r191_178, ↓r191_179, ↓r191_180, ↓r191_181, ↓r191_184, ↓r191_187, ↓r191_189, c190, c115, o61, hn, if_pos g, if_pos g0, ↓reduceIte, Option.toList, List.cons_append, List.nil_append, zl_67, zs_67, zs_68, zs_69, zz, zy, true_and, on _ 67 (by omega), on _ 68 (by omega), on _ 69 (by omega), rn _ _ 68 (by omega), rn _ _ 69 (by omega), rn8 _ _ 69 (by omega), c113', c123']
        refine hend2 _ _ _ _ (fun c a _ _ => on _ _ a) ⟨?_, Or.inr (Or.inl ⟨?_, ?_, ?_, ?_⟩)⟩
        · rw [zhr_same, pk_us, pk_us]
        · rw [pk_us]
        · rw [zhr_same, pk_un (by omega), pk_un (by omega), pk_us]
          exact (hld k hk).1
        · rw [zhr_same, pk_un (by omega), pk_un (by omega), pk_us, pk_us]
        · simp (decide := true) only [zhr_same, zup_ap, ↓reduceIte]
      · simp (decide := true) only [if_neg g, ↓reduceIte]
        refine hx _ fun h1 Q e => ?_
        subst e
        rw [m191]
        simp (decide := true) only [↓r191_0, ↓r191_1, ↓r191_4, ↓r191_5, ↓r191_6, ↓r191_9, ↓r191_10, ↓r191_11, ↓r191_14, ↓r191_15, ↓r191_16, ↓r191_19, ↓r191_22, ↓r191_23, ↓r191_24, ↓r191_27, ↓r191_28, ↓r191_31, ↓r191_34, ↓r191_35, ↓r191_38, ↓r191_39, ↓r191_41, ↓r191_42, ↓r191_45, ↓r191_48, ↓r191_50, ↓r191_53, ↓r191_55, ↓r191_56, ↓r191_57, ↓r191_58, ↓r191_61, ↓r191_62, ↓r191_65, ↓r191_66, ↓r191_67, ↓r191_70, ↓r191_73, ↓r191_74, ↓r191_75, ↓r191_78, ↓r191_79, ↓r191_80, ↓r191_82, ↓r191_83, ↓r191_86, ↓r191_87, ↓r191_88, ↓r191_89, ↓r191_90, ↓r191_93, ↓r191_94, ↓r191_95, ↓r191_96, ↓r191_99, ↓r191_100, ↓r191_101, ↓r191_102, ↓r191_105, ↓r191_108, ↓r191_109, ↓r191_110, ↓r191_111, ↓r191_114, ↓r191_115, ↓r191_116, ↓r191_117, ↓r191_120, ↓r191_121, ↓r191_122, ↓r191_125, ↓r191_128, ↓r191_129, ↓r191_130, ↓r191_131, ↓r191_132, ↓r191_135, ↓r191_136, ↓r191_139, ↓r191_140, ↓r191_141, ↓r191_144, ↓r191_145, ↓r191_146, ↓r191_147, ↓r191_148, ↓r191_152, ↓r191_154, ↓r191_157, ↓r191_158, ↓r191_161, ↓r191_163, ↓r191_164, ↓r191_165, ↓r191_167, ↓r191_168, ↓r191_169, ↓r191_172, ↓r191_174, ↓r191_175, ↓r191_176, ↓r191_178, ↓r191_179, ↓r191_180, ↓r191_181, ↓r191_184, ↓r191_187, ↓r191_189, c190, c115, hn, if_neg g, if_pos g0, ↓reduceIte, Option.toList, List.cons_append, List.nil_append]
    by_cases g4 : x1 = 2
    · subst g4
      by_cases g : 0 ≤ x2 ∧ x2 ≤ 3
      · obtain ⟨k, hk, rfl⟩ := hasN (q := 3) (by decide) g
        have hk4 : k < 4 := by omega
        have hb := zsh_k hk4
        obtain ⟨p1, p2, ⟨z, hz, p3, p3'⟩, p4⟩ := hSh k hk4
        have p2' := sort_neg p2
        have zz4 := zok_nI hk4 (by omega : 4 < 2 ^ 31)
        have zy4 : zix (nI k) = k := zix_nI (by omega)
        simp (decide := true) only [↓r91_0, ↓r91_1, ↓r91_2, ↓r91_5, ↓r91_5n, ↓r91_7, ↓r91_7n, ↓r91_9, ↓r91_9n, ↓r91_12, ↓r91_13, ↓r91_14, ↓r91_15, ↓r91_18, ↓r91_21, ↓r91_23, ↓r91_24, ↓r91_25, ↓r91_26, ↓r91_29, ↓r91_30, ↓r91_33, ↓r91_34, ↓r91_37, ↓r91_40, ↓r91_42, ↓r91_43, ↓r91_43n, ↓r91_45, ↓r91_46, ↓r91_49, ↓r91_52, ↓r91_53, ↓r91_54, ↓r91_57, ↓r91_57n, ↓r91_59, ↓r91_60, ↓r91_63, ↓r91_66, ↓r91_67, ↓r91_68, ↓r91_71, ↓r91_72, ↓r91_73, ↓r91_76, ↓r91_77, ↓r91_78, ↓r91_81, ↓r91_81n, ↓r91_83, ↓r91_83n, ↓r91_85, ↓r91_85n, ↓r91_88, ↓r91_90, ↓r91_91, ↓r91_91n, ↓r91_93, ↓r91_96, ↓r91_99, ↓r91_101, ↓r91_102, ↓r91_102n, ↓r91_104, ↓r91_107, ↓r91_107n, ↓r91_109, ↓r91_112, ↓r91_113, ↓r91_114, ↓r91_117, ↓r91_117n, ↓r91_119, ↓r91_120, ↓r91_123, ↓r91_123n, ↓r91_125, ↓r91_128, ↓r91_130, ↓r91_130n, ↓r91_132, ↓r91_133, ↓r91_136, ↓r91_138, ↓reduceIte, c95k hk4, c32 hb, p1, Option.toList, List.cons_append, List.nil_append, zc_h hb, true_and]
        by_cases g5 : h 64 k = -1
        · simp (decide := true) only [if_pos g5, ↓reduceIte]
          refine hx _ fun h1 Q e => ?_
          subst e
          rw [m191]
          simp (decide := true) only [↓r191_0, ↓r191_1, ↓r191_4, ↓r191_5, ↓r191_6, ↓r191_9, ↓r191_10, ↓r191_11, ↓r191_14, ↓r191_15, ↓r191_16, ↓r191_19, ↓r191_22, ↓r191_23, ↓r191_24, ↓r191_27, ↓r191_28, ↓r191_31, ↓r191_34, ↓r191_35, ↓r191_38, ↓r191_39, ↓r191_41, ↓r191_42, ↓r191_45, ↓r191_48, ↓r191_50, ↓r191_53, ↓r191_55, ↓r191_56, ↓r191_57, ↓r191_58, ↓r191_61, ↓r191_62, ↓r191_65, ↓r191_66, ↓r191_67, ↓r191_70, ↓r191_73, ↓r191_74, ↓r191_75, ↓r191_78, ↓r191_79, ↓r191_80, ↓r191_82, ↓r191_83, ↓r191_86, ↓r191_87, ↓r191_88, ↓r191_89, ↓r191_90, ↓r191_93, ↓r191_94, ↓r191_95, ↓r191_96, ↓r191_99, ↓r191_100, ↓r191_101, ↓r191_102, ↓r191_105, ↓r191_108, ↓r191_109, ↓r191_110, ↓r191_111, ↓r191_114, ↓r191_115, ↓r191_116, ↓r191_117, ↓r191_120, ↓r191_121, ↓r191_122, ↓r191_125, ↓r191_128, ↓r191_129, ↓r191_130, ↓r191_131, ↓r191_132, ↓r191_135, ↓r191_136, ↓r191_139, ↓r191_140, ↓r191_141, ↓r191_144, ↓r191_145, ↓r191_146, ↓r191_147, ↓r191_148, ↓r191_152, ↓r191_154, ↓r191_157, ↓r191_158, ↓r191_161, ↓r191_163, ↓r191_164, ↓r191_165, ↓r191_167, ↓r191_168, ↓r191_169, ↓r191_172, ↓r191_174, ↓r191_175, ↓r191_176, ↓r191_178, ↓r191_179, ↓r191_180, ↓r191_181, ↓r191_184, ↓r191_187, ↓r191_189, c190, c183, if_pos g, if_pos g0, ↓reduceIte, Option.toList, List.cons_append, List.nil_append, zl_64, zz4, zy4, p2', if_pos g5, true_and]
        · simp (decide := true) only [if_neg g5, ↓reduceIte, hc, e45, zc_h hs, true_and]
          refine c31 hs hb (by omega) fun h1 e1 e2 e3 e4 => ?_
          have h44 : h1 (44 + 3 * j) = h (44 + 3 * j) := e1 _ (by omega) (by omega)
          simp (decide := true) only [↓r91_0, ↓r91_1, ↓r91_2, ↓r91_5, ↓r91_5n, ↓r91_7, ↓r91_7n, ↓r91_9, ↓r91_9n, ↓r91_12, ↓r91_13, ↓r91_14, ↓r91_15, ↓r91_18, ↓r91_21, ↓r91_23, ↓r91_24, ↓r91_25, ↓r91_26, ↓r91_29, ↓r91_30, ↓r91_33, ↓r91_34, ↓r91_37, ↓r91_40, ↓r91_42, ↓r91_43, ↓r91_43n, ↓r91_45, ↓r91_46, ↓r91_49, ↓r91_52, ↓r91_53, ↓r91_54, ↓r91_57, ↓r91_57n, ↓r91_59, ↓r91_60, ↓r91_63, ↓r91_66, ↓r91_67, ↓r91_68, ↓r91_71, ↓r91_72, ↓r91_73, ↓r91_76, ↓r91_77, ↓r91_78, ↓r91_81, ↓r91_81n, ↓r91_83, ↓r91_83n, ↓r91_85, ↓r91_85n, ↓r91_88, ↓r91_90, ↓r91_91, ↓r91_91n, ↓r91_93, ↓r91_96, ↓r91_99, ↓r91_101, ↓r91_102, ↓r91_102n, ↓r91_104, ↓r91_107, ↓r91_107n, ↓r91_109, ↓r91_112, ↓r91_113, ↓r91_114, ↓r91_117, ↓r91_117n, ↓r91_119, ↓r91_120, ↓r91_123, ↓r91_123n, ↓r91_125, ↓r91_128, ↓r91_130, ↓r91_130n, ↓r91_132, ↓r91_133, ↓r91_136, ↓r91_138, ↓reduceIte, hc, true_and, Option.toList, List.cons_append, List.nil_append, h44, q1]
          have on1 : ∀ r (c : Nat), c ≠ 44 + 3 * j → c ≠ 45 + 3 * j → c ≠ 46 + 3 * j → zhr h1 (44 + 3 * j) r c = h c := fun r c a b d => (zhr_ne _ _ a).trans (e1 c b (by omega))
          refine zPo_in (on1 _ _ (by omega) (by omega) (by omega)) (on1 _ _ (by omega) (by omega) (by omega)) ?_
          have rn7 : ∀ (h1 : zH) r (c : Nat), c ≠ 70 → zhr h1 70 r c = h1 c := fun h1 r c a => zhr_ne _ _ a
          rw [m191]
          simp (decide := true) only [↓r191_0, ↓r191_1, ↓r191_4, ↓r191_5, ↓r191_6, ↓r191_9, ↓r191_10, ↓r191_11, ↓r191_14, ↓r191_15, ↓r191_16, ↓r191_19, ↓r191_22, ↓r191_23, ↓r191_24, ↓r191_27, ↓r191_28, ↓r191_31, ↓r191_34, ↓r191_35, ↓r191_38, ↓r191_39, ↓r191_41, ↓r191_42, ↓r191_45, ↓r191_48, ↓r191_50, ↓r191_53, ↓r191_55, ↓r191_56, ↓r191_57, ↓r191_58, ↓r191_61, ↓r191_62, ↓r191_65, ↓r191_66, ↓r191_67, ↓r191_70, ↓r191_73, ↓r191_74, ↓r191_75, ↓r191_78, ↓r191_79, ↓r191_80, ↓r191_82, ↓r191_83, ↓r191_86, ↓r191_87, ↓r191_88, ↓r191_89, ↓r191_90, ↓r191_93, ↓r191_94, ↓r191_95, ↓r191_96, ↓r191_99, ↓r191_100, ↓r191_101, ↓r191_102, ↓r191_105, ↓r191_108, ↓r191_109, ↓r191_110, ↓r191_111, ↓r191_114, ↓r191_115, ↓r191_116, ↓r191_117, ↓r191_120, ↓r191_121, ↓r191_122, ↓r191_125, ↓r191_128, ↓r191_129, ↓r191_130, ↓r191_131, ↓r191_132, ↓r191_135, ↓r191_136, ↓r191_139, ↓r191_140, ↓r191_141, ↓r191_144, ↓r191_145, ↓r191_146, ↓r191_147, ↓r191_148, ↓r191_152, ↓r191_154, ↓r191_157, ↓r191_158, ↓r191_161, ↓r191_163, ↓r191_164, ↓r191_165, ↓r191_167, ↓r191_168, ↓r191_169, ↓r191_172, ↓r191_174, ↓r191_175, ↓r191_176, ↓r191_178, ↓r191_179, ↓r191_180, ↓r191_181, ↓r191_184, ↓r191_187, ↓r191_189, c190, c183, if_pos g, if_pos g0, ↓reduceIte, Option.toList, List.cons_append, List.nil_append, zl_64, zl_65, zl_67, zs_67, zs_68, zs_69, zs_70, zz, zy, zz4, zy4, p2', if_neg g5, true_and, on1 _ 64 (by omega) (by omega) (by omega), on1 _ 65 (by omega) (by omega) (by omega), on1 _ 67 (by omega) (by omega) (by omega), on1 _ 68 (by omega) (by omega) (by omega), on1 _ 69 (by omega) (by omega) (by omega), on1 _ 70 (by omega) (by omega) (by omega), rn _ _ 68 (by omega), rn _ _ 69 (by omega), rn8 _ _ 69 (by omega), rn _ _ 65 (by omega), rn8 _ _ 65 (by omega), rn9 _ _ 65 (by omega), rn _ _ 70 (by omega), rn8 _ _ 70 (by omega), rn9 _ _ 70 (by omega), p3]
          have := c191_loop (d := d + 14) (Q := zPq (h 67 j) Q2) (h := (zhr (zhr (zhr (zhr (zhr h1 (44 + 3 * j) (upd (h (44 + 3 * j)) 0 2)) 67 (upd (h 67) j 2)) 68 (upd (h 68) j (nI k))) 69 (upd (h 69) j 0)) 70 (upd (h 70) j (nI z)))) (o2 := some (.int 2)) (o4 := some (.int 1)) (o5 := some (.int (h 67 j))) hj5 hk4 24 0 (h 71) (by omega) (fun g' hg' => ?_)
          · rw [show (zhr (zhr (zhr (zhr (zhr (zhr h1 (44 + 3 * j) (upd (h (44 + 3 * j)) 0 2)) 67 (upd (h 67) j 2)) 68 (upd (h 68) j (nI k))) 69 (upd (h 69) j 0)) 70 (upd (h 70) j (nI z))) 71 (h 71)) = (zhr (zhr (zhr (zhr (zhr h1 (44 + 3 * j) (upd (h (44 + 3 * j)) 0 2)) 67 (upd (h 67) j 2)) 68 (upd (h 68) j (nI k))) 69 (upd (h 69) j 0)) 70 (upd (h 70) j (nI z))) from ?_] at this
            · exact this
            · funext c
              rw [zhr_ap]
              by_cases g : c = 71
              · subst g
                rw [if_pos rfl, rn7 _ _ _ (by omega), rn9 _ _ _ (by omega), rn8 _ _ _ (by omega), rn _ _ _ (by omega), on1 _ _ (by omega) (by omega) (by omega)]
              · rw [if_neg g]
          · simp only [↓r191_0, ↓r191_1, ↓r191_4, ↓r191_5, ↓r191_6, ↓r191_9, ↓r191_10, ↓r191_11, ↓r191_14, ↓r191_15, ↓r191_16, ↓r191_19, ↓r191_22, ↓r191_23, ↓r191_24, ↓r191_27, ↓r191_28, ↓r191_31, ↓r191_34, ↓r191_35, ↓r191_38, ↓r191_39, ↓r191_41, ↓r191_42, ↓r191_45, ↓r191_48, ↓r191_50, ↓r191_53, ↓r191_55, ↓r191_56, ↓r191_57, ↓r191_58, ↓r191_61, ↓r191_62, ↓r191_65, ↓r191_66, ↓r191_67, ↓r191_70, ↓r191_73, ↓r191_74, ↓r191_75, ↓r191_78, ↓r191_79, ↓r191_80, ↓r191_82, ↓r191_83, ↓r191_86, ↓r191_87, ↓r191_88, ↓r191_89, ↓r191_90, ↓r191_93, ↓r191_94, ↓r191_95, ↓r191_96, ↓r191_99, ↓r191_100, ↓r191_101, ↓r191_102, ↓r191_105, ↓r191_108, ↓r191_109, ↓r191_110, ↓r191_111, ↓r191_114, ↓r191_115, ↓r191_116, ↓r191_117, ↓r191_120, ↓r191_121, ↓r191_122, ↓r191_125, ↓r191_128, ↓r191_129, ↓r191_130, ↓r191_131, ↓r191_132, ↓r191_135, ↓r191_136, ↓r191_139, ↓r191_140, ↓r191_141, ↓r191_144, ↓r191_145, ↓r191_146, ↓r191_147, ↓r191_148, ↓r191_152, ↓r191_154, ↓r191_157, ↓r191_158, ↓r191_161, ↓r191_163, ↓r191_164, ↓r191_165, ↓r191_167, ↓r191_168, ↓r191_169, ↓r191_172, ↓r191_174, ↓r191_175, ↓r191_176, ↓r191_178, ↓r191_179, ↓r191_180, ↓r191_181, ↓r191_184, ↓r191_187, ↓r191_189]
            refine hend _ _ _ _ _ _ (fun c a b d => on1 _ c a b d) (fun l hl => pk_un hl) (fun l hl => (hg' l).2 (by omega)) ⟨?_, Or.inr (Or.inr (Or.inl ⟨?_, ⟨z, hz, ?_, ?_⟩, fun i hi => ?_⟩))⟩
            · rw [zhr_same, pk_us, pk_us]
            · rw [pk_us]
            · rw [pk_us]
            · rw [zhr_ne _ _ (by omega), e3]; exact p3'
            · rw [zhr_ne _ _ (by omega), show 46 + 3 * j = 45 + 3 * j + 1 by omega, e4 i hi, (hg' _).1 (by omega), rn7 _ _ _ (by omega), rn9 _ _ _ (by omega), rn8 _ _ _ (by omega), rn _ _ _ (by omega), on1 _ 66 (by omega) (by omega) (by omega), show 24 * k + (24 * j + i - 24 * j) = 24 * k + i by omega, show 35 + 2 * k + 1 = 36 + 2 * k by omega]
              exact p4 i hi
      · simp (decide := true) only [↓r91_0, ↓r91_1, ↓r91_2, ↓r91_5, ↓r91_5n, ↓r91_7, ↓r91_7n, ↓r91_9, ↓r91_9n, ↓r91_12, ↓r91_13, ↓r91_14, ↓r91_15, ↓r91_18, ↓r91_21, ↓r91_23, ↓r91_24, ↓r91_25, ↓r91_26, ↓r91_29, ↓r91_30, ↓r91_33, ↓r91_34, ↓r91_37, ↓r91_40, ↓r91_42, ↓r91_43, ↓r91_43n, ↓r91_45, ↓r91_46, ↓r91_49, ↓r91_52, ↓r91_53, ↓r91_54, ↓r91_57, ↓r91_57n, ↓r91_59, ↓r91_60, ↓r91_63, ↓r91_66, ↓r91_67, ↓r91_68, ↓r91_71, ↓r91_72, ↓r91_73, ↓r91_76, ↓r91_77, ↓r91_78, ↓r91_81, ↓r91_81n, ↓r91_83, ↓r91_83n, ↓r91_85, ↓r91_85n, ↓r91_88, ↓r91_90, ↓r91_91, ↓r91_91n, ↓r91_93, ↓r91_96, ↓r91_99, ↓r91_101, ↓r91_102, ↓r91_102n, ↓r91_104, ↓r91_107, ↓r91_107n, ↓r91_109, ↓r91_112, ↓r91_113, ↓r91_114, ↓r91_117, ↓r91_117n, ↓r91_119, ↓r91_120, ↓r91_123, ↓r91_123n, ↓r91_125, ↓r91_128, ↓r91_130, ↓r91_130n, ↓r91_132, ↓r91_133, ↓r91_136, ↓r91_138, ↓reduceIte, c95n g, Option.toList, List.cons_append, List.nil_append]
        refine hx _ fun h1 Q e => ?_
        subst e
        rw [m191]
        simp (decide := true) only [↓r191_0, ↓r191_1, ↓r191_4, ↓r191_5, ↓r191_6, ↓r191_9, ↓r191_10, ↓r191_11, ↓r191_14, ↓r191_15, ↓r191_16, ↓r191_19, ↓r191_22, ↓r191_23, ↓r191_24, ↓r191_27, ↓r191_28, ↓r191_31, ↓r191_34, ↓r191_35, ↓r191_38, ↓r191_39, ↓r191_41, ↓r191_42, ↓r191_45, ↓r191_48, ↓r191_50, ↓r191_53, ↓r191_55, ↓r191_56, ↓r191_57, ↓r191_58, ↓r191_61, ↓r191_62, ↓r191_65, ↓r191_66, ↓r191_67, ↓r191_70, ↓r191_73, ↓r191_74, ↓r191_75, ↓r191_78, ↓r191_79, ↓r191_80, ↓r191_82, ↓r191_83, ↓r191_86, ↓r191_87, ↓r191_88, ↓r191_89, ↓r191_90, ↓r191_93, ↓r191_94, ↓r191_95, ↓r191_96, ↓r191_99, ↓r191_100, ↓r191_101, ↓r191_102, ↓r191_105, ↓r191_108, ↓r191_109, ↓r191_110, ↓r191_111, ↓r191_114, ↓r191_115, ↓r191_116, ↓r191_117, ↓r191_120, ↓r191_121, ↓r191_122, ↓r191_125, ↓r191_128, ↓r191_129, ↓r191_130, ↓r191_131, ↓r191_132, ↓r191_135, ↓r191_136, ↓r191_139, ↓r191_140, ↓r191_141, ↓r191_144, ↓r191_145, ↓r191_146, ↓r191_147, ↓r191_148, ↓r191_152, ↓r191_154, ↓r191_157, ↓r191_158, ↓r191_161, ↓r191_163, ↓r191_164, ↓r191_165, ↓r191_167, ↓r191_168, ↓r191_169, ↓r191_172, ↓r191_174, ↓r191_175, ↓r191_176, ↓r191_178, ↓r191_179, ↓r191_180, ↓r191_181, ↓r191_184, ↓r191_187, ↓r191_189, c190, c183, if_neg g, if_pos g0, ↓reduceIte, Option.toList, List.cons_append, List.nil_append]
    have g5 : ¬ (0 ≤ x1 ∧ x1 ≤ 3) := fun q => by
      rcases sw9 x1 with e | e | e | e | e | e | e | e | e | ⟨n0, n1, n2, n3, n4, n5, n6, n7, n8⟩
      · exact g1 e
      · exact g2 e
      · exact g4 e
      · exact g3 e
      all_goals grind
    simp (decide := true) only [if_neg g5, ↓reduceIte]
    refine hx _ fun h1 Q e => ?_
    subst e
    rw [m191]
    simp (decide := true) only [↓r191_0, ↓r191_1, ↓r191_4, ↓r191_5, ↓r191_6, ↓r191_9, ↓r191_10, ↓r191_11, ↓r191_14, ↓r191_15, ↓r191_16, ↓r191_19, ↓r191_22, ↓r191_23, ↓r191_24, ↓r191_27, ↓r191_28, ↓r191_31, ↓r191_34, ↓r191_35, ↓r191_38, ↓r191_39, ↓r191_41, ↓r191_42, ↓r191_45, ↓r191_48, ↓r191_50, ↓r191_53, ↓r191_55, ↓r191_56, ↓r191_57, ↓r191_58, ↓r191_61, ↓r191_62, ↓r191_65, ↓r191_66, ↓r191_67, ↓r191_70, ↓r191_73, ↓r191_74, ↓r191_75, ↓r191_78, ↓r191_79, ↓r191_80, ↓r191_82, ↓r191_83, ↓r191_86, ↓r191_87, ↓r191_88, ↓r191_89, ↓r191_90, ↓r191_93, ↓r191_94, ↓r191_95, ↓r191_96, ↓r191_99, ↓r191_100, ↓r191_101, ↓r191_102, ↓r191_105, ↓r191_108, ↓r191_109, ↓r191_110, ↓r191_111, ↓r191_114, ↓r191_115, ↓r191_116, ↓r191_117, ↓r191_120, ↓r191_121, ↓r191_122, ↓r191_125, ↓r191_128, ↓r191_129, ↓r191_130, ↓r191_131, ↓r191_132, ↓r191_135, ↓r191_136, ↓r191_139, ↓r191_140, ↓r191_141, ↓r191_144, ↓r191_145, ↓r191_146, ↓r191_147, ↓r191_148, ↓r191_152, ↓r191_154, ↓r191_157, ↓r191_158, ↓r191_161, ↓r191_163, ↓r191_164, ↓r191_165, ↓r191_167, ↓r191_168, ↓r191_169, ↓r191_172, ↓r191_174, ↓r191_175, ↓r191_176, ↓r191_178, ↓r191_179, ↓r191_180, ↓r191_181, ↓r191_184, ↓r191_187, ↓r191_189, c190, if_neg g1, if_neg g2, if_neg g3, if_neg g4, if_pos g0, ↓reduceIte, Option.toList, List.cons_append, List.nil_append]
  · rw [m91]
    simp (decide := true) only [↓r91_0, ↓r91_1, ↓r91_2, ↓r91_5, ↓r91_5n, ↓r91_7, ↓r91_7n, ↓r91_9, ↓r91_9n, ↓r91_12, ↓r91_13, ↓r91_14, ↓r91_15, ↓r91_18, ↓r91_21, ↓r91_23, ↓r91_24, ↓r91_25, ↓r91_26, ↓r91_29, ↓r91_30, ↓r91_33, ↓r91_34, ↓r91_37, ↓r91_40, ↓r91_42, ↓r91_43, ↓r91_43n, ↓r91_45, ↓r91_46, ↓r91_49, ↓r91_52, ↓r91_53, ↓r91_54, ↓r91_57, ↓r91_57n, ↓r91_59, ↓r91_60, ↓r91_63, ↓r91_66, ↓r91_67, ↓r91_68, ↓r91_71, ↓r91_72, ↓r91_73, ↓r91_76, ↓r91_77, ↓r91_78, ↓r91_81, ↓r91_81n, ↓r91_83, ↓r91_83n, ↓r91_85, ↓r91_85n, ↓r91_88, ↓r91_90, ↓r91_91, ↓r91_91n, ↓r91_93, ↓r91_96, ↓r91_99, ↓r91_101, ↓r91_102, ↓r91_102n, ↓r91_104, ↓r91_107, ↓r91_107n, ↓r91_109, ↓r91_112, ↓r91_113, ↓r91_114, ↓r91_117, ↓r91_117n, ↓r91_119, ↓r91_120, ↓r91_123, ↓r91_123n, ↓r91_125, ↓r91_128, ↓r91_130, ↓r91_130n, ↓r91_132, ↓r91_133, ↓r91_136, ↓r91_138, c96n g0, Option.toList, List.cons_append, List.nil_append]
    refine zPo_in rfl rfl ?_
    have hx : ∀ (b : Int32), zR (d + 19) 191 (zPq (-1000000001) Q2) 39 [some (.ref 60), some (.int x0), some (.int x1), some (.int x2), none, none, none] [.int b] h := by
      intro b
      simp (decide := true) only [↓r191_0, ↓r191_1, ↓r191_4, ↓r191_5, ↓r191_6, ↓r191_9, ↓r191_10, ↓r191_11, ↓r191_14, ↓r191_15, ↓r191_16, ↓r191_19, ↓r191_22, ↓r191_23, ↓r191_24, ↓r191_27, ↓r191_28, ↓r191_31, ↓r191_34, ↓r191_35, ↓r191_38, ↓r191_39, ↓r191_41, ↓r191_42, ↓r191_45, ↓r191_48, ↓r191_50, ↓r191_53, ↓r191_55, ↓r191_56, ↓r191_57, ↓r191_58, ↓r191_61, ↓r191_62, ↓r191_65, ↓r191_66, ↓r191_67, ↓r191_70, ↓r191_73, ↓r191_74, ↓r191_75, ↓r191_78, ↓r191_79, ↓r191_80, ↓r191_82, ↓r191_83, ↓r191_86, ↓r191_87, ↓r191_88, ↓r191_89, ↓r191_90, ↓r191_93, ↓r191_94, ↓r191_95, ↓r191_96, ↓r191_99, ↓r191_100, ↓r191_101, ↓r191_102, ↓r191_105, ↓r191_108, ↓r191_109, ↓r191_110, ↓r191_111, ↓r191_114, ↓r191_115, ↓r191_116, ↓r191_117, ↓r191_120, ↓r191_121, ↓r191_122, ↓r191_125, ↓r191_128, ↓r191_129, ↓r191_130, ↓r191_131, ↓r191_132, ↓r191_135, ↓r191_136, ↓r191_139, ↓r191_140, ↓r191_141, ↓r191_144, ↓r191_145, ↓r191_146, ↓r191_147, ↓r191_148, ↓r191_152, ↓r191_154, ↓r191_157, ↓r191_158, ↓r191_161, ↓r191_163, ↓r191_164, ↓r191_165, ↓r191_167, ↓r191_168, ↓r191_169, ↓r191_172, ↓r191_174, ↓r191_175, ↓r191_176, ↓r191_178, ↓r191_179, ↓r191_180, ↓r191_181, ↓r191_184, ↓r191_187, ↓r191_189, c190, if_neg g0, ↓reduceIte, Option.toList, List.cons_append, List.nil_append, true_and]
      exact zPq_in rfl (hQ _ _ hR0 rfl rfl)
    rw [m191]
    simp (decide := true) only [↓r191_0, ↓r191_1, ↓r191_4, ↓r191_5, ↓r191_6, ↓r191_9, ↓r191_10, ↓r191_11, ↓r191_14, ↓r191_15, ↓r191_16, ↓r191_19, ↓r191_22, ↓r191_23, ↓r191_24, ↓r191_27, ↓r191_28, ↓r191_31, ↓r191_34, ↓r191_35, ↓r191_38, ↓r191_41, ↓r191_42, ↓r191_45, ↓r191_48, ↓r191_50, ↓r191_53, ↓r191_55, ↓r191_56, ↓r191_57, ↓r191_58, ↓r191_61, ↓r191_62, ↓r191_65, ↓r191_66, ↓r191_67, ↓r191_70, ↓r191_73, ↓r191_74, ↓r191_75, ↓r191_78, ↓r191_79, ↓r191_80, ↓r191_82, ↓r191_83, ↓r191_86, ↓r191_87, ↓r191_88, ↓r191_89, ↓r191_90, ↓r191_93, ↓r191_94, ↓r191_95, ↓r191_96, ↓r191_99, ↓r191_100, ↓r191_101, ↓r191_102, ↓r191_105, ↓r191_108, ↓r191_109, ↓r191_110, ↓r191_111, ↓r191_114, ↓r191_115, ↓r191_116, ↓r191_117, ↓r191_120, ↓r191_121, ↓r191_122, ↓r191_125, ↓r191_128, ↓r191_129, ↓r191_130, ↓r191_131, ↓r191_132, ↓r191_135, ↓r191_136, ↓r191_139, ↓r191_140, ↓r191_141, ↓r191_144, ↓r191_145, ↓r191_146, ↓r191_147, ↓r191_148, ↓r191_152, ↓r191_154, ↓r191_157, ↓r191_158, ↓r191_161, ↓r191_163, ↓r191_164, ↓r191_165, ↓r191_167, ↓r191_168, ↓r191_169, ↓r191_172, ↓r191_174, ↓r191_175, ↓r191_176, ↓r191_178, ↓r191_179, ↓r191_180, ↓r191_181, ↓r191_184, ↓r191_187, ↓r191_189, ↓reduceIte, Option.toList, List.cons_append, List.nil_append, true_and, c115, c183]
    by_cases g1 : x1 = 0
    · simp only [if_pos g1]; exact hx _
    · simp only [if_neg g1]
      by_cases g3 : x1 = 3
      · simp only [if_pos g3]; exact hx _
      · simp only [if_neg g3]
        by_cases g2 : x1 = 1
        · have g4 : ¬ x1 = 2 := by rw [g2]; decide
          simp only [if_pos g2, if_neg g4]
          by_cases g : 0 ≤ x2 ∧ x2 ≤ h 61 0 - 1
          · simp (decide := true) only [if_pos g, ↓reduceIte]; exact hx _
          · simp (decide := true) only [if_neg g, ↓reduceIte]; exact hx _
        · simp only [if_neg g2]
          by_cases g4 : x1 = 2
          · simp only [if_pos g4]
            by_cases g : 0 ≤ x2 ∧ x2 ≤ 3
            · simp (decide := true) only [if_pos g, ↓reduceIte]; exact hx _
            · simp (decide := true) only [if_neg g, ↓reduceIte]; exact hx _
          · simp only [if_neg g4]; exact hx _
end
