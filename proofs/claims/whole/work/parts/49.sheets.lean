/-! sheets: pour, reads, copy -/
section
variable {d : Nat} {x0 x1 x2 x3 x4 v x z a : Int32} {h h' : zH} {n m N n' m' k w j f b c t i : Nat} {s row row' : Nat → Int32} {Q : Option Value → zH → Prop}
theorem sort_neg {s : Int32} (q2 : s = -1 ∨ s = 0 ∨ s = 1) : (s < 0) = (s = -1) := by
  rcases q2 with e | e | e <;> rw [e] <;> decide
theorem p_pour : zPair (d + 20) (d + 20) 88 186 [.int x0] := by
  intro h Q2 hR hQ
  have hR0 := hR
  obtain ⟨n, m, N, hRN⟩ := hR
  obtain ⟨⟨hSt, hm⟩, -, -, hSh, -⟩ := id hRN
  obtain ⟨⟨hn, h10⟩, hld, -⟩ := hSt.2.1
  rw [rSheets_all] at hSh
  by_cases g0 : 0 ≤ x0 ∧ x0 ≤ 3
  · obtain ⟨k, hk, rfl⟩ := hasN (q := 3) (by decide) g0
    have hk4 : k < 4 := by omega
    have hc := zsh_k hk4
    obtain ⟨q1, q2, ⟨z, hz, q3, q3'⟩, q4⟩ := hSh k hk4
    have q2' := sort_neg q2
    rw [m88]
    simp (decide := true) only [↓r88_0, ↓r88_1, ↓r88_2, ↓r88_5, ↓r88_5n, ↓r88_6, ↓r88_6n, ↓r88_7, ↓r88_7n, ↓r88_10, ↓r88_12, ↓r88_13, ↓r88_13n, ↓r88_14, ↓r88_17, ↓r88_20, ↓r88_22, ↓r88_23, ↓r88_24, ↓r88_25, ↓r88_26, ↓r88_30, ↓r88_31, ↓r88_34, ↓r88_37, ↓r88_40, ↓r88_42, ↓r88_42n, ↓r88_43, ↓r88_46, ↓r88_49, ↓r88_49n, ↓r88_50, ↓r88_52, ↓r88_55, ↓r88_58, ↓r88_58n, ↓r88_59, ↓r88_62, ↓r88_64, ↓r88_65, ↓r88_66, ↓r88_68, ↓r88_71, ↓r88_73, ↓r88_75, ↓r88_76, ↓r88_79, ↓r88_82, ↓r88_84, ↓r88_85, ↓r88_88, ↓r88_91, ↓r88_92, ↓r88_95, ↓r88_98, ↓r88_100, ↓r88_102, ↓r88_103, ↓r88_106, ↓r88_109, ↓r88_110, c95k hk4, c32 hc, Option.toList, List.cons_append, List.nil_append, true_and, q1, zc_h hc]
    by_cases g1 : h 64 k = -1
    · simp (decide := true) only [if_pos g1, ↓reduceIte]
      refine zPo_in rfl rfl ?_
      rw [m186]
      simp (decide := true) only [↓r186_0, ↓r186_1, ↓r186_4, ↓r186_7, ↓r186_9, ↓r186_10, ↓r186_11, ↓r186_14, ↓r186_15, ↓r186_16, ↓r186_19, ↓r186_22, ↓r186_23, ↓r186_24, ↓r186_25, ↓r186_26, ↓r186_28, ↓r186_29, ↓r186_32, ↓r186_33, ↓r186_34, ↓r186_37, ↓r186_38, ↓r186_39, ↓r186_42, ↓r186_43, ↓r186_44, ↓r186_47, ↓r186_48, ↓r186_51, ↓r186_53, ↓r186_54, ↓r186_55, ↓r186_56, ↓r186_57, ↓r186_58, ↓r186_60, ↓r186_62, ↓r186_64, ↓r186_67, ↓r186_68, ↓r186_69, ↓r186_70, ↓r186_73, ↓r186_76, ↓r186_78, ↓r186_79, ↓r186_81, ↓r186_84, ↓r186_86, ↓r186_87, ↓r186_89, ↓r186_90, ↓r186_92, ↓r186_93, ↓r186_94, ↓r186_95, ↓r186_96, ↓r186_97, ↓r186_98, ↓r186_100, ↓r186_103, ↓r186_106, ↓r186_107, ↓r186_110, ↓r186_111, ↓r186_112, ↓r186_113, ↓r186_116, ↓r186_119, ↓r186_120, c183, if_pos g0, ↓reduceIte, Option.toList, List.cons_append, List.nil_append, zl_64, zok_nI hk4 (by omega), zix_nI (by omega : k < 2 ^ 31), q2', if_pos g1, true_and]
      exact zPq_in rfl (hQ _ _ hR0 rfl rfl)
    · simp (decide := true) only [if_neg g1, ↓reduceIte]
      obtain ⟨M, hM⟩ : ∃ M, M = if n < z then n else z := ⟨_, rfl⟩
      have hM1 : M ≤ n := by
        by_cases g : n < z
        · rw [if_pos g] at hM; omega
        · rw [if_neg g] at hM; omega
      rw [← nI_0]
      refine c88_loop (d := d + 14) (n := n) hc (by omega) hz h10 hM (h (35 + 2 * k + 1)) (h 61) h rfl q3' hn (fun h1 e1 hV1 => ?_) M 0 h none (by omega) (fun _ _ => rfl) hSt.1
      refine zPo_in (e1 _ (by omega)) (e1 _ (by omega)) ?_
      rw [m186]
      simp (decide := true) only [↓r186_0, ↓r186_1, ↓r186_4, ↓r186_7, ↓r186_9, ↓r186_10, ↓r186_11, ↓r186_14, ↓r186_15, ↓r186_16, ↓r186_19, ↓r186_22, ↓r186_23, ↓r186_24, ↓r186_25, ↓r186_26, ↓r186_28, ↓r186_29, ↓r186_32, ↓r186_33, ↓r186_34, ↓r186_37, ↓r186_38, ↓r186_39, ↓r186_42, ↓r186_43, ↓r186_44, ↓r186_47, ↓r186_48, ↓r186_51, ↓r186_53, ↓r186_54, ↓r186_55, ↓r186_56, ↓r186_57, ↓r186_58, ↓r186_60, ↓r186_62, ↓r186_64, ↓r186_67, ↓r186_68, ↓r186_69, ↓r186_70, ↓r186_73, ↓r186_76, ↓r186_78, ↓r186_79, ↓r186_81, ↓r186_84, ↓r186_86, ↓r186_87, ↓r186_89, ↓r186_90, ↓r186_92, ↓r186_93, ↓r186_94, ↓r186_95, ↓r186_96, ↓r186_97, ↓r186_98, ↓r186_100, ↓r186_103, ↓r186_106, ↓r186_107, ↓r186_110, ↓r186_111, ↓r186_112, ↓r186_113, ↓r186_116, ↓r186_119, ↓r186_120, c183, if_pos g0, ↓reduceIte, Option.toList, List.cons_append, List.nil_append, zl_64, zok_nI hk4 (by omega), zix_nI (by omega : k < 2 ^ 31), e1 64 (by omega), q2', if_neg g1, true_and]
      rw [← nI_0]
      have e61 : h1 61 = h 61 := e1 _ (by omega)
      refine c186_loop (d := d + 14) (n := n) hk4 hz h10 hM (h (35 + 2 * k + 1)) h1 (fun i hi => ?_) ?_ ?_ (fun h2 e2 e2b => ?_) M 0 h1 none none (by omega) (fun _ _ => rfl) rfl
      · rw [e1 66 (by omega), show 35 + 2 * k + 1 = 36 + 2 * k by omega]
        exact q4 i hi
      · rw [e1 65 (by omega)]; exact q3
      · rw [e61]; exact hn
      · have o : ∀ c, c ≠ 12 → c ≠ 61 → h2 c = h c := fun c a b => (e2 c b).trans (e1 c a)
        rw [e61] at e2b ⊢
        refine zPq_in rfl (hQ _ _ ⟨n, m, N, zRel_set hRN (fun c a b _ _ _ => o c (by omega) b) (by rw [o 10 (by omega) (by omega)]) ?_ ?_ ?_ ?_ hm⟩ (o _ (by omega) (by omega)) (o _ (by omega) (by omega)))
        · rw [e2b]
          exact zV_rows hV1 (e2 _ (by omega)) (fun j hj => e2 _ (by omega))
        · rw [e2b]; exact zB_pour hSt.2.1 M hM1
        · rw [e2b]; exact pourF_keep _ (by omega) M (by omega)
        · intro j hj
          rw [e2b]; exact pourF_keep _ (by omega) M (by omega)
  · rw [m88]
    simp (decide := true) only [↓r88_0, ↓r88_1, ↓r88_2, ↓r88_5, ↓r88_5n, ↓r88_6, ↓r88_6n, ↓r88_7, ↓r88_7n, ↓r88_10, ↓r88_12, ↓r88_13, ↓r88_13n, ↓r88_14, ↓r88_17, ↓r88_20, ↓r88_22, ↓r88_23, ↓r88_24, ↓r88_25, ↓r88_26, ↓r88_30, ↓r88_31, ↓r88_34, ↓r88_37, ↓r88_40, ↓r88_42, ↓r88_42n, ↓r88_43, ↓r88_46, ↓r88_49, ↓r88_49n, ↓r88_50, ↓r88_52, ↓r88_55, ↓r88_58, ↓r88_58n, ↓r88_59, ↓r88_62, ↓r88_64, ↓r88_65, ↓r88_66, ↓r88_68, ↓r88_71, ↓r88_73, ↓r88_75, ↓r88_76, ↓r88_79, ↓r88_82, ↓r88_84, ↓r88_85, ↓r88_88, ↓r88_91, ↓r88_92, ↓r88_95, ↓r88_98, ↓r88_100, ↓r88_102, ↓r88_103, ↓r88_106, ↓r88_109, ↓r88_110, c95n g0, Option.toList, List.cons_append, List.nil_append]
    refine zPo_in rfl rfl ?_
    rw [m186]
    simp (decide := true) only [↓r186_0, ↓r186_1, ↓r186_4, ↓r186_7, ↓r186_9, ↓r186_10, ↓r186_11, ↓r186_14, ↓r186_15, ↓r186_16, ↓r186_19, ↓r186_22, ↓r186_23, ↓r186_24, ↓r186_25, ↓r186_26, ↓r186_28, ↓r186_29, ↓r186_32, ↓r186_33, ↓r186_34, ↓r186_37, ↓r186_38, ↓r186_39, ↓r186_42, ↓r186_43, ↓r186_44, ↓r186_47, ↓r186_48, ↓r186_51, ↓r186_53, ↓r186_54, ↓r186_55, ↓r186_56, ↓r186_57, ↓r186_58, ↓r186_60, ↓r186_62, ↓r186_64, ↓r186_67, ↓r186_68, ↓r186_69, ↓r186_70, ↓r186_73, ↓r186_76, ↓r186_78, ↓r186_79, ↓r186_81, ↓r186_84, ↓r186_86, ↓r186_87, ↓r186_89, ↓r186_90, ↓r186_92, ↓r186_93, ↓r186_94, ↓r186_95, ↓r186_96, ↓r186_97, ↓r186_98, ↓r186_100, ↓r186_103, ↓r186_106, ↓r186_107, ↓r186_110, ↓r186_111, ↓r186_112, ↓r186_113, ↓r186_116, ↓r186_119, ↓r186_120, c183, if_neg g0, ↓reduceIte, Option.toList, List.cons_append, List.nil_append, true_and]
    exact zPq_in rfl (hQ _ _ hR0 rfl rfl)
theorem c89_loop {o1 : Int32} (hc : zsh c) {P : Nat → Bool} {Z : Nat} (hZ : Z ≤ 24) (hz : h c 1 = nI Z) (hn : h 10 1 = nI n) (h10 : n ≤ 10) (hP : ∀ i, i < Z → (P i = true ↔ ¬ h (c + 1) i = -2147483648 ∧ ¬ (i < n ∧ h 14 i = h (c + 1) i))) : ∀ (f i : Nat), i + f = Z → zR (d + 5) 89 Q 25 [some (.ref 0), some (.int o1), some (.ref c), some (.int (nI i))] [] h = Q (some (.int (if hiR P f i < 0 then -1000000005 else hiR P f i))) h := by
  intro f
  induction f with
  | zero =>
    intro i hi
    have hi' : i = Z := by omega
    subst hi'
    rw [r89_25]
    simp only [↓r89_0, ↓r89_1, ↓r89_2, ↓r89_5, ↓r89_5n, ↓r89_6, ↓r89_6n, ↓r89_7, ↓r89_7n, ↓r89_10, ↓r89_12, ↓r89_13, ↓r89_13n, ↓r89_14, ↓r89_17, ↓r89_20, ↓r89_22, ↓r89_23, ↓r89_24, ↓r89_26, ↓r89_26n, ↓r89_27, ↓r89_30, ↓r89_33, ↓r89_33n, ↓r89_34, ↓r89_35, ↓r89_38, ↓r89_41, ↓r89_42, ↓r89_45, ↓r89_46, ↓r89_49, ↓r89_52, ↓r89_53, ↓r89_56, ↓r89_59, ↓r89_60, ↓r89_61, ↓r89_61n, ↓r89_62, ↓r89_65, ↓r89_66, ↓r89_67, ↓r89_70, ↓r89_71, ↓r89_72, ↓r89_75, ↓r89_78, ↓r89_80, zc_h hc, true_and, hz, nI_nlt (Nat.le_refl i) (by omega), if_false]
    rfl
  | succ f ih =>
    intro i hi
    have g2 : i < Z := by omega
    have ih' := ih (i + 1) (by omega)
    have hp := hP i g2
    have hq : (if hiR P (f + 1) i < 0 then (-1000000005 : Int32) else hiR P (f + 1) i) = if P i = true then nI i else (if hiR P f (i + 1) < 0 then -1000000005 else hiR P f (i + 1)) := by
      show (if (if P i = true then nI i else hiR P f (i + 1)) < 0 then (-1000000005 : Int32) else (if P i = true then nI i else hiR P f (i + 1))) = _
      by_cases g : P i = true
      · simp only [if_pos g, if_neg (nI_pos (by omega : i < 2 ^ 31))]
      · simp only [if_neg g]
    rw [hq]
    rw [r89_25]
    simp only [↓r89_0, ↓r89_1, ↓r89_2, ↓r89_5, ↓r89_5n, ↓r89_6, ↓r89_6n, ↓r89_7, ↓r89_7n, ↓r89_10, ↓r89_12, ↓r89_13, ↓r89_13n, ↓r89_14, ↓r89_17, ↓r89_20, ↓r89_22, ↓r89_23, ↓r89_24, ↓r89_26, ↓r89_26n, ↓r89_27, ↓r89_30, ↓r89_33, ↓r89_33n, ↓r89_34, ↓r89_35, ↓r89_38, ↓r89_41, ↓r89_42, ↓r89_45, ↓r89_46, ↓r89_49, ↓r89_52, ↓r89_53, ↓r89_56, ↓r89_59, ↓r89_60, ↓r89_61, ↓r89_61n, ↓r89_62, ↓r89_65, ↓r89_66, ↓r89_67, ↓r89_70, ↓r89_71, ↓r89_72, ↓r89_75, ↓r89_78, ↓r89_80, zc_h hc, true_and, hz, nI_lt g2 (by omega), if_true, c35k hc hz hZ g2, Option.toList, List.cons_append, List.nil_append]
    by_cases g3 : h (c + 1) i = -2147483648
    · have : ¬ P i = true := fun q => (hp.mp q).1 g3
      simp (decide := true) only [if_pos g3, if_neg this, ↓reduceIte, nI_1]
      exact ih'
    · simp (decide := true) only [if_neg g3, ↓reduceIte, c37 zst10, hn, Option.toList, List.cons_append, List.nil_append, zc_10, zc_18, zc_26, zc_0, zc_1, zc_7, zc_60, Nat.reduceAdd, true_and, ↓r89_0, ↓r89_1, ↓r89_2, ↓r89_5, ↓r89_5n, ↓r89_6, ↓r89_6n, ↓r89_7, ↓r89_7n, ↓r89_10, ↓r89_12, ↓r89_13, ↓r89_13n, ↓r89_14, ↓r89_17, ↓r89_20, ↓r89_22, ↓r89_23, ↓r89_24, ↓r89_26, ↓r89_26n, ↓r89_27, ↓r89_30, ↓r89_33, ↓r89_33n, ↓r89_34, ↓r89_35, ↓r89_38, ↓r89_41, ↓r89_42, ↓r89_45, ↓r89_46, ↓r89_49, ↓r89_52, ↓r89_53, ↓r89_56, ↓r89_59, ↓r89_60, ↓r89_61, ↓r89_61n, ↓r89_62, ↓r89_65, ↓r89_66, ↓r89_67, ↓r89_70, ↓r89_71, ↓r89_72, ↓r89_75, ↓r89_78, ↓r89_80, zc_h hc]
      by_cases g4 : i < n
      · have g5 := hasI g4 h10
        simp (decide := true) only [if_pos g5, ↓reduceIte, zl_14, zl_h hc, zok_nI (by omega : i < 10) (by omega), zok_nI (by omega : i < 24) (by omega), zix_nI (by omega : i < 2 ^ 31), true_and]
        by_cases g6 : h 14 i = h (c + 1) i
        · have : ¬ P i = true := fun q => (hp.mp q).2 ⟨g4, g6⟩
          simp only [if_pos g6, if_neg this, nI_1]
          exact ih'
        · have : P i = true := hp.mpr ⟨g3, fun q => g6 q.2⟩
          simp only [if_neg g6, if_pos this]
      · have g5 : ¬ (0 ≤ nI i ∧ nI i ≤ nI n - 1) := fun q => by
          obtain ⟨k, hk, e⟩ := hasK h10 q
          rw [nI_eq (by omega) (by omega)] at e
          omega
        have : P i = true := hp.mpr ⟨g3, fun q => g4 q.1⟩
        simp (decide := true) only [if_neg g5, ↓reduceIte, if_pos this, ↓r89_0, ↓r89_1, ↓r89_2, ↓r89_5, ↓r89_5n, ↓r89_6, ↓r89_6n, ↓r89_7, ↓r89_7n, ↓r89_10, ↓r89_12, ↓r89_13, ↓r89_13n, ↓r89_14, ↓r89_17, ↓r89_20, ↓r89_22, ↓r89_23, ↓r89_24, ↓r89_26, ↓r89_26n, ↓r89_27, ↓r89_30, ↓r89_33, ↓r89_33n, ↓r89_34, ↓r89_35, ↓r89_38, ↓r89_41, ↓r89_42, ↓r89_45, ↓r89_46, ↓r89_49, ↓r89_52, ↓r89_53, ↓r89_56, ↓r89_59, ↓r89_60, ↓r89_61, ↓r89_61n, ↓r89_62, ↓r89_65, ↓r89_66, ↓r89_67, ↓r89_70, ↓r89_71, ↓r89_72, ↓r89_75, ↓r89_78, ↓r89_80]
theorem c187_loop (hk : k < 4) {P : Nat → Bool} {Z : Nat} {o3 : Option Value} (hZ : Z ≤ 24) (hz : h 65 k = nI Z) (hn : h 61 0 = nI n) (h10 : n ≤ 10) (hP : ∀ i, i < Z → (P i = true ↔ ¬ h 66 (24 * k + i) = -1000000005 ∧ ¬ (i < n ∧ h 61 (12 + 5 * i + 3) = h 66 (24 * k + i)))) : ∀ (f i : Nat) (o3 : Option Value), i + f = Z → zR (d + 5) 187 Q 25 [some (.ref 60), some (.int (nI k)), some (.int (nI i)), o3] [] h = Q (some (.int (if hiR P f i < 0 then -1000000005 else hiR P f i))) h := by
  intro f
  induction f with
  | zero =>
    intro i o3 hi
    have hi' : i = Z := by omega
    subst hi'
    rw [r187_25]
    simp only [↓r187_0, ↓r187_1, ↓r187_4, ↓r187_7, ↓r187_9, ↓r187_10, ↓r187_11, ↓r187_14, ↓r187_15, ↓r187_16, ↓r187_19, ↓r187_22, ↓r187_23, ↓r187_24, ↓r187_26, ↓r187_27, ↓r187_30, ↓r187_31, ↓r187_32, ↓r187_35, ↓r187_36, ↓r187_39, ↓r187_41, ↓r187_42, ↓r187_43, ↓r187_44, ↓r187_45, ↓r187_46, ↓r187_47, ↓r187_48, ↓r187_50, ↓r187_53, ↓r187_54, ↓r187_55, ↓r187_58, ↓r187_59, ↓r187_60, ↓r187_63, ↓r187_64, ↓r187_65, ↓r187_66, ↓r187_67, ↓r187_70, ↓r187_73, ↓r187_74, ↓r187_75, ↓r187_78, ↓r187_81, ↓r187_83, zl_65, zok_nI hk (by omega), zix_nI (by omega : k < 2 ^ 31), true_and, hz, nI_nlt (Nat.le_refl i) (by omega), if_false]
    rfl
  | succ f ih =>
    intro i o3 hi
    have g2 : i < Z := by omega
    have ih' := ih (i + 1) (some (.int (h 66 (24 * k + i)))) (by omega)
    have hp := hP i g2
    have hq : (if hiR P (f + 1) i < 0 then (-1000000005 : Int32) else hiR P (f + 1) i) = if P i = true then nI i else (if hiR P f (i + 1) < 0 then -1000000005 else hiR P f (i + 1)) := by
      show (if (if P i = true then nI i else hiR P f (i + 1)) < 0 then (-1000000005 : Int32) else (if P i = true then nI i else hiR P f (i + 1))) = _
      by_cases g : P i = true
      · simp only [if_pos g, if_neg (nI_pos (by omega : i < 2 ^ 31))]
      · simp only [if_neg g]
    rw [hq]
    rw [r187_25]
    simp only [↓r187_0, ↓r187_1, ↓r187_4, ↓r187_7, ↓r187_9, ↓r187_10, ↓r187_11, ↓r187_14, ↓r187_15, ↓r187_16, ↓r187_19, ↓r187_22, ↓r187_23, ↓r187_24, ↓r187_26, ↓r187_27, ↓r187_30, ↓r187_31, ↓r187_32, ↓r187_35, ↓r187_36, ↓r187_39, ↓r187_41, ↓r187_42, ↓r187_43, ↓r187_44, ↓r187_45, ↓r187_46, ↓r187_47, ↓r187_48, ↓r187_50, ↓r187_53, ↓r187_54, ↓r187_55, ↓r187_58, ↓r187_59, ↓r187_60, ↓r187_63, ↓r187_64, ↓r187_65, ↓r187_66, ↓r187_67, ↓r187_70, ↓r187_73, ↓r187_74, ↓r187_75, ↓r187_78, ↓r187_81, ↓r187_83, zl_65, zl_61, zl_66, zok_nI hk (by omega), zix_nI (by omega : k < 2 ^ 31), true_and, hz, hn, zok0, zix0, nI_lt g2 (by omega), if_true, x24, zok_nI (by omega : 24 * k + i < 96) (by omega), zix_nI (by omega : 24 * k + i < 2 ^ 31), Option.toList, List.cons_append, List.nil_append]
    by_cases g3 : h 66 (24 * k + i) = -1000000005
    · have : ¬ P i = true := fun q => (hp.mp q).1 g3
      simp (decide := true) only [if_pos g3, if_neg this, ↓reduceIte, nI_1]
      exact ih'
    · simp only [if_neg g3]
      by_cases g4 : i < n
      · simp only [nI_lt g4 (by omega : n < 2 ^ 31), if_true, c113_3 (by omega : i < 10), Option.toList, List.cons_append, List.nil_append, ↓r187_0, ↓r187_1, ↓r187_4, ↓r187_7, ↓r187_9, ↓r187_10, ↓r187_11, ↓r187_14, ↓r187_15, ↓r187_16, ↓r187_19, ↓r187_22, ↓r187_23, ↓r187_24, ↓r187_26, ↓r187_27, ↓r187_30, ↓r187_31, ↓r187_32, ↓r187_35, ↓r187_36, ↓r187_39, ↓r187_41, ↓r187_42, ↓r187_43, ↓r187_44, ↓r187_45, ↓r187_46, ↓r187_47, ↓r187_48, ↓r187_50, ↓r187_53, ↓r187_54, ↓r187_55, ↓r187_58, ↓r187_59, ↓r187_60, ↓r187_63, ↓r187_64, ↓r187_65, ↓r187_66, ↓r187_67, ↓r187_70, ↓r187_73, ↓r187_74, ↓r187_75, ↓r187_78, ↓r187_81, ↓r187_83]
        by_cases g6 : h 61 (12 + 5 * i + 3) = h 66 (24 * k + i)
        · have : ¬ P i = true := fun q => (hp.mp q).2 ⟨g4, g6⟩
          simp only [if_pos g6.symm, if_neg this, nI_1]
          exact ih'
        · have : P i = true := hp.mpr ⟨g3, fun q => g6 q.2⟩
          simp only [if_neg (Ne.symm g6), if_pos this]
      · have : P i = true := hp.mpr ⟨g3, fun q => g4 q.1⟩
        have g5 : ¬ nI i < nI n := nI_nlt (by omega) (by omega)
        simp only [if_neg g5, if_pos this]
theorem p_reads : zPair (d + 20) (d + 20) 89 187 [.int x0] := by
  intro h Q2 hR hQ
  have hR0 := hR
  obtain ⟨n, m, N, hRN⟩ := hR
  obtain ⟨⟨hSt, hm⟩, -, -, hSh, -⟩ := id hRN
  obtain ⟨⟨hn, h10⟩, hld, -⟩ := hSt.2.1
  have hn' : h 10 1 = nI n := hSt.1.1.1.trans hn
  rw [rSheets_all] at hSh
  by_cases g0 : 0 ≤ x0 ∧ x0 ≤ 3
  · obtain ⟨k, hk, rfl⟩ := hasN (q := 3) (by decide) g0
    have hk4 : k < 4 := by omega
    have hc := zsh_k hk4
    obtain ⟨q1, q2, ⟨z, hz, q3, q3'⟩, q4⟩ := hSh k hk4
    have q2' := sort_neg q2
    rw [m89]
    simp (decide := true) only [↓r89_0, ↓r89_1, ↓r89_2, ↓r89_5, ↓r89_5n, ↓r89_6, ↓r89_6n, ↓r89_7, ↓r89_7n, ↓r89_10, ↓r89_12, ↓r89_13, ↓r89_13n, ↓r89_14, ↓r89_17, ↓r89_20, ↓r89_22, ↓r89_23, ↓r89_24, ↓r89_26, ↓r89_26n, ↓r89_27, ↓r89_30, ↓r89_33, ↓r89_33n, ↓r89_34, ↓r89_35, ↓r89_38, ↓r89_41, ↓r89_42, ↓r89_45, ↓r89_46, ↓r89_49, ↓r89_52, ↓r89_53, ↓r89_56, ↓r89_59, ↓r89_60, ↓r89_61, ↓r89_61n, ↓r89_62, ↓r89_65, ↓r89_66, ↓r89_67, ↓r89_70, ↓r89_71, ↓r89_72, ↓r89_75, ↓r89_78, ↓r89_80, c95k hk4, c32 hc, Option.toList, List.cons_append, List.nil_append, true_and, q1, zc_h hc]
    by_cases g1 : h 64 k = -1
    · simp (decide := true) only [if_pos g1, ↓reduceIte]
      refine zPo_in rfl rfl ?_
      rw [m187]
      simp (decide := true) only [↓r187_0, ↓r187_1, ↓r187_4, ↓r187_7, ↓r187_9, ↓r187_10, ↓r187_11, ↓r187_14, ↓r187_15, ↓r187_16, ↓r187_19, ↓r187_22, ↓r187_23, ↓r187_24, ↓r187_26, ↓r187_27, ↓r187_30, ↓r187_31, ↓r187_32, ↓r187_35, ↓r187_36, ↓r187_39, ↓r187_41, ↓r187_42, ↓r187_43, ↓r187_44, ↓r187_45, ↓r187_46, ↓r187_47, ↓r187_48, ↓r187_50, ↓r187_53, ↓r187_54, ↓r187_55, ↓r187_58, ↓r187_59, ↓r187_60, ↓r187_63, ↓r187_64, ↓r187_65, ↓r187_66, ↓r187_67, ↓r187_70, ↓r187_73, ↓r187_74, ↓r187_75, ↓r187_78, ↓r187_81, ↓r187_83, c183, if_pos g0, ↓reduceIte, Option.toList, List.cons_append, List.nil_append, zl_64, zok_nI hk4 (by omega), zix_nI (by omega : k < 2 ^ 31), q2', if_pos g1, true_and]
      exact zPq_in rfl (hQ _ _ hR0 rfl rfl)
    · simp (decide := true) only [if_neg g1, ↓reduceIte]
      have hPd := fun i (_ : i < z) => (decide_eq_true_iff (p := ¬ h (35 + 2 * k + 1) i = -2147483648 ∧ ¬ (i < n ∧ h 14 i = h (35 + 2 * k + 1) i)))
      rw [← nI_0, c89_loop (d := d + 14) (P := fun i => decide (¬ h (35 + 2 * k + 1) i = -2147483648 ∧ ¬ (i < n ∧ h 14 i = h (35 + 2 * k + 1) i))) hc hz q3' hn' h10 hPd z 0 (by omega)]
      refine zPo_in rfl rfl ?_
      rw [m187]
      simp (decide := true) only [↓r187_0, ↓r187_1, ↓r187_4, ↓r187_7, ↓r187_9, ↓r187_10, ↓r187_11, ↓r187_14, ↓r187_15, ↓r187_16, ↓r187_19, ↓r187_22, ↓r187_23, ↓r187_24, ↓r187_26, ↓r187_27, ↓r187_30, ↓r187_31, ↓r187_32, ↓r187_35, ↓r187_36, ↓r187_39, ↓r187_41, ↓r187_42, ↓r187_43, ↓r187_44, ↓r187_45, ↓r187_46, ↓r187_47, ↓r187_48, ↓r187_50, ↓r187_53, ↓r187_54, ↓r187_55, ↓r187_58, ↓r187_59, ↓r187_60, ↓r187_63, ↓r187_64, ↓r187_65, ↓r187_66, ↓r187_67, ↓r187_70, ↓r187_73, ↓r187_74, ↓r187_75, ↓r187_78, ↓r187_81, ↓r187_83, c183, if_pos g0, ↓reduceIte, Option.toList, List.cons_append, List.nil_append, zl_64, zok_nI hk4 (by omega), zix_nI (by omega : k < 2 ^ 31), q2', if_neg g1, true_and]
      rw [← nI_0, c187_loop (d := d + 14) (P := fun i => decide (¬ h (35 + 2 * k + 1) i = -2147483648 ∧ ¬ (i < n ∧ h 14 i = h (35 + 2 * k + 1) i))) (o3 := none) hk4 hz q3 hn h10 ?_ z 0 none (by omega)]
      · exact zPq_in rfl (hQ _ _ hR0 rfl rfl)
      · intro i hi
        rw [hPd i hi]
        have en := q4 i (by omega)
        have en' : shEnc (h (35 + 2 * k + 1) i) (h 66 (24 * k + i)) := by
          rw [show 35 + 2 * k + 1 = 36 + 2 * k by omega]; exact en
        have e1 := shEnc_iff en'
        rw [e1]
        by_cases g3 : h 66 (24 * k + i) = -1000000005
        · simp only [g3, not_true_eq_false, false_and]
        · have e2 : h 66 (24 * k + i) = h (35 + 2 * k + 1) i := by
            rcases en' with ⟨a, _⟩ | ⟨_, b, _⟩
            · exact absurd a g3
            · exact b.symm
          rw [e2]
          by_cases g4 : i < n
          · rw [(zV10 hSt.1 (by omega : i < 10)).2.2.2.1]
          · simp only [g4, false_and]
  · rw [m89]
    simp (decide := true) only [↓r89_0, ↓r89_1, ↓r89_2, ↓r89_5, ↓r89_5n, ↓r89_6, ↓r89_6n, ↓r89_7, ↓r89_7n, ↓r89_10, ↓r89_12, ↓r89_13, ↓r89_13n, ↓r89_14, ↓r89_17, ↓r89_20, ↓r89_22, ↓r89_23, ↓r89_24, ↓r89_26, ↓r89_26n, ↓r89_27, ↓r89_30, ↓r89_33, ↓r89_33n, ↓r89_34, ↓r89_35, ↓r89_38, ↓r89_41, ↓r89_42, ↓r89_45, ↓r89_46, ↓r89_49, ↓r89_52, ↓r89_53, ↓r89_56, ↓r89_59, ↓r89_60, ↓r89_61, ↓r89_61n, ↓r89_62, ↓r89_65, ↓r89_66, ↓r89_67, ↓r89_70, ↓r89_71, ↓r89_72, ↓r89_75, ↓r89_78, ↓r89_80, c95n g0, Option.toList, List.cons_append, List.nil_append]
    refine zPo_in rfl rfl ?_
    rw [m187]
    simp (decide := true) only [↓r187_0, ↓r187_1, ↓r187_4, ↓r187_7, ↓r187_9, ↓r187_10, ↓r187_11, ↓r187_14, ↓r187_15, ↓r187_16, ↓r187_19, ↓r187_22, ↓r187_23, ↓r187_24, ↓r187_26, ↓r187_27, ↓r187_30, ↓r187_31, ↓r187_32, ↓r187_35, ↓r187_36, ↓r187_39, ↓r187_41, ↓r187_42, ↓r187_43, ↓r187_44, ↓r187_45, ↓r187_46, ↓r187_47, ↓r187_48, ↓r187_50, ↓r187_53, ↓r187_54, ↓r187_55, ↓r187_58, ↓r187_59, ↓r187_60, ↓r187_63, ↓r187_64, ↓r187_65, ↓r187_66, ↓r187_67, ↓r187_70, ↓r187_73, ↓r187_74, ↓r187_75, ↓r187_78, ↓r187_81, ↓r187_83, c183, if_neg g0, ↓reduceIte, Option.toList, List.cons_append, List.nil_append, true_and]
    exact zPq_in rfl (hQ _ _ hR0 rfl rfl)
end
