/-! pair: text -/
section
variable {d : Nat} {Q : Option Value → zH → Prop} {h h' : zH} {f f0 g g0 g1 f' g' B row row' : Nat → Int32} {x0 x1 x2 x3 v sd c0 b : Int32} {L k p e z key n m o j ld la N N' c : Nat} {σ : pxS} {l : zL} {ws w1 : List Int32}
theorem xt6 (hN : N < 14) : zM (d + 2) 6 [.ref 1, .int (nI N), .ref 7] h Q = Q none (zhr (zhr (zhr (zhr h 2 (upd (h 2) N (h 7 7))) 3 (upd (h 3) N (h 7 10))) 4 (upd (h 4) N (h 7 9))) 5 (va_cpy (h 9) (h 5) 0 (96 * N) 96)) := by
  have g : 0 ≤ nI N ∧ nI N ≤ 13 := ⟨nI_pos' (by omega), nI_le (b := 13) (by omega) (by omega)⟩
  have em : nI N * 96 = nI (96 * N) := by rw [show (96 : Int32) = nI 96 from rfl, pk_mul, Nat.mul_comm]
  have z96 : zix 96 = 96 := rfl
  have z0 : zix 0 = 0 := rfl
  have zN : zix (nI (96 * N)) = 96 * N := zix_nI (by omega)
  have hc : zcls 9 = 10 ∧ zcls 5 = 10 ∧ ¬ (0 : Int32) < 0 ∧ ¬ nI (96 * N) < 0 ∧ ¬ (96 : Int32) < 0 ∧ zix 0 + zix 96 ≤ zaln 9 ∧ zix (nI (96 * N)) + zix 96 ≤ zaln 5 := by
    refine ⟨rfl, rfl, by decide, nI_pos (by omega), by decide, by decide, ?_⟩
    rw [zN, z96]
    show 96 * N + 96 ≤ 1344
    omega
  rw [m6]
  simp (decide := true) only [↓r6_0, ↓r6_1, ↓r6_2, ↓r6_4, ↓r6_7, ↓r6_10, ↓r6_11, ↓r6_12, ↓r6_15, ↓r6_16, ↓r6_17, ↓r6_20, ↓r6_21, ↓r6_22, ↓r6_25, ↓r6_26, ↓r6_27, ↓r6_30, ↓r6_31, ↓r6_32, ↓r6_35, ↓r6_36, ↓r6_37, ↓r6_40, ↓r6_41, ↓r6_42, ↓r6_45, ↓r6_46, ↓r6_47, ↓r6_50, ↓r6_51, ↓r6_53, ↓r6_54, ↓r6_56, ↓r6_59, c103, if_pos g, Option.toList, List.cons_append, List.nil_append, ↓reduceIte, zs_2, zs_3, zs_4, zok_nI hN (by omega), zix_nI (by omega : N < 2 ^ 31), true_and, zhr_ap, Nat.reduceEqDiff, if_false, em, m1003]
  rw [zN, z96, z0] at hc ⊢
  exact zand_t ⟨hc.2.2.2.1, hc.2.2.2.2.2.2⟩
theorem xt83 (hV : pxV B L) (hT : ∀ i, i < L → h 8 i = B i) (hL : h 7 1 = nI L) (hN : h 10 12 = nI N) (hN14 : N ≤ 14)
    (bad : ∀ e, pxTx B L = .inl e → ∀ f' g', f' 1 = 0 → Q (some (.int (-100 - nI e))) (hR h f' g'))
    (full : ∀ v, pxTx B L = .inr v → ¬ N < 14 → ∀ f' g', f' 1 = 0 → Q (some (.int (-1000000003))) (hR h f' g'))
    (ok : ∀ key ws k, pxTx B L = .inr (key, ws, k) → N < 14 → key < 3 → ws.length ≤ 96 → (∀ t, pxGo ws t = some (t + 1)) → ∀ h', (∀ c, c ≠ 2 → c ≠ 3 → c ≠ 4 → c ≠ 5 → c ≠ 7 → c ≠ 9 → c ≠ 10 → c ≠ 17 → h' c = h c) → h' 7 1 = 0 → h' 10 = upd (h 10) 12 (nI (N + 1)) → h' 17 = upd (h 17) key (nI N) → h' 2 = upd (h 2) N (nI key) → h' 3 = upd (h 3) N (nI k) → h' 4 = upd (h 4) N (nI ws.length) → (∀ i, i < 96 * N → h' 5 i = h 5 i) → (∀ i, i < ws.length → h' 5 (96 * N + i) = ws.getD i 0) → Q (some (.int (nI N))) h') : zM (d + 124) 83 [.ref 0] h Q := by
  have h96 := hV.1
  have key10 : ∀ Q', _ → _ → zM (d + 1 + 122) 10 [.ref 7] h Q' := fun Q' a b => by
    have := xr10 (d := d + 1) (h := h) (f := h 7) (g := h 9) (Q := Q') hV hT hL a b
    rwa [hR_self] at this
  rw [m83]
  simp only [↓r83_0, ↓r83_1, ↓r83_4, ↓r83_7, ↓r83_9, ↓r83_12, ↓r83_13, ↓r83_16, ↓r83_17, ↓r83_20, ↓r83_22, ↓r83_23, ↓r83_24, ↓r83_25, ↓r83_26, ↓r83_29, ↓r83_32, ↓r83_34, ↓r83_37, ↓r83_39, ↓r83_40, ↓r83_41, ↓r83_44, ↓r83_47, ↓r83_48, ↓r83_49, ↓r83_52, ↓r83_53, ↓r83_54, ↓r83_57, ↓r83_60, ↓r83_61, ↓r83_64, ↓r83_67, ↓r83_68, ↓r83_71, ↓r83_74, ↓r83_75, ↓r83_76, ↓r83_77, ↓r83_80, ↓r83_81, ↓r83_82, ↓r83_83, ↓r83_86, ↓r83_87, zc_10, zc_18, zc_26, zc_0, zc_1, zc_7, zc_60, Nat.reduceAdd, true_and]
  refine key10 _ (fun key ws k e hkey hws hgo f1 g1 a1 a7 a9 a10 ag => ?_) (fun e he he2 f1 g1 a1 => ?_)
  · simp only [↓r83_0, ↓r83_1, ↓r83_4, ↓r83_7, ↓r83_9, ↓r83_12, ↓r83_13, ↓r83_16, ↓r83_17, ↓r83_20, ↓r83_22, ↓r83_23, ↓r83_24, ↓r83_25, ↓r83_26, ↓r83_29, ↓r83_32, ↓r83_34, ↓r83_37, ↓r83_39, ↓r83_40, ↓r83_41, ↓r83_44, ↓r83_47, ↓r83_48, ↓r83_49, ↓r83_52, ↓r83_53, ↓r83_54, ↓r83_57, ↓r83_60, ↓r83_61, ↓r83_64, ↓r83_67, ↓r83_68, ↓r83_71, ↓r83_74, ↓r83_75, ↓r83_76, ↓r83_77, ↓r83_80, ↓r83_81, ↓r83_82, ↓r83_83, ↓r83_86, ↓r83_87, Option.toList, List.cons_append, List.nil_append]
    have u7 : (upd f1 1 0) 7 = nI key := by rw [pk_un (by omega)]; exact a7
    have u9 : (upd f1 1 0) 9 = nI ws.length := by rw [pk_un (by omega)]; exact a9
    have u10 : (upd f1 1 0) 10 = nI k := by rw [pk_un (by omega)]; exact a10
    have hn' : ∀ f g, hR h f g 10 12 = nI N := fun _ _ => hN
    have eN : (nI N < 14) = (N < 14) := nI_ltk (b := 14) (by omega) (by omega)
    rw [r83_8]
    by_cases q : N < 14
    · simp (decide := true) only [↓r83_0, ↓r83_1, ↓r83_4, ↓r83_7, ↓r83_9, ↓r83_12, ↓r83_13, ↓r83_16, ↓r83_17, ↓r83_20, ↓r83_22, ↓r83_23, ↓r83_24, ↓r83_25, ↓r83_26, ↓r83_29, ↓r83_32, ↓r83_34, ↓r83_37, ↓r83_39, ↓r83_40, ↓r83_41, ↓r83_44, ↓r83_47, ↓r83_48, ↓r83_49, ↓r83_52, ↓r83_53, ↓r83_54, ↓r83_57, ↓r83_60, ↓r83_61, ↓r83_64, ↓r83_67, ↓r83_68, ↓r83_71, ↓r83_74, ↓r83_75, ↓r83_76, ↓r83_77, ↓r83_80, ↓r83_81, ↓r83_82, ↓r83_83, ↓r83_86, ↓r83_87, zc_10, zc_18, zc_26, zc_0, zc_1, zc_7, zc_60, Nat.reduceAdd, true_and, hR_7, hR_p7, ↓reduceIte, hn', eN, q, xt6 q, Option.toList, List.cons_append, List.nil_append, zhr_ap, Nat.reduceEqDiff, u7, zl_17, zs_17, zok_nI (by omega : key < 3) (by omega), zix_nI (by omega : key < 2 ^ 31), true_and, nI_1]
      refine ok key ws k e q hkey hws hgo _ (fun c c2 c3 c4 c5 c7 c9 c10 c17 => ?_) ?_ ?_ ?_ ?_ ?_ ?_ (fun i hi => ?_) (fun i hi => ?_)
      · rw [zhr_ne _ _ c10, zhr_ne _ _ c17, zhr_ne _ _ c5, zhr_ne _ _ c4, zhr_ne _ _ c3, zhr_ne _ _ c2]
        unfold hR
        rw [if_neg c7, if_neg c9]
      · rw [zhr_ne _ _ (by omega), zhr_ne _ _ (by omega), zhr_ne _ _ (by omega), zhr_ne _ _ (by omega), zhr_ne _ _ (by omega), zhr_ne _ _ (by omega)]
        rfl
      · rw [zhr_same]; rfl
      · rw [zhr_ne _ _ (by omega), zhr_same]; rfl
      · rw [zhr_ne _ _ (by omega), zhr_ne _ _ (by omega), zhr_ne _ _ (by omega), zhr_ne _ _ (by omega), zhr_ne _ _ (by omega), zhr_same]; rfl
      · rw [zhr_ne _ _ (by omega), zhr_ne _ _ (by omega), zhr_ne _ _ (by omega), zhr_ne _ _ (by omega), zhr_same]
        show upd (h 3) N (upd f1 1 0 10) = _
        rw [u10]
      · rw [zhr_ne _ _ (by omega), zhr_ne _ _ (by omega), zhr_ne _ _ (by omega), zhr_same]
        show upd (h 4) N (upd f1 1 0 9) = _
        rw [u9]
      · rw [zhr_ne _ _ (by omega), zhr_ne _ _ (by omega), zhr_same, pk_cpy_out (by omega)]
        rfl
      · rw [zhr_ne _ _ (by omega), zhr_ne _ _ (by omega), zhr_same, pk_cpy_in (by omega) (by omega)]
        show g1 (0 + (96 * N + i - 96 * N)) = _
        rw [show 0 + (96 * N + i - 96 * N) = i by omega]
        exact ag i hi
    · simp (decide := true) only [↓r83_0, ↓r83_1, ↓r83_4, ↓r83_7, ↓r83_9, ↓r83_12, ↓r83_13, ↓r83_16, ↓r83_17, ↓r83_20, ↓r83_22, ↓r83_23, ↓r83_24, ↓r83_25, ↓r83_26, ↓r83_29, ↓r83_32, ↓r83_34, ↓r83_37, ↓r83_39, ↓r83_40, ↓r83_41, ↓r83_44, ↓r83_47, ↓r83_48, ↓r83_49, ↓r83_52, ↓r83_53, ↓r83_54, ↓r83_57, ↓r83_60, ↓r83_61, ↓r83_64, ↓r83_67, ↓r83_68, ↓r83_71, ↓r83_74, ↓r83_75, ↓r83_76, ↓r83_77, ↓r83_80, ↓r83_81, ↓r83_82, ↓r83_83, ↓r83_86, ↓r83_87, zc_10, zc_18, zc_26, zc_0, zc_1, zc_7, zc_60, Nat.reduceAdd, true_and, hR_7, hR_p7, ↓reduceIte, hn', eN, q]
      exact full _ e q _ _ pk_us
  · simp only [↓r83_0, ↓r83_1, ↓r83_4, ↓r83_7, ↓r83_9, ↓r83_12, ↓r83_13, ↓r83_16, ↓r83_17, ↓r83_20, ↓r83_22, ↓r83_23, ↓r83_24, ↓r83_25, ↓r83_26, ↓r83_29, ↓r83_32, ↓r83_34, ↓r83_37, ↓r83_39, ↓r83_40, ↓r83_41, ↓r83_44, ↓r83_47, ↓r83_48, ↓r83_49, ↓r83_52, ↓r83_53, ↓r83_54, ↓r83_57, ↓r83_60, ↓r83_61, ↓r83_64, ↓r83_67, ↓r83_68, ↓r83_71, ↓r83_74, ↓r83_75, ↓r83_76, ↓r83_77, ↓r83_80, ↓r83_81, ↓r83_82, ↓r83_83, ↓r83_86, ↓r83_87, Option.toList, List.cons_append, List.nil_append]
    rw [r83_8]
    simp only [↓r83_0, ↓r83_1, ↓r83_4, ↓r83_7, ↓r83_9, ↓r83_12, ↓r83_13, ↓r83_16, ↓r83_17, ↓r83_20, ↓r83_22, ↓r83_23, ↓r83_24, ↓r83_25, ↓r83_26, ↓r83_29, ↓r83_32, ↓r83_34, ↓r83_37, ↓r83_39, ↓r83_40, ↓r83_41, ↓r83_44, ↓r83_47, ↓r83_48, ↓r83_49, ↓r83_52, ↓r83_53, ↓r83_54, ↓r83_57, ↓r83_60, ↓r83_61, ↓r83_64, ↓r83_67, ↓r83_68, ↓r83_71, ↓r83_74, ↓r83_75, ↓r83_76, ↓r83_77, ↓r83_80, ↓r83_81, ↓r83_82, ↓r83_83, ↓r83_86, ↓r83_87, zc_10, zc_18, zc_26, zc_0, zc_1, zc_7, zc_60, Nat.reduceAdd, true_and, hR_7, hR_p7, if_neg (nI_pos he2)]
    exact bad e he _ _ pk_us
theorem yt177 (hV : pxV B L) (hT : ∀ i, i < L → h 74 i = B i) (hL : h 60 16 = nI L) (hN : h 61 1 = nI N) (hN14 : N ≤ 14)
    (bad : ∀ e, pxTx B L = .inl e → ∀ f' g', f' 16 = 0 → (∀ j, j ≤ 15 ∨ 27 ≤ j → f' j = h 60 j) → (∀ i, i < 62 + 200 * N → g' i = h 61 i) → Q (some (.int (-100 - nI e))) (hM h f' g'))
    (full : ∀ v, pxTx B L = .inr v → ¬ N < 14 → ∀ f' g', f' 16 = 0 → (∀ j, j ≤ 15 ∨ 27 ≤ j → f' j = h 60 j) → (∀ i, i < 62 + 200 * N → g' i = h 61 i) → Q (some (.int (-1000000003))) (hM h f' g'))
    (ok : ∀ key ws k, pxTx B L = .inr (key, ws, k) → N < 14 → ∀ f' g', f' 16 = 0 → (∀ j, j ≤ 15 ∨ 27 ≤ j → f' j = h 60 j) → (∀ i, i < 62 + 200 * N → i ≠ 1 → g' i = h 61 i) → g' 1 = nI (N + 1) → g' (62 + 200 * N) = nI key → g' (62 + 200 * N + 1) = nI k → g' (62 + 200 * N + 2) = nI ws.length → (∀ i, i < ws.length → stepR key (g' (62 + 200 * N + 4 + 2 * i)) (g' (62 + 200 * N + 4 + 2 * i + 1)) (ws.getD i 0)) → Q (some (.int (nI N))) (hM h f' g')) : zM (d + 124) 177 [.ref 60] h Q := by
  have h96 := hV.1
  have key176 : ∀ Q', _ → _ → zM (d + 1 + 122) 176 [.ref 60] h Q' := fun Q' a b => by
    have := ym176 (d := d + 1) (h := h) (f := h 60) (g := h 61) (Q := Q') hV hT hL hN hN14 a b
    rwa [hM_self] at this
  have hlo : 62 + 200 * N ≤ pxLa N := by unfold pxLa; split <;> omega
  have eN : (nI N = 14) = (N = 14) := propext (nI_eq (b := 14) (by omega) (by omega))
  rw [m177]
  simp only [↓r177_0, ↓r177_1, ↓r177_5, ↓r177_6, ↓r177_9, ↓r177_11, ↓r177_12, ↓r177_15, ↓r177_16, ↓r177_17, ↓r177_18, ↓r177_21, ↓r177_22, ↓r177_23, ↓r177_25, ↓r177_28, ↓r177_30, ↓r177_31, ↓r177_32, ↓r177_33, ↓r177_36, ↓r177_37, ↓r177_38, ↓r177_41, ↓r177_42, ↓r177_43, ↓r177_46, ↓r177_47, ↓r177_48, ↓r177_49, ↓r177_50, ↓r177_51, ↓r177_52, ↓r177_55, ↓r177_56, ↓r177_57, ↓r177_58, ↓r177_59, ↓r177_62, ↓r177_63, ↓r177_64, ↓r177_67, ↓r177_68, ↓r177_69, ↓r177_70, ↓r177_71, ↓r177_74, ↓r177_75, ↓r177_76, ↓r177_79, ↓r177_80, ↓r177_81, ↓r177_82, ↓r177_83, ↓r177_84, ↓r177_85, ↓r177_86, ↓r177_89, ↓r177_90, ↓r177_91, ↓r177_92, ↓r177_93]
  refine key176 _ (fun key ws k e hkey f1 g1 a16 a24 a26 aj ag as => ?_) (fun e he f1 g1 a16 a17 aj ag => ?_)
  · simp only [↓r177_0, ↓r177_1, ↓r177_5, ↓r177_6, ↓r177_9, ↓r177_11, ↓r177_12, ↓r177_15, ↓r177_16, ↓r177_17, ↓r177_18, ↓r177_21, ↓r177_22, ↓r177_23, ↓r177_25, ↓r177_28, ↓r177_30, ↓r177_31, ↓r177_32, ↓r177_33, ↓r177_36, ↓r177_37, ↓r177_38, ↓r177_41, ↓r177_42, ↓r177_43, ↓r177_46, ↓r177_47, ↓r177_48, ↓r177_49, ↓r177_50, ↓r177_51, ↓r177_52, ↓r177_55, ↓r177_56, ↓r177_57, ↓r177_58, ↓r177_59, ↓r177_62, ↓r177_63, ↓r177_64, ↓r177_67, ↓r177_68, ↓r177_69, ↓r177_70, ↓r177_71, ↓r177_74, ↓r177_75, ↓r177_76, ↓r177_79, ↓r177_80, ↓r177_81, ↓r177_82, ↓r177_83, ↓r177_84, ↓r177_85, ↓r177_86, ↓r177_89, ↓r177_90, ↓r177_91, ↓r177_92, ↓r177_93, Option.toList, List.cons_append, List.nil_append]
    have eg1 : g1 1 = nI N := by rw [ag 1 (by omega)]; exact hN
    rw [r177_4]
    by_cases q : N < 14
    · have q2 : ¬ N = 14 := by omega
      have ela : pxLa N = 62 + 200 * N + 4 := by unfold pxLa; rw [if_pos q]
      rw [ela] at as hlo ag
      have ea : 62 + 200 * nI N = nI (62 + 200 * N) := by rw [show (62 : Int32) = nI 62 from rfl, show (200 : Int32) = nI 200 from rfl, pk_mul, nI_add]
      have e0 : nI (62 + 200 * N) + 0 = nI (62 + 200 * N) := nI_add _ 0
      have e1 : nI (62 + 200 * N) + 1 = nI (62 + 200 * N + 1) := nI_1 _
      have e2 : nI (62 + 200 * N) + 2 = nI (62 + 200 * N + 2) := nI_add _ 2
      have u1 : (upd (upd (upd g1 (62 + 200 * N) (nI key)) (62 + 200 * N + 1) (nI k)) (62 + 200 * N + 2) (nI ws.length)) 1 = nI N := by
        rw [pk_un (by omega), pk_un (by omega), pk_un (by omega)]; exact eg1
      have u2 : ∀ (r : Nat → Int32) (v : Int32), (upd r 1 v) 1 = v := fun _ _ => pk_us
      have s1 : nI (N + 1) - 1 = nI N := nI_pred N
      simp (decide := true) only [↓r177_0, ↓r177_1, ↓r177_5, ↓r177_6, ↓r177_9, ↓r177_11, ↓r177_12, ↓r177_15, ↓r177_16, ↓r177_17, ↓r177_18, ↓r177_21, ↓r177_22, ↓r177_23, ↓r177_25, ↓r177_28, ↓r177_30, ↓r177_31, ↓r177_32, ↓r177_33, ↓r177_36, ↓r177_37, ↓r177_38, ↓r177_41, ↓r177_42, ↓r177_43, ↓r177_46, ↓r177_47, ↓r177_48, ↓r177_49, ↓r177_50, ↓r177_51, ↓r177_52, ↓r177_55, ↓r177_56, ↓r177_57, ↓r177_58, ↓r177_59, ↓r177_62, ↓r177_63, ↓r177_64, ↓r177_67, ↓r177_68, ↓r177_69, ↓r177_70, ↓r177_71, ↓r177_74, ↓r177_75, ↓r177_76, ↓r177_79, ↓r177_80, ↓r177_81, ↓r177_82, ↓r177_83, ↓r177_84, ↓r177_85, ↓r177_86, ↓r177_89, ↓r177_90, ↓r177_91, ↓r177_92, ↓r177_93, hM_60, hM_61, hM_p60, hM_p61, zl_61, zs_61, zok1, zix1, true_and, eg1, eN, q2, ↓reduceIte, if_neg (nI_pos (by omega : key < 2 ^ 31)), c112, Option.toList, List.cons_append, List.nil_append, ea, e0, e1, e2, a24, a26, zok_nI (by omega : 62 + 200 * N < 3062) (by omega), zok_nI (by omega : 62 + 200 * N + 1 < 3062) (by omega), zok_nI (by omega : 62 + 200 * N + 2 < 3062) (by omega), zix_nI (by omega : 62 + 200 * N < 2 ^ 31), zix_nI (by omega : 62 + 200 * N + 1 < 2 ^ 31), zix_nI (by omega : 62 + 200 * N + 2 < 2 ^ 31), u1, u2, nI_1, s1]
      refine ok key ws k e q _ _ a16 aj (fun i hi hi1 => ?_) ?_ ?_ ?_ ?_ (fun i hi => ?_)
      · rw [pk_un hi1, pk_un (by omega), pk_un (by omega), pk_un (by omega)]; exact ag i (by omega)
      · exact pk_us
      · rw [pk_un (by omega), pk_un (by omega), pk_un (by omega), pk_us]
      · rw [pk_un (by omega), pk_un (by omega), pk_us]
      · rw [pk_un (by omega), pk_us]
      · rw [pk_un (by omega), pk_un (by omega), pk_un (by omega), pk_un (by omega), pk_un (by omega), pk_un (by omega), pk_un (by omega), pk_un (by omega)]
        exact as i hi
    · have q2 : N = 14 := by omega
      simp (decide := true) only [↓r177_0, ↓r177_1, ↓r177_5, ↓r177_6, ↓r177_9, ↓r177_11, ↓r177_12, ↓r177_15, ↓r177_16, ↓r177_17, ↓r177_18, ↓r177_21, ↓r177_22, ↓r177_23, ↓r177_25, ↓r177_28, ↓r177_30, ↓r177_31, ↓r177_32, ↓r177_33, ↓r177_36, ↓r177_37, ↓r177_38, ↓r177_41, ↓r177_42, ↓r177_43, ↓r177_46, ↓r177_47, ↓r177_48, ↓r177_49, ↓r177_50, ↓r177_51, ↓r177_52, ↓r177_55, ↓r177_56, ↓r177_57, ↓r177_58, ↓r177_59, ↓r177_62, ↓r177_63, ↓r177_64, ↓r177_67, ↓r177_68, ↓r177_69, ↓r177_70, ↓r177_71, ↓r177_74, ↓r177_75, ↓r177_76, ↓r177_79, ↓r177_80, ↓r177_81, ↓r177_82, ↓r177_83, ↓r177_84, ↓r177_85, ↓r177_86, ↓r177_89, ↓r177_90, ↓r177_91, ↓r177_92, ↓r177_93, hM_60, hM_61, zl_61, zok1, zix1, true_and, eg1, eN, q2, ↓reduceIte, if_neg (nI_pos (by omega : key < 2 ^ 31))]
      exact full _ e q _ _ a16 aj (fun i hi => ag i (by omega))
  · simp only [↓r177_0, ↓r177_1, ↓r177_5, ↓r177_6, ↓r177_9, ↓r177_11, ↓r177_12, ↓r177_15, ↓r177_16, ↓r177_17, ↓r177_18, ↓r177_21, ↓r177_22, ↓r177_23, ↓r177_25, ↓r177_28, ↓r177_30, ↓r177_31, ↓r177_32, ↓r177_33, ↓r177_36, ↓r177_37, ↓r177_38, ↓r177_41, ↓r177_42, ↓r177_43, ↓r177_46, ↓r177_47, ↓r177_48, ↓r177_49, ↓r177_50, ↓r177_51, ↓r177_52, ↓r177_55, ↓r177_56, ↓r177_57, ↓r177_58, ↓r177_59, ↓r177_62, ↓r177_63, ↓r177_64, ↓r177_67, ↓r177_68, ↓r177_69, ↓r177_70, ↓r177_71, ↓r177_74, ↓r177_75, ↓r177_76, ↓r177_79, ↓r177_80, ↓r177_81, ↓r177_82, ↓r177_83, ↓r177_84, ↓r177_85, ↓r177_86, ↓r177_89, ↓r177_90, ↓r177_91, ↓r177_92, ↓r177_93, Option.toList, List.cons_append, List.nil_append]
    rw [r177_4]
    simp (decide := true) only [↓r177_0, ↓r177_1, ↓r177_5, ↓r177_6, ↓r177_9, ↓r177_11, ↓r177_12, ↓r177_15, ↓r177_16, ↓r177_17, ↓r177_18, ↓r177_21, ↓r177_22, ↓r177_23, ↓r177_25, ↓r177_28, ↓r177_30, ↓r177_31, ↓r177_32, ↓r177_33, ↓r177_36, ↓r177_37, ↓r177_38, ↓r177_41, ↓r177_42, ↓r177_43, ↓r177_46, ↓r177_47, ↓r177_48, ↓r177_49, ↓r177_50, ↓r177_51, ↓r177_52, ↓r177_55, ↓r177_56, ↓r177_57, ↓r177_58, ↓r177_59, ↓r177_62, ↓r177_63, ↓r177_64, ↓r177_67, ↓r177_68, ↓r177_69, ↓r177_70, ↓r177_71, ↓r177_74, ↓r177_75, ↓r177_76, ↓r177_79, ↓r177_80, ↓r177_81, ↓r177_82, ↓r177_83, ↓r177_84, ↓r177_85, ↓r177_86, ↓r177_89, ↓r177_90, ↓r177_91, ↓r177_92, ↓r177_93, hM_60, a17, ↓reduceIte]
    exact bad e he _ _ a16 aj (fun i hi => ag i (by omega))
theorem lastT_cong3 {key : Int32} (er : ∀ i, i < N → row' (62 + 200 * i) = row (62 + 200 * i)) : lastT row' key N = lastT row key N := by
  unfold lastT
  exact zfo_cong (fun i a hi => by rw [er i hi]) _
theorem tRel_row (e2 : ∀ t, t < N → h' 2 t = h 2 t) (e3 : ∀ t, t < N → h' 3 t = h 3 t) (e4 : ∀ t, t < N → h' 4 t = h 4 t) (e5 : ∀ i, i < 96 * N → h' 5 i = h 5 i) (er : ∀ k, 62 ≤ k → k < 62 + 200 * N → row' k = row k) (hT : tRel h row N) : tRel h' row' N := by
  intro t ht
  obtain ⟨key, m, q1, q2, q3, q4, q5, q6, q7, q8, q9⟩ := hT t ht
  refine ⟨key, m, q1, q2, by rw [e2 t ht]; exact q3, by rw [er _ (by omega) (by omega)]; exact q4, by rw [e3 t ht, er _ (by omega) (by omega)]; exact q5, by rw [e4 t ht]; exact q6, by rw [er _ (by omega) (by omega)]; exact q7, fun i hi => ?_, ?_⟩
  · rw [e5 _ (by omega), er _ (by omega) (by omega), er _ (by omega) (by omega)]
    exact q8 i hi
  · obtain ⟨w1, w2⟩ := q9
    have ew : ∀ i, i ≤ m → wTp (fun i => h' 5 (96 * t + i)) i = wTp (fun i => h 5 (96 * t + i)) i := by
      intro i
      induction i with
      | zero => intro _; rfl
      | succ i ih =>
        intro hi
        unfold wTp
        rw [ih (by omega), e5 _ (by omega)]
    refine ⟨fun i hi => ?_, by rw [ew m (Nat.le_refl m)]; exact w2⟩
    have e5i := e5 (96 * t + i) (by omega)
    rw [ew i (by omega)]
    simp only [e5i]
    exact w1 i hi
theorem zSt_row (hS : zSt h c row n m N) (e0 : ∀ j, j < 8 → h' (c + j) = h (c + j)) (e2 : ∀ t, t < N → h' 2 t = h 2 t) (e3 : ∀ t, t < N → h' 3 t = h 3 t) (e4 : ∀ t, t < N → h' 4 t = h 4 t) (e5 : ∀ i, i < 96 * N → h' 5 i = h 5 i) (er : ∀ k, k < 62 + 200 * N → row' k = row k) : zSt h' c row' n m N := by
  obtain ⟨hV, hB, ⟨hN, hN14⟩, hcnt, hT, h14⟩ := hS
  refine ⟨zV_cong (zV_rows hV (e0 0 (by omega)) e0) (fun k hk => er k (by omega)), zB_cong (fun k hk => er k (by omega)) hB, ⟨by rw [er 1 (by omega)]; exact hN, hN14⟩, fun key hk => ?_, tRel_row e2 e3 e4 e5 (fun k _ hk => er k hk) hT, ?_⟩
  · rw [e0 7 (by omega), lastT_cong3 (fun i hi => er _ (by omega))]
    exact hcnt key hk
  · have := e0 0 (by omega)
    rw [Nat.add_zero] at this
    rw [this]; exact h14
theorem zB_1 (hB : zB row n m) (er : ∀ k, k < 62 → k ≠ 1 → row' k = row k) : zB row' n m := by
  obtain ⟨⟨b1, b2⟩, b3, b4, b5, b6, b7, b8⟩ := hB
  refine ⟨⟨by rw [er _ (by omega) (by omega)]; exact b1, b2⟩, fun i hi => ?_, by rw [er _ (by omega) (by omega)]; exact b4, by rw [er _ (by omega) (by omega)]; exact b5, by rw [er _ (by omega) (by omega)]; exact b6, by rw [er _ (by omega) (by omega)]; exact b7, by rw [er _ (by omega) (by omega)]; exact b8⟩
  rw [er _ (by omega) (by omega), er _ (by omega) (by omega), er _ (by omega) (by omega), er _ (by omega) (by omega)]
  exact b3 i hi
theorem zSt_new (hS : zSt h 10 row n m N) (hN13 : N < 14) (hkey : key < 3) (hws : ws.length ≤ 96) (hgo : ∀ t, pxGo ws t = some (t + 1))
    (a10 : h' 10 = upd (h 10) 12 (nI (N + 1))) (aj : ∀ j, 1 ≤ j → j < 7 → h' (10 + j) = h (10 + j)) (a17 : h' 17 = upd (h 17) key (nI N)) (a2 : h' 2 = upd (h 2) N (nI key)) (a3 : h' 3 = upd (h 3) N (nI k)) (a4 : h' 4 = upd (h 4) N (nI ws.length)) (a5 : ∀ i, i < 96 * N → h' 5 i = h 5 i) (a5w : ∀ i, i < ws.length → h' 5 (96 * N + i) = ws.getD i 0)
    (er : ∀ i, i < 62 + 200 * N → i ≠ 1 → row' i = row i) (r1 : row' 1 = nI (N + 1)) (rk : row' (62 + 200 * N) = nI key) (rp : row' (62 + 200 * N + 1) = nI k) (rm : row' (62 + 200 * N + 2) = nI ws.length) (rs : ∀ i, i < ws.length → stepR key (row' (62 + 200 * N + 4 + 2 * i)) (row' (62 + 200 * N + 4 + 2 * i + 1)) (ws.getD i 0)) : zSt h' 10 row' n m (N + 1) := by
  obtain ⟨hV, hB, ⟨hN, hN14⟩, hcnt, hT, h14⟩ := hS
  refine ⟨?_, zB_1 hB (fun k hk h1 => er k (by omega) h1), ⟨r1, by omega⟩, fun ky hk => ?_, fun t ht => ?_, ?_⟩
  · have V1 := zV_fld (v := nI (N + 1)) (Or.inr (Or.inl ⟨rfl, rfl⟩)) hV
    have V2 : zV h' 10 (upd row 1 (nI (N + 1))) := by
      unfold zV at V1 ⊢
      rw [a10, aj 1 (by omega) (by omega), aj 2 (by omega) (by omega), aj 3 (by omega) (by omega), aj 4 (by omega) (by omega), aj 5 (by omega) (by omega), aj 6 (by omega) (by omega)]
      exact V1
    refine zV_cong V2 (fun k hk => ?_)
    by_cases e : k = 1
    · subst e; rw [pk_us]; exact r1
    · rw [pk_un e]; exact er k (by omega) e
  · show h' 17 ky = lastT row' (nI ky) (N + 1)
    have e1 : lastT row' (nI ky) (N + 1) = if row' (62 + 200 * N) = nI ky then nI N else lastT row' (nI ky) N := rfl
    rw [e1, rk, a17, lastT_cong3 (row := row) (fun i hi => er _ (by omega) (by omega))]
    by_cases e : ky = key
    · subst e; rw [pk_us, if_pos rfl]
    · rw [pk_un e, if_neg (fun z => e ((nI_eq (by omega) (by omega)).mp z).symm)]
      exact hcnt ky hk
  · by_cases e : t = N
    · subst e
      refine ⟨key, ws.length, hkey, hws, by rw [a2, pk_us], rk, by rw [a3, pk_us, rp], by rw [a4, pk_us], rm, fun i hi => ?_, px_wWF (fun i hi => a5w i hi) hgo⟩
      rw [a5w i hi]
      exact rs i hi
    · have hlt : t < N := by omega
      exact tRel_row (h' := h') (row' := row') (fun t ht => by rw [a2, pk_un (by omega)]) (fun t ht => by rw [a3, pk_un (by omega)]) (fun t ht => by rw [a4, pk_un (by omega)]) a5 (fun k k1 k2 => er k k2 (by omega)) hT t hlt
  · show h' 10 14 = -1
    rw [a10, pk_un (by omega)]
    exact h14
theorem p_text : zPair (d + 130) (d + 130) 83 177 [] := by
  intro h Q2 hR hQ
  obtain ⟨n, m, N, ⟨hSt, hm⟩, hu, hI, hSh, hSl, hNu, ⟨hw, L, hL, hww, hn⟩⟩ := hR
  have hV : pxV (pxB (h 8) L) L := by
    refine ⟨hL, fun i hi => ?_, fun i hi => ?_⟩
    · unfold pxB; rw [if_neg (by omega)]
    · unfold pxB; rw [if_pos hi]; exact (hn i hi).2
  have hT8 : ∀ i, i < L → h 8 i = pxB (h 8) L i := fun i hi => by unfold pxB; rw [if_pos hi]
  have hT74 : ∀ i, i < L → h 74 i = pxB (h 8) L i := fun i hi => by unfold pxB; rw [if_pos hi]; exact (hn i hi).1.symm
  have hN := hSt.2.2.1.1
  have hN14 := hSt.2.2.1.2
  have hN' : h 10 12 = nI N := hSt.1.1.2.1.trans hN
  have h16 : h 60 16 = nI L := hw.symm.trans hww
  -- what a refused text leaves behind
  have keep : ∀ (h1 : zH) (f1 g1 f2 g2 : Nat → Int32), h1 = hR h f1 g1 → f1 1 = 0 → f2 16 = 0 → (∀ j, j ≤ 15 ∨ 27 ≤ j → f2 j = h1 60 j) → (∀ i, i < 62 + 200 * N → g2 i = h1 61 i) → zRel (hM h1 f2 g2) := by
    intro h1 f1 g1 f2 g2 e1 a1 a16 aj ag
    subst e1
    have o : ∀ c, c ≠ 7 → c ≠ 9 → c ≠ 60 → c ≠ 61 → hM (hR h f1 g1) f2 g2 c = h c := by
      intro c c7 c9 c60 c61
      unfold hM hR
      rw [if_neg c60, if_neg c61, if_neg c7, if_neg c9]
    have o60 : hM (hR h f1 g1) f2 g2 60 = f2 := rfl
    have o61 : hM (hR h f1 g1) f2 g2 61 = g2 := rfl
    have o7 : hM (hR h f1 g1) f2 g2 7 = f1 := rfl
    have aj' : ∀ j, j ≤ 15 ∨ 27 ≤ j → f2 j = h 60 j := aj
    have ag' : ∀ i, i < 62 + 200 * N → g2 i = h 61 i := ag
    refine ⟨n, m, N, ⟨?_, hm⟩, ?_, ⟨?_, ?_⟩, ?_, ?_, ?_, ?_⟩
    · rw [o61]
      exact zSt_row hSt (fun j hj => o _ (by omega) (by omega) (by omega) (by omega)) (fun t _ => by rw [o 2 (by omega) (by omega) (by omega) (by omega)]) (fun t _ => by rw [o 3 (by omega) (by omega) (by omega) (by omega)]) (fun t _ => by rw [o 4 (by omega) (by omega) (by omega) (by omega)]) (fun t _ => by rw [o 5 (by omega) (by omega) (by omega) (by omega)]) ag'
    · rw [o60, aj' 12 (by omega)]; exact hu
    · rw [o60, aj' 3 (by omega), o 0 (by omega) (by omega) (by omega) (by omega)]; exact hI.1
    · rw [o 0 (by omega) (by omega) (by omega) (by omega)]
      rcases hI.2 with q | ⟨q, n1, m1, N1, q1, q2, q3⟩
      · exact Or.inl q
      · refine Or.inr ⟨q, n1, m1, N1, ?_, q2, q3⟩
        rw [o 62 (by omega) (by omega) (by omega) (by omega)]
        exact zSt_keep q1 (fun j hj => o _ (by omega) (by omega) (by omega) (by omega)) (fun c' a b => o _ (by omega) (by omega) (by omega) (by omega))
    · exact rSheets_keep hSh (fun c' hc' => o _ (by omega) (by omega) (by omega) (by omega))
    · exact rSlots_keep hSl (fun c' hc' => o _ (by omega) (by omega) (by omega) (by omega))
    · rw [o60, aj' 31 (by omega), o 0 (by omega) (by omega) (by omega) (by omega), o 59 (by omega) (by omega) (by omega) (by omega), o 78 (by omega) (by omega) (by omega) (by omega)]; exact hNu
    · rw [o60, o7, a1, a16]
      exact ⟨rfl, 0, by omega, rfl, fun i hi => absurd hi (Nat.not_lt_zero i)⟩
  have e83 : d + 130 = (d + 6) + 124 := by omega
  rw [e83]
  refine xt83 hV hT8 hww hN' hN14 (fun e he f1 g1 a1 => ?_) (fun v hv q f1 g1 a1 => ?_) (fun key ws k he q hkey hws hgo h1 o a7 a10 a17 a2 a3 a4 a5 a5w => ?_)
  · refine zPo_in rfl rfl ?_
    refine yt177 (h := hR h f1 g1) hV hT74 h16 hN hN14 (fun e' he' f2 g2 a16 aj ag => ?_) (fun v hv => ?_) (fun key ws k hk => ?_)
    · rw [he] at he'
      cases he'
      exact zPq_in rfl (hQ _ _ (keep _ f1 g1 f2 g2 rfl a1 a16 aj ag) rfl rfl)
    · rw [he] at hv; cases hv
    · rw [he] at hk; cases hk
  · refine zPo_in rfl rfl ?_
    refine yt177 (h := hR h f1 g1) hV hT74 h16 hN hN14 (fun e' he' => ?_) (fun v hv q f2 g2 a16 aj ag => ?_) (fun key ws k hk q2 => absurd q2 q)
    · rw [hv] at he'; cases he'
    · exact zPq_in rfl (hQ _ _ (keep _ f1 g1 f2 g2 rfl a1 a16 aj ag) rfl rfl)
  · have o' : ∀ c, 18 ≤ c → h1 c = h c := fun c hc => o c (by omega) (by omega) (by omega) (by omega) (by omega) (by omega) (by omega) (by omega)
    refine zPo_in (o' 84 (by omega)) (o' 85 (by omega)) ?_
    refine yt177 (h := h1) hV (by rw [o' 74 (by omega)]; exact hT74) (by rw [o' 60 (by omega)]; exact h16) (by rw [o' 61 (by omega)]; exact hN) hN14 (fun e' he' => ?_) (fun v hv q2 => absurd q q2) (fun key' ws' k' hk' q2 f2 g2 a16 aj ag r1 rk rp rm rs => ?_)
    · rw [he] at he'; cases he'
    · rw [he] at hk'
      cases hk'
      rw [o' 60 (by omega)] at aj
      rw [o' 61 (by omega)] at ag
      have oo : ∀ c, c ≠ 2 → c ≠ 3 → c ≠ 4 → c ≠ 5 → c ≠ 7 → c ≠ 9 → c ≠ 10 → c ≠ 17 → c ≠ 60 → c ≠ 61 → hM h1 f2 g2 c = h c := by
        intro c c2 c3 c4 c5 c7 c9 c10 c17 c60 c61
        unfold hM
        rw [if_neg c60, if_neg c61]
        exact o c c2 c3 c4 c5 c7 c9 c10 c17
      have o60 : hM h1 f2 g2 60 = f2 := rfl
      have o61 : hM h1 f2 g2 61 = g2 := rfl
      have o18 : ∀ c, 18 ≤ c → c ≠ 60 → c ≠ 61 → hM h1 f2 g2 c = h c := fun c hc a b => oo c (by omega) (by omega) (by omega) (by omega) (by omega) (by omega) (by omega) (by omega) a b
      refine zPq_in rfl (hQ _ _ ⟨n, m, N + 1, ⟨?_, hm⟩, ?_, ⟨?_, ?_⟩, ?_, ?_, ?_, ?_⟩ (o18 84 (by omega) (by omega) (by omega)) (o18 85 (by omega) (by omega) (by omega)))
      · rw [o61]
        exact zSt_new hSt q hkey hws hgo a10 (fun j j1 j7 => oo _ (by omega) (by omega) (by omega) (by omega) (by omega) (by omega) (by omega) (by omega) (by omega) (by omega)) a17 a2 a3 a4 a5 a5w ag r1 rk rp rm rs
      · rw [o60, aj 12 (by omega)]; exact hu
      · rw [o60, aj 3 (by omega), oo 0 (by omega) (by omega) (by omega) (by omega) (by omega) (by omega) (by omega) (by omega) (by omega) (by omega)]; exact hI.1
      · rw [oo 0 (by omega) (by omega) (by omega) (by omega) (by omega) (by omega) (by omega) (by omega) (by omega) (by omega)]
        rcases hI.2 with q | ⟨q, n1, m1, N1, q1, q2, q3⟩
        · exact Or.inl q
        · refine Or.inr ⟨q, n1, m1, N1, ?_, q2, by omega⟩
          rw [o18 62 (by omega) (by omega) (by omega)]
          refine zSt_row q1 (fun j hj => o18 _ (by omega) (by omega) (by omega)) (fun t ht => ?_) (fun t ht => ?_) (fun t ht => ?_) (fun i hi => a5 i (by omega)) (fun _ _ => rfl)
          · show h1 2 t = h 2 t
            rw [a2, pk_un (by omega)]
          · show h1 3 t = h 3 t
            rw [a3, pk_un (by omega)]
          · show h1 4 t = h 4 t
            rw [a4, pk_un (by omega)]
      · exact rSheets_keep hSh (fun c' hc' => o18 _ (by omega) (by omega) (by omega))
      · exact rSlots_keep hSl (fun c' hc' => o18 _ (by omega) (by omega) (by omega))
      · rw [o60, aj 31 (by omega), oo 0 (by omega) (by omega) (by omega) (by omega) (by omega) (by omega) (by omega) (by omega) (by omega) (by omega), o18 59 (by omega) (by omega) (by omega), o18 78 (by omega) (by omega) (by omega)]; exact hNu
      · have o7 : hM h1 f2 g2 7 = h1 7 := rfl
        rw [o60, o7, a7, a16]
        exact ⟨rfl, 0, by omega, rfl, fun i hi => absurd hi (Nat.not_lt_zero i)⟩
end
