/-! the reference's parser: a TEXT whole -/
section
variable {d : Nat} {Q : Option Value → zH → Prop} {h : zH} {f f0 g g0 g1 f' g' B : Nat → Int32} {x0 x1 x2 x3 v sd c b : Int32} {L k p e z key n o j ld la N : Nat} {σ : pxS} {l : zL} {P : pxS → pxR} {ws w1 : List Int32}
theorem ym166 (hV : pxV B L) (hT : ∀ i, i < L → h 74 i = B i) (hl : mL B f σ) (hσ : pxG B L σ) (hg : σ.2.2.2 = false) (h3 : ¬ x3 = 0) : zM (d + 1) 166 [.ref 60, .int x0, .int x1, .int x2, .int x3] (hM h f g) Q = Q (some (.int (if pxSp B σ [x0, x1, x2, x3] = true then 1 else 0))) (hM h f g) := by
  have h96 := hV.1
  obtain ⟨l17, l18, l19, -, -, -⟩ := hl
  have e1 : (pxTo σ = 1) = (σ.2.2.1 = -2) := by
    unfold pxTo
    rw [hg]
    apply propext
    by_cases a1 : σ.2.2.1 = -1
    · rw [if_pos a1, a1]; decide
    · rw [if_neg a1]
      by_cases a2 : σ.2.2.1 = -2
      · rw [if_pos a2, if_neg (by decide), a2]; exact ⟨fun _ => rfl, fun _ => rfl⟩
      · rw [if_neg a2]
        refine ⟨fun z => ?_, fun z => absurd z a2⟩
        exfalso
        split at z
        · rw [if_neg (by decide)] at z
          split at z <;> exact absurd z (by decide)
        · exact absurd z (by decide)
  rw [m166]
  unfold pxSp
  by_cases q1 : σ.2.2.1 = -2
  · obtain ⟨lt1, lt2⟩ := pxG_lt hV hσ (by rw [q1]; decide)
    have enL := hσ.2.1
    have e4 : (nI (σ.2.1 - σ.1) = 4) = (σ.2.1 - σ.1 = 4) := propext (nI_eq (b := 4) (by omega) (by omega))
    by_cases q2 : σ.2.1 - σ.1 = 4
    · have i1 : nI σ.1 + 1 = nI (σ.1 + 1) := nI_1 _
      have i2 : nI σ.1 + 2 = nI (σ.1 + 2) := nI_add _ 2
      have i3 : nI σ.1 + 3 = nI (σ.1 + 3) := nI_add _ 3
      by_cases a0 : B σ.1 = x0
      · by_cases a1 : B (σ.1 + 1) = x1
        · by_cases a2 : B (σ.1 + 2) = x2
          · by_cases a3 : B (σ.1 + 3) = x3
            · simp (decide := true) only [↓r166_0, ↓r166_2, ↓r166_5, ↓r166_6, ↓r166_9, ↓r166_10, ↓r166_12, ↓r166_13, ↓r166_16, ↓r166_17, ↓r166_20, ↓r166_21, ↓r166_24, ↓r166_25, ↓r166_28, ↓r166_29, ↓r166_31, ↓r166_34, ↓r166_35, ↓r166_38, ↓r166_39, ↓r166_42, ↓r166_43, ↓r166_44, ↓r166_47, ↓r166_48, ↓r166_51, ↓r166_52, ↓r166_55, ↓r166_56, ↓r166_57, ↓r166_58, ↓r166_59, ↓r166_62, ↓r166_63, ↓r166_66, ↓r166_67, ↓r166_70, ↓r166_71, ↓r166_72, ↓r166_73, ↓r166_74, ↓r166_77, ↓r166_79, ↓r166_82, ↓r166_83, ↓r166_86, ↓r166_87, ↓r166_90, ↓r166_91, ↓r166_92, ↓r166_93, ↓r166_95, ↓r166_98, ↓r166_99, ↓r166_102, ↓r166_103f, ↓r166_103t, if_neg h3, hM_60, l17, l18, l19, e1, if_pos q1, pk_sub (Nat.le_of_lt lt2), e4, if_pos q2, zl_74, hM_74, i1, i2, i3, zok_nI (by omega : σ.1 < 96) (by omega), zok_nI (by omega : σ.1 + 1 < 96) (by omega), zok_nI (by omega : σ.1 + 2 < 96) (by omega), zok_nI (by omega : σ.1 + 3 < 96) (by omega), zix_nI (by omega : σ.1 < 2 ^ 31), zix_nI (by omega : σ.1 + 1 < 2 ^ 31), zix_nI (by omega : σ.1 + 2 < 2 ^ 31), zix_nI (by omega : σ.1 + 3 < 2 ^ 31), hT σ.1 (by omega), hT (σ.1 + 1) (by omega), hT (σ.1 + 2) (by omega), hT (σ.1 + 3) (by omega), true_and, if_pos a0, if_pos a1, if_pos a2, if_pos a3]
              rw [if_pos]
              simp [q1, q2, a0, a1, a2, a3]
            · simp (decide := true) only [↓r166_0, ↓r166_2, ↓r166_5, ↓r166_6, ↓r166_9, ↓r166_10, ↓r166_12, ↓r166_13, ↓r166_16, ↓r166_17, ↓r166_20, ↓r166_21, ↓r166_24, ↓r166_25, ↓r166_28, ↓r166_29, ↓r166_31, ↓r166_34, ↓r166_35, ↓r166_38, ↓r166_39, ↓r166_42, ↓r166_43, ↓r166_44, ↓r166_47, ↓r166_48, ↓r166_51, ↓r166_52, ↓r166_55, ↓r166_56, ↓r166_57, ↓r166_58, ↓r166_59, ↓r166_62, ↓r166_63, ↓r166_66, ↓r166_67, ↓r166_70, ↓r166_71, ↓r166_72, ↓r166_73, ↓r166_74, ↓r166_77, ↓r166_79, ↓r166_82, ↓r166_83, ↓r166_86, ↓r166_87, ↓r166_90, ↓r166_91, ↓r166_92, ↓r166_93, ↓r166_95, ↓r166_98, ↓r166_99, ↓r166_102, ↓r166_103f, ↓r166_103t, if_neg h3, hM_60, l17, l18, l19, e1, if_pos q1, pk_sub (Nat.le_of_lt lt2), e4, if_pos q2, zl_74, hM_74, i1, i2, i3, zok_nI (by omega : σ.1 < 96) (by omega), zok_nI (by omega : σ.1 + 1 < 96) (by omega), zok_nI (by omega : σ.1 + 2 < 96) (by omega), zok_nI (by omega : σ.1 + 3 < 96) (by omega), zix_nI (by omega : σ.1 < 2 ^ 31), zix_nI (by omega : σ.1 + 1 < 2 ^ 31), zix_nI (by omega : σ.1 + 2 < 2 ^ 31), zix_nI (by omega : σ.1 + 3 < 2 ^ 31), hT σ.1 (by omega), hT (σ.1 + 1) (by omega), hT (σ.1 + 2) (by omega), hT (σ.1 + 3) (by omega), true_and, if_pos a0, if_pos a1, if_pos a2, if_neg a3]
              rw [if_neg]
              simp [a3]
          · simp (decide := true) only [↓r166_0, ↓r166_2, ↓r166_5, ↓r166_6, ↓r166_9, ↓r166_10, ↓r166_12, ↓r166_13, ↓r166_16, ↓r166_17, ↓r166_20, ↓r166_21, ↓r166_24, ↓r166_25, ↓r166_28, ↓r166_29, ↓r166_31, ↓r166_34, ↓r166_35, ↓r166_38, ↓r166_39, ↓r166_42, ↓r166_43, ↓r166_44, ↓r166_47, ↓r166_48, ↓r166_51, ↓r166_52, ↓r166_55, ↓r166_56, ↓r166_57, ↓r166_58, ↓r166_59, ↓r166_62, ↓r166_63, ↓r166_66, ↓r166_67, ↓r166_70, ↓r166_71, ↓r166_72, ↓r166_73, ↓r166_74, ↓r166_77, ↓r166_79, ↓r166_82, ↓r166_83, ↓r166_86, ↓r166_87, ↓r166_90, ↓r166_91, ↓r166_92, ↓r166_93, ↓r166_95, ↓r166_98, ↓r166_99, ↓r166_102, ↓r166_103f, ↓r166_103t, if_neg h3, hM_60, l17, l18, l19, e1, if_pos q1, pk_sub (Nat.le_of_lt lt2), e4, if_pos q2, zl_74, hM_74, i1, i2, zok_nI (by omega : σ.1 < 96) (by omega), zok_nI (by omega : σ.1 + 1 < 96) (by omega), zok_nI (by omega : σ.1 + 2 < 96) (by omega), zix_nI (by omega : σ.1 < 2 ^ 31), zix_nI (by omega : σ.1 + 1 < 2 ^ 31), zix_nI (by omega : σ.1 + 2 < 2 ^ 31), hT σ.1 (by omega), hT (σ.1 + 1) (by omega), hT (σ.1 + 2) (by omega), true_and, if_pos a0, if_pos a1, if_neg a2]
            rw [if_neg]
            simp [a2]
        · simp (decide := true) only [↓r166_0, ↓r166_2, ↓r166_5, ↓r166_6, ↓r166_9, ↓r166_10, ↓r166_12, ↓r166_13, ↓r166_16, ↓r166_17, ↓r166_20, ↓r166_21, ↓r166_24, ↓r166_25, ↓r166_28, ↓r166_29, ↓r166_31, ↓r166_34, ↓r166_35, ↓r166_38, ↓r166_39, ↓r166_42, ↓r166_43, ↓r166_44, ↓r166_47, ↓r166_48, ↓r166_51, ↓r166_52, ↓r166_55, ↓r166_56, ↓r166_57, ↓r166_58, ↓r166_59, ↓r166_62, ↓r166_63, ↓r166_66, ↓r166_67, ↓r166_70, ↓r166_71, ↓r166_72, ↓r166_73, ↓r166_74, ↓r166_77, ↓r166_79, ↓r166_82, ↓r166_83, ↓r166_86, ↓r166_87, ↓r166_90, ↓r166_91, ↓r166_92, ↓r166_93, ↓r166_95, ↓r166_98, ↓r166_99, ↓r166_102, ↓r166_103f, ↓r166_103t, if_neg h3, hM_60, l17, l18, l19, e1, if_pos q1, pk_sub (Nat.le_of_lt lt2), e4, if_pos q2, zl_74, hM_74, i1, zok_nI (by omega : σ.1 < 96) (by omega), zok_nI (by omega : σ.1 + 1 < 96) (by omega), zix_nI (by omega : σ.1 < 2 ^ 31), zix_nI (by omega : σ.1 + 1 < 2 ^ 31), hT σ.1 (by omega), hT (σ.1 + 1) (by omega), true_and, if_pos a0, if_neg a1]
          rw [if_neg]
          simp [a1]
      · simp (decide := true) only [↓r166_0, ↓r166_2, ↓r166_5, ↓r166_6, ↓r166_9, ↓r166_10, ↓r166_12, ↓r166_13, ↓r166_16, ↓r166_17, ↓r166_20, ↓r166_21, ↓r166_24, ↓r166_25, ↓r166_28, ↓r166_29, ↓r166_31, ↓r166_34, ↓r166_35, ↓r166_38, ↓r166_39, ↓r166_42, ↓r166_43, ↓r166_44, ↓r166_47, ↓r166_48, ↓r166_51, ↓r166_52, ↓r166_55, ↓r166_56, ↓r166_57, ↓r166_58, ↓r166_59, ↓r166_62, ↓r166_63, ↓r166_66, ↓r166_67, ↓r166_70, ↓r166_71, ↓r166_72, ↓r166_73, ↓r166_74, ↓r166_77, ↓r166_79, ↓r166_82, ↓r166_83, ↓r166_86, ↓r166_87, ↓r166_90, ↓r166_91, ↓r166_92, ↓r166_93, ↓r166_95, ↓r166_98, ↓r166_99, ↓r166_102, ↓r166_103f, ↓r166_103t, if_neg h3, hM_60, l17, l18, l19, e1, if_pos q1, pk_sub (Nat.le_of_lt lt2), e4, if_pos q2, zl_74, hM_74, zok_nI (by omega : σ.1 < 96) (by omega), zix_nI (by omega : σ.1 < 2 ^ 31), hT σ.1 (by omega), true_and, if_neg a0]
        rw [if_neg]
        simp [a0]
    · simp (decide := true) only [↓r166_0, ↓r166_2, ↓r166_5, ↓r166_6, ↓r166_9, ↓r166_10, ↓r166_12, ↓r166_13, ↓r166_16, ↓r166_17, ↓r166_20, ↓r166_21, ↓r166_24, ↓r166_25, ↓r166_28, ↓r166_29, ↓r166_31, ↓r166_34, ↓r166_35, ↓r166_38, ↓r166_39, ↓r166_42, ↓r166_43, ↓r166_44, ↓r166_47, ↓r166_48, ↓r166_51, ↓r166_52, ↓r166_55, ↓r166_56, ↓r166_57, ↓r166_58, ↓r166_59, ↓r166_62, ↓r166_63, ↓r166_66, ↓r166_67, ↓r166_70, ↓r166_71, ↓r166_72, ↓r166_73, ↓r166_74, ↓r166_77, ↓r166_79, ↓r166_82, ↓r166_83, ↓r166_86, ↓r166_87, ↓r166_90, ↓r166_91, ↓r166_92, ↓r166_93, ↓r166_95, ↓r166_98, ↓r166_99, ↓r166_102, ↓r166_103f, ↓r166_103t, if_neg h3, hM_60, l17, l18, l19, e1, if_pos q1, pk_sub (Nat.le_of_lt lt2), e4, if_neg q2]
      rw [if_neg]
      simp [q2]
  · simp (decide := true) only [↓r166_0, ↓r166_2, ↓r166_5, ↓r166_6, ↓r166_9, ↓r166_10, ↓r166_12, ↓r166_13, ↓r166_16, ↓r166_17, ↓r166_20, ↓r166_21, ↓r166_24, ↓r166_25, ↓r166_28, ↓r166_29, ↓r166_31, ↓r166_34, ↓r166_35, ↓r166_38, ↓r166_39, ↓r166_42, ↓r166_43, ↓r166_44, ↓r166_47, ↓r166_48, ↓r166_51, ↓r166_52, ↓r166_55, ↓r166_56, ↓r166_57, ↓r166_58, ↓r166_59, ↓r166_62, ↓r166_63, ↓r166_66, ↓r166_67, ↓r166_70, ↓r166_71, ↓r166_72, ↓r166_73, ↓r166_74, ↓r166_77, ↓r166_79, ↓r166_82, ↓r166_83, ↓r166_86, ↓r166_87, ↓r166_90, ↓r166_91, ↓r166_92, ↓r166_93, ↓r166_95, ↓r166_98, ↓r166_99, ↓r166_102, ↓r166_103f, ↓r166_103t, if_neg h3, hM_60, l19, e1, if_neg q1]
    rw [if_neg]
    simp [q1]
def pxKi (r : Option Nat) : Int32 := match r with | none => -1 | some k => nI k
theorem ym167 (hV : pxV B L) (hT : ∀ i, i < L → h 74 i = B i) (hl : mL B f σ) (hσ : pxG B L σ) (hg : σ.2.2.2 = false) : zM (d + 2) 167 [.ref 60] (hM h f g) Q = Q (some (.int (pxKi (pxKy B σ)))) (hM h f g) := by
  have e86 : ∀ Q', zM (d + 1) 166 [.ref 60, .int 116, .int 111, .int 108, .int 108] (hM h f g) Q' = Q' (some (.int (if pxSp B σ (pxWo 86) = true then 1 else 0))) (hM h f g) := fun Q' => ym166 hV hT hl hσ hg (by decide)
  have e87 : ∀ Q', zM (d + 1) 166 [.ref 60, .int 112, .int 117, .int 108, .int 108] (hM h f g) Q' = Q' (some (.int (if pxSp B σ (pxWo 87) = true then 1 else 0))) (hM h f g) := fun Q' => ym166 hV hT hl hσ hg (by decide)
  have e88 : ∀ Q', zM (d + 1) 166 [.ref 60, .int 102, .int 105, .int 110, .int 101] (hM h f g) Q' = Q' (some (.int (if pxSp B σ (pxWo 88) = true then 1 else 0))) (hM h f g) := fun Q' => ym166 hV hT hl hσ hg (by decide)
  rw [m167]
  unfold pxKy
  by_cases q1 : pxSp B σ (pxWo 86) = true
  · simp (decide := true) only [↓r167_0, ↓r167_1, ↓r167_3, ↓r167_5, ↓r167_7, ↓r167_9, ↓r167_12, ↓r167_15, ↓r167_16, ↓r167_17, ↓r167_18, ↓r167_20, ↓r167_22, ↓r167_24, ↓r167_26, ↓r167_29, ↓r167_32, ↓r167_33, ↓r167_34, ↓r167_35, ↓r167_37, ↓r167_39, ↓r167_41, ↓r167_43, ↓r167_46, ↓r167_49, ↓r167_50, ↓r167_53, ↓r167_54, e86, Option.toList, List.cons_append, List.nil_append, if_pos q1, ↓reduceIte]
    rfl
  · by_cases q2 : pxSp B σ (pxWo 87) = true
    · simp (decide := true) only [↓r167_0, ↓r167_1, ↓r167_3, ↓r167_5, ↓r167_7, ↓r167_9, ↓r167_12, ↓r167_15, ↓r167_16, ↓r167_17, ↓r167_18, ↓r167_20, ↓r167_22, ↓r167_24, ↓r167_26, ↓r167_29, ↓r167_32, ↓r167_33, ↓r167_34, ↓r167_35, ↓r167_37, ↓r167_39, ↓r167_41, ↓r167_43, ↓r167_46, ↓r167_49, ↓r167_50, ↓r167_53, ↓r167_54, e86, e87, Option.toList, List.cons_append, List.nil_append, if_neg q1, if_pos q2, ↓reduceIte]
      rfl
    · by_cases q3 : pxSp B σ (pxWo 88) = true
      · simp (decide := true) only [↓r167_0, ↓r167_1, ↓r167_3, ↓r167_5, ↓r167_7, ↓r167_9, ↓r167_12, ↓r167_15, ↓r167_16, ↓r167_17, ↓r167_18, ↓r167_20, ↓r167_22, ↓r167_24, ↓r167_26, ↓r167_29, ↓r167_32, ↓r167_33, ↓r167_34, ↓r167_35, ↓r167_37, ↓r167_39, ↓r167_41, ↓r167_43, ↓r167_46, ↓r167_49, ↓r167_50, ↓r167_53, ↓r167_54, e86, e87, e88, Option.toList, List.cons_append, List.nil_append, if_neg q1, if_neg q2, if_pos q3, ↓reduceIte]
        rfl
      · simp (decide := true) only [↓r167_0, ↓r167_1, ↓r167_3, ↓r167_5, ↓r167_7, ↓r167_9, ↓r167_12, ↓r167_15, ↓r167_16, ↓r167_17, ↓r167_18, ↓r167_20, ↓r167_22, ↓r167_24, ↓r167_26, ↓r167_29, ↓r167_32, ↓r167_33, ↓r167_34, ↓r167_35, ↓r167_37, ↓r167_39, ↓r167_41, ↓r167_43, ↓r167_46, ↓r167_49, ↓r167_50, ↓r167_53, ↓r167_54, e86, e87, e88, Option.toList, List.cons_append, List.nil_append, if_neg q1, if_neg q2, if_neg q3, ↓reduceIte]
        rfl
def pxLa (N : Nat) : Nat := if N < 14 then 62 + 200 * N + 4 else 2862
theorem px0_gl : (px0 B L).2.2.2 = false := by
  unfold px0 pxNx
  have e : pxW (-1) = false := rfl
  simp [e]
/-- parse -/
theorem ym176 (hV : pxV B L) (hT : ∀ i, i < L → h 74 i = B i) (hL : f 16 = nI L) (hg1 : g 1 = nI N) (hN : N ≤ 14)
    (ok : ∀ key ws k, pxTx B L = .inr (key, ws, k) → key < 3 → ∀ f' g', f' 16 = 0 → f' 24 = nI ws.length → f' 26 = nI k → (∀ j, j ≤ 15 ∨ 27 ≤ j → f' j = f j) → (∀ i, i < pxLa N → g' i = g i) → (∀ i, i < ws.length → stepR key (g' (pxLa N + 2 * i)) (g' (pxLa N + 2 * i + 1)) (ws.getD i 0)) → Q (some (.int (nI key))) (hM h f' g'))
    (bad : ∀ e, pxTx B L = .inl e → ∀ f' g', f' 16 = 0 → f' 17 = nI e → (∀ j, j ≤ 15 ∨ 27 ≤ j → f' j = f j) → (∀ i, i < pxLa N → g' i = g i) → Q (some (.int (-1))) (hM h f' g')) : zM (d + 122) 176 [.ref 60] (hM h f g) Q := by
  have h96 := hV.1
  have hla : pxLa N ≤ 2862 := by unfold pxLa; split <;> omega
  have main : ∀ f1 : Nat → Int32, f1 16 = nI L → f1 18 = 0 → f1 19 = 3 → f1 22 = 0 → f1 23 = 0 → f1 24 = 0 → f1 25 = nI (pxLa N) → f1 26 = 0 → (∀ j, j ≤ 15 ∨ 27 ≤ j → f1 j = f j) → zR (d + 121) 176 Q 63 [some (.ref 60), none, none] [] (hM h f1 g) := by
    intro f1 a16 a18 a19 a22 a23 a24 a25 a26 aj
    simp only [↓r176_0, ↓r176_1, ↓r176_2, ↓r176_5, ↓r176_6, ↓r176_7, ↓r176_10, ↓r176_11, ↓r176_12, ↓r176_15, ↓r176_16, ↓r176_17, ↓r176_20, ↓r176_21, ↓r176_22, ↓r176_25, ↓r176_26, ↓r176_27, ↓r176_30, ↓r176_31, ↓r176_32, ↓r176_35, ↓r176_36, ↓r176_37, ↓r176_39, ↓r176_42, ↓r176_43, ↓r176_44, ↓r176_47, ↓r176_48, ↓r176_49, ↓r176_52, ↓r176_53, ↓r176_54, ↓r176_57, ↓r176_60, ↓r176_63, ↓r176_64, ↓r176_68, ↓r176_71, ↓r176_72, ↓r176_73, ↓r176_76, ↓r176_77, ↓r176_80, ↓r176_81, ↓r176_82, ↓r176_83, ↓r176_86, ↓r176_87, ↓r176_90, ↓r176_91, ↓r176_92, ↓r176_95, ↓r176_98, ↓r176_99, ↓r176_102, ↓r176_105, ↓r176_106, ↓r176_109, ↓r176_110, ↓r176_111, ↓r176_112, ↓r176_113, ↓r176_116, ↓r176_117, ↓r176_120, ↓r176_121, ↓r176_124, ↓r176_125]
    refine y164 (σ := (0, 0, -1, false)) hV hT a16 a18 (Nat.zero_le L) (fun w => absurd w (by decide)) (fun _ => by rw [a19]; decide) (fun f2 l2 b2 => ?_)
    have G0 := px0_G (L := L) hV
    have l2 : mL B f2 (px0 B L) := l2
    unfold pxTx at ok bad
    have c16 : f2 16 = nI L := by rw [b2 16 (by omega)]; exact a16
    have cj : ∀ j, j ≤ 15 ∨ 27 ≤ j → f2 j = f j := fun j hj => by rw [b2 j (by omega)]; exact aj j hj
    simp only [Option.toList, List.cons_append, List.nil_append]
    rw [r176_67]
    simp only [↓r176_0, ↓r176_1, ↓r176_2, ↓r176_5, ↓r176_6, ↓r176_7, ↓r176_10, ↓r176_11, ↓r176_12, ↓r176_15, ↓r176_16, ↓r176_17, ↓r176_20, ↓r176_21, ↓r176_22, ↓r176_25, ↓r176_26, ↓r176_27, ↓r176_30, ↓r176_31, ↓r176_32, ↓r176_35, ↓r176_36, ↓r176_37, ↓r176_39, ↓r176_42, ↓r176_43, ↓r176_44, ↓r176_47, ↓r176_48, ↓r176_49, ↓r176_52, ↓r176_53, ↓r176_54, ↓r176_57, ↓r176_60, ↓r176_63, ↓r176_64, ↓r176_68, ↓r176_71, ↓r176_72, ↓r176_73, ↓r176_76, ↓r176_77, ↓r176_80, ↓r176_81, ↓r176_83, ↓r176_86, ↓r176_87, ↓r176_90, ↓r176_91, ↓r176_92, ↓r176_95, ↓r176_98, ↓r176_99, ↓r176_102, ↓r176_105, ↓r176_106, ↓r176_109, ↓r176_110, ↓r176_111, ↓r176_112, ↓r176_113, ↓r176_116, ↓r176_117, ↓r176_120, ↓r176_121, ↓r176_124, ↓r176_125, ym167 hV hT l2 G0 px0_gl, Option.toList, List.cons_append, List.nil_append]
    have fin0 : ∀ e f3 g3 k3, f3 17 = nI e → (∀ j, j ≤ 15 ∨ 27 ≤ j → f3 j = f j) → (∀ i, i < pxLa N → g3 i = g i) → (∀ f' g', f' 16 = 0 → f' 17 = nI e → (∀ j, j ≤ 15 ∨ 27 ≤ j → f' j = f j) → (∀ i, i < pxLa N → g' i = g i) → Q (some (.int (-1))) (hM h f' g')) → zR (d + 121) 176 Q 111 [some (.ref 60), some (.int k3), some (.int 0)] [] (hM h f3 g3) := by
      intro e f3 g3 k3 e17 ej eg K
      simp (decide := true) only [↓r176_0, ↓r176_1, ↓r176_2, ↓r176_5, ↓r176_6, ↓r176_7, ↓r176_10, ↓r176_11, ↓r176_12, ↓r176_15, ↓r176_16, ↓r176_17, ↓r176_20, ↓r176_21, ↓r176_22, ↓r176_25, ↓r176_26, ↓r176_27, ↓r176_30, ↓r176_31, ↓r176_32, ↓r176_35, ↓r176_36, ↓r176_37, ↓r176_39, ↓r176_42, ↓r176_43, ↓r176_44, ↓r176_47, ↓r176_48, ↓r176_49, ↓r176_52, ↓r176_53, ↓r176_54, ↓r176_57, ↓r176_60, ↓r176_63, ↓r176_64, ↓r176_67, ↓r176_68, ↓r176_71, ↓r176_72, ↓r176_73, ↓r176_76, ↓r176_77, ↓r176_80, ↓r176_81, ↓r176_82, ↓r176_83, ↓r176_86, ↓r176_87, ↓r176_90, ↓r176_91, ↓r176_92, ↓r176_95, ↓r176_98, ↓r176_99, ↓r176_102, ↓r176_105, ↓r176_106, ↓r176_109, ↓r176_110, ↓r176_111, ↓r176_112, ↓r176_113, ↓r176_116, ↓r176_117, ↓r176_120, ↓r176_121, ↓r176_124, ↓r176_125, hM_60, hM_p60, ↓reduceIte]
      exact K _ _ pk_us (by rw [pk_un (by omega)]; exact e17) (fun j hj => by rw [pk_un (by omega)]; exact ej j hj) eg
    cases hk : pxKy B (px0 B L) with
    | none =>
      simp only [hk] at ok bad
      have e0 : pxKi none = -1 := rfl
      simp (decide := true) only [e0, ↓reduceIte]
      rw [r176_82]
      simp (decide := true) only [↓r176_0, ↓r176_1, ↓r176_2, ↓r176_5, ↓r176_6, ↓r176_7, ↓r176_10, ↓r176_11, ↓r176_12, ↓r176_15, ↓r176_16, ↓r176_17, ↓r176_20, ↓r176_21, ↓r176_22, ↓r176_25, ↓r176_26, ↓r176_27, ↓r176_30, ↓r176_31, ↓r176_32, ↓r176_35, ↓r176_36, ↓r176_37, ↓r176_39, ↓r176_42, ↓r176_43, ↓r176_44, ↓r176_47, ↓r176_48, ↓r176_49, ↓r176_52, ↓r176_53, ↓r176_54, ↓r176_57, ↓r176_60, ↓r176_63, ↓r176_64, ↓r176_67, ↓r176_68, ↓r176_71, ↓r176_72, ↓r176_73, ↓r176_76, ↓r176_77, ↓r176_80, ↓r176_81, ↓r176_82, ↓r176_83, ↓r176_86, ↓r176_87, ↓r176_90, ↓r176_91, ↓r176_92, ↓r176_95, ↓r176_98, ↓r176_99, ↓r176_102, ↓r176_105, ↓r176_106, ↓r176_109, ↓r176_110, ↓r176_112, ↓r176_113, ↓r176_116, ↓r176_117, ↓r176_120, ↓r176_121, ↓r176_124, ↓r176_125, ↓reduceIte]
      exact fin0 _ _ _ _ l2.1 cj (fun _ _ => rfl) (bad _ rfl)
    | some key =>
      obtain ⟨hkey, hso⟩ := pxKy_in hk
      simp only [hk] at ok bad
      have e0 : pxKi (some key) = nI key := rfl
      have G1 : mGd B L (pxLa N) f f2 (px0 B L) 0 0 0 0 := ⟨c16, l2, by rw [b2 22 (by omega)]; exact a22, by rw [b2 23 (by omega)]; exact a23, by rw [b2 24 (by omega)]; exact a24, by rw [b2 25 (by omega)]; exact a25, by rw [b2 26 (by omega)]; exact a26, cj⟩
      have GN := pxNx_G (σ := px0 B L) hV G0.2.1
      have nm1 : ¬ (px0 B L).2.2.1 = -1 := by rw [hso]; decide
      have ht : ¬ pxTo (px0 B L) = 4 := by unfold pxTo; rw [hso, px0_gl, if_neg (by decide), if_pos rfl]; decide
      simp (decide := true) only [e0, if_neg (nI_pos (by omega : key < 2 ^ 31)), ↓reduceIte]
      rw [r176_82]
      simp (decide := true) only [↓r176_0, ↓r176_1, ↓r176_2, ↓r176_5, ↓r176_6, ↓r176_7, ↓r176_10, ↓r176_11, ↓r176_12, ↓r176_15, ↓r176_16, ↓r176_17, ↓r176_20, ↓r176_21, ↓r176_22, ↓r176_25, ↓r176_26, ↓r176_27, ↓r176_30, ↓r176_31, ↓r176_32, ↓r176_35, ↓r176_36, ↓r176_37, ↓r176_39, ↓r176_42, ↓r176_43, ↓r176_44, ↓r176_47, ↓r176_48, ↓r176_49, ↓r176_52, ↓r176_53, ↓r176_54, ↓r176_57, ↓r176_60, ↓r176_63, ↓r176_64, ↓r176_67, ↓r176_68, ↓r176_71, ↓r176_72, ↓r176_73, ↓r176_76, ↓r176_77, ↓r176_80, ↓r176_81, ↓r176_83, ↓r176_86, ↓r176_87, ↓r176_90, ↓r176_91, ↓r176_92, ↓r176_95, ↓r176_98, ↓r176_99, ↓r176_102, ↓r176_105, ↓r176_106, ↓r176_109, ↓r176_110, ↓r176_112, ↓r176_113, ↓r176_116, ↓r176_117, ↓r176_120, ↓r176_121, ↓r176_124, ↓r176_125, ↓reduceIte]
      refine ym164 hV hT G1 G0 nm1 ht (fun f3 G3 => ?_)
      simp only [↓r176_0, ↓r176_1, ↓r176_2, ↓r176_5, ↓r176_6, ↓r176_7, ↓r176_10, ↓r176_11, ↓r176_12, ↓r176_15, ↓r176_16, ↓r176_17, ↓r176_20, ↓r176_21, ↓r176_22, ↓r176_25, ↓r176_26, ↓r176_27, ↓r176_30, ↓r176_31, ↓r176_32, ↓r176_35, ↓r176_36, ↓r176_37, ↓r176_39, ↓r176_42, ↓r176_43, ↓r176_44, ↓r176_47, ↓r176_48, ↓r176_49, ↓r176_52, ↓r176_53, ↓r176_54, ↓r176_57, ↓r176_60, ↓r176_63, ↓r176_64, ↓r176_67, ↓r176_68, ↓r176_71, ↓r176_72, ↓r176_73, ↓r176_76, ↓r176_77, ↓r176_80, ↓r176_81, ↓r176_83, ↓r176_86, ↓r176_87, ↓r176_90, ↓r176_91, ↓r176_92, ↓r176_95, ↓r176_98, ↓r176_99, ↓r176_102, ↓r176_105, ↓r176_106, ↓r176_109, ↓r176_110, ↓r176_112, ↓r176_113, ↓r176_116, ↓r176_117, ↓r176_120, ↓r176_121, ↓r176_124, ↓r176_125, Option.toList, List.cons_append, List.nil_append]
      have hpr := pxPc_pr (key := key) hV 17 0 0
      have hC := ym170E (f0 := f) hV hT hla (ym175 hV hT hla hkey 17 (d + 4) 0 0 (by omega) (by omega) (by omega)) hpr
      refine hC _ f3 g (pxNx B L (px0 B L)) 0 0 G3 GN.1 (Nat.zero_le _) (fun σ1 w1 k1 f4 g4 e4 G4 W4 => ?_) (fun e f4 g4 e4 b4 => ?_)
      · obtain ⟨a1, a2, a3⟩ := (pxE_pr hV hpr _ GN.1).2 _ _ _ e4
        simp only [e4] at ok bad
        obtain ⟨g16, gl4, g22, g23, g24, g25, g26, gj⟩ := id G4
        have h19 := gl4.2.2.1
        rw [Nat.zero_add] at g24
        have W0 : ∀ i, i < pxLa N → g4 i = g i := mWd_lo W4
        have W1 : ∀ i, i < w1.length → stepR key (g4 (pxLa N + 2 * i)) (g4 (pxLa N + 2 * i + 1)) (w1.getD i 0) := fun i hi => by
          have := W4.2 i hi
          rwa [Nat.zero_add] at this
        by_cases q : σ1.2.2.1 = -1
        · have ht0 : pxTo σ1 = 0 := by unfold pxTo; rw [if_pos q]
          simp only [if_pos q] at ok
          simp (decide := true) only [↓r176_0, ↓r176_1, ↓r176_2, ↓r176_5, ↓r176_6, ↓r176_7, ↓r176_10, ↓r176_11, ↓r176_12, ↓r176_15, ↓r176_16, ↓r176_17, ↓r176_20, ↓r176_21, ↓r176_22, ↓r176_25, ↓r176_26, ↓r176_27, ↓r176_30, ↓r176_31, ↓r176_32, ↓r176_35, ↓r176_36, ↓r176_37, ↓r176_39, ↓r176_42, ↓r176_43, ↓r176_44, ↓r176_47, ↓r176_48, ↓r176_49, ↓r176_52, ↓r176_53, ↓r176_54, ↓r176_57, ↓r176_60, ↓r176_63, ↓r176_64, ↓r176_67, ↓r176_68, ↓r176_71, ↓r176_72, ↓r176_73, ↓r176_76, ↓r176_77, ↓r176_80, ↓r176_81, ↓r176_83, ↓r176_86, ↓r176_87, ↓r176_90, ↓r176_91, ↓r176_92, ↓r176_95, ↓r176_98, ↓r176_99, ↓r176_102, ↓r176_105, ↓r176_106, ↓r176_109, ↓r176_110, ↓r176_111, ↓r176_112, ↓r176_113, ↓r176_116, ↓r176_117, ↓r176_120, ↓r176_121, ↓r176_124, ↓r176_125, Option.toList, List.cons_append, List.nil_append, ↓reduceIte, hM_60, h19, ht0, hM_p60]
          exact ok _ _ _ rfl hkey _ _ pk_us (by rw [pk_un (by omega)]; exact g24) (by rw [pk_un (by omega), g26, Int32.zero_add]) (fun j hj => by rw [pk_un (by omega)]; exact gj j hj) W0 W1
        · have ht0 : ¬ pxTo σ1 = 0 := by
            unfold pxTo
            rw [if_neg q]
            split
            · split <;> decide
            · split
              · split
                · decide
                · split <;> decide
              · decide
          simp only [if_neg q] at bad
          simp (decide := true) only [↓r176_0, ↓r176_1, ↓r176_2, ↓r176_5, ↓r176_6, ↓r176_7, ↓r176_10, ↓r176_11, ↓r176_12, ↓r176_15, ↓r176_16, ↓r176_17, ↓r176_20, ↓r176_21, ↓r176_22, ↓r176_25, ↓r176_26, ↓r176_27, ↓r176_30, ↓r176_31, ↓r176_32, ↓r176_35, ↓r176_36, ↓r176_37, ↓r176_39, ↓r176_42, ↓r176_43, ↓r176_44, ↓r176_47, ↓r176_48, ↓r176_49, ↓r176_52, ↓r176_53, ↓r176_54, ↓r176_57, ↓r176_60, ↓r176_63, ↓r176_64, ↓r176_67, ↓r176_68, ↓r176_71, ↓r176_72, ↓r176_73, ↓r176_76, ↓r176_77, ↓r176_80, ↓r176_81, ↓r176_83, ↓r176_86, ↓r176_87, ↓r176_90, ↓r176_91, ↓r176_92, ↓r176_95, ↓r176_98, ↓r176_99, ↓r176_102, ↓r176_105, ↓r176_106, ↓r176_109, ↓r176_110, ↓r176_112, ↓r176_113, ↓r176_116, ↓r176_117, ↓r176_120, ↓r176_121, ↓r176_124, ↓r176_125, Option.toList, List.cons_append, List.nil_append, ↓reduceIte, hM_60, h19, ht0]
          exact fin0 _ _ _ _ gl4.1 gj W0 (bad _ rfl)
      · simp only [e4] at ok bad
        simp (decide := true) only [↓r176_0, ↓r176_1, ↓r176_2, ↓r176_5, ↓r176_6, ↓r176_7, ↓r176_10, ↓r176_11, ↓r176_12, ↓r176_15, ↓r176_16, ↓r176_17, ↓r176_20, ↓r176_21, ↓r176_22, ↓r176_25, ↓r176_26, ↓r176_27, ↓r176_30, ↓r176_31, ↓r176_32, ↓r176_35, ↓r176_36, ↓r176_37, ↓r176_39, ↓r176_42, ↓r176_43, ↓r176_44, ↓r176_47, ↓r176_48, ↓r176_49, ↓r176_52, ↓r176_53, ↓r176_54, ↓r176_57, ↓r176_60, ↓r176_63, ↓r176_64, ↓r176_67, ↓r176_68, ↓r176_71, ↓r176_72, ↓r176_73, ↓r176_76, ↓r176_77, ↓r176_80, ↓r176_81, ↓r176_83, ↓r176_86, ↓r176_87, ↓r176_90, ↓r176_91, ↓r176_92, ↓r176_95, ↓r176_98, ↓r176_99, ↓r176_102, ↓r176_105, ↓r176_106, ↓r176_109, ↓r176_110, ↓r176_112, ↓r176_113, ↓r176_116, ↓r176_117, ↓r176_120, ↓r176_121, ↓r176_124, ↓r176_125, Option.toList, List.cons_append, List.nil_append, ↓reduceIte]
        exact fin0 _ _ _ _ b4.2.1 b4.2.2.1 b4.2.2.2 (bad _ rfl)
  rw [m176]
  have eN : (nI N < 14) = (N < 14) := nI_ltk (b := 14) (by omega) (by omega)
  have zg : zok 1 3062 = True := zok1
  by_cases q : N < 14
  · have ea : 62 + 200 * nI N + 4 = nI (pxLa N) := by
      unfold pxLa
      rw [if_pos q, show (62 : Int32) = nI 62 from rfl, show (200 : Int32) = nI 200 from rfl, pk_mul, nI_add, show (4 : Int32) = nI 4 from rfl, nI_add]
    simp only [↓r176_0, ↓r176_1, ↓r176_2, ↓r176_5, ↓r176_6, ↓r176_7, ↓r176_10, ↓r176_11, ↓r176_12, ↓r176_15, ↓r176_16, ↓r176_17, ↓r176_20, ↓r176_21, ↓r176_22, ↓r176_25, ↓r176_26, ↓r176_27, ↓r176_30, ↓r176_31, ↓r176_32, ↓r176_35, ↓r176_36, ↓r176_37, ↓r176_39, ↓r176_42, ↓r176_43, ↓r176_44, ↓r176_47, ↓r176_48, ↓r176_49, ↓r176_52, ↓r176_53, ↓r176_54, ↓r176_57, ↓r176_60, ↓r176_64, ↓r176_67, ↓r176_68, ↓r176_71, ↓r176_72, ↓r176_73, ↓r176_76, ↓r176_77, ↓r176_80, ↓r176_81, ↓r176_82, ↓r176_83, ↓r176_86, ↓r176_87, ↓r176_90, ↓r176_91, ↓r176_92, ↓r176_95, ↓r176_98, ↓r176_99, ↓r176_102, ↓r176_105, ↓r176_106, ↓r176_109, ↓r176_110, ↓r176_111, ↓r176_112, ↓r176_113, ↓r176_116, ↓r176_117, ↓r176_120, ↓r176_121, ↓r176_124, ↓r176_125, hM_60, hM_p60, hM_61, zl_61, zg, zix1, hg1, eN, q, if_true, true_and, c112, Option.toList, List.cons_append, List.nil_append, ea]
    refine main _ ?_ rfl rfl rfl rfl rfl rfl rfl (fun j hj => ?_)
    · simp only [zup_ap]; exact hL
    · rw [pk_un (by omega), pk_un (by omega), pk_un (by omega), pk_un (by omega), pk_un (by omega), pk_un (by omega), pk_un (by omega)]
  · have ea : (2862 : Int32) = nI (pxLa N) := by
      unfold pxLa
      rw [if_neg q]
      rfl
    simp only [↓r176_0, ↓r176_1, ↓r176_2, ↓r176_5, ↓r176_6, ↓r176_7, ↓r176_10, ↓r176_11, ↓r176_12, ↓r176_15, ↓r176_16, ↓r176_17, ↓r176_20, ↓r176_21, ↓r176_22, ↓r176_25, ↓r176_26, ↓r176_27, ↓r176_30, ↓r176_31, ↓r176_32, ↓r176_35, ↓r176_36, ↓r176_37, ↓r176_39, ↓r176_42, ↓r176_43, ↓r176_44, ↓r176_47, ↓r176_48, ↓r176_49, ↓r176_52, ↓r176_53, ↓r176_54, ↓r176_57, ↓r176_60, ↓r176_64, ↓r176_67, ↓r176_68, ↓r176_71, ↓r176_72, ↓r176_73, ↓r176_76, ↓r176_77, ↓r176_80, ↓r176_81, ↓r176_82, ↓r176_83, ↓r176_86, ↓r176_87, ↓r176_90, ↓r176_91, ↓r176_92, ↓r176_95, ↓r176_98, ↓r176_99, ↓r176_102, ↓r176_105, ↓r176_106, ↓r176_109, ↓r176_110, ↓r176_111, ↓r176_112, ↓r176_113, ↓r176_116, ↓r176_117, ↓r176_120, ↓r176_121, ↓r176_124, ↓r176_125, hM_60, hM_p60, hM_61, zl_61, zg, zix1, hg1, eN, q, if_false, true_and, Option.toList, List.cons_append, List.nil_append]
    refine main _ ?_ rfl rfl rfl rfl rfl ?_ rfl (fun j hj => ?_)
    · simp only [zup_ap]; exact hL
    · rw [← ea]; rfl
    · rw [pk_un (by omega), pk_un (by omega), pk_un (by omega), pk_un (by omega), pk_un (by omega), pk_un (by omega), pk_un (by omega)]
end
