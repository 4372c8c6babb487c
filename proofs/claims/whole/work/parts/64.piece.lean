/-! the class's Reader: a PIECE -/
section
variable {d : Nat} {Q : Option Value → zH → Prop} {h : zH} {f g g0 g1 f' g' B : Nat → Int32} {x0 x3 v pc : Int32} {L k p e z key n o j sz : Nat} {σ : pxS} {l : zL} {P : pxS → pxR} {ws w1 : List Int32}
theorem rGd_pc (hG : rGd L key f σ sz pc) : rGd L key (upd f 10 v) σ sz v := by
  obtain ⟨h1, h2, h3, h4, h5, h6⟩ := hG
  exact ⟨by rw [pk_un (by omega)]; exact h1, rL_up h2 (by omega), by rw [pk_un (by omega)]; exact h3, by rw [pk_un (by omega)]; exact h4, by rw [pk_un (by omega)]; exact h5, pk_us⟩
theorem rBf_mt (hG : rGd L key f σ sz pc) (h1 : σ.1 < 2 ^ 31) (h2 : sz ≤ 96) : rBf L (upd f 6 (f 2)) σ.1 := ⟨by rw [pk_un (by omega)]; exact hG.1, by rw [pk_us]; exact hG.2.1.1, h1, sz, h2, by rw [pk_un (by omega)]; exact hG.2.2.2.2.1⟩
theorem xr29 (hV : pxV B L) (hT : ∀ i, i < L → h 8 i = B i) (hL : f 1 = nI L) (hl : rL f σ) (hk : f 7 = nI key) (hkey : key < 3) (h12 : σ.1 ≤ σ.2.1) (hσL : σ.2.1 ≤ L) : zM (d + 2) 29 [.ref 7] (hR h f g) Q = Q (some (.int (pxNi B key σ))) (hR h f g) := by
  have h96 := hV.1
  obtain ⟨l2, l3, l4, l5⟩ := hl
  have e1 : (nI (σ.2.1 - σ.1) = 1) = (σ.2.1 - σ.1 = 1) := propext (nI_eq (b := 1) (by omega) (by omega))
  have hs : ∀ (i : Nat) (o2 : Option Value), i < 3 → zR (d + 1) 29 Q 2 [some (.ref 7), some (.int (nI i)), o2] [] (hR h f g) = if σ.2.1 - σ.1 = 1 ∧ B σ.1 = zkon 83 (3 * key + i) then Q (some (.int (nI i))) (hR h f g) else zR (d + 1) 29 Q 2 [some (.ref 7), some (.int (nI (i + 1))), some (.int (nI (3 * key + i)))] [] (hR h f g) := by
    intro i o2 hi
    have q3 : nI i < 3 := nI_lt (b := 3) hi (by omega)
    have ea : nI key * 3 + nI i = nI (3 * key + i) := by rw [show (3 : Int32) = nI 3 from rfl, pk_mul, nI_add, Nat.mul_comm]
    have g8 : 0 ≤ nI (3 * key + i) ∧ nI (3 * key + i) ≤ 9 - 1 := ⟨nI_pos' (by omega), by rw [show (9 : Int32) - 1 = nI 8 from by decide]; exact nI_le (by omega) (by omega)⟩
    rw [r29_2]
    simp only [↓r29_0, ↓r29_1, ↓r29_3, ↓r29_4, ↓r29_7, ↓r29_8, ↓r29_11, ↓r29_12, ↓r29_13, ↓r29_14, ↓r29_15, ↓r29_16, ↓r29_17, ↓r29_20, ↓r29_21, ↓r29_24, ↓r29_25, ↓r29_26, ↓r29_29, ↓r29_30, ↓r29_31, ↓r29_34, ↓r29_35, ↓r29_36, ↓r29_37, ↓r29_40, ↓r29_43, ↓r29_44, ↓r29_45, ↓r29_48, ↓r29_51, ↓r29_54, ↓r29_55, ↓r29_56, ↓r29_59, ↓r29_60, ↓r29_64, ↓r29_67, ↓r29_68, if_pos q3, hR_7, hk, ea, l2, l3, pk_sub h12, e1]
    by_cases q : σ.2.1 - σ.1 = 1
    · by_cases q2 : B σ.1 = zkon 83 (3 * key + i)
      · rw [if_pos q, if_pos (And.intro q q2)]
        simp (decide := true) only [↓r29_0, ↓r29_1, ↓r29_3, ↓r29_4, ↓r29_7, ↓r29_8, ↓r29_11, ↓r29_12, ↓r29_13, ↓r29_14, ↓r29_15, ↓r29_16, ↓r29_17, ↓r29_20, ↓r29_21, ↓r29_24, ↓r29_25, ↓r29_26, ↓r29_29, ↓r29_30, ↓r29_31, ↓r29_34, ↓r29_35, ↓r29_36, ↓r29_37, ↓r29_40, ↓r29_43, ↓r29_44, ↓r29_45, ↓r29_48, ↓r29_51, ↓r29_54, ↓r29_55, ↓r29_56, ↓r29_59, ↓r29_60, ↓r29_61, ↓r29_64, ↓r29_67, ↓r29_68, hR_7, l2, zn_83, c103, if_pos g8, Option.toList, List.cons_append, List.nil_append, ↓reduceIte, xr13 hL hV hT (by omega : σ.1 < 2 ^ 31), zok_nI (by omega : 3 * key + i < 9) (by omega), zix_nI (by omega : 3 * key + i < 2 ^ 31), true_and, if_pos q2]
      · rw [if_pos q, if_neg (fun z : _ ∧ _ => q2 z.2)]
        simp (decide := true) only [↓r29_0, ↓r29_1, ↓r29_3, ↓r29_4, ↓r29_7, ↓r29_8, ↓r29_11, ↓r29_12, ↓r29_13, ↓r29_14, ↓r29_15, ↓r29_16, ↓r29_17, ↓r29_20, ↓r29_21, ↓r29_24, ↓r29_25, ↓r29_26, ↓r29_29, ↓r29_30, ↓r29_31, ↓r29_34, ↓r29_35, ↓r29_36, ↓r29_37, ↓r29_40, ↓r29_43, ↓r29_44, ↓r29_45, ↓r29_48, ↓r29_51, ↓r29_54, ↓r29_55, ↓r29_56, ↓r29_59, ↓r29_60, ↓r29_61, ↓r29_64, ↓r29_67, ↓r29_68, hR_7, l2, zn_83, c103, if_pos g8, Option.toList, List.cons_append, List.nil_append, ↓reduceIte, xr13 hL hV hT (by omega : σ.1 < 2 ^ 31), zok_nI (by omega : 3 * key + i < 9) (by omega), zix_nI (by omega : 3 * key + i < 2 ^ 31), true_and, if_neg q2, nI_1]
    · simp only [if_neg q, q, false_and, if_false, ↓r29_0, ↓r29_1, ↓r29_3, ↓r29_4, ↓r29_7, ↓r29_8, ↓r29_11, ↓r29_12, ↓r29_13, ↓r29_14, ↓r29_15, ↓r29_16, ↓r29_17, ↓r29_20, ↓r29_21, ↓r29_24, ↓r29_25, ↓r29_26, ↓r29_29, ↓r29_30, ↓r29_31, ↓r29_34, ↓r29_35, ↓r29_36, ↓r29_37, ↓r29_40, ↓r29_43, ↓r29_44, ↓r29_45, ↓r29_48, ↓r29_51, ↓r29_54, ↓r29_55, ↓r29_56, ↓r29_59, ↓r29_60, ↓r29_61, ↓r29_64, ↓r29_67, ↓r29_68, nI_1]
  have e3 : ∀ o2 : Option Value, zR (d + 1) 29 Q 2 [some (.ref 7), some (.int (nI 3)), o2] [] (hR h f g) = Q (some (.int (-1))) (hR h f g) := by
    intro o2
    have q3 : ¬ nI 3 < 3 := by decide
    rw [r29_2]
    simp only [↓r29_0, ↓r29_1, ↓r29_3, ↓r29_4, ↓r29_7, ↓r29_8, ↓r29_11, ↓r29_12, ↓r29_13, ↓r29_14, ↓r29_15, ↓r29_16, ↓r29_17, ↓r29_20, ↓r29_21, ↓r29_24, ↓r29_25, ↓r29_26, ↓r29_29, ↓r29_30, ↓r29_31, ↓r29_34, ↓r29_35, ↓r29_36, ↓r29_37, ↓r29_40, ↓r29_43, ↓r29_44, ↓r29_45, ↓r29_48, ↓r29_51, ↓r29_54, ↓r29_55, ↓r29_56, ↓r29_59, ↓r29_60, ↓r29_61, ↓r29_64, ↓r29_67, ↓r29_68, if_neg q3]
  rw [m29]
  simp only [↓r29_0, ↓r29_1, ↓r29_3, ↓r29_4, ↓r29_7, ↓r29_8, ↓r29_11, ↓r29_12, ↓r29_13, ↓r29_14, ↓r29_15, ↓r29_16, ↓r29_17, ↓r29_20, ↓r29_21, ↓r29_24, ↓r29_25, ↓r29_26, ↓r29_29, ↓r29_30, ↓r29_31, ↓r29_34, ↓r29_35, ↓r29_36, ↓r29_37, ↓r29_40, ↓r29_43, ↓r29_44, ↓r29_45, ↓r29_48, ↓r29_51, ↓r29_54, ↓r29_55, ↓r29_56, ↓r29_59, ↓r29_60, ↓r29_61, ↓r29_64, ↓r29_67, ↓r29_68]
  rw [← nI_0, hs 0 _ (by omega), hs 1 _ (by omega), hs 2 _ (by omega), e3]
  unfold pxNi pxNa
  by_cases q : σ.2.1 - σ.1 = 1
  · simp only [if_pos q, q, true_and, Nat.add_zero]
    by_cases q0 : B σ.1 = zkon 83 (3 * key)
    · simp only [if_pos q0]; rfl
    · simp only [if_neg q0]
      by_cases q1 : B σ.1 = zkon 83 (3 * key + 1)
      · simp only [if_pos q1]; rfl
      · simp only [if_neg q1]
        by_cases q2 : B σ.1 = zkon 83 (3 * key + 2)
        · simp only [if_pos q2]; rfl
        · simp only [if_neg q2, if_true]
  · simp only [q, false_and, if_false]
theorem xr27 (hV : pxV B L) (hT : ∀ i, i < L → h 8 i = B i) (hG : rGd L key f σ sz pc) (hσ : pxG B L σ) (hso : σ.2.2.1 = -3) (hsz : sz ≤ σ.1) (ok : σ.2.1 - σ.1 ≤ 4 → ∀ f' g', rGd L key f' (pxNx B L σ) (sz + 1) (pc + 1) → rWd sz g g' [pxNm B σ.1 (σ.2.1 - σ.1)] → Q none (hR h f' g')) (bad : ¬ σ.2.1 - σ.1 ≤ 4 → ∀ f', rBf L f' σ.1 → Q none (hR h f' g)) : zM (d + 4) 27 [.ref 7] (hR h f g) Q := by
  have h96 := hV.1
  obtain ⟨lt1, lt2⟩ := pxG_lt hV hσ (by rw [hso]; decide)
  have enL := hσ.2.1
  obtain ⟨h1, ⟨l2, l3, l4, l5⟩, h6, h7, h9, h10⟩ := id hG
  have e4 : (nI (σ.2.1 - σ.1) ≤ 4) = (σ.2.1 - σ.1 ≤ 4) := propext (nI_leI (b := 4) (by omega) (by omega))
  rw [m27]
  by_cases q : σ.2.1 - σ.1 ≤ 4
  · have hs : ∀ (i : Nat) (a : Int32), i < σ.2.1 - σ.1 → zR (d + 3) 27 Q 25 [some (.ref 7), some (.int a), some (.int (nI (σ.1 + i)))] [] (hR h f g) = zR (d + 3) 27 Q 25 [some (.ref 7), some (.int (a * 10 + (B (σ.1 + i) - 48))), some (.int (nI (σ.1 + (i + 1))))] [] (hR h f g) := by
      intro i a hi
      rw [r27_25]
      simp only [↓r27_0, ↓r27_1, ↓r27_4, ↓r27_5, ↓r27_8, ↓r27_9, ↓r27_10, ↓r27_13, ↓r27_14, ↓r27_17, ↓r27_18, ↓r27_19, ↓r27_20, ↓r27_21, ↓r27_24, ↓r27_26, ↓r27_27, ↓r27_30, ↓r27_33, ↓r27_34, ↓r27_36, ↓r27_37, ↓r27_38, ↓r27_39, ↓r27_42, ↓r27_44, ↓r27_45, ↓r27_46, ↓r27_47, ↓r27_50, ↓r27_53, ↓r27_54, ↓r27_55, ↓r27_58, ↓r27_59, ↓r27_60, ↓r27_63, ↓r27_64, ↓r27_65, ↓r27_68, ↓r27_69, ↓r27_72, hR_7, l3, nI_lt (by omega : σ.1 + i < σ.2.1) (by omega : σ.2.1 < 2 ^ 31), if_true, xr13 h1 hV hT (by omega : σ.1 + i < 2 ^ 31), Option.toList, List.cons_append, List.nil_append, nI_1, Nat.add_assoc]
    have lp := zloop (fun i a => zR (d + 3) 27 Q 25 [some (.ref 7), some (.int a), some (.int (nI (σ.1 + i)))] [] (hR h f g)) (fun i a => a * 10 + (B (σ.1 + i) - 48)) (σ.2.1 - σ.1) hs 0
    simp only [Nat.add_zero] at lp
    simp only [↓r27_0, ↓r27_1, ↓r27_4, ↓r27_5, ↓r27_8, ↓r27_9, ↓r27_10, ↓r27_13, ↓r27_14, ↓r27_17, ↓r27_18, ↓r27_19, ↓r27_20, ↓r27_21, ↓r27_24, ↓r27_26, ↓r27_27, ↓r27_30, ↓r27_33, ↓r27_34, ↓r27_36, ↓r27_37, ↓r27_38, ↓r27_39, ↓r27_42, ↓r27_44, ↓r27_45, ↓r27_46, ↓r27_47, ↓r27_50, ↓r27_53, ↓r27_54, ↓r27_55, ↓r27_58, ↓r27_59, ↓r27_60, ↓r27_63, ↓r27_64, ↓r27_65, ↓r27_68, ↓r27_69, ↓r27_72, hR_7, l2, l3, pk_sub (Nat.le_of_lt lt2), e4, q, if_true]
    have en : σ.1 + (σ.2.1 - σ.1) = σ.2.1 := by omega
    rw [lp, r27_25, en]
    have G2 : rGd L key (upd (upd f 9 (nI (sz + 1))) 10 (pc + 1)) σ (sz + 1) (pc + 1) := rGd_pc (rGd_put hG rfl)
    simp only [↓r27_0, ↓r27_1, ↓r27_4, ↓r27_5, ↓r27_8, ↓r27_9, ↓r27_10, ↓r27_13, ↓r27_14, ↓r27_17, ↓r27_18, ↓r27_19, ↓r27_20, ↓r27_21, ↓r27_24, ↓r27_26, ↓r27_27, ↓r27_30, ↓r27_33, ↓r27_34, ↓r27_36, ↓r27_37, ↓r27_38, ↓r27_39, ↓r27_42, ↓r27_44, ↓r27_45, ↓r27_46, ↓r27_47, ↓r27_50, ↓r27_53, ↓r27_54, ↓r27_55, ↓r27_58, ↓r27_59, ↓r27_60, ↓r27_63, ↓r27_64, ↓r27_65, ↓r27_68, ↓r27_69, ↓r27_72, hR_7, l3, nI_nlt (Nat.le_refl σ.2.1) (by omega), if_false, xr17 h9 (by omega : sz ≤ 96), if_pos (by omega : sz < 96), Option.toList, List.cons_append, List.nil_append, pk_un (by omega : (10 : Nat) ≠ 9), h10, hR_p7]
    refine xr11 hV hT G2.1 G2.2.1 enL (fun f1 l1 b1 => ?_)
    simp only [↓r27_0, ↓r27_1, ↓r27_4, ↓r27_5, ↓r27_8, ↓r27_9, ↓r27_10, ↓r27_13, ↓r27_14, ↓r27_17, ↓r27_18, ↓r27_19, ↓r27_20, ↓r27_21, ↓r27_24, ↓r27_26, ↓r27_27, ↓r27_30, ↓r27_33, ↓r27_34, ↓r27_36, ↓r27_37, ↓r27_38, ↓r27_39, ↓r27_42, ↓r27_44, ↓r27_45, ↓r27_46, ↓r27_47, ↓r27_50, ↓r27_53, ↓r27_54, ↓r27_55, ↓r27_58, ↓r27_59, ↓r27_60, ↓r27_63, ↓r27_64, ↓r27_65, ↓r27_68, ↓r27_69, ↓r27_72, Option.toList, List.cons_append, List.nil_append]
    have W := rWd_v (v := zfo (fun i a => a * 10 + (B (σ.1 + i) - 48)) (σ.2.1 - σ.1) 0) (z := sz) (rWd_nil (sz := sz) (g := g)) rfl
    exact ok q f1 _ (rGd_nx G2 l1 b1) W
  · simp only [↓r27_0, ↓r27_1, ↓r27_4, ↓r27_5, ↓r27_8, ↓r27_9, ↓r27_10, ↓r27_13, ↓r27_14, ↓r27_17, ↓r27_18, ↓r27_19, ↓r27_20, ↓r27_21, ↓r27_24, ↓r27_26, ↓r27_27, ↓r27_30, ↓r27_33, ↓r27_34, ↓r27_36, ↓r27_37, ↓r27_38, ↓r27_39, ↓r27_42, ↓r27_44, ↓r27_45, ↓r27_46, ↓r27_47, ↓r27_50, ↓r27_53, ↓r27_54, ↓r27_55, ↓r27_58, ↓r27_59, ↓r27_60, ↓r27_63, ↓r27_64, ↓r27_65, ↓r27_68, ↓r27_69, ↓r27_72, hR_7, l2, l3, pk_sub (Nat.le_of_lt lt2), e4, q, if_false, xr15, if_pos h6, Option.toList, List.cons_append, List.nil_append]
    have hb := rBf_mt hG (by omega) (by omega)
    rw [l2] at hb
    exact bad q _ hb
theorem xr28 (hV : pxV B L) (hT : ∀ i, i < L → h 8 i = B i) (hG : rGd L key f σ sz pc) (hkey : key < 3) (hσ : pxG B L σ) (hso : σ.2.2.1 = -2) (hsz : sz ≤ σ.1) (ok : ¬ pxNi B key σ = -1 → ∀ f' g', rGd L key f' (pxNx B L σ) (sz + 1) (pc + 1) → rWd sz g g' [-1 - pxNi B key σ] → Q none (hR h f' g')) (bad : pxNi B key σ = -1 → ∀ f', rBf L f' σ.1 → Q none (hR h f' g)) : zM (d + 4) 28 [.ref 7] (hR h f g) Q := by
  have h96 := hV.1
  obtain ⟨lt1, lt2⟩ := pxG_lt hV hσ (by rw [hso]; decide)
  have enL := hσ.2.1
  obtain ⟨h1, hl, h6, h7, h9, h10⟩ := id hG
  rw [m28]
  by_cases q : pxNi B key σ = -1
  · simp only [↓r28_0, ↓r28_1, ↓r28_4, ↓r28_5, ↓r28_6, ↓r28_7, ↓r28_10, ↓r28_11, ↓r28_14, ↓r28_15, ↓r28_16, ↓r28_17, ↓r28_18, ↓r28_19, ↓r28_22, ↓r28_23, ↓r28_24, ↓r28_27, ↓r28_28, ↓r28_29, ↓r28_32, ↓r28_33, ↓r28_36, xr29 hV hT h1 hl h7 hkey (Nat.le_of_lt lt2) enL, Option.toList, List.cons_append, List.nil_append, if_pos q, xr15, if_pos h6]
    exact bad q _ (rBf_mt hG (by omega) (by omega))
  · have G2 : rGd L key (upd (upd f 9 (nI (sz + 1))) 10 (pc + 1)) σ (sz + 1) (pc + 1) := rGd_pc (rGd_put hG rfl)
    simp only [↓r28_0, ↓r28_1, ↓r28_4, ↓r28_5, ↓r28_6, ↓r28_7, ↓r28_10, ↓r28_11, ↓r28_14, ↓r28_15, ↓r28_16, ↓r28_17, ↓r28_18, ↓r28_19, ↓r28_22, ↓r28_23, ↓r28_24, ↓r28_27, ↓r28_28, ↓r28_29, ↓r28_32, ↓r28_33, ↓r28_36, xr29 hV hT h1 hl h7 hkey (Nat.le_of_lt lt2) enL, Option.toList, List.cons_append, List.nil_append, if_neg q, hR_7, xr17 h9 (by omega : sz ≤ 96), if_pos (by omega : sz < 96), pk_un (by omega : (10 : Nat) ≠ 9), h10, hR_p7]
    refine xr11 hV hT G2.1 G2.2.1 enL (fun f1 l1 b1 => ?_)
    simp only [↓r28_0, ↓r28_1, ↓r28_4, ↓r28_5, ↓r28_6, ↓r28_7, ↓r28_10, ↓r28_11, ↓r28_14, ↓r28_15, ↓r28_16, ↓r28_17, ↓r28_18, ↓r28_19, ↓r28_22, ↓r28_23, ↓r28_24, ↓r28_27, ↓r28_28, ↓r28_29, ↓r28_32, ↓r28_33, ↓r28_36, Option.toList, List.cons_append, List.nil_append]
    have W := rWd_v (v := -1 - pxNi B key σ) (z := sz) (rWd_nil (sz := sz) (g := g)) rfl
    exact ok q f1 _ (rGd_nx G2 l1 b1) W
theorem xr26 (hV : pxV B L) (hT : ∀ i, i < L → h 8 i = B i) (hG : rGd L key f σ sz pc) (hσ : pxG B L σ) (hsz : sz ≤ 96) (ok : σ.2.2.1 = 41 → ∀ f', rGd L key f' (pxNx B L σ) sz pc → Q none (hR h f' g)) (bad : ¬ σ.2.2.1 = 41 → ∀ f', rBf L f' σ.1 → Q none (hR h f' g)) : zM (d + 4) 26 [.ref 7] (hR h f g) Q := by
  have h96 := hV.1
  have h1L := hσ.1
  obtain ⟨h1, hl, h6, h7, h9, h10⟩ := id hG
  have h4 := hl.2.2.1
  rw [m26]
  by_cases q : σ.2.2.1 = 41
  · simp (decide := true) only [↓r26_0, ↓r26_1, ↓r26_3, ↓r26_6, ↓r26_9, ↓r26_10, ↓r26_13, ↓r26_16, ↓r26_17, ↓r26_20, xr16, h6, h4, q, Option.toList, List.cons_append, List.nil_append, true_and, ↓reduceIte]
    refine xr11 hV hT h1 hl hσ.2.1 (fun f1 l1 b1 => ?_)
    simp only [↓r26_0, ↓r26_1, ↓r26_3, ↓r26_6, ↓r26_9, ↓r26_10, ↓r26_13, ↓r26_16, ↓r26_17, ↓r26_20, Option.toList, List.cons_append, List.nil_append]
    exact ok q f1 (rGd_nx hG l1 b1)
  · simp (decide := true) only [↓r26_0, ↓r26_1, ↓r26_3, ↓r26_6, ↓r26_9, ↓r26_10, ↓r26_13, ↓r26_16, ↓r26_17, ↓r26_20, xr16, h6, h4, q, Option.toList, List.cons_append, List.nil_append, true_and, ↓reduceIte, xr15]
    exact bad q _ (rBf_mt hG (by omega) hsz)
theorem xr26b (hb : rBf L f e) (K : Q none (hR h f g)) : zM (d + 4) 26 [.ref 7] (hR h f g) Q := by
  obtain ⟨h1, h6, he, z, hz, h9⟩ := hb
  have n1 := nI_nm1 he
  rw [m26]
  simp (decide := true) only [↓r26_0, ↓r26_1, ↓r26_3, ↓r26_6, ↓r26_9, ↓r26_10, ↓r26_13, ↓r26_16, ↓r26_17, ↓r26_20, xr16, h6, n1, Option.toList, List.cons_append, List.nil_append, false_and, ↓reduceIte, xr15]
  exact K
theorem xr25b : rBad h L (d + 1) 25 o n := by
  intro Q f g e hb K
  obtain ⟨h1, h6, he, z, hz, h9⟩ := id hb
  have n1 := nI_nm1 he
  rw [m25]
  simp (decide := true) only [↓r25_0, ↓r25_1, ↓r25_4, ↓r25_5, ↓r25_8, ↓r25_9, ↓r25_10, ↓r25_13, ↓r25_15, ↓r25_18, ↓r25_19, ↓r25_22, ↓r25_25, ↓r25_26, ↓r25_29, ↓r25_32, ↓r25_33, ↓r25_36, ↓r25_38, ↓r25_41, ↓r25_42, ↓r25_45, ↓r25_48, ↓r25_49, ↓r25_52, ↓r25_55, ↓r25_56, ↓r25_59, ↓r25_61, ↓r25_64, ↓r25_65, ↓r25_67, ↓r25_70, ↓r25_71, ↓r25_74, ↓r25_75, ↓r25_76, ↓r25_77, ↓r25_78, ↓r25_79, ↓r25_82, ↓r25_83, ↓r25_85, ↓r25_88, ↓r25_91, ↓r25_92, ↓r25_95, ↓r25_97, ↓r25_100, ↓r25_101, ↓r25_103, ↓r25_106, ↓r25_107, ↓r25_110, ↓r25_111, ↓r25_112, ↓r25_113, ↓r25_114, ↓r25_115, ↓r25_118, ↓r25_119, ↓r25_122, ↓r25_125, ↓r25_126, ↓r25_129, hR_7, h6, n1, ↓reduceIte]
  exact K f g hb
theorem xr20E (hV : pxV B L) (hT : ∀ i, i < L → h 8 i = B i) (hP : rCon h B L key (d + 3) 25 o n P) (hpr : pxPr B L P) : rCon h B L key (d + 8) 20 o n (pxE (pxNx B L) P) :=
  have p1 := pxLv_pr hV hpr (fun _ => pxMu_s)
  have p2 := pxLv_pr hV p1 (fun _ => pxPl_s)
  have p3 := pxTs_pr hV p2
  have p4 := pxLv_pr hV p3 (fun _ => pxAn_s)
  xr20 hV hT (xr21 hV hT (xr22 hV hT (xr23 hV hT (xr24 hV hT hP hpr) p1) p2) p3) p4
theorem xr20b : rBad h L (d + 8) 20 o n := xr20b_ (xr21b (xr22b (xr23b (xr24b xr25b))))
theorem xr25 (hV : pxV B L) (hT : ∀ i, i < L → h 8 i = B i) (hkey : key < 3) : ∀ (fu d o n : Nat), o ≤ 8 → n ≤ 8 → (8 - o) + (8 - n) < fu → rCon h B L key (d + 6 * fu + 10) 25 o n (pxPc B L key fu o n)
  | 0, _, _, _, _, _, h => absurd h (Nat.not_lt_zero _)
  | fu + 1, d, o, n, ho, hn, hf => by
    intro Q f g σ sz pc hG hσ hsz ok bad
    have h96 := hV.1
    have h1L := hσ.1
    have h2L := hσ.2.1
    obtain ⟨h1, hl, h6, h7, h9, h10⟩ := id hG
    obtain ⟨l2, l3, l4, l5⟩ := id hl
    have eD : d + 6 * (fu + 1) + 10 = (d + 6 * fu + 15) + 1 := by omega
    rw [eD, m25]
    unfold pxPc at ok bad
    have en8 : (nI n < 8) = (n < 8) := nI_ltk (b := 8) (by omega) (by omega)
    have eo8 : (nI o < 8) = (o < 8) := nI_ltk (b := 8) (by omega) (by omega)
    have mt : (∀ f', rBf L f' σ.1 → Q none (hR h f' g)) → zR (d + 6 * fu + 15) 25 Q 125 [some (.ref 7), some (.int (nI o)), some (.int (nI n))] [] (hR h f g) := by
      intro K
      simp only [↓r25_0, ↓r25_1, ↓r25_4, ↓r25_5, ↓r25_8, ↓r25_9, ↓r25_10, ↓r25_13, ↓r25_15, ↓r25_18, ↓r25_19, ↓r25_22, ↓r25_25, ↓r25_26, ↓r25_29, ↓r25_32, ↓r25_33, ↓r25_36, ↓r25_38, ↓r25_41, ↓r25_42, ↓r25_45, ↓r25_48, ↓r25_49, ↓r25_52, ↓r25_55, ↓r25_56, ↓r25_59, ↓r25_61, ↓r25_64, ↓r25_65, ↓r25_67, ↓r25_70, ↓r25_71, ↓r25_74, ↓r25_75, ↓r25_76, ↓r25_77, ↓r25_78, ↓r25_79, ↓r25_82, ↓r25_83, ↓r25_85, ↓r25_88, ↓r25_91, ↓r25_92, ↓r25_95, ↓r25_97, ↓r25_100, ↓r25_101, ↓r25_103, ↓r25_106, ↓r25_107, ↓r25_110, ↓r25_111, ↓r25_112, ↓r25_113, ↓r25_114, ↓r25_115, ↓r25_118, ↓r25_119, ↓r25_122, ↓r25_125, ↓r25_126, ↓r25_129, xr15, if_pos h6, Option.toList, List.cons_append, List.nil_append]
      exact K _ (rBf_mt hG (by omega) (by omega))
    simp only [↓r25_0, ↓r25_1, ↓r25_4, ↓r25_5, ↓r25_8, ↓r25_9, ↓r25_10, ↓r25_13, ↓r25_15, ↓r25_18, ↓r25_19, ↓r25_22, ↓r25_25, ↓r25_26, ↓r25_29, ↓r25_33, ↓r25_36, ↓r25_38, ↓r25_41, ↓r25_42, ↓r25_45, ↓r25_48, ↓r25_49, ↓r25_52, ↓r25_56, ↓r25_59, ↓r25_61, ↓r25_64, ↓r25_65, ↓r25_67, ↓r25_70, ↓r25_71, ↓r25_74, ↓r25_75, ↓r25_76, ↓r25_77, ↓r25_78, ↓r25_79, ↓r25_82, ↓r25_83, ↓r25_85, ↓r25_88, ↓r25_92, ↓r25_95, ↓r25_97, ↓r25_100, ↓r25_101, ↓r25_103, ↓r25_106, ↓r25_107, ↓r25_110, ↓r25_111, ↓r25_112, ↓r25_113, ↓r25_114, ↓r25_115, ↓r25_118, ↓r25_119, ↓r25_122, ↓r25_126, ↓r25_129, hR_7, h6, if_true, l4]
    have r91 : ¬ (σ.2.2.1 = -3 ∧ σ.2.2.2 = false) → ¬ (σ.2.2.1 = -2 ∧ σ.2.2.2 = false) → ¬ (σ.2.2.1 = 33 ∧ n < 8) → zR (d + 6 * fu + 15) 25 Q 91 [some (.ref 7), some (.int (nI o)), some (.int (nI n))] [] (hR h f g) := by
      intro q1 q2 q3
      simp only [if_neg q1, if_neg q2, if_neg q3] at ok bad
      rw [r25_91]
      by_cases q4 : σ.2.2.1 = 40
      · by_cases q5 : o < 8
        · simp only [if_pos (And.intro q4 q5)] at ok bad
          simp only [↓r25_0, ↓r25_1, ↓r25_4, ↓r25_5, ↓r25_8, ↓r25_9, ↓r25_10, ↓r25_13, ↓r25_15, ↓r25_18, ↓r25_19, ↓r25_22, ↓r25_25, ↓r25_26, ↓r25_29, ↓r25_32, ↓r25_33, ↓r25_36, ↓r25_38, ↓r25_41, ↓r25_42, ↓r25_45, ↓r25_48, ↓r25_49, ↓r25_52, ↓r25_55, ↓r25_56, ↓r25_59, ↓r25_61, ↓r25_64, ↓r25_65, ↓r25_67, ↓r25_70, ↓r25_71, ↓r25_74, ↓r25_75, ↓r25_76, ↓r25_77, ↓r25_78, ↓r25_79, ↓r25_82, ↓r25_83, ↓r25_85, ↓r25_88, ↓r25_92, ↓r25_95, ↓r25_97, ↓r25_100, ↓r25_101, ↓r25_103, ↓r25_106, ↓r25_107, ↓r25_110, ↓r25_111, ↓r25_112, ↓r25_113, ↓r25_114, ↓r25_115, ↓r25_118, ↓r25_119, ↓r25_122, ↓r25_126, ↓r25_129, hR_7, l4, if_pos q4, eo8, if_pos q5]
          obtain ⟨a, b⟩ := pxNx_up hV hσ (by rw [q4]; decide)
          refine xr11 hV hT h1 hl h2L (fun f1 l1 b1 => ?_)
          simp only [↓r25_0, ↓r25_1, ↓r25_4, ↓r25_5, ↓r25_8, ↓r25_9, ↓r25_10, ↓r25_13, ↓r25_15, ↓r25_18, ↓r25_19, ↓r25_22, ↓r25_25, ↓r25_26, ↓r25_29, ↓r25_32, ↓r25_33, ↓r25_36, ↓r25_38, ↓r25_41, ↓r25_42, ↓r25_45, ↓r25_48, ↓r25_49, ↓r25_52, ↓r25_55, ↓r25_56, ↓r25_59, ↓r25_61, ↓r25_64, ↓r25_65, ↓r25_67, ↓r25_70, ↓r25_71, ↓r25_74, ↓r25_75, ↓r25_76, ↓r25_77, ↓r25_78, ↓r25_79, ↓r25_82, ↓r25_83, ↓r25_85, ↓r25_88, ↓r25_92, ↓r25_95, ↓r25_97, ↓r25_100, ↓r25_101, ↓r25_103, ↓r25_106, ↓r25_107, ↓r25_110, ↓r25_111, ↓r25_112, ↓r25_113, ↓r25_114, ↓r25_115, ↓r25_118, ↓r25_119, ↓r25_122, ↓r25_126, ↓r25_129, Option.toList, List.cons_append, List.nil_append, nI_1]
          have hpr := pxPc_pr (key := key) hV fu (o + 1) n
          have hC := xr20E hV hT (xr25 hV hT hkey fu d (o + 1) n (by omega) hn (by omega)) hpr
          refine hC _ f1 g (pxNx B L σ) sz pc (rGd_nx hG l1 b1) a (by omega) (fun σ1 w1 k1 f2 g2 e2 G2 W2 => ?_) (fun e f2 g2 e2 b2 => ?_)
          · obtain ⟨c1, c2, -⟩ := (pxE_pr hV hpr _ a).2 _ _ _ e2
            have c0 := c1.1
            simp only [e2] at ok bad
            simp only [↓r25_0, ↓r25_1, ↓r25_4, ↓r25_5, ↓r25_8, ↓r25_9, ↓r25_10, ↓r25_13, ↓r25_15, ↓r25_18, ↓r25_19, ↓r25_22, ↓r25_25, ↓r25_26, ↓r25_29, ↓r25_32, ↓r25_33, ↓r25_36, ↓r25_38, ↓r25_41, ↓r25_42, ↓r25_45, ↓r25_48, ↓r25_49, ↓r25_52, ↓r25_55, ↓r25_56, ↓r25_59, ↓r25_61, ↓r25_64, ↓r25_65, ↓r25_67, ↓r25_70, ↓r25_71, ↓r25_74, ↓r25_75, ↓r25_76, ↓r25_77, ↓r25_78, ↓r25_79, ↓r25_82, ↓r25_83, ↓r25_85, ↓r25_88, ↓r25_92, ↓r25_95, ↓r25_97, ↓r25_100, ↓r25_101, ↓r25_103, ↓r25_106, ↓r25_107, ↓r25_110, ↓r25_111, ↓r25_112, ↓r25_113, ↓r25_114, ↓r25_115, ↓r25_118, ↓r25_119, ↓r25_122, ↓r25_126, ↓r25_129, Option.toList, List.cons_append, List.nil_append]
            refine xr26 hV hT G2 c1 (by omega) (fun q6 f3 G3 => ?_) (fun q6 f3 b3 => ?_)
            · simp only [if_pos q6] at ok
              simp only [↓r25_0, ↓r25_1, ↓r25_4, ↓r25_5, ↓r25_8, ↓r25_9, ↓r25_10, ↓r25_13, ↓r25_15, ↓r25_18, ↓r25_19, ↓r25_22, ↓r25_25, ↓r25_26, ↓r25_29, ↓r25_32, ↓r25_33, ↓r25_36, ↓r25_38, ↓r25_41, ↓r25_42, ↓r25_45, ↓r25_48, ↓r25_49, ↓r25_52, ↓r25_55, ↓r25_56, ↓r25_59, ↓r25_61, ↓r25_64, ↓r25_65, ↓r25_67, ↓r25_70, ↓r25_71, ↓r25_74, ↓r25_75, ↓r25_76, ↓r25_77, ↓r25_78, ↓r25_79, ↓r25_82, ↓r25_83, ↓r25_85, ↓r25_88, ↓r25_92, ↓r25_95, ↓r25_97, ↓r25_100, ↓r25_101, ↓r25_103, ↓r25_106, ↓r25_107, ↓r25_110, ↓r25_111, ↓r25_112, ↓r25_113, ↓r25_114, ↓r25_115, ↓r25_118, ↓r25_119, ↓r25_122, ↓r25_126, ↓r25_129, Option.toList, List.cons_append, List.nil_append]
              exact ok _ _ _ _ _ rfl G3 W2
            · simp only [if_neg q6] at bad
              simp only [↓r25_0, ↓r25_1, ↓r25_4, ↓r25_5, ↓r25_8, ↓r25_9, ↓r25_10, ↓r25_13, ↓r25_15, ↓r25_18, ↓r25_19, ↓r25_22, ↓r25_25, ↓r25_26, ↓r25_29, ↓r25_32, ↓r25_33, ↓r25_36, ↓r25_38, ↓r25_41, ↓r25_42, ↓r25_45, ↓r25_48, ↓r25_49, ↓r25_52, ↓r25_55, ↓r25_56, ↓r25_59, ↓r25_61, ↓r25_64, ↓r25_65, ↓r25_67, ↓r25_70, ↓r25_71, ↓r25_74, ↓r25_75, ↓r25_76, ↓r25_77, ↓r25_78, ↓r25_79, ↓r25_82, ↓r25_83, ↓r25_85, ↓r25_88, ↓r25_92, ↓r25_95, ↓r25_97, ↓r25_100, ↓r25_101, ↓r25_103, ↓r25_106, ↓r25_107, ↓r25_110, ↓r25_111, ↓r25_112, ↓r25_113, ↓r25_114, ↓r25_115, ↓r25_118, ↓r25_119, ↓r25_122, ↓r25_126, ↓r25_129, Option.toList, List.cons_append, List.nil_append]
              exact bad _ _ _ rfl b3
          · simp only [e2] at ok bad
            simp only [↓r25_0, ↓r25_1, ↓r25_4, ↓r25_5, ↓r25_8, ↓r25_9, ↓r25_10, ↓r25_13, ↓r25_15, ↓r25_18, ↓r25_19, ↓r25_22, ↓r25_25, ↓r25_26, ↓r25_29, ↓r25_32, ↓r25_33, ↓r25_36, ↓r25_38, ↓r25_41, ↓r25_42, ↓r25_45, ↓r25_48, ↓r25_49, ↓r25_52, ↓r25_55, ↓r25_56, ↓r25_59, ↓r25_61, ↓r25_64, ↓r25_65, ↓r25_67, ↓r25_70, ↓r25_71, ↓r25_74, ↓r25_75, ↓r25_76, ↓r25_77, ↓r25_78, ↓r25_79, ↓r25_82, ↓r25_83, ↓r25_85, ↓r25_88, ↓r25_92, ↓r25_95, ↓r25_97, ↓r25_100, ↓r25_101, ↓r25_103, ↓r25_106, ↓r25_107, ↓r25_110, ↓r25_111, ↓r25_112, ↓r25_113, ↓r25_114, ↓r25_115, ↓r25_118, ↓r25_119, ↓r25_122, ↓r25_126, ↓r25_129, Option.toList, List.cons_append, List.nil_append]
            refine xr26b b2 ?_
            simp only [↓r25_0, ↓r25_1, ↓r25_4, ↓r25_5, ↓r25_8, ↓r25_9, ↓r25_10, ↓r25_13, ↓r25_15, ↓r25_18, ↓r25_19, ↓r25_22, ↓r25_25, ↓r25_26, ↓r25_29, ↓r25_32, ↓r25_33, ↓r25_36, ↓r25_38, ↓r25_41, ↓r25_42, ↓r25_45, ↓r25_48, ↓r25_49, ↓r25_52, ↓r25_55, ↓r25_56, ↓r25_59, ↓r25_61, ↓r25_64, ↓r25_65, ↓r25_67, ↓r25_70, ↓r25_71, ↓r25_74, ↓r25_75, ↓r25_76, ↓r25_77, ↓r25_78, ↓r25_79, ↓r25_82, ↓r25_83, ↓r25_85, ↓r25_88, ↓r25_92, ↓r25_95, ↓r25_97, ↓r25_100, ↓r25_101, ↓r25_103, ↓r25_106, ↓r25_107, ↓r25_110, ↓r25_111, ↓r25_112, ↓r25_113, ↓r25_114, ↓r25_115, ↓r25_118, ↓r25_119, ↓r25_122, ↓r25_126, ↓r25_129, Option.toList, List.cons_append, List.nil_append]
            exact bad _ _ _ rfl b2
        · simp only [if_neg (fun z : _ ∧ _ => q5 z.2)] at ok bad
          simp only [↓r25_0, ↓r25_1, ↓r25_4, ↓r25_5, ↓r25_8, ↓r25_9, ↓r25_10, ↓r25_13, ↓r25_15, ↓r25_18, ↓r25_19, ↓r25_22, ↓r25_25, ↓r25_26, ↓r25_29, ↓r25_32, ↓r25_33, ↓r25_36, ↓r25_38, ↓r25_41, ↓r25_42, ↓r25_45, ↓r25_48, ↓r25_49, ↓r25_52, ↓r25_55, ↓r25_56, ↓r25_59, ↓r25_61, ↓r25_64, ↓r25_65, ↓r25_67, ↓r25_70, ↓r25_71, ↓r25_74, ↓r25_75, ↓r25_76, ↓r25_77, ↓r25_78, ↓r25_79, ↓r25_82, ↓r25_83, ↓r25_85, ↓r25_88, ↓r25_92, ↓r25_95, ↓r25_97, ↓r25_100, ↓r25_101, ↓r25_103, ↓r25_106, ↓r25_107, ↓r25_110, ↓r25_111, ↓r25_112, ↓r25_113, ↓r25_114, ↓r25_115, ↓r25_118, ↓r25_119, ↓r25_122, ↓r25_126, ↓r25_129, hR_7, l4, if_pos q4, eo8, if_neg q5]
          exact mt (fun f' b => bad _ _ _ rfl b)
      · simp only [if_neg (fun z : _ ∧ _ => q4 z.1)] at ok bad
        simp only [↓r25_0, ↓r25_1, ↓r25_4, ↓r25_5, ↓r25_8, ↓r25_9, ↓r25_10, ↓r25_13, ↓r25_15, ↓r25_18, ↓r25_19, ↓r25_22, ↓r25_25, ↓r25_26, ↓r25_29, ↓r25_32, ↓r25_33, ↓r25_36, ↓r25_38, ↓r25_41, ↓r25_42, ↓r25_45, ↓r25_48, ↓r25_49, ↓r25_52, ↓r25_55, ↓r25_56, ↓r25_59, ↓r25_61, ↓r25_64, ↓r25_65, ↓r25_67, ↓r25_70, ↓r25_71, ↓r25_74, ↓r25_75, ↓r25_76, ↓r25_77, ↓r25_78, ↓r25_79, ↓r25_82, ↓r25_83, ↓r25_85, ↓r25_88, ↓r25_92, ↓r25_95, ↓r25_97, ↓r25_100, ↓r25_101, ↓r25_103, ↓r25_106, ↓r25_107, ↓r25_110, ↓r25_111, ↓r25_112, ↓r25_113, ↓r25_114, ↓r25_115, ↓r25_118, ↓r25_119, ↓r25_122, ↓r25_126, ↓r25_129, hR_7, l4, if_neg q4]
        exact mt (fun f' b => bad _ _ _ rfl b)
    have r55 : ¬ (σ.2.2.1 = -3 ∧ σ.2.2.2 = false) → ¬ (σ.2.2.1 = -2 ∧ σ.2.2.2 = false) → zR (d + 6 * fu + 15) 25 Q 55 [some (.ref 7), some (.int (nI o)), some (.int (nI n))] [] (hR h f g) := by
      intro q1 q2
      rw [r25_55]
      by_cases q4 : σ.2.2.1 = 33
      · by_cases q5 : n < 8
        · simp only [if_neg q1, if_neg q2, if_pos (And.intro q4 q5)] at ok bad
          simp only [↓r25_0, ↓r25_1, ↓r25_4, ↓r25_5, ↓r25_8, ↓r25_9, ↓r25_10, ↓r25_13, ↓r25_15, ↓r25_18, ↓r25_19, ↓r25_22, ↓r25_25, ↓r25_26, ↓r25_29, ↓r25_32, ↓r25_33, ↓r25_36, ↓r25_38, ↓r25_41, ↓r25_42, ↓r25_45, ↓r25_48, ↓r25_49, ↓r25_52, ↓r25_55, ↓r25_56, ↓r25_59, ↓r25_61, ↓r25_64, ↓r25_65, ↓r25_67, ↓r25_70, ↓r25_71, ↓r25_74, ↓r25_75, ↓r25_76, ↓r25_77, ↓r25_78, ↓r25_79, ↓r25_82, ↓r25_83, ↓r25_85, ↓r25_88, ↓r25_92, ↓r25_95, ↓r25_97, ↓r25_100, ↓r25_101, ↓r25_103, ↓r25_106, ↓r25_107, ↓r25_110, ↓r25_111, ↓r25_112, ↓r25_113, ↓r25_114, ↓r25_115, ↓r25_118, ↓r25_119, ↓r25_122, ↓r25_126, ↓r25_129, hR_7, l4, if_pos q4, en8, if_pos q5]
          obtain ⟨a, b⟩ := pxNx_up hV hσ (by rw [q4]; decide)
          refine xr11 hV hT h1 hl h2L (fun f1 l1 b1 => ?_)
          simp only [↓r25_0, ↓r25_1, ↓r25_4, ↓r25_5, ↓r25_8, ↓r25_9, ↓r25_10, ↓r25_13, ↓r25_15, ↓r25_18, ↓r25_19, ↓r25_22, ↓r25_25, ↓r25_26, ↓r25_29, ↓r25_32, ↓r25_33, ↓r25_36, ↓r25_38, ↓r25_41, ↓r25_42, ↓r25_45, ↓r25_48, ↓r25_49, ↓r25_52, ↓r25_55, ↓r25_56, ↓r25_59, ↓r25_61, ↓r25_64, ↓r25_65, ↓r25_67, ↓r25_70, ↓r25_71, ↓r25_74, ↓r25_75, ↓r25_76, ↓r25_77, ↓r25_78, ↓r25_79, ↓r25_82, ↓r25_83, ↓r25_85, ↓r25_88, ↓r25_92, ↓r25_95, ↓r25_97, ↓r25_100, ↓r25_101, ↓r25_103, ↓r25_106, ↓r25_107, ↓r25_110, ↓r25_111, ↓r25_112, ↓r25_113, ↓r25_114, ↓r25_115, ↓r25_118, ↓r25_119, ↓r25_122, ↓r25_126, ↓r25_129, Option.toList, List.cons_append, List.nil_append, nI_1]
          have hpr := pxPc_pr (key := key) hV fu o (n + 1)
          have hC := xr25 hV hT hkey fu (d + 5) o (n + 1) ho (by omega) (by omega)
          rw [show d + 5 + 6 * fu + 10 = d + 6 * fu + 15 by omega] at hC
          refine hC _ f1 g (pxNx B L σ) sz pc (rGd_nx hG l1 b1) a (by omega) (fun σ1 w1 k1 f2 g2 e2 G2 W2 => ?_) (fun e f2 g2 e2 b2 => ?_)
          · obtain ⟨c1, c2, -⟩ := (hpr _ a).2 _ _ _ e2
            have c0 := c1.1
            simp only [e2] at ok bad
            simp only [↓r25_0, ↓r25_1, ↓r25_4, ↓r25_5, ↓r25_8, ↓r25_9, ↓r25_10, ↓r25_13, ↓r25_15, ↓r25_18, ↓r25_19, ↓r25_22, ↓r25_25, ↓r25_26, ↓r25_29, ↓r25_32, ↓r25_33, ↓r25_36, ↓r25_38, ↓r25_41, ↓r25_42, ↓r25_45, ↓r25_48, ↓r25_49, ↓r25_52, ↓r25_55, ↓r25_56, ↓r25_59, ↓r25_61, ↓r25_64, ↓r25_65, ↓r25_67, ↓r25_70, ↓r25_71, ↓r25_74, ↓r25_75, ↓r25_76, ↓r25_77, ↓r25_78, ↓r25_79, ↓r25_82, ↓r25_83, ↓r25_85, ↓r25_88, ↓r25_92, ↓r25_95, ↓r25_97, ↓r25_100, ↓r25_101, ↓r25_103, ↓r25_106, ↓r25_107, ↓r25_110, ↓r25_111, ↓r25_112, ↓r25_113, ↓r25_114, ↓r25_115, ↓r25_118, ↓r25_119, ↓r25_122, ↓r25_126, ↓r25_129, Option.toList, List.cons_append, List.nil_append, xr17 G2.2.2.2.2.1 (by omega : sz + w1.length ≤ 96), if_pos (by omega : sz + w1.length < 96)]
            refine ok _ _ _ _ _ rfl (rGd_eq (rGd_put G2 rfl) ?_ rfl) (rWd_v W2 rfl)
            simp only [List.length_append, List.length_cons, List.length_nil]
            omega
          · simp only [e2] at ok bad
            simp only [↓r25_0, ↓r25_1, ↓r25_4, ↓r25_5, ↓r25_8, ↓r25_9, ↓r25_10, ↓r25_13, ↓r25_15, ↓r25_18, ↓r25_19, ↓r25_22, ↓r25_25, ↓r25_26, ↓r25_29, ↓r25_32, ↓r25_33, ↓r25_36, ↓r25_38, ↓r25_41, ↓r25_42, ↓r25_45, ↓r25_48, ↓r25_49, ↓r25_52, ↓r25_55, ↓r25_56, ↓r25_59, ↓r25_61, ↓r25_64, ↓r25_65, ↓r25_67, ↓r25_70, ↓r25_71, ↓r25_74, ↓r25_75, ↓r25_76, ↓r25_77, ↓r25_78, ↓r25_79, ↓r25_82, ↓r25_83, ↓r25_85, ↓r25_88, ↓r25_92, ↓r25_95, ↓r25_97, ↓r25_100, ↓r25_101, ↓r25_103, ↓r25_106, ↓r25_107, ↓r25_110, ↓r25_111, ↓r25_112, ↓r25_113, ↓r25_114, ↓r25_115, ↓r25_118, ↓r25_119, ↓r25_122, ↓r25_126, ↓r25_129, Option.toList, List.cons_append, List.nil_append]
            refine xr17b b2 (fun f3 g3 b3 => ?_)
            simp only [↓r25_0, ↓r25_1, ↓r25_4, ↓r25_5, ↓r25_8, ↓r25_9, ↓r25_10, ↓r25_13, ↓r25_15, ↓r25_18, ↓r25_19, ↓r25_22, ↓r25_25, ↓r25_26, ↓r25_29, ↓r25_32, ↓r25_33, ↓r25_36, ↓r25_38, ↓r25_41, ↓r25_42, ↓r25_45, ↓r25_48, ↓r25_49, ↓r25_52, ↓r25_55, ↓r25_56, ↓r25_59, ↓r25_61, ↓r25_64, ↓r25_65, ↓r25_67, ↓r25_70, ↓r25_71, ↓r25_74, ↓r25_75, ↓r25_76, ↓r25_77, ↓r25_78, ↓r25_79, ↓r25_82, ↓r25_83, ↓r25_85, ↓r25_88, ↓r25_92, ↓r25_95, ↓r25_97, ↓r25_100, ↓r25_101, ↓r25_103, ↓r25_106, ↓r25_107, ↓r25_110, ↓r25_111, ↓r25_112, ↓r25_113, ↓r25_114, ↓r25_115, ↓r25_118, ↓r25_119, ↓r25_122, ↓r25_126, ↓r25_129, Option.toList, List.cons_append, List.nil_append]
            exact bad _ _ _ rfl b3
        · simp only [↓r25_0, ↓r25_1, ↓r25_4, ↓r25_5, ↓r25_8, ↓r25_9, ↓r25_10, ↓r25_13, ↓r25_15, ↓r25_18, ↓r25_19, ↓r25_22, ↓r25_25, ↓r25_26, ↓r25_29, ↓r25_32, ↓r25_33, ↓r25_36, ↓r25_38, ↓r25_41, ↓r25_42, ↓r25_45, ↓r25_48, ↓r25_49, ↓r25_52, ↓r25_55, ↓r25_56, ↓r25_59, ↓r25_61, ↓r25_64, ↓r25_65, ↓r25_67, ↓r25_70, ↓r25_71, ↓r25_74, ↓r25_75, ↓r25_76, ↓r25_77, ↓r25_78, ↓r25_79, ↓r25_82, ↓r25_83, ↓r25_85, ↓r25_88, ↓r25_92, ↓r25_95, ↓r25_97, ↓r25_100, ↓r25_101, ↓r25_103, ↓r25_106, ↓r25_107, ↓r25_110, ↓r25_111, ↓r25_112, ↓r25_113, ↓r25_114, ↓r25_115, ↓r25_118, ↓r25_119, ↓r25_122, ↓r25_126, ↓r25_129, hR_7, l4, if_pos q4, en8, if_neg q5]
          exact r91 q1 q2 (fun z => q5 z.2)
      · simp only [↓r25_0, ↓r25_1, ↓r25_4, ↓r25_5, ↓r25_8, ↓r25_9, ↓r25_10, ↓r25_13, ↓r25_15, ↓r25_18, ↓r25_19, ↓r25_22, ↓r25_25, ↓r25_26, ↓r25_29, ↓r25_32, ↓r25_33, ↓r25_36, ↓r25_38, ↓r25_41, ↓r25_42, ↓r25_45, ↓r25_48, ↓r25_49, ↓r25_52, ↓r25_55, ↓r25_56, ↓r25_59, ↓r25_61, ↓r25_64, ↓r25_65, ↓r25_67, ↓r25_70, ↓r25_71, ↓r25_74, ↓r25_75, ↓r25_76, ↓r25_77, ↓r25_78, ↓r25_79, ↓r25_82, ↓r25_83, ↓r25_85, ↓r25_88, ↓r25_92, ↓r25_95, ↓r25_97, ↓r25_100, ↓r25_101, ↓r25_103, ↓r25_106, ↓r25_107, ↓r25_110, ↓r25_111, ↓r25_112, ↓r25_113, ↓r25_114, ↓r25_115, ↓r25_118, ↓r25_119, ↓r25_122, ↓r25_126, ↓r25_129, hR_7, l4, if_neg q4]
        exact r91 q1 q2 (fun z => q4 z.1)
    have r32 : ¬ (σ.2.2.1 = -3 ∧ σ.2.2.2 = false) → zR (d + 6 * fu + 15) 25 Q 32 [some (.ref 7), some (.int (nI o)), some (.int (nI n))] [] (hR h f g) := by
      intro q1
      rw [r25_32]
      by_cases q2 : σ.2.2.1 = -2
      · cases q3 : σ.2.2.2
        · simp only [if_neg q1, if_pos (And.intro q2 q3)] at ok bad
          rw [q3] at l5
          simp (decide := true) only [↓r25_0, ↓r25_1, ↓r25_4, ↓r25_5, ↓r25_8, ↓r25_9, ↓r25_10, ↓r25_13, ↓r25_15, ↓r25_18, ↓r25_19, ↓r25_22, ↓r25_25, ↓r25_26, ↓r25_29, ↓r25_32, ↓r25_33, ↓r25_36, ↓r25_38, ↓r25_41, ↓r25_42, ↓r25_45, ↓r25_48, ↓r25_49, ↓r25_52, ↓r25_56, ↓r25_59, ↓r25_61, ↓r25_64, ↓r25_65, ↓r25_67, ↓r25_70, ↓r25_71, ↓r25_74, ↓r25_75, ↓r25_76, ↓r25_77, ↓r25_78, ↓r25_79, ↓r25_82, ↓r25_83, ↓r25_85, ↓r25_88, ↓r25_92, ↓r25_95, ↓r25_97, ↓r25_100, ↓r25_101, ↓r25_103, ↓r25_106, ↓r25_107, ↓r25_110, ↓r25_111, ↓r25_112, ↓r25_113, ↓r25_114, ↓r25_115, ↓r25_118, ↓r25_119, ↓r25_122, ↓r25_126, ↓r25_129, hR_7, l4, if_pos q2, l5, ↓reduceIte]
          refine xr28 hV hT hG hkey hσ q2 hsz (fun a f' g' G W => ?_) (fun a f' b => ?_)
          · simp only [if_neg a] at ok
            simp only [↓r25_0, ↓r25_1, ↓r25_4, ↓r25_5, ↓r25_8, ↓r25_9, ↓r25_10, ↓r25_13, ↓r25_15, ↓r25_18, ↓r25_19, ↓r25_22, ↓r25_25, ↓r25_26, ↓r25_29, ↓r25_32, ↓r25_33, ↓r25_36, ↓r25_38, ↓r25_41, ↓r25_42, ↓r25_45, ↓r25_48, ↓r25_49, ↓r25_52, ↓r25_55, ↓r25_56, ↓r25_59, ↓r25_61, ↓r25_64, ↓r25_65, ↓r25_67, ↓r25_70, ↓r25_71, ↓r25_74, ↓r25_75, ↓r25_76, ↓r25_77, ↓r25_78, ↓r25_79, ↓r25_82, ↓r25_83, ↓r25_85, ↓r25_88, ↓r25_92, ↓r25_95, ↓r25_97, ↓r25_100, ↓r25_101, ↓r25_103, ↓r25_106, ↓r25_107, ↓r25_110, ↓r25_111, ↓r25_112, ↓r25_113, ↓r25_114, ↓r25_115, ↓r25_118, ↓r25_119, ↓r25_122, ↓r25_126, ↓r25_129, Option.toList, List.cons_append, List.nil_append]
            exact ok _ _ _ _ _ rfl G W
          · simp only [if_pos a] at bad
            simp only [↓r25_0, ↓r25_1, ↓r25_4, ↓r25_5, ↓r25_8, ↓r25_9, ↓r25_10, ↓r25_13, ↓r25_15, ↓r25_18, ↓r25_19, ↓r25_22, ↓r25_25, ↓r25_26, ↓r25_29, ↓r25_32, ↓r25_33, ↓r25_36, ↓r25_38, ↓r25_41, ↓r25_42, ↓r25_45, ↓r25_48, ↓r25_49, ↓r25_52, ↓r25_55, ↓r25_56, ↓r25_59, ↓r25_61, ↓r25_64, ↓r25_65, ↓r25_67, ↓r25_70, ↓r25_71, ↓r25_74, ↓r25_75, ↓r25_76, ↓r25_77, ↓r25_78, ↓r25_79, ↓r25_82, ↓r25_83, ↓r25_85, ↓r25_88, ↓r25_92, ↓r25_95, ↓r25_97, ↓r25_100, ↓r25_101, ↓r25_103, ↓r25_106, ↓r25_107, ↓r25_110, ↓r25_111, ↓r25_112, ↓r25_113, ↓r25_114, ↓r25_115, ↓r25_118, ↓r25_119, ↓r25_122, ↓r25_126, ↓r25_129, Option.toList, List.cons_append, List.nil_append]
            exact bad _ _ _ rfl b
        · rw [q3] at l5
          simp (decide := true) only [↓r25_0, ↓r25_1, ↓r25_4, ↓r25_5, ↓r25_8, ↓r25_9, ↓r25_10, ↓r25_13, ↓r25_15, ↓r25_18, ↓r25_19, ↓r25_22, ↓r25_25, ↓r25_26, ↓r25_29, ↓r25_32, ↓r25_33, ↓r25_36, ↓r25_38, ↓r25_41, ↓r25_42, ↓r25_45, ↓r25_48, ↓r25_49, ↓r25_52, ↓r25_56, ↓r25_59, ↓r25_61, ↓r25_64, ↓r25_65, ↓r25_67, ↓r25_70, ↓r25_71, ↓r25_74, ↓r25_75, ↓r25_76, ↓r25_77, ↓r25_78, ↓r25_79, ↓r25_82, ↓r25_83, ↓r25_85, ↓r25_88, ↓r25_92, ↓r25_95, ↓r25_97, ↓r25_100, ↓r25_101, ↓r25_103, ↓r25_106, ↓r25_107, ↓r25_110, ↓r25_111, ↓r25_112, ↓r25_113, ↓r25_114, ↓r25_115, ↓r25_118, ↓r25_119, ↓r25_122, ↓r25_126, ↓r25_129, hR_7, l4, if_pos q2, l5, ↓reduceIte]
          exact r55 q1 (fun z => by rw [q3] at z; exact absurd z.2 (by decide))
      · simp only [↓r25_0, ↓r25_1, ↓r25_4, ↓r25_5, ↓r25_8, ↓r25_9, ↓r25_10, ↓r25_13, ↓r25_15, ↓r25_18, ↓r25_19, ↓r25_22, ↓r25_25, ↓r25_26, ↓r25_29, ↓r25_32, ↓r25_33, ↓r25_36, ↓r25_38, ↓r25_41, ↓r25_42, ↓r25_45, ↓r25_48, ↓r25_49, ↓r25_52, ↓r25_56, ↓r25_59, ↓r25_61, ↓r25_64, ↓r25_65, ↓r25_67, ↓r25_70, ↓r25_71, ↓r25_74, ↓r25_75, ↓r25_76, ↓r25_77, ↓r25_78, ↓r25_79, ↓r25_82, ↓r25_83, ↓r25_85, ↓r25_88, ↓r25_92, ↓r25_95, ↓r25_97, ↓r25_100, ↓r25_101, ↓r25_103, ↓r25_106, ↓r25_107, ↓r25_110, ↓r25_111, ↓r25_112, ↓r25_113, ↓r25_114, ↓r25_115, ↓r25_118, ↓r25_119, ↓r25_122, ↓r25_126, ↓r25_129, hR_7, l4, if_neg q2]
        exact r55 q1 (fun z => q2 z.1)
    by_cases q1 : σ.2.2.1 = -3
    · cases q3 : σ.2.2.2
      · simp only [if_pos (And.intro q1 q3)] at ok bad
        rw [q3] at l5
        simp (decide := true) only [if_pos q1, l5, ↓reduceIte]
        refine xr27 hV hT hG hσ q1 hsz (fun a f' g' G W => ?_) (fun a f' b => ?_)
        · simp only [if_pos a] at ok
          simp only [↓r25_0, ↓r25_1, ↓r25_4, ↓r25_5, ↓r25_8, ↓r25_9, ↓r25_10, ↓r25_13, ↓r25_15, ↓r25_18, ↓r25_19, ↓r25_22, ↓r25_25, ↓r25_26, ↓r25_29, ↓r25_32, ↓r25_33, ↓r25_36, ↓r25_38, ↓r25_41, ↓r25_42, ↓r25_45, ↓r25_48, ↓r25_49, ↓r25_52, ↓r25_55, ↓r25_56, ↓r25_59, ↓r25_61, ↓r25_64, ↓r25_65, ↓r25_67, ↓r25_70, ↓r25_71, ↓r25_74, ↓r25_75, ↓r25_76, ↓r25_77, ↓r25_78, ↓r25_79, ↓r25_82, ↓r25_83, ↓r25_85, ↓r25_88, ↓r25_92, ↓r25_95, ↓r25_97, ↓r25_100, ↓r25_101, ↓r25_103, ↓r25_106, ↓r25_107, ↓r25_110, ↓r25_111, ↓r25_112, ↓r25_113, ↓r25_114, ↓r25_115, ↓r25_118, ↓r25_119, ↓r25_122, ↓r25_126, ↓r25_129, Option.toList, List.cons_append, List.nil_append]
          exact ok _ _ _ _ _ rfl G W
        · simp only [if_neg a] at bad
          simp only [↓r25_0, ↓r25_1, ↓r25_4, ↓r25_5, ↓r25_8, ↓r25_9, ↓r25_10, ↓r25_13, ↓r25_15, ↓r25_18, ↓r25_19, ↓r25_22, ↓r25_25, ↓r25_26, ↓r25_29, ↓r25_32, ↓r25_33, ↓r25_36, ↓r25_38, ↓r25_41, ↓r25_42, ↓r25_45, ↓r25_48, ↓r25_49, ↓r25_52, ↓r25_55, ↓r25_56, ↓r25_59, ↓r25_61, ↓r25_64, ↓r25_65, ↓r25_67, ↓r25_70, ↓r25_71, ↓r25_74, ↓r25_75, ↓r25_76, ↓r25_77, ↓r25_78, ↓r25_79, ↓r25_82, ↓r25_83, ↓r25_85, ↓r25_88, ↓r25_92, ↓r25_95, ↓r25_97, ↓r25_100, ↓r25_101, ↓r25_103, ↓r25_106, ↓r25_107, ↓r25_110, ↓r25_111, ↓r25_112, ↓r25_113, ↓r25_114, ↓r25_115, ↓r25_118, ↓r25_119, ↓r25_122, ↓r25_126, ↓r25_129, Option.toList, List.cons_append, List.nil_append]
          exact bad _ _ _ rfl b
      · rw [q3] at l5
        simp (decide := true) only [if_pos q1, l5, ↓reduceIte]
        exact r32 (fun z => by rw [q3] at z; exact absurd z.2 (by decide))
    · simp only [if_neg q1]
      exact r32 (fun z => q1 z.1)
end
