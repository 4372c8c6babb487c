/-! the class's Reader: a TEXT whole -/
/-- four letters, as a word alone -/
def pxSp (B : Nat → Int32) (σ : pxS) (w : List Int32) : Bool := decide (σ.2.2.1 = -2) && decide (σ.2.1 - σ.1 = 4) && decide (B (σ.1 + 0) = w.getD 0 0) && decide (B (σ.1 + 1) = w.getD 1 0) && decide (B (σ.1 + 2) = w.getD 2 0) && decide (B (σ.1 + 3) = w.getD 3 0)
def pxWo (c : Nat) : List Int32 := [[116,111,108,108],[112,117,108,108],[102,105,110,101]].getD (c - 86) []
def pxKy (B : Nat → Int32) (σ : pxS) : Option Nat := if pxSp B σ (pxWo 86) = true then some 0 else if pxSp B σ (pxWo 87) = true then some 1 else if pxSp B σ (pxWo 88) = true then some 2 else none
def px0 (B : Nat → Int32) (L : Nat) : pxS := pxNx B L (0, 0, -1, false)
/-- the place of its FAULT; or its key, its words, how many pieces -/
def pxTx (B : Nat → Int32) (L : Nat) : Nat ⊕ (Nat × List Int32 × Nat) := match pxKy B (px0 B L) with
  | none => .inl (px0 B L).1
  | some key => match pxE (pxNx B L) (pxPc B L key 17 0 0) (pxNx B L (px0 B L)) with
    | .inl e => .inl e
    | .inr (σ, ws, k) => if σ.2.2.1 = -1 then .inr (key, ws, k) else .inl σ.1
section
variable {d : Nat} {Q : Option Value → zH → Prop} {h : zH} {f g g0 g1 f' g' B : Nat → Int32} {x0 x3 v pc : Int32} {L k p e z key n o j sz c : Nat} {σ : pxS} {l : zL} {P : pxS → pxR} {ws w1 : List Int32}
theorem pxKy_in {key : Nat} (hq : pxKy B σ = some key) : key < 3 ∧ σ.2.2.1 = -2 := by
  unfold pxKy at hq
  split at hq
  · rename_i q
    cases hq
    refine ⟨by omega, ?_⟩
    simp only [pxSp, Bool.and_eq_true, decide_eq_true_eq] at q
    exact q.1.1.1.1.1
  · split at hq
    · rename_i q
      cases hq
      refine ⟨by omega, ?_⟩
      simp only [pxSp, Bool.and_eq_true, decide_eq_true_eq] at q
      exact q.1.1.1.1.1
    · split at hq
      · rename_i q
        cases hq
        refine ⟨by omega, ?_⟩
        simp only [pxSp, Bool.and_eq_true, decide_eq_true_eq] at q
        exact q.1.1.1.1.1
      · cases hq
theorem xr19 (hV : pxV B L) (hT : ∀ i, i < L → h 8 i = B i) (hL : f 1 = nI L) (hl : rL f σ) (hc : zcls c = 23) (h12 : σ.1 ≤ σ.2.1) (hσL : σ.2.1 ≤ L) : zM (d + 10) 19 [.ref 7, .ref c] (hR h f g) Q = Q (some (.int (if pxSp B σ (pxWo c) = true then 1 else 0))) (hR h f g) := by
  have h96 := hV.1
  obtain ⟨l2, l3, l4, l5⟩ := hl
  have e4 : (nI (σ.2.1 - σ.1) = 4) = (σ.2.1 - σ.1 = 4) := propext (nI_eq (b := 4) (by omega) (by omega))
  have hs : ∀ (i : Nat), i < 4 → zR (d + 9) 19 Q 29 [some (.ref 7), some (.ref c), some (.int (nI i))] [] (hR h f g) = if B (σ.1 + i) = (pxWo c).getD i 0 then zR (d + 9) 19 Q 29 [some (.ref 7), some (.ref c), some (.int (nI (i + 1)))] [] (hR h f g) else Q (some (.int 0)) (hR h f g) := by
    intro i hi
    have q4 : nI i < 4 := nI_lt (b := 4) hi (by omega)
    rw [r19_29]
    simp only [↓r19_0, ↓r19_1, ↓r19_4, ↓r19_6, ↓r19_9, ↓r19_10, ↓r19_13, ↓r19_14, ↓r19_17, ↓r19_18, ↓r19_19, ↓r19_22, ↓r19_25, ↓r19_26f, ↓r19_26t, ↓r19_27, ↓r19_28, ↓r19_30, ↓r19_31, ↓r19_34, ↓r19_37, ↓r19_38, ↓r19_39, ↓r19_42, ↓r19_43, ↓r19_44, ↓r19_47, ↓r19_48, ↓r19_49, ↓r19_52, ↓r19_55, ↓r19_56f, ↓r19_56t, ↓r19_57, ↓r19_60, ↓r19_63, ↓r19_64f, ↓r19_64t, m1004, m1005, hc, true_and, Option.toList, List.cons_append, List.nil_append, if_pos q4, hR_7, l2, nI_add, xr13 hL hV hT (by omega : σ.1 + i < 2 ^ 31), zok_nI hi (by omega), zix_nI (by omega : i < 2 ^ 31), nI_1]
    rfl
  have e3 : zR (d + 9) 19 Q 29 [some (.ref 7), some (.ref c), some (.int (nI 4))] [] (hR h f g) = Q (some (.int 1)) (hR h f g) := by
    have q3 : ¬ nI 4 < 4 := by decide
    rw [r19_29]
    simp only [↓r19_0, ↓r19_1, ↓r19_4, ↓r19_6, ↓r19_9, ↓r19_10, ↓r19_13, ↓r19_14, ↓r19_17, ↓r19_18, ↓r19_19, ↓r19_22, ↓r19_25, ↓r19_26f, ↓r19_26t, ↓r19_27, ↓r19_28, ↓r19_30, ↓r19_31, ↓r19_34, ↓r19_37, ↓r19_38, ↓r19_39, ↓r19_42, ↓r19_43, ↓r19_44, ↓r19_47, ↓r19_48, ↓r19_49, ↓r19_52, ↓r19_55, ↓r19_56f, ↓r19_56t, ↓r19_57, ↓r19_60, ↓r19_63, ↓r19_64f, ↓r19_64t, m1004, hc, true_and, Option.toList, List.cons_append, List.nil_append, if_neg q3]
  rw [m19]
  simp only [↓r19_0, ↓r19_1, ↓r19_4, ↓r19_6, ↓r19_9, ↓r19_10, ↓r19_13, ↓r19_14, ↓r19_17, ↓r19_18, ↓r19_19, ↓r19_22, ↓r19_25, ↓r19_26f, ↓r19_26t, ↓r19_27, ↓r19_28, ↓r19_30, ↓r19_31, ↓r19_34, ↓r19_37, ↓r19_38, ↓r19_39, ↓r19_42, ↓r19_43, ↓r19_44, ↓r19_47, ↓r19_48, ↓r19_49, ↓r19_52, ↓r19_55, ↓r19_56f, ↓r19_56t, ↓r19_57, ↓r19_60, ↓r19_63, ↓r19_64f, ↓r19_64t, hR_7, l2, l3, l4, pk_sub h12, m1004, hc, true_and, Option.toList, List.cons_append, List.nil_append, e4]
  have z0 := hs 0 (by omega)
  rw [nI_0] at z0
  rw [z0, hs 1 (by omega), hs 2 (by omega), hs 3 (by omega), e3]
  unfold pxSp
  generalize (pxWo c).getD 0 0 = w0
  generalize (pxWo c).getD 1 0 = w1
  generalize (pxWo c).getD 2 0 = w2
  generalize (pxWo c).getD 3 0 = w3
  by_cases q1 : σ.2.2.1 = -2
  · by_cases q2 : σ.2.1 - σ.1 = 4
    · by_cases a0 : B (σ.1 + 0) = w0
      · by_cases a1 : B (σ.1 + 1) = w1
        · by_cases a2 : B (σ.1 + 2) = w2
          · by_cases a3 : B (σ.1 + 3) = w3
            · simp only [if_pos q1, if_pos q2, if_pos a0, if_pos a1, if_pos a2, if_pos a3, decide_eq_true q1, decide_eq_true q2, decide_eq_true a0, decide_eq_true a1, decide_eq_true a2, decide_eq_true a3, Bool.true_and, if_true]
            · simp only [if_pos q1, if_pos q2, if_pos a0, if_pos a1, if_pos a2, if_neg a3, decide_eq_false a3, Bool.and_false, Bool.false_eq_true, if_false]
          · simp only [if_pos q1, if_pos q2, if_pos a0, if_pos a1, if_neg a2, decide_eq_false a2, Bool.and_false, Bool.false_and, Bool.false_eq_true, if_false]
        · simp only [if_pos q1, if_pos q2, if_pos a0, if_neg a1, decide_eq_false a1, Bool.and_false, Bool.false_and, Bool.false_eq_true, if_false]
      · simp only [if_pos q1, if_pos q2, if_neg a0, decide_eq_false a0, Bool.and_false, Bool.false_and, Bool.false_eq_true, if_false]
    · simp only [if_pos q1, if_neg q2, decide_eq_false q2, Bool.and_false, Bool.false_and, Bool.false_eq_true, if_false]
  · simp only [if_neg q1, decide_eq_false q1, Bool.and_false, Bool.false_and, Bool.false_eq_true, if_false]
theorem rL_k7 (hl : rL f σ) : rL (upd f 7 x0) σ := rL_up hl (by omega)
theorem xr18 (hV : pxV B L) (hT : ∀ i, i < L → h 8 i = B i) (hL : f 1 = nI L) (hl : rL f σ) (hσ : pxG B L σ) (h6 : f 6 = -1) (ok : ∀ key, pxKy B σ = some key → ∀ f', rL f' (pxNx B L σ) → f' 7 = nI key → (∀ j, j ≠ 2 → j ≠ 3 → j ≠ 4 → j ≠ 5 → j ≠ 7 → f' j = f j) → Q none (hR h f' g)) (bad : pxKy B σ = none → Q none (hR h (upd f 6 (f 2)) g)) : zM (d + 11) 18 [.ref 7] (hR h f g) Q := by
  have h96 := hV.1
  have h12 : σ.1 ≤ σ.2.1 := by
    rcases Nat.lt_or_ge σ.1 L with z | z
    · exact Nat.le_of_lt (hσ.2.2.1 z)
    · rw [hσ.2.2.2.2]
      unfold pxEn
      rw [pxSo_end hV z, if_neg (by decide), if_neg (by omega)]
      exact hσ.1
  have e86 := fun Q' => xr19 (d := d) (g := g) (Q := Q') (c := 86) hV hT hL hl rfl h12 hσ.2.1
  have e87 := fun Q' => xr19 (d := d) (g := g) (Q := Q') (c := 87) hV hT hL hl rfl h12 hσ.2.1
  have e88 := fun Q' => xr19 (d := d) (g := g) (Q := Q') (c := 88) hV hT hL hl rfl h12 hσ.2.1
  have go : ∀ (key : Nat), pxKy B σ = some key → zR (d + 10) 18 Q 56 [some (.ref 7)] [] (hR h (upd f 7 (nI key)) g) := by
    intro key hk
    simp only [↓r18_0, ↓r18_1, ↓r18_3, ↓r18_6, ↓r18_9, ↓r18_10, ↓r18_11, ↓r18_14, ↓r18_17, ↓r18_18, ↓r18_20, ↓r18_23, ↓r18_26, ↓r18_27, ↓r18_28, ↓r18_31, ↓r18_34, ↓r18_35, ↓r18_37, ↓r18_40, ↓r18_43, ↓r18_44, ↓r18_45, ↓r18_48, ↓r18_51, ↓r18_52, ↓r18_55, ↓r18_56, ↓r18_57, ↓r18_60]
    refine xr11 hV hT (f := upd f 7 (nI key)) (σ := σ) (by rw [pk_un (by omega)]; exact hL) (rL_k7 hl) hσ.2.1 (fun f1 l1 b1 => ?_)
    simp only [↓r18_0, ↓r18_1, ↓r18_3, ↓r18_6, ↓r18_9, ↓r18_10, ↓r18_11, ↓r18_14, ↓r18_17, ↓r18_18, ↓r18_20, ↓r18_23, ↓r18_26, ↓r18_27, ↓r18_28, ↓r18_31, ↓r18_34, ↓r18_35, ↓r18_37, ↓r18_40, ↓r18_43, ↓r18_44, ↓r18_45, ↓r18_48, ↓r18_51, ↓r18_52, ↓r18_55, ↓r18_56, ↓r18_57, ↓r18_60, Option.toList, List.cons_append, List.nil_append]
    exact ok key hk f1 l1 (by rw [b1 7 (by omega) (by omega) (by omega) (by omega), pk_us]) (fun j a b c d e => by rw [b1 j a b c d, pk_un e])
  rw [m18]
  unfold pxKy at go bad
  by_cases q1 : pxSp B σ (pxWo 86) = true
  · simp (decide := true) only [↓r18_0, ↓r18_1, ↓r18_3, ↓r18_6, ↓r18_9, ↓r18_10, ↓r18_11, ↓r18_14, ↓r18_17, ↓r18_18, ↓r18_20, ↓r18_23, ↓r18_26, ↓r18_27, ↓r18_28, ↓r18_31, ↓r18_34, ↓r18_35, ↓r18_37, ↓r18_40, ↓r18_43, ↓r18_44, ↓r18_45, ↓r18_48, ↓r18_51, ↓r18_52, ↓r18_55, ↓r18_57, ↓r18_60, e86, Option.toList, List.cons_append, List.nil_append, if_pos q1, ↓reduceIte, hR_7, hR_p7]
    exact go 0 (if_pos q1)
  · by_cases q2 : pxSp B σ (pxWo 87) = true
    · simp (decide := true) only [↓r18_0, ↓r18_1, ↓r18_3, ↓r18_6, ↓r18_9, ↓r18_10, ↓r18_11, ↓r18_14, ↓r18_17, ↓r18_18, ↓r18_20, ↓r18_23, ↓r18_26, ↓r18_27, ↓r18_28, ↓r18_31, ↓r18_34, ↓r18_35, ↓r18_37, ↓r18_40, ↓r18_43, ↓r18_44, ↓r18_45, ↓r18_48, ↓r18_51, ↓r18_52, ↓r18_55, ↓r18_57, ↓r18_60, e86, e87, Option.toList, List.cons_append, List.nil_append, if_neg q1, if_pos q2, ↓reduceIte, hR_7, hR_p7]
      exact go 1 (by rw [if_neg q1, if_pos q2])
    · by_cases q3 : pxSp B σ (pxWo 88) = true
      · simp (decide := true) only [↓r18_0, ↓r18_1, ↓r18_3, ↓r18_6, ↓r18_9, ↓r18_10, ↓r18_11, ↓r18_14, ↓r18_17, ↓r18_18, ↓r18_20, ↓r18_23, ↓r18_26, ↓r18_27, ↓r18_28, ↓r18_31, ↓r18_34, ↓r18_35, ↓r18_37, ↓r18_40, ↓r18_43, ↓r18_44, ↓r18_45, ↓r18_48, ↓r18_51, ↓r18_52, ↓r18_55, ↓r18_57, ↓r18_60, e86, e87, e88, Option.toList, List.cons_append, List.nil_append, if_neg q1, if_neg q2, if_pos q3, ↓reduceIte, hR_7, hR_p7]
        exact go 2 (by rw [if_neg q1, if_neg q2, if_pos q3])
      · simp (decide := true) only [↓r18_0, ↓r18_1, ↓r18_3, ↓r18_6, ↓r18_9, ↓r18_10, ↓r18_11, ↓r18_14, ↓r18_17, ↓r18_18, ↓r18_20, ↓r18_23, ↓r18_26, ↓r18_27, ↓r18_28, ↓r18_31, ↓r18_34, ↓r18_35, ↓r18_37, ↓r18_40, ↓r18_43, ↓r18_44, ↓r18_45, ↓r18_48, ↓r18_51, ↓r18_52, ↓r18_55, ↓r18_57, ↓r18_60, e86, e87, e88, Option.toList, List.cons_append, List.nil_append, if_neg q1, if_neg q2, if_neg q3, ↓reduceIte, xr15, if_pos h6]
        exact bad (by rw [if_neg q1, if_neg q2, if_neg q3])
theorem px0_G (hV : pxV B L) : pxG B L (px0 B L) := (pxNx_G (σ := (0, 0, -1, false)) hV (Nat.zero_le L)).1
/-- readTape -/
theorem xr10 (hV : pxV B L) (hT : ∀ i, i < L → h 8 i = B i) (hL : f 1 = nI L)
    (ok : ∀ key ws k, pxTx B L = .inr (key, ws, k) → key < 3 → ws.length ≤ 96 → (∀ t, pxGo ws t = some (t + 1)) → ∀ f' g', f' 1 = nI L → f' 7 = nI key → f' 9 = nI ws.length → f' 10 = nI k → (∀ i, i < ws.length → g' i = ws.getD i 0) → Q (some (.int (-1))) (hR h f' g'))
    (bad : ∀ e, pxTx B L = .inl e → e < 2 ^ 31 → ∀ f' g', f' 1 = nI L → Q (some (.int (nI e))) (hR h f' g')) : zM (d + 122) 10 [.ref 7] (hR h f g) Q := by
  have h96 := hV.1
  rw [m10]
  simp only [↓r10_0, ↓r10_1, ↓r10_2, ↓r10_5, ↓r10_6, ↓r10_7, ↓r10_10, ↓r10_11, ↓r10_12, ↓r10_15, ↓r10_16, ↓r10_17, ↓r10_20, ↓r10_21, ↓r10_22, ↓r10_25, ↓r10_26, ↓r10_29, ↓r10_30, ↓r10_33, ↓r10_34, ↓r10_35, ↓r10_36, ↓r10_39, ↓r10_40, ↓r10_43, ↓r10_44, ↓r10_47, ↓r10_48, ↓r10_51, ↓r10_52, ↓r10_55, hR_7, hR_p7]
  refine xr11a (σ := (0, 0, -1, false)) hV hT ?_ ?_ ?_ (Nat.zero_le L) (fun f1 l1 b1 => ?_)
  · simp only [zup_ap]; exact hL
  · rfl
  · rfl
  have c1 : f1 1 = nI L := by rw [b1 1 (by omega) (by omega) (by omega) (by omega)]; exact hL
  have c6 : f1 6 = -1 := by rw [b1 6 (by omega) (by omega) (by omega) (by omega)]; rfl
  have c9 : f1 9 = nI 0 := by rw [b1 9 (by omega) (by omega) (by omega) (by omega)]; rfl
  have c10 : f1 10 = 0 := by rw [b1 10 (by omega) (by omega) (by omega) (by omega)]; rfl
  have G0 := px0_G (L := L) hV
  simp only [↓r10_0, ↓r10_1, ↓r10_2, ↓r10_5, ↓r10_6, ↓r10_7, ↓r10_10, ↓r10_11, ↓r10_12, ↓r10_15, ↓r10_16, ↓r10_17, ↓r10_20, ↓r10_21, ↓r10_22, ↓r10_25, ↓r10_26, ↓r10_29, ↓r10_30, ↓r10_33, ↓r10_34, ↓r10_35, ↓r10_36, ↓r10_40, ↓r10_43, ↓r10_44, ↓r10_47, ↓r10_48, ↓r10_51, ↓r10_52, ↓r10_55, Option.toList, List.cons_append, List.nil_append]
  unfold pxTx at ok bad
  have fin : ∀ e f2 g2, rBf L f2 e → (∀ f' g', f' 1 = nI L → Q (some (.int (nI e))) (hR h f' g')) → zR (d + 121) 10 Q 39 [some (.ref 7)] [] (hR h f2 g2) := by
    intro e f2 g2 hb K
    obtain ⟨h1, h6, he, z, hz, h9⟩ := hb
    have n1 := nI_nm1 he
    simp only [↓r10_0, ↓r10_1, ↓r10_2, ↓r10_5, ↓r10_6, ↓r10_7, ↓r10_10, ↓r10_11, ↓r10_12, ↓r10_15, ↓r10_16, ↓r10_17, ↓r10_20, ↓r10_21, ↓r10_22, ↓r10_25, ↓r10_26, ↓r10_29, ↓r10_30, ↓r10_33, ↓r10_34, ↓r10_35, ↓r10_36, ↓r10_39, ↓r10_40, ↓r10_43, ↓r10_47, ↓r10_48, ↓r10_51, ↓r10_52, ↓r10_55, hR_7, h6]
    rw [r10_44]
    by_cases q : f2 4 = -1
    · simp only [if_pos q, ↓r10_0, ↓r10_1, ↓r10_2, ↓r10_5, ↓r10_6, ↓r10_7, ↓r10_10, ↓r10_11, ↓r10_12, ↓r10_15, ↓r10_16, ↓r10_17, ↓r10_20, ↓r10_21, ↓r10_22, ↓r10_25, ↓r10_26, ↓r10_29, ↓r10_30, ↓r10_33, ↓r10_34, ↓r10_35, ↓r10_36, ↓r10_39, ↓r10_40, ↓r10_43, ↓r10_44, ↓r10_47, ↓r10_48, ↓r10_51, ↓r10_52, ↓r10_55, hR_7, h6]
      exact K _ _ h1
    · simp only [if_neg q, ↓r10_0, ↓r10_1, ↓r10_2, ↓r10_5, ↓r10_6, ↓r10_7, ↓r10_10, ↓r10_11, ↓r10_12, ↓r10_15, ↓r10_16, ↓r10_17, ↓r10_20, ↓r10_21, ↓r10_22, ↓r10_25, ↓r10_26, ↓r10_29, ↓r10_30, ↓r10_33, ↓r10_34, ↓r10_35, ↓r10_36, ↓r10_39, ↓r10_40, ↓r10_43, ↓r10_44, ↓r10_47, ↓r10_48, ↓r10_51, ↓r10_52, ↓r10_55, hR_7, h6, xr15, if_neg n1, Option.toList, List.cons_append, List.nil_append]
      exact K _ _ h1
  refine xr18 (σ := px0 B L) hV hT c1 l1 G0 c6 (fun key hk f2 l2 k7 b2 => ?_) (fun hk => ?_)
  · obtain ⟨hkey, hso⟩ := pxKy_in hk
    simp only [hk] at ok bad
    simp only [↓r10_0, ↓r10_1, ↓r10_2, ↓r10_5, ↓r10_6, ↓r10_7, ↓r10_10, ↓r10_11, ↓r10_12, ↓r10_15, ↓r10_16, ↓r10_17, ↓r10_20, ↓r10_21, ↓r10_22, ↓r10_25, ↓r10_26, ↓r10_29, ↓r10_30, ↓r10_33, ↓r10_34, ↓r10_35, ↓r10_36, ↓r10_40, ↓r10_43, ↓r10_44, ↓r10_47, ↓r10_48, ↓r10_51, ↓r10_52, ↓r10_55, Option.toList, List.cons_append, List.nil_append]
    have GN := pxNx_G (σ := px0 B L) hV G0.2.1
    have G2 : rGd L key f2 (pxNx B L (px0 B L)) 0 0 := ⟨by rw [b2 1 (by omega) (by omega) (by omega) (by omega) (by omega)]; exact c1, l2, by rw [b2 6 (by omega) (by omega) (by omega) (by omega) (by omega)]; exact c6, k7, by rw [b2 9 (by omega) (by omega) (by omega) (by omega) (by omega)]; exact c9, by rw [b2 10 (by omega) (by omega) (by omega) (by omega) (by omega)]; exact c10⟩
    have hpr := pxPc_pr (key := key) hV 17 0 0
    have hC := xr20E hV hT (xr25 hV hT hkey 17 (d + 4) 0 0 (by omega) (by omega) (by omega)) hpr
    refine hC _ f2 g (pxNx B L (px0 B L)) 0 0 G2 GN.1 (Nat.zero_le _) (fun σ1 w1 k1 f3 g3 e3 G3 W3 => ?_) (fun e f3 g3 e3 b3 => ?_)
    · obtain ⟨a1, a2, a3⟩ := (pxE_pr hV hpr _ GN.1).2 _ _ _ e3
      have a0 := a1.1
      simp only [e3] at ok bad
      rw [Nat.zero_add] at G3
      simp only [Option.toList, List.cons_append, List.nil_append]
      have h4 : f3 4 = σ1.2.2.1 := G3.2.1.2.2.1
      have h6 : f3 6 = -1 := G3.2.2.1
      by_cases q : σ1.2.2.1 = -1
      · simp only [if_pos q] at ok
        simp only [↓r10_0, ↓r10_1, ↓r10_2, ↓r10_5, ↓r10_6, ↓r10_7, ↓r10_10, ↓r10_11, ↓r10_12, ↓r10_15, ↓r10_16, ↓r10_17, ↓r10_20, ↓r10_21, ↓r10_22, ↓r10_25, ↓r10_26, ↓r10_29, ↓r10_30, ↓r10_33, ↓r10_34, ↓r10_35, ↓r10_36, ↓r10_39, ↓r10_40, ↓r10_43, ↓r10_44, ↓r10_47, ↓r10_48, ↓r10_51, ↓r10_52, ↓r10_55, hR_7, h4, if_pos q, h6]
        refine ok _ _ _ rfl hkey (by omega) a3 _ _ G3.1 G3.2.2.2.1 G3.2.2.2.2.1 (by rw [G3.2.2.2.2.2, Int32.zero_add]) (fun i hi => ?_)
        have := W3.2 i hi
        rwa [Nat.zero_add] at this
      · simp only [if_neg q] at bad
        have hb := rBf_mt G3 (by omega) (by omega)
        simp only [↓r10_0, ↓r10_1, ↓r10_2, ↓r10_5, ↓r10_6, ↓r10_7, ↓r10_10, ↓r10_11, ↓r10_12, ↓r10_15, ↓r10_16, ↓r10_17, ↓r10_20, ↓r10_21, ↓r10_22, ↓r10_25, ↓r10_26, ↓r10_29, ↓r10_30, ↓r10_33, ↓r10_34, ↓r10_35, ↓r10_36, ↓r10_39, ↓r10_40, ↓r10_43, ↓r10_44, ↓r10_47, ↓r10_48, ↓r10_51, ↓r10_52, ↓r10_55, hR_7, h4, if_neg q, xr15, if_pos h6, Option.toList, List.cons_append, List.nil_append, hb.2.1]
        exact bad _ rfl (by omega) _ _ hb.1
    · simp only [e3] at ok bad
      simp only [Option.toList, List.cons_append, List.nil_append]
      exact fin e _ _ b3 (bad e rfl b3.2.2.1)
  · simp only [hk] at ok bad
    have g1 := G0.1
    have hb : rBf L (upd f1 6 (f1 2)) (px0 B L).1 := ⟨by rw [pk_un (by omega)]; exact c1, by rw [pk_us]; exact l1.1, by omega, 0, by omega, by rw [pk_un (by omega)]; exact c9⟩
    simp only [↓r10_0, ↓r10_1, ↓r10_2, ↓r10_5, ↓r10_6, ↓r10_7, ↓r10_10, ↓r10_11, ↓r10_12, ↓r10_15, ↓r10_16, ↓r10_17, ↓r10_20, ↓r10_21, ↓r10_22, ↓r10_25, ↓r10_26, ↓r10_29, ↓r10_30, ↓r10_33, ↓r10_34, ↓r10_35, ↓r10_36, ↓r10_40, ↓r10_43, ↓r10_44, ↓r10_47, ↓r10_48, ↓r10_51, ↓r10_52, ↓r10_55, Option.toList, List.cons_append, List.nil_append]
    have hC := xr20b (h := h) (L := L) (d := d + 113) (o := 0) (n := 0)
    refine hC _ _ _ _ hb (fun f3 g3 b3 => ?_)
    simp only [Option.toList, List.cons_append, List.nil_append]
    exact fin _ _ _ b3 (bad _ rfl b3.2.2.1)
end
