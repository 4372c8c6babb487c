/-! the class's Reader: the outer levels of E -/
section
variable {d : Nat} {Q : Option Value → zH → Prop} {h : zH} {f g g0 g1 f' g' B : Nat → Int32} {x0 x3 v pc : Int32} {L k p e z key n o j sz : Nat} {σ : pxS} {l : zL} {P : pxS → pxR} {ws w1 : List Int32}
theorem xr21_out (hb : rBf L f e) (hx : x3 = nI j) (hj : j ≤ 96) (K : Q none (hR h f g)) : zR (d + 3) 21 Q 8 [some (.ref 7), some (.int (nI o)), some (.int (nI n)), some (.int x3)] [] (hR h f g) := by
  obtain ⟨h1, h6, he, z, hz, h9⟩ := hb
  have n1 := nI_nm1 he
  rw [r21_8]
  by_cases q : j < 96
  · simp (decide := true) only [↓r21_0, ↓r21_1, ↓r21_2, ↓r21_3, ↓r21_6, ↓r21_7, ↓r21_9, ↓r21_11, ↓r21_14, ↓r21_15, ↓r21_17, ↓r21_20, ↓r21_23, ↓r21_24, ↓r21_27, ↓r21_28, ↓r21_29, ↓r21_30, ↓r21_33, ↓r21_34, ↓r21_36, ↓r21_39, ↓r21_42, ↓r21_45, hx, nI_96 (by omega : j < 2 ^ 31), q, xr16, Option.toList, List.cons_append, List.nil_append, h6, n1, false_and, ↓reduceIte]
    exact K
  · simp (decide := true) only [↓r21_0, ↓r21_1, ↓r21_2, ↓r21_3, ↓r21_6, ↓r21_7, ↓r21_9, ↓r21_11, ↓r21_14, ↓r21_15, ↓r21_17, ↓r21_20, ↓r21_23, ↓r21_24, ↓r21_27, ↓r21_28, ↓r21_29, ↓r21_30, ↓r21_33, ↓r21_34, ↓r21_36, ↓r21_39, ↓r21_42, ↓r21_45, hx, nI_96 (by omega : j < 2 ^ 31), q, ↓reduceIte]
    exact K
theorem xr21_lp (hV : pxV B L) (hT : ∀ i, i < L → h 8 i = B i) (hP : rCon h B L key (d + 3) 22 o n P) (hpr : pxPr B L P) : ∀ (m j : Nat) (x3 : Int32) (σ : pxS) (ws : List Int32) (k : Nat) (f g : Nat → Int32), j + m = 96 → x3 = nI j → rGd L key f σ (sz + ws.length) (pc + nI k) → pxG B L σ → sz + ws.length ≤ σ.1 → rWd sz g0 g ws →
    (∀ σ' ws' k' f' g', pxLp (pxNx B L) P pxAn m σ ws k = .inr (σ', ws', k') → rGd L key f' σ' (sz + ws'.length) (pc + nI k') → rWd sz g0 g' ws' → Q none (hR h f' g')) →
    (∀ e f' g', pxLp (pxNx B L) P pxAn m σ ws k = .inl e → rBf L f' e → Q none (hR h f' g')) → zR (d + 3) 21 Q 8 [some (.ref 7), some (.int (nI o)), some (.int (nI n)), some (.int x3)] [] (hR h f g)
  | 0, j, x3, σ, ws, k, f, g, hj, hx, hG, hσ, hsz, hw, ok, bad => by
    have q : ¬ j < 96 := by omega
    rw [r21_8]
    simp (decide := true) only [↓r21_0, ↓r21_1, ↓r21_2, ↓r21_3, ↓r21_6, ↓r21_7, ↓r21_9, ↓r21_11, ↓r21_14, ↓r21_15, ↓r21_17, ↓r21_20, ↓r21_23, ↓r21_24, ↓r21_27, ↓r21_28, ↓r21_29, ↓r21_30, ↓r21_33, ↓r21_34, ↓r21_36, ↓r21_39, ↓r21_42, ↓r21_45, hx, nI_96 (by omega : j < 2 ^ 31), q, ↓reduceIte]
    exact ok σ ws k f g rfl hG hw
  | m + 1, j, x3, σ, ws, k, f, g, hj, hx, hG, hσ, hsz, hw, ok, bad => by
    have q : j < 96 := by omega
    have h96 := hV.1
    have h6 : f 6 = -1 := hG.2.2.1
    have h4 : f 4 = σ.2.2.1 := hG.2.1.2.2.1
    have go : pxAn σ.2.2.1 = true → zR (d + 3) 21 Q 23 [some (.ref 7), some (.int (nI o)), some (.int (nI n)), some (.int x3)] [] (hR h f g) := by
      intro qo
      have hs := pxAn_s qo
      obtain ⟨a, b⟩ := pxNx_up hV hσ (zsgn_m1 hs)
      simp only [pxLp, if_pos qo] at ok bad
      simp only [↓r21_0, ↓r21_1, ↓r21_2, ↓r21_3, ↓r21_6, ↓r21_7, ↓r21_9, ↓r21_11, ↓r21_14, ↓r21_15, ↓r21_17, ↓r21_20, ↓r21_23, ↓r21_24, ↓r21_27, ↓r21_28, ↓r21_29, ↓r21_30, ↓r21_33, ↓r21_34, ↓r21_36, ↓r21_39, ↓r21_42, ↓r21_45, hR_7, h4, hx, nI_1]
      refine xr11 hV hT hG.1 hG.2.1 hσ.2.1 (fun f1 l1 b1 => ?_)
      simp only [↓r21_0, ↓r21_1, ↓r21_2, ↓r21_3, ↓r21_6, ↓r21_7, ↓r21_9, ↓r21_11, ↓r21_14, ↓r21_15, ↓r21_17, ↓r21_20, ↓r21_23, ↓r21_24, ↓r21_27, ↓r21_28, ↓r21_29, ↓r21_30, ↓r21_33, ↓r21_34, ↓r21_36, ↓r21_39, ↓r21_42, ↓r21_45, Option.toList, List.cons_append, List.nil_append]
      refine hP _ f1 g (pxNx B L σ) (sz + ws.length) (pc + nI k) (rGd_nx hG l1 b1) a (by omega) (fun σ1 w1 k1 f2 g2 e2 G2 W2 => ?_) (fun e f2 g2 e2 b2 => ?_)
      · obtain ⟨c1, c2, -⟩ := (hpr _ a).2 _ _ _ e2
        have c0 := c1.1
        simp only [e2] at ok bad
        simp only [↓r21_0, ↓r21_1, ↓r21_2, ↓r21_3, ↓r21_6, ↓r21_7, ↓r21_9, ↓r21_11, ↓r21_14, ↓r21_15, ↓r21_17, ↓r21_20, ↓r21_23, ↓r21_24, ↓r21_27, ↓r21_28, ↓r21_29, ↓r21_30, ↓r21_33, ↓r21_34, ↓r21_36, ↓r21_39, ↓r21_42, ↓r21_45, Option.toList, List.cons_append, List.nil_append, xr17 G2.2.2.2.2.1 (by omega : sz + ws.length + w1.length ≤ 96), if_pos (by omega : sz + ws.length + w1.length < 96)]
        have W3 : rWd sz g0 (upd g2 (sz + ws.length + w1.length) (-σ.2.2.1)) (ws ++ w1 ++ [-σ.2.2.1]) := rWd_v (rWd_app hw W2) (by rw [List.length_append]; omega)
        have G3 : rGd L key (upd f2 9 (nI (sz + ws.length + w1.length + 1))) σ1 (sz + (ws ++ w1 ++ [-σ.2.2.1]).length) (pc + nI (k + k1)) := by
          refine rGd_eq (rGd_put G2 rfl) ?_ ?_
          · simp only [List.length_append, List.length_cons, List.length_nil]; omega
          · rw [← nI_add, Int32.add_assoc]
        have es : σ.2.2.1 = 38 := by simpa [pxAn] using qo
        simp only [es] at G3 W3 ok bad
        refine xr21_lp hV hT hP hpr m (j + 1) _ σ1 _ _ _ _ (by omega) (by simp only [hx, nI_1]) G3 c1 ?_ W3 ok bad
        simp only [List.length_append, List.length_cons, List.length_nil]
        omega
      · simp only [e2] at ok bad
        simp only [↓r21_0, ↓r21_1, ↓r21_2, ↓r21_3, ↓r21_6, ↓r21_7, ↓r21_9, ↓r21_11, ↓r21_14, ↓r21_15, ↓r21_17, ↓r21_20, ↓r21_23, ↓r21_24, ↓r21_27, ↓r21_28, ↓r21_29, ↓r21_30, ↓r21_33, ↓r21_34, ↓r21_36, ↓r21_39, ↓r21_42, ↓r21_45, Option.toList, List.cons_append, List.nil_append]
        refine xr17b b2 (fun f3 g3 b3 => ?_)
        simp only [↓r21_0, ↓r21_1, ↓r21_2, ↓r21_3, ↓r21_6, ↓r21_7, ↓r21_9, ↓r21_11, ↓r21_14, ↓r21_15, ↓r21_17, ↓r21_20, ↓r21_23, ↓r21_24, ↓r21_27, ↓r21_28, ↓r21_29, ↓r21_30, ↓r21_33, ↓r21_34, ↓r21_36, ↓r21_39, ↓r21_42, ↓r21_45, Option.toList, List.cons_append, List.nil_append]
        exact xr21_out b3 (j := j + 1) (by simp only [hx, nI_1]) (by omega) (bad _ _ _ rfl b3)
    have no : ¬ pxAn σ.2.2.1 = true → Q none (hR h f g) := by
      intro qo
      simp only [pxLp, if_neg qo] at ok
      exact ok σ ws k f g rfl hG hw
    rw [r21_8]
    simp (decide := true) only [↓r21_0, ↓r21_1, ↓r21_2, ↓r21_3, ↓r21_6, ↓r21_7, ↓r21_9, ↓r21_11, ↓r21_14, ↓r21_15, ↓r21_17, ↓r21_20, ↓r21_24, ↓r21_27, ↓r21_28, ↓r21_29, ↓r21_30, ↓r21_33, ↓r21_34, ↓r21_36, ↓r21_39, ↓r21_42, ↓r21_45, hx, nI_96 (by omega : j < 2 ^ 31), q, xr16, Option.toList, List.cons_append, List.nil_append, h6, h4, true_and, ↓reduceIte]
    rw [hx] at go
    by_cases q1 : σ.2.2.1 = 38
    · have qo : pxAn σ.2.2.1 = true := by simp [pxAn, q1]
      simp (decide := true) only [if_pos q1, ↓reduceIte]
      exact go qo
    · have qo : ¬ pxAn σ.2.2.1 = true := by simp [pxAn, q1]
      simp (decide := true) only [if_neg q1, ↓reduceIte]
      exact no qo
theorem xr21 (hV : pxV B L) (hT : ∀ i, i < L → h 8 i = B i) (hP : rCon h B L key (d + 3) 22 o n P) (hpr : pxPr B L P) : rCon h B L key (d + 3 + 1) 21 o n (pxLv (pxNx B L) P pxAn) := by
  intro Q f g σ sz pc hG hσ hsz ok bad
  rw [m21]
  simp only [↓r21_0, ↓r21_1, ↓r21_2, ↓r21_3, ↓r21_6, ↓r21_7, ↓r21_9, ↓r21_11, ↓r21_14, ↓r21_15, ↓r21_17, ↓r21_20, ↓r21_23, ↓r21_24, ↓r21_27, ↓r21_28, ↓r21_29, ↓r21_30, ↓r21_33, ↓r21_34, ↓r21_36, ↓r21_39, ↓r21_42, ↓r21_45]
  refine hP _ f g σ sz pc hG hσ hsz (fun σ1 w1 k1 f1 g1 e1 G1 W1 => ?_) (fun e f1 g1 e1 b1 => ?_)
  · simp only [↓r21_0, ↓r21_1, ↓r21_2, ↓r21_3, ↓r21_6, ↓r21_7, ↓r21_9, ↓r21_11, ↓r21_14, ↓r21_15, ↓r21_17, ↓r21_20, ↓r21_23, ↓r21_24, ↓r21_27, ↓r21_28, ↓r21_29, ↓r21_30, ↓r21_33, ↓r21_34, ↓r21_36, ↓r21_39, ↓r21_42, ↓r21_45, Option.toList, List.cons_append, List.nil_append]
    simp only [pxLv, e1] at ok bad
    obtain ⟨c1, c2, -⟩ := (hpr σ hσ).2 _ _ _ e1
    exact xr21_lp hV hT hP hpr 96 0 _ σ1 w1 k1 f1 g1 rfl nI_0.symm G1 c1 (by omega) W1 ok bad
  · simp only [↓r21_0, ↓r21_1, ↓r21_2, ↓r21_3, ↓r21_6, ↓r21_7, ↓r21_9, ↓r21_11, ↓r21_14, ↓r21_15, ↓r21_17, ↓r21_20, ↓r21_23, ↓r21_24, ↓r21_27, ↓r21_28, ↓r21_29, ↓r21_30, ↓r21_33, ↓r21_34, ↓r21_36, ↓r21_39, ↓r21_42, ↓r21_45, Option.toList, List.cons_append, List.nil_append]
    simp only [pxLv, e1] at ok bad
    exact xr21_out b1 (j := 0) nI_0.symm (by omega) (bad _ _ _ rfl b1)
theorem xr21b (hPb : rBad h L (d + 3) 22 o n) : rBad h L (d + 3 + 1) 21 o n := by
  intro Q f g e hb K
  rw [m21]
  simp only [↓r21_0, ↓r21_1, ↓r21_2, ↓r21_3, ↓r21_6, ↓r21_7, ↓r21_9, ↓r21_11, ↓r21_14, ↓r21_15, ↓r21_17, ↓r21_20, ↓r21_23, ↓r21_24, ↓r21_27, ↓r21_28, ↓r21_29, ↓r21_30, ↓r21_33, ↓r21_34, ↓r21_36, ↓r21_39, ↓r21_42, ↓r21_45]
  refine hPb _ f g e hb (fun f1 g1 b1 => ?_)
  simp only [↓r21_0, ↓r21_1, ↓r21_2, ↓r21_3, ↓r21_6, ↓r21_7, ↓r21_9, ↓r21_11, ↓r21_14, ↓r21_15, ↓r21_17, ↓r21_20, ↓r21_23, ↓r21_24, ↓r21_27, ↓r21_28, ↓r21_29, ↓r21_30, ↓r21_33, ↓r21_34, ↓r21_36, ↓r21_39, ↓r21_42, ↓r21_45, Option.toList, List.cons_append, List.nil_append]
  exact xr21_out b1 (j := 0) nI_0.symm (by omega) (K _ _ b1)
theorem xr20_out (hb : rBf L f e) (hx : x3 = nI j) (hj : j ≤ 96) (K : Q none (hR h f g)) : zR (d + 3) 20 Q 8 [some (.ref 7), some (.int (nI o)), some (.int (nI n)), some (.int x3)] [] (hR h f g) := by
  obtain ⟨h1, h6, he, z, hz, h9⟩ := hb
  have n1 := nI_nm1 he
  rw [r20_8]
  by_cases q : j < 96
  · simp (decide := true) only [↓r20_0, ↓r20_1, ↓r20_2, ↓r20_3, ↓r20_6, ↓r20_7, ↓r20_9, ↓r20_11, ↓r20_14, ↓r20_15, ↓r20_17, ↓r20_20, ↓r20_23, ↓r20_24, ↓r20_27, ↓r20_28, ↓r20_29, ↓r20_30, ↓r20_33, ↓r20_34, ↓r20_36, ↓r20_39, ↓r20_42, ↓r20_45, hx, nI_96 (by omega : j < 2 ^ 31), q, xr16, Option.toList, List.cons_append, List.nil_append, h6, n1, false_and, ↓reduceIte]
    exact K
  · simp (decide := true) only [↓r20_0, ↓r20_1, ↓r20_2, ↓r20_3, ↓r20_6, ↓r20_7, ↓r20_9, ↓r20_11, ↓r20_14, ↓r20_15, ↓r20_17, ↓r20_20, ↓r20_23, ↓r20_24, ↓r20_27, ↓r20_28, ↓r20_29, ↓r20_30, ↓r20_33, ↓r20_34, ↓r20_36, ↓r20_39, ↓r20_42, ↓r20_45, hx, nI_96 (by omega : j < 2 ^ 31), q, ↓reduceIte]
    exact K
theorem xr20_lp (hV : pxV B L) (hT : ∀ i, i < L → h 8 i = B i) (hP : rCon h B L key (d + 3) 21 o n P) (hpr : pxPr B L P) : ∀ (m j : Nat) (x3 : Int32) (σ : pxS) (ws : List Int32) (k : Nat) (f g : Nat → Int32), j + m = 96 → x3 = nI j → rGd L key f σ (sz + ws.length) (pc + nI k) → pxG B L σ → sz + ws.length ≤ σ.1 → rWd sz g0 g ws →
    (∀ σ' ws' k' f' g', pxLp (pxNx B L) P pxOr m σ ws k = .inr (σ', ws', k') → rGd L key f' σ' (sz + ws'.length) (pc + nI k') → rWd sz g0 g' ws' → Q none (hR h f' g')) →
    (∀ e f' g', pxLp (pxNx B L) P pxOr m σ ws k = .inl e → rBf L f' e → Q none (hR h f' g')) → zR (d + 3) 20 Q 8 [some (.ref 7), some (.int (nI o)), some (.int (nI n)), some (.int x3)] [] (hR h f g)
  | 0, j, x3, σ, ws, k, f, g, hj, hx, hG, hσ, hsz, hw, ok, bad => by
    have q : ¬ j < 96 := by omega
    rw [r20_8]
    simp (decide := true) only [↓r20_0, ↓r20_1, ↓r20_2, ↓r20_3, ↓r20_6, ↓r20_7, ↓r20_9, ↓r20_11, ↓r20_14, ↓r20_15, ↓r20_17, ↓r20_20, ↓r20_23, ↓r20_24, ↓r20_27, ↓r20_28, ↓r20_29, ↓r20_30, ↓r20_33, ↓r20_34, ↓r20_36, ↓r20_39, ↓r20_42, ↓r20_45, hx, nI_96 (by omega : j < 2 ^ 31), q, ↓reduceIte]
    exact ok σ ws k f g rfl hG hw
  | m + 1, j, x3, σ, ws, k, f, g, hj, hx, hG, hσ, hsz, hw, ok, bad => by
    have q : j < 96 := by omega
    have h96 := hV.1
    have h6 : f 6 = -1 := hG.2.2.1
    have h4 : f 4 = σ.2.2.1 := hG.2.1.2.2.1
    have go : pxOr σ.2.2.1 = true → zR (d + 3) 20 Q 23 [some (.ref 7), some (.int (nI o)), some (.int (nI n)), some (.int x3)] [] (hR h f g) := by
      intro qo
      have hs := pxOr_s qo
      obtain ⟨a, b⟩ := pxNx_up hV hσ (zsgn_m1 hs)
      simp only [pxLp, if_pos qo] at ok bad
      simp only [↓r20_0, ↓r20_1, ↓r20_2, ↓r20_3, ↓r20_6, ↓r20_7, ↓r20_9, ↓r20_11, ↓r20_14, ↓r20_15, ↓r20_17, ↓r20_20, ↓r20_23, ↓r20_24, ↓r20_27, ↓r20_28, ↓r20_29, ↓r20_30, ↓r20_33, ↓r20_34, ↓r20_36, ↓r20_39, ↓r20_42, ↓r20_45, hR_7, h4, hx, nI_1]
      refine xr11 hV hT hG.1 hG.2.1 hσ.2.1 (fun f1 l1 b1 => ?_)
      simp only [↓r20_0, ↓r20_1, ↓r20_2, ↓r20_3, ↓r20_6, ↓r20_7, ↓r20_9, ↓r20_11, ↓r20_14, ↓r20_15, ↓r20_17, ↓r20_20, ↓r20_23, ↓r20_24, ↓r20_27, ↓r20_28, ↓r20_29, ↓r20_30, ↓r20_33, ↓r20_34, ↓r20_36, ↓r20_39, ↓r20_42, ↓r20_45, Option.toList, List.cons_append, List.nil_append]
      refine hP _ f1 g (pxNx B L σ) (sz + ws.length) (pc + nI k) (rGd_nx hG l1 b1) a (by omega) (fun σ1 w1 k1 f2 g2 e2 G2 W2 => ?_) (fun e f2 g2 e2 b2 => ?_)
      · obtain ⟨c1, c2, -⟩ := (hpr _ a).2 _ _ _ e2
        have c0 := c1.1
        simp only [e2] at ok bad
        simp only [↓r20_0, ↓r20_1, ↓r20_2, ↓r20_3, ↓r20_6, ↓r20_7, ↓r20_9, ↓r20_11, ↓r20_14, ↓r20_15, ↓r20_17, ↓r20_20, ↓r20_23, ↓r20_24, ↓r20_27, ↓r20_28, ↓r20_29, ↓r20_30, ↓r20_33, ↓r20_34, ↓r20_36, ↓r20_39, ↓r20_42, ↓r20_45, Option.toList, List.cons_append, List.nil_append, xr17 G2.2.2.2.2.1 (by omega : sz + ws.length + w1.length ≤ 96), if_pos (by omega : sz + ws.length + w1.length < 96)]
        have W3 : rWd sz g0 (upd g2 (sz + ws.length + w1.length) (-σ.2.2.1)) (ws ++ w1 ++ [-σ.2.2.1]) := rWd_v (rWd_app hw W2) (by rw [List.length_append]; omega)
        have G3 : rGd L key (upd f2 9 (nI (sz + ws.length + w1.length + 1))) σ1 (sz + (ws ++ w1 ++ [-σ.2.2.1]).length) (pc + nI (k + k1)) := by
          refine rGd_eq (rGd_put G2 rfl) ?_ ?_
          · simp only [List.length_append, List.length_cons, List.length_nil]; omega
          · rw [← nI_add, Int32.add_assoc]
        have es : σ.2.2.1 = 124 := by simpa [pxOr] using qo
        simp only [es] at G3 W3 ok bad
        refine xr20_lp hV hT hP hpr m (j + 1) _ σ1 _ _ _ _ (by omega) (by simp only [hx, nI_1]) G3 c1 ?_ W3 ok bad
        simp only [List.length_append, List.length_cons, List.length_nil]
        omega
      · simp only [e2] at ok bad
        simp only [↓r20_0, ↓r20_1, ↓r20_2, ↓r20_3, ↓r20_6, ↓r20_7, ↓r20_9, ↓r20_11, ↓r20_14, ↓r20_15, ↓r20_17, ↓r20_20, ↓r20_23, ↓r20_24, ↓r20_27, ↓r20_28, ↓r20_29, ↓r20_30, ↓r20_33, ↓r20_34, ↓r20_36, ↓r20_39, ↓r20_42, ↓r20_45, Option.toList, List.cons_append, List.nil_append]
        refine xr17b b2 (fun f3 g3 b3 => ?_)
        simp only [↓r20_0, ↓r20_1, ↓r20_2, ↓r20_3, ↓r20_6, ↓r20_7, ↓r20_9, ↓r20_11, ↓r20_14, ↓r20_15, ↓r20_17, ↓r20_20, ↓r20_23, ↓r20_24, ↓r20_27, ↓r20_28, ↓r20_29, ↓r20_30, ↓r20_33, ↓r20_34, ↓r20_36, ↓r20_39, ↓r20_42, ↓r20_45, Option.toList, List.cons_append, List.nil_append]
        exact xr20_out b3 (j := j + 1) (by simp only [hx, nI_1]) (by omega) (bad _ _ _ rfl b3)
    have no : ¬ pxOr σ.2.2.1 = true → Q none (hR h f g) := by
      intro qo
      simp only [pxLp, if_neg qo] at ok
      exact ok σ ws k f g rfl hG hw
    rw [r20_8]
    simp (decide := true) only [↓r20_0, ↓r20_1, ↓r20_2, ↓r20_3, ↓r20_6, ↓r20_7, ↓r20_9, ↓r20_11, ↓r20_14, ↓r20_15, ↓r20_17, ↓r20_20, ↓r20_24, ↓r20_27, ↓r20_28, ↓r20_29, ↓r20_30, ↓r20_33, ↓r20_34, ↓r20_36, ↓r20_39, ↓r20_42, ↓r20_45, hx, nI_96 (by omega : j < 2 ^ 31), q, xr16, Option.toList, List.cons_append, List.nil_append, h6, h4, true_and, ↓reduceIte]
    rw [hx] at go
    by_cases q1 : σ.2.2.1 = 124
    · have qo : pxOr σ.2.2.1 = true := by simp [pxOr, q1]
      simp (decide := true) only [if_pos q1, ↓reduceIte]
      exact go qo
    · have qo : ¬ pxOr σ.2.2.1 = true := by simp [pxOr, q1]
      simp (decide := true) only [if_neg q1, ↓reduceIte]
      exact no qo
theorem xr20 (hV : pxV B L) (hT : ∀ i, i < L → h 8 i = B i) (hP : rCon h B L key (d + 3) 21 o n P) (hpr : pxPr B L P) : rCon h B L key (d + 3 + 1) 20 o n (pxLv (pxNx B L) P pxOr) := by
  intro Q f g σ sz pc hG hσ hsz ok bad
  rw [m20]
  simp only [↓r20_0, ↓r20_1, ↓r20_2, ↓r20_3, ↓r20_6, ↓r20_7, ↓r20_9, ↓r20_11, ↓r20_14, ↓r20_15, ↓r20_17, ↓r20_20, ↓r20_23, ↓r20_24, ↓r20_27, ↓r20_28, ↓r20_29, ↓r20_30, ↓r20_33, ↓r20_34, ↓r20_36, ↓r20_39, ↓r20_42, ↓r20_45]
  refine hP _ f g σ sz pc hG hσ hsz (fun σ1 w1 k1 f1 g1 e1 G1 W1 => ?_) (fun e f1 g1 e1 b1 => ?_)
  · simp only [↓r20_0, ↓r20_1, ↓r20_2, ↓r20_3, ↓r20_6, ↓r20_7, ↓r20_9, ↓r20_11, ↓r20_14, ↓r20_15, ↓r20_17, ↓r20_20, ↓r20_23, ↓r20_24, ↓r20_27, ↓r20_28, ↓r20_29, ↓r20_30, ↓r20_33, ↓r20_34, ↓r20_36, ↓r20_39, ↓r20_42, ↓r20_45, Option.toList, List.cons_append, List.nil_append]
    simp only [pxLv, e1] at ok bad
    obtain ⟨c1, c2, -⟩ := (hpr σ hσ).2 _ _ _ e1
    exact xr20_lp hV hT hP hpr 96 0 _ σ1 w1 k1 f1 g1 rfl nI_0.symm G1 c1 (by omega) W1 ok bad
  · simp only [↓r20_0, ↓r20_1, ↓r20_2, ↓r20_3, ↓r20_6, ↓r20_7, ↓r20_9, ↓r20_11, ↓r20_14, ↓r20_15, ↓r20_17, ↓r20_20, ↓r20_23, ↓r20_24, ↓r20_27, ↓r20_28, ↓r20_29, ↓r20_30, ↓r20_33, ↓r20_34, ↓r20_36, ↓r20_39, ↓r20_42, ↓r20_45, Option.toList, List.cons_append, List.nil_append]
    simp only [pxLv, e1] at ok bad
    exact xr20_out b1 (j := 0) nI_0.symm (by omega) (bad _ _ _ rfl b1)
theorem xr20b_ (hPb : rBad h L (d + 3) 21 o n) : rBad h L (d + 3 + 1) 20 o n := by
  intro Q f g e hb K
  rw [m20]
  simp only [↓r20_0, ↓r20_1, ↓r20_2, ↓r20_3, ↓r20_6, ↓r20_7, ↓r20_9, ↓r20_11, ↓r20_14, ↓r20_15, ↓r20_17, ↓r20_20, ↓r20_23, ↓r20_24, ↓r20_27, ↓r20_28, ↓r20_29, ↓r20_30, ↓r20_33, ↓r20_34, ↓r20_36, ↓r20_39, ↓r20_42, ↓r20_45]
  refine hPb _ f g e hb (fun f1 g1 b1 => ?_)
  simp only [↓r20_0, ↓r20_1, ↓r20_2, ↓r20_3, ↓r20_6, ↓r20_7, ↓r20_9, ↓r20_11, ↓r20_14, ↓r20_15, ↓r20_17, ↓r20_20, ↓r20_23, ↓r20_24, ↓r20_27, ↓r20_28, ↓r20_29, ↓r20_30, ↓r20_33, ↓r20_34, ↓r20_36, ↓r20_39, ↓r20_42, ↓r20_45, Option.toList, List.cons_append, List.nil_append]
  exact xr20_out b1 (j := 0) nI_0.symm (by omega) (K _ _ b1)
theorem xr22 (hV : pxV B L) (hT : ∀ i, i < L → h 8 i = B i) (hP : rCon h B L key (d + 3) 23 o n P) (hpr : pxPr B L P) : rCon h B L key (d + 3 + 1) 22 o n (pxTs (pxNx B L) P) := by
  intro Q f g σ sz pc hG hσ hsz ok bad
  have h96 := hV.1
  rw [m22]
  simp only [↓r22_0, ↓r22_1, ↓r22_2, ↓r22_3, ↓r22_7, ↓r22_9, ↓r22_12, ↓r22_15, ↓r22_16, ↓r22_18, ↓r22_21, ↓r22_24, ↓r22_25, ↓r22_27, ↓r22_30, ↓r22_33, ↓r22_34, ↓r22_37, ↓r22_38, ↓r22_39, ↓r22_42, ↓r22_43, ↓r22_44, ↓r22_45, ↓r22_48, ↓r22_49, ↓r22_50, ↓r22_51, ↓r22_54]
  refine hP _ f g σ sz pc hG hσ hsz (fun σ1 w1 k1 f1 g1 e1 G1 W1 => ?_) (fun e f1 g1 e1 b1 => ?_)
  · simp only [Option.toList, List.cons_append, List.nil_append]
    simp only [pxTs, e1] at ok bad
    obtain ⟨c1, c2, -⟩ := (hpr σ hσ).2 _ _ _ e1
    have h6 : f1 6 = -1 := G1.2.2.1
    have h4 : f1 4 = σ1.2.2.1 := G1.2.1.2.2.1
    have go : pxCm σ1.2.2.1 = true → zR (d + 3) 22 Q 33 [some (.ref 7), some (.int (nI o)), some (.int (nI n)), none] [] (hR h f1 g1) := by
      intro qo
      have hs := pxCm_s qo
      obtain ⟨a, b⟩ := pxNx_up hV c1 (zsgn_m1 hs)
      simp only [if_pos qo] at ok bad
      simp only [↓r22_0, ↓r22_1, ↓r22_2, ↓r22_3, ↓r22_7, ↓r22_9, ↓r22_12, ↓r22_15, ↓r22_16, ↓r22_18, ↓r22_21, ↓r22_24, ↓r22_25, ↓r22_27, ↓r22_30, ↓r22_33, ↓r22_34, ↓r22_37, ↓r22_38, ↓r22_39, ↓r22_42, ↓r22_43, ↓r22_44, ↓r22_45, ↓r22_48, ↓r22_49, ↓r22_50, ↓r22_51, ↓r22_54, hR_7, h4]
      refine xr11 hV hT G1.1 G1.2.1 c1.2.1 (fun f2 l2 b2 => ?_)
      simp only [↓r22_0, ↓r22_1, ↓r22_2, ↓r22_3, ↓r22_7, ↓r22_9, ↓r22_12, ↓r22_15, ↓r22_16, ↓r22_18, ↓r22_21, ↓r22_24, ↓r22_25, ↓r22_27, ↓r22_30, ↓r22_33, ↓r22_34, ↓r22_37, ↓r22_38, ↓r22_39, ↓r22_42, ↓r22_43, ↓r22_44, ↓r22_45, ↓r22_48, ↓r22_49, ↓r22_50, ↓r22_51, ↓r22_54, Option.toList, List.cons_append, List.nil_append]
      refine hP _ f2 g1 (pxNx B L σ1) (sz + w1.length) (pc + nI k1) (rGd_nx G1 l2 b2) a (by omega) (fun σ2 w2 k2 f3 g3 e3 G3 W3 => ?_) (fun e f3 g3 e3 b3 => ?_)
      · obtain ⟨d1, d2, -⟩ := (hpr _ a).2 _ _ _ e3
        have d0 := d1.1
        simp only [e3] at ok bad
        simp only [↓r22_0, ↓r22_1, ↓r22_2, ↓r22_3, ↓r22_7, ↓r22_9, ↓r22_12, ↓r22_15, ↓r22_16, ↓r22_18, ↓r22_21, ↓r22_24, ↓r22_25, ↓r22_27, ↓r22_30, ↓r22_33, ↓r22_34, ↓r22_37, ↓r22_38, ↓r22_39, ↓r22_42, ↓r22_43, ↓r22_44, ↓r22_45, ↓r22_48, ↓r22_49, ↓r22_50, ↓r22_51, ↓r22_54, Option.toList, List.cons_append, List.nil_append, xr17 G3.2.2.2.2.1 (by omega : sz + w1.length + w2.length ≤ 96), if_pos (by omega : sz + w1.length + w2.length < 96)]
        refine ok _ _ _ _ _ rfl ?_ (rWd_v (rWd_app W1 W3) (by rw [List.length_append]; omega))
        refine rGd_eq (rGd_put G3 rfl) ?_ ?_
        · simp only [List.length_append, List.length_cons, List.length_nil]; omega
        · rw [← nI_add, Int32.add_assoc]
      · simp only [e3] at ok bad
        simp only [↓r22_0, ↓r22_1, ↓r22_2, ↓r22_3, ↓r22_7, ↓r22_9, ↓r22_12, ↓r22_15, ↓r22_16, ↓r22_18, ↓r22_21, ↓r22_24, ↓r22_25, ↓r22_27, ↓r22_30, ↓r22_33, ↓r22_34, ↓r22_37, ↓r22_38, ↓r22_39, ↓r22_42, ↓r22_43, ↓r22_44, ↓r22_45, ↓r22_48, ↓r22_49, ↓r22_50, ↓r22_51, ↓r22_54, Option.toList, List.cons_append, List.nil_append]
        refine xr17b b3 (fun f4 g4 b4 => ?_)
        simp only [↓r22_0, ↓r22_1, ↓r22_2, ↓r22_3, ↓r22_7, ↓r22_9, ↓r22_12, ↓r22_15, ↓r22_16, ↓r22_18, ↓r22_21, ↓r22_24, ↓r22_25, ↓r22_27, ↓r22_30, ↓r22_33, ↓r22_34, ↓r22_37, ↓r22_38, ↓r22_39, ↓r22_42, ↓r22_43, ↓r22_44, ↓r22_45, ↓r22_48, ↓r22_49, ↓r22_50, ↓r22_51, ↓r22_54, Option.toList, List.cons_append, List.nil_append]
        exact bad _ _ _ rfl b4
    have no : ¬ pxCm σ1.2.2.1 = true → Q none (hR h f1 g1) := by
      intro qo
      simp only [if_neg qo] at ok
      exact ok σ1 w1 k1 f1 g1 rfl G1 W1
    rw [r22_6]
    simp (decide := true) only [↓r22_0, ↓r22_1, ↓r22_2, ↓r22_3, ↓r22_7, ↓r22_9, ↓r22_12, ↓r22_15, ↓r22_16, ↓r22_18, ↓r22_21, ↓r22_24, ↓r22_25, ↓r22_27, ↓r22_30, ↓r22_34, ↓r22_37, ↓r22_38, ↓r22_39, ↓r22_42, ↓r22_43, ↓r22_44, ↓r22_45, ↓r22_48, ↓r22_49, ↓r22_50, ↓r22_51, ↓r22_54, xr16, Option.toList, List.cons_append, List.nil_append, h6, h4, true_and, ↓reduceIte]
    by_cases q1 : σ1.2.2.1 = 60
    · have qo : pxCm σ1.2.2.1 = true := by simp [pxCm, q1]
      simp (decide := true) only [if_pos q1, ↓reduceIte]
      exact go qo
    · by_cases q2 : σ1.2.2.1 = 61
      · have qo : pxCm σ1.2.2.1 = true := by simp [pxCm, q2]
        simp (decide := true) only [if_neg q1, if_pos q2, ↓reduceIte]
        exact go qo
      · by_cases q3 : σ1.2.2.1 = 62
        · have qo : pxCm σ1.2.2.1 = true := by simp [pxCm, q3]
          simp (decide := true) only [if_neg q1, if_neg q2, if_pos q3, ↓reduceIte]
          exact go qo
        · have qo : ¬ pxCm σ1.2.2.1 = true := by simp [pxCm, q1, q2, q3]
          simp (decide := true) only [if_neg q1, if_neg q2, if_neg q3, ↓reduceIte]
          exact no qo
  · simp only [Option.toList, List.cons_append, List.nil_append]
    simp only [pxTs, e1] at ok bad
    obtain ⟨h1, h6, he, z, hz, h9⟩ := id b1
    have n1 := nI_nm1 he
    rw [r22_6]
    simp (decide := true) only [↓r22_0, ↓r22_1, ↓r22_2, ↓r22_3, ↓r22_7, ↓r22_9, ↓r22_12, ↓r22_15, ↓r22_16, ↓r22_18, ↓r22_21, ↓r22_24, ↓r22_25, ↓r22_27, ↓r22_30, ↓r22_33, ↓r22_34, ↓r22_37, ↓r22_38, ↓r22_39, ↓r22_42, ↓r22_43, ↓r22_44, ↓r22_45, ↓r22_48, ↓r22_49, ↓r22_50, ↓r22_51, ↓r22_54, xr16, Option.toList, List.cons_append, List.nil_append, h6, n1, false_and, ↓reduceIte]
    exact bad _ _ _ rfl b1
theorem xr22b (hPb : rBad h L (d + 3) 23 o n) : rBad h L (d + 3 + 1) 22 o n := by
  intro Q f g e hb K
  rw [m22]
  simp only [↓r22_0, ↓r22_1, ↓r22_2, ↓r22_3, ↓r22_7, ↓r22_9, ↓r22_12, ↓r22_15, ↓r22_16, ↓r22_18, ↓r22_21, ↓r22_24, ↓r22_25, ↓r22_27, ↓r22_30, ↓r22_33, ↓r22_34, ↓r22_37, ↓r22_38, ↓r22_39, ↓r22_42, ↓r22_43, ↓r22_44, ↓r22_45, ↓r22_48, ↓r22_49, ↓r22_50, ↓r22_51, ↓r22_54]
  refine hPb _ f g e hb (fun f1 g1 b1 => ?_)
  simp only [Option.toList, List.cons_append, List.nil_append]
  obtain ⟨h1, h6, he, z, hz, h9⟩ := id b1
  have n1 := nI_nm1 he
  rw [r22_6]
  simp (decide := true) only [↓r22_0, ↓r22_1, ↓r22_2, ↓r22_3, ↓r22_7, ↓r22_9, ↓r22_12, ↓r22_15, ↓r22_16, ↓r22_18, ↓r22_21, ↓r22_24, ↓r22_25, ↓r22_27, ↓r22_30, ↓r22_33, ↓r22_34, ↓r22_37, ↓r22_38, ↓r22_39, ↓r22_42, ↓r22_43, ↓r22_44, ↓r22_45, ↓r22_48, ↓r22_49, ↓r22_50, ↓r22_51, ↓r22_54, xr16, Option.toList, List.cons_append, List.nil_append, h6, n1, false_and, ↓reduceIte]
  exact K _ _ b1
end
