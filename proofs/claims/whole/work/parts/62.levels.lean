/-! the class's Reader: the levels of E -/
def rGd (L key : Nat) (f : Nat → Int32) (σ : pxS) (sz : Nat) (pc : Int32) : Prop := f 1 = nI L ∧ rL f σ ∧ f 6 = -1 ∧ f 7 = nI key ∧ f 9 = nI sz ∧ f 10 = pc
def rBf (L : Nat) (f : Nat → Int32) (e : Nat) : Prop := f 1 = nI L ∧ f 6 = nI e ∧ e < 2 ^ 31 ∧ ∃ z, z ≤ 96 ∧ f 9 = nI z
def rWd (sz : Nat) (g0 g : Nat → Int32) (ws : List Int32) : Prop := (∀ i, i < sz → g i = g0 i) ∧ ∀ i, i < ws.length → g (sz + i) = ws.getD i 0
def rCon (h : zH) (B : Nat → Int32) (L key D y o n : Nat) (P : pxS → pxR) : Prop := ∀ (Q : Option Value → zH → Prop) (f g : Nat → Int32) (σ : pxS) (sz : Nat) (pc : Int32), rGd L key f σ sz pc → pxG B L σ → sz ≤ σ.1 →
  (∀ σ' ws k f' g', P σ = .inr (σ', ws, k) → rGd L key f' σ' (sz + ws.length) (pc + nI k) → rWd sz g g' ws → Q none (hR h f' g')) →
  (∀ e f' g', P σ = .inl e → rBf L f' e → Q none (hR h f' g')) → zM D y [.ref 7, .int (nI o), .int (nI n)] (hR h f g) Q
def rBad (h : zH) (L D y o n : Nat) : Prop := ∀ (Q : Option Value → zH → Prop) (f g : Nat → Int32) (e : Nat), rBf L f e → (∀ f' g', rBf L f' e → Q none (hR h f' g')) → zM D y [.ref 7, .int (nI o), .int (nI n)] (hR h f g) Q
section
variable {d : Nat} {Q : Option Value → zH → Prop} {h : zH} {f g g0 g1 f' g' B : Nat → Int32} {x0 x3 v pc : Int32} {L k p e z key n o j sz : Nat} {σ : pxS} {l : zL} {P : pxS → pxR} {ws w1 : List Int32}
theorem rGd_nx (hG : rGd L key f σ sz pc) (hl : rL f' (pxNx B L σ)) (b : ∀ j, j ≠ 2 → j ≠ 3 → j ≠ 4 → j ≠ 5 → f' j = f j) : rGd L key f' (pxNx B L σ) sz pc := by
  obtain ⟨h1, h2, h3, h4, h5, h6⟩ := hG
  exact ⟨by rw [b 1 (by omega) (by omega) (by omega) (by omega)]; exact h1, hl, by rw [b 6 (by omega) (by omega) (by omega) (by omega)]; exact h3, by rw [b 7 (by omega) (by omega) (by omega) (by omega)]; exact h4, by rw [b 9 (by omega) (by omega) (by omega) (by omega)]; exact h5, by rw [b 10 (by omega) (by omega) (by omega) (by omega)]; exact h6⟩
theorem rL_up {w : Int32} (hl : rL f σ) (hk : 6 ≤ k) : rL (upd f k w) σ := by
  obtain ⟨a, b, c, d⟩ := hl
  exact ⟨by rw [pk_un (by omega)]; exact a, by rw [pk_un (by omega)]; exact b, by rw [pk_un (by omega)]; exact c, by rw [pk_un (by omega)]; exact d⟩
theorem rGd_put (hG : rGd L key f σ sz pc) (hz : z = sz + 1) : rGd L key (upd f 9 (nI (sz + 1))) σ z pc := by
  subst hz
  obtain ⟨h1, h2, h3, h4, h5, h6⟩ := hG
  exact ⟨by rw [pk_un (by omega)]; exact h1, rL_up h2 (by omega), by rw [pk_un (by omega)]; exact h3, by rw [pk_un (by omega)]; exact h4, pk_us, by rw [pk_un (by omega)]; exact h6⟩
theorem rGd_eq {pc' : Int32} (hG : rGd L key f σ sz pc) (hz : z = sz) (hp : pc' = pc) : rGd L key f σ z pc' := by
  subst hz; subst hp; exact hG
theorem rWd_nil : rWd sz g g [] := ⟨fun _ _ => rfl, fun i hi => absurd hi (Nat.not_lt_zero i)⟩
theorem getD_app (a b : List Int32) (i : Nat) : (a ++ b).getD i 0 = if i < a.length then a.getD i 0 else b.getD (i - a.length) 0 := by
  simp only [List.getD_eq_getElem?_getD]
  split
  · rename_i q; rw [List.getElem?_append_left q]
  · rename_i q; rw [List.getElem?_append_right (by omega)]
theorem rWd_app (a : rWd sz g0 g ws) (b : rWd (sz + ws.length) g g1 w1) : rWd sz g0 g1 (ws ++ w1) := by
  refine ⟨fun i hi => by rw [b.1 i (by omega)]; exact a.1 i hi, fun i hi => ?_⟩
  rw [getD_app]
  rw [List.length_append] at hi
  by_cases q : i < ws.length
  · rw [if_pos q, b.1 _ (by omega)]; exact a.2 i q
  · rw [if_neg q]
    have := b.2 (i - ws.length) (by omega)
    rw [show sz + ws.length + (i - ws.length) = sz + i by omega] at this
    exact this
theorem rWd_v (a : rWd sz g0 g ws) (hz : z = sz + ws.length) : rWd sz g0 (upd g z v) (ws ++ [v]) := by
  subst hz
  refine ⟨fun i hi => by rw [pk_un (by omega)]; exact a.1 i hi, fun i hi => ?_⟩
  rw [getD_app]
  simp only [List.length_append, List.length_cons, List.length_nil] at hi
  by_cases q : i < ws.length
  · rw [if_pos q, pk_un (by omega)]; exact a.2 i q
  · have e : i = ws.length := by omega
    subst e
    rw [if_neg q, pk_us, Nat.sub_self]
    rfl
theorem rBf_of (h1 : f 1 = nI L) (h6 : f 6 = nI e) (he : e < 2 ^ 31) (h9 : f 9 = nI z) (hz : z ≤ 96) : rBf L f e := ⟨h1, h6, he, z, hz, h9⟩
theorem xr17b (hb : rBf L f e) (K : ∀ f' g', rBf L f' e → Q none (hR h f' g')) : zM (d + 1) 17 [.ref 7, .int x0] (hR h f g) Q := by
  obtain ⟨h1, h6, he, z, hz, h9⟩ := hb
  rw [xr17 h9 hz]
  by_cases q : z < 96
  · rw [if_pos q]
    exact K _ _ ⟨by rw [pk_un (by omega)]; exact h1, by rw [pk_un (by omega)]; exact h6, he, z + 1, by omega, pk_us⟩
  · rw [if_neg q]
    exact K _ _ ⟨h1, h6, he, z, hz, h9⟩
theorem xr24_out (hb : rBf L f e) (hx : x3 = nI j) (hj : j ≤ 96) {o4 : Option Value} (K : Q none (hR h f g)) : zR (d + 3) 24 Q 8 [some (.ref 7), some (.int (nI o)), some (.int (nI n)), some (.int x3), o4] [] (hR h f g) := by
  obtain ⟨h1, h6, he, z, hz, h9⟩ := hb
  have n1 := nI_nm1 he
  rw [r24_8]
  by_cases q : j < 96
  · simp (decide := true) only [↓r24_0, ↓r24_1, ↓r24_2, ↓r24_3, ↓r24_6, ↓r24_7, ↓r24_9, ↓r24_11, ↓r24_14, ↓r24_15, ↓r24_17, ↓r24_20, ↓r24_23, ↓r24_24, ↓r24_26, ↓r24_29, ↓r24_32, ↓r24_33, ↓r24_36, ↓r24_38, ↓r24_39, ↓r24_42, ↓r24_43, ↓r24_44, ↓r24_45, ↓r24_48, ↓r24_49, ↓r24_51, ↓r24_52, ↓r24_55, ↓r24_58, ↓r24_61, hx, nI_96 (by omega : j < 2 ^ 31), q, xr16, Option.toList, List.cons_append, List.nil_append, h6, n1, false_and, ↓reduceIte]
    exact K
  · simp (decide := true) only [↓r24_0, ↓r24_1, ↓r24_2, ↓r24_3, ↓r24_6, ↓r24_7, ↓r24_9, ↓r24_11, ↓r24_14, ↓r24_15, ↓r24_17, ↓r24_20, ↓r24_23, ↓r24_24, ↓r24_26, ↓r24_29, ↓r24_32, ↓r24_33, ↓r24_36, ↓r24_38, ↓r24_39, ↓r24_42, ↓r24_43, ↓r24_44, ↓r24_45, ↓r24_48, ↓r24_49, ↓r24_51, ↓r24_52, ↓r24_55, ↓r24_58, ↓r24_61, hx, nI_96 (by omega : j < 2 ^ 31), q, ↓reduceIte]
    exact K
theorem xr24_lp (hV : pxV B L) (hT : ∀ i, i < L → h 8 i = B i) (hP : rCon h B L key (d + 3) 25 o n P) (hpr : pxPr B L P) : ∀ (m j : Nat) (x3 : Int32) (σ : pxS) (ws : List Int32) (k : Nat) (f g : Nat → Int32) (o4 : Option Value), j + m = 96 → x3 = nI j → rGd L key f σ (sz + ws.length) (pc + nI k) → pxG B L σ → sz + ws.length ≤ σ.1 → rWd sz g0 g ws →
    (∀ σ' ws' k' f' g', pxLp (pxNx B L) P pxMu m σ ws k = .inr (σ', ws', k') → rGd L key f' σ' (sz + ws'.length) (pc + nI k') → rWd sz g0 g' ws' → Q none (hR h f' g')) →
    (∀ e f' g', pxLp (pxNx B L) P pxMu m σ ws k = .inl e → rBf L f' e → Q none (hR h f' g')) → zR (d + 3) 24 Q 8 [some (.ref 7), some (.int (nI o)), some (.int (nI n)), some (.int x3), o4] [] (hR h f g)
  | 0, j, x3, σ, ws, k, f, g, o4, hj, hx, hG, hσ, hsz, hw, ok, bad => by
    have q : ¬ j < 96 := by omega
    rw [r24_8]
    simp (decide := true) only [↓r24_0, ↓r24_1, ↓r24_2, ↓r24_3, ↓r24_6, ↓r24_7, ↓r24_9, ↓r24_11, ↓r24_14, ↓r24_15, ↓r24_17, ↓r24_20, ↓r24_23, ↓r24_24, ↓r24_26, ↓r24_29, ↓r24_32, ↓r24_33, ↓r24_36, ↓r24_38, ↓r24_39, ↓r24_42, ↓r24_43, ↓r24_44, ↓r24_45, ↓r24_48, ↓r24_49, ↓r24_51, ↓r24_52, ↓r24_55, ↓r24_58, ↓r24_61, hx, nI_96 (by omega : j < 2 ^ 31), q, ↓reduceIte]
    exact ok σ ws k f g rfl hG hw
  | m + 1, j, x3, σ, ws, k, f, g, o4, hj, hx, hG, hσ, hsz, hw, ok, bad => by
    have q : j < 96 := by omega
    have h96 := hV.1
    have h6 : f 6 = -1 := hG.2.2.1
    have h4 : f 4 = σ.2.2.1 := hG.2.1.2.2.1
    have go : pxMu σ.2.2.1 = true → zR (d + 3) 24 Q 32 [some (.ref 7), some (.int (nI o)), some (.int (nI n)), some (.int x3), o4] [] (hR h f g) := by
      intro qo
      have hs := pxMu_s qo
      obtain ⟨a, b⟩ := pxNx_up hV hσ (zsgn_m1 hs)
      simp only [pxLp, if_pos qo] at ok bad
      simp only [↓r24_0, ↓r24_1, ↓r24_2, ↓r24_3, ↓r24_6, ↓r24_7, ↓r24_9, ↓r24_11, ↓r24_14, ↓r24_15, ↓r24_17, ↓r24_20, ↓r24_23, ↓r24_24, ↓r24_26, ↓r24_29, ↓r24_32, ↓r24_33, ↓r24_36, ↓r24_38, ↓r24_39, ↓r24_42, ↓r24_43, ↓r24_44, ↓r24_45, ↓r24_48, ↓r24_49, ↓r24_51, ↓r24_52, ↓r24_55, ↓r24_58, ↓r24_61, hR_7, h4, hx, nI_1]
      refine xr11 hV hT hG.1 hG.2.1 hσ.2.1 (fun f1 l1 b1 => ?_)
      simp only [↓r24_0, ↓r24_1, ↓r24_2, ↓r24_3, ↓r24_6, ↓r24_7, ↓r24_9, ↓r24_11, ↓r24_14, ↓r24_15, ↓r24_17, ↓r24_20, ↓r24_23, ↓r24_24, ↓r24_26, ↓r24_29, ↓r24_32, ↓r24_33, ↓r24_36, ↓r24_38, ↓r24_39, ↓r24_42, ↓r24_43, ↓r24_44, ↓r24_45, ↓r24_48, ↓r24_49, ↓r24_51, ↓r24_52, ↓r24_55, ↓r24_58, ↓r24_61, Option.toList, List.cons_append, List.nil_append]
      refine hP _ f1 g (pxNx B L σ) (sz + ws.length) (pc + nI k) (rGd_nx hG l1 b1) a (by omega) (fun σ1 w1 k1 f2 g2 e2 G2 W2 => ?_) (fun e f2 g2 e2 b2 => ?_)
      · obtain ⟨c1, c2, -⟩ := (hpr _ a).2 _ _ _ e2
        have c0 := c1.1
        simp only [e2] at ok bad
        simp only [↓r24_0, ↓r24_1, ↓r24_2, ↓r24_3, ↓r24_6, ↓r24_7, ↓r24_9, ↓r24_11, ↓r24_14, ↓r24_15, ↓r24_17, ↓r24_20, ↓r24_23, ↓r24_24, ↓r24_26, ↓r24_29, ↓r24_32, ↓r24_33, ↓r24_36, ↓r24_38, ↓r24_39, ↓r24_42, ↓r24_43, ↓r24_44, ↓r24_45, ↓r24_48, ↓r24_49, ↓r24_51, ↓r24_52, ↓r24_55, ↓r24_58, ↓r24_61, Option.toList, List.cons_append, List.nil_append, xr17 G2.2.2.2.2.1 (by omega : sz + ws.length + w1.length ≤ 96), if_pos (by omega : sz + ws.length + w1.length < 96)]
        have W3 : rWd sz g0 (upd g2 (sz + ws.length + w1.length) (-σ.2.2.1)) (ws ++ w1 ++ [-σ.2.2.1]) := rWd_v (rWd_app hw W2) (by rw [List.length_append]; omega)
        have G3 : rGd L key (upd f2 9 (nI (sz + ws.length + w1.length + 1))) σ1 (sz + (ws ++ w1 ++ [-σ.2.2.1]).length) (pc + nI (k + k1)) := by
          refine rGd_eq (rGd_put G2 rfl) ?_ ?_
          · simp only [List.length_append, List.length_cons, List.length_nil]; omega
          · rw [← nI_add, Int32.add_assoc]
        skip
        refine xr24_lp hV hT hP hpr m (j + 1) _ σ1 _ _ _ _ _ (by omega) (by simp only [hx, nI_1]) G3 c1 ?_ W3 ok bad
        simp only [List.length_append, List.length_cons, List.length_nil]
        omega
      · simp only [e2] at ok bad
        simp only [↓r24_0, ↓r24_1, ↓r24_2, ↓r24_3, ↓r24_6, ↓r24_7, ↓r24_9, ↓r24_11, ↓r24_14, ↓r24_15, ↓r24_17, ↓r24_20, ↓r24_23, ↓r24_24, ↓r24_26, ↓r24_29, ↓r24_32, ↓r24_33, ↓r24_36, ↓r24_38, ↓r24_39, ↓r24_42, ↓r24_43, ↓r24_44, ↓r24_45, ↓r24_48, ↓r24_49, ↓r24_51, ↓r24_52, ↓r24_55, ↓r24_58, ↓r24_61, Option.toList, List.cons_append, List.nil_append]
        refine xr17b b2 (fun f3 g3 b3 => ?_)
        simp only [↓r24_0, ↓r24_1, ↓r24_2, ↓r24_3, ↓r24_6, ↓r24_7, ↓r24_9, ↓r24_11, ↓r24_14, ↓r24_15, ↓r24_17, ↓r24_20, ↓r24_23, ↓r24_24, ↓r24_26, ↓r24_29, ↓r24_32, ↓r24_33, ↓r24_36, ↓r24_38, ↓r24_39, ↓r24_42, ↓r24_43, ↓r24_44, ↓r24_45, ↓r24_48, ↓r24_49, ↓r24_51, ↓r24_52, ↓r24_55, ↓r24_58, ↓r24_61, Option.toList, List.cons_append, List.nil_append]
        exact xr24_out b3 (j := j + 1) (by simp only [hx, nI_1]) (by omega) (bad _ _ _ rfl b3)
    have no : ¬ pxMu σ.2.2.1 = true → Q none (hR h f g) := by
      intro qo
      simp only [pxLp, if_neg qo] at ok
      exact ok σ ws k f g rfl hG hw
    rw [r24_8]
    simp (decide := true) only [↓r24_0, ↓r24_1, ↓r24_2, ↓r24_3, ↓r24_6, ↓r24_7, ↓r24_9, ↓r24_11, ↓r24_14, ↓r24_15, ↓r24_17, ↓r24_20, ↓r24_23, ↓r24_24, ↓r24_26, ↓r24_29, ↓r24_33, ↓r24_36, ↓r24_38, ↓r24_39, ↓r24_42, ↓r24_43, ↓r24_44, ↓r24_45, ↓r24_48, ↓r24_49, ↓r24_51, ↓r24_52, ↓r24_55, ↓r24_58, ↓r24_61, hx, nI_96 (by omega : j < 2 ^ 31), q, xr16, Option.toList, List.cons_append, List.nil_append, h6, h4, true_and, ↓reduceIte]
    rw [hx] at go
    by_cases q1 : σ.2.2.1 = 42
    · have qo : pxMu σ.2.2.1 = true := by simp [pxMu, q1]
      simp (decide := true) only [if_pos q1, ↓reduceIte]
      exact go qo
    · by_cases q2 : σ.2.2.1 = 47
      · have qo : pxMu σ.2.2.1 = true := by simp [pxMu, q2]
        simp (decide := true) only [if_neg q1, if_pos q2, ↓reduceIte]
        exact go qo
      · have qo : ¬ pxMu σ.2.2.1 = true := by simp [pxMu, q1, q2]
        simp (decide := true) only [if_neg q1, if_neg q2, ↓reduceIte]
        exact no qo
theorem xr24 (hV : pxV B L) (hT : ∀ i, i < L → h 8 i = B i) (hP : rCon h B L key (d + 3) 25 o n P) (hpr : pxPr B L P) : rCon h B L key (d + 3 + 1) 24 o n (pxLv (pxNx B L) P pxMu) := by
  intro Q f g σ sz pc hG hσ hsz ok bad
  rw [m24]
  simp only [↓r24_0, ↓r24_1, ↓r24_2, ↓r24_3, ↓r24_6, ↓r24_7, ↓r24_9, ↓r24_11, ↓r24_14, ↓r24_15, ↓r24_17, ↓r24_20, ↓r24_23, ↓r24_24, ↓r24_26, ↓r24_29, ↓r24_32, ↓r24_33, ↓r24_36, ↓r24_38, ↓r24_39, ↓r24_42, ↓r24_43, ↓r24_44, ↓r24_45, ↓r24_48, ↓r24_49, ↓r24_51, ↓r24_52, ↓r24_55, ↓r24_58, ↓r24_61]
  refine hP _ f g σ sz pc hG hσ hsz (fun σ1 w1 k1 f1 g1 e1 G1 W1 => ?_) (fun e f1 g1 e1 b1 => ?_)
  · simp only [↓r24_0, ↓r24_1, ↓r24_2, ↓r24_3, ↓r24_6, ↓r24_7, ↓r24_9, ↓r24_11, ↓r24_14, ↓r24_15, ↓r24_17, ↓r24_20, ↓r24_23, ↓r24_24, ↓r24_26, ↓r24_29, ↓r24_32, ↓r24_33, ↓r24_36, ↓r24_38, ↓r24_39, ↓r24_42, ↓r24_43, ↓r24_44, ↓r24_45, ↓r24_48, ↓r24_49, ↓r24_51, ↓r24_52, ↓r24_55, ↓r24_58, ↓r24_61, Option.toList, List.cons_append, List.nil_append]
    simp only [pxLv, e1] at ok bad
    obtain ⟨c1, c2, -⟩ := (hpr σ hσ).2 _ _ _ e1
    exact xr24_lp hV hT hP hpr 96 0 _ σ1 w1 k1 f1 g1 _ rfl nI_0.symm G1 c1 (by omega) W1 ok bad
  · simp only [↓r24_0, ↓r24_1, ↓r24_2, ↓r24_3, ↓r24_6, ↓r24_7, ↓r24_9, ↓r24_11, ↓r24_14, ↓r24_15, ↓r24_17, ↓r24_20, ↓r24_23, ↓r24_24, ↓r24_26, ↓r24_29, ↓r24_32, ↓r24_33, ↓r24_36, ↓r24_38, ↓r24_39, ↓r24_42, ↓r24_43, ↓r24_44, ↓r24_45, ↓r24_48, ↓r24_49, ↓r24_51, ↓r24_52, ↓r24_55, ↓r24_58, ↓r24_61, Option.toList, List.cons_append, List.nil_append]
    simp only [pxLv, e1] at ok bad
    exact xr24_out b1 (j := 0) nI_0.symm (by omega) (bad _ _ _ rfl b1)
theorem xr24b (hPb : rBad h L (d + 3) 25 o n) : rBad h L (d + 3 + 1) 24 o n := by
  intro Q f g e hb K
  rw [m24]
  simp only [↓r24_0, ↓r24_1, ↓r24_2, ↓r24_3, ↓r24_6, ↓r24_7, ↓r24_9, ↓r24_11, ↓r24_14, ↓r24_15, ↓r24_17, ↓r24_20, ↓r24_23, ↓r24_24, ↓r24_26, ↓r24_29, ↓r24_32, ↓r24_33, ↓r24_36, ↓r24_38, ↓r24_39, ↓r24_42, ↓r24_43, ↓r24_44, ↓r24_45, ↓r24_48, ↓r24_49, ↓r24_51, ↓r24_52, ↓r24_55, ↓r24_58, ↓r24_61]
  refine hPb _ f g e hb (fun f1 g1 b1 => ?_)
  simp only [↓r24_0, ↓r24_1, ↓r24_2, ↓r24_3, ↓r24_6, ↓r24_7, ↓r24_9, ↓r24_11, ↓r24_14, ↓r24_15, ↓r24_17, ↓r24_20, ↓r24_23, ↓r24_24, ↓r24_26, ↓r24_29, ↓r24_32, ↓r24_33, ↓r24_36, ↓r24_38, ↓r24_39, ↓r24_42, ↓r24_43, ↓r24_44, ↓r24_45, ↓r24_48, ↓r24_49, ↓r24_51, ↓r24_52, ↓r24_55, ↓r24_58, ↓r24_61, Option.toList, List.cons_append, List.nil_append]
  exact xr24_out b1 (j := 0) nI_0.symm (by omega) (K _ _ b1)
theorem xr23_out (hb : rBf L f e) (hx : x3 = nI j) (hj : j ≤ 96) {o4 : Option Value} (K : Q none (hR h f g)) : zR (d + 3) 23 Q 8 [some (.ref 7), some (.int (nI o)), some (.int (nI n)), some (.int x3), o4] [] (hR h f g) := by
  obtain ⟨h1, h6, he, z, hz, h9⟩ := hb
  have n1 := nI_nm1 he
  rw [r23_8]
  by_cases q : j < 96
  · simp (decide := true) only [↓r23_0, ↓r23_1, ↓r23_2, ↓r23_3, ↓r23_6, ↓r23_7, ↓r23_9, ↓r23_11, ↓r23_14, ↓r23_15, ↓r23_17, ↓r23_20, ↓r23_23, ↓r23_24, ↓r23_26, ↓r23_29, ↓r23_32, ↓r23_33, ↓r23_36, ↓r23_38, ↓r23_39, ↓r23_42, ↓r23_43, ↓r23_44, ↓r23_45, ↓r23_48, ↓r23_49, ↓r23_51, ↓r23_52, ↓r23_55, ↓r23_58, ↓r23_61, hx, nI_96 (by omega : j < 2 ^ 31), q, xr16, Option.toList, List.cons_append, List.nil_append, h6, n1, false_and, ↓reduceIte]
    exact K
  · simp (decide := true) only [↓r23_0, ↓r23_1, ↓r23_2, ↓r23_3, ↓r23_6, ↓r23_7, ↓r23_9, ↓r23_11, ↓r23_14, ↓r23_15, ↓r23_17, ↓r23_20, ↓r23_23, ↓r23_24, ↓r23_26, ↓r23_29, ↓r23_32, ↓r23_33, ↓r23_36, ↓r23_38, ↓r23_39, ↓r23_42, ↓r23_43, ↓r23_44, ↓r23_45, ↓r23_48, ↓r23_49, ↓r23_51, ↓r23_52, ↓r23_55, ↓r23_58, ↓r23_61, hx, nI_96 (by omega : j < 2 ^ 31), q, ↓reduceIte]
    exact K
theorem xr23_lp (hV : pxV B L) (hT : ∀ i, i < L → h 8 i = B i) (hP : rCon h B L key (d + 3) 24 o n P) (hpr : pxPr B L P) : ∀ (m j : Nat) (x3 : Int32) (σ : pxS) (ws : List Int32) (k : Nat) (f g : Nat → Int32) (o4 : Option Value), j + m = 96 → x3 = nI j → rGd L key f σ (sz + ws.length) (pc + nI k) → pxG B L σ → sz + ws.length ≤ σ.1 → rWd sz g0 g ws →
    (∀ σ' ws' k' f' g', pxLp (pxNx B L) P pxPl m σ ws k = .inr (σ', ws', k') → rGd L key f' σ' (sz + ws'.length) (pc + nI k') → rWd sz g0 g' ws' → Q none (hR h f' g')) →
    (∀ e f' g', pxLp (pxNx B L) P pxPl m σ ws k = .inl e → rBf L f' e → Q none (hR h f' g')) → zR (d + 3) 23 Q 8 [some (.ref 7), some (.int (nI o)), some (.int (nI n)), some (.int x3), o4] [] (hR h f g)
  | 0, j, x3, σ, ws, k, f, g, o4, hj, hx, hG, hσ, hsz, hw, ok, bad => by
    have q : ¬ j < 96 := by omega
    rw [r23_8]
    simp (decide := true) only [↓r23_0, ↓r23_1, ↓r23_2, ↓r23_3, ↓r23_6, ↓r23_7, ↓r23_9, ↓r23_11, ↓r23_14, ↓r23_15, ↓r23_17, ↓r23_20, ↓r23_23, ↓r23_24, ↓r23_26, ↓r23_29, ↓r23_32, ↓r23_33, ↓r23_36, ↓r23_38, ↓r23_39, ↓r23_42, ↓r23_43, ↓r23_44, ↓r23_45, ↓r23_48, ↓r23_49, ↓r23_51, ↓r23_52, ↓r23_55, ↓r23_58, ↓r23_61, hx, nI_96 (by omega : j < 2 ^ 31), q, ↓reduceIte]
    exact ok σ ws k f g rfl hG hw
  | m + 1, j, x3, σ, ws, k, f, g, o4, hj, hx, hG, hσ, hsz, hw, ok, bad => by
    have q : j < 96 := by omega
    have h96 := hV.1
    have h6 : f 6 = -1 := hG.2.2.1
    have h4 : f 4 = σ.2.2.1 := hG.2.1.2.2.1
    have go : pxPl σ.2.2.1 = true → zR (d + 3) 23 Q 32 [some (.ref 7), some (.int (nI o)), some (.int (nI n)), some (.int x3), o4] [] (hR h f g) := by
      intro qo
      have hs := pxPl_s qo
      obtain ⟨a, b⟩ := pxNx_up hV hσ (zsgn_m1 hs)
      simp only [pxLp, if_pos qo] at ok bad
      simp only [↓r23_0, ↓r23_1, ↓r23_2, ↓r23_3, ↓r23_6, ↓r23_7, ↓r23_9, ↓r23_11, ↓r23_14, ↓r23_15, ↓r23_17, ↓r23_20, ↓r23_23, ↓r23_24, ↓r23_26, ↓r23_29, ↓r23_32, ↓r23_33, ↓r23_36, ↓r23_38, ↓r23_39, ↓r23_42, ↓r23_43, ↓r23_44, ↓r23_45, ↓r23_48, ↓r23_49, ↓r23_51, ↓r23_52, ↓r23_55, ↓r23_58, ↓r23_61, hR_7, h4, hx, nI_1]
      refine xr11 hV hT hG.1 hG.2.1 hσ.2.1 (fun f1 l1 b1 => ?_)
      simp only [↓r23_0, ↓r23_1, ↓r23_2, ↓r23_3, ↓r23_6, ↓r23_7, ↓r23_9, ↓r23_11, ↓r23_14, ↓r23_15, ↓r23_17, ↓r23_20, ↓r23_23, ↓r23_24, ↓r23_26, ↓r23_29, ↓r23_32, ↓r23_33, ↓r23_36, ↓r23_38, ↓r23_39, ↓r23_42, ↓r23_43, ↓r23_44, ↓r23_45, ↓r23_48, ↓r23_49, ↓r23_51, ↓r23_52, ↓r23_55, ↓r23_58, ↓r23_61, Option.toList, List.cons_append, List.nil_append]
      refine hP _ f1 g (pxNx B L σ) (sz + ws.length) (pc + nI k) (rGd_nx hG l1 b1) a (by omega) (fun σ1 w1 k1 f2 g2 e2 G2 W2 => ?_) (fun e f2 g2 e2 b2 => ?_)
      · obtain ⟨c1, c2, -⟩ := (hpr _ a).2 _ _ _ e2
        have c0 := c1.1
        simp only [e2] at ok bad
        simp only [↓r23_0, ↓r23_1, ↓r23_2, ↓r23_3, ↓r23_6, ↓r23_7, ↓r23_9, ↓r23_11, ↓r23_14, ↓r23_15, ↓r23_17, ↓r23_20, ↓r23_23, ↓r23_24, ↓r23_26, ↓r23_29, ↓r23_32, ↓r23_33, ↓r23_36, ↓r23_38, ↓r23_39, ↓r23_42, ↓r23_43, ↓r23_44, ↓r23_45, ↓r23_48, ↓r23_49, ↓r23_51, ↓r23_52, ↓r23_55, ↓r23_58, ↓r23_61, Option.toList, List.cons_append, List.nil_append, xr17 G2.2.2.2.2.1 (by omega : sz + ws.length + w1.length ≤ 96), if_pos (by omega : sz + ws.length + w1.length < 96)]
        have W3 : rWd sz g0 (upd g2 (sz + ws.length + w1.length) (-σ.2.2.1)) (ws ++ w1 ++ [-σ.2.2.1]) := rWd_v (rWd_app hw W2) (by rw [List.length_append]; omega)
        have G3 : rGd L key (upd f2 9 (nI (sz + ws.length + w1.length + 1))) σ1 (sz + (ws ++ w1 ++ [-σ.2.2.1]).length) (pc + nI (k + k1)) := by
          refine rGd_eq (rGd_put G2 rfl) ?_ ?_
          · simp only [List.length_append, List.length_cons, List.length_nil]; omega
          · rw [← nI_add, Int32.add_assoc]
        skip
        refine xr23_lp hV hT hP hpr m (j + 1) _ σ1 _ _ _ _ _ (by omega) (by simp only [hx, nI_1]) G3 c1 ?_ W3 ok bad
        simp only [List.length_append, List.length_cons, List.length_nil]
        omega
      · simp only [e2] at ok bad
        simp only [↓r23_0, ↓r23_1, ↓r23_2, ↓r23_3, ↓r23_6, ↓r23_7, ↓r23_9, ↓r23_11, ↓r23_14, ↓r23_15, ↓r23_17, ↓r23_20, ↓r23_23, ↓r23_24, ↓r23_26, ↓r23_29, ↓r23_32, ↓r23_33, ↓r23_36, ↓r23_38, ↓r23_39, ↓r23_42, ↓r23_43, ↓r23_44, ↓r23_45, ↓r23_48, ↓r23_49, ↓r23_51, ↓r23_52, ↓r23_55, ↓r23_58, ↓r23_61, Option.toList, List.cons_append, List.nil_append]
        refine xr17b b2 (fun f3 g3 b3 => ?_)
        simp only [↓r23_0, ↓r23_1, ↓r23_2, ↓r23_3, ↓r23_6, ↓r23_7, ↓r23_9, ↓r23_11, ↓r23_14, ↓r23_15, ↓r23_17, ↓r23_20, ↓r23_23, ↓r23_24, ↓r23_26, ↓r23_29, ↓r23_32, ↓r23_33, ↓r23_36, ↓r23_38, ↓r23_39, ↓r23_42, ↓r23_43, ↓r23_44, ↓r23_45, ↓r23_48, ↓r23_49, ↓r23_51, ↓r23_52, ↓r23_55, ↓r23_58, ↓r23_61, Option.toList, List.cons_append, List.nil_append]
        exact xr23_out b3 (j := j + 1) (by simp only [hx, nI_1]) (by omega) (bad _ _ _ rfl b3)
    have no : ¬ pxPl σ.2.2.1 = true → Q none (hR h f g) := by
      intro qo
      simp only [pxLp, if_neg qo] at ok
      exact ok σ ws k f g rfl hG hw
    rw [r23_8]
    simp (decide := true) only [↓r23_0, ↓r23_1, ↓r23_2, ↓r23_3, ↓r23_6, ↓r23_7, ↓r23_9, ↓r23_11, ↓r23_14, ↓r23_15, ↓r23_17, ↓r23_20, ↓r23_23, ↓r23_24, ↓r23_26, ↓r23_29, ↓r23_33, ↓r23_36, ↓r23_38, ↓r23_39, ↓r23_42, ↓r23_43, ↓r23_44, ↓r23_45, ↓r23_48, ↓r23_49, ↓r23_51, ↓r23_52, ↓r23_55, ↓r23_58, ↓r23_61, hx, nI_96 (by omega : j < 2 ^ 31), q, xr16, Option.toList, List.cons_append, List.nil_append, h6, h4, true_and, ↓reduceIte]
    rw [hx] at go
    by_cases q1 : σ.2.2.1 = 43
    · have qo : pxPl σ.2.2.1 = true := by simp [pxPl, q1]
      simp (decide := true) only [if_pos q1, ↓reduceIte]
      exact go qo
    · by_cases q2 : σ.2.2.1 = 45
      · have qo : pxPl σ.2.2.1 = true := by simp [pxPl, q2]
        simp (decide := true) only [if_neg q1, if_pos q2, ↓reduceIte]
        exact go qo
      · have qo : ¬ pxPl σ.2.2.1 = true := by simp [pxPl, q1, q2]
        simp (decide := true) only [if_neg q1, if_neg q2, ↓reduceIte]
        exact no qo
theorem xr23 (hV : pxV B L) (hT : ∀ i, i < L → h 8 i = B i) (hP : rCon h B L key (d + 3) 24 o n P) (hpr : pxPr B L P) : rCon h B L key (d + 3 + 1) 23 o n (pxLv (pxNx B L) P pxPl) := by
  intro Q f g σ sz pc hG hσ hsz ok bad
  rw [m23]
  simp only [↓r23_0, ↓r23_1, ↓r23_2, ↓r23_3, ↓r23_6, ↓r23_7, ↓r23_9, ↓r23_11, ↓r23_14, ↓r23_15, ↓r23_17, ↓r23_20, ↓r23_23, ↓r23_24, ↓r23_26, ↓r23_29, ↓r23_32, ↓r23_33, ↓r23_36, ↓r23_38, ↓r23_39, ↓r23_42, ↓r23_43, ↓r23_44, ↓r23_45, ↓r23_48, ↓r23_49, ↓r23_51, ↓r23_52, ↓r23_55, ↓r23_58, ↓r23_61]
  refine hP _ f g σ sz pc hG hσ hsz (fun σ1 w1 k1 f1 g1 e1 G1 W1 => ?_) (fun e f1 g1 e1 b1 => ?_)
  · simp only [↓r23_0, ↓r23_1, ↓r23_2, ↓r23_3, ↓r23_6, ↓r23_7, ↓r23_9, ↓r23_11, ↓r23_14, ↓r23_15, ↓r23_17, ↓r23_20, ↓r23_23, ↓r23_24, ↓r23_26, ↓r23_29, ↓r23_32, ↓r23_33, ↓r23_36, ↓r23_38, ↓r23_39, ↓r23_42, ↓r23_43, ↓r23_44, ↓r23_45, ↓r23_48, ↓r23_49, ↓r23_51, ↓r23_52, ↓r23_55, ↓r23_58, ↓r23_61, Option.toList, List.cons_append, List.nil_append]
    simp only [pxLv, e1] at ok bad
    obtain ⟨c1, c2, -⟩ := (hpr σ hσ).2 _ _ _ e1
    exact xr23_lp hV hT hP hpr 96 0 _ σ1 w1 k1 f1 g1 _ rfl nI_0.symm G1 c1 (by omega) W1 ok bad
  · simp only [↓r23_0, ↓r23_1, ↓r23_2, ↓r23_3, ↓r23_6, ↓r23_7, ↓r23_9, ↓r23_11, ↓r23_14, ↓r23_15, ↓r23_17, ↓r23_20, ↓r23_23, ↓r23_24, ↓r23_26, ↓r23_29, ↓r23_32, ↓r23_33, ↓r23_36, ↓r23_38, ↓r23_39, ↓r23_42, ↓r23_43, ↓r23_44, ↓r23_45, ↓r23_48, ↓r23_49, ↓r23_51, ↓r23_52, ↓r23_55, ↓r23_58, ↓r23_61, Option.toList, List.cons_append, List.nil_append]
    simp only [pxLv, e1] at ok bad
    exact xr23_out b1 (j := 0) nI_0.symm (by omega) (bad _ _ _ rfl b1)
theorem xr23b (hPb : rBad h L (d + 3) 24 o n) : rBad h L (d + 3 + 1) 23 o n := by
  intro Q f g e hb K
  rw [m23]
  simp only [↓r23_0, ↓r23_1, ↓r23_2, ↓r23_3, ↓r23_6, ↓r23_7, ↓r23_9, ↓r23_11, ↓r23_14, ↓r23_15, ↓r23_17, ↓r23_20, ↓r23_23, ↓r23_24, ↓r23_26, ↓r23_29, ↓r23_32, ↓r23_33, ↓r23_36, ↓r23_38, ↓r23_39, ↓r23_42, ↓r23_43, ↓r23_44, ↓r23_45, ↓r23_48, ↓r23_49, ↓r23_51, ↓r23_52, ↓r23_55, ↓r23_58, ↓r23_61]
  refine hPb _ f g e hb (fun f1 g1 b1 => ?_)
  simp only [↓r23_0, ↓r23_1, ↓r23_2, ↓r23_3, ↓r23_6, ↓r23_7, ↓r23_9, ↓r23_11, ↓r23_14, ↓r23_15, ↓r23_17, ↓r23_20, ↓r23_23, ↓r23_24, ↓r23_26, ↓r23_29, ↓r23_32, ↓r23_33, ↓r23_36, ↓r23_38, ↓r23_39, ↓r23_42, ↓r23_43, ↓r23_44, ↓r23_45, ↓r23_48, ↓r23_49, ↓r23_51, ↓r23_52, ↓r23_55, ↓r23_58, ↓r23_61, Option.toList, List.cons_append, List.nil_append]
  exact xr23_out b1 (j := 0) nI_0.symm (by omega) (K _ _ b1)
end
