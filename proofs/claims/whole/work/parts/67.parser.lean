/-! the reference's parser: leaves, the levels of E -/
def mGd (B : Nat → Int32) (L la : Nat) (f0 f : Nat → Int32) (σ : pxS) (ld : Nat) (sd : Int32) (o n : Nat) : Prop := f 16 = nI L ∧ mL B f σ ∧ f 22 = nI o ∧ f 23 = nI n ∧ f 24 = nI ld ∧ f 25 = nI la ∧ f 26 = sd ∧ ∀ j, j ≤ 15 ∨ 27 ≤ j → f j = f0 j
def mBf (L la : Nat) (f0 g0 f' g' : Nat → Int32) (e : Nat) : Prop := f' 16 = nI L ∧ f' 17 = nI e ∧ (∀ j, j ≤ 15 ∨ 27 ≤ j → f' j = f0 j) ∧ ∀ i, i < la → g' i = g0 i
def mWd (key la ld : Nat) (g0 g : Nat → Int32) (ws : List Int32) : Prop := (∀ i, i < la + 2 * ld → g i = g0 i) ∧ ∀ i, i < ws.length → stepR key (g (la + 2 * (ld + i))) (g (la + 2 * (ld + i) + 1)) (ws.getD i 0)
def mCon (h : zH) (B : Nat → Int32) (L key la : Nat) (f0 : Nat → Int32) (D y o n : Nat) (P : pxS → pxR) : Prop := ∀ (Q : Option Value → zH → Prop) (f g : Nat → Int32) (σ : pxS) (ld : Nat) (sd : Int32), mGd B L la f0 f σ ld sd o n → pxG B L σ → ld ≤ σ.1 →
  (∀ σ' ws k f' g', P σ = .inr (σ', ws, k) → mGd B L la f0 f' σ' (ld + ws.length) (sd + nI k) o n → mWd key la ld g g' ws → Q (some (.int 1)) (hM h f' g')) →
  (∀ e f' g', P σ = .inl e → mBf L la f0 g f' g' e → Q (some (.int 0)) (hM h f' g')) → zM D y [.ref 60, .int (nI key)] (hM h f g) Q
section
variable {d : Nat} {Q : Option Value → zH → Prop} {h : zH} {f f0 g g0 g1 f' g' B : Nat → Int32} {x0 x1 x3 v sd c : Int32} {L k p e z key n o j ld la : Nat} {σ : pxS} {l : zL} {P : pxS → pxR} {ws w1 : List Int32}
theorem mL_up {w : Int32} {i : Nat} (hl : mL B f σ) (hk : 22 ≤ i) : mL B (upd f i w) σ := by
  obtain ⟨a, b, c, d, e, g⟩ := hl
  exact ⟨by rw [pk_un (by omega)]; exact a, by rw [pk_un (by omega)]; exact b, by rw [pk_un (by omega)]; exact c, by rw [pk_un (by omega)]; exact d, by rw [pk_un (by omega)]; exact e, by rw [pk_un (by omega)]; exact g⟩
theorem mGd_nx (hG : mGd B L la f0 f σ ld sd o n) (hl : mL B f' (pxNx B L σ)) (b : ∀ j, j ≤ 16 ∨ 22 ≤ j → f' j = f j) : mGd B L la f0 f' (pxNx B L σ) ld sd o n := by
  obtain ⟨h1, h2, h3, h4, h5, h6, h7, h8⟩ := hG
  exact ⟨by rw [b 16 (by omega)]; exact h1, hl, by rw [b 22 (by omega)]; exact h3, by rw [b 23 (by omega)]; exact h4, by rw [b 24 (by omega)]; exact h5, by rw [b 25 (by omega)]; exact h6, by rw [b 26 (by omega)]; exact h7, fun j hj => by rw [b j (by omega)]; exact h8 j hj⟩
theorem mGd_st (hG : mGd B L la f0 f σ ld sd o n) (hz : z = ld + 1) : mGd B L la f0 (upd f 24 (nI (ld + 1))) σ z sd o n := by
  subst hz
  obtain ⟨h1, h2, h3, h4, h5, h6, h7, h8⟩ := hG
  exact ⟨by rw [pk_un (by omega)]; exact h1, mL_up h2 (by omega), by rw [pk_un (by omega)]; exact h3, by rw [pk_un (by omega)]; exact h4, pk_us, by rw [pk_un (by omega)]; exact h6, by rw [pk_un (by omega)]; exact h7, fun j hj => by rw [pk_un (by omega)]; exact h8 j hj⟩
theorem mGd_sd (hG : mGd B L la f0 f σ ld sd o n) : mGd B L la f0 (upd f 26 v) σ ld v o n := by
  obtain ⟨h1, h2, h3, h4, h5, h6, h7, h8⟩ := hG
  exact ⟨by rw [pk_un (by omega)]; exact h1, mL_up h2 (by omega), by rw [pk_un (by omega)]; exact h3, by rw [pk_un (by omega)]; exact h4, by rw [pk_un (by omega)]; exact h5, by rw [pk_un (by omega)]; exact h6, pk_us, fun j hj => by rw [pk_un (by omega)]; exact h8 j hj⟩
theorem mGd_o {o' : Nat} (hG : mGd B L la f0 f σ ld sd o n) : mGd B L la f0 (upd f 22 (nI o')) σ ld sd o' n := by
  obtain ⟨h1, h2, h3, h4, h5, h6, h7, h8⟩ := hG
  exact ⟨by rw [pk_un (by omega)]; exact h1, mL_up h2 (by omega), pk_us, by rw [pk_un (by omega)]; exact h4, by rw [pk_un (by omega)]; exact h5, by rw [pk_un (by omega)]; exact h6, by rw [pk_un (by omega)]; exact h7, fun j hj => by rw [pk_un (by omega)]; exact h8 j hj⟩
theorem mGd_n {n' : Nat} (hG : mGd B L la f0 f σ ld sd o n) : mGd B L la f0 (upd f 23 (nI n')) σ ld sd o n' := by
  obtain ⟨h1, h2, h3, h4, h5, h6, h7, h8⟩ := hG
  exact ⟨by rw [pk_un (by omega)]; exact h1, mL_up h2 (by omega), by rw [pk_un (by omega)]; exact h3, pk_us, by rw [pk_un (by omega)]; exact h5, by rw [pk_un (by omega)]; exact h6, by rw [pk_un (by omega)]; exact h7, fun j hj => by rw [pk_un (by omega)]; exact h8 j hj⟩
theorem mGd_eq {sd' : Int32} (hG : mGd B L la f0 f σ ld sd o n) (hz : z = ld) (hp : sd' = sd) : mGd B L la f0 f σ z sd' o n := by
  subst hz; subst hp; exact hG
theorem mGd_bf (hG : mGd B L la f0 f σ ld sd o n) (hg : ∀ i, i < la → g i = g0 i) : mBf L la f0 g0 f g σ.1 := ⟨hG.1, hG.2.1.1, hG.2.2.2.2.2.2.2, hg⟩
theorem mBf_g (hb : mBf L la f0 g f' g' e) (hg : ∀ i, i < la → g i = g0 i) : mBf L la f0 g0 f' g' e := ⟨hb.1, hb.2.1, hb.2.2.1, fun i hi => by rw [hb.2.2.2 i hi]; exact hg i hi⟩
theorem mWd_nil : mWd key la ld g g [] := ⟨fun _ _ => rfl, fun i hi => absurd hi (Nat.not_lt_zero i)⟩
theorem mWd_lo (hw : mWd key la ld g0 g ws) (i : Nat) (hi : i < la) : g i = g0 i := hw.1 i (by omega)
theorem mWd_app (a : mWd key la ld g0 g ws) (b : mWd key la (ld + ws.length) g g1 w1) : mWd key la ld g0 g1 (ws ++ w1) := by
  refine ⟨fun i hi => by rw [b.1 i (by omega)]; exact a.1 i hi, fun i hi => ?_⟩
  rw [getD_app]
  rw [List.length_append] at hi
  by_cases q : i < ws.length
  · rw [if_pos q, b.1 _ (by omega), b.1 _ (by omega)]; exact a.2 i q
  · rw [if_neg q]
    have := b.2 (i - ws.length) (by omega)
    rw [show ld + ws.length + (i - ws.length) = ld + i by omega] at this
    exact this
theorem mWd_v {what v w : Int32} (a : mWd key la ld g0 g ws) (hz : z = ld + ws.length) (hs : stepR key what v w) : mWd key la ld g0 (upd (upd g (la + 2 * z) what) (la + 2 * z + 1) v) (ws ++ [w]) := by
  subst hz
  refine ⟨fun i hi => by rw [pk_un (by omega), pk_un (by omega)]; exact a.1 i hi, fun i hi => ?_⟩
  rw [getD_app]
  simp only [List.length_append, List.length_cons, List.length_nil] at hi
  by_cases q : i < ws.length
  · rw [if_pos q, pk_un (by omega), pk_un (by omega), pk_un (by omega), pk_un (by omega)]; exact a.2 i q
  · have e : i = ws.length := by omega
    subst e
    rw [if_neg q, pk_us, pk_un (by omega), pk_us, Nat.sub_self]
    exact hs
theorem ym165 : zM (d + 1) 165 [.ref 60, .int x0] (hM h f g) Q = Q (some (.int (if f 19 = 3 ∧ f 21 = x0 then 1 else 0))) (hM h f g) := by
  rw [m165]
  simp only [↓r165_0, ↓r165_1, ↓r165_4, ↓r165_5, ↓r165_8, ↓r165_9, ↓r165_12, ↓r165_13, ↓r165_16, ↓r165_17, ↓r165_20, ↓r165_21f, ↓r165_21t, hM_60]
  by_cases a : f 19 = 3
  · by_cases b : f 21 = x0
    · simp [a, b]
    · simp [a, b]
  · simp [a]
theorem mSg (hl : mL B f σ) (h1 : ¬ c = -1) (h2 : ¬ c = -2) (h3 : ¬ c = -3) : (f 19 = 3 ∧ f 21 = c) = (σ.2.2.1 = c) := by
  obtain ⟨-, -, h19, -, -, h21⟩ := hl
  rw [h19]
  unfold pxTo
  apply propext
  by_cases a1 : σ.2.2.1 = -1
  · rw [if_pos a1, a1]
    exact ⟨fun z => absurd z.1 (by decide), fun z => absurd z.symm h1⟩
  · rw [if_neg a1]
    by_cases a2 : σ.2.2.1 = -2
    · rw [if_pos a2, a2]
      refine ⟨fun z => ?_, fun z => absurd z.symm h2⟩
      exfalso
      have := z.1
      split at this <;> exact absurd this (by decide)
    · rw [if_neg a2]
      by_cases a3 : σ.2.2.1 = -3
      · rw [if_pos a3, a3]
        refine ⟨fun z => ?_, fun z => absurd z.symm h3⟩
        exfalso
        have := z.1
        split at this
        · exact absurd this (by decide)
        · split at this <;> exact absurd this (by decide)
      · rw [if_neg a3, h21 a1 a2 a3]
        exact ⟨fun z => z.2, fun z => ⟨rfl, z⟩⟩
theorem ym164 (hV : pxV B L) (hT : ∀ i, i < L → h 74 i = B i) (hG : mGd B L la f0 f σ ld sd o n) (hσ : pxG B L σ) (h1 : ¬ σ.2.2.1 = -1) (hacc : ¬ pxTo σ = 4) (K : ∀ f', mGd B L la f0 f' (pxNx B L σ) ld sd o n → Q none (hM h f' g)) : zM (d + 3) 164 [.ref 60] (hM h f g) Q := by
  have a := pxG_lt hV hσ h1
  have h19 := hG.2.1.2.2.1
  refine y164 hV hT hG.1 hG.2.1.2.1 hσ.2.1 (fun w => ⟨by omega, ?_⟩) (fun w => ?_) (fun f' l b => K f' (mGd_nx hG l b))
  · rw [h19]
    unfold pxTo at hacc ⊢
    rw [if_neg h1] at hacc ⊢
    simp only [pxW, Bool.or_eq_true, decide_eq_true_eq] at w
    by_cases a2 : σ.2.2.1 = -2
    · rw [if_pos a2] at hacc ⊢
      split
      · rename_i q; rw [if_pos q] at hacc; exact absurd rfl hacc
      · exact Or.inl rfl
    · have a3 : σ.2.2.1 = -3 := w.resolve_left a2
      rw [if_neg a2, if_pos a3] at hacc ⊢
      split
      · rename_i q; rw [if_pos q] at hacc; exact absurd rfl hacc
      · rename_i q
        rw [if_neg q] at hacc
        split
        · exact Or.inr rfl
        · rename_i q2; rw [if_neg q2] at hacc; exact absurd rfl hacc
  · rw [h19]
    unfold pxTo
    simp only [pxW, Bool.or_eq_false_iff, decide_eq_false_iff_not] at w
    rw [if_neg h1, if_neg w.1, if_neg w.2]
    decide
theorem pxTo_s (h1 : ¬ σ.2.2.1 = -1) (h2 : ¬ σ.2.2.1 = -2) (h3 : ¬ σ.2.2.1 = -3) : ¬ pxTo σ = 4 := by
  unfold pxTo
  rw [if_neg h1, if_neg h2, if_neg h3]
  decide
theorem zsgn_n {s : Int32} (h : zsgn s) : ¬ s = -1 ∧ ¬ s = -2 ∧ ¬ s = -3 := by
  rcases h with rfl | rfl | rfl | rfl | rfl | rfl | rfl | rfl | rfl <;> decide
theorem ym169 (hla : f 25 = nI la) (hld : f 24 = nI ld) (hb : la + 2 * ld + 1 < 3062) : zM (d + 1) 169 [.ref 60, .int x0, .int x1] (hM h f g) Q = Q none (hM h (upd f 24 (nI (ld + 1))) (upd (upd g (la + 2 * ld) x0) (la + 2 * ld + 1) x1)) := by
  rw [m169]
  have e : nI la + 2 * nI ld = nI (la + 2 * ld) := by rw [show (2 : Int32) = nI 2 from rfl, pk_mul, nI_add]
  simp only [↓r169_0, ↓r169_1, ↓r169_4, ↓r169_5, ↓r169_8, ↓r169_9, ↓r169_10, ↓r169_13, ↓r169_14, ↓r169_15, ↓r169_16, ↓r169_17, ↓r169_18, ↓r169_21, ↓r169_22, ↓r169_25, ↓r169_26, ↓r169_27, ↓r169_30, ↓r169_31, ↓r169_32, ↓r169_33, ↓r169_34, ↓r169_35, ↓r169_36, ↓r169_37, ↓r169_38, ↓r169_41, ↓r169_42, ↓r169_43, ↓r169_46, hM_60, hM_61, hla, hld, e, nI_1, zs_61, zok_nI (by omega : la + 2 * ld < 3062) (by omega), zok_nI hb (by omega), zix_nI (by omega : la + 2 * ld < 2 ^ 31), zix_nI (by omega : la + 2 * ld + 1 < 2 ^ 31), hM_p60, hM_p61, true_and]
theorem ym174_lp (hV : pxV B L) (hT : ∀ i, i < L → h 74 i = B i) (hla : la ≤ 2862) (hP : mCon h B L key la f0 (d + 3) 175 o n P) (hpr : pxPr B L P) {g0 : Nat → Int32} {ld : Nat} {sd : Int32} : ∀ (m : Nat) (σ : pxS) (ws : List Int32) (k : Nat) (f g : Nat → Int32) (o2 : Option Value), L ≤ σ.1 + m → mGd B L la f0 f σ (ld + ws.length) (sd + nI k) o n → pxG B L σ → ld + ws.length ≤ σ.1 → mWd key la ld g0 g ws →
    (∀ σ' ws' k' f' g', pxLp (pxNx B L) P pxMu m σ ws k = .inr (σ', ws', k') → mGd B L la f0 f' σ' (ld + ws'.length) (sd + nI k') o n → mWd key la ld g0 g' ws' → Q (some (.int 1)) (hM h f' g')) →
    (∀ e f' g', pxLp (pxNx B L) P pxMu m σ ws k = .inl e → mBf L la f0 g0 f' g' e → Q (some (.int 0)) (hM h f' g')) → zR (d + 3) 174 Q 10 [some (.ref 60), some (.int (nI key)), o2] [] (hM h f g)
  | m, σ, ws, k, f, g, o2, hm, hG, hσ, hsz, hw, ok, bad => by
    have h96 := hV.1
    have hl := hG.2.1
    have h19 := hl.2.2.1
    have no : ¬ pxMu σ.2.2.1 = true → Q (some (.int 1)) (hM h f g) := by
      intro qo
      cases m with
      | zero => exact ok σ ws k f g rfl hG hw
      | succ m =>
        simp only [pxLp, if_neg qo] at ok
        exact ok σ ws k f g rfl hG hw
    have go : pxMu σ.2.2.1 = true → zR (d + 3) 174 Q 28 [some (.ref 60), some (.int (nI key)), o2] [] (hM h f g) := by
      intro qo
      have hs := pxMu_s qo
      obtain ⟨n1, n2, n3⟩ := zsgn_n hs
      obtain ⟨a, b⟩ := pxNx_up hV hσ n1
      have h21 : f 21 = σ.2.2.1 := hl.2.2.2.2.2 n1 n2 n3
      cases m with
      | zero =>
        exfalso
        have := (pxG_lt hV hσ n1).1
        omega
      | succ m =>
        simp only [pxLp, if_pos qo] at ok bad
        simp only [↓r174_0, ↓r174_1, ↓r174_2, ↓r174_5, ↓r174_8, ↓r174_9f, ↓r174_9t, ↓r174_11, ↓r174_13, ↓r174_16, ↓r174_19, ↓r174_20, ↓r174_22, ↓r174_25, ↓r174_28, ↓r174_29, ↓r174_32, ↓r174_33, ↓r174_34, ↓r174_37, ↓r174_38, ↓r174_39, ↓r174_42, ↓r174_45, ↓r174_46f, ↓r174_46t, ↓r174_47, ↓r174_48, ↓r174_49, ↓r174_50, ↓r174_53, ↓r174_56, ↓r174_57f, ↓r174_57t, hM_60, h21]
        refine ym164 hV hT hG hσ n1 (pxTo_s n1 n2 n3) (fun f1 G1 => ?_)
        simp only [↓r174_0, ↓r174_1, ↓r174_2, ↓r174_5, ↓r174_8, ↓r174_9f, ↓r174_9t, ↓r174_11, ↓r174_13, ↓r174_16, ↓r174_19, ↓r174_20, ↓r174_22, ↓r174_25, ↓r174_28, ↓r174_29, ↓r174_32, ↓r174_33, ↓r174_34, ↓r174_37, ↓r174_38, ↓r174_39, ↓r174_42, ↓r174_45, ↓r174_46f, ↓r174_46t, ↓r174_47, ↓r174_48, ↓r174_49, ↓r174_50, ↓r174_53, ↓r174_56, ↓r174_57f, ↓r174_57t, Option.toList, List.cons_append, List.nil_append]
        refine hP _ f1 g (pxNx B L σ) (ld + ws.length) (sd + nI k) G1 a (by omega) (fun σ1 w1 k1 f2 g2 e2 G2 W2 => ?_) (fun e f2 g2 e2 b2 => ?_)
        · obtain ⟨c1, c2, -⟩ := (hpr _ a).2 _ _ _ e2
          have c0 := c1.1
          simp only [e2] at ok bad
          simp (decide := true) only [↓r174_0, ↓r174_1, ↓r174_2, ↓r174_5, ↓r174_8, ↓r174_9f, ↓r174_9t, ↓r174_11, ↓r174_13, ↓r174_16, ↓r174_19, ↓r174_20, ↓r174_22, ↓r174_25, ↓r174_28, ↓r174_29, ↓r174_32, ↓r174_33, ↓r174_34, ↓r174_37, ↓r174_38, ↓r174_39, ↓r174_42, ↓r174_45, ↓r174_46f, ↓r174_46t, ↓r174_47, ↓r174_48, ↓r174_49, ↓r174_50, ↓r174_53, ↓r174_56, ↓r174_57f, ↓r174_57t, Option.toList, List.cons_append, List.nil_append, ↓reduceIte, ym169 G2.2.2.2.2.2.1 G2.2.2.2.2.1 (by omega : la + 2 * (ld + ws.length + w1.length) + 1 < 3062)]
          have W3 : mWd key la ld g0 (upd (upd g2 (la + 2 * (ld + ws.length + w1.length)) 2) (la + 2 * (ld + ws.length + w1.length) + 1) σ.2.2.1) (ws ++ w1 ++ [-σ.2.2.1]) := mWd_v (mWd_app hw W2) (by rw [List.length_append]; omega) (Or.inr (Or.inr (Or.inr ⟨rfl, hs, rfl⟩)))
          have G3 : mGd B L la f0 (upd f2 24 (nI (ld + ws.length + w1.length + 1))) σ1 (ld + (ws ++ w1 ++ [-σ.2.2.1]).length) (sd + nI (k + k1)) o n := by
            refine mGd_eq (mGd_st G2 rfl) ?_ ?_
            · simp only [List.length_append, List.length_cons, List.length_nil]; omega
            · rw [← nI_add, Int32.add_assoc]
          skip
          refine ym174_lp hV hT hla hP hpr m σ1 _ _ _ _ _ (by omega) G3 c1 ?_ W3 ok bad
          simp only [List.length_append, List.length_cons, List.length_nil]
          omega
        · simp only [e2] at ok bad
          simp (decide := true) only [↓r174_0, ↓r174_1, ↓r174_2, ↓r174_5, ↓r174_8, ↓r174_9f, ↓r174_9t, ↓r174_11, ↓r174_13, ↓r174_16, ↓r174_19, ↓r174_20, ↓r174_22, ↓r174_25, ↓r174_28, ↓r174_29, ↓r174_32, ↓r174_33, ↓r174_34, ↓r174_37, ↓r174_38, ↓r174_39, ↓r174_42, ↓r174_45, ↓r174_46f, ↓r174_46t, ↓r174_47, ↓r174_48, ↓r174_49, ↓r174_50, ↓r174_53, ↓r174_56, ↓r174_57f, ↓r174_57t, Option.toList, List.cons_append, List.nil_append, ↓reduceIte]
          exact bad _ _ _ rfl (mBf_g b2 (mWd_lo hw))
    rw [r174_10]
    simp (decide := true) only [↓r174_0, ↓r174_1, ↓r174_2, ↓r174_5, ↓r174_8, ↓r174_9f, ↓r174_9t, ↓r174_11, ↓r174_13, ↓r174_16, ↓r174_19, ↓r174_20, ↓r174_22, ↓r174_25, ↓r174_29, ↓r174_32, ↓r174_33, ↓r174_34, ↓r174_37, ↓r174_38, ↓r174_39, ↓r174_42, ↓r174_45, ↓r174_46f, ↓r174_46t, ↓r174_47, ↓r174_48, ↓r174_49, ↓r174_50, ↓r174_53, ↓r174_56, ↓r174_57f, ↓r174_57t, ym165, mSg hl, Option.toList, List.cons_append, List.nil_append, ↓reduceIte, not_false_eq_true]
    by_cases q1 : σ.2.2.1 = 42
    · have qo : pxMu σ.2.2.1 = true := by simp [pxMu, q1]
      simp (decide := true) only [if_pos q1, ↓reduceIte]
      exact go qo
    · by_cases q2 : σ.2.2.1 = 47
      · have qo : pxMu σ.2.2.1 = true := by simp [pxMu, q2]
        simp (decide := true) only [if_neg q1, if_pos q2, ↓reduceIte]
        exact go qo
      · have qo : ¬ pxMu σ.2.2.1 = true := by simp [pxMu, q1, q2]
        simp (decide := true) only [if_neg q1, if_neg q2, ↓reduceIte]
        exact no qo
termination_by m => m
theorem ym174 (hV : pxV B L) (hT : ∀ i, i < L → h 74 i = B i) (hla : la ≤ 2862) (hP : mCon h B L key la f0 (d + 3) 175 o n P) (hpr : pxPr B L P) : mCon h B L key la f0 (d + 3 + 1) 174 o n (pxLv (pxNx B L) P pxMu) := by
  intro Q f g σ ld sd hG hσ hsz ok bad
  have h96 := hV.1
  rw [m174]
  simp only [↓r174_0, ↓r174_1, ↓r174_2, ↓r174_5, ↓r174_8, ↓r174_9f, ↓r174_9t, ↓r174_11, ↓r174_13, ↓r174_16, ↓r174_19, ↓r174_20, ↓r174_22, ↓r174_25, ↓r174_28, ↓r174_29, ↓r174_32, ↓r174_33, ↓r174_34, ↓r174_37, ↓r174_38, ↓r174_39, ↓r174_42, ↓r174_45, ↓r174_46f, ↓r174_46t, ↓r174_47, ↓r174_48, ↓r174_49, ↓r174_50, ↓r174_53, ↓r174_56, ↓r174_57f, ↓r174_57t]
  refine hP _ f g σ ld sd hG hσ hsz (fun σ1 w1 k1 f1 g1 e1 G1 W1 => ?_) (fun e f1 g1 e1 b1 => ?_)
  · simp (decide := true) only [↓r174_0, ↓r174_1, ↓r174_2, ↓r174_5, ↓r174_8, ↓r174_9f, ↓r174_9t, ↓r174_11, ↓r174_13, ↓r174_16, ↓r174_19, ↓r174_20, ↓r174_22, ↓r174_25, ↓r174_28, ↓r174_29, ↓r174_32, ↓r174_33, ↓r174_34, ↓r174_37, ↓r174_38, ↓r174_39, ↓r174_42, ↓r174_45, ↓r174_46f, ↓r174_46t, ↓r174_47, ↓r174_48, ↓r174_49, ↓r174_50, ↓r174_53, ↓r174_56, ↓r174_57f, ↓r174_57t, Option.toList, List.cons_append, List.nil_append, ↓reduceIte]
    simp only [pxLv, e1] at ok bad
    obtain ⟨c1, c2, -⟩ := (hpr σ hσ).2 _ _ _ e1
    exact ym174_lp hV hT hla hP hpr 96 σ1 w1 k1 f1 g1 _ (by omega) G1 c1 (by omega) W1 ok bad
  · simp (decide := true) only [↓r174_0, ↓r174_1, ↓r174_2, ↓r174_5, ↓r174_8, ↓r174_9f, ↓r174_9t, ↓r174_11, ↓r174_13, ↓r174_16, ↓r174_19, ↓r174_20, ↓r174_22, ↓r174_25, ↓r174_28, ↓r174_29, ↓r174_32, ↓r174_33, ↓r174_34, ↓r174_37, ↓r174_38, ↓r174_39, ↓r174_42, ↓r174_45, ↓r174_46f, ↓r174_46t, ↓r174_47, ↓r174_48, ↓r174_49, ↓r174_50, ↓r174_53, ↓r174_56, ↓r174_57f, ↓r174_57t, Option.toList, List.cons_append, List.nil_append, ↓reduceIte]
    simp only [pxLv, e1] at ok bad
    exact bad _ _ _ rfl b1
theorem ym173_lp (hV : pxV B L) (hT : ∀ i, i < L → h 74 i = B i) (hla : la ≤ 2862) (hP : mCon h B L key la f0 (d + 3) 174 o n P) (hpr : pxPr B L P) {g0 : Nat → Int32} {ld : Nat} {sd : Int32} : ∀ (m : Nat) (σ : pxS) (ws : List Int32) (k : Nat) (f g : Nat → Int32) (o2 : Option Value), L ≤ σ.1 + m → mGd B L la f0 f σ (ld + ws.length) (sd + nI k) o n → pxG B L σ → ld + ws.length ≤ σ.1 → mWd key la ld g0 g ws →
    (∀ σ' ws' k' f' g', pxLp (pxNx B L) P pxPl m σ ws k = .inr (σ', ws', k') → mGd B L la f0 f' σ' (ld + ws'.length) (sd + nI k') o n → mWd key la ld g0 g' ws' → Q (some (.int 1)) (hM h f' g')) →
    (∀ e f' g', pxLp (pxNx B L) P pxPl m σ ws k = .inl e → mBf L la f0 g0 f' g' e → Q (some (.int 0)) (hM h f' g')) → zR (d + 3) 173 Q 10 [some (.ref 60), some (.int (nI key)), o2] [] (hM h f g)
  | m, σ, ws, k, f, g, o2, hm, hG, hσ, hsz, hw, ok, bad => by
    have h96 := hV.1
    have hl := hG.2.1
    have h19 := hl.2.2.1
    have no : ¬ pxPl σ.2.2.1 = true → Q (some (.int 1)) (hM h f g) := by
      intro qo
      cases m with
      | zero => exact ok σ ws k f g rfl hG hw
      | succ m =>
        simp only [pxLp, if_neg qo] at ok
        exact ok σ ws k f g rfl hG hw
    have go : pxPl σ.2.2.1 = true → zR (d + 3) 173 Q 28 [some (.ref 60), some (.int (nI key)), o2] [] (hM h f g) := by
      intro qo
      have hs := pxPl_s qo
      obtain ⟨n1, n2, n3⟩ := zsgn_n hs
      obtain ⟨a, b⟩ := pxNx_up hV hσ n1
      have h21 : f 21 = σ.2.2.1 := hl.2.2.2.2.2 n1 n2 n3
      cases m with
      | zero =>
        exfalso
        have := (pxG_lt hV hσ n1).1
        omega
      | succ m =>
        simp only [pxLp, if_pos qo] at ok bad
        simp only [↓r173_0, ↓r173_1, ↓r173_2, ↓r173_5, ↓r173_8, ↓r173_9f, ↓r173_9t, ↓r173_11, ↓r173_13, ↓r173_16, ↓r173_19, ↓r173_20, ↓r173_22, ↓r173_25, ↓r173_28, ↓r173_29, ↓r173_32, ↓r173_33, ↓r173_34, ↓r173_37, ↓r173_38, ↓r173_39, ↓r173_42, ↓r173_45, ↓r173_46f, ↓r173_46t, ↓r173_47, ↓r173_48, ↓r173_49, ↓r173_50, ↓r173_53, ↓r173_56, ↓r173_57f, ↓r173_57t, hM_60, h21]
        refine ym164 hV hT hG hσ n1 (pxTo_s n1 n2 n3) (fun f1 G1 => ?_)
        simp only [↓r173_0, ↓r173_1, ↓r173_2, ↓r173_5, ↓r173_8, ↓r173_9f, ↓r173_9t, ↓r173_11, ↓r173_13, ↓r173_16, ↓r173_19, ↓r173_20, ↓r173_22, ↓r173_25, ↓r173_28, ↓r173_29, ↓r173_32, ↓r173_33, ↓r173_34, ↓r173_37, ↓r173_38, ↓r173_39, ↓r173_42, ↓r173_45, ↓r173_46f, ↓r173_46t, ↓r173_47, ↓r173_48, ↓r173_49, ↓r173_50, ↓r173_53, ↓r173_56, ↓r173_57f, ↓r173_57t, Option.toList, List.cons_append, List.nil_append]
        refine hP _ f1 g (pxNx B L σ) (ld + ws.length) (sd + nI k) G1 a (by omega) (fun σ1 w1 k1 f2 g2 e2 G2 W2 => ?_) (fun e f2 g2 e2 b2 => ?_)
        · obtain ⟨c1, c2, -⟩ := (hpr _ a).2 _ _ _ e2
          have c0 := c1.1
          simp only [e2] at ok bad
          simp (decide := true) only [↓r173_0, ↓r173_1, ↓r173_2, ↓r173_5, ↓r173_8, ↓r173_9f, ↓r173_9t, ↓r173_11, ↓r173_13, ↓r173_16, ↓r173_19, ↓r173_20, ↓r173_22, ↓r173_25, ↓r173_28, ↓r173_29, ↓r173_32, ↓r173_33, ↓r173_34, ↓r173_37, ↓r173_38, ↓r173_39, ↓r173_42, ↓r173_45, ↓r173_46f, ↓r173_46t, ↓r173_47, ↓r173_48, ↓r173_49, ↓r173_50, ↓r173_53, ↓r173_56, ↓r173_57f, ↓r173_57t, Option.toList, List.cons_append, List.nil_append, ↓reduceIte, ym169 G2.2.2.2.2.2.1 G2.2.2.2.2.1 (by omega : la + 2 * (ld + ws.length + w1.length) + 1 < 3062)]
          have W3 : mWd key la ld g0 (upd (upd g2 (la + 2 * (ld + ws.length + w1.length)) 2) (la + 2 * (ld + ws.length + w1.length) + 1) σ.2.2.1) (ws ++ w1 ++ [-σ.2.2.1]) := mWd_v (mWd_app hw W2) (by rw [List.length_append]; omega) (Or.inr (Or.inr (Or.inr ⟨rfl, hs, rfl⟩)))
          have G3 : mGd B L la f0 (upd f2 24 (nI (ld + ws.length + w1.length + 1))) σ1 (ld + (ws ++ w1 ++ [-σ.2.2.1]).length) (sd + nI (k + k1)) o n := by
            refine mGd_eq (mGd_st G2 rfl) ?_ ?_
            · simp only [List.length_append, List.length_cons, List.length_nil]; omega
            · rw [← nI_add, Int32.add_assoc]
          skip
          refine ym173_lp hV hT hla hP hpr m σ1 _ _ _ _ _ (by omega) G3 c1 ?_ W3 ok bad
          simp only [List.length_append, List.length_cons, List.length_nil]
          omega
        · simp only [e2] at ok bad
          simp (decide := true) only [↓r173_0, ↓r173_1, ↓r173_2, ↓r173_5, ↓r173_8, ↓r173_9f, ↓r173_9t, ↓r173_11, ↓r173_13, ↓r173_16, ↓r173_19, ↓r173_20, ↓r173_22, ↓r173_25, ↓r173_28, ↓r173_29, ↓r173_32, ↓r173_33, ↓r173_34, ↓r173_37, ↓r173_38, ↓r173_39, ↓r173_42, ↓r173_45, ↓r173_46f, ↓r173_46t, ↓r173_47, ↓r173_48, ↓r173_49, ↓r173_50, ↓r173_53, ↓r173_56, ↓r173_57f, ↓r173_57t, Option.toList, List.cons_append, List.nil_append, ↓reduceIte]
          exact bad _ _ _ rfl (mBf_g b2 (mWd_lo hw))
    rw [r173_10]
    simp (decide := true) only [↓r173_0, ↓r173_1, ↓r173_2, ↓r173_5, ↓r173_8, ↓r173_9f, ↓r173_9t, ↓r173_11, ↓r173_13, ↓r173_16, ↓r173_19, ↓r173_20, ↓r173_22, ↓r173_25, ↓r173_29, ↓r173_32, ↓r173_33, ↓r173_34, ↓r173_37, ↓r173_38, ↓r173_39, ↓r173_42, ↓r173_45, ↓r173_46f, ↓r173_46t, ↓r173_47, ↓r173_48, ↓r173_49, ↓r173_50, ↓r173_53, ↓r173_56, ↓r173_57f, ↓r173_57t, ym165, mSg hl, Option.toList, List.cons_append, List.nil_append, ↓reduceIte, not_false_eq_true]
    by_cases q1 : σ.2.2.1 = 43
    · have qo : pxPl σ.2.2.1 = true := by simp [pxPl, q1]
      simp (decide := true) only [if_pos q1, ↓reduceIte]
      exact go qo
    · by_cases q2 : σ.2.2.1 = 45
      · have qo : pxPl σ.2.2.1 = true := by simp [pxPl, q2]
        simp (decide := true) only [if_neg q1, if_pos q2, ↓reduceIte]
        exact go qo
      · have qo : ¬ pxPl σ.2.2.1 = true := by simp [pxPl, q1, q2]
        simp (decide := true) only [if_neg q1, if_neg q2, ↓reduceIte]
        exact no qo
termination_by m => m
theorem ym173 (hV : pxV B L) (hT : ∀ i, i < L → h 74 i = B i) (hla : la ≤ 2862) (hP : mCon h B L key la f0 (d + 3) 174 o n P) (hpr : pxPr B L P) : mCon h B L key la f0 (d + 3 + 1) 173 o n (pxLv (pxNx B L) P pxPl) := by
  intro Q f g σ ld sd hG hσ hsz ok bad
  have h96 := hV.1
  rw [m173]
  simp only [↓r173_0, ↓r173_1, ↓r173_2, ↓r173_5, ↓r173_8, ↓r173_9f, ↓r173_9t, ↓r173_11, ↓r173_13, ↓r173_16, ↓r173_19, ↓r173_20, ↓r173_22, ↓r173_25, ↓r173_28, ↓r173_29, ↓r173_32, ↓r173_33, ↓r173_34, ↓r173_37, ↓r173_38, ↓r173_39, ↓r173_42, ↓r173_45, ↓r173_46f, ↓r173_46t, ↓r173_47, ↓r173_48, ↓r173_49, ↓r173_50, ↓r173_53, ↓r173_56, ↓r173_57f, ↓r173_57t]
  refine hP _ f g σ ld sd hG hσ hsz (fun σ1 w1 k1 f1 g1 e1 G1 W1 => ?_) (fun e f1 g1 e1 b1 => ?_)
  · simp (decide := true) only [↓r173_0, ↓r173_1, ↓r173_2, ↓r173_5, ↓r173_8, ↓r173_9f, ↓r173_9t, ↓r173_11, ↓r173_13, ↓r173_16, ↓r173_19, ↓r173_20, ↓r173_22, ↓r173_25, ↓r173_28, ↓r173_29, ↓r173_32, ↓r173_33, ↓r173_34, ↓r173_37, ↓r173_38, ↓r173_39, ↓r173_42, ↓r173_45, ↓r173_46f, ↓r173_46t, ↓r173_47, ↓r173_48, ↓r173_49, ↓r173_50, ↓r173_53, ↓r173_56, ↓r173_57f, ↓r173_57t, Option.toList, List.cons_append, List.nil_append, ↓reduceIte]
    simp only [pxLv, e1] at ok bad
    obtain ⟨c1, c2, -⟩ := (hpr σ hσ).2 _ _ _ e1
    exact ym173_lp hV hT hla hP hpr 96 σ1 w1 k1 f1 g1 _ (by omega) G1 c1 (by omega) W1 ok bad
  · simp (decide := true) only [↓r173_0, ↓r173_1, ↓r173_2, ↓r173_5, ↓r173_8, ↓r173_9f, ↓r173_9t, ↓r173_11, ↓r173_13, ↓r173_16, ↓r173_19, ↓r173_20, ↓r173_22, ↓r173_25, ↓r173_28, ↓r173_29, ↓r173_32, ↓r173_33, ↓r173_34, ↓r173_37, ↓r173_38, ↓r173_39, ↓r173_42, ↓r173_45, ↓r173_46f, ↓r173_46t, ↓r173_47, ↓r173_48, ↓r173_49, ↓r173_50, ↓r173_53, ↓r173_56, ↓r173_57f, ↓r173_57t, Option.toList, List.cons_append, List.nil_append, ↓reduceIte]
    simp only [pxLv, e1] at ok bad
    exact bad _ _ _ rfl b1
theorem ym171_lp (hV : pxV B L) (hT : ∀ i, i < L → h 74 i = B i) (hla : la ≤ 2862) (hP : mCon h B L key la f0 (d + 3) 172 o n P) (hpr : pxPr B L P) {g0 : Nat → Int32} {ld : Nat} {sd : Int32} : ∀ (m : Nat) (σ : pxS) (ws : List Int32) (k : Nat) (f g : Nat → Int32), L ≤ σ.1 + m → mGd B L la f0 f σ (ld + ws.length) (sd + nI k) o n → pxG B L σ → ld + ws.length ≤ σ.1 → mWd key la ld g0 g ws →
    (∀ σ' ws' k' f' g', pxLp (pxNx B L) P pxAn m σ ws k = .inr (σ', ws', k') → mGd B L la f0 f' σ' (ld + ws'.length) (sd + nI k') o n → mWd key la ld g0 g' ws' → Q (some (.int 1)) (hM h f' g')) →
    (∀ e f' g', pxLp (pxNx B L) P pxAn m σ ws k = .inl e → mBf L la f0 g0 f' g' e → Q (some (.int 0)) (hM h f' g')) → zR (d + 3) 171 Q 10 [some (.ref 60), some (.int (nI key))] [] (hM h f g)
  | m, σ, ws, k, f, g, hm, hG, hσ, hsz, hw, ok, bad => by
    have h96 := hV.1
    have hl := hG.2.1
    have h19 := hl.2.2.1
    have no : ¬ pxAn σ.2.2.1 = true → Q (some (.int 1)) (hM h f g) := by
      intro qo
      cases m with
      | zero => exact ok σ ws k f g rfl hG hw
      | succ m =>
        simp only [pxLp, if_neg qo] at ok
        exact ok σ ws k f g rfl hG hw
    have go : pxAn σ.2.2.1 = true → zR (d + 3) 171 Q 19 [some (.ref 60), some (.int (nI key))] [] (hM h f g) := by
      intro qo
      have hs := pxAn_s qo
      obtain ⟨n1, n2, n3⟩ := zsgn_n hs
      obtain ⟨a, b⟩ := pxNx_up hV hσ n1
      have h21 : f 21 = σ.2.2.1 := hl.2.2.2.2.2 n1 n2 n3
      cases m with
      | zero =>
        exfalso
        have := (pxG_lt hV hσ n1).1
        omega
      | succ m =>
        simp only [pxLp, if_pos qo] at ok bad
        simp only [↓r171_0, ↓r171_1, ↓r171_2, ↓r171_5, ↓r171_8, ↓r171_9f, ↓r171_9t, ↓r171_11, ↓r171_13, ↓r171_16, ↓r171_19, ↓r171_20, ↓r171_23, ↓r171_24, ↓r171_25, ↓r171_28, ↓r171_31, ↓r171_32f, ↓r171_32t, ↓r171_33, ↓r171_34, ↓r171_35, ↓r171_37, ↓r171_40, ↓r171_43, ↓r171_44f, ↓r171_44t, hM_60, h21]
        refine ym164 hV hT hG hσ n1 (pxTo_s n1 n2 n3) (fun f1 G1 => ?_)
        simp only [↓r171_0, ↓r171_1, ↓r171_2, ↓r171_5, ↓r171_8, ↓r171_9f, ↓r171_9t, ↓r171_11, ↓r171_13, ↓r171_16, ↓r171_19, ↓r171_20, ↓r171_23, ↓r171_24, ↓r171_25, ↓r171_28, ↓r171_31, ↓r171_32f, ↓r171_32t, ↓r171_33, ↓r171_34, ↓r171_35, ↓r171_37, ↓r171_40, ↓r171_43, ↓r171_44f, ↓r171_44t, Option.toList, List.cons_append, List.nil_append]
        refine hP _ f1 g (pxNx B L σ) (ld + ws.length) (sd + nI k) G1 a (by omega) (fun σ1 w1 k1 f2 g2 e2 G2 W2 => ?_) (fun e f2 g2 e2 b2 => ?_)
        · obtain ⟨c1, c2, -⟩ := (hpr _ a).2 _ _ _ e2
          have c0 := c1.1
          simp only [e2] at ok bad
          simp (decide := true) only [↓r171_0, ↓r171_1, ↓r171_2, ↓r171_5, ↓r171_8, ↓r171_9f, ↓r171_9t, ↓r171_11, ↓r171_13, ↓r171_16, ↓r171_19, ↓r171_20, ↓r171_23, ↓r171_24, ↓r171_25, ↓r171_28, ↓r171_31, ↓r171_32f, ↓r171_32t, ↓r171_33, ↓r171_34, ↓r171_35, ↓r171_37, ↓r171_40, ↓r171_43, ↓r171_44f, ↓r171_44t, Option.toList, List.cons_append, List.nil_append, ↓reduceIte, ym169 G2.2.2.2.2.2.1 G2.2.2.2.2.1 (by omega : la + 2 * (ld + ws.length + w1.length) + 1 < 3062)]
          have W3 : mWd key la ld g0 (upd (upd g2 (la + 2 * (ld + ws.length + w1.length)) 2) (la + 2 * (ld + ws.length + w1.length) + 1) σ.2.2.1) (ws ++ w1 ++ [-σ.2.2.1]) := mWd_v (mWd_app hw W2) (by rw [List.length_append]; omega) (Or.inr (Or.inr (Or.inr ⟨rfl, hs, rfl⟩)))
          have G3 : mGd B L la f0 (upd f2 24 (nI (ld + ws.length + w1.length + 1))) σ1 (ld + (ws ++ w1 ++ [-σ.2.2.1]).length) (sd + nI (k + k1)) o n := by
            refine mGd_eq (mGd_st G2 rfl) ?_ ?_
            · simp only [List.length_append, List.length_cons, List.length_nil]; omega
            · rw [← nI_add, Int32.add_assoc]
          have es : σ.2.2.1 = 38 := by simpa [pxAn] using qo
          simp only [es] at G3 W3 ok bad
          refine ym171_lp hV hT hla hP hpr m σ1 _ _ _ _ (by omega) G3 c1 ?_ W3 ok bad
          simp only [List.length_append, List.length_cons, List.length_nil]
          omega
        · simp only [e2] at ok bad
          simp (decide := true) only [↓r171_0, ↓r171_1, ↓r171_2, ↓r171_5, ↓r171_8, ↓r171_9f, ↓r171_9t, ↓r171_11, ↓r171_13, ↓r171_16, ↓r171_19, ↓r171_20, ↓r171_23, ↓r171_24, ↓r171_25, ↓r171_28, ↓r171_31, ↓r171_32f, ↓r171_32t, ↓r171_33, ↓r171_34, ↓r171_35, ↓r171_37, ↓r171_40, ↓r171_43, ↓r171_44f, ↓r171_44t, Option.toList, List.cons_append, List.nil_append, ↓reduceIte]
          exact bad _ _ _ rfl (mBf_g b2 (mWd_lo hw))
    rw [r171_10]
    simp (decide := true) only [↓r171_0, ↓r171_1, ↓r171_2, ↓r171_5, ↓r171_8, ↓r171_9f, ↓r171_9t, ↓r171_11, ↓r171_13, ↓r171_16, ↓r171_20, ↓r171_23, ↓r171_24, ↓r171_25, ↓r171_28, ↓r171_31, ↓r171_32f, ↓r171_32t, ↓r171_33, ↓r171_34, ↓r171_35, ↓r171_37, ↓r171_40, ↓r171_43, ↓r171_44f, ↓r171_44t, ym165, mSg hl, Option.toList, List.cons_append, List.nil_append, ↓reduceIte, not_false_eq_true]
    by_cases q1 : σ.2.2.1 = 38
    · have qo : pxAn σ.2.2.1 = true := by simp [pxAn, q1]
      simp (decide := true) only [if_pos q1, ↓reduceIte]
      exact go qo
    · have qo : ¬ pxAn σ.2.2.1 = true := by simp [pxAn, q1]
      simp (decide := true) only [if_neg q1, ↓reduceIte]
      exact no qo
termination_by m => m
theorem ym171 (hV : pxV B L) (hT : ∀ i, i < L → h 74 i = B i) (hla : la ≤ 2862) (hP : mCon h B L key la f0 (d + 3) 172 o n P) (hpr : pxPr B L P) : mCon h B L key la f0 (d + 3 + 1) 171 o n (pxLv (pxNx B L) P pxAn) := by
  intro Q f g σ ld sd hG hσ hsz ok bad
  have h96 := hV.1
  rw [m171]
  simp only [↓r171_0, ↓r171_1, ↓r171_2, ↓r171_5, ↓r171_8, ↓r171_9f, ↓r171_9t, ↓r171_11, ↓r171_13, ↓r171_16, ↓r171_19, ↓r171_20, ↓r171_23, ↓r171_24, ↓r171_25, ↓r171_28, ↓r171_31, ↓r171_32f, ↓r171_32t, ↓r171_33, ↓r171_34, ↓r171_35, ↓r171_37, ↓r171_40, ↓r171_43, ↓r171_44f, ↓r171_44t]
  refine hP _ f g σ ld sd hG hσ hsz (fun σ1 w1 k1 f1 g1 e1 G1 W1 => ?_) (fun e f1 g1 e1 b1 => ?_)
  · simp (decide := true) only [↓r171_0, ↓r171_1, ↓r171_2, ↓r171_5, ↓r171_8, ↓r171_9f, ↓r171_9t, ↓r171_11, ↓r171_13, ↓r171_16, ↓r171_19, ↓r171_20, ↓r171_23, ↓r171_24, ↓r171_25, ↓r171_28, ↓r171_31, ↓r171_32f, ↓r171_32t, ↓r171_33, ↓r171_34, ↓r171_35, ↓r171_37, ↓r171_40, ↓r171_43, ↓r171_44f, ↓r171_44t, Option.toList, List.cons_append, List.nil_append, ↓reduceIte]
    simp only [pxLv, e1] at ok bad
    obtain ⟨c1, c2, -⟩ := (hpr σ hσ).2 _ _ _ e1
    exact ym171_lp hV hT hla hP hpr 96 σ1 w1 k1 f1 g1 (by omega) G1 c1 (by omega) W1 ok bad
  · simp (decide := true) only [↓r171_0, ↓r171_1, ↓r171_2, ↓r171_5, ↓r171_8, ↓r171_9f, ↓r171_9t, ↓r171_11, ↓r171_13, ↓r171_16, ↓r171_19, ↓r171_20, ↓r171_23, ↓r171_24, ↓r171_25, ↓r171_28, ↓r171_31, ↓r171_32f, ↓r171_32t, ↓r171_33, ↓r171_34, ↓r171_35, ↓r171_37, ↓r171_40, ↓r171_43, ↓r171_44f, ↓r171_44t, Option.toList, List.cons_append, List.nil_append, ↓reduceIte]
    simp only [pxLv, e1] at ok bad
    exact bad _ _ _ rfl b1
theorem ym170_lp (hV : pxV B L) (hT : ∀ i, i < L → h 74 i = B i) (hla : la ≤ 2862) (hP : mCon h B L key la f0 (d + 3) 171 o n P) (hpr : pxPr B L P) {g0 : Nat → Int32} {ld : Nat} {sd : Int32} : ∀ (m : Nat) (σ : pxS) (ws : List Int32) (k : Nat) (f g : Nat → Int32), L ≤ σ.1 + m → mGd B L la f0 f σ (ld + ws.length) (sd + nI k) o n → pxG B L σ → ld + ws.length ≤ σ.1 → mWd key la ld g0 g ws →
    (∀ σ' ws' k' f' g', pxLp (pxNx B L) P pxOr m σ ws k = .inr (σ', ws', k') → mGd B L la f0 f' σ' (ld + ws'.length) (sd + nI k') o n → mWd key la ld g0 g' ws' → Q (some (.int 1)) (hM h f' g')) →
    (∀ e f' g', pxLp (pxNx B L) P pxOr m σ ws k = .inl e → mBf L la f0 g0 f' g' e → Q (some (.int 0)) (hM h f' g')) → zR (d + 3) 170 Q 10 [some (.ref 60), some (.int (nI key))] [] (hM h f g)
  | m, σ, ws, k, f, g, hm, hG, hσ, hsz, hw, ok, bad => by
    have h96 := hV.1
    have hl := hG.2.1
    have h19 := hl.2.2.1
    have no : ¬ pxOr σ.2.2.1 = true → Q (some (.int 1)) (hM h f g) := by
      intro qo
      cases m with
      | zero => exact ok σ ws k f g rfl hG hw
      | succ m =>
        simp only [pxLp, if_neg qo] at ok
        exact ok σ ws k f g rfl hG hw
    have go : pxOr σ.2.2.1 = true → zR (d + 3) 170 Q 19 [some (.ref 60), some (.int (nI key))] [] (hM h f g) := by
      intro qo
      have hs := pxOr_s qo
      obtain ⟨n1, n2, n3⟩ := zsgn_n hs
      obtain ⟨a, b⟩ := pxNx_up hV hσ n1
      have h21 : f 21 = σ.2.2.1 := hl.2.2.2.2.2 n1 n2 n3
      cases m with
      | zero =>
        exfalso
        have := (pxG_lt hV hσ n1).1
        omega
      | succ m =>
        simp only [pxLp, if_pos qo] at ok bad
        simp only [↓r170_0, ↓r170_1, ↓r170_2, ↓r170_5, ↓r170_8, ↓r170_9f, ↓r170_9t, ↓r170_11, ↓r170_13, ↓r170_16, ↓r170_19, ↓r170_20, ↓r170_23, ↓r170_24, ↓r170_25, ↓r170_28, ↓r170_31, ↓r170_32f, ↓r170_32t, ↓r170_33, ↓r170_34, ↓r170_35, ↓r170_37, ↓r170_40, ↓r170_43, ↓r170_44f, ↓r170_44t, hM_60, h21]
        refine ym164 hV hT hG hσ n1 (pxTo_s n1 n2 n3) (fun f1 G1 => ?_)
        simp only [↓r170_0, ↓r170_1, ↓r170_2, ↓r170_5, ↓r170_8, ↓r170_9f, ↓r170_9t, ↓r170_11, ↓r170_13, ↓r170_16, ↓r170_19, ↓r170_20, ↓r170_23, ↓r170_24, ↓r170_25, ↓r170_28, ↓r170_31, ↓r170_32f, ↓r170_32t, ↓r170_33, ↓r170_34, ↓r170_35, ↓r170_37, ↓r170_40, ↓r170_43, ↓r170_44f, ↓r170_44t, Option.toList, List.cons_append, List.nil_append]
        refine hP _ f1 g (pxNx B L σ) (ld + ws.length) (sd + nI k) G1 a (by omega) (fun σ1 w1 k1 f2 g2 e2 G2 W2 => ?_) (fun e f2 g2 e2 b2 => ?_)
        · obtain ⟨c1, c2, -⟩ := (hpr _ a).2 _ _ _ e2
          have c0 := c1.1
          simp only [e2] at ok bad
          simp (decide := true) only [↓r170_0, ↓r170_1, ↓r170_2, ↓r170_5, ↓r170_8, ↓r170_9f, ↓r170_9t, ↓r170_11, ↓r170_13, ↓r170_16, ↓r170_19, ↓r170_20, ↓r170_23, ↓r170_24, ↓r170_25, ↓r170_28, ↓r170_31, ↓r170_32f, ↓r170_32t, ↓r170_33, ↓r170_34, ↓r170_35, ↓r170_37, ↓r170_40, ↓r170_43, ↓r170_44f, ↓r170_44t, Option.toList, List.cons_append, List.nil_append, ↓reduceIte, ym169 G2.2.2.2.2.2.1 G2.2.2.2.2.1 (by omega : la + 2 * (ld + ws.length + w1.length) + 1 < 3062)]
          have W3 : mWd key la ld g0 (upd (upd g2 (la + 2 * (ld + ws.length + w1.length)) 2) (la + 2 * (ld + ws.length + w1.length) + 1) σ.2.2.1) (ws ++ w1 ++ [-σ.2.2.1]) := mWd_v (mWd_app hw W2) (by rw [List.length_append]; omega) (Or.inr (Or.inr (Or.inr ⟨rfl, hs, rfl⟩)))
          have G3 : mGd B L la f0 (upd f2 24 (nI (ld + ws.length + w1.length + 1))) σ1 (ld + (ws ++ w1 ++ [-σ.2.2.1]).length) (sd + nI (k + k1)) o n := by
            refine mGd_eq (mGd_st G2 rfl) ?_ ?_
            · simp only [List.length_append, List.length_cons, List.length_nil]; omega
            · rw [← nI_add, Int32.add_assoc]
          have es : σ.2.2.1 = 124 := by simpa [pxOr] using qo
          simp only [es] at G3 W3 ok bad
          refine ym170_lp hV hT hla hP hpr m σ1 _ _ _ _ (by omega) G3 c1 ?_ W3 ok bad
          simp only [List.length_append, List.length_cons, List.length_nil]
          omega
        · simp only [e2] at ok bad
          simp (decide := true) only [↓r170_0, ↓r170_1, ↓r170_2, ↓r170_5, ↓r170_8, ↓r170_9f, ↓r170_9t, ↓r170_11, ↓r170_13, ↓r170_16, ↓r170_19, ↓r170_20, ↓r170_23, ↓r170_24, ↓r170_25, ↓r170_28, ↓r170_31, ↓r170_32f, ↓r170_32t, ↓r170_33, ↓r170_34, ↓r170_35, ↓r170_37, ↓r170_40, ↓r170_43, ↓r170_44f, ↓r170_44t, Option.toList, List.cons_append, List.nil_append, ↓reduceIte]
          exact bad _ _ _ rfl (mBf_g b2 (mWd_lo hw))
    rw [r170_10]
    simp (decide := true) only [↓r170_0, ↓r170_1, ↓r170_2, ↓r170_5, ↓r170_8, ↓r170_9f, ↓r170_9t, ↓r170_11, ↓r170_13, ↓r170_16, ↓r170_20, ↓r170_23, ↓r170_24, ↓r170_25, ↓r170_28, ↓r170_31, ↓r170_32f, ↓r170_32t, ↓r170_33, ↓r170_34, ↓r170_35, ↓r170_37, ↓r170_40, ↓r170_43, ↓r170_44f, ↓r170_44t, ym165, mSg hl, Option.toList, List.cons_append, List.nil_append, ↓reduceIte, not_false_eq_true]
    by_cases q1 : σ.2.2.1 = 124
    · have qo : pxOr σ.2.2.1 = true := by simp [pxOr, q1]
      simp (decide := true) only [if_pos q1, ↓reduceIte]
      exact go qo
    · have qo : ¬ pxOr σ.2.2.1 = true := by simp [pxOr, q1]
      simp (decide := true) only [if_neg q1, ↓reduceIte]
      exact no qo
termination_by m => m
theorem ym170 (hV : pxV B L) (hT : ∀ i, i < L → h 74 i = B i) (hla : la ≤ 2862) (hP : mCon h B L key la f0 (d + 3) 171 o n P) (hpr : pxPr B L P) : mCon h B L key la f0 (d + 3 + 1) 170 o n (pxLv (pxNx B L) P pxOr) := by
  intro Q f g σ ld sd hG hσ hsz ok bad
  have h96 := hV.1
  rw [m170]
  simp only [↓r170_0, ↓r170_1, ↓r170_2, ↓r170_5, ↓r170_8, ↓r170_9f, ↓r170_9t, ↓r170_11, ↓r170_13, ↓r170_16, ↓r170_19, ↓r170_20, ↓r170_23, ↓r170_24, ↓r170_25, ↓r170_28, ↓r170_31, ↓r170_32f, ↓r170_32t, ↓r170_33, ↓r170_34, ↓r170_35, ↓r170_37, ↓r170_40, ↓r170_43, ↓r170_44f, ↓r170_44t]
  refine hP _ f g σ ld sd hG hσ hsz (fun σ1 w1 k1 f1 g1 e1 G1 W1 => ?_) (fun e f1 g1 e1 b1 => ?_)
  · simp (decide := true) only [↓r170_0, ↓r170_1, ↓r170_2, ↓r170_5, ↓r170_8, ↓r170_9f, ↓r170_9t, ↓r170_11, ↓r170_13, ↓r170_16, ↓r170_19, ↓r170_20, ↓r170_23, ↓r170_24, ↓r170_25, ↓r170_28, ↓r170_31, ↓r170_32f, ↓r170_32t, ↓r170_33, ↓r170_34, ↓r170_35, ↓r170_37, ↓r170_40, ↓r170_43, ↓r170_44f, ↓r170_44t, Option.toList, List.cons_append, List.nil_append, ↓reduceIte]
    simp only [pxLv, e1] at ok bad
    obtain ⟨c1, c2, -⟩ := (hpr σ hσ).2 _ _ _ e1
    exact ym170_lp hV hT hla hP hpr 96 σ1 w1 k1 f1 g1 (by omega) G1 c1 (by omega) W1 ok bad
  · simp (decide := true) only [↓r170_0, ↓r170_1, ↓r170_2, ↓r170_5, ↓r170_8, ↓r170_9f, ↓r170_9t, ↓r170_11, ↓r170_13, ↓r170_16, ↓r170_19, ↓r170_20, ↓r170_23, ↓r170_24, ↓r170_25, ↓r170_28, ↓r170_31, ↓r170_32f, ↓r170_32t, ↓r170_33, ↓r170_34, ↓r170_35, ↓r170_37, ↓r170_40, ↓r170_43, ↓r170_44f, ↓r170_44t, Option.toList, List.cons_append, List.nil_append, ↓reduceIte]
    simp only [pxLv, e1] at ok bad
    exact bad _ _ _ rfl b1
theorem ym172 (hV : pxV B L) (hT : ∀ i, i < L → h 74 i = B i) (hla : la ≤ 2862) (hP : mCon h B L key la f0 (d + 3) 173 o n P) (hpr : pxPr B L P) : mCon h B L key la f0 (d + 3 + 1) 172 o n (pxTs (pxNx B L) P) := by
  intro Q f g σ ld sd hG hσ hsz ok bad
  have h96 := hV.1
  rw [m172]
  simp only [↓r172_0, ↓r172_1, ↓r172_2, ↓r172_5, ↓r172_8, ↓r172_9f, ↓r172_9t, ↓r172_11, ↓r172_13, ↓r172_16, ↓r172_19, ↓r172_20, ↓r172_22, ↓r172_25, ↓r172_28, ↓r172_29, ↓r172_31, ↓r172_34, ↓r172_37, ↓r172_38, ↓r172_41, ↓r172_42, ↓r172_43, ↓r172_46, ↓r172_47, ↓r172_48, ↓r172_51, ↓r172_54, ↓r172_55f, ↓r172_55t, ↓r172_56, ↓r172_57, ↓r172_58, ↓r172_59, ↓r172_62, ↓r172_63f, ↓r172_63t]
  refine hP _ f g σ ld sd hG hσ hsz (fun σ1 w1 k1 f1 g1 e1 G1 W1 => ?_) (fun e f1 g1 e1 b1 => ?_)
  · simp (decide := true) only [↓r172_0, ↓r172_1, ↓r172_2, ↓r172_5, ↓r172_8, ↓r172_9f, ↓r172_9t, ↓r172_11, ↓r172_13, ↓r172_16, ↓r172_19, ↓r172_20, ↓r172_22, ↓r172_25, ↓r172_28, ↓r172_29, ↓r172_31, ↓r172_34, ↓r172_37, ↓r172_38, ↓r172_41, ↓r172_42, ↓r172_43, ↓r172_46, ↓r172_47, ↓r172_48, ↓r172_51, ↓r172_54, ↓r172_55f, ↓r172_55t, ↓r172_56, ↓r172_57, ↓r172_58, ↓r172_59, ↓r172_62, ↓r172_63f, ↓r172_63t, Option.toList, List.cons_append, List.nil_append, ↓reduceIte]
    simp only [pxTs, e1] at ok bad
    obtain ⟨c1, c2, -⟩ := (hpr σ hσ).2 _ _ _ e1
    have hl := G1.2.1
    have go : pxCm σ1.2.2.1 = true → zR (d + 3) 172 Q 37 [some (.ref 60), some (.int (nI key)), none] [] (hM h f1 g1) := by
      intro qo
      have hs := pxCm_s qo
      obtain ⟨n1, n2, n3⟩ := zsgn_n hs
      obtain ⟨a, b⟩ := pxNx_up hV c1 n1
      have h21 : f1 21 = σ1.2.2.1 := hl.2.2.2.2.2 n1 n2 n3
      simp only [if_pos qo] at ok bad
      simp only [↓r172_0, ↓r172_1, ↓r172_2, ↓r172_5, ↓r172_8, ↓r172_9f, ↓r172_9t, ↓r172_11, ↓r172_13, ↓r172_16, ↓r172_19, ↓r172_20, ↓r172_22, ↓r172_25, ↓r172_28, ↓r172_29, ↓r172_31, ↓r172_34, ↓r172_37, ↓r172_38, ↓r172_41, ↓r172_42, ↓r172_43, ↓r172_46, ↓r172_47, ↓r172_48, ↓r172_51, ↓r172_54, ↓r172_55f, ↓r172_55t, ↓r172_56, ↓r172_57, ↓r172_58, ↓r172_59, ↓r172_62, ↓r172_63f, ↓r172_63t, hM_60, h21]
      refine ym164 hV hT G1 c1 n1 (pxTo_s n1 n2 n3) (fun f2 G2 => ?_)
      simp only [↓r172_0, ↓r172_1, ↓r172_2, ↓r172_5, ↓r172_8, ↓r172_9f, ↓r172_9t, ↓r172_11, ↓r172_13, ↓r172_16, ↓r172_19, ↓r172_20, ↓r172_22, ↓r172_25, ↓r172_28, ↓r172_29, ↓r172_31, ↓r172_34, ↓r172_37, ↓r172_38, ↓r172_41, ↓r172_42, ↓r172_43, ↓r172_46, ↓r172_47, ↓r172_48, ↓r172_51, ↓r172_54, ↓r172_55f, ↓r172_55t, ↓r172_56, ↓r172_57, ↓r172_58, ↓r172_59, ↓r172_62, ↓r172_63f, ↓r172_63t, Option.toList, List.cons_append, List.nil_append]
      refine hP _ f2 g1 (pxNx B L σ1) (ld + w1.length) (sd + nI k1) G2 a (by omega) (fun σ2 w2 k2 f3 g3 e3 G3 W3 => ?_) (fun e f3 g3 e3 b3 => ?_)
      · obtain ⟨d1, d2, -⟩ := (hpr _ a).2 _ _ _ e3
        have d0 := d1.1
        simp only [e3] at ok bad
        simp (decide := true) only [↓r172_0, ↓r172_1, ↓r172_2, ↓r172_5, ↓r172_8, ↓r172_9f, ↓r172_9t, ↓r172_11, ↓r172_13, ↓r172_16, ↓r172_19, ↓r172_20, ↓r172_22, ↓r172_25, ↓r172_28, ↓r172_29, ↓r172_31, ↓r172_34, ↓r172_37, ↓r172_38, ↓r172_41, ↓r172_42, ↓r172_43, ↓r172_46, ↓r172_47, ↓r172_48, ↓r172_51, ↓r172_54, ↓r172_55f, ↓r172_55t, ↓r172_56, ↓r172_57, ↓r172_58, ↓r172_59, ↓r172_62, ↓r172_63f, ↓r172_63t, Option.toList, List.cons_append, List.nil_append, ↓reduceIte, ym169 G3.2.2.2.2.2.1 G3.2.2.2.2.1 (by omega : la + 2 * (ld + w1.length + w2.length) + 1 < 3062)]
        refine ok _ _ _ _ _ rfl ?_ (mWd_v (mWd_app W1 W3) (by rw [List.length_append]; omega) (Or.inr (Or.inr (Or.inr ⟨rfl, hs, rfl⟩))))
        refine mGd_eq (mGd_st G3 rfl) ?_ ?_
        · simp only [List.length_append, List.length_cons, List.length_nil]; omega
        · rw [← nI_add, Int32.add_assoc]
      · simp only [e3] at ok bad
        simp (decide := true) only [↓r172_0, ↓r172_1, ↓r172_2, ↓r172_5, ↓r172_8, ↓r172_9f, ↓r172_9t, ↓r172_11, ↓r172_13, ↓r172_16, ↓r172_19, ↓r172_20, ↓r172_22, ↓r172_25, ↓r172_28, ↓r172_29, ↓r172_31, ↓r172_34, ↓r172_37, ↓r172_38, ↓r172_41, ↓r172_42, ↓r172_43, ↓r172_46, ↓r172_47, ↓r172_48, ↓r172_51, ↓r172_54, ↓r172_55f, ↓r172_55t, ↓r172_56, ↓r172_57, ↓r172_58, ↓r172_59, ↓r172_62, ↓r172_63f, ↓r172_63t, Option.toList, List.cons_append, List.nil_append, ↓reduceIte]
        exact bad _ _ _ rfl (mBf_g b3 (mWd_lo W1))
    have no : ¬ pxCm σ1.2.2.1 = true → Q (some (.int 1)) (hM h f1 g1) := by
      intro qo
      simp only [if_neg qo] at ok
      exact ok σ1 w1 k1 f1 g1 rfl G1 W1
    rw [r172_10]
    simp (decide := true) only [↓r172_0, ↓r172_1, ↓r172_2, ↓r172_5, ↓r172_8, ↓r172_9f, ↓r172_9t, ↓r172_11, ↓r172_13, ↓r172_16, ↓r172_19, ↓r172_20, ↓r172_22, ↓r172_25, ↓r172_28, ↓r172_29, ↓r172_31, ↓r172_34, ↓r172_38, ↓r172_41, ↓r172_42, ↓r172_43, ↓r172_46, ↓r172_47, ↓r172_48, ↓r172_51, ↓r172_54, ↓r172_55f, ↓r172_55t, ↓r172_56, ↓r172_57, ↓r172_58, ↓r172_59, ↓r172_62, ↓r172_63f, ↓r172_63t, ym165, mSg hl, Option.toList, List.cons_append, List.nil_append, ↓reduceIte, not_false_eq_true]
    by_cases q1 : σ1.2.2.1 = 60
    · have qo : pxCm σ1.2.2.1 = true := by simp [pxCm, q1]
      simp (decide := true) only [if_pos q1, ↓reduceIte]
      exact go qo
    · by_cases q2 : σ1.2.2.1 = 61
      · have qo : pxCm σ1.2.2.1 = true := by simp [pxCm, q2]
        simp (decide := true) only [if_neg q1, if_pos q2, ↓reduceIte]
        exact go qo
      · by_cases q3 : σ1.2.2.1 = 62
        · have qo : pxCm σ1.2.2.1 = true := by simp [pxCm, q3]
          simp (decide := true) only [if_neg q1, if_neg q2, if_pos q3, ↓reduceIte]
          exact go qo
        · have qo : ¬ pxCm σ1.2.2.1 = true := by simp [pxCm, q1, q2, q3]
          simp (decide := true) only [if_neg q1, if_neg q2, if_neg q3, ↓reduceIte]
          exact no qo
  · simp (decide := true) only [↓r172_0, ↓r172_1, ↓r172_2, ↓r172_5, ↓r172_8, ↓r172_9f, ↓r172_9t, ↓r172_11, ↓r172_13, ↓r172_16, ↓r172_19, ↓r172_20, ↓r172_22, ↓r172_25, ↓r172_28, ↓r172_29, ↓r172_31, ↓r172_34, ↓r172_37, ↓r172_38, ↓r172_41, ↓r172_42, ↓r172_43, ↓r172_46, ↓r172_47, ↓r172_48, ↓r172_51, ↓r172_54, ↓r172_55f, ↓r172_55t, ↓r172_56, ↓r172_57, ↓r172_58, ↓r172_59, ↓r172_62, ↓r172_63f, ↓r172_63t, Option.toList, List.cons_append, List.nil_append, ↓reduceIte]
    simp only [pxTs, e1] at ok bad
    exact bad _ _ _ rfl b1
theorem ym170E (hV : pxV B L) (hT : ∀ i, i < L → h 74 i = B i) (hla : la ≤ 2862) (hP : mCon h B L key la f0 (d + 3) 175 o n P) (hpr : pxPr B L P) : mCon h B L key la f0 (d + 8) 170 o n (pxE (pxNx B L) P) :=
  have p1 := pxLv_pr hV hpr (fun _ => pxMu_s)
  have p2 := pxLv_pr hV p1 (fun _ => pxPl_s)
  have p3 := pxTs_pr hV p2
  have p4 := pxLv_pr hV p3 (fun _ => pxAn_s)
  ym170 hV hT hla (ym171 hV hT hla (ym172 hV hT hla (ym173 hV hT hla (ym174 hV hT hla hP hpr) p1) p2) p3) p4
end
