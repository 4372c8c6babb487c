/-! what is only thought: allOver, slanted -/
def kDif (v t : Int32) : Int32 := if v < t then t - v else v - t
def dfF (τ : zTau) (n : Nat) (s F : Nat → Int32) (k : Nat) (a : Int32) : Int32 := if F k = -2147483648 then a else a + kDif (F k) (stepN τ (-1) n k s 3)
def dfV (τ : zTau) (n z : Nat) (s F : Nat → Int32) (i : Nat) : Int32 := zfo (dfF τ n (upd s 7 (nI i)) F) z 0
section
variable {d : Nat} {x0 x1 x2 x3 x4 v x a u : Int32} {h h' h1 h2 : zH} {n m N n' m' k w j f b c t i z : Nat} {s row row' F : Nat → Int32} {Q : Option Value → zH → Prop} {τ : zTau}
theorem th_step (hV : zV h1 26 s) (hT : zTC h1 26 τ) (h14 : h1 26 14 = -1) (hB : zB s n m) (e : td h h1) (hQ : ∀ h2, td h h2 → zV h2 26 (stepM τ (-1) n s) → zTC h2 26 τ → h2 26 14 = -1 → Q none h2) : zM (d + 6) 54 [.ref 26] h1 Q := by
  refine c54 zst26 hV hB hT fun h2 e2 hV2 => ?_
  rw [h14] at hV2
  exact hQ h2 (td_tr e (td_sq e2)) hV2 (zTC_sq zst26 e2 hT) (e2.2.trans h14)
theorem sNot_c (hV : zV h1 26 s) (h10 : n ≤ 10) : zany (fun i => decide (h1 (26 + 5) i = 0)) n = sNot s n := zany_cong fun i hi => by
  rw [(hV.2.2 i (by omega)).2.2.2.2]
theorem c77_loop {P : Nat → Bool} (hB : zB s n m) (hm : m ≤ 9999) (hP : ∀ i, P i = !(sNot (stepN τ (-1) n i s) n)) : ∀ (f i : Nat) (h1 : zH), i + f = 101 → td h h1 → zV h1 26 (stepN τ (-1) n i s) → zTC h1 26 τ → h1 26 14 = -1 → (∀ h2, td h h2 → Q (some (.int (if hiR P f i < 0 then -1000000005 else hiR P f i))) h2) → zR (d + 7) 77 Q 13 [some (.ref 0), some (.int (nI i))] [] h1 := by
  have h10 := hB.1.2
  intro f
  induction f with
  | zero =>
    intro i h1 hi e hV hT h14 hQ
    have hi' : i = 101 := by omega
    subst hi'
    rw [r77_13]
    simp (decide := true) only [↓r77_0, ↓r77_1, ↓r77_4, ↓r77_5, ↓r77_8, ↓r77_11, ↓r77_12, ↓r77_14, ↓r77_16, ↓r77_19, ↓r77_20, ↓r77_23, ↓r77_26, ↓r77_29, ↓r77_30, ↓r77_31, ↓r77_32, ↓r77_35, ↓r77_38, ↓r77_41, ↓r77_44, ↓r77_46, ↓reduceIte]
    exact hQ h1 e
  | succ f ih =>
    intro i h1 hi e hV hT h14 hQ
    have q : nI i ≤ 100 := nI_le (b := 100) (by omega) (by omega)
    have hB' := zB_stepN (τ := τ) (u := -1) hB i (by omega)
    have ho : ∀ l, l < n → 0 ≤ h1 (26 + 5) l := by
      intro l hl
      rw [(hV.2.2 l (by omega)).2.2.2.2]
      obtain ⟨o, ho1, ho2⟩ := (hB'.2.1 l hl).2.2.2
      rw [ho2]
      exact nI_pos' (by omega)
    have c42' := fun (Q' : Option Value → zH → Prop) => c42 (d := d + 6) (Q := Q') zst26 (hV.1.1.trans hB'.1.1) h10 ho
    rw [sNot_c hV h10] at c42'
    rw [r77_13]
    simp only [↓r77_0, ↓r77_1, ↓r77_4, ↓r77_5, ↓r77_8, ↓r77_11, ↓r77_12, ↓r77_14, ↓r77_16, ↓r77_19, ↓r77_20, ↓r77_23, ↓r77_26, ↓r77_29, ↓r77_30, ↓r77_31, ↓r77_32, ↓r77_35, ↓r77_38, ↓r77_41, ↓r77_44, ↓r77_46, if_pos q, zc_10, zc_18, zc_26, zc_0, zc_1, zc_7, zc_60, Nat.reduceAdd, true_and, c42', Option.toList, List.cons_append, List.nil_append]
    by_cases g : sNot (stepN τ (-1) n i s) n = true
    · have hp : ¬ P i = true := by rw [hP, g]; decide
      simp (decide := true) only [if_pos g, ↓reduceIte]
      refine th_step hV hT h14 hB' e fun h2 e2 hV2 hT2 h142 => ?_
      simp only [↓r77_0, ↓r77_1, ↓r77_4, ↓r77_5, ↓r77_8, ↓r77_11, ↓r77_12, ↓r77_14, ↓r77_16, ↓r77_19, ↓r77_20, ↓r77_23, ↓r77_26, ↓r77_29, ↓r77_30, ↓r77_31, ↓r77_32, ↓r77_35, ↓r77_38, ↓r77_41, ↓r77_44, ↓r77_46, Option.toList, List.cons_append, List.nil_append, nI_1]
      refine ih (i + 1) h2 (by omega) e2 hV2 hT2 h142 fun h3 e3 => ?_
      have hQ' := hQ h3 e3
      simp only [hiR, if_neg hp] at hQ'
      exact hQ'
    · have hp : P i = true := by
        rw [hP]
        cases hh : sNot (stepN τ (-1) n i s) n
        · rfl
        · exact absurd hh g
      simp (decide := true) only [if_neg g, ↓reduceIte]
      have hQ' := hQ h1 e
      simp only [hiR, if_pos hp, if_neg (nI_pos (by omega : i < 2 ^ 31))] at hQ'
      exact hQ'
theorem c158_loop {P : Nat → Bool} (hT : zTR (h 61) τ) (hu : h 60 12 = -1) (hB : zB (h 61) n m) (hm : m ≤ 9999) (hP : ∀ i, P i = !(sNot (stepN τ (-1) n i (h 61)) n)) : ∀ (f i : Nat) (h1 : zH), i + f = 101 → rd h h1 → h1 61 = stepN τ (-1) n i (h 61) → (∀ k, k < 62 → h1 73 k = h 61 k) → (∀ h2, rl h h2 → Q (some (.int (if hiR P f i < 0 then -1000000005 else hiR P f i))) h2) → zR (d + 7) 158 Q 8 [some (.ref 60), some (.int (-1)), some (.int (nI i))] [] h1 := by
  have h10 := hB.1.2
  intro f
  induction f with
  | zero =>
    intro i h1 hi e e61 e73 hQ
    have hi' : i = 101 := by omega
    subst hi'
    rw [r158_8]
    simp (decide := true) only [↓r158_0, ↓r158_1, ↓r158_4, ↓r158_5, ↓r158_6, ↓r158_7, ↓r158_9, ↓r158_11, ↓r158_14, ↓r158_15, ↓r158_18, ↓r158_19, ↓r158_22, ↓r158_25, ↓r158_26, ↓r158_29, ↓r158_30, ↓r158_31, ↓r158_32, ↓r158_35, ↓r158_38, ↓r158_41, ↓r158_42, ↓r158_45, ↓r158_46, ↓r158_49, ↓reduceIte]
    refine c151 ?_
    simp (decide := true) only [↓r158_0, ↓r158_1, ↓r158_4, ↓r158_5, ↓r158_6, ↓r158_7, ↓r158_9, ↓r158_11, ↓r158_14, ↓r158_15, ↓r158_18, ↓r158_19, ↓r158_22, ↓r158_25, ↓r158_26, ↓r158_29, ↓r158_30, ↓r158_31, ↓r158_32, ↓r158_35, ↓r158_38, ↓r158_41, ↓r158_42, ↓r158_45, ↓r158_46, ↓r158_49, c107, ↓reduceIte, Option.toList, List.cons_append, List.nil_append]
    exact hQ _ ⟨fun c x y z w => (zhr_ne _ _ x).trans (e c x y z w), by rw [zhr_same]; exact lay_eq (fun k hk => by rw [e61, stepN_keep h10 (by omega)]) (h1 73) e73, fun k hk => by rw [zhr_ne _ _ (by omega)]; exact e73 k hk⟩
  | succ f ih =>
    intro i h1 hi e e61 e73 hQ
    have q : nI i ≤ 100 := nI_le (b := 100) (by omega) (by omega)
    have hB' := zB_stepN (τ := τ) (u := -1) hB i (by omega)
    have hBh : zB (h1 61) n (m + i) := by rw [e61]; exact hB'
    have c157' := fun (Q' : Option Value → zH → Prop) => c157 (d := d + 5) (h := h1) (Q := Q') hBh.1.1 h10
    rw [e61] at c157'
    rw [r158_8]
    simp (decide := true) only [↓r158_0, ↓r158_1, ↓r158_4, ↓r158_5, ↓r158_6, ↓r158_7, ↓r158_9, ↓r158_11, ↓r158_14, ↓r158_15, ↓r158_18, ↓r158_19, ↓r158_22, ↓r158_25, ↓r158_26, ↓r158_29, ↓r158_30, ↓r158_31, ↓r158_32, ↓r158_35, ↓r158_38, ↓r158_41, ↓r158_42, ↓r158_45, ↓r158_46, ↓r158_49, if_pos q, ↓reduceIte, c157', Option.toList, List.cons_append, List.nil_append]
    have e60 : h1 60 = h 60 := e _ (by omega) (by omega) (by omega) (by omega)
    have go : ∀ (x : Int32), (∀ h2, rd h h2 → h2 61 = stepN τ (-1) n (i + 1) (h 61) → (∀ k, k < 62 → h2 73 k = h 61 k) → zR (d + 7) 158 Q 8 [some (.ref 60), some (.int x), some (.int (nI (i + 1)))] [] h2) → zM (d + 7) 144 [.ref 60] h1 (fun r h' => zR (d + 7) 158 Q 35 [some (.ref 60), some (.int x), some (.int (nI i))] (r.toList ++ []) h') := by
      intro x hx
      refine c144 (n := n) (τ := τ) hBh.1.1 h10 (by rw [e61]; exact zTR_cong (stepN_keep h10 (Or.inr (Or.inl rfl)) i) (fun k hk => stepN_keep h10 (by omega) i) hT) hBh.2.2.2.1.1 hBh.2.2.2.1.2 hBh.2.2.2.2.1.1 hBh.2.2.2.2.1.2 (fun h2 e2 e2b => ?_)
      simp only [↓r158_0, ↓r158_1, ↓r158_4, ↓r158_5, ↓r158_6, ↓r158_7, ↓r158_9, ↓r158_11, ↓r158_14, ↓r158_15, ↓r158_18, ↓r158_19, ↓r158_22, ↓r158_25, ↓r158_26, ↓r158_29, ↓r158_30, ↓r158_31, ↓r158_32, ↓r158_35, ↓r158_38, ↓r158_41, ↓r158_42, ↓r158_45, ↓r158_46, ↓r158_49, Option.toList, List.cons_append, List.nil_append, nI_1]
      rw [e61, e60, hu] at e2b
      exact hx h2 (fun c x y z w => (e2 c x z w).trans (e c x y z w)) e2b (fun k hk => by rw [e2 73 (by omega) (by omega) (by omega)]; exact e73 k hk)
    by_cases g : sNot (stepN τ (-1) n i (h 61)) n = true
    · have hp : ¬ P i = true := by rw [hP, g]; decide
      simp (decide := true) only [if_pos g, ↓reduceIte, nI_1]
      have := go (-1) (fun h2 e2 e2b e2c => ih (i + 1) h2 (by omega) e2 e2b e2c (fun h3 e3 => by
        have hQ' := hQ h3 e3
        simp only [hiR, if_neg hp] at hQ'
        exact hQ'))
      simp only [↓r158_0, ↓r158_1, ↓r158_4, ↓r158_5, ↓r158_6, ↓r158_7, ↓r158_9, ↓r158_11, ↓r158_14, ↓r158_15, ↓r158_18, ↓r158_19, ↓r158_22, ↓r158_25, ↓r158_26, ↓r158_29, ↓r158_30, ↓r158_31, ↓r158_32, ↓r158_35, ↓r158_38, ↓r158_41, ↓r158_42, ↓r158_45, ↓r158_46, ↓r158_49, Option.toList, List.cons_append, List.nil_append, nI_1] at this
      exact this
    · have hp : P i = true := by
        rw [hP]
        cases hh : sNot (stepN τ (-1) n i (h 61)) n
        · rfl
        · exact absurd hh g
      simp (decide := true) only [if_neg g, ↓reduceIte, nI_1]
      have := go (nI i) (fun h2 e2 e2b e2c => by
        have hend : zR (d + 7) 158 Q 41 [some (.ref 60), some (.int (nI i)), some (.int (nI (i + 1)))] [] h2 := by
          simp (decide := true) only [↓r158_0, ↓r158_1, ↓r158_4, ↓r158_5, ↓r158_6, ↓r158_7, ↓r158_9, ↓r158_11, ↓r158_14, ↓r158_15, ↓r158_18, ↓r158_19, ↓r158_22, ↓r158_25, ↓r158_26, ↓r158_29, ↓r158_30, ↓r158_31, ↓r158_32, ↓r158_35, ↓r158_38, ↓r158_41, ↓r158_42, ↓r158_45, ↓r158_46, ↓r158_49, ↓reduceIte, Option.toList, List.cons_append, List.nil_append]
          refine c151 ?_
          simp (decide := true) only [↓r158_0, ↓r158_1, ↓r158_4, ↓r158_5, ↓r158_6, ↓r158_7, ↓r158_9, ↓r158_11, ↓r158_14, ↓r158_15, ↓r158_18, ↓r158_19, ↓r158_22, ↓r158_25, ↓r158_26, ↓r158_29, ↓r158_30, ↓r158_31, ↓r158_32, ↓r158_35, ↓r158_38, ↓r158_41, ↓r158_42, ↓r158_45, ↓r158_46, ↓r158_49, c107, if_neg (nI_pos (by omega : i < 2 ^ 31)), ↓reduceIte, Option.toList, List.cons_append, List.nil_append]
          have hQ' := hQ (zhr h2 61 (fun k => if k < 62 then h2 73 k else h2 61 k)) ⟨fun c x y z w => (zhr_ne _ _ x).trans (e2 c x y z w), by rw [zhr_same]; exact lay_eq (fun k hk => by rw [e2b, stepN_keep h10 (by omega)]) (h2 73) e2c, fun k hk => by rw [zhr_ne _ _ (by omega)]; exact e2c k hk⟩
          simp only [hiR, if_pos hp, if_neg (nI_pos (by omega : i < 2 ^ 31))] at hQ'
          exact hQ'
        rw [r158_8]
        simp only [↓r158_0, ↓r158_1, ↓r158_4, ↓r158_5, ↓r158_6, ↓r158_7, ↓r158_9, ↓r158_11, ↓r158_14, ↓r158_15, ↓r158_18, ↓r158_19, ↓r158_22, ↓r158_25, ↓r158_26, ↓r158_29, ↓r158_30, ↓r158_31, ↓r158_32, ↓r158_35, ↓r158_38, ↓r158_42, ↓r158_45, ↓r158_46, ↓r158_49]
        by_cases g2 : nI (i + 1) ≤ 100
        · rw [if_pos g2, if_neg (nI_pos (by omega : i < 2 ^ 31))]
          exact hend
        · rw [if_neg g2]
          exact hend)
      simp only [↓r158_0, ↓r158_1, ↓r158_4, ↓r158_5, ↓r158_6, ↓r158_7, ↓r158_9, ↓r158_11, ↓r158_14, ↓r158_15, ↓r158_18, ↓r158_19, ↓r158_22, ↓r158_25, ↓r158_26, ↓r158_29, ↓r158_30, ↓r158_31, ↓r158_32, ↓r158_35, ↓r158_38, ↓r158_41, ↓r158_42, ↓r158_45, ↓r158_46, ↓r158_49, Option.toList, List.cons_append, List.nil_append, nI_1] at this
      exact this
theorem p_allOver : zPair (d + 20) (d + 20) 77 158 [] := by
  intro h Q2 hR hQ
  obtain ⟨n, m, N, hRN⟩ := hR
  obtain ⟨⟨hSt, hm⟩, hu, -⟩ := id hRN
  obtain ⟨hTC, hTR⟩ := zSt_tau hSt
  have hP : ∀ i, (fun i => !(sNot (stepN (zTauOf h 10) (-1) n i (h 61)) n)) i = !(sNot (stepN (zTauOf h 10) (-1) n i (h 61)) n) := fun _ => rfl
  rw [m77]
  simp only [↓r77_0, ↓r77_1, ↓r77_4, ↓r77_5, ↓r77_8, ↓r77_11, ↓r77_12, ↓r77_14, ↓r77_16, ↓r77_19, ↓r77_20, ↓r77_23, ↓r77_26, ↓r77_29, ↓r77_30, ↓r77_31, ↓r77_32, ↓r77_35, ↓r77_38, ↓r77_41, ↓r77_44, ↓r77_46, zc_10, zc_18, zc_26, zc_0, zc_1, zc_7, zc_60, Nat.reduceAdd, true_and, Option.toList, List.cons_append, List.nil_append]
  refine th_become hSt.1 hTC hSt.2.2.2.2.2 (Or.inl rfl) td_rf fun h1 e1 hV1 hT1 h14 => ?_
  simp only [↓r77_0, ↓r77_1, ↓r77_4, ↓r77_5, ↓r77_8, ↓r77_11, ↓r77_12, ↓r77_14, ↓r77_16, ↓r77_19, ↓r77_20, ↓r77_23, ↓r77_26, ↓r77_29, ↓r77_30, ↓r77_31, ↓r77_32, ↓r77_35, ↓r77_38, ↓r77_41, ↓r77_44, ↓r77_46, zc_10, zc_18, zc_26, zc_0, zc_1, zc_7, zc_60, Nat.reduceAdd, true_and, Option.toList, List.cons_append, List.nil_append]
  rw [← nI_0]
  refine c77_loop (d := d + 12) (h := h) (m := m) hSt.2.1 hm hP 101 0 h1 (by omega) e1 hV1 hT1 h14 fun h2 e2 => ?_
  refine zPo_in (e2 _ (by omega) (by omega)) (e2 _ (by omega) (by omega)) ?_
  have e61 : h2 61 = h 61 := e2 _ (by omega) (by omega)
  have e60 : h2 60 = h 60 := e2 _ (by omega) (by omega)
  rw [m158]
  simp only [↓r158_0, ↓r158_1, ↓r158_4, ↓r158_5, ↓r158_6, ↓r158_7, ↓r158_9, ↓r158_11, ↓r158_14, ↓r158_15, ↓r158_18, ↓r158_19, ↓r158_22, ↓r158_25, ↓r158_26, ↓r158_29, ↓r158_30, ↓r158_31, ↓r158_32, ↓r158_35, ↓r158_38, ↓r158_41, ↓r158_42, ↓r158_45, ↓r158_46, ↓r158_49, Option.toList, List.cons_append, List.nil_append]
  refine c150 ?_
  simp only [↓r158_0, ↓r158_1, ↓r158_4, ↓r158_5, ↓r158_6, ↓r158_7, ↓r158_9, ↓r158_11, ↓r158_14, ↓r158_15, ↓r158_18, ↓r158_19, ↓r158_22, ↓r158_25, ↓r158_26, ↓r158_29, ↓r158_30, ↓r158_31, ↓r158_32, ↓r158_35, ↓r158_38, ↓r158_41, ↓r158_42, ↓r158_45, ↓r158_46, ↓r158_49, Option.toList, List.cons_append, List.nil_append]
  rw [← nI_0]
  refine c158_loop (d := d + 12) (h := h2) (τ := zTauOf h 10) (n := n) (m := m) (zTR_same e61 hTR) (by rw [e60]; exact hu) (by rw [e61]; exact hSt.2.1) hm (by rw [e61]; exact hP) 101 0 _ (by omega) (fun c x y z w => zhr_ne _ _ y) (zhr_ne _ _ (by omega)) (fun k hk => by rw [zhr_same]; exact if_pos hk) fun h3 e3 => ?_
  exact zPq_in rfl (hQ _ _ ⟨n, m, N, zRel_rl hRN e2 e3⟩ ((e3.1 _ (by omega) (by omega) (by omega) (by omega)).trans (e2 _ (by omega) (by omega))) ((e3.1 _ (by omega) (by omega) (by omega) (by omega)).trans (e2 _ (by omega) (by omega))))
theorem kDif_abs (g1 : -99999 ≤ v) (g2 : v ≤ 99999) {t : Nat} (ht : t ≤ 1800000) : (if 0 ≤ nI t - v then nI t - v else 0 - (nI t - v)) = kDif v (nI t) := by
  have e1 : (nI t).toInt = t := nI_toInt (by omega)
  rw [Int32.le_iff_toInt_le] at g1 g2
  have k1 : (-99999 : Int32).toInt = -99999 := by decide
  have k2 : (99999 : Int32).toInt = 99999 := by decide
  rw [k1] at g1
  rw [k2] at g2
  have e2 : (nI t - v).toInt = t - v.toInt := by
    rw [Int32.toInt_sub, e1]
    exact Int.bmod_eq_of_le (by omega) (by omega)
  unfold kDif
  by_cases g : v < nI t
  · have : 0 ≤ nI t - v := by
      rw [Int32.lt_iff_toInt_lt, e1] at g
      rw [Int32.le_iff_toInt_le, e2]
      show (0 : Int32).toInt ≤ _
      have : (0 : Int32).toInt = 0 := by decide
      omega
    rw [if_pos g, if_pos this]
  · rw [if_neg g]
    rw [Int32.lt_iff_toInt_lt, e1] at g
    by_cases g0 : 0 ≤ nI t - v
    · rw [if_pos g0]
      rw [Int32.le_iff_toInt_le, e2] at g0
      have k0 : (0 : Int32).toInt = 0 := by decide
      rw [k0] at g0
      have : v = nI t := Int32.toInt_inj.mp (by rw [e1]; omega)
      rw [this]
    · rw [if_neg g0]
      grind
theorem c79 (hc : zsh c) (hco : c ≤ 25 ∨ 34 ≤ c) (hc6 : c ≠ 6 ∧ c + 1 ≠ 6 ∧ (c + 1 ≤ 25 ∨ 34 ≤ c + 1)) (hV : zV h 10 s) (hT : zTC h 10 τ) (h14 : h 10 14 = -1) (hB : zB s n m) (hm : m ≤ 9999) (hz : h c 1 = nI z) (hz24 : z ≤ 24) (hF : ∀ k, k < z → F k = h (c + 1) k ∧ (¬ F k = -2147483648 → -99999 ≤ F k ∧ F k ≤ 99999)) {sl : Nat} (hsl : sl ≤ 60) (e0 : td h h1) (hQ : ∀ h2, td h h2 → Q (some (.int (dfV τ n z s F sl))) h2) : zM (d + 8) 79 [.ref 0, .ref c, .int (nI sl)] h1 Q := by
  rw [m79]
  simp only [↓r79_0, ↓r79_1, ↓r79_2, ↓r79_3, ↓r79_6, ↓r79_7, ↓r79_10, ↓r79_13, ↓r79_14, ↓r79_17, ↓r79_20, ↓r79_21, ↓r79_22, ↓r79_23, ↓r79_24, ↓r79_28, ↓r79_29, ↓r79_32, ↓r79_35, ↓r79_36, ↓r79_38, ↓r79_41, ↓r79_44, ↓r79_45, ↓r79_46, ↓r79_49, ↓r79_52, ↓r79_53, ↓r79_56, ↓r79_58, ↓r79_59, ↓r79_60, ↓r79_63, ↓r79_64, ↓r79_65, ↓r79_66, ↓r79_69, ↓r79_72, ↓r79_75, ↓r79_78, ↓r79_79, zc_10, zc_18, zc_26, zc_0, zc_1, zc_7, zc_60, Nat.reduceAdd, true_and, Option.toList, List.cons_append, List.nil_append]
  refine th_become hV hT h14 (Or.inl rfl) e0 fun h2 e2 hV2 hT2 h142 => ?_
  simp only [↓r79_0, ↓r79_1, ↓r79_2, ↓r79_3, ↓r79_6, ↓r79_7, ↓r79_10, ↓r79_13, ↓r79_14, ↓r79_17, ↓r79_20, ↓r79_21, ↓r79_22, ↓r79_23, ↓r79_24, ↓r79_28, ↓r79_29, ↓r79_32, ↓r79_35, ↓r79_36, ↓r79_38, ↓r79_41, ↓r79_44, ↓r79_45, ↓r79_46, ↓r79_49, ↓r79_52, ↓r79_53, ↓r79_56, ↓r79_58, ↓r79_59, ↓r79_60, ↓r79_63, ↓r79_64, ↓r79_65, ↓r79_66, ↓r79_69, ↓r79_72, ↓r79_75, ↓r79_78, ↓r79_79, zc_10, zc_18, zc_26, zc_0, zc_1, zc_7, zc_60, Nat.reduceAdd, true_and, zs_32, zoks, zixs, Option.toList, List.cons_append, List.nil_append]
  have hV3 : zV (zhr h2 32 (upd (h2 32) 1 (nI sl))) 26 (upd s 7 (nI sl)) := zV_rule (j := 1) (by omega) hV2
  have hB3 : zB (upd s 7 (nI sl)) n m := zB_rule (j := 1) hB (Or.inr (Or.inl ⟨rfl, nI_pos' (by omega), nI_le (b := 90) (by omega) (by omega)⟩))
  have main : ∀ (g i : Nat) (h1 : zH), i + g = z → td h h1 → zV h1 26 (stepN τ (-1) n i (upd s 7 (nI sl))) → zTC h1 26 τ → h1 26 14 = -1 → zR (d + 7) 79 Q 26 [some (.ref 0), some (.ref c), some (.int (nI sl)), some (.int (zfo (dfF τ n (upd s 7 (nI sl)) F) i 0)), some (.int (nI i))] [] h1 := by
    intro g
    induction g with
    | zero =>
      intro i h1 hi e hV hT h14
      have hi' : i = z := by omega
      subst hi'
      have hz1 : h1 c 1 = nI i := by rw [e c (by omega) hc6.1]; exact hz
      rw [r79_26]
      simp only [↓r79_0, ↓r79_1, ↓r79_2, ↓r79_3, ↓r79_6, ↓r79_7, ↓r79_10, ↓r79_13, ↓r79_14, ↓r79_17, ↓r79_20, ↓r79_21, ↓r79_22, ↓r79_23, ↓r79_24, ↓r79_28, ↓r79_29, ↓r79_32, ↓r79_35, ↓r79_36, ↓r79_38, ↓r79_41, ↓r79_44, ↓r79_45, ↓r79_46, ↓r79_49, ↓r79_52, ↓r79_53, ↓r79_56, ↓r79_58, ↓r79_59, ↓r79_60, ↓r79_63, ↓r79_64, ↓r79_65, ↓r79_66, ↓r79_69, ↓r79_72, ↓r79_75, ↓r79_78, ↓r79_79, zc_h hc, true_and, hz1, nI_nlt (Nat.le_refl i) (by omega), if_false]
      exact hQ h1 e
    | succ g ih =>
      intro i h1 hi e hV hT h14
      have g2 : i < z := by omega
      have hB' := zB_stepN (τ := τ) (u := -1) hB3 i (by omega)
      have hz1 : h1 c 1 = nI z := by rw [e c (by omega) hc6.1]; exact hz
      have hc1 : h1 (c + 1) i = F i := by rw [e (c + 1) (by omega) hc6.2.1]; exact (hF i g2).1.symm
      have v8 : h1 26 8 = stepN τ (-1) n i (upd s 7 (nI sl)) 3 := hV.1.2.2.2.1
      obtain ⟨t, ht1, ht2⟩ := hB'.2.2.2.2.2.2
      rw [ht2] at v8
      rw [r79_26]
      have c35' := fun (Q' : Option Value → zH → Prop) => c35k (d := d + 4) (h := h1) (Q := Q') hc hz1 hz24 g2
      simp only [↓r79_0, ↓r79_1, ↓r79_2, ↓r79_3, ↓r79_6, ↓r79_7, ↓r79_10, ↓r79_13, ↓r79_14, ↓r79_17, ↓r79_20, ↓r79_21, ↓r79_22, ↓r79_23, ↓r79_24, ↓r79_28, ↓r79_29, ↓r79_32, ↓r79_35, ↓r79_36, ↓r79_38, ↓r79_41, ↓r79_44, ↓r79_45, ↓r79_46, ↓r79_49, ↓r79_52, ↓r79_53, ↓r79_56, ↓r79_58, ↓r79_59, ↓r79_60, ↓r79_63, ↓r79_64, ↓r79_65, ↓r79_66, ↓r79_69, ↓r79_72, ↓r79_75, ↓r79_78, ↓r79_79, zc_h hc, true_and, hz1, nI_lt g2 (by omega), if_true, c35', hc1, zl_h hc, zok_nI (by omega : i < 24) (by omega), zix_nI (by omega : i < 2 ^ 31), m1002, v8, zc_10, zc_18, zc_26, zc_0, zc_1, zc_7, zc_60, Nat.reduceAdd, true_and, Option.toList, List.cons_append, List.nil_append, nI_1]
      have es : zfo (dfF τ n (upd s 7 (nI sl)) F) (i + 1) 0 = dfF τ n (upd s 7 (nI sl)) F i (zfo (dfF τ n (upd s 7 (nI sl)) F) i 0) := rfl
      have go : ∀ o3 : Int32, o3 = zfo (dfF τ n (upd s 7 (nI sl)) F) (i + 1) 0 → zM (d + 7) 54 [.ref 26] h1 (fun r h' => zR (d + 7) 79 Q 26 [some (.ref 0), some (.ref c), some (.int (nI sl)), some (.int o3), some (.int (nI (i + 1)))] (r.toList ++ []) h') := by
        intro o3 ho3
        rw [ho3]
        refine th_step hV hT h14 hB' e fun h2 e2 hV2 hT2 h142 => ?_
        exact ih (i + 1) h2 (by omega) e2 hV2 hT2 h142
      by_cases g3 : F i = -2147483648
      · simp (decide := true) only [if_pos g3, ↓reduceIte]
        refine go _ ?_
        rw [es]
        unfold dfF
        rw [if_pos g3]
      · simp (decide := true) only [if_neg g3, ↓reduceIte]
        obtain ⟨b1, b2⟩ := (hF i g2).2 g3
        rw [kDif_abs b1 b2 (by omega)]
        refine go _ ?_
        rw [es, ← ht2]
        generalize zfo (dfF τ n (upd s 7 (nI sl)) F) i 0 = y
        unfold dfF
        rw [if_neg g3]
  rw [← nI_0]
  exact main z 0 _ (by omega) (td_tr e2 (fun c x y => zhr_ne _ _ (by omega))) hV3 (zTC_o (by rw [zhr_ne _ _ (by omega)]) (by rw [zhr_ne _ _ (by omega)]) (by rw [zhr_ne _ _ (by omega)]) hT2) (by rw [zhr_ne _ _ (by omega)]; exact h142)
theorem c78_loop {k1 : Int32} (hc : zsh c) (hco : c ≤ 25 ∨ 34 ≤ c) (hc6 : c ≠ 6 ∧ c + 1 ≠ 6 ∧ (c + 1 ≤ 25 ∨ 34 ≤ c + 1)) (hV : zV h 10 s) (hT : zTC h 10 τ) (h14 : h 10 14 = -1) (hB : zB s n m) (hm : m ≤ 9999) (hz : h c 1 = nI z) (hz24 : z ≤ 24) (hF : ∀ k, k < z → F k = h (c + 1) k ∧ (¬ F k = -2147483648 → -99999 ≤ F k ∧ F k ≤ 99999)) (hQ : ∀ h1 o7, td h h1 → zR (d + 9) 78 Q 83 [some (.ref 0), some (.int k1), some (.int x1), some (.ref c), some (.int (zfo (pkC lessB (dfV τ n z s F)) 61 (0, 0)).1), some (.int (zfo (pkC lessB (dfV τ n z s F)) 61 (0, 0)).2), some (.int (nI 61)), o7] [] h1) : ∀ (g i : Nat) (h1 : zH) (o7 : Option Value), i + g = 61 → td h h1 → zR (d + 9) 78 Q 41 [some (.ref 0), some (.int k1), some (.int x1), some (.ref c), some (.int (zfo (pkC lessB (dfV τ n z s F)) i (0, 0)).1), some (.int (zfo (pkC lessB (dfV τ n z s F)) i (0, 0)).2), some (.int (nI i)), o7] [] h1 := by
  intro g
  induction g with
  | zero =>
    intro i h1 o7 hi e
    have hi' : i = 61 := by omega
    subst hi'
    rw [r78_41]
    simp (decide := true) only [↓r78_0, ↓r78_1, ↓r78_2, ↓r78_5, ↓r78_5n, ↓r78_6, ↓r78_6n, ↓r78_7, ↓r78_7n, ↓r78_10, ↓r78_11, ↓r78_12, ↓r78_13, ↓r78_16, ↓r78_19, ↓r78_21, ↓r78_22, ↓r78_22n, ↓r78_23, ↓r78_26, ↓r78_29, ↓r78_31, ↓r78_32, ↓r78_33, ↓r78_35, ↓r78_36, ↓r78_38, ↓r78_39, ↓r78_43, ↓r78_45, ↓r78_48, ↓r78_49, ↓r78_49n, ↓r78_50, ↓r78_52, ↓r78_55, ↓r78_57, ↓r78_59, ↓r78_62, ↓r78_64, ↓r78_66, ↓r78_69, ↓r78_71, ↓r78_73, ↓r78_75, ↓r78_77, ↓r78_80, ↓r78_84, ↓r78_87, ↓r78_89, ↓r78_92, ↓r78_94, ↓reduceIte]
    exact hQ h1 o7 e
  | succ g ih =>
    intro i h1 o7 hi e
    have q : nI i ≤ 60 := nI_le (b := 60) (by omega) (by omega)
    rw [r78_41]
    simp only [↓r78_0, ↓r78_1, ↓r78_2, ↓r78_5, ↓r78_5n, ↓r78_6, ↓r78_6n, ↓r78_7, ↓r78_7n, ↓r78_10, ↓r78_11, ↓r78_12, ↓r78_13, ↓r78_16, ↓r78_19, ↓r78_21, ↓r78_22, ↓r78_22n, ↓r78_23, ↓r78_26, ↓r78_29, ↓r78_31, ↓r78_32, ↓r78_33, ↓r78_35, ↓r78_36, ↓r78_38, ↓r78_39, ↓r78_43, ↓r78_45, ↓r78_48, ↓r78_49, ↓r78_49n, ↓r78_50, ↓r78_52, ↓r78_55, ↓r78_57, ↓r78_59, ↓r78_62, ↓r78_64, ↓r78_66, ↓r78_69, ↓r78_71, ↓r78_73, ↓r78_75, ↓r78_77, ↓r78_80, ↓r78_84, ↓r78_87, ↓r78_89, ↓r78_92, ↓r78_94, if_pos q, zc_10, zc_18, zc_26, zc_0, zc_1, zc_7, zc_60, Nat.reduceAdd, true_and, Option.toList, List.cons_append, List.nil_append]
    refine c79 (d := d + 1) hc hco hc6 hV hT h14 hB hm hz hz24 hF (by omega : i ≤ 60) e fun h4 e4 => ?_
    simp only [↓r78_0, ↓r78_1, ↓r78_2, ↓r78_5, ↓r78_5n, ↓r78_6, ↓r78_6n, ↓r78_7, ↓r78_7n, ↓r78_10, ↓r78_11, ↓r78_12, ↓r78_13, ↓r78_16, ↓r78_19, ↓r78_21, ↓r78_22, ↓r78_22n, ↓r78_23, ↓r78_26, ↓r78_29, ↓r78_31, ↓r78_32, ↓r78_33, ↓r78_35, ↓r78_36, ↓r78_38, ↓r78_39, ↓r78_43, ↓r78_45, ↓r78_48, ↓r78_49, ↓r78_49n, ↓r78_50, ↓r78_52, ↓r78_55, ↓r78_57, ↓r78_59, ↓r78_62, ↓r78_64, ↓r78_66, ↓r78_69, ↓r78_71, ↓r78_73, ↓r78_75, ↓r78_77, ↓r78_80, ↓r78_84, ↓r78_87, ↓r78_89, ↓r78_92, ↓r78_94, Option.toList, List.cons_append, List.nil_append, nI_1]
    have ih' := ih (i + 1) h4 (some (.int (dfV τ n z s F i))) (by omega) e4
    have es : zfo (pkC lessB (dfV τ n z s F)) (i + 1) (0, 0) = pkC lessB (dfV τ n z s F) i (zfo (pkC lessB (dfV τ n z s F)) i (0, 0)) := rfl
    rw [es] at ih'
    generalize zfo (pkC lessB (dfV τ n z s F)) i (0, 0) = p at ih' ⊢
    by_cases g0 : i = 0
    · have g0' : nI i = 0 := by rw [g0, nI_0]
      unfold pkC at ih'
      rw [if_pos (Or.inl g0)] at ih'
      simp only [if_pos g0']
      exact ih'
    · have g0' : ¬ nI i = 0 := by rw [← nI_0, nI_eq (by omega) (by omega)]; exact g0
      simp only [if_neg g0']
      by_cases g1 : dfV τ n z s F i < p.2
      · unfold pkC at ih'
        rw [if_pos (Or.inr (lessB_t g1))] at ih'
        simp only [if_pos g1]
        exact ih'
      · unfold pkC at ih'
        rw [if_neg (fun z => z.elim g0 (lessB_f g1))] at ih'
        simp only [if_neg g1]
        exact ih'
theorem c188_loop (hk : k < 4) (hT : zTR (h 61) τ) (hu : h 60 12 = -1) (hB : zB (h 61) n m) (hm : m ≤ 9999) (hz : h 65 k = nI z) (hz24 : z ≤ 24) (hF : ∀ i, i < 24 → shEnc (F i) (h 66 (24 * k + i))) (hQ : ∀ h1 o6 o7 o8, rl h h1 → zR (d + 8) 188 Q 157 [some (.ref 60), some (.int (nI k)), some (.int x1), some (.int (zfo (pkR lessB (dfV τ n z (h 61) F)) 61 (-1, 0)).1), some (.int (zfo (pkR lessB (dfV τ n z (h 61) F)) 61 (-1, 0)).2), some (.int (nI 61)), o6, o7, o8] [] h1) : ∀ (g i : Nat) (h1 : zH) (o6 o7 o8 : Option Value), i + g = 61 → rl h h1 → zR (d + 8) 188 Q 45 [some (.ref 60), some (.int (nI k)), some (.int x1), some (.int (zfo (pkR lessB (dfV τ n z (h 61) F)) i (-1, 0)).1), some (.int (zfo (pkR lessB (dfV τ n z (h 61) F)) i (-1, 0)).2), some (.int (nI i)), o6, o7, o8] [] h1 := by
  have h10 := hB.1.2
  intro g
  induction g with
  | zero =>
    intro i h1 o6 o7 o8 hi e
    have hi' : i = 61 := by omega
    subst hi'
    rw [r188_45]
    simp (decide := true) only [↓r188_0, ↓r188_1, ↓r188_4, ↓r188_7, ↓r188_8, ↓r188_9, ↓r188_10, ↓r188_11, ↓r188_14, ↓r188_17, ↓r188_19, ↓r188_20, ↓r188_21, ↓r188_24, ↓r188_25, ↓r188_26, ↓r188_29, ↓r188_32, ↓r188_33, ↓r188_34, ↓r188_37, ↓r188_38, ↓r188_39, ↓r188_40, ↓r188_42, ↓r188_43, ↓r188_47, ↓r188_49, ↓r188_52, ↓r188_53, ↓r188_56, ↓r188_58, ↓r188_60, ↓r188_61, ↓r188_62, ↓r188_64, ↓r188_65, ↓r188_69, ↓r188_70, ↓r188_73, ↓r188_74, ↓r188_75, ↓r188_78, ↓r188_79, ↓r188_82, ↓r188_84, ↓r188_85, ↓r188_86, ↓r188_88, ↓r188_89, ↓r188_90, ↓r188_92, ↓r188_94, ↓r188_96, ↓r188_98, ↓r188_101, ↓r188_102, ↓r188_105, ↓r188_107, ↓r188_108, ↓r188_111, ↓r188_112, ↓r188_113, ↓r188_116, ↓r188_117, ↓r188_119, ↓r188_120, ↓r188_123, ↓r188_126, ↓r188_129, ↓r188_130, ↓r188_133, ↓r188_134, ↓r188_137, ↓r188_139, ↓r188_141, ↓r188_144, ↓r188_146, ↓r188_147, ↓r188_149, ↓r188_151, ↓r188_154, ↓r188_158, ↓r188_161, ↓r188_162, ↓r188_165, ↓r188_167, ↓reduceIte]
    exact hQ h1 o6 o7 o8 e
  | succ g ih =>
    intro i h1 o6 o7 o8 hi e
    have q : nI i ≤ 60 := nI_le (b := 60) (by omega) (by omega)
    have hB3 : zB (upd (h 61) 7 (nI i)) n m := zB_rule (j := 1) hB (Or.inr (Or.inl ⟨rfl, nI_pos' (by omega), nI_le (b := 90) (by omega) (by omega)⟩))
    have hT3 : zTR (upd (h 61) 7 (nI i)) τ := zTR_cong (pk_un (by omega)) (fun k hk => pk_un (by omega)) hT
    rw [r188_45]
    simp only [↓r188_0, ↓r188_1, ↓r188_4, ↓r188_7, ↓r188_8, ↓r188_9, ↓r188_10, ↓r188_11, ↓r188_14, ↓r188_17, ↓r188_19, ↓r188_20, ↓r188_21, ↓r188_24, ↓r188_25, ↓r188_26, ↓r188_29, ↓r188_32, ↓r188_33, ↓r188_34, ↓r188_37, ↓r188_38, ↓r188_39, ↓r188_40, ↓r188_42, ↓r188_43, ↓r188_47, ↓r188_49, ↓r188_52, ↓r188_53, ↓r188_56, ↓r188_58, ↓r188_60, ↓r188_61, ↓r188_62, ↓r188_64, ↓r188_65, ↓r188_69, ↓r188_70, ↓r188_73, ↓r188_74, ↓r188_75, ↓r188_78, ↓r188_79, ↓r188_82, ↓r188_84, ↓r188_85, ↓r188_86, ↓r188_88, ↓r188_89, ↓r188_90, ↓r188_92, ↓r188_94, ↓r188_96, ↓r188_98, ↓r188_101, ↓r188_102, ↓r188_105, ↓r188_107, ↓r188_108, ↓r188_111, ↓r188_112, ↓r188_113, ↓r188_116, ↓r188_117, ↓r188_119, ↓r188_120, ↓r188_123, ↓r188_126, ↓r188_129, ↓r188_130, ↓r188_133, ↓r188_134, ↓r188_137, ↓r188_139, ↓r188_141, ↓r188_144, ↓r188_146, ↓r188_147, ↓r188_149, ↓r188_151, ↓r188_154, ↓r188_158, ↓r188_161, ↓r188_162, ↓r188_165, ↓r188_167, if_pos q, zs_61, zoks, zixs, true_and, Option.toList, List.cons_append, List.nil_append]
    have e60 : h1 60 = h 60 := e.1 _ (by omega) (by omega) (by omega) (by omega)
    generalize hp : zfo (pkR lessB (dfV τ n z (h 61) F)) i (-1, 0) = p
    have inner : ∀ (g2 l : Nat) (h3 : zH) (o8 : Option Value), l + g2 = z → rd h h3 → h3 61 = stepN τ (-1) n l (upd (h 61) 7 (nI i)) → (∀ k, k < 62 → h3 73 k = h 61 k) → zR (d + 8) 188 Q 67 [some (.ref 60), some (.int (nI k)), some (.int x1), some (.int p.1), some (.int p.2), some (.int (nI i)), some (.int (zfo (dfF τ n (upd (h 61) 7 (nI i)) F) l 0)), some (.int (nI l)), o8] [] h3 := by
      intro g2
      induction g2 with
      | zero =>
        intro l h3 o8 hl e3 e3b e3c
        have hl' : l = z := by omega
        subst hl'
        have hz3 : h3 65 k = nI l := by rw [e3 65 (by omega) (by omega) (by omega) (by omega)]; exact hz
        rw [r188_67]
        simp only [↓r188_0, ↓r188_1, ↓r188_4, ↓r188_7, ↓r188_8, ↓r188_9, ↓r188_10, ↓r188_11, ↓r188_14, ↓r188_17, ↓r188_19, ↓r188_20, ↓r188_21, ↓r188_24, ↓r188_25, ↓r188_26, ↓r188_29, ↓r188_32, ↓r188_33, ↓r188_34, ↓r188_37, ↓r188_38, ↓r188_39, ↓r188_40, ↓r188_42, ↓r188_43, ↓r188_47, ↓r188_49, ↓r188_52, ↓r188_53, ↓r188_56, ↓r188_58, ↓r188_60, ↓r188_61, ↓r188_62, ↓r188_64, ↓r188_65, ↓r188_69, ↓r188_70, ↓r188_73, ↓r188_74, ↓r188_75, ↓r188_78, ↓r188_79, ↓r188_82, ↓r188_84, ↓r188_85, ↓r188_86, ↓r188_88, ↓r188_89, ↓r188_90, ↓r188_92, ↓r188_94, ↓r188_96, ↓r188_98, ↓r188_101, ↓r188_102, ↓r188_105, ↓r188_107, ↓r188_108, ↓r188_111, ↓r188_112, ↓r188_113, ↓r188_116, ↓r188_117, ↓r188_119, ↓r188_120, ↓r188_123, ↓r188_126, ↓r188_129, ↓r188_130, ↓r188_133, ↓r188_134, ↓r188_137, ↓r188_139, ↓r188_141, ↓r188_144, ↓r188_146, ↓r188_147, ↓r188_149, ↓r188_151, ↓r188_154, ↓r188_158, ↓r188_161, ↓r188_162, ↓r188_165, ↓r188_167, zl_65, zok_nI hk (by omega), zix_nI (by omega : k < 2 ^ 31), true_and, hz3, nI_nlt (Nat.le_refl l) (by omega), if_false]
        refine c151 ?_
        simp only [↓r188_0, ↓r188_1, ↓r188_4, ↓r188_7, ↓r188_8, ↓r188_9, ↓r188_10, ↓r188_11, ↓r188_14, ↓r188_17, ↓r188_19, ↓r188_20, ↓r188_21, ↓r188_24, ↓r188_25, ↓r188_26, ↓r188_29, ↓r188_32, ↓r188_33, ↓r188_34, ↓r188_37, ↓r188_38, ↓r188_39, ↓r188_40, ↓r188_42, ↓r188_43, ↓r188_47, ↓r188_49, ↓r188_52, ↓r188_53, ↓r188_56, ↓r188_58, ↓r188_60, ↓r188_61, ↓r188_62, ↓r188_64, ↓r188_65, ↓r188_69, ↓r188_70, ↓r188_73, ↓r188_74, ↓r188_75, ↓r188_78, ↓r188_79, ↓r188_82, ↓r188_84, ↓r188_85, ↓r188_86, ↓r188_88, ↓r188_89, ↓r188_90, ↓r188_92, ↓r188_94, ↓r188_96, ↓r188_98, ↓r188_101, ↓r188_102, ↓r188_105, ↓r188_107, ↓r188_108, ↓r188_111, ↓r188_112, ↓r188_113, ↓r188_116, ↓r188_117, ↓r188_119, ↓r188_120, ↓r188_123, ↓r188_126, ↓r188_129, ↓r188_130, ↓r188_133, ↓r188_134, ↓r188_137, ↓r188_139, ↓r188_141, ↓r188_144, ↓r188_146, ↓r188_147, ↓r188_149, ↓r188_151, ↓r188_154, ↓r188_158, ↓r188_161, ↓r188_162, ↓r188_165, ↓r188_167, Option.toList, List.cons_append, List.nil_append, nI_1]
        have e4 : rl h (zhr h3 61 (fun k => if k < 62 then h3 73 k else h3 61 k)) :=
          ⟨fun c x y z w => (zhr_ne _ _ x).trans (e3 c x y z w), by rw [zhr_same]; exact lay_eq (fun k hk => by rw [e3b, stepN_keep h10 (by omega), pk_un (by omega)]) (h3 73) e3c, fun k hk => by rw [zhr_ne _ _ (by omega)]; exact e3c k hk⟩
        have ih' := ih (i + 1) _ (some (.int (dfV τ n l (h 61) F i))) (some (.int (nI l))) o8 (by omega) e4
        have es : zfo (pkR lessB (dfV τ n l (h 61) F)) (i + 1) (-1, 0) = pkR lessB (dfV τ n l (h 61) F) i (zfo (pkR lessB (dfV τ n l (h 61) F)) i (-1, 0)) := rfl
        rw [es, hp] at ih'
        have ev : zfo (dfF τ n (upd (h 61) 7 (nI i)) F) l 0 = dfV τ n l (h 61) F i := rfl
        rw [ev]
        by_cases g0 : p.1 < 0
        · unfold pkR at ih'
          rw [if_pos (Or.inl g0)] at ih'
          simp only [if_pos g0]
          exact ih'
        · simp only [if_neg g0]
          by_cases g1 : dfV τ n l (h 61) F i < p.2
          · unfold pkR at ih'
            rw [if_pos (Or.inr (lessB_t g1))] at ih'
            simp only [if_pos g1]
            exact ih'
          · unfold pkR at ih'
            rw [if_neg (fun z => z.elim g0 (lessB_f g1))] at ih'
            simp only [if_neg g1]
            exact ih'
      | succ g2 ih2 =>
        intro l h3 o8 hl e3 e3b e3c
        have hl2 : l < z := by omega
        have hz3 : h3 65 k = nI z := by rw [e3 65 (by omega) (by omega) (by omega) (by omega)]; exact hz
        have h66 : h3 66 (24 * k + l) = h 66 (24 * k + l) := by rw [e3 66 (by omega) (by omega) (by omega) (by omega)]
        have hen := hF l (by omega)
        have hB' := zB_stepN (τ := τ) (u := -1) hB3 l (by omega)
        have hBh : zB (h3 61) n (m + l) := by rw [e3b]; exact hB'
        have e603 : h3 60 = h 60 := e3 _ (by omega) (by omega) (by omega) (by omega)
        rw [r188_67]
        simp only [↓r188_0, ↓r188_1, ↓r188_4, ↓r188_7, ↓r188_8, ↓r188_9, ↓r188_10, ↓r188_11, ↓r188_14, ↓r188_17, ↓r188_19, ↓r188_20, ↓r188_21, ↓r188_24, ↓r188_25, ↓r188_26, ↓r188_29, ↓r188_32, ↓r188_33, ↓r188_34, ↓r188_37, ↓r188_38, ↓r188_39, ↓r188_40, ↓r188_42, ↓r188_43, ↓r188_47, ↓r188_49, ↓r188_52, ↓r188_53, ↓r188_56, ↓r188_58, ↓r188_60, ↓r188_61, ↓r188_62, ↓r188_64, ↓r188_65, ↓r188_69, ↓r188_70, ↓r188_73, ↓r188_74, ↓r188_75, ↓r188_78, ↓r188_79, ↓r188_82, ↓r188_84, ↓r188_85, ↓r188_86, ↓r188_88, ↓r188_89, ↓r188_90, ↓r188_92, ↓r188_94, ↓r188_96, ↓r188_98, ↓r188_101, ↓r188_102, ↓r188_105, ↓r188_107, ↓r188_108, ↓r188_111, ↓r188_112, ↓r188_113, ↓r188_116, ↓r188_117, ↓r188_119, ↓r188_120, ↓r188_123, ↓r188_126, ↓r188_129, ↓r188_130, ↓r188_133, ↓r188_134, ↓r188_137, ↓r188_139, ↓r188_141, ↓r188_144, ↓r188_146, ↓r188_147, ↓r188_149, ↓r188_151, ↓r188_154, ↓r188_158, ↓r188_161, ↓r188_162, ↓r188_165, ↓r188_167, zl_61, zl_65, zl_66, zok6, zix6, zok_nI hk (by omega), zix_nI (by omega : k < 2 ^ 31), true_and, hz3, nI_lt hl2 (by omega : z < 2 ^ 31), if_true, x24, zok_nI (by omega : 24 * k + l < 96) (by omega), zix_nI (by omega : 24 * k + l < 2 ^ 31), h66, c109, e3b, Option.toList, List.cons_append, List.nil_append, nI_1]
        have es : zfo (dfF τ n (upd (h 61) 7 (nI i)) F) (l + 1) 0 = dfF τ n (upd (h 61) 7 (nI i)) F l (zfo (dfF τ n (upd (h 61) 7 (nI i)) F) l 0) := rfl
        have go : ∀ (o6 o8 : Int32), o6 = zfo (dfF τ n (upd (h 61) 7 (nI i)) F) (l + 1) 0 → zM (d + 8) 144 [.ref 60] h3 (fun r h' => zR (d + 8) 188 Q 67 [some (.ref 60), some (.int (nI k)), some (.int x1), some (.int p.1), some (.int p.2), some (.int (nI i)), some (.int o6), some (.int (nI (l + 1))), some (.int o8)] (r.toList ++ []) h') := by
          intro o6 o8 ho
          rw [ho]
          refine c144 (n := n) (τ := τ) hBh.1.1 h10 (by rw [e3b]; exact zTR_cong (stepN_keep h10 (Or.inr (Or.inl rfl)) l) (fun k hk => stepN_keep h10 (by omega) l) hT3) hBh.2.2.2.1.1 hBh.2.2.2.1.2 hBh.2.2.2.2.1.1 hBh.2.2.2.2.1.2 (fun h2 e2 e2b => ?_)
          rw [e3b, e603, hu] at e2b
          exact ih2 (l + 1) h2 _ (by omega) (fun c x y z w => (e2 c x z w).trans (e3 c x y z w)) e2b (fun k hk => by rw [e2 73 (by omega) (by omega) (by omega)]; exact e3c k hk)
        by_cases g3 : h 66 (24 * k + l) = -1000000005
        · have g3' : F l = -2147483648 := (shEnc_iff hen).mpr g3
          simp only [if_pos g3, Int32.add_zero]
          refine go _ _ ?_
          rw [es]
          generalize zfo (dfF τ n (upd (h 61) 7 (nI i)) F) l 0 = y
          unfold dfF
          rw [if_pos g3']
        · have g3' : ¬ F l = -2147483648 := fun z => g3 ((shEnc_iff hen).mp z)
          have e2 : h 66 (24 * k + l) = F l := by
            rcases hen with ⟨a, _⟩ | ⟨_, b, _⟩
            · exact absurd a g3
            · exact b.symm
          simp only [if_neg g3]
          rw [e2]
          refine go _ _ ?_
          rw [es]
          generalize zfo (dfF τ n (upd (h 61) 7 (nI i)) F) l 0 = y
          unfold dfF
          rw [if_neg g3']
          rfl
    rw [← nI_0]
    exact inner z 0 _ _ (by omega) (fun c x y z w => (zhr_ne _ _ x).trans (e.1 c x y z w)) (by rw [zhr_same, e.2.1]; rfl) (fun k hk => by rw [zhr_ne _ _ (by omega)]; exact e.2.2 k hk)
end
