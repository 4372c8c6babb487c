/-! a step keeps the bounds -/
section
variable {n m k l w j : Nat} {τ : zTau} {s r : Nat → Int32} {ab time u : Int32}
theorem sEnd_at (Z : Nat → Int32) (k : Nat) : sEnd Z k = if k = 2 then Z 2 + 1 else if k = 9 then clI 0 99 (Z 9 + (kDraw (Z 5) - kDraw (Z 5) / 7 * 7) - 3) else if k = 5 then kNext (Z 5) else Z k := by
  unfold sEnd
  simp only [zup_ap]
theorem sGo_keep (h2 : k ≠ 2) (h3 : k ≠ 3) (h5 : k ≠ 5) (h9 : k ≠ 9) (hk : k < 12 ∨ 12 + 5 * n ≤ k ∨ ∃ i, k = 12 + 5 * i + 0 ∨ k = 12 + 5 * i + 1) : sGo ab time n r k = r k := by
  unfold sGo
  rw [sEnd_at, if_neg h2, if_neg h9, if_neg h5, sMove_lo _ _ _ _ _ hk, zup_ap, if_neg h3]
theorem clI_b {v : Int32} : 0 ≤ clI 0 99 v ∧ clI 0 99 v ≤ 99 := clI_in (by decide)
theorem zB_go (hB : zB r n m) (hm : m ≤ 30000) {t : Nat} (ht : t ≤ 60) (he : time = nI t) : zB (sGo ab time n r) n (m + 1) := by
  obtain ⟨⟨hn, h10⟩, hld, h6, h7, h9, h2, t3, h3a, h3b⟩ := hB
  have hmv := sMove_at ab time (upd r 3 (r 3 + time)) n
  refine ⟨⟨?_, h10⟩, fun i hi => ?_, ?_, ?_, ?_, ?_, ?_⟩
  · rw [sGo_keep (by omega) (by omega) (by omega) (by omega) (Or.inl (by omega))]; exact hn
  · obtain ⟨a1, a2, a3, o, a4, a5⟩ := hld i hi
    obtain ⟨m2, m3, m4⟩ := hmv i hi
    have e63 : upd r 3 (r 3 + time) 6 = r 6 := by rw [zup_ap, if_neg (by omega)]
    have eb : ∀ w, upd r 3 (r 3 + time) (12 + 5 * i + w) = r (12 + 5 * i + w) := fun w => by rw [zup_ap, if_neg (by omega)]
    rw [sGo_keep (by omega) (by omega) (by omega) (by omega) (Or.inr (Or.inr ⟨i, Or.inl rfl⟩)), sGo_keep (by omega) (by omega) (by omega) (by omega) (Or.inr (Or.inr ⟨i, Or.inr rfl⟩))]
    refine ⟨a1, a2, ?_, ?_⟩
    · unfold sGo
      rw [sEnd_at, if_neg (by omega), if_neg (by omega), if_neg (by omega), m2, e63, eb]
      split
      · exact h6
      · exact a3
    · unfold sGo
      rw [sEnd_at, if_neg (by omega), if_neg (by omega), if_neg (by omega), m4, eb, a5]
      split
      · exact ⟨o + 1, by omega, nI_1 o⟩
      · exact ⟨o, by omega, rfl⟩
  · rw [sGo_keep (by omega) (by omega) (by omega) (by omega) (Or.inl (by omega))]; exact h6
  · rw [sGo_keep (by omega) (by omega) (by omega) (by omega) (Or.inl (by omega))]; exact h7
  · unfold sGo
    rw [sEnd_at, if_neg (by omega), if_pos rfl]
    exact clI_b
  · unfold sGo
    rw [sEnd_at, if_pos rfl, sMove_lo _ _ _ _ _ (Or.inl (by omega)), zup_ap, if_neg (by omega), h2, nI_1]
  · refine ⟨t3 + t, by omega, ?_⟩
    unfold sGo
    rw [sEnd_at, if_neg (by omega), if_neg (by omega), if_neg (by omega), sMove_lo _ _ _ _ _ (Or.inl (by omega)), zup_ap, if_pos rfl, h3b, he, nI_add]
theorem zB_cross (hB : zB s n m) : zB (sCross τ s ab n) n m := by
  obtain ⟨⟨hn, h10⟩, hld, h6, h7, h9, h2, h3⟩ := hB
  have e : ∀ k, k ≠ 4 → k ≠ 6 → sCross τ s ab n k = s k := fun k a b => by unfold sCross; rw [zup_ap, if_neg b, zup_ap, if_neg a]
  have e6 : sCross τ s ab n 6 = 1 - s 6 := by unfold sCross; rw [zup_ap, if_pos rfl]
  unfold zB
  rw [e 0 (by omega) (by omega), e 7 (by omega) (by omega), e 9 (by omega) (by omega), e 2 (by omega) (by omega), e 3 (by omega) (by omega), e6]
  refine ⟨⟨hn, h10⟩, fun i hi => ?_, ?_, h7, h9, h2, h3⟩
  · rw [e _ (by omega) (by omega), e _ (by omega) (by omega), e _ (by omega) (by omega), e _ (by omega) (by omega)]
    exact hld i hi
  · rcases h6 with h | h <;> rw [h]
    · exact Or.inr (by decide)
    · exact Or.inl (by decide)
theorem kMinu_in (a w : Int32) (h1 : 0 ≤ a) (h2 : a ≤ 90) (h3 : 0 ≤ w) (h4 : w ≤ 99) : ∃ t, t ≤ 60 ∧ kMinu a w = nI t := by
  obtain ⟨q1, q2⟩ := kEff_in _ h1 h2
  obtain ⟨p, p1, p2, p3⟩ := kMul _ _ h3 h4 q1 q2
  have hd := kDen p p1
  unfold kMinu
  split
  · exact ⟨60, by omega, rfl⟩
  · split
    · exact ⟨60, by omega, rfl⟩
    · rw [p2, hd.1]
      have e : (300 : Int32) / nI (1 + p / 30) = nI (300 / (1 + p / 30)) := pk_div (a := 300) (by omega) (by omega) (by omega)
      rw [e]
      have e2 : 4 + nI (300 / (1 + p / 30)) = nI (4 + 300 / (1 + p / 30)) := nI_add 4 _
      rw [e2]
      have hle : 300 / (1 + p / 30) ≤ 300 := Nat.div_le_self _ _
      split
      · rename_i q
        have q' : nI (4 + 300 / (1 + p / 30)) ≤ nI 60 := q
        rw [nI_leI (by omega) (by omega)] at q'
        exact ⟨_, q', rfl⟩
      · exact ⟨60, by omega, rfl⟩
theorem zB_step (hB : zB s n m) (hm : m ≤ 30000) : zB (stepM τ u n s) n (m + 1) := by
  have h7 := hB.2.2.2.1
  have h9 := hB.2.2.2.2.1
  unfold stepM
  split
  · obtain ⟨t, t1, t2⟩ := kMinu_in _ _ h7.1 h7.2 h9.1 h9.2
    exact zB_go (zB_cross hB) hm t1 t2
  · rename_i g
    by_cases g1 : pPull (τ 1) (s 9) 0 (s 7) ≤ s 10
    · rw [sStay_5 g1 g]
      exact zB_go hB hm (t := 5) (by omega) rfl
    · have g5 : sStay τ s n = 10 := by unfold sStay; rw [if_neg g1]
      rw [g5]
      exact zB_go hB hm (t := 10) (by omega) rfl
/-- places that a step leaves -/
theorem stepM_keep (h10 : n ≤ 10) (hk : k = 0 ∨ k = 1 ∨ k = 7 ∨ k = 8 ∨ k = 10 ∨ k = 11 ∨ 62 ≤ k) : stepM τ u n s k = s k := by
  unfold stepM
  split
  · rw [sGo_keep (by omega) (by omega) (by omega) (by omega) (by omega)]
    unfold sCross
    rw [zup_ap, if_neg (by omega), zup_ap, if_neg (by omega)]
  · rw [sGo_keep (by omega) (by omega) (by omega) (by omega) (by omega)]
/-- n steps -/
def stepN (τ : zTau) (u : Int32) (n : Nat) : Nat → (Nat → Int32) → (Nat → Int32)
  | 0, s => s
  | f + 1, s => stepM τ u n (stepN τ u n f s)
theorem stepN_keep (h10 : n ≤ 10) (hk : k = 0 ∨ k = 1 ∨ k = 7 ∨ k = 8 ∨ k = 10 ∨ k = 11 ∨ 62 ≤ k) : ∀ f, stepN τ u n f s k = s k
  | 0 => rfl
  | f + 1 => by
    show stepM τ u n (stepN τ u n f s) k = s k
    rw [stepM_keep h10 hk, stepN_keep h10 hk f]
theorem zB_stepN (hB : zB s n m) : ∀ f, m + f ≤ 30000 → zB (stepN τ u n f s) n (m + f)
  | 0, _ => hB
  | f + 1, h => zB_step (zB_stepN hB f (by omega)) (show m + f ≤ 30000 by omega)
end
section
variable {d : Nat} {Q : Option Value → zH → Prop} {h h' : zH} {x0 : Int32} {c n k m f : Nat} {τ : zTau} {s : Nat → Int32}
theorem c152 (hB : zB (h 61) n m) (hT : zTR (h 61) τ) (hm : m + f ≤ 30000) (hQ : ∀ h', sr h h' → h' 61 = stepN τ (h 60 12) n f (h 61) → Q none h') : zM (d + 7) 152 [.ref 60, .int (nI f)] h Q := by
  rw [m152]
  simp only [↓r152_0, ↓r152_1, ↓r152_3, ↓r152_4, ↓r152_7, ↓r152_8, ↓r152_11, ↓r152_14, ↓r152_17]
  have main : ∀ (g i : Nat) (h' : zH), i + g = f → sr h h' → h' 61 = stepN τ (h 60 12) n i (h 61) → zR (d + 6) 152 Q 2 [some (.ref 60), some (.int (nI f)), some (.int (nI i))] [] h' := by
    intro g
    induction g with
    | zero =>
      intro i h' hi e e61
      have hif : i = f := by omega
      subst hif
      rw [r152_2]
      simp only [↓r152_0, ↓r152_1, ↓r152_3, ↓r152_4, ↓r152_7, ↓r152_8, ↓r152_11, ↓r152_14, ↓r152_17, nI_nlt (Nat.le_refl i) (by omega), if_false]
      exact hQ h' e e61
    | succ g ih =>
      intro i h' hi e e61
      have hB' := zB_stepN (τ := τ) (u := h 60 12) hB i (by omega)
      have h10 := hB.1.2
      rw [r152_2]
      simp only [↓r152_0, ↓r152_1, ↓r152_3, ↓r152_4, ↓r152_7, ↓r152_8, ↓r152_11, ↓r152_14, ↓r152_17, nI_lt (by omega : i < f) (by omega : f < 2 ^ 31), if_true, nI_1]
      refine c144 (n := n) (τ := τ) (by rw [e61]; exact hB'.1.1) h10 (by rw [e61]; exact zTR_cong (stepN_keep h10 (Or.inr (Or.inl rfl)) i) (fun k hk => stepN_keep h10 (by omega) i) hT) (by rw [e61]; exact hB'.2.2.2.1.1) (by rw [e61]; exact hB'.2.2.2.1.2) (by rw [e61]; exact hB'.2.2.2.2.1.1) (by rw [e61]; exact hB'.2.2.2.2.1.2) (fun h2 e2 e2b => ?_)
      simp only [↓r152_0, ↓r152_1, ↓r152_3, ↓r152_4, ↓r152_7, ↓r152_8, ↓r152_11, ↓r152_14, ↓r152_17, Option.toList, List.cons_append, List.nil_append, nI_1]
      have e60 : h' 60 = h 60 := e _ (by omega) (by omega) (by omega)
      rw [e61, e60] at e2b
      exact ih (i + 1) h2 (by omega) (sr_tr e e2) e2b
  rw [show (0 : Int32) = nI 0 from rfl]
  exact main f 0 h (by omega) (sr_rf h) rfl
theorem c53 (hc : zst c) (hV : zV h c s) (hB : zB s n m) (hT : zTC h c τ) (hm : m + f ≤ 30000) (hQ : ∀ h', sq c h h' → zV h' c (stepN τ (h c 14) n f s) → Q none h') : zM (d + 7) 53 [.ref c, .int (nI f)] h Q := by
  rw [m53]
  simp only [↓r53_0, ↓r53_1, ↓r53_3, ↓r53_4, ↓r53_7, ↓r53_8, ↓r53_11, ↓r53_14, ↓r53_17]
  have main : ∀ (g i : Nat) (h' : zH), i + g = f → sq c h h' → zV h' c (stepN τ (h c 14) n i s) → zR (d + 6) 53 Q 2 [some (.ref c), some (.int (nI f)), some (.int (nI i))] [] h' := by
    intro g
    induction g with
    | zero =>
      intro i h' hi e eV
      have hif : i = f := by omega
      subst hif
      rw [r53_2]
      simp only [↓r53_0, ↓r53_1, ↓r53_3, ↓r53_4, ↓r53_7, ↓r53_8, ↓r53_11, ↓r53_14, ↓r53_17, nI_nlt (Nat.le_refl i) (by omega), if_false]
      exact hQ h' e eV
    | succ g ih =>
      intro i h' hi e eV
      have hB' := zB_stepN (τ := τ) (u := h c 14) hB i (by omega)
      rw [r53_2]
      simp only [↓r53_0, ↓r53_1, ↓r53_3, ↓r53_4, ↓r53_7, ↓r53_8, ↓r53_11, ↓r53_14, ↓r53_17, zl_s1 hc, zs_s1 hc, zn_s1 hc, zl_s2 hc, zs_s2 hc, zn_s2 hc, zl_s3 hc, zs_s3 hc, zn_s3 hc, zl_s4 hc, zs_s4 hc, zn_s4 hc, zl_s5 hc, zs_s5 hc, zn_s5 hc, zl_s6 hc, zs_s6 hc, zn_s6 hc, zl_s7 hc, zs_s7 hc, zn_s7 hc, zc_s hc, true_and, nI_lt (by omega : i < f) (by omega : f < 2 ^ 31), if_true, nI_1]
      refine c54 (n := n) (τ := τ) hc eV hB' (zTC_sq hc e hT) (fun h2 e2 eV2 => ?_)
      simp only [↓r53_0, ↓r53_1, ↓r53_3, ↓r53_4, ↓r53_7, ↓r53_8, ↓r53_11, ↓r53_14, ↓r53_17, Option.toList, List.cons_append, List.nil_append, nI_1]
      rw [e.2] at eV2
      exact ih (i + 1) h2 (by omega) (sq_tr e e2) eV2
  rw [show (0 : Int32) = nI 0 from rfl]
  exact main f 0 h (by omega) sq_rf hV
end
