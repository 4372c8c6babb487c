/-! a step of the class -/
/-- bounds: n loads, m steps done -/
def zB (s : Nat → Int32) (n m : Nat) : Prop := (s 0 = nI n ∧ n ≤ 10) ∧ (∀ i, i < n → kOk (s (12 + 5 * i + 0)) ∧ (1 ≤ s (12 + 5 * i + 1) ∧ s (12 + 5 * i + 1) ≤ 99) ∧ (s (12 + 5 * i + 2) = 0 ∨ s (12 + 5 * i + 2) = 1) ∧ ∃ o, o ≤ m ∧ s (12 + 5 * i + 4) = nI o) ∧ (s 6 = 0 ∨ s 6 = 1) ∧ (0 ≤ s 7 ∧ s 7 ≤ 90) ∧ (0 ≤ s 9 ∧ s 9 ≤ 99) ∧ s 2 = nI m ∧ ∃ t, t ≤ 60 * m ∧ s 3 = nI t
theorem zfr_add {g : Nat → Int32 → Int32} (hg : ∀ i a b, g i (a + b) = a + g i b) : ∀ f i a b, zfr g f i (a + b) = a + zfr g f i b
  | 0, _, _, _ => rfl
  | f + 1, i, a, b => by
    show zfr g f (i + 1) (g i (a + b)) = a + zfr g f (i + 1) (g i b)
    rw [hg, zfr_add hg f]
theorem sPaid_add (τ : zTau) (s : Nat → Int32) (ab : Int32) (n : Nat) (t : Int32) : t + zfr (sPaidF τ s ab) n 0 0 = zfr (sPaidF τ s ab) n 0 t := by
  rw [← zfr_add (fun i a b => ?_) n 0 t 0, Int32.add_zero]
  unfold sPaidF
  split
  · exact Int32.add_assoc _ _ _
  · rfl
section
variable {d : Nat} {Q : Option Value → zH → Prop} {h : zH} {x x0 x1 x2 x3 x4 : Int32} {c n k m : Nat} {τ : zTau} {s : Nat → Int32}
theorem c44 (hc : zst c) (hV : zV h c s) (hB : zB s n m) (hT : zTC h c τ) (hQ : ∀ h', sc h h' → Q (some (.int (zfr (sPaidF τ s x0) n 0 0))) h') : zM (d + 4) 44 [.ref c, .int x0] h Q := by
  obtain ⟨⟨v0, v1, v2, v3, v4, v5⟩, ⟨u0, u1, u2, u3, u4, u5⟩, hl⟩ := id hV
  obtain ⟨⟨hn, h10⟩, hld, -⟩ := hB
  rw [m44]
  simp only [↓r44_0, ↓r44_1, ↓r44_2, ↓r44_3, ↓r44_5, ↓r44_6, ↓r44_9, ↓r44_12, ↓r44_13, ↓r44_14, ↓r44_15, ↓r44_16, ↓r44_17, ↓r44_18, ↓r44_21, ↓r44_22, ↓r44_23, ↓r44_24, ↓r44_27, ↓r44_28, ↓r44_29, ↓r44_32, ↓r44_35, ↓r44_36]
  have main : ∀ (f i : Nat) (t : Int32) (h' : zH), i + f = n → sc h h' → (∀ h'', sc h h'' → Q (some (.int (zfr (sPaidF τ s x0) f i t))) h'') → zR (d + 3) 44 Q 4 [some (.ref c), some (.int x0), some (.int t), some (.int (nI i))] [] h' := by
    intro f
    induction f with
    | zero =>
      intro i t h' hi hsc hK
      obtain ⟨a0, a1⟩ := sc_at hc hsc
      have hin : i = n := by omega
      subst hin
      rw [r44_4]
      simp only [↓r44_0, ↓r44_1, ↓r44_2, ↓r44_3, ↓r44_5, ↓r44_6, ↓r44_9, ↓r44_12, ↓r44_13, ↓r44_14, ↓r44_15, ↓r44_16, ↓r44_17, ↓r44_18, ↓r44_21, ↓r44_22, ↓r44_23, ↓r44_24, ↓r44_27, ↓r44_28, ↓r44_29, ↓r44_32, ↓r44_35, ↓r44_36, zl_s1 hc, zs_s1 hc, zn_s1 hc, zl_s2 hc, zs_s2 hc, zn_s2 hc, zl_s3 hc, zs_s3 hc, zn_s3 hc, zl_s4 hc, zs_s4 hc, zn_s4 hc, zl_s5 hc, zs_s5 hc, zn_s5 hc, zl_s6 hc, zs_s6 hc, zn_s6 hc, zl_s7 hc, zs_s7 hc, zn_s7 hc, zc_s hc, true_and, a0, v0, hn, nI_nlt (Nat.le_refl i) (by omega), if_false]
      exact hK h' hsc
    | succ f ih =>
      intro i t h' hi hsc hK
      obtain ⟨a0, a1⟩ := sc_at hc hsc
      obtain ⟨l0, l1, l2, l3, l4⟩ := hl i (by omega)
      rw [r44_4]
      simp only [↓r44_0, ↓r44_1, ↓r44_2, ↓r44_3, ↓r44_5, ↓r44_6, ↓r44_9, ↓r44_12, ↓r44_13, ↓r44_14, ↓r44_15, ↓r44_16, ↓r44_17, ↓r44_18, ↓r44_21, ↓r44_22, ↓r44_23, ↓r44_24, ↓r44_27, ↓r44_28, ↓r44_29, ↓r44_32, ↓r44_35, ↓r44_36, zl_s1 hc, zs_s1 hc, zn_s1 hc, zl_s2 hc, zs_s2 hc, zn_s2 hc, zl_s3 hc, zs_s3 hc, zn_s3 hc, zl_s4 hc, zs_s4 hc, zn_s4 hc, zl_s5 hc, zs_s5 hc, zn_s5 hc, zl_s6 hc, zs_s6 hc, zn_s6 hc, zl_s7 hc, zs_s7 hc, zn_s7 hc, zc_s hc, true_and, a0, v0, hn, nI_lt (by omega : i < n) (by omega : n < 2 ^ 31), if_true, nI_1]
      have hK' : ∀ h'', sc h h'' → Q (some (.int (zfr (sPaidF τ s x0) f (i + 1) (sPaidF τ s x0 i t)))) h'' := hK
      by_cases g : bitOf x0 i = 1
      · have g' : x0 >>> (nI i &&& 31) &&& 1 = 1 := g
        unfold sPaidF at hK'
        simp only [if_pos g] at hK'
        simp only [if_pos g']
        have hw := (hld i (by omega)).2.1
        refine d43 hc (by rw [a0, v0]; exact hn) h10 (by omega) (zTC_sc hc hsc hT) (by rw [a1, l1]; constructor <;> grind) (fun h2 hsc2 => ?_)
        rw [a1, a1, a1, a1, l0, l1, l3, u3]
        simp only [↓r44_0, ↓r44_1, ↓r44_2, ↓r44_3, ↓r44_5, ↓r44_6, ↓r44_9, ↓r44_12, ↓r44_13, ↓r44_14, ↓r44_15, ↓r44_16, ↓r44_17, ↓r44_18, ↓r44_21, ↓r44_22, ↓r44_23, ↓r44_24, ↓r44_27, ↓r44_28, ↓r44_29, ↓r44_32, ↓r44_35, ↓r44_36, Option.toList, List.cons_append, List.nil_append, nI_1]
        exact ih (i + 1) _ h2 (by omega) (sc_tr hsc hsc2) hK'
      · have g' : ¬ x0 >>> (nI i &&& 31) &&& 1 = 1 := g
        unfold sPaidF at hK'
        simp only [if_neg g] at hK'
        simp only [if_neg g']
        exact ih (i + 1) t h' (by omega) hsc hK'
  rw [show (0 : Int32) = nI 0 from rfl]
  exact main n 0 0 h (by omega) (sc_rf h) hQ
theorem zsc_cnt (hl : ∀ l, l < 10 → h (c + 3) l = s (12 + 5 * l + 2)) (h10 : n ≤ 10) : zfo (fun i a => if h (c + 3) i = x0 then a + 1 else a) n 0 = sCnt s x0 n :=
  zfo_cong (fun i a hi => by simp only [hl i (by omega)]) 0
theorem c55 (hc : zst c) (hV : zV h c s) (hB : zB s n m) (hP : pPull (τ 1) (s 9) 0 (s 7) ≤ s 10) : zM (d + 5) 55 [.ref c] h Q = if sStay τ s n = 0 then Q (some (.int 0)) h else Q (some (.int 1)) h := by
  obtain ⟨⟨v0, v1, v2, v3, v4, v5⟩, ⟨u0, u1, u2, u3, u4, u5⟩, hl⟩ := id hV
  obtain ⟨⟨hn, h10⟩, hld, h6, -⟩ := id hB
  have e0 : zok 0 6 = True ∧ zok 5 6 = True := by unfold zok; decide
  obtain ⟨e0, e5⟩ := e0
  have hn' : h c 1 = nI n := v0.trans hn
  have c40' := fun (Q' : Option Value → zH → Prop) => c40 (d := d + 2) (Q := Q') (x0 := s 6) hc hn' h10
  have hcnt := zsc_cnt (h := h) (c := c) (s := s) (n := n) (x0 := s 6) (fun l hl' => (hl l hl').2.2.1) h10
  have hdoc : zany (fun i => decide (h (c + 3) i = h (c + 6) 0) && decide (h (c + 1) i = 5)) n = sDoc s (s 6) n := by
    unfold sDoc
    refine zany_cong (fun i hi => ?_)
    obtain ⟨l0, l1, l2, l3, l4⟩ := hl i (by omega)
    rw [l0, l2, u0]
  have c56' : ∀ (Q' : Option Value → zH → Prop), zM (d + 4) 56 [.ref c] h Q' = if sDoc s (s 6) n = true then Q' (some (.int 1)) h else Q' (some (.int 0)) h := by
    intro Q'
    rw [c56 (d := d) (Q := Q') hc hn' h10 (fun i hi => by rw [(hl i (by omega)).1]; exact (hld i hi).1), hdoc]
  rw [m55]
  simp only [↓r55_0, ↓r55_1, ↓r55_2, ↓r55_5, ↓r55_6, ↓r55_7, ↓r55_10, ↓r55_11, ↓r55_12, ↓r55_13, ↓r55_16, ↓r55_17, ↓r55_18, ↓r55_21, ↓r55_22, ↓r55_25, ↓r55_28, ↓r55_29f, ↓r55_29t, ↓r55_30, ↓r55_31, ↓r55_34, ↓r55_35, ↓r55_38, ↓r55_39, ↓r55_42, ↓r55_43, ↓r55_46, ↓r55_47f, ↓r55_47t, zl_s1 hc, zs_s1 hc, zn_s1 hc, zl_s2 hc, zs_s2 hc, zn_s2 hc, zl_s3 hc, zs_s3 hc, zn_s3 hc, zl_s4 hc, zs_s4 hc, zn_s4 hc, zl_s5 hc, zs_s5 hc, zn_s5 hc, zl_s6 hc, zs_s6 hc, zn_s6 hc, zl_s7 hc, zs_s7 hc, zn_s7 hc, zc_s hc, true_and, e0, e5, zix0, show zix 5 = 5 from rfl, u0, u5, v0, hn, c40', hcnt, c56', Option.toList, List.cons_append, List.nil_append]
  unfold sStay
  simp only [if_pos hP]
  have htwo := cN_two s h6 n (fun i hi => (hld i hi).2.2.1)
  have hle := cN_le s (s 6) n
  have hle2 := cN_le s (1 - s 6) n
  simp only [sCnt_cN]
  by_cases g2 : nI (cN s (s 6) n) < s 11
  · simp only [if_pos g2]
    by_cases g3 : sDoc s (s 6) n = true
    · simp only [if_pos g3]
      simp
    · simp only [if_neg g3]
      have e1 : (nI (cN s (s 6) n) ≤ 0) = (cN s (s 6) n = 0) := by
        rw [← nI_0]
        apply propext
        rw [nI_leI (by omega) (by omega)]
        omega
      have e2 : (nI n = nI (cN s (s 6) n)) = (n = cN s (s 6) n) := propext (nI_eq (by omega) (by omega))
      have e3 : (nI (cN s (1 - s 6) n) = 0) = (cN s (1 - s 6) n = 0) := by
        rw [← nI_0]
        exact propext (nI_eq (by omega) (by omega))
      simp only [e1, e2, e3, if_true]
      by_cases g4 : cN s (s 6) n = 0
      · simp only [if_pos g4]
        by_cases g5 : cN s (1 - s 6) n = 0
        · have g6 : n = cN s (s 6) n := by omega
          simp only [if_pos g5]
          rw [if_pos g6, if_neg (by decide)]
        · have g6 : ¬ n = cN s (s 6) n := by omega
          simp only [if_neg g5, if_neg g6, if_true]
      · simp only [if_neg g4]
        rw [if_neg (by decide)]
  · simp only [if_neg g2, if_true]
end
