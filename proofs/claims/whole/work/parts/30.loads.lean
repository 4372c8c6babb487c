/-! loads(), whoBoards() -/
/-- a State of the class, and the first numbers of the reference's row -/
def zV (h : zH) (c : Nat) (s : Nat → Int32) : Prop := (h c 1 = s 0 ∧ h c 12 = s 1 ∧ h c 10 = s 2 ∧ h c 8 = s 3 ∧ h c 9 = s 4 ∧ h c 11 = s 5) ∧ (h (c + 6) 0 = s 6 ∧ h (c + 6) 1 = s 7 ∧ h (c + 6) 2 = s 8 ∧ h (c + 6) 3 = s 9 ∧ h (c + 6) 4 = s 10 ∧ h (c + 6) 5 = s 11) ∧ ∀ l, l < 10 → h (c + 1) l = s (12 + 5 * l + 0) ∧ h (c + 2) l = s (12 + 5 * l + 1) ∧ h (c + 3) l = s (12 + 5 * l + 2) ∧ h (c + 4) l = s (12 + 5 * l + 3) ∧ h (c + 5) l = s (12 + 5 * l + 4)
section
variable {d : Nat} {Q : Option Value → zH → Prop} {h : zH} {x x0 x1 x2 x3 x4 : Int32} {c n k : Nat} {τ : zTau} {s : Nat → Int32}
theorem zTR_same {h h' : zH} (e : h' 61 = h 61) (hT : zTR (h 61) τ) : zTR (h' 61) τ := by rw [e]; exact hT
theorem zTC_sc {h h' : zH} (hc : zst c) (e : sc h h') (hT : zTC h c τ) : zTC h' c τ := by
  have h1 : h' (c + 7) = h (c + 7) := e _ (by rcases hc with rfl | rfl | rfl <;> omega)
  have h2 : h' 4 = h 4 := e _ (by omega)
  have h3 : h' 5 = h 5 := e _ (by omega)
  unfold zTC
  rw [h1, h2, h3]
  exact hT
theorem zV_sc {h h' : zH} (hc : zst c) (e : sc h h') (hV : zV h c s) : zV h' c s := by
  have h0 : h' c = h c := e _ (by rcases hc with rfl | rfl | rfl <;> omega)
  have h1 : ∀ j, h' (c + j) = h (c + j) := fun j => e _ (by rcases hc with rfl | rfl | rfl <;> omega)
  unfold zV
  simp only [h0, h1]
  exact hV
theorem zSh (x : Int32) : x >>> (0 &&& 31) = x >>> (nI 0 &&& 31) := rfl
theorem c137_loop (hn : h 61 0 = nI n) (h10 : n ≤ 10) (hT : zTR (h 61) τ) : ∀ (f : Nat) (h' : zH) (asked aboard room weight : Int32), sm h h' → sMu asked n ≤ f → (∀ h'', sm h h'' → Q (some (.int (sLoads (fun w => pPull (τ 1) (h 61 9) w (h 61 7)) (h 61) (h 60 12) n f asked aboard room weight))) h'') → zR (d + 3) 137 Q 22 [some (.ref 60), some (.int asked), some (.int aboard), some (.int room), some (.int weight), some (.int (sNext (h 61) (h 60 12) asked n))] [] h' := by
  obtain ⟨y1, y2, y3, y4, y5, y6, y7⟩ := zok6
  obtain ⟨w1, w2, w3, w4, w5, w6, w7⟩ := zix6
  intro f
  induction f with
  | zero =>
    intro h' asked aboard room weight hsm hmu hQ
    have hno : sNext (h 61) (h 60 12) asked n = -1 := by
      rcases sNext_in (h 61) (h 60 12) asked n with ⟨e, -⟩ | ⟨j, hj, e, hm⟩
      · exact e
      · exfalso
        have hb : bt asked j = false := by
          unfold sMay at hm
          simp only [Bool.and_eq_true, decide_eq_true_eq] at hm
          have := hm.1.1
          rw [bitOf_bt asked (by omega)] at this
          by_cases q : bt asked j = true
          · rw [if_pos q] at this; exact absurd this (by decide)
          · exact Bool.eq_false_iff.mpr q
        have := sMu_set asked hb (by omega) n (by omega)
        rw [if_pos hj] at this
        omega
    rw [hno]
    simp only [↓r137_0, ↓r137_1, ↓r137_2, ↓r137_3, ↓r137_4, ↓r137_5, ↓r137_8, ↓r137_10, ↓r137_11, ↓r137_12, ↓r137_13, ↓r137_15, ↓r137_16, ↓r137_17, ↓r137_20, ↓r137_24, ↓r137_27, ↓r137_28, ↓r137_29, ↓r137_31, ↓r137_32, ↓r137_33, ↓r137_34, ↓r137_35, ↓r137_37, ↓r137_40, ↓r137_41, ↓r137_44, ↓r137_45, ↓r137_47, ↓r137_48, ↓r137_50, ↓r137_51, ↓r137_54, ↓r137_55, ↓r137_58, ↓r137_59, ↓r137_62, ↓r137_64, ↓r137_65, ↓r137_68, ↓r137_69, ↓r137_70, ↓r137_72, ↓r137_73, ↓r137_74, ↓r137_75, ↓r137_76, ↓r137_77, ↓r137_79, ↓r137_82, ↓r137_83, ↓r137_84, ↓r137_86, ↓r137_87, ↓r137_89, ↓r137_90, ↓r137_93, ↓r137_94, ↓r137_96, ↓r137_97, ↓r137_98, ↓r137_101, ↓r137_103, ↓r137_106, ↓r137_107, r137_22]
    rw [if_pos (by decide)]
    exact hQ h' hsm
  | succ f ih =>
    intro h' asked aboard room weight hsm hmu hQ
    have e61 : h' 61 = h 61 := hsm _ (by omega) (by omega)
    have e60 : h' 60 = h 60 := hsm _ (by omega) (by omega)
    rcases sNext_in (h 61) (h 60 12) asked n with ⟨e, -⟩ | ⟨j, hj, e, hm⟩
    · rw [e]
      simp only [↓r137_0, ↓r137_1, ↓r137_2, ↓r137_3, ↓r137_4, ↓r137_5, ↓r137_8, ↓r137_10, ↓r137_11, ↓r137_12, ↓r137_13, ↓r137_15, ↓r137_16, ↓r137_17, ↓r137_20, ↓r137_24, ↓r137_27, ↓r137_28, ↓r137_29, ↓r137_31, ↓r137_32, ↓r137_33, ↓r137_34, ↓r137_35, ↓r137_37, ↓r137_40, ↓r137_41, ↓r137_44, ↓r137_45, ↓r137_47, ↓r137_48, ↓r137_50, ↓r137_51, ↓r137_54, ↓r137_55, ↓r137_58, ↓r137_59, ↓r137_62, ↓r137_64, ↓r137_65, ↓r137_68, ↓r137_69, ↓r137_70, ↓r137_72, ↓r137_73, ↓r137_74, ↓r137_75, ↓r137_76, ↓r137_77, ↓r137_79, ↓r137_82, ↓r137_83, ↓r137_84, ↓r137_86, ↓r137_87, ↓r137_89, ↓r137_90, ↓r137_93, ↓r137_94, ↓r137_96, ↓r137_97, ↓r137_98, ↓r137_101, ↓r137_103, ↓r137_106, ↓r137_107, r137_22]
      rw [if_pos (by decide)]
      have := hQ h' hsm
      unfold sLoads at this
      rw [e, if_pos (by decide)] at this
      exact this
    · have hb : bt asked j = false := by
        unfold sMay at hm
        simp only [Bool.and_eq_true, decide_eq_true_eq] at hm
        have := hm.1.1
        rw [bitOf_bt asked (by omega)] at this
        by_cases q : bt asked j = true
        · rw [if_pos q] at this; exact absurd this (by decide)
        · exact Bool.eq_false_iff.mpr q
      have hmu' : sMu (asked ||| 1 <<< (nI j &&& 31)) n ≤ f := by
        have := sMu_set asked hb (by omega) n (by omega)
        rw [if_pos hj] at this
        omega
      have hneg : ¬ nI j < 0 := nI_pos (by omega)
      have hzj : zix (nI j) = j := zix_nI (by omega)
      rw [e]
      unfold sLoads at hQ
      simp only [e, if_neg hneg, hzj] at hQ
      rw [r137_22]
      have c121' := fun (Q' : Option Value → zH → Prop) => c121k (d := d + 1) (Q := Q') (h := h') (by omega : j < 10)
      have c113' := fun (Q' : Option Value → zH → Prop) => c113_1 (d := d + 2) (Q := Q') (h := h') (by omega : j < 10)
      have hn' : h' 61 0 = nI n := by rw [e61]; exact hn
      have c136' := fun (z : Int32) (Q' : Option Value → zH → Prop) => c136 (d := d) (Q := Q') (h := h') (x0 := z) hn' h10
      simp only [↓r137_0, ↓r137_1, ↓r137_2, ↓r137_3, ↓r137_4, ↓r137_5, ↓r137_8, ↓r137_10, ↓r137_11, ↓r137_12, ↓r137_13, ↓r137_15, ↓r137_16, ↓r137_17, ↓r137_20, ↓r137_24, ↓r137_27, ↓r137_28, ↓r137_29, ↓r137_31, ↓r137_32, ↓r137_33, ↓r137_34, ↓r137_35, ↓r137_37, ↓r137_40, ↓r137_41, ↓r137_44, ↓r137_45, ↓r137_47, ↓r137_48, ↓r137_50, ↓r137_51, ↓r137_54, ↓r137_55, ↓r137_58, ↓r137_59, ↓r137_62, ↓r137_64, ↓r137_65, ↓r137_68, ↓r137_69, ↓r137_70, ↓r137_72, ↓r137_73, ↓r137_74, ↓r137_75, ↓r137_76, ↓r137_77, ↓r137_79, ↓r137_82, ↓r137_83, ↓r137_84, ↓r137_86, ↓r137_87, ↓r137_89, ↓r137_90, ↓r137_93, ↓r137_94, ↓r137_96, ↓r137_97, ↓r137_98, ↓r137_101, ↓r137_103, ↓r137_106, ↓r137_107, if_neg hneg, c121', c113', e61, e60, Option.toList, List.cons_append, List.nil_append]
      by_cases g1 : kTakes (h 61 (12 + 5 * j + 0)) ≤ room
      · simp only [if_pos g1] at hQ ⊢
        refine d134 (by rw [e61]; exact hT) (fun h2 hsm2 => ?_)
        have e61b : h2 61 = h 61 := (hsm2 _ (by omega) (by omega)).trans e61
        have e60b : h2 60 = h 60 := (hsm2 _ (by omega) (by omega)).trans e60
        have hn2 : h2 61 0 = nI n := by rw [e61b]; exact hn
        have c121b := fun (Q' : Option Value → zH → Prop) => c121k (d := d + 1) (Q := Q') (h := h2) (by omega : j < 10)
        have c113b := fun (Q' : Option Value → zH → Prop) => c113_1 (d := d + 2) (Q := Q') (h := h2) (by omega : j < 10)
        have c136b := fun (z : Int32) (Q' : Option Value → zH → Prop) => c136 (d := d) (Q := Q') (h := h2) (x0 := z) hn2 h10
        simp only [↓r137_0, ↓r137_1, ↓r137_2, ↓r137_3, ↓r137_4, ↓r137_5, ↓r137_8, ↓r137_10, ↓r137_11, ↓r137_12, ↓r137_13, ↓r137_15, ↓r137_16, ↓r137_17, ↓r137_20, ↓r137_24, ↓r137_27, ↓r137_28, ↓r137_29, ↓r137_31, ↓r137_32, ↓r137_33, ↓r137_34, ↓r137_35, ↓r137_37, ↓r137_40, ↓r137_41, ↓r137_44, ↓r137_45, ↓r137_47, ↓r137_48, ↓r137_50, ↓r137_51, ↓r137_54, ↓r137_55, ↓r137_58, ↓r137_59, ↓r137_62, ↓r137_64, ↓r137_65, ↓r137_68, ↓r137_69, ↓r137_70, ↓r137_72, ↓r137_73, ↓r137_74, ↓r137_75, ↓r137_76, ↓r137_77, ↓r137_79, ↓r137_82, ↓r137_83, ↓r137_84, ↓r137_86, ↓r137_87, ↓r137_89, ↓r137_90, ↓r137_93, ↓r137_94, ↓r137_96, ↓r137_97, ↓r137_98, ↓r137_101, ↓r137_103, ↓r137_106, ↓r137_107, zl_61, y3, w3, true_and, e61, e61b, e60b, c121b, c113b, c136b, Option.toList, List.cons_append, List.nil_append]
        by_cases g2 : pPull (τ 1) (h 61 9) (weight + h 61 (12 + 5 * j + 1)) (h 61 7) ≤ h 61 10
        · simp only [if_pos g2] at hQ ⊢
          exact ih h2 _ _ _ _ (sm_tr hsm hsm2) hmu' hQ
        · simp only [if_neg g2] at hQ ⊢
          exact ih h2 _ _ _ _ (sm_tr hsm hsm2) hmu' hQ
      · simp only [if_neg g1, c136', e61, e60, Option.toList, List.cons_append, List.nil_append, ↓r137_0, ↓r137_1, ↓r137_2, ↓r137_3, ↓r137_4, ↓r137_5, ↓r137_8, ↓r137_10, ↓r137_11, ↓r137_12, ↓r137_13, ↓r137_15, ↓r137_16, ↓r137_17, ↓r137_20, ↓r137_24, ↓r137_27, ↓r137_28, ↓r137_29, ↓r137_31, ↓r137_32, ↓r137_33, ↓r137_34, ↓r137_35, ↓r137_37, ↓r137_40, ↓r137_41, ↓r137_44, ↓r137_45, ↓r137_47, ↓r137_48, ↓r137_50, ↓r137_51, ↓r137_54, ↓r137_55, ↓r137_58, ↓r137_59, ↓r137_62, ↓r137_64, ↓r137_65, ↓r137_68, ↓r137_69, ↓r137_70, ↓r137_72, ↓r137_73, ↓r137_74, ↓r137_75, ↓r137_76, ↓r137_77, ↓r137_79, ↓r137_82, ↓r137_83, ↓r137_84, ↓r137_86, ↓r137_87, ↓r137_89, ↓r137_90, ↓r137_93, ↓r137_94, ↓r137_96, ↓r137_97, ↓r137_98, ↓r137_101, ↓r137_103, ↓r137_106, ↓r137_107] at hQ ⊢
        exact ih h' _ _ _ _ hsm hmu' hQ
/-- what LOADING gives -/
def sLoad (τ : zTau) (s : Nat → Int32) (u : Int32) (n : Nat) : Int32 := sLoads (fun w => pPull (τ 1) (s 9) w (s 7)) s u n n 0 0 (s 8) 0
theorem c137 (hn : h 61 0 = nI n) (h10 : n ≤ 10) (hT : zTR (h 61) τ) (hQ : ∀ h', sm h h' → Q (some (.int (sLoad τ (h 61) (h 60 12) n))) h') : zM (d + 4) 137 [.ref 60] h Q := by
  obtain ⟨y1, y2, y3, y4, y5, y6, y7⟩ := zok6
  obtain ⟨w1, w2, w3, w4, w5, w6, w7⟩ := zix6
  rw [m137]
  have c136' := fun (z : Int32) (Q' : Option Value → zH → Prop) => c136 (d := d) (Q := Q') (h := h) (x0 := z) hn h10
  simp only [↓r137_0, ↓r137_1, ↓r137_2, ↓r137_3, ↓r137_4, ↓r137_5, ↓r137_8, ↓r137_10, ↓r137_11, ↓r137_12, ↓r137_13, ↓r137_15, ↓r137_16, ↓r137_17, ↓r137_20, ↓r137_24, ↓r137_27, ↓r137_28, ↓r137_29, ↓r137_31, ↓r137_32, ↓r137_33, ↓r137_34, ↓r137_35, ↓r137_37, ↓r137_40, ↓r137_41, ↓r137_44, ↓r137_45, ↓r137_47, ↓r137_48, ↓r137_50, ↓r137_51, ↓r137_54, ↓r137_55, ↓r137_58, ↓r137_59, ↓r137_62, ↓r137_64, ↓r137_65, ↓r137_68, ↓r137_69, ↓r137_70, ↓r137_72, ↓r137_73, ↓r137_74, ↓r137_75, ↓r137_76, ↓r137_77, ↓r137_79, ↓r137_82, ↓r137_83, ↓r137_84, ↓r137_86, ↓r137_87, ↓r137_89, ↓r137_90, ↓r137_93, ↓r137_94, ↓r137_96, ↓r137_97, ↓r137_98, ↓r137_101, ↓r137_103, ↓r137_106, ↓r137_107, zl_61, y2, w2, true_and, c136', Option.toList, List.cons_append, List.nil_append]
  exact c137_loop hn h10 hT n h 0 0 (h 61 8) 0 (sm_rf h) (sMu_le 0 n) hQ
theorem c49 (hc : zst c) (hV : zV h c s) (hn : s 0 = nI n) (h10 : n ≤ 10) : zM (d + 2) 49 [.ref c, .int x0] h Q = Q (some (.int (sNext s (h c 14) x0 n))) h := by
  obtain ⟨⟨v0, v1, v2, v3, v4, v5⟩, ⟨u0, u1, u2, u3, u4, u5⟩, hl⟩ := hV
  have e0 : zok 0 6 = True := by unfold zok; decide
  rw [m49]
  simp only [↓r49_0, ↓r49_1, ↓r49_2, ↓r49_3, ↓r49_4, ↓r49_5, ↓r49_9, ↓r49_10, ↓r49_13, ↓r49_16, ↓r49_17, ↓r49_20, ↓r49_22, ↓r49_23, ↓r49_24, ↓r49_27, ↓r49_28, ↓r49_29, ↓r49_32, ↓r49_33, ↓r49_35, ↓r49_36, ↓r49_37, ↓r49_38, ↓r49_41, ↓r49_43, ↓r49_44, ↓r49_47, ↓r49_50, ↓r49_51, ↓r49_54, ↓r49_56, ↓r49_57, ↓r49_58, ↓r49_61, ↓r49_63, ↓r49_64, ↓r49_67, ↓r49_69, ↓r49_70, ↓r49_73, ↓r49_75, ↓r49_76, ↓r49_79, ↓r49_81, ↓r49_82, ↓r49_84, ↓r49_85, ↓r49_88, ↓r49_91, ↓r49_92]
  have hs : ∀ (i : Nat) (b : (Int32 × Int32) × Option Value), i < n → ((b.1.1 < 0 ∨ ∃ j, j < i ∧ b.1.1 = nI j) ∧ (¬ b.1.1 < 0 → b.1.2 = sUrg s (zix b.1.1))) → (zR (d + 1) 49 Q 7 [some (.ref c), some (.int x0), some (.int b.1.1), some (.int b.1.2), some (.int (nI i)), b.2] [] h = zR (d + 1) 49 Q 7 [some (.ref c), some (.int x0), some (.int (sNextF s (h c 14) x0 i b.1.1)), some (.int (if sMay s (h c 14) x0 i = true then (if b.1.1 < 0 then sUrg s i else if sUrg s i ≤ b.1.2 then b.1.2 else sUrg s i) else b.1.2)), some (.int (nI (i + 1))), (if sMay s (h c 14) x0 i = true then some (.int (sUrg s i)) else b.2)] [] h) ∧ ((sNextF s (h c 14) x0 i b.1.1 < 0 ∨ ∃ j, j < i + 1 ∧ sNextF s (h c 14) x0 i b.1.1 = nI j) ∧ (¬ sNextF s (h c 14) x0 i b.1.1 < 0 → (if sMay s (h c 14) x0 i = true then (if b.1.1 < 0 then sUrg s i else if sUrg s i ≤ b.1.2 then b.1.2 else sUrg s i) else b.1.2) = sUrg s (zix (sNextF s (h c 14) x0 i b.1.1)))) := by
    intro i b hi hI
    obtain ⟨⟨b, mo⟩, o5⟩ := b
    obtain ⟨hI, hmo⟩ := hI
    simp only at hI hmo
    obtain ⟨l0, l1, l2, l3, l4⟩ := hl i (by omega)
    have hzi : zix (nI i) = i := zix_nI (by omega)
    refine ⟨?_, ?_, ?_⟩
    · have hsu : kUrges (s (12 + 5 * i + 0)) (s (12 + 5 * i + 3)) = sUrg s i := rfl
      rw [r49_7]
      simp only [↓r49_0, ↓r49_1, ↓r49_2, ↓r49_3, ↓r49_4, ↓r49_5, ↓r49_9, ↓r49_10, ↓r49_13, ↓r49_16, ↓r49_17, ↓r49_20, ↓r49_22, ↓r49_23, ↓r49_24, ↓r49_27, ↓r49_28, ↓r49_29, ↓r49_32, ↓r49_33, ↓r49_35, ↓r49_36, ↓r49_37, ↓r49_38, ↓r49_41, ↓r49_43, ↓r49_44, ↓r49_47, ↓r49_50, ↓r49_51, ↓r49_54, ↓r49_56, ↓r49_57, ↓r49_58, ↓r49_61, ↓r49_63, ↓r49_64, ↓r49_67, ↓r49_69, ↓r49_70, ↓r49_73, ↓r49_75, ↓r49_76, ↓r49_79, ↓r49_81, ↓r49_82, ↓r49_84, ↓r49_85, ↓r49_88, ↓r49_91, ↓r49_92, zl_s1 hc, zs_s1 hc, zn_s1 hc, zl_s2 hc, zs_s2 hc, zn_s2 hc, zl_s3 hc, zs_s3 hc, zn_s3 hc, zl_s4 hc, zs_s4 hc, zn_s4 hc, zl_s5 hc, zs_s5 hc, zn_s5 hc, zl_s6 hc, zs_s6 hc, zn_s6 hc, zl_s7 hc, zs_s7 hc, zn_s7 hc, zc_s hc, true_and, e0, zix0, v0, hn, u0, l0, l2, l3, nI_lt hi (by omega : n < 2 ^ 31), if_true, zok_nI (by omega : i < 10) (by omega), zix_nI (by omega : i < 2 ^ 31), Option.toList, List.cons_append, List.nil_append, nI_1, c4, hsu]
      by_cases g2 : s (12 + 5 * i + 2) = s 6
      · by_cases g1 : x0 >>> (nI i &&& 31) &&& 1 = 0
        · by_cases g3 : nI i = h c 14
          · have hmay : ¬ sMay s (h c 14) x0 i = true := by unfold sMay bitOf; simp [g3]
            simp only [if_pos g1, if_pos g2, if_pos g3, sNextF, if_neg hmay]
          · have hmay : sMay s (h c 14) x0 i = true := by unfold sMay bitOf; simp [g1, g2, g3]
            simp only [if_pos g1, if_pos g2, if_neg g3, sNextF, if_pos hmay]
            by_cases hb : b < 0
            · simp only [if_pos hb]
            · simp only [if_neg hb, hmo hb]
              by_cases g5 : sUrg s i ≤ sUrg s (zix b)
              · simp only [if_pos g5]
              · simp only [if_neg g5]
        · have hmay : ¬ sMay s (h c 14) x0 i = true := by unfold sMay bitOf; simp [g1]
          simp only [if_neg g1, if_pos g2, sNextF, if_neg hmay]
      · have hmay : ¬ sMay s (h c 14) x0 i = true := by unfold sMay bitOf; simp [g2]
        simp only [if_neg g2, sNextF, if_neg hmay]
    · unfold sNextF
      split
      · split
        · exact Or.inr ⟨i, by omega, rfl⟩
        · split
          · rcases hI with hb | ⟨j, hj, e⟩
            · exact Or.inl hb
            · exact Or.inr ⟨j, by omega, e⟩
          · exact Or.inr ⟨i, by omega, rfl⟩
      · rcases hI with hb | ⟨j, hj, e⟩
        · exact Or.inl hb
        · exact Or.inr ⟨j, by omega, e⟩
    · unfold sNextF
      by_cases g : sMay s (h c 14) x0 i = true
      · simp only [if_pos g]
        by_cases hb : b < 0
        · simp only [if_pos hb, hzi]
          exact fun _ => trivial
        · simp only [if_neg hb, hmo hb]
          by_cases g5 : sUrg s i ≤ sUrg s (zix b)
          · simp only [if_pos g5]; exact fun _ => trivial
          · simp only [if_neg g5, hzi]; exact fun _ => trivial
      · simp only [if_neg g]
        exact hmo
  have := zloopI (fun i (b : (Int32 × Int32) × Option Value) => zR (d + 1) 49 Q 7 [some (.ref c), some (.int x0), some (.int b.1.1), some (.int b.1.2), some (.int (nI i)), b.2] [] h) (fun i b => (b.1.1 < 0 ∨ ∃ j, j < i ∧ b.1.1 = nI j) ∧ (¬ b.1.1 < 0 → b.1.2 = sUrg s (zix b.1.1))) (fun i b => ((sNextF s (h c 14) x0 i b.1.1, (if sMay s (h c 14) x0 i = true then (if b.1.1 < 0 then sUrg s i else if sUrg s i ≤ b.1.2 then b.1.2 else sUrg s i) else b.1.2)), (if sMay s (h c 14) x0 i = true then some (.int (sUrg s i)) else b.2))) n hs ((-1, 0), none) ⟨Or.inl (by decide), fun q => absurd (by decide) q⟩
  obtain ⟨hW, -⟩ := this
  simp only [nI_0] at hW
  rw [hW]
  have hfst : ∀ j, (zfo (fun i (b : (Int32 × Int32) × Option Value) => ((sNextF s (h c 14) x0 i b.1.1, (if sMay s (h c 14) x0 i = true then (if b.1.1 < 0 then sUrg s i else if sUrg s i ≤ b.1.2 then b.1.2 else sUrg s i) else b.1.2)), (if sMay s (h c 14) x0 i = true then some (Value.int (sUrg s i)) else b.2))) j ((-1, 0), none)).1.1 = zfo (sNextF s (h c 14) x0) j (-1) := by
    intro j
    induction j with
    | zero => rfl
    | succ j ih => simp only [zfo, ih]
  rw [hfst, r49_7]
  simp only [↓r49_0, ↓r49_1, ↓r49_2, ↓r49_3, ↓r49_4, ↓r49_5, ↓r49_9, ↓r49_10, ↓r49_13, ↓r49_16, ↓r49_17, ↓r49_20, ↓r49_22, ↓r49_23, ↓r49_24, ↓r49_27, ↓r49_28, ↓r49_29, ↓r49_32, ↓r49_33, ↓r49_35, ↓r49_36, ↓r49_37, ↓r49_38, ↓r49_41, ↓r49_43, ↓r49_44, ↓r49_47, ↓r49_50, ↓r49_51, ↓r49_54, ↓r49_56, ↓r49_57, ↓r49_58, ↓r49_61, ↓r49_63, ↓r49_64, ↓r49_67, ↓r49_69, ↓r49_70, ↓r49_73, ↓r49_75, ↓r49_76, ↓r49_79, ↓r49_81, ↓r49_82, ↓r49_84, ↓r49_85, ↓r49_88, ↓r49_91, ↓r49_92, zl_s1 hc, zs_s1 hc, zn_s1 hc, zl_s2 hc, zs_s2 hc, zn_s2 hc, zl_s3 hc, zs_s3 hc, zn_s3 hc, zl_s4 hc, zs_s4 hc, zn_s4 hc, zl_s5 hc, zs_s5 hc, zn_s5 hc, zl_s6 hc, zs_s6 hc, zn_s6 hc, zl_s7 hc, zs_s7 hc, zn_s7 hc, zc_s hc, true_and, v0, hn, nI_nlt (Nat.le_refl n) (by omega), if_false, sNext]
end
