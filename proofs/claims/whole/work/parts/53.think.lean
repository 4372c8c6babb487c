/-! what is only thought: behind, slant -/
def td (h h' : zH) : Prop := ∀ c, ¬ (26 ≤ c ∧ c ≤ 33) → c ≠ 6 → h' c = h c
def rd (h h' : zH) : Prop := ∀ c, c ≠ 61 → c ≠ 73 → c ≠ 75 → c ≠ 76 → h' c = h c
def pkC (B : Int32 → Int32 → Bool) (V : Nat → Int32) (i : Nat) (p : Int32 × Int32) : Int32 × Int32 := if i = 0 ∨ B (V i) p.2 = true then (nI i, V i) else p
def pkR (B : Int32 → Int32 → Bool) (V : Nat → Int32) (i : Nat) (p : Int32 × Int32) : Int32 × Int32 := if p.1 < 0 ∨ B (V i) p.2 = true then (nI i, V i) else p
section
variable {d : Nat} {x0 x1 x2 x3 x4 v x z a u : Int32} {h h' h1 h2 : zH} {n m N n' m' k w j f b c t i F : Nat} {s row row' : Nat → Int32} {Q : Option Value → zH → Prop} {τ : zTau}
theorem td_rf : td h h := fun _ _ _ => rfl
theorem td_tr (a : td h h1) (b : td h1 h2) : td h h2 := fun c x y => (b c x y).trans (a c x y)
theorem rd_rf : rd h h := fun _ _ _ _ _ => rfl
theorem rd_tr (a : rd h h1) (b : rd h1 h2) : rd h h2 := fun c x y z w => (b c x y z w).trans (a c x y z w)
theorem rd_sr (a : sr h h1) : rd h h1 := fun c x _ y z => a c x y z
theorem td_sq (a : sq 26 h h1) : td h h1 := fun c x y => a.1 c (by omega) (by omega) (by omega) (by omega) (by omega) y
theorem pkeq (B : Int32 → Int32 → Bool) (V : Nat → Int32) (p q : Int32 × Int32) (hp : p.1 < 0) : ∀ n, n < 1000 → zfo (pkR B V) (n + 1) p = zfo (pkC B V) (n + 1) q ∧ ¬ (zfo (pkC B V) (n + 1) q).1 < 0
  | 0, _ => by
    show pkR B V 0 p = pkC B V 0 q ∧ ¬ (pkC B V 0 q).1 < 0
    unfold pkR pkC
    rw [if_pos (Or.inl hp), if_pos (Or.inl rfl)]
    exact ⟨rfl, by show ¬ nI 0 < 0; decide⟩
  | n + 1, h => by
    obtain ⟨e, g⟩ := pkeq B V p q hp n (by omega)
    show pkR B V (n + 1) (zfo (pkR B V) (n + 1) p) = pkC B V (n + 1) (zfo (pkC B V) (n + 1) q) ∧ ¬ (pkC B V (n + 1) (zfo (pkC B V) (n + 1) q)).1 < 0
    rw [e]
    generalize zfo (pkC B V) (n + 1) q = r at g ⊢
    unfold pkR pkC
    by_cases g2 : B (V (n + 1)) r.2 = true
    · rw [if_pos (Or.inr g2), if_pos (Or.inr g2)]
      exact ⟨rfl, nI_pos (by omega)⟩
    · rw [if_neg (fun z => z.elim g g2), if_neg (fun z => z.elim (by omega) g2)]
      exact ⟨rfl, g⟩
theorem zRel_th (hR : zRelN h n m N) (e : ∀ c, ¬ (26 ≤ c ∧ c ≤ 33) → c ≠ 6 → c ≠ 73 → c ≠ 75 → c ≠ 76 → c ≠ 79 → h' c = h c) : zRelN h' n m N := by
  obtain ⟨⟨hSt, hm⟩, hu, hI, hSh, hSl, hNu, hTa⟩ := hR
  have o : ∀ c, ¬ (26 ≤ c ∧ c ≤ 33) ∧ c ≠ 6 ∧ c ≠ 73 ∧ c ≠ 75 ∧ c ≠ 76 ∧ c ≠ 79 → h' c = h c := fun c q => e c q.1 q.2.1 q.2.2.1 q.2.2.2.1 q.2.2.2.2.1 q.2.2.2.2.2
  have e0 : h' 0 = h 0 := o _ (by omega)
  have e60 : h' 60 = h 60 := o _ (by omega)
  refine ⟨⟨?_, hm⟩, by rw [e60]; exact hu, rImg_keep hI (fun c' hc' => o _ (by omega)) (by rw [e0]) (by rw [e60]), rSheets_keep hSh (fun c' hc' => o _ (by omega)), rSlots_keep hSl (fun c' hc' => o _ (by omega)), ?_, ?_⟩
  · rw [o 61 (by omega)]
    exact zSt_keep hSt (fun j hj => o _ (by omega)) (fun c' a b => o _ (by omega))
  · rw [e0, e60, o 59 (by omega), o 78 (by omega)]; exact hNu
  · rw [e60, o 7 (by omega), o 8 (by omega), o 74 (by omega)]; exact hTa
theorem zTC_o (e3 : h' (c + 7) = h (c + 7)) (e4 : h' 4 = h 4) (e5 : h' 5 = h 5) (hT : zTC h c τ) : zTC h' c τ := by
  intro key hk
  rw [e3, e4, e5]
  exact hT key hk
theorem th_become (hV : zV h b s) (hT : zTC h b τ) (h14 : h b 14 = -1) (hb : b = 10 ∨ b = 18) (e : td h h1) (hQ : ∀ h2, td h h2 → zV h2 26 s → zTC h2 26 τ → h2 26 14 = -1 → Q none h2) : zM (d + 2) 36 [.ref 26, .ref b] h1 Q := by
  have hb' : zst b := by rcases hb with rfl | rfl; exact zst10; exact zst18
  refine c36 zst26 hb' (by omega) fun h2 e2 es => ?_
  have hV1 : zV h1 b s := zV_rows hV (e _ (by omega) (by omega)) (fun j hj => e _ (by omega) (by omega))
  have hT1 : zTC h1 b τ := zTC_o (e _ (by omega) (by omega)) (e _ (by omega) (by omega)) (e _ (by omega) (by omega)) hT
  refine hQ h2 (fun c x y => (e2 c (by omega)).trans (e c x y)) (zV_same es hV1) (zTC_same es (e2 _ (by omega)) (e2 _ (by omega)) hT1) ?_
  rw [es.1.2.2.2.2.2.2, e b (by omega) (by omega)]
  exact h14
theorem th_go (hV : zV h1 26 s) (hT : zTC h1 26 τ) (h14 : h1 26 14 = u) (hB : zB s n m) (hm : m + f ≤ 30000) (e : td h h1) (hQ : ∀ h2, td h h2 → zV h2 26 (stepN τ u n f s) → zTC h2 26 τ → h2 26 14 = u → Q none h2) : zM (d + 7) 53 [.ref 26, .int (nI f)] h1 Q := by
  refine c53 zst26 hV hB hT hm fun h2 e2 hV2 => ?_
  rw [h14] at hV2
  exact hQ h2 (td_tr e (td_sq e2)) hV2 (zTC_sq zst26 e2 hT) (e2.2.trans h14)
theorem th_row {h2 : zH} (hV : zV h2 c s) (h10 : n ≤ 10) (hj : (j = 4 ∧ w = 3) ∨ (j = 5 ∧ w = 4)) : zfo (fun i a => a + h2 (c + j) i) n 0 = sSum s w n := by
  rcases hj with ⟨rfl, rfl⟩ | ⟨rfl, rfl⟩
  · exact zfo_cong (fun i a hi => by rw [(hV.2.2 i (by omega)).2.2.2.1]) _
  · exact zfo_cong (fun i a hi => by rw [(hV.2.2 i (by omega)).2.2.2.2]) _
theorem c41s (hc : zst c) (hV : zV h c s) (hn : s 0 = nI n) (h10 : n ≤ 10) : zM (d + 1) 41 [.ref c, .ref (c + 4)] h Q = Q (some (.int (sSum s 3 n))) h := by
  rw [c41 (Or.inl rfl) hc (hV.1.1.trans hn) h10, th_row hV h10 (Or.inl ⟨rfl, rfl⟩)]
/-- the reference lays by, and back -/
theorem lay_eq (e : ∀ k, 62 ≤ k → row k = s k) (r73 : Nat → Int32) (h73 : ∀ k, k < 62 → r73 k = s k) : (fun k => if k < 62 then r73 k else row k) = s := by
  funext k
  by_cases g : k < 62
  · rw [if_pos g, h73 k g]
  · rw [if_neg g, e k (by omega)]
theorem p_behind : zPair (d + 20) (d + 20) 73 153 [.int x0, .int x1] := by
  intro h Q2 hR hQ
  have hR0 := hR
  obtain ⟨n, m, N, hRN⟩ := hR
  obtain ⟨⟨hSt, hm⟩, hu, -⟩ := id hRN
  obtain ⟨⟨hn, h10⟩, -⟩ := hSt.2.1
  obtain ⟨hTC, hTR⟩ := zSt_tau hSt
  rw [m73]
  simp only [↓r73_0, ↓r73_1, ↓r73_2, ↓r73_4, ↓r73_7, ↓r73_10, ↓r73_11, ↓r73_12, ↓r73_13, ↓r73_16, ↓r73_19, ↓r73_21, ↓r73_22, ↓r73_23, ↓r73_26, ↓r73_27, ↓r73_30, ↓r73_33, ↓r73_34, ↓r73_37, ↓r73_38, ↓r73_41, ↓r73_72, ↓r73_73, ↓r73_76, ↓r73_79, ↓r73_80, ↓r73_81, ↓r73_84, ↓r73_87, ↓r73_88, ↓r73_89, ↓r73_92, ↓r73_93, ↓r73_96, ↓r73_99, ↓r73_102, ↓r73_103, ↓r73_104, ↓r73_107, ↓r73_110, ↓r73_111, ↓r73_112, ↓r73_113, ↓r73_114, ↓r73_117, ↓r73_120, ↓r73_121, ↓r73_122, zc_10, zc_18, zc_26, zc_0, zc_1, zc_7, zc_60, Nat.reduceAdd, true_and, c103, Option.toList, List.cons_append, List.nil_append]
  by_cases g0 : 0 ≤ x0 ∧ x0 ≤ 100
  · by_cases g1 : 0 ≤ x1 ∧ x1 ≤ 4
    · simp (decide := true) only [if_pos g0, if_pos g1, ↓reduceIte]
      obtain ⟨f, hf, rfl⟩ := hasN (q := 100) (by decide) g0
      refine th_become hSt.1 hTC hSt.2.2.2.2.2 (Or.inl rfl) td_rf fun h1 e1 hV1 hT1 h14 => ?_
      simp only [↓r73_0, ↓r73_1, ↓r73_2, ↓r73_4, ↓r73_7, ↓r73_10, ↓r73_11, ↓r73_12, ↓r73_13, ↓r73_16, ↓r73_19, ↓r73_21, ↓r73_22, ↓r73_23, ↓r73_26, ↓r73_27, ↓r73_30, ↓r73_33, ↓r73_34, ↓r73_37, ↓r73_38, ↓r73_41, ↓r73_72, ↓r73_73, ↓r73_76, ↓r73_79, ↓r73_80, ↓r73_81, ↓r73_84, ↓r73_87, ↓r73_88, ↓r73_89, ↓r73_92, ↓r73_93, ↓r73_96, ↓r73_99, ↓r73_102, ↓r73_103, ↓r73_104, ↓r73_107, ↓r73_110, ↓r73_111, ↓r73_112, ↓r73_113, ↓r73_114, ↓r73_117, ↓r73_120, ↓r73_121, ↓r73_122, zc_10, zc_18, zc_26, zc_0, zc_1, zc_7, zc_60, Nat.reduceAdd, true_and, Option.toList, List.cons_append, List.nil_append]
      refine th_go hV1 hT1 h14 hSt.2.1 (by omega) e1 fun h2 e2 hV2 hT2 h14' => ?_
      simp only [↓r73_0, ↓r73_1, ↓r73_2, ↓r73_4, ↓r73_7, ↓r73_10, ↓r73_11, ↓r73_12, ↓r73_13, ↓r73_16, ↓r73_19, ↓r73_21, ↓r73_22, ↓r73_23, ↓r73_26, ↓r73_27, ↓r73_30, ↓r73_33, ↓r73_34, ↓r73_37, ↓r73_38, ↓r73_41, ↓r73_72, ↓r73_73, ↓r73_76, ↓r73_79, ↓r73_80, ↓r73_81, ↓r73_84, ↓r73_87, ↓r73_88, ↓r73_89, ↓r73_92, ↓r73_93, ↓r73_96, ↓r73_99, ↓r73_102, ↓r73_103, ↓r73_104, ↓r73_107, ↓r73_110, ↓r73_111, ↓r73_112, ↓r73_113, ↓r73_114, ↓r73_117, ↓r73_120, ↓r73_121, ↓r73_122, zc_10, zc_18, zc_26, zc_0, zc_1, zc_7, zc_60, Nat.reduceAdd, true_and, Option.toList, List.cons_append, List.nil_append]
      have hS0 : stepN (zTauOf h 10) (-1) n f (h 61) 0 = nI n := by rw [stepN_keep h10 (by omega)]; exact hn
      have e61 : h2 61 = h 61 := e2 _ (by omega) (by omega)
      have e60 : h2 60 = h 60 := e2 _ (by omega) (by omega)
      have hr : ∀ v, (∀ h3 : zH, h3 61 = stepN (zTauOf h 10) (-1) n f (h 61) → (∀ h4, h4 = h3 → zR (d + 19) 153 (zPq v Q2) 98 [some (.ref 60), some (.int (nI f)), some (.int x1), none] [.int v] h4) → zR (d + 19) 153 (zPq v Q2) 36 [some (.ref 60), some (.int (nI f)), some (.int x1), none] [] h3) → zPo h (d + 20) 153 [.int (nI f), .int x1] Q2 (some (.int v)) h2 := by
        intro v hv
        refine zPo_in (e2 _ (by omega) (by omega)) (e2 _ (by omega) (by omega)) ?_
        rw [m153]
        simp (decide := true) only [↓r153_0, ↓r153_1, ↓r153_2, ↓r153_3, ↓r153_6, ↓r153_9, ↓r153_12, ↓r153_13, ↓r153_14, ↓r153_15, ↓r153_18, ↓r153_21, ↓r153_24, ↓r153_26, ↓r153_27, ↓r153_28, ↓r153_31, ↓r153_32, ↓r153_33, ↓r153_37, ↓r153_40, ↓r153_41, ↓r153_44, ↓r153_45, ↓r153_46, ↓r153_49, ↓r153_50, ↓r153_51, ↓r153_54, ↓r153_55, ↓r153_58, ↓r153_59, ↓r153_60, ↓r153_63, ↓r153_64, ↓r153_65, ↓r153_68, ↓r153_69, ↓r153_70, ↓r153_73, ↓r153_76, ↓r153_77, ↓r153_78, ↓r153_81, ↓r153_82, ↓r153_85, ↓r153_87, ↓r153_88, ↓r153_91, ↓r153_92, ↓r153_95, ↓r153_97, ↓r153_98, ↓r153_99, ↓r153_100, ↓r153_103, ↓r153_104, c106, if_pos g0, if_pos g1, ↓reduceIte, Option.toList, List.cons_append, List.nil_append]
        refine c150 ?_
        simp only [↓r153_0, ↓r153_1, ↓r153_2, ↓r153_3, ↓r153_6, ↓r153_9, ↓r153_12, ↓r153_13, ↓r153_14, ↓r153_15, ↓r153_18, ↓r153_21, ↓r153_24, ↓r153_26, ↓r153_27, ↓r153_28, ↓r153_31, ↓r153_32, ↓r153_33, ↓r153_37, ↓r153_40, ↓r153_41, ↓r153_44, ↓r153_45, ↓r153_46, ↓r153_49, ↓r153_50, ↓r153_51, ↓r153_54, ↓r153_55, ↓r153_58, ↓r153_59, ↓r153_60, ↓r153_63, ↓r153_64, ↓r153_65, ↓r153_68, ↓r153_69, ↓r153_70, ↓r153_73, ↓r153_76, ↓r153_77, ↓r153_78, ↓r153_81, ↓r153_82, ↓r153_85, ↓r153_87, ↓r153_88, ↓r153_91, ↓r153_92, ↓r153_95, ↓r153_97, ↓r153_98, ↓r153_99, ↓r153_100, ↓r153_103, ↓r153_104, Option.toList, List.cons_append, List.nil_append]
        refine c152 (n := n) (m := m) (τ := zTauOf h 10) ?_ ?_ (by omega) fun h3 e3 e3b => ?_
        · rw [zhr_ne _ _ (by omega), e61]; exact hSt.2.1
        · rw [zhr_ne _ _ (by omega), e61]; exact hTR
        · rw [zhr_ne _ _ (by omega : 60 ≠ 73), zhr_ne _ _ (by omega : 61 ≠ 73), e60, e61, hu] at e3b
          simp only [↓r153_0, ↓r153_1, ↓r153_2, ↓r153_3, ↓r153_6, ↓r153_9, ↓r153_12, ↓r153_13, ↓r153_14, ↓r153_15, ↓r153_18, ↓r153_21, ↓r153_24, ↓r153_26, ↓r153_27, ↓r153_28, ↓r153_31, ↓r153_32, ↓r153_33, ↓r153_37, ↓r153_40, ↓r153_41, ↓r153_44, ↓r153_45, ↓r153_46, ↓r153_49, ↓r153_50, ↓r153_51, ↓r153_54, ↓r153_55, ↓r153_58, ↓r153_59, ↓r153_60, ↓r153_63, ↓r153_64, ↓r153_65, ↓r153_68, ↓r153_69, ↓r153_70, ↓r153_73, ↓r153_76, ↓r153_77, ↓r153_78, ↓r153_81, ↓r153_82, ↓r153_85, ↓r153_87, ↓r153_88, ↓r153_91, ↓r153_92, ↓r153_95, ↓r153_97, ↓r153_98, ↓r153_99, ↓r153_100, ↓r153_103, ↓r153_104, Option.toList, List.cons_append, List.nil_append]
          refine hv h3 e3b fun h4 e4 => ?_
          subst e4
          simp only [↓r153_0, ↓r153_1, ↓r153_2, ↓r153_3, ↓r153_6, ↓r153_9, ↓r153_12, ↓r153_13, ↓r153_14, ↓r153_15, ↓r153_18, ↓r153_21, ↓r153_24, ↓r153_26, ↓r153_27, ↓r153_28, ↓r153_31, ↓r153_32, ↓r153_33, ↓r153_37, ↓r153_40, ↓r153_41, ↓r153_44, ↓r153_45, ↓r153_46, ↓r153_49, ↓r153_50, ↓r153_51, ↓r153_54, ↓r153_55, ↓r153_58, ↓r153_59, ↓r153_60, ↓r153_63, ↓r153_64, ↓r153_65, ↓r153_68, ↓r153_69, ↓r153_70, ↓r153_73, ↓r153_76, ↓r153_77, ↓r153_78, ↓r153_81, ↓r153_82, ↓r153_85, ↓r153_87, ↓r153_88, ↓r153_91, ↓r153_92, ↓r153_95, ↓r153_97, ↓r153_98, ↓r153_99, ↓r153_100, ↓r153_103, ↓r153_104, Option.toList, List.cons_append, List.nil_append]
          refine c151 ?_
          simp only [↓r153_0, ↓r153_1, ↓r153_2, ↓r153_3, ↓r153_6, ↓r153_9, ↓r153_12, ↓r153_13, ↓r153_14, ↓r153_15, ↓r153_18, ↓r153_21, ↓r153_24, ↓r153_26, ↓r153_27, ↓r153_28, ↓r153_31, ↓r153_32, ↓r153_33, ↓r153_37, ↓r153_40, ↓r153_41, ↓r153_44, ↓r153_45, ↓r153_46, ↓r153_49, ↓r153_50, ↓r153_51, ↓r153_54, ↓r153_55, ↓r153_58, ↓r153_59, ↓r153_60, ↓r153_63, ↓r153_64, ↓r153_65, ↓r153_68, ↓r153_69, ↓r153_70, ↓r153_73, ↓r153_76, ↓r153_77, ↓r153_78, ↓r153_81, ↓r153_82, ↓r153_85, ↓r153_87, ↓r153_88, ↓r153_91, ↓r153_92, ↓r153_95, ↓r153_97, ↓r153_98, ↓r153_99, ↓r153_100, ↓r153_103, ↓r153_104, Option.toList, List.cons_append, List.nil_append]
          have ek : ∀ c, ¬ (26 ≤ c ∧ c ≤ 33) → c ≠ 6 → c ≠ 61 → c ≠ 73 → c ≠ 75 → c ≠ 76 → h4 c = h c := fun c a1 a2 a3 a4 a5 a6 => ((e3 c a3 a5 a6).trans (zhr_ne _ _ a4)).trans (e2 c a1 a2)
          refine zPq_in rfl (hQ _ _ ⟨n, m, N, zRel_th hRN (fun c a1 a2 a3 a4 a5 _ => ?_)⟩ (by rw [zhr_ne _ _ (by omega)]; exact ek _ (by omega) (by omega) (by omega) (by omega) (by omega) (by omega)) (by rw [zhr_ne _ _ (by omega)]; exact ek _ (by omega) (by omega) (by omega) (by omega) (by omega) (by omega)))
          by_cases gc : c = 61
          · subst gc
            rw [zhr_same, e3b]
            refine lay_eq (fun k hk => stepN_keep h10 (by omega) f) (h4 73) (fun k hk => ?_)
            rw [e3 73 (by omega) (by omega) (by omega), zhr_same]
            show (if k < 62 then h2 61 k else h2 73 k) = _
            rw [if_pos hk, e61]
          · rw [zhr_ne _ _ gc]
            exact ek c a1 a2 gc a3 a4 a5
      have hx : x1 = 0 ∨ x1 = 1 ∨ x1 = 2 ∨ x1 = 3 ∨ x1 = 4 := by
        rcases sw9 x1 with e | e | e | e | e | e | e | e | e | ⟨n0, n1, n2, n3, n4, n5, n6, n7, n8⟩
        · exact Or.inl e
        · exact Or.inr (Or.inl e)
        · exact Or.inr (Or.inr (Or.inl e))
        · exact Or.inr (Or.inr (Or.inr (Or.inl e)))
        · exact Or.inr (Or.inr (Or.inr (Or.inr e)))
        all_goals (exfalso; grind)
      have c41' := fun (Q' : Option Value → zH → Prop) => c41s (d := d + 18) (Q := Q') zst26 hV2 hS0 h10
      obtain ⟨⟨v0, v1, v2, v3, v4, v5⟩, ⟨u0, u1, u2, u3, u4, u5⟩, -⟩ := id hV2
      have u0' : h2 32 0 = stepN (zTauOf h 10) (-1) n f (h 61) 6 := u0
      have u3' : h2 32 3 = stepN (zTauOf h 10) (-1) n f (h 61) 9 := u3
      rcases hx with rfl | rfl | rfl | rfl | rfl
      · simp (decide := true) only [↓reduceIte, ↓r73_0, ↓r73_1, ↓r73_2, ↓r73_4, ↓r73_7, ↓r73_10, ↓r73_11, ↓r73_12, ↓r73_13, ↓r73_16, ↓r73_19, ↓r73_21, ↓r73_22, ↓r73_23, ↓r73_26, ↓r73_27, ↓r73_30, ↓r73_33, ↓r73_34, ↓r73_37, ↓r73_38, ↓r73_41, ↓r73_42, ↓r73_72, ↓r73_73, ↓r73_76, ↓r73_79, ↓r73_80, ↓r73_81, ↓r73_84, ↓r73_87, ↓r73_88, ↓r73_89, ↓r73_92, ↓r73_93, ↓r73_96, ↓r73_99, ↓r73_102, ↓r73_103, ↓r73_104, ↓r73_107, ↓r73_110, ↓r73_111, ↓r73_112, ↓r73_113, ↓r73_114, ↓r73_117, ↓r73_120, ↓r73_121, ↓r73_122, zc_10, zc_18, zc_26, zc_0, zc_1, zc_7, zc_60, Nat.reduceAdd, true_and, v4]
        refine hr _ fun h3 e3 k => ?_
        simp (decide := true) only [↓reduceIte, ↓r153_0, ↓r153_1, ↓r153_2, ↓r153_3, ↓r153_6, ↓r153_9, ↓r153_12, ↓r153_13, ↓r153_14, ↓r153_15, ↓r153_18, ↓r153_21, ↓r153_24, ↓r153_26, ↓r153_27, ↓r153_28, ↓r153_31, ↓r153_32, ↓r153_33, ↓r153_36, ↓r153_37, ↓r153_40, ↓r153_41, ↓r153_44, ↓r153_45, ↓r153_46, ↓r153_49, ↓r153_50, ↓r153_51, ↓r153_54, ↓r153_55, ↓r153_58, ↓r153_59, ↓r153_60, ↓r153_63, ↓r153_64, ↓r153_65, ↓r153_68, ↓r153_69, ↓r153_70, ↓r153_73, ↓r153_76, ↓r153_77, ↓r153_78, ↓r153_81, ↓r153_82, ↓r153_85, ↓r153_87, ↓r153_88, ↓r153_91, ↓r153_92, ↓r153_95, ↓r153_97, ↓r153_99, ↓r153_100, ↓r153_103, ↓r153_104, zc_10, zc_18, zc_26, zc_0, zc_1, zc_7, zc_60, Nat.reduceAdd, true_and, zl_61, zok6, zix6, e3]
        exact k h3 rfl
      · simp (decide := true) only [↓reduceIte, ↓r73_0, ↓r73_1, ↓r73_2, ↓r73_4, ↓r73_7, ↓r73_10, ↓r73_11, ↓r73_12, ↓r73_13, ↓r73_16, ↓r73_19, ↓r73_21, ↓r73_22, ↓r73_23, ↓r73_26, ↓r73_27, ↓r73_30, ↓r73_33, ↓r73_34, ↓r73_37, ↓r73_38, ↓r73_41, ↓r73_42, ↓r73_72, ↓r73_73, ↓r73_76, ↓r73_79, ↓r73_80, ↓r73_81, ↓r73_84, ↓r73_87, ↓r73_88, ↓r73_89, ↓r73_92, ↓r73_93, ↓r73_96, ↓r73_99, ↓r73_102, ↓r73_103, ↓r73_104, ↓r73_107, ↓r73_110, ↓r73_111, ↓r73_112, ↓r73_113, ↓r73_114, ↓r73_117, ↓r73_120, ↓r73_121, ↓r73_122, zc_10, zc_18, zc_26, zc_0, zc_1, zc_7, zc_60, Nat.reduceAdd, true_and, v3]
        refine hr _ fun h3 e3 k => ?_
        simp (decide := true) only [↓reduceIte, ↓r153_0, ↓r153_1, ↓r153_2, ↓r153_3, ↓r153_6, ↓r153_9, ↓r153_12, ↓r153_13, ↓r153_14, ↓r153_15, ↓r153_18, ↓r153_21, ↓r153_24, ↓r153_26, ↓r153_27, ↓r153_28, ↓r153_31, ↓r153_32, ↓r153_33, ↓r153_36, ↓r153_37, ↓r153_40, ↓r153_41, ↓r153_44, ↓r153_45, ↓r153_46, ↓r153_49, ↓r153_50, ↓r153_51, ↓r153_54, ↓r153_55, ↓r153_58, ↓r153_59, ↓r153_60, ↓r153_63, ↓r153_64, ↓r153_65, ↓r153_68, ↓r153_69, ↓r153_70, ↓r153_73, ↓r153_76, ↓r153_77, ↓r153_78, ↓r153_81, ↓r153_82, ↓r153_85, ↓r153_87, ↓r153_88, ↓r153_91, ↓r153_92, ↓r153_95, ↓r153_97, ↓r153_99, ↓r153_100, ↓r153_103, ↓r153_104, zc_10, zc_18, zc_26, zc_0, zc_1, zc_7, zc_60, Nat.reduceAdd, true_and, zl_61, zok6, zix6, e3]
        exact k h3 rfl
      · simp (decide := true) only [↓reduceIte, ↓r73_0, ↓r73_1, ↓r73_2, ↓r73_4, ↓r73_7, ↓r73_10, ↓r73_11, ↓r73_12, ↓r73_13, ↓r73_16, ↓r73_19, ↓r73_21, ↓r73_22, ↓r73_23, ↓r73_26, ↓r73_27, ↓r73_30, ↓r73_33, ↓r73_34, ↓r73_37, ↓r73_38, ↓r73_41, ↓r73_42, ↓r73_72, ↓r73_73, ↓r73_76, ↓r73_79, ↓r73_80, ↓r73_81, ↓r73_84, ↓r73_87, ↓r73_88, ↓r73_89, ↓r73_92, ↓r73_93, ↓r73_96, ↓r73_99, ↓r73_102, ↓r73_103, ↓r73_104, ↓r73_107, ↓r73_110, ↓r73_111, ↓r73_112, ↓r73_113, ↓r73_114, ↓r73_117, ↓r73_120, ↓r73_121, ↓r73_122, zc_10, zc_18, zc_26, zc_0, zc_1, zc_7, zc_60, Nat.reduceAdd, true_and, c41', Option.toList, List.cons_append, List.nil_append]
        refine hr _ fun h3 e3 k => ?_
        have c146' := fun (Q' : Option Value → zH → Prop) => c146 (d := d + 17) (h := h3) (Q := Q') (w := 3) (x0 := 3) (Or.inl ⟨rfl, rfl⟩) (by rw [e3]; exact hS0) h10
        simp (decide := true) only [↓reduceIte, ↓r153_0, ↓r153_1, ↓r153_2, ↓r153_3, ↓r153_6, ↓r153_9, ↓r153_12, ↓r153_13, ↓r153_14, ↓r153_15, ↓r153_18, ↓r153_21, ↓r153_24, ↓r153_26, ↓r153_27, ↓r153_28, ↓r153_31, ↓r153_32, ↓r153_33, ↓r153_36, ↓r153_37, ↓r153_40, ↓r153_41, ↓r153_44, ↓r153_45, ↓r153_46, ↓r153_49, ↓r153_50, ↓r153_51, ↓r153_54, ↓r153_55, ↓r153_58, ↓r153_59, ↓r153_60, ↓r153_63, ↓r153_64, ↓r153_65, ↓r153_68, ↓r153_69, ↓r153_70, ↓r153_73, ↓r153_76, ↓r153_77, ↓r153_78, ↓r153_81, ↓r153_82, ↓r153_85, ↓r153_87, ↓r153_88, ↓r153_91, ↓r153_92, ↓r153_95, ↓r153_97, ↓r153_99, ↓r153_100, ↓r153_103, ↓r153_104, zc_10, zc_18, zc_26, zc_0, zc_1, zc_7, zc_60, Nat.reduceAdd, true_and, c146', Option.toList, List.cons_append, List.nil_append, e3]
        exact k h3 rfl
      · simp (decide := true) only [↓reduceIte, ↓r73_0, ↓r73_1, ↓r73_2, ↓r73_4, ↓r73_7, ↓r73_10, ↓r73_11, ↓r73_12, ↓r73_13, ↓r73_16, ↓r73_19, ↓r73_21, ↓r73_22, ↓r73_23, ↓r73_26, ↓r73_27, ↓r73_30, ↓r73_33, ↓r73_34, ↓r73_37, ↓r73_38, ↓r73_41, ↓r73_42, ↓r73_72, ↓r73_73, ↓r73_76, ↓r73_79, ↓r73_80, ↓r73_81, ↓r73_84, ↓r73_87, ↓r73_88, ↓r73_89, ↓r73_92, ↓r73_93, ↓r73_96, ↓r73_99, ↓r73_102, ↓r73_103, ↓r73_104, ↓r73_107, ↓r73_110, ↓r73_111, ↓r73_112, ↓r73_113, ↓r73_114, ↓r73_117, ↓r73_120, ↓r73_121, ↓r73_122, zc_10, zc_18, zc_26, zc_0, zc_1, zc_7, zc_60, Nat.reduceAdd, true_and, zl_32, zoks, zixs, u0']
        refine hr _ fun h3 e3 k => ?_
        simp (decide := true) only [↓reduceIte, ↓r153_0, ↓r153_1, ↓r153_2, ↓r153_3, ↓r153_6, ↓r153_9, ↓r153_12, ↓r153_13, ↓r153_14, ↓r153_15, ↓r153_18, ↓r153_21, ↓r153_24, ↓r153_26, ↓r153_27, ↓r153_28, ↓r153_31, ↓r153_32, ↓r153_33, ↓r153_36, ↓r153_37, ↓r153_40, ↓r153_41, ↓r153_44, ↓r153_45, ↓r153_46, ↓r153_49, ↓r153_50, ↓r153_51, ↓r153_54, ↓r153_55, ↓r153_58, ↓r153_59, ↓r153_60, ↓r153_63, ↓r153_64, ↓r153_65, ↓r153_68, ↓r153_69, ↓r153_70, ↓r153_73, ↓r153_76, ↓r153_77, ↓r153_78, ↓r153_81, ↓r153_82, ↓r153_85, ↓r153_87, ↓r153_88, ↓r153_91, ↓r153_92, ↓r153_95, ↓r153_97, ↓r153_99, ↓r153_100, ↓r153_103, ↓r153_104, zc_10, zc_18, zc_26, zc_0, zc_1, zc_7, zc_60, Nat.reduceAdd, true_and, zl_61, zok6, zix6, e3]
        exact k h3 rfl
      · simp (decide := true) only [↓reduceIte, ↓r73_0, ↓r73_1, ↓r73_2, ↓r73_4, ↓r73_7, ↓r73_10, ↓r73_11, ↓r73_12, ↓r73_13, ↓r73_16, ↓r73_19, ↓r73_21, ↓r73_22, ↓r73_23, ↓r73_26, ↓r73_27, ↓r73_30, ↓r73_33, ↓r73_34, ↓r73_37, ↓r73_38, ↓r73_41, ↓r73_42, ↓r73_72, ↓r73_73, ↓r73_76, ↓r73_79, ↓r73_80, ↓r73_81, ↓r73_84, ↓r73_87, ↓r73_88, ↓r73_89, ↓r73_92, ↓r73_93, ↓r73_96, ↓r73_99, ↓r73_102, ↓r73_103, ↓r73_104, ↓r73_107, ↓r73_110, ↓r73_111, ↓r73_112, ↓r73_113, ↓r73_114, ↓r73_117, ↓r73_120, ↓r73_121, ↓r73_122, zc_10, zc_18, zc_26, zc_0, zc_1, zc_7, zc_60, Nat.reduceAdd, true_and, zl_32, zoks, zixs, u3']
        refine hr _ fun h3 e3 k => ?_
        simp (decide := true) only [↓reduceIte, ↓r153_0, ↓r153_1, ↓r153_2, ↓r153_3, ↓r153_6, ↓r153_9, ↓r153_12, ↓r153_13, ↓r153_14, ↓r153_15, ↓r153_18, ↓r153_21, ↓r153_24, ↓r153_26, ↓r153_27, ↓r153_28, ↓r153_31, ↓r153_32, ↓r153_33, ↓r153_36, ↓r153_37, ↓r153_40, ↓r153_41, ↓r153_44, ↓r153_45, ↓r153_46, ↓r153_49, ↓r153_50, ↓r153_51, ↓r153_54, ↓r153_55, ↓r153_58, ↓r153_59, ↓r153_60, ↓r153_63, ↓r153_64, ↓r153_65, ↓r153_68, ↓r153_69, ↓r153_70, ↓r153_73, ↓r153_76, ↓r153_77, ↓r153_78, ↓r153_81, ↓r153_82, ↓r153_85, ↓r153_87, ↓r153_88, ↓r153_91, ↓r153_92, ↓r153_95, ↓r153_97, ↓r153_99, ↓r153_100, ↓r153_103, ↓r153_104, zc_10, zc_18, zc_26, zc_0, zc_1, zc_7, zc_60, Nat.reduceAdd, true_and, zl_61, zoks, zixs, e3]
        exact k h3 rfl
    · simp (decide := true) only [if_pos g0, if_neg g1, ↓reduceIte]
      refine zPo_in rfl rfl ?_
      rw [m153]
      simp (decide := true) only [↓r153_0, ↓r153_1, ↓r153_2, ↓r153_3, ↓r153_6, ↓r153_9, ↓r153_12, ↓r153_13, ↓r153_14, ↓r153_15, ↓r153_18, ↓r153_21, ↓r153_24, ↓r153_26, ↓r153_27, ↓r153_28, ↓r153_31, ↓r153_32, ↓r153_33, ↓r153_37, ↓r153_40, ↓r153_41, ↓r153_44, ↓r153_45, ↓r153_46, ↓r153_49, ↓r153_50, ↓r153_51, ↓r153_54, ↓r153_55, ↓r153_58, ↓r153_59, ↓r153_60, ↓r153_63, ↓r153_64, ↓r153_65, ↓r153_68, ↓r153_69, ↓r153_70, ↓r153_73, ↓r153_76, ↓r153_77, ↓r153_78, ↓r153_81, ↓r153_82, ↓r153_85, ↓r153_87, ↓r153_88, ↓r153_91, ↓r153_92, ↓r153_95, ↓r153_97, ↓r153_98, ↓r153_99, ↓r153_100, ↓r153_103, ↓r153_104, c106, if_pos g0, if_neg g1, ↓reduceIte, Option.toList, List.cons_append, List.nil_append]
      exact zPq_in rfl (hQ _ _ hR0 rfl rfl)
  · simp (decide := true) only [if_neg g0, ↓reduceIte]
    refine zPo_in rfl rfl ?_
    rw [m153]
    simp (decide := true) only [↓r153_0, ↓r153_1, ↓r153_2, ↓r153_3, ↓r153_6, ↓r153_9, ↓r153_12, ↓r153_13, ↓r153_14, ↓r153_15, ↓r153_18, ↓r153_21, ↓r153_24, ↓r153_26, ↓r153_27, ↓r153_28, ↓r153_31, ↓r153_32, ↓r153_33, ↓r153_37, ↓r153_40, ↓r153_41, ↓r153_44, ↓r153_45, ↓r153_46, ↓r153_49, ↓r153_50, ↓r153_51, ↓r153_54, ↓r153_55, ↓r153_58, ↓r153_59, ↓r153_60, ↓r153_63, ↓r153_64, ↓r153_65, ↓r153_68, ↓r153_69, ↓r153_70, ↓r153_73, ↓r153_76, ↓r153_77, ↓r153_78, ↓r153_81, ↓r153_82, ↓r153_85, ↓r153_87, ↓r153_88, ↓r153_91, ↓r153_92, ↓r153_95, ↓r153_97, ↓r153_98, ↓r153_99, ↓r153_100, ↓r153_103, ↓r153_104, c106, if_neg g0, ↓reduceIte, Option.toList, List.cons_append, List.nil_append]
    exact zPq_in rfl (hQ _ _ hR0 rfl rfl)
end
