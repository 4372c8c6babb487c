/-! what is only thought: slant, patience, left -/
def lessB (v b : Int32) : Bool := decide (v < b)
def moreB (v b : Int32) : Bool := decide (¬ v ≤ b)
def slV (τ : zTau) (n f : Nat) (s : Nat → Int32) (i : Nat) : Int32 := sSum (stepN τ (-1) n f (upd s 7 (nI i))) 3 n
def paV (τ : zTau) (n f : Nat) (s : Nat → Int32) (i : Nat) : Int32 := stepN τ (-1) n f (upd s 11 (nI i)) 4
def leV (τ : zTau) (n f : Nat) (s : Nat → Int32) (i : Nat) : Int32 := stepN τ (nI i) n f s 4
section
variable {d : Nat} {x0 x1 x2 x3 x4 v x z a u : Int32} {h h' h1 h2 : zH} {n m N n' m' k w j f b c t i F : Nat} {s row row' : Nat → Int32} {Q : Option Value → zH → Prop} {τ : zTau}
theorem lessB_t {v b : Int32} (g : v < b) : lessB v b = true := decide_eq_true g
theorem lessB_f {v b : Int32} (g : ¬ v < b) : ¬ lessB v b = true := fun z => g (of_decide_eq_true z)
theorem moreB_t {v b : Int32} (g : ¬ v ≤ b) : moreB v b = true := decide_eq_true g
theorem moreB_f {v b : Int32} (g : v ≤ b) : ¬ moreB v b = true := fun z => of_decide_eq_true z g
theorem c74_loop (hV : zV h 10 s) (hT : zTC h 10 τ) (h14 : h 10 14 = -1) (hB : zB s n m) (hf : f ≤ 100) (hm : m ≤ 9999) (hQ : ∀ h1 o6, td h h1 → zR (d + 8) 74 Q 108 [some (.ref 0), some (.int (nI f)), some (.int x1), some (.int (zfo (pkC lessB (slV τ n f s)) 61 (0, 0)).1), some (.int (zfo (pkC lessB (slV τ n f s)) 61 (0, 0)).2), some (.int (nI 61)), o6] [] h1) : ∀ (g i : Nat) (h1 : zH) (o6 : Option Value), i + g = 61 → td h h1 → zR (d + 8) 74 Q 30 [some (.ref 0), some (.int (nI f)), some (.int x1), some (.int (zfo (pkC lessB (slV τ n f s)) i (0, 0)).1), some (.int (zfo (pkC lessB (slV τ n f s)) i (0, 0)).2), some (.int (nI i)), o6] [] h1 := by
  intro g
  induction g with
  | zero =>
    intro i h1 o6 hi e
    have hi' : i = 61 := by omega
    subst hi'
    rw [r74_30]
    simp (decide := true) only [↓r74_0, ↓r74_1, ↓r74_2, ↓r74_4, ↓r74_7, ↓r74_10, ↓r74_11, ↓r74_12, ↓r74_13, ↓r74_16, ↓r74_19, ↓r74_21, ↓r74_22, ↓r74_23, ↓r74_24, ↓r74_25, ↓r74_27, ↓r74_28, ↓r74_32, ↓r74_34, ↓r74_37, ↓r74_38, ↓r74_41, ↓r74_42, ↓r74_45, ↓r74_48, ↓r74_49, ↓r74_52, ↓r74_55, ↓r74_56, ↓r74_58, ↓r74_59, ↓r74_60, ↓r74_63, ↓r74_64, ↓r74_67, ↓r74_68, ↓r74_71, ↓r74_72, ↓r74_75, ↓r74_78, ↓r74_81, ↓r74_83, ↓r74_85, ↓r74_88, ↓r74_90, ↓r74_92, ↓r74_95, ↓r74_97, ↓r74_98, ↓r74_100, ↓r74_102, ↓r74_105, ↓r74_109, ↓r74_112, ↓r74_113, ↓r74_116, ↓r74_118, ↓reduceIte]
    exact hQ h1 o6 e
  | succ g ih =>
    intro i h1 o6 hi e
    have q : nI i ≤ 60 := nI_le (b := 60) (by omega) (by omega)
    rw [r74_30]
    simp only [↓r74_0, ↓r74_1, ↓r74_2, ↓r74_4, ↓r74_7, ↓r74_10, ↓r74_11, ↓r74_12, ↓r74_13, ↓r74_16, ↓r74_19, ↓r74_21, ↓r74_22, ↓r74_23, ↓r74_24, ↓r74_25, ↓r74_27, ↓r74_28, ↓r74_32, ↓r74_34, ↓r74_37, ↓r74_38, ↓r74_41, ↓r74_42, ↓r74_45, ↓r74_48, ↓r74_49, ↓r74_52, ↓r74_55, ↓r74_56, ↓r74_58, ↓r74_59, ↓r74_60, ↓r74_63, ↓r74_64, ↓r74_67, ↓r74_68, ↓r74_71, ↓r74_72, ↓r74_75, ↓r74_78, ↓r74_81, ↓r74_83, ↓r74_85, ↓r74_88, ↓r74_90, ↓r74_92, ↓r74_95, ↓r74_97, ↓r74_98, ↓r74_100, ↓r74_102, ↓r74_105, ↓r74_109, ↓r74_112, ↓r74_113, ↓r74_116, ↓r74_118, if_pos q, zc_10, zc_18, zc_26, zc_0, zc_1, zc_7, zc_60, Nat.reduceAdd, true_and, Option.toList, List.cons_append, List.nil_append]
    refine th_become hV hT h14 (Or.inl rfl) e fun h2 e2 hV2 hT2 h14' => ?_
    simp only [↓r74_0, ↓r74_1, ↓r74_2, ↓r74_4, ↓r74_7, ↓r74_10, ↓r74_11, ↓r74_12, ↓r74_13, ↓r74_16, ↓r74_19, ↓r74_21, ↓r74_22, ↓r74_23, ↓r74_24, ↓r74_25, ↓r74_27, ↓r74_28, ↓r74_32, ↓r74_34, ↓r74_37, ↓r74_38, ↓r74_41, ↓r74_42, ↓r74_45, ↓r74_48, ↓r74_49, ↓r74_52, ↓r74_55, ↓r74_56, ↓r74_58, ↓r74_59, ↓r74_60, ↓r74_63, ↓r74_64, ↓r74_67, ↓r74_68, ↓r74_71, ↓r74_72, ↓r74_75, ↓r74_78, ↓r74_81, ↓r74_83, ↓r74_85, ↓r74_88, ↓r74_90, ↓r74_92, ↓r74_95, ↓r74_97, ↓r74_98, ↓r74_100, ↓r74_102, ↓r74_105, ↓r74_109, ↓r74_112, ↓r74_113, ↓r74_116, ↓r74_118, zc_10, zc_18, zc_26, zc_0, zc_1, zc_7, zc_60, Nat.reduceAdd, true_and, zs_32, zoks, zixs, Option.toList, List.cons_append, List.nil_append]
    have hV3 : zV (zhr h2 32 (upd (h2 32) 1 (nI i))) 26 (upd s 7 (nI i)) := zV_rule (j := 1) (by omega) hV2
    have hB3 : zB (upd s 7 (nI i)) n m := zB_rule (j := 1) hB (Or.inr (Or.inl ⟨rfl, nI_pos' (by omega), nI_le (b := 90) (by omega) (by omega)⟩))
    refine th_go (u := -1) hV3 (zTC_o (by rw [zhr_ne _ _ (by omega)]) (by rw [zhr_ne _ _ (by omega)]) (by rw [zhr_ne _ _ (by omega)]) hT2) (by rw [zhr_ne _ _ (by omega)]; exact h14') hB3 (by omega) (td_tr e2 (fun c x y => zhr_ne _ _ (by omega))) fun h4 e4 hV4 hT4 h144 => ?_
    have c41' := fun (Q' : Option Value → zH → Prop) => c41s (d := d + 7) (Q := Q') zst26 hV4 (by rw [stepN_keep hB.1.2 (by omega), pk_un (by omega)]; exact hB.1.1) hB.1.2
    have ev : sSum (stepN τ (-1) n f (upd s 7 (nI i))) 3 n = slV τ n f s i := rfl
    rw [ev] at c41'
    simp only [↓r74_0, ↓r74_1, ↓r74_2, ↓r74_4, ↓r74_7, ↓r74_10, ↓r74_11, ↓r74_12, ↓r74_13, ↓r74_16, ↓r74_19, ↓r74_21, ↓r74_22, ↓r74_23, ↓r74_24, ↓r74_25, ↓r74_27, ↓r74_28, ↓r74_32, ↓r74_34, ↓r74_37, ↓r74_38, ↓r74_41, ↓r74_42, ↓r74_45, ↓r74_48, ↓r74_49, ↓r74_52, ↓r74_55, ↓r74_56, ↓r74_58, ↓r74_59, ↓r74_60, ↓r74_63, ↓r74_64, ↓r74_67, ↓r74_68, ↓r74_71, ↓r74_72, ↓r74_75, ↓r74_78, ↓r74_81, ↓r74_83, ↓r74_85, ↓r74_88, ↓r74_90, ↓r74_92, ↓r74_95, ↓r74_97, ↓r74_98, ↓r74_100, ↓r74_102, ↓r74_105, ↓r74_109, ↓r74_112, ↓r74_113, ↓r74_116, ↓r74_118, zc_10, zc_18, zc_26, zc_0, zc_1, zc_7, zc_60, Nat.reduceAdd, true_and, c41', Option.toList, List.cons_append, List.nil_append, nI_1]
    have ih' := ih (i + 1) h4 (some (.int (slV τ n f s i))) (by omega) e4
    have es : zfo (pkC lessB (slV τ n f s)) (i + 1) (0, 0) = pkC lessB (slV τ n f s) i (zfo (pkC lessB (slV τ n f s)) i (0, 0)) := rfl
    rw [es] at ih'
    generalize zfo (pkC lessB (slV τ n f s)) i (0, 0) = p at ih' ⊢
    by_cases g0 : i = 0
    · have g0' : nI i = 0 := by rw [g0, nI_0]
      unfold pkC at ih'
      rw [if_pos (Or.inl g0)] at ih'
      simp only [if_pos g0']
      exact ih'
    · have g0' : ¬ nI i = 0 := by rw [← nI_0, nI_eq (by omega) (by omega)]; exact g0
      simp only [if_neg g0']
      by_cases g1 : slV τ n f s i < p.2
      · unfold pkC at ih'
        rw [if_pos (Or.inr (lessB_t g1))] at ih'
        simp only [if_pos g1]
        exact ih'
      · unfold pkC at ih'
        rw [if_neg (fun z => z.elim g0 (lessB_f g1))] at ih'
        simp only [if_neg g1]
        exact ih'
/-- the reference's heap while it thinks -/
def rl (h h1 : zH) : Prop := rd h h1 ∧ h1 61 = h 61 ∧ ∀ k, k < 62 → h1 73 k = h 61 k
theorem rl_by (e60 : True) : rl h (zhr h 73 (fun k => if k < 62 then h 61 k else h 73 k)) :=
  ⟨fun c x y z w => zhr_ne _ _ y, zhr_ne _ _ (by omega), fun k hk => by rw [zhr_same]; exact if_pos hk⟩
theorem rl_back (e : rl h h1) (e2 : rd h h2) (e73 : h2 73 = h1 73) (ek : ∀ k, 62 ≤ k → h2 61 k = h 61 k) : rl h (zhr h2 61 (fun k => if k < 62 then h2 73 k else h2 61 k)) := by
  refine ⟨fun c x y z w => (zhr_ne _ _ x).trans (e2 c x y z w), ?_, fun k hk => ?_⟩
  · rw [zhr_same]
    exact lay_eq ek (h2 73) (fun k hk => by rw [e73]; exact e.2.2 k hk)
  · rw [zhr_ne _ _ (by omega), e73]
    exact e.2.2 k hk
theorem c154_loop (hT : zTR (h 61) τ) (hu : h 60 12 = -1) (hB : zB (h 61) n m) (hf : f ≤ 100) (hm : m ≤ 9999) (hQ : ∀ h1 o6, rl h h1 → zR (d + 8) 154 Q 93 [some (.ref 60), some (.int (nI f)), some (.int x1), some (.int (zfo (pkR lessB (slV τ n f (h 61))) 61 (-1, 0)).1), some (.int (zfo (pkR lessB (slV τ n f (h 61))) 61 (-1, 0)).2), some (.int (nI 61)), o6] [] h1) : ∀ (g i : Nat) (h1 : zH) (o6 : Option Value), i + g = 61 → rl h h1 → zR (d + 8) 154 Q 37 [some (.ref 60), some (.int (nI f)), some (.int x1), some (.int (zfo (pkR lessB (slV τ n f (h 61))) i (-1, 0)).1), some (.int (zfo (pkR lessB (slV τ n f (h 61))) i (-1, 0)).2), some (.int (nI i)), o6] [] h1 := by
  intro g
  induction g with
  | zero =>
    intro i h1 o6 hi e
    have hi' : i = 61 := by omega
    subst hi'
    rw [r154_37]
    simp (decide := true) only [↓r154_0, ↓r154_1, ↓r154_2, ↓r154_3, ↓r154_6, ↓r154_9, ↓r154_12, ↓r154_13, ↓r154_14, ↓r154_15, ↓r154_16, ↓r154_19, ↓r154_22, ↓r154_24, ↓r154_25, ↓r154_26, ↓r154_29, ↓r154_30, ↓r154_31, ↓r154_32, ↓r154_34, ↓r154_35, ↓r154_39, ↓r154_41, ↓r154_44, ↓r154_45, ↓r154_48, ↓r154_50, ↓r154_52, ↓r154_53, ↓r154_54, ↓r154_55, ↓r154_58, ↓r154_59, ↓r154_60, ↓r154_63, ↓r154_65, ↓r154_66, ↓r154_69, ↓r154_70, ↓r154_73, ↓r154_75, ↓r154_77, ↓r154_80, ↓r154_82, ↓r154_83, ↓r154_85, ↓r154_87, ↓r154_90, ↓r154_94, ↓r154_97, ↓r154_98, ↓r154_101, ↓r154_103, ↓reduceIte]
    exact hQ h1 o6 e
  | succ g ih =>
    intro i h1 o6 hi e
    have h10 := hB.1.2
    have q : nI i ≤ 60 := nI_le (b := 60) (by omega) (by omega)
    rw [r154_37]
    simp only [↓r154_0, ↓r154_1, ↓r154_2, ↓r154_3, ↓r154_6, ↓r154_9, ↓r154_12, ↓r154_13, ↓r154_14, ↓r154_15, ↓r154_16, ↓r154_19, ↓r154_22, ↓r154_24, ↓r154_25, ↓r154_26, ↓r154_29, ↓r154_30, ↓r154_31, ↓r154_32, ↓r154_34, ↓r154_35, ↓r154_39, ↓r154_41, ↓r154_44, ↓r154_45, ↓r154_48, ↓r154_50, ↓r154_52, ↓r154_53, ↓r154_54, ↓r154_55, ↓r154_58, ↓r154_59, ↓r154_60, ↓r154_63, ↓r154_65, ↓r154_66, ↓r154_69, ↓r154_70, ↓r154_73, ↓r154_75, ↓r154_77, ↓r154_80, ↓r154_82, ↓r154_83, ↓r154_85, ↓r154_87, ↓r154_90, ↓r154_94, ↓r154_97, ↓r154_98, ↓r154_101, ↓r154_103, if_pos q, zs_61, zoks, zixs, true_and, Option.toList, List.cons_append, List.nil_append]
    have hB3 : zB (upd (h 61) 7 (nI i)) n m := zB_rule (j := 1) hB (Or.inr (Or.inl ⟨rfl, nI_pos' (by omega), nI_le (b := 90) (by omega) (by omega)⟩))
    have e60 : h1 60 = h 60 := e.1 _ (by omega) (by omega) (by omega) (by omega)
    refine c152 (n := n) (m := m) (τ := τ) ?_ ?_ (by omega) fun h3 e3 e3b => ?_
    · rw [zhr_same, e.2.1]; exact hB3
    · rw [zhr_same, e.2.1]; exact zTR_cong (pk_un (by omega)) (fun k hk => pk_un (by omega)) hT
    · rw [zhr_ne _ _ (by omega : 60 ≠ 61), zhr_same, e60, e.2.1, hu] at e3b
      have c146' := fun (Q' : Option Value → zH → Prop) => c146 (d := d + 6) (h := h3) (Q := Q') (w := 3) (x0 := 3) (n := n) (Or.inl ⟨rfl, rfl⟩) (by rw [e3b, stepN_keep h10 (by omega), pk_un (by omega)]; exact hB.1.1) h10
      have ev : sSum (stepN τ (-1) n f (upd (h 61) 7 (nI i))) 3 n = slV τ n f (h 61) i := rfl
      rw [e3b, ev] at c146'
      simp only [↓r154_0, ↓r154_1, ↓r154_2, ↓r154_3, ↓r154_6, ↓r154_9, ↓r154_12, ↓r154_13, ↓r154_14, ↓r154_15, ↓r154_16, ↓r154_19, ↓r154_22, ↓r154_24, ↓r154_25, ↓r154_26, ↓r154_29, ↓r154_30, ↓r154_31, ↓r154_32, ↓r154_34, ↓r154_35, ↓r154_39, ↓r154_41, ↓r154_44, ↓r154_45, ↓r154_48, ↓r154_50, ↓r154_52, ↓r154_53, ↓r154_54, ↓r154_55, ↓r154_58, ↓r154_59, ↓r154_60, ↓r154_63, ↓r154_65, ↓r154_66, ↓r154_69, ↓r154_70, ↓r154_73, ↓r154_75, ↓r154_77, ↓r154_80, ↓r154_82, ↓r154_83, ↓r154_85, ↓r154_87, ↓r154_90, ↓r154_94, ↓r154_97, ↓r154_98, ↓r154_101, ↓r154_103, c146', Option.toList, List.cons_append, List.nil_append]
      have e31 : rd h h3 := fun c x y z w => ((e3 c x z w).trans (zhr_ne _ _ x)).trans (e.1 c x y z w)
      have e73 : h3 73 = h1 73 := (e3 73 (by omega) (by omega) (by omega)).trans (zhr_ne _ _ (by omega))
      refine c151 ?_
      simp only [↓r154_0, ↓r154_1, ↓r154_2, ↓r154_3, ↓r154_6, ↓r154_9, ↓r154_12, ↓r154_13, ↓r154_14, ↓r154_15, ↓r154_16, ↓r154_19, ↓r154_22, ↓r154_24, ↓r154_25, ↓r154_26, ↓r154_29, ↓r154_30, ↓r154_31, ↓r154_32, ↓r154_34, ↓r154_35, ↓r154_39, ↓r154_41, ↓r154_44, ↓r154_45, ↓r154_48, ↓r154_50, ↓r154_52, ↓r154_53, ↓r154_54, ↓r154_55, ↓r154_58, ↓r154_59, ↓r154_60, ↓r154_63, ↓r154_65, ↓r154_66, ↓r154_69, ↓r154_70, ↓r154_73, ↓r154_75, ↓r154_77, ↓r154_80, ↓r154_82, ↓r154_83, ↓r154_85, ↓r154_87, ↓r154_90, ↓r154_94, ↓r154_97, ↓r154_98, ↓r154_101, ↓r154_103, Option.toList, List.cons_append, List.nil_append, nI_1]
      have e4 := rl_back e e31 e73 (fun k hk => by rw [e3b, stepN_keep h10 (by omega), pk_un (by omega)])
      have ih' := ih (i + 1) _ (some (.int (slV τ n f (h 61) i))) (by omega) e4
      have es : zfo (pkR lessB (slV τ n f (h 61))) (i + 1) (-1, 0) = pkR lessB (slV τ n f (h 61)) i (zfo (pkR lessB (slV τ n f (h 61))) i (-1, 0)) := rfl
      rw [es] at ih'
      generalize zfo (pkR lessB (slV τ n f (h 61))) i (-1, 0) = p at ih' ⊢
      by_cases g0 : p.1 < 0
      · unfold pkR at ih'
        rw [if_pos (Or.inl g0)] at ih'
        simp only [if_pos g0]
        exact ih'
      · simp only [if_neg g0]
        by_cases g1 : slV τ n f (h 61) i < p.2
        · unfold pkR at ih'
          rw [if_pos (Or.inr (lessB_t g1))] at ih'
          simp only [if_pos g1]
          exact ih'
        · unfold pkR at ih'
          rw [if_neg (fun z => z.elim g0 (lessB_f g1))] at ih'
          simp only [if_neg g1]
          exact ih'
theorem zRel_rl (hR : zRelN h n m N) (e1 : td h h1) (e2 : rl h1 h2) : zRelN h2 n m N := by
  refine zRel_th hR (fun c a1 a2 a3 a4 a5 _ => ?_)
  by_cases g : c = 61
  · subst g
    rw [e2.2.1]; exact e1 _ (by omega) (by omega)
  · exact (e2.1 c g a3 a4 a5).trans (e1 c a1 a2)
theorem p_slant : zPair (d + 20) (d + 20) 74 154 [.int x0, .int x1] := by
  intro h Q2 hR hQ
  have hR0 := hR
  obtain ⟨n, m, N, hRN⟩ := hR
  obtain ⟨⟨hSt, hm⟩, hu, -⟩ := id hRN
  obtain ⟨⟨hn, h10⟩, -⟩ := hSt.2.1
  obtain ⟨hTC, hTR⟩ := zSt_tau hSt
  rw [m74]
  simp only [↓r74_0, ↓r74_1, ↓r74_2, ↓r74_4, ↓r74_7, ↓r74_10, ↓r74_11, ↓r74_12, ↓r74_13, ↓r74_16, ↓r74_19, ↓r74_21, ↓r74_22, ↓r74_23, ↓r74_24, ↓r74_25, ↓r74_27, ↓r74_28, ↓r74_32, ↓r74_34, ↓r74_37, ↓r74_38, ↓r74_41, ↓r74_42, ↓r74_45, ↓r74_48, ↓r74_49, ↓r74_52, ↓r74_55, ↓r74_56, ↓r74_58, ↓r74_59, ↓r74_60, ↓r74_63, ↓r74_64, ↓r74_67, ↓r74_68, ↓r74_71, ↓r74_72, ↓r74_75, ↓r74_78, ↓r74_81, ↓r74_83, ↓r74_85, ↓r74_88, ↓r74_90, ↓r74_92, ↓r74_95, ↓r74_97, ↓r74_98, ↓r74_100, ↓r74_102, ↓r74_105, ↓r74_109, ↓r74_112, ↓r74_113, ↓r74_116, ↓r74_118, zc_10, zc_18, zc_26, zc_0, zc_1, zc_7, zc_60, Nat.reduceAdd, true_and, c103, Option.toList, List.cons_append, List.nil_append]
  by_cases g0 : 1 ≤ x0 ∧ x0 ≤ 60
  · by_cases g1 : 0 ≤ x1 ∧ x1 ≤ 1
    · simp (decide := true) only [if_pos g0, if_pos g1, ↓reduceIte]
      obtain ⟨f, hf, rfl⟩ := nI_of2 (M := 60) (n := 60) (by decide) (by have := g0.1; grind) g0.2
      refine c74_loop (d := d + 11) (n := n) (m := m) hSt.1 hTC hSt.2.2.2.2.2 hSt.2.1 (by omega) hm (fun h1 o6 e1 => ?_) 61 0 h none (by omega) td_rf
      have e61 : h1 61 = h 61 := e1 _ (by omega) (by omega)
      have e60 : h1 60 = h 60 := e1 _ (by omega) (by omega)
      have hr : ∀ v, ((if x1 = 0 then (zfo (pkC lessB (slV (zTauOf h 10) n f (h 61))) 61 (0, 0)).1 else (zfo (pkC lessB (slV (zTauOf h 10) n f (h 61))) 61 (0, 0)).2) = v) → zPo h (d + 20) 154 [.int (nI f), .int x1] Q2 (some (.int v)) h1 := by
        intro v hv
        refine zPo_in (e1 _ (by omega) (by omega)) (e1 _ (by omega) (by omega)) ?_
        rw [m154]
        simp (decide := true) only [↓r154_0, ↓r154_1, ↓r154_2, ↓r154_3, ↓r154_6, ↓r154_9, ↓r154_12, ↓r154_13, ↓r154_14, ↓r154_15, ↓r154_16, ↓r154_19, ↓r154_22, ↓r154_24, ↓r154_25, ↓r154_26, ↓r154_29, ↓r154_30, ↓r154_31, ↓r154_32, ↓r154_34, ↓r154_35, ↓r154_39, ↓r154_41, ↓r154_44, ↓r154_45, ↓r154_48, ↓r154_50, ↓r154_52, ↓r154_53, ↓r154_54, ↓r154_55, ↓r154_58, ↓r154_59, ↓r154_60, ↓r154_63, ↓r154_65, ↓r154_66, ↓r154_69, ↓r154_70, ↓r154_73, ↓r154_75, ↓r154_77, ↓r154_80, ↓r154_82, ↓r154_83, ↓r154_85, ↓r154_87, ↓r154_90, ↓r154_94, ↓r154_97, ↓r154_98, ↓r154_101, ↓r154_103, c106, if_pos g0, if_pos g1, ↓reduceIte, Option.toList, List.cons_append, List.nil_append]
        refine c150 ?_
        simp only [↓r154_0, ↓r154_1, ↓r154_2, ↓r154_3, ↓r154_6, ↓r154_9, ↓r154_12, ↓r154_13, ↓r154_14, ↓r154_15, ↓r154_16, ↓r154_19, ↓r154_22, ↓r154_24, ↓r154_25, ↓r154_26, ↓r154_29, ↓r154_30, ↓r154_31, ↓r154_32, ↓r154_34, ↓r154_35, ↓r154_39, ↓r154_41, ↓r154_44, ↓r154_45, ↓r154_48, ↓r154_50, ↓r154_52, ↓r154_53, ↓r154_54, ↓r154_55, ↓r154_58, ↓r154_59, ↓r154_60, ↓r154_63, ↓r154_65, ↓r154_66, ↓r154_69, ↓r154_70, ↓r154_73, ↓r154_75, ↓r154_77, ↓r154_80, ↓r154_82, ↓r154_83, ↓r154_85, ↓r154_87, ↓r154_90, ↓r154_94, ↓r154_97, ↓r154_98, ↓r154_101, ↓r154_103, Option.toList, List.cons_append, List.nil_append]
        have hh := rl_by (h := h1) trivial
        have key := c154_loop (d := d + 11) (h := h1) (τ := zTauOf h 10) (n := n) (m := m) (f := f) (x1 := x1) (Q := zPq v Q2) (zTR_same e61 hTR) (by rw [e60]; exact hu) (by rw [e61]; exact hSt.2.1) (by omega) hm (fun h2 o6 e2 => ?_) 61 0 (zhr h1 73 (fun k => if k < 62 then h1 61 k else h1 73 k)) none (by omega) hh
        · exact key
        · rw [e61, (pkeq lessB (slV (zTauOf h 10) n f (h 61)) (-1, 0) (0, 0) (by decide) 60 (by omega)).1]
          have ee := hQ v h2 ⟨n, m, N, zRel_rl hRN e1 e2⟩ ((e2.1 _ (by omega) (by omega) (by omega) (by omega)).trans (e1 _ (by omega) (by omega))) ((e2.1 _ (by omega) (by omega) (by omega) (by omega)).trans (e1 _ (by omega) (by omega)))
          simp only [↓r154_0, ↓r154_1, ↓r154_2, ↓r154_3, ↓r154_6, ↓r154_9, ↓r154_12, ↓r154_13, ↓r154_14, ↓r154_15, ↓r154_16, ↓r154_19, ↓r154_22, ↓r154_24, ↓r154_25, ↓r154_26, ↓r154_29, ↓r154_30, ↓r154_31, ↓r154_32, ↓r154_34, ↓r154_35, ↓r154_39, ↓r154_41, ↓r154_44, ↓r154_45, ↓r154_48, ↓r154_50, ↓r154_52, ↓r154_53, ↓r154_54, ↓r154_55, ↓r154_58, ↓r154_59, ↓r154_60, ↓r154_63, ↓r154_65, ↓r154_66, ↓r154_69, ↓r154_70, ↓r154_73, ↓r154_75, ↓r154_77, ↓r154_80, ↓r154_82, ↓r154_83, ↓r154_85, ↓r154_87, ↓r154_90, ↓r154_93, ↓r154_94, ↓r154_97, ↓r154_98, ↓r154_101, ↓r154_103]
          by_cases g2 : x1 = 0
          · rw [if_pos g2] at hv ⊢
            exact zPq_in hv ee
          · rw [if_neg g2] at hv ⊢
            exact zPq_in hv ee
      simp only [↓r74_0, ↓r74_1, ↓r74_2, ↓r74_4, ↓r74_7, ↓r74_10, ↓r74_11, ↓r74_12, ↓r74_13, ↓r74_16, ↓r74_19, ↓r74_21, ↓r74_22, ↓r74_23, ↓r74_24, ↓r74_25, ↓r74_27, ↓r74_28, ↓r74_32, ↓r74_34, ↓r74_37, ↓r74_38, ↓r74_41, ↓r74_42, ↓r74_45, ↓r74_48, ↓r74_49, ↓r74_52, ↓r74_55, ↓r74_56, ↓r74_58, ↓r74_59, ↓r74_60, ↓r74_63, ↓r74_64, ↓r74_67, ↓r74_68, ↓r74_71, ↓r74_72, ↓r74_75, ↓r74_78, ↓r74_81, ↓r74_83, ↓r74_85, ↓r74_88, ↓r74_90, ↓r74_92, ↓r74_95, ↓r74_97, ↓r74_98, ↓r74_100, ↓r74_102, ↓r74_105, ↓r74_108, ↓r74_109, ↓r74_112, ↓r74_113, ↓r74_116, ↓r74_118]
      by_cases g2 : x1 = 0
      · rw [if_pos g2]
        exact hr _ (if_pos g2)
      · rw [if_neg g2]
        exact hr _ (if_neg g2)
    · simp (decide := true) only [if_pos g0, if_neg g1, ↓reduceIte]
      refine zPo_in rfl rfl ?_
      rw [m154]
      simp (decide := true) only [↓r154_0, ↓r154_1, ↓r154_2, ↓r154_3, ↓r154_6, ↓r154_9, ↓r154_12, ↓r154_13, ↓r154_14, ↓r154_15, ↓r154_16, ↓r154_19, ↓r154_22, ↓r154_24, ↓r154_25, ↓r154_26, ↓r154_29, ↓r154_30, ↓r154_31, ↓r154_32, ↓r154_34, ↓r154_35, ↓r154_39, ↓r154_41, ↓r154_44, ↓r154_45, ↓r154_48, ↓r154_50, ↓r154_52, ↓r154_53, ↓r154_54, ↓r154_55, ↓r154_58, ↓r154_59, ↓r154_60, ↓r154_63, ↓r154_65, ↓r154_66, ↓r154_69, ↓r154_70, ↓r154_73, ↓r154_75, ↓r154_77, ↓r154_80, ↓r154_82, ↓r154_83, ↓r154_85, ↓r154_87, ↓r154_90, ↓r154_94, ↓r154_97, ↓r154_98, ↓r154_101, ↓r154_103, c106, if_pos g0, if_neg g1, ↓reduceIte, Option.toList, List.cons_append, List.nil_append]
      exact zPq_in rfl (hQ _ _ hR0 rfl rfl)
  · simp (decide := true) only [if_neg g0, ↓reduceIte]
    refine zPo_in rfl rfl ?_
    rw [m154]
    simp (decide := true) only [↓r154_0, ↓r154_1, ↓r154_2, ↓r154_3, ↓r154_6, ↓r154_9, ↓r154_12, ↓r154_13, ↓r154_14, ↓r154_15, ↓r154_16, ↓r154_19, ↓r154_22, ↓r154_24, ↓r154_25, ↓r154_26, ↓r154_29, ↓r154_30, ↓r154_31, ↓r154_32, ↓r154_34, ↓r154_35, ↓r154_39, ↓r154_41, ↓r154_44, ↓r154_45, ↓r154_48, ↓r154_50, ↓r154_52, ↓r154_53, ↓r154_54, ↓r154_55, ↓r154_58, ↓r154_59, ↓r154_60, ↓r154_63, ↓r154_65, ↓r154_66, ↓r154_69, ↓r154_70, ↓r154_73, ↓r154_75, ↓r154_77, ↓r154_80, ↓r154_82, ↓r154_83, ↓r154_85, ↓r154_87, ↓r154_90, ↓r154_94, ↓r154_97, ↓r154_98, ↓r154_101, ↓r154_103, c106, if_neg g0, ↓reduceIte, Option.toList, List.cons_append, List.nil_append]
    exact zPq_in rfl (hQ _ _ hR0 rfl rfl)
end
