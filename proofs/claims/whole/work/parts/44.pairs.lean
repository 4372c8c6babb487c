/-! pairs: load, deal, steps, book -/
def sCome (n : Nat) (k w b : Int32) (s : Nat → Int32) : Nat → Int32 := upd (upd (upd (upd (upd (upd s (12 + 5 * n + 0) k) (12 + 5 * n + 1) w) (12 + 5 * n + 2) b) (12 + 5 * n + 3) 0) (12 + 5 * n + 4) 0) 0 (nI (n + 1))
def dealF (n : Nat) (s : Nat → Int32) : Nat → Int32 := sCome n (kDraw (s 5) - kDraw (s 5) / 6 * 6) (1 + (kDraw (kNext (s 5)) - kDraw (kNext (s 5)) / 60 * 60)) (kDraw (kNext (kNext (s 5))) - kDraw (kNext (kNext (s 5))) / 2 * 2) (upd s 5 (kNext (kNext (kNext (s 5)))))
def dealN : Nat → Nat → (Nat → Int32) → (Nat → Int32)
  | _, 0, s => s
  | n, f + 1, s => dealN (n + 1) f (dealF n s)
section
variable {d : Nat} {x0 x1 x2 v : Int32} {h h' : zH} {n m N n' m' k w j f : Nat} {s : Nat → Int32} {Q : Option Value → zH → Prop}
theorem upd_comm {s : Nat → Int32} {a b : Nat} {x y : Int32} (hab : a ≠ b) : upd (upd s a x) b y = upd (upd s b y) a x := by
  funext k
  simp only [zup_ap]
  by_cases g : k = a
  · subst g; rw [if_neg hab, if_pos rfl, if_pos rfl]
  · simp only [if_neg g]
theorem upd_upd {s : Nat → Int32} {a : Nat} {x y : Int32} : upd (upd s a x) a y = upd s a y := by
  funext k
  simp only [zup_ap]
  by_cases g : k = a
  · simp only [if_pos g]
  · simp only [if_neg g]
theorem sCome_lo (hj : j ≠ 0) (h12 : j < 12) : sCome n x0 x1 x2 s j = s j := by
  simp only [sCome, zup_ap]
  rw [if_neg hj, if_neg (by omega), if_neg (by omega), if_neg (by omega), if_neg (by omega), if_neg (by omega)]
theorem sCome_hi (hn : n < 10) (hj : 62 ≤ j) : sCome n x0 x1 x2 s j = s j := by
  simp only [sCome, zup_ap]
  rw [if_neg (by omega), if_neg (by omega), if_neg (by omega), if_neg (by omega), if_neg (by omega), if_neg (by omega)]
theorem sCome_old (hk : k < n) (hw : w < 5) : sCome n x0 x1 x2 s (12 + 5 * k + w) = s (12 + 5 * k + w) := by
  simp only [sCome, zup_ap]
  rw [if_neg (by omega), if_neg (by omega), if_neg (by omega), if_neg (by omega), if_neg (by omega), if_neg (by omega)]
theorem sCome_0 : sCome n x0 x1 x2 s 0 = nI (n + 1) := pk_us
theorem sCome_new : sCome n x0 x1 x2 s (12 + 5 * n + 0) = x0 ∧ sCome n x0 x1 x2 s (12 + 5 * n + 1) = x1 ∧ sCome n x0 x1 x2 s (12 + 5 * n + 2) = x2 ∧ sCome n x0 x1 x2 s (12 + 5 * n + 3) = 0 ∧ sCome n x0 x1 x2 s (12 + 5 * n + 4) = 0 := by
  refine ⟨?_, ?_, ?_, ?_, ?_⟩ <;> (unfold sCome; (repeat rw [pk_un (by omega)]); exact pk_us)
theorem zB_come (hB : zB s n m) (h10 : n < 10) (h0 : kOk x0) (h1 : 1 ≤ x1 ∧ x1 ≤ 99) (h2 : x2 = 0 ∨ x2 = 1) : zB (sCome n x0 x1 x2 s) (n + 1) m := by
  obtain ⟨⟨b1, b2⟩, b3, b4, b5, b6, b7, b8⟩ := hB
  refine ⟨⟨sCome_0, by omega⟩, fun i hi => ?_, by rw [sCome_lo (by omega) (by omega)]; exact b4, by rw [sCome_lo (by omega) (by omega)]; exact b5, by rw [sCome_lo (by omega) (by omega)]; exact b6, by rw [sCome_lo (by omega) (by omega)]; exact b7, by rw [sCome_lo (by omega) (by omega)]; exact b8⟩
  rcases (by omega : i < n ∨ i = n) with g | rfl
  · rw [sCome_old g (by omega), sCome_old g (by omega), sCome_old g (by omega), sCome_old g (by omega)]
    exact b3 i g
  · obtain ⟨e0, e1, e2, e3, e4⟩ := sCome_new (n := i) (x0 := x0) (x1 := x1) (x2 := x2) (s := s)
    rw [e0, e1, e2, e4]
    exact ⟨h0, h1, h2, 0, by omega, rfl⟩
theorem zB_z (hB : zB s n m) : zB (upd s 5 v) n m := by
  obtain ⟨⟨b1, b2⟩, b3, b4, b5, b6, b7, b8⟩ := hB
  have lo : ∀ j, j ≠ 5 → upd s 5 v j = s j := fun j hj => pk_un hj
  refine ⟨⟨by rw [lo _ (by omega)]; exact b1, b2⟩, fun i hi => ?_, by rw [lo _ (by omega)]; exact b4, by rw [lo _ (by omega)]; exact b5, by rw [lo _ (by omega)]; exact b6, by rw [lo _ (by omega)]; exact b7, by rw [lo _ (by omega)]; exact b8⟩
  rw [lo _ (by omega), lo _ (by omega), lo _ (by omega), lo _ (by omega)]
  exact b3 i hi
def sl (h h' : zH) : Prop := (∀ c, ¬ (10 ≤ c ∧ c ≤ 15) → h' c = h c) ∧ h' 10 14 = h 10 14
theorem sl_rf : sl h h := ⟨fun _ _ => rfl, rfl⟩
theorem sl_tr {h2 : zH} (a : sl h h') (b : sl h' h2) : sl h h2 := ⟨fun c q => (b.1 c q).trans (a.1 c q), b.2.trans a.2⟩
theorem c38 (hV : zV h 10 s) (hn : s 0 = nI n) (h10 : n < 10) (hQ : ∀ h', sl h h' → zV h' 10 (sCome n x0 x1 x2 s) → Q (some (.int (nI n))) h') : zM (d + 2) 38 [.ref 10, .int x0, .int x1, .int x2] h Q := by
  have hn' : h 10 1 = nI n := hV.1.1.trans hn
  have g : 0 ≤ nI n ∧ nI n ≤ 9 := ⟨nI_pos' (by omega), nI_le (b := 9) (by omega) (by omega)⟩
  rw [m38]
  simp only [↓r38_0, ↓r38_1, ↓r38_4, ↓r38_6, ↓r38_8, ↓r38_9, ↓r38_11, ↓r38_14, ↓r38_17, ↓r38_19, ↓r38_20, ↓r38_21, ↓r38_24, ↓r38_26, ↓r38_27, ↓r38_28, ↓r38_29, ↓r38_32, ↓r38_34, ↓r38_35, ↓r38_36, ↓r38_37, ↓r38_40, ↓r38_42, ↓r38_43, ↓r38_44, ↓r38_45, ↓r38_48, ↓r38_50, ↓r38_51, ↓r38_52, ↓r38_53, ↓r38_56, ↓r38_58, ↓r38_59, ↓r38_60, ↓r38_61, ↓r38_63, ↓r38_64, ↓r38_65, ↓r38_68, ↓r38_70, zc_10, zc_18, zc_26, zc_0, zc_1, zc_7, zc_60, Nat.reduceAdd, true_and, hn', c103, if_pos g, Option.toList, List.cons_append, List.nil_append, zs_11, zs_12, zs_13, zs_14, zs_15, zok_nI h10 (by omega), zix_nI (by omega : n < 2 ^ 31), nI_1]
  rw [if_neg (by decide)]
  refine hQ _ ⟨fun c hc => ?_, ?_⟩ ?_
  · (repeat rw [zhr_ne _ _ (by omega)])
  · rw [zhr_same, zup_ap, if_neg (by omega)]
    (repeat rw [zhr_ne _ _ (by omega)])
  · exact zV_fld (Or.inl ⟨rfl, rfl⟩) (zV_load (w := 4) (by omega) h10 (zV_load (w := 3) (by omega) h10 (zV_load (w := 2) (by omega) h10 (zV_load (w := 1) (by omega) h10 (zV_load (w := 0) (by omega) h10 hV)))))
theorem c118 (hn : h 61 0 = nI n) (h10 : n < 10) : zM (d + 2) 118 [.ref 60, .int x0, .int x1, .int x2] h Q = Q none (zhr h 61 (sCome n x0 x1 x2 (h 61))) := by
  rw [m118]
  simp only [↓r118_0, ↓r118_1, ↓r118_4, ↓r118_5, ↓r118_6, ↓r118_8, ↓r118_9, ↓r118_12, ↓r118_13, ↓r118_14, ↓r118_15, ↓r118_16, ↓r118_17, ↓r118_18, ↓r118_19, ↓r118_21, ↓r118_22, ↓r118_23, ↓r118_26, ↓r118_27, ↓r118_29, ↓r118_30, ↓r118_31, ↓r118_34, ↓r118_35, ↓r118_37, ↓r118_38, ↓r118_39, ↓r118_42, ↓r118_43, ↓r118_45, ↓r118_46, ↓r118_47, ↓r118_50, ↓r118_51, ↓r118_53, ↓r118_54, ↓r118_55, ↓r118_58, zl_61, zs_61, zok0, zix0, hn, true_and, nI_1, c114_0 h10, c114_1 h10, c114_2 h10, c114_3 h10, c114_4 h10, Option.toList, List.cons_append, List.nil_append, zhr_zhr, zhr_same]
  congr 2
  unfold sCome
  rw [upd_comm (by omega : 0 ≠ 12 + 5 * n + 0), upd_comm (by omega : 0 ≠ 12 + 5 * n + 1), upd_comm (by omega : 0 ≠ 12 + 5 * n + 2), upd_comm (by omega : 0 ≠ 12 + 5 * n + 3), upd_comm (by omega : 0 ≠ 12 + 5 * n + 4)]
theorem zRel_come (hR : zRelN h n m N) (hB : zB (h' 61) n' m) (e : ∀ c, ¬ (10 ≤ c ∧ c ≤ 15) → c ≠ 61 → h' c = h c) (e14 : h' 10 14 = h 10 14) (hV : zV h' 10 (h' 61)) (e1 : h' 61 1 = h 61 1) (er : ∀ k, 62 ≤ k → h' 61 k = h 61 k) : zRelN h' n' m N :=
  zRel_set hR (fun c a b _ _ _ => e c (by omega) b) e14 hV hB e1 er hR.1.2
theorem p_load : zPair (d + 20) (d + 20) 58 119 [.int x0, .int x1, .int x2] := by
  intro h Q2 hR hQ
  have hR0 := hR
  obtain ⟨n, m, N, hRN⟩ := hR
  obtain ⟨⟨hSt, hm⟩, -⟩ := id hRN
  obtain ⟨⟨hn, h10⟩, hld, -⟩ := hSt.2.1
  have hn' : h 10 1 = nI n := hSt.1.1.1.trans hn
  rw [m58]
  simp only [↓r58_0, ↓r58_1, ↓r58_4, ↓r58_7, ↓r58_8, ↓r58_9, ↓r58_11, ↓r58_14, ↓r58_17, ↓r58_18, ↓r58_19, ↓r58_20, ↓r58_23, ↓r58_26, ↓r58_28, ↓r58_29, ↓r58_30, ↓r58_33, ↓r58_36, ↓r58_38, ↓r58_41, ↓r58_43, ↓r58_44, ↓r58_45, ↓r58_48, ↓r58_49, ↓r58_50, ↓r58_51, ↓r58_54, zc_10, zc_18, zc_26, zc_0, zc_1, zc_7, zc_60, Nat.reduceAdd, true_and, c0, c103, hn', Option.toList, List.cons_append, List.nil_append, true_and]
  by_cases g0 : 0 ≤ x0 ∧ x0 ≤ 5
  · by_cases g1 : 1 ≤ x1 ∧ x1 ≤ 99
    · by_cases g2 : 0 ≤ x2 ∧ x2 ≤ 1
      · simp (decide := true) only [if_pos g0, if_pos g1, if_pos g2, ↓reduceIte]
        by_cases g : n < 10
        · have g3 : nI n < 10 := nI_lt (b := 10) g (by omega)
          have g4 : ¬ nI n = 10 := by
            rw [show (10 : Int32) = nI 10 from rfl, nI_eq (by omega) (by omega)]
            omega
          simp only [if_pos g3]
          refine c38 hSt.1 hn g fun h1 e1 hV1 => ?_
          simp only [↓r58_0, ↓r58_1, ↓r58_4, ↓r58_7, ↓r58_8, ↓r58_9, ↓r58_11, ↓r58_14, ↓r58_17, ↓r58_18, ↓r58_19, ↓r58_20, ↓r58_23, ↓r58_26, ↓r58_28, ↓r58_29, ↓r58_30, ↓r58_33, ↓r58_36, ↓r58_38, ↓r58_41, ↓r58_43, ↓r58_44, ↓r58_45, ↓r58_48, ↓r58_49, ↓r58_50, ↓r58_51, ↓r58_54, Option.toList, List.cons_append, List.nil_append, true_and]
          refine zPo_in (e1.1 _ (by omega)) (e1.1 _ (by omega)) ?_
          have e61 : h1 61 = h 61 := e1.1 _ (by omega)
          rw [m119]
          simp (decide := true) only [↓r119_0, ↓r119_1, ↓r119_2, ↓r119_3, ↓r119_6, ↓r119_9, ↓r119_12, ↓r119_13, ↓r119_14, ↓r119_15, ↓r119_18, ↓r119_21, ↓r119_24, ↓r119_25, ↓r119_26, ↓r119_27, ↓r119_28, ↓r119_31, ↓r119_34, ↓r119_36, ↓r119_37, ↓r119_38, ↓r119_41, ↓r119_42, ↓r119_43, ↓r119_45, ↓r119_48, ↓r119_50, ↓r119_51, ↓r119_52, ↓r119_53, ↓r119_54, ↓r119_55, ↓r119_58, ↓r119_59, ↓r119_62, ↓r119_63, ↓r119_64, ↓r119_65, ↓r119_66, c106, if_pos g0, if_pos g1, if_pos g2, ↓reduceIte, e61, hn, zl_61, zok0, zix0, if_neg g4, c118 (h := h1) (by rw [e61]; exact hn) g, zhr_same, sCome_0, Option.toList, List.cons_append, List.nil_append, true_and]
          refine zPq_in (by rw [nI_s1 (by omega)]; rfl) (hQ _ _ ⟨n + 1, m, N, zRel_come hRN (by rw [zhr_same]; exact zB_come hSt.2.1 g (kOk_of g0) g1 (b01_of g2)) (fun c a b => by rw [zhr_ne _ _ b]; exact e1.1 c a) (by rw [zhr_ne _ _ (by omega)]; exact e1.2) ?_ ?_ ?_⟩ ?_ ?_)
          · rw [zhr_same]
            exact zV_rows hV1 (by rw [zhr_ne _ _ (by omega)]) (fun j hj => by rw [zhr_ne _ _ (by omega)])
          · rw [zhr_same, sCome_lo (by omega) (by omega)]
          · intro k hk
            rw [zhr_same, sCome_hi g hk]
          · rw [zhr_ne _ _ (by omega)]; exact e1.1 _ (by omega)
          · rw [zhr_ne _ _ (by omega)]; exact e1.1 _ (by omega)
        · have e10 : n = 10 := by omega
          subst e10
          simp (decide := true) only [↓reduceIte]
          refine zPo_in rfl rfl ?_
          rw [m119]
          simp (decide := true) only [↓r119_0, ↓r119_1, ↓r119_2, ↓r119_3, ↓r119_6, ↓r119_9, ↓r119_12, ↓r119_13, ↓r119_14, ↓r119_15, ↓r119_18, ↓r119_21, ↓r119_24, ↓r119_25, ↓r119_26, ↓r119_27, ↓r119_28, ↓r119_31, ↓r119_34, ↓r119_36, ↓r119_37, ↓r119_38, ↓r119_41, ↓r119_42, ↓r119_43, ↓r119_45, ↓r119_48, ↓r119_50, ↓r119_51, ↓r119_52, ↓r119_53, ↓r119_54, ↓r119_55, ↓r119_58, ↓r119_59, ↓r119_62, ↓r119_63, ↓r119_64, ↓r119_65, ↓r119_66, c106, if_pos g0, if_pos g1, if_pos g2, ↓reduceIte, hn, zl_61, zok0, zix0, Option.toList, List.cons_append, List.nil_append, true_and]
          exact zPq_in rfl (hQ _ _ hR0 rfl rfl)
      · simp (decide := true) only [if_pos g0, if_pos g1, if_neg g2, ↓reduceIte]
        refine zPo_in rfl rfl ?_
        rw [m119]
        simp (decide := true) only [↓r119_0, ↓r119_1, ↓r119_2, ↓r119_3, ↓r119_6, ↓r119_9, ↓r119_12, ↓r119_13, ↓r119_14, ↓r119_15, ↓r119_18, ↓r119_21, ↓r119_24, ↓r119_25, ↓r119_26, ↓r119_27, ↓r119_28, ↓r119_31, ↓r119_34, ↓r119_36, ↓r119_37, ↓r119_38, ↓r119_41, ↓r119_42, ↓r119_43, ↓r119_45, ↓r119_48, ↓r119_50, ↓r119_51, ↓r119_52, ↓r119_53, ↓r119_54, ↓r119_55, ↓r119_58, ↓r119_59, ↓r119_62, ↓r119_63, ↓r119_64, ↓r119_65, ↓r119_66, c106, if_pos g0, if_pos g1, if_neg g2, ↓reduceIte, Option.toList, List.cons_append, List.nil_append, true_and]
        exact zPq_in rfl (hQ _ _ hR0 rfl rfl)
    · simp (decide := true) only [if_pos g0, if_neg g1, ↓reduceIte]
      refine zPo_in rfl rfl ?_
      rw [m119]
      simp (decide := true) only [↓r119_0, ↓r119_1, ↓r119_2, ↓r119_3, ↓r119_6, ↓r119_9, ↓r119_12, ↓r119_13, ↓r119_14, ↓r119_15, ↓r119_18, ↓r119_21, ↓r119_24, ↓r119_25, ↓r119_26, ↓r119_27, ↓r119_28, ↓r119_31, ↓r119_34, ↓r119_36, ↓r119_37, ↓r119_38, ↓r119_41, ↓r119_42, ↓r119_43, ↓r119_45, ↓r119_48, ↓r119_50, ↓r119_51, ↓r119_52, ↓r119_53, ↓r119_54, ↓r119_55, ↓r119_58, ↓r119_59, ↓r119_62, ↓r119_63, ↓r119_64, ↓r119_65, ↓r119_66, c106, if_pos g0, if_neg g1, ↓reduceIte, Option.toList, List.cons_append, List.nil_append, true_and]
      exact zPq_in rfl (hQ _ _ hR0 rfl rfl)
  · simp (decide := true) only [if_neg g0, ↓reduceIte]
    refine zPo_in rfl rfl ?_
    rw [m119]
    simp (decide := true) only [↓r119_0, ↓r119_1, ↓r119_2, ↓r119_3, ↓r119_6, ↓r119_9, ↓r119_12, ↓r119_13, ↓r119_14, ↓r119_15, ↓r119_18, ↓r119_21, ↓r119_24, ↓r119_25, ↓r119_26, ↓r119_27, ↓r119_28, ↓r119_31, ↓r119_34, ↓r119_36, ↓r119_37, ↓r119_38, ↓r119_41, ↓r119_42, ↓r119_43, ↓r119_45, ↓r119_48, ↓r119_50, ↓r119_51, ↓r119_52, ↓r119_53, ↓r119_54, ↓r119_55, ↓r119_58, ↓r119_59, ↓r119_62, ↓r119_63, ↓r119_64, ↓r119_65, ↓r119_66, c106, if_neg g0, ↓reduceIte, Option.toList, List.cons_append, List.nil_append, true_and]
    exact zPq_in rfl (hQ _ _ hR0 rfl rfl)
theorem kDraw_nI (z : Int32) : ∃ p, p < 2 ^ 31 ∧ kDraw z = nI p := by
  refine ⟨(kDraw z).toBitVec.toNat, ?_, ?_⟩
  · unfold kDraw
    rw [pk_ushr (kNext z) 8 8 (by decide)]
    have := (kNext z).toBitVec.isLt
    omega
  · apply Int32.toBitVec_inj.mp
    apply BitVec.eq_of_toNat_eq
    show _ = (Int32.ofNat _).toBitVec.toNat
    simp
theorem mod_in {x : Int32} {p q : Nat} (hp : p < 2 ^ 31) (h0 : 0 < q) (hq : q < 2 ^ 31) (e : x = nI p) : x - x / nI q * nI q = nI (p % q) := by rw [e, pk_rem hp h0 hq]
theorem dealF_in (z : Int32) : (kOk (kDraw z - kDraw z / 6 * 6)) ∧ (1 ≤ 1 + (kDraw z - kDraw z / 60 * 60) ∧ 1 + (kDraw z - kDraw z / 60 * 60) ≤ 99) ∧ (kDraw z - kDraw z / 2 * 2 = 0 ∨ kDraw z - kDraw z / 2 * 2 = 1) := by
  obtain ⟨p, hp, e⟩ := kDraw_nI z
  have e6 := mod_in (q := 6) hp (by omega) (by omega) e
  have e60 := mod_in (q := 60) hp (by omega) (by omega) e
  have e2 := mod_in (q := 2) hp (by omega) (by omega) e
  have m6 := Nat.mod_lt p (show 0 < 6 by omega)
  have m60 := Nat.mod_lt p (show 0 < 60 by omega)
  have m2 := Nat.mod_lt p (show 0 < 2 by omega)
  rw [show (6 : Int32) = nI 6 from rfl, show (60 : Int32) = nI 60 from rfl, show (2 : Int32) = nI 2 from rfl, e6, e60, e2, show (1 : Int32) = nI 1 from rfl, nI_add]
  refine ⟨kOk_of ⟨nI_pos' (by omega), nI_le (b := 5) (by omega) (by omega)⟩, ⟨nI_le (by omega) (by omega), nI_le (b := 99) (by omega) (by omega)⟩, ?_⟩
  rcases (by omega : p % 2 = 0 ∨ p % 2 = 1) with g | g
  · rw [g]; exact Or.inl rfl
  · rw [g]; exact Or.inr rfl
theorem zB_deal (hB : zB s n m) (h10 : n < 10) : zB (dealF n s) (n + 1) m :=
  zB_come (zB_z hB) h10 (dealF_in _).1 (dealF_in _).2.1 (dealF_in _).2.2
theorem dealF_keep (h10 : n < 10) (hj : j = 1 ∨ 62 ≤ j) : dealF n s j = s j := by
  unfold dealF
  rcases hj with rfl | hj
  · rw [sCome_lo (by omega) (by omega), pk_un (by omega)]
  · rw [sCome_hi h10 hj, pk_un (by omega)]
theorem dealN_keep (hj : j = 1 ∨ 62 ≤ j) : ∀ (f n : Nat) (s : Nat → Int32), n + f ≤ 10 → dealN n f s j = s j
  | 0, _, _, _ => rfl
  | f + 1, n, s, h => (dealN_keep hj f (n + 1) (dealF n s) (by omega)).trans (dealF_keep (by omega) hj)
theorem zB_dealN : ∀ (f n : Nat) (s : Nat → Int32), zB s n m → n + f ≤ 10 → zB (dealN n f s) (n + f) m
  | 0, _, _, hB, _ => hB
  | f + 1, n, s, hB, h => by
    have := zB_dealN f (n + 1) (dealF n s) (zB_deal hB (by omega)) (by omega)
    rwa [show n + (f + 1) = n + 1 + f by omega]
theorem c67_loop {came x : Int32} {F : Nat} (hF : came = nI F) (hF10 : F ≤ 10) : ∀ (f i n : Nat) (s : Nat → Int32) (h' : zH) (o4 o5 o6 : Option Value), i + f = F → zV h' 10 s → s 0 = nI n → n + f ≤ 10 → (∀ h'', sl h' h'' → zV h'' 10 (dealN n f s) → Q (some (.int came)) h'') → zR (d + 5) 67 Q 30 [some (.ref 0), some (.int x), some (.int came), some (.int (nI i)), o4, o5, o6] [] h' := by
  intro f
  induction f with
  | zero =>
    intro i n s h' o4 o5 o6 hi hV hs hn hQ
    have e : i = F := by omega
    subst e
    subst hF
    rw [r67_30]
    simp only [↓r67_0, ↓r67_1, ↓r67_2, ↓r67_4, ↓r67_7, ↓r67_10, ↓r67_12, ↓r67_13, ↓r67_14, ↓r67_16, ↓r67_17, ↓r67_20, ↓r67_23, ↓r67_24, ↓r67_27, ↓r67_28, ↓r67_29, ↓r67_31, ↓r67_32, ↓r67_35, ↓r67_36, ↓r67_39, ↓r67_42, ↓r67_44, ↓r67_45, ↓r67_47, ↓r67_48, ↓r67_49, ↓r67_52, ↓r67_55, ↓r67_57, ↓r67_58, ↓r67_59, ↓r67_61, ↓r67_62, ↓r67_65, ↓r67_68, ↓r67_69, ↓r67_70, ↓r67_72, ↓r67_73, ↓r67_76, ↓r67_78, ↓r67_80, ↓r67_82, ↓r67_85, ↓r67_86, ↓r67_89, ↓r67_92, ↓r67_93, nI_nlt (Nat.le_refl i) (by omega), if_false]
    exact hQ h' sl_rf hV
  | succ f ih =>
    intro i n s h' o4 o5 o6 hi hV hs hn hQ
    subst hF
    rw [r67_30]
    have c39' := fun (h : zH) (Q' : Option Value → zH → Prop) => c39 (d := d + 4) (h := h) (Q := Q') zst10
    simp only [↓r67_0, ↓r67_1, ↓r67_2, ↓r67_4, ↓r67_7, ↓r67_10, ↓r67_12, ↓r67_13, ↓r67_14, ↓r67_16, ↓r67_17, ↓r67_20, ↓r67_23, ↓r67_24, ↓r67_27, ↓r67_28, ↓r67_29, ↓r67_31, ↓r67_32, ↓r67_35, ↓r67_36, ↓r67_39, ↓r67_42, ↓r67_44, ↓r67_45, ↓r67_47, ↓r67_48, ↓r67_49, ↓r67_52, ↓r67_55, ↓r67_57, ↓r67_58, ↓r67_59, ↓r67_61, ↓r67_62, ↓r67_65, ↓r67_68, ↓r67_69, ↓r67_70, ↓r67_72, ↓r67_73, ↓r67_76, ↓r67_78, ↓r67_80, ↓r67_82, ↓r67_85, ↓r67_86, ↓r67_89, ↓r67_92, ↓r67_93, zc_10, zc_18, zc_26, zc_0, zc_1, zc_7, zc_60, Nat.reduceAdd, true_and, nI_lt (by omega : i < F) (by omega : F < 2 ^ 31), if_true, c39', Option.toList, List.cons_append, List.nil_append, zhr_zhr, zhr_same, upd_upd, zup_ap, if_true]
    have hz : h' 10 11 = s 5 := hV.1.2.2.2.2.2
    rw [hz]
    refine c38 (s := upd s 5 (kNext (kNext (kNext (s 5))))) (n := n) ?_ (by rw [pk_un (by omega)]; exact hs) (by omega) fun h2 e2 hV2 => ?_
    · exact zV_fld (Or.inr (Or.inr (Or.inr (Or.inr (Or.inr ⟨rfl, rfl⟩))))) hV
    · simp only [↓r67_0, ↓r67_1, ↓r67_2, ↓r67_4, ↓r67_7, ↓r67_10, ↓r67_12, ↓r67_13, ↓r67_14, ↓r67_16, ↓r67_17, ↓r67_20, ↓r67_23, ↓r67_24, ↓r67_27, ↓r67_28, ↓r67_29, ↓r67_31, ↓r67_32, ↓r67_35, ↓r67_36, ↓r67_39, ↓r67_42, ↓r67_44, ↓r67_45, ↓r67_47, ↓r67_48, ↓r67_49, ↓r67_52, ↓r67_55, ↓r67_57, ↓r67_58, ↓r67_59, ↓r67_61, ↓r67_62, ↓r67_65, ↓r67_68, ↓r67_69, ↓r67_70, ↓r67_72, ↓r67_73, ↓r67_76, ↓r67_78, ↓r67_80, ↓r67_82, ↓r67_85, ↓r67_86, ↓r67_89, ↓r67_92, ↓r67_93, Option.toList, List.cons_append, List.nil_append, nI_1]
      refine ih (i + 1) (n + 1) (dealF n s) h2 _ _ _ (by omega) hV2 sCome_0 (by omega) fun h3 e3 hV3 => ?_
      refine hQ h3 (sl_tr (sl_tr ⟨fun c hc => by rw [zhr_ne _ _ (by omega)], ?_⟩ e2) e3) hV3
      rw [zhr_same, zup_ap, if_neg (by omega)]
theorem c139_loop {x : Int32} {F : Nat} (hx : x = nI F) (hF : F ≤ 10) : ∀ (f i n : Nat) (h' : zH) (o3 o4 : Option Value), i + f ≤ F → n + f ≤ 10 → (i + f = F ∨ n + f = 10) → h' 61 0 = nI n → (Q (some (.int (nI (i + f)))) (zhr h' 61 (dealN n f (h' 61)))) → zR (d + 5) 139 Q 17 [some (.ref 60), some (.int x), some (.int (nI i)), o3, o4] [] h' := by
  intro f
  induction f with
  | zero =>
    intro i n h' o3 o4 h1 h2 h3 hs hQ
    subst hx
    simp only [dealN, zhr_self, Nat.add_zero] at hQ
    rw [r139_17]
    rcases h3 with h3 | h3
    · have e : i = F := by omega
      subst e
      simp only [↓r139_0, ↓r139_1, ↓r139_2, ↓r139_3, ↓r139_6, ↓r139_9, ↓r139_12, ↓r139_14, ↓r139_15, ↓r139_16, ↓r139_18, ↓r139_19, ↓r139_22, ↓r139_23, ↓r139_26, ↓r139_27, ↓r139_28, ↓r139_30, ↓r139_33, ↓r139_34, ↓r139_37, ↓r139_39, ↓r139_40, ↓r139_41, ↓r139_42, ↓r139_43, ↓r139_46, ↓r139_48, ↓r139_49, ↓r139_50, ↓r139_52, ↓r139_53, ↓r139_54, ↓r139_56, ↓r139_57, ↓r139_60, ↓r139_61, ↓r139_62, ↓r139_65, ↓r139_68, ↓r139_71, ↓r139_72, nI_nlt (Nat.le_refl i) (by omega), if_false]
      exact hQ
    · have e : n = 10 := by omega
      subst e
      by_cases g : i < F
      · simp (decide := true) only [↓r139_0, ↓r139_1, ↓r139_2, ↓r139_3, ↓r139_6, ↓r139_9, ↓r139_12, ↓r139_14, ↓r139_15, ↓r139_16, ↓r139_18, ↓r139_19, ↓r139_22, ↓r139_23, ↓r139_26, ↓r139_27, ↓r139_28, ↓r139_30, ↓r139_33, ↓r139_34, ↓r139_37, ↓r139_39, ↓r139_40, ↓r139_41, ↓r139_42, ↓r139_43, ↓r139_46, ↓r139_48, ↓r139_49, ↓r139_50, ↓r139_52, ↓r139_53, ↓r139_54, ↓r139_56, ↓r139_57, ↓r139_60, ↓r139_61, ↓r139_62, ↓r139_65, ↓r139_68, ↓r139_71, ↓r139_72, ↓reduceIte, nI_lt g (by omega), if_true, zl_61, zok0, zix0, hs, true_and]
        exact hQ
      · have e : i = F := by omega
        subst e
        simp only [↓r139_0, ↓r139_1, ↓r139_2, ↓r139_3, ↓r139_6, ↓r139_9, ↓r139_12, ↓r139_14, ↓r139_15, ↓r139_16, ↓r139_18, ↓r139_19, ↓r139_22, ↓r139_23, ↓r139_26, ↓r139_27, ↓r139_28, ↓r139_30, ↓r139_33, ↓r139_34, ↓r139_37, ↓r139_39, ↓r139_40, ↓r139_41, ↓r139_42, ↓r139_43, ↓r139_46, ↓r139_48, ↓r139_49, ↓r139_50, ↓r139_52, ↓r139_53, ↓r139_54, ↓r139_56, ↓r139_57, ↓r139_60, ↓r139_61, ↓r139_62, ↓r139_65, ↓r139_68, ↓r139_71, ↓r139_72, nI_nlt (Nat.le_refl i) (by omega), if_false]
        exact hQ
  | succ f ih =>
    intro i n h' o3 o4 h1 h2 h3 hs hQ
    subst hx
    have g3 : nI n < 10 := nI_lt (b := 10) (by omega) (by omega)
    rw [r139_17]
    have c117' := fun (h : zH) (Q' : Option Value → zH → Prop) => c117 (d := d + 4) (h := h) (Q := Q')
    have c118' := fun (z : Int32) (x0 x1 x2 : Int32) (Q' : Option Value → zH → Prop) => c118 (d := d + 3) (x0 := x0) (x1 := x1) (x2 := x2) (h := zhr h' 61 (upd (h' 61) 5 z)) (Q := Q') (n := n) (by rw [zhr_same, pk_un (by omega)]; exact hs) (by omega)
    simp only [↓r139_0, ↓r139_1, ↓r139_2, ↓r139_3, ↓r139_6, ↓r139_9, ↓r139_12, ↓r139_14, ↓r139_15, ↓r139_16, ↓r139_18, ↓r139_19, ↓r139_22, ↓r139_23, ↓r139_26, ↓r139_27, ↓r139_28, ↓r139_30, ↓r139_33, ↓r139_34, ↓r139_37, ↓r139_39, ↓r139_40, ↓r139_41, ↓r139_42, ↓r139_43, ↓r139_46, ↓r139_48, ↓r139_49, ↓r139_50, ↓r139_52, ↓r139_53, ↓r139_54, ↓r139_56, ↓r139_57, ↓r139_60, ↓r139_61, ↓r139_62, ↓r139_65, ↓r139_68, ↓r139_71, ↓r139_72, nI_lt (by omega : i < F) (by omega : F < 2 ^ 31), if_true, zl_61, zok0, zix0, true_and, hs, if_pos g3, c117', Option.toList, List.cons_append, List.nil_append, zhr_zhr, zhr_same, upd_upd, zup_ap, c118', nI_1]
    refine ih (i + 1) (n + 1) _ _ _ (by omega) (by omega) (by omega) ?_ ?_
    · rw [zhr_same]; exact sCome_0
    · rw [zhr_same, zhr_zhr, show i + 1 + f = i + (f + 1) by omega]
      exact hQ
theorem nI_sub {a b : Nat} (hab : b ≤ a) : nI a - nI b = nI (a - b) := by
  have : nI a = nI (a - b) + nI b := by rw [nI_add]; congr 1; omega
  rw [this, Int32.add_sub_cancel]
theorem p_deal : zPair (d + 20) (d + 20) 67 139 [.int x0] := by
  intro h Q2 hR hQ
  have hR0 := hR
  obtain ⟨n, m, N, hRN⟩ := hR
  obtain ⟨⟨hSt, hm⟩, -⟩ := id hRN
  obtain ⟨⟨hn, h10⟩, hld, -⟩ := hSt.2.1
  have hn' : h 10 1 = nI n := hSt.1.1.1.trans hn
  rw [m67]
  simp only [↓r67_0, ↓r67_1, ↓r67_2, ↓r67_4, ↓r67_7, ↓r67_10, ↓r67_12, ↓r67_13, ↓r67_14, ↓r67_16, ↓r67_17, ↓r67_20, ↓r67_23, ↓r67_24, ↓r67_27, ↓r67_28, ↓r67_29, ↓r67_31, ↓r67_32, ↓r67_35, ↓r67_36, ↓r67_39, ↓r67_42, ↓r67_44, ↓r67_45, ↓r67_47, ↓r67_48, ↓r67_49, ↓r67_52, ↓r67_55, ↓r67_57, ↓r67_58, ↓r67_59, ↓r67_61, ↓r67_62, ↓r67_65, ↓r67_68, ↓r67_69, ↓r67_70, ↓r67_72, ↓r67_73, ↓r67_76, ↓r67_78, ↓r67_80, ↓r67_82, ↓r67_85, ↓r67_86, ↓r67_89, ↓r67_92, ↓r67_93, zc_10, zc_18, zc_26, zc_0, zc_1, zc_7, zc_60, Nat.reduceAdd, true_and, c103, m1001, hn', Option.toList, List.cons_append, List.nil_append, true_and]
  by_cases g0 : 1 ≤ x0 ∧ x0 ≤ 10
  · obtain ⟨F, hF, rfl⟩ := nI_of2 (M := 10) (n := 10) (by decide) (by have := g0.1; grind) g0.2
    have hF1 : 1 ≤ F := by
      rcases Nat.eq_zero_or_pos F with z | z
      · subst z; exact absurd g0.1 (by decide)
      · exact z
    have e10 : (10 : Int32) - nI n = nI (10 - n) := nI_sub (a := 10) h10
    simp (decide := true) only [if_pos g0, ↓reduceIte, e10, nI_ltk (by omega : 10 - n < 2 ^ 31) (by omega : F < 2 ^ 31)]
    obtain ⟨f, hf⟩ : ∃ f, f = if 10 - n < F then 10 - n else F := ⟨_, rfl⟩
    have hf' : (if 10 - n < F then nI (10 - n) else nI F) = nI f := by
      rw [hf]
      by_cases g : 10 - n < F
      · rw [if_pos g, if_pos g]
      · rw [if_neg g, if_neg g]
    have hf1 : f ≤ F ∧ n + f ≤ 10 ∧ (f = F ∨ n + f = 10) := by
      by_cases g : 10 - n < F
      · rw [if_pos g] at hf; omega
      · rw [if_neg g] at hf; omega
    rw [hf', ← nI_0]
    refine c67_loop (F := f) rfl (by omega) f 0 n (h 61) h none none none (by omega) hSt.1 hn hf1.2.1 fun h1 e1 hV1 => ?_
    refine zPo_in (e1.1 _ (by omega)) (e1.1 _ (by omega)) ?_
    have e61 : h1 61 = h 61 := e1.1 _ (by omega)
    rw [m139]
    simp (decide := true) only [↓r139_0, ↓r139_1, ↓r139_2, ↓r139_3, ↓r139_6, ↓r139_9, ↓r139_12, ↓r139_14, ↓r139_15, ↓r139_16, ↓r139_18, ↓r139_19, ↓r139_22, ↓r139_23, ↓r139_26, ↓r139_27, ↓r139_28, ↓r139_30, ↓r139_33, ↓r139_34, ↓r139_37, ↓r139_39, ↓r139_40, ↓r139_41, ↓r139_42, ↓r139_43, ↓r139_46, ↓r139_48, ↓r139_49, ↓r139_50, ↓r139_52, ↓r139_53, ↓r139_54, ↓r139_56, ↓r139_57, ↓r139_60, ↓r139_61, ↓r139_62, ↓r139_65, ↓r139_68, ↓r139_71, ↓r139_72, c106, if_pos g0, ↓reduceIte, Option.toList, List.cons_append, List.nil_append, true_and]
    rw [← nI_0]
    refine c139_loop (F := F) rfl hF f 0 n h1 none none (by omega) hf1.2.1 (by omega) (by rw [e61]; exact hn) ?_
    rw [e61]
    refine zPq_in (by rw [Nat.zero_add]) (hQ _ _ ⟨n + f, m, N, zRel_come hRN (by rw [zhr_same]; exact zB_dealN f n _ hSt.2.1 hf1.2.1) (fun c a b => by rw [zhr_ne _ _ b]; exact e1.1 c a) (by rw [zhr_ne _ _ (by omega)]; exact e1.2) ?_ ?_ ?_⟩ ?_ ?_)
    · rw [zhr_same]
      exact zV_rows hV1 (by rw [zhr_ne _ _ (by omega)]) (fun j hj => by rw [zhr_ne _ _ (by omega)])
    · rw [zhr_same, dealN_keep (Or.inl rfl) f n _ hf1.2.1]
    · intro k hk
      rw [zhr_same, dealN_keep (Or.inr hk) f n _ hf1.2.1]
    · rw [zhr_ne _ _ (by omega)]; exact e1.1 _ (by omega)
    · rw [zhr_ne _ _ (by omega)]; exact e1.1 _ (by omega)
  · simp (decide := true) only [if_neg g0, ↓reduceIte]
    refine zPo_in rfl rfl ?_
    rw [m139]
    simp (decide := true) only [↓r139_0, ↓r139_1, ↓r139_2, ↓r139_3, ↓r139_6, ↓r139_9, ↓r139_12, ↓r139_14, ↓r139_15, ↓r139_16, ↓r139_18, ↓r139_19, ↓r139_22, ↓r139_23, ↓r139_26, ↓r139_27, ↓r139_28, ↓r139_30, ↓r139_33, ↓r139_34, ↓r139_37, ↓r139_39, ↓r139_40, ↓r139_41, ↓r139_42, ↓r139_43, ↓r139_46, ↓r139_48, ↓r139_49, ↓r139_50, ↓r139_52, ↓r139_53, ↓r139_54, ↓r139_56, ↓r139_57, ↓r139_60, ↓r139_61, ↓r139_62, ↓r139_65, ↓r139_68, ↓r139_71, ↓r139_72, c106, if_neg g0, ↓reduceIte, Option.toList, List.cons_append, List.nil_append, true_and]
    exact zPq_in rfl (hQ _ _ hR0 rfl rfl)
end
