/-! pair: feed -/
/-- a byte of four: s places from the low end -/
def fB (x : Int32) (s : Nat) : Int32 := (x >>> (nI s &&& 31)) &&& 255
def sI : Nat → Int32
  | 0 => 24 | 1 => 16 | 2 => 8 | 3 => 0 | _ => -8
def hF (h : zH) (L : Nat) (t : Nat → Int32) : zH := fun c => if c = 7 then upd (h 7) 1 (nI L) else if c = 8 then t else h c
def hG (h : zH) (L : Nat) (t : Nat → Int32) : zH := fun c => if c = 60 then upd (h 60) 16 (nI L) else if c = 74 then t else h c
def fV (a b c : Int32) (k : Nat) : Int32 := if k < 4 then a else if k < 8 then b else c
section
variable {d : Nat} {Q : Option Value → zH → Prop} {h h' : zH} {f g t : Nat → Int32} {x x0 x1 x2 : Int32} {L k n i s : Nat}
theorem upN (L : Nat) (v : Nat → Int32) : ∀ (n : Nat) (t : Nat → Int32) (i : Nat), zfo (fun k (t : Nat → Int32) => upd t (L + k) (v k)) n t i = if L ≤ i ∧ i < L + n then v (i - L) else t i
  | 0, t, i => by
    rw [if_neg (by omega)]; rfl
  | n + 1, t, i => by
    show upd (zfo (fun k (t : Nat → Int32) => upd t (L + k) (v k)) n t) (L + n) (v n) i = _
    rw [zup_ap]
    by_cases e : i = L + n
    · rw [if_pos e, if_pos (by omega), e, show L + n - L = n by omega]
    · rw [if_neg e, upN L v n t i]
      by_cases q : L ≤ i ∧ i < L + n
      · rw [if_pos q, if_pos (by omega)]
      · rw [if_neg q, if_neg (by omega)]
theorem bt_ush (x s : Int32) (k i : Nat) (hs : ((s.toUInt32 &&& Int32.toUInt32 31).toBitVec % 32).toNat = k) : bt (x.toUInt32 >>> (s.toUInt32 &&& Int32.toUInt32 31)).toInt32 i = bt x (k + i) := by
  unfold bt
  rw [← BitVec.testBit_toNat, pk_ushr x s k hs, ← BitVec.testBit_toNat, Nat.testBit_div_two_pow, Nat.add_comm]
theorem fB_u (x s : Int32) (k : Nat) (hs : ((s.toUInt32 &&& Int32.toUInt32 31).toBitVec % 32).toNat = k) (h24 : k ≤ 24) : (x.toUInt32 >>> (s.toUInt32 &&& Int32.toUInt32 31)).toInt32 &&& 255 = fB x k := by
  unfold fB
  apply b_ext
  intro i hi
  rw [b_and, b_and, bt_ush x s k i hs, b_sshr k (by omega) x hi]
  by_cases q : k + i < 32
  · rw [if_pos q]
  · have : bt 255 i = false := by
      have key : ∀ j : Fin 32, 8 ≤ j.val → bt 255 j.val = false := by decide +kernel
      exact key ⟨i, hi⟩ (by show 8 ≤ i; omega)
    rw [this, Bool.and_false, Bool.and_false]
theorem fB_in (x : Int32) (k : Nat) : 0 ≤ fB x k ∧ fB x k ≤ 255 := by
  unfold fB
  rw [pk_and (x >>> (nI k &&& 31)) (m := 255) 8 rfl]
  have : (x >>> (nI k &&& 31)).toBitVec.toNat % 2 ^ 8 < 256 := Nat.mod_lt _ (by decide)
  exact ⟨nI_pos' (by omega), nI_le (b := 255) (by omega) (by omega)⟩
theorem hF_7 : hF h L t 7 = upd (h 7) 1 (nI L) := rfl
theorem hF_8 : hF h L t 8 = t := rfl
theorem hF_p8 : zhr (hF h L t) 8 g = hF h L g := by
  funext c
  simp only [zhr_ap, hF]
  by_cases q : c = 8
  · subst q; simp
  · simp [q]
theorem hF_p7 : zhr (hF h L t) 7 (upd (upd (h 7) 1 (nI L)) 1 (nI k)) = hF h k t := by
  funext c
  simp only [zhr_ap, hF]
  by_cases q : c = 7
  · subst q
    simp only [if_true]
    funext j
    simp only [zup_ap]
    split <;> rfl
  · simp [q]
theorem hF_self (e : h 7 1 = nI L) : hF h L (h 8) = h := by
  funext c
  simp only [hF]
  split
  · rename_i q
    subst q
    funext j
    rw [zup_ap]
    split
    · rename_i q; rw [q]; exact e.symm
    · rfl
  · split
    · rename_i q; rw [q]
    · rfl
theorem hG_60 : hG h L t 60 = upd (h 60) 16 (nI L) := rfl
theorem hG_74 : hG h L t 74 = t := rfl
theorem hG_p74 : zhr (hG h L t) 74 g = hG h L g := by
  funext c
  simp only [zhr_ap, hG]
  by_cases q : c = 74
  · subst q; simp
  · simp [q]
theorem hG_p60 : zhr (hG h L t) 60 (upd (upd (h 60) 16 (nI L)) 16 (nI k)) = hG h k t := by
  funext c
  simp only [zhr_ap, hG]
  by_cases q : c = 60
  · subst q
    simp only [if_true]
    funext j
    simp only [zup_ap]
    split <;> rfl
  · simp [q]
theorem hG_self (e : h 60 16 = nI L) : hG h L (h 74) = h := by
  funext c
  simp only [hG]
  split
  · rename_i q
    subst q
    funext j
    rw [zup_ap]
    split
    · rename_i q; rw [q]; exact e.symm
    · rfl
  · split
    · rename_i q; rw [q]
    · rfl
theorem xf9 (hL : L + 4 ≤ 96) : zM (d + 1) 9 [.ref 7, .int x0] (hF h L t) Q = Q none (hF h (L + 4) (zfo (fun k (t : Nat → Int32) => upd t (L + k) (fB x0 (24 - 8 * k))) 4 t)) := by
  have b24 : (x0.toUInt32 >>> ((24 : Int32).toUInt32 &&& Int32.toUInt32 31)).toInt32 &&& 255 = fB x0 24 := fB_u x0 24 24 rfl (by omega)
  have b16 : (x0.toUInt32 >>> ((16 : Int32).toUInt32 &&& Int32.toUInt32 31)).toInt32 &&& 255 = fB x0 16 := fB_u x0 16 16 rfl (by omega)
  have b8 : (x0.toUInt32 >>> ((8 : Int32).toUInt32 &&& Int32.toUInt32 31)).toInt32 &&& 255 = fB x0 8 := fB_u x0 8 8 rfl (by omega)
  have b0 : (x0.toUInt32 >>> ((0 : Int32).toUInt32 &&& Int32.toUInt32 31)).toInt32 &&& 255 = fB x0 0 := fB_u x0 0 0 rfl (by omega)
  have hs : ∀ (i : Nat) (t : Nat → Int32), i < 4 → zR d 9 Q 3 [some (.ref 7), some (.int x0), some (.int (sI i))] [] (hF h (L + i) t) = zR d 9 Q 3 [some (.ref 7), some (.int x0), some (.int (sI (i + 1)))] [] (hF h (L + (i + 1)) (upd t (L + i) (fB x0 (24 - 8 * i)))) := by
    intro i t hi
    have q : nI (L + i) < 96 := by rw [show (96 : Int32) = nI 96 from rfl]; exact nI_lt (by omega) (by omega)
    have es : ¬ sI i < 0 ∧ sI i + -8 = sI (i + 1) ∧ (x0.toUInt32 >>> ((sI i).toUInt32 &&& Int32.toUInt32 31)).toInt32 &&& 255 = fB x0 (24 - 8 * i) := by
      rcases (by omega : i = 0 ∨ i = 1 ∨ i = 2 ∨ i = 3) with rfl | rfl | rfl | rfl
      · exact ⟨by decide, by decide, b24⟩
      · exact ⟨by decide, by decide, b16⟩
      · exact ⟨by decide, by decide, b8⟩
      · exact ⟨by decide, by decide, b0⟩
    rw [r9_3]
    simp only [↓r9_0, ↓r9_2, ↓r9_4, ↓r9_7, ↓r9_8, ↓r9_11, ↓r9_13, ↓r9_16, ↓r9_17, ↓r9_20, ↓r9_21, ↓r9_24, ↓r9_25, ↓r9_26, ↓r9_27, ↓r9_30, ↓r9_31, ↓r9_32, ↓r9_33, ↓r9_34, ↓r9_37, ↓r9_38, ↓r9_39, ↓r9_42, ↓r9_45, ↓r9_48, if_neg es.1, hF_7, pk_us, if_pos q, zs_8, zok_nI (by omega : L + i < 96) (by omega), zix_nI (by omega : L + i < 2 ^ 31), true_and, es.2.2, hF_8, hF_p8, nI_1, hF_p7, es.2.1, Nat.add_assoc]
  have lp := zloop (fun i t => zR d 9 Q 3 [some (.ref 7), some (.int x0), some (.int (sI i))] [] (hF h (L + i) t)) (fun k t => upd t (L + k) (fB x0 (24 - 8 * k))) 4 hs t
  simp only [Nat.add_zero] at lp
  rw [m9]
  simp only [↓r9_0, ↓r9_2, ↓r9_4, ↓r9_7, ↓r9_8, ↓r9_11, ↓r9_13, ↓r9_16, ↓r9_17, ↓r9_20, ↓r9_21, ↓r9_24, ↓r9_25, ↓r9_26, ↓r9_27, ↓r9_30, ↓r9_31, ↓r9_32, ↓r9_33, ↓r9_34, ↓r9_37, ↓r9_38, ↓r9_39, ↓r9_42, ↓r9_45, ↓r9_48]
  have e0 : sI 0 = 24 := rfl
  rw [e0] at lp
  rw [lp, r9_3]
  have n4 : sI 4 < 0 := by decide
  simp only [↓r9_0, ↓r9_2, ↓r9_4, ↓r9_7, ↓r9_8, ↓r9_11, ↓r9_13, ↓r9_16, ↓r9_17, ↓r9_20, ↓r9_21, ↓r9_24, ↓r9_25, ↓r9_26, ↓r9_27, ↓r9_30, ↓r9_31, ↓r9_32, ↓r9_33, ↓r9_34, ↓r9_37, ↓r9_38, ↓r9_39, ↓r9_42, ↓r9_45, ↓r9_48, if_pos n4]
theorem yf160 (hL : L + 12 ≤ 96) : zM (d + 1) 160 [.ref 60, .int x0, .int x1, .int x2] (hG h L t) Q = Q (some (.int (nI (L + 12)))) (hG h (L + 12) (zfo (fun k (t : Nat → Int32) => upd t (L + k) (fB (fV x0 x1 x2 k) (24 - 8 * (k % 4)))) 12 t)) := by
  have hs : ∀ (i : Nat) (s : (Nat → Int32) × Option Value), i < 12 → zR d 160 Q 18 [some (.ref 60), some (.int x0), some (.int x1), some (.int x2), some (.int (nI i)), s.2] [] (hG h (L + i) s.1) = zR d 160 Q 18 [some (.ref 60), some (.int x0), some (.int x1), some (.int x2), some (.int (nI (i + 1))), some (.int (fV x0 x1 x2 i))] [] (hG h (L + (i + 1)) (upd s.1 (L + i) (fB (fV x0 x1 x2 i) (24 - 8 * (i % 4))))) := by
    intro i s hi
    have q : nI i < 12 := nI_lt (b := 12) hi (by omega)
    have e4 : (nI i < 4) = (i < 4) := nI_ltk (b := 4) (by omega) (by omega)
    have e8 : (nI i < 8) = (i < 8) := nI_ltk (b := 8) (by omega) (by omega)
    have er : nI i - nI i / 4 * 4 = nI (i % 4) := pk_rem (d := 4) (by omega) (by omega) (by omega)
    have em : 8 * nI (i % 4) = nI (8 * (i % 4)) := by rw [show (8 : Int32) = nI 8 from rfl, pk_mul]
    have es : 24 - nI (8 * (i % 4)) = nI (24 - 8 * (i % 4)) := by rw [show (24 : Int32) = nI 24 from rfl, pk_sub (by omega)]
    have n4 : ¬ (4 : Int32) = 0 := by decide
    have key : ∀ v, v = fV x0 x1 x2 i → zR d 160 Q 47 [some (.ref 60), some (.int x0), some (.int x1), some (.int x2), some (.int (nI i)), s.2] [.int v] (hG h (L + i) s.1) = zR d 160 Q 18 [some (.ref 60), some (.int x0), some (.int x1), some (.int x2), some (.int (nI (i + 1))), some (.int (fV x0 x1 x2 i))] [] (hG h (L + (i + 1)) (upd s.1 (L + i) (fB (fV x0 x1 x2 i) (24 - 8 * (i % 4))))) := by
      intro v hv
      subst hv
      have eb : (fV x0 x1 x2 i >>> (nI (24 - 8 * (i % 4)) &&& 31)) &&& 255 = fB (fV x0 x1 x2 i) (24 - 8 * (i % 4)) := rfl
      simp only [↓r160_0, ↓r160_1, ↓r160_4, ↓r160_6, ↓r160_7, ↓r160_9, ↓r160_12, ↓r160_14, ↓r160_15, ↓r160_16, ↓r160_20, ↓r160_22, ↓r160_25, ↓r160_27, ↓r160_28, ↓r160_31, ↓r160_32, ↓r160_35, ↓r160_37, ↓r160_39, ↓r160_42, ↓r160_43, ↓r160_46, ↓r160_47, ↓r160_49, ↓r160_50, ↓r160_53, ↓r160_54, ↓r160_57, ↓r160_59, ↓r160_61, ↓r160_63, ↓r160_65, ↓r160_66, ↓r160_67, ↓r160_68, ↓r160_69, ↓r160_70, ↓r160_73, ↓r160_74, ↓r160_75, ↓r160_76, ↓r160_77, ↓r160_80, ↓r160_81, ↓r160_82, ↓r160_85, ↓r160_88, ↓r160_91, ↓r160_92, ↓r160_95, hG_60, pk_us, n4, not_false_eq_true, true_and, er, em, es, eb, zs_74, zok_nI (by omega : L + i < 96) (by omega), zix_nI (by omega : L + i < 2 ^ 31), hG_74, hG_p74, nI_1, hG_p60, Nat.add_assoc]
    rw [r160_18]
    unfold fV at key ⊢
    by_cases g1 : i < 4
    · simp only [↓r160_0, ↓r160_1, ↓r160_4, ↓r160_6, ↓r160_7, ↓r160_9, ↓r160_12, ↓r160_14, ↓r160_15, ↓r160_16, ↓r160_20, ↓r160_22, ↓r160_25, ↓r160_27, ↓r160_28, ↓r160_31, ↓r160_32, ↓r160_35, ↓r160_37, ↓r160_39, ↓r160_42, ↓r160_43, ↓r160_46, ↓r160_49, ↓r160_50, ↓r160_53, ↓r160_54, ↓r160_57, ↓r160_59, ↓r160_61, ↓r160_63, ↓r160_65, ↓r160_66, ↓r160_67, ↓r160_68, ↓r160_69, ↓r160_70, ↓r160_73, ↓r160_74, ↓r160_75, ↓r160_76, ↓r160_77, ↓r160_80, ↓r160_81, ↓r160_82, ↓r160_85, ↓r160_88, ↓r160_91, ↓r160_92, ↓r160_95, if_pos q, e4, if_pos g1] at key ⊢
      exact key _ rfl
    · by_cases g2 : i < 8
      · simp only [↓r160_0, ↓r160_1, ↓r160_4, ↓r160_6, ↓r160_7, ↓r160_9, ↓r160_12, ↓r160_14, ↓r160_15, ↓r160_16, ↓r160_20, ↓r160_22, ↓r160_25, ↓r160_27, ↓r160_28, ↓r160_31, ↓r160_32, ↓r160_35, ↓r160_37, ↓r160_39, ↓r160_42, ↓r160_43, ↓r160_46, ↓r160_49, ↓r160_50, ↓r160_53, ↓r160_54, ↓r160_57, ↓r160_59, ↓r160_61, ↓r160_63, ↓r160_65, ↓r160_66, ↓r160_67, ↓r160_68, ↓r160_69, ↓r160_70, ↓r160_73, ↓r160_74, ↓r160_75, ↓r160_76, ↓r160_77, ↓r160_80, ↓r160_81, ↓r160_82, ↓r160_85, ↓r160_88, ↓r160_91, ↓r160_92, ↓r160_95, if_pos q, e4, e8, if_neg g1, if_pos g2] at key ⊢
        exact key _ rfl
      · simp only [↓r160_0, ↓r160_1, ↓r160_4, ↓r160_6, ↓r160_7, ↓r160_9, ↓r160_12, ↓r160_14, ↓r160_15, ↓r160_16, ↓r160_20, ↓r160_22, ↓r160_25, ↓r160_27, ↓r160_28, ↓r160_31, ↓r160_32, ↓r160_35, ↓r160_37, ↓r160_39, ↓r160_42, ↓r160_43, ↓r160_46, ↓r160_49, ↓r160_50, ↓r160_53, ↓r160_54, ↓r160_57, ↓r160_59, ↓r160_61, ↓r160_63, ↓r160_65, ↓r160_66, ↓r160_67, ↓r160_68, ↓r160_69, ↓r160_70, ↓r160_73, ↓r160_74, ↓r160_75, ↓r160_76, ↓r160_77, ↓r160_80, ↓r160_81, ↓r160_82, ↓r160_85, ↓r160_88, ↓r160_91, ↓r160_92, ↓r160_95, if_pos q, e4, e8, if_neg g1, if_neg g2] at key ⊢
        exact key _ rfl
  have lp := zloop (fun i s => zR d 160 Q 18 [some (.ref 60), some (.int x0), some (.int x1), some (.int x2), some (.int (nI i)), s.2] [] (hG h (L + i) s.1)) (fun k s => (upd s.1 (L + k) (fB (fV x0 x1 x2 k) (24 - 8 * (k % 4))), some (.int (fV x0 x1 x2 k)))) 12 hs (t, none)
  have e1 : ∀ n, (zfo (fun k (s : (Nat → Int32) × Option Value) => (upd s.1 (L + k) (fB (fV x0 x1 x2 k) (24 - 8 * (k % 4))), some (Value.int (fV x0 x1 x2 k)))) n (t, none)).1 = zfo (fun k (t : Nat → Int32) => upd t (L + k) (fB (fV x0 x1 x2 k) (24 - 8 * (k % 4)))) n t := by
    intro n
    induction n with
    | zero => rfl
    | succ n ih =>
      show upd (zfo _ n (t, none)).1 (L + n) _ = upd (zfo _ n t) (L + n) _
      rw [ih]
  simp only [Nat.add_zero, e1, nI_0] at lp
  have q0 : nI L + 12 ≤ 96 := by
    rw [show (12 : Int32) = nI 12 from rfl, nI_add]
    exact nI_le (b := 96) (by omega) (by omega)
  have n12 : ¬ nI 12 < 12 := by decide
  rw [m160]
  simp only [↓r160_0, ↓r160_1, ↓r160_4, ↓r160_6, ↓r160_7, ↓r160_9, ↓r160_12, ↓r160_14, ↓r160_15, ↓r160_16, ↓r160_20, ↓r160_22, ↓r160_25, ↓r160_27, ↓r160_28, ↓r160_31, ↓r160_32, ↓r160_35, ↓r160_37, ↓r160_39, ↓r160_42, ↓r160_43, ↓r160_46, ↓r160_47, ↓r160_49, ↓r160_50, ↓r160_53, ↓r160_54, ↓r160_57, ↓r160_59, ↓r160_61, ↓r160_63, ↓r160_65, ↓r160_66, ↓r160_67, ↓r160_68, ↓r160_69, ↓r160_70, ↓r160_73, ↓r160_74, ↓r160_75, ↓r160_76, ↓r160_77, ↓r160_80, ↓r160_81, ↓r160_82, ↓r160_85, ↓r160_88, ↓r160_91, ↓r160_92, ↓r160_95, hG_60, pk_us, if_pos q0]
  rw [lp, r160_18]
  simp only [↓r160_0, ↓r160_1, ↓r160_4, ↓r160_6, ↓r160_7, ↓r160_9, ↓r160_12, ↓r160_14, ↓r160_15, ↓r160_16, ↓r160_20, ↓r160_22, ↓r160_25, ↓r160_27, ↓r160_28, ↓r160_31, ↓r160_32, ↓r160_35, ↓r160_37, ↓r160_39, ↓r160_42, ↓r160_43, ↓r160_46, ↓r160_47, ↓r160_49, ↓r160_50, ↓r160_53, ↓r160_54, ↓r160_57, ↓r160_59, ↓r160_61, ↓r160_63, ↓r160_65, ↓r160_66, ↓r160_67, ↓r160_68, ↓r160_69, ↓r160_70, ↓r160_73, ↓r160_74, ↓r160_75, ↓r160_76, ↓r160_77, ↓r160_80, ↓r160_81, ↓r160_82, ↓r160_85, ↓r160_88, ↓r160_91, ↓r160_92, ↓r160_95, if_neg n12, hG_60, pk_us]
theorem p_feed : zPair (d + 20) (d + 20) 81 160 [.int x0, .int x1, .int x2] := by
  intro h Q2 hR hQ
  have hR0 := hR
  obtain ⟨n, m, N, ⟨hSt, hm⟩, hu, hI, hSh, hSl, hNu, ⟨hw, L, hL, hww, hn⟩⟩ := hR
  have hw' : h 60 16 = nI L := hw.symm.trans hww
  have e84 : (nI L ≤ 84) = (L ≤ 84) := propext (nI_leI (b := 84) (by omega) (by omega))
  have e96 : (nI L + 12 ≤ 96) = (L ≤ 84) := by
    rw [show (12 : Int32) = nI 12 from rfl, nI_add]
    apply propext
    rw [show (96 : Int32) = nI 96 from rfl, nI_leI (by omega) (by omega)]
    omega
  rw [m81]
  by_cases q : L ≤ 84
  · have c1 : ∀ Q' x, zM (d + 19) 9 [.ref 7, .int x] h Q' = Q' none (hF h (L + 4) (zfo (fun k (t : Nat → Int32) => upd t (L + k) (fB x (24 - 8 * k))) 4 (h 8))) := fun Q' x => by
      have := xf9 (d := d + 18) (h := h) (L := L) (t := h 8) (x0 := x) (Q := Q') (by omega)
      rwa [hF_self hww] at this
    have c2 : ∀ Q' x t, zM (d + 19) 9 [.ref 7, .int x] (hF h (L + 4) t) Q' = Q' none (hF h (L + 8) (zfo (fun k (t : Nat → Int32) => upd t (L + 4 + k) (fB x (24 - 8 * k))) 4 t)) := fun Q' x t => xf9 (d := d + 18) (L := L + 4) (by omega)
    have c3 : ∀ Q' x t, zM (d + 19) 9 [.ref 7, .int x] (hF h (L + 8) t) Q' = Q' none (hF h (L + 12) (zfo (fun k (t : Nat → Int32) => upd t (L + 8 + k) (fB x (24 - 8 * k))) 4 t)) := fun Q' x t => xf9 (d := d + 18) (L := L + 8) (by omega)
    simp only [↓r81_0, ↓r81_1, ↓r81_4, ↓r81_7, ↓r81_9, ↓r81_12, ↓r81_14, ↓r81_15, ↓r81_16, ↓r81_19, ↓r81_20, ↓r81_23, ↓r81_24, ↓r81_27, ↓r81_28, ↓r81_31, ↓r81_32, ↓r81_35, ↓r81_36, ↓r81_39, ↓r81_40, ↓r81_43, ↓r81_46, zc_10, zc_18, zc_26, zc_0, zc_1, zc_7, zc_60, Nat.reduceAdd, true_and, hww, e84, if_pos q, c1, c2, c3, Option.toList, List.cons_append, List.nil_append, hF_7, pk_us]
    refine zPo_in rfl rfl ?_
    generalize hF1 : zfo (fun k (t : Nat → Int32) => upd t (L + 8 + k) (fB x2 (24 - 8 * k))) 4 (zfo (fun k (t : Nat → Int32) => upd t (L + 4 + k) (fB x1 (24 - 8 * k))) 4 (zfo (fun k (t : Nat → Int32) => upd t (L + k) (fB x0 (24 - 8 * k))) 4 (h 8))) = F
    have g16 : hF h (L + 12) F 60 16 = nI L := hw'
    have := yf160 (d := d + 19) (h := hF h (L + 12) F) (L := L) (t := hF h (L + 12) F 74) (x0 := x0) (x1 := x1) (x2 := x2) (Q := zPq (nI (L + 12)) Q2) (by omega)
    rw [hG_self g16] at this
    rw [this]
    generalize hG1 : zfo (fun k (t : Nat → Int32) => upd t (L + k) (fB (fV x0 x1 x2 k) (24 - 8 * (k % 4)))) 12 (hF h (L + 12) F 74) = G
    have o : ∀ c, c ≠ 7 → c ≠ 8 → c ≠ 60 → c ≠ 74 → hG (hF h (L + 12) F) (L + 12) G c = h c := by
      intro c a b e f
      unfold hG hF
      rw [if_neg e, if_neg f, if_neg a, if_neg b]
    have o60 : hG (hF h (L + 12) F) (L + 12) G 60 = upd (h 60) 16 (nI (L + 12)) := rfl
    have o7 : hG (hF h (L + 12) F) (L + 12) G 7 = upd (h 7) 1 (nI (L + 12)) := rfl
    refine zPq_in rfl (hQ _ _ ⟨n, m, N, ⟨?_, hm⟩, ?_, ⟨?_, ?_⟩, ?_, ?_, ?_, ?_⟩ rfl rfl)
    · rw [o 61 (by omega) (by omega) (by omega) (by omega)]
      exact zSt_keep hSt (fun j hj => o _ (by omega) (by omega) (by omega) (by omega)) (fun c' a b => o _ (by omega) (by omega) (by omega) (by omega))
    · rw [o60, pk_un (by omega)]; exact hu
    · rw [o60, pk_un (by omega), o 0 (by omega) (by omega) (by omega) (by omega)]; exact hI.1
    · have hI2 := hI.2
      rw [o 0 (by omega) (by omega) (by omega) (by omega)]
      rcases hI2 with z | ⟨z, n1, m1, N1, q1, q2, q3⟩
      · exact Or.inl z
      · refine Or.inr ⟨z, n1, m1, N1, ?_, q2, q3⟩
        rw [o 62 (by omega) (by omega) (by omega) (by omega)]
        exact zSt_keep q1 (fun j hj => o _ (by omega) (by omega) (by omega) (by omega)) (fun c' a b => o _ (by omega) (by omega) (by omega) (by omega))
    · exact rSheets_keep hSh (fun c' hc' => o _ (by omega) (by omega) (by omega) (by omega))
    · exact rSlots_keep hSl (fun c' hc' => o _ (by omega) (by omega) (by omega) (by omega))
    · rw [o60, pk_un (by omega), o 0 (by omega) (by omega) (by omega) (by omega), o 59 (by omega) (by omega) (by omega) (by omega), o 78 (by omega) (by omega) (by omega) (by omega)]; exact hNu
    · rw [o60, o7, pk_us, pk_us]
      refine ⟨rfl, L + 12, by omega, rfl, fun i hi => ?_⟩
      show F i = G i ∧ 0 ≤ F i ∧ F i ≤ 255
      have eG : G i = if L ≤ i ∧ i < L + 12 then fB (fV x0 x1 x2 (i - L)) (24 - 8 * ((i - L) % 4)) else h 74 i := by rw [← hG1, upN]; rfl
      have eF : F i = if L + 8 ≤ i ∧ i < L + 8 + 4 then fB x2 (24 - 8 * (i - (L + 8))) else if L + 4 ≤ i ∧ i < L + 4 + 4 then fB x1 (24 - 8 * (i - (L + 4))) else if L ≤ i ∧ i < L + 4 then fB x0 (24 - 8 * (i - L)) else h 8 i := by rw [← hF1, upN, upN, upN]
      by_cases a : i < L
      · rw [eG, eF, if_neg (by omega), if_neg (by omega), if_neg (by omega), if_neg (by omega)]
        exact hn i a
      · rw [if_pos (by omega)] at eG
        unfold fV at eG
        by_cases a1 : i < L + 4
        · rw [if_neg (by omega), if_neg (by omega), if_pos (by omega)] at eF
          rw [if_pos (by omega), show (i - L) % 4 = i - L by omega] at eG
          rw [eF, eG]
          exact ⟨rfl, fB_in _ _⟩
        · by_cases a2 : i < L + 8
          · rw [if_neg (by omega), if_pos (by omega)] at eF
            rw [if_neg (by omega), if_pos (by omega), show (i - L) % 4 = i - (L + 4) by omega] at eG
            rw [eF, eG]
            exact ⟨rfl, fB_in _ _⟩
          · rw [if_pos (by omega)] at eF
            rw [if_neg (by omega), if_neg (by omega), show (i - L) % 4 = i - (L + 8) by omega] at eG
            rw [eF, eG]
            exact ⟨rfl, fB_in _ _⟩
  · simp only [↓r81_0, ↓r81_1, ↓r81_4, ↓r81_7, ↓r81_9, ↓r81_12, ↓r81_14, ↓r81_15, ↓r81_16, ↓r81_19, ↓r81_20, ↓r81_23, ↓r81_24, ↓r81_27, ↓r81_28, ↓r81_31, ↓r81_32, ↓r81_35, ↓r81_36, ↓r81_39, ↓r81_40, ↓r81_43, ↓r81_46, zc_10, zc_18, zc_26, zc_0, zc_1, zc_7, zc_60, Nat.reduceAdd, true_and, hww, e84, if_neg q]
    refine zPo_in rfl rfl ?_
    rw [m160]
    simp only [↓r160_0, ↓r160_1, ↓r160_4, ↓r160_6, ↓r160_7, ↓r160_9, ↓r160_12, ↓r160_14, ↓r160_15, ↓r160_16, ↓r160_20, ↓r160_22, ↓r160_25, ↓r160_27, ↓r160_28, ↓r160_31, ↓r160_32, ↓r160_35, ↓r160_37, ↓r160_39, ↓r160_42, ↓r160_43, ↓r160_46, ↓r160_47, ↓r160_49, ↓r160_50, ↓r160_53, ↓r160_54, ↓r160_57, ↓r160_59, ↓r160_61, ↓r160_63, ↓r160_65, ↓r160_66, ↓r160_67, ↓r160_68, ↓r160_69, ↓r160_70, ↓r160_73, ↓r160_74, ↓r160_75, ↓r160_76, ↓r160_77, ↓r160_80, ↓r160_81, ↓r160_82, ↓r160_85, ↓r160_88, ↓r160_91, ↓r160_92, ↓r160_95, hw', e96, if_neg q]
    exact zPq_in rfl (hQ _ _ hR0 rfl rfl)
end
