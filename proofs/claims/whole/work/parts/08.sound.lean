/-! the world of our machine in the real one, and that its steps are the real ones' -/
abbrev zty (ca : Nat → ClassId) : List (ClassId × FieldType) := [(ca 0, .int), (ca 1, .object RX3), (ca 2, .object RX4)]
def zfld (ad : Nat → Nat) (h : zH) (ci c k : Nat) : Value := match zrfo ci k c with
  | some r => .ref (ad r)
  | none => .int (h c k)
def zenc (ad : Nat → Nat) (ca : Nat → ClassId) (h : zH) (c : Nat) : va_E :=
  if zcls c = 10 then .inl (ca 0, zaln c, .inl (h c))
  else if zcls c = 11 then .inl (ca 1, 4, .inr (.inr (.inr (.inr (fun i => some (ad (35 + 2 * i)))))))
  else if zcls c = 12 then .inl (ca 2, 5, .inr (.inr (.inr (.inr (fun i => some (ad (44 + 3 * i)))))))
  else .inr (zcls c, (List.range (znf (zcls c))).map (zfld ad h (zcls c) c))
def zwl (ad : Nat → Nat) (ca : Nat → ClassId) (h : zH) : va_W := (List.range 80).map (fun c => (ad c, zenc ad ca h c))
def ztr (ad : Nat → Nat) : Value → Value
  | .ref c => .ref (ad c)
  | v => v
theorem zwl_get {ad : Nat → Nat} {ca : Nat → ClassId} {h : zH} {c : Nat} (hc : c < 80) : (zwl ad ca h)[c]? = some (ad c, zenc ad ca h c) := by
  simp [zwl, hc]
theorem zenc_cong {ad : Nat → Nat} {ca : Nat → ClassId} {h h' : zH} {c : Nat} (e : h c = h' c) : zenc ad ca h c = zenc ad ca h' c := by
  unfold zenc
  rw [e]
  have e2 : zfld ad h (zcls c) c = zfld ad h' (zcls c) c := by
    funext k
    unfold zfld
    rw [e]
  rw [e2]
theorem zwl_set {ad : Nat → Nat} {ca : Nat → ClassId} {h h' : zH} {c : Nat} {e : va_E} (hc : c < 80) (ho : ∀ c', c' ≠ c → h' c' = h c') (he : e = zenc ad ca h' c) : (zwl ad ca h).set c (ad c, e) = zwl ad ca h' := by
  subst he
  apply List.ext_getElem?
  intro i
  by_cases hi : i < 80
  · by_cases hic : i = c
    · subst hic
      rw [List.getElem?_set_self (by simp [zwl]; omega), zwl_get hi]
    · rw [List.getElem?_set_ne (Ne.symm hic), zwl_get hi, zwl_get hi, zenc_cong (ho i hic)]
  · rw [List.getElem?_eq_none (by simp [zwl]; omega), List.getElem?_eq_none (by simp [zwl]; omega)]
theorem zcls_lt {c : Nat} (h : zcls c ≤ 12) : c < 80 := by
  by_cases h1 : c < 80
  · exact h1
  · by_cases h2 : c < 89
    · have key : ∀ k : Fin 9, ¬ zcls (80 + k.val) ≤ 12 := by decide
      have := key ⟨c - 80, by omega⟩
      simp only [show 80 + (c - 80) = c by omega] at this
      exact absurd h this
    · exfalso
      have : zcls c = 99 := by
        unfold zcls
        rw [List.getD_eq_getElem?_getD, List.getElem?_eq_none (by simp [zShA]; omega)]; rfl
      omega
theorem zenc_obj {ad : Nat → Nat} {ca : Nat → ClassId} {h : zH} {c a : Nat} (hc : zcls c = a) (ha : a < 8) : zenc ad ca h c = .inr (a, (List.range (znf a)).map (zfld ad h a c)) := by
  unfold zenc
  rw [hc, if_neg (by omega), if_neg (by omega), if_neg (by omega)]
theorem zenc_arr {ad : Nat → Nat} {ca : Nat → ClassId} {h : zH} {c : Nat} (hc : zcls c = 10) : zenc ad ca h c = .inl (ca 0, zaln c, .inl (h c)) := by
  unfold zenc
  rw [if_pos hc]
theorem zhr_same (h : zH) (c : Nat) (r : Nat → Int32) : zhr h c r c = r := by simp [zhr]
theorem zhr_ne (h : zH) {c c' : Nat} (r : Nat → Int32) (n : c' ≠ c) : zhr h c r c' = h c' := by simp [zhr, n]
/-! locals -/
def zlvl (ad : Nat → Nat) (lv : zL) : List (Nat × Value) := lv.zipIdx.filterMap (fun q => q.1.map (fun v => (q.2, ztr ad v)))
theorem zlvl_mem {ad : Nat → Nat} {lv : zL} {q : Nat × Value} : q ∈ zlvl ad lv ↔ ∃ v, lv[q.1]? = some (some v) ∧ q.2 = ztr ad v := by
  obtain ⟨i, w⟩ := q
  simp only [zlvl, List.mem_filterMap]
  constructor
  · rintro ⟨⟨o, j⟩, h1, h2⟩
    rw [List.mem_zipIdx_iff_getElem?] at h1
    cases o with
    | none => cases h2
    | some v =>
      simp only [Option.map_some, Option.some.injEq, Prod.mk.injEq] at h2
      obtain ⟨rfl, rfl⟩ := h2
      exact ⟨v, h1, rfl⟩
  · rintro ⟨v, h1, h2⟩
    refine ⟨(some v, i), by rw [List.mem_zipIdx_iff_getElem?]; exact h1, ?_⟩
    have h3 : w = ztr ad v := h2
    rw [h3]; rfl
theorem ztr_cat (ad : Nat → Nat) (v : Value) : (ztr ad v).category = v.category := by
  cases v <;> rfl
def zlv (ad : Nat → Nat) (nol : Bool) (ls : Array Slot) (nL : Nat) (lv : zL) : Prop := lv_has ls nL (zlvl ad lv) ∧ lv.length = nL ∧ (nol = true → ∀ (i : Nat) (v : Value), lv[i]? = some (some v) → v.category = 1)
theorem zlv_get {ad : Nat → Nat} {nol : Bool} {ls : Array Slot} {nL : Nat} {lv : zL} (h : zlv ad nol ls nL lv) {i : Nat} {v : Value} (hi : lv[i]? = some (some v)) : ls[i]? = some (.val (ztr ad v)) := h.1.2.2 (i, ztr ad v) (zlvl_mem.mpr ⟨v, hi, rfl⟩)
theorem zlv_set {ad : Nat → Nat} {ls ls' : Array Slot} {nL a : Nat} {lv : zL} {x : Value} (h : zlv ad true ls nL lv) (ha : a < nL) (hx : x.category = 1) (h' : lv_has ls' nL ((a, ztr ad x) :: (zlvl ad lv).filter (fun q => !(q.1 == a) && !(q.1 + 1 == a && q.2.category == 2)))) : zlv ad true ls' nL (lv.set a (some x)) := by
  obtain ⟨h1, h2, h3⟩ := h
  refine ⟨⟨h'.1, h'.2.1, fun q hq => ?_⟩, by simp [h2], fun _ i v hi => ?_⟩
  · obtain ⟨v, e1, e2⟩ := zlvl_mem.mp hq
    by_cases hqa : q.1 = a
    · rw [hqa, List.getElem?_set_self (by omega)] at e1
      cases e1
      refine h'.2.2 q (List.mem_cons.mpr (Or.inl ?_))
      rw [← hqa, ← e2]
    · rw [List.getElem?_set_ne (Ne.symm hqa)] at e1
      refine h'.2.2 q (List.mem_cons_of_mem _ (List.mem_filter.mpr ⟨zlvl_mem.mpr ⟨v, e1, e2⟩, ?_⟩))
      have hc := h3 rfl q.1 v e1
      rw [← ztr_cat ad v, ← e2] at hc
      simp [hqa, hc]
  · by_cases hia : i = a
    · rw [hia, List.getElem?_set_self (by omega)] at hi
      cases hi
      exact hx
    · rw [List.getElem?_set_ne (Ne.symm hia)] at hi
      exact h3 rfl i v hi
theorem zlv_args_cat : ∀ (vs : List Value) (i : Nat) (q : Nat × Value), q ∈ lv_args i vs → q.2 ∈ vs
  | [], _, _, h => by cases h
  | v :: vs, i, q, h => by
    rcases List.mem_cons.mp h with rfl | h
    · exact List.mem_cons_self
    · exact List.mem_cons_of_mem _ (zlv_args_cat vs _ q h)
def zent1 (args : List Value) : zL := args.flatMap (fun v => if v.category = 2 then [some v, none] else [some v])
theorem zent1_mem (ad : Nat → Nat) : ∀ (vs : List Value) (k i : Nat) (v : Value), (zent1 vs)[i]? = some (some v) → (k + i, ztr ad v) ∈ lv_args k (vs.map (ztr ad)) ∧ v ∈ vs
  | [], _, i, v, h => by simp [zent1] at h
  | a :: vs, k, i, v, h => by
    simp only [zent1, List.flatMap_cons] at h
    simp only [List.map_cons, lv_args, ztr_cat]
    by_cases hc : a.category = 2
    · rw [if_pos hc] at h ⊢
      match i, h with
      | 0, h => cases h; exact ⟨List.mem_cons_self, List.mem_cons_self⟩
      | 1, h => cases h
      | j + 2, h =>
        have := zent1_mem ad vs (k + 2) j v (by simpa [zent1] using h)
        rw [show k + (j + 2) = k + 2 + j by omega]
        exact ⟨List.mem_cons_of_mem _ this.1, List.mem_cons_of_mem _ this.2⟩
    · rw [if_neg hc] at h ⊢
      match i, h with
      | 0, h => cases h; exact ⟨List.mem_cons_self, List.mem_cons_self⟩
      | j + 1, h =>
        have := zent1_mem ad vs (k + 1) j v (by simpa [zent1] using h)
        rw [show k + (j + 1) = k + 1 + j by omega]
        exact ⟨List.mem_cons_of_mem _ this.1, List.mem_cons_of_mem _ this.2⟩
theorem zent1_len (ad : Nat → Nat) : ∀ (vs : List Value), (zent1 vs).length = (lg_sl (vs.map (ztr ad))).length
  | [] => rfl
  | a :: vs => by
    simp only [zent1, List.flatMap_cons, lg_sl, List.map_cons, List.length_append, ztr_cat]
    have := zent1_len ad vs
    simp only [zent1, lg_sl] at this
    rw [this]
    by_cases hc : a.category = 2
    · rw [if_pos hc, if_pos hc]; rfl
    · rw [if_neg hc, if_neg hc]; rfl
theorem zlv_entry (ad : Nat → Nat) {nol : Bool} (vs : List Value) {n : Nat} (hn : (zent1 vs).length ≤ n) (hno : nol = true → ∀ v ∈ vs, v.category = 1) : zlv ad nol ((lg_sl (vs.map (ztr ad)) ++ List.replicate (n - (lg_sl (vs.map (ztr ad))).length) Slot.unset).toArray) n (zent vs n) := by
  have h := lv_entry (vs.map (ztr ad)) (n := n) (by rw [← zent1_len]; exact hn)
  have e : zent vs n = zent1 vs ++ List.replicate (n - (zent1 vs).length) none := rfl
  have get : ∀ (i : Nat) (v : Value), (zent vs n)[i]? = some (some v) → (zent1 vs)[i]? = some (some v) := by
    intro i v hi
    rw [e] at hi
    by_cases hl : i < (zent1 vs).length
    · rw [List.getElem?_append_left hl] at hi
      exact hi
    · rw [List.getElem?_append_right (by omega), List.getElem?_replicate] at hi
      split at hi <;> cases hi
  refine ⟨⟨h.1, h.2.1, fun q hq => ?_⟩, by rw [e]; simp; omega, fun hq i v hi => ?_⟩
  · obtain ⟨v, e1, e2⟩ := zlvl_mem.mp hq
    have := (zent1_mem ad vs 0 q.1 v (get _ _ e1)).1
    rw [Nat.zero_add, ← e2] at this
    exact h.2.2 q this
  · exact hno hq v (zent1_mem ad vs 0 i v (get i v hi)).2
/-! the constants of the world -/
def zlitB : List (List Int32) := [[116,111,108,108],[112,117,108,108],[102,105,110,101]]
def zcn (ad adV : Nat → Nat) (A : Nat → Prop) (h : zH) (U : State) (H : Heap) : Prop :=
  (∀ q ∈ zstc, va_Z q.1 q.2.1 q.2.2.1 (.ref (ad q.2.2.2.2)) A U H ∧ va_T q.2.2.2.1 (ad q.2.2.2.2) (zaln q.2.2.2.2) (fun j => .int (zkon q.2.2.2.2 j)) A U H)
  ∧ (∀ q ∈ zlit, vk_R RX2 q.1 q.2.1 (ad q.2.2) U)
  ∧ vk_S 3 [4, 4, 4] zlitB (fun i => ad (86 + i)) adV A U H
  ∧ (va_Z "java/lang/String" "COMPACT_STRINGS" "Z" (.int 1) A U H ∧ va_Zq "jdk/internal/util/Preconditions" "SIOOBE_FORMATTER" "Ljava/util/function/BiFunction;" A U H)
  ∧ (va_X (ad 84) (zix (h 85 0)) (h 84) U H ∧ Int32.ofNat (zix (h 85 0)) = h 85 0 ∧ ad 84 < H.size ∧ ¬ A (ad 84))
  ∧ ∀ w ∈ lw_tbl, zNest w = true → va_Nw w U
theorem zcn_move {ad adV : Nat → Nat} {A : Nat → Prop} {h h' : zH} {s U : State} {H H1 : Heap} (hW : s.WarmedH U.vm) (hz : H.size ≤ H1.size) (hk : ∀ a : Nat, a < H.size → ¬ A a → H1[a]? = H[a]?) (e : h' 84 = h 84 ∧ h' 85 = h 85) (hC : zcn ad adV A h s H) : zcn ad adV A h' U H1 := by
  obtain ⟨h1, h2, h3, h4, ⟨h5, h6, h7, h8⟩, h9⟩ := hC
  refine ⟨fun q hq => ⟨va_Z.moved hW.alike ((h1 q hq).1.kept hk), va_T.moved hW.alike ((h1 q hq).2.kept hk)⟩, fun q hq => (h2 q hq).warm hW, vk_S.moved hW.alike (h3.kept hk), ⟨va_Z.moved hW.alike (h4.1.kept hk), va_Zq.moved hW.alike (h4.2.kept hk)⟩, ?_, fun w hw hn => ?_⟩
  · rw [e.1, e.2]
    exact ⟨va_X.moved hW.alike (h5.kept (hk _ h7 h8)), h6, Nat.lt_of_lt_of_le h7 hz, h8⟩
  · have := h9 w hw hn
    match w, hn, this with
    | .fieldLinkNest a i b n d g, _, this => exact va_Nw.warmF hW this
    | .methodLinkNest a i x g, _, this => exact va_Nw.warmM hW this
