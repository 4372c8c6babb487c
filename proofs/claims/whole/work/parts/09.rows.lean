/-! class rows of the tables -/
def zgt : List Jvm.Cond := lw_tbl.filter goodWord
theorem zgt_of {w : Jvm.Cond} (h : w ∈ lw_tbl) (g : goodWord w = true) : w ∈ zgt := List.mem_filter.mpr ⟨h, g⟩
theorem zgt_good {w : Jvm.Cond} (h : w ∈ zgt) : w ∈ lw_tbl ∧ goodWord w = true := List.mem_filter.mp h
theorem zG_gt {u : Nat} {w : Jvm.Cond} (h : zG u w = true) : w ∈ zgt := zgt_of (zG_in h).1 (zG_in h).2
def zuchk (C : String) (T : u_T) : Nat → List Nat → Bool
  | _, [] => true
  | k, u :: us => zG u (u_lay C T k) && zuchk C T (k + 1) us
theorem zuchk_at {C : String} {T : u_T} : ∀ (us : List Nat) (k j : Nat), zuchk C T k us = true → j < us.length → u_lay C T (k + j) ∈ zgt
  | [], _, _, _, h => absurd h (Nat.not_lt_zero _)
  | u :: us, k, 0, h, _ => by
    simp only [zuchk, Bool.and_eq_true] at h
    exact zG_gt h.1
  | u :: us, k, j + 1, h, hj => by
    simp only [zuchk, Bool.and_eq_true] at h
    rw [show k + (j + 1) = k + 1 + j by omega]
    exact zuchk_at us (k + 1) j h.2 (by simpa using hj)
theorem zu_in {C : String} {T : u_T} {N : Nat} {us : List Nat} (h : zuchk C T 0 us = true) (hl : us.length = N) : ∀ w ∈ u_ws C T N, w ∈ zgt := by
  intro w hw
  unfold u_ws at hw
  obtain ⟨k, hk, rfl⟩ := List.mem_map.mp hw
  have := zuchk_at us 0 k h (by rw [hl]; exact List.mem_range.mp hk)
  rwa [Nat.zero_add] at this
theorem zu0 : ∀ w ∈ u_ws RX1 TX1 0, w ∈ zgt := zu_in (us := []) (by decide +kernel) rfl
theorem zu1 : ∀ w ∈ u_ws RX1 TX1 5, w ∈ zgt := zu_in (us := [1088, 1090, 1092, 1094, 1096]) (by decide +kernel) rfl
theorem zu2 : ∀ w ∈ u_ws RX2 TX2 11, w ∈ zgt := zu_in (us := [1047, 1049, 1051, 1053, 1055, 1057, 1059, 1061, 1063, 1065, 1067]) (by decide +kernel) rfl
theorem zu3 : ∀ w ∈ u_ws RX3 TX3 3, w ∈ zgt := zu_in (us := [1176, 1178, 1180]) (by decide +kernel) rfl
theorem zu4 : ∀ w ∈ u_ws RX4 TX4 5, w ∈ zgt := zu_in (us := [1200, 1202, 1204, 1206, 1208]) (by decide +kernel) rfl
theorem zu5 : ∀ w ∈ u_ws RX5 TX5 15, w ∈ zgt := zu_in (us := [1134, 1136, 1138, 1140, 1142, 1144, 1146, 1148, 1150, 1152, 1154, 1156, 1158, 1160, 1162]) (by decide +kernel) rfl
theorem zu6 : ∀ w ∈ u_ws RX6 TX6 10, w ∈ zgt := zu_in (us := [1221, 1223, 1225, 1227, 1229, 1231, 1233, 1235, 1237, 1239]) (by decide +kernel) rfl
theorem zu7 : ∀ w ∈ u_ws RX7 TX7 33, w ∈ zgt := zu_in (us := [4098, 4100, 4102, 4104, 4106, 4108, 4110, 4112, 4114, 4116, 4118, 4120, 4122, 4124, 4126, 4128, 4130, 4132, 4134, 4136, 4138, 4140, 4142, 4144, 4146, 4148, 4150, 4152, 4154, 4156, 4158, 4160, 4162]) (by decide +kernel) rfl
/-- a class by its number: types, names apart, words, how many fields -/
def zcok (a : Nat) (q : vw_C) : Prop := a < 8 ∧ znf a = q.2.2 ∧ (∃ ty0 : Nat → FieldType, ∀ k, k < q.2.2 → parseFieldDescriptor (q.2.1 k).2.2.1 = some (ty0 k)) ∧ (∀ i, i < q.2.2 → ∀ j, j < q.2.2 → i ≠ j → (q.2.1 i).2.1 ≠ (q.2.1 j).2.1) ∧ ∀ w ∈ u_ws q.1 q.2.1 q.2.2, w ∈ zgt
theorem zcl_ok {a : Nat} {q : vw_C} (h : zcl[a]? = some q) : zcok a q := by
  match a, h with
  | 0, h => cases h; exact ⟨by decide, rfl, ⟨fun _ => .int, fun k hk => absurd hk (Nat.not_lt_zero k)⟩, fun i hi => absurd hi (Nat.not_lt_zero i), zu0⟩
  | 1, h => cases h; exact ⟨by decide, rfl, ⟨tyX1, tyX1_ok⟩, nmX1, zu1⟩
  | 2, h => cases h; exact ⟨by decide, rfl, ⟨tyX2, tyX2_ok⟩, nmX2, zu2⟩
  | 3, h => cases h; exact ⟨by decide, rfl, ⟨tyX3, tyX3_ok⟩, nmX3, zu3⟩
  | 4, h => cases h; exact ⟨by decide, rfl, ⟨tyX4, tyX4_ok⟩, nmX4, zu4⟩
  | 5, h => cases h; exact ⟨by decide, rfl, ⟨tyX5, tyX5_ok⟩, nmX5, zu5⟩
  | 6, h => cases h; exact ⟨by decide, rfl, ⟨tyX6, tyX6_ok⟩, nmX6, zu6⟩
  | 7, h => cases h; exact ⟨by decide, rfl, ⟨tyX7, tyX7_ok⟩, nmX7, zu7⟩
  | k + 8, h => simp at h
theorem zrfo_any {a b c : Nat} (h : zrfo a b 0 = none) : zrfo a b c = none := by
  cases hc : zrfo a b c with
  | none => rfl
  | some r =>
    exfalso
    revert h
    unfold zrfo at hc ⊢
    split at hc <;> first | (cases hc; done) | simp
theorem zfv_tr (ad : Nat → Nat) (h : zH) (a b c : Nat) : ztr ad (zfv h a b c) = zfld ad h a c b := by
  unfold zfv zfld
  cases zrfo a b c <;> rfl
theorem zg_smax : zG 2049 (.static Lib.Math.max.name) = true := by decide +kernel
theorem zg_smin : zG 2046 (.static Lib.Math.min.name) = true := by decide +kernel
theorem zg_sabs : zG 2095 (.static Lib.Math.abs.name) = true := by decide +kernel
theorem zg_imath : zG 1009 (.initialized "java/lang/Math") = true := by decide +kernel
theorem zg_cmax : zG 2050 (.code Lib.Math.max.name Lib.Math.max.code 2 (some .int)) = true := by decide +kernel
theorem zg_cmin : zG 2047 (.code Lib.Math.min.name Lib.Math.min.code 2 (some .int)) = true := by decide +kernel
theorem zg_cabs : zG 2096 (.code Lib.Math.abs.name Lib.Math.abs.code 1 (some .int)) = true := by decide +kernel
theorem zg_scpy : zG 2230 (.static arraycopyName) = true := by decide +kernel
theorem zg_ncpy : zG 2231 (.native arraycopyName) = true := by decide +kernel
theorem zg_isys : zG 1011 (.initialized "java/lang/System") = true := by decide +kernel
theorem zg_ilen : zG 3094 (.instanceMethod yJ0_length_8abf5) = true := by decide +kernel
theorem zg_llen : zG 3095 (.selects yJ0_length_8abf5.cls yJ0_length_8abf5 yJ0_length_8abf5) = true := by decide +kernel
theorem zg_clen : zG 3096 (.code yJ0_length_8abf5 cJ0_length_8abf5 1 (some .int)) = true := by decide +kernel
theorem zg_icha : zG 3104 (.instanceMethod yJ0_charAt_5068e) = true := by decide +kernel
theorem zg_lcha : zG 3105 (.selects yJ0_length_8abf5.cls yJ0_charAt_5068e yJ0_charAt_5068e) = true := by decide +kernel
theorem zg_ccha : zG 3106 (.code yJ0_charAt_5068e cJ0_charAt_5068e 2 (some .char)) = true := by decide +kernel
theorem zg_istr : zG 1012 (.initialized "java/lang/String") = true := by decide +kernel
