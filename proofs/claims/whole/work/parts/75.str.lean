/-! String.length and String.charAt over the three literals -/
def jMet (l : Launch) (ad : Nat → Nat) (D : va_G) (ca : Nat → ClassId) (adV : Nat → Nat) (A : Nat → Prop) (d : Nat) (y : MethodName) (ws : List Jvm.Cond) (As : List Value) (h : zH) (Q : Option Value → zH → Prop) : Prop :=
  Met l y ws (zrm d) (va_Pc As (zpre ad D ca adV A h)) (zQc ad D ca A h Q) 0 0 A
theorem dj_coder_0 : decode cJ0_coder_7d493 0 = .ok (.getstatic 38, 3) := by decide +kernel
theorem dj_coder_3 : decode cJ0_coder_7d493 3 = .ok (.ifCond .eq 10, 3) := by decide +kernel
theorem dj_coder_6 : decode cJ0_coder_7d493 6 = .ok (.aload_n 0, 1) := by decide +kernel
theorem dj_coder_7 : decode cJ0_coder_7d493 7 = .ok (.getfield 15, 3) := by decide +kernel
theorem dj_coder_10 : decode cJ0_coder_7d493 10 = .ok (.goto 4, 3) := by decide +kernel
theorem dj_coder_14 : decode cJ0_coder_7d493 14 = .ok (.ireturn, 1) := by decide +kernel
theorem dj_lat_0 : decode cJ0_isLatin1_aae02 0 = .ok (.getstatic 38, 3) := by decide +kernel
theorem dj_lat_3 : decode cJ0_isLatin1_aae02 3 = .ok (.ifCond .eq 14, 3) := by decide +kernel
theorem dj_lat_6 : decode cJ0_isLatin1_aae02 6 = .ok (.aload_n 0, 1) := by decide +kernel
theorem dj_lat_7 : decode cJ0_isLatin1_aae02 7 = .ok (.getfield 15, 3) := by decide +kernel
theorem dj_lat_10 : decode cJ0_isLatin1_aae02 10 = .ok (.ifCond .ne 7, 3) := by decide +kernel
theorem dj_lat_13 : decode cJ0_isLatin1_aae02 13 = .ok (.iconst 1, 1) := by decide +kernel
theorem dj_lat_14 : decode cJ0_isLatin1_aae02 14 = .ok (.goto 4, 3) := by decide +kernel
theorem dj_lat_18 : decode cJ0_isLatin1_aae02 18 = .ok (.ireturn, 1) := by decide +kernel
theorem dj_len_0 : decode cJ0_length_8abf5 0 = .ok (.aload_n 0, 1) := by decide +kernel
theorem dj_len_1 : decode cJ0_length_8abf5 1 = .ok (.getfield 9, 3) := by decide +kernel
theorem dj_len_4 : decode cJ0_length_8abf5 4 = .ok (.arraylength, 1) := by decide +kernel
theorem dj_len_5 : decode cJ0_length_8abf5 5 = .ok (.aload_n 0, 1) := by decide +kernel
theorem dj_len_6 : decode cJ0_length_8abf5 6 = .ok (.invokevirtual 335, 3) := by decide +kernel
theorem dj_len_9 : decode cJ0_length_8abf5 9 = .ok (.ishr, 1) := by decide +kernel
theorem dj_len_10 : decode cJ0_length_8abf5 10 = .ok (.ireturn, 1) := by decide +kernel
theorem dj_cha_0 : decode cJ0_charAt_5068e 0 = .ok (.aload_n 0, 1) := by decide +kernel
theorem dj_cha_1 : decode cJ0_charAt_5068e 1 = .ok (.invokevirtual 492, 3) := by decide +kernel
theorem dj_cha_4 : decode cJ0_charAt_5068e 4 = .ok (.ifCond .eq 12, 3) := by decide +kernel
theorem dj_cha_7 : decode cJ0_charAt_5068e 7 = .ok (.aload_n 0, 1) := by decide +kernel
theorem dj_cha_8 : decode cJ0_charAt_5068e 8 = .ok (.getfield 9, 3) := by decide +kernel
theorem dj_cha_11 : decode cJ0_charAt_5068e 11 = .ok (.iload_n 1, 1) := by decide +kernel
theorem dj_cha_12 : decode cJ0_charAt_5068e 12 = .ok (.invokestatic 495, 3) := by decide +kernel
theorem dj_cha_15 : decode cJ0_charAt_5068e 15 = .ok (.ireturn, 1) := by decide +kernel
theorem dj_chk_0 : decode cJ0_checkIndex_df160 0 = .ok (.iload_n 0, 1) := by decide +kernel
theorem dj_chk_1 : decode cJ0_checkIndex_df160 1 = .ok (.iload_n 1, 1) := by decide +kernel
theorem dj_chk_2 : decode cJ0_checkIndex_df160 2 = .ok (.getstatic 1053, 3) := by decide +kernel
theorem dj_chk_5 : decode cJ0_checkIndex_df160 5 = .ok (.invokestatic 1059, 3) := by decide +kernel
theorem dj_chk_8 : decode cJ0_checkIndex_df160 8 = .ok (.pop, 1) := by decide +kernel
theorem dj_chk_9 : decode cJ0_checkIndex_df160 9 = .ok (.return_, 1) := by decide +kernel
theorem dj_l1_0 : decode cJ1_charAt_3b067 0 = .ok (.iload_n 1, 1) := by decide +kernel
theorem dj_l1_1 : decode cJ1_charAt_3b067 1 = .ok (.aload_n 0, 1) := by decide +kernel
theorem dj_l1_2 : decode cJ1_charAt_3b067 2 = .ok (.arraylength, 1) := by decide +kernel
theorem dj_l1_3 : decode cJ1_charAt_3b067 3 = .ok (.invokestatic 9, 3) := by decide +kernel
theorem dj_l1_6 : decode cJ1_charAt_3b067 6 = .ok (.aload_n 0, 1) := by decide +kernel
theorem dj_l1_7 : decode cJ1_charAt_3b067 7 = .ok (.iload_n 1, 1) := by decide +kernel
theorem dj_l1_8 : decode cJ1_charAt_3b067 8 = .ok (.baload, 1) := by decide +kernel
theorem dj_l1_9 : decode cJ1_charAt_3b067 9 = .ok (.sipush 255, 3) := by decide +kernel
theorem dj_l1_12 : decode cJ1_charAt_3b067 12 = .ok (.iand, 1) := by decide +kernel
theorem dj_l1_13 : decode cJ1_charAt_3b067 13 = .ok (.i2c, 1) := by decide +kernel
theorem dj_l1_14 : decode cJ1_charAt_3b067 14 = .ok (.ireturn, 1) := by decide +kernel
theorem dj_pre_0 : decode cJ3_checkIndex_8e157 0 = .ok (.iload_n 0, 1) := by decide +kernel
theorem dj_pre_1 : decode cJ3_checkIndex_8e157 1 = .ok (.ifCond .lt 8, 3) := by decide +kernel
theorem dj_pre_4 : decode cJ3_checkIndex_8e157 4 = .ok (.iload_n 0, 1) := by decide +kernel
theorem dj_pre_5 : decode cJ3_checkIndex_8e157 5 = .ok (.iload_n 1, 1) := by decide +kernel
theorem dj_pre_6 : decode cJ3_checkIndex_8e157 6 = .ok (.if_icmp .lt 10, 3) := by decide +kernel
theorem dj_pre_16 : decode cJ3_checkIndex_8e157 16 = .ok (.iload_n 0, 1) := by decide +kernel
theorem dj_pre_17 : decode cJ3_checkIndex_8e157 17 = .ok (.ireturn, 1) := by decide +kernel
section
variable {p : Program} {l : Launch} {e : Env} {R : Room} {s : State} {m : MethodId} {args : Array Value} {below : List Frame} {meth : Method} {c : Code} {cells slots : Nat} {Qf : State → Prop}
variable {ad : Nat → Nat} {D : va_G} {ca : Nat → ClassId} {adV : Nat → Nat} {A : Nat → Prop}
theorem js_callS {h : zH} {own : String} {cc : ByteArray} {nL d : Nat} (K : zctx p R s m args c cells slots ad D ca adV A h own cc nL (d + 1)) {i pc mL n : Nat} {y : MethodName} {b : ByteArray} {rt : Option FieldType} {As rest : List Value} {ls : Array Slot} {H : Heap} {locs : List Loc} {Q : Option Value → zH → Prop} (hM : jMet l ad D ca adV A d y (zwJ y b mL rt) As h Q) (hlk : Cond.methodLink own i y ∈ zgt) (hcode : Cond.code y b mL rt ∈ zgt) (hini : Cond.initialized y.cls ∈ zgt) (hst : Cond.static y ∈ zgt) (hd : y.cls ≠ "java/lang/invoke/MethodHandle" ∧ y.cls ≠ "java/lang/invoke/VarHandle" ∧ (parseMethodDescriptor y.desc).map (fun d => d.parameters.length) = some n) (hmL : mL ≤ 30) (hn : As.length = n)
    (hl : ls.size = nL) (hP : va_P D zcl (zwl ad ca h) H) (hS : va_S A s.heap H locs) (hr : rest.length ≤ 4) (hdg : decode cc pc = .ok (.invokestatic i, 3))
    (kk : ∀ (v : Option Value) (h' : zH) (H1 : Heap) (locs1 : List Loc), Q v h' → (h' 84 = h 84 ∧ h' 85 = h 85) → va_P D zcl (zwl ad ca h') H1 → va_S A s.heap H1 locs1 → W p l e R s m args below meth c H1 locs1 cells slots Qf (F0 m (pc + 3) ls ((v.map (ztr ad)).toList ++ rest))) : W p l e R s m args below meth c H locs cells slots Qf (F0 m pc ls (As.reverse ++ rest)) := by
  obtain ⟨hx, hb, hml, hown, hts, hK, hD, hC, hR1, hR2, hR3, hR4⟩ := id K
  have hW : 2 * (F0 m pc ls (As.reverse ++ rest)).monitorRoom + (rest.map fun v => v.category).sum ≤ 8 := by
    have := zcat_sum rest
    exact lv_room (by omega)
  have hp : PreS s H (va_Pc As (zpre ad D ca adV A h)) As := ⟨zblind, fun U hU hW => ⟨rfl, zs_pre K ⟨rfl, rfl⟩ hP hS U hU hW⟩⟩
  have hroom : (zrm d).frames + 1 ≤ R.frames ∧ 8 + (mL + 11) + (zrm d).locals ≤ R.locals := ⟨hR1, by show 8 + (mL + 11) + 64 * d ≤ R.locals; omega⟩
  exact zcall (va_runS (As := As) ⟨hx, hb, hml, hown, hts⟩ hM ⟨callB_of n hts (zws_gt hcode rfl) rfl rfl rfl (hts _ hini) (hts _ hlk) hd hroom, hts _ hst⟩ hp rfl hn hl rfl hW hdg ⟨hR3, hR4⟩) hS kk
end
section
variable (l : Launch) {ad : Nat → Nat} {D : va_G} {ca : Nat → ClassId} {adV : Nat → Nat} {A : Nat → Prop}
theorem js_coder (hD : ∀ h, va_D A (zwl ad ca h)) {d x : Nat} {h : zH} {Q : Option Value → zH → Prop} (h23 : zcls x = 23) (hQ : Q (some (.int 0)) h) : zMet l ad D ca adV A d yJ0_coder_7d493 (zwJ yJ0_coder_7d493 cJ0_coder_7d493 1 (some .byte)) [.ref x] h Q := by
  show Met l yJ0_coder_7d493 (zwJ yJ0_coder_7d493 cJ0_coder_7d493 1 (some .byte)) (zrm d) (va_Pc [.ref (ad x)] (zpre ad D ca adV A h)) (zQc ad D ca A h Q) 0 0 A
  refine Met.ofW (cc := cJ0_coder_7d493) (maxL := 1) (ret := some .byte) (by decide) rfl ?_
  intro p e s m args below meth c s₁ B hml hv
  obtain ⟨rfl, hP, hK, hC⟩ := hv
  have hx := B.exec
  have hb := B.bytes
  have hr := B.returns
  have hts0 := atoms_spec (ws := zwJ yJ0_coder_7d493 cJ0_coder_7d493 1 (some .byte)) B.pre
  have hts : ∀ w ∈ zgt, w.before _ s = true := fun w hw => hts0 w (List.mem_cons_of_mem _ hw)
  have hown : s.vm.findClass "java/lang/String" = some m.cls := findClass_of_methodNamed B.named
  have hlocks := B.notSynchronized
  have hS : va_S A s.heap s.heap [] := va_S.rf
  obtain ⟨j, hj, rfl⟩ := zcls_23 h23
  have hl := lv_entry ([.ref (ad (86 + j))]) (n := 1) (Nat.le_of_ble_eq_true rfl)
  rw [lg_entry_eq]
  generalize (lg_sl ([.ref (ad (86 + j))]) ++ List.replicate (1 - (lg_sl ([.ref (ad (86 + j))])).length) Slot.unset).toArray = ls at hl ⊢
  have hl : lv_has ls 1 [(0, .ref (ad (86 + j)))] := hl
  refine va_gets hx hb hC.2.2.2.1.1 hS hown (hts _ (zG_gt (u := 3101) (by decide +kernel))) (fun _ z => z) dj_coder_0 ?_
  refine lv_if_eq (tgt := 13) hx hb dj_coder_3 (by decide) (fun q => absurd q (by decide)) (fun q => ?_)
  refine lv_aload_n hx hb dj_coder_6 rfl (lv_at hl 0 rfl) ?_
  refine vk_getf hx hb (hC.2.2.1.1 j hj).2.1 hS hown (hts _ (zG_gt (u := 6083) (by decide +kernel))) (fun _ z => z) dj_coder_7 ?_
  refine lv_goto (tgt := 14) hx hb dj_coder_10 (by decide) ?_
  exact W.zret (ty := .byte) hx hb hr (by decide) (fun t ht _ => zQ_ret (v := some (.int 0)) hQ ⟨rfl, rfl⟩ hP hS ht) hS.2.2 dj_coder_14
theorem js_lat (hD : ∀ h, va_D A (zwl ad ca h)) {d x : Nat} {h : zH} {Q : Option Value → zH → Prop} (h23 : zcls x = 23) (hQ : Q (some (.int 1)) h) : zMet l ad D ca adV A d yJ0_isLatin1_aae02 (zwJ yJ0_isLatin1_aae02 cJ0_isLatin1_aae02 1 (some .boolean)) [.ref x] h Q := by
  show Met l yJ0_isLatin1_aae02 (zwJ yJ0_isLatin1_aae02 cJ0_isLatin1_aae02 1 (some .boolean)) (zrm d) (va_Pc [.ref (ad x)] (zpre ad D ca adV A h)) (zQc ad D ca A h Q) 0 0 A
  refine Met.ofW (cc := cJ0_isLatin1_aae02) (maxL := 1) (ret := some .boolean) (by decide) rfl ?_
  intro p e s m args below meth c s₁ B hml hv
  obtain ⟨rfl, hP, hK, hC⟩ := hv
  have hx := B.exec
  have hb := B.bytes
  have hr := B.returns
  have hts0 := atoms_spec (ws := zwJ yJ0_isLatin1_aae02 cJ0_isLatin1_aae02 1 (some .boolean)) B.pre
  have hts : ∀ w ∈ zgt, w.before _ s = true := fun w hw => hts0 w (List.mem_cons_of_mem _ hw)
  have hown : s.vm.findClass "java/lang/String" = some m.cls := findClass_of_methodNamed B.named
  have hlocks := B.notSynchronized
  have hS : va_S A s.heap s.heap [] := va_S.rf
  obtain ⟨j, hj, rfl⟩ := zcls_23 h23
  have hl := lv_entry ([.ref (ad (86 + j))]) (n := 1) (Nat.le_of_ble_eq_true rfl)
  rw [lg_entry_eq]
  generalize (lg_sl ([.ref (ad (86 + j))]) ++ List.replicate (1 - (lg_sl ([.ref (ad (86 + j))])).length) Slot.unset).toArray = ls at hl ⊢
  have hl : lv_has ls 1 [(0, .ref (ad (86 + j)))] := hl
  refine va_gets hx hb hC.2.2.2.1.1 hS hown (hts _ (zG_gt (u := 3101) (by decide +kernel))) (fun _ z => z) dj_lat_0 ?_
  refine lv_if_eq (tgt := 17) hx hb dj_lat_3 (by decide) (fun q => absurd q (by decide)) (fun q => ?_)
  refine lv_aload_n hx hb dj_lat_6 rfl (lv_at hl 0 rfl) ?_
  refine vk_getf hx hb (hC.2.2.1.1 j hj).2.1 hS hown (hts _ (zG_gt (u := 6083) (by decide +kernel))) (fun _ z => z) dj_lat_7 ?_
  refine lv_if_ne (tgt := 17) hx hb dj_lat_10 (by decide) (fun q => absurd rfl q) (fun q => ?_)
  refine lv_iconst (v := 1) hx hb dj_lat_13 (by decide) ?_
  refine lv_goto (tgt := 18) hx hb dj_lat_14 (by decide) ?_
  exact W.zret (ty := .boolean) hx hb hr (by decide) (fun t ht _ => zQ_ret (v := some (.int 1)) hQ ⟨rfl, rfl⟩ hP hS ht) hS.2.2 dj_lat_18
theorem js_pre (hD : ∀ h, va_D A (zwl ad ca h)) {d : Nat} {i n : Int32} {f : Value} {h : zH} {Q : Option Value → zH → Prop} (hf : f.category = 1) (hi : ¬ i < 0) (hn : i < n) (hQ : Q (some (.int i)) h) : jMet l ad D ca adV A d yJ3_checkIndex_8e157 (zwJ yJ3_checkIndex_8e157 cJ3_checkIndex_8e157 3 (some .int)) [.int i, .int n, f] h Q := by
  refine Met.ofW (cc := cJ3_checkIndex_8e157) (maxL := 3) (ret := some .int) (by decide) rfl ?_
  intro p e s m args below meth c s₁ B hml hv
  obtain ⟨rfl, hP, hK, hC⟩ := hv
  have hx := B.exec
  have hb := B.bytes
  have hr := B.returns
  have hlocks := B.notSynchronized
  have hS : va_S A s.heap s.heap [] := va_S.rf
  have es : lg_sl [.int i, .int n, f] = [.val (.int i), .val (.int n), .val f] := by
    unfold lg_sl
    simp only [List.flatMap_cons, List.flatMap_nil, hf]
    rfl
  have hl := lv_entry ([.int i, .int n, f]) (n := 3) (by rw [es]; exact Nat.le_refl 3)
  rw [lg_entry_eq]
  generalize (lg_sl ([.int i, .int n, f]) ++ List.replicate (3 - (lg_sl ([.int i, .int n, f])).length) Slot.unset).toArray = ls at hl ⊢
  have hl : lv_has ls 3 [(0, .int i), (1, .int n), (2, f)] := hl
  refine lv_iload_n hx hb dj_pre_0 rfl (lv_at hl 0 rfl) ?_
  refine lv_if_lt (tgt := 9) hx hb dj_pre_1 (by decide) (fun q => absurd q hi) (fun q => ?_)
  refine lv_iload_n hx hb dj_pre_4 rfl (lv_at hl 0 rfl) ?_
  refine lv_iload_n hx hb dj_pre_5 rfl (lv_at hl 1 rfl) ?_
  refine lv_icmp_lt (tgt := 16) hx hb dj_pre_6 (by decide) (fun q => ?_) (fun q => absurd hn q)
  refine lv_iload_n hx hb dj_pre_16 rfl (lv_at hl 0 rfl) ?_
  exact W.iret hx hb hr (fun t ht _ => zQ_ret (v := some (.int i)) hQ ⟨rfl, rfl⟩ hP hS ht) hS.2.2 dj_pre_17
theorem js_chk (hD : ∀ h, va_D A (zwl ad ca h)) {d : Nat} {i n : Int32} {h : zH} {Q : Option Value → zH → Prop} (hi : ¬ i < 0) (hn : i < n) (hQ : Q none h) : jMet l ad D ca adV A (d + 1) yJ0_checkIndex_df160 (zwJ yJ0_checkIndex_df160 cJ0_checkIndex_df160 2 none) [.int i, .int n] h Q := by
  refine Met.ofW (cc := cJ0_checkIndex_df160) (maxL := 2) (ret := none) (by decide) rfl ?_
  intro p e s m args below meth c s₁ B hml hv
  obtain ⟨rfl, hP, hK, hC⟩ := hv
  have hx := B.exec
  have hb := B.bytes
  have hr := B.returns
  have hts0 := atoms_spec (ws := zwJ yJ0_checkIndex_df160 cJ0_checkIndex_df160 2 none) B.pre
  have hts : ∀ w ∈ zgt, w.before _ s = true := fun w hw => hts0 w (List.mem_cons_of_mem _ hw)
  have hown : s.vm.findClass "java/lang/String" = some m.cls := findClass_of_methodNamed B.named
  have hlocks := B.notSynchronized
  have K : zctx p (zrm (d + 1)) s m ([.int i, .int n] : List Value).toArray c 0 0 ad D ca adV A h "java/lang/String" cJ0_checkIndex_df160 2 (d + 1) := ⟨hx, hb, hml, hown, hts, hK, hD, hC, Nat.le_refl _, Nat.le_refl _, Nat.zero_le _, Nat.zero_le _⟩
  have hS : va_S A s.heap s.heap [] := va_S.rf
  have hl := lv_entry ([.int i, .int n]) (n := 2) (Nat.le_of_ble_eq_true rfl)
  rw [lg_entry_eq]
  generalize (lg_sl ([.int i, .int n]) ++ List.replicate (2 - (lg_sl ([.int i, .int n])).length) Slot.unset).toArray = ls at hl ⊢
  have hl : lv_has ls 2 [(0, .int i), (1, .int n)] := hl
  refine lv_iload_n hx hb dj_chk_0 rfl (lv_at hl 0 rfl) ?_
  refine lv_iload_n hx hb dj_chk_1 rfl (lv_at hl 1 rfl) ?_
  have go : ∀ f : Value, f.category = 1 → W p l e (zrm (d + 1)) s m ([.int i, .int n] : List Value).toArray below meth c s.heap [] 0 0 (MQ below (zQc ad D ca A h Q) ([.int i, .int n] : List Value).toArray s 0 0 A) (F0 m (2 + 3) ls (f :: .int n :: [.int i])) := by
    intro f hf
    refine js_callS (As := [.int i, .int n, f]) (rest := []) (n := 3) K (js_pre l hD (Q := fun v h' => v = some (.int i) ∧ h' = h) hf hi hn ⟨rfl, rfl⟩) (zG_gt (u := 3119) (by decide +kernel)) (zG_gt (u := 3121) (by decide +kernel)) (zG_gt (u := 1014) (by decide +kernel)) (zG_gt (u := 3120) (by decide +kernel)) (by decide +kernel) (by omega) rfl hl.1 hP hS (by decide) dj_chk_5 (fun v h' H1 locs1 q e84 hP1 hS1 => ?_)
    obtain ⟨rfl, rfl⟩ := q
    refine lv_pop hx hb dj_chk_8 rfl ?_
    exact W.vret hx hb hr (fun t ht _ => zQ_ret (v := none) hQ ⟨rfl, rfl⟩ hP1 hS1 ht) hS1.2.2 dj_chk_9
  rcases hC.2.2.2.1.2 with z | ⟨t, z⟩
  · exact va_gets hx hb z hS hown (hts _ (zG_gt (u := 3117) (by decide +kernel))) (fun _ z => z) dj_chk_2 (go _ rfl)
  · exact va_gets hx hb z hS hown (hts _ (zG_gt (u := 3117) (by decide +kernel))) (fun _ z => z) dj_chk_2 (go _ rfl)
theorem js_l1 (hD : ∀ h, va_D A (zwl ad ca h)) {d j k : Nat} {h : zH} {Q : Option Value → zH → Prop} (hj : j < 3) (hk : k < 4) (hQ : Q (some (.int ((zlitB.getD j []).getD k 0))) h) : jMet l ad D ca adV A (d + 2) yJ1_charAt_3b067 (zwJ yJ1_charAt_3b067 cJ1_charAt_3b067 2 (some .char)) [.ref (adV j), .int (nI k)] h Q := by
  refine Met.ofW (cc := cJ1_charAt_3b067) (maxL := 2) (ret := some .char) (by decide) rfl ?_
  intro p e s m args below meth c s₁ B hml hv
  obtain ⟨rfl, hP, hK, hC⟩ := hv
  have hx := B.exec
  have hb := B.bytes
  have hr := B.returns
  have hts0 := atoms_spec (ws := zwJ yJ1_charAt_3b067 cJ1_charAt_3b067 2 (some .char)) B.pre
  have hts : ∀ w ∈ zgt, w.before _ s = true := fun w hw => hts0 w (List.mem_cons_of_mem _ hw)
  have hown : s.vm.findClass "java/lang/StringLatin1" = some m.cls := findClass_of_methodNamed B.named
  have hlocks := B.notSynchronized
  have K : zctx p (zrm (d + 2)) s m ([.ref (adV j), .int (nI k)] : List Value).toArray c 0 0 ad D ca adV A h "java/lang/StringLatin1" cJ1_charAt_3b067 2 (d + 2) := ⟨hx, hb, hml, hown, hts, hK, hD, hC, Nat.le_refl _, Nat.le_refl _, Nat.zero_le _, Nat.zero_le _⟩
  have hS : va_S A s.heap s.heap [] := va_S.rf
  have hT := (hC.2.2.1.1 j hj).2.2.2
  have e4 : ([4, 4, 4] : List Nat).getD j 0 = 4 := by rcases (by omega : j = 0 ∨ j = 1 ∨ j = 2) with rfl | rfl | rfl <;> rfl
  rw [e4] at hT
  have hl := lv_entry ([.ref (adV j), .int (nI k)]) (n := 2) (Nat.le_of_ble_eq_true rfl)
  rw [lg_entry_eq]
  generalize (lg_sl ([.ref (adV j), .int (nI k)]) ++ List.replicate (2 - (lg_sl ([.ref (adV j), .int (nI k)])).length) Slot.unset).toArray = ls at hl ⊢
  have hl : lv_has ls 2 [(0, .ref (adV j)), (1, .int (nI k))] := hl
  refine lv_iload_n hx hb dj_l1_0 rfl (lv_at hl 1 rfl) ?_
  refine lv_aload_n hx hb dj_l1_1 rfl (lv_at hl 0 rfl) ?_
  refine va_tlen (v := 4) hx hb hT hS rfl dj_l1_2 ?_
  refine js_callS (As := [.int (nI k), .int 4]) (rest := []) (n := 2) K (js_chk l hD (d := d) (Q := fun v h' => v = none ∧ h' = h) (nI_pos (by omega)) (nI_lt (b := 4) hk (by omega)) ⟨rfl, rfl⟩) (zG_gt (u := 3114) (by decide +kernel)) (zG_gt (u := 3116) (by decide +kernel)) (zG_gt (u := 1012) (by decide +kernel)) (zG_gt (u := 3115) (by decide +kernel)) (by decide +kernel) (by omega) rfl hl.1 hP hS (by decide) dj_l1_3 (fun v h' H1 locs1 q e84 hP1 hS1 => ?_)
  obtain ⟨rfl, rfl⟩ := q
  refine lv_aload_n hx hb dj_l1_6 rfl (lv_at hl 0 rfl) ?_
  refine lv_iload_n hx hb dj_l1_7 rfl (lv_at hl 1 rfl) ?_
  refine va_tb (v := .int ((zlitB.getD j []).getD k 0)) hx hb hT hS1 (vp_in_nI hk (by omega)) (by rw [nI_clamp (by omega)]) dj_l1_8 ?_
  refine lv_sipush (v := 255) hx hb dj_l1_9 (by decide) ?_
  refine lv_iand hx hb dj_l1_12 ?_
  have key : ∀ j, j < 3 → ∀ k, k < 4 → (((zlitB.getD j []).getD k 0 &&& 255).toUInt32 % 65536).toInt32 = (zlitB.getD j []).getD k 0 ∧ narrow .char (.int ((zlitB.getD j []).getD k 0)) = .int ((zlitB.getD j []).getD k 0) := by decide +kernel
  refine lv_i2c (v := (zlitB.getD j []).getD k 0) hx hb dj_l1_13 (key j hj k hk).1 ?_
  exact W.zret (ty := .char) hx hb hr (key j hj k hk).2 (fun t ht _ => zQ_ret (v := some (.int ((zlitB.getD j []).getD k 0))) hQ ⟨rfl, rfl⟩ hP1 hS1 ht) hS1.2.2 dj_l1_14
theorem js_len (hD : ∀ h, va_D A (zwl ad ca h)) {d x : Nat} {h : zH} {Q : Option Value → zH → Prop} (h23 : zcls x = 23) (hQ : Q (some (.int 4)) h) : zMet l ad D ca adV A (d + 1) yJ0_length_8abf5 (zwJ yJ0_length_8abf5 cJ0_length_8abf5 1 (some .int)) [.ref x] h Q := by
  show Met l yJ0_length_8abf5 (zwJ yJ0_length_8abf5 cJ0_length_8abf5 1 (some .int)) (zrm (d + 1)) (va_Pc [.ref (ad x)] (zpre ad D ca adV A h)) (zQc ad D ca A h Q) 0 0 A
  refine Met.ofW (cc := cJ0_length_8abf5) (maxL := 1) (ret := some .int) (by decide) rfl ?_
  intro p e s m args below meth c s₁ B hml hv
  obtain ⟨rfl, hP, hK, hC⟩ := hv
  have hx := B.exec
  have hb := B.bytes
  have hr := B.returns
  have hts0 := atoms_spec (ws := zwJ yJ0_length_8abf5 cJ0_length_8abf5 1 (some .int)) B.pre
  have hts : ∀ w ∈ zgt, w.before _ s = true := fun w hw => hts0 w (List.mem_cons_of_mem _ hw)
  have hown : s.vm.findClass "java/lang/String" = some m.cls := findClass_of_methodNamed B.named
  have hlocks := B.notSynchronized
  have K : zctx p (zrm (d + 1)) s m ([.ref (ad x)] : List Value).toArray c 0 0 ad D ca adV A h "java/lang/String" cJ0_length_8abf5 1 (d + 1) := ⟨hx, hb, hml, hown, hts, hK, hD, hC, Nat.le_refl _, Nat.le_refl _, Nat.zero_le _, Nat.zero_le _⟩
  have hS : va_S A s.heap s.heap [] := va_S.rf
  obtain ⟨j, hj, rfl⟩ := zcls_23 h23
  have hT := (hC.2.2.1.1 j hj).2.2.2
  have e4 : ([4, 4, 4] : List Nat).getD j 0 = 4 := by rcases (by omega : j = 0 ∨ j = 1 ∨ j = 2) with rfl | rfl | rfl <;> rfl
  rw [e4] at hT
  have hl := lv_entry ([.ref (ad (86 + j))]) (n := 1) (Nat.le_of_ble_eq_true rfl)
  rw [lg_entry_eq]
  generalize (lg_sl ([.ref (ad (86 + j))]) ++ List.replicate (1 - (lg_sl ([.ref (ad (86 + j))])).length) Slot.unset).toArray = ls at hl ⊢
  have hl : lv_has ls 1 [(0, .ref (ad (86 + j)))] := hl
  refine lv_aload_n hx hb dj_len_0 rfl (lv_at hl 0 rfl) ?_
  refine vk_getf hx hb (hC.2.2.1.1 j hj).2.2.1 hS hown (hts _ (zG_gt (u := 6082) (by decide +kernel))) (fun _ z => z) dj_len_1 ?_
  refine va_tlen (v := 4) hx hb hT hS rfl dj_len_4 ?_
  refine lv_aload_n hx hb dj_len_5 rfl (lv_at hl 0 rfl) ?_
  refine zs_callJ (As := []) (rest := [.int 4]) (n := 0) (u := 3097) (x := 86 + j) (Q := fun v h' => v = some (.int 0) ∧ h' = h) K ⟨rfl, rfl⟩ (js_coder l hD h23 ⟨rfl, rfl⟩) (by decide +kernel) (zG_gt (u := 3100) (by decide +kernel)) (zG_gt (u := 1012) (by decide +kernel)) (zG_gt (u := 3098) (by decide +kernel)) (zG_gt (u := 3099) (by decide +kernel)) rfl (by decide +kernel) (by omega) rfl h23 hl.1 hP hS (by decide) dj_len_6 (fun v h' H1 locs1 q e84 hP1 hS1 => ?_)
  obtain ⟨rfl, rfl⟩ := q
  refine lv_ishr hx hb dj_len_9 ?_
  exact W.iret hx hb hr (fun t ht _ => zQ_ret (v := some (.int 4)) hQ ⟨rfl, rfl⟩ hP1 hS1 ht) hS1.2.2 dj_len_10
theorem js_cha (hD : ∀ h, va_D A (zwl ad ca h)) {d x k : Nat} {h : zH} {Q : Option Value → zH → Prop} (h23 : zcls x = 23) (hk : k < 4) (hQ : Q (some (.int ((zlitB.getD (x - 86) []).getD k 0))) h) : zMet l ad D ca adV A (d + 3) yJ0_charAt_5068e (zwJ yJ0_charAt_5068e cJ0_charAt_5068e 2 (some .char)) [.ref x, .int (nI k)] h Q := by
  show Met l yJ0_charAt_5068e (zwJ yJ0_charAt_5068e cJ0_charAt_5068e 2 (some .char)) (zrm (d + 3)) (va_Pc [.ref (ad x), .int (nI k)] (zpre ad D ca adV A h)) (zQc ad D ca A h Q) 0 0 A
  refine Met.ofW (cc := cJ0_charAt_5068e) (maxL := 2) (ret := some .char) (by decide) rfl ?_
  intro p e s m args below meth c s₁ B hml hv
  obtain ⟨rfl, hP, hK, hC⟩ := hv
  have hx := B.exec
  have hb := B.bytes
  have hr := B.returns
  have hts0 := atoms_spec (ws := zwJ yJ0_charAt_5068e cJ0_charAt_5068e 2 (some .char)) B.pre
  have hts : ∀ w ∈ zgt, w.before _ s = true := fun w hw => hts0 w (List.mem_cons_of_mem _ hw)
  have hown : s.vm.findClass "java/lang/String" = some m.cls := findClass_of_methodNamed B.named
  have hlocks := B.notSynchronized
  have K : zctx p (zrm (d + 3)) s m ([.ref (ad x), .int (nI k)] : List Value).toArray c 0 0 ad D ca adV A h "java/lang/String" cJ0_charAt_5068e 2 (d + 3) := ⟨hx, hb, hml, hown, hts, hK, hD, hC, Nat.le_refl _, Nat.le_refl _, Nat.zero_le _, Nat.zero_le _⟩
  have hS : va_S A s.heap s.heap [] := va_S.rf
  obtain ⟨j, hj, rfl⟩ := zcls_23 h23
  rw [show 86 + j - 86 = j by omega] at hQ
  have hl := lv_entry ([.ref (ad (86 + j)), .int (nI k)]) (n := 2) (Nat.le_of_ble_eq_true rfl)
  rw [lg_entry_eq]
  generalize (lg_sl ([.ref (ad (86 + j)), .int (nI k)]) ++ List.replicate (2 - (lg_sl ([.ref (ad (86 + j)), .int (nI k)])).length) Slot.unset).toArray = ls at hl ⊢
  have hl : lv_has ls 2 [(0, .ref (ad (86 + j))), (1, .int (nI k))] := hl
  refine lv_aload_n hx hb dj_cha_0 rfl (lv_at hl 0 rfl) ?_
  refine zs_callJ (As := []) (rest := []) (n := 0) (u := 3107) (x := 86 + j) (Q := fun v h' => v = some (.int 1) ∧ h' = h) K ⟨rfl, rfl⟩ (js_lat l hD h23 ⟨rfl, rfl⟩) (by decide +kernel) (zG_gt (u := 3110) (by decide +kernel)) (zG_gt (u := 1012) (by decide +kernel)) (zG_gt (u := 3108) (by decide +kernel)) (zG_gt (u := 3109) (by decide +kernel)) rfl (by decide +kernel) (by omega) rfl h23 hl.1 hP hS (by decide) dj_cha_1 (fun v h' H1 locs1 q e84 hP1 hS1 => ?_)
  obtain ⟨rfl, rfl⟩ := q
  refine lv_if_eq (tgt := 16) hx hb dj_cha_4 (by decide) (fun q => absurd q (by decide)) (fun q => ?_)
  refine lv_aload_n hx hb dj_cha_7 rfl (lv_at hl 0 rfl) ?_
  refine vk_getf hx hb (hC.2.2.1.1 j hj).2.2.1 hS1 hown (hts _ (zG_gt (u := 6082) (by decide +kernel))) (fun _ z => z) dj_cha_8 ?_
  refine lv_iload_n hx hb dj_cha_11 rfl (lv_at hl 1 rfl) ?_
  refine js_callS (As := [.ref (adV j), .int (nI k)]) (rest := []) (n := 2) K (js_l1 l hD (d := d) (Q := fun v h2 => v = some (.int ((zlitB.getD j []).getD k 0)) ∧ h2 = h') hj hk ⟨rfl, rfl⟩) (zG_gt (u := 3111) (by decide +kernel)) (zG_gt (u := 3113) (by decide +kernel)) (zG_gt (u := 1013) (by decide +kernel)) (zG_gt (u := 3112) (by decide +kernel)) (by decide +kernel) (by omega) rfl hl.1 hP1 hS1 (by decide) dj_cha_12 (fun v h2 H2 locs2 q2 e842 hP2 hS2 => ?_)
  obtain ⟨rfl, rfl⟩ := q2
  have key : ∀ j, j < 3 → ∀ k, k < 4 → narrow .char (.int ((zlitB.getD j []).getD k 0)) = .int ((zlitB.getD j []).getD k 0) := by decide +kernel
  exact W.zret (ty := .char) hx hb hr (key j hj k hk) (fun t ht _ => zQ_ret (v := some (.int ((zlitB.getD j []).getD k 0))) hQ ⟨rfl, rfl⟩ hP2 hS2 ht) hS2.2.2 dj_cha_15
theorem js_all (hD : ∀ h, va_D A (zwl ad ca h)) : zstr l ad D ca adV A := by
  refine ⟨fun d x h Q hd hx hQ => ?_, fun d x i h Q hd hx hi hQ => ?_⟩
  · obtain ⟨d', rfl⟩ : ∃ d', d = d' + 1 := ⟨d - 1, by omega⟩
    exact js_len l hD hx hQ
  · obtain ⟨d', rfl⟩ : ∃ d', d = d' + 3 := ⟨d - 3, by omega⟩
    obtain ⟨k, hk, rfl⟩ := nI_of hi.1
    have e : zix (nI k) = k := zix_nI hk
    have h4 : k < 4 := by
      have := hi.2
      rwa [nI_clamp hk] at this
    rw [e] at hQ
    exact js_cha l hD hx h4 hQ
end
