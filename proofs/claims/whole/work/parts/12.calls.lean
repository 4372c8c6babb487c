theorem zyR_ok {y : Nat} (h : y < 202) : ∃ u, zmok u (zyR y) = true := by
  refine zmok_all _ ?_
  have hl : y < zyT.length := by rw [zyT_len]; exact h
  unfold zyR
  rw [List.getD_eq_getElem?_getD, List.getElem?_eq_getElem hl]
  exact List.getElem_mem hl
/-- what the tables say of a method by its number -/
def zyok (y : Nat) : Prop := Cond.code (zyN y) (zyB y) (zyL y) (zyQ y) ∈ zgt ∧ Cond.initialized (zyN y).cls ∈ zgt ∧ (zyS y = true → Cond.static (zyN y) ∈ zgt) ∧ (zyS y = false → Cond.instanceMethod (zyN y) ∈ zgt ∧ Cond.selects (zyN y).cls (zyN y) (zyN y) ∈ zgt) ∧ plainName (zyN y).cls = true ∧ ((zyN y).cls ≠ "java/lang/invoke/MethodHandle" ∧ (zyN y).cls ≠ "java/lang/invoke/VarHandle" ∧ (parseMethodDescriptor (zyN y).desc).map (fun d => d.parameters.length) = some (zyP y)) ∧ zyL y ≤ 30
theorem zy_ok {y : Nat} (h : y < 202) : zyok y := by
  obtain ⟨u, hu⟩ := zyR_ok h
  simp only [zmok, Bool.and_eq_true, decide_eq_true_eq] at hu
  obtain ⟨⟨⟨⟨⟨⟨h1, h2⟩, h3⟩, h4⟩, h5⟩, h6⟩, h7⟩ := hu
  refine ⟨zG_gt h1, zG_gt h2, fun hs => ?_, fun hs => ?_, h4, ⟨h5.1, h5.2, h6⟩, h7⟩
  · have hs' : (zyR y).2.2.2.2.2 = true := hs
    rw [if_pos hs'] at h3
    exact zG_gt h3
  · have hs' : ¬ (zyR y).2.2.2.2.2 = true := by
      have : (zyR y).2.2.2.2.2 = false := hs
      rw [this]; decide
    rw [if_neg hs', Bool.and_eq_true] at h3
    exact ⟨zG_gt h3.1, zG_gt h3.2⟩
theorem zws_gt {w : Jvm.Cond} {ws : List Jvm.Cond} (h : w ∈ zgt) (he : ws = w :: zgt) : GoodIn zgt ws := by
  subst he
  intro v hv
  rcases List.mem_cons.mp hv with rfl | hv
  · exact ⟨h, good_of_word (zgt_good h).2⟩
  · exact ⟨hv, good_of_word (zgt_good hv).2⟩
section
variable {p : Program} {l : Launch} {e : Env} {R : Room} {s : State} {m : MethodId} {args : Array Value} {below : List Frame} {meth : Method} {c : Code} {cells slots : Nat} {Qf : State → Prop}
variable {ad : Nat → Nat} {D : va_G} {ca : Nat → ClassId} {adV : Nat → Nat} {A : Nat → Prop}
theorem zs_pre {h0 h : zH} {own : String} {cc : ByteArray} {nL d : Nat} (K : zctx p R s m args c cells slots ad D ca adV A h0 own cc nL d) (e84 : h 84 = h0 84 ∧ h 85 = h0 85) {H : Heap} {locs : List Loc} (hP : va_P D zcl (zwl ad ca h) H) (hS : va_S A s.heap H locs) : ∀ U : State, U.heap = H → s.WarmedH U.vm → zpre ad D ca adV A h U := by
  obtain ⟨hx, hb, hml, hown, hts, hK, hD, hC, -⟩ := id K
  intro U hU hW
  subst hU
  exact ⟨hP, va_K.moved hW.alike hK, zcn_move hW hS.1 hS.2.1 e84 hC⟩
theorem zs_callS {h0 h : zH} {own : String} {cc : ByteArray} {nL d : Nat} (K : zctx p R s m args c cells slots ad D ca adV A h0 own cc nL (d + 1)) (e84 : h 84 = h0 84 ∧ h 85 = h0 85) {u i y pc : Nat} {As rest : List Value} {ls : Array Slot} {H : Heap} {locs : List Loc} {Q : Option Value → zH → Prop} (hM : zMet l ad D ca adV A d (zyN y) (zws y) As h Q) (hy : y < 202) (hlk : zML u own i (zyN y) = true) (hst : zyS y = true) (hn : As.length = zyP y)
    (hl : ls.size = nL) (hP : va_P D zcl (zwl ad ca h) H) (hS : va_S A s.heap H locs) (hr : rest.length ≤ 4) (hdg : decode cc pc = .ok (.invokestatic i, 3))
    (kk : ∀ (v : Option Value) (h' : zH) (H1 : Heap) (locs1 : List Loc), Q v h' → (h' 84 = h 84 ∧ h' 85 = h 85) → va_P D zcl (zwl ad ca h') H1 → va_S A s.heap H1 locs1 → W p l e R s m args below meth c H1 locs1 cells slots Qf (F0 m (pc + 3) ls ((v.map (ztr ad)).toList ++ rest.map (ztr ad)))) : W p l e R s m args below meth c H locs cells slots Qf (F0 m pc ls ((As.map (ztr ad)).reverse ++ rest.map (ztr ad))) := by
  obtain ⟨hx, hb, hml, hown, hts, hK, hD, hC, hR1, hR2, hR3, hR4⟩ := id K
  obtain ⟨y1, y2, y3, y4, y5, y6, y7⟩ := zy_ok hy
  have hW : 2 * (F0 m pc ls ((As.map (ztr ad)).reverse ++ rest.map (ztr ad))).monitorRoom + ((rest.map (ztr ad)).map fun v => v.category).sum ≤ 8 := by
    have := zcat_sum (rest.map (ztr ad))
    rw [List.length_map] at this
    exact lv_room (by omega)
  have hp : PreS s H (va_Pc (As.map (ztr ad)) (zpre ad D ca adV A h)) (As.map (ztr ad)) := ⟨zblind, fun U hU hW => ⟨rfl, zs_pre K e84 hP hS U hU hW⟩⟩
  have hroom : (zrm d).frames + 1 ≤ R.frames ∧ 8 + (zyL y + 11) + (zrm d).locals ≤ R.locals := ⟨hR1, by show 8 + (zyL y + 11) + 64 * d ≤ R.locals; omega⟩
  simp only [zML, Bool.or_eq_true] at hlk
  rcases hlk with hlk | hlk
  · exact zcall (va_runS (As := As.map (ztr ad)) ⟨hx, hb, hml, hown, hts⟩ hM ⟨callB_of (zyP y) hts (zws_gt y1 rfl) rfl rfl rfl (hts _ y2) (hts _ (zG_gt hlk)) y6 hroom, hts _ (y3 hst)⟩ hp rfl (by rw [List.length_map]; exact hn) hl rfl hW hdg ⟨hR3, hR4⟩) hS kk
  · exact zcall (va_runSN (As := As.map (ztr ad)) ⟨hx, hb, hml, hown, hts⟩ hM ⟨va_cnB (zyP y) hts (zws_gt y1 rfl) rfl rfl rfl (zctx_nest K hlk) (hts _ y2) y6 hroom, hts _ (y3 hst), trivial⟩ hp rfl (by rw [List.length_map]; exact hn) hl rfl hW hdg ⟨hR3, hR4⟩) hS kk
theorem zs_callV {h0 h : zH} {own : String} {cc : ByteArray} {nL d : Nat} (K : zctx p R s m args c cells slots ad D ca adV A h0 own cc nL (d + 1)) (e84 : h 84 = h0 84 ∧ h 85 = h0 85) {u i y pc x dd : Nat} {As rest : List Value} {ls : Array Slot} {H : Heap} {locs : List Loc} {Q : Option Value → zH → Prop} (hM : zMet l ad D ca adV A d (zyN y) (zws y) (.ref x :: As) h Q) (hy : y < 202) (hlk : zML u own i (zyN y) = true) (hst : zyS y = false) (hn : As.length = zyP y) (hc : zcls x = dd) (hcl : (zcl[dd]?).map (·.1) = some (zyN y).cls)
    (hl : ls.size = nL) (hP : va_P D zcl (zwl ad ca h) H) (hS : va_S A s.heap H locs) (hr : rest.length ≤ 4) (hdg : decode cc pc = .ok (.invokevirtual i, 3))
    (kk : ∀ (v : Option Value) (h' : zH) (H1 : Heap) (locs1 : List Loc), Q v h' → (h' 84 = h 84 ∧ h' 85 = h 85) → va_P D zcl (zwl ad ca h') H1 → va_S A s.heap H1 locs1 → W p l e R s m args below meth c H1 locs1 cells slots Qf (F0 m (pc + 3) ls ((v.map (ztr ad)).toList ++ rest.map (ztr ad)))) : W p l e R s m args below meth c H locs cells slots Qf (F0 m pc ls ((As.map (ztr ad)).reverse ++ .ref (ad x) :: rest.map (ztr ad))) := by
  obtain ⟨hx, hb, hml, hown, hts, hK, hD, hC, hR1, hR2, hR3, hR4⟩ := id K
  obtain ⟨y1, y2, y3, y4, y5, y6, y7⟩ := zy_ok hy
  have hW : 2 * (F0 m pc ls ((As.map (ztr ad)).reverse ++ .ref (ad x) :: rest.map (ztr ad))).monitorRoom + ((rest.map (ztr ad)).map fun v => v.category).sum ≤ 8 := by
    have := zcat_sum (rest.map (ztr ad))
    rw [List.length_map] at this
    exact lv_room (by omega)
  obtain ⟨q, hq, hqc⟩ : ∃ q, zcl[dd]? = some q ∧ q.1 = (zyN y).cls := by
    cases hz : zcl[dd]? with
    | none => rw [hz] at hcl; cases hcl
    | some q => rw [hz] at hcl; exact ⟨q, rfl, Option.some.inj hcl⟩
  have hdd : dd < 8 := (zcl_ok hq).1
  have hxl : x < 80 := zcls_lt (by omega)
  have hrecv := va_recv hK hP hq (q0 := x) (a := ad x) (fs := (List.range (znf dd)).map (zfld ad h dd x)) (by rw [zwl_get hxl, zenc_obj hc hdd])
  rw [hqc] at hrecv
  have hp : PreV s H (zyN y).cls (ad x) (va_Pc ((.ref x :: As).map (ztr ad)) (zpre ad D ca adV A h)) (As.map (ztr ad)) := ⟨zblind, hrecv, fun U hU hW => ⟨rfl, zs_pre K e84 hP hS U hU hW⟩⟩
  have hroom : (zrm d).frames + 1 ≤ R.frames ∧ 8 + (zyL y + 11) + (zrm d).locals ≤ R.locals := ⟨hR1, by show 8 + (zyL y + 11) + 64 * d ≤ R.locals; omega⟩
  simp only [zML, Bool.or_eq_true] at hlk
  rcases hlk with hlk | hlk
  · exact zcall (va_runV (C := (zyN y).cls) (As := As.map (ztr ad)) ⟨hx, hb, hml, hown, hts⟩ hM ⟨callB_of (zyP y) hts (zws_gt y1 rfl) rfl rfl rfl (hts _ y2) (hts _ (zG_gt hlk)) y6 hroom, hts _ (y4 hst).1, hts _ (y4 hst).2⟩ hp rfl (by rw [List.length_map]; exact hn) hl rfl hW hdg ⟨hR3, hR4⟩) hS kk
  · exact zcall (va_runVN (C := (zyN y).cls) (As := As.map (ztr ad)) ⟨hx, hb, hml, hown, hts⟩ hM ⟨va_cnB (zyP y) hts (zws_gt y1 rfl) rfl rfl rfl (zctx_nest K hlk) (hts _ y2) y6 hroom, hts _ (y4 hst).1, hts _ (y4 hst).2⟩ hp rfl (by rw [List.length_map]; exact hn) hl rfl hW hdg ⟨hR3, hR4⟩) hS kk
/-- the two members of String, as the machine's words have them -/
def zwJ (y : MethodName) (b : ByteArray) (n : Nat) (r : Option FieldType) : List Jvm.Cond := .code y b n r :: zgt
def zstr (l : Launch) (ad : Nat → Nat) (D : va_G) (ca : Nat → ClassId) (adV : Nat → Nat) (A : Nat → Prop) : Prop :=
  (∀ (d x : Nat) (h : zH) (Q : Option Value → zH → Prop), 8 ≤ d → zcls x = 23 → Q (some (.int 4)) h → zMet l ad D ca adV A d yJ0_length_8abf5 (zwJ yJ0_length_8abf5 cJ0_length_8abf5 1 (some .int)) [.ref x] h Q)
  ∧ ∀ (d x : Nat) (i : Int32) (h : zH) (Q : Option Value → zH → Prop), 8 ≤ d → zcls x = 23 → zok i 4 → Q (some (.int (([[116,111,108,108],[112,117,108,108],[102,105,110,101]].getD (x - 86) []).getD (zix i) 0))) h → zMet l ad D ca adV A d yJ0_charAt_5068e (zwJ yJ0_charAt_5068e cJ0_charAt_5068e 2 (some .char)) [.ref x, .int i] h Q
theorem zs_callJ {h0 h : zH} {own : String} {cc : ByteArray} {nL d : Nat} (K : zctx p R s m args c cells slots ad D ca adV A h0 own cc nL (d + 1)) (e84 : h 84 = h0 84 ∧ h 85 = h0 85) {u i pc x mL n : Nat} {y : MethodName} {b : ByteArray} {rt : Option FieldType} {As rest : List Value} {ls : Array Slot} {H : Heap} {locs : List Loc} {Q : Option Value → zH → Prop} (hM : zMet l ad D ca adV A d y (zwJ y b mL rt) (.ref x :: As) h Q) (hlk : zG u (.methodLink own i y) = true) (hcode : Cond.code y b mL rt ∈ zgt) (hini : Cond.initialized y.cls ∈ zgt) (hinst : Cond.instanceMethod y ∈ zgt) (hsel : Cond.selects y.cls y y ∈ zgt) (hcls : y.cls = "java/lang/String") (hd : y.cls ≠ "java/lang/invoke/MethodHandle" ∧ y.cls ≠ "java/lang/invoke/VarHandle" ∧ (parseMethodDescriptor y.desc).map (fun d => d.parameters.length) = some n) (hmL : mL ≤ 30) (hn : As.length = n) (hc : zcls x = 23)
    (hl : ls.size = nL) (hP : va_P D zcl (zwl ad ca h) H) (hS : va_S A s.heap H locs) (hr : rest.length ≤ 4) (hdg : decode cc pc = .ok (.invokevirtual i, 3))
    (kk : ∀ (v : Option Value) (h' : zH) (H1 : Heap) (locs1 : List Loc), Q v h' → (h' 84 = h 84 ∧ h' 85 = h 85) → va_P D zcl (zwl ad ca h') H1 → va_S A s.heap H1 locs1 → W p l e R s m args below meth c H1 locs1 cells slots Qf (F0 m (pc + 3) ls ((v.map (ztr ad)).toList ++ rest.map (ztr ad)))) : W p l e R s m args below meth c H locs cells slots Qf (F0 m pc ls ((As.map (ztr ad)).reverse ++ .ref (ad x) :: rest.map (ztr ad))) := by
  obtain ⟨hx, hb, hml, hown, hts, hK, hD, hC, hR1, hR2, hR3, hR4⟩ := id K
  have hW : 2 * (F0 m pc ls ((As.map (ztr ad)).reverse ++ .ref (ad x) :: rest.map (ztr ad))).monitorRoom + ((rest.map (ztr ad)).map fun v => v.category).sum ≤ 8 := by
    have := zcat_sum (rest.map (ztr ad))
    rw [List.length_map] at this
    exact lv_room (by omega)
  obtain ⟨j, hj, rfl⟩ := zcls_23 hc
  have hrecv := vk_recv hC.2.2.1 hj hS
  rw [← hcls] at hrecv
  have hp : PreV s H y.cls (ad (86 + j)) (va_Pc ((.ref (86 + j) :: As).map (ztr ad)) (zpre ad D ca adV A h)) (As.map (ztr ad)) := ⟨zblind, hrecv, fun U hU hW => ⟨rfl, zs_pre K e84 hP hS U hU hW⟩⟩
  have hroom : (zrm d).frames + 1 ≤ R.frames ∧ 8 + (mL + 11) + (zrm d).locals ≤ R.locals := ⟨hR1, by show 8 + (mL + 11) + 64 * d ≤ R.locals; omega⟩
  exact zcall (va_runV (C := y.cls) (As := As.map (ztr ad)) ⟨hx, hb, hml, hown, hts⟩ hM ⟨callB_of n hts (zws_gt hcode rfl) rfl rfl rfl (hts _ hini) (hts _ (zG_gt hlk)) hd hroom, hts _ hinst, hts _ hsel⟩ hp rfl (by rw [List.length_map]; exact hn) hl rfl hW hdg ⟨hR3, hR4⟩) hS kk
end
