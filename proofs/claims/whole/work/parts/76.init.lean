/-! constructors -/
section
variable {p : Program} {l : Launch} {e : Env} {R : Room} {s : State} {m : MethodId} {args : Array Value} {below : List Frame} {meth : Method} {c : Code} {cells slots : Nat} {Qf : State → Prop}
variable {D : va_G} {ca : Nat → ClassId} {A : Nat → Prop} {H H0 : Heap} {locs : List Loc} {ws : va_W} {cc : ByteArray} {pc : Nat} {ls : Array Slot} {rest : List Value}
theorem in_newa (hx : p.tables.exec = Jvm.exec) (hb : c.code = cc) (harr : (Cond.arrayClass .int).before args s = true) (hK : va_K D zcl (zty ca) s) (hP : va_P D zcl ws H) (hD : va_D A ws) (hS : va_S A H0 H locs) (hA : ∀ q, H0.size ≤ q → A q) {n : Int32} {N : Nat} (hn : ¬ n < 0) (hN : n.toNatClampNeg = N) (hbytes : N * 4 ≤ 536870912) (hcells : cells + 1 ≤ R.cells) (hslots : slots + N ≤ R.slots) (hdg : decode cc pc = .ok (.newarray .int, 2))
    (kk : ∀ (q : Nat) (H1 : Heap), va_P D zcl (ws ++ [(q, .inl (ca 0, N, .inl (fun _ => 0)))]) H1 → va_D A (ws ++ [(q, .inl (ca 0, N, .inl (fun _ => 0)))]) → va_S A H0 H1 locs → W p l e R s m args below meth c H1 locs (cells + 1) (slots + N) Qf (F0 m (pc + 2) ls (.ref q :: rest))) : W p l e R s m args below meth c H locs cells slots Qf (F0 m pc ls (.int n :: rest)) := by
  refine va_newa (atype := .int) (ty := .int) hx hb harr rfl hK hP hD hS hA (a0 := (N, .inl (fun _ => 0))) (fun cA => rfl) hn hN hbytes hcells hslots hdg (fun q cA H1 hK2 hP2 hD2 hS2 => ?_)
  have e1 := (hK.2 0 (ca 0, .int) rfl).2
  have e2 := (hK2.2 3 (cA, .int) rfl).2
  have e3 : cA = ca 0 := Option.some.inj (Eq.trans (Eq.symm e2) e1)
  subst e3
  exact kk q H1 hP2 hD2 hS2
theorem in_newq (k : Nat) (hx : p.tables.exec = Jvm.exec) (hb : c.code = cc) {own C : String} {index : Nat} (hown : s.vm.findClass own = some m.cls) (hclink : (Cond.classLink own index C).before args s = true) (hover : va_AO C s) (hk : (zty ca)[k]? = some (ca k, .object C)) (hK : va_K D zcl (zty ca) s) (hP : va_P D zcl ws H) (hD : va_D A ws) (hS : va_S A H0 H locs) (hA : ∀ q, H0.size ≤ q → A q) {n : Int32} {N : Nat} (hn : ¬ n < 0) (hN : n.toNatClampNeg = N) (hbytes : N * 4 ≤ 536870912) (hcells : cells + 1 ≤ R.cells) (hslots : slots + N ≤ R.slots) (hdg : decode cc pc = .ok (.anewarray index, 3))
    (kk : ∀ (q : Nat) (H1 : Heap), va_P D zcl (ws ++ [(q, .inl (ca k, N, .inr (.inr (.inr (.inr (fun _ => none))))))]) H1 → va_D A (ws ++ [(q, .inl (ca k, N, .inr (.inr (.inr (.inr (fun _ => none))))))]) → va_S A H0 H1 locs → W p l e R s m args below meth c H1 locs (cells + 1) (slots + N) Qf (F0 m (pc + 3) ls (.ref q :: rest))) : W p l e R s m args below meth c H locs cells slots Qf (F0 m pc ls (.int n :: rest)) := by
  refine va_newq hx hb hown hclink hover hK hP hD hS hA hn hN hbytes hcells hslots hdg (fun q cA H1 hK2 hP2 hD2 hS2 => ?_)
  obtain ⟨kA, comp, -, -, -, e1⟩ := (hK.2 k _ hk).2
  obtain ⟨kB, comp2, -, -, -, e2⟩ := (hK2.2 3 (cA, .object C) rfl).2
  have e3 : cA = ca k := Option.some.inj (Eq.trans (Eq.symm e2) e1)
  subst e3
  exact kk q H1 hP2 hD2 hS2
def iNe (U : State) : Prop := (∀ w ∈ lw_tbl, zNest w = true → va_Nw w U) ∧ va_AO RX3 U ∧ va_AO RX4 U
theorem iNe_warm {s U : State} (hW : s.WarmedH U.vm) (h : iNe s) : iNe U := by
  refine ⟨fun w hw hn => ?_, va_AO.moved hW.alike h.2.1, va_AO.moved hW.alike h.2.2⟩
  have := h.1 w hw hn
  match w, hn, this with
  | .fieldLinkNest a i b n d g, _, this => exact va_Nw.warmF hW this
  | .methodLinkNest a i x g, _, this => exact va_Nw.warmM hW this
def iRm (f mc ms : Nat) : Room := { frames := f, cells := mc, slots := ms, locals := 64 * f }
/-- a constructor: from its object alone to a world that stands on the new addresses u -/
def iMet (l : Launch) (D : va_G) (ca : Nat → ClassId) (y : MethodName) (b : ByteArray) (n f mc ms : Nat) (h0 : Nat) (e0 : va_E) (As : List Value) (sz : Nat) (Wo : List Nat → va_W) : Prop :=
  Met l y (zwJ y b n none) (iRm f mc ms) (va_Pc (.ref h0 :: As) (fun U => U.heap.size = sz ∧ va_P D zcl [(h0, e0)] U.heap ∧ va_K D zcl (zty ca) U ∧ iNe U ∧ va_D (fun _ => True) [(h0, e0)])) (va_Qv (fun _ : List Nat => True) (fun u t => va_P D zcl (Wo u) t.heap ∧ va_D (va_A [(h0, e0)] sz) (Wo u)) (va_A [(h0, e0)] sz)) mc ms (va_A [(h0, e0)] sz)
theorem icall {own : String} {nL : Nat} (hx : p.tables.exec = Jvm.exec) (hb : c.code = cc) (hml : c.maxLocals = nL) (hown : s.vm.findClass own = some m.cls) (hts : ∀ w ∈ zgt, w.before args s = true) (hK : va_K D zcl (zty ca) s) {i n f mc ms np h0 : Nat} {y : MethodName} {b : ByteArray} {e0 : va_E} {As : List Value} {Wo : List Nat → va_W} (hNe : iNe s) (hM : ∀ sz, iMet l D ca y b n f mc ms h0 e0 As sz Wo) (hlk : Cond.methodLink own i y ∈ zgt ∨ Cond.methodLinkNest own i y "RopeFerry" ∈ lw_tbl) (hcode : Cond.code y b n none ∈ zgt) (hini : Cond.initialized y.cls ∈ zgt) (hinst : Cond.instanceMethod y ∈ zgt) (hnm : y.name = "<init>") (hd : y.cls ≠ "java/lang/invoke/MethodHandle" ∧ y.cls ≠ "java/lang/invoke/VarHandle" ∧ (parseMethodDescriptor y.desc).map (fun d => d.parameters.length) = some np) (hn : As.length = np) (hl : ls.size = nL) (hroom : (iRm f mc ms).frames + 1 ≤ R.frames ∧ 8 + (n + 11) + (iRm f mc ms).locals ≤ R.locals) (hcs : cells + mc ≤ R.cells ∧ slots + ms ≤ R.slots)
    (hP : va_P D zcl ws H) (hD : va_D A ws) (hS : va_S A s.heap H locs) (hA : ∀ q, s.heap.size ≤ q → A q) {wr : va_W} (k : Nat) (isR : List Nat) (hC : ws[k]? = some (h0, e0)) (hR : isR.map (fun i => ws[i]?) = wr.map some) (hnd : va_nd isR = true) (hdis : ∀ i ∈ isR, i ∉ [k]) (hr : rest.length ≤ 4) (hdg : decode cc pc = .ok (.invokespecial i, 3))
    (kk : ∀ (u : List Nat) (H1 : Heap) (locs1 : List Loc), va_P D zcl (wr ++ Wo u) H1 → va_D A (wr ++ Wo u) → va_S A s.heap H1 locs1 → W p l e R s m args below meth c H1 locs1 (cells + mc) (slots + ms) Qf (F0 m (pc + 3) ls rest)) : W p l e R s m args below meth c H locs cells slots Qf (F0 m pc ls (As.reverse ++ .ref h0 :: rest)) := by
  have hCm : [k].map (fun i => ws[i]?) = [(h0, e0)].map some := by
    show [ws[k]?] = [some (h0, e0)]
    rw [hC]
  have hCf : [k].filterMap (fun i => ws[i]?) = [(h0, e0)] := by
    simp [hC]
  have hPc := hP.sub (ws' := [(h0, e0)]) [k] hCf
  have hDc := hD.sub (ws' := [(h0, e0)]) [k] (by simp [va_nd]) hCm
  have hFc := va_free (wc := [(h0, e0)]) hD hS hA [k] hCm
  have hW : 2 * (F0 m pc ls (As.reverse ++ .ref h0 :: rest)).monitorRoom + (rest.map fun v => v.category).sum ≤ 8 := by
    have := zcat_sum rest
    exact lv_room (by omega)
  have hp : PreS s H (va_Pc (.ref h0 :: As) (fun U => U.heap.size = H.size ∧ va_P D zcl [(h0, e0)] U.heap ∧ va_K D zcl (zty ca) U ∧ iNe U ∧ va_D (fun _ => True) [(h0, e0)])) (.ref h0 :: As) := ⟨fun a U g mk q => by obtain ⟨q0, q1, qP, qK, qN, qD⟩ := q; exact ⟨q0, q1, qP, va_K.moved (u := U) (U := U.calling g mk a) (Vm.Alike.refl U.vm) qK, iNe_warm (s := U) (U := U.calling g mk a) (State.WarmedH.refl U) qN, qD⟩, fun U hU hW => ⟨rfl, by rw [hU], by rw [hU]; exact hPc, va_K.moved hW.alike hK, iNe_warm hW hNe, hDc.weaken (fun _ _ _ _ => trivial)⟩⟩
  have hrun : va_Run p l e R s m args below meth c H locs cells slots mc ms (F0 m pc ls (As.reverse ++ .ref h0 :: rest)) rest (va_Qv (fun _ : List Nat => True) (fun u t => va_P D zcl (Wo u) t.heap ∧ va_D (va_A [(h0, e0)] H.size) (Wo u)) (va_A [(h0, e0)] H.size) (Value.ref h0 :: As).toArray) (va_A [(h0, e0)] H.size) := by
    rcases hlk with hlk | hlk
    · exact va_runI (As := As) (rest := rest) ⟨hx, hb, hml, hown, hts⟩ (hM H.size) ⟨callB_of np hts (zws_gt hcode rfl) rfl rfl rfl (hts _ hini) (hts _ hlk) hd hroom, hnm, hts _ hinst⟩ hp rfl hn hl rfl hW hdg hcs
    · exact va_runIN (As := As) (rest := rest) ⟨hx, hb, hml, hown, hts⟩ (hM H.size) ⟨va_cnB np hts (zws_gt hcode rfl) rfl rfl rfl (hNe.1 _ hlk rfl) (hts _ hini) hd hroom, hnm, hts _ hinst⟩ hp rfl hn hl rfl hW hdg hcs
  refine va_callv hrun hS (fun q _ h => hFc q h) hFc (fun u t H1 locs1 ht hvm hw hB hz1 hk1 hS1 => ?_)
  obtain ⟨hP1, hD1⟩ := hB
  rw [ht] at hP1
  obtain ⟨hP2, hD2⟩ := va_join (wr := wr) (w1 := Wo u) hP hD [k] isR hCm hR hnd hdis hk1 hFc hP1 hD1
  exact kk u H1 locs1 hP2 hD2 hS1
end
section
theorem dI2_0 : decode cX2_init 0 = .ok (.aload_n 0, 1) := by decide +kernel
theorem dI2_1 : decode cX2_init 1 = .ok (.invokespecial 3, 3) := by decide +kernel
theorem dI2_4 : decode cX2_init 4 = .ok (.aload_n 0, 1) := by decide +kernel
theorem dI2_5 : decode cX2_init 5 = .ok (.bipush 96, 2) := by decide +kernel
theorem dI2_7 : decode cX2_init 7 = .ok (.newarray .int, 2) := by decide +kernel
theorem dI2_9 : decode cX2_init 9 = .ok (.putfield 9, 3) := by decide +kernel
theorem dI2_12 : decode cX2_init 12 = .ok (.aload_n 0, 1) := by decide +kernel
theorem dI2_13 : decode cX2_init 13 = .ok (.iconst 0, 1) := by decide +kernel
theorem dI2_14 : decode cX2_init 14 = .ok (.putfield 15, 3) := by decide +kernel
theorem dI2_17 : decode cX2_init 17 = .ok (.aload_n 0, 1) := by decide +kernel
theorem dI2_18 : decode cX2_init 18 = .ok (.iconst 0, 1) := by decide +kernel
theorem dI2_19 : decode cX2_init 19 = .ok (.putfield 19, 3) := by decide +kernel
theorem dI2_22 : decode cX2_init 22 = .ok (.aload_n 0, 1) := by decide +kernel
theorem dI2_23 : decode cX2_init 23 = .ok (.iconst 0, 1) := by decide +kernel
theorem dI2_24 : decode cX2_init 24 = .ok (.putfield 22, 3) := by decide +kernel
theorem dI2_27 : decode cX2_init 27 = .ok (.aload_n 0, 1) := by decide +kernel
theorem dI2_28 : decode cX2_init 28 = .ok (.iconst (-1), 1) := by decide +kernel
theorem dI2_29 : decode cX2_init 29 = .ok (.putfield 25, 3) := by decide +kernel
theorem dI2_32 : decode cX2_init 32 = .ok (.aload_n 0, 1) := by decide +kernel
theorem dI2_33 : decode cX2_init 33 = .ok (.iconst 0, 1) := by decide +kernel
theorem dI2_34 : decode cX2_init 34 = .ok (.putfield 28, 3) := by decide +kernel
theorem dI2_37 : decode cX2_init 37 = .ok (.aload_n 0, 1) := by decide +kernel
theorem dI2_38 : decode cX2_init 38 = .ok (.iconst (-1), 1) := by decide +kernel
theorem dI2_39 : decode cX2_init 39 = .ok (.putfield 32, 3) := by decide +kernel
theorem dI2_42 : decode cX2_init 42 = .ok (.aload_n 0, 1) := by decide +kernel
theorem dI2_43 : decode cX2_init 43 = .ok (.iconst 0, 1) := by decide +kernel
theorem dI2_44 : decode cX2_init 44 = .ok (.putfield 35, 3) := by decide +kernel
theorem dI2_47 : decode cX2_init 47 = .ok (.aload_n 0, 1) := by decide +kernel
theorem dI2_48 : decode cX2_init 48 = .ok (.bipush 96, 2) := by decide +kernel
theorem dI2_50 : decode cX2_init 50 = .ok (.newarray .int, 2) := by decide +kernel
theorem dI2_52 : decode cX2_init 52 = .ok (.putfield 38, 3) := by decide +kernel
theorem dI2_55 : decode cX2_init 55 = .ok (.aload_n 0, 1) := by decide +kernel
theorem dI2_56 : decode cX2_init 56 = .ok (.iconst 0, 1) := by decide +kernel
theorem dI2_57 : decode cX2_init 57 = .ok (.putfield 41, 3) := by decide +kernel
theorem dI2_60 : decode cX2_init 60 = .ok (.aload_n 0, 1) := by decide +kernel
theorem dI2_61 : decode cX2_init 61 = .ok (.iconst 0, 1) := by decide +kernel
theorem dI2_62 : decode cX2_init 62 = .ok (.putfield 44, 3) := by decide +kernel
theorem dI2_65 : decode cX2_init 65 = .ok (.return_, 1) := by decide +kernel
set_option maxHeartbeats 8000000 in
set_option maxRecDepth 100000 in
theorem i_2 (l : Launch) (D : va_G) (ca : Nat → ClassId) (h0 : Nat) (sz : Nat) : iMet l D ca yX2_init cX2_init 1 1 2 192 h0 (.inr (2, [.null, .int 0, .int 0, .int 0, .int 0, .int 0, .int 0, .int 0, .null, .int 0, .int 0])) [] sz (fun u => [(h0, .inr (2, [.ref (u.getD 0 0), .int 0, .int 0, .int 0, .int (-1), .int 0, .int (-1), .int 0, .ref (u.getD 1 0), .int 0, .int 0])), ((u.getD 0 0), .inl (ca 0, 96, .inl (fun _ => 0))), ((u.getD 1 0), .inl (ca 0, 96, .inl (fun _ => 0)))]) := by
  unfold iMet
  refine Met.ofW (cc := cX2_init) (maxL := 1) (ret := none) (by decide) rfl ?_
  intro p e s m args below meth c s₁ B hml hv
  obtain ⟨rfl, hsz, hP, hK, hNe, hD0⟩ := hv
  have hx := B.exec
  have hb := B.bytes
  have hr := B.returns
  have hts0 := atoms_spec (ws := zwJ yX2_init cX2_init 1 none) B.pre
  have hts : ∀ w ∈ zgt, w.before _ s = true := fun w hw => hts0 w (List.mem_cons_of_mem _ hw)
  have hown : s.vm.findClass RX2 = some m.cls := findClass_of_methodNamed B.named
  have hlocks := B.notSynchronized
  have hin : meth.name = "<init>" := (name_of_methodNamed B.named B.method).1
  subst hsz
  have hD := hD0.self (sz := s.heap.size)
  generalize hAe : va_A [(h0, .inr (2, [.null, .int 0, .int 0, .int 0, .int 0, .int 0, .int 0, .int 0, .null, .int 0, .int 0]))] s.heap.size = A at hD ⊢
  have hA : ∀ q : Nat, s.heap.size ≤ q → A q := fun q h => by rw [← hAe]; exact Or.inr h
  have hS : va_S A s.heap s.heap [] := va_S.rf
  have hl := lv_entry ([.ref h0]) (n := 1) (Nat.le_of_ble_eq_true rfl)
  rw [lg_entry_eq]
  generalize (lg_sl ([.ref h0]) ++ List.replicate (1 - (lg_sl ([.ref h0])).length) Slot.unset).toArray = ls at hl ⊢
  have hl : lv_has ls 1 [(0, .ref h0)] := hl
  refine lv_aload_n hx hb dI2_0 rfl (lv_at hl 0 rfl) ?_
  refine W.objInit hx hb hown (hts _ (zG_gt (u := 1029) (by decide +kernel))) (hts _ (zG_gt (u := 1022) (by decide +kernel))) (hts _ (zG_gt (u := 1023) (by decide +kernel))) rfl (by rw [hml]; exact hl.1) rfl dI2_1 (Nat.le_of_ble_eq_true rfl) (Nat.le_of_ble_eq_true rfl) ?_
  refine W.eq (g2 := F0 m 4 ls []) rfl ?_
  refine lv_aload_n hx hb dI2_4 rfl (lv_at hl 0 rfl) ?_
  refine lv_bipush (v := 96) hx hb dI2_5 (by decide) ?_
  refine in_newa (N := 96) hx hb (hts _ (zG_gt (u := 1070) (by decide +kernel))) hK hP hD hS hA (by decide) (by decide) (by decide) (Nat.le_of_ble_eq_true rfl) (Nat.le_of_ble_eq_true rfl) dI2_7 (fun q1 H hP hD hS => ?_)
  have hP : va_P D zcl [(h0, .inr (2, [.null, .int 0, .int 0, .int 0, .int 0, .int 0, .int 0, .int 0, .null, .int 0, .int 0])), (q1, .inl (ca 0, 96, .inl (fun _ => 0)))] H := hP
  have hD : va_D A [(h0, .inr (2, [.null, .int 0, .int 0, .int 0, .int 0, .int 0, .int 0, .int 0, .null, .int 0, .int 0])), (q1, .inl (ca 0, 96, .inl (fun _ => 0)))] := hD
  refine W.widen (k := 1) (n := 96) (Nat.le_refl _) (Nat.le_refl _) ?_
  refine va_putF (D := D) (ci := 2) (v := .ref q1) (ty := .array .int) (C := RX2) (T := TX2) (N := 11) hx hb hts zu2 tyX2 tyX2_ok nmX2 hown hK hP hD hS 0 rfl rfl 0 (by decide) (hts _ (zG_gt (u := 1030) (by decide +kernel))) (fun _ h9 => h9) rfl hin rfl (by decide +kernel) rfl rfl (Nat.le_of_ble_eq_true rfl) dI2_9 (fun H locs hP hD hS => ?_)
  have hP : va_P D zcl [(h0, .inr (2, [.ref q1, .int 0, .int 0, .int 0, .int 0, .int 0, .int 0, .int 0, .null, .int 0, .int 0])), (q1, .inl (ca 0, 96, .inl (fun _ => 0)))] H := hP
  have hD : va_D A [(h0, .inr (2, [.ref q1, .int 0, .int 0, .int 0, .int 0, .int 0, .int 0, .int 0, .null, .int 0, .int 0])), (q1, .inl (ca 0, 96, .inl (fun _ => 0)))] := hD
  refine lv_aload_n hx hb dI2_12 rfl (lv_at hl 0 rfl) ?_
  refine lv_iconst (v := 0) hx hb dI2_13 (by decide) ?_
  refine va_put (D := D) (ci := 2) (v := .int 0) (ty := .int) (C := RX2) (T := TX2) (N := 11) hx hb hts zu2 tyX2 tyX2_ok nmX2 hown hK hP hD hS 0 rfl rfl 1 (by decide) (hts _ (zG_gt (u := 1031) (by decide +kernel))) (fun _ h9 => h9) rfl (by decide +kernel) rfl rfl (Nat.le_of_ble_eq_true rfl) dI2_14 (fun H locs hP hD hS => ?_)
  have hP : va_P D zcl [(h0, .inr (2, [.ref q1, .int 0, .int 0, .int 0, .int 0, .int 0, .int 0, .int 0, .null, .int 0, .int 0])), (q1, .inl (ca 0, 96, .inl (fun _ => 0)))] H := hP
  have hD : va_D A [(h0, .inr (2, [.ref q1, .int 0, .int 0, .int 0, .int 0, .int 0, .int 0, .int 0, .null, .int 0, .int 0])), (q1, .inl (ca 0, 96, .inl (fun _ => 0)))] := hD
  refine lv_aload_n hx hb dI2_17 rfl (lv_at hl 0 rfl) ?_
  refine lv_iconst (v := 0) hx hb dI2_18 (by decide) ?_
  refine va_put (D := D) (ci := 2) (v := .int 0) (ty := .int) (C := RX2) (T := TX2) (N := 11) hx hb hts zu2 tyX2 tyX2_ok nmX2 hown hK hP hD hS 0 rfl rfl 2 (by decide) (hts _ (zG_gt (u := 1033) (by decide +kernel))) (fun _ h9 => h9) rfl (by decide +kernel) rfl rfl (Nat.le_of_ble_eq_true rfl) dI2_19 (fun H locs hP hD hS => ?_)
  have hP : va_P D zcl [(h0, .inr (2, [.ref q1, .int 0, .int 0, .int 0, .int 0, .int 0, .int 0, .int 0, .null, .int 0, .int 0])), (q1, .inl (ca 0, 96, .inl (fun _ => 0)))] H := hP
  have hD : va_D A [(h0, .inr (2, [.ref q1, .int 0, .int 0, .int 0, .int 0, .int 0, .int 0, .int 0, .null, .int 0, .int 0])), (q1, .inl (ca 0, 96, .inl (fun _ => 0)))] := hD
  refine lv_aload_n hx hb dI2_22 rfl (lv_at hl 0 rfl) ?_
  refine lv_iconst (v := 0) hx hb dI2_23 (by decide) ?_
  refine va_put (D := D) (ci := 2) (v := .int 0) (ty := .int) (C := RX2) (T := TX2) (N := 11) hx hb hts zu2 tyX2 tyX2_ok nmX2 hown hK hP hD hS 0 rfl rfl 3 (by decide) (hts _ (zG_gt (u := 1034) (by decide +kernel))) (fun _ h9 => h9) rfl (by decide +kernel) rfl rfl (Nat.le_of_ble_eq_true rfl) dI2_24 (fun H locs hP hD hS => ?_)
  have hP : va_P D zcl [(h0, .inr (2, [.ref q1, .int 0, .int 0, .int 0, .int 0, .int 0, .int 0, .int 0, .null, .int 0, .int 0])), (q1, .inl (ca 0, 96, .inl (fun _ => 0)))] H := hP
  have hD : va_D A [(h0, .inr (2, [.ref q1, .int 0, .int 0, .int 0, .int 0, .int 0, .int 0, .int 0, .null, .int 0, .int 0])), (q1, .inl (ca 0, 96, .inl (fun _ => 0)))] := hD
  refine lv_aload_n hx hb dI2_27 rfl (lv_at hl 0 rfl) ?_
  refine lv_iconst (v := (-1)) hx hb dI2_28 (by decide) ?_
  refine va_put (D := D) (ci := 2) (v := .int (-1)) (ty := .int) (C := RX2) (T := TX2) (N := 11) hx hb hts zu2 tyX2 tyX2_ok nmX2 hown hK hP hD hS 0 rfl rfl 4 (by decide) (hts _ (zG_gt (u := 1035) (by decide +kernel))) (fun _ h9 => h9) rfl (by decide +kernel) rfl rfl (Nat.le_of_ble_eq_true rfl) dI2_29 (fun H locs hP hD hS => ?_)
  have hP : va_P D zcl [(h0, .inr (2, [.ref q1, .int 0, .int 0, .int 0, .int (-1), .int 0, .int 0, .int 0, .null, .int 0, .int 0])), (q1, .inl (ca 0, 96, .inl (fun _ => 0)))] H := hP
  have hD : va_D A [(h0, .inr (2, [.ref q1, .int 0, .int 0, .int 0, .int (-1), .int 0, .int 0, .int 0, .null, .int 0, .int 0])), (q1, .inl (ca 0, 96, .inl (fun _ => 0)))] := hD
  refine lv_aload_n hx hb dI2_32 rfl (lv_at hl 0 rfl) ?_
  refine lv_iconst (v := 0) hx hb dI2_33 (by decide) ?_
  refine va_put (D := D) (ci := 2) (v := .int 0) (ty := .boolean) (C := RX2) (T := TX2) (N := 11) hx hb hts zu2 tyX2 tyX2_ok nmX2 hown hK hP hD hS 0 rfl rfl 5 (by decide) (hts _ (zG_gt (u := 1036) (by decide +kernel))) (fun _ h9 => h9) rfl (by decide +kernel) rfl rfl (Nat.le_of_ble_eq_true rfl) dI2_34 (fun H locs hP hD hS => ?_)
  have hP : va_P D zcl [(h0, .inr (2, [.ref q1, .int 0, .int 0, .int 0, .int (-1), .int 0, .int 0, .int 0, .null, .int 0, .int 0])), (q1, .inl (ca 0, 96, .inl (fun _ => 0)))] H := hP
  have hD : va_D A [(h0, .inr (2, [.ref q1, .int 0, .int 0, .int 0, .int (-1), .int 0, .int 0, .int 0, .null, .int 0, .int 0])), (q1, .inl (ca 0, 96, .inl (fun _ => 0)))] := hD
  refine lv_aload_n hx hb dI2_37 rfl (lv_at hl 0 rfl) ?_
  refine lv_iconst (v := (-1)) hx hb dI2_38 (by decide) ?_
  refine va_put (D := D) (ci := 2) (v := .int (-1)) (ty := .int) (C := RX2) (T := TX2) (N := 11) hx hb hts zu2 tyX2 tyX2_ok nmX2 hown hK hP hD hS 0 rfl rfl 6 (by decide) (hts _ (zG_gt (u := 1037) (by decide +kernel))) (fun _ h9 => h9) rfl (by decide +kernel) rfl rfl (Nat.le_of_ble_eq_true rfl) dI2_39 (fun H locs hP hD hS => ?_)
  have hP : va_P D zcl [(h0, .inr (2, [.ref q1, .int 0, .int 0, .int 0, .int (-1), .int 0, .int (-1), .int 0, .null, .int 0, .int 0])), (q1, .inl (ca 0, 96, .inl (fun _ => 0)))] H := hP
  have hD : va_D A [(h0, .inr (2, [.ref q1, .int 0, .int 0, .int 0, .int (-1), .int 0, .int (-1), .int 0, .null, .int 0, .int 0])), (q1, .inl (ca 0, 96, .inl (fun _ => 0)))] := hD
  refine lv_aload_n hx hb dI2_42 rfl (lv_at hl 0 rfl) ?_
  refine lv_iconst (v := 0) hx hb dI2_43 (by decide) ?_
  refine va_put (D := D) (ci := 2) (v := .int 0) (ty := .int) (C := RX2) (T := TX2) (N := 11) hx hb hts zu2 tyX2 tyX2_ok nmX2 hown hK hP hD hS 0 rfl rfl 7 (by decide) (hts _ (zG_gt (u := 1038) (by decide +kernel))) (fun _ h9 => h9) rfl (by decide +kernel) rfl rfl (Nat.le_of_ble_eq_true rfl) dI2_44 (fun H locs hP hD hS => ?_)
  have hP : va_P D zcl [(h0, .inr (2, [.ref q1, .int 0, .int 0, .int 0, .int (-1), .int 0, .int (-1), .int 0, .null, .int 0, .int 0])), (q1, .inl (ca 0, 96, .inl (fun _ => 0)))] H := hP
  have hD : va_D A [(h0, .inr (2, [.ref q1, .int 0, .int 0, .int 0, .int (-1), .int 0, .int (-1), .int 0, .null, .int 0, .int 0])), (q1, .inl (ca 0, 96, .inl (fun _ => 0)))] := hD
  refine lv_aload_n hx hb dI2_47 rfl (lv_at hl 0 rfl) ?_
  refine lv_bipush (v := 96) hx hb dI2_48 (by decide) ?_
  refine in_newa (N := 96) hx hb (hts _ (zG_gt (u := 1070) (by decide +kernel))) hK hP hD hS hA (by decide) (by decide) (by decide) (Nat.le_of_ble_eq_true rfl) (Nat.le_of_ble_eq_true rfl) dI2_50 (fun q2 H hP hD hS => ?_)
  have hP : va_P D zcl [(h0, .inr (2, [.ref q1, .int 0, .int 0, .int 0, .int (-1), .int 0, .int (-1), .int 0, .null, .int 0, .int 0])), (q1, .inl (ca 0, 96, .inl (fun _ => 0))), (q2, .inl (ca 0, 96, .inl (fun _ => 0)))] H := hP
  have hD : va_D A [(h0, .inr (2, [.ref q1, .int 0, .int 0, .int 0, .int (-1), .int 0, .int (-1), .int 0, .null, .int 0, .int 0])), (q1, .inl (ca 0, 96, .inl (fun _ => 0))), (q2, .inl (ca 0, 96, .inl (fun _ => 0)))] := hD
  refine W.widen (k := 2) (n := 192) (Nat.le_refl _) (Nat.le_refl _) ?_
  refine va_putF (D := D) (ci := 2) (v := .ref q2) (ty := .array .int) (C := RX2) (T := TX2) (N := 11) hx hb hts zu2 tyX2 tyX2_ok nmX2 hown hK hP hD hS 0 rfl rfl 8 (by decide) (hts _ (zG_gt (u := 1041) (by decide +kernel))) (fun _ h9 => h9) rfl hin rfl (by decide +kernel) rfl rfl (Nat.le_of_ble_eq_true rfl) dI2_52 (fun H locs hP hD hS => ?_)
  have hP : va_P D zcl [(h0, .inr (2, [.ref q1, .int 0, .int 0, .int 0, .int (-1), .int 0, .int (-1), .int 0, .ref q2, .int 0, .int 0])), (q1, .inl (ca 0, 96, .inl (fun _ => 0))), (q2, .inl (ca 0, 96, .inl (fun _ => 0)))] H := hP
  have hD : va_D A [(h0, .inr (2, [.ref q1, .int 0, .int 0, .int 0, .int (-1), .int 0, .int (-1), .int 0, .ref q2, .int 0, .int 0])), (q1, .inl (ca 0, 96, .inl (fun _ => 0))), (q2, .inl (ca 0, 96, .inl (fun _ => 0)))] := hD
  refine lv_aload_n hx hb dI2_55 rfl (lv_at hl 0 rfl) ?_
  refine lv_iconst (v := 0) hx hb dI2_56 (by decide) ?_
  refine va_put (D := D) (ci := 2) (v := .int 0) (ty := .int) (C := RX2) (T := TX2) (N := 11) hx hb hts zu2 tyX2 tyX2_ok nmX2 hown hK hP hD hS 0 rfl rfl 9 (by decide) (hts _ (zG_gt (u := 1043) (by decide +kernel))) (fun _ h9 => h9) rfl (by decide +kernel) rfl rfl (Nat.le_of_ble_eq_true rfl) dI2_57 (fun H locs hP hD hS => ?_)
  have hP : va_P D zcl [(h0, .inr (2, [.ref q1, .int 0, .int 0, .int 0, .int (-1), .int 0, .int (-1), .int 0, .ref q2, .int 0, .int 0])), (q1, .inl (ca 0, 96, .inl (fun _ => 0))), (q2, .inl (ca 0, 96, .inl (fun _ => 0)))] H := hP
  have hD : va_D A [(h0, .inr (2, [.ref q1, .int 0, .int 0, .int 0, .int (-1), .int 0, .int (-1), .int 0, .ref q2, .int 0, .int 0])), (q1, .inl (ca 0, 96, .inl (fun _ => 0))), (q2, .inl (ca 0, 96, .inl (fun _ => 0)))] := hD
  refine lv_aload_n hx hb dI2_60 rfl (lv_at hl 0 rfl) ?_
  refine lv_iconst (v := 0) hx hb dI2_61 (by decide) ?_
  refine va_put (D := D) (ci := 2) (v := .int 0) (ty := .int) (C := RX2) (T := TX2) (N := 11) hx hb hts zu2 tyX2 tyX2_ok nmX2 hown hK hP hD hS 0 rfl rfl 10 (by decide) (hts _ (zG_gt (u := 1045) (by decide +kernel))) (fun _ h9 => h9) rfl (by decide +kernel) rfl rfl (Nat.le_of_ble_eq_true rfl) dI2_62 (fun H locs hP hD hS => ?_)
  have hP : va_P D zcl [(h0, .inr (2, [.ref q1, .int 0, .int 0, .int 0, .int (-1), .int 0, .int (-1), .int 0, .ref q2, .int 0, .int 0])), (q1, .inl (ca 0, 96, .inl (fun _ => 0))), (q2, .inl (ca 0, 96, .inl (fun _ => 0)))] H := hP
  have hD : va_D A [(h0, .inr (2, [.ref q1, .int 0, .int 0, .int 0, .int (-1), .int 0, .int (-1), .int 0, .ref q2, .int 0, .int 0])), (q1, .inl (ca 0, 96, .inl (fun _ => 0))), (q2, .inl (ca 0, 96, .inl (fun _ => 0)))] := hD
  exact W.vret hx hb hr (fun t ht hW => ⟨⟨[q1, q2], rfl, trivial, by rw [ht]; exact hP, hD⟩, hS.F ht⟩) hS.2.2 dI2_65
theorem dI1_0 : decode cX1_init 0 = .ok (.aload_n 0, 1) := by decide +kernel
theorem dI1_1 : decode cX1_init 1 = .ok (.invokespecial 3, 3) := by decide +kernel
theorem dI1_4 : decode cX1_init 4 = .ok (.aload_n 0, 1) := by decide +kernel
theorem dI1_5 : decode cX1_init 5 = .ok (.bipush 14, 2) := by decide +kernel
theorem dI1_7 : decode cX1_init 7 = .ok (.newarray .int, 2) := by decide +kernel
theorem dI1_9 : decode cX1_init 9 = .ok (.putfield 9, 3) := by decide +kernel
theorem dI1_12 : decode cX1_init 12 = .ok (.aload_n 0, 1) := by decide +kernel
theorem dI1_13 : decode cX1_init 13 = .ok (.bipush 14, 2) := by decide +kernel
theorem dI1_15 : decode cX1_init 15 = .ok (.newarray .int, 2) := by decide +kernel
theorem dI1_17 : decode cX1_init 17 = .ok (.putfield 15, 3) := by decide +kernel
theorem dI1_20 : decode cX1_init 20 = .ok (.aload_n 0, 1) := by decide +kernel
theorem dI1_21 : decode cX1_init 21 = .ok (.bipush 14, 2) := by decide +kernel
theorem dI1_23 : decode cX1_init 23 = .ok (.newarray .int, 2) := by decide +kernel
theorem dI1_25 : decode cX1_init 25 = .ok (.putfield 18, 3) := by decide +kernel
theorem dI1_28 : decode cX1_init 28 = .ok (.aload_n 0, 1) := by decide +kernel
theorem dI1_29 : decode cX1_init 29 = .ok (.sipush 1344, 3) := by decide +kernel
theorem dI1_32 : decode cX1_init 32 = .ok (.newarray .int, 2) := by decide +kernel
theorem dI1_34 : decode cX1_init 34 = .ok (.putfield 21, 3) := by decide +kernel
theorem dI1_37 : decode cX1_init 37 = .ok (.aload_n 0, 1) := by decide +kernel
theorem dI1_38 : decode cX1_init 38 = .ok (.bipush 96, 2) := by decide +kernel
theorem dI1_40 : decode cX1_init 40 = .ok (.newarray .int, 2) := by decide +kernel
theorem dI1_42 : decode cX1_init 42 = .ok (.putfield 24, 3) := by decide +kernel
theorem dI1_45 : decode cX1_init 45 = .ok (.return_, 1) := by decide +kernel
set_option maxHeartbeats 8000000 in
set_option maxRecDepth 100000 in
theorem i_1 (l : Launch) (D : va_G) (ca : Nat → ClassId) (h0 : Nat) (sz : Nat) : iMet l D ca yX1_init cX1_init 1 1 5 1482 h0 (.inr (1, [.null, .null, .null, .null, .null])) [] sz (fun u => [(h0, .inr (1, [.ref (u.getD 0 0), .ref (u.getD 1 0), .ref (u.getD 2 0), .ref (u.getD 3 0), .ref (u.getD 4 0)])), ((u.getD 0 0), .inl (ca 0, 14, .inl (fun _ => 0))), ((u.getD 1 0), .inl (ca 0, 14, .inl (fun _ => 0))), ((u.getD 2 0), .inl (ca 0, 14, .inl (fun _ => 0))), ((u.getD 3 0), .inl (ca 0, 1344, .inl (fun _ => 0))), ((u.getD 4 0), .inl (ca 0, 96, .inl (fun _ => 0)))]) := by
  unfold iMet
  refine Met.ofW (cc := cX1_init) (maxL := 1) (ret := none) (by decide) rfl ?_
  intro p e s m args below meth c s₁ B hml hv
  obtain ⟨rfl, hsz, hP, hK, hNe, hD0⟩ := hv
  have hx := B.exec
  have hb := B.bytes
  have hr := B.returns
  have hts0 := atoms_spec (ws := zwJ yX1_init cX1_init 1 none) B.pre
  have hts : ∀ w ∈ zgt, w.before _ s = true := fun w hw => hts0 w (List.mem_cons_of_mem _ hw)
  have hown : s.vm.findClass RX1 = some m.cls := findClass_of_methodNamed B.named
  have hlocks := B.notSynchronized
  have hin : meth.name = "<init>" := (name_of_methodNamed B.named B.method).1
  subst hsz
  have hD := hD0.self (sz := s.heap.size)
  generalize hAe : va_A [(h0, .inr (1, [.null, .null, .null, .null, .null]))] s.heap.size = A at hD ⊢
  have hA : ∀ q : Nat, s.heap.size ≤ q → A q := fun q h => by rw [← hAe]; exact Or.inr h
  have hS : va_S A s.heap s.heap [] := va_S.rf
  have hl := lv_entry ([.ref h0]) (n := 1) (Nat.le_of_ble_eq_true rfl)
  rw [lg_entry_eq]
  generalize (lg_sl ([.ref h0]) ++ List.replicate (1 - (lg_sl ([.ref h0])).length) Slot.unset).toArray = ls at hl ⊢
  have hl : lv_has ls 1 [(0, .ref h0)] := hl
  refine lv_aload_n hx hb dI1_0 rfl (lv_at hl 0 rfl) ?_
  refine W.objInit hx hb hown (hts _ (zG_gt (u := 1080) (by decide +kernel))) (hts _ (zG_gt (u := 1022) (by decide +kernel))) (hts _ (zG_gt (u := 1023) (by decide +kernel))) rfl (by rw [hml]; exact hl.1) rfl dI1_1 (Nat.le_of_ble_eq_true rfl) (Nat.le_of_ble_eq_true rfl) ?_
  refine W.eq (g2 := F0 m 4 ls []) rfl ?_
  refine lv_aload_n hx hb dI1_4 rfl (lv_at hl 0 rfl) ?_
  refine lv_bipush (v := 14) hx hb dI1_5 (by decide) ?_
  refine in_newa (N := 14) hx hb (hts _ (zG_gt (u := 1070) (by decide +kernel))) hK hP hD hS hA (by decide) (by decide) (by decide) (Nat.le_of_ble_eq_true rfl) (Nat.le_of_ble_eq_true rfl) dI1_7 (fun q1 H hP hD hS => ?_)
  have hP : va_P D zcl [(h0, .inr (1, [.null, .null, .null, .null, .null])), (q1, .inl (ca 0, 14, .inl (fun _ => 0)))] H := hP
  have hD : va_D A [(h0, .inr (1, [.null, .null, .null, .null, .null])), (q1, .inl (ca 0, 14, .inl (fun _ => 0)))] := hD
  refine W.widen (k := 1) (n := 14) (Nat.le_refl _) (Nat.le_refl _) ?_
  refine va_putF (D := D) (ci := 1) (v := .ref q1) (ty := .array .int) (C := RX1) (T := TX1) (N := 5) hx hb hts zu1 tyX1 tyX1_ok nmX1 hown hK hP hD hS 0 rfl rfl 0 (by decide) (hts _ (zG_gt (u := 1081) (by decide +kernel))) (fun _ h9 => h9) rfl hin rfl (by decide +kernel) rfl rfl (Nat.le_of_ble_eq_true rfl) dI1_9 (fun H locs hP hD hS => ?_)
  have hP : va_P D zcl [(h0, .inr (1, [.ref q1, .null, .null, .null, .null])), (q1, .inl (ca 0, 14, .inl (fun _ => 0)))] H := hP
  have hD : va_D A [(h0, .inr (1, [.ref q1, .null, .null, .null, .null])), (q1, .inl (ca 0, 14, .inl (fun _ => 0)))] := hD
  refine lv_aload_n hx hb dI1_12 rfl (lv_at hl 0 rfl) ?_
  refine lv_bipush (v := 14) hx hb dI1_13 (by decide) ?_
  refine in_newa (N := 14) hx hb (hts _ (zG_gt (u := 1070) (by decide +kernel))) hK hP hD hS hA (by decide) (by decide) (by decide) (Nat.le_of_ble_eq_true rfl) (Nat.le_of_ble_eq_true rfl) dI1_15 (fun q2 H hP hD hS => ?_)
  have hP : va_P D zcl [(h0, .inr (1, [.ref q1, .null, .null, .null, .null])), (q1, .inl (ca 0, 14, .inl (fun _ => 0))), (q2, .inl (ca 0, 14, .inl (fun _ => 0)))] H := hP
  have hD : va_D A [(h0, .inr (1, [.ref q1, .null, .null, .null, .null])), (q1, .inl (ca 0, 14, .inl (fun _ => 0))), (q2, .inl (ca 0, 14, .inl (fun _ => 0)))] := hD
  refine W.widen (k := 2) (n := 28) (Nat.le_refl _) (Nat.le_refl _) ?_
  refine va_putF (D := D) (ci := 1) (v := .ref q2) (ty := .array .int) (C := RX1) (T := TX1) (N := 5) hx hb hts zu1 tyX1 tyX1_ok nmX1 hown hK hP hD hS 0 rfl rfl 1 (by decide) (hts _ (zG_gt (u := 1083) (by decide +kernel))) (fun _ h9 => h9) rfl hin rfl (by decide +kernel) rfl rfl (Nat.le_of_ble_eq_true rfl) dI1_17 (fun H locs hP hD hS => ?_)
  have hP : va_P D zcl [(h0, .inr (1, [.ref q1, .ref q2, .null, .null, .null])), (q1, .inl (ca 0, 14, .inl (fun _ => 0))), (q2, .inl (ca 0, 14, .inl (fun _ => 0)))] H := hP
  have hD : va_D A [(h0, .inr (1, [.ref q1, .ref q2, .null, .null, .null])), (q1, .inl (ca 0, 14, .inl (fun _ => 0))), (q2, .inl (ca 0, 14, .inl (fun _ => 0)))] := hD
  refine lv_aload_n hx hb dI1_20 rfl (lv_at hl 0 rfl) ?_
  refine lv_bipush (v := 14) hx hb dI1_21 (by decide) ?_
  refine in_newa (N := 14) hx hb (hts _ (zG_gt (u := 1070) (by decide +kernel))) hK hP hD hS hA (by decide) (by decide) (by decide) (Nat.le_of_ble_eq_true rfl) (Nat.le_of_ble_eq_true rfl) dI1_23 (fun q3 H hP hD hS => ?_)
  have hP : va_P D zcl [(h0, .inr (1, [.ref q1, .ref q2, .null, .null, .null])), (q1, .inl (ca 0, 14, .inl (fun _ => 0))), (q2, .inl (ca 0, 14, .inl (fun _ => 0))), (q3, .inl (ca 0, 14, .inl (fun _ => 0)))] H := hP
  have hD : va_D A [(h0, .inr (1, [.ref q1, .ref q2, .null, .null, .null])), (q1, .inl (ca 0, 14, .inl (fun _ => 0))), (q2, .inl (ca 0, 14, .inl (fun _ => 0))), (q3, .inl (ca 0, 14, .inl (fun _ => 0)))] := hD
  refine W.widen (k := 3) (n := 42) (Nat.le_refl _) (Nat.le_refl _) ?_
  refine va_putF (D := D) (ci := 1) (v := .ref q3) (ty := .array .int) (C := RX1) (T := TX1) (N := 5) hx hb hts zu1 tyX1 tyX1_ok nmX1 hown hK hP hD hS 0 rfl rfl 2 (by decide) (hts _ (zG_gt (u := 1085) (by decide +kernel))) (fun _ h9 => h9) rfl hin rfl (by decide +kernel) rfl rfl (Nat.le_of_ble_eq_true rfl) dI1_25 (fun H locs hP hD hS => ?_)
  have hP : va_P D zcl [(h0, .inr (1, [.ref q1, .ref q2, .ref q3, .null, .null])), (q1, .inl (ca 0, 14, .inl (fun _ => 0))), (q2, .inl (ca 0, 14, .inl (fun _ => 0))), (q3, .inl (ca 0, 14, .inl (fun _ => 0)))] H := hP
  have hD : va_D A [(h0, .inr (1, [.ref q1, .ref q2, .ref q3, .null, .null])), (q1, .inl (ca 0, 14, .inl (fun _ => 0))), (q2, .inl (ca 0, 14, .inl (fun _ => 0))), (q3, .inl (ca 0, 14, .inl (fun _ => 0)))] := hD
  refine lv_aload_n hx hb dI1_28 rfl (lv_at hl 0 rfl) ?_
  refine lv_sipush (v := 1344) hx hb dI1_29 (by decide) ?_
  refine in_newa (N := 1344) hx hb (hts _ (zG_gt (u := 1070) (by decide +kernel))) hK hP hD hS hA (by decide) (by decide) (by decide) (Nat.le_of_ble_eq_true rfl) (Nat.le_of_ble_eq_true rfl) dI1_32 (fun q4 H hP hD hS => ?_)
  have hP : va_P D zcl [(h0, .inr (1, [.ref q1, .ref q2, .ref q3, .null, .null])), (q1, .inl (ca 0, 14, .inl (fun _ => 0))), (q2, .inl (ca 0, 14, .inl (fun _ => 0))), (q3, .inl (ca 0, 14, .inl (fun _ => 0))), (q4, .inl (ca 0, 1344, .inl (fun _ => 0)))] H := hP
  have hD : va_D A [(h0, .inr (1, [.ref q1, .ref q2, .ref q3, .null, .null])), (q1, .inl (ca 0, 14, .inl (fun _ => 0))), (q2, .inl (ca 0, 14, .inl (fun _ => 0))), (q3, .inl (ca 0, 14, .inl (fun _ => 0))), (q4, .inl (ca 0, 1344, .inl (fun _ => 0)))] := hD
  refine W.widen (k := 4) (n := 1386) (Nat.le_refl _) (Nat.le_refl _) ?_
  refine va_putF (D := D) (ci := 1) (v := .ref q4) (ty := .array .int) (C := RX1) (T := TX1) (N := 5) hx hb hts zu1 tyX1 tyX1_ok nmX1 hown hK hP hD hS 0 rfl rfl 3 (by decide) (hts _ (zG_gt (u := 1086) (by decide +kernel))) (fun _ h9 => h9) rfl hin rfl (by decide +kernel) rfl rfl (Nat.le_of_ble_eq_true rfl) dI1_34 (fun H locs hP hD hS => ?_)
  have hP : va_P D zcl [(h0, .inr (1, [.ref q1, .ref q2, .ref q3, .ref q4, .null])), (q1, .inl (ca 0, 14, .inl (fun _ => 0))), (q2, .inl (ca 0, 14, .inl (fun _ => 0))), (q3, .inl (ca 0, 14, .inl (fun _ => 0))), (q4, .inl (ca 0, 1344, .inl (fun _ => 0)))] H := hP
  have hD : va_D A [(h0, .inr (1, [.ref q1, .ref q2, .ref q3, .ref q4, .null])), (q1, .inl (ca 0, 14, .inl (fun _ => 0))), (q2, .inl (ca 0, 14, .inl (fun _ => 0))), (q3, .inl (ca 0, 14, .inl (fun _ => 0))), (q4, .inl (ca 0, 1344, .inl (fun _ => 0)))] := hD
  refine lv_aload_n hx hb dI1_37 rfl (lv_at hl 0 rfl) ?_
  refine lv_bipush (v := 96) hx hb dI1_38 (by decide) ?_
  refine in_newa (N := 96) hx hb (hts _ (zG_gt (u := 1070) (by decide +kernel))) hK hP hD hS hA (by decide) (by decide) (by decide) (Nat.le_of_ble_eq_true rfl) (Nat.le_of_ble_eq_true rfl) dI1_40 (fun q5 H hP hD hS => ?_)
  have hP : va_P D zcl [(h0, .inr (1, [.ref q1, .ref q2, .ref q3, .ref q4, .null])), (q1, .inl (ca 0, 14, .inl (fun _ => 0))), (q2, .inl (ca 0, 14, .inl (fun _ => 0))), (q3, .inl (ca 0, 14, .inl (fun _ => 0))), (q4, .inl (ca 0, 1344, .inl (fun _ => 0))), (q5, .inl (ca 0, 96, .inl (fun _ => 0)))] H := hP
  have hD : va_D A [(h0, .inr (1, [.ref q1, .ref q2, .ref q3, .ref q4, .null])), (q1, .inl (ca 0, 14, .inl (fun _ => 0))), (q2, .inl (ca 0, 14, .inl (fun _ => 0))), (q3, .inl (ca 0, 14, .inl (fun _ => 0))), (q4, .inl (ca 0, 1344, .inl (fun _ => 0))), (q5, .inl (ca 0, 96, .inl (fun _ => 0)))] := hD
  refine W.widen (k := 5) (n := 1482) (Nat.le_refl _) (Nat.le_refl _) ?_
  refine va_putF (D := D) (ci := 1) (v := .ref q5) (ty := .array .int) (C := RX1) (T := TX1) (N := 5) hx hb hts zu1 tyX1 tyX1_ok nmX1 hown hK hP hD hS 0 rfl rfl 4 (by decide) (hts _ (zG_gt (u := 1087) (by decide +kernel))) (fun _ h9 => h9) rfl hin rfl (by decide +kernel) rfl rfl (Nat.le_of_ble_eq_true rfl) dI1_42 (fun H locs hP hD hS => ?_)
  have hP : va_P D zcl [(h0, .inr (1, [.ref q1, .ref q2, .ref q3, .ref q4, .ref q5])), (q1, .inl (ca 0, 14, .inl (fun _ => 0))), (q2, .inl (ca 0, 14, .inl (fun _ => 0))), (q3, .inl (ca 0, 14, .inl (fun _ => 0))), (q4, .inl (ca 0, 1344, .inl (fun _ => 0))), (q5, .inl (ca 0, 96, .inl (fun _ => 0)))] H := hP
  have hD : va_D A [(h0, .inr (1, [.ref q1, .ref q2, .ref q3, .ref q4, .ref q5])), (q1, .inl (ca 0, 14, .inl (fun _ => 0))), (q2, .inl (ca 0, 14, .inl (fun _ => 0))), (q3, .inl (ca 0, 14, .inl (fun _ => 0))), (q4, .inl (ca 0, 1344, .inl (fun _ => 0))), (q5, .inl (ca 0, 96, .inl (fun _ => 0)))] := hD
  exact W.vret hx hb hr (fun t ht hW => ⟨⟨[q1, q2, q3, q4, q5], rfl, trivial, by rw [ht]; exact hP, hD⟩, hS.F ht⟩) hS.2.2 dI1_45
theorem dI3_0 : decode cX3_init 0 = .ok (.aload_n 0, 1) := by decide +kernel
theorem dI3_1 : decode cX3_init 1 = .ok (.invokespecial 5, 3) := by decide +kernel
theorem dI3_4 : decode cX3_init 4 = .ok (.aload_n 0, 1) := by decide +kernel
theorem dI3_5 : decode cX3_init 5 = .ok (.iconst (-1), 1) := by decide +kernel
theorem dI3_6 : decode cX3_init 6 = .ok (.putfield 13, 3) := by decide +kernel
theorem dI3_9 : decode cX3_init 9 = .ok (.aload_n 0, 1) := by decide +kernel
theorem dI3_10 : decode cX3_init 10 = .ok (.iconst 0, 1) := by decide +kernel
theorem dI3_11 : decode cX3_init 11 = .ok (.putfield 17, 3) := by decide +kernel
theorem dI3_14 : decode cX3_init 14 = .ok (.aload_n 0, 1) := by decide +kernel
theorem dI3_15 : decode cX3_init 15 = .ok (.bipush 24, 2) := by decide +kernel
theorem dI3_17 : decode cX3_init 17 = .ok (.newarray .int, 2) := by decide +kernel
theorem dI3_19 : decode cX3_init 19 = .ok (.putfield 20, 3) := by decide +kernel
theorem dI3_22 : decode cX3_init 22 = .ok (.return_, 1) := by decide +kernel
set_option maxHeartbeats 8000000 in
set_option maxRecDepth 100000 in
theorem i_3 (l : Launch) (D : va_G) (ca : Nat → ClassId) (h0 : Nat) (sz : Nat) : iMet l D ca yX3_init cX3_init 1 1 1 24 h0 (.inr (3, [.int 0, .int 0, .null])) [] sz (fun u => [(h0, .inr (3, [.int (-1), .int 0, .ref (u.getD 0 0)])), ((u.getD 0 0), .inl (ca 0, 24, .inl (fun _ => 0)))]) := by
  unfold iMet
  refine Met.ofW (cc := cX3_init) (maxL := 1) (ret := none) (by decide) rfl ?_
  intro p e s m args below meth c s₁ B hml hv
  obtain ⟨rfl, hsz, hP, hK, hNe, hD0⟩ := hv
  have hx := B.exec
  have hb := B.bytes
  have hr := B.returns
  have hts0 := atoms_spec (ws := zwJ yX3_init cX3_init 1 none) B.pre
  have hts : ∀ w ∈ zgt, w.before _ s = true := fun w hw => hts0 w (List.mem_cons_of_mem _ hw)
  have hown : s.vm.findClass RX3 = some m.cls := findClass_of_methodNamed B.named
  have hlocks := B.notSynchronized
  have hin : meth.name = "<init>" := (name_of_methodNamed B.named B.method).1
  subst hsz
  have hD := hD0.self (sz := s.heap.size)
  generalize hAe : va_A [(h0, .inr (3, [.int 0, .int 0, .null]))] s.heap.size = A at hD ⊢
  have hA : ∀ q : Nat, s.heap.size ≤ q → A q := fun q h => by rw [← hAe]; exact Or.inr h
  have hS : va_S A s.heap s.heap [] := va_S.rf
  have hl := lv_entry ([.ref h0]) (n := 1) (Nat.le_of_ble_eq_true rfl)
  rw [lg_entry_eq]
  generalize (lg_sl ([.ref h0]) ++ List.replicate (1 - (lg_sl ([.ref h0])).length) Slot.unset).toArray = ls at hl ⊢
  have hl : lv_has ls 1 [(0, .ref h0)] := hl
  refine lv_aload_n hx hb dI3_0 rfl (lv_at hl 0 rfl) ?_
  refine W.objInit hx hb hown (hts _ (zG_gt (u := 1169) (by decide +kernel))) (hts _ (zG_gt (u := 1022) (by decide +kernel))) (hts _ (zG_gt (u := 1023) (by decide +kernel))) rfl (by rw [hml]; exact hl.1) rfl dI3_1 (Nat.le_of_ble_eq_true rfl) (Nat.le_of_ble_eq_true rfl) ?_
  refine W.eq (g2 := F0 m 4 ls []) rfl ?_
  refine lv_aload_n hx hb dI3_4 rfl (lv_at hl 0 rfl) ?_
  refine lv_iconst (v := (-1)) hx hb dI3_5 (by decide) ?_
  refine va_put (D := D) (ci := 3) (v := .int (-1)) (ty := .int) (C := RX3) (T := TX3) (N := 3) hx hb hts zu3 tyX3 tyX3_ok nmX3 hown hK hP hD hS 0 rfl rfl 0 (by decide) (hts _ (zG_gt (u := 1170) (by decide +kernel))) (fun _ h9 => h9) rfl (by decide +kernel) rfl rfl (Nat.le_of_ble_eq_true rfl) dI3_6 (fun H locs hP hD hS => ?_)
  have hP : va_P D zcl [(h0, .inr (3, [.int (-1), .int 0, .null]))] H := hP
  have hD : va_D A [(h0, .inr (3, [.int (-1), .int 0, .null]))] := hD
  refine lv_aload_n hx hb dI3_9 rfl (lv_at hl 0 rfl) ?_
  refine lv_iconst (v := 0) hx hb dI3_10 (by decide) ?_
  refine va_put (D := D) (ci := 3) (v := .int 0) (ty := .int) (C := RX3) (T := TX3) (N := 3) hx hb hts zu3 tyX3 tyX3_ok nmX3 hown hK hP hD hS 0 rfl rfl 1 (by decide) (hts _ (zG_gt (u := 1172) (by decide +kernel))) (fun _ h9 => h9) rfl (by decide +kernel) rfl rfl (Nat.le_of_ble_eq_true rfl) dI3_11 (fun H locs hP hD hS => ?_)
  have hP : va_P D zcl [(h0, .inr (3, [.int (-1), .int 0, .null]))] H := hP
  have hD : va_D A [(h0, .inr (3, [.int (-1), .int 0, .null]))] := hD
  refine lv_aload_n hx hb dI3_14 rfl (lv_at hl 0 rfl) ?_
  refine lv_bipush (v := 24) hx hb dI3_15 (by decide) ?_
  refine in_newa (N := 24) hx hb (hts _ (zG_gt (u := 1070) (by decide +kernel))) hK hP hD hS hA (by decide) (by decide) (by decide) (Nat.le_of_ble_eq_true rfl) (Nat.le_of_ble_eq_true rfl) dI3_17 (fun q1 H hP hD hS => ?_)
  have hP : va_P D zcl [(h0, .inr (3, [.int (-1), .int 0, .null])), (q1, .inl (ca 0, 24, .inl (fun _ => 0)))] H := hP
  have hD : va_D A [(h0, .inr (3, [.int (-1), .int 0, .null])), (q1, .inl (ca 0, 24, .inl (fun _ => 0)))] := hD
  refine W.widen (k := 1) (n := 24) (Nat.le_refl _) (Nat.le_refl _) ?_
  refine va_putF (D := D) (ci := 3) (v := .ref q1) (ty := .array .int) (C := RX3) (T := TX3) (N := 3) hx hb hts zu3 tyX3 tyX3_ok nmX3 hown hK hP hD hS 0 rfl rfl 2 (by decide) (hts _ (zG_gt (u := 1174) (by decide +kernel))) (fun _ h9 => h9) rfl hin rfl (by decide +kernel) rfl rfl (Nat.le_of_ble_eq_true rfl) dI3_19 (fun H locs hP hD hS => ?_)
  have hP : va_P D zcl [(h0, .inr (3, [.int (-1), .int 0, .ref q1])), (q1, .inl (ca 0, 24, .inl (fun _ => 0)))] H := hP
  have hD : va_D A [(h0, .inr (3, [.int (-1), .int 0, .ref q1])), (q1, .inl (ca 0, 24, .inl (fun _ => 0)))] := hD
  exact W.vret hx hb hr (fun t ht hW => ⟨⟨[q1], rfl, trivial, by rw [ht]; exact hP, hD⟩, hS.F ht⟩) hS.2.2 dI3_22
theorem dI4_0 : decode cX4_init 0 = .ok (.aload_n 0, 1) := by decide +kernel
theorem dI4_1 : decode cX4_init 1 = .ok (.invokespecial 1, 3) := by decide +kernel
theorem dI4_4 : decode cX4_init 4 = .ok (.aload_n 0, 1) := by decide +kernel
theorem dI4_5 : decode cX4_init 5 = .ok (.iconst 0, 1) := by decide +kernel
theorem dI4_6 : decode cX4_init 6 = .ok (.putfield 9, 3) := by decide +kernel
theorem dI4_9 : decode cX4_init 9 = .ok (.aload_n 0, 1) := by decide +kernel
theorem dI4_10 : decode cX4_init 10 = .ok (.iconst 0, 1) := by decide +kernel
theorem dI4_11 : decode cX4_init 11 = .ok (.putfield 13, 3) := by decide +kernel
theorem dI4_14 : decode cX4_init 14 = .ok (.aload_n 0, 1) := by decide +kernel
theorem dI4_15 : decode cX4_init 15 = .ok (.iconst 0, 1) := by decide +kernel
theorem dI4_16 : decode cX4_init 16 = .ok (.putfield 16, 3) := by decide +kernel
theorem dI4_19 : decode cX4_init 19 = .ok (.aload_n 0, 1) := by decide +kernel
theorem dI4_20 : decode cX4_init 20 = .ok (.iconst 0, 1) := by decide +kernel
theorem dI4_21 : decode cX4_init 21 = .ok (.putfield 19, 3) := by decide +kernel
theorem dI4_24 : decode cX4_init 24 = .ok (.aload_n 0, 1) := by decide +kernel
theorem dI4_25 : decode cX4_init 25 = .ok (.new 22, 3) := by decide +kernel
theorem dI4_28 : decode cX4_init 28 = .ok (.dup, 1) := by decide +kernel
theorem dI4_29 : decode cX4_init 29 = .ok (.invokespecial 24, 3) := by decide +kernel
theorem dI4_32 : decode cX4_init 32 = .ok (.putfield 25, 3) := by decide +kernel
theorem dI4_35 : decode cX4_init 35 = .ok (.return_, 1) := by decide +kernel
set_option maxHeartbeats 8000000 in
set_option maxRecDepth 100000 in
theorem i_4 (l : Launch) (D : va_G) (ca : Nat → ClassId) (h0 : Nat) (sz : Nat) : iMet l D ca yX4_init cX4_init 1 2 2 27 h0 (.inr (4, [.int 0, .int 0, .int 0, .int 0, .null])) [] sz (fun u => [(h0, .inr (4, [.int 0, .int 0, .int 0, .int 0, .ref (u.getD 0 0)])), ((u.getD 0 0), .inr (3, [.int (-1), .int 0, .ref (u.getD 1 0)])), ((u.getD 1 0), .inl (ca 0, 24, .inl (fun _ => 0)))]) := by
  unfold iMet
  refine Met.ofW (cc := cX4_init) (maxL := 1) (ret := none) (by decide) rfl ?_
  intro p e s m args below meth c s₁ B hml hv
  obtain ⟨rfl, hsz, hP, hK, hNe, hD0⟩ := hv
  have hx := B.exec
  have hb := B.bytes
  have hr := B.returns
  have hts0 := atoms_spec (ws := zwJ yX4_init cX4_init 1 none) B.pre
  have hts : ∀ w ∈ zgt, w.before _ s = true := fun w hw => hts0 w (List.mem_cons_of_mem _ hw)
  have hown : s.vm.findClass RX4 = some m.cls := findClass_of_methodNamed B.named
  have hlocks := B.notSynchronized
  have hin : meth.name = "<init>" := (name_of_methodNamed B.named B.method).1
  subst hsz
  have hD := hD0.self (sz := s.heap.size)
  generalize hAe : va_A [(h0, .inr (4, [.int 0, .int 0, .int 0, .int 0, .null]))] s.heap.size = A at hD ⊢
  have hA : ∀ q : Nat, s.heap.size ≤ q → A q := fun q h => by rw [← hAe]; exact Or.inr h
  have hS : va_S A s.heap s.heap [] := va_S.rf
  have hl := lv_entry ([.ref h0]) (n := 1) (Nat.le_of_ble_eq_true rfl)
  rw [lg_entry_eq]
  generalize (lg_sl ([.ref h0]) ++ List.replicate (1 - (lg_sl ([.ref h0])).length) Slot.unset).toArray = ls at hl ⊢
  have hl : lv_has ls 1 [(0, .ref h0)] := hl
  refine lv_aload_n hx hb dI4_0 rfl (lv_at hl 0 rfl) ?_
  refine W.objInit hx hb hown (hts _ (zG_gt (u := 1187) (by decide +kernel))) (hts _ (zG_gt (u := 1022) (by decide +kernel))) (hts _ (zG_gt (u := 1023) (by decide +kernel))) rfl (by rw [hml]; exact hl.1) rfl dI4_1 (Nat.le_of_ble_eq_true rfl) (Nat.le_of_ble_eq_true rfl) ?_
  refine W.eq (g2 := F0 m 4 ls []) rfl ?_
  refine lv_aload_n hx hb dI4_4 rfl (lv_at hl 0 rfl) ?_
  refine lv_iconst (v := 0) hx hb dI4_5 (by decide) ?_
  refine va_put (D := D) (ci := 4) (v := .int 0) (ty := .int) (C := RX4) (T := TX4) (N := 5) hx hb hts zu4 tyX4 tyX4_ok nmX4 hown hK hP hD hS 0 rfl rfl 0 (by decide) (hts _ (zG_gt (u := 1190) (by decide +kernel))) (fun _ h9 => h9) rfl (by decide +kernel) rfl rfl (Nat.le_of_ble_eq_true rfl) dI4_6 (fun H locs hP hD hS => ?_)
  have hP : va_P D zcl [(h0, .inr (4, [.int 0, .int 0, .int 0, .int 0, .null]))] H := hP
  have hD : va_D A [(h0, .inr (4, [.int 0, .int 0, .int 0, .int 0, .null]))] := hD
  refine lv_aload_n hx hb dI4_9 rfl (lv_at hl 0 rfl) ?_
  refine lv_iconst (v := 0) hx hb dI4_10 (by decide) ?_
  refine va_put (D := D) (ci := 4) (v := .int 0) (ty := .int) (C := RX4) (T := TX4) (N := 5) hx hb hts zu4 tyX4 tyX4_ok nmX4 hown hK hP hD hS 0 rfl rfl 1 (by decide) (hts _ (zG_gt (u := 1192) (by decide +kernel))) (fun _ h9 => h9) rfl (by decide +kernel) rfl rfl (Nat.le_of_ble_eq_true rfl) dI4_11 (fun H locs hP hD hS => ?_)
  have hP : va_P D zcl [(h0, .inr (4, [.int 0, .int 0, .int 0, .int 0, .null]))] H := hP
  have hD : va_D A [(h0, .inr (4, [.int 0, .int 0, .int 0, .int 0, .null]))] := hD
  refine lv_aload_n hx hb dI4_14 rfl (lv_at hl 0 rfl) ?_
  refine lv_iconst (v := 0) hx hb dI4_15 (by decide) ?_
  refine va_put (D := D) (ci := 4) (v := .int 0) (ty := .int) (C := RX4) (T := TX4) (N := 5) hx hb hts zu4 tyX4 tyX4_ok nmX4 hown hK hP hD hS 0 rfl rfl 2 (by decide) (hts _ (zG_gt (u := 1194) (by decide +kernel))) (fun _ h9 => h9) rfl (by decide +kernel) rfl rfl (Nat.le_of_ble_eq_true rfl) dI4_16 (fun H locs hP hD hS => ?_)
  have hP : va_P D zcl [(h0, .inr (4, [.int 0, .int 0, .int 0, .int 0, .null]))] H := hP
  have hD : va_D A [(h0, .inr (4, [.int 0, .int 0, .int 0, .int 0, .null]))] := hD
  refine lv_aload_n hx hb dI4_19 rfl (lv_at hl 0 rfl) ?_
  refine lv_iconst (v := 0) hx hb dI4_20 (by decide) ?_
  refine va_put (D := D) (ci := 4) (v := .int 0) (ty := .int) (C := RX4) (T := TX4) (N := 5) hx hb hts zu4 tyX4 tyX4_ok nmX4 hown hK hP hD hS 0 rfl rfl 3 (by decide) (hts _ (zG_gt (u := 1196) (by decide +kernel))) (fun _ h9 => h9) rfl (by decide +kernel) rfl rfl (Nat.le_of_ble_eq_true rfl) dI4_21 (fun H locs hP hD hS => ?_)
  have hP : va_P D zcl [(h0, .inr (4, [.int 0, .int 0, .int 0, .int 0, .null]))] H := hP
  have hD : va_D A [(h0, .inr (4, [.int 0, .int 0, .int 0, .int 0, .null]))] := hD
  refine lv_aload_n hx hb dI4_24 rfl (lv_at hl 0 rfl) ?_
  refine va_new (ci := 3) (fs := [.int 0, .int 0, .null]) (C := RX3) (T := TX3) (N := 3) hx hb hts zu3 tyX3 tyX3_ok hown (hts _ (zG_gt (u := 1188) (by decide +kernel))) (hts _ (zG_gt (u := 1165) (by decide +kernel))) (hts _ (zG_gt (u := 1005) (by decide +kernel))) hK hP hD hS hA rfl (fun j hj => by rcases (show j = 0 ∨ j = 1 ∨ j = 2 by omega) with rfl | rfl | rfl <;> rfl) (Nat.le_of_ble_eq_true rfl) (Nat.le_of_ble_eq_true rfl) dI4_25 (fun q1 H hP hD hS => ?_)
  have hP : va_P D zcl [(h0, .inr (4, [.int 0, .int 0, .int 0, .int 0, .null])), (q1, .inr (3, [.int 0, .int 0, .null]))] H := hP
  have hD : va_D A [(h0, .inr (4, [.int 0, .int 0, .int 0, .int 0, .null])), (q1, .inr (3, [.int 0, .int 0, .null]))] := hD
  refine W.widen (k := 1) (n := 3) (Nat.le_refl _) (Nat.le_refl _) ?_
  refine lv_dup hx hb dI4_28 rfl ?_
  refine icall (D := D) (ca := ca) (As := []) (rest := [.ref q1, .ref h0]) (wr := [(h0, .inr (4, [.int 0, .int 0, .int 0, .int 0, .null]))]) (np := 0) hx hb hml hown hts hK hNe (fun sz => i_3 l D ca q1 sz) (Or.inr (zN_in (u := 1189) (by decide +kernel)).1) (zG_gt (u := 1168) (by decide +kernel)) (zG_gt (u := 1005) (by decide +kernel)) (zG_gt (u := 1167) (by decide +kernel)) rfl (by decide +kernel) rfl hl.1 ⟨Nat.le_of_ble_eq_true rfl, Nat.le_of_ble_eq_true rfl⟩ ⟨Nat.le_of_ble_eq_true rfl, Nat.le_of_ble_eq_true rfl⟩ hP hD hS hA 1 [0] rfl rfl (by decide) (by decide) (Nat.le_of_ble_eq_true rfl) dI4_29 (fun u H locs hP hD hS => ?_)
  have hP : va_P D zcl [(h0, .inr (4, [.int 0, .int 0, .int 0, .int 0, .null])), (q1, .inr (3, [.int (-1), .int 0, .ref (u.getD 0 0)])), ((u.getD 0 0), .inl (ca 0, 24, .inl (fun _ => 0)))] H := hP
  have hD : va_D A [(h0, .inr (4, [.int 0, .int 0, .int 0, .int 0, .null])), (q1, .inr (3, [.int (-1), .int 0, .ref (u.getD 0 0)])), ((u.getD 0 0), .inl (ca 0, 24, .inl (fun _ => 0)))] := hD
  generalize u.getD 0 0 = q2 at hP hD
  refine W.widen (k := 2) (n := 27) (Nat.le_refl _) (Nat.le_refl _) ?_
  refine va_putF (D := D) (ci := 4) (v := .ref q1) (ty := .object "RopeFerry$Sheet") (C := RX4) (T := TX4) (N := 5) hx hb hts zu4 tyX4 tyX4_ok nmX4 hown hK hP hD hS 0 rfl rfl 4 (by decide) (hts _ (zG_gt (u := 1198) (by decide +kernel))) (fun _ h9 => h9) rfl hin rfl (by decide +kernel) rfl rfl (Nat.le_of_ble_eq_true rfl) dI4_32 (fun H locs hP hD hS => ?_)
  have hP : va_P D zcl [(h0, .inr (4, [.int 0, .int 0, .int 0, .int 0, .ref q1])), (q1, .inr (3, [.int (-1), .int 0, .ref q2])), (q2, .inl (ca 0, 24, .inl (fun _ => 0)))] H := hP
  have hD : va_D A [(h0, .inr (4, [.int 0, .int 0, .int 0, .int 0, .ref q1])), (q1, .inr (3, [.int (-1), .int 0, .ref q2])), (q2, .inl (ca 0, 24, .inl (fun _ => 0)))] := hD
  exact W.vret hx hb hr (fun t ht hW => ⟨⟨[q1, q2], rfl, trivial, by rw [ht]; exact hP, hD⟩, hS.F ht⟩) hS.2.2 dI4_35
end
