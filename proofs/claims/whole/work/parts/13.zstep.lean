section
variable {p : Program} {l : Launch} {e : Env} {R : Room} {s : State} {m : MethodId} {args : Array Value} {below : List Frame} {meth : Method} {c : Code} {cells slots : Nat} {Qf : State → Prop}
variable {ad : Nat → Nat} {D : va_G} {ca : Nat → ClassId} {adV : Nat → Nat} {A : Nat → Prop}
theorem zgo_in {cal : Nat → List Value → zH → (Option Value → zH → Prop) → Prop} {P : Nat → zL → zS → zH → Prop} {Q : Option Value → zH → Prop} {h h' : zH} {pc : Nat} {lv : zL} {st : zS} (hg : zgo cal P Q h (some (.inl (pc, lv, st, h')))) : P pc lv st h' := hg
theorem zcat1 {lv : zL} {nL : Nat} {ls : Array Slot} (h : zlv ad true ls nL lv) {i : Nat} {v : Value} (hi : lv[i]? = some (some v)) : v.category = 1 := h.2.2 rfl i v hi
theorem zrf_tr (o : Option Nat) : ztr ad (zrf o) = .null ∨ ∃ a, ztr ad (zrf o) = .ref a := by
  cases o with
  | none => exact Or.inl rfl
  | some a => exact Or.inr ⟨ad a, rfl⟩
theorem zne84 {c : Nat} (h : c < 80) : 84 ≠ c := by omega
theorem zne85 {c : Nat} (h : c < 80) : 85 ≠ c := by omega
theorem znol {b : Bool} {nol : Bool} {x y : Prop} (h : nol = true) : nol = true := h
set_option maxHeartbeats 4000000 in
theorem zstep {h0 : zH} {own : String} {cc : ByteArray} {nL d : Nat} {nol : Bool} {rk : Option FieldType} {Q : Option Value → zH → Prop} (K : zctx p R s m args c cells slots ad D ca adV A h0 own cc nL d) (hJ : zstr l ad D ca adV A)
    (hM : ∀ d', d = d' + 1 → ∀ (y : Nat) (as : List Value) (h : zH) (Q' : Option Value → zH → Prop), y < 202 → zM d y as h Q' → zMet l ad D ca adV A d' (zyN y) (zws y) as h Q')
    (hretI : ∀ (pc : Nat) (ls : Array Slot) (H : Heap) (locs : List Loc) (h : zH) (x : Int32), decode cc pc = .ok (.ireturn, 1) → (rk = some .int ∨ (rk = some .boolean ∧ (x = 0 ∨ x = 1))) → Q (some (.int x)) h → (h 84 = h0 84 ∧ h 85 = h0 85) → va_P D zcl (zwl ad ca h) H → va_S A s.heap H locs → W p l e R s m args below meth c H locs cells slots Qf (F0 m pc ls [.int x]))
    (hretA : ∀ (pc : Nat) (ls : Array Slot) (H : Heap) (locs : List Loc) (h : zH) (o : Option Nat), decode cc pc = .ok (.areturn, 1) → (∃ n, rk = some (.object n)) → Q (some (zrf o)) h → (h 84 = h0 84 ∧ h 85 = h0 85) → va_P D zcl (zwl ad ca h) H → va_S A s.heap H locs → W p l e R s m args below meth c H locs cells slots Qf (F0 m pc ls [ztr ad (zrf o)]))
    (hretV : ∀ (pc : Nat) (ls : Array Slot) (H : Heap) (locs : List Loc) (h : zH), decode cc pc = .ok (.return_, 1) → rk = none → Q none h → (h 84 = h0 84 ∧ h 85 = h0 85) → va_P D zcl (zwl ad ca h) H → va_S A s.heap H locs → W p l e R s m args below meth c H locs cells slots Qf (F0 m pc ls []))
    {en : zE} {u : Nat} (hdec : decode cc en.1 = .ok (en.2.1, zlen en.2.1 en.2.2.2.1)) (hlk : zlk own nL nol rk u en = true) {lv : zL} {st : zS} {h : zH}
    (hgo : zgo (zM d) (zPW p l e R s m args below meth c cells slots Qf ad D ca A nol nL h0) Q h (znx en lv st h)) : zPW p l e R s m args below meth c cells slots Qf ad D ca A nol nL h0 en.1 lv st h := by
  obtain ⟨pc, ins, a, b, dd, v, ks⟩ := en
  intro e84 ls H locs hl hP hS
  obtain ⟨hx, hb, hml, hown, hts, hK, hD, hC, hR1, hR2, hR3, hR4⟩ := id K
  have hsz : ls.size = nL := hl.1.1
  have hml' : c.maxLocals = ls.size := by rw [hml, hsz]
  cases ins with
  | iconst n =>
    exact lv_iconst hx hb hdec (of_decide_eq_true hlk) (zgo_in hgo e84 ls H locs hl hP hS)
  | bipush n =>
    exact lv_bipush hx hb hdec (of_decide_eq_true hlk) (zgo_in hgo e84 ls H locs hl hP hS)
  | sipush n =>
    exact lv_sipush hx hb hdec (of_decide_eq_true hlk) (zgo_in hgo e84 ls H locs hl hP hS)
  | ldc i =>
    have hk := zgo_in hgo e84 ls H locs hl hP hS
    simp only [zlk, Bool.or_eq_true, Bool.and_eq_true, decide_eq_true_eq] at hlk
    rcases hlk with ⟨h1, h2⟩ | ⟨⟨h1, h2⟩, h3⟩
    · rw [if_pos h1] at hk
      exact lv_ldc hx hb hown (hts _ (zG_gt h2)) hdec hk
    · rw [if_neg (by omega)] at hk
      obtain ⟨q, hq, hq2⟩ := List.any_eq_true.mp h3
      simp only [decide_eq_true_eq] at hq2
      obtain ⟨rfl, rfl⟩ := hq2
      subst h2
      exact va_ldcS hx hb hown (hC.2.1 q hq) hdec hk
  | ldc_w i =>
    exact lv_ldcw hx hb hown (hts _ (zG_gt hlk)) hdec (zgo_in hgo e84 ls H locs hl hP hS)
  | lconst n =>
    exact lv_lconst hx hb hdec (of_decide_eq_true hlk) (zgo_in hgo e84 ls H locs hl hP hS)
  | ldc2_w i =>
    exact lv_ldc2 hx hb hown (hts _ (zG_gt hlk)) hdec (zgo_in hgo e84 ls H locs hl hP hS)
  | aconst_null =>
    exact lv_null hx hb hdec (zgo_in hgo e84 ls H locs hl hP hS)
  | iload i =>
    obtain ⟨x, he, hg⟩ := zldI_x hgo
    have hi : i = a := of_decide_eq_true hlk
    subst hi
    exact lv_iload hx hb hdec (zlv_get hl he) (zgo_in hg e84 ls H locs hl hP hS)
  | iload_n k =>
    obtain ⟨x, he, hg⟩ := zldI_x hgo
    exact lv_iload_n hx hb hdec (of_decide_eq_true hlk) (zlv_get hl he) (zgo_in hg e84 ls H locs hl hP hS)
  | lload i =>
    obtain ⟨x, he, hg⟩ := zldJ_x hgo
    have hi : i = a := of_decide_eq_true hlk
    subst hi
    exact lv_lload hx hb hdec (zlv_get hl he) (zgo_in hg e84 ls H locs hl hP hS)
  | lload_n k =>
    obtain ⟨x, he, hg⟩ := zldJ_x hgo
    exact lv_lload_n hx hb hdec (of_decide_eq_true hlk) (zlv_get hl he) (zgo_in hg e84 ls H locs hl hP hS)
  | aload i =>
    dsimp only [znx] at hgo
    obtain ⟨x, he, hg⟩ := zldA_x hgo
    have hi : i = a := of_decide_eq_true hlk
    subst hi
    cases x with
    | none => exact lv_aloadN hx hb hdec (zlv_get hl he) (zgo_in hg e84 ls H locs hl hP hS)
    | some x => exact lv_aload hx hb hdec (zlv_get hl he) (zgo_in hg e84 ls H locs hl hP hS)
  | aload_n k =>
    dsimp only [znx] at hgo
    obtain ⟨x, he, hg⟩ := zldA_x hgo
    cases x with
    | none => exact lv_aload_nN hx hb hdec (of_decide_eq_true hlk) (zlv_get hl he) (zgo_in hg e84 ls H locs hl hP hS)
    | some x => exact lv_aload_n hx hb hdec (of_decide_eq_true hlk) (zlv_get hl he) (zgo_in hg e84 ls H locs hl hP hS)
  | istore i =>
    obtain ⟨x, r, rfl, hg⟩ := zp1_x hgo
    simp only [zlk, Bool.and_eq_true, decide_eq_true_eq] at hlk
    obtain ⟨⟨rfl, ha⟩, rfl⟩ := hlk
    exact lv_istore hx hb hdec hl.1 ha rfl (fun ls' hl' => zgo_in hg e84 ls' H locs (zlv_set hl ha rfl hl') hP hS)
  | istore_n k =>
    obtain ⟨x, r, rfl, hg⟩ := zp1_x hgo
    simp only [zlk, Bool.and_eq_true, decide_eq_true_eq] at hlk
    obtain ⟨⟨hk, ha⟩, rfl⟩ := hlk
    exact lv_istore_n hx hb hdec hk hl.1 ha rfl (fun ls' hl' => zgo_in hg e84 ls' H locs (zlv_set hl ha rfl hl') hP hS)
  | astore i =>
    dsimp only [znx] at hgo
    obtain ⟨x, r, rfl, hg⟩ := zpA_x hgo
    simp only [zlk, Bool.and_eq_true, decide_eq_true_eq] at hlk
    obtain ⟨⟨rfl, ha⟩, rfl⟩ := hlk
    cases x with
    | none => exact lv_astoreN hx hb hdec hl.1 ha rfl (fun ls' hl' => zgo_in hg e84 ls' H locs (zlv_set hl ha rfl hl') hP hS)
    | some x => exact lv_astore hx hb hdec hl.1 ha rfl (fun ls' hl' => zgo_in hg e84 ls' H locs (zlv_set hl ha rfl hl') hP hS)
  | astore_n k =>
    dsimp only [znx] at hgo
    obtain ⟨x, r, rfl, hg⟩ := zpA_x hgo
    simp only [zlk, Bool.and_eq_true, decide_eq_true_eq] at hlk
    obtain ⟨⟨hk, ha⟩, rfl⟩ := hlk
    cases x with
    | none => exact lv_astore_nN hx hb hdec hk hl.1 ha rfl (fun ls' hl' => zgo_in hg e84 ls' H locs (zlv_set hl ha rfl hl') hP hS)
    | some x => exact lv_astore_n hx hb hdec hk hl.1 ha rfl (fun ls' hl' => zgo_in hg e84 ls' H locs (zlv_set hl ha rfl hl') hP hS)
  | iinc i n =>
    obtain ⟨x, he, hg⟩ := zldI_x hgo
    simp only [zlk, Bool.and_eq_true, decide_eq_true_eq] at hlk
    obtain ⟨⟨⟨rfl, ha⟩, rfl⟩, rfl⟩ := hlk
    obtain ⟨k, hk⟩ := List.getElem?_of_mem (zlvl_mem (ad := ad) (q := (i, .int x)) |>.mpr ⟨.int x, he, rfl⟩)
    exact lv_iinc hx hb hdec hl.1 hk rfl ha rfl (fun ls' hl' => zgo_in hg e84 ls' H locs (zlv_set hl ha rfl hl') hP hS)
  | iadd =>
    obtain ⟨x, y, r, rfl, hg⟩ := zp2_x hgo
    exact lv_iadd hx hb hdec (zgo_in hg e84 ls H locs hl hP hS)
  | isub =>
    obtain ⟨x, y, r, rfl, hg⟩ := zp2_x hgo
    exact lv_isub hx hb hdec (zgo_in hg e84 ls H locs hl hP hS)
  | imul =>
    obtain ⟨x, y, r, rfl, hg⟩ := zp2_x hgo
    exact lv_imul hx hb hdec (zgo_in hg e84 ls H locs hl hP hS)
  | iand =>
    obtain ⟨x, y, r, rfl, hg⟩ := zp2_x hgo
    exact lv_iand hx hb hdec (zgo_in hg e84 ls H locs hl hP hS)
  | ior =>
    obtain ⟨x, y, r, rfl, hg⟩ := zp2_x hgo
    exact lv_ior hx hb hdec (zgo_in hg e84 ls H locs hl hP hS)
  | ixor =>
    obtain ⟨x, y, r, rfl, hg⟩ := zp2_x hgo
    exact lv_ixor hx hb hdec (zgo_in hg e84 ls H locs hl hP hS)
  | ishl =>
    obtain ⟨x, y, r, rfl, hg⟩ := zp2_x hgo
    exact lv_ishl hx hb hdec (zgo_in hg e84 ls H locs hl hP hS)
  | ishr =>
    obtain ⟨x, y, r, rfl, hg⟩ := zp2_x hgo
    exact lv_ishr hx hb hdec (zgo_in hg e84 ls H locs hl hP hS)
  | idiv =>
    obtain ⟨x, y, r, rfl, hg⟩ := zp2_x hgo
    obtain ⟨hc, hg⟩ := zif_x hg
    exact lv_idiv hx hb hdec hc (zgo_in hg e84 ls H locs hl hP hS)
  | irem =>
    obtain ⟨x, y, r, rfl, hg⟩ := zp2_x hgo
    obtain ⟨hc, hg⟩ := zif_x hg
    exact lv_irem hx hb hdec hc (zgo_in hg e84 ls H locs hl hP hS)
  | iushr =>
    obtain ⟨x, y, r, rfl, hg⟩ := zp2_x hgo
    exact lv_iushr hx hb hdec rfl (zgo_in hg e84 ls H locs hl hP hS)
  | ineg =>
    obtain ⟨x, r, rfl, hg⟩ := zp1_x hgo
    exact lv_ineg hx hb hdec (zgo_in hg e84 ls H locs hl hP hS)
  | i2l =>
    obtain ⟨x, r, rfl, hg⟩ := zp1_x hgo
    exact lv_i2l hx hb hdec rfl (zgo_in hg e84 ls H locs hl hP hS)
  | i2s =>
    obtain ⟨x, r, rfl, hg⟩ := zp1_x hgo
    exact lv_i2s hx hb hdec rfl (zgo_in hg e84 ls H locs hl hP hS)
  | ladd =>
    obtain ⟨x, y, r, rfl, hg⟩ := zpJ2_x hgo
    exact lv_ladd hx hb hdec (zgo_in hg e84 ls H locs hl hP hS)
  | lcmp =>
    obtain ⟨x, y, r, rfl, hg⟩ := zpJ2_x hgo
    exact W.lcmp hx hb hdec (zgo_in hg e84 ls H locs hl hP hS)
  | dup =>
    dsimp only [znx] at hgo
    obtain ⟨x, r, rfl, hcat, hg⟩ := zpV_x hgo
    exact lv_dup hx hb hdec (by rw [ztr_cat]; exact hcat) (zgo_in hg e84 ls H locs hl hP hS)
  | pop =>
    dsimp only [znx] at hgo
    obtain ⟨x, r, rfl, hcat, hg⟩ := zpV_x hgo
    exact lv_pop hx hb hdec (by rw [ztr_cat]; exact hcat) (zgo_in hg e84 ls H locs hl hP hS)
  | dup2 =>
    obtain ⟨x, y, r, rfl, hg⟩ := zp1R_x hgo
    exact lv_dup2_11 hx hb hdec rfl rfl (zgo_in hg e84 ls H locs hl hP hS)
  | goto off =>
    exact lv_goto hx hb hdec (of_decide_eq_true hlk) (zgo_in hgo e84 ls H locs hl hP hS)
  | ifCond cd off =>
    obtain ⟨x, r, rfl, hg⟩ := zp1_x hgo
    have hk := zgo_in hg e84 ls H locs hl hP hS
    have ht : (pc : Int) + off = (a : Int) := of_decide_eq_true hlk
    cases cd with
    | eq => exact lv_if_eq hx hb hdec ht (fun z => by simpa only [zif1, if_pos z] using hk) (fun z => by simpa only [zif1, if_neg z] using hk)
    | ne => exact lv_if_ne hx hb hdec ht (fun z => by simpa only [zif1, if_neg z] using hk) (fun z => by simpa only [zif1, if_pos z] using hk)
    | lt => exact lv_if_lt hx hb hdec ht (fun z => by simpa only [zif1, if_pos z] using hk) (fun z => by simpa only [zif1, if_neg z] using hk)
    | ge => exact lv_if_ge hx hb hdec ht (fun z => by simpa only [zif1, if_neg (Int32.not_lt.mpr z)] using hk) (fun z => by simpa only [zif1, if_pos (Int32.not_le.mp z)] using hk)
    | gt => exact lv_if_gt hx hb hdec ht (fun z => by simpa only [zif1, if_neg (Int32.not_le.mpr z)] using hk) (fun z => by simpa only [zif1, if_pos (Int32.not_lt.mp z)] using hk)
    | le => exact lv_if_le hx hb hdec ht (fun z => by simpa only [zif1, if_pos z] using hk) (fun z => by simpa only [zif1, if_neg z] using hk)
  | if_icmp cd off =>
    obtain ⟨x, y, r, rfl, hg⟩ := zp2_x hgo
    have hk := zgo_in hg e84 ls H locs hl hP hS
    have ht : (pc : Int) + off = (a : Int) := of_decide_eq_true hlk
    cases cd with
    | eq => exact lv_icmp_eq hx hb hdec ht (fun z => by simpa only [zif2, if_pos z] using hk) (fun z => by simpa only [zif2, if_neg z] using hk)
    | ne => exact lv_icmp_ne hx hb hdec ht (fun z => by simpa only [zif2, if_neg z] using hk) (fun z => by simpa only [zif2, if_pos z] using hk)
    | lt => exact lv_icmp_lt hx hb hdec ht (fun z => by simpa only [zif2, if_pos z] using hk) (fun z => by simpa only [zif2, if_neg z] using hk)
    | ge => exact lv_icmp_ge hx hb hdec ht (fun z => by simpa only [zif2, if_neg (Int32.not_lt.mpr z)] using hk) (fun z => by simpa only [zif2, if_pos (Int32.not_le.mp z)] using hk)
    | gt => exact lv_icmp_gt hx hb hdec ht (fun z => by simpa only [zif2, if_neg (Int32.not_le.mpr z)] using hk) (fun z => by simpa only [zif2, if_pos (Int32.not_lt.mp z)] using hk)
    | le => exact lv_icmp_le hx hb hdec ht (fun z => by simpa only [zif2, if_pos z] using hk) (fun z => by simpa only [zif2, if_neg z] using hk)
  | ifnull off =>
    dsimp only [znx] at hgo
    obtain ⟨x, r, rfl, hg⟩ := zpA_x hgo
    have hk := zgo_in hg e84 ls H locs hl hP hS
    cases x with
    | none => exact lv_ifnullN hx hb hdec (of_decide_eq_true hlk) (by simpa using hk)
    | some x => exact lv_ifnull hx hb hdec (by simpa using hk)
  | ifnonnull off =>
    dsimp only [znx] at hgo
    obtain ⟨x, r, rfl, hg⟩ := zpA_x hgo
    have hk := zgo_in hg e84 ls H locs hl hP hS
    cases x with
    | none => exact lv_ifnonnullN hx hb hdec (by simpa using hk)
    | some x => exact lv_ifnonnull hx hb hdec (of_decide_eq_true hlk) (by simpa using hk)
  | tableswitch df lo hi offs =>
    obtain ⟨x, r, rfl, hg⟩ := zp1_x hgo
    have hk := zgo_in hg e84 ls H locs hl hP hS
    simp only [zlk, Bool.and_eq_true, decide_eq_true_eq] at hlk
    obtain ⟨⟨⟨h1, h2⟩, h3⟩, h4⟩ := hlk
    obtain ⟨g1, g2⟩ := zsw_T (x := x) (dflt := a) offs.toList lo ks h2 h4.1 (by omega)
    by_cases hz : x.toInt < lo ∨ hi < x.toInt
    · rw [g1 (by omega)] at hk
      exact lv_tableOut hx hb hdec hz h1 hk
    · obtain ⟨o, q1, q2⟩ := g2 (by omega) (by omega)
      exact lv_tableIn hx hb hdec (fun z => hz (Or.inl z)) (fun z => hz (Or.inr z)) (by simpa using q1) q2 hk
  | lookupswitch df ps =>
    obtain ⟨x, r, rfl, hg⟩ := zp1_x hgo
    have hk := zgo_in hg e84 ls H locs hl hP hS
    simp only [zlk, Bool.and_eq_true] at hlk
    obtain ⟨⟨h1, h2⟩, h3⟩ := hlk
    exact lv_lookup hx hb hdec h3 rfl (zsw_L (of_decide_eq_true h1) _ _ h2) hk
  | getfield i =>
    obtain ⟨x, r, rfl, hg⟩ := zpR_x hgo
    obtain ⟨hc, hg⟩ := zif_x hg
    exact zs_get K hP hlk hc hdec (zgo_in hg e84 ls H locs hl hP hS)
  | putfield i =>
    obtain ⟨y, x, r, rfl, hg⟩ := zp1R_x hgo
    obtain ⟨⟨hc, hy⟩, hg⟩ := zif_x hg
    have hlk' : (zF u own i a b && zFw a b dd) = true := hlk
    rw [Bool.and_eq_true] at hlk'
    have hx80 : x < 80 := by
      have := hlk'.1
      unfold zF at this
      split at this
      · rename_i q hq
        exact zcls_lt (by have := (zcl_ok hq).1; omega)
      · cases this
    exact zs_put K hP hS hlk'.1 hlk'.2 hc hy hdec (fun H1 locs1 hP1 hS1 => zgo_in hg ⟨(zhr_ne h (c := x) (c' := 84) _ (zne84 hx80)).trans e84.1, (zhr_ne h (c := x) (c' := 85) _ (zne85 hx80)).trans e84.2⟩ ls H1 locs1 hl hP1 hS1)
  | getstatic i =>
    have hk := zgo_in hgo e84 ls H locs hl hP hS
    have hlk' : zFs u own i a b = true := hlk
    unfold zFs at hlk'
    split at hlk'
    · rename_i q hq
      simp only [Bool.and_eq_true, Bool.or_eq_true, decide_eq_true_eq] at hlk'
      obtain ⟨rfl, hlw⟩ := hlk'
      have hZ := (hC.1 q (List.mem_of_getElem? hq)).1
      rcases hlw with hlw | hlw
      · exact va_gets hx hb hZ hS hown (hts _ (zG_gt hlw)) (fun _ z => z) hdec hk
      · exact va_getsN hx hb hZ hS hown (zctx_nestB K hlw) (fun _ z => z) hdec hk
    · cases hlk'
  | iaload =>
    obtain ⟨i, x, r, rfl, hg⟩ := zp1R_x hgo
    split at hg
    · rename_i hc
      obtain ⟨hok, hg⟩ := zif_x hg
      exact zs_iald K e84 hP hS hdec _ (Or.inl ⟨hc, hok, rfl⟩) (zgo_in hg e84 ls H locs hl hP hS)
    · rename_i hc
      obtain ⟨hok, hg⟩ := zif_x hg
      exact zs_iald K e84 hP hS hdec _ (Or.inr (Or.inl ⟨hc, hok, rfl⟩)) (zgo_in hg e84 ls H locs hl hP hS)
    · rename_i hc
      obtain ⟨hok, hg⟩ := zif_x hg
      exact zs_iald K e84 hP hS hdec _ (Or.inr (Or.inr ⟨hc, hok, rfl⟩)) (zgo_in hg e84 ls H locs hl hP hS)
    · exact hg.elim
  | caload =>
    obtain ⟨i, x, r, rfl, hg⟩ := zp1R_x hgo
    obtain ⟨⟨hc, hok⟩, hg⟩ := zif_x hg
    have hx3 := zcls_22 hc
    subst hx3
    exact va_tc hx hb (hC.1 (RX2, "NAMES_BY_KEY", "[C", .char, 83) (List.mem_of_getElem? (i := 3) rfl)).2 hS (zok_in hok) rfl hdec (zgo_in hg e84 ls H locs hl hP hS)
  | aaload =>
    obtain ⟨i, x, r, rfl, hg⟩ := zp1R_x hgo
    split at hg
    · rename_i hc
      obtain ⟨hok, hg⟩ := zif_x hg
      exact va_aldq (C := RX3) (f := fun i => some (ad (35 + 2 * i))) hx hb hK hP x 1 (by rw [zwl_get (zcls_lt (by omega)), zenc, if_neg (by omega), if_pos hc]) rfl (zok_in hok) hdec (zgo_in hg e84 ls H locs hl hP hS)
    · rename_i hc
      obtain ⟨hok, hg⟩ := zif_x hg
      exact va_aldq (C := RX4) (f := fun i => some (ad (44 + 3 * i))) hx hb hK hP x 2 (by rw [zwl_get (zcls_lt (by omega)), zenc, if_neg (by omega), if_neg (by omega), if_pos hc]) rfl (zok_in hok) hdec (zgo_in hg e84 ls H locs hl hP hS)
    · exact hg.elim
  | iastore =>
    obtain ⟨y, i, x, r, rfl, hg⟩ := zp2R_x hgo
    obtain ⟨⟨hc, hok⟩, hg⟩ := zif_x hg
    have hx80 : x < 80 := zcls_lt (by omega)
    refine va_iast hx hb hK hP (hD h) hS x 0 (by rw [zwl_get hx80, zenc_arr hc]) rfl (zok_in hok) hdec (fun H1 locs1 hP1 _ hS1 => ?_)
    have hset : (zwl ad ca h).set x (ad x, .inl (ca 0, zaln x, .inl (upd (h x) i.toNatClampNeg y))) = zwl ad ca (zhr h x (upd (h x) (zix i) y)) := by
      refine zwl_set hx80 (fun c' n => zhr_ne h _ n) ?_
      rw [zenc_arr hc, zhr_same]
    rw [hset] at hP1
    exact zgo_in hg ⟨(zhr_ne h (c := x) (c' := 84) _ (zne84 hx80)).trans e84.1, (zhr_ne h (c := x) (c' := 85) _ (zne85 hx80)).trans e84.2⟩ ls H1 locs1 hl hP1 hS1
  | arraylength =>
    obtain ⟨x, r, rfl, hg⟩ := zpR_x hgo
    split at hg
    · rename_i hc
      exact va_alen (x := (zaln x, .inl (h x))) hx hb hK hP x 0 (by rw [zwl_get (zcls_lt (by omega)), zenc_arr hc]) rfl rfl hdec (zgo_in hg e84 ls H locs hl hP hS)
    · rename_i hc
      have hx3 := zcls_22 hc
      subst hx3
      exact va_tlen hx hb (hC.1 (RX2, "NAMES_BY_KEY", "[C", .char, 83) (List.mem_of_getElem? (i := 3) rfl)).2 hS rfl hdec (zgo_in hg e84 ls H locs hl hP hS)
    · rename_i hc
      have hx3 := zcls_21 hc
      subst hx3
      obtain ⟨g1, g2, g3, g4⟩ := hC.2.2.2.2.1
      have hk := zgo_in hg e84 ls H locs hl hP hS
      rw [e84.2, ← g2] at hk
      exact va_slen hx hb g1 g3 g4 hS hdec hk
    · exact hg.elim
  | invokestatic i =>
    obtain ⟨⟨hb1, hb2⟩, hg⟩ := zif_x hgo
    have hg : zM d a (st.take b).reverse h (fun r h' => zPW p l e R s m args below meth c cells slots Qf ad D ca A nol nL h0 (pc + 3) lv (r.toList ++ st.drop b) h') := hg
    have hst : st.map (ztr ad) = (((st.take b).reverse).map (ztr ad)).reverse ++ (st.drop b).map (ztr ad) := by
      rw [List.map_reverse, List.reverse_reverse, ← List.map_append, List.take_append_drop]
    have hlen : ((st.take b).reverse).length = b := by simp; omega
    have hlk : zcS u own i a b = true := hlk
    match d, K, hM, hg with
    | 0, K, hM, hg => exact hg.elim
    | d' + 1, K, hM, hg =>
      by_cases ha : a < 202
      · have hlk2 : (decide (a < 202) && zML u own i (zyN a) && zyS a && decide (b = zyP a)) = true := by
          unfold zcS at hlk
          split at hlk <;> first | omega | exact hlk
        simp only [Bool.and_eq_true, decide_eq_true_eq] at hlk2
        obtain ⟨⟨⟨-, q1⟩, q2⟩, q3⟩ := hlk2
        rw [hst]
        exact zs_callS K e84 (hM d' rfl a _ h _ ha hg) ha q1 q2 (hlen.trans q3) hsz hP hS hb2 hdec (fun v h' H1 locs1 hq h84 hP1 hS1 => by
          have hk := hq ⟨h84.1.trans e84.1, h84.2.trans e84.2⟩ ls H1 locs1 hl hP1 hS1
          cases v <;> simpa using hk)
      · have ha2 : 1000 ≤ a := by
          unfold zcS at hlk
          split at hlk <;> first | omega | (simp only [Bool.and_eq_true, decide_eq_true_eq] at hlk; omega)
        have hbi := hg.1 ha2
        have hR1' : 1 ≤ R.frames := by omega
        generalize hAs : (st.take b).reverse = As at hbi hst hlen
        generalize hrs : st.drop b = rs at hbi hst hb2
        have hsum := zcat_sum (rs.map (ztr ad))
        rw [List.length_map] at hsum
        rw [hst]
        unfold zcS at hlk
        split at hlk
        · simp only [zbi] at hbi
          simp only [Bool.and_eq_true, decide_eq_true_eq] at hlk
          split at hbi
          · exact va_mmax (rest := rs.map (ztr ad)) hx hb hml' hown (hts _ (zG_gt hlk.1)) (hts _ (zG_gt zg_smax)) (hts _ (zG_gt zg_imath)) (hts _ (zG_gt zg_cmax)) hR1' (by omega) hR3 hR4 hdec (hbi e84 ls H locs hl hP hS)
          · exact hbi.elim
        · simp only [zbi] at hbi
          simp only [Bool.and_eq_true, decide_eq_true_eq] at hlk
          split at hbi
          · exact va_mmin (rest := rs.map (ztr ad)) hx hb hml' hown (hts _ (zG_gt hlk.1)) (hts _ (zG_gt zg_smin)) (hts _ (zG_gt zg_imath)) (hts _ (zG_gt zg_cmin)) hR1' (by omega) hR3 hR4 hdec (hbi e84 ls H locs hl hP hS)
          · exact hbi.elim
        · simp only [zbi] at hbi
          simp only [Bool.and_eq_true, decide_eq_true_eq] at hlk
          split at hbi
          · exact va_mabs (rest := rs.map (ztr ad)) hx hb hml' hown (hts _ (zG_gt hlk.1)) (hts _ (zG_gt zg_sabs)) (hts _ (zG_gt zg_imath)) (hts _ (zG_gt zg_cabs)) hR1' (by omega) hR3 hR4 hdec (hbi e84 ls H locs hl hP hS)
          · exact hbi.elim
        · simp only [zbi] at hbi
          simp only [Bool.and_eq_true, decide_eq_true_eq] at hlk
          unfold zcopy at hbi
          split at hbi
          · rename_i c0 sp c1 dp n
            obtain ⟨⟨k0, k1, k2, k3, k4, k5, k6⟩, hk⟩ := hbi
            have hx0 : c0 < 80 := zcls_lt (by omega)
            have hx1 : c1 < 80 := zcls_lt (by omega)
            refine va_copyi (rest := rs.map (ztr ad)) hx hb hml' hown (hts _ (zG_gt hlk.1)) (hts _ (zG_gt zg_ncpy)) (hts _ (zG_gt zg_scpy)) (hts _ (zG_gt zg_isys)) hK hP (hD h) hS c0 c1 0 0 (by rw [zwl_get hx0, zenc_arr k0]) (by rw [zwl_get hx1, zenc_arr k1]) rfl rfl rfl k2 k3 k4 k5 k6 (fun _ _ => rfl) hR1' ?_ hdec (fun H1 locs1 hP1 _ hS1 => ?_)
            · have : nativeFrameWords "java/lang/System" "arraycopy" 5 ≤ 40 := by decide +kernel
              omega
            · have hset : (zwl ad ca h).set c1 (ad c1, .inl (ca 0, zaln c1, .inl (va_cpy (h c0) (h c1) sp.toNatClampNeg dp.toNatClampNeg n.toNatClampNeg))) = zwl ad ca (zhr h c1 (va_cpy (h c0) (h c1) (zix sp) (zix dp) (zix n))) := by
                refine zwl_set hx1 (fun c' q => zhr_ne h _ q) ?_
                rw [zenc_arr k1, zhr_same]
              rw [hset] at hP1
              exact hk ⟨(zhr_ne h (c := c1) (c' := 84) _ (zne84 hx1)).trans e84.1, (zhr_ne h (c := c1) (c' := 85) _ (zne85 hx1)).trans e84.2⟩ ls H1 locs1 hl hP1 hS1
          · exact hbi.elim
        · simp only [Bool.and_eq_true, decide_eq_true_eq] at hlk
          omega
  | invokevirtual i =>
    obtain ⟨hb1, hg⟩ := zif_x hgo
    obtain ⟨x, r, hr, hg⟩ := zpR_x hg
    obtain ⟨⟨hc, hb2⟩, hg⟩ := zif_x hg
    have hg : zM d a (.ref x :: (st.take b).reverse) h (fun r0 h' => zPW p l e R s m args below meth c cells slots Qf ad D ca A nol nL h0 (pc + 3) lv (r0.toList ++ r) h') := hg
    have hst : st.map (ztr ad) = (((st.take b).reverse).map (ztr ad)).reverse ++ .ref (ad x) :: r.map (ztr ad) := by
      have e1 : st.map (ztr ad) = (((st.take b).reverse).map (ztr ad)).reverse ++ (st.drop b).map (ztr ad) := by
        rw [List.map_reverse, List.reverse_reverse, ← List.map_append, List.take_append_drop]
      rw [e1, hr]
      rfl
    have hlen : ((st.take b).reverse).length = b := by simp; omega
    have hlk : zcV u own i a b dd = true := hlk
    match d, K, hM, hg with
    | 0, K, hM, hg => exact hg.elim
    | d' + 1, K, hM, hg =>
      by_cases ha : a < 202
      · have hlk2 : (decide (a < 202) && zML u own i (zyN a) && !(zyS a) && decide (b = zyP a) && decide ((zcl[dd]?).map (·.1) = some (zyN a).cls)) = true := by
          unfold zcV at hlk
          split at hlk <;> first | omega | exact hlk
        simp only [Bool.and_eq_true, decide_eq_true_eq, Bool.not_eq_true'] at hlk2
        obtain ⟨⟨⟨⟨-, q1⟩, q2⟩, q3⟩, q4⟩ := hlk2
        rw [hst]
        exact zs_callV K e84 (hM d' rfl a _ h _ ha hg) ha q1 q2 (hlen.trans q3) hc q4 hsz hP hS hb2 hdec (fun v h' H1 locs1 hq h84 hP1 hS1 => by
          have hk := hq ⟨h84.1.trans e84.1, h84.2.trans e84.2⟩ ls H1 locs1 hl hP1 hS1
          cases v <;> simpa using hk)
      · have ha2 : 1000 ≤ a := by
          unfold zcV at hlk
          split at hlk <;> first | omega | (simp only [Bool.and_eq_true, decide_eq_true_eq] at hlk; omega)
        have hbi := hg.1 ha2
        rw [hst]
        generalize hAs : (st.take b).reverse = As at hbi hst hlen
        unfold zcV at hlk
        split at hlk
        · simp only [Bool.and_eq_true, decide_eq_true_eq] at hlk
          match As, hbi with
          | [], hbi =>
            obtain ⟨⟨k1, k2⟩, k3⟩ := hbi
            exact zs_callJ (n := 0) (Q := fun r0 h' => zPW p l e R s m args below meth c cells slots Qf ad D ca A nol nL h0 (pc + 3) lv (r0.toList ++ r) h') K e84 (hJ.1 d' x h _ k1 k2 k3) hlk.1 (zG_gt zg_clen) (zG_gt zg_istr) (zG_gt zg_ilen) (zG_gt zg_llen) rfl (by decide +kernel) (by omega) rfl k2 hsz hP hS hb2 hdec (fun v h' H1 locs1 hq h84 hP1 hS1 => by
              have hk := hq ⟨h84.1.trans e84.1, h84.2.trans e84.2⟩ ls H1 locs1 hl hP1 hS1
              cases v <;> simpa using hk)
          | _ :: _, hbi => exact hbi.elim
        · simp only [Bool.and_eq_true, decide_eq_true_eq] at hlk
          match As, hbi with
          | [.int j], hbi =>
            obtain ⟨⟨k1, k2, k3⟩, k4⟩ := hbi
            exact zs_callJ (n := 1) (Q := fun r0 h' => zPW p l e R s m args below meth c cells slots Qf ad D ca A nol nL h0 (pc + 3) lv (r0.toList ++ r) h') K e84 (hJ.2 d' x j h _ k1 k2 k3 k4) hlk.1 (zG_gt zg_ccha) (zG_gt zg_istr) (zG_gt zg_icha) (zG_gt zg_lcha) rfl (by decide +kernel) (by omega) rfl k2 hsz hP hS hb2 hdec (fun v h' H1 locs1 hq h84 hP1 hS1 => by
              have hk := hq ⟨h84.1.trans e84.1, h84.2.trans e84.2⟩ ls H1 locs1 hl hP1 hS1
              cases v <;> simpa using hk)
          | [], hbi => exact hbi.elim
          | _ :: _ :: _, hbi => exact (by simp [zbi] at hbi)
          | [.long _], hbi => exact hbi.elim
          | [.float _], hbi => exact hbi.elim
          | [.double _], hbi => exact hbi.elim
          | [.ref _], hbi => exact hbi.elim
          | [.null], hbi => exact hbi.elim
          | [.retAddr _], hbi => exact hbi.elim
        · simp only [Bool.and_eq_true, decide_eq_true_eq] at hlk
          omega
  | ireturn =>
    have hlk : (decide (rk = some .int) || (decide (rk = some .boolean) && decide (dd = 1))) = true := hlk
    simp only [Bool.or_eq_true, Bool.and_eq_true, decide_eq_true_eq] at hlk
    match st, hgo with
    | [.int x], hgo =>
      obtain ⟨hc, hg⟩ := zif_x hgo
      refine hretI pc ls H locs h x hdec ?_ hg e84 hP hS
      rcases hlk with q | ⟨q1, q2⟩
      · exact Or.inl q
      · exact Or.inr ⟨q1, hc.resolve_left (by omega)⟩
    | [], hgo => exact hgo.elim
    | .int _ :: _ :: _, hgo => exact hgo.elim
    | .long _ :: _, hgo => exact hgo.elim
    | .float _ :: _, hgo => exact hgo.elim
    | .double _ :: _, hgo => exact hgo.elim
    | .ref _ :: _, hgo => exact hgo.elim
    | .null :: _, hgo => exact hgo.elim
    | .retAddr _ :: _, hgo => exact hgo.elim
  | areturn =>
    have hrk : ∃ n, rk = some (.object n) := by
      have hlk2 : zlk own nL nol rk u (pc, .areturn, a, b, dd, v, ks) = true := hlk
      clear hretI hretA hretV hlk hgo
      cases rk with
      | none => cases hlk2
      | some t => cases t <;> first | exact ⟨_, rfl⟩ | cases hlk2
    match st, hgo with
    | [.ref x], hgo => exact hretA pc ls H locs h (some x) hdec hrk hgo e84 hP hS
    | [.null], hgo => exact hretA pc ls H locs h none hdec hrk hgo e84 hP hS
    | [], hgo => exact hgo.elim
    | .ref _ :: _ :: _, hgo => exact hgo.elim
    | .null :: _ :: _, hgo => exact hgo.elim
    | .long _ :: _, hgo => exact hgo.elim
    | .float _ :: _, hgo => exact hgo.elim
    | .double _ :: _, hgo => exact hgo.elim
    | .int _ :: _, hgo => exact hgo.elim
    | .retAddr _ :: _, hgo => exact hgo.elim
  | return_ =>
    match st, hgo with
    | [], hgo => exact hretV pc ls H locs h hdec (of_decide_eq_true hlk) hgo e84 hP hS
    | _ :: _, hgo => exact hgo.elim
  | _ => exact hgo.elim
end
