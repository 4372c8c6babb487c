/-! what runs in our machine runs in the real one -/
theorem zfit_at {y pc : Nat} {en : zE} (hy : y < 202) (h : zcod y pc = some en) : en ∈ zcq y ∧ en.1 = pc := by
  unfold zcod at h
  rw [if_neg (by intro z; have := Nat.eq_of_beq_eq_true z; omega)] at h
  exact zfind_in h
theorem zQ_ret {ad : Nat → Nat} {D : va_G} {ca : Nat → ClassId} {A : Nat → Prop} {h h' : zH} {Q : Option Value → zH → Prop} {args : Array Value} {s t : State} {H : Heap} {locs : List Loc} {v : Option Value} (hQ : Q v h') (e84 : h' 84 = h 84 ∧ h' 85 = h 85) (hP : va_P D zcl (zwl ad ca h') H) (hS : va_S A s.heap H locs) (ht : t.heap = H) : zQc ad D ca A h Q args s (.returned (v.map (ztr ad))) t :=
  ⟨⟨v, h', rfl, hQ, e84, by rw [ht]; exact hP⟩, hS.F ht⟩
set_option maxHeartbeats 2000000 in
theorem zsound (l : Launch) {ad : Nat → Nat} {D : va_G} {ca : Nat → ClassId} {adV : Nat → Nat} {A : Nat → Prop} (hD : ∀ h, va_D A (zwl ad ca h)) (hJ : zstr l ad D ca adV A) : ∀ (d y : Nat) (as : List Value) (h : zH) (Q : Option Value → zH → Prop), y < 202 → zM (d + 1) y as h Q → zMet l ad D ca adV A d (zyN y) (zws y) as h Q := by
  have main : ∀ (d : Nat), (∀ d', d = d' + 1 → ∀ (y : Nat) (as : List Value) (h : zH) (Q' : Option Value → zH → Prop), y < 202 → zM d y as h Q' → zMet l ad D ca adV A d' (zyN y) (zws y) as h Q') → ∀ (y : Nat) (as : List Value) (h : zH) (Q : Option Value → zH → Prop), y < 202 → zM (d + 1) y as h Q → zMet l ad D ca adV A d (zyN y) (zws y) as h Q := by
    intro d ih y as h Q hy hM
    rw [zM_S] at hM
    obtain ⟨hab, hX⟩ := hM.2 (by omega)
    obtain ⟨y1, y2, y3, y4, y5, y6, y7⟩ := zy_ok hy
    obtain ⟨nol, hno, hfit⟩ := zfit_all hy
    simp only [zargB, Bool.and_eq_true, Bool.or_eq_true] at hab
    refine Met.ofW (cc := zyB y) (maxL := zyL y) (ret := zyQ y) y5 rfl ?_
    intro p e s m args below meth c s₁ B hml hv
    obtain ⟨rfl, hP, hK, hC⟩ := hv
    have hx := B.exec
    have hb := B.bytes
    have hr := B.returns
    have hts0 := atoms_spec (ws := zws y) B.pre
    have hown : s.vm.findClass (zyN y).cls = some m.cls := findClass_of_methodNamed B.named
    have hlocks := B.notSynchronized
    have K : zctx p (zrm d) s m (as.map (ztr ad)).toArray c 0 0 ad D ca adV A h (zyN y).cls (zyB y) (zyL y) d := ⟨hx, hb, hml, hown, fun w hw => hts0 w (List.mem_cons_of_mem _ hw), hK, hD, hC, Nat.le_refl _, Nat.le_refl _, Nat.zero_le _, Nat.zero_le _⟩
    have go := hX (zPW p l e (zrm d) s m (as.map (ztr ad)).toArray below meth c 0 0 (MQ below (zQc ad D ca A h Q) (as.map (ztr ad)).toArray s 0 0 A) ad D ca A nol (zyL y) h) (by
      intro pc lv st hh hs
      unfold zSx at hs
      split at hs
      · exact hs.elim
      · rename_i en hen
        obtain ⟨hin, rfl⟩ := zfit_at hy hen
        obtain ⟨hdec, u, hlk⟩ := hfit en hin
        refine zstep K hJ ih ?_ ?_ ?_ hdec hlk hs
        · intro pc ls H locs h' x hdg hrk hQ h84 hP' hS'
          rcases hrk with hrk | ⟨hrk, hx01⟩
          · exact W.iret hx hb (hr.trans hrk) (fun t ht _ => zQ_ret (v := some (.int x)) hQ h84 hP' hS' ht) hS'.2.2 hdg
          · refine W.zret (ty := .boolean) hx hb (hr.trans hrk) ?_ (fun t ht _ => zQ_ret (v := some (.int x)) hQ h84 hP' hS' ht) hS'.2.2 hdg
            rcases hx01 with rfl | rfl <;> decide
        · intro pc ls H locs h' o hdg hrk hQ h84 hP' hS'
          obtain ⟨n, hrk⟩ := hrk
          exact W.aret hx hb (hr.trans hrk) (Or.inl ⟨n, rfl⟩) (zrf_tr o) (fun t ht _ => zQ_ret (v := some (zrf o)) hQ h84 hP' hS' ht) hS'.2.2 hdg
        · intro pc ls H locs h' hdg hrk hQ h84 hP' hS'
          exact W.vret hx hb (hr.trans hrk) (fun t ht _ => zQ_ret (v := none) hQ h84 hP' hS' ht) hS'.2.2 hdg)
    rw [lg_entry_eq]
    refine go ⟨rfl, rfl⟩ _ s.heap [] (zlv_entry ad as (Nat.le_of_ble_eq_true hab.1) ?_) hP va_S.rf
    intro hnl v hv
    rcases hab.2 with h106 | hall
    · exact absurd (Nat.eq_of_beq_eq_true h106) (hno hnl)
    · have := List.all_eq_true.mp hall v hv
      exact Nat.eq_of_beq_eq_true this
  intro d
  induction d with
  | zero => exact main 0 (fun d' q => by omega)
  | succ d ih => exact main (d + 1) (fun d' q => by have : d' = d := by omega
                                                    subst this
                                                    exact ih)
