/-! one step of our machine, in the real one -/
def zrm (d : Nat) : Room := { frames := d, cells := 0, slots := 0, locals := 64 * d }
def zws (y : Nat) : List Jvm.Cond := .code (zyN y) (zyB y) (zyL y) (zyQ y) :: zgt
def zpre (ad : Nat → Nat) (D : va_G) (ca : Nat → ClassId) (adV : Nat → Nat) (A : Nat → Prop) (h : zH) : State → Prop := fun U => va_P D zcl (zwl ad ca h) U.heap ∧ va_K D zcl (zty ca) U ∧ zcn ad adV A h U U.heap
def zQc (ad : Nat → Nat) (D : va_G) (ca : Nat → ClassId) (A : Nat → Prop) (h : zH) (Q : Option Value → zH → Prop) : Array Value → State → Outcome → State → Prop := fun _ st oc t => (∃ (v : Option Value) (h' : zH), oc = .returned (v.map (ztr ad)) ∧ Q v h' ∧ (h' 84 = h 84 ∧ h' 85 = h 85) ∧ va_P D zcl (zwl ad ca h') t.heap) ∧ va_F A st t
/-- a contract in our machine's words -/
def zMet (l : Launch) (ad : Nat → Nat) (D : va_G) (ca : Nat → ClassId) (adV : Nat → Nat) (A : Nat → Prop) (d : Nat) (y : MethodName) (ws : List Jvm.Cond) (args : List Value) (h : zH) (Q : Option Value → zH → Prop) : Prop :=
  Met l y ws (zrm d) (va_Pc (args.map (ztr ad)) (zpre ad D ca adV A h)) (zQc ad D ca A h Q) 0 0 A
theorem zblind {ad : Nat → Nat} {D : va_G} {ca : Nat → ClassId} {adV : Nat → Nat} {A : Nat → Prop} {h : zH} {av : List Value} : FrameBlind (va_Pc av (zpre ad D ca adV A h)) := fun a U g mk q => by
  obtain ⟨q0, q1, q2, q3⟩ := q
  exact ⟨q0, q1, va_K.moved (u := U) (U := U.calling g mk a) (Vm.Alike.refl U.vm) q2, zcn_move (s := U) (U := U.calling g mk a) (State.WarmedH.refl U) (Nat.le_refl _) (fun _ _ _ => rfl) ⟨rfl, rfl⟩ q3⟩
theorem zcat_sum : ∀ (l : List Value), (l.map fun v => v.category).sum ≤ 2 * l.length
  | [] => Nat.le_refl _
  | v :: l => by
    have h1 := zcat_sum l
    have h2 := lv_cat v
    simp only [List.map_cons, List.sum_cons, List.length_cons]
    omega
theorem zok_in {i : Int32} {n : Nat} (h : zok i n) : vp_in i n := fun q => q.elim h.1 (fun q => absurd h.2 (Nat.not_lt.mpr q))
section
variable {p : Program} {l : Launch} {e : Env} {R : Room} {s : State} {m : MethodId} {args : Array Value} {below : List Frame} {meth : Method} {c : Code} {cells slots : Nat} {Qf : State → Prop}
variable {ad : Nat → Nat} {D : va_G} {ca : Nat → ClassId} {adV : Nat → Nat} {A : Nat → Prop}
theorem zcall {H : Heap} {locs : List Loc} {pc : Nat} {ls : Array Slot} {rest st0 : List Value} {a : Array Value} {H0 : Heap} {h : zH} {Q : Option Value → zH → Prop} (hr : va_Run p l e R s m args below meth c H locs cells slots 0 0 (F0 m pc ls st0) rest (zQc ad D ca A h Q a) A) (hS : va_S A H0 H locs)
    (kk : ∀ (v : Option Value) (h' : zH) (H1 : Heap) (locs1 : List Loc), Q v h' → (h' 84 = h 84 ∧ h' 85 = h 85) → va_P D zcl (zwl ad ca h') H1 → va_S A H0 H1 locs1 → W p l e R s m args below meth c H1 locs1 cells slots Qf (F0 m (pc + 3) ls ((v.map (ztr ad)).toList ++ rest))) : W p l e R s m args below meth c H locs cells slots Qf (F0 m pc ls st0) := by
  intro T hT X
  obtain ⟨v0, st₀, t, T', L, h0, X', hL, e1, e2, ⟨⟨v, h', hv, hq, h84, hP⟩, hz, hk⟩, st⟩ := hr T hT X
  cases hv
  rw [h0] at hz hk
  obtain ⟨t2, a1, b1⟩ := kk v h' T'.heap (locs ++ L) hq h84 (by rw [e1]; exact hP)
    ⟨Nat.le_trans hS.1 (by rw [e1]; exact hz), fun q h1 h2 => by rw [e1, hk q (Nat.lt_of_lt_of_le h1 hS.1) h2]; exact hS.2.1 q h1 h2, fun q hq => by
      rcases List.mem_append.mp hq with h | h
      · exact hS.2.2 q h
      · exact hL q h⟩ T' rfl X'
  exact ⟨t2, st t2 a1, b1⟩
def zPW (p : Program) (l : Launch) (e : Env) (R : Room) (s : State) (m : MethodId) (args : Array Value) (below : List Frame) (meth : Method) (c : Code) (cells slots : Nat) (Qf : State → Prop) (ad : Nat → Nat) (D : va_G) (ca : Nat → ClassId) (A : Nat → Prop) (nol : Bool) (nL : Nat) (h0 : zH) (pc : Nat) (lv : zL) (st : zS) (h : zH) : Prop :=
  (h 84 = h0 84 ∧ h 85 = h0 85) → ∀ (ls : Array Slot) (H : Heap) (locs : List Loc), zlv ad nol ls nL lv → va_P D zcl (zwl ad ca h) H → va_S A s.heap H locs → W p l e R s m args below meth c H locs cells slots Qf (F0 m pc ls (st.map (ztr ad)))
theorem zp1_x {cal : Nat → List Value → zH → (Option Value → zH → Prop) → Prop} {P : Nat → zL → zS → zH → Prop} {Q : Option Value → zH → Prop} {h : zH} {st : zS} {f : Int32 → zS → Option zO} (hg : zgo cal P Q h (zp1 st f)) : ∃ x r, st = .int x :: r ∧ zgo cal P Q h (f x r) := by
  unfold zp1 at hg
  split at hg
  · exact ⟨_, _, rfl, hg⟩
  · exact hg.elim
theorem zp2_x {cal : Nat → List Value → zH → (Option Value → zH → Prop) → Prop} {P : Nat → zL → zS → zH → Prop} {Q : Option Value → zH → Prop} {h : zH} {st : zS} {f : Int32 → Int32 → zS → Option zO} (hg : zgo cal P Q h (zp2 st f)) : ∃ x y r, st = .int y :: .int x :: r ∧ zgo cal P Q h (f x y r) := by
  unfold zp2 at hg
  split at hg
  · exact ⟨_, _, _, rfl, hg⟩
  · exact hg.elim
theorem zpR_x {cal : Nat → List Value → zH → (Option Value → zH → Prop) → Prop} {P : Nat → zL → zS → zH → Prop} {Q : Option Value → zH → Prop} {h : zH} {st : zS} {f : Nat → zS → Option zO} (hg : zgo cal P Q h (zpR st f)) : ∃ c r, st = .ref c :: r ∧ zgo cal P Q h (f c r) := by
  unfold zpR at hg
  split at hg
  · exact ⟨_, _, rfl, hg⟩
  · exact hg.elim
theorem zp1R_x {cal : Nat → List Value → zH → (Option Value → zH → Prop) → Prop} {P : Nat → zL → zS → zH → Prop} {Q : Option Value → zH → Prop} {h : zH} {st : zS} {f : Int32 → Nat → zS → Option zO} (hg : zgo cal P Q h (zp1R st f)) : ∃ x c r, st = .int x :: .ref c :: r ∧ zgo cal P Q h (f x c r) := by
  unfold zp1R at hg
  split at hg
  · exact ⟨_, _, _, rfl, hg⟩
  · exact hg.elim
theorem zp2R_x {cal : Nat → List Value → zH → (Option Value → zH → Prop) → Prop} {P : Nat → zL → zS → zH → Prop} {Q : Option Value → zH → Prop} {h : zH} {st : zS} {f : Int32 → Int32 → Nat → zS → Option zO} (hg : zgo cal P Q h (zp2R st f)) : ∃ x i c r, st = .int x :: .int i :: .ref c :: r ∧ zgo cal P Q h (f x i c r) := by
  unfold zp2R at hg
  split at hg
  · exact ⟨_, _, _, _, rfl, hg⟩
  · exact hg.elim
theorem zpJ2_x {cal : Nat → List Value → zH → (Option Value → zH → Prop) → Prop} {P : Nat → zL → zS → zH → Prop} {Q : Option Value → zH → Prop} {h : zH} {st : zS} {f : Int64 → Int64 → zS → Option zO} (hg : zgo cal P Q h (zpJ2 st f)) : ∃ x y r, st = .long y :: .long x :: r ∧ zgo cal P Q h (f x y r) := by
  unfold zpJ2 at hg
  split at hg
  · exact ⟨_, _, _, rfl, hg⟩
  · exact hg.elim
theorem zpA_x {cal : Nat → List Value → zH → (Option Value → zH → Prop) → Prop} {P : Nat → zL → zS → zH → Prop} {Q : Option Value → zH → Prop} {h : zH} {st : zS} {f : Option Nat → zS → Option zO} (hg : zgo cal P Q h (zpA st f)) : ∃ x r, st = zrf x :: r ∧ zgo cal P Q h (f x r) := by
  unfold zpA at hg
  split at hg
  · exact ⟨some _, _, rfl, hg⟩
  · exact ⟨none, _, rfl, hg⟩
  · exact hg.elim
theorem zpV_x {cal : Nat → List Value → zH → (Option Value → zH → Prop) → Prop} {P : Nat → zL → zS → zH → Prop} {Q : Option Value → zH → Prop} {h : zH} {st : zS} {f : Value → zS → Option zO} (hg : zgo cal P Q h (zpV st f)) : ∃ x r, st = x :: r ∧ x.category = 1 ∧ zgo cal P Q h (f x r) := by
  unfold zpV at hg
  split at hg
  · exact ⟨_, _, rfl, rfl, hg⟩
  · exact ⟨_, _, rfl, rfl, hg⟩
  · exact ⟨_, _, rfl, rfl, hg⟩
  · exact hg.elim
theorem zldI_x {cal : Nat → List Value → zH → (Option Value → zH → Prop) → Prop} {P : Nat → zL → zS → zH → Prop} {Q : Option Value → zH → Prop} {h : zH} {lv : zL} {a : Nat} {f : Int32 → Option zO} (hg : zgo cal P Q h (zldI lv a f)) : ∃ x, lv[a]? = some (some (.int x)) ∧ zgo cal P Q h (f x) := by
  unfold zldI at hg
  split at hg
  · rename_i e; exact ⟨_, e, hg⟩
  · exact hg.elim
theorem zldJ_x {cal : Nat → List Value → zH → (Option Value → zH → Prop) → Prop} {P : Nat → zL → zS → zH → Prop} {Q : Option Value → zH → Prop} {h : zH} {lv : zL} {a : Nat} {f : Int64 → Option zO} (hg : zgo cal P Q h (zldJ lv a f)) : ∃ x, lv[a]? = some (some (.long x)) ∧ zgo cal P Q h (f x) := by
  unfold zldJ at hg
  split at hg
  · rename_i e; exact ⟨_, e, hg⟩
  · exact hg.elim
theorem zldA_x {cal : Nat → List Value → zH → (Option Value → zH → Prop) → Prop} {P : Nat → zL → zS → zH → Prop} {Q : Option Value → zH → Prop} {h : zH} {lv : zL} {a : Nat} {f : Option Nat → Option zO} (hg : zgo cal P Q h (zldA lv a f)) : ∃ x, lv[a]? = some (some (zrf x)) ∧ zgo cal P Q h (f x) := by
  unfold zldA at hg
  split at hg
  · rename_i e; exact ⟨some _, e, hg⟩
  · rename_i e; exact ⟨none, e, hg⟩
  · exact hg.elim
theorem zif_x {cal : Nat → List Value → zH → (Option Value → zH → Prop) → Prop} {P : Nat → zL → zS → zH → Prop} {Q : Option Value → zH → Prop} {h : zH} {cd : Prop} {o : Option zO} (hg : zgo cal P Q h (zif cd o)) : cd ∧ zgo cal P Q h o := by
  unfold zif at hg
  by_cases q : cd
  · rw [if_pos q] at hg; exact ⟨q, hg⟩
  · rw [if_neg q] at hg; exact hg.elim
theorem zsw_T {pc : Nat} {x : Int32} {dflt : Nat} : ∀ (os : List Int) (lo : Int) (ks : List (Int32 × Nat)), zksT pc lo os ks = true → -2147483648 ≤ lo → lo + os.length ≤ 2147483648 →
    ((x.toInt < lo ∨ lo + os.length ≤ x.toInt) → zsw ks dflt x = dflt) ∧ (¬ x.toInt < lo → x.toInt < lo + os.length → ∃ o, os[(x.toInt - lo).toNat]? = some o ∧ (pc : Int) + o = (zsw ks dflt x : Int))
  | [], lo, [], _, _, _ => ⟨fun _ => rfl, fun h1 h2 => by simp at h2; omega⟩
  | [], _, _ :: _, h, _, _ => by cases h
  | _ :: _, _, [], h, _, _ => by cases h
  | o :: os, lo, q :: ks, h, h1, h2 => by
    simp only [zksT, Bool.and_eq_true, decide_eq_true_eq] at h
    simp only [List.length_cons] at h2
    obtain ⟨ih1, ih2⟩ := zsw_T (x := x) (dflt := dflt) os (lo + 1) ks h.2 (by omega) (by omega)
    have hx : x = q.1 ↔ x.toInt = lo := by
      rw [h.1.1, ← Int32.toInt_inj, Int32.toInt_ofInt_of_le (by omega) (by omega)]
    simp only [zsw, List.length_cons]
    by_cases hq : x = q.1
    · have hx' := hx.mp hq
      rw [if_pos hq]
      refine ⟨fun z => by omega, fun _ _ => ⟨o, by rw [hx']; simp, h.1.2⟩⟩
    · have hx' : ¬ x.toInt = lo := fun z => hq (hx.mpr z)
      rw [if_neg hq]
      refine ⟨fun z => ih1 (by omega), fun z1 z2 => ?_⟩
      obtain ⟨o', g1, g2⟩ := ih2 (by omega) (by omega)
      refine ⟨o', ?_, g2⟩
      rw [show (x.toInt - lo).toNat = (x.toInt - (lo + 1)).toNat + 1 by omega]
      exact g1
theorem zsw_L {pc : Nat} {x : Int32} {dflt : Nat} {df : Int} (hd : (pc : Int) + df = (dflt : Int)) : ∀ (ps : List (Int × Int)) (ks : List (Int32 × Nat)), zksL pc ps ks = true → (pc : Int) + Op.lookupswitch.offset ps df x.toInt = (zsw ks dflt x : Int)
  | [], [], _ => hd
  | [], _ :: _, h => by cases h
  | _ :: _, [], h => by cases h
  | (a1, a2) :: ps, q :: ks, h => by
    simp only [zksL, Bool.and_eq_true, decide_eq_true_eq] at h
    have ih := zsw_L (x := x) hd ps ks h.2
    have hx : x = q.1 ↔ a1 = x.toInt := by
      rw [h.1.1.1, ← Int32.toInt_inj, Int32.toInt_ofInt_of_le (by omega) (by omega)]
      exact ⟨fun z => z.symm, fun z => z.symm⟩
    show (pc : Int) + (if a1 = x.toInt then a2 else Op.lookupswitch.offset ps df x.toInt) = ((if x = q.1 then q.2 else zsw ks dflt x : Nat) : Int)
    by_cases hq : x = q.1
    · rw [if_pos hq, if_pos (hx.mp hq)]
      exact h.1.1.2
    · rw [if_neg hq, if_neg (fun z => hq (hx.mpr z))]
      exact ih
end
