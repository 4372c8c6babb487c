/-! THE CLAIM OUT OF ONE WALK OF THE LAW'S BODY. Your part is whole_start (and what it stands on); all else here is the same for every law, but numbers. -/
def R_law : String := "RopeFerryLaw"
def lw_P (b : Addr) (xs : List Int32) (args : Array Value) (s : State) : Prop := args = #[.ref b] ∧ s.IntsAt b xs ∧ xs.length ≤ 3072 ∧ (Jvm.Cond.and given_1 narrow_1).before args s = true
def lw_Q (_ : Array Value) (s : State) (o : Outcome) (t : State) : Prop := o = .returned (some (.int 1)) ∧ Framed s o t [] 600000 7302250
def lw_Z (below : List Frame) (a : Array Value) (s : State) : State → Prop := fun t => ∃ o, t.status = .running ∧ Ended t below o ∧ lw_Q a s o t
/-- the law's own end, with 1 on the stack, nothing written that was there before, its room as the claim has it -/
theorem lw_ret {p : Program} {l : Launch} {e : Env} {s : State} {m : MethodId} {below : List Frame} {meth : Method} {c : Code} {b : Nat} (hx : p.tables.exec = Jvm.exec) (hb : c.code = code) (hr : meth.sig.returnType = ret) (hlocks : meth.locks = false) {pc : Nat} {H : Heap} {ls : Array Slot} (hdg : decode code pc = .ok (.ireturn, 1)) : W p l e room_1 s m #[Value.ref b] below meth c H [] 600000 7302250 (lw_Z below #[Value.ref b] s) (F0 m pc ls [.int 1]) := by
  intro T hT X
  obtain ⟨fs, hret, hrun, hended, hW, hframe⟩ := X.leave (v := some (.int 1)) (hlocks := hlocks) (fun h => by rw [hr] at h; cases h)
  have hmeth' : T.vm.method? m = some meth := X.method'
  refine ⟨T.setFrames fs, ?_, .returned (some (.int 1)), hrun, hended, rfl, ⟨_, rfl⟩, hW, hframe⟩
  jvm_step X.here [X.here.top, hx, hb, hdg, hmeth', hr, ret, narrow_b1]
  (try refine ⟨rfl, ?_⟩); (try refine ⟨rfl, ?_⟩)
  first | (intro acts; rw [hret _ acts rfl rfl rfl]) | rw [hret _ _ rfl rfl rfl]
  exact Steps.refl _
/-- what holds at the law's entry: the machine, the code, the tables' words (any of lw_tbl by 'hts w (by decide +kernel)'), the script of L ints xs at the cell b, what the Statement gives of the start (any of its parts by flat_of_before) -/
def lw_At (p : Program) (s : State) (m : MethodId) (meth : Method) (c : Code) (b L : Nat) (xs : Nat → Int32) : Prop :=
  p.tables.exec = Jvm.exec ∧ c.code = code ∧ meth.sig.returnType = ret ∧ c.maxLocals = 4 ∧ s.vm.findClass R_law = some m.cls ∧ (∀ w ∈ lw_tbl, w.before #[Value.ref b] s = true) ∧ va_X b L xs s s.heap ∧ b < s.heap.size ∧ meth.locks = false ∧ (Jvm.Cond.and given_1 narrow_1).before #[Value.ref b] s = true
section
variable {p : Program} {l : Launch} {e : Env} {s : State} {m : MethodId} {below : List Frame} {meth : Method} {c : Code} {b L : Nat} {xs : Nat → Int32} {D : va_G} {ca : Nat → ClassId} {A : Nat → Prop} {H : Heap} {locs : List Loc} {ad adV : Nat → Nat} {ls : Array Slot}
/-- from the loop on -/
theorem law_from (hx : p.tables.exec = Jvm.exec) (hb : c.code = code) (hr : meth.sig.returnType = ret) (hml : c.maxLocals = 4) (hown : s.vm.findClass "RopeFerryLaw" = some m.cls) (hlocks : meth.locks = false) (hts : ∀ w ∈ zgt, w.before #[Value.ref b] s = true) (hK : va_K D zcl (zty ca) s) (hD : va_D A (zwl ad ca (zI xs L))) (hcn : zcn ad adV A (zI xs L) s s.heap) (hL : L ≤ 3072) (hA : ∀ q, A q → s.heap.size ≤ q) (hP : va_P D zcl (zwl ad ca (zI xs L)) H) (hS : va_S A s.heap H locs) (hl : lv_has ls 4 [(2, .ref (ad 60)), (1, .ref (ad 0)), (0, .ref (ad 84))]) : W p l e room_1 s m #[Value.ref b] below meth c H locs 600000 7302250 (lw_Z below #[Value.ref b] s) (F0 m 16 ls []) := by
  have hDa : ∀ h, va_D A (zwl ad ca h) := zwl_D hD
  have hJ : zstr l ad D ca adV A := js_all l hDa
  have K : zctx p room_1 s m #[Value.ref b] c 600000 7302250 ad D ca adV A (zI xs L) RL cL_law 4 130 := ⟨hx, hb, hml, hown, hts, hK, hDa, hcn, by decide, by decide, by decide, by decide⟩
  have Z : zR (0 + 130) 300 (fun v _ => v = some (.int 1)) 16 [some (.ref 84), some (.ref 0), some (.ref 60), none] [] (zI xs L) := by
    rw [r300_16, r300_17]
    exact law_loop hL (fun _ => rfl) L 0 (zI xs L) (by omega) (by omega) (zI_rel xs L) rfl rfl
  have go := Z (zPW p l e room_1 s m #[Value.ref b] below meth c 600000 7302250 (lw_Z below #[Value.ref b] s) ad D ca A true 4 (zI xs L)) (by
    intro pc lv st hh hs
    unfold zSx at hs
    split at hs
    · exact hs.elim
    · rename_i en hen
      have hen' : zfind pc zc300 = some en := hen
      obtain ⟨hin, rfl⟩ := zfind_in hen'
      obtain ⟨hdec, u, hlk⟩ := zfit_law en hin
      refine zstep K hJ (fun d' e y as h Q' hy hm => ?_) ?_ ?_ ?_ hdec hlk hs
      · obtain rfl : d' = 129 := by omega
        exact zsound l hDa hJ 129 y as h Q' hy hm
      · intro pc ls H locs h' x hdg hrk hQ h84 hP' hS'
        have hq : some (Value.int x) = some (Value.int 1) := hQ
        injection hq with hq
        injection hq with hq
        subst hq
        exact va_forget (fun q hq => hA _ (hS'.2.2 q hq)) (lw_ret hx hb hr hlocks hdg)
      · intro pc ls H locs h' o hdg hrk
        obtain ⟨n, hrk⟩ := hrk
        cases hrk
      · intro pc ls H locs h' hdg hrk
        cases hrk)
  refine go ⟨rfl, rfl⟩ ls H locs ⟨⟨hl.1, hl.2.1, fun q hq => ?_⟩, rfl, fun _ i v hi => ?_⟩ hP hS
  · have hq : q ∈ [(0, Value.ref (ad 84)), (1, Value.ref (ad 0)), (2, Value.ref (ad 60))] := hq
    simp only [List.mem_cons, List.not_mem_nil, or_false] at hq
    rcases hq with rfl | rfl | rfl
    · exact hl.2.2 _ (List.mem_cons_of_mem _ (List.mem_cons_of_mem _ List.mem_cons_self))
    · exact hl.2.2 _ (List.mem_cons_of_mem _ List.mem_cons_self)
    · exact hl.2.2 _ List.mem_cons_self
  · match i, hi with
    | 0, hi => cases hi; rfl
    | 1, hi => cases hi; rfl
    | 2, hi => cases hi; rfl
    | 3, hi => cases hi
    | i + 4, hi => cases hi
end
