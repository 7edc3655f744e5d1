/-! THE CLAIM OUT OF ONE WALK OF THE LAW'S BODY. Your part is whole_start (and what it stands on); all else here is the same for every law, but numbers. -/
def R_law : String := "KeyOrchardLaw"
def lw_P (b : Addr) (xs : List Int32) (args : Array Value) (s : State) : Prop := args = #[.ref b] ∧ s.IntsAt b xs ∧ xs.length ≤ 260 ∧ (Jvm.Cond.and given_1 narrow_1).before args s = true
def lw_Q (_ : Array Value) (s : State) (o : Outcome) (t : State) : Prop := o = .returned (some (.int 1)) ∧ Framed s o t [] 600000 7302250
def lw_Z (below : List Frame) (a : Array Value) (s : State) : State → Prop := fun t => ∃ o, t.status = .running ∧ Ended t below o ∧ lw_Q a s o t
/-- the law's own end, with 1 on the stack, nothing written that was there before, its room as the claim has it -/
theorem lw_ret {p : Program} {l : Launch} {e : Env} {s : State} {m : MethodId} {below : List Frame} {meth : Method} {c : Code} {b : Nat} (hx : p.tables.exec = Jvm.exec) (hb : c.code = code) (hr : meth.sig.returnType = ret) (hlocks : meth.locks = false) {pc : Nat} {H : Heap} {ls : Array Slot} (hdg : decode code pc = .ok (.ireturn, 1)) : W p l e room_1 s m #[Value.ref b] below meth c H [] 600000 7302250 (lw_Z below #[Value.ref b] s) (F0 m pc ls [.int 1]) := by
  intro T hT X
  obtain ⟨fs, hret, hrun, hended, hW, hframe⟩ := X.leave (v := some (.int 1)) (hlocks := hlocks) (fun h => by rw [hr] at h; cases h)
  have hmeth' : T.vm.method? m = some meth := X.method'
  refine ⟨T.setFrames fs, ?_, .returned (some (.int 1)), hrun, hended, rfl, ⟨_, rfl⟩, hW, hframe⟩
  jvm_step X.here [X.here.top, hx, hb, hdg, hmeth', hr, ret, narrow_b1]
  (try refine ⟨rfl, ?_⟩); (try refine ⟨rfl, ?_⟩)
  first | (intro acts; rw [hret _ acts rfl rfl rfl]) | rw [hret _ _ rfl rfl rfl]
  exact Steps.refl _
/-- what holds at the law's entry: the machine, the code, the tables' words (any of lw_tbl by 'hts w (by decide +kernel)'), the script of L ints xs at the cell b, what the Statement gives of the start (any of its parts by flat_of_before) -/
def lw_At (p : Program) (s : State) (m : MethodId) (meth : Method) (c : Code) (b L : Nat) (xs : Nat → Int32) : Prop :=
  p.tables.exec = Jvm.exec ∧ c.code = code ∧ meth.sig.returnType = ret ∧ c.maxLocals = 14 ∧ s.vm.findClass R_law = some m.cls ∧ (∀ w ∈ lw_tbl, w.before #[Value.ref b] s = true) ∧ va_X b L xs s s.heap ∧ b < s.heap.size ∧ meth.locks = false ∧ (Jvm.Cond.and given_1 narrow_1).before #[Value.ref b] s = true
/-- the classes and the arrays' classes, as the tables have them -/
theorem start_K {args : Array Value} {s : State} (n b L : Nat) (xs : Nat → Int32) (hts : ∀ w ∈ lw_tbl, w.before args s = true) : ∃ D : DD, KI D s ∧ fl D = n ∧ sB D = b ∧ sN D = L ∧ sV D = xs := by
  have hT : ∀ w ∈ TT, w.before args s = true := fun w hw => hts w (List.mem_filter.mp hw).1
  have hcl : ∀ c : Nat, ∃ (cC : ClassId) (iS : Nat → Nat), ∀ q : vw_C, vwCl[c]? = some q → u_Kn s q.1 q.2.1 q.2.2 cC iS := by
    intro c
    match c with
    | 0 =>
      obtain ⟨cC, iS, h⟩ := u_known hT inT0 (hT _ wi_X0)
      exact ⟨cC, iS, fun q hq => by cases hq; exact h⟩
    | 1 =>
      obtain ⟨cC, iS, h⟩ := u_known hT inT1 (hT _ wi_X1)
      exact ⟨cC, iS, fun q hq => by cases hq; exact h⟩
    | 2 =>
      obtain ⟨cC, iS, h⟩ := u_known hT inT2 (hT _ wi_X2)
      exact ⟨cC, iS, fun q hq => by cases hq; exact h⟩
    | 3 =>
      obtain ⟨cC, iS, h⟩ := u_known hT inT3 (hT _ wi_X3)
      exact ⟨cC, iS, fun q hq => by cases hq; exact h⟩
    | 4 =>
      obtain ⟨cC, iS, h⟩ := u_known hT inT4 (hT _ wi_X4)
      exact ⟨cC, iS, fun q hq => by cases hq; exact h⟩
    | 5 =>
      obtain ⟨cC, iS, h⟩ := u_known hT inT5 (hT _ wi_X5)
      exact ⟨cC, iS, fun q hq => by cases hq; exact h⟩
    | 6 =>
      obtain ⟨cC, iS, h⟩ := u_known hT inT6 (hT _ wi_X6)
      exact ⟨cC, iS, fun q hq => by cases hq; exact h⟩
    | 7 =>
      obtain ⟨cC, iS, h⟩ := u_known hT inT7 (hT _ wi_X7)
      exact ⟨cC, iS, fun q hq => by cases hq; exact h⟩
    | 8 =>
      obtain ⟨cC, iS, h⟩ := u_known hT inT8 (hT _ wi_X8)
      exact ⟨cC, iS, fun q hq => by cases hq; exact h⟩
    | c + 9 => exact ⟨Classical.choice ⟨(Cond.arrayClass_spec (hT _ wo_int)).choose⟩, fun _ => 0, fun q hq => by cases hq⟩
  obtain ⟨cA, kA, compA, a1, a2, a3⟩ := Cond.arrayClass_spec (hT _ wo_int)
  obtain ⟨cB, kB, compB, b1, b2, b3⟩ := Cond.arrayClass_spec (hT _ wo_bool)
  have hao : va_AO RX5 s := va_AO.of (hts _ (List.mem_of_getElem? (i := 37) (by decide +kernel)))
  obtain ⟨compQ, cQq, kQ, q1, -, q3, q4, q5⟩ := Cond.arrayOver_spec hao
  refine ⟨((fun c => (hcl c).choose, fun c => (hcl c).choose_spec.choose), (cA, (cB, (cQq, (n, (b, (L, xs))))))), ⟨⟨⟨fun c q hq => (hcl c).choose_spec.choose_spec q hq, fun k q hk => ?_⟩, va_Nw.of rfl (hts _ (List.mem_of_getElem? (i := 365) (by decide +kernel))), va_Nw.of rfl (hts _ (List.mem_of_getElem? (i := 454) (by decide +kernel))), va_Nw.of rfl (hts _ (List.mem_of_getElem? (i := 354) (by decide +kernel)))⟩, hao, va_Nw.of rfl (hts _ (List.mem_of_getElem? (i := 40) (by decide +kernel))), va_Nw.of rfl (hts _ (List.mem_of_getElem? (i := 62) (by decide +kernel))), va_Nw.of rfl (hts _ (List.mem_of_getElem? (i := 97) (by decide +kernel))), va_Nw.of rfl (hts _ (List.mem_of_getElem? (i := 118) (by decide +kernel))), va_Nw.of rfl (hts _ (List.mem_of_getElem? (i := 128) (by decide +kernel))), va_Nw.of rfl (hts _ (List.mem_of_getElem? (i := 239) (by decide +kernel)))⟩, rfl, rfl, rfl, rfl⟩
  match k, hk with
  | 0, hk =>
    cases hk
    exact ⟨fun n z => ⟨fun k h => (by cases h), kA, a2, compA, a3⟩, a1⟩
  | 1, hk =>
    cases hk
    exact ⟨fun n z => ⟨fun k h => (by cases h), kB, b2, compB, b3⟩, b1⟩
  | 2, hk =>
    cases hk
    exact ⟨fun n z => ⟨fun k h => (by cases h), kQ, q3, compQ, q4⟩, kQ, compQ, q3, q4, q1, q5⟩
  | k + 3, hk => cases hk
theorem P_nil {D : va_G} {H : Heap} : va_P D vwCl [] H := fun k q h => by cases h
theorem D_nil {A : Nat → Prop} : va_D A [] := ⟨fun i j p q h _ _ => (by cases h), fun k q h => (by cases h)⟩
/-- the class's 40 cells, then the law's four rows -/
def four (d1 : Nat → Nat) (r1 r2 r3 r4 : Nat) : Nat → Nat := fun k => if k < 40 then d1 k else if k = 40 then r1 else if k = 41 then r2 else if k = 42 then r3 else r4
set_option maxHeartbeats 4000000 in
set_option maxRecDepth 100000 in
theorem four_lo {D : DD} (d1 : Nat → Nat) (r1 r2 r3 r4 : Nat) (k : Nat) (hk : k < 40) : (d1 k, cellF D d1 k (sI k)) = (four d1 r1 r2 r3 r4 k, cellF D (four d1 r1 r2 r3 r4) k (sI k)) := by
  have e : ∀ j, j < 40 → four d1 r1 r2 r3 r4 j = d1 j := fun j h => if_pos h
  by_cases h1 : k = 1
  · subst h1
    refine congrArg (Prod.mk (d1 1)) (congrArg (fun f => (Sum.inl (D.2.2.2.1, 4, .inr (.inr (.inr (.inr f)))) : va_E)) (funext fun i => ?_))
    by_cases hi : i < 4
    · rw [if_pos hi, if_pos hi, e _ (by omega)]
    · rw [if_neg hi, if_neg hi]
  · rcases (show k = 0 ∨ k = 2 ∨ k = 3 ∨ k = 4 ∨ k = 5 ∨ k = 6 ∨ k = 7 ∨ k = 8 ∨ k = 9 ∨ k = 10 ∨ k = 11 ∨ k = 12 ∨ k = 13 ∨ k = 14 ∨ k = 15 ∨ k = 16 ∨ k = 17 ∨ k = 18 ∨ k = 19 ∨ k = 20 ∨ k = 21 ∨ k = 22 ∨ k = 23 ∨ k = 24 ∨ k = 25 ∨ k = 26 ∨ k = 27 ∨ k = 28 ∨ k = 29 ∨ k = 30 ∨ k = 31 ∨ k = 32 ∨ k = 33 ∨ k = 34 ∨ k = 35 ∨ k = 36 ∨ k = 37 ∨ k = 38 ∨ k = 39 by omega) with rfl | rfl | rfl | rfl | rfl | rfl | rfl | rfl | rfl | rfl | rfl | rfl | rfl | rfl | rfl | rfl | rfl | rfl | rfl | rfl | rfl | rfl | rfl | rfl | rfl | rfl | rfl | rfl | rfl | rfl | rfl | rfl | rfl | rfl | rfl | rfl | rfl | rfl | rfl <;> rfl
theorem four_all {D : DD} (hf : fl D = 0) (d1 : Nat → Nat) (r1 r2 r3 r4 : Nat) : (((((List.range 40).map (fun k => (d1 k, cellF D d1 k (sI k)))) ++ [(r1, cI D 48 z0)]) ++ [(r2, cI D 30 z0)]) ++ [(r3, cI D 30 z0)]) ++ [(r4, cI D 30 z0)] = wAll D (four d1 r1 r2 r3 r4) sI := by
  unfold wAll
  rw [hf, show List.range (44 + 0) = List.range 40 ++ [40, 41, 42, 43] from by decide, List.map_append]
  have h1 : ((List.range 40).map (fun k => (d1 k, cellF D d1 k (sI k)))) = ((List.range 40).map (fun k => (four d1 r1 r2 r3 r4 k, cellF D (four d1 r1 r2 r3 r4) k (sI k)))) := List.map_congr_left (fun k hk => four_lo d1 r1 r2 r3 r4 k (List.mem_range.mp hk))
  rw [h1, List.append_assoc, List.append_assoc, List.append_assoc]
  rfl
/-- and the row r -/
def withR (ad : Nat → Nat) (a : Nat) : Nat → Nat := fun k => if k = 44 then a else ad k
def flD (D : DD) : DD := (D.1, (D.2.1, (D.2.2.1, (D.2.2.2.1, (1, D.2.2.2.2.2)))))
set_option maxHeartbeats 4000000 in
set_option maxRecDepth 100000 in
theorem grow_lo {D : DD} {σ : ST} (ad : Nat → Nat) (a : Nat) (k : Nat) (hk : k < 44) : (ad k, cellF D ad k (σ k)) = (withR ad a k, cellF (flD D) (withR ad a) k (setc σ 44 z0 k)) := by
  have e : ∀ j, j < 44 → withR ad a j = ad j := fun j h => if_neg (by omega)
  by_cases h1 : k = 1
  · subst h1
    refine congrArg (Prod.mk (ad 1)) (congrArg (fun f => (Sum.inl (D.2.2.2.1, 4, .inr (.inr (.inr (.inr f)))) : va_E)) (funext fun i => ?_))
    by_cases hi : i < 4
    · rw [if_pos hi, if_pos hi, e _ (by omega)]
    · rw [if_neg hi, if_neg hi]
  · rcases (show k = 0 ∨ k = 2 ∨ k = 3 ∨ k = 4 ∨ k = 5 ∨ k = 6 ∨ k = 7 ∨ k = 8 ∨ k = 9 ∨ k = 10 ∨ k = 11 ∨ k = 12 ∨ k = 13 ∨ k = 14 ∨ k = 15 ∨ k = 16 ∨ k = 17 ∨ k = 18 ∨ k = 19 ∨ k = 20 ∨ k = 21 ∨ k = 22 ∨ k = 23 ∨ k = 24 ∨ k = 25 ∨ k = 26 ∨ k = 27 ∨ k = 28 ∨ k = 29 ∨ k = 30 ∨ k = 31 ∨ k = 32 ∨ k = 33 ∨ k = 34 ∨ k = 35 ∨ k = 36 ∨ k = 37 ∨ k = 38 ∨ k = 39 ∨ k = 40 ∨ k = 41 ∨ k = 42 ∨ k = 43 by omega) with rfl | rfl | rfl | rfl | rfl | rfl | rfl | rfl | rfl | rfl | rfl | rfl | rfl | rfl | rfl | rfl | rfl | rfl | rfl | rfl | rfl | rfl | rfl | rfl | rfl | rfl | rfl | rfl | rfl | rfl | rfl | rfl | rfl | rfl | rfl | rfl | rfl | rfl | rfl | rfl | rfl | rfl | rfl <;> rfl
theorem grow_all {D : DD} {σ : ST} (hf : fl D = 0) (ad : Nat → Nat) (a : Nat) : wAll D ad σ ++ [(a, cI D 18 z0)] = wAll (flD D) (withR ad a) (setc σ 44 z0) := by
  unfold wAll
  rw [hf, show List.range (44 + fl (flD D)) = List.range 44 ++ [44] from List.range_succ, List.map_append]
  have h1 : ((List.range (44 + 0)).map (fun k => (ad k, cellF D ad k (σ k)))) = ((List.range 44).map (fun k => (withR ad a k, cellF (flD D) (withR ad a) k (setc σ 44 z0 k)))) := List.map_congr_left (fun k hk => grow_lo ad a k (List.mem_range.mp hk))
  rw [h1]
  rfl
