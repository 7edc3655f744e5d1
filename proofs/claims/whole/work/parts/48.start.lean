/-! THE CLAIM OUT OF ONE WALK OF THE LAW'S BODY. Your part is whole_start (and what it stands on); all else here is the same for every law, but numbers. -/
def R_law : String := "KeyOrchardLaw"
def lw_P (b : Addr) (xs : List Int32) (args : Array Value) (s : State) : Prop := args = #[.ref b] ∧ s.IntsAt b xs ∧ xs.length ≤ 3072 ∧ (Jvm.Cond.and given_1 narrow_1).before args s = true
def lw_Q (_ : Array Value) (s : State) (o : Outcome) (t : State) : Prop := o = .returned (some (.int 1)) ∧ Framed s o t [] 600000 7302250
def lw_Z (below : List Frame) (a : Array Value) (s : State) : State → Prop := fun t => ∃ o, t.status = .running ∧ Ended t below o ∧ lw_Q a s o t
/-- the law's own end, with 1 on the stack, nothing written that was there before, its room as the claim has it -/
theorem lw_ret {p : Program} {l : Launch} {e : Env} {s : State} {m : MethodId} {below : List Frame} {meth : Method} {c : Code} {b : Nat} (hx : p.tables.exec = Jvm.exec) (hb : c.code = code) (hr : meth.sig.returnType = ret) (hlocks : meth.locks = false) {pc : Nat} {H : Heap} {ls : Array Slot} (hdg : decode code pc = .ok (.ireturn, 1)) : W p l e room_1 s m #[Value.ref b] below meth c H [] 600000 7302250 (lw_Z below #[Value.ref b] s) (F0 m pc ls [.int 1]) := by
  intro T hT X
  obtain ⟨fs, hret, hrun, hended, hW, hframe⟩ := X.leave (v := some (.int 1)) (hlocks := hlocks) (fun h => by rw [hr] at h; cases h)
  have hmeth' : T.vm.method? m = some meth := X.method'
  refine ⟨T.setFrames fs, ?_, .returned (some (.int 1)), hrun, hended, rfl, ⟨_, rfl⟩, hW, hframe⟩
  jvm_step X.here [X.here.top, hx, hb, hdg, hmeth', hr, ret, narrow_b1]
  (try refine ⟨rfl, ?_⟩); (try refine ⟨rfl, ?_⟩)
  first | (intro acts; rw [hret _ acts rfl rfl rfl]) | rw [hret _ _ rfl rfl rfl]
  exact Steps.refl _
/-- what holds at the law's entry: the machine, the code, the tables' words (any of lw_tbl by 'hts w (by decide +kernel)'), the script of L ints xs at the cell b, what the Statement gives of the start (any of its parts by flat_of_before) -/
def lw_At (p : Program) (s : State) (m : MethodId) (meth : Method) (c : Code) (b L : Nat) (xs : Nat → Int32) : Prop :=
  p.tables.exec = Jvm.exec ∧ c.code = code ∧ meth.sig.returnType = ret ∧ c.maxLocals = 4 ∧ s.vm.findClass R_law = some m.cls ∧ (∀ w ∈ lw_tbl, w.before #[Value.ref b] s = true) ∧ va_X b L xs s s.heap ∧ b < s.heap.size ∧ meth.locks = false ∧ (Jvm.Cond.and given_1 narrow_1).before #[Value.ref b] s = true
/-- the classes and the arrays' classes, as the tables have them -/
theorem start_K {args : Array Value} {s : State} (hts : ∀ w ∈ lw_tbl, w.before args s = true) : ∃ D : DD, KI D s := by
  have hT : ∀ w ∈ TT, w.before args s = true := fun w hw => hts w (List.mem_filter.mp hw).1
  have hcl : ∀ c : Nat, ∃ (cC : ClassId) (iS : Nat → Nat), ∀ q : vw_C, vwCl[c]? = some q → u_Kn s q.1 q.2.1 q.2.2 cC iS := by
    intro c
    match c with
    | 0 =>
      obtain ⟨cC, iS, h⟩ := u_known hT inT0 (hT _ wi_X0)
      exact ⟨cC, iS, fun q hq => by cases hq; exact h⟩
    | 1 =>
      obtain ⟨cC, iS, h⟩ := u_known hT inT1 (hT _ wi_X1)
      exact ⟨cC, iS, fun q hq => by cases hq; exact h⟩
    | 2 =>
      obtain ⟨cC, iS, h⟩ := u_known hT inT2 (hT _ wi_X2)
      exact ⟨cC, iS, fun q hq => by cases hq; exact h⟩
    | 3 =>
      obtain ⟨cC, iS, h⟩ := u_known hT inT3 (hT _ wi_X3)
      exact ⟨cC, iS, fun q hq => by cases hq; exact h⟩
    | 4 =>
      obtain ⟨cC, iS, h⟩ := u_known hT inT4 (hT _ wi_X4)
      exact ⟨cC, iS, fun q hq => by cases hq; exact h⟩
    | 5 =>
      obtain ⟨cC, iS, h⟩ := u_known hT inT5 (hT _ wi_X5)
      exact ⟨cC, iS, fun q hq => by cases hq; exact h⟩
    | 6 =>
      obtain ⟨cC, iS, h⟩ := u_known hT inT6 (hT _ wi_X6)
      exact ⟨cC, iS, fun q hq => by cases hq; exact h⟩
    | 7 =>
      obtain ⟨cC, iS, h⟩ := u_known hT inT7 (hT _ wi_X7)
      exact ⟨cC, iS, fun q hq => by cases hq; exact h⟩
    | 8 =>
      obtain ⟨cC, iS, h⟩ := u_known hT inT8 (hT _ wi_X8)
      exact ⟨cC, iS, fun q hq => by cases hq; exact h⟩
    | 9 =>
      obtain ⟨cC, iS, h⟩ := u_known hT inT9 (hT _ wi_X9)
      exact ⟨cC, iS, fun q hq => by cases hq; exact h⟩
    | c + 10 => exact ⟨Classical.choice ⟨(Cond.arrayClass_spec (hT _ wo_int)).choose⟩, fun _ => 0, fun q hq => by cases hq⟩
  obtain ⟨cA, kA, compA, a1, a2, a3⟩ := Cond.arrayClass_spec (hT _ wo_int)
  obtain ⟨cB, kB, compB, b1, b2, b3⟩ := Cond.arrayClass_spec (hT _ wo_bool)
  have hao : va_AO RX5 s := va_AO.of (hts _ (List.mem_of_getElem? (i := 70) (by decide +kernel)))
  obtain ⟨compQ, cQq, kQ, q1, -, q3, q4, q5⟩ := Cond.arrayOver_spec hao
  refine ⟨((fun c => (hcl c).choose, fun c => (hcl c).choose_spec.choose), (cA, (cB, cQq))), ⟨⟨fun c q hq => (hcl c).choose_spec.choose_spec q hq, fun k q hk => ?_⟩, va_Nw.of rfl (hts _ (List.mem_of_getElem? (i := 405) (by decide +kernel))), va_Nw.of rfl (hts _ (List.mem_of_getElem? (i := 494) (by decide +kernel))), va_Nw.of rfl (hts _ (List.mem_of_getElem? (i := 394) (by decide +kernel)))⟩, hao, va_Nw.of rfl (hts _ (List.mem_of_getElem? (i := 73) (by decide +kernel))), va_Nw.of rfl (hts _ (List.mem_of_getElem? (i := 95) (by decide +kernel))), va_Nw.of rfl (hts _ (List.mem_of_getElem? (i := 130) (by decide +kernel))), va_Nw.of rfl (hts _ (List.mem_of_getElem? (i := 151) (by decide +kernel))), va_Nw.of rfl (hts _ (List.mem_of_getElem? (i := 162) (by decide +kernel))), va_Nw.of rfl (hts _ (List.mem_of_getElem? (i := 278) (by decide +kernel)))⟩
  match k, hk with
  | 0, hk =>
    cases hk
    exact ⟨fun n z => ⟨fun k h => (by cases h), kA, a2, compA, a3⟩, a1⟩
  | 1, hk =>
    cases hk
    exact ⟨fun n z => ⟨fun k h => (by cases h), kB, b2, compB, b3⟩, b1⟩
  | 2, hk =>
    cases hk
    exact ⟨fun n z => ⟨fun k h => (by cases h), kQ, q3, compQ, q4⟩, kQ, compQ, q3, q4, q1, q5⟩
  | k + 3, hk => cases hk
def two (d1 d2 : Nat → Nat) : Nat → Nat := fun k => if k < 40 then d1 k else d2 k
theorem P_nil {D : va_G} {H : Heap} : va_P D vwCl [] H := fun k q h => by cases h
theorem D_nil {A : Nat → Prop} : va_D A [] := ⟨fun i j p q h _ _ => (by cases h), fun k q h => (by cases h)⟩
set_option maxHeartbeats 4000000 in
set_option maxRecDepth 100000 in
theorem two_lo {D : DD} (d1 d2 : Nat → Nat) (k : Nat) (hk : k < 40) : (d1 k, cellF D d1 k (sI k)) = (two d1 d2 k, cellF D (two d1 d2) k (sI k)) := by
  have e : ∀ j, j < 40 → two d1 d2 j = d1 j := fun j h => if_pos h
  by_cases h1 : k = 1
  · subst h1
    refine congrArg (Prod.mk (d1 1)) (congrArg (fun f => (Sum.inl (D.2.2.2, 4, .inr (.inr (.inr (.inr f)))) : va_E)) (funext fun i => ?_))
    by_cases hi : i < 4
    · rw [if_pos hi, if_pos hi, e _ (by omega)]
    · rw [if_neg hi, if_neg hi]
  · rcases (show k = 0 ∨ k = 2 ∨ k = 3 ∨ k = 4 ∨ k = 5 ∨ k = 6 ∨ k = 7 ∨ k = 8 ∨ k = 9 ∨ k = 10 ∨ k = 11 ∨ k = 12 ∨ k = 13 ∨ k = 14 ∨ k = 15 ∨ k = 16 ∨ k = 17 ∨ k = 18 ∨ k = 19 ∨ k = 20 ∨ k = 21 ∨ k = 22 ∨ k = 23 ∨ k = 24 ∨ k = 25 ∨ k = 26 ∨ k = 27 ∨ k = 28 ∨ k = 29 ∨ k = 30 ∨ k = 31 ∨ k = 32 ∨ k = 33 ∨ k = 34 ∨ k = 35 ∨ k = 36 ∨ k = 37 ∨ k = 38 ∨ k = 39 by omega) with rfl | rfl | rfl | rfl | rfl | rfl | rfl | rfl | rfl | rfl | rfl | rfl | rfl | rfl | rfl | rfl | rfl | rfl | rfl | rfl | rfl | rfl | rfl | rfl | rfl | rfl | rfl | rfl | rfl | rfl | rfl | rfl | rfl | rfl | rfl | rfl | rfl | rfl | rfl <;> rfl
set_option maxHeartbeats 4000000 in
set_option maxRecDepth 100000 in
theorem two_hi {D : DD} (d1 d2 : Nat → Nat) (k : Nat) (hk : k < 28) : (d2 (40 + k), cellF D d2 (40 + k) (sI (40 + k))) = (two d1 d2 (40 + k), cellF D (two d1 d2) (40 + k) (sI (40 + k))) := by
  rcases (show k = 0 ∨ k = 1 ∨ k = 2 ∨ k = 3 ∨ k = 4 ∨ k = 5 ∨ k = 6 ∨ k = 7 ∨ k = 8 ∨ k = 9 ∨ k = 10 ∨ k = 11 ∨ k = 12 ∨ k = 13 ∨ k = 14 ∨ k = 15 ∨ k = 16 ∨ k = 17 ∨ k = 18 ∨ k = 19 ∨ k = 20 ∨ k = 21 ∨ k = 22 ∨ k = 23 ∨ k = 24 ∨ k = 25 ∨ k = 26 ∨ k = 27 by omega) with rfl | rfl | rfl | rfl | rfl | rfl | rfl | rfl | rfl | rfl | rfl | rfl | rfl | rfl | rfl | rfl | rfl | rfl | rfl | rfl | rfl | rfl | rfl | rfl | rfl | rfl | rfl | rfl <;> rfl
theorem two_all {D : DD} (d1 d2 : Nat → Nat) : ((List.range 40).map (fun k => (d1 k, cellF D d1 k (sI k)))) ++ ((List.range 28).map (fun k => (d2 (40 + k), cellF D d2 (40 + k) (sI (40 + k))))) = wAll D (two d1 d2) sI := by
  unfold wAll
  rw [show List.range 68 = List.range 40 ++ (List.range 28).map (fun k => 40 + k) from by decide, List.map_append, List.map_map]
  have h1 : ((List.range 40).map (fun k => (d1 k, cellF D d1 k (sI k)))) = ((List.range 40).map (fun k => (two d1 d2 k, cellF D (two d1 d2) k (sI k)))) := List.map_congr_left (fun k hk => two_lo d1 d2 k (List.mem_range.mp hk))
  have h2 : ((List.range 28).map (fun k => (d2 (40 + k), cellF D d2 (40 + k) (sI (40 + k))))) = ((List.range 28).map (fun k => (two d1 d2 (40 + k), cellF D (two d1 d2) (40 + k) (sI (40 + k))))) := List.map_congr_left (fun k hk => two_hi d1 d2 k (List.mem_range.mp hk))
  rw [h1, h2]
  rfl
abbrev withAd (X : CT) (ad : Nat → Nat) : CT := (X.1, X.2.1, X.2.2.1, (xD X, ad, xA X, xn X))
set_option maxHeartbeats 4000000 in
set_option maxRecDepth 100000 in
theorem law_pre {X : CT} {b L : Nat} {sc : Nat → Int32} (C : Nx X RL cL_law 9 326) (hKI : KI (xD X) (xs X)) (S : Sx X b L sc) (hL : L ≤ 3072) (hn : xn X = 4) (hr : (xmeth X).sig.returnType = ret) (hc : ∀ i, i ≤ 1000 → i ≤ xcells X) (hs : ∀ i, i ≤ 10000 → i ≤ xslots X) (hend : ∀ (d : Nat → Nat) (i : Nat) (τ : ST), V (withAd X d) 1295 [.ref b, .ref (d 0), .ref (d 40), .int (nI i)] [] τ) : N X 0 [.ref b, .float 0, .float 0, .float 0] [] [] 0 0 := by
  refine N_new (q := 3) (ci := 8) C [.null, .null, .null, .null, .null, .null, .null, .null, .int 0] rfl inT8 tyX8_ok wl_L_7 wi_X8 wn_X8 (fun j hj => by rcases (show j = 0 ∨ j = 1 ∨ j = 2 ∨ j = 3 ∨ j = 4 ∨ j = 5 ∨ j = 6 ∨ j = 7 ∨ j = 8 by omega) with rfl | rfl | rfl | rfl | rfl | rfl | rfl | rfl | rfl <;> rfl) (hc _ (by decide)) (hs _ (by decide)) rfl dL_law_0 (fun r => ?_)
  refine N_dup (q := 4) C rfl rfl dL_law_3 ?_
  refine N_callI (q := 7) (wr := []) (As := []) (rest := [.ref r]) C (n_X8 r) cw_X8_init rfl ci_X8_init wm_L_9 (fun U hW => hKI.warm hW) (fun U g mk b h => h.calling g mk b) ⟨by decide, by decide⟩ rfl rfl (Nat.le_of_ble_eq_true rfl) ⟨hc _ (by decide), hs _ (by decide)⟩ rfl rfl dL_law_4 (fun wr hBr => ?_)
  obtain ⟨d1, rfl, rfl⟩ := hBr
  refine N_w (ws' := ((List.range 40).map (fun k => (d1 k, cellF (xD X) d1 k (sI k))))) (k' := 40) (z' := 598) rfl rfl rfl ?_
  refine N_astore_1 (q := 8) C (by rw [hn]; decide) rfl rfl dL_law_7 ?_
  refine N_new (q := 11) (ci := 9) C [.int 0, .int 0, .null, .null, .null, .int 0, .int 0, .null, .null, .null, .null, .null, .null, .null, .null, .null, .int 0, .int 0, .int 0, .null, .null, .null, .null, .null, .int 0, .null, .null, .null, .null, .null, .null, .int 0, .null, .int 0, .null, .null, .null] rfl inT9 tyX9_ok wl_L_10 wi_X9 wn_X9 (fun j hj => by rcases (show j = 0 ∨ j = 1 ∨ j = 2 ∨ j = 3 ∨ j = 4 ∨ j = 5 ∨ j = 6 ∨ j = 7 ∨ j = 8 ∨ j = 9 ∨ j = 10 ∨ j = 11 ∨ j = 12 ∨ j = 13 ∨ j = 14 ∨ j = 15 ∨ j = 16 ∨ j = 17 ∨ j = 18 ∨ j = 19 ∨ j = 20 ∨ j = 21 ∨ j = 22 ∨ j = 23 ∨ j = 24 ∨ j = 25 ∨ j = 26 ∨ j = 27 ∨ j = 28 ∨ j = 29 ∨ j = 30 ∨ j = 31 ∨ j = 32 ∨ j = 33 ∨ j = 34 ∨ j = 35 ∨ j = 36 by omega) with rfl | rfl | rfl | rfl | rfl | rfl | rfl | rfl | rfl | rfl | rfl | rfl | rfl | rfl | rfl | rfl | rfl | rfl | rfl | rfl | rfl | rfl | rfl | rfl | rfl | rfl | rfl | rfl | rfl | rfl | rfl | rfl | rfl | rfl | rfl | rfl | rfl <;> rfl) (hc _ (by decide)) (hs _ (by decide)) rfl dL_law_8 (fun r => ?_)
  refine N_dup (q := 12) C rfl rfl dL_law_11 ?_
  refine N_callI (q := 15) (wr := ((List.range 40).map (fun k => (d1 k, cellF (xD X) d1 k (sI k))))) (As := []) (rest := [.ref r]) C (n_X9 r) cw_X9_init rfl ci_X9_init wm_L_12 (fun U hW => C.K.warm hW) (fun U g mk b h => h.calling g mk b) ⟨by decide, by decide⟩ rfl rfl (Nat.le_of_ble_eq_true rfl) ⟨hc _ (by decide), hs _ (by decide)⟩ rfl rfl dL_law_12 (fun wr hBr => ?_)
  obtain ⟨d2, rfl, rfl⟩ := hBr
  refine N_w (ws' := wAll (xD X) (two d1 d2) sI) (k' := 68) (z' := 1089) (two_all d1 d2) rfl rfl ?_
  refine N_astore_2 (q := 16) C (by rw [hn]; decide) rfl rfl dL_law_15 ?_
  refine N_iconst (q := 17) (v := 0) C rfl rfl dL_law_16 ?_
  refine N_istore_3 (q := 18) C (by rw [hn]; decide) rfl rfl dL_law_17 ?_
  intro H locs ls hP hD hS hl
  refine W.widen (hc 68 (by decide)) (hs 1089 (by decide)) ?_
  have hat : ∀ k, k < 68 → (wAll (xD X) (two d1 d2) sI)[k]? = some (two d1 d2 k, cellF (xD X) (two d1 d2) k (sI k)) := fun k hk => wAll_at hk
  have hI : Inj (two d1 d2) := fun i j hi hj e => hD.1 i j _ _ (hat i hi) (hat j hj) e
  have hA : ∀ k, k < 68 → xA X (two d1 d2 k) := fun k hk => hD.2 k _ (hat k hk)
  have C2 : Cx (withAd X (two d1 d2)) RL cL_law ret 9 326 := ⟨C.x, C.b, C.ml, hr, C.locks, C.ow, C.ts, C.K, hI, C.A1, hA, C.hf, C.hlo, C.ce, C.sl⟩
  exact law_loop (X := withAd X (two d1 d2)) C2 S hL (by show 3 < xn X; rw [hn]; decide) (fun i τ => hend (two d1 d2) i τ) (L + 6) 0 sI (by omega) (Nat.zero_le _) sI_rel H locs ls hP hS hl
set_option maxHeartbeats 4000000 in
set_option maxRecDepth 100000 in
theorem whole_start {p : Program} {e : Env} {s : State} {m : MethodId} {below : List Frame} {meth : Method} {c : Code} (l : Launch) (hflags : l.flags = flags0) {b L : Nat} {xs : Nat → Int32} (hL : L ≤ 3072) (C0 : lw_At p s m meth c b L xs) : W p l e room_1 s m #[Value.ref b] below meth c s.heap [] 0 0 (lw_Z below #[Value.ref b] s) (entryFrame m ([Value.ref b] : List Value).toArray 4) := by
  obtain ⟨hx, hb, hr, hml, hown, hts, hX, hbl, hlocks, hgv⟩ := C0
  obtain ⟨D, hKI⟩ := start_K hts
  have hl := lv_entry ([.ref b]) (n := 4) (Nat.le_of_ble_eq_true rfl)
  rw [lg_entry_eq]
  have hbA : ¬ s.heap.size ≤ b := Nat.not_le.mpr hbl
  have hT : ∀ w ∈ TT, w.before #[Value.ref b] s = true := fun w hw => hts w (List.mem_filter.mp hw).1
  have hend : ∀ (d : Nat → Nat) (i : Nat) (τ : ST), V (withAd ((p, l, e, room_1), (s, m, #[Value.ref b], below), (meth, c, 600000, 7302250, lw_Z below #[Value.ref b] s), (D, (fun _ => 0), (fun q => s.heap.size ≤ q), 4)) d) 1295 [.ref b, .ref (d 0), .ref (d 40), .int (nI i)] [] τ := by
    intro d i τ H locs ls hP hS hl
    refine lv_iconst (v := 1) hx hb dL_law_1295 (by decide) ?_
    refine va_forget (fun q hq => hS.2.2 q hq) ?_
    exact lw_ret hx hb hr hlocks dL_law_1296
  have hN := law_pre (X := ((p, l, e, room_1), (s, m, #[Value.ref b], below), (meth, c, 600000, 7302250, lw_Z below #[Value.ref b] s), (D, (fun _ => 0), (fun q => s.heap.size ≤ q), 4))) (b := b) (L := L) (sc := xs) ⟨hx, hb, hml, hlocks, hown, hT, hKI.1, fun q h => h, Nat.le_of_ble_eq_true rfl, Nat.le_of_ble_eq_true rfl, Nat.le_of_ble_eq_true rfl, Nat.le_of_ble_eq_true rfl⟩ hKI ⟨hX, hbl, hbA⟩ hL rfl hr (fun i h => Nat.le_trans h (Nat.le_of_ble_eq_true rfl)) (fun i h => Nat.le_trans h (Nat.le_of_ble_eq_true rfl)) hend
  exact hN s.heap [] _ P_nil D_nil va_S.rf ⟨hl.1, hl.2.1, hl.2.2⟩
