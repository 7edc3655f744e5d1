abbrev withAd (X : CT) (ad : Nat → Nat) : CT := (X.1, X.2.1, X.2.2.1, (xD X, ad, xA X, xn X))
abbrev withRX (X : CT) (c2 s2 a : Nat) : CT := (X.1, X.2.1, (xmeth X, xc X, c2, s2, xQ X), (flD (xD X), withR (xad X) a, xA X, xn X))
set_option maxHeartbeats 4000000 in
set_option maxRecDepth 100000 in
theorem law_row {X : CT} {σ : ST} {T P n : Nat} (c2 s2 : Nat) (C : Cx X RL cL_law ret 9 308) (hf0 : fl (xD X) = 0) (hxn : xn X = 14) (hsm : sN (xD X) < 2 ^ 31) (hc1 : xcells X + 1 ≤ c2) (hs1 : xslots X + 18 ≤ s2) (hc2 : c2 ≤ (xR X).cells) (hs2 : s2 ≤ (xR X).slots) (hL : LI σ T P 0) (hend : ∀ (a : Nat) (lv : List Value) (τ : ST), V (withRX X c2 s2 a) 881 lv [.int 1] τ) : V X 70 [.ref (sB (xD X)), .ref (xad X 0), .ref (xad X 40), .ref (xad X 41), .ref (xad X 42), .ref (xad X 43), .int (nI n), .float 0, .float 0, .float 0, .float 0, .float 0, .float 0, .float 0] [] σ := by
  refine V_bipush (q := 72) (v := 18) C (by decide) rfl dL_law_70 ?_
  intro H locs ls hP hS hl
  refine va_newa (atype := .int) C.x C.b (C.ts _ wo_int) (ty := .int) rfl C.K.1 hP C.D hS C.A1 (N' := 18) (a0 := (18, .inl z0)) (fun _ => rfl) (nI_pos (n := 18) (by decide)) (nI_clamp (n := 18) (by decide)) (by decide) (Nat.le_trans hc1 hc2) (Nat.le_trans hs1 hs2) dL_law_72 (fun a cA H1 hK1 hP1 hD1 hS1 => ?_)
  have e : cA = (xD X).2.1 := (K_int hK1 (i := 0) (j := 3) rfl rfl).symm
  subst e
  refine W.widen hc1 hs1 ?_
  have hP2 : va_P (xD X).1 vwCl (wAll (flD (xD X)) (withR (xad X) a) (setc σ 44 z0)) H1 := by rw [← grow_all hf0]; exact hP1
  have hD2 : va_D (xA X) (wAll (flD (xD X)) (withR (xad X) a) (setc σ 44 z0)) := by rw [← grow_all hf0]; exact hD1
  have hat : ∀ k, k < 44 + fl (flD (xD X)) → (wAll (flD (xD X)) (withR (xad X) a) (setc σ 44 z0))[k]? = some (withR (xad X) a k, cellF (flD (xD X)) (withR (xad X) a) k (setc σ 44 z0 k)) := fun k hk => wAll_at hk
  have hI : Inj (flD (xD X)) (withR (xad X) a) := fun i j hi hj e => hD2.1 i j _ _ (hat i hi) (hat j hj) e
  have hA : ∀ k, k < 44 + fl (flD (xD X)) → xA X (withR (xad X) a k) := fun k hk => hD2.2 k _ (hat k hk)
  have C2 : Cx (withRX X c2 s2 a) RL cL_law ret 9 308 := ⟨C.x, C.b, C.ml, C.r, C.locks, C.ow, C.ts, C.K, ⟨hI, C.S⟩, C.A1, hA, C.hf, C.hlo, hc2, hs2⟩
  have hV : V (withRX X c2 s2 a) 74 [.ref (sB (flD (xD X))), .ref (withR (xad X) a 0), .ref (withR (xad X) a 40), .ref (withR (xad X) a 41), .ref (withR (xad X) a 42), .ref (withR (xad X) a 43), .int (nI n), .float 0, .float 0, .float 0, .float 0, .float 0, .float 0, .float 0] [.ref (withR (xad X) a 44)] (setc σ 44 z0) := by
    refine V_astore_7 (q := 76) C2 (by show 7 < xn X; rw [hxn]; decide) rfl rfl dL_law_74 ?_
    exact law_turns (X := withRX X c2 s2 a) C2 hxn rfl hsm hL.r (hend a)
  exact hV H1 locs ls hP2 hS1 hl
set_option maxHeartbeats 4000000 in
set_option maxRecDepth 100000 in
theorem law_pre {X : CT} (C : Nx X RL cL_law 9 308) (hKI : KI (xD X) (xs X)) (hf0 : fl (xD X) = 0) (S : Sx X) (hn : xn X = 14) (hr : (xmeth X).sig.returnType = ret) (hc : ∀ i, i ≤ 1000 → i ≤ xcells X) (hs : ∀ i, i ≤ 10000 → i ≤ xslots X) (hV : ∀ ad : Nat → Nat, Cx (withAd X ad) RL cL_law ret 9 308 → V (withAd X ad) 30 [.ref (sB (xD X)), .ref (ad 0), .ref (ad 40), .ref (ad 41), .ref (ad 42), .ref (ad 43), .float 0, .float 0, .float 0, .float 0, .float 0, .float 0, .float 0, .float 0] [] sI) : N X 0 [.ref (sB (xD X)), .float 0, .float 0, .float 0, .float 0, .float 0, .float 0, .float 0, .float 0, .float 0, .float 0, .float 0, .float 0, .float 0] [] [] 0 0 := by
  refine N_new (q := 3) (ci := 8) C [.null, .null, .null, .null, .null, .null, .null, .null, .int 0] rfl inT8 tyX8_ok wl_L_20 wi_X8 wn_X8 (fun j hj => by rcases (show j = 0 ∨ j = 1 ∨ j = 2 ∨ j = 3 ∨ j = 4 ∨ j = 5 ∨ j = 6 ∨ j = 7 ∨ j = 8 by omega) with rfl | rfl | rfl | rfl | rfl | rfl | rfl | rfl | rfl <;> rfl) (hc _ (by decide)) (hs _ (by decide)) rfl dL_law_0 (fun r => ?_)
  refine N_dup (q := 4) C rfl rfl dL_law_3 ?_
  refine N_callI (q := 7) (wr := []) (As := []) (rest := [.ref r]) C (n_X8 r) cw_X8_init rfl ci_X8_init wm_L_55 (fun U hW => hKI.warm hW) (fun U g mk b h => h.calling g mk b) ⟨by decide, by decide⟩ rfl rfl (Nat.le_of_ble_eq_true rfl) ⟨hc _ (by decide), hs _ (by decide)⟩ rfl rfl dL_law_4 (fun w1 hB => ?_)
  obtain ⟨d1, rfl, rfl⟩ := hB
  refine N_w (ws' := ((List.range 40).map (fun k => (d1 k, cellF (xD X) d1 k (sI k))))) (k' := 40) (z' := 598) rfl rfl rfl ?_
  refine N_astore_1 (q := 8) C (by rw [hn]; decide) rfl rfl dL_law_7 ?_
  refine N_bipush (q := 10) (v := 48) C (by decide) rfl dL_law_8 ?_
  refine N_newi (q := 12) C 48 rfl (by decide) (hc _ (by decide)) (hs _ (by decide)) rfl dL_law_10 (fun r1 => ?_)
  refine N_astore_2 (q := 13) C (by rw [hn]; decide) rfl rfl dL_law_12 ?_
  refine N_bipush (q := 15) (v := 30) C (by decide) rfl dL_law_13 ?_
  refine N_newi (q := 17) C 30 rfl (by decide) (hc _ (by decide)) (hs _ (by decide)) rfl dL_law_15 (fun r2 => ?_)
  refine N_astore_3 (q := 18) C (by rw [hn]; decide) rfl rfl dL_law_17 ?_
  refine N_bipush (q := 20) (v := 30) C (by decide) rfl dL_law_18 ?_
  refine N_newi (q := 22) C 30 rfl (by decide) (hc _ (by decide)) (hs _ (by decide)) rfl dL_law_20 (fun r3 => ?_)
  refine N_astore_4 (q := 24) C (by rw [hn]; decide) rfl rfl dL_law_22 ?_
  refine N_bipush (q := 26) (v := 30) C (by decide) rfl dL_law_24 ?_
  refine N_newi (q := 28) C 30 rfl (by decide) (hc _ (by decide)) (hs _ (by decide)) rfl dL_law_26 (fun r4 => ?_)
  refine N_astore_5 (q := 30) C (by rw [hn]; decide) rfl rfl dL_law_28 ?_
  refine N_w (ws' := wAll (xD X) (four d1 r1 r2 r3 r4) sI) (k' := 44) (z' := 736) (four_all hf0 d1 r1 r2 r3 r4) rfl rfl ?_
  intro H locs ls hP hD hS hl
  refine W.widen (hc 44 (by decide)) (hs 736 (by decide)) ?_
  have hat : ∀ k, k < 44 + fl (xD X) → (wAll (xD X) (four d1 r1 r2 r3 r4) sI)[k]? = some (four d1 r1 r2 r3 r4 k, cellF (xD X) (four d1 r1 r2 r3 r4) k (sI k)) := fun k hk => wAll_at hk
  have hI : Inj (xD X) (four d1 r1 r2 r3 r4) := fun i j hi hj e => hD.1 i j _ _ (hat i hi) (hat j hj) e
  have hA : ∀ k, k < 44 + fl (xD X) → xA X (four d1 r1 r2 r3 r4 k) := fun k hk => hD.2 k _ (hat k hk)
  exact hV (four d1 r1 r2 r3 r4) ⟨C.x, C.b, C.ml, hr, C.locks, C.ow, C.ts, C.K, ⟨hI, S⟩, C.A1, hA, C.hf, C.hlo, C.ce, C.sl⟩ H locs ls hP hS hl
set_option maxHeartbeats 4000000 in
set_option maxRecDepth 100000 in
theorem whole_start {p : Program} {e : Env} {s : State} {m : MethodId} {below : List Frame} {meth : Method} {c : Code} (l : Launch) (hflags : l.flags = flags0) {b L : Nat} {xs : Nat → Int32} (hL : L ≤ 260) (C0 : lw_At p s m meth c b L xs) : W p l e room_1 s m #[Value.ref b] below meth c s.heap [] 0 0 (lw_Z below #[Value.ref b] s) (entryFrame m ([Value.ref b] : List Value).toArray 14) := by
  obtain ⟨hx, hb, hr, hml, hown, hts, hX, hbl, hlocks, hgv⟩ := C0
  obtain ⟨D, hKI, hf0, hB, hN, hV⟩ := start_K 0 b L xs hts
  subst hB; subst hN; subst hV
  have hl := lv_entry ([.ref (sB D)]) (n := 14) (Nat.le_of_ble_eq_true rfl)
  rw [lg_entry_eq]
  have hbA : ¬ s.heap.size ≤ sB D := Nat.not_le.mpr hbl
  have hT : ∀ w ∈ TT, w.before #[Value.ref (sB D)] s = true := fun w hw => hts w (List.mem_filter.mp hw).1
  have hend : ∀ (ad : Nat → Nat) (a : Nat) (lv : List Value) (τ : ST), V (withRX (withAd ((p, l, e, room_1), (s, m, #[Value.ref (sB D)], below), (meth, c, 1000, 10000, lw_Z below #[Value.ref (sB D)] s), (D, (fun _ => 0), (fun q => s.heap.size ≤ q), 14)) ad) 600000 7302250 a) 881 lv [.int 1] τ := by
    intro ad a lv τ H locs ls hP hS hl
    refine va_forget (fun q hq => hS.2.2 q hq) ?_
    exact lw_ret hx hb hr hlocks dL_law_881
  have hsm : sN D < 2 ^ 31 := by omega
  have hN := law_pre (X := ((p, l, e, room_1), (s, m, #[Value.ref (sB D)], below), (meth, c, 1000, 10000, lw_Z below #[Value.ref (sB D)] s), (D, (fun _ => 0), (fun q => s.heap.size ≤ q), 14))) ⟨hx, hb, hml, hlocks, hown, hT, hKI.1, fun q h => h, Nat.le_of_ble_eq_true rfl, Nat.le_of_ble_eq_true rfl, Nat.le_of_ble_eq_true rfl, Nat.le_of_ble_eq_true rfl⟩ hKI hf0 ⟨hX, hbl, hbA⟩ rfl hr (fun i h => h) (fun i h => h) (fun ad C => law_lay C rfl hsm (fun τ T P n hL => law_row 600000 7302250 C hf0 rfl hsm (Nat.le_of_ble_eq_true rfl) (Nat.le_of_ble_eq_true rfl) (Nat.le_of_ble_eq_true rfl) (Nat.le_of_ble_eq_true rfl) hL (hend ad)))
  exact hN s.heap [] _ P_nil D_nil va_S.rf ⟨hl.1, hl.2.1, hl.2.2⟩
