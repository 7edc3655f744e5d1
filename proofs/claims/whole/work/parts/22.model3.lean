/-! the reference: its public calls, days and searches -/
abbrev scm (k : Nat) : Prop := k = 40 ∨ k = 58 ∨ k = 59 ∨ (53 ≤ k ∧ k ≤ 57) ∨ (60 ≤ k ∧ k ≤ 64)
def KM (C : Nat) (σ τ : ST) : Prop := (∀ k, ¬ scm k → τ k = σ k) ∧ (∀ i, i ≠ 16 → i ≠ 17 → i ≠ 18 → τ 40 i = σ 40 i) ∧ ∀ c, c < C → τ 58 c = σ 58 c ∧ τ 59 c = σ 59 c
theorem KM.refl {C : Nat} {σ : ST} : KM C σ σ := ⟨fun _ _ => rfl, fun _ _ _ _ => rfl, fun _ _ => ⟨rfl, rfl⟩⟩
theorem KM.trans {C : Nat} {σ τ υ : ST} (h : KM C σ τ) (h2 : KM C τ υ) : KM C σ υ := ⟨fun k hk => (h2.1 k hk).trans (h.1 k hk), fun i a b c => (h2.2.1 i a b c).trans (h.2.1 i a b c), fun c hc => ⟨(h2.2.2 c hc).1.trans (h.2.2 c hc).1, (h2.2.2 c hc).2.trans (h.2.2 c hc).2⟩⟩
theorem KM.setc {C : Nat} {σ : ST} {k : Nat} {f : Nat → Int32} (h : (53 ≤ k ∧ k ≤ 57) ∨ (60 ≤ k ∧ k ≤ 64)) : KM C σ (setc σ k f) := ⟨fun j hj => setc_n (by unfold scm at hj; omega), fun i _ _ _ => by rw [setc_n (by omega)], fun c _ => ⟨by rw [setc_n (by omega)], by rw [setc_n (by omega)]⟩⟩
theorem KM.put {C : Nat} {σ : ST} {s : S3} : KM C σ (putM σ s) := (KM.setc (by omega)).trans ((KM.setc (by omega)).trans (KM.setc (by omega)))
theorem or0 {x : Int32} : x ||| 0 = x := by simp
theorem setf_id {σ : ST} {k i : Nat} {x : Int32} (h : σ k i = x) : setf σ k i x = σ := by
  unfold setf
  rw [← h, upd_id, setc_id]
theorem putM_40 {σ : ST} {s : S3} {i : Nat} {x : Int32} : setf (putM σ s) 40 i x = putM (setf σ 40 i x) s := by
  funext z
  by_cases e0 : z = 62
  · subst e0; rfl
  · by_cases e1 : z = 61
    · subst e1; rfl
    · by_cases e2 : z = 60
      · subst e2; rfl
      · by_cases e3 : z = 40
        · subst e3; rfl
        · simp only [putM, setf, setc, if_neg e0, if_neg e1, if_neg e2, if_neg e3]
theorem putM_c {σ : ST} {s : S3} {k : Nat} {w : Nat → Int32} (hk : k < 60) : setc (putM σ s) k w = putM (setc σ k w) s := by
  unfold putM
  rw [setc_comm (k := k) (j := 60) (by omega), setc_comm (k := k) (j := 61) (by omega), setc_comm (k := k) (j := 62) (by omega)]
theorem putM_63 {σ : ST} {s : S3} {w : Nat → Int32} : setc (putM σ s) 63 w = putM (setc σ 63 w) s := by
  unfold putM
  rw [setc_comm (k := 63) (j := 60) (by omega), setc_comm (k := 63) (j := 61) (by omega), setc_comm (k := 63) (j := 62) (by omega)]
/-- the days depend on these alone -/
def AgP (σ τ : ST) (C : Nat) : Prop := (∀ d, d < 30 → woM σ d = woM τ d) ∧ σ 44 = τ 44 ∧ σ 45 = τ 45 ∧ σ 46 = τ 46 ∧ σ 47 = τ 47 ∧ σ 48 = τ 48 ∧ σ 49 = τ 49 ∧ σ 50 = τ 50 ∧ σ 52 = τ 52 ∧ ∀ c, c < C → σ 58 c = τ 58 c ∧ σ 59 c = τ 59 c
theorem crM_cg {σ τ : ST} {C d : Nat} {w : Nat → Int32} (h : AgP σ τ C) : ∀ n, n ≤ C → crM σ d n w = crM τ d n w := by
  obtain ⟨-, h44, -, h46, -, -, -, -, -, h5⟩ := h
  intro n
  induction n with
  | zero => intro _; rfl
  | succ n ih => intro hn; rw [crM_s, crM_s, ih (by omega), (h5 n (by omega)).1, (h5 n (by omega)).2, h44, h46]
theorem ukM_cg {σ τ : ST} {C P j : Nat} {d : Int32} {s : S3} (h : AgP σ τ C) : ukM σ P j d s = ukM τ P j d s := by
  obtain ⟨-, h44, h45, -, -, h48, -, -, -, -⟩ := h
  unfold ukM
  rw [show fst? (ukQ σ j s.2.1) P 0 = fst? (ukQ τ j s.2.1) P 0 from fst?_congr P 0 (fun p _ _ => by unfold ukQ; rw [h44, h45, h48])]
theorem kyM_s {σ : ST} {P d t : Nat} {s : S3} : kyM σ P d (t + 1) s = if σ 47 t = 0 ∧ wantM (σ 44 t) (σ 46 t) ≤ (kyM σ P d t s).1 t then ukM σ P t (nI d) (kyM σ P d t s) else kyM σ P d t s := rfl
theorem kyM_cg {σ τ : ST} {C P d : Nat} {s : S3} (h : AgP σ τ C) : ∀ n, kyM σ P d n s = kyM τ P d n s := by
  have h2 := h
  obtain ⟨-, h44, h45, h46, h47, h48, -, -, -, -⟩ := h2
  intro n
  induction n with
  | zero => rfl
  | succ n ih => rw [kyM_s, kyM_s, ih, h44, h46, h47, ukM_cg h]
theorem mDay_cg {σ τ : ST} {T P C d : Nat} {s : S3} (h : AgP σ τ C) (hd : d < 30) : mDay σ T P C d s = mDay τ T P C d s := by
  have h2 := h
  obtain ⟨hw, -, -, -, -, -, h49, h50, h52, -⟩ := h2
  have e1 : md1 σ T d s = md1 τ T d s := by unfold md1; rw [hw d hd, h50, h52]
  have e2 : ∀ s, md2 σ C d s = md2 τ C d s := fun s => by unfold md2; rw [crM_cg h C (Nat.le_refl _)]
  have e4 : ∀ s, md4 σ P d s = md4 τ P d s := fun s => by unfold md4 tmM; rw [h49]
  unfold mDay
  rw [e1, e2, kyM_cg h, e4]
theorem mDays_cg {σ τ : ST} {T P C : Nat} {s : S3} (h : AgP σ τ C) : ∀ n, n ≤ 30 → mDays σ T P C n s = mDays τ T P C n s := by
  intro n
  induction n with
  | zero => intro _; rfl
  | succ n ih =>
    intro hn
    show mDay σ T P C n (mDays σ T P C n s) = mDay τ T P C n (mDays τ T P C n s)
    rw [ih (by omega), mDay_cg h (by omega)]
def rowS (σ : ST) (T k r : Nat) : ST := setf (setc σ 63 (rowW T k r)) 40 31 (nI k)
def rowJ (T k r i : Nat) (f : Nat → Int32) (d : Nat) : Int32 := if k - i ≤ d ∧ d < k then nI (r / T ^ (k - 1 - d) % T) else f d
theorem rowJ_0 {T k r : Nat} {f : Nat → Int32} : rowJ T k r 0 f = f := funext fun d => if_neg (by omega)
theorem rowJ_s {T k r i : Nat} {f : Nat → Int32} (h : i < k) : upd (rowJ T k r i f) (k - i - 1) (nI (r / T ^ i % T)) = rowJ T k r (i + 1) f := funext fun d => by
  unfold upd
  by_cases hd : d = k - i - 1
  · rw [if_pos hd]
    unfold rowJ
    rw [if_pos ⟨by omega, by omega⟩, show k - 1 - d = i by omega]
  · rw [if_neg hd]
    unfold rowJ
    by_cases h2 : k - i ≤ d ∧ d < k
    · rw [if_pos h2, if_pos ⟨by omega, h2.2⟩]
    · rw [if_neg h2, if_neg (by omega)]
theorem rowJ_lt {T k r d : Nat} {f : Nat → Int32} (h : d < k) : rowJ T k r k f d = rowW T k r d := by
  unfold rowJ rowW
  rw [if_pos ⟨by omega, h⟩, if_pos h]
theorem nI_ne9 {k : Nat} (h : k < 2 ^ 31) : ¬ nI k = -9 := fun e => by
  have := congrArg Int32.toInt e
  rw [nI_toInt h] at this
  exact absurd this (by show ¬ ((k : Int) = -9); omega)
theorem wo_row {σ : ST} {T k r d : Nat} {f : Nat → Int32} (hk : k ≤ 4) (hd : d < 30) (hf : ∀ t, t < k → f t = rowW T k r t) : woM (setf (setc σ 63 f) 40 31 (nI k)) d = rowW T k r d := by
  unfold woM
  show (if nI k = -9 then _ else if nI d < nI k then f d else -9) = _
  rw [if_neg (nI_ne9 (by omega))]
  by_cases h : d < k
  · rw [if_pos (nI_lt h (by omega)), hf d h]
  · rw [if_neg (nI_nlt (by omega) (by omega))]
    unfold rowW
    rw [if_neg h]
theorem wo_rowS {σ : ST} {T k r d : Nat} (hk : k ≤ 4) (hd : d < 30) : woM (rowS σ T k r) d = rowW T k r d := wo_row hk hd (fun _ _ => rfl)
theorem rowW_T {T k r d : Nat} (h0 : 0 < T) : rowW T k r d = -9 ∨ ∃ t : Nat, t < T ∧ rowW T k r d = nI t := by
  unfold rowW
  by_cases h : d < k
  · rw [if_pos h]; exact Or.inr ⟨_, Nat.mod_lt _ h0, rfl⟩
  · rw [if_neg h]; exact Or.inl rfl
theorem MH_row {σ : ST} {T P C k r : Nat} {f : Nat → Int32} (hM : MH σ T P C) (h0 : 0 < T) (hk : k ≤ 4) (hf : ∀ t, t < k → f t = rowW T k r t) : MH (setf (setc σ 63 f) 40 31 (nI k)) T P C :=
  ⟨hM.1, hM.2.1, hM.2.2.1, hM.2.2.2.1, hM.2.2.2.2.1, hM.2.2.2.2.2.1, hM.2.2.2.2.2.2.1, Or.inr ⟨k, hk, rfl⟩, fun d hd => by rw [wo_row hk hd hf]; exact rowW_T h0⟩
theorem Ag_row {σ : ST} {T C k r : Nat} {f : Nat → Int32} (hk : k ≤ 4) (hf : ∀ t, t < k → f t = rowW T k r t) : AgP (setf (setc σ 63 f) 40 31 (nI k)) (rowS σ T k r) C :=
  ⟨fun d hd => by rw [wo_row hk hd hf, wo_rowS hk hd], rfl, rfl, rfl, rfl, rfl, rfl, rfl, rfl, fun _ _ => ⟨rfl, rfl⟩⟩
theorem sumO_cg {f g : Nat → Int32} : ∀ P : Nat, (∀ p, p < P → f p = g p) → sumO f P = sumO g P := by
  intro P
  induction P with
  | zero => intro _; rfl
  | succ P ih => intro h; show sumO f P + f P = sumO g P + g P; rw [ih (fun p hp => h p (by omega)), h P (by omega)]
theorem cntB_cg {f g : Nat → Int32} : ∀ P : Nat, (∀ p, p < P → f p = g p) → cntB f P = cntB g P := by
  intro P
  induction P with
  | zero => intro _; rfl
  | succ P ih => intro h; show (if ¬ f P = -9 then cntB f P + 1 else cntB f P) = (if ¬ g P = -9 then cntB g P + 1 else cntB g P); rw [ih (fun p hp => h p (by omega)), h P (by omega)]

set_option maxHeartbeats 4000000 in
set_option maxRecDepth 100000 in
theorem c_X9_out_u {l : Launch} {D : DD} {ad : Nat → Nat} (σ : ST) (P : Nat) (p : Int32) (hP : σ 40 6 = nI P) (h : ¬ isT (nI P) p) : Ct l yX9_out cX9_out 2 (Option.some FieldType.int) 4 88 D ad [.ref (ad 40), .int p] σ (ex (some (.int (-1))) σ) := by
  refine Ct.of2 [.ref (ad 40), .int p] rfl (Nat.le_of_ble_eq_true rfl) rfl ?_
  rintro X C rfl rfl rfl hxn hR
  refine V_aload_n_0 (q := 1) C rfl dX9_out_0 ?_
  refine V_iload_n_1 (q := 2) C rfl dX9_out_1 ?_
  refine V_cV1r (q := 5) C (Ct.mono (v' := some (.int (pI (isT (nI P) p)))) (c_X9_isPrisoner σ p) (by rw [show σ 40 6 = nI P from hP]) rfl) cw_X9_isPrisoner cv_X9_isPrisoner wm_X9_162 (by decide) ob_X9 ⟨by decide, by decide⟩ (Nat.le_of_ble_eq_true rfl) rfl dX9_out_2 ?_
  refine V_ifp_ne_f (tgt := 10) C h rfl (by decide) dX9_out_5 ?_
  refine V_iconst (q := 9) (v := (-1)) C rfl rfl dX9_out_8 ?_
  refine V_iret C hR dX9_out_9 ?_
  exact ⟨rfl, rfl⟩

set_option maxHeartbeats 4000000 in
set_option maxRecDepth 100000 in
theorem c_X9_out_v {l : Launch} {D : DD} {ad : Nat → Nat} (σ : ST) (T P C2 j : Nat) (hM : MH σ T P C2) (hj : j < P) : Ct l yX9_out cX9_out 2 (Option.some FieldType.int) 4 88 D ad [.ref (ad 40), .int (nI j)] σ (pq (fun v τ => v = (mDC σ T P C2 30).2.1 j ∧ ∃ s, τ = putM σ s)) := by
  refine Ct.of2 [.ref (ad 40), .int (nI j)] rfl (Nat.le_of_ble_eq_true rfl) rfl ?_
  rintro X C rfl rfl rfl hxn hR
  have hP := hM.2.2.1
  have hP6 := hM.2.2.2.1
  refine V_aload_n_0 (q := 1) C rfl dX9_out_0 ?_
  refine V_iload_n_1 (q := 2) C rfl dX9_out_1 ?_
  refine V_cV1r (q := 5) C (Ct.mono (v' := some (.int (pI (isT (nI P) (nI j))))) (c_X9_isPrisoner σ (nI j)) (by rw [show σ 40 6 = nI P from hP]) rfl) cw_X9_isPrisoner cv_X9_isPrisoner wm_X9_162 (by decide) ob_X9 ⟨by decide, by decide⟩ (Nat.le_of_ble_eq_true rfl) rfl dX9_out_2 ?_
  refine V_ifp_ne_t (tgt := 10) C (isT_nI hj (by omega)) (by decide) dX9_out_5 ?_
  refine V_aload_n_0 (q := 11) C rfl dX9_out_10 ?_
  refine V_bipush (q := 13) (v := 29) C (by decide) rfl dX9_out_11 ?_
  refine V_cV1v (q := 16) C (c_X9_goTo (σ) T P C2 (30) (29) (hM) (ld29)) cw_X9_goTo cv_X9_goTo wm_X9_185 (by decide) ob_X9 ⟨by decide, by decide⟩ (Nat.le_of_ble_eq_true rfl) rfl dX9_out_13 ?_
  have hE := mDC_eq (σ := σ) (T := T) (P := P) (C := C2) (N := 30) (hM) (ld29).1
  generalize mDays (σ) T P C2 (30) (m0 (σ) T P) = s1 at hE ⊢
  refine V_aload_n_0 (q := 17) C rfl dX9_out_16 ?_
  refine gf_X9_71 (q := 20) C rfl dX9_out_17 ?_
  refine V_iload_n_1 (q := 21) C rfl dX9_out_20 ?_
  refine V_iald (q := 22) C _ rfl (by show _ < 6; omega) rfl (by decide) (by decide) rfl dX9_out_21 ?_
  refine V_iret C hR dX9_out_22 ?_
  refine ⟨_, rfl, ?_, _, rfl⟩
  exact (hE.2 j hj).1

set_option maxHeartbeats 4000000 in
set_option maxRecDepth 100000 in
theorem c_X9_by_u {l : Launch} {D : DD} {ad : Nat → Nat} (σ : ST) (P : Nat) (p : Int32) (hP : σ 40 6 = nI P) (h : ¬ isT (nI P) p) : Ct l yX9_by cX9_by 2 (Option.some FieldType.int) 4 88 D ad [.ref (ad 40), .int p] σ (ex (some (.int (-1))) σ) := by
  refine Ct.of2 [.ref (ad 40), .int p] rfl (Nat.le_of_ble_eq_true rfl) rfl ?_
  rintro X C rfl rfl rfl hxn hR
  refine V_aload_n_0 (q := 1) C rfl dX9_by_0 ?_
  refine V_iload_n_1 (q := 2) C rfl dX9_by_1 ?_
  refine V_cV1r (q := 5) C (Ct.mono (v' := some (.int (pI (isT (nI P) p)))) (c_X9_isPrisoner σ p) (by rw [show σ 40 6 = nI P from hP]) rfl) cw_X9_isPrisoner cv_X9_isPrisoner wm_X9_162 (by decide) ob_X9 ⟨by decide, by decide⟩ (Nat.le_of_ble_eq_true rfl) rfl dX9_by_2 ?_
  refine V_ifp_ne_f (tgt := 10) C h rfl (by decide) dX9_by_5 ?_
  refine V_iconst (q := 9) (v := (-1)) C rfl rfl dX9_by_8 ?_
  refine V_iret C hR dX9_by_9 ?_
  exact ⟨rfl, rfl⟩

set_option maxHeartbeats 4000000 in
set_option maxRecDepth 100000 in
theorem c_X9_by_v {l : Launch} {D : DD} {ad : Nat → Nat} (σ : ST) (T P C2 j : Nat) (hM : MH σ T P C2) (hj : j < P) : Ct l yX9_by cX9_by 2 (Option.some FieldType.int) 4 88 D ad [.ref (ad 40), .int (nI j)] σ (pq (fun v τ => v = (mDC σ T P C2 30).2.2 j ∧ ∃ s, τ = putM σ s)) := by
  refine Ct.of2 [.ref (ad 40), .int (nI j)] rfl (Nat.le_of_ble_eq_true rfl) rfl ?_
  rintro X C rfl rfl rfl hxn hR
  have hP := hM.2.2.1
  have hP6 := hM.2.2.2.1
  refine V_aload_n_0 (q := 1) C rfl dX9_by_0 ?_
  refine V_iload_n_1 (q := 2) C rfl dX9_by_1 ?_
  refine V_cV1r (q := 5) C (Ct.mono (v' := some (.int (pI (isT (nI P) (nI j))))) (c_X9_isPrisoner σ (nI j)) (by rw [show σ 40 6 = nI P from hP]) rfl) cw_X9_isPrisoner cv_X9_isPrisoner wm_X9_162 (by decide) ob_X9 ⟨by decide, by decide⟩ (Nat.le_of_ble_eq_true rfl) rfl dX9_by_2 ?_
  refine V_ifp_ne_t (tgt := 10) C (isT_nI hj (by omega)) (by decide) dX9_by_5 ?_
  refine V_aload_n_0 (q := 11) C rfl dX9_by_10 ?_
  refine V_bipush (q := 13) (v := 29) C (by decide) rfl dX9_by_11 ?_
  refine V_cV1v (q := 16) C (c_X9_goTo (σ) T P C2 (30) (29) (hM) (ld29)) cw_X9_goTo cv_X9_goTo wm_X9_185 (by decide) ob_X9 ⟨by decide, by decide⟩ (Nat.le_of_ble_eq_true rfl) rfl dX9_by_13 ?_
  have hE := mDC_eq (σ := σ) (T := T) (P := P) (C := C2) (N := 30) (hM) (ld29).1
  generalize mDays (σ) T P C2 (30) (m0 (σ) T P) = s1 at hE ⊢
  refine V_aload_n_0 (q := 17) C rfl dX9_by_16 ?_
  refine gf_X9_74 (q := 20) C rfl dX9_by_17 ?_
  refine V_iload_n_1 (q := 21) C rfl dX9_by_20 ?_
  refine V_iald (q := 22) C _ rfl (by show _ < 6; omega) rfl (by decide) (by decide) rfl dX9_by_21 ?_
  refine V_iret C hR dX9_by_22 ?_
  refine ⟨_, rfl, ?_, _, rfl⟩
  exact (hE.2 j hj).2

set_option maxHeartbeats 4000000 in
set_option maxRecDepth 100000 in
theorem c_X9_free_u {l : Launch} {D : DD} {ad : Nat → Nat} (σ : ST) (d : Int32) (h : ¬ isT 30 d) : Ct l yX9_free cX9_free 4 (Option.some FieldType.int) 4 88 D ad [.ref (ad 40), .int d] σ (ex (some (.int (-1))) σ) := by
  refine Ct.of2 [.ref (ad 40), .int d, .float 0, .float 0] rfl (Nat.le_of_ble_eq_true rfl) rfl ?_
  rintro X C rfl rfl rfl hxn hR
  refine V_iload_n_1 (q := 1) C rfl dX9_free_0 ?_
  refine V_cS1r (q := 4) C (c_X9_isDay _ _) cw_X9_isDay cs_X9_isDay wm_X9_165 ⟨by decide, by decide⟩ (Nat.le_of_ble_eq_true rfl) rfl dX9_free_1 ?_
  refine V_ifp_ne_f (tgt := 9) C h rfl (by decide) dX9_free_4 ?_
  refine V_iconst (q := 8) (v := (-1)) C rfl rfl dX9_free_7 ?_
  refine V_iret C hR dX9_free_8 ?_
  exact ⟨rfl, rfl⟩

set_option maxHeartbeats 4000000 in
set_option maxRecDepth 100000 in
theorem c_X9_free_s {l : Launch} {D : DD} {ad : Nat → Nat} (σ : ST) (d T : Nat) (hd : d < 30) (hT : σ 40 5 = nI T) (h0 : T = 0) : Ct l yX9_free cX9_free 4 (Option.some FieldType.int) 4 88 D ad [.ref (ad 40), .int (nI d)] σ (ex (some (.int (-3))) σ) := by
  refine Ct.of2 [.ref (ad 40), .int (nI d), .float 0, .float 0] rfl (Nat.le_of_ble_eq_true rfl) rfl ?_
  rintro X C rfl rfl rfl hxn hR
  refine V_iload_n_1 (q := 1) C rfl dX9_free_0 ?_
  refine V_cS1r (q := 4) C (c_X9_isDay _ _) cw_X9_isDay cs_X9_isDay wm_X9_165 ⟨by decide, by decide⟩ (Nat.le_of_ble_eq_true rfl) rfl dX9_free_1 ?_
  refine V_ifp_ne_t (tgt := 9) C (isT_nI (N := 30) hd (by decide)) (by decide) dX9_free_4 ?_
  refine V_aload_n_0 (q := 10) C rfl dX9_free_9 ?_
  refine gf_X9_105 (q := 13) C rfl dX9_free_10 ?_
  rw [hT]
  refine V_if_ne_f (tgt := 19) C (by subst h0; decide) rfl (by decide) dX9_free_13 ?_
  refine V_bipush (q := 18) (v := (-3)) C (by decide) rfl dX9_free_16 ?_
  refine V_iret C hR dX9_free_18 ?_
  exact ⟨rfl, rfl⟩

set_option maxHeartbeats 4000000 in
set_option maxRecDepth 100000 in
theorem c_X9_free_v {l : Launch} {D : DD} {ad : Nat → Nat} (σ : ST) (T P C2 d : Nat) (hM : MH σ T P C2) (hd : d < 30) (h0 : 0 < T) : Ct l yX9_free cX9_free 4 (Option.some FieldType.int) 4 88 D ad [.ref (ad 40), .int (nI d)] σ (pq (fun v τ => v = setB (fun p => ¬ (mDC σ T P C2 (d + 1)).2.1 p = -9) P ∧ ∃ s, τ = putM σ s)) := by
  refine Ct.of2 [.ref (ad 40), .int (nI d), .float 0, .float 0] rfl (Nat.le_of_ble_eq_true rfl) rfl ?_
  rintro X C rfl rfl rfl hxn hR
  have hn2 : 2 < xn X := by rw [← hxn]; decide
  have hn3 : 3 < xn X := by rw [← hxn]; decide
  have hT := hM.1
  have hT6 := hM.2.1
  have hP := hM.2.2.1
  have hP6 := hM.2.2.2.1
  refine V_iload_n_1 (q := 1) C rfl dX9_free_0 ?_
  refine V_cS1r (q := 4) C (c_X9_isDay _ _) cw_X9_isDay cs_X9_isDay wm_X9_165 ⟨by decide, by decide⟩ (Nat.le_of_ble_eq_true rfl) rfl dX9_free_1 ?_
  refine V_ifp_ne_t (tgt := 9) C (isT_nI (N := 30) hd (by decide)) (by decide) dX9_free_4 ?_
  refine V_aload_n_0 (q := 10) C rfl dX9_free_9 ?_
  refine gf_X9_105 (q := 13) C rfl dX9_free_10 ?_
  rw [hT]
  refine V_if_ne_t (tgt := 19) C (nI_ne0 h0 (by omega)) (by decide) dX9_free_13 ?_
  refine V_aload_n_0 (q := 20) C rfl dX9_free_19 ?_
  refine V_iload_n_1 (q := 21) C rfl dX9_free_20 ?_
  refine V_cV1v (q := 24) C (c_X9_goTo (σ) T P C2 (d + 1) (nI d) (hM) (ldN hd)) cw_X9_goTo cv_X9_goTo wm_X9_185 (by decide) ob_X9 ⟨by decide, by decide⟩ (Nat.le_of_ble_eq_true rfl) rfl dX9_free_21 ?_
  have hE := mDC_eq (σ := σ) (T := T) (P := P) (C := C2) (N := d + 1) (hM) (ldN hd).1
  generalize mDays (σ) T P C2 (d + 1) (m0 (σ) T P) = s1 at hE ⊢
  refine V_iconst (q := 25) (v := (setB (fun p => ¬ (mDC σ T P C2 (d + 1)).2.1 p = -9) 0)) C rfl rfl dX9_free_24 ?_
  refine V_istore_n_2 (q := 26) C hn2 rfl rfl dX9_free_25 ?_
  refine V_iconst (q := 27) (v := (nI 0)) C rfl rfl dX9_free_26 ?_
  refine V_istore_n_3 (q := 28) C hn3 rfl rfl dX9_free_27 ?_
  have hx28 : V X 28 [.ref (xad X 40), .int (nI d), .int (setB (fun p => ¬ (mDC σ T P C2 (d + 1)).2.1 p = -9) P), .int (nI P)] [] (putM σ s1) := by
    refine V_iload_n_3 (q := 29) C rfl dX9_free_28 ?_
    refine V_aload_n_0 (q := 30) C rfl dX9_free_29 ?_
    refine gf_X9_108 (q := 33) C rfl dX9_free_30 ?_
    rw [show (putM σ s1) 40 6 = nI P from hP]
    refine V_icmp_ge_t (tgt := 63) C (nI_le (Nat.le_refl _) (by omega)) (by decide) dX9_free_33 ?_
    refine V_iload_n_2 (q := 64) C rfl dX9_free_63 ?_
    refine V_iret C hR dX9_free_64 ?_
    exact ⟨_, rfl, rfl, _, rfl⟩
  have hs28 : ∀ p : Nat, p < P → (V X 28 [.ref (xad X 40), .int (nI d), .int (setB (fun p => ¬ (mDC σ T P C2 (d + 1)).2.1 p = -9) (p + 1)), .int (nI (p + 1))] [] (putM σ s1)) → V X 28 [.ref (xad X 40), .int (nI d), .int (setB (fun p => ¬ (mDC σ T P C2 (d + 1)).2.1 p = -9) p), .int (nI p)] [] (putM σ s1) := by
    intro p hi28 ih28
    refine V_iload_n_3 (q := 29) C rfl dX9_free_28 ?_
    refine V_aload_n_0 (q := 30) C rfl dX9_free_29 ?_
    refine gf_X9_108 (q := 33) C rfl dX9_free_30 ?_
    rw [show (putM σ s1) 40 6 = nI P from hP]
    refine V_icmp_ge_f (tgt := 63) C (nI_ge hi28 (by omega)) rfl (by decide) dX9_free_33 ?_
    refine V_iload_n_2 (q := 37) C rfl dX9_free_36 ?_
    refine V_aload_n_0 (q := 38) C rfl dX9_free_37 ?_
    refine gf_X9_71 (q := 41) C rfl dX9_free_38 ?_
    refine V_iload_n_3 (q := 42) C rfl dX9_free_41 ?_
    refine V_iald (q := 43) C _ rfl (by show _ < 6; omega) rfl (by decide) (by decide) rfl dX9_free_42 ?_
    refine V_bipush (q := 45) (v := (-9)) C (by decide) rfl dX9_free_43 ?_
    show V X 45 _ (.int (-9) :: .int (s1.2.1 p) :: .int (setB (fun p => ¬ (mDC σ T P C2 (d + 1)).2.1 p = -9) p) :: []) _
    refine V_icmp_ne (tgt := 52) C rfl (by decide) dX9_free_45 (fun c45 => ?_) (fun c45 => ?_)
    · refine V_iconst (q := 53) (v := 1) C rfl rfl dX9_free_52 ?_
      refine V_iload_n_3 (q := 54) C rfl dX9_free_53 ?_
      refine V_ishl (q := 55) C rfl dX9_free_54 ?_
      refine V_ior (q := 56) C rfl dX9_free_55 ?_
      refine V_istore_n_2 (q := 57) C hn2 rfl rfl dX9_free_56 ?_
      refine V_iinc_3 (q := 60) (n := 1) C nI_inc hn3 rfl rfl dX9_free_57 ?_
      refine V_goto (tgt := 28) C (by decide) dX9_free_60 ?_
      first
      | (rw [or0, show setB (fun p => ¬ (mDC σ T P C2 (d + 1)).2.1 p = -9) p = setB (fun p => ¬ (mDC σ T P C2 (d + 1)).2.1 p = -9) (p + 1) from (if_neg (fun h => h ((hE.2 p hi28).1.symm.trans c45))).symm]; exact ih28)
      | (rw [show setB (fun p => ¬ (mDC σ T P C2 (d + 1)).2.1 p = -9) p ||| (1 <<< (nI p &&& 31)) = setB (fun p => ¬ (mDC σ T P C2 (d + 1)).2.1 p = -9) (p + 1) from (if_pos (fun h => c45 ((hE.2 p hi28).1.trans h))).symm]; exact ih28)
    · refine V_iconst (q := 49) (v := 0) C rfl rfl dX9_free_48 ?_
      refine V_goto (tgt := 55) C (by decide) dX9_free_49 ?_
      refine V_ior (q := 56) C rfl dX9_free_55 ?_
      refine V_istore_n_2 (q := 57) C hn2 rfl rfl dX9_free_56 ?_
      refine V_iinc_3 (q := 60) (n := 1) C nI_inc hn3 rfl rfl dX9_free_57 ?_
      refine V_goto (tgt := 28) C (by decide) dX9_free_60 ?_
      first
      | (rw [or0, show setB (fun p => ¬ (mDC σ T P C2 (d + 1)).2.1 p = -9) p = setB (fun p => ¬ (mDC σ T P C2 (d + 1)).2.1 p = -9) (p + 1) from (if_neg (fun h => h ((hE.2 p hi28).1.symm.trans c45))).symm]; exact ih28)
      | (rw [show setB (fun p => ¬ (mDC σ T P C2 (d + 1)).2.1 p = -9) p ||| (1 <<< (nI p &&& 31)) = setB (fun p => ¬ (mDC σ T P C2 (d + 1)).2.1 p = -9) (p + 1) from (if_pos (fun h => c45 ((hE.2 p hi28).1.trans h))).symm]; exact ih28)
  exact V_eq (rfl) (loopN (P := fun p => V X 28 [.ref (xad X 40), .int (nI d), .int (setB (fun p => ¬ (mDC σ T P C2 (d + 1)).2.1 p = -9) p), .int (nI p)] [] (putM σ s1)) (P) hx28 hs28 0 (Nat.zero_le _))

set_option maxHeartbeats 4000000 in
set_option maxRecDepth 100000 in
theorem c_X9_has_u {l : Launch} {D : DD} {ad : Nat → Nat} (σ : ST) (T : Nat) (t d : Int32) (hT : σ 40 5 = nI T) (h : ¬ (isT (nI T) t ∧ isT 30 d)) : Ct l yX9_has cX9_has 3 (Option.some FieldType.int) 4 88 D ad [.ref (ad 40), .int t, .int d] σ (ex (some (.int (-1))) σ) := by
  refine Ct.of2 [.ref (ad 40), .int t, .int d] rfl (Nat.le_of_ble_eq_true rfl) rfl ?_
  rintro X C rfl rfl rfl hxn hR
  refine V_aload_n_0 (q := 1) C rfl dX9_has_0 ?_
  refine V_iload_n_1 (q := 2) C rfl dX9_has_1 ?_
  refine V_cV1r (q := 5) C (Ct.mono (v' := some (.int (pI (isT (nI T) t)))) (c_X9_isTree σ t) (by rw [show σ 40 5 = nI T from hT]) rfl) cw_X9_isTree cv_X9_isTree wm_X9_153 (by decide) ob_X9 ⟨by decide, by decide⟩ (Nat.le_of_ble_eq_true rfl) rfl dX9_has_2 ?_
  refine V_ifp_eq (tgt := 15) C rfl (by decide) dX9_has_5 (fun c5 => ?_) (fun c5 => ?_)
  · refine V_iconst (q := 16) (v := (-1)) C rfl rfl dX9_has_15 ?_
    refine V_iret C hR dX9_has_16 ?_
    exact ⟨rfl, rfl⟩
  · refine V_iload_n_2 (q := 9) C rfl dX9_has_8 ?_
    refine V_cS1r (q := 12) C (c_X9_isDay _ _) cw_X9_isDay cs_X9_isDay wm_X9_165 ⟨by decide, by decide⟩ (Nat.le_of_ble_eq_true rfl) rfl dX9_has_9 ?_
    refine V_ifp_ne (tgt := 17) C rfl (by decide) dX9_has_12 (fun c12 => ?_) (fun c12 => ?_)
    · exact absurd ⟨c5, c12⟩ h
    · refine V_iconst (q := 16) (v := (-1)) C rfl rfl dX9_has_15 ?_
      refine V_iret C hR dX9_has_16 ?_
      exact ⟨rfl, rfl⟩

set_option maxHeartbeats 4000000 in
set_option maxRecDepth 100000 in
theorem c_X9_has_v {l : Launch} {D : DD} {ad : Nat → Nat} (σ : ST) (T P C2 j d : Nat) (hM : MH σ T P C2) (hj : j < T) (hd : d < 30) : Ct l yX9_has cX9_has 3 (Option.some FieldType.int) 4 88 D ad [.ref (ad 40), .int (nI j), .int (nI d)] σ (pq (fun v τ => v = (mDC σ T P C2 (d + 1)).1 j ∧ ∃ s, τ = putM σ s)) := by
  refine Ct.of2 [.ref (ad 40), .int (nI j), .int (nI d)] rfl (Nat.le_of_ble_eq_true rfl) rfl ?_
  rintro X C rfl rfl rfl hxn hR
  have hT := hM.1
  have hT6 := hM.2.1
  refine V_aload_n_0 (q := 1) C rfl dX9_has_0 ?_
  refine V_iload_n_1 (q := 2) C rfl dX9_has_1 ?_
  refine V_cV1r (q := 5) C (Ct.mono (v' := some (.int (pI (isT (nI T) (nI j))))) (c_X9_isTree σ (nI j)) (by rw [show σ 40 5 = nI T from hT]) rfl) cw_X9_isTree cv_X9_isTree wm_X9_153 (by decide) ob_X9 ⟨by decide, by decide⟩ (Nat.le_of_ble_eq_true rfl) rfl dX9_has_2 ?_
  refine V_ifp_eq_f (tgt := 15) C (isT_nI hj (by omega)) rfl (by decide) dX9_has_5 ?_
  refine V_iload_n_2 (q := 9) C rfl dX9_has_8 ?_
  refine V_cS1r (q := 12) C (c_X9_isDay _ _) cw_X9_isDay cs_X9_isDay wm_X9_165 ⟨by decide, by decide⟩ (Nat.le_of_ble_eq_true rfl) rfl dX9_has_9 ?_
  refine V_ifp_ne_t (tgt := 17) C (isT_nI (N := 30) hd (by decide)) (by decide) dX9_has_12 ?_
  refine V_aload_n_0 (q := 18) C rfl dX9_has_17 ?_
  refine V_iload_n_2 (q := 19) C rfl dX9_has_18 ?_
  refine V_cV1v (q := 22) C (c_X9_goTo (σ) T P C2 (d + 1) (nI d) (hM) (ldN hd)) cw_X9_goTo cv_X9_goTo wm_X9_185 (by decide) ob_X9 ⟨by decide, by decide⟩ (Nat.le_of_ble_eq_true rfl) rfl dX9_has_19 ?_
  have hE := mDC_eq (σ := σ) (T := T) (P := P) (C := C2) (N := d + 1) (hM) (ldN hd).1
  generalize mDays (σ) T P C2 (d + 1) (m0 (σ) T P) = s1 at hE ⊢
  refine V_aload_n_0 (q := 23) C rfl dX9_has_22 ?_
  refine gf_X9_68 (q := 26) C rfl dX9_has_23 ?_
  refine V_iload_n_1 (q := 27) C rfl dX9_has_26 ?_
  refine V_iald (q := 28) C _ rfl (by show _ < 6; omega) rfl (by decide) (by decide) rfl dX9_has_27 ?_
  refine V_iret C hR dX9_has_28 ?_
  refine ⟨_, rfl, ?_, _, rfl⟩
  exact hE.1 j hj

set_option maxHeartbeats 4000000 in
set_option maxRecDepth 100000 in
theorem c_X9_rowsOf {l : Launch} {D : DD} {ad : Nat → Nat} (σ : ST) (T k : Nat) (hT : σ 40 5 = nI T) (hk : k ≤ 4) : Ct l yX9_rowsOf cX9_rowsOf 4 (Option.some FieldType.int) 0 0 D ad [.ref (ad 40), .int (nI k)] σ (ex (some (.int (nI (T ^ k)))) σ) := by
  refine Ct.of2 [.ref (ad 40), .int (nI k), .float 0, .float 0] rfl (Nat.le_of_ble_eq_true rfl) rfl ?_
  rintro X C rfl rfl rfl hxn hR
  have hn2 : 2 < xn X := by rw [← hxn]; decide
  have hn3 : 3 < xn X := by rw [← hxn]; decide
  refine V_iconst (q := 1) (v := (nI (T ^ 0))) C rfl rfl dX9_rowsOf_0 ?_
  refine V_istore_n_2 (q := 2) C hn2 rfl rfl dX9_rowsOf_1 ?_
  refine V_iconst (q := 3) (v := (nI 0)) C rfl rfl dX9_rowsOf_2 ?_
  refine V_istore_n_3 (q := 4) C hn3 rfl rfl dX9_rowsOf_3 ?_
  have hx4 : V X 4 [.ref (xad X 40), .int (nI k), .int (nI (T ^ k)), .int (nI k)] [] (σ) := by
    refine V_iload_n_3 (q := 5) C rfl dX9_rowsOf_4 ?_
    refine V_iload_n_1 (q := 6) C rfl dX9_rowsOf_5 ?_
    refine V_icmp_ge_t (tgt := 22) C (nI_le (Nat.le_refl _) (by omega)) (by decide) dX9_rowsOf_6 ?_
    refine V_iload_n_2 (q := 23) C rfl dX9_rowsOf_22 ?_
    refine V_iret C hR dX9_rowsOf_23 ?_
    exact ⟨rfl, rfl⟩
  have hs4 : ∀ i : Nat, i < k → (V X 4 [.ref (xad X 40), .int (nI k), .int (nI (T ^ (i + 1))), .int (nI (i + 1))] [] (σ)) → V X 4 [.ref (xad X 40), .int (nI k), .int (nI (T ^ i)), .int (nI i)] [] (σ) := by
    intro i hi4 ih4
    refine V_iload_n_3 (q := 5) C rfl dX9_rowsOf_4 ?_
    refine V_iload_n_1 (q := 6) C rfl dX9_rowsOf_5 ?_
    refine V_icmp_ge_f (tgt := 22) C (nI_ge hi4 (by omega)) rfl (by decide) dX9_rowsOf_6 ?_
    refine V_iload_n_2 (q := 10) C rfl dX9_rowsOf_9 ?_
    refine V_aload_n_0 (q := 11) C rfl dX9_rowsOf_10 ?_
    refine gf_X9_105 (q := 14) C rfl dX9_rowsOf_11 ?_
    refine V_imul (q := 15) C rfl dX9_rowsOf_14 ?_
    rw [hT, show nI (T ^ i) * nI T = nI (T ^ (i + 1)) from by rw [pk_mul, Nat.pow_succ]]
    refine V_istore_n_2 (q := 16) C hn2 rfl rfl dX9_rowsOf_15 ?_
    refine V_iinc_3 (q := 19) (n := 1) C nI_inc hn3 rfl rfl dX9_rowsOf_16 ?_
    refine V_goto (tgt := 4) C (by decide) dX9_rowsOf_19 ?_
    exact V_eq rfl ih4
  exact V_eq (rfl) (loopN (P := fun i => V X 4 [.ref (xad X 40), .int (nI k), .int (nI (T ^ i)), .int (nI i)] [] (σ)) (k) hx4 hs4 0 (Nat.zero_le _))

set_option maxHeartbeats 4000000 in
set_option maxRecDepth 100000 in
theorem c_X9_layRow {l : Launch} {D : DD} {ad : Nat → Nat} (σ : ST) (T k r : Nat) (hT : σ 40 5 = nI T) (hT6 : T ≤ 6) (h0 : 0 < T) (hk : k ≤ 4) (hr : r < 2 ^ 31) : Ct l yX9_layRow cX9_layRow 5 (Option.none : Option FieldType) 0 0 D ad [.ref (ad 40), .int (nI r), .int (nI k)] σ (ex none (setf (setc σ 63 (rowJ T k r k (σ 63))) 40 31 (nI k))) := by
  refine Ct.of2 [.ref (ad 40), .int (nI r), .int (nI k), .float 0, .float 0] rfl (Nat.le_of_ble_eq_true rfl) rfl ?_
  rintro X C rfl rfl rfl hxn hR
  have hn3 : 3 < xn X := by rw [← hxn]; decide
  have hn4 : 4 < xn X := by rw [← hxn]; decide
  refine V_iload_n_1 (q := 1) C rfl dX9_layRow_0 ?_
  refine V_istore_n_3 (q := 2) C hn3 rfl rfl dX9_layRow_1 ?_
  refine V_iload_n_2 (q := 3) C rfl dX9_layRow_2 ?_
  refine V_iconst (q := 4) (v := 1) C rfl rfl dX9_layRow_3 ?_
  refine V_isub (q := 5) C rfl dX9_layRow_4 ?_
  refine V_istore_4 (q := 7) C hn4 rfl rfl dX9_layRow_5 ?_
  have hx7 : V X 7 [.ref (xad X 40), .int (nI r), .int (nI k), .int (nI (r / T ^ k)), .int (nI (k - k) - 1)] [] (setc σ 63 (rowJ T k r k (σ 63))) := by
    refine V_iload_4 (q := 9) C rfl dX9_layRow_7 ?_
    refine V_if_lt_t (tgt := 38) C (by rw [Nat.sub_self]; decide) (by decide) dX9_layRow_9 ?_
    refine V_aload_n_0 (q := 39) C rfl dX9_layRow_38 ?_
    refine V_iload_n_2 (q := 40) C rfl dX9_layRow_39 ?_
    refine pf_X9_80 (q := 43) C rfl dX9_layRow_40 ?_
    refine V_vret C hR dX9_layRow_43 ?_
    exact ⟨rfl, rfl⟩
  have hs7 : ∀ i : Nat, i < k → (V X 7 [.ref (xad X 40), .int (nI r), .int (nI k), .int (nI (r / T ^ (i + 1))), .int (nI (k - (i + 1)) - 1)] [] (setc σ 63 (rowJ T k r (i + 1) (σ 63)))) → V X 7 [.ref (xad X 40), .int (nI r), .int (nI k), .int (nI (r / T ^ i)), .int (nI (k - i) - 1)] [] (setc σ 63 (rowJ T k r i (σ 63))) := by
    intro i hi7 ih7
    have hTi : (setc σ 63 (rowJ T k r i (σ 63))) 40 5 = nI T := hT
    have hri : r / T ^ i < 2 ^ 31 := Nat.lt_of_le_of_lt (Nat.div_le_self _ _) (by omega)
    refine V_iload_4 (q := 9) C rfl dX9_layRow_7 ?_
    refine V_if_lt_f (tgt := 38) C (by rw [show nI (k - i) - 1 = nI (k - i - 1) from pk_sub (a := k - i) (b := 1) (by omega)]; exact nI_pos (by omega)) rfl (by decide) dX9_layRow_9 ?_
    refine V_aload_n_0 (q := 13) C rfl dX9_layRow_12 ?_
    refine gf_X9_77 (q := 16) C rfl dX9_layRow_13 ?_
    refine V_iload_4 (q := 18) C rfl dX9_layRow_16 ?_
    refine V_iload_n_3 (q := 19) C rfl dX9_layRow_18 ?_
    refine V_aload_n_0 (q := 20) C rfl dX9_layRow_19 ?_
    refine gf_X9_105 (q := 23) C rfl dX9_layRow_20 ?_
    refine V_irem (q := 24) C (by rw [hTi]; exact nI_ne0 h0 (by omega)) rfl dX9_layRow_23 ?_
    rw [hTi, pk_rem hri h0 (by omega)]
    refine V_iast (q := 25) C (k - i - 1) (pk_sub (a := k - i) (b := 1) (by omega)) (by show _ < 4; omega) rfl (by decide) (by decide) rfl dX9_layRow_24 ?_
    refine V_iload_n_3 (q := 26) C rfl dX9_layRow_25 ?_
    refine V_aload_n_0 (q := 27) C rfl dX9_layRow_26 ?_
    refine gf_X9_105 (q := 30) C rfl dX9_layRow_27 ?_
    refine V_idiv (q := 31) C (by show ¬ (setc σ 63 (rowJ T k r i (σ 63))) 40 5 = 0; rw [hTi]; exact nI_ne0 h0 (by omega)) rfl dX9_layRow_30 ?_
    rw [show setf (setc σ 63 (rowJ T k r i (σ 63))) 63 (k - i - 1) (nI (r / T ^ i % T)) 40 5 = nI T from hT, pk_div hri h0 (by omega), show r / T ^ i / T = r / T ^ (i + 1) from by rw [Nat.div_div_eq_div_mul, Nat.pow_succ]]
    refine V_istore_n_3 (q := 32) C hn3 rfl rfl dX9_layRow_31 ?_
    refine V_iinc_4 (q := 35) (n := (-1)) C (nI_dec hi7 (by omega)) hn4 rfl rfl dX9_layRow_32 ?_
    refine V_goto (tgt := 7) C (by decide) dX9_layRow_35 ?_
    refine V_eq ?_ ih7
    show setc (setc σ 63 (rowJ T k r i (σ 63))) 63 (upd (rowJ T k r i (σ 63)) (k - i - 1) _) = _
    rw [setc_setc, rowJ_s hi7]
  exact V_eqlv (by rw [Nat.pow_zero, Nat.div_one, Nat.sub_zero]) (V_eq (by rw [rowJ_0, setc_id]) (loopN (P := fun i => V X 7 [.ref (xad X 40), .int (nI r), .int (nI k), .int (nI (r / T ^ i)), .int (nI (k - i) - 1)] [] (setc σ 63 (rowJ T k r i (σ 63)))) (k) hx7 hs7 0 (Nat.zero_le _)))

abbrev winM (σ : ST) (T P C p N k r : Nat) : Prop := ¬ (mDC (rowS σ T k r) T P C N).2.2 p = -9
def lwM (σ : ST) (T P C p N : Nat) : Nat → Nat → Option (Nat × Nat)
  | 0, _ => none
  | f + 1, k => match fst? (winM σ T P C p N k) (T ^ k) 0 with
    | some r => some (k, r)
    | none => lwM σ T P C p N f (k + 1)
def frI (x : Option Nat) : Int32 := match x with
  | some r => nI r
  | none => -9
theorem row_st {σ : ST} {s : S3} {w f : Nat → Int32} {k : Nat} : setf (setc (putM (setc σ 63 w) s) 63 f) 40 31 (nI k) = putM (setf (setc σ 63 f) 40 31 (nI k)) s := by
  rw [putM_63, setc_setc, putM_40]
theorem row_un {σ : ST} {s : S3} {f : Nat → Int32} {k : Nat} (h9 : σ 40 31 = -9) : setf (putM (setf (setc σ 63 f) 40 31 (nI k)) s) 40 31 (-9) = putM (setc σ 63 f) s := by
  rw [putM_40, setf_setf, setf_id (show (setc σ 63 f) 40 31 = -9 from h9)]

set_option maxHeartbeats 4000000 in
set_option maxRecDepth 100000 in
theorem c_X9_firstRow {l : Launch} {D : DD} {ad : Nat → Nat} (σ : ST) (T P C2 j k N : Nat) (ld : Int32) (hM : MH σ T P C2) (h9 : σ 40 31 = -9) (h0 : 0 < T) (hk : k ≤ 4) (hj : j < P) (hN : isLd ld N) : Ct l yX9_firstRow cX9_firstRow 6 (Option.some FieldType.int) 4 88 D ad [.ref (ad 40), .int (nI j), .int ld, .int (nI k)] σ (pq (fun v τ => v = frI (fst? (winM σ T P C2 j N k) (T ^ k) 0) ∧ ∃ w s, τ = putM (setc σ 63 w) s)) := by
  refine Ct.of2 [.ref (ad 40), .int (nI j), .int ld, .int (nI k), .float 0, .float 0] rfl (Nat.le_of_ble_eq_true rfl) rfl ?_
  rintro X C rfl rfl rfl hxn hR
  have hn4 : 4 < xn X := by rw [← hxn]; decide
  have hn5 : 5 < xn X := by rw [← hxn]; decide
  have hT := hM.1
  have hT6 := hM.2.1
  have hP6 := hM.2.2.2.1
  have hT1 : T ^ k ≤ 1296 := pow_b hT6 hk
  refine V_aload_n_0 (q := 1) C rfl dX9_firstRow_0 ?_
  refine V_iload_n_3 (q := 2) C rfl dX9_firstRow_1 ?_
  refine V_cV1r (q := 5) C (c_X9_rowsOf σ T k hT hk) cw_X9_rowsOf cv_X9_rowsOf wm_X9_188 (by decide) ob_X9 ⟨by decide, by decide⟩ (Nat.le_of_ble_eq_true rfl) rfl dX9_firstRow_2 ?_
  refine V_istore_4 (q := 7) C hn4 rfl rfl dX9_firstRow_5 ?_
  refine V_iconst (q := 8) (v := (nI 0)) C rfl rfl dX9_firstRow_7 ?_
  refine V_istore_5 (q := 10) C hn5 rfl rfl dX9_firstRow_8 ?_
  have hx10 : ∀ (w : Nat → Int32) (s : S3), (fst? (winM σ T P C2 j N k) (T ^ k) 0 = fst? (winM σ T P C2 j N k) (T ^ k - ((T ^ k))) ((T ^ k))) → V X 10 [.ref (xad X 40), .int (nI j), .int ld, .int (nI k), .int (nI (T ^ k)), .int (nI ((T ^ k)))] [] (putM (setc σ 63 w) s) := by
    intro w s hv10
    refine V_iload_5 (q := 12) C rfl dX9_firstRow_10 ?_
    refine V_iload_4 (q := 14) C rfl dX9_firstRow_12 ?_
    refine V_icmp_ge_t (tgt := 55) C (nI_le (Nat.le_refl _) (by omega)) (by decide) dX9_firstRow_14 ?_
    refine V_bipush (q := 57) (v := (-9)) C (by decide) rfl dX9_firstRow_55 ?_
    refine V_iret C hR dX9_firstRow_57 ?_
    refine ⟨_, rfl, ?_, _, _, rfl⟩
    rw [hv10, Nat.sub_self]
    rfl
  have hs10 : ∀ r : Nat, r < (T ^ k) → (∀ (w : Nat → Int32) (s : S3), (fst? (winM σ T P C2 j N k) (T ^ k) 0 = fst? (winM σ T P C2 j N k) (T ^ k - (r + 1)) (r + 1)) → V X 10 [.ref (xad X 40), .int (nI j), .int ld, .int (nI k), .int (nI (T ^ k)), .int (nI (r + 1))] [] (putM (setc σ 63 w) s)) → ∀ (w : Nat → Int32) (s : S3), (fst? (winM σ T P C2 j N k) (T ^ k) 0 = fst? (winM σ T P C2 j N k) (T ^ k - r) r) → V X 10 [.ref (xad X 40), .int (nI j), .int ld, .int (nI k), .int (nI (T ^ k)), .int (nI r)] [] (putM (setc σ 63 w) s) := by
    intro r hi10 ih10 w s hv10
    have hf : fst? (winM σ T P C2 j N k) (T ^ k) 0 = if winM σ T P C2 j N k r then some r else fst? (winM σ T P C2 j N k) (T ^ k - (r + 1)) (r + 1) := by rw [hv10, show T ^ k - r = (T ^ k - (r + 1)) + 1 by omega]; rfl
    refine V_iload_5 (q := 12) C rfl dX9_firstRow_10 ?_
    refine V_iload_4 (q := 14) C rfl dX9_firstRow_12 ?_
    refine V_icmp_ge_f (tgt := 55) C (nI_ge hi10 (by omega)) rfl (by decide) dX9_firstRow_14 ?_
    refine V_aload_n_0 (q := 18) C rfl dX9_firstRow_17 ?_
    refine V_iload_5 (q := 20) C rfl dX9_firstRow_18 ?_
    refine V_iload_n_3 (q := 21) C rfl dX9_firstRow_20 ?_
    refine V_cV2v (q := 24) C (Ct.mono (v' := none) (τ' := putM (setf (setc σ 63 (rowJ T k r k w)) 40 31 (nI k)) s) (c_X9_layRow (putM (setc σ 63 w) s) T k r hT hT6 h0 hk (by omega)) (rfl) (row_st)) cw_X9_layRow cv_X9_layRow wm_X9_191 (by decide) ob_X9 ⟨by decide, by decide⟩ (Nat.le_of_ble_eq_true rfl) rfl dX9_firstRow_21 ?_
    refine V_aload_n_0 (q := 25) C rfl dX9_firstRow_24 ?_
    refine V_iload_n_2 (q := 26) C rfl dX9_firstRow_25 ?_
    refine V_cV1v (q := 29) C (c_X9_goTo (putM (setf (setc σ 63 (rowJ T k r k w)) 40 31 (nI k)) s) T P C2 (N) (ld) (MH_row (σ := σ) (f := rowJ T k r k w) (k := k) (r := r) hM h0 hk (fun _ h => rowJ_lt h)) (hN)) cw_X9_goTo cv_X9_goTo wm_X9_185 (by decide) ob_X9 ⟨by decide, by decide⟩ (Nat.le_of_ble_eq_true rfl) rfl dX9_firstRow_26 ?_
    have hE : EqR T P (mDays (putM (setf (setc σ 63 (rowJ T k r k w)) 40 31 (nI k)) s) T P C2 (N) (m0 (putM (setf (setc σ 63 (rowJ T k r k w)) 40 31 (nI k)) s) T P)) (mDC (rowS σ T k r) T P C2 (N)) := by have h1 := mDC_eq (σ := putM (setf (setc σ 63 (rowJ T k r k w)) 40 31 (nI k)) s) (T := T) (P := P) (C := C2) (N := N) (MH_row (σ := σ) (f := rowJ T k r k w) (k := k) (r := r) hM h0 hk (fun _ h => rowJ_lt h)) (hN).1; unfold mDC at h1 ⊢; rw [show mDays (putM (setf (setc σ 63 (rowJ T k r k w)) 40 31 (nI k)) s) T P C2 (N) mc0 = mDays (rowS σ T k r) T P C2 (N) mc0 from (mDays_put _).trans (mDays_cg (Ag_row hk (fun _ h => rowJ_lt h)) _ (hN).1)] at h1; exact h1
    generalize mDays (putM (setf (setc σ 63 (rowJ T k r k w)) 40 31 (nI k)) s) T P C2 (N) (m0 (putM (setf (setc σ 63 (rowJ T k r k w)) 40 31 (nI k)) s) T P) = s1 at hE ⊢
    refine V_eq putM_putM ?_
    refine V_aload_n_0 (q := 30) C rfl dX9_firstRow_29 ?_
    refine V_bipush (q := 32) (v := (-9)) C (by decide) rfl dX9_firstRow_30 ?_
    refine pf_X9_80 (q := 35) C rfl dX9_firstRow_32 ?_
    refine V_eq (row_un h9) ?_
    refine V_aload_n_0 (q := 36) C rfl dX9_firstRow_35 ?_
    refine gf_X9_74 (q := 39) C rfl dX9_firstRow_36 ?_
    refine V_iload_n_1 (q := 40) C rfl dX9_firstRow_39 ?_
    refine V_iald (q := 41) C _ rfl (by show _ < 6; omega) rfl (by decide) (by decide) rfl dX9_firstRow_40 ?_
    refine V_bipush (q := 43) (v := (-9)) C (by decide) rfl dX9_firstRow_41 ?_
    show V X 43 _ (.int (-9) :: .int (s1.2.2 j) :: []) _
    refine V_icmp_eq (tgt := 49) C rfl (by decide) dX9_firstRow_43 (fun c43 => ?_) (fun c43 => ?_)
    · refine V_iinc_5 (q := 52) (n := 1) C nI_inc hn5 rfl rfl dX9_firstRow_49 ?_
      refine V_goto (tgt := 10) C (by decide) dX9_firstRow_52 ?_
      exact ih10 _ _ (by rw [hf, if_neg (fun h => h ((hE.2 j hj).2.symm.trans c43))])
    · refine V_iload_5 (q := 48) C rfl dX9_firstRow_46 ?_
      refine V_iret C hR dX9_firstRow_48 ?_
      refine ⟨_, rfl, ?_, _, _, rfl⟩
      rw [hf, if_pos (fun h => c43 ((hE.2 j hj).2.trans h))]
      rfl
  exact V_eq (by rw [setc_id, putM_get]) (loopN (P := fun r => ∀ (w : Nat → Int32) (s : S3), (fst? (winM σ T P C2 j N k) (T ^ k) 0 = fst? (winM σ T P C2 j N k) (T ^ k - r) r) → V X 10 [.ref (xad X 40), .int (nI j), .int ld, .int (nI k), .int (nI (T ^ k)), .int (nI r)] [] (putM (setc σ 63 w) s)) ((T ^ k)) hx10 hs10 0 (Nat.zero_le _) (σ 63) (getM σ) (rfl))

set_option maxHeartbeats 4000000 in
set_option maxRecDepth 100000 in
theorem c_X9_least_u {l : Launch} {D : DD} {ad : Nat → Nat} (σ : ST) (P : Nat) (p d q : Int32) (hP : σ 40 6 = nI P) (h : ¬ (isT (nI P) p ∧ isT 30 d ∧ ¬ q < -1)) : Ct l yX9_least cX9_least 6 (Option.some FieldType.int) 5 113 D ad [.ref (ad 40), .int p, .int d, .int q] σ (ex (some (.int (-1))) σ) := by
  refine Ct.of2 [.ref (ad 40), .int p, .int d, .int q, .float 0, .float 0] rfl (Nat.le_of_ble_eq_true rfl) rfl ?_
  rintro X C rfl rfl rfl hxn hR
  refine V_aload_n_0 (q := 1) C rfl dX9_least_0 ?_
  refine V_iload_n_1 (q := 2) C rfl dX9_least_1 ?_
  refine V_cV1r (q := 5) C (Ct.mono (v' := some (.int (pI (isT (nI P) p)))) (c_X9_isPrisoner σ p) (by rw [show σ 40 6 = nI P from hP]) rfl) cw_X9_isPrisoner cv_X9_isPrisoner wm_X9_162 (by decide) ob_X9 ⟨by decide, by decide⟩ (Nat.le_of_ble_eq_true rfl) rfl dX9_least_2 ?_
  refine V_ifp_eq (tgt := 20) C rfl (by decide) dX9_least_5 (fun c5 => ?_) (fun c5 => ?_)
  · refine V_iconst (q := 21) (v := (-1)) C rfl rfl dX9_least_20 ?_
    refine V_iret C hR dX9_least_21 ?_
    exact ⟨rfl, rfl⟩
  · refine V_iload_n_2 (q := 9) C rfl dX9_least_8 ?_
    refine V_cS1r (q := 12) C (c_X9_isDay _ _) cw_X9_isDay cs_X9_isDay wm_X9_165 ⟨by decide, by decide⟩ (Nat.le_of_ble_eq_true rfl) rfl dX9_least_9 ?_
    refine V_ifp_eq (tgt := 20) C rfl (by decide) dX9_least_12 (fun c12 => ?_) (fun c12 => ?_)
    · refine V_iconst (q := 21) (v := (-1)) C rfl rfl dX9_least_20 ?_
      refine V_iret C hR dX9_least_21 ?_
      exact ⟨rfl, rfl⟩
    · refine V_iload_n_3 (q := 16) C rfl dX9_least_15 ?_
      refine V_iconst (q := 17) (v := (-1)) C rfl rfl dX9_least_16 ?_
      refine V_icmp_ge (tgt := 22) C rfl (by decide) dX9_least_17 (fun c17 => ?_) (fun c17 => ?_)
      · exact absurd ⟨c5, c12, Int32.not_lt.mpr c17⟩ h
      · refine V_iconst (q := 21) (v := (-1)) C rfl rfl dX9_least_20 ?_
        refine V_iret C hR dX9_least_21 ?_
        exact ⟨rfl, rfl⟩

theorem MH_63 {σ : ST} {T P C : Nat} {w : Nat → Int32} {s : S3} (h9 : σ 40 31 = -9) (hM : MH σ T P C) : MH (putM (setc σ 63 w) s) T P C :=
  ⟨hM.1, hM.2.1, hM.2.2.1, hM.2.2.2.1, hM.2.2.2.2.1, hM.2.2.2.2.2.1, hM.2.2.2.2.2.2.1, Or.inl h9, fun d hd => by
    have := hM.2.2.2.2.2.2.2.2 d hd
    unfold woM at this ⊢
    rw [if_pos h9] at this
    rw [if_pos (show (putM (setc σ 63 w) s) 40 31 = -9 from h9)]
    exact this⟩
theorem win_63 {σ : ST} {T P C p N k r : Nat} {w : Nat → Int32} {s : S3} (hk : k ≤ 4) (hN : N ≤ 30) : winM (putM (setc σ 63 w) s) T P C p N k r ↔ winM σ T P C p N k r := by
  have e : mDC (rowS (putM (setc σ 63 w) s) T k r) T P C N = mDC (rowS σ T k r) T P C N := by
    unfold mDC
    exact mDays_cg (σ := rowS (putM (setc σ 63 w) s) T k r) (τ := rowS σ T k r) ⟨fun d hd => (wo_rowS hk hd).trans (wo_rowS hk hd).symm, rfl, rfl, rfl, rfl, rfl, rfl, rfl, rfl, fun _ _ => ⟨rfl, rfl⟩⟩ N hN
  show (¬ (mDC (rowS (putM (setc σ 63 w) s) T k r) T P C N).2.2 p = -9) ↔ _
  rw [e]
theorem putM_63w {σ : ST} {s t : S3} {w v : Nat → Int32} : putM (setc (putM (setc σ 63 w) s) 63 v) t = putM (setc σ 63 v) t := by
  rw [putM_63, setc_setc, putM_putM]

set_option maxHeartbeats 4000000 in
set_option maxRecDepth 100000 in
theorem c_X9_least_v {l : Launch} {D : DD} {ad : Nat → Nat} (σ : ST) (T P C2 j d : Nat) (q : Int32) (hM : MH σ T P C2) (h9 : σ 40 31 = -9) (h0 : 0 < T) (hj : j < P) (hd : d < 30) (hq : ¬ q < -1) : Ct l yX9_least cX9_least 6 (Option.some FieldType.int) 5 113 D ad [.ref (ad 40), .int (nI j), .int (nI d), .int q] σ (pq (fun v τ => v = leR T q (lwM σ T P C2 j (d + 1) 5 0) ∧ KM C2 σ τ)) := by
  refine Ct.of2 [.ref (ad 40), .int (nI j), .int (nI d), .int q, .float 0, .float 0] rfl (Nat.le_of_ble_eq_true rfl) rfl ?_
  rintro X C rfl rfl rfl hxn hR
  have hn4 : 4 < xn X := by rw [← hxn]; decide
  have hn5 : 5 < xn X := by rw [← hxn]; decide
  have hT := hM.1
  have hT6 := hM.2.1
  have hP := hM.2.2.1
  have hP6 := hM.2.2.2.1
  refine V_aload_n_0 (q := 1) C rfl dX9_least_0 ?_
  refine V_iload_n_1 (q := 2) C rfl dX9_least_1 ?_
  refine V_cV1r (q := 5) C (Ct.mono (v' := some (.int (pI (isT (nI P) (nI j))))) (c_X9_isPrisoner σ (nI j)) (by rw [show σ 40 6 = nI P from hP]) rfl) cw_X9_isPrisoner cv_X9_isPrisoner wm_X9_162 (by decide) ob_X9 ⟨by decide, by decide⟩ (Nat.le_of_ble_eq_true rfl) rfl dX9_least_2 ?_
  refine V_ifp_eq_f (tgt := 20) C (isT_nI hj (by omega)) rfl (by decide) dX9_least_5 ?_
  refine V_iload_n_2 (q := 9) C rfl dX9_least_8 ?_
  refine V_cS1r (q := 12) C (c_X9_isDay _ _) cw_X9_isDay cs_X9_isDay wm_X9_165 ⟨by decide, by decide⟩ (Nat.le_of_ble_eq_true rfl) rfl dX9_least_9 ?_
  refine V_ifp_eq_f (tgt := 20) C (isT_nI (N := 30) hd (by decide)) rfl (by decide) dX9_least_12 ?_
  refine V_iload_n_3 (q := 16) C rfl dX9_least_15 ?_
  refine V_iconst (q := 17) (v := (-1)) C rfl rfl dX9_least_16 ?_
  refine V_icmp_ge_t (tgt := 22) C (Int32.not_lt.mp hq) (by decide) dX9_least_17 ?_
  refine V_iconst (q := 23) (v := (nI 0)) C rfl rfl dX9_least_22 ?_
  refine V_istore_4 (q := 25) C hn4 rfl rfl dX9_least_23 ?_
  have hx25 : ∀ (w : Nat → Int32) (s : S3), (lwM σ T P C2 j (d + 1) 5 0 = lwM σ T P C2 j (d + 1) (5 - 5) 5) → V X 25 [.ref (xad X 40), .int (nI j), .int (nI d), .int q, .int (nI 5), .float 0] [] (putM (setc σ 63 w) s) := by
    intro w s hv25
    refine V_iload_4 (q := 27) C rfl dX9_least_25 ?_
    refine V_iconst (q := 28) (v := 4) C rfl rfl dX9_least_27 ?_
    refine V_icmp_gt_t (tgt := 96) C (by decide) (by decide) dX9_least_28 ?_
    refine V_bipush (q := 98) (v := (-9)) C (by decide) rfl dX9_least_96 ?_
    refine V_iret C hR dX9_least_98 ?_
    refine ⟨_, rfl, ?_, (KM.setc (by omega)).trans KM.put⟩
    rw [hv25]
    rfl
  have hs25 : ∀ k : Nat, k < 5 → (∀ (w : Nat → Int32) (s : S3), (lwM σ T P C2 j (d + 1) 5 0 = lwM σ T P C2 j (d + 1) (5 - (k + 1)) (k + 1)) → V X 25 [.ref (xad X 40), .int (nI j), .int (nI d), .int q, .int (nI (k + 1)), .float 0] [] (putM (setc σ 63 w) s)) → ∀ (w : Nat → Int32) (s : S3), (lwM σ T P C2 j (d + 1) 5 0 = lwM σ T P C2 j (d + 1) (5 - k) k) → V X 25 [.ref (xad X 40), .int (nI j), .int (nI d), .int q, .int (nI k), .float 0] [] (putM (setc σ 63 w) s) := by
    intro k hi25 ih25 w s hv25
    have hT1 : T ^ k ≤ 1296 := pow_b hT6 (by omega)
    have hk : k ≤ 4 := by omega
    have hl : lwM σ T P C2 j (d + 1) 5 0 = (match fst? (winM σ T P C2 j (d + 1) k) (T ^ k) 0 with | some r => some (k, r) | none => lwM σ T P C2 j (d + 1) (5 - (k + 1)) (k + 1)) := by rw [hv25, show 5 - k = (5 - (k + 1)) + 1 by omega]; rfl
    refine V_iload_4 (q := 27) C rfl dX9_least_25 ?_
    refine V_iconst (q := 28) (v := 4) C rfl rfl dX9_least_27 ?_
    refine V_icmp_gt_f (tgt := 96) C (Int32.not_lt.mpr (nI_le (b := 4) (by omega) (by decide))) rfl (by decide) dX9_least_28 ?_
    refine V_aload_n_0 (q := 32) C rfl dX9_least_31 ?_
    refine V_iload_n_1 (q := 33) C rfl dX9_least_32 ?_
    refine V_iload_n_2 (q := 34) C rfl dX9_least_33 ?_
    refine V_iload_4 (q := 36) C rfl dX9_least_34 ?_
    refine V_cV3q C (c_X9_firstRow (putM (setc σ 63 w) s) T P C2 j k (d + 1) (nI d) (MH_63 h9 hM) h9 h0 hk hj (ldN hd)) cw_X9_firstRow cv_X9_firstRow wm_X9_194 (by decide) ob_X9 ⟨by decide, by decide⟩ (Nat.le_of_ble_eq_true rfl) rfl dX9_least_36 (fun v τ hv => ?_)
    obtain ⟨rfl, w1, s2, rfl⟩ := hv
    rw [show fst? (winM (putM (setc σ 63 w) s) T P C2 j (d + 1) k) (T ^ k) 0 = fst? (winM σ T P C2 j (d + 1) k) (T ^ k) 0 from fst?_congr _ _ (fun r _ _ => win_63 hk (ldN hd).1)]
    refine V_eq putM_63w ?_
    refine V_istore_5 (q := 41) C hn5 rfl rfl dX9_least_39 ?_
    refine V_iload_5 (q := 43) C rfl dX9_least_41 ?_
    refine V_bipush (q := 45) (v := (-9)) C (by decide) rfl dX9_least_43 ?_
    refine V_icmp_eq (tgt := 90) C rfl (by decide) dX9_least_45 (fun c45 => ?_) (fun c45 => ?_)
    · refine V_iinc_4 (q := 93) (n := 1) C nI_inc hn4 rfl rfl dX9_least_90 ?_
      refine V_goto (tgt := 25) C (by decide) dX9_least_93 ?_
      refine V_weak6a (ih25 _ _ ?_)
      rw [hl]
      cases hf : fst? (winM σ T P C2 j (d + 1) k) (T ^ k) 0 with
      | some r => rw [hf] at c45; exact absurd c45 (nI_ne9 (by have := (fst?_lt _ _ _ hf).2.1; omega))
      | none => rfl
    · obtain ⟨r, hf⟩ : ∃ r, fst? (winM σ T P C2 j (d + 1) k) (T ^ k) 0 = some r := by
        cases hf : fst? (winM σ T P C2 j (d + 1) k) (T ^ k) 0 with
        | some r => exact ⟨r, rfl⟩
        | none => rw [hf] at c45; exact absurd rfl c45
      have hr := (fst?_lt _ _ _ hf).2.1
      rw [hf] at hl
      rw [hf]
      show V X 48 [.ref (xad X 40), .int (nI j), .int (nI d), .int q, .int (nI k), .int (nI r)] [] _
      refine V_aload_n_0 (q := 49) C rfl dX9_least_48 ?_
      refine V_iload_5 (q := 51) C rfl dX9_least_49 ?_
      refine V_iload_4 (q := 53) C rfl dX9_least_51 ?_
      refine V_cV2v (q := 56) C (Ct.mono (v' := none) (τ' := putM (setf (setc σ 63 (rowJ T k r k w1)) 40 31 (nI k)) s2) (c_X9_layRow (putM (setc σ 63 w1) s2) T k r hT hT6 h0 hk (by omega)) (rfl) (row_st)) cw_X9_layRow cv_X9_layRow wm_X9_191 (by decide) ob_X9 ⟨by decide, by decide⟩ (Nat.le_of_ble_eq_true rfl) rfl dX9_least_53 ?_
      refine V_aload_n_0 (q := 57) C rfl dX9_least_56 ?_
      refine V_bipush (q := 59) (v := (-9)) C (by decide) rfl dX9_least_57 ?_
      refine pf_X9_80 (q := 62) C rfl dX9_least_59 ?_
      refine V_eq (row_un h9) ?_
      refine V_iload_n_3 (q := 63) C rfl dX9_least_62 ?_
      refine V_iconst (q := 64) (v := (-1)) C rfl rfl dX9_least_63 ?_
      refine V_icmp_ne (tgt := 72) C rfl (by decide) dX9_least_64 (fun c64 => ?_) (fun c64 => ?_)
      · refine V_iload_n_3 (q := 73) C rfl dX9_least_72 ?_
        refine V_iload_4 (q := 75) C rfl dX9_least_73 ?_
        refine V_icmp_ge (tgt := 87) C rfl (by decide) dX9_least_75 (fun c75 => ?_) (fun c75 => ?_)
        · refine V_bipush (q := 89) (v := (-9)) C (by decide) rfl dX9_least_87 ?_
          refine V_iret C hR dX9_least_89 ?_
          refine ⟨_, rfl, ?_, (KM.setc (by omega)).trans KM.put⟩
          rw [hl]
          show _ = if q = -1 then nI k else trR (rowW T k r) (nI k) q
          rw [if_neg c64]
          unfold trR
          rw [if_neg (fun h => h.2 c75)]
        · have hq0 : ¬ q < 0 := fun h => c64 (by
            have h1 := Int32.not_lt.mp hq
            rw [Int32.le_iff_toInt_le] at h1
            rw [Int32.lt_iff_toInt_lt] at h
            refine Int32.toInt_inj.mp ?_
            have h3 : (-1 : Int) ≤ q.toInt := h1
            have h4 : q.toInt < (0 : Int) := h
            show q.toInt = (-1 : Int)
            omega)
          obtain ⟨t, ht, et⟩ := isT_of ⟨hq0, c75⟩ rfl (by omega)
          refine V_aload_n_0 (q := 79) C rfl dX9_least_78 ?_
          refine gf_X9_77 (q := 82) C rfl dX9_least_79 ?_
          refine V_iload_n_3 (q := 83) C rfl dX9_least_82 ?_
          refine V_iald (q := 84) C t et (by show _ < 4; omega) rfl (by decide) (by decide) rfl dX9_least_83 ?_
          refine V_goto (tgt := 89) C (by decide) dX9_least_84 ?_
          refine V_iret C hR dX9_least_89 ?_
          refine ⟨_, rfl, ?_, (KM.setc (by omega)).trans KM.put⟩
          rw [hl]
          show _ = if q = -1 then nI k else trR (rowW T k r) (nI k) q
          rw [if_neg c64]
          unfold trR
          rw [if_pos ⟨hq0, c75⟩, et, nI_clamp (by omega)]
          exact rowJ_lt ht
      · refine V_iload_4 (q := 69) C rfl dX9_least_67 ?_
        refine V_goto (tgt := 89) C (by decide) dX9_least_69 ?_
        refine V_iret C hR dX9_least_89 ?_
        refine ⟨_, rfl, ?_, (KM.setc (by omega)).trans KM.put⟩
        rw [hl]
        exact (if_pos c64).symm
  exact V_eq (by rw [setc_id, putM_get]) (loopN (P := fun k => ∀ (w : Nat → Int32) (s : S3), (lwM σ T P C2 j (d + 1) 5 0 = lwM σ T P C2 j (d + 1) (5 - k) k) → V X 25 [.ref (xad X 40), .int (nI j), .int (nI d), .int q, .int (nI k), .float 0] [] (putM (setc σ 63 w) s)) (5) hx25 hs25 0 (Nat.zero_le _) (σ 63) (getM σ) (rfl))

set_option maxHeartbeats 4000000 in
set_option maxRecDepth 100000 in
theorem c_X9_outByTrees {l : Launch} {D : DD} {ad : Nat → Nat} (σ : ST) (P : Nat) (hP : σ 40 6 = nI P) (hP6 : P ≤ 6) : Ct l yX9_outByTrees cX9_outByTrees 3 (Option.some FieldType.int) 0 0 D ad [.ref (ad 40)] σ (ex (some (.int (cntB (σ 62) P))) σ) := by
  refine Ct.of2 [.ref (ad 40), .float 0, .float 0] rfl (Nat.le_of_ble_eq_true rfl) rfl ?_
  rintro X C rfl rfl rfl hxn hR
  have hn1 : 1 < xn X := by rw [← hxn]; decide
  have hn2 : 2 < xn X := by rw [← hxn]; decide
  refine V_iconst (q := 1) (v := 0) C rfl rfl dX9_outByTrees_0 ?_
  refine V_istore_n_1 (q := 2) C hn1 rfl rfl dX9_outByTrees_1 ?_
  refine V_iconst (q := 3) (v := (nI 0)) C rfl rfl dX9_outByTrees_2 ?_
  refine V_istore_n_2 (q := 4) C hn2 rfl rfl dX9_outByTrees_3 ?_
  have hx4 : V X 4 [.ref (xad X 40), .int (cntB (σ 62) P), .int (nI P)] [] (σ) := by
    refine V_iload_n_2 (q := 5) C rfl dX9_outByTrees_4 ?_
    refine V_aload_n_0 (q := 6) C rfl dX9_outByTrees_5 ?_
    refine gf_X9_108 (q := 9) C rfl dX9_outByTrees_6 ?_
    rw [hP]
    refine V_icmp_ge_t (tgt := 37) C (nI_le (Nat.le_refl _) (by omega)) (by decide) dX9_outByTrees_9 ?_
    refine V_iload_n_1 (q := 38) C rfl dX9_outByTrees_37 ?_
    refine V_iret C hR dX9_outByTrees_38 ?_
    exact ⟨rfl, rfl⟩
  have hs4 : ∀ p : Nat, p < P → (V X 4 [.ref (xad X 40), .int (cntB (σ 62) (p + 1)), .int (nI (p + 1))] [] (σ)) → V X 4 [.ref (xad X 40), .int (cntB (σ 62) p), .int (nI p)] [] (σ) := by
    intro p hi4 ih4
    refine V_iload_n_2 (q := 5) C rfl dX9_outByTrees_4 ?_
    refine V_aload_n_0 (q := 6) C rfl dX9_outByTrees_5 ?_
    refine gf_X9_108 (q := 9) C rfl dX9_outByTrees_6 ?_
    rw [hP]
    refine V_icmp_ge_f (tgt := 37) C (nI_ge hi4 (by omega)) rfl (by decide) dX9_outByTrees_9 ?_
    refine V_iload_n_1 (q := 13) C rfl dX9_outByTrees_12 ?_
    refine V_aload_n_0 (q := 14) C rfl dX9_outByTrees_13 ?_
    refine gf_X9_74 (q := 17) C rfl dX9_outByTrees_14 ?_
    refine V_iload_n_2 (q := 18) C rfl dX9_outByTrees_17 ?_
    refine V_iald (q := 19) C _ rfl (by show _ < 6; omega) rfl (by decide) (by decide) rfl dX9_outByTrees_18 ?_
    refine V_bipush (q := 21) (v := (-9)) C (by decide) rfl dX9_outByTrees_19 ?_
    refine V_icmp_ne (tgt := 28) C rfl (by decide) dX9_outByTrees_21 (fun c21 => ?_) (fun c21 => ?_)
    · refine V_iconst (q := 29) (v := 1) C rfl rfl dX9_outByTrees_28 ?_
      refine V_iadd (q := 30) C rfl dX9_outByTrees_29 ?_
      refine V_istore_n_1 (q := 31) C hn1 rfl rfl dX9_outByTrees_30 ?_
      refine V_iinc_2 (q := 34) (n := 1) C nI_inc hn2 rfl rfl dX9_outByTrees_31 ?_
      refine V_goto (tgt := 4) C (by decide) dX9_outByTrees_34 ?_
      first
      | (rw [show cntB (σ 62) p + 0 = cntB (σ 62) (p + 1) from by rw [Int32.add_zero]; exact (if_neg (nn c21)).symm]; exact ih4)
      | (rw [show cntB (σ 62) p + 1 = cntB (σ 62) (p + 1) from (if_pos c21).symm]; exact ih4)
    · refine V_iconst (q := 25) (v := 0) C rfl rfl dX9_outByTrees_24 ?_
      refine V_goto (tgt := 29) C (by decide) dX9_outByTrees_25 ?_
      refine V_iadd (q := 30) C rfl dX9_outByTrees_29 ?_
      refine V_istore_n_1 (q := 31) C hn1 rfl rfl dX9_outByTrees_30 ?_
      refine V_iinc_2 (q := 34) (n := 1) C nI_inc hn2 rfl rfl dX9_outByTrees_31 ?_
      refine V_goto (tgt := 4) C (by decide) dX9_outByTrees_34 ?_
      first
      | (rw [show cntB (σ 62) p + 0 = cntB (σ 62) (p + 1) from by rw [Int32.add_zero]; exact (if_neg (nn c21)).symm]; exact ih4)
      | (rw [show cntB (σ 62) p + 1 = cntB (σ 62) (p + 1) from (if_pos c21).symm]; exact ih4)
  exact V_eq (rfl) (loopN (P := fun p => V X 4 [.ref (xad X 40), .int (cntB (σ 62) p), .int (nI p)] [] (σ)) (P) hx4 hs4 0 (Nat.zero_le _))

