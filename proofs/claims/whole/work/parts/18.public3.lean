/-! the class: its public calls, searches and texts -/
theorem putS_31 {σ : ST} {s : S4} {w v : Nat → Int32} : setc (putS (setc σ 31 w) s) 31 v = putS (setc σ 31 v) s := by
  funext z
  by_cases e0 : z = 36
  · subst e0; rfl
  · by_cases e1 : z = 35
    · subst e1; rfl
    · by_cases e2 : z = 34
      · subst e2; rfl
      · by_cases e3 : z = 30
        · subst e3; rfl
        · by_cases e4 : z = 31
          · subst e4; rfl
          · simp only [putS, setf, setc, if_neg e0, if_neg e1, if_neg e2, if_neg e3, if_neg e4]
theorem putS_33 {σ : ST} {s : S4} {w v : Nat → Int32} : setc (putS (setc σ 33 w) s) 33 v = putS (setc σ 33 v) s := by
  funext z
  by_cases e0 : z = 36
  · subst e0; rfl
  · by_cases e1 : z = 35
    · subst e1; rfl
    · by_cases e2 : z = 34
      · subst e2; rfl
      · by_cases e3 : z = 30
        · subst e3; rfl
        · by_cases e4 : z = 33
          · subst e4; rfl
          · simp only [putS, setf, setc, if_neg e0, if_neg e1, if_neg e2, if_neg e3, if_neg e4]
theorem Kp.refl {σ : ST} : Kp σ σ := fun _ _ => rfl
theorem Kp.trans {σ τ υ : ST} (h : Kp σ τ) (h2 : Kp τ υ) : Kp σ υ := fun k hk => (h2 k hk).trans (h k hk)
theorem Kp.setc {σ : ST} {k : Nat} {f : Nat → Int32} (h : scr k) : Kp σ (setc σ k f) := fun j hj => setc_n (fun e => hj (e ▸ h))
theorem Kp.put {σ : ST} {s : S4} : Kp σ (putS σ s) := fun k hk => by
  unfold putS setf
  unfold scr at hk
  rw [setc_n (by omega), setc_n (by omega), setc_n (by omega), setc_n (by omega)]
theorem Kp.prep {σ : ST} {C : Nat} : Kp σ (prepF σ C) := fun k hk => by
  unfold prepF setf
  unfold scr at hk
  rw [setc_n (by omega), setc_n (by omega), setc_n (by omega), setc_n (by omega), setc_n (by omega)]
theorem Kp.pa {σ : ST} {T P C N : Nat} : Kp σ (paT σ T P C N) := Kp.prep.trans Kp.put
theorem Kp.fel {σ : ST} {x : Int32} : Kp σ (felS σ x) := Kp.setc (Or.inr (Or.inr (Or.inl ⟨by decide, by decide⟩)))
theorem lwF_k {σ : ST} {T P p N : Nat} {k r : Nat} : ∀ f k0 : Nat, lwF σ T P p N f k0 = some (k, r) → k < k0 + f := by
  intro f
  induction f with
  | zero => intro k0 h; cases h
  | succ f ih =>
    intro k0 h
    have h2 : (match fst? (winC σ T P p N k0) (T ^ k0) 0 with | some r => some (k0, r) | none => lwF σ T P p N f (k0 + 1)) = some (k, r) := h
    cases hf : fst? (winC σ T P p N k0) (T ^ k0) 0 with
    | some r2 => rw [hf] at h2; cases h2; omega
    | none => rw [hf] at h2; have := ih (k0 + 1) h2; omega
def leR (T : Nat) (q : Int32) (x : Option (Nat × Nat)) : Int32 := match x with
  | some (k, r) => if q = -1 then nI k else trR (rowW T k r) (nI k) q
  | none => -9
theorem trR_congr {f g : Nat → Int32} {k : Nat} {q : Int32} (hk : k ≤ 4) (h : ∀ t, t < k → f t = g t) : trR f (nI k) q = trR g (nI k) q := by
  unfold trR
  by_cases hq : isT (nI k) q
  · obtain ⟨j, hj, rfl⟩ := isT_of hq rfl (by omega)
    rw [if_pos hq, if_pos hq, nI_clamp (by omega), h j hj]
  · rw [if_neg hq, if_neg hq]

set_option maxHeartbeats 4000000 in
set_option maxRecDepth 100000 in
theorem c_X8_least_u {l : Launch} {D : DD} {ad : Nat → Nat} (σ : ST) (P : Nat) (p d q : Int32) (hP : σ 12 1 = nI P) (h : ¬ (isT (nI P) p ∧ isT 30 d ∧ ¬ q < -1)) : Ct l yX8_least cX8_least 5 (Option.some FieldType.int) 6 137 D ad [.ref (ad 0), .int p, .int d, .int q] σ (ex (some (.int (-1))) σ) := by
  refine Ct.of2 [.ref (ad 0), .int p, .int d, .int q, .float 0] rfl (Nat.le_of_ble_eq_true rfl) rfl ?_
  rintro X C rfl rfl rfl hxn hR
  refine V_aload_n_0 (q := 1) C rfl dX8_least_0 ?_
  refine gf_X8_57 (q := 4) C rfl dX8_least_1 ?_
  refine V_iload_n_1 (q := 5) C rfl dX8_least_4 ?_
  refine V_cV1r (q := 8) C (Ct.mono (v' := some (.int (pI (isT (nI P) p)))) (c_X1_hasPrisoner σ p) (by rw [show σ 12 1 = nI P from hP]) rfl) cw_X1_hasPrisoner cv_X1_hasPrisoner wm_X8_144 (by decide) ob_X1 ⟨by decide, by decide⟩ (Nat.le_of_ble_eq_true rfl) rfl dX8_least_5 ?_
  refine V_ifp_eq (tgt := 23) C rfl (by decide) dX8_least_8 (fun c8 => ?_) (fun c8 => ?_)
  · refine V_iconst (q := 24) (v := (-1)) C rfl rfl dX8_least_23 ?_
    refine V_iret C hR dX8_least_24 ?_
    exact ⟨rfl, rfl⟩
  · refine V_iload_n_2 (q := 12) C rfl dX8_least_11 ?_
    refine V_cS1r (q := 15) C (c_X8_isDay _ _) cw_X8_isDay cs_X8_isDay wm_X8_153 ⟨by decide, by decide⟩ (Nat.le_of_ble_eq_true rfl) rfl dX8_least_12 ?_
    refine V_ifp_eq (tgt := 23) C rfl (by decide) dX8_least_15 (fun c15 => ?_) (fun c15 => ?_)
    · refine V_iconst (q := 24) (v := (-1)) C rfl rfl dX8_least_23 ?_
      refine V_iret C hR dX8_least_24 ?_
      exact ⟨rfl, rfl⟩
    · refine V_iload_n_3 (q := 19) C rfl dX8_least_18 ?_
      refine V_iconst (q := 20) (v := (-1)) C rfl rfl dX8_least_19 ?_
      refine V_icmp_ge (tgt := 25) C rfl (by decide) dX8_least_20 (fun c20 => ?_) (fun c20 => ?_)
      · exact absurd ⟨c8, c15, Int32.not_lt.mpr c20⟩ h
      · refine V_iconst (q := 24) (v := (-1)) C rfl rfl dX8_least_23 ?_
        refine V_iret C hR dX8_least_24 ?_
        exact ⟨rfl, rfl⟩

set_option maxHeartbeats 4000000 in
set_option maxRecDepth 100000 in
theorem c_X8_least_v {l : Launch} {D : DD} {ad : Nat → Nat} (σ : ST) (T P C2 j d : Nat) (q : Int32) (hT : σ 12 0 = nI T) (hT6 : T ≤ 6) (hP : σ 12 1 = nI P) (hP6 : P ≤ 6) (hC : σ 21 5 = nI C2) (hC6 : C2 ≤ 6) (hcd : ∀ c, c < C2 → ∃ d : Nat, d < 30 ∧ σ 24 c = nI d) (h0 : 0 < T) (hj : j < P) (hd : d < 30) (hq : ¬ q < -1) : Ct l yX8_least cX8_least 5 (Option.some FieldType.int) 6 137 D ad [.ref (ad 0), .int (nI j), .int (nI d), .int q] σ (pq (fun v τ => v = leR T q (lwF (prepF σ C2) T P j (d + 1) 5 0) ∧ Kp σ τ)) := by
  refine Ct.of2 [.ref (ad 0), .int (nI j), .int (nI d), .int q, .float 0] rfl (Nat.le_of_ble_eq_true rfl) rfl ?_
  rintro X C rfl rfl rfl hxn hR
  have hn4 : 4 < xn X := by rw [← hxn]; decide
  refine V_aload_n_0 (q := 1) C rfl dX8_least_0 ?_
  refine gf_X8_57 (q := 4) C rfl dX8_least_1 ?_
  refine V_iload_n_1 (q := 5) C rfl dX8_least_4 ?_
  refine V_cV1r (q := 8) C (Ct.mono (v' := some (.int (pI (isT (nI P) (nI j))))) (c_X1_hasPrisoner σ (nI j)) (by rw [show σ 12 1 = nI P from hP]) rfl) cw_X1_hasPrisoner cv_X1_hasPrisoner wm_X8_144 (by decide) ob_X1 ⟨by decide, by decide⟩ (Nat.le_of_ble_eq_true rfl) rfl dX8_least_5 ?_
  refine V_ifp_eq_f (tgt := 23) C (isT_nI hj (by omega)) rfl (by decide) dX8_least_8 ?_
  refine V_iload_n_2 (q := 12) C rfl dX8_least_11 ?_
  refine V_cS1r (q := 15) C (c_X8_isDay _ _) cw_X8_isDay cs_X8_isDay wm_X8_153 ⟨by decide, by decide⟩ (Nat.le_of_ble_eq_true rfl) rfl dX8_least_12 ?_
  refine V_ifp_eq_f (tgt := 23) C (isT_nI (N := 30) hd (by decide)) rfl (by decide) dX8_least_15 ?_
  refine V_iload_n_3 (q := 19) C rfl dX8_least_18 ?_
  refine V_iconst (q := 20) (v := (-1)) C rfl rfl dX8_least_19 ?_
  refine V_icmp_ge_t (tgt := 25) C (Int32.not_lt.mp hq) (by decide) dX8_least_20 ?_
  refine V_aload_n_0 (q := 26) C rfl dX8_least_25 ?_
  refine gf_X8_61 (q := 29) C rfl dX8_least_26 ?_
  refine V_aload_n_0 (q := 30) C rfl dX8_least_29 ?_
  refine gf_X8_27 (q := 33) C rfl dX8_least_30 ?_
  refine V_cV1v (q := 36) C (c_X4_prepare σ C2 hC hC6 hcd) cw_X4_prepare cv_X4_prepare wm_X8_195 (by decide) ob_X4 ⟨by decide, by decide⟩ (Nat.le_of_ble_eq_true rfl) rfl dX8_least_33 ?_
  refine V_aload_n_0 (q := 37) C rfl dX8_least_36 ?_
  refine gf_X8_70 (q := 40) C rfl dX8_least_37 ?_
  refine V_iload_n_1 (q := 41) C rfl dX8_least_40 ?_
  refine V_iload_n_2 (q := 42) C rfl dX8_least_41 ?_
  refine V_cV2q C (c_X3_fewestWaterings (prepF σ C2) T P j (d + 1) (nI d) hT hT6 hP hP6 h0 (ldN hd) (by omega)) cw_X3_fewestWaterings cv_X3_fewestWaterings wm_X8_199 (by decide) ob_X3 ⟨by decide, by decide⟩ (Nat.le_of_ble_eq_true rfl) rfl dX8_least_42 (fun v τ hv => ?_)
  obtain ⟨w, s, hv⟩ := hv
  have hKx : Kp σ τ ∧ ∀ k r, lwF (prepF σ C2) T P j (d + 1) 5 0 = some (k, r) → v = nI k ∧ k ≤ 4 ∧ ∀ t, t < k → τ 38 t = rowW T k r t := by
    cases hl : lwF (prepF σ C2) T P j (d + 1) 5 0 with
    | some kr =>
      obtain ⟨k, r⟩ := kr
      rw [hl] at hv
      obtain ⟨rfl, rfl⟩ := hv
      refine ⟨Kp.prep.trans ((Kp.setc (by decide)).trans (Kp.put.trans (Kp.setc (by decide)))), fun k2 r2 h2 => ?_⟩
      cases h2
      have := lwF_k 5 0 hl
      exact ⟨rfl, by omega, fun t ht => by rw [setc_s]; exact cpk_lt ht⟩
    | none =>
      rw [hl] at hv
      obtain ⟨rfl, rfl⟩ := hv
      exact ⟨Kp.prep.trans ((Kp.setc (by decide)).trans Kp.put), fun k2 r2 h2 => by cases h2⟩
  refine V_istore_4 (q := 47) C hn4 rfl rfl dX8_least_45 ?_
  refine V_iload_4 (q := 49) C rfl dX8_least_47 ?_
  refine V_bipush (q := 51) (v := (-9)) C (by decide) rfl dX8_least_49 ?_
  refine V_icmp_eq (tgt := 59) C rfl (by decide) dX8_least_51 (fun c51 => ?_) (fun c51 => ?_)
  · refine V_iload_4 (q := 61) C rfl dX8_least_59 ?_
    refine V_iret C hR dX8_least_61 ?_
    refine ⟨_, rfl, ?_, hKx.1⟩
    cases hl : lwF (prepF σ C2) T P j (d + 1) 5 0 with
    | some kr =>
      obtain ⟨e1, e2, -⟩ := hKx.2 kr.1 kr.2 hl
      rw [e1] at c51
      exact absurd c51 (by rw [show (-9 : Int32) = nI 4294967287 from rfl]; intro h; have := congrArg (fun z : Int32 => z.toInt) h; simp only [nI_toInt (show kr.1 < 2 ^ 31 by omega)] at this; exact absurd this (by show ¬ ((kr.1 : Int) = -9); omega))
    | none => exact c51
  · refine V_iload_n_3 (q := 55) C rfl dX8_least_54 ?_
    refine V_iconst (q := 56) (v := (-1)) C rfl rfl dX8_least_55 ?_
    refine V_icmp_ne (tgt := 62) C rfl (by decide) dX8_least_56 (fun c56 => ?_) (fun c56 => ?_)
    · obtain ⟨k, r, hl⟩ : ∃ k r, lwF (prepF σ C2) T P j (d + 1) 5 0 = some (k, r) := by
        cases hl : lwF (prepF σ C2) T P j (d + 1) 5 0 with
        | some kr => exact ⟨kr.1, kr.2, rfl⟩
        | none => rw [hl] at hv; exact absurd hv.1 c51
      obtain ⟨rfl, hk4, h38⟩ := hKx.2 k r hl
      refine V_aload_n_0 (q := 63) C rfl dX8_least_62 ?_
      refine gf_X8_70 (q := 66) C rfl dX8_least_63 ?_
      refine V_iload_4 (q := 68) C rfl dX8_least_66 ?_
      refine V_iload_n_3 (q := 69) C rfl dX8_least_68 ?_
      refine V_cV2r (q := 72) C (c_X3_treeOfRow τ k q hk4) cw_X3_treeOfRow cv_X3_treeOfRow wm_X8_202 (by decide) ob_X3 ⟨by decide, by decide⟩ (Nat.le_of_ble_eq_true rfl) rfl dX8_least_69 ?_
      refine V_iret C hR dX8_least_72 ?_
      refine ⟨_, rfl, ?_, hKx.1⟩
      rw [hl]
      show _ = if q = -1 then nI k else _
      rw [if_neg c56]
      exact trR_congr hk4 h38
    · refine V_iload_4 (q := 61) C rfl dX8_least_59 ?_
      refine V_iret C hR dX8_least_61 ?_
      refine ⟨_, rfl, ?_, hKx.1⟩
      cases hl : lwF (prepF σ C2) T P j (d + 1) 5 0 with
      | some kr =>
        obtain ⟨e1, e2, -⟩ := hKx.2 kr.1 kr.2 hl
        rw [e1]
        show _ = if q = -1 then nI kr.1 else _
        rw [if_pos c56]
      | none => rw [hl] at hv; exact absurd hv.1 c51

set_option maxHeartbeats 4000000 in
set_option maxRecDepth 100000 in
theorem c_X8_most_u {l : Launch} {D : DD} {ad : Nat → Nat} (σ : ST) (d k q : Int32) (h : ¬ (isT 30 d ∧ ¬ q < -1)) : Ct l yX8_most cX8_most 5 (Option.some FieldType.int) 6 138 D ad [.ref (ad 0), .int d, .int k, .int q] σ (ex (some (.int (-1))) σ) := by
  refine Ct.of2 [.ref (ad 0), .int d, .int k, .int q, .float 0] rfl (Nat.le_of_ble_eq_true rfl) rfl ?_
  rintro X C rfl rfl rfl hxn hR
  refine V_iload_n_1 (q := 1) C rfl dX8_most_0 ?_
  refine V_cS1r (q := 4) C (c_X8_isDay _ _) cw_X8_isDay cs_X8_isDay wm_X8_153 ⟨by decide, by decide⟩ (Nat.le_of_ble_eq_true rfl) rfl dX8_most_1 ?_
  refine V_ifp_eq (tgt := 12) C rfl (by decide) dX8_most_4 (fun c4 => ?_) (fun c4 => ?_)
  · refine V_iconst (q := 13) (v := (-1)) C rfl rfl dX8_most_12 ?_
    refine V_iret C hR dX8_most_13 ?_
    exact ⟨rfl, rfl⟩
  · refine V_iload_n_3 (q := 8) C rfl dX8_most_7 ?_
    refine V_iconst (q := 9) (v := (-1)) C rfl rfl dX8_most_8 ?_
    refine V_icmp_ge (tgt := 14) C rfl (by decide) dX8_most_9 (fun c9 => ?_) (fun c9 => ?_)
    · exact absurd ⟨c4, Int32.not_lt.mpr c9⟩ h
    · refine V_iconst (q := 13) (v := (-1)) C rfl rfl dX8_most_12 ?_
      refine V_iret C hR dX8_most_13 ?_
      exact ⟨rfl, rfl⟩

set_option maxHeartbeats 4000000 in
set_option maxRecDepth 100000 in
theorem c_X8_most_o {l : Launch} {D : DD} {ad : Nat → Nat} (σ : ST) (d : Nat) (k q : Int32) (hd : d < 30) (hq : ¬ q < -1) (h : ¬ (¬ k < 0 ∧ ¬ 4 < k)) : Ct l yX8_most cX8_most 5 (Option.some FieldType.int) 6 138 D ad [.ref (ad 0), .int (nI d), .int k, .int q] σ (ex (some (.int (-2))) σ) := by
  refine Ct.of2 [.ref (ad 0), .int (nI d), .int k, .int q, .float 0] rfl (Nat.le_of_ble_eq_true rfl) rfl ?_
  rintro X C rfl rfl rfl hxn hR
  refine V_iload_n_1 (q := 1) C rfl dX8_most_0 ?_
  refine V_cS1r (q := 4) C (c_X8_isDay _ _) cw_X8_isDay cs_X8_isDay wm_X8_153 ⟨by decide, by decide⟩ (Nat.le_of_ble_eq_true rfl) rfl dX8_most_1 ?_
  refine V_ifp_eq_f (tgt := 12) C (isT_nI (N := 30) hd (by decide)) rfl (by decide) dX8_most_4 ?_
  refine V_iload_n_3 (q := 8) C rfl dX8_most_7 ?_
  refine V_iconst (q := 9) (v := (-1)) C rfl rfl dX8_most_8 ?_
  refine V_icmp_ge_t (tgt := 14) C (Int32.not_lt.mp hq) (by decide) dX8_most_9 ?_
  refine V_iload_n_2 (q := 15) C rfl dX8_most_14 ?_
  refine V_if_lt (tgt := 23) C rfl (by decide) dX8_most_15 (fun c15 => ?_) (fun c15 => ?_)
  · refine V_bipush (q := 25) (v := (-2)) C (by decide) rfl dX8_most_23 ?_
    refine V_iret C hR dX8_most_25 ?_
    exact ⟨rfl, rfl⟩
  · refine V_iload_n_2 (q := 19) C rfl dX8_most_18 ?_
    refine V_iconst (q := 20) (v := 4) C rfl rfl dX8_most_19 ?_
    refine V_icmp_le (tgt := 26) C rfl (by decide) dX8_most_20 (fun c20 => ?_) (fun c20 => ?_)
    · exact absurd ⟨c15, Int32.not_lt.mpr c20⟩ h
    · refine V_bipush (q := 25) (v := (-2)) C (by decide) rfl dX8_most_23 ?_
      refine V_iret C hR dX8_most_25 ?_
      exact ⟨rfl, rfl⟩

set_option maxHeartbeats 4000000 in
set_option maxRecDepth 100000 in
theorem c_X8_most_s {l : Launch} {D : DD} {ad : Nat → Nat} (σ : ST) (T d k : Nat) (q : Int32) (hd : d < 30) (hq : ¬ q < -1) (hk : k ≤ 4) (hT : σ 12 0 = nI T) (h0 : T = 0) : Ct l yX8_most cX8_most 5 (Option.some FieldType.int) 6 138 D ad [.ref (ad 0), .int (nI d), .int (nI k), .int q] σ (ex (some (.int (-3))) σ) := by
  refine Ct.of2 [.ref (ad 0), .int (nI d), .int (nI k), .int q, .float 0] rfl (Nat.le_of_ble_eq_true rfl) rfl ?_
  rintro X C rfl rfl rfl hxn hR
  refine V_iload_n_1 (q := 1) C rfl dX8_most_0 ?_
  refine V_cS1r (q := 4) C (c_X8_isDay _ _) cw_X8_isDay cs_X8_isDay wm_X8_153 ⟨by decide, by decide⟩ (Nat.le_of_ble_eq_true rfl) rfl dX8_most_1 ?_
  refine V_ifp_eq_f (tgt := 12) C (isT_nI (N := 30) hd (by decide)) rfl (by decide) dX8_most_4 ?_
  refine V_iload_n_3 (q := 8) C rfl dX8_most_7 ?_
  refine V_iconst (q := 9) (v := (-1)) C rfl rfl dX8_most_8 ?_
  refine V_icmp_ge_t (tgt := 14) C (Int32.not_lt.mp hq) (by decide) dX8_most_9 ?_
  refine V_iload_n_2 (q := 15) C rfl dX8_most_14 ?_
  refine V_if_lt_f (tgt := 23) C (nI_pos (by omega)) rfl (by decide) dX8_most_15 ?_
  refine V_iload_n_2 (q := 19) C rfl dX8_most_18 ?_
  refine V_iconst (q := 20) (v := 4) C rfl rfl dX8_most_19 ?_
  refine V_icmp_le_t (tgt := 26) C (nI_le (b := 4) hk (by decide)) (by decide) dX8_most_20 ?_
  refine V_aload_n_0 (q := 27) C rfl dX8_most_26 ?_
  refine gf_X8_57 (q := 30) C rfl dX8_most_27 ?_
  refine V_cV0r (q := 33) C (Ct.mono (v' := some (.int (pI (0 < nI T)))) (c_X1_isPlanted σ) (by rw [show σ 12 0 = nI T from hT]) rfl) cw_X1_isPlanted cv_X1_isPlanted wm_X8_156 (by decide) ob_X1 ⟨by decide, by decide⟩ (Nat.le_of_ble_eq_true rfl) rfl dX8_most_30 ?_
  refine V_ifp_ne_f (tgt := 39) C (pl0_no h0) rfl (by decide) dX8_most_33 ?_
  refine V_bipush (q := 38) (v := (-3)) C (by decide) rfl dX8_most_36 ?_
  refine V_iret C hR dX8_most_38 ?_
  exact ⟨rfl, rfl⟩

def moR (T k : Nat) (q : Int32) (x : Int32 × Nat) : Int32 := if q = -1 then x.1 else trR (rowW T k x.2) (nI k) q

set_option maxHeartbeats 4000000 in
set_option maxRecDepth 100000 in
theorem c_X8_most_v {l : Launch} {D : DD} {ad : Nat → Nat} (σ : ST) (T P C2 d k : Nat) (q : Int32) (hT : σ 12 0 = nI T) (hT6 : T ≤ 6) (hP : σ 12 1 = nI P) (hP6 : P ≤ 6) (hC : σ 21 5 = nI C2) (hC6 : C2 ≤ 6) (hcd : ∀ c, c < C2 → ∃ d : Nat, d < 30 ∧ σ 24 c = nI d) (h0 : 0 < T) (hd : d < 30) (hk : k ≤ 4) (hq : ¬ q < -1) : Ct l yX8_most cX8_most 5 (Option.some FieldType.int) 6 138 D ad [.ref (ad 0), .int (nI d), .int (nI k), .int q] σ (pq (fun v τ => v = moR T k q (moF (prepF σ C2) T P (d + 1) k (T ^ k)) ∧ Kp σ τ)) := by
  refine Ct.of2 [.ref (ad 0), .int (nI d), .int (nI k), .int q, .float 0] rfl (Nat.le_of_ble_eq_true rfl) rfl ?_
  rintro X C rfl rfl rfl hxn hR
  have hn4 : 4 < xn X := by rw [← hxn]; decide
  refine V_iload_n_1 (q := 1) C rfl dX8_most_0 ?_
  refine V_cS1r (q := 4) C (c_X8_isDay _ _) cw_X8_isDay cs_X8_isDay wm_X8_153 ⟨by decide, by decide⟩ (Nat.le_of_ble_eq_true rfl) rfl dX8_most_1 ?_
  refine V_ifp_eq_f (tgt := 12) C (isT_nI (N := 30) hd (by decide)) rfl (by decide) dX8_most_4 ?_
  refine V_iload_n_3 (q := 8) C rfl dX8_most_7 ?_
  refine V_iconst (q := 9) (v := (-1)) C rfl rfl dX8_most_8 ?_
  refine V_icmp_ge_t (tgt := 14) C (Int32.not_lt.mp hq) (by decide) dX8_most_9 ?_
  refine V_iload_n_2 (q := 15) C rfl dX8_most_14 ?_
  refine V_if_lt_f (tgt := 23) C (nI_pos (by omega)) rfl (by decide) dX8_most_15 ?_
  refine V_iload_n_2 (q := 19) C rfl dX8_most_18 ?_
  refine V_iconst (q := 20) (v := 4) C rfl rfl dX8_most_19 ?_
  refine V_icmp_le_t (tgt := 26) C (nI_le (b := 4) hk (by decide)) (by decide) dX8_most_20 ?_
  refine V_aload_n_0 (q := 27) C rfl dX8_most_26 ?_
  refine gf_X8_57 (q := 30) C rfl dX8_most_27 ?_
  refine V_cV0r (q := 33) C (Ct.mono (v' := some (.int (pI (0 < nI T)))) (c_X1_isPlanted σ) (by rw [show σ 12 0 = nI T from hT]) rfl) cw_X1_isPlanted cv_X1_isPlanted wm_X8_156 (by decide) ob_X1 ⟨by decide, by decide⟩ (Nat.le_of_ble_eq_true rfl) rfl dX8_most_30 ?_
  refine V_ifp_ne_t (tgt := 39) C (pl0_of h0 hT6) (by decide) dX8_most_33 ?_
  refine V_aload_n_0 (q := 40) C rfl dX8_most_39 ?_
  refine gf_X8_61 (q := 43) C rfl dX8_most_40 ?_
  refine V_aload_n_0 (q := 44) C rfl dX8_most_43 ?_
  refine gf_X8_27 (q := 47) C rfl dX8_most_44 ?_
  refine V_cV1v (q := 50) C (c_X4_prepare σ C2 hC hC6 hcd) cw_X4_prepare cv_X4_prepare wm_X8_195 (by decide) ob_X4 ⟨by decide, by decide⟩ (Nat.le_of_ble_eq_true rfl) rfl dX8_most_47 ?_
  refine V_aload_n_0 (q := 51) C rfl dX8_most_50 ?_
  refine gf_X8_70 (q := 54) C rfl dX8_most_51 ?_
  refine V_iload_n_1 (q := 55) C rfl dX8_most_54 ?_
  refine V_iload_n_2 (q := 56) C rfl dX8_most_55 ?_
  refine V_cV2q C (c_X3_mostOut (prepF σ C2) T P (d + 1) k (nI d) hT hT6 hP hP6 h0 (ldN hd) hk) cw_X3_mostOut cv_X3_mostOut wm_X8_205 (by decide) ob_X3 ⟨by decide, by decide⟩ (Nat.le_of_ble_eq_true rfl) rfl dX8_most_56 (fun v τ hv => ?_)
  obtain ⟨rfl, w, s, f, rfl, hf⟩ := hv
  have hKx : Kp σ (setc (putS (setc (prepF σ C2) 32 w) s) 38 f) := Kp.prep.trans ((Kp.setc (by decide)).trans (Kp.put.trans (Kp.setc (by decide))))
  refine V_istore_4 (q := 61) C hn4 rfl rfl dX8_most_59 ?_
  refine V_iload_n_3 (q := 62) C rfl dX8_most_61 ?_
  refine V_iconst (q := 63) (v := (-1)) C rfl rfl dX8_most_62 ?_
  refine V_icmp_ne (tgt := 69) C rfl (by decide) dX8_most_63 (fun c63 => ?_) (fun c63 => ?_)
  · refine V_aload_n_0 (q := 70) C rfl dX8_most_69 ?_
    refine gf_X8_70 (q := 73) C rfl dX8_most_70 ?_
    refine V_iload_n_2 (q := 74) C rfl dX8_most_73 ?_
    refine V_iload_n_3 (q := 75) C rfl dX8_most_74 ?_
    refine V_cV2r (q := 78) C (c_X3_treeOfRow _ k q hk) cw_X3_treeOfRow cv_X3_treeOfRow wm_X8_202 (by decide) ob_X3 ⟨by decide, by decide⟩ (Nat.le_of_ble_eq_true rfl) rfl dX8_most_75 ?_
    refine V_iret C hR dX8_most_78 ?_
    exact ⟨_, rfl, by unfold moR; rw [if_neg c63]; exact trR_congr hk hf, hKx⟩
  · refine V_iload_4 (q := 68) C rfl dX8_most_66 ?_
    refine V_iret C hR dX8_most_68 ?_
    exact ⟨_, rfl, by unfold moR; rw [if_pos c63], hKx⟩

set_option maxHeartbeats 4000000 in
set_option maxRecDepth 100000 in
theorem c_X8_saws_u {l : Launch} {D : DD} {ad : Nat → Nat} (σ : ST) (P : Nat) (p d : Int32) (hP : σ 12 1 = nI P) (h : ¬ (isT (nI P) p ∧ isT 30 d)) : Ct l yX8_saws cX8_saws 6 (Option.some FieldType.int) 5 112 D ad [.ref (ad 0), .int p, .int d] σ (ex (some (.int (-1))) σ) := by
  refine Ct.of2 [.ref (ad 0), .int p, .int d, .float 0, .float 0, .float 0] rfl (Nat.le_of_ble_eq_true rfl) rfl ?_
  rintro X C rfl rfl rfl hxn hR
  refine V_aload_n_0 (q := 1) C rfl dX8_saws_0 ?_
  refine gf_X8_57 (q := 4) C rfl dX8_saws_1 ?_
  refine V_iload_n_1 (q := 5) C rfl dX8_saws_4 ?_
  refine V_cV1r (q := 8) C (Ct.mono (v' := some (.int (pI (isT (nI P) p)))) (c_X1_hasPrisoner σ p) (by rw [show σ 12 1 = nI P from hP]) rfl) cw_X1_hasPrisoner cv_X1_hasPrisoner wm_X8_144 (by decide) ob_X1 ⟨by decide, by decide⟩ (Nat.le_of_ble_eq_true rfl) rfl dX8_saws_5 ?_
  refine V_ifp_eq (tgt := 18) C rfl (by decide) dX8_saws_8 (fun c8 => ?_) (fun c8 => ?_)
  · refine V_iconst (q := 19) (v := (-1)) C rfl rfl dX8_saws_18 ?_
    refine V_iret C hR dX8_saws_19 ?_
    exact ⟨rfl, rfl⟩
  · refine V_iload_n_2 (q := 12) C rfl dX8_saws_11 ?_
    refine V_cS1r (q := 15) C (c_X8_isDay _ _) cw_X8_isDay cs_X8_isDay wm_X8_153 ⟨by decide, by decide⟩ (Nat.le_of_ble_eq_true rfl) rfl dX8_saws_12 ?_
    refine V_ifp_ne (tgt := 20) C rfl (by decide) dX8_saws_15 (fun c15 => ?_) (fun c15 => ?_)
    · exact absurd ⟨c8, c15⟩ h
    · refine V_iconst (q := 19) (v := (-1)) C rfl rfl dX8_saws_18 ?_
      refine V_iret C hR dX8_saws_19 ?_
      exact ⟨rfl, rfl⟩

abbrev saO (σ : ST) (T P C p N : Nat) (x : Int32) : Prop := ¬ (runU (felS (prepF σ C) x) T P (own1 (nI p)) N (s0C σ)).2.2.1 p = -9
def swN (σ : ST) (T P C p N : Nat) : Nat → Int32
  | 0 => ones (nI T) &&& (σ 12 2 ^^^ -1)
  | x + 1 => if nI x &&& σ 12 2 = 0 ∧ popc (nI x) < popc (swN σ T P C p N x) ∧ ¬ saO σ T P C p N (σ 12 2 ||| nI x) then nI x else swN σ T P C p N x
theorem ones_nI : ∀ T : Nat, T ≤ 6 → ones (nI T) = nI (2 ^ T - 1) := by
  intro T h
  have : T = 0 ∨ T = 1 ∨ T = 2 ∨ T = 3 ∨ T = 4 ∨ T = 5 ∨ T = 6 := by omega
  rcases this with rfl | rfl | rfl | rfl | rfl | rfl | rfl <;> decide
theorem p2_b {T : Nat} (h : T ≤ 6) : 0 < 2 ^ T ∧ 2 ^ T ≤ 64 := ⟨Nat.pow_pos (by decide), Nat.pow_le_pow_right (n := 2) (by decide) h⟩

theorem V_weak6a {X : CT} {pc : Nat} {a0 a1 a2 a3 a4 a5 : Value} {st : List Value} {σ : ST} (k : V X pc [a0, a1, a2, a3, a4, .float 0] st σ) : V X pc [a0, a1, a2, a3, a4, a5] st σ := fun H locs ls hP hS hl => k H locs ls hP hS (LV.of hl fun i v hi hd => mem_al.mpr ⟨by
  have : i < 6 := (List.getElem?_eq_some_iff.mp hi).1
  have h2 : i = 0 ∨ i = 1 ∨ i = 2 ∨ i = 3 ∨ i = 4 ∨ i = 5 := by omega
  rcases h2 with rfl | rfl | rfl | rfl | rfl | rfl
  · exact hi
  · exact hi
  · exact hi
  · exact hi
  · exact hi
  · cases hi; exact absurd hd (by decide), hd⟩)
set_option maxHeartbeats 4000000 in
set_option maxRecDepth 100000 in
theorem c_X8_saws_v {l : Launch} {D : DD} {ad : Nat → Nat} (σ : ST) (T P C2 j d : Nat) (hT : σ 12 0 = nI T) (hT6 : T ≤ 6) (hP : σ 12 1 = nI P) (hP6 : P ≤ 6) (hC : σ 21 5 = nI C2) (hC6 : C2 ≤ 6) (hcd : ∀ c, c < C2 → ∃ d : Nat, d < 30 ∧ σ 24 c = nI d) (hj : j < P) (hd : d < 30) : Ct l yX8_saws cX8_saws 6 (Option.some FieldType.int) 5 112 D ad [.ref (ad 0), .int (nI j), .int (nI d)] σ (pq (fun v τ => v = swN σ T P C2 j (d + 1) (2 ^ T) ∧ Kp σ τ)) := by
  refine Ct.of2 [.ref (ad 0), .int (nI j), .int (nI d), .float 0, .float 0, .float 0] rfl (Nat.le_of_ble_eq_true rfl) rfl ?_
  rintro X C rfl rfl rfl hxn hR
  have hn3 : 3 < xn X := by rw [← hxn]; decide
  have hn4 : 4 < xn X := by rw [← hxn]; decide
  have hn5 : 5 < xn X := by rw [← hxn]; decide
  refine V_aload_n_0 (q := 1) C rfl dX8_saws_0 ?_
  refine gf_X8_57 (q := 4) C rfl dX8_saws_1 ?_
  refine V_iload_n_1 (q := 5) C rfl dX8_saws_4 ?_
  refine V_cV1r (q := 8) C (Ct.mono (v' := some (.int (pI (isT (nI P) (nI j))))) (c_X1_hasPrisoner σ (nI j)) (by rw [show σ 12 1 = nI P from hP]) rfl) cw_X1_hasPrisoner cv_X1_hasPrisoner wm_X8_144 (by decide) ob_X1 ⟨by decide, by decide⟩ (Nat.le_of_ble_eq_true rfl) rfl dX8_saws_5 ?_
  refine V_ifp_eq_f (tgt := 18) C (isT_nI hj (by omega)) rfl (by decide) dX8_saws_8 ?_
  refine V_iload_n_2 (q := 12) C rfl dX8_saws_11 ?_
  refine V_cS1r (q := 15) C (c_X8_isDay _ _) cw_X8_isDay cs_X8_isDay wm_X8_153 ⟨by decide, by decide⟩ (Nat.le_of_ble_eq_true rfl) rfl dX8_saws_12 ?_
  refine V_ifp_ne_t (tgt := 20) C (isT_nI (N := 30) hd (by decide)) (by decide) dX8_saws_15 ?_
  refine V_aload_n_0 (q := 21) C rfl dX8_saws_20 ?_
  refine gf_X8_61 (q := 24) C rfl dX8_saws_21 ?_
  refine V_aload_n_0 (q := 25) C rfl dX8_saws_24 ?_
  refine gf_X8_27 (q := 28) C rfl dX8_saws_25 ?_
  refine V_cV1v (q := 31) C (c_X4_prepare σ C2 hC hC6 hcd) cw_X4_prepare cv_X4_prepare wm_X8_195 (by decide) ob_X4 ⟨by decide, by decide⟩ (Nat.le_of_ble_eq_true rfl) rfl dX8_saws_28 ?_
  refine V_aload_n_0 (q := 32) C rfl dX8_saws_31 ?_
  refine gf_X8_57 (q := 35) C rfl dX8_saws_32 ?_
  refine V_cV0r (q := 38) C (Ct.mono (v' := some (.int (ones (nI T)))) (c_X1_allTrees (prepF σ C2)) (by rw [show (prepF σ C2) 12 0 = nI T from hT]) rfl) cw_X1_allTrees cv_X1_allTrees wm_X8_208 (by decide) ob_X1 ⟨by decide, by decide⟩ (Nat.le_of_ble_eq_true rfl) rfl dX8_saws_35 ?_
  refine V_aload_n_0 (q := 39) C rfl dX8_saws_38 ?_
  refine gf_X8_57 (q := 42) C rfl dX8_saws_39 ?_
  refine gf_X8_138 (q := 45) C rfl dX8_saws_42 ?_
  refine V_iconst (q := 46) (v := (-1)) C rfl rfl dX8_saws_45 ?_
  refine V_ixor (q := 47) C rfl dX8_saws_46 ?_
  refine V_iand (q := 48) C rfl dX8_saws_47 ?_
  refine V_istore_n_3 (q := 49) C hn3 rfl rfl dX8_saws_48 ?_
  refine V_iconst (q := 50) (v := (nI 0)) C rfl rfl dX8_saws_49 ?_
  refine V_istore_4 (q := 52) C hn4 rfl rfl dX8_saws_50 ?_
  have hx52 : ∀ (x : Int32) (s : S4), V X 52 [.ref (xad X 0), .int (nI j), .int (nI d), .int (swN σ T P C2 j (d + 1) ((2 ^ T))), .int (nI ((2 ^ T))), .float 0] [] (putS (felS (prepF σ C2) x) s) := by
    intro x s
    have hp2 := p2_b hT6
    refine V_iload_4 (q := 54) C rfl dX8_saws_52 ?_
    refine V_aload_n_0 (q := 55) C rfl dX8_saws_54 ?_
    refine gf_X8_57 (q := 58) C rfl dX8_saws_55 ?_
    refine V_cV0r (q := 61) C (Ct.mono (v' := some (.int (ones (nI T)))) (c_X1_allTrees (putS (felS (prepF σ C2) x) s)) (by rw [show (putS (felS (prepF σ C2) x) s) 12 0 = nI T from hT]) rfl) cw_X1_allTrees cv_X1_allTrees wm_X8_208 (by decide) ob_X1 ⟨by decide, by decide⟩ (Nat.le_of_ble_eq_true rfl) rfl dX8_saws_58 ?_
    refine V_icmp_gt_t (tgt := 149) C (by rw [ones_nI T hT6]; exact nI_lt (by omega) (by omega)) (by decide) dX8_saws_61 ?_
    refine V_iload_n_3 (q := 150) C rfl dX8_saws_149 ?_
    refine V_iret C hR dX8_saws_150 ?_
    exact ⟨_, rfl, rfl, Kp.prep.trans (Kp.fel.trans Kp.put)⟩
  have hs52 : ∀ z : Nat, z < (2 ^ T) → (∀ (x : Int32) (s : S4), V X 52 [.ref (xad X 0), .int (nI j), .int (nI d), .int (swN σ T P C2 j (d + 1) (z + 1)), .int (nI (z + 1)), .float 0] [] (putS (felS (prepF σ C2) x) s)) → ∀ (x : Int32) (s : S4), V X 52 [.ref (xad X 0), .int (nI j), .int (nI d), .int (swN σ T P C2 j (d + 1) z), .int (nI z), .float 0] [] (putS (felS (prepF σ C2) x) s) := by
    intro z hi52 ih52 x s
    have hp2 := p2_b hT6
    refine V_iload_4 (q := 54) C rfl dX8_saws_52 ?_
    refine V_aload_n_0 (q := 55) C rfl dX8_saws_54 ?_
    refine gf_X8_57 (q := 58) C rfl dX8_saws_55 ?_
    refine V_cV0r (q := 61) C (Ct.mono (v' := some (.int (ones (nI T)))) (c_X1_allTrees (putS (felS (prepF σ C2) x) s)) (by rw [show (putS (felS (prepF σ C2) x) s) 12 0 = nI T from hT]) rfl) cw_X1_allTrees cv_X1_allTrees wm_X8_208 (by decide) ob_X1 ⟨by decide, by decide⟩ (Nat.le_of_ble_eq_true rfl) rfl dX8_saws_58 ?_
    refine V_icmp_gt_f (tgt := 149) C (by rw [ones_nI T hT6]; exact nI_nlt (by omega) (by omega)) rfl (by decide) dX8_saws_61 ?_
    refine V_iload_4 (q := 66) C rfl dX8_saws_64 ?_
    refine V_aload_n_0 (q := 67) C rfl dX8_saws_66 ?_
    refine gf_X8_57 (q := 70) C rfl dX8_saws_67 ?_
    refine gf_X8_138 (q := 73) C rfl dX8_saws_70 ?_
    refine V_iand (q := 74) C rfl dX8_saws_73 ?_
    show V X 74 _ (.int (nI z &&& σ 12 2) :: []) _
    refine V_if_ne (tgt := 81) C rfl (by decide) dX8_saws_74 (fun c74 => ?_) (fun c74 => ?_)
    · refine V_iconst (q := 82) (v := 0) C rfl rfl dX8_saws_81 ?_
      refine V_istore_5 (q := 84) C hn5 rfl rfl dX8_saws_82 ?_
      refine V_iload_5 (q := 86) C rfl dX8_saws_84 ?_
      refine V_if_eq_t (tgt := 143) C rfl (by decide) dX8_saws_86 ?_
      refine V_iinc_4 (q := 146) (n := 1) C nI_inc hn4 rfl rfl dX8_saws_143 ?_
      refine V_goto (tgt := 52) C (by decide) dX8_saws_146 ?_
      first
      | (rw [show swN σ T P C2 j (d + 1) z = swN σ T P C2 j (d + 1) (z + 1) from (if_neg (fun h => c74 h.1)).symm]; exact V_weak6a (ih52 _ _))
      | (rw [show swN σ T P C2 j (d + 1) z = swN σ T P C2 j (d + 1) (z + 1) from (if_neg (fun h => absurd c98 (Int32.not_le.mpr h.2.1))).symm]; exact V_weak6a (ih52 _ _))
      | (rw [show swN σ T P C2 j (d + 1) z = swN σ T P C2 j (d + 1) (z + 1) from (if_neg (fun h => h.2.2 c137)).symm]; exact V_weak6a (ih52 _ _))
      | (rw [show nI z = swN σ T P C2 j (d + 1) (z + 1) from (if_pos ⟨c74, Int32.not_le.mp c98, c137⟩).symm]; exact V_weak6a (ih52 _ _))
    · refine V_iconst (q := 78) (v := 1) C rfl rfl dX8_saws_77 ?_
      refine V_goto (tgt := 82) C (by decide) dX8_saws_78 ?_
      refine V_istore_5 (q := 84) C hn5 rfl rfl dX8_saws_82 ?_
      refine V_iload_5 (q := 86) C rfl dX8_saws_84 ?_
      refine V_if_eq_f (tgt := 143) C (by decide) rfl (by decide) dX8_saws_86 ?_
      refine V_iload_4 (q := 91) C rfl dX8_saws_89 ?_
      refine V_cS1r (q := 94) C (c_J6_bitCount_0f7a4 _ (nI z)) cw_J6_bitCount_0f7a4 cs_J6_bitCount_0f7a4 wm_X8_211 ⟨by decide, by decide⟩ (Nat.le_of_ble_eq_true rfl) rfl dX8_saws_91 ?_
      refine V_iload_n_3 (q := 95) C rfl dX8_saws_94 ?_
      refine V_cS1r (q := 98) C (c_J6_bitCount_0f7a4 _ (swN σ T P C2 j (d + 1) z)) cw_J6_bitCount_0f7a4 cs_J6_bitCount_0f7a4 wm_X8_211 ⟨by decide, by decide⟩ (Nat.le_of_ble_eq_true rfl) rfl dX8_saws_95 ?_
      refine V_icmp_ge (tgt := 143) C rfl (by decide) dX8_saws_98 (fun c98 => ?_) (fun c98 => ?_)
      · refine V_iinc_4 (q := 146) (n := 1) C nI_inc hn4 rfl rfl dX8_saws_143 ?_
        refine V_goto (tgt := 52) C (by decide) dX8_saws_146 ?_
        first
        | (rw [show swN σ T P C2 j (d + 1) z = swN σ T P C2 j (d + 1) (z + 1) from (if_neg (fun h => c74 h.1)).symm]; exact V_weak6a (ih52 _ _))
        | (rw [show swN σ T P C2 j (d + 1) z = swN σ T P C2 j (d + 1) (z + 1) from (if_neg (fun h => absurd c98 (Int32.not_le.mpr h.2.1))).symm]; exact V_weak6a (ih52 _ _))
        | (rw [show swN σ T P C2 j (d + 1) z = swN σ T P C2 j (d + 1) (z + 1) from (if_neg (fun h => h.2.2 c137)).symm]; exact V_weak6a (ih52 _ _))
        | (rw [show nI z = swN σ T P C2 j (d + 1) (z + 1) from (if_pos ⟨c74, Int32.not_le.mp c98, c137⟩).symm]; exact V_weak6a (ih52 _ _))
      · refine V_aload_n_0 (q := 102) C rfl dX8_saws_101 ?_
        refine gf_X8_61 (q := 105) C rfl dX8_saws_102 ?_
        refine V_aload_n_0 (q := 106) C rfl dX8_saws_105 ?_
        refine gf_X8_57 (q := 109) C rfl dX8_saws_106 ?_
        refine gf_X8_138 (q := 112) C rfl dX8_saws_109 ?_
        refine V_iload_4 (q := 114) C rfl dX8_saws_112 ?_
        refine V_ior (q := 115) C rfl dX8_saws_114 ?_
        refine pf_X8_216 (q := 118) C rfl dX8_saws_115 ?_
        refine V_eq (τ := putS (felS (prepF σ C2) (σ 12 2 ||| nI z)) s) (by show setf (putS (felS (prepF σ C2) x) s) 30 5 (σ 12 2 ||| nI z) = _; rw [felS_put]; unfold felS; rw [setf_setf]) ?_
        refine V_aload_n_0 (q := 119) C rfl dX8_saws_118 ?_
        refine gf_X8_61 (q := 122) C rfl dX8_saws_119 ?_
        refine V_iload_n_2 (q := 123) C rfl dX8_saws_122 ?_
        refine V_iconst (q := 124) (v := 1) C rfl rfl dX8_saws_123 ?_
        refine V_iload_n_1 (q := 125) C rfl dX8_saws_124 ?_
        refine V_ishl (q := 126) C rfl dX8_saws_125 ?_
        refine V_cV2v (q := 129) C (Ct.mono (v' := none) (τ' := putS (felS (prepF σ C2) (σ 12 2 ||| nI z)) (runU (felS (prepF σ C2) (σ 12 2 ||| nI z)) T P (own1 (nI j)) (d + 1) (s0C σ))) (c_X4_passUntilOut (putS (felS (prepF σ C2) (σ 12 2 ||| nI z)) s) T P (d + 1) (nI d) (own1 (nI j)) hT hT6 hP hP6 (ldN hd)) (rfl) (by rw [putS_putS, runU_put]; rfl)) cw_X4_passUntilOut cv_X4_passUntilOut wm_X8_217 (by decide) ob_X4 ⟨by decide, by decide⟩ (Nat.le_of_ble_eq_true rfl) rfl dX8_saws_126 ?_
        refine V_aload_n_0 (q := 130) C rfl dX8_saws_129 ?_
        refine gf_X8_61 (q := 133) C rfl dX8_saws_130 ?_
        refine V_iload_n_1 (q := 134) C rfl dX8_saws_133 ?_
        refine V_cV1r (q := 137) C (Ct.mono (v' := some (.int (pI (saO σ T P C2 j (d + 1) (σ 12 2 ||| nI z))))) (c_X4_isOutByTree (putS (felS (prepF σ C2) (σ 12 2 ||| nI z)) (runU (felS (prepF σ C2) (σ 12 2 ||| nI z)) T P (own1 (nI j)) (d + 1) (s0C σ))) j (by omega)) rfl rfl) cw_X4_isOutByTree cv_X4_isOutByTree wm_X8_221 (by decide) ob_X4 ⟨by decide, by decide⟩ (Nat.le_of_ble_eq_true rfl) rfl dX8_saws_134 ?_
        refine V_ifp_ne (tgt := 143) C rfl (by decide) dX8_saws_137 (fun c137 => ?_) (fun c137 => ?_)
        · refine V_iinc_4 (q := 146) (n := 1) C nI_inc hn4 rfl rfl dX8_saws_143 ?_
          refine V_goto (tgt := 52) C (by decide) dX8_saws_146 ?_
          first
          | (rw [show swN σ T P C2 j (d + 1) z = swN σ T P C2 j (d + 1) (z + 1) from (if_neg (fun h => c74 h.1)).symm]; exact V_weak6a (ih52 _ _))
          | (rw [show swN σ T P C2 j (d + 1) z = swN σ T P C2 j (d + 1) (z + 1) from (if_neg (fun h => absurd c98 (Int32.not_le.mpr h.2.1))).symm]; exact V_weak6a (ih52 _ _))
          | (rw [show swN σ T P C2 j (d + 1) z = swN σ T P C2 j (d + 1) (z + 1) from (if_neg (fun h => h.2.2 c137)).symm]; exact V_weak6a (ih52 _ _))
          | (rw [show nI z = swN σ T P C2 j (d + 1) (z + 1) from (if_pos ⟨c74, Int32.not_le.mp c98, c137⟩).symm]; exact V_weak6a (ih52 _ _))
        · refine V_iload_4 (q := 142) C rfl dX8_saws_140 ?_
          refine V_istore_n_3 (q := 143) C hn3 rfl rfl dX8_saws_142 ?_
          refine V_iinc_4 (q := 146) (n := 1) C nI_inc hn4 rfl rfl dX8_saws_143 ?_
          refine V_goto (tgt := 52) C (by decide) dX8_saws_146 ?_
          first
          | (rw [show swN σ T P C2 j (d + 1) z = swN σ T P C2 j (d + 1) (z + 1) from (if_neg (fun h => c74 h.1)).symm]; exact V_weak6a (ih52 _ _))
          | (rw [show swN σ T P C2 j (d + 1) z = swN σ T P C2 j (d + 1) (z + 1) from (if_neg (fun h => absurd c98 (Int32.not_le.mpr h.2.1))).symm]; exact V_weak6a (ih52 _ _))
          | (rw [show swN σ T P C2 j (d + 1) z = swN σ T P C2 j (d + 1) (z + 1) from (if_neg (fun h => h.2.2 c137)).symm]; exact V_weak6a (ih52 _ _))
          | (rw [show nI z = swN σ T P C2 j (d + 1) (z + 1) from (if_pos ⟨c74, Int32.not_le.mp c98, c137⟩).symm]; exact V_weak6a (ih52 _ _))
  exact V_eq (by rw [show felS (prepF σ C2) (σ 12 2) = prepF σ C2 from by unfold felS setf; rw [show upd ((prepF σ C2) 30) 5 (σ 12 2) = (prepF σ C2) 30 from upd_id, setc_id], putS_get]) (loopN (P := fun z => ∀ (x : Int32) (s : S4), V X 52 [.ref (xad X 0), .int (nI j), .int (nI d), .int (swN σ T P C2 j (d + 1) z), .int (nI z), .float 0] [] (putS (felS (prepF σ C2) x) s)) ((2 ^ T)) hx52 hs52 0 (Nat.zero_le _) (σ 12 2) (getS (prepF σ C2)))

set_option maxHeartbeats 4000000 in
set_option maxRecDepth 100000 in
theorem c_X8_odds_u {l : Launch} {D : DD} {ad : Nat → Nat} (σ : ST) (P : Nat) (p n w : Int32) (hP : σ 12 1 = nI P) (h : ¬ (isT (nI P) p ∧ ¬ n < 0 ∧ ¬ 8 < n ∧ ¬ w < 0 ∧ ¬ 1 < w)) : Ct l yX8_odds cX8_odds 7 (Option.some FieldType.long) 5 112 D ad [.ref (ad 0), .int p, .int n, .int w] σ (ex (some (.long lostL)) σ) := by
  refine Ct.of2 [.ref (ad 0), .int p, .int n, .int w, .float 0, .float 0, .float 0] rfl (Nat.le_of_ble_eq_true rfl) rfl ?_
  rintro X C rfl rfl rfl hxn hR
  refine V_aload_n_0 (q := 1) C rfl dX8_odds_0 ?_
  refine gf_X8_57 (q := 4) C rfl dX8_odds_1 ?_
  refine V_iload_n_1 (q := 5) C rfl dX8_odds_4 ?_
  refine V_cV1r (q := 8) C (Ct.mono (v' := some (.int (pI (isT (nI P) p)))) (c_X1_hasPrisoner σ p) (by rw [show σ 12 1 = nI P from hP]) rfl) cw_X1_hasPrisoner cv_X1_hasPrisoner wm_X8_144 (by decide) ob_X1 ⟨by decide, by decide⟩ (Nat.le_of_ble_eq_true rfl) rfl dX8_odds_5 ?_
  refine V_ifp_eq (tgt := 30) C rfl (by decide) dX8_odds_8 (fun c8 => ?_) (fun c8 => ?_)
  · refine V_ldc2 (q := 33) C wc_X8_230 rfl dX8_odds_30 ?_
    refine V_lret C hR dX8_odds_33 ?_
    exact ⟨rfl, rfl⟩
  · refine V_iload_n_2 (q := 12) C rfl dX8_odds_11 ?_
    refine V_if_lt (tgt := 30) C rfl (by decide) dX8_odds_12 (fun c12 => ?_) (fun c12 => ?_)
    · refine V_ldc2 (q := 33) C wc_X8_230 rfl dX8_odds_30 ?_
      refine V_lret C hR dX8_odds_33 ?_
      exact ⟨rfl, rfl⟩
    · refine V_iload_n_2 (q := 16) C rfl dX8_odds_15 ?_
      refine V_bipush (q := 18) (v := 8) C (by decide) rfl dX8_odds_16 ?_
      refine V_icmp_gt (tgt := 30) C rfl (by decide) dX8_odds_18 (fun c18 => ?_) (fun c18 => ?_)
      · refine V_ldc2 (q := 33) C wc_X8_230 rfl dX8_odds_30 ?_
        refine V_lret C hR dX8_odds_33 ?_
        exact ⟨rfl, rfl⟩
      · refine V_iload_n_3 (q := 22) C rfl dX8_odds_21 ?_
        refine V_if_lt (tgt := 30) C rfl (by decide) dX8_odds_22 (fun c22 => ?_) (fun c22 => ?_)
        · refine V_ldc2 (q := 33) C wc_X8_230 rfl dX8_odds_30 ?_
          refine V_lret C hR dX8_odds_33 ?_
          exact ⟨rfl, rfl⟩
        · refine V_iload_n_3 (q := 26) C rfl dX8_odds_25 ?_
          refine V_iconst (q := 27) (v := 1) C rfl rfl dX8_odds_26 ?_
          refine V_icmp_le (tgt := 34) C rfl (by decide) dX8_odds_27 (fun c27 => ?_) (fun c27 => ?_)
          · exact absurd ⟨c8, c12, c18, c22, Int32.not_lt.mpr c27⟩ h
          · refine V_ldc2 (q := 33) C wc_X8_230 rfl dX8_odds_30 ?_
            refine V_lret C hR dX8_odds_33 ?_
            exact ⟨rfl, rfl⟩

abbrev odW (σ : ST) (T P C p m r : Nat) : Prop := ¬ (runU (setc (prepF σ C) 31 (pre m (rnG (nI r)) (σ 22))) T P (own1 (nI p)) m (s0C σ)).2.2.1 p = -9
def odN (σ : ST) (T P C p m : Nat) : Nat → Nat
  | 0 => 0
  | r + 1 => if odW σ T P C p m r then odN σ T P C p m r + 1 else odN σ T P C p m r
theorem odN_le {σ : ST} {T P C p m : Nat} : ∀ r : Nat, odN σ T P C p m r ≤ r := by
  intro r
  induction r with
  | zero => exact Nat.le_refl _
  | succ r ih =>
    show (if odW σ T P C p m r then odN σ T P C p m r + 1 else odN σ T P C p m r) ≤ r + 1
    split <;> omega
def hv2 : Nat → Nat → Nat × Nat
  | 0, u => (u, 0)
  | m + 1, u => if u % 2 = 0 then hv2 m (u / 2) else (u, m + 1)
theorem own1_p : ∀ m : Nat, m ≤ 8 → own1 (nI m) = nI (2 ^ m) := by
  intro m h
  have : m = 0 ∨ m = 1 ∨ m = 2 ∨ m = 3 ∨ m = 4 ∨ m = 5 ∨ m = 6 ∨ m = 7 ∨ m = 8 := by omega
  rcases this with rfl | rfl | rfl | rfl | rfl | rfl | rfl | rfl | rfl <;> decide
theorem p2_b8 {m : Nat} (h : m ≤ 8) : 0 < 2 ^ m ∧ 2 ^ m ≤ 256 := ⟨Nat.pow_pos (by decide), Nat.pow_le_pow_right (n := 2) (by decide) h⟩
theorem ldM {m : Nat} (h : m ≤ 8) : isLd (nI m - 1) m := ⟨by omega, fun i hi => by
  rcases Nat.eq_zero_or_pos m with h0 | h0
  · subst h0
    constructor
    · intro h; exact absurd h (by rw [Int32.le_iff_toInt_le, nI_toInt (by omega)]; show ¬ ((i : Int) ≤ -1); omega)
    · intro h; omega
  · rw [show nI m - 1 = nI (m - 1) from pk_sub (b := 1) h0, nI_leI (by omega) (by omega)]; omega⟩
theorem pre_pre {i : Nat} {f g h : Nat → Int32} : pre i f (pre i g h) = pre i f h := funext fun t => by
  by_cases ht : t < i
  · rw [pre_lt ht, pre_lt ht]
  · rw [pre_ge ht, pre_ge ht, pre_ge ht]

set_option maxHeartbeats 4000000 in
set_option maxRecDepth 100000 in
theorem c_X8_odds_v {l : Launch} {D : DD} {ad : Nat → Nat} (σ : ST) (T P C2 j m wh : Nat) (hT : σ 12 0 = nI T) (hT6 : T ≤ 6) (hP : σ 12 1 = nI P) (hP6 : P ≤ 6) (hC : σ 21 5 = nI C2) (hC6 : C2 ≤ 6) (hcd : ∀ c, c < C2 → ∃ d : Nat, d < 30 ∧ σ 24 c = nI d) (hj : j < P) (hm : m ≤ 8) (hw : wh ≤ 1) : Ct l yX8_odds cX8_odds 7 (Option.some FieldType.long) 5 112 D ad [.ref (ad 0), .int (nI j), .int (nI m), .int (nI wh)] σ (pl (fun v τ => v = (nI (if wh = 0 then (hv2 m (odN σ T P C2 j m (2 ^ m))).1 else 2 ^ (hv2 m (odN σ T P C2 j m (2 ^ m))).2)).toInt64 ∧ Kp σ τ)) := by
  refine Ct.of2 [.ref (ad 0), .int (nI j), .int (nI m), .int (nI wh), .float 0, .float 0, .float 0] rfl (Nat.le_of_ble_eq_true rfl) rfl ?_
  rintro X C rfl rfl rfl hxn hR
  have hn4 : 4 < xn X := by rw [← hxn]; decide
  have hn5 : 5 < xn X := by rw [← hxn]; decide
  have hn6 : 6 < xn X := by rw [← hxn]; decide
  have hp2 := p2_b8 hm
  refine V_aload_n_0 (q := 1) C rfl dX8_odds_0 ?_
  refine gf_X8_57 (q := 4) C rfl dX8_odds_1 ?_
  refine V_iload_n_1 (q := 5) C rfl dX8_odds_4 ?_
  refine V_cV1r (q := 8) C (Ct.mono (v' := some (.int (pI (isT (nI P) (nI j))))) (c_X1_hasPrisoner σ (nI j)) (by rw [show σ 12 1 = nI P from hP]) rfl) cw_X1_hasPrisoner cv_X1_hasPrisoner wm_X8_144 (by decide) ob_X1 ⟨by decide, by decide⟩ (Nat.le_of_ble_eq_true rfl) rfl dX8_odds_5 ?_
  refine V_ifp_eq_f (tgt := 30) C (isT_nI hj (by omega)) rfl (by decide) dX8_odds_8 ?_
  refine V_iload_n_2 (q := 12) C rfl dX8_odds_11 ?_
  refine V_if_lt_f (tgt := 30) C (nI_pos (by omega)) rfl (by decide) dX8_odds_12 ?_
  refine V_iload_n_2 (q := 16) C rfl dX8_odds_15 ?_
  refine V_bipush (q := 18) (v := 8) C (by decide) rfl dX8_odds_16 ?_
  refine V_icmp_gt_f (tgt := 30) C (nI_nlt (a := 8) hm (by decide)) rfl (by decide) dX8_odds_18 ?_
  refine V_iload_n_3 (q := 22) C rfl dX8_odds_21 ?_
  refine V_if_lt_f (tgt := 30) C (nI_pos (by omega)) rfl (by decide) dX8_odds_22 ?_
  refine V_iload_n_3 (q := 26) C rfl dX8_odds_25 ?_
  refine V_iconst (q := 27) (v := 1) C rfl rfl dX8_odds_26 ?_
  refine V_icmp_le_t (tgt := 34) C (nI_le (b := 1) hw (by decide)) (by decide) dX8_odds_27 ?_
  refine V_aload_n_0 (q := 35) C rfl dX8_odds_34 ?_
  refine gf_X8_61 (q := 38) C rfl dX8_odds_35 ?_
  refine V_aload_n_0 (q := 39) C rfl dX8_odds_38 ?_
  refine gf_X8_27 (q := 42) C rfl dX8_odds_39 ?_
  refine V_cV1v (q := 45) C (c_X4_prepare σ C2 hC hC6 hcd) cw_X4_prepare cv_X4_prepare wm_X8_195 (by decide) ob_X4 ⟨by decide, by decide⟩ (Nat.le_of_ble_eq_true rfl) rfl dX8_odds_42 ?_
  refine V_iconst (q := 46) (v := (nI 0)) C rfl rfl dX8_odds_45 ?_
  refine V_istore_4 (q := 48) C hn4 rfl rfl dX8_odds_46 ?_
  refine V_iconst (q := 49) (v := 1) C rfl rfl dX8_odds_48 ?_
  refine V_iload_n_2 (q := 50) C rfl dX8_odds_49 ?_
  refine V_ishl (q := 51) C rfl dX8_odds_50 ?_
  rw [show (1 : Int32) <<< (nI m &&& 31) = nI (2 ^ m) from own1_p m hm]
  refine V_istore_5 (q := 53) C hn5 rfl rfl dX8_odds_51 ?_
  refine V_iconst (q := 54) (v := (nI 0)) C rfl rfl dX8_odds_53 ?_
  refine V_istore_6 (q := 56) C hn6 rfl rfl dX8_odds_54 ?_
  have hx56 : ∀ (w : Nat → Int32) (s : S4), (∀ f, pre m f w = pre m f (σ 22)) →  V X 56 [.ref (xad X 0), .int (nI j), .int (nI m), .int (nI wh), .int (nI (odN σ T P C2 j m ((2 ^ m)))), .int (nI (2 ^ m)), .int (nI ((2 ^ m)))] [] (putS (setc (prepF σ C2) 31 w) s) := by
    intro w s hw22
    refine V_iload_6 (q := 58) C rfl dX8_odds_56 ?_
    refine V_iconst (q := 59) (v := 1) C rfl rfl dX8_odds_58 ?_
    refine V_iload_n_2 (q := 60) C rfl dX8_odds_59 ?_
    refine V_ishl (q := 61) C rfl dX8_odds_60 ?_
    rw [show (1 : Int32) <<< (nI m &&& 31) = nI (2 ^ m) from own1_p m hm]
    refine V_icmp_ge_t (tgt := 107) C (nI_le (Nat.le_refl _) (by omega)) (by decide) dX8_odds_61 ?_
    have hx107 : ∀ (u : Nat), u ≤ 256 → hv2 m (odN σ T P C2 j m (2 ^ m)) = hv2 (m - m) u →  V X 107 [.ref (xad X 0), .int (nI j), .int (nI m), .int (nI wh), .int (nI u), .int (nI (2 ^ (m - m))), .int (nI (2 ^ m))] [] (putS (setc (prepF σ C2) 31 w) s) := by
      intro u hu hv
      refine V_iload_5 (q := 109) C rfl dX8_odds_107 ?_
      refine V_iconst (q := 110) (v := 1) C rfl rfl dX8_odds_109 ?_
      refine V_icmp_le_t (tgt := 135) C (by rw [Nat.sub_self]; decide) (by decide) dX8_odds_110 ?_
      refine V_iload_n_3 (q := 136) C rfl dX8_odds_135 ?_
      refine V_if_ne (tgt := 145) C rfl (by decide) dX8_odds_136 (fun c136 => ?_) (fun c136 => ?_)
      · refine V_iload_5 (q := 147) C rfl dX8_odds_145 ?_
        refine V_i2l (q := 148) C rfl dX8_odds_147 ?_
        refine V_lret C hR dX8_odds_148 ?_
        have hw0 : ¬ wh = 0 := fun h => c136 (by rw [h]; rfl)
        refine ⟨_, rfl, ?_, Kp.prep.trans ((Kp.setc (by decide)).trans Kp.put)⟩
        rw [if_neg hw0, hv, Nat.sub_self]
        rfl
      · refine V_iload_4 (q := 141) C rfl dX8_odds_139 ?_
        refine V_i2l (q := 142) C rfl dX8_odds_141 ?_
        refine V_goto (tgt := 148) C (by decide) dX8_odds_142 ?_
        refine V_lret C hR dX8_odds_148 ?_
        have hw0 : wh = 0 := by rcases Nat.eq_zero_or_pos wh with h | h; exact h; exact absurd c136 (nI_ne0 h (by omega))
        refine ⟨_, rfl, ?_, Kp.prep.trans ((Kp.setc (by decide)).trans Kp.put)⟩
        rw [if_pos hw0, hv, Nat.sub_self]
        rfl
    have hs107 : ∀ y : Nat, y < m → (∀ (u : Nat), u ≤ 256 → hv2 m (odN σ T P C2 j m (2 ^ m)) = hv2 (m - (y + 1)) u →  V X 107 [.ref (xad X 0), .int (nI j), .int (nI m), .int (nI wh), .int (nI u), .int (nI (2 ^ (m - (y + 1)))), .int (nI (2 ^ m))] [] (putS (setc (prepF σ C2) 31 w) s)) → ∀ (u : Nat), u ≤ 256 → hv2 m (odN σ T P C2 j m (2 ^ m)) = hv2 (m - y) u →  V X 107 [.ref (xad X 0), .int (nI j), .int (nI m), .int (nI wh), .int (nI u), .int (nI (2 ^ (m - y))), .int (nI (2 ^ m))] [] (putS (setc (prepF σ C2) 31 w) s) := by
      intro y hi107 ih107 u hu hv
      have hpy : 2 ^ (m - y) = 2 ^ (m - (y + 1)) * 2 := by rw [show m - y = m - (y + 1) + 1 by omega, Nat.pow_succ]
      have hpz : 0 < 2 ^ (m - (y + 1)) := Nat.pow_pos (by decide)
      have hpw : 2 ^ (m - (y + 1)) ≤ 256 := (p2_b8 (by omega)).2
      have hmy : m - y = (m - (y + 1)) + 1 := by omega
      refine V_iload_5 (q := 109) C rfl dX8_odds_107 ?_
      refine V_iconst (q := 110) (v := 1) C rfl rfl dX8_odds_109 ?_
      refine V_icmp_le_f (tgt := 135) C (by rw [show ((1 : Int32)) = nI 1 from rfl, nI_leI (by rw [hpy]; omega) (by decide), hpy]; omega) rfl (by decide) dX8_odds_110 ?_
      refine V_iload_4 (q := 115) C rfl dX8_odds_113 ?_
      refine V_iconst (q := 116) (v := 1) C rfl rfl dX8_odds_115 ?_
      refine V_iand (q := 117) C rfl dX8_odds_116 ?_
      rw [show nI u &&& 1 = nI (u % 2) from pk_andN (by omega) 1 rfl]
      refine V_if_ne (tgt := 135) C rfl (by decide) dX8_odds_117 (fun c117 => ?_) (fun c117 => ?_)
      · refine V_iload_n_3 (q := 136) C rfl dX8_odds_135 ?_
        refine V_if_ne (tgt := 145) C rfl (by decide) dX8_odds_136 (fun c136 => ?_) (fun c136 => ?_)
        · refine V_iload_5 (q := 147) C rfl dX8_odds_145 ?_
          refine V_i2l (q := 148) C rfl dX8_odds_147 ?_
          refine V_lret C hR dX8_odds_148 ?_
          have hw0 : ¬ wh = 0 := fun h => c136 (by rw [h]; rfl)
          have hu1 : ¬ u % 2 = 0 := fun h => c117 (by rw [h]; rfl)
          refine ⟨_, rfl, ?_, Kp.prep.trans ((Kp.setc (by decide)).trans Kp.put)⟩
          rw [if_neg hw0, hv, hmy, show hv2 (m - (y + 1) + 1) u = (u, m - (y + 1) + 1) from if_neg hu1]
        · refine V_iload_4 (q := 141) C rfl dX8_odds_139 ?_
          refine V_i2l (q := 142) C rfl dX8_odds_141 ?_
          refine V_goto (tgt := 148) C (by decide) dX8_odds_142 ?_
          refine V_lret C hR dX8_odds_148 ?_
          have hw0 : wh = 0 := by rcases Nat.eq_zero_or_pos wh with h | h; exact h; exact absurd c136 (nI_ne0 h (by omega))
          have hu1 : ¬ u % 2 = 0 := fun h => c117 (by rw [h]; rfl)
          refine ⟨_, rfl, ?_, Kp.prep.trans ((Kp.setc (by decide)).trans Kp.put)⟩
          rw [if_pos hw0, hv, hmy, show hv2 (m - (y + 1) + 1) u = (u, m - (y + 1) + 1) from if_neg hu1]
      · have hu2 : u % 2 = 0 := by rcases Nat.eq_zero_or_pos (u % 2) with h | h; exact h; exact absurd c117 (nI_ne0 h (by omega))
        refine V_iload_4 (q := 122) C rfl dX8_odds_120 ?_
        refine V_iconst (q := 123) (v := 2) C rfl rfl dX8_odds_122 ?_
        refine V_idiv (q := 124) C (by decide) rfl dX8_odds_123 ?_
        refine V_istore_4 (q := 126) C hn4 rfl rfl dX8_odds_124 ?_
        refine V_iload_5 (q := 128) C rfl dX8_odds_126 ?_
        refine V_iconst (q := 129) (v := 2) C rfl rfl dX8_odds_128 ?_
        refine V_idiv (q := 130) C (by decide) rfl dX8_odds_129 ?_
        refine V_istore_5 (q := 132) C hn5 rfl rfl dX8_odds_130 ?_
        refine V_goto (tgt := 107) C (by decide) dX8_odds_132 ?_
        rw [show nI u / 2 = nI (u / 2) from pk_div (d := 2) (by omega) (by decide) (by decide), show nI (2 ^ (m - y)) / 2 = nI (2 ^ (m - (y + 1))) from by show nI (2 ^ (m - y)) / nI 2 = _; rw [pk_div (by rw [hpy]; omega) (by decide) (by decide), hpy, Nat.mul_div_cancel _ (by decide)]]
        refine ih107 (u / 2) (by omega) ?_
        rw [hv, hmy]
        exact if_pos hu2
    exact V_eq (rfl) (loopN (P := fun y => ∀ (u : Nat), u ≤ 256 → hv2 m (odN σ T P C2 j m (2 ^ m)) = hv2 (m - y) u →  V X 107 [.ref (xad X 0), .int (nI j), .int (nI m), .int (nI wh), .int (nI u), .int (nI (2 ^ (m - y))), .int (nI (2 ^ m))] [] (putS (setc (prepF σ C2) 31 w) s)) (m) hx107 hs107 0 (Nat.zero_le _) (odN σ T P C2 j m (2 ^ m)) (Nat.le_trans (odN_le _) hp2.2) rfl)
  have hs56 : ∀ r : Nat, r < (2 ^ m) → (∀ (w : Nat → Int32) (s : S4), (∀ f, pre m f w = pre m f (σ 22)) →  V X 56 [.ref (xad X 0), .int (nI j), .int (nI m), .int (nI wh), .int (nI (odN σ T P C2 j m (r + 1))), .int (nI (2 ^ m)), .int (nI (r + 1))] [] (putS (setc (prepF σ C2) 31 w) s)) → ∀ (w : Nat → Int32) (s : S4), (∀ f, pre m f w = pre m f (σ 22)) →  V X 56 [.ref (xad X 0), .int (nI j), .int (nI m), .int (nI wh), .int (nI (odN σ T P C2 j m r)), .int (nI (2 ^ m)), .int (nI r)] [] (putS (setc (prepF σ C2) 31 w) s) := by
    intro r hi56 ih56 w s hw22
    refine V_iload_6 (q := 58) C rfl dX8_odds_56 ?_
    refine V_iconst (q := 59) (v := 1) C rfl rfl dX8_odds_58 ?_
    refine V_iload_n_2 (q := 60) C rfl dX8_odds_59 ?_
    refine V_ishl (q := 61) C rfl dX8_odds_60 ?_
    rw [show (1 : Int32) <<< (nI m &&& 31) = nI (2 ^ m) from own1_p m hm]
    refine V_icmp_ge_f (tgt := 107) C (nI_ge hi56 (by omega)) rfl (by decide) dX8_odds_61 ?_
    refine V_aload_n_0 (q := 65) C rfl dX8_odds_64 ?_
    refine gf_X8_61 (q := 68) C rfl dX8_odds_65 ?_
    refine V_iload_6 (q := 70) C rfl dX8_odds_68 ?_
    refine V_iload_n_2 (q := 71) C rfl dX8_odds_70 ?_
    refine V_cV2v (q := 74) C (Ct.mono (v' := none) (τ' := putS (setc (prepF σ C2) 31 (pre m (rnG (nI r)) (σ 22))) s) (c_X4_rainOn (putS (setc (prepF σ C2) 31 w) s) m (nI r) hm) (rfl) ((show setc (putS (setc (prepF σ C2) 31 w) s) 31 (pre m (rnG (nI r)) w) = _ from by rw [putS_31, hw22]))) cw_X4_rainOn cv_X4_rainOn wm_X8_232 (by decide) ob_X4 ⟨by decide, by decide⟩ (Nat.le_of_ble_eq_true rfl) rfl dX8_odds_71 ?_
    refine V_aload_n_0 (q := 75) C rfl dX8_odds_74 ?_
    refine gf_X8_61 (q := 78) C rfl dX8_odds_75 ?_
    refine V_iload_n_2 (q := 79) C rfl dX8_odds_78 ?_
    refine V_iconst (q := 80) (v := 1) C rfl rfl dX8_odds_79 ?_
    refine V_isub (q := 81) C rfl dX8_odds_80 ?_
    refine V_iconst (q := 82) (v := 1) C rfl rfl dX8_odds_81 ?_
    refine V_iload_n_1 (q := 83) C rfl dX8_odds_82 ?_
    refine V_ishl (q := 84) C rfl dX8_odds_83 ?_
    refine V_cV2v (q := 87) C (Ct.mono (v' := none) (τ' := putS (setc (prepF σ C2) 31 (pre m (rnG (nI r)) (σ 22))) (runU (setc (prepF σ C2) 31 (pre m (rnG (nI r)) (σ 22))) T P (own1 (nI j)) m (s0C σ))) (c_X4_passUntilOut (putS (setc (prepF σ C2) 31 (pre m (rnG (nI r)) (σ 22))) s) T P m (nI m - 1) (own1 (nI j)) hT hT6 hP hP6 (ldM hm)) (rfl) (by rw [putS_putS, runU_put]; rfl)) cw_X4_passUntilOut cv_X4_passUntilOut wm_X8_217 (by decide) ob_X4 ⟨by decide, by decide⟩ (Nat.le_of_ble_eq_true rfl) rfl dX8_odds_84 ?_
    refine V_aload_n_0 (q := 88) C rfl dX8_odds_87 ?_
    refine gf_X8_61 (q := 91) C rfl dX8_odds_88 ?_
    refine V_iload_n_1 (q := 92) C rfl dX8_odds_91 ?_
    refine V_cV1r (q := 95) C (Ct.mono (v' := some (.int (pI (odW σ T P C2 j m r)))) (c_X4_isOutByTree (putS (setc (prepF σ C2) 31 (pre m (rnG (nI r)) (σ 22))) (runU (setc (prepF σ C2) 31 (pre m (rnG (nI r)) (σ 22))) T P (own1 (nI j)) m (s0C σ))) j (by omega)) rfl rfl) cw_X4_isOutByTree cv_X4_isOutByTree wm_X8_221 (by decide) ob_X4 ⟨by decide, by decide⟩ (Nat.le_of_ble_eq_true rfl) rfl dX8_odds_92 ?_
    refine V_ifp_eq (tgt := 101) C rfl (by decide) dX8_odds_95 (fun c95 => ?_) (fun c95 => ?_)
    · refine V_iinc_6 (q := 104) (n := 1) C nI_inc hn6 rfl rfl dX8_odds_101 ?_
      refine V_goto (tgt := 56) C (by decide) dX8_odds_104 ?_
      first
      | (rw [show odN σ T P C2 j m r = odN σ T P C2 j m (r + 1) from (if_neg c95).symm]; exact ih56 _ _ (fun f => pre_pre))
      | (rw [show nI (odN σ T P C2 j m r + 1) = nI (odN σ T P C2 j m (r + 1)) from congrArg nI (if_pos c95).symm]; exact ih56 _ _ (fun f => pre_pre))
    · refine V_iinc_4 (q := 101) (n := 1) C nI_inc hn4 rfl rfl dX8_odds_98 ?_
      refine V_iinc_6 (q := 104) (n := 1) C nI_inc hn6 rfl rfl dX8_odds_101 ?_
      refine V_goto (tgt := 56) C (by decide) dX8_odds_104 ?_
      first
      | (rw [show odN σ T P C2 j m r = odN σ T P C2 j m (r + 1) from (if_neg c95).symm]; exact ih56 _ _ (fun f => pre_pre))
      | (rw [show nI (odN σ T P C2 j m r + 1) = nI (odN σ T P C2 j m (r + 1)) from congrArg nI (if_pos c95).symm]; exact ih56 _ _ (fun f => pre_pre))
  exact V_eq (by rw [show setc (prepF σ C2) 31 (σ 22) = prepF σ C2 from setc_id (σ := prepF σ C2) (k := 31), putS_get]) (loopN (P := fun r => ∀ (w : Nat → Int32) (s : S4), (∀ f, pre m f w = pre m f (σ 22)) →  V X 56 [.ref (xad X 0), .int (nI j), .int (nI m), .int (nI wh), .int (nI (odN σ T P C2 j m r)), .int (nI (2 ^ m)), .int (nI r)] [] (putS (setc (prepF σ C2) 31 w) s)) ((2 ^ m)) hx56 hs56 0 (Nat.zero_le _) (σ 22) (getS (prepF σ C2)) (fun _ => rfl))

