/-! the class: its public calls, green keys, thieves, texts -/
set_option maxHeartbeats 4000000 in
set_option maxRecDepth 100000 in
theorem c_X8_orchard_u {l : Launch} {D : DD} {ad : Nat → Nat} (σ : ST) (k a i n : Int32) (h : ¬ isT 4 k) : Ct l yX8_orchard cX8_orchard 7 (Option.some FieldType.int) 4 87 D ad [.ref (ad 0), .int k, .int a, .int i, .int n] σ (ex (some (.int (-1))) (setf σ 0 8 0)) := by
  refine Ct.of2 [.ref (ad 0), .int k, .int a, .int i, .int n, .float 0, .float 0] rfl (Nat.le_of_ble_eq_true rfl) rfl ?_
  rintro X C rfl rfl rfl hxn hR
  have hn5 : 5 < xn X := by rw [← hxn]; decide
  refine V_aload_n_0 (q := 1) C rfl dX8_orchard_0 ?_
  refine V_iconst (q := 2) (v := 0) C rfl rfl dX8_orchard_1 ?_
  refine pf_X8_45 (q := 5) C rfl dX8_orchard_2 ?_
  refine V_aload_n_0 (q := 6) C rfl dX8_orchard_5 ?_
  refine V_iload_n_1 (q := 7) C rfl dX8_orchard_6 ?_
  refine V_cV1r (q := 10) C (c_X8_sheetOfN _ _ h) cw_X8_sheetOf cv_X8_sheetOf wm_X8_75 (by decide) ob_X8 ⟨by decide, by decide⟩ (Nat.le_of_ble_eq_true rfl) rfl dX8_orchard_7 ?_
  refine V_astoreN_5 (q := 12) C hn5 rfl rfl dX8_orchard_10 ?_
  refine V_aloadN_5 (q := 14) C rfl dX8_orchard_12 ?_
  refine V_ifnonnullN (q := 17) C rfl dX8_orchard_14 ?_
  refine V_iconst (q := 18) (v := (-1)) C rfl rfl dX8_orchard_17 ?_
  refine V_iret C hR dX8_orchard_18 ?_
  exact ⟨rfl, rfl⟩

set_option maxHeartbeats 4000000 in
set_option maxRecDepth 100000 in
theorem c_X8_orchard_o {l : Launch} {D : DD} {ad : Nat → Nat} (σ : ST) (j : Nat) (a i n : Int32) (hj : j < 4) (h : ¬ isT 3 a) : Ct l yX8_orchard cX8_orchard 7 (Option.some FieldType.int) 4 87 D ad [.ref (ad 0), .int (nI j), .int a, .int i, .int n] σ (ex (some (.int (-2))) (setf σ 0 8 0)) := by
  refine Ct.of2 [.ref (ad 0), .int (nI j), .int a, .int i, .int n, .float 0, .float 0] rfl (Nat.le_of_ble_eq_true rfl) rfl ?_
  rintro X C rfl rfl rfl hxn hR
  have hn5 : 5 < xn X := by rw [← hxn]; decide
  refine V_aload_n_0 (q := 1) C rfl dX8_orchard_0 ?_
  refine V_iconst (q := 2) (v := 0) C rfl rfl dX8_orchard_1 ?_
  refine pf_X8_45 (q := 5) C rfl dX8_orchard_2 ?_
  refine V_aload_n_0 (q := 6) C rfl dX8_orchard_5 ?_
  refine V_iload_n_1 (q := 7) C rfl dX8_orchard_6 ?_
  refine V_cV1r (q := 10) C (c_X8_sheetOf _ j hj) cw_X8_sheetOf cv_X8_sheetOf wm_X8_75 (by decide) ob_X8 ⟨by decide, by decide⟩ (Nat.le_of_ble_eq_true rfl) rfl dX8_orchard_7 ?_
  refine V_astore_5 (q := 12) C hn5 rfl rfl dX8_orchard_10 ?_
  refine V_aload_5 (q := 14) C rfl dX8_orchard_12 ?_
  refine V_ifnonnull (tgt := 19) C (by decide) dX8_orchard_14 ?_
  refine V_iload_n_2 (q := 20) C rfl dX8_orchard_19 ?_
  refine V_cS1r (q := 23) C (c_X8_isLane _ _) cw_X8_isLane cs_X8_isLane wm_X8_79 ⟨by decide, by decide⟩ (Nat.le_of_ble_eq_true rfl) rfl dX8_orchard_20 ?_
  refine V_ifp_ne_f (tgt := 29) C h rfl (by decide) dX8_orchard_23 ?_
  refine V_bipush (q := 28) (v := (-2)) C (by decide) rfl dX8_orchard_26 ?_
  refine V_iret C hR dX8_orchard_28 ?_
  exact ⟨rfl, rfl⟩

def orE (σ : ST) (j : Nat) (a n : Int32) : Int32 := if ¬ σ (2 + 2 * j) 1 = 0 ∧ ¬ σ (2 + 2 * j) 2 = a then 2 else if σ (2 + 2 * j) 1 = 0 then 1 else if n < 0 then 4 else 3

set_option maxHeartbeats 4000000 in
set_option maxRecDepth 100000 in
theorem c_X8_orchard_e {l : Launch} {D : DD} {ad : Nat → Nat} (σ : ST) (j : Nat) (a i n : Int32) (hj : j < 4) (h : isT 3 a) (hok : ¬ (¬ (¬ σ (2 + 2 * j) 1 = 0 ∧ ¬ σ (2 + 2 * j) 2 = a) ∧ ¬ σ (2 + 2 * j) 1 = 0 ∧ hcC σ j i n)) : Ct l yX8_orchard cX8_orchard 7 (Option.some FieldType.int) 4 87 D ad [.ref (ad 0), .int (nI j), .int a, .int i, .int n] σ (ex (some (.int (-10 - orE σ j a n))) (setf σ 0 8 (orE σ j a n))) := by
  refine Ct.of2 [.ref (ad 0), .int (nI j), .int a, .int i, .int n, .float 0, .float 0] rfl (Nat.le_of_ble_eq_true rfl) rfl ?_
  rintro X C rfl rfl rfl hxn hR
  have hn5 : 5 < xn X := by rw [← hxn]; decide
  refine V_aload_n_0 (q := 1) C rfl dX8_orchard_0 ?_
  refine V_iconst (q := 2) (v := 0) C rfl rfl dX8_orchard_1 ?_
  refine pf_X8_45 (q := 5) C rfl dX8_orchard_2 ?_
  refine V_aload_n_0 (q := 6) C rfl dX8_orchard_5 ?_
  refine V_iload_n_1 (q := 7) C rfl dX8_orchard_6 ?_
  refine V_cV1r (q := 10) C (c_X8_sheetOf _ j hj) cw_X8_sheetOf cv_X8_sheetOf wm_X8_75 (by decide) ob_X8 ⟨by decide, by decide⟩ (Nat.le_of_ble_eq_true rfl) rfl dX8_orchard_7 ?_
  refine V_astore_5 (q := 12) C hn5 rfl rfl dX8_orchard_10 ?_
  refine V_aload_5 (q := 14) C rfl dX8_orchard_12 ?_
  refine V_ifnonnull (tgt := 19) C (by decide) dX8_orchard_14 ?_
  refine V_iload_n_2 (q := 20) C rfl dX8_orchard_19 ?_
  refine V_cS1r (q := 23) C (c_X8_isLane _ _) cw_X8_isLane cs_X8_isLane wm_X8_79 ⟨by decide, by decide⟩ (Nat.le_of_ble_eq_true rfl) rfl dX8_orchard_20 ?_
  refine V_ifp_ne_t (tgt := 29) C h (by decide) dX8_orchard_23 ?_
  refine V_aload_5 (q := 31) C rfl dX8_orchard_29 ?_
  refine V_iload_n_2 (q := 32) C rfl dX8_orchard_31 ?_
  refine V_cV1r (q := 35) C (Ct.mono (v' := some (.int (pI (¬ σ (2 + 2 * j) 1 = 0 ∧ ¬ σ (2 + 2 * j) 2 = a)))) (c_X5_isOfOtherLane (setf σ 0 8 0) j a hj) (by rw [f0_sh]) rfl) cw_X5_isOfOtherLane cv_X5_isOfOtherLane wm_X8_83 (by omega) (ob_X5 hj) ⟨by decide, by decide⟩ (Nat.le_of_ble_eq_true rfl) rfl dX8_orchard_32 ?_
  refine V_ifp_eq (tgt := 44) C rfl (by decide) dX8_orchard_35 (fun c35 => ?_) (fun c35 => ?_)
  · refine V_aload_5 (q := 46) C rfl dX8_orchard_44 ?_
    refine gf_X8_90 (q := 49) C hj rfl dX8_orchard_46 ?_
    rw [f0_sh]
    refine V_if_ne (tgt := 58) C rfl (by decide) dX8_orchard_49 (fun c49 => ?_) (fun c49 => ?_)
    · refine V_iload_4 (q := 60) C rfl dX8_orchard_58 ?_
      refine V_if_ge (tgt := 69) C rfl (by decide) dX8_orchard_60 (fun c60 => ?_) (fun c60 => ?_)
      · refine V_aload_5 (q := 71) C rfl dX8_orchard_69 ?_
        refine V_iload_n_3 (q := 72) C rfl dX8_orchard_71 ?_
        refine V_iload_4 (q := 74) C rfl dX8_orchard_72 ?_
        refine V_cV2r (q := 77) C (Ct.mono (v' := some (.int (pI (hcC σ j i n)))) (c_X5_hasCells (setf σ 0 8 0) j i n hj) (by rw [f0_sh]) rfl) cw_X5_hasCells cv_X5_hasCells wm_X8_94 (by omega) (ob_X5 hj) ⟨by decide, by decide⟩ (Nat.le_of_ble_eq_true rfl) rfl dX8_orchard_74 ?_
        refine V_ifp_ne (tgt := 86) C rfl (by decide) dX8_orchard_77 (fun c77 => ?_) (fun c77 => ?_)
        · exact absurd ⟨c35, c49, c77⟩ hok
        · refine V_aload_n_0 (q := 81) C rfl dX8_orchard_80 ?_
          refine V_iconst (q := 82) (v := 3) C rfl rfl dX8_orchard_81 ?_
          refine V_cV1r (q := 85) C (Ct.mono (v' := some (.int (-10 - 3))) (τ' := setf σ 0 8 3) (c_X8_faulted _ 3) rfl setf_setf) cw_X8_faulted cv_X8_faulted wm_X8_86 (by decide) ob_X8 ⟨by decide, by decide⟩ (Nat.le_of_ble_eq_true rfl) rfl dX8_orchard_82 ?_
          refine V_iret C hR dX8_orchard_85 ?_
          have e0 : ¬ n < 0 := Int32.not_lt.mpr c60
          exact ⟨by unfold orE; rw [if_neg c35, if_neg c49, if_neg e0], by unfold orE; rw [if_neg c35, if_neg c49, if_neg e0]⟩
      · refine V_aload_n_0 (q := 64) C rfl dX8_orchard_63 ?_
        refine V_iconst (q := 65) (v := 4) C rfl rfl dX8_orchard_64 ?_
        refine V_cV1r (q := 68) C (Ct.mono (v' := some (.int (-10 - 4))) (τ' := setf σ 0 8 4) (c_X8_faulted _ 4) rfl setf_setf) cw_X8_faulted cv_X8_faulted wm_X8_86 (by decide) ob_X8 ⟨by decide, by decide⟩ (Nat.le_of_ble_eq_true rfl) rfl dX8_orchard_65 ?_
        refine V_iret C hR dX8_orchard_68 ?_
        have e0 : n < 0 := Int32.not_le.mp c60
        exact ⟨by unfold orE; rw [if_neg c35, if_neg c49, if_pos e0], by unfold orE; rw [if_neg c35, if_neg c49, if_pos e0]⟩
    · refine V_aload_n_0 (q := 53) C rfl dX8_orchard_52 ?_
      refine V_iconst (q := 54) (v := 1) C rfl rfl dX8_orchard_53 ?_
      refine V_cV1r (q := 57) C (Ct.mono (v' := some (.int (-10 - 1))) (τ' := setf σ 0 8 1) (c_X8_faulted _ 1) rfl setf_setf) cw_X8_faulted cv_X8_faulted wm_X8_86 (by decide) ob_X8 ⟨by decide, by decide⟩ (Nat.le_of_ble_eq_true rfl) rfl dX8_orchard_54 ?_
      refine V_iret C hR dX8_orchard_57 ?_
      have e0 : σ (2 + 2 * j) 1 = 0 := c49
      exact ⟨by unfold orE; rw [if_neg c35, if_pos e0], by unfold orE; rw [if_neg c35, if_pos e0]⟩
  · refine V_aload_n_0 (q := 39) C rfl dX8_orchard_38 ?_
    refine V_iconst (q := 40) (v := 2) C rfl rfl dX8_orchard_39 ?_
    refine V_cV1r (q := 43) C (Ct.mono (v' := some (.int (-10 - 2))) (τ' := setf σ 0 8 2) (c_X8_faulted _ 2) rfl setf_setf) cw_X8_faulted cv_X8_faulted wm_X8_86 (by decide) ob_X8 ⟨by decide, by decide⟩ (Nat.le_of_ble_eq_true rfl) rfl dX8_orchard_40 ?_
    refine V_iret C hR dX8_orchard_43 ?_
    exact ⟨by unfold orE; rw [if_pos c35], by unfold orE; rw [if_pos c35]⟩

def orT (σ : ST) (j s m : Nat) : ST := setf (setc (setf σ 0 8 0) 11 (va_cpy (σ (2 + 2 * j + 1)) (σ 11) s 0 m)) 10 1 (nI m)
def orP (σ : ST) (j s m : Nat) : ST := setf (setf (setf (setc (setc (plC (ffS (orT σ j s m) (ffR (orT σ j s m) m).2.1 (ffR (orT σ j s m) m).2.2) m (ffR (orT σ j s m) m).2.1 (ffR (orT σ j s m) m).2.2 (ffR (orT σ j s m) m).2.1) 22 (fun _ => 0)) 23 (fun _ => -9)) 21 4 0) 21 5 0) 26 3 0
def orQ (σ : ST) (j s m : Nat) (v : Int32) (τ : ST) : Prop := if (ffR (orT σ j s m) m).1 = -1 then v = nI (ffR (orT σ j s m) m).2.1 ∧ τ = orP σ j s m else v = -100 - (ffR (orT σ j s m) m).1 ∧ Kp (setf σ 0 8 0) τ
theorem ffA_le {σ : ST} {n : Nat} : ∀ f m : Nat, (ffA σ n f m).1 ≤ m + f := by
  intro f
  induction f with
  | zero => intro m; exact Nat.le_refl _
  | succ f ih =>
    intro m
    rw [ffA_s]
    have := ih (m + 1)
    split
    · show m ≤ _; omega
    · split
      · show m ≤ _; omega
      · split
        · show m ≤ _; omega
        · omega
theorem ffB_le {σ : ST} {n q : Nat} : ∀ f m : Nat, (ffB σ n q f m).1 ≤ m + f := by
  intro f
  induction f with
  | zero => intro m; exact Nat.le_refl _
  | succ f ih =>
    intro m
    rw [ffB_s]
    have := ih (m + 1)
    split
    · show m ≤ _; omega
    · split
      · show m ≤ _; omega
      · split
        · show m ≤ _; omega
        · split
          · show m ≤ _; omega
          · omega
theorem ffR_le {σ : ST} {n : Nat} : (ffR σ n).2.1 ≤ 6 ∧ (ffR σ n).2.2 ≤ 6 := by
  unfold ffR
  have hA := ffA_le (σ := σ) (n := n) 6 0
  split
  · exact ⟨Nat.zero_le _, Nat.zero_le _⟩
  · split
    next m k e => rw [e] at hA; exact ⟨by show m ≤ 6; omega, Nat.zero_le _⟩
    next m e =>
      rw [e] at hA
      split
      · exact ⟨Nat.zero_le _, Nat.zero_le _⟩
      · have hB := ffB_le (σ := σ) (n := n) (q := 1 + 3 * m) 6 0
        split
        next b k e2 => rw [e2] at hB; exact ⟨by show m ≤ 6; omega, by show b ≤ 6; omega⟩
        next b e2 =>
          rw [e2] at hB
          split
          · exact ⟨by show m ≤ 6; omega, by show b ≤ 6; omega⟩
          · exact ⟨by show m ≤ 6; omega, by show b ≤ 6; omega⟩

set_option maxHeartbeats 4000000 in
set_option maxRecDepth 100000 in
theorem c_X8_orchard_v {l : Launch} {D : DD} {ad : Nat → Nat} (σ : ST) (j s m : Nat) (a : Int32) (hj : j < 4) (h : isT 3 a) (hr : ¬ σ (2 + 2 * j) 1 = 0) (hla : σ (2 + 2 * j) 2 = a) (L : Nat) (hL : σ (2 + 2 * j) 3 = nI L) (hL50 : L ≤ 50) (hsm : s + m ≤ L) : Ct l yX8_orchard cX8_orchard 7 (Option.some FieldType.int) 4 87 D ad [.ref (ad 0), .int (nI j), .int a, .int (nI s), .int (nI m)] σ (pq (orQ σ j s m)) := by
  refine Ct.of2 [.ref (ad 0), .int (nI j), .int a, .int (nI s), .int (nI m), .float 0, .float 0] rfl (Nat.le_of_ble_eq_true rfl) rfl ?_
  rintro X C rfl rfl rfl hxn hR
  have hn5 : 5 < xn X := by rw [← hxn]; decide
  have hn6 : 6 < xn X := by rw [← hxn]; decide
  refine V_aload_n_0 (q := 1) C rfl dX8_orchard_0 ?_
  refine V_iconst (q := 2) (v := 0) C rfl rfl dX8_orchard_1 ?_
  refine pf_X8_45 (q := 5) C rfl dX8_orchard_2 ?_
  refine V_aload_n_0 (q := 6) C rfl dX8_orchard_5 ?_
  refine V_iload_n_1 (q := 7) C rfl dX8_orchard_6 ?_
  refine V_cV1r (q := 10) C (c_X8_sheetOf _ j hj) cw_X8_sheetOf cv_X8_sheetOf wm_X8_75 (by decide) ob_X8 ⟨by decide, by decide⟩ (Nat.le_of_ble_eq_true rfl) rfl dX8_orchard_7 ?_
  refine V_astore_5 (q := 12) C hn5 rfl rfl dX8_orchard_10 ?_
  refine V_aload_5 (q := 14) C rfl dX8_orchard_12 ?_
  refine V_ifnonnull (tgt := 19) C (by decide) dX8_orchard_14 ?_
  refine V_iload_n_2 (q := 20) C rfl dX8_orchard_19 ?_
  refine V_cS1r (q := 23) C (c_X8_isLane _ _) cw_X8_isLane cs_X8_isLane wm_X8_79 ⟨by decide, by decide⟩ (Nat.le_of_ble_eq_true rfl) rfl dX8_orchard_20 ?_
  refine V_ifp_ne_t (tgt := 29) C h (by decide) dX8_orchard_23 ?_
  refine V_aload_5 (q := 31) C rfl dX8_orchard_29 ?_
  refine V_iload_n_2 (q := 32) C rfl dX8_orchard_31 ?_
  refine V_cV1r (q := 35) C (Ct.mono (v' := some (.int (pI (¬ σ (2 + 2 * j) 1 = 0 ∧ ¬ σ (2 + 2 * j) 2 = a)))) (c_X5_isOfOtherLane (setf σ 0 8 0) j a hj) (by rw [f0_sh]) rfl) cw_X5_isOfOtherLane cv_X5_isOfOtherLane wm_X8_83 (by omega) (ob_X5 hj) ⟨by decide, by decide⟩ (Nat.le_of_ble_eq_true rfl) rfl dX8_orchard_32 ?_
  refine V_ifp_eq_t (tgt := 44) C (fun q => q.2 hla) (by decide) dX8_orchard_35 ?_
  refine V_aload_5 (q := 46) C rfl dX8_orchard_44 ?_
  refine gf_X8_90 (q := 49) C hj rfl dX8_orchard_46 ?_
  rw [f0_sh]
  refine V_if_ne_t (tgt := 58) C hr (by decide) dX8_orchard_49 ?_
  refine V_iload_4 (q := 60) C rfl dX8_orchard_58 ?_
  refine V_if_ge_t (tgt := 69) C (nI_pos' (by omega)) (by decide) dX8_orchard_60 ?_
  refine V_aload_5 (q := 71) C rfl dX8_orchard_69 ?_
  refine V_iload_n_3 (q := 72) C rfl dX8_orchard_71 ?_
  refine V_iload_4 (q := 74) C rfl dX8_orchard_72 ?_
  refine V_cV2r (q := 77) C (Ct.mono (v' := some (.int (pI (hcC σ j (nI s) (nI m))))) (c_X5_hasCells (setf σ 0 8 0) j (nI s) (nI m) hj) (by rw [f0_sh]) rfl) cw_X5_hasCells cv_X5_hasCells wm_X8_94 (by omega) (ob_X5 hj) ⟨by decide, by decide⟩ (Nat.le_of_ble_eq_true rfl) rfl dX8_orchard_74 ?_
  refine V_ifp_ne_t (tgt := 86) C (by unfold hcC; rw [hL]; exact (hcN hL50).mpr ⟨s, m, rfl, rfl, hsm⟩) (by decide) dX8_orchard_77 ?_
  refine V_aload_n_0 (q := 87) C rfl dX8_orchard_86 ?_
  refine gf_X8_20 (q := 90) C rfl dX8_orchard_87 ?_
  refine V_aload_5 (q := 92) C rfl dX8_orchard_90 ?_
  refine V_iload_n_3 (q := 93) C rfl dX8_orchard_92 ?_
  refine V_iload_4 (q := 95) C rfl dX8_orchard_93 ?_
  refine V_cV3v (q := 98) C (Ct.mono (v' := none) (τ' := orT σ j s m) (c_X6_take (setf σ 0 8 0) j s m hj (by omega)) (rfl) (by rw [f0_sc]; rfl)) cw_X6_take cv_X6_take wm_X8_98 (by decide) ob_X6 ⟨by decide, by decide⟩ (Nat.le_of_ble_eq_true rfl) rfl dX8_orchard_95 ?_
  refine V_aload_n_0 (q := 99) C rfl dX8_orchard_98 ?_
  refine gf_X8_20 (q := 102) C rfl dX8_orchard_99 ?_
  refine V_cV0r (q := 105) C (c_X6_firstFault (orT σ j s m) m rfl (by omega)) cw_X6_firstFault cv_X6_firstFault wm_X8_102 (by decide) ob_X6 ⟨by decide, by decide⟩ (Nat.le_of_ble_eq_true rfl) rfl dX8_orchard_102 ?_
  refine V_istore_6 (q := 107) C hn6 rfl rfl dX8_orchard_105 ?_
  refine V_iload_6 (q := 109) C rfl dX8_orchard_107 ?_
  refine V_iconst (q := 110) (v := (-1)) C rfl rfl dX8_orchard_109 ?_
  refine V_icmp_eq (tgt := 119) C rfl (by decide) dX8_orchard_110 (fun c110 => ?_) (fun c110 => ?_)
  · refine V_aload_n_0 (q := 120) C rfl dX8_orchard_119 ?_
    refine gf_X8_57 (q := 123) C rfl dX8_orchard_120 ?_
    refine V_aload_n_0 (q := 124) C rfl dX8_orchard_123 ?_
    refine gf_X8_20 (q := 127) C rfl dX8_orchard_124 ?_
    refine V_cV1v (q := 130) C (c_X1_plant (ffS (orT σ j s m) (ffR (orT σ j s m) m).2.1 (ffR (orT σ j s m) m).2.2) m (ffR (orT σ j s m) m).2.1 (ffR (orT σ j s m) m).2.2 rfl (by omega) rfl ffR_le.1 rfl ffR_le.2) cw_X1_plant cv_X1_plant wm_X8_106 (by decide) ob_X1 ⟨by decide, by decide⟩ (Nat.le_of_ble_eq_true rfl) rfl dX8_orchard_127 ?_
    refine V_aload_n_0 (q := 131) C rfl dX8_orchard_130 ?_
    refine gf_X8_27 (q := 134) C rfl dX8_orchard_131 ?_
    refine V_cV0v (q := 137) C (c_X7_clear _) cw_X7_clear cv_X7_clear wm_X8_110 (by decide) ob_X7 ⟨by decide, by decide⟩ (Nat.le_of_ble_eq_true rfl) rfl dX8_orchard_134 ?_
    refine V_aload_n_0 (q := 138) C rfl dX8_orchard_137 ?_
    refine gf_X8_34 (q := 141) C rfl dX8_orchard_138 ?_
    refine V_iconst (q := 142) (v := 0) C rfl rfl dX8_orchard_141 ?_
    refine pf_X8_113 (q := 145) C rfl dX8_orchard_142 ?_
    refine V_aload_n_0 (q := 146) C rfl dX8_orchard_145 ?_
    refine gf_X8_57 (q := 149) C rfl dX8_orchard_146 ?_
    refine gf_X8_116 (q := 152) C rfl dX8_orchard_149 ?_
    refine V_iret C hR dX8_orchard_152 ?_
    refine ⟨_, rfl, ?_⟩
    unfold orQ
    rw [if_pos c110]
    exact ⟨rfl, rfl⟩
  · refine V_bipush (q := 115) (v := (-100)) C (by decide) rfl dX8_orchard_113 ?_
    refine V_iload_6 (q := 117) C rfl dX8_orchard_115 ?_
    refine V_isub (q := 118) C rfl dX8_orchard_117 ?_
    refine V_iret C hR dX8_orchard_118 ?_
    refine ⟨_, rfl, ?_⟩
    unfold orQ
    rw [if_neg c110]
    refine ⟨rfl, fun k hk => ?_⟩
    unfold scr at hk
    unfold ffS orT setf
    rw [setc_n (by omega), setc_n (by omega), setc_n (by omega), setc_n (by omega)]

