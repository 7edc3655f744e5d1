/-! the class: its public calls, sheets and searches -/
abbrev scr (k : Nat) : Prop := k = 10 ∨ k = 11 ∨ (30 ≤ k ∧ k ≤ 36) ∨ k = 38
def Kp (σ τ : ST) : Prop := ∀ k, ¬ scr k → τ k = σ k
theorem hcN {a n : Int32} {L : Nat} (hL : L ≤ 50) : (¬ a < 0 ∧ ¬ nI L < a ∧ ¬ n < 0 ∧ ¬ nI L - a < n) ↔ ∃ s m : Nat, a = nI s ∧ n = nI m ∧ s + m ≤ L := by
  constructor
  · rintro ⟨h1, h2, h3, h4⟩
    obtain ⟨s, hs, rfl⟩ := nI_of h1
    obtain ⟨m, hm, rfl⟩ := nI_of h3
    have hsL : s ≤ L := by
      rcases Nat.lt_or_ge L s with h | h
      · exact absurd (nI_lt h (by omega)) h2
      · exact h
    rw [pk_sub hsL] at h4
    have : m ≤ L - s := by
      rcases Nat.lt_or_ge (L - s) m with h | h
      · exact absurd (nI_lt h (by omega)) h4
      · exact h
    exact ⟨s, m, rfl, rfl, by omega⟩
  · rintro ⟨s, m, rfl, rfl, h⟩
    refine ⟨nI_pos (by omega), nI_nlt (by omega) (by omega), nI_pos (by omega), ?_⟩
    rw [pk_sub (by omega)]
    exact nI_nlt (by omega) (by omega)
abbrev hcC (σ : ST) (j : Nat) (a n : Int32) : Prop := ¬ a < 0 ∧ ¬ σ (2 + 2 * j) 3 < a ∧ ¬ n < 0 ∧ ¬ σ (2 + 2 * j) 3 - a < n
theorem sh_ne0 {j : Nat} : ¬ 2 + 2 * j = 0 := by omega
theorem f0_sh {σ : ST} {j : Nat} {x : Int32} : (setf σ 0 8 x) (2 + 2 * j) = σ (2 + 2 * j) := setc_n (by omega)
theorem f0_sc {σ : ST} {j : Nat} {x : Int32} : (setf σ 0 8 x) (2 + 2 * j + 1) = σ (2 + 2 * j + 1) := setc_n (by omega)

set_option maxHeartbeats 4000000 in
set_option maxRecDepth 100000 in
theorem c_X8_sheet_u {l : Launch} {D : DD} {ad : Nat → Nat} (σ : ST) (k a n : Int32) (h : ¬ isT 4 k) : Ct l yX8_sheet cX8_sheet 5 (Option.some FieldType.int) 2 45 D ad [.ref (ad 0), .int k, .int a, .int n] σ (ex (some (.int (-1))) (setf σ 0 8 0)) := by
  refine Ct.of2 [.ref (ad 0), .int k, .int a, .int n, .float 0] rfl (Nat.le_of_ble_eq_true rfl) rfl ?_
  rintro X C rfl rfl rfl hxn hR
  have hn4 : 4 < xn X := by rw [← hxn]; decide
  refine V_aload_n_0 (q := 1) C rfl dX8_sheet_0 ?_
  refine V_iconst (q := 2) (v := 0) C rfl rfl dX8_sheet_1 ?_
  refine pf_X8_45 (q := 5) C rfl dX8_sheet_2 ?_
  refine V_aload_n_0 (q := 6) C rfl dX8_sheet_5 ?_
  refine V_iload_n_1 (q := 7) C rfl dX8_sheet_6 ?_
  refine V_cV1r (q := 10) C (c_X8_sheetOfN _ _ h) cw_X8_sheetOf cv_X8_sheetOf wm_X8_75 (by decide) ob_X8 ⟨by decide, by decide⟩ (Nat.le_of_ble_eq_true rfl) rfl dX8_sheet_7 ?_
  refine V_astoreN_4 (q := 12) C hn4 rfl rfl dX8_sheet_10 ?_
  refine V_aloadN_4 (q := 14) C rfl dX8_sheet_12 ?_
  refine V_ifnonnullN (q := 17) C rfl dX8_sheet_14 ?_
  refine V_iconst (q := 18) (v := (-1)) C rfl rfl dX8_sheet_17 ?_
  refine V_iret C hR dX8_sheet_18 ?_
  exact ⟨rfl, rfl⟩

set_option maxHeartbeats 4000000 in
set_option maxRecDepth 100000 in
theorem c_X8_sheet_o {l : Launch} {D : DD} {ad : Nat → Nat} (σ : ST) (j : Nat) (a n : Int32) (hj : j < 4) (h : ¬ (isT 3 a ∧ ¬ 50 < n)) : Ct l yX8_sheet cX8_sheet 5 (Option.some FieldType.int) 2 45 D ad [.ref (ad 0), .int (nI j), .int a, .int n] σ (ex (some (.int (-2))) (setf σ 0 8 0)) := by
  refine Ct.of2 [.ref (ad 0), .int (nI j), .int a, .int n, .float 0] rfl (Nat.le_of_ble_eq_true rfl) rfl ?_
  rintro X C rfl rfl rfl hxn hR
  have hn4 : 4 < xn X := by rw [← hxn]; decide
  refine V_aload_n_0 (q := 1) C rfl dX8_sheet_0 ?_
  refine V_iconst (q := 2) (v := 0) C rfl rfl dX8_sheet_1 ?_
  refine pf_X8_45 (q := 5) C rfl dX8_sheet_2 ?_
  refine V_aload_n_0 (q := 6) C rfl dX8_sheet_5 ?_
  refine V_iload_n_1 (q := 7) C rfl dX8_sheet_6 ?_
  refine V_cV1r (q := 10) C (c_X8_sheetOf _ j hj) cw_X8_sheetOf cv_X8_sheetOf wm_X8_75 (by decide) ob_X8 ⟨by decide, by decide⟩ (Nat.le_of_ble_eq_true rfl) rfl dX8_sheet_7 ?_
  refine V_astore_4 (q := 12) C hn4 rfl rfl dX8_sheet_10 ?_
  refine V_aload_4 (q := 14) C rfl dX8_sheet_12 ?_
  refine V_ifnonnull (tgt := 19) C (by decide) dX8_sheet_14 ?_
  refine V_iload_n_2 (q := 20) C rfl dX8_sheet_19 ?_
  refine V_cS1r (q := 23) C (c_X8_isLane _ _) cw_X8_isLane cs_X8_isLane wm_X8_79 ⟨by decide, by decide⟩ (Nat.le_of_ble_eq_true rfl) rfl dX8_sheet_20 ?_
  refine V_ifp_eq (tgt := 32) C rfl (by decide) dX8_sheet_23 (fun c23 => ?_) (fun c23 => ?_)
  · refine V_bipush (q := 34) (v := (-2)) C (by decide) rfl dX8_sheet_32 ?_
    refine V_iret C hR dX8_sheet_34 ?_
    exact ⟨rfl, rfl⟩
  · refine V_iload_n_3 (q := 27) C rfl dX8_sheet_26 ?_
    refine V_bipush (q := 29) (v := 50) C (by decide) rfl dX8_sheet_27 ?_
    refine V_icmp_le (tgt := 35) C rfl (by decide) dX8_sheet_29 (fun c29 => ?_) (fun c29 => ?_)
    · exact absurd ⟨c23, Int32.not_lt.mpr c29⟩ h
    · refine V_bipush (q := 34) (v := (-2)) C (by decide) rfl dX8_sheet_32 ?_
      refine V_iret C hR dX8_sheet_34 ?_
      exact ⟨rfl, rfl⟩

set_option maxHeartbeats 4000000 in
set_option maxRecDepth 100000 in
theorem c_X8_sheet_z {l : Launch} {D : DD} {ad : Nat → Nat} (σ : ST) (j : Nat) (a n : Int32) (hj : j < 4) (h : isT 3 a) (hn : n < 0) : Ct l yX8_sheet cX8_sheet 5 (Option.some FieldType.int) 2 45 D ad [.ref (ad 0), .int (nI j), .int a, .int n] σ (ex (some (.int (-14))) (setf σ 0 8 4)) := by
  refine Ct.of2 [.ref (ad 0), .int (nI j), .int a, .int n, .float 0] rfl (Nat.le_of_ble_eq_true rfl) rfl ?_
  rintro X C rfl rfl rfl hxn hR
  have hn4 : 4 < xn X := by rw [← hxn]; decide
  refine V_aload_n_0 (q := 1) C rfl dX8_sheet_0 ?_
  refine V_iconst (q := 2) (v := 0) C rfl rfl dX8_sheet_1 ?_
  refine pf_X8_45 (q := 5) C rfl dX8_sheet_2 ?_
  refine V_aload_n_0 (q := 6) C rfl dX8_sheet_5 ?_
  refine V_iload_n_1 (q := 7) C rfl dX8_sheet_6 ?_
  refine V_cV1r (q := 10) C (c_X8_sheetOf _ j hj) cw_X8_sheetOf cv_X8_sheetOf wm_X8_75 (by decide) ob_X8 ⟨by decide, by decide⟩ (Nat.le_of_ble_eq_true rfl) rfl dX8_sheet_7 ?_
  refine V_astore_4 (q := 12) C hn4 rfl rfl dX8_sheet_10 ?_
  refine V_aload_4 (q := 14) C rfl dX8_sheet_12 ?_
  refine V_ifnonnull (tgt := 19) C (by decide) dX8_sheet_14 ?_
  refine V_iload_n_2 (q := 20) C rfl dX8_sheet_19 ?_
  refine V_cS1r (q := 23) C (c_X8_isLane _ _) cw_X8_isLane cs_X8_isLane wm_X8_79 ⟨by decide, by decide⟩ (Nat.le_of_ble_eq_true rfl) rfl dX8_sheet_20 ?_
  refine V_ifp_eq_f (tgt := 32) C h rfl (by decide) dX8_sheet_23 ?_
  refine V_iload_n_3 (q := 27) C rfl dX8_sheet_26 ?_
  refine V_bipush (q := 29) (v := 50) C (by decide) rfl dX8_sheet_27 ?_
  refine V_icmp_le_t (tgt := 35) C (Int32.le_of_lt (Int32.lt_of_lt_of_le hn (by decide))) (by decide) dX8_sheet_29 ?_
  refine V_iload_n_3 (q := 36) C rfl dX8_sheet_35 ?_
  refine V_if_ge_f (tgt := 45) C (Int32.not_le.mpr hn) rfl (by decide) dX8_sheet_36 ?_
  refine V_aload_n_0 (q := 40) C rfl dX8_sheet_39 ?_
  refine V_iconst (q := 41) (v := 4) C rfl rfl dX8_sheet_40 ?_
  refine V_cV1r (q := 44) C (Ct.mono (v' := some (.int (-14))) (τ' := setf σ 0 8 4) (c_X8_faulted _ 4) rfl setf_setf) cw_X8_faulted cv_X8_faulted wm_X8_86 (by decide) ob_X8 ⟨by decide, by decide⟩ (Nat.le_of_ble_eq_true rfl) rfl dX8_sheet_41 ?_
  refine V_iret C hR dX8_sheet_44 ?_
  exact ⟨rfl, rfl⟩

set_option maxHeartbeats 4000000 in
set_option maxRecDepth 100000 in
theorem c_X8_sheet_v {l : Launch} {D : DD} {ad : Nat → Nat} (σ : ST) (j m : Nat) (a : Int32) (hj : j < 4) (h : isT 3 a) (hn : m ≤ 50) : Ct l yX8_sheet cX8_sheet 5 (Option.some FieldType.int) 2 45 D ad [.ref (ad 0), .int (nI j), .int a, .int (nI m)] σ (ex (some (.int 1)) (renewF (setf σ 0 8 0) j a (nI m))) := by
  refine Ct.of2 [.ref (ad 0), .int (nI j), .int a, .int (nI m), .float 0] rfl (Nat.le_of_ble_eq_true rfl) rfl ?_
  rintro X C rfl rfl rfl hxn hR
  have hn4 : 4 < xn X := by rw [← hxn]; decide
  refine V_aload_n_0 (q := 1) C rfl dX8_sheet_0 ?_
  refine V_iconst (q := 2) (v := 0) C rfl rfl dX8_sheet_1 ?_
  refine pf_X8_45 (q := 5) C rfl dX8_sheet_2 ?_
  refine V_aload_n_0 (q := 6) C rfl dX8_sheet_5 ?_
  refine V_iload_n_1 (q := 7) C rfl dX8_sheet_6 ?_
  refine V_cV1r (q := 10) C (c_X8_sheetOf _ j hj) cw_X8_sheetOf cv_X8_sheetOf wm_X8_75 (by decide) ob_X8 ⟨by decide, by decide⟩ (Nat.le_of_ble_eq_true rfl) rfl dX8_sheet_7 ?_
  refine V_astore_4 (q := 12) C hn4 rfl rfl dX8_sheet_10 ?_
  refine V_aload_4 (q := 14) C rfl dX8_sheet_12 ?_
  refine V_ifnonnull (tgt := 19) C (by decide) dX8_sheet_14 ?_
  refine V_iload_n_2 (q := 20) C rfl dX8_sheet_19 ?_
  refine V_cS1r (q := 23) C (c_X8_isLane _ _) cw_X8_isLane cs_X8_isLane wm_X8_79 ⟨by decide, by decide⟩ (Nat.le_of_ble_eq_true rfl) rfl dX8_sheet_20 ?_
  refine V_ifp_eq_f (tgt := 32) C h rfl (by decide) dX8_sheet_23 ?_
  refine V_iload_n_3 (q := 27) C rfl dX8_sheet_26 ?_
  refine V_bipush (q := 29) (v := 50) C (by decide) rfl dX8_sheet_27 ?_
  refine V_icmp_le_t (tgt := 35) C (nI_le (b := 50) hn (by decide)) (by decide) dX8_sheet_29 ?_
  refine V_iload_n_3 (q := 36) C rfl dX8_sheet_35 ?_
  refine V_if_ge_t (tgt := 45) C (Int32.not_lt.mp (nI_pos (by omega))) (by decide) dX8_sheet_36 ?_
  refine V_aload_4 (q := 47) C rfl dX8_sheet_45 ?_
  refine V_iload_n_2 (q := 48) C rfl dX8_sheet_47 ?_
  refine V_iload_n_3 (q := 49) C rfl dX8_sheet_48 ?_
  refine V_cV2v (q := 52) C (c_X5_renew (setf σ 0 8 0) j a (nI m) hj) cw_X5_renew cv_X5_renew wm_X8_249 (by omega) (ob_X5 hj) ⟨by decide, by decide⟩ (Nat.le_of_ble_eq_true rfl) rfl dX8_sheet_49 ?_
  refine V_iconst (q := 53) (v := 1) C rfl rfl dX8_sheet_52 ?_
  refine V_iret C hR dX8_sheet_53 ?_
  exact ⟨rfl, rfl⟩

set_option maxHeartbeats 4000000 in
set_option maxRecDepth 100000 in
theorem c_X8_put_u {l : Launch} {D : DD} {ad : Nat → Nat} (σ : ST) (k i v : Int32) (h : ¬ isT 4 k) : Ct l yX8_put cX8_put 5 (Option.some FieldType.int) 1 22 D ad [.ref (ad 0), .int k, .int i, .int v] σ (ex (some (.int (-1))) (setf σ 0 8 0)) := by
  refine Ct.of2 [.ref (ad 0), .int k, .int i, .int v, .float 0] rfl (Nat.le_of_ble_eq_true rfl) rfl ?_
  rintro X C rfl rfl rfl hxn hR
  have hn4 : 4 < xn X := by rw [← hxn]; decide
  refine V_aload_n_0 (q := 1) C rfl dX8_put_0 ?_
  refine V_iconst (q := 2) (v := 0) C rfl rfl dX8_put_1 ?_
  refine pf_X8_45 (q := 5) C rfl dX8_put_2 ?_
  refine V_aload_n_0 (q := 6) C rfl dX8_put_5 ?_
  refine V_iload_n_1 (q := 7) C rfl dX8_put_6 ?_
  refine V_cV1r (q := 10) C (c_X8_sheetOfN _ _ h) cw_X8_sheetOf cv_X8_sheetOf wm_X8_75 (by decide) ob_X8 ⟨by decide, by decide⟩ (Nat.le_of_ble_eq_true rfl) rfl dX8_put_7 ?_
  refine V_astoreN_4 (q := 12) C hn4 rfl rfl dX8_put_10 ?_
  refine V_aloadN_4 (q := 14) C rfl dX8_put_12 ?_
  refine V_ifnonnullN (q := 17) C rfl dX8_put_14 ?_
  refine V_iconst (q := 18) (v := (-1)) C rfl rfl dX8_put_17 ?_
  refine V_iret C hR dX8_put_18 ?_
  exact ⟨rfl, rfl⟩

def puF (σ : ST) (j : Nat) (i v : Int32) : Int32 × ST := if σ (2 + 2 * j) 1 = 0 then (-11, setf σ 0 8 1) else if ¬ hcC σ j i 1 then (-13, setf σ 0 8 3) else (1, setf (setf σ 0 8 0) (2 + 2 * j + 1) i.toNatClampNeg (cutL (σ (2 + 2 * j) 2) v))

set_option maxHeartbeats 4000000 in
set_option maxRecDepth 100000 in
theorem c_X8_put_v {l : Launch} {D : DD} {ad : Nat → Nat} (σ : ST) (j : Nat) (i v : Int32) (hj : j < 4) (L : Nat) (hL : σ (2 + 2 * j) 3 = nI L) (hL50 : L ≤ 50) : Ct l yX8_put cX8_put 5 (Option.some FieldType.int) 1 22 D ad [.ref (ad 0), .int (nI j), .int i, .int v] σ (ex (some (.int (puF σ j i v).1)) (puF σ j i v).2) := by
  refine Ct.of2 [.ref (ad 0), .int (nI j), .int i, .int v, .float 0] rfl (Nat.le_of_ble_eq_true rfl) rfl ?_
  rintro X C rfl rfl rfl hxn hR
  have hn4 : 4 < xn X := by rw [← hxn]; decide
  refine V_aload_n_0 (q := 1) C rfl dX8_put_0 ?_
  refine V_iconst (q := 2) (v := 0) C rfl rfl dX8_put_1 ?_
  refine pf_X8_45 (q := 5) C rfl dX8_put_2 ?_
  refine V_aload_n_0 (q := 6) C rfl dX8_put_5 ?_
  refine V_iload_n_1 (q := 7) C rfl dX8_put_6 ?_
  refine V_cV1r (q := 10) C (c_X8_sheetOf _ j hj) cw_X8_sheetOf cv_X8_sheetOf wm_X8_75 (by decide) ob_X8 ⟨by decide, by decide⟩ (Nat.le_of_ble_eq_true rfl) rfl dX8_put_7 ?_
  refine V_astore_4 (q := 12) C hn4 rfl rfl dX8_put_10 ?_
  refine V_aload_4 (q := 14) C rfl dX8_put_12 ?_
  refine V_ifnonnull (tgt := 19) C (by decide) dX8_put_14 ?_
  refine V_aload_4 (q := 21) C rfl dX8_put_19 ?_
  refine gf_X8_90 (q := 24) C hj rfl dX8_put_21 ?_
  rw [f0_sh]
  refine V_if_ne (tgt := 33) C rfl (by decide) dX8_put_24 (fun c24 => ?_) (fun c24 => ?_)
  · refine V_aload_4 (q := 35) C rfl dX8_put_33 ?_
    refine V_iload_n_2 (q := 36) C rfl dX8_put_35 ?_
    refine V_iconst (q := 37) (v := 1) C rfl rfl dX8_put_36 ?_
    refine V_cV2r (q := 40) C (Ct.mono (v' := some (.int (pI (hcC σ j i 1)))) (c_X5_hasCells (setf σ 0 8 0) j i 1 hj) (by rw [f0_sh]) rfl) cw_X5_hasCells cv_X5_hasCells wm_X8_94 (by omega) (ob_X5 hj) ⟨by decide, by decide⟩ (Nat.le_of_ble_eq_true rfl) rfl dX8_put_37 ?_
    refine V_ifp_ne (tgt := 49) C rfl (by decide) dX8_put_40 (fun c40 => ?_) (fun c40 => ?_)
    · have hc := c40
      unfold hcC at hc
      rw [hL] at hc
      obtain ⟨t, m, et, em, htm⟩ := (hcN hL50).mp hc
      have htL : t < 50 := by have : m = 1 := ((nI_eq (b := 1) (by have := em; rcases Nat.lt_or_ge m (2 ^ 31) with h | h; exact h; exfalso; omega) (by decide)).mp em.symm); omega
      refine V_aload_4 (q := 51) C rfl dX8_put_49 ?_
      refine gf_X8_252 (q := 54) C hj rfl dX8_put_51 ?_
      refine V_iload_n_2 (q := 55) C rfl dX8_put_54 ?_
      refine V_aload_4 (q := 57) C rfl dX8_put_55 ?_
      refine V_iload_n_3 (q := 58) C rfl dX8_put_57 ?_
      refine V_cV1r (q := 61) C (Ct.mono (v' := some (.int (cutL (σ (2 + 2 * j) 2) v))) (c_X5_cutToLane (setf σ 0 8 0) j v hj) (by rw [f0_sh]) rfl) cw_X5_cutToLane cv_X5_cutToLane wm_X8_255 (by omega) (ob_X5 hj) ⟨by decide, by decide⟩ (Nat.le_of_ble_eq_true rfl) rfl dX8_put_58 ?_
      refine V_iast (q := 62) C t et (by rw [sh_al hj]; omega) (sh_ak hj) (by omega) (by rw [sh_al hj]; decide) rfl dX8_put_61 ?_
      refine V_iconst (q := 63) (v := 1) C rfl rfl dX8_put_62 ?_
      refine V_iret C hR dX8_put_63 ?_
      refine ⟨by unfold puF; rw [if_neg c24, if_neg (nn c40)], ?_⟩
      unfold puF
      rw [if_neg c24, if_neg (nn c40), et, nI_clamp (by omega)]
    · refine V_aload_n_0 (q := 44) C rfl dX8_put_43 ?_
      refine V_iconst (q := 45) (v := 3) C rfl rfl dX8_put_44 ?_
      refine V_cV1r (q := 48) C (Ct.mono (v' := some (.int (-13))) (τ' := setf σ 0 8 3) (c_X8_faulted _ 3) rfl setf_setf) cw_X8_faulted cv_X8_faulted wm_X8_86 (by decide) ob_X8 ⟨by decide, by decide⟩ (Nat.le_of_ble_eq_true rfl) rfl dX8_put_45 ?_
      refine V_iret C hR dX8_put_48 ?_
      refine ⟨by unfold puF; rw [if_neg c24, if_pos c40], ?_⟩
      unfold puF
      rw [if_neg c24, if_pos c40]
  · refine V_aload_n_0 (q := 28) C rfl dX8_put_27 ?_
    refine V_iconst (q := 29) (v := 1) C rfl rfl dX8_put_28 ?_
    refine V_cV1r (q := 32) C (Ct.mono (v' := some (.int (-11))) (τ' := setf σ 0 8 1) (c_X8_faulted _ 1) rfl setf_setf) cw_X8_faulted cv_X8_faulted wm_X8_86 (by decide) ob_X8 ⟨by decide, by decide⟩ (Nat.le_of_ble_eq_true rfl) rfl dX8_put_29 ?_
    refine V_iret C hR dX8_put_32 ?_
    have e0 : σ (2 + 2 * j) 1 = 0 := c24
    refine ⟨by unfold puF; rw [if_pos e0], ?_⟩
    unfold puF
    rw [if_pos e0]

theorem one_of {L m t : Nat} {i : Int32} (hL : L ≤ 50) (em : (1 : Int32) = nI m) (h : t + m ≤ L) : t < 50 := by
  have : m = 1 := ((nI_eq (b := 1) (by omega) (by decide)).mp em.symm)
  omega

