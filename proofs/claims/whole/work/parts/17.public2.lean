/-! the class: its public calls, sheets and searches -/
abbrev scr (k : Nat) : Prop := k = 10 ∨ k = 11 ∨ (30 ≤ k ∧ k ≤ 36) ∨ k = 38
def Kp (σ τ : ST) : Prop := ∀ k, ¬ scr k → τ k = σ k
theorem hcN {a n : Int32} {L : Nat} (hL : L ≤ 50) : (¬ a < 0 ∧ ¬ nI L < a ∧ ¬ n < 0 ∧ ¬ nI L - a < n) ↔ ∃ s m : Nat, a = nI s ∧ n = nI m ∧ s + m ≤ L := by
  constructor
  · rintro ⟨h1, h2, h3, h4⟩
    obtain ⟨s, hs, rfl⟩ := nI_of h1
    obtain ⟨m, hm, rfl⟩ := nI_of h3
    have hsL : s ≤ L := by
      rcases Nat.lt_or_ge L s with h | h
      · exact absurd (nI_lt h (by omega)) h2
      · exact h
    rw [pk_sub hsL] at h4
    have : m ≤ L - s := by
      rcases Nat.lt_or_ge (L - s) m with h | h
      · exact absurd (nI_lt h (by omega)) h4
      · exact h
    exact ⟨s, m, rfl, rfl, by omega⟩
  · rintro ⟨s, m, rfl, rfl, h⟩
    refine ⟨nI_pos (by omega), nI_nlt (by omega) (by omega), nI_pos (by omega), ?_⟩
    rw [pk_sub (by omega)]
    exact nI_nlt (by omega) (by omega)
abbrev hcC (σ : ST) (j : Nat) (a n : Int32) : Prop := ¬ a < 0 ∧ ¬ σ (2 + 2 * j) 3 < a ∧ ¬ n < 0 ∧ ¬ σ (2 + 2 * j) 3 - a < n
theorem sh_ne0 {j : Nat} : ¬ 2 + 2 * j = 0 := by omega
theorem f0_sh {σ : ST} {j : Nat} {x : Int32} : (setf σ 0 8 x) (2 + 2 * j) = σ (2 + 2 * j) := setc_n (by omega)
theorem f0_sc {σ : ST} {j : Nat} {x : Int32} : (setf σ 0 8 x) (2 + 2 * j + 1) = σ (2 + 2 * j + 1) := setc_n (by omega)

set_option maxHeartbeats 4000000 in
set_option maxRecDepth 100000 in
theorem c_X8_sheet_u {l : Launch} {D : DD} {ad : Nat → Nat} (σ : ST) (k a n : Int32) (h : ¬ isT 4 k) : Ct l yX8_sheet cX8_sheet 5 (Option.some FieldType.int) 2 45 D ad [.ref (ad 0), .int k, .int a, .int n] σ (ex (some (.int (-1))) (setf σ 0 8 0)) := by
  refine Ct.of2 [.ref (ad 0), .int k, .int a, .int n, .float 0] rfl (Nat.le_of_ble_eq_true rfl) rfl ?_
  rintro X C rfl rfl rfl hxn hR
  have hn4 : 4 < xn X := by rw [← hxn]; decide
  refine V_aload_n_0 (q := 1) C rfl dX8_sheet_0 ?_
  refine V_iconst (q := 2) (v := 0) C rfl rfl dX8_sheet_1 ?_
  refine pf_X8_45 (q := 5) C rfl dX8_sheet_2 ?_
  refine V_aload_n_0 (q := 6) C rfl dX8_sheet_5 ?_
  refine V_iload_n_1 (q := 7) C rfl dX8_sheet_6 ?_
  refine V_cV1r (q := 10) C (c_X8_sheetOfN _ _ h) cw_X8_sheetOf cv_X8_sheetOf wm_X8_75 (by decide) ob_X8 ⟨by decide, by decide⟩ (Nat.le_of_ble_eq_true rfl) rfl dX8_sheet_7 ?_
  refine V_astoreN_4 (q := 12) C hn4 rfl rfl dX8_sheet_10 ?_
  refine V_aloadN_4 (q := 14) C rfl dX8_sheet_12 ?_
  refine V_ifnonnullN (q := 17) C rfl dX8_sheet_14 ?_
  refine V_iconst (q := 18) (v := (-1)) C rfl rfl dX8_sheet_17 ?_
  refine V_iret C hR dX8_sheet_18 ?_
  exact ⟨rfl, rfl⟩

set_option maxHeartbeats 4000000 in
set_option maxRecDepth 100000 in
theorem c_X8_sheet_o {l : Launch} {D : DD} {ad : Nat → Nat} (σ : ST) (j : Nat) (a n : Int32) (hj : j < 4) (h : ¬ (isT 3 a ∧ ¬ 50 < n)) : Ct l yX8_sheet cX8_sheet 5 (Option.some FieldType.int) 2 45 D ad [.ref (ad 0), .int (nI j), .int a, .int n] σ (ex (some (.int (-2))) (setf σ 0 8 0)) := by
  refine Ct.of2 [.ref (ad 0), .int (nI j), .int a, .int n, .float 0] rfl (Nat.le_of_ble_eq_true rfl) rfl ?_
  rintro X C rfl rfl rfl hxn hR
  have hn4 : 4 < xn X := by rw [← hxn]; decide
  refine V_aload_n_0 (q := 1) C rfl dX8_sheet_0 ?_
  refine V_iconst (q := 2) (v := 0) C rfl rfl dX8_sheet_1 ?_
  refine pf_X8_45 (q := 5) C rfl dX8_sheet_2 ?_
  refine V_aload_n_0 (q := 6) C rfl dX8_sheet_5 ?_
  refine V_iload_n_1 (q := 7) C rfl dX8_sheet_6 ?_
  refine V_cV1r (q := 10) C (c_X8_sheetOf _ j hj) cw_X8_sheetOf cv_X8_sheetOf wm_X8_75 (by decide) ob_X8 ⟨by decide, by decide⟩ (Nat.le_of_ble_eq_true rfl) rfl dX8_sheet_7 ?_
  refine V_astore_4 (q := 12) C hn4 rfl rfl dX8_sheet_10 ?_
  refine V_aload_4 (q := 14) C rfl dX8_sheet_12 ?_
  refine V_ifnonnull (tgt := 19) C (by decide) dX8_sheet_14 ?_
  refine V_iload_n_2 (q := 20) C rfl dX8_sheet_19 ?_
  refine V_cS1r (q := 23) C (c_X8_isLane _ _) cw_X8_isLane cs_X8_isLane wm_X8_79 ⟨by decide, by decide⟩ (Nat.le_of_ble_eq_true rfl) rfl dX8_sheet_20 ?_
  refine V_ifp_eq (tgt := 32) C rfl (by decide) dX8_sheet_23 (fun c23 => ?_) (fun c23 => ?_)
  · refine V_bipush (q := 34) (v := (-2)) C (by decide) rfl dX8_sheet_32 ?_
    refine V_iret C hR dX8_sheet_34 ?_
    exact ⟨rfl, rfl⟩
  · refine V_iload_n_3 (q := 27) C rfl dX8_sheet_26 ?_
    refine V_bipush (q := 29) (v := 50) C (by decide) rfl dX8_sheet_27 ?_
    refine V_icmp_le (tgt := 35) C rfl (by decide) dX8_sheet_29 (fun c29 => ?_) (fun c29 => ?_)
    · exact absurd ⟨c23, Int32.not_lt.mpr c29⟩ h
    · refine V_bipush (q := 34) (v := (-2)) C (by decide) rfl dX8_sheet_32 ?_
      refine V_iret C hR dX8_sheet_34 ?_
      exact ⟨rfl, rfl⟩

set_option maxHeartbeats 4000000 in
set_option maxRecDepth 100000 in
theorem c_X8_sheet_z {l : Launch} {D : DD} {ad : Nat → Nat} (σ : ST) (j : Nat) (a n : Int32) (hj : j < 4) (h : isT 3 a) (hn : n < 0) : Ct l yX8_sheet cX8_sheet 5 (Option.some FieldType.int) 2 45 D ad [.ref (ad 0), .int (nI j), .int a, .int n] σ (ex (some (.int (-14))) (setf σ 0 8 4)) := by
  refine Ct.of2 [.ref (ad 0), .int (nI j), .int a, .int n, .float 0] rfl (Nat.le_of_ble_eq_true rfl) rfl ?_
  rintro X C rfl rfl rfl hxn hR
  have hn4 : 4 < xn X := by rw [← hxn]; decide
  refine V_aload_n_0 (q := 1) C rfl dX8_sheet_0 ?_
  refine V_iconst (q := 2) (v := 0) C rfl rfl dX8_sheet_1 ?_
  refine pf_X8_45 (q := 5) C rfl dX8_sheet_2 ?_
  refine V_aload_n_0 (q := 6) C rfl dX8_sheet_5 ?_
  refine V_iload_n_1 (q := 7) C rfl dX8_sheet_6 ?_
  refine V_cV1r (q := 10) C (c_X8_sheetOf _ j hj) cw_X8_sheetOf cv_X8_sheetOf wm_X8_75 (by decide) ob_X8 ⟨by decide, by decide⟩ (Nat.le_of_ble_eq_true rfl) rfl dX8_sheet_7 ?_
  refine V_astore_4 (q := 12) C hn4 rfl rfl dX8_sheet_10 ?_
  refine V_aload_4 (q := 14) C rfl dX8_sheet_12 ?_
  refine V_ifnonnull (tgt := 19) C (by decide) dX8_sheet_14 ?_
  refine V_iload_n_2 (q := 20) C rfl dX8_sheet_19 ?_
  refine V_cS1r (q := 23) C (c_X8_isLane _ _) cw_X8_isLane cs_X8_isLane wm_X8_79 ⟨by decide, by decide⟩ (Nat.le_of_ble_eq_true rfl) rfl dX8_sheet_20 ?_
  refine V_ifp_eq_f (tgt := 32) C h rfl (by decide) dX8_sheet_23 ?_
  refine V_iload_n_3 (q := 27) C rfl dX8_sheet_26 ?_
  refine V_bipush (q := 29) (v := 50) C (by decide) rfl dX8_sheet_27 ?_
  refine V_icmp_le_t (tgt := 35) C (Int32.le_of_lt (Int32.lt_of_lt_of_le hn (by decide))) (by decide) dX8_sheet_29 ?_
  refine V_iload_n_3 (q := 36) C rfl dX8_sheet_35 ?_
  refine V_if_ge_f (tgt := 45) C (Int32.not_le.mpr hn) rfl (by decide) dX8_sheet_36 ?_
  refine V_aload_n_0 (q := 40) C rfl dX8_sheet_39 ?_
  refine V_iconst (q := 41) (v := 4) C rfl rfl dX8_sheet_40 ?_
  refine V_cV1r (q := 44) C (Ct.mono (v' := some (.int (-14))) (τ' := setf σ 0 8 4) (c_X8_faulted _ 4) rfl setf_setf) cw_X8_faulted cv_X8_faulted wm_X8_86 (by decide) ob_X8 ⟨by decide, by decide⟩ (Nat.le_of_ble_eq_true rfl) rfl dX8_sheet_41 ?_
  refine V_iret C hR dX8_sheet_44 ?_
  exact ⟨rfl, rfl⟩

set_option maxHeartbeats 4000000 in
set_option maxRecDepth 100000 in
theorem c_X8_sheet_v {l : Launch} {D : DD} {ad : Nat → Nat} (σ : ST) (j m : Nat) (a : Int32) (hj : j < 4) (h : isT 3 a) (hn : m ≤ 50) : Ct l yX8_sheet cX8_sheet 5 (Option.some FieldType.int) 2 45 D ad [.ref (ad 0), .int (nI j), .int a, .int (nI m)] σ (ex (some (.int 1)) (renewF (setf σ 0 8 0) j a (nI m))) := by
  refine Ct.of2 [.ref (ad 0), .int (nI j), .int a, .int (nI m), .float 0] rfl (Nat.le_of_ble_eq_true rfl) rfl ?_
  rintro X C rfl rfl rfl hxn hR
  have hn4 : 4 < xn X := by rw [← hxn]; decide
  refine V_aload_n_0 (q := 1) C rfl dX8_sheet_0 ?_
  refine V_iconst (q := 2) (v := 0) C rfl rfl dX8_sheet_1 ?_
  refine pf_X8_45 (q := 5) C rfl dX8_sheet_2 ?_
  refine V_aload_n_0 (q := 6) C rfl dX8_sheet_5 ?_
  refine V_iload_n_1 (q := 7) C rfl dX8_sheet_6 ?_
  refine V_cV1r (q := 10) C (c_X8_sheetOf _ j hj) cw_X8_sheetOf cv_X8_sheetOf wm_X8_75 (by decide) ob_X8 ⟨by decide, by decide⟩ (Nat.le_of_ble_eq_true rfl) rfl dX8_sheet_7 ?_
  refine V_astore_4 (q := 12) C hn4 rfl rfl dX8_sheet_10 ?_
  refine V_aload_4 (q := 14) C rfl dX8_sheet_12 ?_
  refine V_ifnonnull (tgt := 19) C (by decide) dX8_sheet_14 ?_
  refine V_iload_n_2 (q := 20) C rfl dX8_sheet_19 ?_
  refine V_cS1r (q := 23) C (c_X8_isLane _ _) cw_X8_isLane cs_X8_isLane wm_X8_79 ⟨by decide, by decide⟩ (Nat.le_of_ble_eq_true rfl) rfl dX8_sheet_20 ?_
  refine V_ifp_eq_f (tgt := 32) C h rfl (by decide) dX8_sheet_23 ?_
  refine V_iload_n_3 (q := 27) C rfl dX8_sheet_26 ?_
  refine V_bipush (q := 29) (v := 50) C (by decide) rfl dX8_sheet_27 ?_
  refine V_icmp_le_t (tgt := 35) C (nI_le (b := 50) hn (by decide)) (by decide) dX8_sheet_29 ?_
  refine V_iload_n_3 (q := 36) C rfl dX8_sheet_35 ?_
  refine V_if_ge_t (tgt := 45) C (Int32.not_lt.mp (nI_pos (by omega))) (by decide) dX8_sheet_36 ?_
  refine V_aload_4 (q := 47) C rfl dX8_sheet_45 ?_
  refine V_iload_n_2 (q := 48) C rfl dX8_sheet_47 ?_
  refine V_iload_n_3 (q := 49) C rfl dX8_sheet_48 ?_
  refine V_cV2v (q := 52) C (c_X5_renew (setf σ 0 8 0) j a (nI m) hj) cw_X5_renew cv_X5_renew wm_X8_249 (by omega) (ob_X5 hj) ⟨by decide, by decide⟩ (Nat.le_of_ble_eq_true rfl) rfl dX8_sheet_49 ?_
  refine V_iconst (q := 53) (v := 1) C rfl rfl dX8_sheet_52 ?_
  refine V_iret C hR dX8_sheet_53 ?_
  exact ⟨rfl, rfl⟩

set_option maxHeartbeats 4000000 in
set_option maxRecDepth 100000 in
theorem c_X8_lose_u {l : Launch} {D : DD} {ad : Nat → Nat} (σ : ST) (k : Int32) (h : ¬ isT 4 k) : Ct l yX8_lose cX8_lose 3 (Option.some FieldType.int) 1 21 D ad [.ref (ad 0), .int k] σ (ex (some (.int (-1))) σ) := by
  refine Ct.of2 [.ref (ad 0), .int k, .float 0] rfl (Nat.le_of_ble_eq_true rfl) rfl ?_
  rintro X C rfl rfl rfl hxn hR
  have hn2 : 2 < xn X := by rw [← hxn]; decide
  refine V_aload_n_0 (q := 1) C rfl dX8_lose_0 ?_
  refine V_iload_n_1 (q := 2) C rfl dX8_lose_1 ?_
  refine V_cV1r (q := 5) C (c_X8_sheetOfN _ _ h) cw_X8_sheetOf cv_X8_sheetOf wm_X8_75 (by decide) ob_X8 ⟨by decide, by decide⟩ (Nat.le_of_ble_eq_true rfl) rfl dX8_lose_2 ?_
  refine V_astore_nN_2 (q := 6) C hn2 rfl rfl dX8_lose_5 ?_
  refine V_aload_nN_2 (q := 7) C rfl dX8_lose_6 ?_
  refine V_ifnonnullN (q := 10) C rfl dX8_lose_7 ?_
  refine V_iconst (q := 11) (v := (-1)) C rfl rfl dX8_lose_10 ?_
  refine V_iret C hR dX8_lose_11 ?_
  exact ⟨rfl, rfl⟩

def loF (σ : ST) (j : Nat) : Int32 × ST := if σ (2 + 2 * j) 1 = 0 then (0, σ) else (1, setf σ (2 + 2 * j) 1 0)

set_option maxHeartbeats 4000000 in
set_option maxRecDepth 100000 in
theorem c_X8_lose_v {l : Launch} {D : DD} {ad : Nat → Nat} (σ : ST) (j : Nat) (hj : j < 4) : Ct l yX8_lose cX8_lose 3 (Option.some FieldType.int) 1 21 D ad [.ref (ad 0), .int (nI j)] σ (ex (some (.int (loF σ j).1)) (loF σ j).2) := by
  refine Ct.of2 [.ref (ad 0), .int (nI j), .float 0] rfl (Nat.le_of_ble_eq_true rfl) rfl ?_
  rintro X C rfl rfl rfl hxn hR
  have hn2 : 2 < xn X := by rw [← hxn]; decide
  refine V_aload_n_0 (q := 1) C rfl dX8_lose_0 ?_
  refine V_iload_n_1 (q := 2) C rfl dX8_lose_1 ?_
  refine V_cV1r (q := 5) C (c_X8_sheetOf _ j hj) cw_X8_sheetOf cv_X8_sheetOf wm_X8_75 (by decide) ob_X8 ⟨by decide, by decide⟩ (Nat.le_of_ble_eq_true rfl) rfl dX8_lose_2 ?_
  refine V_astore_n_2 (q := 6) C hn2 rfl rfl dX8_lose_5 ?_
  refine V_aload_n_2 (q := 7) C rfl dX8_lose_6 ?_
  refine V_ifnonnull (tgt := 12) C (by decide) dX8_lose_7 ?_
  refine V_aload_n_2 (q := 13) C rfl dX8_lose_12 ?_
  refine gf_X8_90 (q := 16) C hj rfl dX8_lose_13 ?_
  refine V_if_ne (tgt := 21) C rfl (by decide) dX8_lose_16 (fun c16 => ?_) (fun c16 => ?_)
  · refine V_aload_n_2 (q := 22) C rfl dX8_lose_21 ?_
    refine V_iconst (q := 23) (v := 0) C rfl rfl dX8_lose_22 ?_
    refine pf_X8_90 (q := 26) C hj rfl rfl rfl dX8_lose_23 ?_
    refine V_iconst (q := 27) (v := 1) C rfl rfl dX8_lose_26 ?_
    refine V_iret C hR dX8_lose_27 ?_
    first
    | (refine ⟨by unfold loF; rw [if_pos c16], ?_⟩; unfold loF; rw [if_pos c16]; done)
    | (refine ⟨by unfold loF; rw [if_neg c16], ?_⟩; unfold loF; rw [if_neg c16]; done)
  · refine V_iconst (q := 20) (v := 0) C rfl rfl dX8_lose_19 ?_
    refine V_iret C hR dX8_lose_20 ?_
    first
    | (refine ⟨by unfold loF; rw [if_pos c16], ?_⟩; unfold loF; rw [if_pos c16]; done)
    | (refine ⟨by unfold loF; rw [if_neg c16], ?_⟩; unfold loF; rw [if_neg c16]; done)

set_option maxHeartbeats 4000000 in
set_option maxRecDepth 100000 in
theorem c_X8_put_u {l : Launch} {D : DD} {ad : Nat → Nat} (σ : ST) (k i v : Int32) (h : ¬ isT 4 k) : Ct l yX8_put cX8_put 5 (Option.some FieldType.int) 1 22 D ad [.ref (ad 0), .int k, .int i, .int v] σ (ex (some (.int (-1))) (setf σ 0 8 0)) := by
  refine Ct.of2 [.ref (ad 0), .int k, .int i, .int v, .float 0] rfl (Nat.le_of_ble_eq_true rfl) rfl ?_
  rintro X C rfl rfl rfl hxn hR
  have hn4 : 4 < xn X := by rw [← hxn]; decide
  refine V_aload_n_0 (q := 1) C rfl dX8_put_0 ?_
  refine V_iconst (q := 2) (v := 0) C rfl rfl dX8_put_1 ?_
  refine pf_X8_45 (q := 5) C rfl dX8_put_2 ?_
  refine V_aload_n_0 (q := 6) C rfl dX8_put_5 ?_
  refine V_iload_n_1 (q := 7) C rfl dX8_put_6 ?_
  refine V_cV1r (q := 10) C (c_X8_sheetOfN _ _ h) cw_X8_sheetOf cv_X8_sheetOf wm_X8_75 (by decide) ob_X8 ⟨by decide, by decide⟩ (Nat.le_of_ble_eq_true rfl) rfl dX8_put_7 ?_
  refine V_astoreN_4 (q := 12) C hn4 rfl rfl dX8_put_10 ?_
  refine V_aloadN_4 (q := 14) C rfl dX8_put_12 ?_
  refine V_ifnonnullN (q := 17) C rfl dX8_put_14 ?_
  refine V_iconst (q := 18) (v := (-1)) C rfl rfl dX8_put_17 ?_
  refine V_iret C hR dX8_put_18 ?_
  exact ⟨rfl, rfl⟩

def puF (σ : ST) (j : Nat) (i v : Int32) : Int32 × ST := if σ (2 + 2 * j) 1 = 0 then (-11, setf σ 0 8 1) else if ¬ hcC σ j i 1 then (-13, setf σ 0 8 3) else (1, setf (setf σ 0 8 0) (2 + 2 * j + 1) i.toNatClampNeg (cutL (σ (2 + 2 * j) 2) v))

set_option maxHeartbeats 4000000 in
set_option maxRecDepth 100000 in
theorem c_X8_put_v {l : Launch} {D : DD} {ad : Nat → Nat} (σ : ST) (j : Nat) (i v : Int32) (hj : j < 4) (L : Nat) (hL : σ (2 + 2 * j) 3 = nI L) (hL50 : L ≤ 50) : Ct l yX8_put cX8_put 5 (Option.some FieldType.int) 1 22 D ad [.ref (ad 0), .int (nI j), .int i, .int v] σ (ex (some (.int (puF σ j i v).1)) (puF σ j i v).2) := by
  refine Ct.of2 [.ref (ad 0), .int (nI j), .int i, .int v, .float 0] rfl (Nat.le_of_ble_eq_true rfl) rfl ?_
  rintro X C rfl rfl rfl hxn hR
  have hn4 : 4 < xn X := by rw [← hxn]; decide
  refine V_aload_n_0 (q := 1) C rfl dX8_put_0 ?_
  refine V_iconst (q := 2) (v := 0) C rfl rfl dX8_put_1 ?_
  refine pf_X8_45 (q := 5) C rfl dX8_put_2 ?_
  refine V_aload_n_0 (q := 6) C rfl dX8_put_5 ?_
  refine V_iload_n_1 (q := 7) C rfl dX8_put_6 ?_
  refine V_cV1r (q := 10) C (c_X8_sheetOf _ j hj) cw_X8_sheetOf cv_X8_sheetOf wm_X8_75 (by decide) ob_X8 ⟨by decide, by decide⟩ (Nat.le_of_ble_eq_true rfl) rfl dX8_put_7 ?_
  refine V_astore_4 (q := 12) C hn4 rfl rfl dX8_put_10 ?_
  refine V_aload_4 (q := 14) C rfl dX8_put_12 ?_
  refine V_ifnonnull (tgt := 19) C (by decide) dX8_put_14 ?_
  refine V_aload_4 (q := 21) C rfl dX8_put_19 ?_
  refine gf_X8_90 (q := 24) C hj rfl dX8_put_21 ?_
  rw [f0_sh]
  refine V_if_ne (tgt := 33) C rfl (by decide) dX8_put_24 (fun c24 => ?_) (fun c24 => ?_)
  · refine V_aload_4 (q := 35) C rfl dX8_put_33 ?_
    refine V_iload_n_2 (q := 36) C rfl dX8_put_35 ?_
    refine V_iconst (q := 37) (v := 1) C rfl rfl dX8_put_36 ?_
    refine V_cV2r (q := 40) C (Ct.mono (v' := some (.int (pI (hcC σ j i 1)))) (c_X5_hasCells (setf σ 0 8 0) j i 1 hj) (by rw [f0_sh]) rfl) cw_X5_hasCells cv_X5_hasCells wm_X8_94 (by omega) (ob_X5 hj) ⟨by decide, by decide⟩ (Nat.le_of_ble_eq_true rfl) rfl dX8_put_37 ?_
    refine V_ifp_ne (tgt := 49) C rfl (by decide) dX8_put_40 (fun c40 => ?_) (fun c40 => ?_)
    · have hc := c40
      unfold hcC at hc
      rw [hL] at hc
      obtain ⟨t, m, et, em, htm⟩ := (hcN hL50).mp hc
      have htL : t < 50 := by have : m = 1 := ((nI_eq (b := 1) (by have := em; rcases Nat.lt_or_ge m (2 ^ 31) with h | h; exact h; exfalso; omega) (by decide)).mp em.symm); omega
      refine V_aload_4 (q := 51) C rfl dX8_put_49 ?_
      refine gf_X8_252 (q := 54) C hj rfl dX8_put_51 ?_
      refine V_iload_n_2 (q := 55) C rfl dX8_put_54 ?_
      refine V_aload_4 (q := 57) C rfl dX8_put_55 ?_
      refine V_iload_n_3 (q := 58) C rfl dX8_put_57 ?_
      refine V_cV1r (q := 61) C (Ct.mono (v' := some (.int (cutL (σ (2 + 2 * j) 2) v))) (c_X5_cutToLane (setf σ 0 8 0) j v hj) (by rw [f0_sh]) rfl) cw_X5_cutToLane cv_X5_cutToLane wm_X8_255 (by omega) (ob_X5 hj) ⟨by decide, by decide⟩ (Nat.le_of_ble_eq_true rfl) rfl dX8_put_58 ?_
      refine V_iast (q := 62) C t et (by rw [sh_al hj]; omega) (sh_ak hj) (by omega) (by rw [sh_al hj]; decide) rfl dX8_put_61 ?_
      refine V_iconst (q := 63) (v := 1) C rfl rfl dX8_put_62 ?_
      refine V_iret C hR dX8_put_63 ?_
      refine ⟨by unfold puF; rw [if_neg c24, if_neg (nn c40)], ?_⟩
      unfold puF
      rw [if_neg c24, if_neg (nn c40), et, nI_clamp (by omega)]
    · refine V_aload_n_0 (q := 44) C rfl dX8_put_43 ?_
      refine V_iconst (q := 45) (v := 3) C rfl rfl dX8_put_44 ?_
      refine V_cV1r (q := 48) C (Ct.mono (v' := some (.int (-13))) (τ' := setf σ 0 8 3) (c_X8_faulted _ 3) rfl setf_setf) cw_X8_faulted cv_X8_faulted wm_X8_86 (by decide) ob_X8 ⟨by decide, by decide⟩ (Nat.le_of_ble_eq_true rfl) rfl dX8_put_45 ?_
      refine V_iret C hR dX8_put_48 ?_
      refine ⟨by unfold puF; rw [if_neg c24, if_pos c40], ?_⟩
      unfold puF
      rw [if_neg c24, if_pos c40]
  · refine V_aload_n_0 (q := 28) C rfl dX8_put_27 ?_
    refine V_iconst (q := 29) (v := 1) C rfl rfl dX8_put_28 ?_
    refine V_cV1r (q := 32) C (Ct.mono (v' := some (.int (-11))) (τ' := setf σ 0 8 1) (c_X8_faulted _ 1) rfl setf_setf) cw_X8_faulted cv_X8_faulted wm_X8_86 (by decide) ob_X8 ⟨by decide, by decide⟩ (Nat.le_of_ble_eq_true rfl) rfl dX8_put_29 ?_
    refine V_iret C hR dX8_put_32 ?_
    have e0 : σ (2 + 2 * j) 1 = 0 := c24
    refine ⟨by unfold puF; rw [if_pos e0], ?_⟩
    unfold puF
    rw [if_pos e0]

set_option maxHeartbeats 4000000 in
set_option maxRecDepth 100000 in
theorem c_X8_cell_u {l : Launch} {D : DD} {ad : Nat → Nat} (σ : ST) (k i a : Int32) (h : ¬ isT 4 k) : Ct l yX8_cell cX8_cell 5 (Option.some FieldType.long) 1 22 D ad [.ref (ad 0), .int k, .int i, .int a] σ (ex (some (.long lostL)) (setf σ 0 8 0)) := by
  refine Ct.of2 [.ref (ad 0), .int k, .int i, .int a, .float 0] rfl (Nat.le_of_ble_eq_true rfl) rfl ?_
  rintro X C rfl rfl rfl hxn hR
  have hn4 : 4 < xn X := by rw [← hxn]; decide
  refine V_aload_n_0 (q := 1) C rfl dX8_cell_0 ?_
  refine V_iconst (q := 2) (v := 0) C rfl rfl dX8_cell_1 ?_
  refine pf_X8_45 (q := 5) C rfl dX8_cell_2 ?_
  refine V_aload_n_0 (q := 6) C rfl dX8_cell_5 ?_
  refine V_iload_n_1 (q := 7) C rfl dX8_cell_6 ?_
  refine V_cV1r (q := 10) C (c_X8_sheetOfN _ _ h) cw_X8_sheetOf cv_X8_sheetOf wm_X8_75 (by decide) ob_X8 ⟨by decide, by decide⟩ (Nat.le_of_ble_eq_true rfl) rfl dX8_cell_7 ?_
  refine V_astoreN_4 (q := 12) C hn4 rfl rfl dX8_cell_10 ?_
  refine V_aloadN_4 (q := 14) C rfl dX8_cell_12 ?_
  refine V_ifnullN (tgt := 24) C (by decide) dX8_cell_14 ?_
  refine V_ldc2 (q := 27) C wc_X8_230 rfl dX8_cell_24 ?_
  refine V_lret C hR dX8_cell_27 ?_
  exact ⟨rfl, rfl⟩

set_option maxHeartbeats 4000000 in
set_option maxRecDepth 100000 in
theorem c_X8_cell_o {l : Launch} {D : DD} {ad : Nat → Nat} (σ : ST) (j : Nat) (i a : Int32) (hj : j < 4) (h : ¬ isT 3 a) : Ct l yX8_cell cX8_cell 5 (Option.some FieldType.long) 1 22 D ad [.ref (ad 0), .int (nI j), .int i, .int a] σ (ex (some (.long lostL)) (setf σ 0 8 0)) := by
  refine Ct.of2 [.ref (ad 0), .int (nI j), .int i, .int a, .float 0] rfl (Nat.le_of_ble_eq_true rfl) rfl ?_
  rintro X C rfl rfl rfl hxn hR
  have hn4 : 4 < xn X := by rw [← hxn]; decide
  refine V_aload_n_0 (q := 1) C rfl dX8_cell_0 ?_
  refine V_iconst (q := 2) (v := 0) C rfl rfl dX8_cell_1 ?_
  refine pf_X8_45 (q := 5) C rfl dX8_cell_2 ?_
  refine V_aload_n_0 (q := 6) C rfl dX8_cell_5 ?_
  refine V_iload_n_1 (q := 7) C rfl dX8_cell_6 ?_
  refine V_cV1r (q := 10) C (c_X8_sheetOf _ j hj) cw_X8_sheetOf cv_X8_sheetOf wm_X8_75 (by decide) ob_X8 ⟨by decide, by decide⟩ (Nat.le_of_ble_eq_true rfl) rfl dX8_cell_7 ?_
  refine V_astore_4 (q := 12) C hn4 rfl rfl dX8_cell_10 ?_
  refine V_aload_4 (q := 14) C rfl dX8_cell_12 ?_
  refine V_ifnull (q := 17) C rfl dX8_cell_14 ?_
  refine V_iload_n_3 (q := 18) C rfl dX8_cell_17 ?_
  refine V_cS1r (q := 21) C (c_X8_isLane _ _) cw_X8_isLane cs_X8_isLane wm_X8_79 ⟨by decide, by decide⟩ (Nat.le_of_ble_eq_true rfl) rfl dX8_cell_18 ?_
  refine V_ifp_ne_f (tgt := 28) C h rfl (by decide) dX8_cell_21 ?_
  refine V_ldc2 (q := 27) C wc_X8_230 rfl dX8_cell_24 ?_
  refine V_lret C hR dX8_cell_27 ?_
  exact ⟨rfl, rfl⟩

def ceF (σ : ST) (j : Nat) (i a : Int32) : Int64 × ST := if ¬ σ (2 + 2 * j) 1 = 0 ∧ ¬ σ (2 + 2 * j) 2 = a then (lostL, setf σ 0 8 2) else if σ (2 + 2 * j) 1 = 0 then (lostL, setf σ 0 8 1) else if ¬ hcC σ j i 1 then (lostL, setf σ 0 8 3) else ((σ (2 + 2 * j + 1) i.toNatClampNeg).toInt64, setf σ 0 8 0)
theorem one_of {L m t : Nat} {i : Int32} (hL : L ≤ 50) (em : (1 : Int32) = nI m) (h : t + m ≤ L) : t < 50 := by
  have : m = 1 := ((nI_eq (b := 1) (by omega) (by decide)).mp em.symm)
  omega

set_option maxHeartbeats 4000000 in
set_option maxRecDepth 100000 in
theorem c_X8_cell_v {l : Launch} {D : DD} {ad : Nat → Nat} (σ : ST) (j : Nat) (i a : Int32) (hj : j < 4) (L : Nat) (hL : σ (2 + 2 * j) 3 = nI L) (hL50 : L ≤ 50) (h : isT 3 a) : Ct l yX8_cell cX8_cell 5 (Option.some FieldType.long) 1 22 D ad [.ref (ad 0), .int (nI j), .int i, .int a] σ (ex (some (.long (ceF σ j i a).1)) (ceF σ j i a).2) := by
  refine Ct.of2 [.ref (ad 0), .int (nI j), .int i, .int a, .float 0] rfl (Nat.le_of_ble_eq_true rfl) rfl ?_
  rintro X C rfl rfl rfl hxn hR
  have hn4 : 4 < xn X := by rw [← hxn]; decide
  refine V_aload_n_0 (q := 1) C rfl dX8_cell_0 ?_
  refine V_iconst (q := 2) (v := 0) C rfl rfl dX8_cell_1 ?_
  refine pf_X8_45 (q := 5) C rfl dX8_cell_2 ?_
  refine V_aload_n_0 (q := 6) C rfl dX8_cell_5 ?_
  refine V_iload_n_1 (q := 7) C rfl dX8_cell_6 ?_
  refine V_cV1r (q := 10) C (c_X8_sheetOf _ j hj) cw_X8_sheetOf cv_X8_sheetOf wm_X8_75 (by decide) ob_X8 ⟨by decide, by decide⟩ (Nat.le_of_ble_eq_true rfl) rfl dX8_cell_7 ?_
  refine V_astore_4 (q := 12) C hn4 rfl rfl dX8_cell_10 ?_
  refine V_aload_4 (q := 14) C rfl dX8_cell_12 ?_
  refine V_ifnull (q := 17) C rfl dX8_cell_14 ?_
  refine V_iload_n_3 (q := 18) C rfl dX8_cell_17 ?_
  refine V_cS1r (q := 21) C (c_X8_isLane _ _) cw_X8_isLane cs_X8_isLane wm_X8_79 ⟨by decide, by decide⟩ (Nat.le_of_ble_eq_true rfl) rfl dX8_cell_18 ?_
  refine V_ifp_ne_t (tgt := 28) C h (by decide) dX8_cell_21 ?_
  refine V_aload_4 (q := 30) C rfl dX8_cell_28 ?_
  refine V_iload_n_3 (q := 31) C rfl dX8_cell_30 ?_
  refine V_cV1r (q := 34) C (Ct.mono (v' := some (.int (pI (¬ σ (2 + 2 * j) 1 = 0 ∧ ¬ σ (2 + 2 * j) 2 = a)))) (c_X5_isOfOtherLane (setf σ 0 8 0) j a hj) (by rw [f0_sh]) rfl) cw_X5_isOfOtherLane cv_X5_isOfOtherLane wm_X8_83 (by omega) (ob_X5 hj) ⟨by decide, by decide⟩ (Nat.le_of_ble_eq_true rfl) rfl dX8_cell_31 ?_
  refine V_ifp_eq (tgt := 43) C rfl (by decide) dX8_cell_34 (fun c34 => ?_) (fun c34 => ?_)
  · refine V_aload_4 (q := 45) C rfl dX8_cell_43 ?_
    refine gf_X8_90 (q := 48) C hj rfl dX8_cell_45 ?_
    rw [f0_sh]
    refine V_if_ne (tgt := 57) C rfl (by decide) dX8_cell_48 (fun c48 => ?_) (fun c48 => ?_)
    · refine V_aload_4 (q := 59) C rfl dX8_cell_57 ?_
      refine V_iload_n_2 (q := 60) C rfl dX8_cell_59 ?_
      refine V_iconst (q := 61) (v := 1) C rfl rfl dX8_cell_60 ?_
      refine V_cV2r (q := 64) C (Ct.mono (v' := some (.int (pI (hcC σ j i 1)))) (c_X5_hasCells (setf σ 0 8 0) j i 1 hj) (by rw [f0_sh]) rfl) cw_X5_hasCells cv_X5_hasCells wm_X8_94 (by omega) (ob_X5 hj) ⟨by decide, by decide⟩ (Nat.le_of_ble_eq_true rfl) rfl dX8_cell_61 ?_
      refine V_ifp_ne (tgt := 73) C rfl (by decide) dX8_cell_64 (fun c64 => ?_) (fun c64 => ?_)
      · have hc := c64
        unfold hcC at hc
        rw [hL] at hc
        obtain ⟨t, m, et, em, htm⟩ := (hcN hL50).mp hc
        have htL : t < 50 := one_of (i := i) hL50 em htm
        refine V_aload_4 (q := 75) C rfl dX8_cell_73 ?_
        refine gf_X8_252 (q := 78) C hj rfl dX8_cell_75 ?_
        refine V_iload_n_2 (q := 79) C rfl dX8_cell_78 ?_
        refine V_iald (q := 80) C t et (by rw [sh_al hj]; omega) (sh_ak hj) (by omega) (by rw [sh_al hj]; decide) rfl dX8_cell_79 ?_
        rw [f0_sc]
        refine V_i2l (q := 81) C rfl dX8_cell_80 ?_
        refine V_lret C hR dX8_cell_81 ?_
        refine ⟨by unfold ceF; rw [if_neg c34, if_neg c48, if_neg (nn c64), et, nI_clamp (by omega)], ?_⟩
        unfold ceF
        rw [if_neg c34, if_neg c48, if_neg (nn c64)]
      · refine V_aload_n_0 (q := 68) C rfl dX8_cell_67 ?_
        refine V_iconst (q := 69) (v := 3) C rfl rfl dX8_cell_68 ?_
        refine V_cV1r (q := 72) C (Ct.mono (v' := some (.long lostL)) (τ' := setf σ 0 8 3) (c_X8_lostBy _ 3) rfl setf_setf) cw_X8_lostBy cv_X8_lostBy wm_X8_258 (by decide) ob_X8 ⟨by decide, by decide⟩ (Nat.le_of_ble_eq_true rfl) rfl dX8_cell_69 ?_
        refine V_lret C hR dX8_cell_72 ?_
        refine ⟨by unfold ceF; rw [if_neg c34, if_neg c48, if_pos c64], ?_⟩
        unfold ceF
        rw [if_neg c34, if_neg c48, if_pos c64]
    · refine V_aload_n_0 (q := 52) C rfl dX8_cell_51 ?_
      refine V_iconst (q := 53) (v := 1) C rfl rfl dX8_cell_52 ?_
      refine V_cV1r (q := 56) C (Ct.mono (v' := some (.long lostL)) (τ' := setf σ 0 8 1) (c_X8_lostBy _ 1) rfl setf_setf) cw_X8_lostBy cv_X8_lostBy wm_X8_258 (by decide) ob_X8 ⟨by decide, by decide⟩ (Nat.le_of_ble_eq_true rfl) rfl dX8_cell_53 ?_
      refine V_lret C hR dX8_cell_56 ?_
      have e0 : σ (2 + 2 * j) 1 = 0 := c48
      refine ⟨by unfold ceF; rw [if_neg c34, if_pos e0], ?_⟩
      unfold ceF
      rw [if_neg c34, if_pos e0]
  · refine V_aload_n_0 (q := 38) C rfl dX8_cell_37 ?_
    refine V_iconst (q := 39) (v := 2) C rfl rfl dX8_cell_38 ?_
    refine V_cV1r (q := 42) C (Ct.mono (v' := some (.long lostL)) (τ' := setf σ 0 8 2) (c_X8_lostBy _ 2) rfl setf_setf) cw_X8_lostBy cv_X8_lostBy wm_X8_258 (by decide) ob_X8 ⟨by decide, by decide⟩ (Nat.le_of_ble_eq_true rfl) rfl dX8_cell_39 ?_
    refine V_lret C hR dX8_cell_42 ?_
    refine ⟨by unfold ceF; rw [if_pos c34], ?_⟩
    unfold ceF
    rw [if_pos c34]

set_option maxHeartbeats 4000000 in
set_option maxRecDepth 100000 in
theorem c_X8_copy_u1 {l : Launch} {D : DD} {ad : Nat → Nat} (σ : ST) (k i o e n : Int32) (h : ¬ isT 4 k) (h2 : ¬ isT 4 o) : Ct l yX8_copy cX8_copy 8 (Option.some FieldType.int) 1 48 D ad [.ref (ad 0), .int k, .int i, .int o, .int e, .int n] σ (ex (some (.int (-1))) (setf σ 0 8 0)) := by
  refine Ct.of2 [.ref (ad 0), .int k, .int i, .int o, .int e, .int n, .float 0, .float 0] rfl (Nat.le_of_ble_eq_true rfl) rfl ?_
  rintro X C rfl rfl rfl hxn hR
  have hn6 : 6 < xn X := by rw [← hxn]; decide
  have hn7 : 7 < xn X := by rw [← hxn]; decide
  refine V_aload_n_0 (q := 1) C rfl dX8_copy_0 ?_
  refine V_iconst (q := 2) (v := 0) C rfl rfl dX8_copy_1 ?_
  refine pf_X8_45 (q := 5) C rfl dX8_copy_2 ?_
  refine V_aload_n_0 (q := 6) C rfl dX8_copy_5 ?_
  refine V_iload_n_1 (q := 7) C rfl dX8_copy_6 ?_
  refine V_cV1r (q := 10) C (c_X8_sheetOfN _ _ h) cw_X8_sheetOf cv_X8_sheetOf wm_X8_75 (by decide) ob_X8 ⟨by decide, by decide⟩ (Nat.le_of_ble_eq_true rfl) rfl dX8_copy_7 ?_
  refine V_astoreN_6 (q := 12) C hn6 rfl rfl dX8_copy_10 ?_
  refine V_aload_n_0 (q := 13) C rfl dX8_copy_12 ?_
  refine V_iload_n_3 (q := 14) C rfl dX8_copy_13 ?_
  refine V_cV1r (q := 17) C (c_X8_sheetOfN _ _ h2) cw_X8_sheetOf cv_X8_sheetOf wm_X8_75 (by decide) ob_X8 ⟨by decide, by decide⟩ (Nat.le_of_ble_eq_true rfl) rfl dX8_copy_14 ?_
  refine V_astoreN_7 (q := 19) C hn7 rfl rfl dX8_copy_17 ?_
  refine V_aloadN_6 (q := 21) C rfl dX8_copy_19 ?_
  refine V_ifnullN (tgt := 29) C (by decide) dX8_copy_21 ?_
  refine V_iconst (q := 30) (v := (-1)) C rfl rfl dX8_copy_29 ?_
  refine V_iret C hR dX8_copy_30 ?_
  exact ⟨rfl, rfl⟩

set_option maxHeartbeats 4000000 in
set_option maxRecDepth 100000 in
theorem c_X8_copy_u2 {l : Launch} {D : DD} {ad : Nat → Nat} (σ : ST) (j : Nat) (k i e n : Int32) (h : ¬ isT 4 k) (hj : j < 4) : Ct l yX8_copy cX8_copy 8 (Option.some FieldType.int) 1 48 D ad [.ref (ad 0), .int k, .int i, .int (nI j), .int e, .int n] σ (ex (some (.int (-1))) (setf σ 0 8 0)) := by
  refine Ct.of2 [.ref (ad 0), .int k, .int i, .int (nI j), .int e, .int n, .float 0, .float 0] rfl (Nat.le_of_ble_eq_true rfl) rfl ?_
  rintro X C rfl rfl rfl hxn hR
  have hn6 : 6 < xn X := by rw [← hxn]; decide
  have hn7 : 7 < xn X := by rw [← hxn]; decide
  refine V_aload_n_0 (q := 1) C rfl dX8_copy_0 ?_
  refine V_iconst (q := 2) (v := 0) C rfl rfl dX8_copy_1 ?_
  refine pf_X8_45 (q := 5) C rfl dX8_copy_2 ?_
  refine V_aload_n_0 (q := 6) C rfl dX8_copy_5 ?_
  refine V_iload_n_1 (q := 7) C rfl dX8_copy_6 ?_
  refine V_cV1r (q := 10) C (c_X8_sheetOfN _ _ h) cw_X8_sheetOf cv_X8_sheetOf wm_X8_75 (by decide) ob_X8 ⟨by decide, by decide⟩ (Nat.le_of_ble_eq_true rfl) rfl dX8_copy_7 ?_
  refine V_astoreN_6 (q := 12) C hn6 rfl rfl dX8_copy_10 ?_
  refine V_aload_n_0 (q := 13) C rfl dX8_copy_12 ?_
  refine V_iload_n_3 (q := 14) C rfl dX8_copy_13 ?_
  refine V_cV1r (q := 17) C (c_X8_sheetOf _ j hj) cw_X8_sheetOf cv_X8_sheetOf wm_X8_75 (by decide) ob_X8 ⟨by decide, by decide⟩ (Nat.le_of_ble_eq_true rfl) rfl dX8_copy_14 ?_
  refine V_astore_7 (q := 19) C hn7 rfl rfl dX8_copy_17 ?_
  refine V_aloadN_6 (q := 21) C rfl dX8_copy_19 ?_
  refine V_ifnullN (tgt := 29) C (by decide) dX8_copy_21 ?_
  refine V_iconst (q := 30) (v := (-1)) C rfl rfl dX8_copy_29 ?_
  refine V_iret C hR dX8_copy_30 ?_
  exact ⟨rfl, rfl⟩

set_option maxHeartbeats 4000000 in
set_option maxRecDepth 100000 in
theorem c_X8_copy_u3 {l : Launch} {D : DD} {ad : Nat → Nat} (σ : ST) (j : Nat) (i o e n : Int32) (h : ¬ isT 4 o) (hj : j < 4) : Ct l yX8_copy cX8_copy 8 (Option.some FieldType.int) 1 48 D ad [.ref (ad 0), .int (nI j), .int i, .int o, .int e, .int n] σ (ex (some (.int (-1))) (setf σ 0 8 0)) := by
  refine Ct.of2 [.ref (ad 0), .int (nI j), .int i, .int o, .int e, .int n, .float 0, .float 0] rfl (Nat.le_of_ble_eq_true rfl) rfl ?_
  rintro X C rfl rfl rfl hxn hR
  have hn6 : 6 < xn X := by rw [← hxn]; decide
  have hn7 : 7 < xn X := by rw [← hxn]; decide
  refine V_aload_n_0 (q := 1) C rfl dX8_copy_0 ?_
  refine V_iconst (q := 2) (v := 0) C rfl rfl dX8_copy_1 ?_
  refine pf_X8_45 (q := 5) C rfl dX8_copy_2 ?_
  refine V_aload_n_0 (q := 6) C rfl dX8_copy_5 ?_
  refine V_iload_n_1 (q := 7) C rfl dX8_copy_6 ?_
  refine V_cV1r (q := 10) C (c_X8_sheetOf _ j hj) cw_X8_sheetOf cv_X8_sheetOf wm_X8_75 (by decide) ob_X8 ⟨by decide, by decide⟩ (Nat.le_of_ble_eq_true rfl) rfl dX8_copy_7 ?_
  refine V_astore_6 (q := 12) C hn6 rfl rfl dX8_copy_10 ?_
  refine V_aload_n_0 (q := 13) C rfl dX8_copy_12 ?_
  refine V_iload_n_3 (q := 14) C rfl dX8_copy_13 ?_
  refine V_cV1r (q := 17) C (c_X8_sheetOfN _ _ h) cw_X8_sheetOf cv_X8_sheetOf wm_X8_75 (by decide) ob_X8 ⟨by decide, by decide⟩ (Nat.le_of_ble_eq_true rfl) rfl dX8_copy_14 ?_
  refine V_astoreN_7 (q := 19) C hn7 rfl rfl dX8_copy_17 ?_
  refine V_aload_6 (q := 21) C rfl dX8_copy_19 ?_
  refine V_ifnull (q := 24) C rfl dX8_copy_21 ?_
  refine V_aloadN_7 (q := 26) C rfl dX8_copy_24 ?_
  refine V_ifnonnullN (q := 29) C rfl dX8_copy_26 ?_
  refine V_iconst (q := 30) (v := (-1)) C rfl rfl dX8_copy_29 ?_
  refine V_iret C hR dX8_copy_30 ?_
  exact ⟨rfl, rfl⟩

def cpF (σ : ST) (j j2 : Nat) (i e n : Int32) : Int32 × ST := if σ (2 + 2 * j) 1 = 0 ∨ σ (2 + 2 * j2) 1 = 0 then (-11, setf σ 0 8 1) else if ¬ σ (2 + 2 * j) 2 = σ (2 + 2 * j2) 2 then (-12, setf σ 0 8 2) else if ¬ (hcC σ j i n ∧ hcC σ j2 e n) then (-13, setf σ 0 8 3) else (n, setc (setf σ 0 8 0) (2 + 2 * j2 + 1) (va_cpy (σ (2 + 2 * j + 1)) (σ (2 + 2 * j2 + 1)) i.toNatClampNeg e.toNatClampNeg n.toNatClampNeg))

set_option maxHeartbeats 4000000 in
set_option maxRecDepth 100000 in
theorem c_X8_copy_v {l : Launch} {D : DD} {ad : Nat → Nat} (σ : ST) (j j2 : Nat) (i e n : Int32) (hj : j < 4) (hj2 : j2 < 4) (L L2 : Nat) (hL : σ (2 + 2 * j) 3 = nI L) (hL50 : L ≤ 50) (hL2 : σ (2 + 2 * j2) 3 = nI L2) (hL250 : L2 ≤ 50) : Ct l yX8_copy cX8_copy 8 (Option.some FieldType.int) 1 48 D ad [.ref (ad 0), .int (nI j), .int i, .int (nI j2), .int e, .int n] σ (ex (some (.int (cpF σ j j2 i e n).1)) (cpF σ j j2 i e n).2) := by
  refine Ct.of2 [.ref (ad 0), .int (nI j), .int i, .int (nI j2), .int e, .int n, .float 0, .float 0] rfl (Nat.le_of_ble_eq_true rfl) rfl ?_
  rintro X C rfl rfl rfl hxn hR
  have hn6 : 6 < xn X := by rw [← hxn]; decide
  have hn7 : 7 < xn X := by rw [← hxn]; decide
  refine V_aload_n_0 (q := 1) C rfl dX8_copy_0 ?_
  refine V_iconst (q := 2) (v := 0) C rfl rfl dX8_copy_1 ?_
  refine pf_X8_45 (q := 5) C rfl dX8_copy_2 ?_
  refine V_aload_n_0 (q := 6) C rfl dX8_copy_5 ?_
  refine V_iload_n_1 (q := 7) C rfl dX8_copy_6 ?_
  refine V_cV1r (q := 10) C (c_X8_sheetOf _ j hj) cw_X8_sheetOf cv_X8_sheetOf wm_X8_75 (by decide) ob_X8 ⟨by decide, by decide⟩ (Nat.le_of_ble_eq_true rfl) rfl dX8_copy_7 ?_
  refine V_astore_6 (q := 12) C hn6 rfl rfl dX8_copy_10 ?_
  refine V_aload_n_0 (q := 13) C rfl dX8_copy_12 ?_
  refine V_iload_n_3 (q := 14) C rfl dX8_copy_13 ?_
  refine V_cV1r (q := 17) C (c_X8_sheetOf _ j2 hj2) cw_X8_sheetOf cv_X8_sheetOf wm_X8_75 (by decide) ob_X8 ⟨by decide, by decide⟩ (Nat.le_of_ble_eq_true rfl) rfl dX8_copy_14 ?_
  refine V_astore_7 (q := 19) C hn7 rfl rfl dX8_copy_17 ?_
  refine V_aload_6 (q := 21) C rfl dX8_copy_19 ?_
  refine V_ifnull (q := 24) C rfl dX8_copy_21 ?_
  refine V_aload_7 (q := 26) C rfl dX8_copy_24 ?_
  refine V_ifnonnull (tgt := 31) C (by decide) dX8_copy_26 ?_
  refine V_aload_6 (q := 33) C rfl dX8_copy_31 ?_
  refine gf_X8_90 (q := 36) C hj rfl dX8_copy_33 ?_
  rw [f0_sh]
  refine V_if_eq (tgt := 47) C rfl (by decide) dX8_copy_36 (fun c36 => ?_) (fun c36 => ?_)
  · refine V_aload_n_0 (q := 48) C rfl dX8_copy_47 ?_
    refine V_iconst (q := 49) (v := 1) C rfl rfl dX8_copy_48 ?_
    refine V_cV1r (q := 52) C (Ct.mono (v' := some (.int (-11))) (τ' := setf σ 0 8 1) (c_X8_faulted _ 1) rfl setf_setf) cw_X8_faulted cv_X8_faulted wm_X8_86 (by decide) ob_X8 ⟨by decide, by decide⟩ (Nat.le_of_ble_eq_true rfl) rfl dX8_copy_49 ?_
    refine V_iret C hR dX8_copy_52 ?_
    have e0 : σ (2 + 2 * j) 1 = 0 ∨ σ (2 + 2 * j2) 1 = 0 := Or.inl c36
    refine ⟨by unfold cpF; rw [if_pos e0], ?_⟩
    unfold cpF
    rw [if_pos e0]
  · refine V_aload_7 (q := 41) C rfl dX8_copy_39 ?_
    refine gf_X8_90 (q := 44) C hj2 rfl dX8_copy_41 ?_
    rw [f0_sh]
    refine V_if_ne (tgt := 53) C rfl (by decide) dX8_copy_44 (fun c44 => ?_) (fun c44 => ?_)
    · refine V_aload_6 (q := 55) C rfl dX8_copy_53 ?_
      refine gf_X8_262 (q := 58) C hj rfl dX8_copy_55 ?_
      refine V_aload_7 (q := 60) C rfl dX8_copy_58 ?_
      refine gf_X8_262 (q := 63) C hj2 rfl dX8_copy_60 ?_
      rw [f0_sh, f0_sh]
      refine V_icmp_eq (tgt := 72) C rfl (by decide) dX8_copy_63 (fun c63 => ?_) (fun c63 => ?_)
      · refine V_aload_6 (q := 74) C rfl dX8_copy_72 ?_
        refine V_iload_n_2 (q := 75) C rfl dX8_copy_74 ?_
        refine V_iload_5 (q := 77) C rfl dX8_copy_75 ?_
        refine V_cV2r (q := 80) C (Ct.mono (v' := some (.int (pI (hcC σ j i n)))) (c_X5_hasCells (setf σ 0 8 0) j i n hj) (by rw [f0_sh]) rfl) cw_X5_hasCells cv_X5_hasCells wm_X8_94 (by omega) (ob_X5 hj) ⟨by decide, by decide⟩ (Nat.le_of_ble_eq_true rfl) rfl dX8_copy_77 ?_
        refine V_ifp_eq (tgt := 95) C rfl (by decide) dX8_copy_80 (fun c80 => ?_) (fun c80 => ?_)
        · refine V_aload_n_0 (q := 96) C rfl dX8_copy_95 ?_
          refine V_iconst (q := 97) (v := 3) C rfl rfl dX8_copy_96 ?_
          refine V_cV1r (q := 100) C (Ct.mono (v' := some (.int (-13))) (τ' := setf σ 0 8 3) (c_X8_faulted _ 3) rfl setf_setf) cw_X8_faulted cv_X8_faulted wm_X8_86 (by decide) ob_X8 ⟨by decide, by decide⟩ (Nat.le_of_ble_eq_true rfl) rfl dX8_copy_97 ?_
          refine V_iret C hR dX8_copy_100 ?_
          have e0 : ¬ (σ (2 + 2 * j) 1 = 0 ∨ σ (2 + 2 * j2) 1 = 0) := fun h => h.elim c36 c44
          refine ⟨by unfold cpF; rw [if_neg e0, if_neg (nn c63), if_pos (fun h => c80 h.1)], ?_⟩
          unfold cpF
          rw [if_neg e0, if_neg (nn c63), if_pos (fun h => c80 h.1)]
        · refine V_aload_7 (q := 85) C rfl dX8_copy_83 ?_
          refine V_iload_4 (q := 87) C rfl dX8_copy_85 ?_
          refine V_iload_5 (q := 89) C rfl dX8_copy_87 ?_
          refine V_cV2r (q := 92) C (Ct.mono (v' := some (.int (pI (hcC σ j2 e n)))) (c_X5_hasCells (setf σ 0 8 0) j2 e n hj2) (by rw [f0_sh]) rfl) cw_X5_hasCells cv_X5_hasCells wm_X8_94 (by omega) (ob_X5 hj2) ⟨by decide, by decide⟩ (Nat.le_of_ble_eq_true rfl) rfl dX8_copy_89 ?_
          refine V_ifp_ne (tgt := 101) C rfl (by decide) dX8_copy_92 (fun c92 => ?_) (fun c92 => ?_)
          · have hc := c80
            unfold hcC at hc
            rw [hL] at hc
            obtain ⟨t, m, et, em, htm⟩ := (hcN hL50).mp hc
            have hc2 := c92
            unfold hcC at hc2
            rw [hL2] at hc2
            obtain ⟨t2, m2, et2, em2, htm2⟩ := (hcN hL250).mp hc2
            have emm : m2 = m := (nI_eq (by omega) (by omega)).mp (em2.symm.trans em)
            subst emm
            refine V_aload_6 (q := 103) C rfl dX8_copy_101 ?_
            refine gf_X8_252 (q := 106) C hj rfl dX8_copy_103 ?_
            refine V_iload_n_2 (q := 107) C rfl dX8_copy_106 ?_
            refine V_aload_7 (q := 109) C rfl dX8_copy_107 ?_
            refine gf_X8_252 (q := 112) C hj2 rfl dX8_copy_109 ?_
            refine V_iload_4 (q := 114) C rfl dX8_copy_112 ?_
            refine V_iload_5 (q := 116) C rfl dX8_copy_114 ?_
            refine V_copy (q := 119) C t t2 m2 et et2 em (by rw [sh_al hj]; omega) (by rw [sh_al hj2]; omega) (sh_ak hj) (sh_ak hj2) (by omega) (by omega) (by rw [sh_al hj]; decide) (by rw [sh_al hj2]; decide) wm_X8_265 wn_copy wn_copyS wn_copyI (by decide) (by decide) rfl dX8_copy_116 ?_
            refine V_iload_5 (q := 121) C rfl dX8_copy_119 ?_
            refine V_iret C hR dX8_copy_121 ?_
            have e0 : ¬ (σ (2 + 2 * j) 1 = 0 ∨ σ (2 + 2 * j2) 1 = 0) := fun h => h.elim c36 c44
            refine ⟨by unfold cpF; rw [if_neg e0, if_neg (nn c63), if_neg (nn ⟨c80, c92⟩)], ?_⟩
            unfold cpF
            rw [if_neg e0, if_neg (nn c63), if_neg (nn ⟨c80, c92⟩), f0_sc, f0_sc, et, et2, em, nI_clamp (by omega), nI_clamp (by omega), nI_clamp (by omega)]
          · refine V_aload_n_0 (q := 96) C rfl dX8_copy_95 ?_
            refine V_iconst (q := 97) (v := 3) C rfl rfl dX8_copy_96 ?_
            refine V_cV1r (q := 100) C (Ct.mono (v' := some (.int (-13))) (τ' := setf σ 0 8 3) (c_X8_faulted _ 3) rfl setf_setf) cw_X8_faulted cv_X8_faulted wm_X8_86 (by decide) ob_X8 ⟨by decide, by decide⟩ (Nat.le_of_ble_eq_true rfl) rfl dX8_copy_97 ?_
            refine V_iret C hR dX8_copy_100 ?_
            have e0 : ¬ (σ (2 + 2 * j) 1 = 0 ∨ σ (2 + 2 * j2) 1 = 0) := fun h => h.elim c36 c44
            refine ⟨by unfold cpF; rw [if_neg e0, if_neg (nn c63), if_pos (fun h => c92 h.2)], ?_⟩
            unfold cpF
            rw [if_neg e0, if_neg (nn c63), if_pos (fun h => c92 h.2)]
      · refine V_aload_n_0 (q := 67) C rfl dX8_copy_66 ?_
        refine V_iconst (q := 68) (v := 2) C rfl rfl dX8_copy_67 ?_
        refine V_cV1r (q := 71) C (Ct.mono (v' := some (.int (-12))) (τ' := setf σ 0 8 2) (c_X8_faulted _ 2) rfl setf_setf) cw_X8_faulted cv_X8_faulted wm_X8_86 (by decide) ob_X8 ⟨by decide, by decide⟩ (Nat.le_of_ble_eq_true rfl) rfl dX8_copy_68 ?_
        refine V_iret C hR dX8_copy_71 ?_
        have e0 : ¬ (σ (2 + 2 * j) 1 = 0 ∨ σ (2 + 2 * j2) 1 = 0) := fun h => h.elim c36 c44
        refine ⟨by unfold cpF; rw [if_neg e0, if_pos c63], ?_⟩
        unfold cpF
        rw [if_neg e0, if_pos c63]
    · refine V_aload_n_0 (q := 48) C rfl dX8_copy_47 ?_
      refine V_iconst (q := 49) (v := 1) C rfl rfl dX8_copy_48 ?_
      refine V_cV1r (q := 52) C (Ct.mono (v' := some (.int (-11))) (τ' := setf σ 0 8 1) (c_X8_faulted _ 1) rfl setf_setf) cw_X8_faulted cv_X8_faulted wm_X8_86 (by decide) ob_X8 ⟨by decide, by decide⟩ (Nat.le_of_ble_eq_true rfl) rfl dX8_copy_49 ?_
      refine V_iret C hR dX8_copy_52 ?_
      have e0 : σ (2 + 2 * j) 1 = 0 ∨ σ (2 + 2 * j2) 1 = 0 := Or.inr c44
      refine ⟨by unfold cpF; rw [if_pos e0], ?_⟩
      unfold cpF
      rw [if_pos e0]

