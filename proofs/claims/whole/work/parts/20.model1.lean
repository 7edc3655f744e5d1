/-! the reference: leaves and days -/
set_option maxHeartbeats 4000000 in
set_option maxRecDepth 100000 in
theorem c_X9_within {l : Launch} {D : DD} {ad : Nat → Nat} (σ : ST) (v a b : Int32)  : Ct l yX9_within cX9_within 3 (Option.some FieldType.boolean) 0 0 D ad [.int v, .int a, .int b] σ (ex (some (.int (pI (¬ v < a ∧ ¬ b < v)))) σ) := by
  refine Ct.of2 [.int v, .int a, .int b] rfl (Nat.le_of_ble_eq_true rfl) rfl ?_
  rintro X C rfl rfl rfl hxn hR
  refine V_iload_n_0 (q := 1) C rfl dX9_within_0 ?_
  refine V_iload_n_1 (q := 2) C rfl dX9_within_1 ?_
  refine V_icmp_lt (tgt := 14) C rfl (by decide) dX9_within_2 (fun c2 => ?_) (fun c2 => ?_)
  · refine V_iconst (q := 15) (v := 0) C rfl rfl dX9_within_14 ?_
    refine V_zret C hR rfl dX9_within_15 ?_
    exact ⟨by simp [pI, c2], rfl⟩
  · refine V_iload_n_0 (q := 6) C rfl dX9_within_5 ?_
    refine V_iload_n_2 (q := 7) C rfl dX9_within_6 ?_
    refine V_icmp_gt (tgt := 14) C rfl (by decide) dX9_within_7 (fun c7 => ?_) (fun c7 => ?_)
    · refine V_iconst (q := 15) (v := 0) C rfl rfl dX9_within_14 ?_
      refine V_zret C hR rfl dX9_within_15 ?_
      exact ⟨by simp [pI, c2, c7], rfl⟩
    · refine V_iconst (q := 11) (v := 1) C rfl rfl dX9_within_10 ?_
      refine V_goto (tgt := 15) C (by decide) dX9_within_11 ?_
      refine V_zret C hR rfl dX9_within_15 ?_
      exact ⟨by simp [pI, c2, c7], rfl⟩

theorem lt3 {x : Int32} : ¬ 3 < x ↔ ¬ 4 ≤ x := by rw [Int32.lt_iff_toInt_lt, Int32.le_iff_toInt_le]; show ¬ ((3 : Int) < x.toInt) ↔ ¬ ((4 : Int) ≤ x.toInt); omega
theorem lt2 {x : Int32} : ¬ 2 < x ↔ ¬ 3 ≤ x := by rw [Int32.lt_iff_toInt_lt, Int32.le_iff_toInt_le]; show ¬ ((2 : Int) < x.toInt) ↔ ¬ ((3 : Int) ≤ x.toInt); omega
theorem lt29 {x : Int32} : ¬ 29 < x ↔ ¬ 30 ≤ x := by rw [Int32.lt_iff_toInt_lt, Int32.le_iff_toInt_le]; show ¬ ((29 : Int) < x.toInt) ↔ ¬ ((30 : Int) ≤ x.toInt); omega
theorem lt5 {x : Int32} : ¬ 5 < x ↔ ¬ 6 ≤ x := by rw [Int32.lt_iff_toInt_lt, Int32.le_iff_toInt_le]; show ¬ ((5 : Int) < x.toInt) ↔ ¬ ((6 : Int) ≤ x.toInt); omega

set_option maxHeartbeats 4000000 in
set_option maxRecDepth 100000 in
theorem c_X9_isSheet {l : Launch} {D : DD} {ad : Nat → Nat} (σ : ST) (x : Int32)  : Ct l yX9_isSheet cX9_isSheet 1 (Option.some FieldType.boolean) 1 22 D ad [.int x] σ (ex (some (.int (pI (isT 4 x)))) σ) := by
  refine Ct.of2 [.int x] rfl (Nat.le_of_ble_eq_true rfl) rfl ?_
  rintro X C rfl rfl rfl hxn hR
  refine V_iload_n_0 (q := 1) C rfl dX9_isSheet_0 ?_
  refine V_iconst (q := 2) (v := 0) C rfl rfl dX9_isSheet_1 ?_
  refine V_iconst (q := 3) (v := 3) C rfl rfl dX9_isSheet_2 ?_
  refine V_cS3r (q := 6) C (Ct.mono (v' := some (.int (pI (isT 4 x)))) (c_X9_within _ _ _ _) (congrArg (fun z => some (Value.int z)) (pI_congr (and_congr_right fun _ => lt3))) rfl) cw_X9_within cs_X9_within wm_X9_101 ⟨by decide, by decide⟩ (Nat.le_of_ble_eq_true rfl) rfl dX9_isSheet_3 ?_
  refine V_zret C hR pI_nar dX9_isSheet_6 ?_
  exact ⟨rfl, rfl⟩

set_option maxHeartbeats 4000000 in
set_option maxRecDepth 100000 in
theorem c_X9_isSort {l : Launch} {D : DD} {ad : Nat → Nat} (σ : ST) (x : Int32)  : Ct l yX9_isSort cX9_isSort 1 (Option.some FieldType.boolean) 1 22 D ad [.int x] σ (ex (some (.int (pI (isT 3 x)))) σ) := by
  refine Ct.of2 [.int x] rfl (Nat.le_of_ble_eq_true rfl) rfl ?_
  rintro X C rfl rfl rfl hxn hR
  refine V_iload_n_0 (q := 1) C rfl dX9_isSort_0 ?_
  refine V_iconst (q := 2) (v := 0) C rfl rfl dX9_isSort_1 ?_
  refine V_iconst (q := 3) (v := 2) C rfl rfl dX9_isSort_2 ?_
  refine V_cS3r (q := 6) C (Ct.mono (v' := some (.int (pI (isT 3 x)))) (c_X9_within _ _ _ _) (congrArg (fun z => some (Value.int z)) (pI_congr (and_congr_right fun _ => lt2))) rfl) cw_X9_within cs_X9_within wm_X9_101 ⟨by decide, by decide⟩ (Nat.le_of_ble_eq_true rfl) rfl dX9_isSort_3 ?_
  refine V_zret C hR pI_nar dX9_isSort_6 ?_
  exact ⟨rfl, rfl⟩

set_option maxHeartbeats 4000000 in
set_option maxRecDepth 100000 in
theorem c_X9_isDay {l : Launch} {D : DD} {ad : Nat → Nat} (σ : ST) (x : Int32)  : Ct l yX9_isDay cX9_isDay 1 (Option.some FieldType.boolean) 1 22 D ad [.int x] σ (ex (some (.int (pI (isT 30 x)))) σ) := by
  refine Ct.of2 [.int x] rfl (Nat.le_of_ble_eq_true rfl) rfl ?_
  rintro X C rfl rfl rfl hxn hR
  refine V_iload_n_0 (q := 1) C rfl dX9_isDay_0 ?_
  refine V_iconst (q := 2) (v := 0) C rfl rfl dX9_isDay_1 ?_
  refine V_bipush (q := 4) (v := 29) C (by decide) rfl dX9_isDay_2 ?_
  refine V_cS3r (q := 7) C (Ct.mono (v' := some (.int (pI (isT 30 x)))) (c_X9_within _ _ _ _) (congrArg (fun z => some (Value.int z)) (pI_congr (and_congr_right fun _ => lt29))) rfl) cw_X9_within cs_X9_within wm_X9_101 ⟨by decide, by decide⟩ (Nat.le_of_ble_eq_true rfl) rfl dX9_isDay_4 ?_
  refine V_zret C hR pI_nar dX9_isDay_7 ?_
  exact ⟨rfl, rfl⟩

set_option maxHeartbeats 4000000 in
set_option maxRecDepth 100000 in
theorem c_X9_isTree {l : Launch} {D : DD} {ad : Nat → Nat} (σ : ST) (t : Int32)  : Ct l yX9_isTree cX9_isTree 2 (Option.some FieldType.boolean) 0 0 D ad [.ref (ad 40), .int t] σ (ex (some (.int (pI (isT (σ 40 5) t)))) σ) := by
  refine Ct.of2 [.ref (ad 40), .int t] rfl (Nat.le_of_ble_eq_true rfl) rfl ?_
  rintro X C rfl rfl rfl hxn hR
  refine V_iload_n_1 (q := 1) C rfl dX9_isTree_0 ?_
  refine V_if_lt (tgt := 16) C rfl (by decide) dX9_isTree_1 (fun c1 => ?_) (fun c1 => ?_)
  · refine V_iconst (q := 17) (v := 0) C rfl rfl dX9_isTree_16 ?_
    refine V_zret C hR rfl dX9_isTree_17 ?_
    exact ⟨by simp [pI, c1], rfl⟩
  · refine V_iload_n_1 (q := 5) C rfl dX9_isTree_4 ?_
    refine V_aload_n_0 (q := 6) C rfl dX9_isTree_5 ?_
    refine gf_X9_105 (q := 9) C rfl dX9_isTree_6 ?_
    refine V_icmp_ge (tgt := 16) C rfl (by decide) dX9_isTree_9 (fun c9 => ?_) (fun c9 => ?_)
    · refine V_iconst (q := 17) (v := 0) C rfl rfl dX9_isTree_16 ?_
      refine V_zret C hR rfl dX9_isTree_17 ?_
      exact ⟨by simp [pI, c1, c9], rfl⟩
    · refine V_iconst (q := 13) (v := 1) C rfl rfl dX9_isTree_12 ?_
      refine V_goto (tgt := 17) C (by decide) dX9_isTree_13 ?_
      refine V_zret C hR rfl dX9_isTree_17 ?_
      exact ⟨by simp [pI, c1, c9], rfl⟩

set_option maxHeartbeats 4000000 in
set_option maxRecDepth 100000 in
theorem c_X9_isPrisoner {l : Launch} {D : DD} {ad : Nat → Nat} (σ : ST) (t : Int32)  : Ct l yX9_isPrisoner cX9_isPrisoner 2 (Option.some FieldType.boolean) 0 0 D ad [.ref (ad 40), .int t] σ (ex (some (.int (pI (isT (σ 40 6) t)))) σ) := by
  refine Ct.of2 [.ref (ad 40), .int t] rfl (Nat.le_of_ble_eq_true rfl) rfl ?_
  rintro X C rfl rfl rfl hxn hR
  refine V_iload_n_1 (q := 1) C rfl dX9_isPrisoner_0 ?_
  refine V_if_lt (tgt := 16) C rfl (by decide) dX9_isPrisoner_1 (fun c1 => ?_) (fun c1 => ?_)
  · refine V_iconst (q := 17) (v := 0) C rfl rfl dX9_isPrisoner_16 ?_
    refine V_zret C hR rfl dX9_isPrisoner_17 ?_
    exact ⟨by simp [pI, c1], rfl⟩
  · refine V_iload_n_1 (q := 5) C rfl dX9_isPrisoner_4 ?_
    refine V_aload_n_0 (q := 6) C rfl dX9_isPrisoner_5 ?_
    refine gf_X9_108 (q := 9) C rfl dX9_isPrisoner_6 ?_
    refine V_icmp_ge (tgt := 16) C rfl (by decide) dX9_isPrisoner_9 (fun c9 => ?_) (fun c9 => ?_)
    · refine V_iconst (q := 17) (v := 0) C rfl rfl dX9_isPrisoner_16 ?_
      refine V_zret C hR rfl dX9_isPrisoner_17 ?_
      exact ⟨by simp [pI, c1, c9], rfl⟩
    · refine V_iconst (q := 13) (v := 1) C rfl rfl dX9_isPrisoner_12 ?_
      refine V_goto (tgt := 17) C (by decide) dX9_isPrisoner_13 ?_
      refine V_zret C hR rfl dX9_isPrisoner_17 ?_
      exact ⟨by simp [pI, c1, c9], rfl⟩

set_option maxHeartbeats 4000000 in
set_option maxRecDepth 100000 in
theorem c_X9_fails {l : Launch} {D : DD} {ad : Nat → Nat} (σ : ST) (w : Int32)  : Ct l yX9_fails cX9_fails 2 (Option.some FieldType.int) 0 0 D ad [.ref (ad 40), .int w] σ (ex (some (.int (-10 - w))) (setf σ 40 0 w)) := by
  refine Ct.of2 [.ref (ad 40), .int w] rfl (Nat.le_of_ble_eq_true rfl) rfl ?_
  rintro X C rfl rfl rfl hxn hR
  refine V_aload_n_0 (q := 1) C rfl dX9_fails_0 ?_
  refine V_iload_n_1 (q := 2) C rfl dX9_fails_1 ?_
  refine pf_X9_96 (q := 5) C rfl dX9_fails_2 ?_
  refine V_bipush (q := 7) (v := (-10)) C (by decide) rfl dX9_fails_5 ?_
  refine V_iload_n_1 (q := 8) C rfl dX9_fails_7 ?_
  refine V_isub (q := 9) C rfl dX9_fails_8 ?_
  refine V_iret C hR dX9_fails_9 ?_
  exact ⟨rfl, rfl⟩

set_option maxHeartbeats 4000000 in
set_option maxRecDepth 100000 in
theorem c_X9_lost {l : Launch} {D : DD} {ad : Nat → Nat} (σ : ST) (w : Int32)  : Ct l yX9_lost cX9_lost 2 (Option.some FieldType.long) 0 0 D ad [.ref (ad 40), .int w] σ (ex (some (.long lostL)) (setf σ 40 0 w)) := by
  refine Ct.of2 [.ref (ad 40), .int w] rfl (Nat.le_of_ble_eq_true rfl) rfl ?_
  rintro X C rfl rfl rfl hxn hR
  refine V_aload_n_0 (q := 1) C rfl dX9_lost_0 ?_
  refine V_iload_n_1 (q := 2) C rfl dX9_lost_1 ?_
  refine pf_X9_96 (q := 5) C rfl dX9_lost_2 ?_
  refine V_ldc2 (q := 8) C wc_X9_99 rfl dX9_lost_5 ?_
  refine V_lret C hR dX9_lost_8 ?_
  exact ⟨rfl, rfl⟩

set_option maxHeartbeats 4000000 in
set_option maxRecDepth 100000 in
theorem c_X9_begins {l : Launch} {D : DD} {ad : Nat → Nat} (σ : ST) (w : Int32)  : Ct l yX9_begins cX9_begins 2 (Option.none : Option FieldType) 0 0 D ad [.ref (ad 40), .int w] σ (ex none (setf σ 40 1 (31 * σ 40 1 + w))) := by
  refine Ct.of2 [.ref (ad 40), .int w] rfl (Nat.le_of_ble_eq_true rfl) rfl ?_
  rintro X C rfl rfl rfl hxn hR
  refine V_aload_n_0 (q := 1) C rfl dX9_begins_0 ?_
  refine V_bipush (q := 3) (v := 31) C (by decide) rfl dX9_begins_1 ?_
  refine V_aload_n_0 (q := 4) C rfl dX9_begins_3 ?_
  refine gf_X9_227 (q := 7) C rfl dX9_begins_4 ?_
  refine V_imul (q := 8) C rfl dX9_begins_7 ?_
  refine V_iload_n_1 (q := 9) C rfl dX9_begins_8 ?_
  refine V_iadd (q := 10) C rfl dX9_begins_9 ?_
  refine pf_X9_227 (q := 13) C rfl dX9_begins_10 ?_
  refine V_vret C hR dX9_begins_13 ?_
  exact ⟨rfl, rfl⟩

def agF (σ : ST) (j : Nat) (a i n : Int32) : Int32 := if ¬ σ 41 j = -9 ∧ ¬ σ 41 j = a then 2 else if σ 41 j = -9 then 1 else if n < 0 then 4 else if i < 0 ∨ σ 42 j < i ∨ σ 42 j - i < n then 3 else 0

set_option maxHeartbeats 4000000 in
set_option maxRecDepth 100000 in
theorem c_X9_against {l : Launch} {D : DD} {ad : Nat → Nat} (σ : ST) (j : Nat) (a i n : Int32) (hj : j < 4) : Ct l yX9_against cX9_against 5 (Option.some FieldType.int) 0 0 D ad [.ref (ad 40), .int (nI j), .int a, .int i, .int n] σ (ex (some (.int (agF σ j a i n))) σ) := by
  refine Ct.of2 [.ref (ad 40), .int (nI j), .int a, .int i, .int n] rfl (Nat.le_of_ble_eq_true rfl) rfl ?_
  rintro X C rfl rfl rfl hxn hR
  refine V_aload_n_0 (q := 1) C rfl dX9_against_0 ?_
  refine gf_X9_9 (q := 4) C rfl dX9_against_1 ?_
  refine V_iload_n_1 (q := 5) C rfl dX9_against_4 ?_
  refine V_iald (q := 6) C _ rfl (by show _ < 4; omega) rfl (by decide) (by decide) rfl dX9_against_5 ?_
  refine V_bipush (q := 8) (v := (-9)) C (by decide) rfl dX9_against_6 ?_
  refine V_icmp_eq (tgt := 23) C rfl (by decide) dX9_against_8 (fun c8 => ?_) (fun c8 => ?_)
  · refine V_aload_n_0 (q := 24) C rfl dX9_against_23 ?_
    refine gf_X9_9 (q := 27) C rfl dX9_against_24 ?_
    refine V_iload_n_1 (q := 28) C rfl dX9_against_27 ?_
    refine V_iald (q := 29) C _ rfl (by show _ < 4; omega) rfl (by decide) (by decide) rfl dX9_against_28 ?_
    refine V_bipush (q := 31) (v := (-9)) C (by decide) rfl dX9_against_29 ?_
    refine V_icmp_ne (tgt := 36) C rfl (by decide) dX9_against_31 (fun c31 => ?_) (fun c31 => ?_)
    · refine V_iload_4 (q := 38) C rfl dX9_against_36 ?_
      refine V_if_ge (tgt := 43) C rfl (by decide) dX9_against_38 (fun c38 => ?_) (fun c38 => ?_)
      · refine V_iload_n_3 (q := 44) C rfl dX9_against_43 ?_
        refine V_if_lt (tgt := 70) C rfl (by decide) dX9_against_44 (fun c44 => ?_) (fun c44 => ?_)
        · refine V_iconst (q := 71) (v := 3) C rfl rfl dX9_against_70 ?_
          refine V_goto (tgt := 75) C (by decide) dX9_against_71 ?_
          refine V_iret C hR dX9_against_75 ?_
          exact absurd c8 c31
        · refine V_iload_n_3 (q := 48) C rfl dX9_against_47 ?_
          refine V_aload_n_0 (q := 49) C rfl dX9_against_48 ?_
          refine gf_X9_13 (q := 52) C rfl dX9_against_49 ?_
          refine V_iload_n_1 (q := 53) C rfl dX9_against_52 ?_
          refine V_iald (q := 54) C _ rfl (by show _ < 4; omega) rfl (by decide) (by decide) rfl dX9_against_53 ?_
          refine V_icmp_gt (tgt := 70) C rfl (by decide) dX9_against_54 (fun c54 => ?_) (fun c54 => ?_)
          · refine V_iconst (q := 71) (v := 3) C rfl rfl dX9_against_70 ?_
            refine V_goto (tgt := 75) C (by decide) dX9_against_71 ?_
            refine V_iret C hR dX9_against_75 ?_
            exact absurd c8 c31
          · refine V_iload_4 (q := 59) C rfl dX9_against_57 ?_
            refine V_aload_n_0 (q := 60) C rfl dX9_against_59 ?_
            refine gf_X9_13 (q := 63) C rfl dX9_against_60 ?_
            refine V_iload_n_1 (q := 64) C rfl dX9_against_63 ?_
            refine V_iald (q := 65) C _ rfl (by show _ < 4; omega) rfl (by decide) (by decide) rfl dX9_against_64 ?_
            refine V_iload_n_3 (q := 66) C rfl dX9_against_65 ?_
            refine V_isub (q := 67) C rfl dX9_against_66 ?_
            refine V_icmp_le (tgt := 74) C rfl (by decide) dX9_against_67 (fun c67 => ?_) (fun c67 => ?_)
            · refine V_iconst (q := 75) (v := 0) C rfl rfl dX9_against_74 ?_
              refine V_iret C hR dX9_against_75 ?_
              exact absurd c8 c31
            · refine V_iconst (q := 71) (v := 3) C rfl rfl dX9_against_70 ?_
              refine V_goto (tgt := 75) C (by decide) dX9_against_71 ?_
              refine V_iret C hR dX9_against_75 ?_
              exact absurd c8 c31
      · refine V_iconst (q := 42) (v := 4) C rfl rfl dX9_against_41 ?_
        refine V_iret C hR dX9_against_42 ?_
        exact absurd c8 c31
    · refine V_iconst (q := 35) (v := 1) C rfl rfl dX9_against_34 ?_
      refine V_iret C hR dX9_against_35 ?_
      exact ⟨by unfold agF; rw [if_neg (fun h => h.1 c8), if_pos c8], rfl⟩
  · refine V_aload_n_0 (q := 12) C rfl dX9_against_11 ?_
    refine gf_X9_9 (q := 15) C rfl dX9_against_12 ?_
    refine V_iload_n_1 (q := 16) C rfl dX9_against_15 ?_
    refine V_iald (q := 17) C _ rfl (by show _ < 4; omega) rfl (by decide) (by decide) rfl dX9_against_16 ?_
    refine V_iload_n_2 (q := 18) C rfl dX9_against_17 ?_
    refine V_icmp_eq (tgt := 23) C rfl (by decide) dX9_against_18 (fun c18 => ?_) (fun c18 => ?_)
    · refine V_aload_n_0 (q := 24) C rfl dX9_against_23 ?_
      refine gf_X9_9 (q := 27) C rfl dX9_against_24 ?_
      refine V_iload_n_1 (q := 28) C rfl dX9_against_27 ?_
      refine V_iald (q := 29) C _ rfl (by show _ < 4; omega) rfl (by decide) (by decide) rfl dX9_against_28 ?_
      refine V_bipush (q := 31) (v := (-9)) C (by decide) rfl dX9_against_29 ?_
      refine V_icmp_ne (tgt := 36) C rfl (by decide) dX9_against_31 (fun c31 => ?_) (fun c31 => ?_)
      · refine V_iload_4 (q := 38) C rfl dX9_against_36 ?_
        refine V_if_ge (tgt := 43) C rfl (by decide) dX9_against_38 (fun c38 => ?_) (fun c38 => ?_)
        · refine V_iload_n_3 (q := 44) C rfl dX9_against_43 ?_
          refine V_if_lt (tgt := 70) C rfl (by decide) dX9_against_44 (fun c44 => ?_) (fun c44 => ?_)
          · refine V_iconst (q := 71) (v := 3) C rfl rfl dX9_against_70 ?_
            refine V_goto (tgt := 75) C (by decide) dX9_against_71 ?_
            refine V_iret C hR dX9_against_75 ?_
            exact ⟨by unfold agF; rw [if_neg (fun h => h.2 c18), if_neg c8, if_neg (Int32.not_lt.mpr c38), if_pos (Or.inl c44)], rfl⟩
          · refine V_iload_n_3 (q := 48) C rfl dX9_against_47 ?_
            refine V_aload_n_0 (q := 49) C rfl dX9_against_48 ?_
            refine gf_X9_13 (q := 52) C rfl dX9_against_49 ?_
            refine V_iload_n_1 (q := 53) C rfl dX9_against_52 ?_
            refine V_iald (q := 54) C _ rfl (by show _ < 4; omega) rfl (by decide) (by decide) rfl dX9_against_53 ?_
            refine V_icmp_gt (tgt := 70) C rfl (by decide) dX9_against_54 (fun c54 => ?_) (fun c54 => ?_)
            · refine V_iconst (q := 71) (v := 3) C rfl rfl dX9_against_70 ?_
              refine V_goto (tgt := 75) C (by decide) dX9_against_71 ?_
              refine V_iret C hR dX9_against_75 ?_
              exact ⟨by unfold agF; rw [if_neg (fun h => h.2 c18), if_neg c8, if_neg (Int32.not_lt.mpr c38), if_pos (Or.inr (Or.inl c54))], rfl⟩
            · refine V_iload_4 (q := 59) C rfl dX9_against_57 ?_
              refine V_aload_n_0 (q := 60) C rfl dX9_against_59 ?_
              refine gf_X9_13 (q := 63) C rfl dX9_against_60 ?_
              refine V_iload_n_1 (q := 64) C rfl dX9_against_63 ?_
              refine V_iald (q := 65) C _ rfl (by show _ < 4; omega) rfl (by decide) (by decide) rfl dX9_against_64 ?_
              refine V_iload_n_3 (q := 66) C rfl dX9_against_65 ?_
              refine V_isub (q := 67) C rfl dX9_against_66 ?_
              refine V_icmp_le (tgt := 74) C rfl (by decide) dX9_against_67 (fun c67 => ?_) (fun c67 => ?_)
              · refine V_iconst (q := 75) (v := 0) C rfl rfl dX9_against_74 ?_
                refine V_iret C hR dX9_against_75 ?_
                exact ⟨by unfold agF; rw [if_neg (fun h => h.2 c18), if_neg c8, if_neg (Int32.not_lt.mpr c38), if_neg (fun h => h.elim c44 (fun h => h.elim c54 (Int32.not_lt.mpr c67)))], rfl⟩
              · refine V_iconst (q := 71) (v := 3) C rfl rfl dX9_against_70 ?_
                refine V_goto (tgt := 75) C (by decide) dX9_against_71 ?_
                refine V_iret C hR dX9_against_75 ?_
                exact ⟨by unfold agF; rw [if_neg (fun h => h.2 c18), if_neg c8, if_neg (Int32.not_lt.mpr c38), if_pos (Or.inr (Or.inr (Int32.not_le.mp c67)))], rfl⟩
        · refine V_iconst (q := 42) (v := 4) C rfl rfl dX9_against_41 ?_
          refine V_iret C hR dX9_against_42 ?_
          exact ⟨by unfold agF; rw [if_neg (fun h => h.2 c18), if_neg c8, if_pos (Int32.not_le.mp c38)], rfl⟩
      · refine V_iconst (q := 35) (v := 1) C rfl rfl dX9_against_34 ?_
        refine V_iret C hR dX9_against_35 ?_
        exact absurd c31 c8
    · refine V_iconst (q := 22) (v := 2) C rfl rfl dX9_against_21 ?_
      refine V_iret C hR dX9_against_22 ?_
      exact ⟨by unfold agF; rw [if_pos ⟨c8, c18⟩], rfl⟩

def wantM (k n : Int32) : Int32 := if k = 0 then n else if k = 1 then n + 1 else 2 * n + 2
def opM (k lk : Int32) : Int32 := if k = 2 then 63 else if k = 0 then own1 lk else own1 lk ||| own1 (remI (lk + 1) 6)

set_option maxHeartbeats 4000000 in
set_option maxRecDepth 100000 in
theorem c_X9_wants {l : Launch} {D : DD} {ad : Nat → Nat} (σ : ST) (j : Nat) (hj : j < 6) : Ct l yX9_wants cX9_wants 2 (Option.some FieldType.int) 0 0 D ad [.ref (ad 40), .int (nI j)] σ (ex (some (.int (wantM (σ 44 j) (σ 46 j)))) σ) := by
  refine Ct.of2 [.ref (ad 40), .int (nI j)] rfl (Nat.le_of_ble_eq_true rfl) rfl ?_
  rintro X C rfl rfl rfl hxn hR
  refine V_aload_n_0 (q := 1) C rfl dX9_wants_0 ?_
  refine gf_X9_19 (q := 4) C rfl dX9_wants_1 ?_
  refine V_iload_n_1 (q := 5) C rfl dX9_wants_4 ?_
  refine V_iald (q := 6) C _ rfl (by show _ < 6; omega) rfl (by decide) (by decide) rfl dX9_wants_5 ?_
  refine V_if_ne (tgt := 18) C rfl (by decide) dX9_wants_6 (fun c6 => ?_) (fun c6 => ?_)
  · refine V_aload_n_0 (q := 19) C rfl dX9_wants_18 ?_
    refine gf_X9_19 (q := 22) C rfl dX9_wants_19 ?_
    refine V_iload_n_1 (q := 23) C rfl dX9_wants_22 ?_
    refine V_iald (q := 24) C _ rfl (by show _ < 6; omega) rfl (by decide) (by decide) rfl dX9_wants_23 ?_
    refine V_iconst (q := 25) (v := 1) C rfl rfl dX9_wants_24 ?_
    refine V_icmp_ne (tgt := 39) C rfl (by decide) dX9_wants_25 (fun c25 => ?_) (fun c25 => ?_)
    · refine V_iconst (q := 40) (v := 2) C rfl rfl dX9_wants_39 ?_
      refine V_aload_n_0 (q := 41) C rfl dX9_wants_40 ?_
      refine gf_X9_25 (q := 44) C rfl dX9_wants_41 ?_
      refine V_iload_n_1 (q := 45) C rfl dX9_wants_44 ?_
      refine V_iald (q := 46) C _ rfl (by show _ < 6; omega) rfl (by decide) (by decide) rfl dX9_wants_45 ?_
      refine V_imul (q := 47) C rfl dX9_wants_46 ?_
      refine V_iconst (q := 48) (v := 2) C rfl rfl dX9_wants_47 ?_
      refine V_iadd (q := 49) C rfl dX9_wants_48 ?_
      refine V_iret C hR dX9_wants_49 ?_
      exact ⟨by unfold wantM; rw [if_neg c6, if_neg c25], rfl⟩
    · refine V_aload_n_0 (q := 29) C rfl dX9_wants_28 ?_
      refine gf_X9_25 (q := 32) C rfl dX9_wants_29 ?_
      refine V_iload_n_1 (q := 33) C rfl dX9_wants_32 ?_
      refine V_iald (q := 34) C _ rfl (by show _ < 6; omega) rfl (by decide) (by decide) rfl dX9_wants_33 ?_
      refine V_iconst (q := 35) (v := 1) C rfl rfl dX9_wants_34 ?_
      refine V_iadd (q := 36) C rfl dX9_wants_35 ?_
      refine V_goto (tgt := 49) C (by decide) dX9_wants_36 ?_
      refine V_iret C hR dX9_wants_49 ?_
      exact ⟨by unfold wantM; rw [if_neg c6, if_pos c25], rfl⟩
  · refine V_aload_n_0 (q := 10) C rfl dX9_wants_9 ?_
    refine gf_X9_25 (q := 13) C rfl dX9_wants_10 ?_
    refine V_iload_n_1 (q := 14) C rfl dX9_wants_13 ?_
    refine V_iald (q := 15) C _ rfl (by show _ < 6; omega) rfl (by decide) (by decide) rfl dX9_wants_14 ?_
    refine V_goto (tgt := 49) C (by decide) dX9_wants_15 ?_
    refine V_iret C hR dX9_wants_49 ?_
    exact ⟨by unfold wantM; rw [if_pos c6], rfl⟩

set_option maxHeartbeats 4000000 in
set_option maxRecDepth 100000 in
theorem c_X9_opens {l : Launch} {D : DD} {ad : Nat → Nat} (σ : ST) (j : Nat) (hj : j < 6) : Ct l yX9_opens cX9_opens 2 (Option.some FieldType.int) 0 0 D ad [.ref (ad 40), .int (nI j)] σ (ex (some (.int (opM (σ 44 j) (σ 45 j)))) σ) := by
  refine Ct.of2 [.ref (ad 40), .int (nI j)] rfl (Nat.le_of_ble_eq_true rfl) rfl ?_
  rintro X C rfl rfl rfl hxn hR
  refine V_aload_n_0 (q := 1) C rfl dX9_opens_0 ?_
  refine gf_X9_19 (q := 4) C rfl dX9_opens_1 ?_
  refine V_iload_n_1 (q := 5) C rfl dX9_opens_4 ?_
  refine V_iald (q := 6) C _ rfl (by show _ < 6; omega) rfl (by decide) (by decide) rfl dX9_opens_5 ?_
  refine V_iconst (q := 7) (v := 2) C rfl rfl dX9_opens_6 ?_
  refine V_icmp_ne (tgt := 13) C rfl (by decide) dX9_opens_7 (fun c7 => ?_) (fun c7 => ?_)
  · refine V_aload_n_0 (q := 14) C rfl dX9_opens_13 ?_
    refine gf_X9_19 (q := 17) C rfl dX9_opens_14 ?_
    refine V_iload_n_1 (q := 18) C rfl dX9_opens_17 ?_
    refine V_iald (q := 19) C _ rfl (by show _ < 6; omega) rfl (by decide) (by decide) rfl dX9_opens_18 ?_
    refine V_if_ne (tgt := 33) C rfl (by decide) dX9_opens_19 (fun c19 => ?_) (fun c19 => ?_)
    · refine V_iconst (q := 34) (v := 1) C rfl rfl dX9_opens_33 ?_
      refine V_aload_n_0 (q := 35) C rfl dX9_opens_34 ?_
      refine gf_X9_22 (q := 38) C rfl dX9_opens_35 ?_
      refine V_iload_n_1 (q := 39) C rfl dX9_opens_38 ?_
      refine V_iald (q := 40) C _ rfl (by show _ < 6; omega) rfl (by decide) (by decide) rfl dX9_opens_39 ?_
      refine V_ishl (q := 41) C rfl dX9_opens_40 ?_
      refine V_iconst (q := 42) (v := 1) C rfl rfl dX9_opens_41 ?_
      refine V_aload_n_0 (q := 43) C rfl dX9_opens_42 ?_
      refine gf_X9_22 (q := 46) C rfl dX9_opens_43 ?_
      refine V_iload_n_1 (q := 47) C rfl dX9_opens_46 ?_
      refine V_iald (q := 48) C _ rfl (by show _ < 6; omega) rfl (by decide) (by decide) rfl dX9_opens_47 ?_
      refine V_iconst (q := 49) (v := 1) C rfl rfl dX9_opens_48 ?_
      refine V_iadd (q := 50) C rfl dX9_opens_49 ?_
      refine V_bipush (q := 52) (v := 6) C (by decide) rfl dX9_opens_50 ?_
      refine V_irem (q := 53) C (by decide) rfl dX9_opens_52 ?_
      refine V_ishl (q := 54) C rfl dX9_opens_53 ?_
      refine V_ior (q := 55) C rfl dX9_opens_54 ?_
      refine V_iret C hR dX9_opens_55 ?_
      exact ⟨by unfold opM; rw [if_neg c7, if_neg c19]; rfl, rfl⟩
    · refine V_iconst (q := 23) (v := 1) C rfl rfl dX9_opens_22 ?_
      refine V_aload_n_0 (q := 24) C rfl dX9_opens_23 ?_
      refine gf_X9_22 (q := 27) C rfl dX9_opens_24 ?_
      refine V_iload_n_1 (q := 28) C rfl dX9_opens_27 ?_
      refine V_iald (q := 29) C _ rfl (by show _ < 6; omega) rfl (by decide) (by decide) rfl dX9_opens_28 ?_
      refine V_ishl (q := 30) C rfl dX9_opens_29 ?_
      refine V_goto (tgt := 55) C (by decide) dX9_opens_30 ?_
      refine V_iret C hR dX9_opens_55 ?_
      exact ⟨by unfold opM; rw [if_neg c7, if_pos c19]; rfl, rfl⟩
  · refine V_bipush (q := 12) (v := 63) C (by decide) rfl dX9_opens_10 ?_
    refine V_iret C hR dX9_opens_12 ?_
    exact ⟨by unfold opM; rw [if_pos c7], rfl⟩

set_option maxHeartbeats 4000000 in
set_option maxRecDepth 100000 in
theorem c_X9_bears {l : Launch} {D : DD} {ad : Nat → Nat} (σ : ST) (j : Nat) (hj : j < 6) : Ct l yX9_bears cX9_bears 2 (Option.some FieldType.boolean) 1 21 D ad [.ref (ad 40), .int (nI j)] σ (ex (some (.int (pI (wantM (σ 44 j) (σ 46 j) ≤ σ 60 j)))) σ) := by
  refine Ct.of2 [.ref (ad 40), .int (nI j)] rfl (Nat.le_of_ble_eq_true rfl) rfl ?_
  rintro X C rfl rfl rfl hxn hR
  refine V_aload_n_0 (q := 1) C rfl dX9_bears_0 ?_
  refine gf_X9_68 (q := 4) C rfl dX9_bears_1 ?_
  refine V_iload_n_1 (q := 5) C rfl dX9_bears_4 ?_
  refine V_iald (q := 6) C _ rfl (by show _ < 6; omega) rfl (by decide) (by decide) rfl dX9_bears_5 ?_
  refine V_aload_n_0 (q := 7) C rfl dX9_bears_6 ?_
  refine V_iload_n_1 (q := 8) C rfl dX9_bears_7 ?_
  refine V_cV1r (q := 11) C (c_X9_wants σ j hj) cw_X9_wants cv_X9_wants wm_X9_156 (by decide) ob_X9 ⟨by decide, by decide⟩ (Nat.le_of_ble_eq_true rfl) rfl dX9_bears_8 ?_
  refine V_icmp_lt (tgt := 18) C rfl (by decide) dX9_bears_11 (fun c11 => ?_) (fun c11 => ?_)
  · refine V_iconst (q := 19) (v := 0) C rfl rfl dX9_bears_18 ?_
    refine V_zret C hR rfl dX9_bears_19 ?_
    exact ⟨by rw [pI_f (Int32.not_le.mpr c11)], rfl⟩
  · refine V_iconst (q := 15) (v := 1) C rfl rfl dX9_bears_14 ?_
    refine V_goto (tgt := 19) C (by decide) dX9_bears_15 ?_
    refine V_zret C hR rfl dX9_bears_19 ?_
    exact ⟨by rw [pI_t (Int32.not_lt.mp c11)], rfl⟩

abbrev S3 : Type := (Nat → Int32) × (Nat → Int32) × (Nat → Int32)
def putM (σ : ST) (s : S3) : ST := setc (setc (setc σ 60 s.1) 61 s.2.1) 62 s.2.2
def getM (σ : ST) : S3 := (σ 60, σ 61, σ 62)
theorem putM_putM {σ : ST} {s : S3} {t : S3} : putM (putM σ s) t = putM σ t := by
  funext z
  by_cases e0 : z = 62
  · subst e0; rfl
  · by_cases e1 : z = 61
    · subst e1; rfl
    · by_cases e2 : z = 60
      · subst e2; rfl
      · simp only [putM, setc, if_neg e0, if_neg e1, if_neg e2]
theorem putM_w {σ : ST} {s : S3} {w : Nat → Int32} : setc (putM σ s) 60 w = putM σ (w, s.2) := by
  funext z
  by_cases e0 : z = 62
  · subst e0; rfl
  · by_cases e1 : z = 61
    · subst e1; rfl
    · by_cases e2 : z = 60
      · subst e2; rfl
      · simp only [putM, setc, if_neg e0, if_neg e1, if_neg e2]
theorem putM_o {σ : ST} {s : S3} {w : Nat → Int32} : setc (putM σ s) 61 w = putM σ (s.1, w, s.2.2) := by
  funext z
  by_cases e0 : z = 62
  · subst e0; rfl
  · by_cases e1 : z = 61
    · subst e1; rfl
    · by_cases e2 : z = 60
      · subst e2; rfl
      · simp only [putM, setc, if_neg e0, if_neg e1, if_neg e2]
theorem putM_b {σ : ST} {s : S3} {w : Nat → Int32} : setc (putM σ s) 62 w = putM σ (s.1, s.2.1, w) := by
  funext z
  by_cases e0 : z = 62
  · subst e0; rfl
  · by_cases e1 : z = 61
    · subst e1; rfl
    · by_cases e2 : z = 60
      · subst e2; rfl
      · simp only [putM, setc, if_neg e0, if_neg e1, if_neg e2]
theorem putM_get {σ : ST} : putM σ (getM σ) = σ := by
  funext z
  by_cases e0 : z = 62
  · subst e0; rfl
  · by_cases e1 : z = 61
    · subst e1; rfl
    · by_cases e2 : z = 60
      · subst e2; rfl
      · simp only [putM, setc, if_neg e0, if_neg e1, if_neg e2]
def woM (σ : ST) (d : Nat) : Int32 := if σ 40 31 = -9 then σ 51 d else if nI d < σ 40 31 then σ 63 d else -9
def MH (σ : ST) (T P C : Nat) : Prop := σ 40 5 = nI T ∧ T ≤ 6 ∧ σ 40 6 = nI P ∧ P ≤ 6 ∧ σ 40 24 = nI C ∧ C ≤ 7 ∧ (∀ c, c < C → ∃ t : Nat, t < T ∧ σ 59 c = nI t) ∧ (σ 40 31 = -9 ∨ ∃ L : Nat, L ≤ 4 ∧ σ 40 31 = nI L) ∧ ∀ d, d < 30 → woM σ d = -9 ∨ ∃ t : Nat, t < T ∧ woM σ d = nI t
def gwM (T : Nat) (f a x : Int32) (w : Nat → Int32) : Nat → Int32 := if ¬ f = 0 then w else if x = -9 then pre T (fun t => w t + a) w else upd (pre T (fun t => w t + a) w) x.toNatClampNeg (pre T (fun t => w t + a) w x.toNatClampNeg + 3)
abbrev ukQ (σ : ST) (j : Nat) (on : Nat → Int32) (p : Nat) : Prop := on p = -9 ∧ (opM (σ 44 j) (σ 45 j) >>> (σ 48 p &&& 31)) &&& 1 = 1
def ukM (σ : ST) (P j : Nat) (d : Int32) (s : S3) : S3 := match fst? (ukQ σ j s.2.1) P 0 with
  | some p => (upd s.1 j 0, upd s.2.1 p d, upd s.2.2 p (nI j))
  | none => s
def crM (σ : ST) (d : Nat) : Nat → (Nat → Int32) → Nat → Int32
  | 0, w => w
  | c + 1, w => if σ 58 c = nI d ∧ wantM (σ 44 (σ 59 c).toNatClampNeg) (σ 46 (σ 59 c).toNatClampNeg) ≤ crM σ d c w (σ 59 c).toNatClampNeg then upd (crM σ d c w) (σ 59 c).toNatClampNeg 0 else crM σ d c w
def kyM (σ : ST) (P d : Nat) : Nat → S3 → S3
  | 0, s => s
  | t + 1, s => if σ 47 t = 0 ∧ wantM (σ 44 t) (σ 46 t) ≤ (kyM σ P d t s).1 t then ukM σ P t (nI d) (kyM σ P d t s) else kyM σ P d t s
def tmM (σ : ST) (d : Nat) (o : Nat → Int32) (p : Nat) : Int32 := if o p = -9 ∧ σ 49 p = nI d then nI d else o p
def md1 (σ : ST) (T d : Nat) (s : S3) : S3 := (gwM T (σ 52 d) (σ 50 d) (woM σ d) s.1, s.2)
def md2 (σ : ST) (C d : Nat) (s : S3) : S3 := (crM σ d C s.1, s.2)
def md4 (σ : ST) (P d : Nat) (s : S3) : S3 := (s.1, pre P (tmM σ d s.2.1) s.2.1, s.2.2)
def mDay (σ : ST) (T P C d : Nat) (s : S3) : S3 := md4 σ P d (kyM σ P d T (md2 σ C d (md1 σ T d s)))
def mDays (σ : ST) (T P C : Nat) : Nat → S3 → S3
  | 0, s => s
  | n + 1, s => mDay σ T P C n (mDays σ T P C n s)
def m0 (σ : ST) (T P : Nat) : S3 := (pre T (fun _ => 0) (σ 60), pre P (fun _ => -9) (σ 61), pre P (fun _ => -9) (σ 62))

set_option maxHeartbeats 4000000 in
set_option maxRecDepth 100000 in
theorem c_X9_wateredOn {l : Launch} {D : DD} {ad : Nat → Nat} (σ : ST) (T P C2 d : Nat) (hM : MH σ T P C2) (hd : d < 30) : Ct l yX9_wateredOn cX9_wateredOn 2 (Option.some FieldType.int) 0 0 D ad [.ref (ad 40), .int (nI d)] σ (ex (some (.int (woM σ d))) σ) := by
  refine Ct.of2 [.ref (ad 40), .int (nI d)] rfl (Nat.le_of_ble_eq_true rfl) rfl ?_
  rintro X C rfl rfl rfl hxn hR
  refine V_aload_n_0 (q := 1) C rfl dX9_wateredOn_0 ?_
  refine gf_X9_80 (q := 4) C rfl dX9_wateredOn_1 ?_
  refine V_bipush (q := 6) (v := (-9)) C (by decide) rfl dX9_wateredOn_4 ?_
  refine V_icmp_ne (tgt := 16) C rfl (by decide) dX9_wateredOn_6 (fun c6 => ?_) (fun c6 => ?_)
  · refine V_iload_n_1 (q := 17) C rfl dX9_wateredOn_16 ?_
    refine V_aload_n_0 (q := 18) C rfl dX9_wateredOn_17 ?_
    refine gf_X9_80 (q := 21) C rfl dX9_wateredOn_18 ?_
    refine V_icmp_ge (tgt := 33) C rfl (by decide) dX9_wateredOn_21 (fun c21 => ?_) (fun c21 => ?_)
    · refine V_bipush (q := 35) (v := (-9)) C (by decide) rfl dX9_wateredOn_33 ?_
      refine V_iret C hR dX9_wateredOn_35 ?_
      exact ⟨by unfold woM; rw [if_neg c6, if_neg (Int32.not_lt.mpr c21)], rfl⟩
    · refine V_aload_n_0 (q := 25) C rfl dX9_wateredOn_24 ?_
      refine gf_X9_77 (q := 28) C rfl dX9_wateredOn_25 ?_
      refine V_iload_n_1 (q := 29) C rfl dX9_wateredOn_28 ?_
      have hd4 : d < 4 := by
        rcases hM.2.2.2.2.2.2.2.1 with h | ⟨L, hL, h⟩
        · exact absurd h c6
        · have := Int32.not_le.mp c21
          rw [h, nI_ltI (by omega) (by omega)] at this
          omega
      refine V_iald (q := 30) C _ rfl (by show _ < 4; omega) rfl (by decide) (by decide) rfl dX9_wateredOn_29 ?_
      refine V_goto (tgt := 35) C (by decide) dX9_wateredOn_30 ?_
      refine V_iret C hR dX9_wateredOn_35 ?_
      exact ⟨by unfold woM; rw [if_neg c6, if_pos (Int32.not_le.mp c21)], rfl⟩
  · refine V_aload_n_0 (q := 10) C rfl dX9_wateredOn_9 ?_
    refine gf_X9_41 (q := 13) C rfl dX9_wateredOn_10 ?_
    refine V_iload_n_1 (q := 14) C rfl dX9_wateredOn_13 ?_
    refine V_iald (q := 15) C _ rfl (by show _ < 30; omega) rfl (by decide) (by decide) rfl dX9_wateredOn_14 ?_
    refine V_iret C hR dX9_wateredOn_15 ?_
    exact ⟨by unfold woM; rw [if_pos c6], rfl⟩

theorem V_weak3 {X : CT} {pc : Nat} {a0 a1 a2 : Value} {st : List Value} {σ : ST} (k : V X pc [a0, a1, .float 0] st σ) : V X pc [a0, a1, a2] st σ := fun H locs ls hP hS hl => k H locs ls hP hS (LV.of hl fun i v hi hd => mem_al.mpr ⟨by
  have : i < 3 := (List.getElem?_eq_some_iff.mp hi).1
  have h2 : i = 0 ∨ i = 1 ∨ i = 2 := by omega
  rcases h2 with rfl | rfl | rfl
  · exact hi
  · exact hi
  · cases hi; exact absurd hd (by decide), hd⟩)

set_option maxHeartbeats 4000000 in
set_option maxRecDepth 100000 in
theorem c_X9_giveWater {l : Launch} {D : DD} {ad : Nat → Nat} (σ : ST) (s : S3) (T P C2 d : Nat) (hM : MH σ T P C2) (hd : d < 30) : Ct l yX9_giveWater cX9_giveWater 3 (Option.none : Option FieldType) 1 21 D ad [.ref (ad 40), .int (nI d)] (putM σ s) (ex none (putM σ (md1 σ T d s))) := by
  refine Ct.of2 [.ref (ad 40), .int (nI d), .float 0] rfl (Nat.le_of_ble_eq_true rfl) rfl ?_
  rintro X C rfl rfl rfl hxn hR
  have hn2 : 2 < xn X := by rw [← hxn]; decide
  have hT6 := hM.2.1
  have hP6 := hM.2.2.2.1
  have hC7 := hM.2.2.2.2.2.1
  have k40 : V X 40 [.ref (xad X 40), .int (nI d), .float 0] [] (putM σ ((if σ 52 d = 0 then pre T (fun t => s.1 t + σ 50 d) s.1 else s.1), s.2)) := by
    refine V_aload_n_0 (q := 41) C rfl dX9_giveWater_40 ?_
    refine V_iload_n_1 (q := 42) C rfl dX9_giveWater_41 ?_
    refine V_cV1r (q := 45) C (Ct.mono (v' := some (.int (woM σ d))) (c_X9_wateredOn (putM σ ((if σ 52 d = 0 then pre T (fun t => s.1 t + σ 50 d) s.1 else s.1), s.2)) T P C2 d hM hd) rfl rfl) cw_X9_wateredOn cv_X9_wateredOn wm_X9_168 (by decide) ob_X9 ⟨by decide, by decide⟩ (Nat.le_of_ble_eq_true rfl) rfl dX9_giveWater_42 ?_
    refine V_istore_n_2 (q := 46) C hn2 rfl rfl dX9_giveWater_45 ?_
    refine V_iload_n_2 (q := 47) C rfl dX9_giveWater_46 ?_
    refine V_bipush (q := 49) (v := (-9)) C (by decide) rfl dX9_giveWater_47 ?_
    refine V_icmp_eq (tgt := 71) C rfl (by decide) dX9_giveWater_49 (fun c49 => ?_) (fun c49 => ?_)
    · refine V_vret C hR dX9_giveWater_71 ?_
      refine ⟨rfl, ?_⟩
      unfold md1 gwM
      by_cases hf : σ 52 d = 0
      · rw [if_pos hf, if_neg (nn hf), if_pos c49]
      · rw [if_neg hf, if_pos hf]
    · refine V_aload_n_0 (q := 53) C rfl dX9_giveWater_52 ?_
      refine gf_X9_44 (q := 56) C rfl dX9_giveWater_53 ?_
      refine V_iload_n_1 (q := 57) C rfl dX9_giveWater_56 ?_
      refine V_zald (q := 58) C _ rfl (by show _ < 30; omega) rfl (by decide) (by decide) rfl dX9_giveWater_57 ?_
      show V X 58 _ (.int (σ 52 d) :: []) _
      refine V_if_ne (tgt := 71) C rfl (by decide) dX9_giveWater_58 (fun c58 => ?_) (fun c58 => ?_)
      · refine V_vret C hR dX9_giveWater_71 ?_
        refine ⟨rfl, ?_⟩
        unfold md1 gwM
        rw [if_neg c58, if_pos c58]
      · obtain ⟨t, ht, et⟩ := (hM.2.2.2.2.2.2.2.2 d hd).resolve_left c49
        refine V_aload_n_0 (q := 62) C rfl dX9_giveWater_61 ?_
        refine gf_X9_68 (q := 65) C rfl dX9_giveWater_62 ?_
        refine V_iload_n_2 (q := 66) C rfl dX9_giveWater_65 ?_
        refine V_dup2 (q := 67) C rfl rfl rfl dX9_giveWater_66 ?_
        refine V_iald (q := 68) C t et (by show _ < 6; omega) rfl (by decide) (by decide) rfl dX9_giveWater_67 ?_
        refine V_iconst (q := 69) (v := 3) C rfl rfl dX9_giveWater_68 ?_
        refine V_iadd (q := 70) C rfl dX9_giveWater_69 ?_
        refine V_iast (q := 71) C t et (by show _ < 6; omega) rfl (by decide) (by decide) rfl dX9_giveWater_70 ?_
        refine V_vret C hR dX9_giveWater_71 ?_
        refine ⟨rfl, ?_⟩
        unfold md1 gwM
        rw [if_pos c58, if_neg (nn c58), if_neg c49, et, nI_clamp (by omega)]
        exact putM_w
  refine V_iconst (q := 1) (v := (nI 0)) C rfl rfl dX9_giveWater_0 ?_
  refine V_istore_n_2 (q := 2) C hn2 rfl rfl dX9_giveWater_1 ?_
  have hx2 : (0 < T → σ 52 d = 0) → V X 2 [.ref (xad X 40), .int (nI d), .int (nI T)] [] (putM σ (pre T (fun t => s.1 t + σ 50 d) s.1, s.2)) := by
    intro hv2
    refine V_iload_n_2 (q := 3) C rfl dX9_giveWater_2 ?_
    refine V_aload_n_0 (q := 4) C rfl dX9_giveWater_3 ?_
    refine gf_X9_105 (q := 7) C rfl dX9_giveWater_4 ?_
    rw [show (putM σ (pre T (fun t => s.1 t + σ 50 d) s.1, s.2)) 40 5 = nI T from hM.1]
    refine V_icmp_ge_t (tgt := 40) C (nI_le (Nat.le_refl _) (by omega)) (by decide) dX9_giveWater_7 ?_
    refine V_weak3 (V_eq ?_ k40)
    by_cases hf : σ 52 d = 0
    · rw [if_pos hf]
    · rw [if_neg hf]
      rcases Nat.eq_zero_or_pos T with h | h
      · rw [h, pre_0]
      · exact absurd (hv2 h) hf
  have hs2 : ∀ i : Nat, i < T → ((0 < (i + 1) → σ 52 d = 0) → V X 2 [.ref (xad X 40), .int (nI d), .int (nI (i + 1))] [] (putM σ (pre (i + 1) (fun t => s.1 t + σ 50 d) s.1, s.2))) → (0 < i → σ 52 d = 0) → V X 2 [.ref (xad X 40), .int (nI d), .int (nI i)] [] (putM σ (pre i (fun t => s.1 t + σ 50 d) s.1, s.2)) := by
    intro i hi2 ih2 hv2
    refine V_iload_n_2 (q := 3) C rfl dX9_giveWater_2 ?_
    refine V_aload_n_0 (q := 4) C rfl dX9_giveWater_3 ?_
    refine gf_X9_105 (q := 7) C rfl dX9_giveWater_4 ?_
    rw [show (putM σ (pre i (fun t => s.1 t + σ 50 d) s.1, s.2)) 40 5 = nI T from hM.1]
    refine V_icmp_ge_f (tgt := 40) C (nI_ge hi2 (by omega)) rfl (by decide) dX9_giveWater_7 ?_
    refine V_aload_n_0 (q := 11) C rfl dX9_giveWater_10 ?_
    refine gf_X9_44 (q := 14) C rfl dX9_giveWater_11 ?_
    refine V_iload_n_1 (q := 15) C rfl dX9_giveWater_14 ?_
    refine V_zald (q := 16) C _ rfl (by show _ < 30; omega) rfl (by decide) (by decide) rfl dX9_giveWater_15 ?_
    show V X 16 _ (.int (σ 52 d) :: []) _
    refine V_if_ne (tgt := 40) C rfl (by decide) dX9_giveWater_16 (fun c16 => ?_) (fun c16 => ?_)
    · refine V_weak3 (V_eq ?_ k40)
      rw [if_neg c16]
      rcases Nat.eq_zero_or_pos i with h | h
      · rw [h, pre_0]
      · exact absurd (hv2 h) c16
    · refine V_aload_n_0 (q := 20) C rfl dX9_giveWater_19 ?_
      refine gf_X9_68 (q := 23) C rfl dX9_giveWater_20 ?_
      refine V_iload_n_2 (q := 24) C rfl dX9_giveWater_23 ?_
      refine V_dup2 (q := 25) C rfl rfl rfl dX9_giveWater_24 ?_
      refine V_iald (q := 26) C _ rfl (by show _ < 6; omega) rfl (by decide) (by decide) rfl dX9_giveWater_25 ?_
      refine V_aload_n_0 (q := 27) C rfl dX9_giveWater_26 ?_
      refine gf_X9_38 (q := 30) C rfl dX9_giveWater_27 ?_
      refine V_iload_n_1 (q := 31) C rfl dX9_giveWater_30 ?_
      refine V_iald (q := 32) C _ rfl (by show _ < 30; omega) rfl (by decide) (by decide) rfl dX9_giveWater_31 ?_
      refine V_iadd (q := 33) C rfl dX9_giveWater_32 ?_
      refine V_iast (q := 34) C _ rfl (by show _ < 6; omega) rfl (by decide) (by decide) rfl dX9_giveWater_33 ?_
      refine V_iinc_2 (q := 37) (n := 1) C nI_inc hn2 rfl rfl dX9_giveWater_34 ?_
      refine V_goto (tgt := 2) C (by decide) dX9_giveWater_37 ?_
      refine V_eq ?_ (ih2 (fun _ => c16))
      show setc (putM σ (pre i (fun t => s.1 t + σ 50 d) s.1, s.2)) 60 (upd (pre i (fun t => s.1 t + σ 50 d) s.1) i (pre i (fun t => s.1 t + σ 50 d) s.1 i + σ 50 d)) = _
      rw [putM_w, pre_ge (Nat.lt_irrefl i), pre_step rfl]
  exact V_eq (by rw [pre_0]) (loopN (P := fun i => (0 < i → σ 52 d = 0) → V X 2 [.ref (xad X 40), .int (nI d), .int (nI i)] [] (putM σ (pre i (fun t => s.1 t + σ 50 d) s.1, s.2))) (T) hx2 hs2 0 (Nat.zero_le _) (fun h => absurd h (Nat.lt_irrefl 0)))

set_option maxHeartbeats 4000000 in
set_option maxRecDepth 100000 in
theorem c_X9_useKey {l : Launch} {D : DD} {ad : Nat → Nat} (σ : ST) (s : S3) (P j : Nat) (d : Int32) (hP : σ 40 6 = nI P) (hP6 : P ≤ 6) (hj : j < 6) : Ct l yX9_useKey cX9_useKey 4 (Option.none : Option FieldType) 1 21 D ad [.ref (ad 40), .int (nI j), .int d] (putM σ s) (ex none (putM σ (ukM σ P j d s))) := by
  refine Ct.of2 [.ref (ad 40), .int (nI j), .int d, .float 0] rfl (Nat.le_of_ble_eq_true rfl) rfl ?_
  rintro X C rfl rfl rfl hxn hR
  have hn3 : 3 < xn X := by rw [← hxn]; decide
  refine V_iconst (q := 1) (v := (nI 0)) C rfl rfl dX9_useKey_0 ?_
  refine V_istore_n_3 (q := 2) C hn3 rfl rfl dX9_useKey_1 ?_
  have hx2 : (fst? (ukQ σ j s.2.1) P 0 = fst? (ukQ σ j s.2.1) (P - P) P) → V X 2 [.ref (xad X 40), .int (nI j), .int d, .int (nI P)] [] (putM σ s) := by
    intro hv2
    refine V_iload_n_3 (q := 3) C rfl dX9_useKey_2 ?_
    refine V_aload_n_0 (q := 4) C rfl dX9_useKey_3 ?_
    refine gf_X9_108 (q := 7) C rfl dX9_useKey_4 ?_
    rw [show (putM σ s) 40 6 = nI P from hP]
    refine V_icmp_ge_t (tgt := 67) C (nI_le (Nat.le_refl _) (by omega)) (by decide) dX9_useKey_7 ?_
    refine V_vret C hR dX9_useKey_67 ?_
    refine ⟨rfl, ?_⟩
    unfold ukM
    rw [hv2, Nat.sub_self]
    rfl
  have hs2 : ∀ p : Nat, p < P → ((fst? (ukQ σ j s.2.1) P 0 = fst? (ukQ σ j s.2.1) (P - (p + 1)) (p + 1)) → V X 2 [.ref (xad X 40), .int (nI j), .int d, .int (nI (p + 1))] [] (putM σ s)) → (fst? (ukQ σ j s.2.1) P 0 = fst? (ukQ σ j s.2.1) (P - p) p) → V X 2 [.ref (xad X 40), .int (nI j), .int d, .int (nI p)] [] (putM σ s) := by
    intro p hi2 ih2 hv2
    have hf : fst? (ukQ σ j s.2.1) P 0 = if ukQ σ j s.2.1 p then some p else fst? (ukQ σ j s.2.1) (P - (p + 1)) (p + 1) := by rw [hv2, show P - p = (P - (p + 1)) + 1 by omega]; rfl
    refine V_iload_n_3 (q := 3) C rfl dX9_useKey_2 ?_
    refine V_aload_n_0 (q := 4) C rfl dX9_useKey_3 ?_
    refine gf_X9_108 (q := 7) C rfl dX9_useKey_4 ?_
    rw [show (putM σ s) 40 6 = nI P from hP]
    refine V_icmp_ge_f (tgt := 67) C (nI_ge hi2 (by omega)) rfl (by decide) dX9_useKey_7 ?_
    refine V_aload_n_0 (q := 11) C rfl dX9_useKey_10 ?_
    refine gf_X9_71 (q := 14) C rfl dX9_useKey_11 ?_
    refine V_iload_n_3 (q := 15) C rfl dX9_useKey_14 ?_
    refine V_iald (q := 16) C _ rfl (by show _ < 6; omega) rfl (by decide) (by decide) rfl dX9_useKey_15 ?_
    refine V_bipush (q := 18) (v := (-9)) C (by decide) rfl dX9_useKey_16 ?_
    show V X 18 _ (.int (-9) :: .int (s.2.1 p) :: []) _
    refine V_icmp_ne (tgt := 61) C rfl (by decide) dX9_useKey_18 (fun c18 => ?_) (fun c18 => ?_)
    · refine V_iinc_3 (q := 64) (n := 1) C nI_inc hn3 rfl rfl dX9_useKey_61 ?_
      refine V_goto (tgt := 2) C (by decide) dX9_useKey_64 ?_
      first
      | exact ih2 (by rw [hf, if_neg (fun h => c18 h.1)])
      | exact ih2 (by rw [hf, if_neg (fun h => c36 h.2)])
    · refine V_aload_n_0 (q := 22) C rfl dX9_useKey_21 ?_
      refine V_iload_n_1 (q := 23) C rfl dX9_useKey_22 ?_
      refine V_cV1r (q := 26) C (Ct.mono (v' := some (.int (opM (σ 44 j) (σ 45 j)))) (c_X9_opens (putM σ s) j hj) rfl rfl) cw_X9_opens cv_X9_opens wm_X9_159 (by decide) ob_X9 ⟨by decide, by decide⟩ (Nat.le_of_ble_eq_true rfl) rfl dX9_useKey_23 ?_
      refine V_aload_n_0 (q := 27) C rfl dX9_useKey_26 ?_
      refine gf_X9_32 (q := 30) C rfl dX9_useKey_27 ?_
      refine V_iload_n_3 (q := 31) C rfl dX9_useKey_30 ?_
      refine V_iald (q := 32) C _ rfl (by show _ < 6; omega) rfl (by decide) (by decide) rfl dX9_useKey_31 ?_
      refine V_ishr (q := 33) C rfl dX9_useKey_32 ?_
      refine V_iconst (q := 34) (v := 1) C rfl rfl dX9_useKey_33 ?_
      refine V_iand (q := 35) C rfl dX9_useKey_34 ?_
      refine V_iconst (q := 36) (v := 1) C rfl rfl dX9_useKey_35 ?_
      show V X 36 _ (.int 1 :: .int ((opM (σ 44 j) (σ 45 j) >>> (σ 48 p &&& 31)) &&& 1) :: []) _
      refine V_icmp_ne (tgt := 61) C rfl (by decide) dX9_useKey_36 (fun c36 => ?_) (fun c36 => ?_)
      · refine V_iinc_3 (q := 64) (n := 1) C nI_inc hn3 rfl rfl dX9_useKey_61 ?_
        refine V_goto (tgt := 2) C (by decide) dX9_useKey_64 ?_
        first
        | exact ih2 (by rw [hf, if_neg (fun h => c18 h.1)])
        | exact ih2 (by rw [hf, if_neg (fun h => c36 h.2)])
      · refine V_aload_n_0 (q := 40) C rfl dX9_useKey_39 ?_
        refine gf_X9_71 (q := 43) C rfl dX9_useKey_40 ?_
        refine V_iload_n_3 (q := 44) C rfl dX9_useKey_43 ?_
        refine V_iload_n_2 (q := 45) C rfl dX9_useKey_44 ?_
        refine V_iast (q := 46) C _ rfl (by show _ < 6; omega) rfl (by decide) (by decide) rfl dX9_useKey_45 ?_
        refine V_aload_n_0 (q := 47) C rfl dX9_useKey_46 ?_
        refine gf_X9_74 (q := 50) C rfl dX9_useKey_47 ?_
        refine V_iload_n_3 (q := 51) C rfl dX9_useKey_50 ?_
        refine V_iload_n_1 (q := 52) C rfl dX9_useKey_51 ?_
        refine V_iast (q := 53) C _ rfl (by show _ < 6; omega) rfl (by decide) (by decide) rfl dX9_useKey_52 ?_
        refine V_aload_n_0 (q := 54) C rfl dX9_useKey_53 ?_
        refine gf_X9_68 (q := 57) C rfl dX9_useKey_54 ?_
        refine V_iload_n_1 (q := 58) C rfl dX9_useKey_57 ?_
        refine V_iconst (q := 59) (v := 0) C rfl rfl dX9_useKey_58 ?_
        refine V_iast (q := 60) C _ rfl (by show _ < 6; omega) rfl (by decide) (by decide) rfl dX9_useKey_59 ?_
        refine V_vret C hR dX9_useKey_60 ?_
        refine ⟨rfl, ?_⟩
        unfold ukM
        rw [hf, if_pos ⟨c18, c36⟩]
        show setc (setc (setc (putM σ s) 61 (upd s.2.1 p d)) 62 (upd s.2.2 p (nI j))) 60 (upd s.1 j 0) = _
        rw [putM_o, putM_b, putM_w]
  exact V_eq (rfl) (loopN (P := fun p => (fst? (ukQ σ j s.2.1) P 0 = fst? (ukQ σ j s.2.1) (P - p) p) → V X 2 [.ref (xad X 40), .int (nI j), .int d, .int (nI p)] [] (putM σ s)) (P) hx2 hs2 0 (Nat.zero_le _) (rfl))

set_option maxHeartbeats 4000000 in
set_option maxRecDepth 100000 in
theorem c_X9_goDay {l : Launch} {D : DD} {ad : Nat → Nat} (σ : ST) (s : S3) (T P C2 d : Nat) (hM : MH σ T P C2) (hd : d < 30) : Ct l yX9_goDay cX9_goDay 3 (Option.none : Option FieldType) 2 44 D ad [.ref (ad 40), .int (nI d)] (putM σ s) (ex none (putM σ (mDay σ T P C2 d s))) := by
  refine Ct.of2 [.ref (ad 40), .int (nI d), .float 0] rfl (Nat.le_of_ble_eq_true rfl) rfl ?_
  rintro X C rfl rfl rfl hxn hR
  have hn2 : 2 < xn X := by rw [← hxn]; decide
  have hT6 := hM.2.1
  have hP6 := hM.2.2.2.1
  have hC7 := hM.2.2.2.2.2.1
  refine V_aload_n_0 (q := 1) C rfl dX9_goDay_0 ?_
  refine V_iload_n_1 (q := 2) C rfl dX9_goDay_1 ?_
  refine V_cV1v (q := 5) C (c_X9_giveWater σ s T P C2 d hM hd) cw_X9_giveWater cv_X9_giveWater wm_X9_171 (by decide) ob_X9 ⟨by decide, by decide⟩ (Nat.le_of_ble_eq_true rfl) rfl dX9_goDay_2 ?_
  refine V_iconst (q := 6) (v := (nI 0)) C rfl rfl dX9_goDay_5 ?_
  refine V_istore_n_2 (q := 7) C hn2 rfl rfl dX9_goDay_6 ?_
  have hx7 : V X 7 [.ref (xad X 40), .int (nI d), .int (nI C2)] [] (putM σ (crM σ d C2 (md1 σ T d s).1, (md1 σ T d s).2)) := by
    refine V_iload_n_2 (q := 8) C rfl dX9_goDay_7 ?_
    refine V_aload_n_0 (q := 9) C rfl dX9_goDay_8 ?_
    refine gf_X9_138 (q := 12) C rfl dX9_goDay_9 ?_
    rw [show (putM σ (crM σ d C2 (md1 σ T d s).1, (md1 σ T d s).2)) 40 24 = nI C2 from hM.2.2.2.2.1]
    refine V_icmp_ge_t (tgt := 56) C (nI_le (Nat.le_refl _) (by omega)) (by decide) dX9_goDay_12 ?_
    refine V_iconst (q := 57) (v := (nI 0)) C rfl rfl dX9_goDay_56 ?_
    refine V_istore_n_2 (q := 58) C hn2 rfl rfl dX9_goDay_57 ?_
    have hx58 : V X 58 [.ref (xad X 40), .int (nI d), .int (nI T)] [] (putM σ (kyM σ P d T (md2 σ C2 d (md1 σ T d s)))) := by
      refine V_iload_n_2 (q := 59) C rfl dX9_goDay_58 ?_
      refine V_aload_n_0 (q := 60) C rfl dX9_goDay_59 ?_
      refine gf_X9_105 (q := 63) C rfl dX9_goDay_60 ?_
      rw [show (putM σ (kyM σ P d T (md2 σ C2 d (md1 σ T d s)))) 40 5 = nI T from hM.1]
      refine V_icmp_ge_t (tgt := 95) C (nI_le (Nat.le_refl _) (by omega)) (by decide) dX9_goDay_63 ?_
      refine V_iconst (q := 96) (v := (nI 0)) C rfl rfl dX9_goDay_95 ?_
      refine V_istore_n_2 (q := 97) C hn2 rfl rfl dX9_goDay_96 ?_
      have hx97 : V X 97 [.ref (xad X 40), .int (nI d), .int (nI P)] [] (putM σ ((kyM σ P d T (md2 σ C2 d (md1 σ T d s))).1, pre P (tmM σ d (kyM σ P d T (md2 σ C2 d (md1 σ T d s))).2.1) (kyM σ P d T (md2 σ C2 d (md1 σ T d s))).2.1, (kyM σ P d T (md2 σ C2 d (md1 σ T d s))).2.2)) := by
        refine V_iload_n_2 (q := 98) C rfl dX9_goDay_97 ?_
        refine V_aload_n_0 (q := 99) C rfl dX9_goDay_98 ?_
        refine gf_X9_108 (q := 102) C rfl dX9_goDay_99 ?_
        rw [show (putM σ ((kyM σ P d T (md2 σ C2 d (md1 σ T d s))).1, pre P (tmM σ d (kyM σ P d T (md2 σ C2 d (md1 σ T d s))).2.1) (kyM σ P d T (md2 σ C2 d (md1 σ T d s))).2.1, (kyM σ P d T (md2 σ C2 d (md1 σ T d s))).2.2)) 40 6 = nI P from hM.2.2.1]
        refine V_icmp_ge_t (tgt := 148) C (nI_le (Nat.le_refl _) (by omega)) (by decide) dX9_goDay_102 ?_
        refine V_vret C hR dX9_goDay_148 ?_
        exact ⟨rfl, rfl⟩
      have hs97 : ∀ p : Nat, p < P → (V X 97 [.ref (xad X 40), .int (nI d), .int (nI (p + 1))] [] (putM σ ((kyM σ P d T (md2 σ C2 d (md1 σ T d s))).1, pre (p + 1) (tmM σ d (kyM σ P d T (md2 σ C2 d (md1 σ T d s))).2.1) (kyM σ P d T (md2 σ C2 d (md1 σ T d s))).2.1, (kyM σ P d T (md2 σ C2 d (md1 σ T d s))).2.2))) → V X 97 [.ref (xad X 40), .int (nI d), .int (nI p)] [] (putM σ ((kyM σ P d T (md2 σ C2 d (md1 σ T d s))).1, pre p (tmM σ d (kyM σ P d T (md2 σ C2 d (md1 σ T d s))).2.1) (kyM σ P d T (md2 σ C2 d (md1 σ T d s))).2.1, (kyM σ P d T (md2 σ C2 d (md1 σ T d s))).2.2)) := by
        intro p hi97 ih97
        refine V_iload_n_2 (q := 98) C rfl dX9_goDay_97 ?_
        refine V_aload_n_0 (q := 99) C rfl dX9_goDay_98 ?_
        refine gf_X9_108 (q := 102) C rfl dX9_goDay_99 ?_
        rw [show (putM σ ((kyM σ P d T (md2 σ C2 d (md1 σ T d s))).1, pre p (tmM σ d (kyM σ P d T (md2 σ C2 d (md1 σ T d s))).2.1) (kyM σ P d T (md2 σ C2 d (md1 σ T d s))).2.1, (kyM σ P d T (md2 σ C2 d (md1 σ T d s))).2.2)) 40 6 = nI P from hM.2.2.1]
        refine V_icmp_ge_f (tgt := 148) C (nI_ge hi97 (by omega)) rfl (by decide) dX9_goDay_102 ?_
        refine V_aload_n_0 (q := 106) C rfl dX9_goDay_105 ?_
        refine gf_X9_71 (q := 109) C rfl dX9_goDay_106 ?_
        refine V_iload_n_2 (q := 110) C rfl dX9_goDay_109 ?_
        refine V_aload_n_0 (q := 111) C rfl dX9_goDay_110 ?_
        refine gf_X9_71 (q := 114) C rfl dX9_goDay_111 ?_
        refine V_iload_n_2 (q := 115) C rfl dX9_goDay_114 ?_
        refine V_iald (q := 116) C _ rfl (by show _ < 6; omega) rfl (by decide) (by decide) rfl dX9_goDay_115 ?_
        refine V_bipush (q := 118) (v := (-9)) C (by decide) rfl dX9_goDay_116 ?_
        show V X 118 _ (.int (-9) :: .int (pre p (tmM σ d (kyM σ P d T (md2 σ C2 d (md1 σ T d s))).2.1) (kyM σ P d T (md2 σ C2 d (md1 σ T d s))).2.1 p) :: .int (nI p) :: .ref (xad X 61) :: []) _
        rw [pre_ge (Nat.lt_irrefl p)]
        refine V_icmp_ne (tgt := 135) C rfl (by decide) dX9_goDay_118 (fun c118 => ?_) (fun c118 => ?_)
        · refine V_aload_n_0 (q := 136) C rfl dX9_goDay_135 ?_
          refine gf_X9_71 (q := 139) C rfl dX9_goDay_136 ?_
          refine V_iload_n_2 (q := 140) C rfl dX9_goDay_139 ?_
          refine V_iald (q := 141) C _ rfl (by show _ < 6; omega) rfl (by decide) (by decide) rfl dX9_goDay_140 ?_
          refine V_iast (q := 142) C _ rfl (by show _ < 6; omega) rfl (by decide) (by decide) rfl dX9_goDay_141 ?_
          refine V_iinc_2 (q := 145) (n := 1) C nI_inc hn2 rfl rfl dX9_goDay_142 ?_
          refine V_goto (tgt := 97) C (by decide) dX9_goDay_145 ?_
          refine V_eq ?_ ih97
          show setc (putM σ ((kyM σ P d T (md2 σ C2 d (md1 σ T d s))).1, pre p (tmM σ d (kyM σ P d T (md2 σ C2 d (md1 σ T d s))).2.1) (kyM σ P d T (md2 σ C2 d (md1 σ T d s))).2.1, (kyM σ P d T (md2 σ C2 d (md1 σ T d s))).2.2)) 61 (upd (pre p (tmM σ d (kyM σ P d T (md2 σ C2 d (md1 σ T d s))).2.1) (kyM σ P d T (md2 σ C2 d (md1 σ T d s))).2.1) p _) = _
          rw [putM_o]
          first
          | (rw [pre_step (show nI d = tmM σ d (kyM σ P d T (md2 σ C2 d (md1 σ T d s))).2.1 p from (if_pos ⟨c118, c128⟩).symm)]; done)
          | exact congrArg (fun z => putM σ ((kyM σ P d T (md2 σ C2 d (md1 σ T d s))).1, z, (kyM σ P d T (md2 σ C2 d (md1 σ T d s))).2.2)) (pre_step (Eq.trans (pre_ge (Nat.lt_irrefl p)) (if_neg (fun h => c118 h.1)).symm))
          | exact congrArg (fun z => putM σ ((kyM σ P d T (md2 σ C2 d (md1 σ T d s))).1, z, (kyM σ P d T (md2 σ C2 d (md1 σ T d s))).2.2)) (pre_step (Eq.trans (pre_ge (Nat.lt_irrefl p)) (if_neg (fun h => c128 h.2)).symm))
        · refine V_aload_n_0 (q := 122) C rfl dX9_goDay_121 ?_
          refine gf_X9_35 (q := 125) C rfl dX9_goDay_122 ?_
          refine V_iload_n_2 (q := 126) C rfl dX9_goDay_125 ?_
          refine V_iald (q := 127) C _ rfl (by show _ < 6; omega) rfl (by decide) (by decide) rfl dX9_goDay_126 ?_
          refine V_iload_n_1 (q := 128) C rfl dX9_goDay_127 ?_
          show V X 128 _ (.int (nI d) :: .int (σ 49 p) :: .int (nI p) :: .ref (xad X 61) :: []) _
          refine V_icmp_ne (tgt := 135) C rfl (by decide) dX9_goDay_128 (fun c128 => ?_) (fun c128 => ?_)
          · refine V_aload_n_0 (q := 136) C rfl dX9_goDay_135 ?_
            refine gf_X9_71 (q := 139) C rfl dX9_goDay_136 ?_
            refine V_iload_n_2 (q := 140) C rfl dX9_goDay_139 ?_
            refine V_iald (q := 141) C _ rfl (by show _ < 6; omega) rfl (by decide) (by decide) rfl dX9_goDay_140 ?_
            refine V_iast (q := 142) C _ rfl (by show _ < 6; omega) rfl (by decide) (by decide) rfl dX9_goDay_141 ?_
            refine V_iinc_2 (q := 145) (n := 1) C nI_inc hn2 rfl rfl dX9_goDay_142 ?_
            refine V_goto (tgt := 97) C (by decide) dX9_goDay_145 ?_
            refine V_eq ?_ ih97
            show setc (putM σ ((kyM σ P d T (md2 σ C2 d (md1 σ T d s))).1, pre p (tmM σ d (kyM σ P d T (md2 σ C2 d (md1 σ T d s))).2.1) (kyM σ P d T (md2 σ C2 d (md1 σ T d s))).2.1, (kyM σ P d T (md2 σ C2 d (md1 σ T d s))).2.2)) 61 (upd (pre p (tmM σ d (kyM σ P d T (md2 σ C2 d (md1 σ T d s))).2.1) (kyM σ P d T (md2 σ C2 d (md1 σ T d s))).2.1) p _) = _
            rw [putM_o]
            first
            | (rw [pre_step (show nI d = tmM σ d (kyM σ P d T (md2 σ C2 d (md1 σ T d s))).2.1 p from (if_pos ⟨c118, c128⟩).symm)]; done)
            | exact congrArg (fun z => putM σ ((kyM σ P d T (md2 σ C2 d (md1 σ T d s))).1, z, (kyM σ P d T (md2 σ C2 d (md1 σ T d s))).2.2)) (pre_step (Eq.trans (pre_ge (Nat.lt_irrefl p)) (if_neg (fun h => c118 h.1)).symm))
            | exact congrArg (fun z => putM σ ((kyM σ P d T (md2 σ C2 d (md1 σ T d s))).1, z, (kyM σ P d T (md2 σ C2 d (md1 σ T d s))).2.2)) (pre_step (Eq.trans (pre_ge (Nat.lt_irrefl p)) (if_neg (fun h => c128 h.2)).symm))
          · refine V_iload_n_1 (q := 132) C rfl dX9_goDay_131 ?_
            refine V_goto (tgt := 141) C (by decide) dX9_goDay_132 ?_
            refine V_iast (q := 142) C _ rfl (by show _ < 6; omega) rfl (by decide) (by decide) rfl dX9_goDay_141 ?_
            refine V_iinc_2 (q := 145) (n := 1) C nI_inc hn2 rfl rfl dX9_goDay_142 ?_
            refine V_goto (tgt := 97) C (by decide) dX9_goDay_145 ?_
            refine V_eq ?_ ih97
            show setc (putM σ ((kyM σ P d T (md2 σ C2 d (md1 σ T d s))).1, pre p (tmM σ d (kyM σ P d T (md2 σ C2 d (md1 σ T d s))).2.1) (kyM σ P d T (md2 σ C2 d (md1 σ T d s))).2.1, (kyM σ P d T (md2 σ C2 d (md1 σ T d s))).2.2)) 61 (upd (pre p (tmM σ d (kyM σ P d T (md2 σ C2 d (md1 σ T d s))).2.1) (kyM σ P d T (md2 σ C2 d (md1 σ T d s))).2.1) p _) = _
            rw [putM_o]
            first
            | (rw [pre_step (show nI d = tmM σ d (kyM σ P d T (md2 σ C2 d (md1 σ T d s))).2.1 p from (if_pos ⟨c118, c128⟩).symm)]; done)
            | exact congrArg (fun z => putM σ ((kyM σ P d T (md2 σ C2 d (md1 σ T d s))).1, z, (kyM σ P d T (md2 σ C2 d (md1 σ T d s))).2.2)) (pre_step (Eq.trans (pre_ge (Nat.lt_irrefl p)) (if_neg (fun h => c118 h.1)).symm))
            | exact congrArg (fun z => putM σ ((kyM σ P d T (md2 σ C2 d (md1 σ T d s))).1, z, (kyM σ P d T (md2 σ C2 d (md1 σ T d s))).2.2)) (pre_step (Eq.trans (pre_ge (Nat.lt_irrefl p)) (if_neg (fun h => c128 h.2)).symm))
      exact V_eq (by rw [pre_0]) (loopN (P := fun p => V X 97 [.ref (xad X 40), .int (nI d), .int (nI p)] [] (putM σ ((kyM σ P d T (md2 σ C2 d (md1 σ T d s))).1, pre p (tmM σ d (kyM σ P d T (md2 σ C2 d (md1 σ T d s))).2.1) (kyM σ P d T (md2 σ C2 d (md1 σ T d s))).2.1, (kyM σ P d T (md2 σ C2 d (md1 σ T d s))).2.2))) (P) hx97 hs97 0 (Nat.zero_le _))
    have hs58 : ∀ t : Nat, t < T → (V X 58 [.ref (xad X 40), .int (nI d), .int (nI (t + 1))] [] (putM σ (kyM σ P d (t + 1) (md2 σ C2 d (md1 σ T d s))))) → V X 58 [.ref (xad X 40), .int (nI d), .int (nI t)] [] (putM σ (kyM σ P d t (md2 σ C2 d (md1 σ T d s)))) := by
      intro t hi58 ih58
      refine V_iload_n_2 (q := 59) C rfl dX9_goDay_58 ?_
      refine V_aload_n_0 (q := 60) C rfl dX9_goDay_59 ?_
      refine gf_X9_105 (q := 63) C rfl dX9_goDay_60 ?_
      rw [show (putM σ (kyM σ P d t (md2 σ C2 d (md1 σ T d s)))) 40 5 = nI T from hM.1]
      refine V_icmp_ge_f (tgt := 95) C (nI_ge hi58 (by omega)) rfl (by decide) dX9_goDay_63 ?_
      refine V_aload_n_0 (q := 67) C rfl dX9_goDay_66 ?_
      refine gf_X9_28 (q := 70) C rfl dX9_goDay_67 ?_
      refine V_iload_n_2 (q := 71) C rfl dX9_goDay_70 ?_
      refine V_zald (q := 72) C _ rfl (by show _ < 6; omega) rfl (by decide) (by decide) rfl dX9_goDay_71 ?_
      show V X 72 _ (.int (σ 47 t) :: []) _
      refine V_if_ne (tgt := 89) C rfl (by decide) dX9_goDay_72 (fun c72 => ?_) (fun c72 => ?_)
      · refine V_iinc_2 (q := 92) (n := 1) C nI_inc hn2 rfl rfl dX9_goDay_89 ?_
        refine V_goto (tgt := 58) C (by decide) dX9_goDay_92 ?_
        have hky : kyM σ P d (t + 1) (md2 σ C2 d (md1 σ T d s)) = if σ 47 t = 0 ∧ wantM (σ 44 t) (σ 46 t) ≤ (kyM σ P d t (md2 σ C2 d (md1 σ T d s))).1 t then ukM σ P t (nI d) (kyM σ P d t (md2 σ C2 d (md1 σ T d s))) else kyM σ P d t (md2 σ C2 d (md1 σ T d s)) := rfl
        first
        | (refine V_eq ?_ ih58; rw [hky, if_neg (fun h => c72 h.1)]; done)
        | (refine V_eq ?_ ih58; rw [hky, if_neg (fun h => c80 h.2)]; done)
        | (refine V_eq ?_ ih58; rw [hky, if_pos ⟨c72, c80⟩]; done)
      · refine V_aload_n_0 (q := 76) C rfl dX9_goDay_75 ?_
        refine V_iload_n_2 (q := 77) C rfl dX9_goDay_76 ?_
        refine V_cV1r (q := 80) C (Ct.mono (v' := some (.int (pI (wantM (σ 44 t) (σ 46 t) ≤ (kyM σ P d t (md2 σ C2 d (md1 σ T d s))).1 t)))) (c_X9_bears _ t (by omega)) rfl rfl) cw_X9_bears cv_X9_bears wm_X9_175 (by decide) ob_X9 ⟨by decide, by decide⟩ (Nat.le_of_ble_eq_true rfl) rfl dX9_goDay_77 ?_
        refine V_ifp_eq (tgt := 89) C rfl (by decide) dX9_goDay_80 (fun c80 => ?_) (fun c80 => ?_)
        · refine V_iinc_2 (q := 92) (n := 1) C nI_inc hn2 rfl rfl dX9_goDay_89 ?_
          refine V_goto (tgt := 58) C (by decide) dX9_goDay_92 ?_
          have hky : kyM σ P d (t + 1) (md2 σ C2 d (md1 σ T d s)) = if σ 47 t = 0 ∧ wantM (σ 44 t) (σ 46 t) ≤ (kyM σ P d t (md2 σ C2 d (md1 σ T d s))).1 t then ukM σ P t (nI d) (kyM σ P d t (md2 σ C2 d (md1 σ T d s))) else kyM σ P d t (md2 σ C2 d (md1 σ T d s)) := rfl
          first
          | (refine V_eq ?_ ih58; rw [hky, if_neg (fun h => c72 h.1)]; done)
          | (refine V_eq ?_ ih58; rw [hky, if_neg (fun h => c80 h.2)]; done)
          | (refine V_eq ?_ ih58; rw [hky, if_pos ⟨c72, c80⟩]; done)
        · refine V_aload_n_0 (q := 84) C rfl dX9_goDay_83 ?_
          refine V_iload_n_2 (q := 85) C rfl dX9_goDay_84 ?_
          refine V_iload_n_1 (q := 86) C rfl dX9_goDay_85 ?_
          refine V_cV2v (q := 89) C (c_X9_useKey σ (kyM σ P d t (md2 σ C2 d (md1 σ T d s))) P t (nI d) hM.2.2.1 hP6 (by omega)) cw_X9_useKey cv_X9_useKey wm_X9_178 (by decide) ob_X9 ⟨by decide, by decide⟩ (Nat.le_of_ble_eq_true rfl) rfl dX9_goDay_86 ?_
          refine V_iinc_2 (q := 92) (n := 1) C nI_inc hn2 rfl rfl dX9_goDay_89 ?_
          refine V_goto (tgt := 58) C (by decide) dX9_goDay_92 ?_
          have hky : kyM σ P d (t + 1) (md2 σ C2 d (md1 σ T d s)) = if σ 47 t = 0 ∧ wantM (σ 44 t) (σ 46 t) ≤ (kyM σ P d t (md2 σ C2 d (md1 σ T d s))).1 t then ukM σ P t (nI d) (kyM σ P d t (md2 σ C2 d (md1 σ T d s))) else kyM σ P d t (md2 σ C2 d (md1 σ T d s)) := rfl
          first
          | (refine V_eq ?_ ih58; rw [hky, if_neg (fun h => c72 h.1)]; done)
          | (refine V_eq ?_ ih58; rw [hky, if_neg (fun h => c80 h.2)]; done)
          | (refine V_eq ?_ ih58; rw [hky, if_pos ⟨c72, c80⟩]; done)
    exact V_eq (rfl) (loopN (P := fun t => V X 58 [.ref (xad X 40), .int (nI d), .int (nI t)] [] (putM σ (kyM σ P d t (md2 σ C2 d (md1 σ T d s))))) (T) hx58 hs58 0 (Nat.zero_le _))
  have hs7 : ∀ c : Nat, c < C2 → (V X 7 [.ref (xad X 40), .int (nI d), .int (nI (c + 1))] [] (putM σ (crM σ d (c + 1) (md1 σ T d s).1, (md1 σ T d s).2))) → V X 7 [.ref (xad X 40), .int (nI d), .int (nI c)] [] (putM σ (crM σ d c (md1 σ T d s).1, (md1 σ T d s).2)) := by
    intro c hi7 ih7
    obtain ⟨t, ht, et⟩ := hM.2.2.2.2.2.2.1 c hi7
    refine V_iload_n_2 (q := 8) C rfl dX9_goDay_7 ?_
    refine V_aload_n_0 (q := 9) C rfl dX9_goDay_8 ?_
    refine gf_X9_138 (q := 12) C rfl dX9_goDay_9 ?_
    rw [show (putM σ (crM σ d c (md1 σ T d s).1, (md1 σ T d s).2)) 40 24 = nI C2 from hM.2.2.2.2.1]
    refine V_icmp_ge_f (tgt := 56) C (nI_ge hi7 (by omega)) rfl (by decide) dX9_goDay_12 ?_
    refine V_aload_n_0 (q := 16) C rfl dX9_goDay_15 ?_
    refine gf_X9_62 (q := 19) C rfl dX9_goDay_16 ?_
    refine V_iload_n_2 (q := 20) C rfl dX9_goDay_19 ?_
    refine V_iald (q := 21) C _ rfl (by show _ < 7; omega) rfl (by decide) (by decide) rfl dX9_goDay_20 ?_
    refine V_iload_n_1 (q := 22) C rfl dX9_goDay_21 ?_
    show V X 22 _ (.int (nI d) :: .int (σ 58 c) :: []) _
    refine V_icmp_ne (tgt := 50) C rfl (by decide) dX9_goDay_22 (fun c22 => ?_) (fun c22 => ?_)
    · refine V_iinc_2 (q := 53) (n := 1) C nI_inc hn2 rfl rfl dX9_goDay_50 ?_
      refine V_goto (tgt := 7) C (by decide) dX9_goDay_53 ?_
      have hcr : crM σ d (c + 1) (md1 σ T d s).1 = if σ 58 c = nI d ∧ wantM (σ 44 t) (σ 46 t) ≤ crM σ d c (md1 σ T d s).1 t then upd (crM σ d c (md1 σ T d s).1) t 0 else crM σ d c (md1 σ T d s).1 := by show (if _ then _ else _) = _; rw [et, nI_clamp (by omega)]
      first
      | (refine V_eq ?_ ih7; rw [hcr, if_neg (fun h => c22 h.1)]; done)
      | (refine V_eq ?_ ih7; rw [hcr, if_neg (fun h => c35 h.2)]; done)
      | (refine V_eq ?_ ih7; rw [hcr, if_pos ⟨c22, c35⟩]; exact putM_w)
    · refine V_aload_n_0 (q := 26) C rfl dX9_goDay_25 ?_
      refine V_aload_n_0 (q := 27) C rfl dX9_goDay_26 ?_
      refine gf_X9_65 (q := 30) C rfl dX9_goDay_27 ?_
      refine V_iload_n_2 (q := 31) C rfl dX9_goDay_30 ?_
      refine V_iald (q := 32) C _ rfl (by show _ < 7; omega) rfl (by decide) (by decide) rfl dX9_goDay_31 ?_
      rw [show (putM σ (crM σ d c (md1 σ T d s).1, (md1 σ T d s).2)) 59 c = nI t from et]
      refine V_cV1r (q := 35) C (Ct.mono (v' := some (.int (pI (wantM (σ 44 t) (σ 46 t) ≤ crM σ d c (md1 σ T d s).1 t)))) (c_X9_bears _ t (by omega)) rfl rfl) cw_X9_bears cv_X9_bears wm_X9_175 (by decide) ob_X9 ⟨by decide, by decide⟩ (Nat.le_of_ble_eq_true rfl) rfl dX9_goDay_32 ?_
      refine V_ifp_eq (tgt := 50) C rfl (by decide) dX9_goDay_35 (fun c35 => ?_) (fun c35 => ?_)
      · refine V_iinc_2 (q := 53) (n := 1) C nI_inc hn2 rfl rfl dX9_goDay_50 ?_
        refine V_goto (tgt := 7) C (by decide) dX9_goDay_53 ?_
        have hcr : crM σ d (c + 1) (md1 σ T d s).1 = if σ 58 c = nI d ∧ wantM (σ 44 t) (σ 46 t) ≤ crM σ d c (md1 σ T d s).1 t then upd (crM σ d c (md1 σ T d s).1) t 0 else crM σ d c (md1 σ T d s).1 := by show (if _ then _ else _) = _; rw [et, nI_clamp (by omega)]
        first
        | (refine V_eq ?_ ih7; rw [hcr, if_neg (fun h => c22 h.1)]; done)
        | (refine V_eq ?_ ih7; rw [hcr, if_neg (fun h => c35 h.2)]; done)
        | (refine V_eq ?_ ih7; rw [hcr, if_pos ⟨c22, c35⟩]; exact putM_w)
      · refine V_aload_n_0 (q := 39) C rfl dX9_goDay_38 ?_
        refine gf_X9_68 (q := 42) C rfl dX9_goDay_39 ?_
        refine V_aload_n_0 (q := 43) C rfl dX9_goDay_42 ?_
        refine gf_X9_65 (q := 46) C rfl dX9_goDay_43 ?_
        refine V_iload_n_2 (q := 47) C rfl dX9_goDay_46 ?_
        refine V_iald (q := 48) C _ rfl (by show _ < 7; omega) rfl (by decide) (by decide) rfl dX9_goDay_47 ?_
        rw [show (putM σ (crM σ d c (md1 σ T d s).1, (md1 σ T d s).2)) 59 c = nI t from et]
        refine V_iconst (q := 49) (v := 0) C rfl rfl dX9_goDay_48 ?_
        refine V_iast (q := 50) C t rfl (by show _ < 6; omega) rfl (by decide) (by decide) rfl dX9_goDay_49 ?_
        refine V_iinc_2 (q := 53) (n := 1) C nI_inc hn2 rfl rfl dX9_goDay_50 ?_
        refine V_goto (tgt := 7) C (by decide) dX9_goDay_53 ?_
        have hcr : crM σ d (c + 1) (md1 σ T d s).1 = if σ 58 c = nI d ∧ wantM (σ 44 t) (σ 46 t) ≤ crM σ d c (md1 σ T d s).1 t then upd (crM σ d c (md1 σ T d s).1) t 0 else crM σ d c (md1 σ T d s).1 := by show (if _ then _ else _) = _; rw [et, nI_clamp (by omega)]
        first
        | (refine V_eq ?_ ih7; rw [hcr, if_neg (fun h => c22 h.1)]; done)
        | (refine V_eq ?_ ih7; rw [hcr, if_neg (fun h => c35 h.2)]; done)
        | (refine V_eq ?_ ih7; rw [hcr, if_pos ⟨c22, c35⟩]; exact putM_w)
  exact V_eq (rfl) (loopN (P := fun c => V X 7 [.ref (xad X 40), .int (nI d), .int (nI c)] [] (putM σ (crM σ d c (md1 σ T d s).1, (md1 σ T d s).2))) (C2) hx7 hs7 0 (Nat.zero_le _))

set_option maxHeartbeats 4000000 in
set_option maxRecDepth 100000 in
theorem c_X9_goTo {l : Launch} {D : DD} {ad : Nat → Nat} (σ : ST) (T P C2 N : Nat) (ld : Int32) (hM : MH σ T P C2) (hN : isLd ld N) : Ct l yX9_goTo cX9_goTo 3 (Option.none : Option FieldType) 3 66 D ad [.ref (ad 40), .int ld] σ (ex none (putM σ (mDays σ T P C2 N (m0 σ T P)))) := by
  refine Ct.of2 [.ref (ad 40), .int ld, .float 0] rfl (Nat.le_of_ble_eq_true rfl) rfl ?_
  rintro X C rfl rfl rfl hxn hR
  have hn2 : 2 < xn X := by rw [← hxn]; decide
  have hT6 := hM.2.1
  have hP6 := hM.2.2.2.1
  have hC7 := hM.2.2.2.2.2.1
  refine V_iconst (q := 1) (v := (nI 0)) C rfl rfl dX9_goTo_0 ?_
  refine V_istore_n_2 (q := 2) C hn2 rfl rfl dX9_goTo_1 ?_
  have hx2 : V X 2 [.ref (xad X 40), .int ld, .int (nI T)] [] (setc σ 60 (pre T (fun _ => 0) (σ 60))) := by
    refine V_iload_n_2 (q := 3) C rfl dX9_goTo_2 ?_
    refine V_aload_n_0 (q := 4) C rfl dX9_goTo_3 ?_
    refine gf_X9_105 (q := 7) C rfl dX9_goTo_4 ?_
    rw [show (setc σ 60 (pre T (fun _ => 0) (σ 60))) 40 5 = nI T from hM.1]
    refine V_icmp_ge_t (tgt := 23) C (nI_le (Nat.le_refl _) (by omega)) (by decide) dX9_goTo_7 ?_
    refine V_iconst (q := 24) (v := (nI 0)) C rfl rfl dX9_goTo_23 ?_
    refine V_istore_n_2 (q := 25) C hn2 rfl rfl dX9_goTo_24 ?_
    have hx25 : V X 25 [.ref (xad X 40), .int ld, .int (nI P)] [] (putM σ (pre T (fun _ => 0) (σ 60), pre P (fun _ => -9) (σ 61), pre P (fun _ => -9) (σ 62))) := by
      refine V_iload_n_2 (q := 26) C rfl dX9_goTo_25 ?_
      refine V_aload_n_0 (q := 27) C rfl dX9_goTo_26 ?_
      refine gf_X9_108 (q := 30) C rfl dX9_goTo_27 ?_
      rw [show (putM σ (pre T (fun _ => 0) (σ 60), pre P (fun _ => -9) (σ 61), pre P (fun _ => -9) (σ 62))) 40 6 = nI P from hM.2.2.1]
      refine V_icmp_ge_t (tgt := 55) C (nI_le (Nat.le_refl _) (by omega)) (by decide) dX9_goTo_30 ?_
      refine V_iconst (q := 56) (v := (nI 0)) C rfl rfl dX9_goTo_55 ?_
      refine V_istore_n_2 (q := 57) C hn2 rfl rfl dX9_goTo_56 ?_
      have hx57 : V X 57 [.ref (xad X 40), .int ld, .int (nI N)] [] (putM σ (mDays σ T P C2 N (m0 σ T P))) := by
        refine V_iload_n_2 (q := 58) C rfl dX9_goTo_57 ?_
        refine V_iload_n_1 (q := 59) C rfl dX9_goTo_58 ?_
        refine V_icmp_gt_t (tgt := 73) C (Int32.not_le.mp (fun h => Nat.lt_irrefl _ ((hN.2 N hN.1).mp h))) (by decide) dX9_goTo_59 ?_
        refine V_vret C hR dX9_goTo_73 ?_
        exact ⟨rfl, rfl⟩
      have hs57 : ∀ d : Nat, d < N → (V X 57 [.ref (xad X 40), .int ld, .int (nI (d + 1))] [] (putM σ (mDays σ T P C2 (d + 1) (m0 σ T P)))) → V X 57 [.ref (xad X 40), .int ld, .int (nI d)] [] (putM σ (mDays σ T P C2 d (m0 σ T P))) := by
        intro d hi57 ih57
        refine V_iload_n_2 (q := 58) C rfl dX9_goTo_57 ?_
        refine V_iload_n_1 (q := 59) C rfl dX9_goTo_58 ?_
        refine V_icmp_gt_f (tgt := 73) C (Int32.not_lt.mpr ((hN.2 d (by have := hN.1; omega)).mpr hi57)) rfl (by decide) dX9_goTo_59 ?_
        refine V_aload_n_0 (q := 63) C rfl dX9_goTo_62 ?_
        refine V_iload_n_2 (q := 64) C rfl dX9_goTo_63 ?_
        refine V_cV1v (q := 67) C (c_X9_goDay σ (mDays σ T P C2 d (m0 σ T P)) T P C2 d hM (by have := hN.1; omega)) cw_X9_goDay cv_X9_goDay wm_X9_182 (by decide) ob_X9 ⟨by decide, by decide⟩ (Nat.le_of_ble_eq_true rfl) rfl dX9_goTo_64 ?_
        refine V_iinc_2 (q := 70) (n := 1) C nI_inc hn2 rfl rfl dX9_goTo_67 ?_
        refine V_goto (tgt := 57) C (by decide) dX9_goTo_70 ?_
        exact V_eq rfl ih57
      exact V_eq (rfl) (loopN (P := fun d => V X 57 [.ref (xad X 40), .int ld, .int (nI d)] [] (putM σ (mDays σ T P C2 d (m0 σ T P)))) (N) hx57 hs57 0 (Nat.zero_le _))
    have hs25 : ∀ p : Nat, p < P → (V X 25 [.ref (xad X 40), .int ld, .int (nI (p + 1))] [] (putM σ (pre T (fun _ => 0) (σ 60), pre (p + 1) (fun _ => -9) (σ 61), pre (p + 1) (fun _ => -9) (σ 62)))) → V X 25 [.ref (xad X 40), .int ld, .int (nI p)] [] (putM σ (pre T (fun _ => 0) (σ 60), pre p (fun _ => -9) (σ 61), pre p (fun _ => -9) (σ 62))) := by
      intro p hi25 ih25
      refine V_iload_n_2 (q := 26) C rfl dX9_goTo_25 ?_
      refine V_aload_n_0 (q := 27) C rfl dX9_goTo_26 ?_
      refine gf_X9_108 (q := 30) C rfl dX9_goTo_27 ?_
      rw [show (putM σ (pre T (fun _ => 0) (σ 60), pre p (fun _ => -9) (σ 61), pre p (fun _ => -9) (σ 62))) 40 6 = nI P from hM.2.2.1]
      refine V_icmp_ge_f (tgt := 55) C (nI_ge hi25 (by omega)) rfl (by decide) dX9_goTo_30 ?_
      refine V_aload_n_0 (q := 34) C rfl dX9_goTo_33 ?_
      refine gf_X9_71 (q := 37) C rfl dX9_goTo_34 ?_
      refine V_iload_n_2 (q := 38) C rfl dX9_goTo_37 ?_
      refine V_bipush (q := 40) (v := (-9)) C (by decide) rfl dX9_goTo_38 ?_
      refine V_iast (q := 41) C _ rfl (by show _ < 6; omega) rfl (by decide) (by decide) rfl dX9_goTo_40 ?_
      refine V_aload_n_0 (q := 42) C rfl dX9_goTo_41 ?_
      refine gf_X9_74 (q := 45) C rfl dX9_goTo_42 ?_
      refine V_iload_n_2 (q := 46) C rfl dX9_goTo_45 ?_
      refine V_bipush (q := 48) (v := (-9)) C (by decide) rfl dX9_goTo_46 ?_
      refine V_iast (q := 49) C _ rfl (by show _ < 6; omega) rfl (by decide) (by decide) rfl dX9_goTo_48 ?_
      refine V_iinc_2 (q := 52) (n := 1) C nI_inc hn2 rfl rfl dX9_goTo_49 ?_
      refine V_goto (tgt := 25) C (by decide) dX9_goTo_52 ?_
      refine V_eq ?_ ih25
      show setc (setc (putM σ (pre T (fun _ => 0) (σ 60), pre p (fun _ => -9) (σ 61), pre p (fun _ => -9) (σ 62))) 61 (upd (pre p (fun _ => -9) (σ 61)) p (-9))) 62 (upd (pre p (fun _ => -9) (σ 62)) p (-9)) = _
      rw [putM_o, putM_b, pre_step rfl, pre_step rfl]
    exact V_eq (by rw [pre_0, pre_0]; funext z; by_cases e0 : z = 62; subst e0; rfl; by_cases e1 : z = 61; subst e1; rfl; by_cases e2 : z = 60; subst e2; rfl; simp only [putM, setc, if_neg e0, if_neg e1, if_neg e2]) (loopN (P := fun p => V X 25 [.ref (xad X 40), .int ld, .int (nI p)] [] (putM σ (pre T (fun _ => 0) (σ 60), pre p (fun _ => -9) (σ 61), pre p (fun _ => -9) (σ 62)))) (P) hx25 hs25 0 (Nat.zero_le _))
  have hs2 : ∀ t : Nat, t < T → (V X 2 [.ref (xad X 40), .int ld, .int (nI (t + 1))] [] (setc σ 60 (pre (t + 1) (fun _ => 0) (σ 60)))) → V X 2 [.ref (xad X 40), .int ld, .int (nI t)] [] (setc σ 60 (pre t (fun _ => 0) (σ 60))) := by
    intro t hi2 ih2
    refine V_iload_n_2 (q := 3) C rfl dX9_goTo_2 ?_
    refine V_aload_n_0 (q := 4) C rfl dX9_goTo_3 ?_
    refine gf_X9_105 (q := 7) C rfl dX9_goTo_4 ?_
    rw [show (setc σ 60 (pre t (fun _ => 0) (σ 60))) 40 5 = nI T from hM.1]
    refine V_icmp_ge_f (tgt := 23) C (nI_ge hi2 (by omega)) rfl (by decide) dX9_goTo_7 ?_
    refine V_aload_n_0 (q := 11) C rfl dX9_goTo_10 ?_
    refine gf_X9_68 (q := 14) C rfl dX9_goTo_11 ?_
    refine V_iload_n_2 (q := 15) C rfl dX9_goTo_14 ?_
    refine V_iconst (q := 16) (v := 0) C rfl rfl dX9_goTo_15 ?_
    refine V_iast (q := 17) C _ rfl (by show _ < 6; omega) rfl (by decide) (by decide) rfl dX9_goTo_16 ?_
    refine V_iinc_2 (q := 20) (n := 1) C nI_inc hn2 rfl rfl dX9_goTo_17 ?_
    refine V_goto (tgt := 2) C (by decide) dX9_goTo_20 ?_
    refine V_eq ?_ ih2
    unfold setf
    rw [setc_s, setc_setc, pre_step rfl]
  exact V_eq (by rw [pre_0, setc_id]) (loopN (P := fun t => V X 2 [.ref (xad X 40), .int ld, .int (nI t)] [] (setc σ 60 (pre t (fun _ => 0) (σ 60)))) (T) hx2 hs2 0 (Nat.zero_le _))

