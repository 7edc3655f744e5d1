/-! the class: sheets, text, grove, weather, readings, bodies -/
set_option maxHeartbeats 4000000 in
set_option maxRecDepth 100000 in
theorem c_X5_isOfOtherLane {l : Launch} {D : DD} {ad : Nat → Nat} (σ : ST) (j : Nat) (a : Int32) (hj : j < 4) : Ct l yX5_isOfOtherLane cX5_isOfOtherLane 2 (Option.some FieldType.boolean) 0 0 D ad [.ref (ad (2 + 2 * j)), .int a] σ (ex (some (.int (pI (¬ σ (2 + 2 * j) 1 = 0 ∧ ¬ σ (2 + 2 * j) 2 = a)))) σ) := by
  refine Ct.of2 [.ref (ad (2 + 2 * j)), .int a] rfl (Nat.le_of_ble_eq_true rfl) rfl ?_
  rintro X C rfl rfl rfl hxn hR
  refine V_aload_n_0 (q := 1) C rfl dX5_isOfOtherLane_0 ?_
  refine gf_X5_15 (q := 4) C hj rfl dX5_isOfOtherLane_1 ?_
  refine V_if_eq (tgt := 19) C rfl (by decide) dX5_isOfOtherLane_4 (fun c4 => ?_) (fun c4 => ?_)
  · refine V_iconst (q := 20) (v := 0) C rfl rfl dX5_isOfOtherLane_19 ?_
    refine V_zret C hR rfl dX5_isOfOtherLane_20 ?_
    exact ⟨by simp [pI, c4], rfl⟩
  · refine V_aload_n_0 (q := 8) C rfl dX5_isOfOtherLane_7 ?_
    refine gf_X5_19 (q := 11) C hj rfl dX5_isOfOtherLane_8 ?_
    refine V_iload_n_1 (q := 12) C rfl dX5_isOfOtherLane_11 ?_
    refine V_icmp_eq (tgt := 19) C rfl (by decide) dX5_isOfOtherLane_12 (fun c12 => ?_) (fun c12 => ?_)
    · refine V_iconst (q := 20) (v := 0) C rfl rfl dX5_isOfOtherLane_19 ?_
      refine V_zret C hR rfl dX5_isOfOtherLane_20 ?_
      exact ⟨by simp [pI, c4, c12], rfl⟩
    · refine V_iconst (q := 16) (v := 1) C rfl rfl dX5_isOfOtherLane_15 ?_
      refine V_goto (tgt := 20) C (by decide) dX5_isOfOtherLane_16 ?_
      refine V_zret C hR rfl dX5_isOfOtherLane_20 ?_
      exact ⟨by simp [pI, c4, c12], rfl⟩

set_option maxHeartbeats 4000000 in
set_option maxRecDepth 100000 in
theorem c_X5_hasCells {l : Launch} {D : DD} {ad : Nat → Nat} (σ : ST) (j : Nat) (a n : Int32) (hj : j < 4) : Ct l yX5_hasCells cX5_hasCells 3 (Option.some FieldType.boolean) 0 0 D ad [.ref (ad (2 + 2 * j)), .int a, .int n] σ (ex (some (.int (pI (¬ a < 0 ∧ ¬ σ (2 + 2 * j) 3 < a ∧ ¬ n < 0 ∧ ¬ σ (2 + 2 * j) 3 - a < n)))) σ) := by
  refine Ct.of2 [.ref (ad (2 + 2 * j)), .int a, .int n] rfl (Nat.le_of_ble_eq_true rfl) rfl ?_
  rintro X C rfl rfl rfl hxn hR
  refine V_iload_n_1 (q := 1) C rfl dX5_hasCells_0 ?_
  refine V_if_lt (tgt := 30) C rfl (by decide) dX5_hasCells_1 (fun c1 => ?_) (fun c1 => ?_)
  · refine V_iconst (q := 31) (v := 0) C rfl rfl dX5_hasCells_30 ?_
    refine V_zret C hR rfl dX5_hasCells_31 ?_
    exact ⟨by simp [pI, c1], rfl⟩
  · refine V_iload_n_1 (q := 5) C rfl dX5_hasCells_4 ?_
    refine V_aload_n_0 (q := 6) C rfl dX5_hasCells_5 ?_
    refine gf_X5_23 (q := 9) C hj rfl dX5_hasCells_6 ?_
    refine V_icmp_gt (tgt := 30) C rfl (by decide) dX5_hasCells_9 (fun c9 => ?_) (fun c9 => ?_)
    · refine V_iconst (q := 31) (v := 0) C rfl rfl dX5_hasCells_30 ?_
      refine V_zret C hR rfl dX5_hasCells_31 ?_
      exact ⟨by simp [pI, c1, c9], rfl⟩
    · refine V_iload_n_2 (q := 13) C rfl dX5_hasCells_12 ?_
      refine V_if_lt (tgt := 30) C rfl (by decide) dX5_hasCells_13 (fun c13 => ?_) (fun c13 => ?_)
      · refine V_iconst (q := 31) (v := 0) C rfl rfl dX5_hasCells_30 ?_
        refine V_zret C hR rfl dX5_hasCells_31 ?_
        exact ⟨by simp [pI, c1, c9, c13], rfl⟩
      · refine V_iload_n_2 (q := 17) C rfl dX5_hasCells_16 ?_
        refine V_aload_n_0 (q := 18) C rfl dX5_hasCells_17 ?_
        refine gf_X5_23 (q := 21) C hj rfl dX5_hasCells_18 ?_
        refine V_iload_n_1 (q := 22) C rfl dX5_hasCells_21 ?_
        refine V_isub (q := 23) C rfl dX5_hasCells_22 ?_
        refine V_icmp_gt (tgt := 30) C rfl (by decide) dX5_hasCells_23 (fun c23 => ?_) (fun c23 => ?_)
        · refine V_iconst (q := 31) (v := 0) C rfl rfl dX5_hasCells_30 ?_
          refine V_zret C hR rfl dX5_hasCells_31 ?_
          exact ⟨by simp [pI, c1, c9, c13, c23], rfl⟩
        · refine V_iconst (q := 27) (v := 1) C rfl rfl dX5_hasCells_26 ?_
          refine V_goto (tgt := 31) C (by decide) dX5_hasCells_27 ?_
          refine V_zret C hR rfl dX5_hasCells_31 ?_
          exact ⟨by simp [pI, c1, c9, c13, c23], rfl⟩

def cutL (lane v : Int32) : Int32 := if lane = 0 then v.toInt8.toInt32 else if lane = 1 then v.toInt16.toInt32 else v

set_option maxHeartbeats 4000000 in
set_option maxRecDepth 100000 in
theorem c_X5_cutToLane {l : Launch} {D : DD} {ad : Nat → Nat} (σ : ST) (j : Nat) (v : Int32) (hj : j < 4) : Ct l yX5_cutToLane cX5_cutToLane 2 (Option.some FieldType.int) 0 0 D ad [.ref (ad (2 + 2 * j)), .int v] σ (ex (some (.int (cutL (σ (2 + 2 * j) 2) v))) σ) := by
  refine Ct.of2 [.ref (ad (2 + 2 * j)), .int v] rfl (Nat.le_of_ble_eq_true rfl) rfl ?_
  rintro X C rfl rfl rfl hxn hR
  refine V_aload_n_0 (q := 1) C rfl dX5_cutToLane_0 ?_
  refine gf_X5_19 (q := 4) C hj rfl dX5_cutToLane_1 ?_
  refine V_look2 (va := 0) (vb := 1) (ta := 32) (tb := 35) (td := 38) C rfl rfl (by decide) (by decide) (by decide) (by decide) dX5_cutToLane_4 (fun c4 => ?_) (fun c4 => ?_) (fun c4 c5 => ?_)
  · refine V_iload_n_1 (q := 33) C rfl dX5_cutToLane_32 ?_
    refine V_i2b (q := 34) C rfl dX5_cutToLane_33 ?_
    refine V_iret C hR dX5_cutToLane_34 ?_
    exact ⟨by simp [cutL, c4], rfl⟩
  · refine V_iload_n_1 (q := 36) C rfl dX5_cutToLane_35 ?_
    refine V_i2s (q := 37) C rfl dX5_cutToLane_36 ?_
    refine V_iret C hR dX5_cutToLane_37 ?_
    exact ⟨by simp [cutL, c4], rfl⟩
  · refine V_iload_n_1 (q := 39) C rfl dX5_cutToLane_38 ?_
    refine V_iret C hR dX5_cutToLane_39 ?_
    exact ⟨by simp [cutL, c4, c5], rfl⟩

def renewF (σ : ST) (j : Nat) (a n : Int32) : ST := setf (setf (setf (setc σ (2 + 2 * j + 1) (fun _ => 0)) (2 + 2 * j) 1 1) (2 + 2 * j) 2 a) (2 + 2 * j) 3 n

set_option maxHeartbeats 4000000 in
set_option maxRecDepth 100000 in
theorem c_X5_renew {l : Launch} {D : DD} {ad : Nat → Nat} (σ : ST) (j : Nat) (a n : Int32) (hj : j < 4) : Ct l yX5_renew cX5_renew 3 (Option.none : Option FieldType) 1 23 D ad [.ref (ad (2 + 2 * j)), .int a, .int n] σ (ex none (renewF σ j a n)) := by
  refine Ct.of2 [.ref (ad (2 + 2 * j)), .int a, .int n] rfl (Nat.le_of_ble_eq_true rfl) rfl ?_
  rintro X C rfl rfl rfl hxn hR
  refine V_aload_n_0 (q := 1) C rfl dX5_renew_0 ?_
  refine gf_X5_9 (q := 4) C hj rfl dX5_renew_1 ?_
  refine V_iconst (q := 5) (v := 0) C rfl rfl dX5_renew_4 ?_
  refine V_cS2v (q := 8) C (c_J7_fill_53178 σ (2 + 2 * j + 1) 0 (sh_ak hj) (by omega) (by rw [sh_al hj]; decide)) cw_J7_fill_53178 cs_J7_fill_53178 wm_X5_26 ⟨by decide, by decide⟩ (Nat.le_of_ble_eq_true rfl) rfl dX5_renew_5 ?_
  refine V_aload_n_0 (q := 9) C rfl dX5_renew_8 ?_
  refine V_iconst (q := 10) (v := 1) C rfl rfl dX5_renew_9 ?_
  refine pf_X5_15 (q := 13) C hj rfl rfl rfl dX5_renew_10 ?_
  refine V_aload_n_0 (q := 14) C rfl dX5_renew_13 ?_
  refine V_iload_n_1 (q := 15) C rfl dX5_renew_14 ?_
  refine pf_X5_19 (q := 18) C hj rfl dX5_renew_15 ?_
  refine V_aload_n_0 (q := 19) C rfl dX5_renew_18 ?_
  refine V_iload_n_2 (q := 20) C rfl dX5_renew_19 ?_
  refine pf_X5_23 (q := 23) C hj rfl dX5_renew_20 ?_
  refine V_vret C hR dX5_renew_23 ?_
  exact ⟨rfl, rfl⟩

def lv1 (σ : ST) (n : Int32) : ST := setf σ 39 0 (31 * σ 39 0 + n)







def codeT (σ : ST) (n j : Nat) : Int32 := if j < n then σ 11 j else -9
def kdT (c : Int32) : Int32 := if c = 116 then 0 else if c = 103 then 1 else if c = 111 then 2 else -9
def digT (σ : ST) (n j : Nat) : Int32 := codeT σ n j - 48
abbrev isD (σ : ST) (n j : Nat) (a b : Int32) : Prop := j < n ∧ ¬ digT σ n j < a ∧ ¬ b < digT σ n j
def termT (σ : ST) (n j : Nat) : Int32 := if isT 30 (10 * digT σ n j + digT σ n (j + 1)) then 10 * digT σ n j + digT σ n (j + 1) else 29

set_option maxHeartbeats 4000000 in
set_option maxRecDepth 100000 in
theorem c_X6_codeAt {l : Launch} {D : DD} {ad : Nat → Nat} (σ : ST) (n j : Nat) (hn : σ 10 1 = nI n) (hn50 : n ≤ 50) (hj : j < 100) : Ct l yX6_codeAt cX6_codeAt 2 (Option.some FieldType.int) 0 0 D ad [.ref (ad 10), .int (nI j)] σ (ex (some (.int (codeT σ n j))) σ) := by
  refine Ct.of2 [.ref (ad 10), .int (nI j)] rfl (Nat.le_of_ble_eq_true rfl) rfl ?_
  rintro X C rfl rfl rfl hxn hR
  refine V_iload_n_1 (q := 1) C rfl dX6_codeAt_0 ?_
  refine V_if_lt_f (tgt := 21) C (nI_pos (by omega)) rfl (by decide) dX6_codeAt_1 ?_
  refine V_iload_n_1 (q := 5) C rfl dX6_codeAt_4 ?_
  refine V_aload_n_0 (q := 6) C rfl dX6_codeAt_5 ?_
  refine gf_X6_15 (q := 9) C rfl dX6_codeAt_6 ?_
  rw [hn]
  refine V_icmp_ge (tgt := 21) C rfl (by decide) dX6_codeAt_9 (fun c9 => ?_) (fun c9 => ?_)
  · refine V_bipush (q := 23) (v := (-9)) C (by decide) rfl dX6_codeAt_21 ?_
    refine V_iret C hR dX6_codeAt_23 ?_
    exact ⟨by unfold codeT; rw [if_neg (fun h => nI_ge h (by omega) c9)], rfl⟩
  · refine V_aload_n_0 (q := 13) C rfl dX6_codeAt_12 ?_
    refine gf_X6_9 (q := 16) C rfl dX6_codeAt_13 ?_
    refine V_iload_n_1 (q := 17) C rfl dX6_codeAt_16 ?_
    have hjn : j < n := by rcases Nat.lt_or_ge j n with h | h; exact h; exact absurd (nI_le h (by omega)) c9
    refine V_iald (q := 18) C _ rfl (by show _ < 50; omega) rfl (by decide) (by decide) rfl dX6_codeAt_17 ?_
    refine V_goto (tgt := 23) C (by decide) dX6_codeAt_18 ?_
    refine V_iret C hR dX6_codeAt_23 ?_
    exact ⟨by unfold codeT; rw [if_pos hjn], rfl⟩

set_option maxHeartbeats 4000000 in
set_option maxRecDepth 100000 in
theorem c_X6_kindAt {l : Launch} {D : DD} {ad : Nat → Nat} (σ : ST) (n j : Nat) (hn : σ 10 1 = nI n) (hn50 : n ≤ 50) (hj : j < 100) : Ct l yX6_kindAt cX6_kindAt 2 (Option.some FieldType.int) 1 21 D ad [.ref (ad 10), .int (nI j)] σ (ex (some (.int (kdT (codeT σ n j)))) σ) := by
  refine Ct.of2 [.ref (ad 10), .int (nI j)] rfl (Nat.le_of_ble_eq_true rfl) rfl ?_
  rintro X C rfl rfl rfl hxn hR
  refine V_aload_n_0 (q := 1) C rfl dX6_kindAt_0 ?_
  refine V_iload_n_1 (q := 2) C rfl dX6_kindAt_1 ?_
  refine V_cV1r (q := 5) C (c_X6_codeAt σ n j hn hn50 hj) cw_X6_codeAt cv_X6_codeAt wm_X6_36 (by decide) ob_X6 ⟨by decide, by decide⟩ (Nat.le_of_ble_eq_true rfl) rfl dX6_kindAt_2 ?_
  refine V_look3 (va := 103) (vb := 111) (vd := 116) (ta := 42) (tb := 44) (tc := 40) (td := 46) C rfl rfl rfl (by decide) (by decide) (by decide) (by decide) (by decide) dX6_kindAt_5 (fun c5 => ?_) (fun c5 => ?_) (fun c5 => ?_) (fun c5 c6 c7 => ?_)
  · refine V_iconst (q := 43) (v := 1) C rfl rfl dX6_kindAt_42 ?_
    refine V_iret C hR dX6_kindAt_43 ?_
    exact ⟨by simp [kdT, c5], rfl⟩
  · refine V_iconst (q := 45) (v := 2) C rfl rfl dX6_kindAt_44 ?_
    refine V_iret C hR dX6_kindAt_45 ?_
    exact ⟨by simp [kdT, c5], rfl⟩
  · refine V_iconst (q := 41) (v := 0) C rfl rfl dX6_kindAt_40 ?_
    refine V_iret C hR dX6_kindAt_41 ?_
    exact ⟨by simp [kdT, c5], rfl⟩
  · refine V_bipush (q := 48) (v := (-9)) C (by decide) rfl dX6_kindAt_46 ?_
    refine V_iret C hR dX6_kindAt_48 ?_
    exact ⟨by simp [kdT, c5, c6, c7], rfl⟩

set_option maxHeartbeats 4000000 in
set_option maxRecDepth 100000 in
theorem c_X6_digitAt {l : Launch} {D : DD} {ad : Nat → Nat} (σ : ST) (n j : Nat) (hn : σ 10 1 = nI n) (hn50 : n ≤ 50) (hj : j < 100) : Ct l yX6_digitAt cX6_digitAt 2 (Option.some FieldType.int) 1 21 D ad [.ref (ad 10), .int (nI j)] σ (ex (some (.int (digT σ n j))) σ) := by
  refine Ct.of2 [.ref (ad 10), .int (nI j)] rfl (Nat.le_of_ble_eq_true rfl) rfl ?_
  rintro X C rfl rfl rfl hxn hR
  refine V_aload_n_0 (q := 1) C rfl dX6_digitAt_0 ?_
  refine V_iload_n_1 (q := 2) C rfl dX6_digitAt_1 ?_
  refine V_cV1r (q := 5) C (c_X6_codeAt σ n j hn hn50 hj) cw_X6_codeAt cv_X6_codeAt wm_X6_36 (by decide) ob_X6 ⟨by decide, by decide⟩ (Nat.le_of_ble_eq_true rfl) rfl dX6_digitAt_2 ?_
  refine V_bipush (q := 7) (v := 48) C (by decide) rfl dX6_digitAt_5 ?_
  refine V_isub (q := 8) C rfl dX6_digitAt_7 ?_
  refine V_iret C hR dX6_digitAt_8 ?_
  exact ⟨rfl, rfl⟩

set_option maxHeartbeats 4000000 in
set_option maxRecDepth 100000 in
theorem c_X6_isDigit {l : Launch} {D : DD} {ad : Nat → Nat} (σ : ST) (n j : Nat) (a b : Int32) (hn : σ 10 1 = nI n) (hn50 : n ≤ 50) (hj : j < 100) : Ct l yX6_isDigit cX6_isDigit 4 (Option.some FieldType.boolean) 2 42 D ad [.ref (ad 10), .int (nI j), .int a, .int b] σ (ex (some (.int (pI (isD σ n j a b)))) σ) := by
  refine Ct.of2 [.ref (ad 10), .int (nI j), .int a, .int b] rfl (Nat.le_of_ble_eq_true rfl) rfl ?_
  rintro X C rfl rfl rfl hxn hR
  refine V_iload_n_1 (q := 1) C rfl dX6_isDigit_0 ?_
  refine V_aload_n_0 (q := 2) C rfl dX6_isDigit_1 ?_
  refine gf_X6_15 (q := 5) C rfl dX6_isDigit_2 ?_
  rw [hn]
  refine V_icmp_ge (tgt := 30) C rfl (by decide) dX6_isDigit_5 (fun c5 => ?_) (fun c5 => ?_)
  · refine V_iconst (q := 31) (v := 0) C rfl rfl dX6_isDigit_30 ?_
    refine V_zret C hR rfl dX6_isDigit_31 ?_
    exact ⟨by rw [pI_f (fun h => nI_ge h.1 (by omega) c5)], rfl⟩
  · refine V_aload_n_0 (q := 9) C rfl dX6_isDigit_8 ?_
    refine V_iload_n_1 (q := 10) C rfl dX6_isDigit_9 ?_
    refine V_cV1r (q := 13) C (c_X6_digitAt σ n j hn hn50 hj) cw_X6_digitAt cv_X6_digitAt wm_X6_47 (by decide) ob_X6 ⟨by decide, by decide⟩ (Nat.le_of_ble_eq_true rfl) rfl dX6_isDigit_10 ?_
    refine V_iload_n_2 (q := 14) C rfl dX6_isDigit_13 ?_
    refine V_icmp_lt (tgt := 30) C rfl (by decide) dX6_isDigit_14 (fun c14 => ?_) (fun c14 => ?_)
    · refine V_iconst (q := 31) (v := 0) C rfl rfl dX6_isDigit_30 ?_
      refine V_zret C hR rfl dX6_isDigit_31 ?_
      exact ⟨by rw [pI_f (fun h => h.2.1 c14)], rfl⟩
    · refine V_aload_n_0 (q := 18) C rfl dX6_isDigit_17 ?_
      refine V_iload_n_1 (q := 19) C rfl dX6_isDigit_18 ?_
      refine V_cV1r (q := 22) C (c_X6_digitAt σ n j hn hn50 hj) cw_X6_digitAt cv_X6_digitAt wm_X6_47 (by decide) ob_X6 ⟨by decide, by decide⟩ (Nat.le_of_ble_eq_true rfl) rfl dX6_isDigit_19 ?_
      refine V_iload_n_3 (q := 23) C rfl dX6_isDigit_22 ?_
      refine V_icmp_gt (tgt := 30) C rfl (by decide) dX6_isDigit_23 (fun c23 => ?_) (fun c23 => ?_)
      · refine V_iconst (q := 31) (v := 0) C rfl rfl dX6_isDigit_30 ?_
        refine V_zret C hR rfl dX6_isDigit_31 ?_
        exact ⟨by rw [pI_f (fun h => h.2.2 c23)], rfl⟩
      · refine V_iconst (q := 27) (v := 1) C rfl rfl dX6_isDigit_26 ?_
        refine V_goto (tgt := 31) C (by decide) dX6_isDigit_27 ?_
        refine V_zret C hR rfl dX6_isDigit_31 ?_
        exact ⟨by rw [pI_t ⟨by rcases Nat.lt_or_ge j n with h | h; exact h; exact absurd (nI_le h (by omega)) c5, c14, c23⟩], rfl⟩

set_option maxHeartbeats 4000000 in
set_option maxRecDepth 100000 in
theorem c_X6_termAt {l : Launch} {D : DD} {ad : Nat → Nat} (σ : ST) (n j : Nat) (hn : σ 10 1 = nI n) (hn50 : n ≤ 50) (hj : j < 99) : Ct l yX6_termAt cX6_termAt 3 (Option.some FieldType.int) 2 42 D ad [.ref (ad 10), .int (nI j)] σ (ex (some (.int (termT σ n j))) σ) := by
  refine Ct.of2 [.ref (ad 10), .int (nI j), .float 0] rfl (Nat.le_of_ble_eq_true rfl) rfl ?_
  rintro X C rfl rfl rfl hxn hR
  have hn2 : 2 < xn X := by rw [← hxn]; decide
  refine V_bipush (q := 2) (v := 10) C (by decide) rfl dX6_termAt_0 ?_
  refine V_aload_n_0 (q := 3) C rfl dX6_termAt_2 ?_
  refine V_iload_n_1 (q := 4) C rfl dX6_termAt_3 ?_
  refine V_cV1r (q := 7) C (c_X6_digitAt σ n j hn hn50 (by omega)) cw_X6_digitAt cv_X6_digitAt wm_X6_47 (by decide) ob_X6 ⟨by decide, by decide⟩ (Nat.le_of_ble_eq_true rfl) rfl dX6_termAt_4 ?_
  refine V_imul (q := 8) C rfl dX6_termAt_7 ?_
  refine V_aload_n_0 (q := 9) C rfl dX6_termAt_8 ?_
  refine V_iload_n_1 (q := 10) C rfl dX6_termAt_9 ?_
  refine V_iconst (q := 11) (v := 1) C rfl rfl dX6_termAt_10 ?_
  refine V_iadd (q := 12) C rfl dX6_termAt_11 ?_
  rw [show nI j + 1 = nI (j + 1) from nI_1 j]
  refine V_cV1r (q := 15) C (c_X6_digitAt σ n (j + 1) hn hn50 (by omega)) cw_X6_digitAt cv_X6_digitAt wm_X6_47 (by decide) ob_X6 ⟨by decide, by decide⟩ (Nat.le_of_ble_eq_true rfl) rfl dX6_termAt_12 ?_
  refine V_iadd (q := 16) C rfl dX6_termAt_15 ?_
  refine V_istore_n_2 (q := 17) C hn2 rfl rfl dX6_termAt_16 ?_
  refine V_iload_n_2 (q := 18) C rfl dX6_termAt_17 ?_
  refine V_cN1r (q := 21) C (c_X8_isDay σ _) cw_X8_isDay cs_X8_isDay C.K.2.2.2 ⟨by decide, by decide⟩ (Nat.le_of_ble_eq_true rfl) rfl dX6_termAt_18 ?_
  refine V_ifp_eq (tgt := 28) C rfl (by decide) dX6_termAt_21 (fun c21 => ?_) (fun c21 => ?_)
  · refine V_bipush (q := 30) (v := 29) C (by decide) rfl dX6_termAt_28 ?_
    refine V_iret C hR dX6_termAt_30 ?_
    exact ⟨by unfold termT; rw [if_neg c21], rfl⟩
  · refine V_iload_n_2 (q := 25) C rfl dX6_termAt_24 ?_
    refine V_goto (tgt := 30) C (by decide) dX6_termAt_25 ?_
    refine V_iret C hR dX6_termAt_30 ?_
    exact ⟨by unfold termT; rw [if_pos c21], rfl⟩

