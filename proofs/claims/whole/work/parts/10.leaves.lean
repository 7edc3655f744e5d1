/-! leaves: JDK, ranges, bits -/
set_option maxHeartbeats 4000000 in
set_option maxRecDepth 100000 in
theorem c_J7_fill_53178 {l : Launch} {D : DD} {ad : Nat → Nat} (σ : ST) (k : Nat) (v : Int32) (ha : akind k = 1) (hk : k < 68) (hb : alen k < 2 ^ 31) : Ct l yJ7_fill_53178 cJ7_fill_53178 4 (Option.none : Option FieldType) 0 0 D ad [.ref (ad k), .int v] σ (ex none (setc σ k (fun _ => v))) := by
  refine Ct.of2 [.ref (ad k), .int v, .float 0, .float 0] rfl (Nat.le_of_ble_eq_true rfl) rfl ?_
  rintro X C rfl rfl rfl hxn hR
  have hn2 : 2 < xn X := by rw [← hxn]; decide
  have hn3 : 3 < xn X := by rw [← hxn]; decide
  refine V_iconst (q := 1) (v := (nI 0)) C rfl rfl dJ7_fill_53178_0 ?_
  refine V_istore_n_2 (q := 2) C hn2 rfl rfl dJ7_fill_53178_1 ?_
  refine V_aload_n_0 (q := 3) C rfl dJ7_fill_53178_2 ?_
  refine V_alen (q := 4) C ha hk rfl rfl dJ7_fill_53178_3 ?_
  refine V_istore_n_3 (q := 5) C hn3 rfl rfl dJ7_fill_53178_4 ?_
  have hx5 : V X 5 [.ref (xad X k), .int v, .int (nI (alen k)), .int (nI (alen k))] [] (setc σ k (pre (alen k) (fun _ => v) (σ k))) := by
    refine V_iload_n_2 (q := 6) C rfl dJ7_fill_53178_5 ?_
    refine V_iload_n_3 (q := 7) C rfl dJ7_fill_53178_6 ?_
    refine V_icmp_ge_t (tgt := 20) C (nI_le (Nat.le_refl _) hb) (by decide) dJ7_fill_53178_7 ?_
    refine V_arr_congr (g := fun _ => v) (Or.inl ha) (fun i hi => pre_lt hi) ?_
    refine V_vret C hR dJ7_fill_53178_20 ?_
    exact ⟨rfl, rfl⟩
  have hs5 : ∀ i : Nat, i < alen k → (V X 5 [.ref (xad X k), .int v, .int (nI (i + 1)), .int (nI (alen k))] [] (setc σ k (pre (i + 1) (fun _ => v) (σ k)))) → V X 5 [.ref (xad X k), .int v, .int (nI i), .int (nI (alen k))] [] (setc σ k (pre i (fun _ => v) (σ k))) := by
    intro i hi5 ih5
    refine V_iload_n_2 (q := 6) C rfl dJ7_fill_53178_5 ?_
    refine V_iload_n_3 (q := 7) C rfl dJ7_fill_53178_6 ?_
    refine V_icmp_ge_f (tgt := 20) C (nI_ge hi5 hb) rfl (by decide) dJ7_fill_53178_7 ?_
    refine V_aload_n_0 (q := 11) C rfl dJ7_fill_53178_10 ?_
    refine V_iload_n_2 (q := 12) C rfl dJ7_fill_53178_11 ?_
    refine V_iload_n_1 (q := 13) C rfl dJ7_fill_53178_12 ?_
    refine V_iast (q := 14) C i rfl hi5 ha hk hb rfl dJ7_fill_53178_13 ?_
    refine V_iinc_2 (q := 17) (n := 1) C nI_inc hn2 rfl rfl dJ7_fill_53178_14 ?_
    refine V_goto (tgt := 5) C (by decide) dJ7_fill_53178_17 ?_
    refine V_eq ?_ ih5
    unfold setf
    rw [setc_s, setc_setc, pre_step rfl]
  exact V_eq (by rw [pre_0, setc_id]) (loopN (P := fun i => V X 5 [.ref (xad X k), .int v, .int (nI i), .int (nI (alen k))] [] (setc σ k (pre i (fun _ => v) (σ k)))) (alen k) hx5 hs5 0 (Nat.zero_le _))

set_option maxHeartbeats 4000000 in
set_option maxRecDepth 100000 in
theorem c_J6_bitCount_0f7a4 {l : Launch} {D : DD} {ad : Nat → Nat} (σ : ST) (x : Int32)  : Ct l yJ6_bitCount_0f7a4 cJ6_bitCount_0f7a4 1 (Option.some FieldType.int) 0 0 D ad [.int x] σ (ex (some (.int (popc x))) σ) := by
  refine Ct.of2 [.int x] rfl (Nat.le_of_ble_eq_true rfl) rfl ?_
  rintro X C rfl rfl rfl hxn hR
  have hn0 : 0 < xn X := by rw [← hxn]; decide
  refine V_iload_n_0 (q := 1) C rfl dJ6_bitCount_0f7a4_0 ?_
  refine V_iload_n_0 (q := 2) C rfl dJ6_bitCount_0f7a4_1 ?_
  refine V_iconst (q := 3) (v := 1) C rfl rfl dJ6_bitCount_0f7a4_2 ?_
  refine V_iushr (q := 4) C rfl dJ6_bitCount_0f7a4_3 ?_
  refine V_ldcw (q := 7) C wc_J6_265 rfl dJ6_bitCount_0f7a4_4 ?_
  refine V_iand (q := 8) C rfl dJ6_bitCount_0f7a4_7 ?_
  refine V_isub (q := 9) C rfl dJ6_bitCount_0f7a4_8 ?_
  refine V_topi (fun y1 e1 => ?_)
  refine V_istore_n_0 (q := 10) C hn0 rfl rfl dJ6_bitCount_0f7a4_9 ?_
  refine V_iload_n_0 (q := 11) C rfl dJ6_bitCount_0f7a4_10 ?_
  refine V_ldcw (q := 14) C wc_J6_266 rfl dJ6_bitCount_0f7a4_11 ?_
  refine V_iand (q := 15) C rfl dJ6_bitCount_0f7a4_14 ?_
  refine V_iload_n_0 (q := 16) C rfl dJ6_bitCount_0f7a4_15 ?_
  refine V_iconst (q := 17) (v := 2) C rfl rfl dJ6_bitCount_0f7a4_16 ?_
  refine V_iushr (q := 18) C rfl dJ6_bitCount_0f7a4_17 ?_
  refine V_ldcw (q := 21) C wc_J6_266 rfl dJ6_bitCount_0f7a4_18 ?_
  refine V_iand (q := 22) C rfl dJ6_bitCount_0f7a4_21 ?_
  refine V_iadd (q := 23) C rfl dJ6_bitCount_0f7a4_22 ?_
  refine V_topi (fun y2 e2 => ?_)
  refine V_istore_n_0 (q := 24) C hn0 rfl rfl dJ6_bitCount_0f7a4_23 ?_
  refine V_iload_n_0 (q := 25) C rfl dJ6_bitCount_0f7a4_24 ?_
  refine V_iload_n_0 (q := 26) C rfl dJ6_bitCount_0f7a4_25 ?_
  refine V_iconst (q := 27) (v := 4) C rfl rfl dJ6_bitCount_0f7a4_26 ?_
  refine V_iushr (q := 28) C rfl dJ6_bitCount_0f7a4_27 ?_
  refine V_iadd (q := 29) C rfl dJ6_bitCount_0f7a4_28 ?_
  refine V_ldcw (q := 32) C wc_J6_267 rfl dJ6_bitCount_0f7a4_29 ?_
  refine V_iand (q := 33) C rfl dJ6_bitCount_0f7a4_32 ?_
  refine V_topi (fun y3 e3 => ?_)
  refine V_istore_n_0 (q := 34) C hn0 rfl rfl dJ6_bitCount_0f7a4_33 ?_
  refine V_iload_n_0 (q := 35) C rfl dJ6_bitCount_0f7a4_34 ?_
  refine V_iload_n_0 (q := 36) C rfl dJ6_bitCount_0f7a4_35 ?_
  refine V_bipush (q := 38) (v := 8) C (by decide) rfl dJ6_bitCount_0f7a4_36 ?_
  refine V_iushr (q := 39) C rfl dJ6_bitCount_0f7a4_38 ?_
  refine V_iadd (q := 40) C rfl dJ6_bitCount_0f7a4_39 ?_
  refine V_topi (fun y4 e4 => ?_)
  refine V_istore_n_0 (q := 41) C hn0 rfl rfl dJ6_bitCount_0f7a4_40 ?_
  refine V_iload_n_0 (q := 42) C rfl dJ6_bitCount_0f7a4_41 ?_
  refine V_iload_n_0 (q := 43) C rfl dJ6_bitCount_0f7a4_42 ?_
  refine V_bipush (q := 45) (v := 16) C (by decide) rfl dJ6_bitCount_0f7a4_43 ?_
  refine V_iushr (q := 46) C rfl dJ6_bitCount_0f7a4_45 ?_
  refine V_iadd (q := 47) C rfl dJ6_bitCount_0f7a4_46 ?_
  refine V_istore_n_0 (q := 48) C hn0 rfl rfl dJ6_bitCount_0f7a4_47 ?_
  refine V_iload_n_0 (q := 49) C rfl dJ6_bitCount_0f7a4_48 ?_
  refine V_bipush (q := 51) (v := 63) C (by decide) rfl dJ6_bitCount_0f7a4_49 ?_
  refine V_iand (q := 52) C rfl dJ6_bitCount_0f7a4_51 ?_
  refine V_iret C hR dJ6_bitCount_0f7a4_52 ?_
  exact ⟨by rw [e4, e3, e2, e1]; rfl, rfl⟩

set_option maxHeartbeats 4000000 in
set_option maxRecDepth 100000 in
theorem c_X8_isDay {l : Launch} {D : DD} {ad : Nat → Nat} (σ : ST) (x : Int32)  : Ct l yX8_isDay cX8_isDay 1 (Option.some FieldType.boolean) 0 0 D ad [.int x] σ (ex (some (.int (pI (isT 30 x)))) σ) := by
  refine Ct.of2 [.int x] rfl (Nat.le_of_ble_eq_true rfl) rfl ?_
  rintro X C rfl rfl rfl hxn hR
  refine V_iload_n_0 (q := 1) C rfl dX8_isDay_0 ?_
  refine V_if_lt (tgt := 14) C rfl (by decide) dX8_isDay_1 (fun c1 => ?_) (fun c1 => ?_)
  · refine V_iconst (q := 15) (v := 0) C rfl rfl dX8_isDay_14 ?_
    refine V_zret C hR rfl dX8_isDay_15 ?_
    exact ⟨by simp [pI, c1], rfl⟩
  · refine V_iload_n_0 (q := 5) C rfl dX8_isDay_4 ?_
    refine V_bipush (q := 7) (v := 30) C (by decide) rfl dX8_isDay_5 ?_
    refine V_icmp_ge (tgt := 14) C rfl (by decide) dX8_isDay_7 (fun c7 => ?_) (fun c7 => ?_)
    · refine V_iconst (q := 15) (v := 0) C rfl rfl dX8_isDay_14 ?_
      refine V_zret C hR rfl dX8_isDay_15 ?_
      exact ⟨by simp [pI, c1, c7], rfl⟩
    · refine V_iconst (q := 11) (v := 1) C rfl rfl dX8_isDay_10 ?_
      refine V_goto (tgt := 15) C (by decide) dX8_isDay_11 ?_
      refine V_zret C hR rfl dX8_isDay_15 ?_
      exact ⟨by simp [pI, c1, c7], rfl⟩

set_option maxHeartbeats 4000000 in
set_option maxRecDepth 100000 in
theorem c_X8_isLane {l : Launch} {D : DD} {ad : Nat → Nat} (σ : ST) (x : Int32)  : Ct l yX8_isLane cX8_isLane 1 (Option.some FieldType.boolean) 0 0 D ad [.int x] σ (ex (some (.int (pI (isT 3 x)))) σ) := by
  refine Ct.of2 [.int x] rfl (Nat.le_of_ble_eq_true rfl) rfl ?_
  rintro X C rfl rfl rfl hxn hR
  refine V_iload_n_0 (q := 1) C rfl dX8_isLane_0 ?_
  refine V_if_lt (tgt := 13) C rfl (by decide) dX8_isLane_1 (fun c1 => ?_) (fun c1 => ?_)
  · refine V_iconst (q := 14) (v := 0) C rfl rfl dX8_isLane_13 ?_
    refine V_zret C hR rfl dX8_isLane_14 ?_
    exact ⟨by simp [pI, c1], rfl⟩
  · refine V_iload_n_0 (q := 5) C rfl dX8_isLane_4 ?_
    refine V_iconst (q := 6) (v := 3) C rfl rfl dX8_isLane_5 ?_
    refine V_icmp_ge (tgt := 13) C rfl (by decide) dX8_isLane_6 (fun c6 => ?_) (fun c6 => ?_)
    · refine V_iconst (q := 14) (v := 0) C rfl rfl dX8_isLane_13 ?_
      refine V_zret C hR rfl dX8_isLane_14 ?_
      exact ⟨by simp [pI, c1, c6], rfl⟩
    · refine V_iconst (q := 10) (v := 1) C rfl rfl dX8_isLane_9 ?_
      refine V_goto (tgt := 14) C (by decide) dX8_isLane_10 ?_
      refine V_zret C hR rfl dX8_isLane_14 ?_
      exact ⟨by simp [pI, c1, c6], rfl⟩

set_option maxHeartbeats 4000000 in
set_option maxRecDepth 100000 in
theorem c_X8_isIn {l : Launch} {D : DD} {ad : Nat → Nat} (σ : ST) (x i : Int32)  : Ct l yX8_isIn cX8_isIn 2 (Option.some FieldType.boolean) 0 0 D ad [.int x, .int i] σ (ex (some (.int (pI (bit x i)))) σ) := by
  refine Ct.of2 [.int x, .int i] rfl (Nat.le_of_ble_eq_true rfl) rfl ?_
  rintro X C rfl rfl rfl hxn hR
  refine V_iload_n_0 (q := 1) C rfl dX8_isIn_0 ?_
  refine V_iload_n_1 (q := 2) C rfl dX8_isIn_1 ?_
  refine V_ishr (q := 3) C rfl dX8_isIn_2 ?_
  refine V_iconst (q := 4) (v := 1) C rfl rfl dX8_isIn_3 ?_
  refine V_iand (q := 5) C rfl dX8_isIn_4 ?_
  refine V_if_eq (tgt := 12) C rfl (by decide) dX8_isIn_5 (fun c5 => ?_) (fun c5 => ?_)
  · refine V_iconst (q := 13) (v := 0) C rfl rfl dX8_isIn_12 ?_
    refine V_zret C hR rfl dX8_isIn_13 ?_
    exact ⟨by simp [pI, c5], rfl⟩
  · refine V_iconst (q := 9) (v := 1) C rfl rfl dX8_isIn_8 ?_
    refine V_goto (tgt := 13) C (by decide) dX8_isIn_9 ?_
    refine V_zret C hR rfl dX8_isIn_13 ?_
    exact ⟨by simp [pI, c5], rfl⟩

set_option maxHeartbeats 4000000 in
set_option maxRecDepth 100000 in
theorem c_X1_isPlanted {l : Launch} {D : DD} {ad : Nat → Nat} (σ : ST)  : Ct l yX1_isPlanted cX1_isPlanted 1 (Option.some FieldType.boolean) 0 0 D ad [.ref (ad 12)] σ (ex (some (.int (pI (0 < σ 12 0)))) σ) := by
  refine Ct.of2 [.ref (ad 12)] rfl (Nat.le_of_ble_eq_true rfl) rfl ?_
  rintro X C rfl rfl rfl hxn hR
  refine V_aload_n_0 (q := 1) C rfl dX1_isPlanted_0 ?_
  refine gf_X1_9 (q := 4) C rfl dX1_isPlanted_1 ?_
  refine V_if_le (tgt := 11) C rfl (by decide) dX1_isPlanted_4 (fun c4 => ?_) (fun c4 => ?_)
  · refine V_iconst (q := 12) (v := 0) C rfl rfl dX1_isPlanted_11 ?_
    refine V_zret C hR rfl dX1_isPlanted_12 ?_
    exact ⟨by simp [pI, c4], rfl⟩
  · refine V_iconst (q := 8) (v := 1) C rfl rfl dX1_isPlanted_7 ?_
    refine V_goto (tgt := 12) C (by decide) dX1_isPlanted_8 ?_
    refine V_zret C hR rfl dX1_isPlanted_12 ?_
    exact ⟨by simp [pI, c4], rfl⟩

set_option maxHeartbeats 4000000 in
set_option maxRecDepth 100000 in
theorem c_X1_hasTree {l : Launch} {D : DD} {ad : Nat → Nat} (σ : ST) (t : Int32)  : Ct l yX1_hasTree cX1_hasTree 2 (Option.some FieldType.boolean) 0 0 D ad [.ref (ad 12), .int t] σ (ex (some (.int (pI (isT (σ 12 0) t)))) σ) := by
  refine Ct.of2 [.ref (ad 12), .int t] rfl (Nat.le_of_ble_eq_true rfl) rfl ?_
  rintro X C rfl rfl rfl hxn hR
  refine V_iload_n_1 (q := 1) C rfl dX1_hasTree_0 ?_
  refine V_if_lt (tgt := 16) C rfl (by decide) dX1_hasTree_1 (fun c1 => ?_) (fun c1 => ?_)
  · refine V_iconst (q := 17) (v := 0) C rfl rfl dX1_hasTree_16 ?_
    refine V_zret C hR rfl dX1_hasTree_17 ?_
    exact ⟨by simp [pI, c1], rfl⟩
  · refine V_iload_n_1 (q := 5) C rfl dX1_hasTree_4 ?_
    refine V_aload_n_0 (q := 6) C rfl dX1_hasTree_5 ?_
    refine gf_X1_9 (q := 9) C rfl dX1_hasTree_6 ?_
    refine V_icmp_ge (tgt := 16) C rfl (by decide) dX1_hasTree_9 (fun c9 => ?_) (fun c9 => ?_)
    · refine V_iconst (q := 17) (v := 0) C rfl rfl dX1_hasTree_16 ?_
      refine V_zret C hR rfl dX1_hasTree_17 ?_
      exact ⟨by simp [pI, c1, c9], rfl⟩
    · refine V_iconst (q := 13) (v := 1) C rfl rfl dX1_hasTree_12 ?_
      refine V_goto (tgt := 17) C (by decide) dX1_hasTree_13 ?_
      refine V_zret C hR rfl dX1_hasTree_17 ?_
      exact ⟨by simp [pI, c1, c9], rfl⟩

set_option maxHeartbeats 4000000 in
set_option maxRecDepth 100000 in
theorem c_X1_hasPrisoner {l : Launch} {D : DD} {ad : Nat → Nat} (σ : ST) (t : Int32)  : Ct l yX1_hasPrisoner cX1_hasPrisoner 2 (Option.some FieldType.boolean) 0 0 D ad [.ref (ad 12), .int t] σ (ex (some (.int (pI (isT (σ 12 1) t)))) σ) := by
  refine Ct.of2 [.ref (ad 12), .int t] rfl (Nat.le_of_ble_eq_true rfl) rfl ?_
  rintro X C rfl rfl rfl hxn hR
  refine V_iload_n_1 (q := 1) C rfl dX1_hasPrisoner_0 ?_
  refine V_if_lt (tgt := 16) C rfl (by decide) dX1_hasPrisoner_1 (fun c1 => ?_) (fun c1 => ?_)
  · refine V_iconst (q := 17) (v := 0) C rfl rfl dX1_hasPrisoner_16 ?_
    refine V_zret C hR rfl dX1_hasPrisoner_17 ?_
    exact ⟨by simp [pI, c1], rfl⟩
  · refine V_iload_n_1 (q := 5) C rfl dX1_hasPrisoner_4 ?_
    refine V_aload_n_0 (q := 6) C rfl dX1_hasPrisoner_5 ?_
    refine gf_X1_15 (q := 9) C rfl dX1_hasPrisoner_6 ?_
    refine V_icmp_ge (tgt := 16) C rfl (by decide) dX1_hasPrisoner_9 (fun c9 => ?_) (fun c9 => ?_)
    · refine V_iconst (q := 17) (v := 0) C rfl rfl dX1_hasPrisoner_16 ?_
      refine V_zret C hR rfl dX1_hasPrisoner_17 ?_
      exact ⟨by simp [pI, c1, c9], rfl⟩
    · refine V_iconst (q := 13) (v := 1) C rfl rfl dX1_hasPrisoner_12 ?_
      refine V_goto (tgt := 17) C (by decide) dX1_hasPrisoner_13 ?_
      refine V_zret C hR rfl dX1_hasPrisoner_17 ?_
      exact ⟨by simp [pI, c1, c9], rfl⟩

def ones (n : Int32) : Int32 := (1 <<< (n &&& 31)) - 1

set_option maxHeartbeats 4000000 in
set_option maxRecDepth 100000 in
theorem c_X1_allTrees {l : Launch} {D : DD} {ad : Nat → Nat} (σ : ST)  : Ct l yX1_allTrees cX1_allTrees 1 (Option.some FieldType.int) 0 0 D ad [.ref (ad 12)] σ (ex (some (.int (ones (σ 12 0)))) σ) := by
  refine Ct.of2 [.ref (ad 12)] rfl (Nat.le_of_ble_eq_true rfl) rfl ?_
  rintro X C rfl rfl rfl hxn hR
  refine V_iconst (q := 1) (v := 1) C rfl rfl dX1_allTrees_0 ?_
  refine V_aload_n_0 (q := 2) C rfl dX1_allTrees_1 ?_
  refine gf_X1_9 (q := 5) C rfl dX1_allTrees_2 ?_
  refine V_ishl (q := 6) C rfl dX1_allTrees_5 ?_
  refine V_iconst (q := 7) (v := 1) C rfl rfl dX1_allTrees_6 ?_
  refine V_isub (q := 8) C rfl dX1_allTrees_7 ?_
  refine V_iret C hR dX1_allTrees_8 ?_
  exact ⟨rfl, rfl⟩

set_option maxHeartbeats 4000000 in
set_option maxRecDepth 100000 in
theorem c_X1_allPrisoners {l : Launch} {D : DD} {ad : Nat → Nat} (σ : ST)  : Ct l yX1_allPrisoners cX1_allPrisoners 1 (Option.some FieldType.int) 0 0 D ad [.ref (ad 12)] σ (ex (some (.int (ones (σ 12 1)))) σ) := by
  refine Ct.of2 [.ref (ad 12)] rfl (Nat.le_of_ble_eq_true rfl) rfl ?_
  rintro X C rfl rfl rfl hxn hR
  refine V_iconst (q := 1) (v := 1) C rfl rfl dX1_allPrisoners_0 ?_
  refine V_aload_n_0 (q := 2) C rfl dX1_allPrisoners_1 ?_
  refine gf_X1_15 (q := 5) C rfl dX1_allPrisoners_2 ?_
  refine V_ishl (q := 6) C rfl dX1_allPrisoners_5 ?_
  refine V_iconst (q := 7) (v := 1) C rfl rfl dX1_allPrisoners_6 ?_
  refine V_isub (q := 8) C rfl dX1_allPrisoners_7 ?_
  refine V_iret C hR dX1_allPrisoners_8 ?_
  exact ⟨rfl, rfl⟩

