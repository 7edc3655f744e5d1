/-! leaves: JDK, ranges, bits -/
set_option maxHeartbeats 4000000 in
set_option maxRecDepth 100000 in
theorem c_J7_fill_53178 {l : Launch} {D : DD} {ad : Nat → Nat} (σ : ST) (k : Nat) (v : Int32) (ha : akind k = 1) (hk : k < 44) (hb : alen k < 2 ^ 31) : Ct l yJ7_fill_53178 cJ7_fill_53178 4 (Option.none : Option FieldType) 0 0 D ad [.ref (ad k), .int v] σ (ex none (setc σ k (fun _ => v))) := by
  refine Ct.of2 [.ref (ad k), .int v, .float 0, .float 0] rfl (Nat.le_of_ble_eq_true rfl) rfl ?_
  rintro X C rfl rfl rfl hxn hR
  have hn2 : 2 < xn X := by rw [← hxn]; decide
  have hn3 : 3 < xn X := by rw [← hxn]; decide
  refine V_iconst (q := 1) (v := (nI 0)) C rfl rfl dJ7_fill_53178_0 ?_
  refine V_istore_n_2 (q := 2) C hn2 rfl rfl dJ7_fill_53178_1 ?_
  refine V_aload_n_0 (q := 3) C rfl dJ7_fill_53178_2 ?_
  refine V_alen (q := 4) C ha hk rfl rfl dJ7_fill_53178_3 ?_
  refine V_istore_n_3 (q := 5) C hn3 rfl rfl dJ7_fill_53178_4 ?_
  have hx5 : V X 5 [.ref (xad X k), .int v, .int (nI (alen k)), .int (nI (alen k))] [] (setc σ k (pre (alen k) (fun _ => v) (σ k))) := by
    refine V_iload_n_2 (q := 6) C rfl dJ7_fill_53178_5 ?_
    refine V_iload_n_3 (q := 7) C rfl dJ7_fill_53178_6 ?_
    refine V_icmp_ge_t (tgt := 20) C (nI_le (Nat.le_refl _) hb) (by decide) dJ7_fill_53178_7 ?_
    refine V_arr_congr (g := fun _ => v) (Or.inl ha) (fun i hi => pre_lt hi) ?_
    refine V_vret C hR dJ7_fill_53178_20 ?_
    exact ⟨rfl, rfl⟩
  have hs5 : ∀ i : Nat, i < alen k → (V X 5 [.ref (xad X k), .int v, .int (nI (i + 1)), .int (nI (alen k))] [] (setc σ k (pre (i + 1) (fun _ => v) (σ k)))) → V X 5 [.ref (xad X k), .int v, .int (nI i), .int (nI (alen k))] [] (setc σ k (pre i (fun _ => v) (σ k))) := by
    intro i hi5 ih5
    refine V_iload_n_2 (q := 6) C rfl dJ7_fill_53178_5 ?_
    refine V_iload_n_3 (q := 7) C rfl dJ7_fill_53178_6 ?_
    refine V_icmp_ge_f (tgt := 20) C (nI_ge hi5 hb) rfl (by decide) dJ7_fill_53178_7 ?_
    refine V_aload_n_0 (q := 11) C rfl dJ7_fill_53178_10 ?_
    refine V_iload_n_2 (q := 12) C rfl dJ7_fill_53178_11 ?_
    refine V_iload_n_1 (q := 13) C rfl dJ7_fill_53178_12 ?_
    refine V_iast (q := 14) C i rfl hi5 ha hk hb rfl dJ7_fill_53178_13 ?_
    refine V_iinc_2 (q := 17) (n := 1) C nI_inc hn2 rfl rfl dJ7_fill_53178_14 ?_
    refine V_goto (tgt := 5) C (by decide) dJ7_fill_53178_17 ?_
    refine V_eq ?_ ih5
    unfold setf
    rw [setc_s, setc_setc, pre_step rfl]
  exact V_eq (by rw [pre_0, setc_id]) (loopN (P := fun i => V X 5 [.ref (xad X k), .int v, .int (nI i), .int (nI (alen k))] [] (setc σ k (pre i (fun _ => v) (σ k)))) (alen k) hx5 hs5 0 (Nat.zero_le _))


set_option maxHeartbeats 4000000 in
set_option maxRecDepth 100000 in
theorem c_X8_isDay {l : Launch} {D : DD} {ad : Nat → Nat} (σ : ST) (x : Int32)  : Ct l yX8_isDay cX8_isDay 1 (Option.some FieldType.boolean) 0 0 D ad [.int x] σ (ex (some (.int (pI (isT 30 x)))) σ) := by
  refine Ct.of2 [.int x] rfl (Nat.le_of_ble_eq_true rfl) rfl ?_
  rintro X C rfl rfl rfl hxn hR
  refine V_iload_n_0 (q := 1) C rfl dX8_isDay_0 ?_
  refine V_if_lt (tgt := 14) C rfl (by decide) dX8_isDay_1 (fun c1 => ?_) (fun c1 => ?_)
  · refine V_iconst (q := 15) (v := 0) C rfl rfl dX8_isDay_14 ?_
    refine V_zret C hR rfl dX8_isDay_15 ?_
    exact ⟨by simp [pI, c1], rfl⟩
  · refine V_iload_n_0 (q := 5) C rfl dX8_isDay_4 ?_
    refine V_bipush (q := 7) (v := 30) C (by decide) rfl dX8_isDay_5 ?_
    refine V_icmp_ge (tgt := 14) C rfl (by decide) dX8_isDay_7 (fun c7 => ?_) (fun c7 => ?_)
    · refine V_iconst (q := 15) (v := 0) C rfl rfl dX8_isDay_14 ?_
      refine V_zret C hR rfl dX8_isDay_15 ?_
      exact ⟨by simp [pI, c1, c7], rfl⟩
    · refine V_iconst (q := 11) (v := 1) C rfl rfl dX8_isDay_10 ?_
      refine V_goto (tgt := 15) C (by decide) dX8_isDay_11 ?_
      refine V_zret C hR rfl dX8_isDay_15 ?_
      exact ⟨by simp [pI, c1, c7], rfl⟩

set_option maxHeartbeats 4000000 in
set_option maxRecDepth 100000 in
theorem c_X8_isLane {l : Launch} {D : DD} {ad : Nat → Nat} (σ : ST) (x : Int32)  : Ct l yX8_isLane cX8_isLane 1 (Option.some FieldType.boolean) 0 0 D ad [.int x] σ (ex (some (.int (pI (isT 3 x)))) σ) := by
  refine Ct.of2 [.int x] rfl (Nat.le_of_ble_eq_true rfl) rfl ?_
  rintro X C rfl rfl rfl hxn hR
  refine V_iload_n_0 (q := 1) C rfl dX8_isLane_0 ?_
  refine V_if_lt (tgt := 13) C rfl (by decide) dX8_isLane_1 (fun c1 => ?_) (fun c1 => ?_)
  · refine V_iconst (q := 14) (v := 0) C rfl rfl dX8_isLane_13 ?_
    refine V_zret C hR rfl dX8_isLane_14 ?_
    exact ⟨by simp [pI, c1], rfl⟩
  · refine V_iload_n_0 (q := 5) C rfl dX8_isLane_4 ?_
    refine V_iconst (q := 6) (v := 3) C rfl rfl dX8_isLane_5 ?_
    refine V_icmp_ge (tgt := 13) C rfl (by decide) dX8_isLane_6 (fun c6 => ?_) (fun c6 => ?_)
    · refine V_iconst (q := 14) (v := 0) C rfl rfl dX8_isLane_13 ?_
      refine V_zret C hR rfl dX8_isLane_14 ?_
      exact ⟨by simp [pI, c1, c6], rfl⟩
    · refine V_iconst (q := 10) (v := 1) C rfl rfl dX8_isLane_9 ?_
      refine V_goto (tgt := 14) C (by decide) dX8_isLane_10 ?_
      refine V_zret C hR rfl dX8_isLane_14 ?_
      exact ⟨by simp [pI, c1, c6], rfl⟩

set_option maxHeartbeats 4000000 in
set_option maxRecDepth 100000 in
theorem c_X8_isIn {l : Launch} {D : DD} {ad : Nat → Nat} (σ : ST) (x i : Int32)  : Ct l yX8_isIn cX8_isIn 2 (Option.some FieldType.boolean) 0 0 D ad [.int x, .int i] σ (ex (some (.int (pI (bit x i)))) σ) := by
  refine Ct.of2 [.int x, .int i] rfl (Nat.le_of_ble_eq_true rfl) rfl ?_
  rintro X C rfl rfl rfl hxn hR
  refine V_iload_n_0 (q := 1) C rfl dX8_isIn_0 ?_
  refine V_iload_n_1 (q := 2) C rfl dX8_isIn_1 ?_
  refine V_ishr (q := 3) C rfl dX8_isIn_2 ?_
  refine V_iconst (q := 4) (v := 1) C rfl rfl dX8_isIn_3 ?_
  refine V_iand (q := 5) C rfl dX8_isIn_4 ?_
  refine V_if_eq (tgt := 12) C rfl (by decide) dX8_isIn_5 (fun c5 => ?_) (fun c5 => ?_)
  · refine V_iconst (q := 13) (v := 0) C rfl rfl dX8_isIn_12 ?_
    refine V_zret C hR rfl dX8_isIn_13 ?_
    exact ⟨by simp [pI, c5], rfl⟩
  · refine V_iconst (q := 9) (v := 1) C rfl rfl dX8_isIn_8 ?_
    refine V_goto (tgt := 13) C (by decide) dX8_isIn_9 ?_
    refine V_zret C hR rfl dX8_isIn_13 ?_
    exact ⟨by simp [pI, c5], rfl⟩

set_option maxHeartbeats 4000000 in
set_option maxRecDepth 100000 in
theorem c_X1_isPlanted {l : Launch} {D : DD} {ad : Nat → Nat} (σ : ST)  : Ct l yX1_isPlanted cX1_isPlanted 1 (Option.some FieldType.boolean) 0 0 D ad [.ref (ad 12)] σ (ex (some (.int (pI (0 < σ 12 0)))) σ) := by
  refine Ct.of2 [.ref (ad 12)] rfl (Nat.le_of_ble_eq_true rfl) rfl ?_
  rintro X C rfl rfl rfl hxn hR
  refine V_aload_n_0 (q := 1) C rfl dX1_isPlanted_0 ?_
  refine gf_X1_9 (q := 4) C rfl dX1_isPlanted_1 ?_
  refine V_if_le (tgt := 11) C rfl (by decide) dX1_isPlanted_4 (fun c4 => ?_) (fun c4 => ?_)
  · refine V_iconst (q := 12) (v := 0) C rfl rfl dX1_isPlanted_11 ?_
    refine V_zret C hR rfl dX1_isPlanted_12 ?_
    exact ⟨by simp [pI, c4], rfl⟩
  · refine V_iconst (q := 8) (v := 1) C rfl rfl dX1_isPlanted_7 ?_
    refine V_goto (tgt := 12) C (by decide) dX1_isPlanted_8 ?_
    refine V_zret C hR rfl dX1_isPlanted_12 ?_
    exact ⟨by simp [pI, c4], rfl⟩

set_option maxHeartbeats 4000000 in
set_option maxRecDepth 100000 in
theorem c_X1_hasTree {l : Launch} {D : DD} {ad : Nat → Nat} (σ : ST) (t : Int32)  : Ct l yX1_hasTree cX1_hasTree 2 (Option.some FieldType.boolean) 0 0 D ad [.ref (ad 12), .int t] σ (ex (some (.int (pI (isT (σ 12 0) t)))) σ) := by
  refine Ct.of2 [.ref (ad 12), .int t] rfl (Nat.le_of_ble_eq_true rfl) rfl ?_
  rintro X C rfl rfl rfl hxn hR
  refine V_iload_n_1 (q := 1) C rfl dX1_hasTree_0 ?_
  refine V_if_lt (tgt := 16) C rfl (by decide) dX1_hasTree_1 (fun c1 => ?_) (fun c1 => ?_)
  · refine V_iconst (q := 17) (v := 0) C rfl rfl dX1_hasTree_16 ?_
    refine V_zret C hR rfl dX1_hasTree_17 ?_
    exact ⟨by simp [pI, c1], rfl⟩
  · refine V_iload_n_1 (q := 5) C rfl dX1_hasTree_4 ?_
    refine V_aload_n_0 (q := 6) C rfl dX1_hasTree_5 ?_
    refine gf_X1_9 (q := 9) C rfl dX1_hasTree_6 ?_
    refine V_icmp_ge (tgt := 16) C rfl (by decide) dX1_hasTree_9 (fun c9 => ?_) (fun c9 => ?_)
    · refine V_iconst (q := 17) (v := 0) C rfl rfl dX1_hasTree_16 ?_
      refine V_zret C hR rfl dX1_hasTree_17 ?_
      exact ⟨by simp [pI, c1, c9], rfl⟩
    · refine V_iconst (q := 13) (v := 1) C rfl rfl dX1_hasTree_12 ?_
      refine V_goto (tgt := 17) C (by decide) dX1_hasTree_13 ?_
      refine V_zret C hR rfl dX1_hasTree_17 ?_
      exact ⟨by simp [pI, c1, c9], rfl⟩

set_option maxHeartbeats 4000000 in
set_option maxRecDepth 100000 in
theorem c_X1_hasPrisoner {l : Launch} {D : DD} {ad : Nat → Nat} (σ : ST) (t : Int32)  : Ct l yX1_hasPrisoner cX1_hasPrisoner 2 (Option.some FieldType.boolean) 0 0 D ad [.ref (ad 12), .int t] σ (ex (some (.int (pI (isT (σ 12 1) t)))) σ) := by
  refine Ct.of2 [.ref (ad 12), .int t] rfl (Nat.le_of_ble_eq_true rfl) rfl ?_
  rintro X C rfl rfl rfl hxn hR
  refine V_iload_n_1 (q := 1) C rfl dX1_hasPrisoner_0 ?_
  refine V_if_lt (tgt := 16) C rfl (by decide) dX1_hasPrisoner_1 (fun c1 => ?_) (fun c1 => ?_)
  · refine V_iconst (q := 17) (v := 0) C rfl rfl dX1_hasPrisoner_16 ?_
    refine V_zret C hR rfl dX1_hasPrisoner_17 ?_
    exact ⟨by simp [pI, c1], rfl⟩
  · refine V_iload_n_1 (q := 5) C rfl dX1_hasPrisoner_4 ?_
    refine V_aload_n_0 (q := 6) C rfl dX1_hasPrisoner_5 ?_
    refine gf_X1_15 (q := 9) C rfl dX1_hasPrisoner_6 ?_
    refine V_icmp_ge (tgt := 16) C rfl (by decide) dX1_hasPrisoner_9 (fun c9 => ?_) (fun c9 => ?_)
    · refine V_iconst (q := 17) (v := 0) C rfl rfl dX1_hasPrisoner_16 ?_
      refine V_zret C hR rfl dX1_hasPrisoner_17 ?_
      exact ⟨by simp [pI, c1, c9], rfl⟩
    · refine V_iconst (q := 13) (v := 1) C rfl rfl dX1_hasPrisoner_12 ?_
      refine V_goto (tgt := 17) C (by decide) dX1_hasPrisoner_13 ?_
      refine V_zret C hR rfl dX1_hasPrisoner_17 ?_
      exact ⟨by simp [pI, c1, c9], rfl⟩

def ones (n : Int32) : Int32 := (1 <<< (n &&& 31)) - 1


set_option maxHeartbeats 4000000 in
set_option maxRecDepth 100000 in
theorem c_X1_allPrisoners {l : Launch} {D : DD} {ad : Nat → Nat} (σ : ST)  : Ct l yX1_allPrisoners cX1_allPrisoners 1 (Option.some FieldType.int) 0 0 D ad [.ref (ad 12)] σ (ex (some (.int (ones (σ 12 1)))) σ) := by
  refine Ct.of2 [.ref (ad 12)] rfl (Nat.le_of_ble_eq_true rfl) rfl ?_
  rintro X C rfl rfl rfl hxn hR
  refine V_iconst (q := 1) (v := 1) C rfl rfl dX1_allPrisoners_0 ?_
  refine V_aload_n_0 (q := 2) C rfl dX1_allPrisoners_1 ?_
  refine gf_X1_15 (q := 5) C rfl dX1_allPrisoners_2 ?_
  refine V_ishl (q := 6) C rfl dX1_allPrisoners_5 ?_
  refine V_iconst (q := 7) (v := 1) C rfl rfl dX1_allPrisoners_6 ?_
  refine V_isub (q := 8) C rfl dX1_allPrisoners_7 ?_
  refine V_iret C hR dX1_allPrisoners_8 ?_
  exact ⟨rfl, rfl⟩

