/-! the reference: green keys, thieves -/
abbrev grQ (σ : ST) (z i : Nat) : Prop := ∀ t, t < i → (nI z >>> (nI t &&& 31)) &&& 1 = 1 → σ 47 t = 0
abbrev grM (σ : ST) (T : Nat) (a : Int32) (z : Nat) : Prop := grQ σ z T ∧ szN 6 z = 3 ∧ remI (sumL (nI z) (σ 45) T) 6 = a

set_option maxHeartbeats 4000000 in
set_option maxRecDepth 100000 in
theorem c_X9_isGreen {l : Launch} {D : DD} {ad : Nat → Nat} (σ : ST) (T z : Nat) (a : Int32) (hT : σ 40 5 = nI T) (hT6 : T ≤ 6) (hz : z < 64) : Ct l yX9_isGreen cX9_isGreen 5 (Option.some FieldType.boolean) 1 22 D ad [.ref (ad 40), .int (nI z), .int a] σ (ex (some (.int (pI (grM σ T a z)))) σ) := by
  refine Ct.of2 [.ref (ad 40), .int (nI z), .int a, .float 0, .float 0] rfl (Nat.le_of_ble_eq_true rfl) rfl ?_
  rintro X C rfl rfl rfl hxn hR
  have hn3 : 3 < xn X := by rw [← hxn]; decide
  have hn4 : 4 < xn X := by rw [← hxn]; decide
  refine V_iconst (q := 1) (v := (sumL (nI z) (σ 45) 0)) C rfl rfl dX9_isGreen_0 ?_
  refine V_istore_n_3 (q := 2) C hn3 rfl rfl dX9_isGreen_1 ?_
  refine V_iconst (q := 3) (v := (nI 0)) C rfl rfl dX9_isGreen_2 ?_
  refine V_istore_4 (q := 5) C hn4 rfl rfl dX9_isGreen_3 ?_
  have hx5 : (grQ σ z T) → V X 5 [.ref (xad X 40), .int (nI z), .int a, .int (sumL (nI z) (σ 45) T), .int (nI T)] [] (σ) := by
    intro hv5
    refine V_iload_4 (q := 7) C rfl dX9_isGreen_5 ?_
    refine V_aload_n_0 (q := 8) C rfl dX9_isGreen_7 ?_
    refine gf_X9_105 (q := 11) C rfl dX9_isGreen_8 ?_
    rw [hT]
    refine V_icmp_ge_t (tgt := 52) C (nI_le (Nat.le_refl _) (by omega)) (by decide) dX9_isGreen_11 ?_
    refine V_iload_n_1 (q := 53) C rfl dX9_isGreen_52 ?_
    refine V_cS1r (q := 56) C (c_X9_size σ z hz) cw_X9_size cs_X9_size wm_X9_201 ⟨by decide, by decide⟩ (Nat.le_of_ble_eq_true rfl) rfl dX9_isGreen_53 ?_
    refine V_iconst (q := 57) (v := 3) C rfl rfl dX9_isGreen_56 ?_
    refine V_icmp_ne (tgt := 72) C rfl (by decide) dX9_isGreen_57 (fun c57 => ?_) (fun c57 => ?_)
    · refine V_iconst (q := 73) (v := 0) C rfl rfl dX9_isGreen_72 ?_
      refine V_zret C hR rfl dX9_isGreen_73 ?_
      refine ⟨?_, rfl⟩
      rw [pI_f (fun h => c57 (by rw [h.2.1]; rfl))]
    · refine V_iload_n_3 (q := 61) C rfl dX9_isGreen_60 ?_
      refine V_bipush (q := 63) (v := 6) C (by decide) rfl dX9_isGreen_61 ?_
      refine V_irem (q := 64) C (by decide) rfl dX9_isGreen_63 ?_
      refine V_iload_n_2 (q := 65) C rfl dX9_isGreen_64 ?_
      refine V_icmp_ne (tgt := 72) C rfl (by decide) dX9_isGreen_65 (fun c65 => ?_) (fun c65 => ?_)
      · refine V_iconst (q := 73) (v := 0) C rfl rfl dX9_isGreen_72 ?_
        refine V_zret C hR rfl dX9_isGreen_73 ?_
        refine ⟨?_, rfl⟩
        rw [pI_f (fun h => c65 h.2.2)]
      · refine V_iconst (q := 69) (v := 1) C rfl rfl dX9_isGreen_68 ?_
        refine V_goto (tgt := 73) C (by decide) dX9_isGreen_69 ?_
        refine V_zret C hR rfl dX9_isGreen_73 ?_
        refine ⟨?_, rfl⟩
        rw [pI_t ⟨hv5, (nI_eq (b := 3) (by have := szN_le 6 z; omega) (by decide)).mp c57, c65⟩]
  have hs5 : ∀ t : Nat, t < T → ((grQ σ z (t + 1)) → V X 5 [.ref (xad X 40), .int (nI z), .int a, .int (sumL (nI z) (σ 45) (t + 1)), .int (nI (t + 1))] [] (σ)) → (grQ σ z t) → V X 5 [.ref (xad X 40), .int (nI z), .int a, .int (sumL (nI z) (σ 45) t), .int (nI t)] [] (σ) := by
    intro t hi5 ih5 hv5
    refine V_iload_4 (q := 7) C rfl dX9_isGreen_5 ?_
    refine V_aload_n_0 (q := 8) C rfl dX9_isGreen_7 ?_
    refine gf_X9_105 (q := 11) C rfl dX9_isGreen_8 ?_
    rw [hT]
    refine V_icmp_ge_f (tgt := 52) C (nI_ge hi5 (by omega)) rfl (by decide) dX9_isGreen_11 ?_
    refine V_iload_n_1 (q := 15) C rfl dX9_isGreen_14 ?_
    refine V_iload_4 (q := 17) C rfl dX9_isGreen_15 ?_
    refine V_ishr (q := 18) C rfl dX9_isGreen_17 ?_
    refine V_iconst (q := 19) (v := 1) C rfl rfl dX9_isGreen_18 ?_
    refine V_iand (q := 20) C rfl dX9_isGreen_19 ?_
    refine V_iconst (q := 21) (v := 1) C rfl rfl dX9_isGreen_20 ?_
    refine V_icmp_ne (tgt := 46) C rfl (by decide) dX9_isGreen_21 (fun c21 => ?_) (fun c21 => ?_)
    · refine V_iinc_4 (q := 49) (n := 1) C nI_inc hn4 rfl rfl dX9_isGreen_46 ?_
      refine V_goto (tgt := 5) C (by decide) dX9_isGreen_49 ?_
      first
      | (rw [show sumL (nI z) (σ 45) t = sumL (nI z) (σ 45) (t + 1) from (if_neg (fun h => c21 (bit_1.mpr h))).symm]; exact ih5 (fun u hu hb => by rcases Nat.lt_or_ge u t with h | h; exact hv5 u h hb; exact absurd (by rw [← show u = t by omega]; exact hb) c21))
      | (rw [show sumL (nI z) (σ 45) t + σ 45 t = sumL (nI z) (σ 45) (t + 1) from (if_pos (bit_1.mp c21)).symm]; exact ih5 (fun u hu hb => by rcases Nat.lt_or_ge u t with h | h; exact hv5 u h hb; rw [show u = t by omega]; exact c31))
    · refine V_aload_n_0 (q := 25) C rfl dX9_isGreen_24 ?_
      refine gf_X9_28 (q := 28) C rfl dX9_isGreen_25 ?_
      refine V_iload_4 (q := 30) C rfl dX9_isGreen_28 ?_
      refine V_zald (q := 31) C _ rfl (by show _ < 6; omega) rfl (by decide) (by decide) rfl dX9_isGreen_30 ?_
      refine V_if_eq (tgt := 36) C rfl (by decide) dX9_isGreen_31 (fun c31 => ?_) (fun c31 => ?_)
      · refine V_iload_n_3 (q := 37) C rfl dX9_isGreen_36 ?_
        refine V_aload_n_0 (q := 38) C rfl dX9_isGreen_37 ?_
        refine gf_X9_22 (q := 41) C rfl dX9_isGreen_38 ?_
        refine V_iload_4 (q := 43) C rfl dX9_isGreen_41 ?_
        refine V_iald (q := 44) C _ rfl (by show _ < 6; omega) rfl (by decide) (by decide) rfl dX9_isGreen_43 ?_
        refine V_iadd (q := 45) C rfl dX9_isGreen_44 ?_
        refine V_istore_n_3 (q := 46) C hn3 rfl rfl dX9_isGreen_45 ?_
        refine V_iinc_4 (q := 49) (n := 1) C nI_inc hn4 rfl rfl dX9_isGreen_46 ?_
        refine V_goto (tgt := 5) C (by decide) dX9_isGreen_49 ?_
        first
        | (rw [show sumL (nI z) (σ 45) t = sumL (nI z) (σ 45) (t + 1) from (if_neg (fun h => c21 (bit_1.mpr h))).symm]; exact ih5 (fun u hu hb => by rcases Nat.lt_or_ge u t with h | h; exact hv5 u h hb; exact absurd (by rw [← show u = t by omega]; exact hb) c21))
        | (rw [show sumL (nI z) (σ 45) t + σ 45 t = sumL (nI z) (σ 45) (t + 1) from (if_pos (bit_1.mp c21)).symm]; exact ih5 (fun u hu hb => by rcases Nat.lt_or_ge u t with h | h; exact hv5 u h hb; rw [show u = t by omega]; exact c31))
      · refine V_iconst (q := 35) (v := 0) C rfl rfl dX9_isGreen_34 ?_
        refine V_zret C hR rfl dX9_isGreen_35 ?_
        exact ⟨by rw [pI_f (fun h => c31 (h.1 t hi5 c21))], rfl⟩
  exact V_eq (rfl) (loopN (P := fun t => (grQ σ z t) → V X 5 [.ref (xad X 40), .int (nI z), .int a, .int (sumL (nI z) (σ 45) t), .int (nI t)] [] (σ)) (T) hx5 hs5 0 (Nat.zero_le _) (fun _ h => absurd h (Nat.not_lt_zero _)))

set_option maxHeartbeats 4000000 in
set_option maxRecDepth 100000 in
theorem c_X9_green_o {l : Launch} {D : DD} {ad : Nat → Nat} (σ : ST) (a k : Int32) (h : ¬ isT 6 a) : Ct l yX9_green cX9_green 5 (Option.some FieldType.int) 2 46 D ad [.ref (ad 40), .int a, .int k] σ (ex (some (.int (-2))) σ) := by
  refine Ct.of2 [.ref (ad 40), .int a, .int k, .float 0, .float 0] rfl (Nat.le_of_ble_eq_true rfl) rfl ?_
  rintro X C rfl rfl rfl hxn hR
  refine V_iload_n_1 (q := 1) C rfl dX9_green_0 ?_
  refine V_iconst (q := 2) (v := 0) C rfl rfl dX9_green_1 ?_
  refine V_iconst (q := 3) (v := 5) C rfl rfl dX9_green_2 ?_
  refine V_cS3r (q := 6) C (Ct.mono (v' := some (.int (pI (isT 6 a)))) (c_X9_within _ _ _ _) (congrArg (fun z => some (Value.int z)) (pI_congr (and_congr_right fun _ => lt5))) rfl) cw_X9_within cs_X9_within wm_X9_101 ⟨by decide, by decide⟩ (Nat.le_of_ble_eq_true rfl) rfl dX9_green_3 ?_
  refine V_ifp_ne_f (tgt := 12) C h rfl (by decide) dX9_green_6 ?_
  refine V_bipush (q := 11) (v := (-2)) C (by decide) rfl dX9_green_9 ?_
  refine V_iret C hR dX9_green_11 ?_
  exact ⟨rfl, rfl⟩

set_option maxHeartbeats 4000000 in
set_option maxRecDepth 100000 in
theorem c_X9_green_u {l : Launch} {D : DD} {ad : Nat → Nat} (σ : ST) (a k : Int32) (h : isT 6 a) (hk : k < -1) : Ct l yX9_green cX9_green 5 (Option.some FieldType.int) 2 46 D ad [.ref (ad 40), .int a, .int k] σ (ex (some (.int (-1))) σ) := by
  refine Ct.of2 [.ref (ad 40), .int a, .int k, .float 0, .float 0] rfl (Nat.le_of_ble_eq_true rfl) rfl ?_
  rintro X C rfl rfl rfl hxn hR
  refine V_iload_n_1 (q := 1) C rfl dX9_green_0 ?_
  refine V_iconst (q := 2) (v := 0) C rfl rfl dX9_green_1 ?_
  refine V_iconst (q := 3) (v := 5) C rfl rfl dX9_green_2 ?_
  refine V_cS3r (q := 6) C (Ct.mono (v' := some (.int (pI (isT 6 a)))) (c_X9_within _ _ _ _) (congrArg (fun z => some (Value.int z)) (pI_congr (and_congr_right fun _ => lt5))) rfl) cw_X9_within cs_X9_within wm_X9_101 ⟨by decide, by decide⟩ (Nat.le_of_ble_eq_true rfl) rfl dX9_green_3 ?_
  refine V_ifp_ne_t (tgt := 12) C h (by decide) dX9_green_6 ?_
  refine V_iload_n_2 (q := 13) C rfl dX9_green_12 ?_
  refine V_iconst (q := 14) (v := (-1)) C rfl rfl dX9_green_13 ?_
  refine V_icmp_ge_f (tgt := 19) C (Int32.not_le.mpr hk) rfl (by decide) dX9_green_14 ?_
  refine V_iconst (q := 18) (v := (-1)) C rfl rfl dX9_green_17 ?_
  refine V_iret C hR dX9_green_18 ?_
  exact ⟨rfl, rfl⟩

set_option maxHeartbeats 4000000 in
set_option maxRecDepth 100000 in
theorem c_X9_green_s {l : Launch} {D : DD} {ad : Nat → Nat} (σ : ST) (T : Nat) (a k : Int32) (h : isT 6 a) (hk : ¬ k < -1) (hT : σ 40 5 = nI T) (h0 : T = 0) : Ct l yX9_green cX9_green 5 (Option.some FieldType.int) 2 46 D ad [.ref (ad 40), .int a, .int k] σ (ex (some (.int (-3))) σ) := by
  refine Ct.of2 [.ref (ad 40), .int a, .int k, .float 0, .float 0] rfl (Nat.le_of_ble_eq_true rfl) rfl ?_
  rintro X C rfl rfl rfl hxn hR
  refine V_iload_n_1 (q := 1) C rfl dX9_green_0 ?_
  refine V_iconst (q := 2) (v := 0) C rfl rfl dX9_green_1 ?_
  refine V_iconst (q := 3) (v := 5) C rfl rfl dX9_green_2 ?_
  refine V_cS3r (q := 6) C (Ct.mono (v' := some (.int (pI (isT 6 a)))) (c_X9_within _ _ _ _) (congrArg (fun z => some (Value.int z)) (pI_congr (and_congr_right fun _ => lt5))) rfl) cw_X9_within cs_X9_within wm_X9_101 ⟨by decide, by decide⟩ (Nat.le_of_ble_eq_true rfl) rfl dX9_green_3 ?_
  refine V_ifp_ne_t (tgt := 12) C h (by decide) dX9_green_6 ?_
  refine V_iload_n_2 (q := 13) C rfl dX9_green_12 ?_
  refine V_iconst (q := 14) (v := (-1)) C rfl rfl dX9_green_13 ?_
  refine V_icmp_ge_t (tgt := 19) C (Int32.not_lt.mp hk) (by decide) dX9_green_14 ?_
  refine V_aload_n_0 (q := 20) C rfl dX9_green_19 ?_
  refine gf_X9_105 (q := 23) C rfl dX9_green_20 ?_
  rw [hT]
  refine V_if_ne_f (tgt := 29) C (by subst h0; decide) rfl (by decide) dX9_green_23 ?_
  refine V_bipush (q := 28) (v := (-3)) C (by decide) rfl dX9_green_26 ?_
  refine V_iret C hR dX9_green_28 ?_
  exact ⟨rfl, rfl⟩

set_option maxHeartbeats 4000000 in
set_option maxRecDepth 100000 in
theorem c_X9_green_v {l : Launch} {D : DD} {ad : Nat → Nat} (σ : ST) (T : Nat) (a k : Int32) (h : isT 6 a) (hk : ¬ k < -1) (hT : σ 40 5 = nI T) (hT6 : T ≤ 6) (h0 : 0 < T) : Ct l yX9_green cX9_green 5 (Option.some FieldType.int) 2 46 D ad [.ref (ad 40), .int a, .int k] σ (ex (some (.int (grS (grM σ T a) k (2 ^ T) 0 0))) σ) := by
  refine Ct.of2 [.ref (ad 40), .int a, .int k, .float 0, .float 0] rfl (Nat.le_of_ble_eq_true rfl) rfl ?_
  rintro X C rfl rfl rfl hxn hR
  have hn3 : 3 < xn X := by rw [← hxn]; decide
  have hn4 : 4 < xn X := by rw [← hxn]; decide
  have hp2 := p2_b hT6
  refine V_iload_n_1 (q := 1) C rfl dX9_green_0 ?_
  refine V_iconst (q := 2) (v := 0) C rfl rfl dX9_green_1 ?_
  refine V_iconst (q := 3) (v := 5) C rfl rfl dX9_green_2 ?_
  refine V_cS3r (q := 6) C (Ct.mono (v' := some (.int (pI (isT 6 a)))) (c_X9_within _ _ _ _) (congrArg (fun z => some (Value.int z)) (pI_congr (and_congr_right fun _ => lt5))) rfl) cw_X9_within cs_X9_within wm_X9_101 ⟨by decide, by decide⟩ (Nat.le_of_ble_eq_true rfl) rfl dX9_green_3 ?_
  refine V_ifp_ne_t (tgt := 12) C h (by decide) dX9_green_6 ?_
  refine V_iload_n_2 (q := 13) C rfl dX9_green_12 ?_
  refine V_iconst (q := 14) (v := (-1)) C rfl rfl dX9_green_13 ?_
  refine V_icmp_ge_t (tgt := 19) C (Int32.not_lt.mp hk) (by decide) dX9_green_14 ?_
  refine V_aload_n_0 (q := 20) C rfl dX9_green_19 ?_
  refine gf_X9_105 (q := 23) C rfl dX9_green_20 ?_
  rw [hT]
  refine V_if_ne_t (tgt := 29) C (nI_ne0 h0 (by omega)) (by decide) dX9_green_23 ?_
  refine V_iconst (q := 30) (v := (nI 0)) C rfl rfl dX9_green_29 ?_
  refine V_istore_n_3 (q := 31) C hn3 rfl rfl dX9_green_30 ?_
  refine V_iconst (q := 32) (v := (nI 0)) C rfl rfl dX9_green_31 ?_
  refine V_istore_4 (q := 34) C hn4 rfl rfl dX9_green_32 ?_
  have hx34 : ∀ c : Nat, c ≤ ((2 ^ T)) → grS (grM σ T a) k (2 ^ T) 0 0 = grS (grM σ T a) k (2 ^ T - ((2 ^ T))) ((2 ^ T)) c →  V X 34 [.ref (xad X 40), .int a, .int k, .int (nI c), .int (nI ((2 ^ T)))] [] (σ) := by
    intro c hc hv
    refine V_iload_4 (q := 36) C rfl dX9_green_34 ?_
    refine V_iconst (q := 37) (v := 1) C rfl rfl dX9_green_36 ?_
    refine V_aload_n_0 (q := 38) C rfl dX9_green_37 ?_
    refine gf_X9_105 (q := 41) C rfl dX9_green_38 ?_
    refine V_ishl (q := 42) C rfl dX9_green_41 ?_
    rw [show (1 : Int32) <<< (σ 40 5 &&& 31) = nI (2 ^ T) from by rw [hT]; exact own1_p T (by omega)]
    refine V_icmp_ge_t (tgt := 72) C (nI_le (Nat.le_refl _) (by omega)) (by decide) dX9_green_42 ?_
    refine V_iload_n_2 (q := 73) C rfl dX9_green_72 ?_
    refine V_iconst (q := 74) (v := (-1)) C rfl rfl dX9_green_73 ?_
    refine V_icmp_ne (tgt := 81) C rfl (by decide) dX9_green_74 (fun c74 => ?_) (fun c74 => ?_)
    · refine V_bipush (q := 83) (v := (-9)) C (by decide) rfl dX9_green_81 ?_
      refine V_iret C hR dX9_green_83 ?_
      exact ⟨by rw [hv, Nat.sub_self]; exact congrArg (fun x => some (Value.int x)) (if_neg c74).symm, rfl⟩
    · refine V_iload_n_3 (q := 78) C rfl dX9_green_77 ?_
      refine V_goto (tgt := 83) C (by decide) dX9_green_78 ?_
      refine V_iret C hR dX9_green_83 ?_
      exact ⟨by rw [hv, Nat.sub_self]; exact congrArg (fun x => some (Value.int x)) (if_pos c74).symm, rfl⟩
  have hs34 : ∀ z : Nat, z < (2 ^ T) → (∀ c : Nat, c ≤ (z + 1) → grS (grM σ T a) k (2 ^ T) 0 0 = grS (grM σ T a) k (2 ^ T - (z + 1)) (z + 1) c →  V X 34 [.ref (xad X 40), .int a, .int k, .int (nI c), .int (nI (z + 1))] [] (σ)) → ∀ c : Nat, c ≤ z → grS (grM σ T a) k (2 ^ T) 0 0 = grS (grM σ T a) k (2 ^ T - z) z c →  V X 34 [.ref (xad X 40), .int a, .int k, .int (nI c), .int (nI z)] [] (σ) := by
    intro z hi34 ih34 c hc hv
    have hz : 2 ^ T - z = (2 ^ T - (z + 1)) + 1 := by omega
    have hg : grS (grM σ T a) k (2 ^ T - z) z c = if grM σ T a z then (if nI c = k then nI z else grS (grM σ T a) k (2 ^ T - (z + 1)) (z + 1) (c + 1)) else grS (grM σ T a) k (2 ^ T - (z + 1)) (z + 1) c := by rw [hz]; rfl
    refine V_iload_4 (q := 36) C rfl dX9_green_34 ?_
    refine V_iconst (q := 37) (v := 1) C rfl rfl dX9_green_36 ?_
    refine V_aload_n_0 (q := 38) C rfl dX9_green_37 ?_
    refine gf_X9_105 (q := 41) C rfl dX9_green_38 ?_
    refine V_ishl (q := 42) C rfl dX9_green_41 ?_
    rw [show (1 : Int32) <<< (σ 40 5 &&& 31) = nI (2 ^ T) from by rw [hT]; exact own1_p T (by omega)]
    refine V_icmp_ge_f (tgt := 72) C (nI_ge hi34 (by omega)) rfl (by decide) dX9_green_42 ?_
    refine V_aload_n_0 (q := 46) C rfl dX9_green_45 ?_
    refine V_iload_4 (q := 48) C rfl dX9_green_46 ?_
    refine V_iload_n_1 (q := 49) C rfl dX9_green_48 ?_
    refine V_cV2r (q := 52) C (c_X9_isGreen σ T z a hT hT6 (by omega)) cw_X9_isGreen cv_X9_isGreen wm_X9_215 (by decide) ob_X9 ⟨by decide, by decide⟩ (Nat.le_of_ble_eq_true rfl) rfl dX9_green_49 ?_
    refine V_ifp_eq (tgt := 66) C rfl (by decide) dX9_green_52 (fun c52 => ?_) (fun c52 => ?_)
    · refine V_iinc_4 (q := 69) (n := 1) C nI_inc hn4 rfl rfl dX9_green_66 ?_
      refine V_goto (tgt := 34) C (by decide) dX9_green_69 ?_
      first
      | exact ih34 c (by omega) (by rw [hv, hg, if_neg c52])
      | exact ih34 (c + 1) (by omega) (by rw [hv, hg, if_pos c52, if_neg c57])
    · refine V_iload_n_3 (q := 56) C rfl dX9_green_55 ?_
      refine V_iload_n_2 (q := 57) C rfl dX9_green_56 ?_
      refine V_icmp_ne (tgt := 63) C rfl (by decide) dX9_green_57 (fun c57 => ?_) (fun c57 => ?_)
      · refine V_iinc_3 (q := 66) (n := 1) C nI_inc hn3 rfl rfl dX9_green_63 ?_
        refine V_iinc_4 (q := 69) (n := 1) C nI_inc hn4 rfl rfl dX9_green_66 ?_
        refine V_goto (tgt := 34) C (by decide) dX9_green_69 ?_
        first
        | exact ih34 c (by omega) (by rw [hv, hg, if_neg c52])
        | exact ih34 (c + 1) (by omega) (by rw [hv, hg, if_pos c52, if_neg c57])
      · refine V_iload_4 (q := 62) C rfl dX9_green_60 ?_
        refine V_iret C hR dX9_green_62 ?_
        exact ⟨by rw [hv, hg, if_pos c52, if_pos c57], rfl⟩
  exact V_eq (rfl) (loopN (P := fun z => ∀ c : Nat, c ≤ z → grS (grM σ T a) k (2 ^ T) 0 0 = grS (grM σ T a) k (2 ^ T - z) z c →  V X 34 [.ref (xad X 40), .int a, .int k, .int (nI c), .int (nI z)] [] (σ)) ((2 ^ T)) hx34 hs34 0 (Nat.zero_le _) 0 (Nat.le_refl 0) rfl)

abbrev asQ (σ : ST) (T P C r : Nat) : Prop := pI ((mDC σ T P C 30).2.1 (σ 65 r).toNatClampNeg ≤ σ 66 r) = σ 67 r

set_option maxHeartbeats 4000000 in
set_option maxRecDepth 100000 in
theorem c_X9_areSo {l : Launch} {D : DD} {ad : Nat → Nat} (σ : ST) (T P C2 R2 : Nat) (hM : MH σ T P C2) (hRd : σ 40 33 = nI R2) (hR8 : R2 ≤ 8) (hrp : ∀ r, r < R2 → ∃ p : Nat, p < P ∧ σ 65 r = nI p) : Ct l yX9_areSo cX9_areSo 3 (Option.some FieldType.boolean) 4 88 D ad [.ref (ad 40)] σ (pq (fun v τ => v = pI (∀ r, r < R2 → asQ σ T P C2 r) ∧ ∃ s, τ = putM σ s)) := by
  refine Ct.of2 [.ref (ad 40), .float 0, .float 0] rfl (Nat.le_of_ble_eq_true rfl) rfl ?_
  rintro X C rfl rfl rfl hxn hR
  have hn1 : 1 < xn X := by rw [← hxn]; decide
  have hn2 : 2 < xn X := by rw [← hxn]; decide
  have hP6 := hM.2.2.2.1
  refine V_aload_n_0 (q := 1) C rfl dX9_areSo_0 ?_
  refine V_bipush (q := 3) (v := 29) C (by decide) rfl dX9_areSo_1 ?_
  refine V_cV1v (q := 6) C (c_X9_goTo (σ) T P C2 (30) (29) (hM) (ld29)) cw_X9_goTo cv_X9_goTo wm_X9_185 (by decide) ob_X9 ⟨by decide, by decide⟩ (Nat.le_of_ble_eq_true rfl) rfl dX9_areSo_3 ?_
  have hE := mDC_eq (σ := σ) (T := T) (P := P) (C := C2) (N := 30) (hM) (ld29).1
  generalize mDays (σ) T P C2 (30) (m0 (σ) T P) = s1 at hE ⊢
  refine V_iconst (q := 7) (v := (nI 0)) C rfl rfl dX9_areSo_6 ?_
  refine V_istore_n_1 (q := 8) C hn1 rfl rfl dX9_areSo_7 ?_
  have hx8 : (∀ t, t < R2 → asQ σ T P C2 t) → V X 8 [.ref (xad X 40), .int (nI R2), .float 0] [] (putM σ s1) := by
    intro hv8
    refine V_iload_n_1 (q := 9) C rfl dX9_areSo_8 ?_
    refine V_aload_n_0 (q := 10) C rfl dX9_areSo_9 ?_
    refine gf_X9_141 (q := 13) C rfl dX9_areSo_10 ?_
    rw [show (putM σ s1) 40 33 = nI R2 from hRd]
    refine V_icmp_ge_t (tgt := 60) C (nI_le (Nat.le_refl _) (by omega)) (by decide) dX9_areSo_13 ?_
    refine V_iconst (q := 61) (v := 1) C rfl rfl dX9_areSo_60 ?_
    refine V_zret C hR rfl dX9_areSo_61 ?_
    exact ⟨_, rfl, by rw [pI_t hv8], _, rfl⟩
  have hs8 : ∀ r : Nat, r < R2 → ((∀ t, t < (r + 1) → asQ σ T P C2 t) → V X 8 [.ref (xad X 40), .int (nI (r + 1)), .float 0] [] (putM σ s1)) → (∀ t, t < r → asQ σ T P C2 t) → V X 8 [.ref (xad X 40), .int (nI r), .float 0] [] (putM σ s1) := by
    intro r hi8 ih8 hv8
    obtain ⟨p, hp6, ep⟩ := hrp r hi8
    have hag : asQ σ T P C2 r ↔ pI (s1.2.1 p ≤ σ 66 r) = σ 67 r := by unfold asQ; rw [ep, nI_clamp (by omega), ← (hE.2 p hp6).1]
    refine V_iload_n_1 (q := 9) C rfl dX9_areSo_8 ?_
    refine V_aload_n_0 (q := 10) C rfl dX9_areSo_9 ?_
    refine gf_X9_141 (q := 13) C rfl dX9_areSo_10 ?_
    rw [show (putM σ s1) 40 33 = nI R2 from hRd]
    refine V_icmp_ge_f (tgt := 60) C (nI_ge hi8 (by omega)) rfl (by decide) dX9_areSo_13 ?_
    refine V_aload_n_0 (q := 17) C rfl dX9_areSo_16 ?_
    refine gf_X9_71 (q := 20) C rfl dX9_areSo_17 ?_
    refine V_aload_n_0 (q := 21) C rfl dX9_areSo_20 ?_
    refine gf_X9_87 (q := 24) C rfl dX9_areSo_21 ?_
    refine V_iload_n_1 (q := 25) C rfl dX9_areSo_24 ?_
    refine V_iald (q := 26) C _ rfl (by show _ < 8; omega) rfl (by decide) (by decide) rfl dX9_areSo_25 ?_
    refine V_iald (q := 27) C p ep (by show _ < 6; omega) rfl (by decide) (by decide) rfl dX9_areSo_26 ?_
    refine V_aload_n_0 (q := 28) C rfl dX9_areSo_27 ?_
    refine gf_X9_90 (q := 31) C rfl dX9_areSo_28 ?_
    refine V_iload_n_1 (q := 32) C rfl dX9_areSo_31 ?_
    refine V_iald (q := 33) C _ rfl (by show _ < 8; omega) rfl (by decide) (by decide) rfl dX9_areSo_32 ?_
    refine V_icmp_gt (tgt := 40) C rfl (by decide) dX9_areSo_33 (fun c33 => ?_) (fun c33 => ?_)
    · refine V_iconst (q := 41) (v := 0) C rfl rfl dX9_areSo_40 ?_
      refine V_istore_n_2 (q := 42) C hn2 rfl rfl dX9_areSo_41 ?_
      refine V_iload_n_2 (q := 43) C rfl dX9_areSo_42 ?_
      refine V_aload_n_0 (q := 44) C rfl dX9_areSo_43 ?_
      refine gf_X9_93 (q := 47) C rfl dX9_areSo_44 ?_
      refine V_iload_n_1 (q := 48) C rfl dX9_areSo_47 ?_
      refine V_zald (q := 49) C _ rfl (by show _ < 8; omega) rfl (by decide) (by decide) rfl dX9_areSo_48 ?_
      refine V_icmp_eq (tgt := 54) C rfl (by decide) dX9_areSo_49 (fun c49 => ?_) (fun c49 => ?_)
      · refine V_iinc_1 (q := 57) (n := 1) C nI_inc hn1 rfl rfl dX9_areSo_54 ?_
        refine V_goto (tgt := 8) C (by decide) dX9_areSo_57 ?_
        refine V_weak3 (ih8 (fun t ht => ?_))
        rcases Nat.lt_or_ge t r with h | h
        · exact hv8 t h
        · have e : t = r := by omega
          subst e
          refine hag.mpr (Eq.trans ?_ (show _ = σ 67 t from c49))
          first | exact pI_t (Int32.not_lt.mp c33) | exact pI_f (fun h => absurd c33 (Int32.not_lt.mpr h))
      · refine V_iconst (q := 53) (v := 0) C rfl rfl dX9_areSo_52 ?_
        refine V_zret C hR rfl dX9_areSo_53 ?_
        refine ⟨_, rfl, ?_, _, rfl⟩
        rw [pI_f (fun h => ?_)]
        have h1 := hag.mp (h r hi8)
        first | exact c49 (Eq.trans (pI_t (Int32.not_lt.mp c33)).symm h1) | exact c49 (Eq.trans (pI_f (fun h => absurd c33 (Int32.not_lt.mpr h))).symm h1)
    · refine V_iconst (q := 37) (v := 1) C rfl rfl dX9_areSo_36 ?_
      refine V_goto (tgt := 41) C (by decide) dX9_areSo_37 ?_
      refine V_istore_n_2 (q := 42) C hn2 rfl rfl dX9_areSo_41 ?_
      refine V_iload_n_2 (q := 43) C rfl dX9_areSo_42 ?_
      refine V_aload_n_0 (q := 44) C rfl dX9_areSo_43 ?_
      refine gf_X9_93 (q := 47) C rfl dX9_areSo_44 ?_
      refine V_iload_n_1 (q := 48) C rfl dX9_areSo_47 ?_
      refine V_zald (q := 49) C _ rfl (by show _ < 8; omega) rfl (by decide) (by decide) rfl dX9_areSo_48 ?_
      refine V_icmp_eq (tgt := 54) C rfl (by decide) dX9_areSo_49 (fun c49 => ?_) (fun c49 => ?_)
      · refine V_iinc_1 (q := 57) (n := 1) C nI_inc hn1 rfl rfl dX9_areSo_54 ?_
        refine V_goto (tgt := 8) C (by decide) dX9_areSo_57 ?_
        refine V_weak3 (ih8 (fun t ht => ?_))
        rcases Nat.lt_or_ge t r with h | h
        · exact hv8 t h
        · have e : t = r := by omega
          subst e
          refine hag.mpr (Eq.trans ?_ (show _ = σ 67 t from c49))
          first | exact pI_t (Int32.not_lt.mp c33) | exact pI_f (fun h => absurd c33 (Int32.not_lt.mpr h))
      · refine V_iconst (q := 53) (v := 0) C rfl rfl dX9_areSo_52 ?_
        refine V_zret C hR rfl dX9_areSo_53 ?_
        refine ⟨_, rfl, ?_, _, rfl⟩
        rw [pI_f (fun h => ?_)]
        have h1 := hag.mp (h r hi8)
        first | exact c49 (Eq.trans (pI_t (Int32.not_lt.mp c33)).symm h1) | exact c49 (Eq.trans (pI_f (fun h => absurd c33 (Int32.not_lt.mpr h))).symm h1)
  exact V_eq (rfl) (loopN (P := fun r => (∀ t, t < r → asQ σ T P C2 t) → V X 8 [.ref (xad X 40), .int (nI r), .float 0] [] (putM σ s1)) (R2) hx8 hs8 0 (Nat.zero_le _) (fun _ h => absurd h (Nat.not_lt_zero _)))

set_option maxHeartbeats 4000000 in
set_option maxRecDepth 100000 in
theorem c_X9_thief_u {l : Launch} {D : DD} {ad : Nat → Nat} (σ : ST) (d : Int32) (h : ¬ isT 30 d) : Ct l yX9_thief cX9_thief 4 (Option.some FieldType.int) 5 110 D ad [.ref (ad 40), .int d] σ (ex (some (.int (-1))) σ) := by
  refine Ct.of2 [.ref (ad 40), .int d, .float 0, .float 0] rfl (Nat.le_of_ble_eq_true rfl) rfl ?_
  rintro X C rfl rfl rfl hxn hR
  refine V_iload_n_1 (q := 1) C rfl dX9_thief_0 ?_
  refine V_cS1r (q := 4) C (c_X9_isDay _ _) cw_X9_isDay cs_X9_isDay wm_X9_165 ⟨by decide, by decide⟩ (Nat.le_of_ble_eq_true rfl) rfl dX9_thief_1 ?_
  refine V_ifp_ne_f (tgt := 9) C h rfl (by decide) dX9_thief_4 ?_
  refine V_iconst (q := 8) (v := (-1)) C rfl rfl dX9_thief_7 ?_
  refine V_iret C hR dX9_thief_8 ?_
  exact ⟨rfl, rfl⟩

set_option maxHeartbeats 4000000 in
set_option maxRecDepth 100000 in
theorem c_X9_thief_s {l : Launch} {D : DD} {ad : Nat → Nat} (σ : ST) (d T : Nat) (hd : d < 30) (hT : σ 40 5 = nI T) (h0 : T = 0) : Ct l yX9_thief cX9_thief 4 (Option.some FieldType.int) 5 110 D ad [.ref (ad 40), .int (nI d)] σ (ex (some (.int (-3))) σ) := by
  refine Ct.of2 [.ref (ad 40), .int (nI d), .float 0, .float 0] rfl (Nat.le_of_ble_eq_true rfl) rfl ?_
  rintro X C rfl rfl rfl hxn hR
  refine V_iload_n_1 (q := 1) C rfl dX9_thief_0 ?_
  refine V_cS1r (q := 4) C (c_X9_isDay _ _) cw_X9_isDay cs_X9_isDay wm_X9_165 ⟨by decide, by decide⟩ (Nat.le_of_ble_eq_true rfl) rfl dX9_thief_1 ?_
  refine V_ifp_ne_t (tgt := 9) C (isT_nI (N := 30) hd (by decide)) (by decide) dX9_thief_4 ?_
  refine V_aload_n_0 (q := 10) C rfl dX9_thief_9 ?_
  refine gf_X9_105 (q := 13) C rfl dX9_thief_10 ?_
  rw [hT]
  refine V_if_ne_f (tgt := 19) C (by subst h0; decide) rfl (by decide) dX9_thief_13 ?_
  refine V_bipush (q := 18) (v := (-3)) C (by decide) rfl dX9_thief_16 ?_
  refine V_iret C hR dX9_thief_18 ?_
  exact ⟨rfl, rfl⟩

def thX (σ : ST) (C d : Nat) (x : Int32) : ST := setf (setf (setf σ 58 C (nI d)) 40 24 (nI (C + 1))) 59 C x
abbrev thQ (σ : ST) (T P C R d t : Nat) : Prop := ∀ r, r < R → asQ (thX σ C d (nI t)) T P (C + 1) r
theorem thX_id {σ : ST} {C d : Nat} : setf (setf σ 58 C (nI d)) 40 24 (nI (C + 1)) = thX σ C d (σ 59 C) := (setf_id rfl).symm
theorem thX_set {σ : ST} {C d : Nat} {x y : Int32} {s : S3} : setf (putM (thX σ C d x) s) 59 C y = putM (thX σ C d y) s := by
  unfold setf
  rw [putM_c (by decide)]
  refine congrArg (fun z => putM z s) ?_
  exact setf_setf (σ := setf (setf σ 58 C (nI d)) 40 24 (nI (C + 1))) (k := 59) (i := C)
theorem thX_MH {σ : ST} {T P C d t : Nat} {s : S3} (hM : MH σ T P C) (hC : C ≤ 6) (h9 : σ 40 31 = -9) (ht : t < T) : MH (putM (thX σ C d (nI t)) s) T P (C + 1) :=
  ⟨hM.1, hM.2.1, hM.2.2.1, hM.2.2.2.1, rfl, by omega, fun c hc => by
    show ∃ u : Nat, u < T ∧ upd (σ 59) C (nI t) c = nI u
    unfold upd
    by_cases e : c = C
    · rw [if_pos e]; exact ⟨t, ht, rfl⟩
    · rw [if_neg e]; exact hM.2.2.2.2.2.2.1 c (by omega), Or.inl h9, fun d2 hd2 => by
    have := hM.2.2.2.2.2.2.2.2 d2 hd2
    unfold woM at this ⊢
    rw [if_pos h9] at this
    rw [if_pos (show (putM (thX σ C d (nI t)) s) 40 31 = -9 from h9)]
    exact this⟩
theorem thX_cg {σ : ST} {T P C d r : Nat} {x : Int32} {s : S3} : asQ (putM (thX σ C d x) s) T P (C + 1) r ↔ asQ (thX σ C d x) T P (C + 1) r := by
  unfold asQ
  rw [show mDC (putM (thX σ C d x) s) T P (C + 1) 30 = mDC (thX σ C d x) T P (C + 1) 30 from mDays_put _]
  rfl
theorem thX_KM {σ : ST} {C d : Nat} {x : Int32} {s : S3} (hC : σ 40 24 = nI C) : KM C σ (setf (putM (thX σ C d x) s) 40 24 (nI C)) := by
  have e : ∀ k, k ≠ 40 → k ≠ 58 → k ≠ 59 → k ≠ 60 → k ≠ 61 → k ≠ 62 → (setf (putM (thX σ C d x) s) 40 24 (nI C)) k = σ k := fun k a b c d e f => by
    unfold setf putM thX setf
    rw [setc_n a, setc_n f, setc_n e, setc_n d, setc_n c, setc_n a, setc_n b]
  refine ⟨fun k hk => e k (by unfold scm at hk; omega) (by unfold scm at hk; omega) (by unfold scm at hk; omega) (by unfold scm at hk; omega) (by unfold scm at hk; omega) (by unfold scm at hk; omega), fun i _ _ _ => ?_, fun c hc => ⟨?_, ?_⟩⟩
  · show upd (upd (σ 40) 24 (nI (C + 1))) 24 (nI C) i = σ 40 i
    rw [upd_upd]
    unfold upd
    by_cases h : i = 24
    · rw [if_pos h, h, hC]
    · rw [if_neg h]
  · show upd (σ 58) C (nI d) c = σ 58 c
    exact if_neg (by omega)
  · show upd (σ 59) C x c = σ 59 c
    exact if_neg (by omega)

set_option maxHeartbeats 4000000 in
set_option maxRecDepth 100000 in
theorem c_X9_thief_v {l : Launch} {D : DD} {ad : Nat → Nat} (σ : ST) (T P C2 R2 d : Nat) (hM : MH σ T P C2) (hC6 : C2 ≤ 6) (h9 : σ 40 31 = -9) (hRd : σ 40 33 = nI R2) (hR8 : R2 ≤ 8) (hrp : ∀ r, r < R2 → ∃ p : Nat, p < P ∧ σ 65 r = nI p) (hd : d < 30) (h0 : 0 < T) : Ct l yX9_thief cX9_thief 4 (Option.some FieldType.int) 5 110 D ad [.ref (ad 40), .int (nI d)] σ (pq (fun v τ => v = setB (thQ σ T P C2 R2 d) T ∧ KM C2 σ τ)) := by
  refine Ct.of2 [.ref (ad 40), .int (nI d), .float 0, .float 0] rfl (Nat.le_of_ble_eq_true rfl) rfl ?_
  rintro X C rfl rfl rfl hxn hR
  have hn2 : 2 < xn X := by rw [← hxn]; decide
  have hn3 : 3 < xn X := by rw [← hxn]; decide
  have hT := hM.1
  have hT6 := hM.2.1
  have hC := hM.2.2.2.2.1
  refine V_iload_n_1 (q := 1) C rfl dX9_thief_0 ?_
  refine V_cS1r (q := 4) C (c_X9_isDay _ _) cw_X9_isDay cs_X9_isDay wm_X9_165 ⟨by decide, by decide⟩ (Nat.le_of_ble_eq_true rfl) rfl dX9_thief_1 ?_
  refine V_ifp_ne_t (tgt := 9) C (isT_nI (N := 30) hd (by decide)) (by decide) dX9_thief_4 ?_
  refine V_aload_n_0 (q := 10) C rfl dX9_thief_9 ?_
  refine gf_X9_105 (q := 13) C rfl dX9_thief_10 ?_
  rw [hT]
  refine V_if_ne_t (tgt := 19) C (nI_ne0 h0 (by omega)) (by decide) dX9_thief_13 ?_
  refine V_iconst (q := 20) (v := (setB (thQ σ T P C2 R2 d) 0)) C rfl rfl dX9_thief_19 ?_
  refine V_istore_n_2 (q := 21) C hn2 rfl rfl dX9_thief_20 ?_
  refine V_aload_n_0 (q := 22) C rfl dX9_thief_21 ?_
  refine gf_X9_62 (q := 25) C rfl dX9_thief_22 ?_
  refine V_aload_n_0 (q := 26) C rfl dX9_thief_25 ?_
  refine gf_X9_138 (q := 29) C rfl dX9_thief_26 ?_
  refine V_iload_n_1 (q := 30) C rfl dX9_thief_29 ?_
  refine V_iast (q := 31) C C2 hC (by show _ < 7; omega) rfl (by decide) (by decide) rfl dX9_thief_30 ?_
  refine V_aload_n_0 (q := 32) C rfl dX9_thief_31 ?_
  refine V_dup (q := 33) C rfl rfl dX9_thief_32 ?_
  refine gf_X9_138 (q := 36) C rfl dX9_thief_33 ?_
  refine V_iconst (q := 37) (v := 1) C rfl rfl dX9_thief_36 ?_
  refine V_iadd (q := 38) C rfl dX9_thief_37 ?_
  rw [show (setf σ 58 C2 (nI d)) 40 24 + 1 = nI (C2 + 1) from by rw [show (setf σ 58 C2 (nI d)) 40 24 = nI C2 from hC, nI_1]]
  refine pf_X9_138 (q := 41) C rfl dX9_thief_38 ?_
  refine V_iconst (q := 42) (v := (nI 0)) C rfl rfl dX9_thief_41 ?_
  refine V_istore_n_3 (q := 43) C hn3 rfl rfl dX9_thief_42 ?_
  have hx43 : ∀ (x : Int32) (s : S3),  V X 43 [.ref (xad X 40), .int (nI d), .int (setB (thQ σ T P C2 R2 d) T), .int (nI T)] [] (putM (thX σ C2 d x) s) := by
    intro x s
    refine V_iload_n_3 (q := 44) C rfl dX9_thief_43 ?_
    refine V_aload_n_0 (q := 45) C rfl dX9_thief_44 ?_
    refine gf_X9_105 (q := 48) C rfl dX9_thief_45 ?_
    rw [show (putM (thX σ C2 d x) s) 40 5 = nI T from hT]
    refine V_icmp_ge_t (tgt := 86) C (nI_le (Nat.le_refl _) (by omega)) (by decide) dX9_thief_48 ?_
    refine V_aload_n_0 (q := 87) C rfl dX9_thief_86 ?_
    refine V_dup (q := 88) C rfl rfl dX9_thief_87 ?_
    refine gf_X9_138 (q := 91) C rfl dX9_thief_88 ?_
    refine V_iconst (q := 92) (v := 1) C rfl rfl dX9_thief_91 ?_
    refine V_isub (q := 93) C rfl dX9_thief_92 ?_
    rw [show (putM (thX σ C2 d x) s) 40 24 - 1 = nI C2 from by show nI (C2 + 1) - 1 = nI C2; rw [show nI (C2 + 1) - 1 = nI (C2 + 1 - 1) from pk_sub (b := 1) (by omega)]; rfl]
    refine pf_X9_138 (q := 96) C rfl dX9_thief_93 ?_
    refine V_iload_n_2 (q := 97) C rfl dX9_thief_96 ?_
    refine V_iret C hR dX9_thief_97 ?_
    exact ⟨_, rfl, rfl, thX_KM hC⟩
  have hs43 : ∀ t : Nat, t < T → (∀ (x : Int32) (s : S3),  V X 43 [.ref (xad X 40), .int (nI d), .int (setB (thQ σ T P C2 R2 d) (t + 1)), .int (nI (t + 1))] [] (putM (thX σ C2 d x) s)) → ∀ (x : Int32) (s : S3),  V X 43 [.ref (xad X 40), .int (nI d), .int (setB (thQ σ T P C2 R2 d) t), .int (nI t)] [] (putM (thX σ C2 d x) s) := by
    intro t hi43 ih43 x s
    refine V_iload_n_3 (q := 44) C rfl dX9_thief_43 ?_
    refine V_aload_n_0 (q := 45) C rfl dX9_thief_44 ?_
    refine gf_X9_105 (q := 48) C rfl dX9_thief_45 ?_
    rw [show (putM (thX σ C2 d x) s) 40 5 = nI T from hT]
    refine V_icmp_ge_f (tgt := 86) C (nI_ge hi43 (by omega)) rfl (by decide) dX9_thief_48 ?_
    refine V_aload_n_0 (q := 52) C rfl dX9_thief_51 ?_
    refine gf_X9_65 (q := 55) C rfl dX9_thief_52 ?_
    refine V_aload_n_0 (q := 56) C rfl dX9_thief_55 ?_
    refine gf_X9_138 (q := 59) C rfl dX9_thief_56 ?_
    refine V_iconst (q := 60) (v := 1) C rfl rfl dX9_thief_59 ?_
    refine V_isub (q := 61) C rfl dX9_thief_60 ?_
    rw [show (putM (thX σ C2 d x) s) 40 24 - 1 = nI C2 from by show nI (C2 + 1) - 1 = nI C2; rw [show nI (C2 + 1) - 1 = nI (C2 + 1 - 1) from pk_sub (b := 1) (by omega)]; rfl]
    refine V_iload_n_3 (q := 62) C rfl dX9_thief_61 ?_
    refine V_iast (q := 63) C C2 rfl (by show _ < 7; omega) rfl (by decide) (by decide) rfl dX9_thief_62 ?_
    refine V_eq thX_set ?_
    refine V_iload_n_2 (q := 64) C rfl dX9_thief_63 ?_
    refine V_aload_n_0 (q := 65) C rfl dX9_thief_64 ?_
    refine V_cV0q C (c_X9_areSo (putM (thX σ C2 d (nI t)) s) T P (C2 + 1) R2 (thX_MH hM hC6 h9 hi43) hRd hR8 hrp) cw_X9_areSo cv_X9_areSo wm_X9_219 (by decide) ob_X9 ⟨by decide, by decide⟩ (Nat.le_of_ble_eq_true rfl) rfl dX9_thief_65 (fun v τ hv => ?_)
    obtain ⟨rfl, s2, rfl⟩ := hv
    refine V_eq putM_putM ?_
    refine V_ifp_eq (tgt := 77) C rfl (by decide) dX9_thief_68 (fun c68 => ?_) (fun c68 => ?_)
    · refine V_iconst (q := 78) (v := 0) C rfl rfl dX9_thief_77 ?_
      refine V_ior (q := 79) C rfl dX9_thief_78 ?_
      refine V_istore_n_2 (q := 80) C hn2 rfl rfl dX9_thief_79 ?_
      refine V_iinc_3 (q := 83) (n := 1) C nI_inc hn3 rfl rfl dX9_thief_80 ?_
      refine V_goto (tgt := 43) C (by decide) dX9_thief_83 ?_
      first
      | (rw [or0, show setB (thQ σ T P C2 R2 d) t = setB (thQ σ T P C2 R2 d) (t + 1) from (if_neg (fun h => c68 (fun r hr => thX_cg.mpr (h r hr)))).symm]; exact ih43 _ _)
      | (rw [show setB (thQ σ T P C2 R2 d) t ||| (1 <<< (nI t &&& 31)) = setB (thQ σ T P C2 R2 d) (t + 1) from (if_pos (fun r hr => thX_cg.mp (c68 r hr))).symm]; exact ih43 _ _)
    · refine V_iconst (q := 72) (v := 1) C rfl rfl dX9_thief_71 ?_
      refine V_iload_n_3 (q := 73) C rfl dX9_thief_72 ?_
      refine V_ishl (q := 74) C rfl dX9_thief_73 ?_
      refine V_goto (tgt := 78) C (by decide) dX9_thief_74 ?_
      refine V_ior (q := 79) C rfl dX9_thief_78 ?_
      refine V_istore_n_2 (q := 80) C hn2 rfl rfl dX9_thief_79 ?_
      refine V_iinc_3 (q := 83) (n := 1) C nI_inc hn3 rfl rfl dX9_thief_80 ?_
      refine V_goto (tgt := 43) C (by decide) dX9_thief_83 ?_
      first
      | (rw [or0, show setB (thQ σ T P C2 R2 d) t = setB (thQ σ T P C2 R2 d) (t + 1) from (if_neg (fun h => c68 (fun r hr => thX_cg.mpr (h r hr)))).symm]; exact ih43 _ _)
      | (rw [show setB (thQ σ T P C2 R2 d) t ||| (1 <<< (nI t &&& 31)) = setB (thQ σ T P C2 R2 d) (t + 1) from (if_pos (fun r hr => thX_cg.mp (c68 r hr))).symm]; exact ih43 _ _)
  exact V_eq (by rw [thX_id]; exact (putM_get (σ := thX σ C2 d (σ 59 C2))).symm) (loopN (P := fun t => ∀ (x : Int32) (s : S3),  V X 43 [.ref (xad X 40), .int (nI d), .int (setB (thQ σ T P C2 R2 d) t), .int (nI t)] [] (putM (thX σ C2 d x) s)) (T) hx43 hs43 0 (Nat.zero_le _) (σ 59 C2) (getM σ))

