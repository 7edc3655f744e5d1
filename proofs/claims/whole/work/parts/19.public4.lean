/-! the class: its public calls, green keys, thieves, texts -/
set_option maxHeartbeats 4000000 in
set_option maxRecDepth 100000 in
theorem c_X8_green_o {l : Launch} {D : DD} {ad : Nat → Nat} (σ : ST) (a k : Int32) (h : ¬ isT 6 a) : Ct l yX8_green cX8_green 5 (Option.some FieldType.int) 2 45 D ad [.ref (ad 0), .int a, .int k] σ (ex (some (.int (-2))) σ) := by
  refine Ct.of2 [.ref (ad 0), .int a, .int k, .float 0, .float 0] rfl (Nat.le_of_ble_eq_true rfl) rfl ?_
  rintro X C rfl rfl rfl hxn hR
  refine V_iload_n_1 (q := 1) C rfl dX8_green_0 ?_
  refine V_if_lt (tgt := 10) C rfl (by decide) dX8_green_1 (fun c1 => ?_) (fun c1 => ?_)
  · refine V_bipush (q := 12) (v := (-2)) C (by decide) rfl dX8_green_10 ?_
    refine V_iret C hR dX8_green_12 ?_
    exact ⟨rfl, rfl⟩
  · refine V_iload_n_1 (q := 5) C rfl dX8_green_4 ?_
    refine V_bipush (q := 7) (v := 6) C (by decide) rfl dX8_green_5 ?_
    refine V_icmp_lt (tgt := 13) C rfl (by decide) dX8_green_7 (fun c7 => ?_) (fun c7 => ?_)
    · exact absurd ⟨c1, Int32.not_le.mpr c7⟩ h
    · refine V_bipush (q := 12) (v := (-2)) C (by decide) rfl dX8_green_10 ?_
      refine V_iret C hR dX8_green_12 ?_
      exact ⟨rfl, rfl⟩

set_option maxHeartbeats 4000000 in
set_option maxRecDepth 100000 in
theorem c_X8_green_u {l : Launch} {D : DD} {ad : Nat → Nat} (σ : ST) (a k : Int32) (h : isT 6 a) (hk : k < -1) : Ct l yX8_green cX8_green 5 (Option.some FieldType.int) 2 45 D ad [.ref (ad 0), .int a, .int k] σ (ex (some (.int (-1))) σ) := by
  refine Ct.of2 [.ref (ad 0), .int a, .int k, .float 0, .float 0] rfl (Nat.le_of_ble_eq_true rfl) rfl ?_
  rintro X C rfl rfl rfl hxn hR
  refine V_iload_n_1 (q := 1) C rfl dX8_green_0 ?_
  refine V_if_lt_f (tgt := 10) C h.1 rfl (by decide) dX8_green_1 ?_
  refine V_iload_n_1 (q := 5) C rfl dX8_green_4 ?_
  refine V_bipush (q := 7) (v := 6) C (by decide) rfl dX8_green_5 ?_
  refine V_icmp_lt_t (tgt := 13) C (Int32.not_le.mp h.2) (by decide) dX8_green_7 ?_
  refine V_iload_n_2 (q := 14) C rfl dX8_green_13 ?_
  refine V_iconst (q := 15) (v := (-1)) C rfl rfl dX8_green_14 ?_
  refine V_icmp_ge_f (tgt := 20) C (Int32.not_le.mpr hk) rfl (by decide) dX8_green_15 ?_
  refine V_iconst (q := 19) (v := (-1)) C rfl rfl dX8_green_18 ?_
  refine V_iret C hR dX8_green_19 ?_
  exact ⟨rfl, rfl⟩

set_option maxHeartbeats 4000000 in
set_option maxRecDepth 100000 in
theorem c_X8_green_s {l : Launch} {D : DD} {ad : Nat → Nat} (σ : ST) (T : Nat) (a k : Int32) (h : isT 6 a) (hk : ¬ k < -1) (hT : σ 12 0 = nI T) (h0 : T = 0) : Ct l yX8_green cX8_green 5 (Option.some FieldType.int) 2 45 D ad [.ref (ad 0), .int a, .int k] σ (ex (some (.int (-3))) σ) := by
  refine Ct.of2 [.ref (ad 0), .int a, .int k, .float 0, .float 0] rfl (Nat.le_of_ble_eq_true rfl) rfl ?_
  rintro X C rfl rfl rfl hxn hR
  refine V_iload_n_1 (q := 1) C rfl dX8_green_0 ?_
  refine V_if_lt_f (tgt := 10) C h.1 rfl (by decide) dX8_green_1 ?_
  refine V_iload_n_1 (q := 5) C rfl dX8_green_4 ?_
  refine V_bipush (q := 7) (v := 6) C (by decide) rfl dX8_green_5 ?_
  refine V_icmp_lt_t (tgt := 13) C (Int32.not_le.mp h.2) (by decide) dX8_green_7 ?_
  refine V_iload_n_2 (q := 14) C rfl dX8_green_13 ?_
  refine V_iconst (q := 15) (v := (-1)) C rfl rfl dX8_green_14 ?_
  refine V_icmp_ge_t (tgt := 20) C (Int32.not_lt.mp hk) (by decide) dX8_green_15 ?_
  refine V_aload_n_0 (q := 21) C rfl dX8_green_20 ?_
  refine gf_X8_57 (q := 24) C rfl dX8_green_21 ?_
  refine V_cV0r (q := 27) C (Ct.mono (v' := some (.int (pI (0 < nI T)))) (c_X1_isPlanted σ) (by rw [show σ 12 0 = nI T from hT]) rfl) cw_X1_isPlanted cv_X1_isPlanted wm_X8_156 (by decide) ob_X1 ⟨by decide, by decide⟩ (Nat.le_of_ble_eq_true rfl) rfl dX8_green_24 ?_
  refine V_ifp_ne_f (tgt := 33) C (pl0_no h0) rfl (by decide) dX8_green_27 ?_
  refine V_bipush (q := 32) (v := (-3)) C (by decide) rfl dX8_green_30 ?_
  refine V_iret C hR dX8_green_32 ?_
  exact ⟨rfl, rfl⟩

def grS (q : Nat → Prop) [DecidablePred q] (k : Int32) : Nat → Nat → Nat → Int32
  | 0, _, c => if k = -1 then nI c else -9
  | f + 1, i, c => if q i then (if nI c = k then nI i else grS q k f (i + 1) (c + 1)) else grS q k f (i + 1) c
abbrev grC (σ : ST) (T : Nat) (a : Int32) (x : Nat) : Prop := popc (nI x) = 3 ∧ nI x &&& σ 12 2 = 0 ∧ remI (sumL (nI x) (σ 14) T) 6 = a

set_option maxHeartbeats 4000000 in
set_option maxRecDepth 100000 in
theorem c_X8_green_v {l : Launch} {D : DD} {ad : Nat → Nat} (σ : ST) (T : Nat) (a k : Int32) (h : isT 6 a) (hk : ¬ k < -1) (hT : σ 12 0 = nI T) (hT6 : T ≤ 6) (h0 : 0 < T) : Ct l yX8_green cX8_green 5 (Option.some FieldType.int) 2 45 D ad [.ref (ad 0), .int a, .int k] σ (ex (some (.int (grS (grC σ T a) k (2 ^ T) 0 0))) σ) := by
  refine Ct.of2 [.ref (ad 0), .int a, .int k, .float 0, .float 0] rfl (Nat.le_of_ble_eq_true rfl) rfl ?_
  rintro X C rfl rfl rfl hxn hR
  have hn3 : 3 < xn X := by rw [← hxn]; decide
  have hn4 : 4 < xn X := by rw [← hxn]; decide
  have hp2 := p2_b hT6
  refine V_iload_n_1 (q := 1) C rfl dX8_green_0 ?_
  refine V_if_lt_f (tgt := 10) C h.1 rfl (by decide) dX8_green_1 ?_
  refine V_iload_n_1 (q := 5) C rfl dX8_green_4 ?_
  refine V_bipush (q := 7) (v := 6) C (by decide) rfl dX8_green_5 ?_
  refine V_icmp_lt_t (tgt := 13) C (Int32.not_le.mp h.2) (by decide) dX8_green_7 ?_
  refine V_iload_n_2 (q := 14) C rfl dX8_green_13 ?_
  refine V_iconst (q := 15) (v := (-1)) C rfl rfl dX8_green_14 ?_
  refine V_icmp_ge_t (tgt := 20) C (Int32.not_lt.mp hk) (by decide) dX8_green_15 ?_
  refine V_aload_n_0 (q := 21) C rfl dX8_green_20 ?_
  refine gf_X8_57 (q := 24) C rfl dX8_green_21 ?_
  refine V_cV0r (q := 27) C (Ct.mono (v' := some (.int (pI (0 < nI T)))) (c_X1_isPlanted σ) (by rw [show σ 12 0 = nI T from hT]) rfl) cw_X1_isPlanted cv_X1_isPlanted wm_X8_156 (by decide) ob_X1 ⟨by decide, by decide⟩ (Nat.le_of_ble_eq_true rfl) rfl dX8_green_24 ?_
  refine V_ifp_ne_t (tgt := 33) C (pl0_of h0 hT6) (by decide) dX8_green_27 ?_
  refine V_iconst (q := 34) (v := (nI 0)) C rfl rfl dX8_green_33 ?_
  refine V_istore_n_3 (q := 35) C hn3 rfl rfl dX8_green_34 ?_
  refine V_iconst (q := 36) (v := (nI 0)) C rfl rfl dX8_green_35 ?_
  refine V_istore_4 (q := 38) C hn4 rfl rfl dX8_green_36 ?_
  have hx38 : ∀ c : Nat, c ≤ ((2 ^ T)) → grS (grC σ T a) k (2 ^ T) 0 0 = grS (grC σ T a) k (2 ^ T - ((2 ^ T))) ((2 ^ T)) c →  V X 38 [.ref (xad X 0), .int a, .int k, .int (nI c), .int (nI ((2 ^ T)))] [] (σ) := by
    intro c hc hv
    refine V_iload_4 (q := 40) C rfl dX8_green_38 ?_
    refine V_aload_n_0 (q := 41) C rfl dX8_green_40 ?_
    refine gf_X8_57 (q := 44) C rfl dX8_green_41 ?_
    refine V_cV0r (q := 47) C (Ct.mono (v' := some (.int (ones (nI T)))) (c_X1_allTrees σ) (by rw [hT]) rfl) cw_X1_allTrees cv_X1_allTrees wm_X8_208 (by decide) ob_X1 ⟨by decide, by decide⟩ (Nat.le_of_ble_eq_true rfl) rfl dX8_green_44 ?_
    refine V_icmp_gt_t (tgt := 80) C (by rw [ones_nI T hT6]; exact nI_lt (by omega) (by omega)) (by decide) dX8_green_47 ?_
    refine V_iload_n_2 (q := 81) C rfl dX8_green_80 ?_
    refine V_iconst (q := 82) (v := (-1)) C rfl rfl dX8_green_81 ?_
    refine V_icmp_ne (tgt := 89) C rfl (by decide) dX8_green_82 (fun c82 => ?_) (fun c82 => ?_)
    · refine V_bipush (q := 91) (v := (-9)) C (by decide) rfl dX8_green_89 ?_
      refine V_iret C hR dX8_green_91 ?_
      exact ⟨by rw [hv, Nat.sub_self]; exact congrArg (fun x => some (Value.int x)) (if_neg c82).symm, rfl⟩
    · refine V_iload_n_3 (q := 86) C rfl dX8_green_85 ?_
      refine V_goto (tgt := 91) C (by decide) dX8_green_86 ?_
      refine V_iret C hR dX8_green_91 ?_
      exact ⟨by rw [hv, Nat.sub_self]; exact congrArg (fun x => some (Value.int x)) (if_pos c82).symm, rfl⟩
  have hs38 : ∀ z : Nat, z < (2 ^ T) → (∀ c : Nat, c ≤ (z + 1) → grS (grC σ T a) k (2 ^ T) 0 0 = grS (grC σ T a) k (2 ^ T - (z + 1)) (z + 1) c →  V X 38 [.ref (xad X 0), .int a, .int k, .int (nI c), .int (nI (z + 1))] [] (σ)) → ∀ c : Nat, c ≤ z → grS (grC σ T a) k (2 ^ T) 0 0 = grS (grC σ T a) k (2 ^ T - z) z c →  V X 38 [.ref (xad X 0), .int a, .int k, .int (nI c), .int (nI z)] [] (σ) := by
    intro z hi38 ih38 c hc hv
    have hz : 2 ^ T - z = (2 ^ T - (z + 1)) + 1 := by omega
    have hg : grS (grC σ T a) k (2 ^ T - z) z c = if grC σ T a z then (if nI c = k then nI z else grS (grC σ T a) k (2 ^ T - (z + 1)) (z + 1) (c + 1)) else grS (grC σ T a) k (2 ^ T - (z + 1)) (z + 1) c := by rw [hz]; rfl
    refine V_iload_4 (q := 40) C rfl dX8_green_38 ?_
    refine V_aload_n_0 (q := 41) C rfl dX8_green_40 ?_
    refine gf_X8_57 (q := 44) C rfl dX8_green_41 ?_
    refine V_cV0r (q := 47) C (Ct.mono (v' := some (.int (ones (nI T)))) (c_X1_allTrees σ) (by rw [hT]) rfl) cw_X1_allTrees cv_X1_allTrees wm_X8_208 (by decide) ob_X1 ⟨by decide, by decide⟩ (Nat.le_of_ble_eq_true rfl) rfl dX8_green_44 ?_
    refine V_icmp_gt_f (tgt := 80) C (by rw [ones_nI T hT6]; exact nI_nlt (by omega) (by omega)) rfl (by decide) dX8_green_47 ?_
    refine V_aload_n_0 (q := 51) C rfl dX8_green_50 ?_
    refine gf_X8_57 (q := 54) C rfl dX8_green_51 ?_
    refine V_iload_4 (q := 56) C rfl dX8_green_54 ?_
    refine V_iload_n_1 (q := 57) C rfl dX8_green_56 ?_
    refine V_cV2r (q := 60) C (c_X1_isGreen σ (nI z) a T hT hT6) cw_X1_isGreen cv_X1_isGreen wm_X8_235 (by decide) ob_X1 ⟨by decide, by decide⟩ (Nat.le_of_ble_eq_true rfl) rfl dX8_green_57 ?_
    refine V_ifp_eq (tgt := 74) C rfl (by decide) dX8_green_60 (fun c60 => ?_) (fun c60 => ?_)
    · refine V_iinc_4 (q := 77) (n := 1) C nI_inc hn4 rfl rfl dX8_green_74 ?_
      refine V_goto (tgt := 38) C (by decide) dX8_green_77 ?_
      first
      | exact ih38 c (by omega) (by rw [hv, hg, if_neg c60])
      | exact ih38 (c + 1) (by omega) (by rw [hv, hg, if_pos c60, if_neg c65])
    · refine V_iload_n_3 (q := 64) C rfl dX8_green_63 ?_
      refine V_iload_n_2 (q := 65) C rfl dX8_green_64 ?_
      refine V_icmp_ne (tgt := 71) C rfl (by decide) dX8_green_65 (fun c65 => ?_) (fun c65 => ?_)
      · refine V_iinc_3 (q := 74) (n := 1) C nI_inc hn3 rfl rfl dX8_green_71 ?_
        refine V_iinc_4 (q := 77) (n := 1) C nI_inc hn4 rfl rfl dX8_green_74 ?_
        refine V_goto (tgt := 38) C (by decide) dX8_green_77 ?_
        first
        | exact ih38 c (by omega) (by rw [hv, hg, if_neg c60])
        | exact ih38 (c + 1) (by omega) (by rw [hv, hg, if_pos c60, if_neg c65])
      · refine V_iload_4 (q := 70) C rfl dX8_green_68 ?_
        refine V_iret C hR dX8_green_70 ?_
        exact ⟨by rw [hv, hg, if_pos c60, if_pos c65], rfl⟩
  exact V_eq (rfl) (loopN (P := fun z => ∀ c : Nat, c ≤ z → grS (grC σ T a) k (2 ^ T) 0 0 = grS (grC σ T a) k (2 ^ T - z) z c →  V X 38 [.ref (xad X 0), .int a, .int k, .int (nI c), .int (nI z)] [] (σ)) ((2 ^ T)) hx38 hs38 0 (Nat.zero_le _) 0 (Nat.le_refl 0) rfl)

set_option maxHeartbeats 4000000 in
set_option maxRecDepth 100000 in
theorem c_X8_thief_u {l : Launch} {D : DD} {ad : Nat → Nat} (σ : ST) (d : Int32) (h : ¬ isT 30 d) : Ct l yX8_thief cX8_thief 5 (Option.some FieldType.int) 5 111 D ad [.ref (ad 0), .int d] σ (ex (some (.int (-1))) σ) := by
  refine Ct.of2 [.ref (ad 0), .int d, .float 0, .float 0, .float 0] rfl (Nat.le_of_ble_eq_true rfl) rfl ?_
  rintro X C rfl rfl rfl hxn hR
  refine V_iload_n_1 (q := 1) C rfl dX8_thief_0 ?_
  refine V_cS1r (q := 4) C (c_X8_isDay _ _) cw_X8_isDay cs_X8_isDay wm_X8_153 ⟨by decide, by decide⟩ (Nat.le_of_ble_eq_true rfl) rfl dX8_thief_1 ?_
  refine V_ifp_ne_f (tgt := 9) C h rfl (by decide) dX8_thief_4 ?_
  refine V_iconst (q := 8) (v := (-1)) C rfl rfl dX8_thief_7 ?_
  refine V_iret C hR dX8_thief_8 ?_
  exact ⟨rfl, rfl⟩

set_option maxHeartbeats 4000000 in
set_option maxRecDepth 100000 in
theorem c_X8_thief_s {l : Launch} {D : DD} {ad : Nat → Nat} (σ : ST) (d T : Nat) (hd : d < 30) (hT : σ 12 0 = nI T) (h0 : T = 0) : Ct l yX8_thief cX8_thief 5 (Option.some FieldType.int) 5 111 D ad [.ref (ad 0), .int (nI d)] σ (ex (some (.int (-3))) σ) := by
  refine Ct.of2 [.ref (ad 0), .int (nI d), .float 0, .float 0, .float 0] rfl (Nat.le_of_ble_eq_true rfl) rfl ?_
  rintro X C rfl rfl rfl hxn hR
  refine V_iload_n_1 (q := 1) C rfl dX8_thief_0 ?_
  refine V_cS1r (q := 4) C (c_X8_isDay _ _) cw_X8_isDay cs_X8_isDay wm_X8_153 ⟨by decide, by decide⟩ (Nat.le_of_ble_eq_true rfl) rfl dX8_thief_1 ?_
  refine V_ifp_ne_t (tgt := 9) C (isT_nI (N := 30) hd (by decide)) (by decide) dX8_thief_4 ?_
  refine V_aload_n_0 (q := 10) C rfl dX8_thief_9 ?_
  refine gf_X8_57 (q := 13) C rfl dX8_thief_10 ?_
  refine V_cV0r (q := 16) C (Ct.mono (v' := some (.int (pI (0 < nI T)))) (c_X1_isPlanted σ) (by rw [show σ 12 0 = nI T from hT]) rfl) cw_X1_isPlanted cv_X1_isPlanted wm_X8_156 (by decide) ob_X1 ⟨by decide, by decide⟩ (Nat.le_of_ble_eq_true rfl) rfl dX8_thief_13 ?_
  refine V_ifp_ne_f (tgt := 22) C (pl0_no h0) rfl (by decide) dX8_thief_16 ?_
  refine V_bipush (q := 21) (v := (-3)) C (by decide) rfl dX8_thief_19 ?_
  refine V_iret C hR dX8_thief_21 ?_
  exact ⟨rfl, rfl⟩

def thS (σ : ST) (C d t : Nat) : ST := setc (prepF σ C) 33 (upd ((prepF σ C) 33) d ((prepF σ C) 33 d ||| own1 (nI t)))
abbrev thP (σ : ST) (T P C R d t : Nat) : Prop := ∀ r, r < R → pI ((daysC (thS σ C d t) T P 30 (s0C σ)).2.1 (σ 27 r).toNatClampNeg ≤ σ 28 r) = σ 29 r

set_option maxHeartbeats 4000000 in
set_option maxRecDepth 100000 in
theorem c_X8_thief_v {l : Launch} {D : DD} {ad : Nat → Nat} (σ : ST) (T P C2 R2 d : Nat) (hT : σ 12 0 = nI T) (hT6 : T ≤ 6) (hP : σ 12 1 = nI P) (hP6 : P ≤ 6) (hC : σ 21 5 = nI C2) (hC6 : C2 ≤ 6) (hcd : ∀ c, c < C2 → ∃ d : Nat, d < 30 ∧ σ 24 c = nI d) (hR2 : σ 26 3 = nI R2) (hR8 : R2 ≤ 8) (hrp : ∀ r, r < R2 → ∃ p : Nat, p < 6 ∧ σ 27 r = nI p) (hd : d < 30) (h0 : 0 < T) : Ct l yX8_thief cX8_thief 5 (Option.some FieldType.int) 5 111 D ad [.ref (ad 0), .int (nI d)] σ (pq (fun v τ => v = setB (thP σ T P C2 R2 d) T ∧ Kp σ τ)) := by
  refine Ct.of2 [.ref (ad 0), .int (nI d), .float 0, .float 0, .float 0] rfl (Nat.le_of_ble_eq_true rfl) rfl ?_
  rintro X C rfl rfl rfl hxn hR
  have hn2 : 2 < xn X := by rw [← hxn]; decide
  have hn3 : 3 < xn X := by rw [← hxn]; decide
  have hn4 : 4 < xn X := by rw [← hxn]; decide
  refine V_iload_n_1 (q := 1) C rfl dX8_thief_0 ?_
  refine V_cS1r (q := 4) C (c_X8_isDay _ _) cw_X8_isDay cs_X8_isDay wm_X8_153 ⟨by decide, by decide⟩ (Nat.le_of_ble_eq_true rfl) rfl dX8_thief_1 ?_
  refine V_ifp_ne_t (tgt := 9) C (isT_nI (N := 30) hd (by decide)) (by decide) dX8_thief_4 ?_
  refine V_aload_n_0 (q := 10) C rfl dX8_thief_9 ?_
  refine gf_X8_57 (q := 13) C rfl dX8_thief_10 ?_
  refine V_cV0r (q := 16) C (Ct.mono (v' := some (.int (pI (0 < nI T)))) (c_X1_isPlanted σ) (by rw [show σ 12 0 = nI T from hT]) rfl) cw_X1_isPlanted cv_X1_isPlanted wm_X8_156 (by decide) ob_X1 ⟨by decide, by decide⟩ (Nat.le_of_ble_eq_true rfl) rfl dX8_thief_13 ?_
  refine V_ifp_ne_t (tgt := 22) C (pl0_of h0 hT6) (by decide) dX8_thief_16 ?_
  refine V_aload_n_0 (q := 23) C rfl dX8_thief_22 ?_
  refine gf_X8_61 (q := 26) C rfl dX8_thief_23 ?_
  refine V_aload_n_0 (q := 27) C rfl dX8_thief_26 ?_
  refine gf_X8_27 (q := 30) C rfl dX8_thief_27 ?_
  refine V_cV1v (q := 33) C (c_X4_prepare σ C2 hC hC6 hcd) cw_X4_prepare cv_X4_prepare wm_X8_195 (by decide) ob_X4 ⟨by decide, by decide⟩ (Nat.le_of_ble_eq_true rfl) rfl dX8_thief_30 ?_
  refine V_aload_n_0 (q := 34) C rfl dX8_thief_33 ?_
  refine gf_X8_61 (q := 37) C rfl dX8_thief_34 ?_
  refine gf_X8_242 (q := 40) C rfl dX8_thief_37 ?_
  refine V_iload_n_1 (q := 41) C rfl dX8_thief_40 ?_
  refine V_iald (q := 42) C _ rfl (by show _ < 30; omega) rfl (by decide) (by decide) rfl dX8_thief_41 ?_
  refine V_istore_n_2 (q := 43) C hn2 rfl rfl dX8_thief_42 ?_
  refine V_iconst (q := 44) (v := (setB (thP σ T P C2 R2 d) 0)) C rfl rfl dX8_thief_43 ?_
  refine V_istore_n_3 (q := 45) C hn3 rfl rfl dX8_thief_44 ?_
  refine V_iconst (q := 46) (v := (nI 0)) C rfl rfl dX8_thief_45 ?_
  refine V_istore_4 (q := 48) C hn4 rfl rfl dX8_thief_46 ?_
  have hx48 : ∀ (w : Nat → Int32) (s : S4), (∀ x, upd w d x = upd ((prepF σ C2) 33) d x) →  V X 48 [.ref (xad X 0), .int (nI d), .int ((prepF σ C2) 33 d), .int (setB (thP σ T P C2 R2 d) T), .int (nI T)] [] (putS (setc (prepF σ C2) 33 w) s) := by
    intro w s hw
    refine V_iload_4 (q := 50) C rfl dX8_thief_48 ?_
    refine V_aload_n_0 (q := 51) C rfl dX8_thief_50 ?_
    refine gf_X8_57 (q := 54) C rfl dX8_thief_51 ?_
    refine gf_X8_116 (q := 57) C rfl dX8_thief_54 ?_
    rw [show (putS (setc (prepF σ C2) 33 w) s) 12 0 = nI T from hT]
    refine V_icmp_ge_t (tgt := 111) C (nI_le (Nat.le_refl _) (by omega)) (by decide) dX8_thief_57 ?_
    refine V_iload_n_3 (q := 112) C rfl dX8_thief_111 ?_
    refine V_iret C hR dX8_thief_112 ?_
    exact ⟨_, rfl, rfl, Kp.prep.trans ((Kp.setc (by decide)).trans Kp.put)⟩
  have hs48 : ∀ t : Nat, t < T → (∀ (w : Nat → Int32) (s : S4), (∀ x, upd w d x = upd ((prepF σ C2) 33) d x) →  V X 48 [.ref (xad X 0), .int (nI d), .int ((prepF σ C2) 33 d), .int (setB (thP σ T P C2 R2 d) (t + 1)), .int (nI (t + 1))] [] (putS (setc (prepF σ C2) 33 w) s)) → ∀ (w : Nat → Int32) (s : S4), (∀ x, upd w d x = upd ((prepF σ C2) 33) d x) →  V X 48 [.ref (xad X 0), .int (nI d), .int ((prepF σ C2) 33 d), .int (setB (thP σ T P C2 R2 d) t), .int (nI t)] [] (putS (setc (prepF σ C2) 33 w) s) := by
    intro t hi48 ih48 w s hw
    refine V_iload_4 (q := 50) C rfl dX8_thief_48 ?_
    refine V_aload_n_0 (q := 51) C rfl dX8_thief_50 ?_
    refine gf_X8_57 (q := 54) C rfl dX8_thief_51 ?_
    refine gf_X8_116 (q := 57) C rfl dX8_thief_54 ?_
    rw [show (putS (setc (prepF σ C2) 33 w) s) 12 0 = nI T from hT]
    refine V_icmp_ge_f (tgt := 111) C (nI_ge hi48 (by omega)) rfl (by decide) dX8_thief_57 ?_
    refine V_aload_n_0 (q := 61) C rfl dX8_thief_60 ?_
    refine gf_X8_61 (q := 64) C rfl dX8_thief_61 ?_
    refine gf_X8_242 (q := 67) C rfl dX8_thief_64 ?_
    refine V_iload_n_1 (q := 68) C rfl dX8_thief_67 ?_
    refine V_iload_n_2 (q := 69) C rfl dX8_thief_68 ?_
    refine V_iconst (q := 70) (v := 1) C rfl rfl dX8_thief_69 ?_
    refine V_iload_4 (q := 72) C rfl dX8_thief_70 ?_
    refine V_ishl (q := 73) C rfl dX8_thief_72 ?_
    refine V_ior (q := 74) C rfl dX8_thief_73 ?_
    refine V_iast (q := 75) C _ rfl (by show _ < 30; omega) rfl (by decide) (by decide) rfl dX8_thief_74 ?_
    refine V_eq (τ := putS (thS σ C2 d t) s) (by show setc (putS (setc (prepF σ C2) 33 w) s) 33 (upd w d ((prepF σ C2) 33 d ||| own1 (nI t))) = _; rw [putS_33, hw]; rfl) ?_
    refine V_aload_n_0 (q := 76) C rfl dX8_thief_75 ?_
    refine gf_X8_61 (q := 79) C rfl dX8_thief_76 ?_
    refine V_bipush (q := 81) (v := 29) C (by decide) rfl dX8_thief_79 ?_
    refine V_cV1v (q := 84) C (Ct.mono (v' := none) (τ' := putS (thS σ C2 d t) (daysC (thS σ C2 d t) T P 30 (s0C σ))) (c_X4_pass (putS (thS σ C2 d t) s) T P 30 29 hT hT6 hP hP6 ld29) (rfl) (by rw [putS_putS, daysC_put]; rfl)) cw_X4_pass cv_X4_pass wm_X8_227 (by decide) ob_X4 ⟨by decide, by decide⟩ (Nat.le_of_ble_eq_true rfl) rfl dX8_thief_81 ?_
    refine V_aload_n_0 (q := 85) C rfl dX8_thief_84 ?_
    refine gf_X8_34 (q := 88) C rfl dX8_thief_85 ?_
    refine V_aload_n_0 (q := 89) C rfl dX8_thief_88 ?_
    refine gf_X8_61 (q := 92) C rfl dX8_thief_89 ?_
    refine V_cV1r (q := 95) C (Ct.mono (v' := some (.int (pI (thP σ T P C2 R2 d t)))) (c_X2_agreeWith (putS (thS σ C2 d t) (daysC (thS σ C2 d t) T P 30 (s0C σ))) R2 hR2 hR8 hrp) rfl rfl) cw_X2_agreeWith cv_X2_agreeWith wm_X8_245 (by decide) ob_X2 ⟨by decide, by decide⟩ (Nat.le_of_ble_eq_true rfl) rfl dX8_thief_92 ?_
    refine V_ifp_eq (tgt := 105) C rfl (by decide) dX8_thief_95 (fun c95 => ?_) (fun c95 => ?_)
    · refine V_iinc_4 (q := 108) (n := 1) C nI_inc hn4 rfl rfl dX8_thief_105 ?_
      refine V_goto (tgt := 48) C (by decide) dX8_thief_108 ?_
      first
      | (rw [show setB (thP σ T P C2 R2 d) t = setB (thP σ T P C2 R2 d) (t + 1) from (if_neg c95).symm]; exact ih48 _ _ (fun x => upd_upd))
      | (rw [show setB (thP σ T P C2 R2 d) t ||| (1 <<< (nI t &&& 31)) = setB (thP σ T P C2 R2 d) (t + 1) from (if_pos c95).symm]; exact ih48 _ _ (fun x => upd_upd))
    · refine V_iload_n_3 (q := 99) C rfl dX8_thief_98 ?_
      refine V_iconst (q := 100) (v := 1) C rfl rfl dX8_thief_99 ?_
      refine V_iload_4 (q := 102) C rfl dX8_thief_100 ?_
      refine V_ishl (q := 103) C rfl dX8_thief_102 ?_
      refine V_ior (q := 104) C rfl dX8_thief_103 ?_
      refine V_istore_n_3 (q := 105) C hn3 rfl rfl dX8_thief_104 ?_
      refine V_iinc_4 (q := 108) (n := 1) C nI_inc hn4 rfl rfl dX8_thief_105 ?_
      refine V_goto (tgt := 48) C (by decide) dX8_thief_108 ?_
      first
      | (rw [show setB (thP σ T P C2 R2 d) t = setB (thP σ T P C2 R2 d) (t + 1) from (if_neg c95).symm]; exact ih48 _ _ (fun x => upd_upd))
      | (rw [show setB (thP σ T P C2 R2 d) t ||| (1 <<< (nI t &&& 31)) = setB (thP σ T P C2 R2 d) (t + 1) from (if_pos c95).symm]; exact ih48 _ _ (fun x => upd_upd))
  exact V_eq (by rw [setc_id, putS_get]) (loopN (P := fun t => ∀ (w : Nat → Int32) (s : S4), (∀ x, upd w d x = upd ((prepF σ C2) 33) d x) →  V X 48 [.ref (xad X 0), .int (nI d), .int ((prepF σ C2) 33 d), .int (setB (thP σ T P C2 R2 d) t), .int (nI t)] [] (putS (setc (prepF σ C2) 33 w) s)) (T) hx48 hs48 0 (Nat.zero_le _) ((prepF σ C2) 33) (getS (prepF σ C2)) (fun _ => rfl))

set_option maxHeartbeats 4000000 in
set_option maxRecDepth 100000 in
theorem c_X8_orchard_u {l : Launch} {D : DD} {ad : Nat → Nat} (σ : ST) (k a i n : Int32) (h : ¬ isT 4 k) : Ct l yX8_orchard cX8_orchard 7 (Option.some FieldType.int) 4 87 D ad [.ref (ad 0), .int k, .int a, .int i, .int n] σ (ex (some (.int (-1))) (setf σ 0 8 0)) := by
  refine Ct.of2 [.ref (ad 0), .int k, .int a, .int i, .int n, .float 0, .float 0] rfl (Nat.le_of_ble_eq_true rfl) rfl ?_
  rintro X C rfl rfl rfl hxn hR
  have hn5 : 5 < xn X := by rw [← hxn]; decide
  refine V_aload_n_0 (q := 1) C rfl dX8_orchard_0 ?_
  refine V_iconst (q := 2) (v := 0) C rfl rfl dX8_orchard_1 ?_
  refine pf_X8_45 (q := 5) C rfl dX8_orchard_2 ?_
  refine V_aload_n_0 (q := 6) C rfl dX8_orchard_5 ?_
  refine V_iload_n_1 (q := 7) C rfl dX8_orchard_6 ?_
  refine V_cV1r (q := 10) C (c_X8_sheetOfN _ _ h) cw_X8_sheetOf cv_X8_sheetOf wm_X8_75 (by decide) ob_X8 ⟨by decide, by decide⟩ (Nat.le_of_ble_eq_true rfl) rfl dX8_orchard_7 ?_
  refine V_astoreN_5 (q := 12) C hn5 rfl rfl dX8_orchard_10 ?_
  refine V_aloadN_5 (q := 14) C rfl dX8_orchard_12 ?_
  refine V_ifnonnullN (q := 17) C rfl dX8_orchard_14 ?_
  refine V_iconst (q := 18) (v := (-1)) C rfl rfl dX8_orchard_17 ?_
  refine V_iret C hR dX8_orchard_18 ?_
  exact ⟨rfl, rfl⟩

set_option maxHeartbeats 4000000 in
set_option maxRecDepth 100000 in
theorem c_X8_orchard_o {l : Launch} {D : DD} {ad : Nat → Nat} (σ : ST) (j : Nat) (a i n : Int32) (hj : j < 4) (h : ¬ isT 3 a) : Ct l yX8_orchard cX8_orchard 7 (Option.some FieldType.int) 4 87 D ad [.ref (ad 0), .int (nI j), .int a, .int i, .int n] σ (ex (some (.int (-2))) (setf σ 0 8 0)) := by
  refine Ct.of2 [.ref (ad 0), .int (nI j), .int a, .int i, .int n, .float 0, .float 0] rfl (Nat.le_of_ble_eq_true rfl) rfl ?_
  rintro X C rfl rfl rfl hxn hR
  have hn5 : 5 < xn X := by rw [← hxn]; decide
  refine V_aload_n_0 (q := 1) C rfl dX8_orchard_0 ?_
  refine V_iconst (q := 2) (v := 0) C rfl rfl dX8_orchard_1 ?_
  refine pf_X8_45 (q := 5) C rfl dX8_orchard_2 ?_
  refine V_aload_n_0 (q := 6) C rfl dX8_orchard_5 ?_
  refine V_iload_n_1 (q := 7) C rfl dX8_orchard_6 ?_
  refine V_cV1r (q := 10) C (c_X8_sheetOf _ j hj) cw_X8_sheetOf cv_X8_sheetOf wm_X8_75 (by decide) ob_X8 ⟨by decide, by decide⟩ (Nat.le_of_ble_eq_true rfl) rfl dX8_orchard_7 ?_
  refine V_astore_5 (q := 12) C hn5 rfl rfl dX8_orchard_10 ?_
  refine V_aload_5 (q := 14) C rfl dX8_orchard_12 ?_
  refine V_ifnonnull (tgt := 19) C (by decide) dX8_orchard_14 ?_
  refine V_iload_n_2 (q := 20) C rfl dX8_orchard_19 ?_
  refine V_cS1r (q := 23) C (c_X8_isLane _ _) cw_X8_isLane cs_X8_isLane wm_X8_79 ⟨by decide, by decide⟩ (Nat.le_of_ble_eq_true rfl) rfl dX8_orchard_20 ?_
  refine V_ifp_ne_f (tgt := 29) C h rfl (by decide) dX8_orchard_23 ?_
  refine V_bipush (q := 28) (v := (-2)) C (by decide) rfl dX8_orchard_26 ?_
  refine V_iret C hR dX8_orchard_28 ?_
  exact ⟨rfl, rfl⟩

def orE (σ : ST) (j : Nat) (a n : Int32) : Int32 := if ¬ σ (2 + 2 * j) 1 = 0 ∧ ¬ σ (2 + 2 * j) 2 = a then 2 else if σ (2 + 2 * j) 1 = 0 then 1 else if n < 0 then 4 else 3

set_option maxHeartbeats 4000000 in
set_option maxRecDepth 100000 in
theorem c_X8_orchard_e {l : Launch} {D : DD} {ad : Nat → Nat} (σ : ST) (j : Nat) (a i n : Int32) (hj : j < 4) (h : isT 3 a) (hok : ¬ (¬ (¬ σ (2 + 2 * j) 1 = 0 ∧ ¬ σ (2 + 2 * j) 2 = a) ∧ ¬ σ (2 + 2 * j) 1 = 0 ∧ hcC σ j i n)) : Ct l yX8_orchard cX8_orchard 7 (Option.some FieldType.int) 4 87 D ad [.ref (ad 0), .int (nI j), .int a, .int i, .int n] σ (ex (some (.int (-10 - orE σ j a n))) (setf σ 0 8 (orE σ j a n))) := by
  refine Ct.of2 [.ref (ad 0), .int (nI j), .int a, .int i, .int n, .float 0, .float 0] rfl (Nat.le_of_ble_eq_true rfl) rfl ?_
  rintro X C rfl rfl rfl hxn hR
  have hn5 : 5 < xn X := by rw [← hxn]; decide
  refine V_aload_n_0 (q := 1) C rfl dX8_orchard_0 ?_
  refine V_iconst (q := 2) (v := 0) C rfl rfl dX8_orchard_1 ?_
  refine pf_X8_45 (q := 5) C rfl dX8_orchard_2 ?_
  refine V_aload_n_0 (q := 6) C rfl dX8_orchard_5 ?_
  refine V_iload_n_1 (q := 7) C rfl dX8_orchard_6 ?_
  refine V_cV1r (q := 10) C (c_X8_sheetOf _ j hj) cw_X8_sheetOf cv_X8_sheetOf wm_X8_75 (by decide) ob_X8 ⟨by decide, by decide⟩ (Nat.le_of_ble_eq_true rfl) rfl dX8_orchard_7 ?_
  refine V_astore_5 (q := 12) C hn5 rfl rfl dX8_orchard_10 ?_
  refine V_aload_5 (q := 14) C rfl dX8_orchard_12 ?_
  refine V_ifnonnull (tgt := 19) C (by decide) dX8_orchard_14 ?_
  refine V_iload_n_2 (q := 20) C rfl dX8_orchard_19 ?_
  refine V_cS1r (q := 23) C (c_X8_isLane _ _) cw_X8_isLane cs_X8_isLane wm_X8_79 ⟨by decide, by decide⟩ (Nat.le_of_ble_eq_true rfl) rfl dX8_orchard_20 ?_
  refine V_ifp_ne_t (tgt := 29) C h (by decide) dX8_orchard_23 ?_
  refine V_aload_5 (q := 31) C rfl dX8_orchard_29 ?_
  refine V_iload_n_2 (q := 32) C rfl dX8_orchard_31 ?_
  refine V_cV1r (q := 35) C (Ct.mono (v' := some (.int (pI (¬ σ (2 + 2 * j) 1 = 0 ∧ ¬ σ (2 + 2 * j) 2 = a)))) (c_X5_isOfOtherLane (setf σ 0 8 0) j a hj) (by rw [f0_sh]) rfl) cw_X5_isOfOtherLane cv_X5_isOfOtherLane wm_X8_83 (by omega) (ob_X5 hj) ⟨by decide, by decide⟩ (Nat.le_of_ble_eq_true rfl) rfl dX8_orchard_32 ?_
  refine V_ifp_eq (tgt := 44) C rfl (by decide) dX8_orchard_35 (fun c35 => ?_) (fun c35 => ?_)
  · refine V_aload_5 (q := 46) C rfl dX8_orchard_44 ?_
    refine gf_X8_90 (q := 49) C hj rfl dX8_orchard_46 ?_
    rw [f0_sh]
    refine V_if_ne (tgt := 58) C rfl (by decide) dX8_orchard_49 (fun c49 => ?_) (fun c49 => ?_)
    · refine V_iload_4 (q := 60) C rfl dX8_orchard_58 ?_
      refine V_if_ge (tgt := 69) C rfl (by decide) dX8_orchard_60 (fun c60 => ?_) (fun c60 => ?_)
      · refine V_aload_5 (q := 71) C rfl dX8_orchard_69 ?_
        refine V_iload_n_3 (q := 72) C rfl dX8_orchard_71 ?_
        refine V_iload_4 (q := 74) C rfl dX8_orchard_72 ?_
        refine V_cV2r (q := 77) C (Ct.mono (v' := some (.int (pI (hcC σ j i n)))) (c_X5_hasCells (setf σ 0 8 0) j i n hj) (by rw [f0_sh]) rfl) cw_X5_hasCells cv_X5_hasCells wm_X8_94 (by omega) (ob_X5 hj) ⟨by decide, by decide⟩ (Nat.le_of_ble_eq_true rfl) rfl dX8_orchard_74 ?_
        refine V_ifp_ne (tgt := 86) C rfl (by decide) dX8_orchard_77 (fun c77 => ?_) (fun c77 => ?_)
        · exact absurd ⟨c35, c49, c77⟩ hok
        · refine V_aload_n_0 (q := 81) C rfl dX8_orchard_80 ?_
          refine V_iconst (q := 82) (v := 3) C rfl rfl dX8_orchard_81 ?_
          refine V_cV1r (q := 85) C (Ct.mono (v' := some (.int (-10 - 3))) (τ' := setf σ 0 8 3) (c_X8_faulted _ 3) rfl setf_setf) cw_X8_faulted cv_X8_faulted wm_X8_86 (by decide) ob_X8 ⟨by decide, by decide⟩ (Nat.le_of_ble_eq_true rfl) rfl dX8_orchard_82 ?_
          refine V_iret C hR dX8_orchard_85 ?_
          have e0 : ¬ n < 0 := Int32.not_lt.mpr c60
          exact ⟨by unfold orE; rw [if_neg c35, if_neg c49, if_neg e0], by unfold orE; rw [if_neg c35, if_neg c49, if_neg e0]⟩
      · refine V_aload_n_0 (q := 64) C rfl dX8_orchard_63 ?_
        refine V_iconst (q := 65) (v := 4) C rfl rfl dX8_orchard_64 ?_
        refine V_cV1r (q := 68) C (Ct.mono (v' := some (.int (-10 - 4))) (τ' := setf σ 0 8 4) (c_X8_faulted _ 4) rfl setf_setf) cw_X8_faulted cv_X8_faulted wm_X8_86 (by decide) ob_X8 ⟨by decide, by decide⟩ (Nat.le_of_ble_eq_true rfl) rfl dX8_orchard_65 ?_
        refine V_iret C hR dX8_orchard_68 ?_
        have e0 : n < 0 := Int32.not_le.mp c60
        exact ⟨by unfold orE; rw [if_neg c35, if_neg c49, if_pos e0], by unfold orE; rw [if_neg c35, if_neg c49, if_pos e0]⟩
    · refine V_aload_n_0 (q := 53) C rfl dX8_orchard_52 ?_
      refine V_iconst (q := 54) (v := 1) C rfl rfl dX8_orchard_53 ?_
      refine V_cV1r (q := 57) C (Ct.mono (v' := some (.int (-10 - 1))) (τ' := setf σ 0 8 1) (c_X8_faulted _ 1) rfl setf_setf) cw_X8_faulted cv_X8_faulted wm_X8_86 (by decide) ob_X8 ⟨by decide, by decide⟩ (Nat.le_of_ble_eq_true rfl) rfl dX8_orchard_54 ?_
      refine V_iret C hR dX8_orchard_57 ?_
      have e0 : σ (2 + 2 * j) 1 = 0 := c49
      exact ⟨by unfold orE; rw [if_neg c35, if_pos e0], by unfold orE; rw [if_neg c35, if_pos e0]⟩
  · refine V_aload_n_0 (q := 39) C rfl dX8_orchard_38 ?_
    refine V_iconst (q := 40) (v := 2) C rfl rfl dX8_orchard_39 ?_
    refine V_cV1r (q := 43) C (Ct.mono (v' := some (.int (-10 - 2))) (τ' := setf σ 0 8 2) (c_X8_faulted _ 2) rfl setf_setf) cw_X8_faulted cv_X8_faulted wm_X8_86 (by decide) ob_X8 ⟨by decide, by decide⟩ (Nat.le_of_ble_eq_true rfl) rfl dX8_orchard_40 ?_
    refine V_iret C hR dX8_orchard_43 ?_
    exact ⟨by unfold orE; rw [if_pos c35], by unfold orE; rw [if_pos c35]⟩

def orT (σ : ST) (j s m : Nat) : ST := setf (setc (setf σ 0 8 0) 11 (va_cpy (σ (2 + 2 * j + 1)) (σ 11) s 0 m)) 10 1 (nI m)
def orP (σ : ST) (j s m : Nat) : ST := setf (setf (setf (setc (setc (plC (ffS (orT σ j s m) (ffR (orT σ j s m) m).2.1 (ffR (orT σ j s m) m).2.2) m (ffR (orT σ j s m) m).2.1 (ffR (orT σ j s m) m).2.2 (ffR (orT σ j s m) m).2.1) 22 (fun _ => 0)) 23 (fun _ => -9)) 21 4 0) 21 5 0) 26 3 0
def orQ (σ : ST) (j s m : Nat) (v : Int32) (τ : ST) : Prop := if (ffR (orT σ j s m) m).1 = -1 then v = nI (ffR (orT σ j s m) m).2.1 ∧ τ = orP σ j s m else v = -100 - (ffR (orT σ j s m) m).1 ∧ Kp (setf σ 0 8 0) τ
theorem ffA_le {σ : ST} {n : Nat} : ∀ f m : Nat, (ffA σ n f m).1 ≤ m + f := by
  intro f
  induction f with
  | zero => intro m; exact Nat.le_refl _
  | succ f ih =>
    intro m
    rw [ffA_s]
    have := ih (m + 1)
    split
    · show m ≤ _; omega
    · split
      · show m ≤ _; omega
      · split
        · show m ≤ _; omega
        · omega
theorem ffB_le {σ : ST} {n q : Nat} : ∀ f m : Nat, (ffB σ n q f m).1 ≤ m + f := by
  intro f
  induction f with
  | zero => intro m; exact Nat.le_refl _
  | succ f ih =>
    intro m
    rw [ffB_s]
    have := ih (m + 1)
    split
    · show m ≤ _; omega
    · split
      · show m ≤ _; omega
      · split
        · show m ≤ _; omega
        · split
          · show m ≤ _; omega
          · omega
theorem ffR_le {σ : ST} {n : Nat} : (ffR σ n).2.1 ≤ 6 ∧ (ffR σ n).2.2 ≤ 6 := by
  unfold ffR
  have hA := ffA_le (σ := σ) (n := n) 6 0
  split
  · exact ⟨Nat.zero_le _, Nat.zero_le _⟩
  · split
    next m k e => rw [e] at hA; exact ⟨by show m ≤ 6; omega, Nat.zero_le _⟩
    next m e =>
      rw [e] at hA
      split
      · exact ⟨Nat.zero_le _, Nat.zero_le _⟩
      · have hB := ffB_le (σ := σ) (n := n) (q := 1 + 3 * m) 6 0
        split
        next b k e2 => rw [e2] at hB; exact ⟨by show m ≤ 6; omega, by show b ≤ 6; omega⟩
        next b e2 =>
          rw [e2] at hB
          split
          · exact ⟨by show m ≤ 6; omega, by show b ≤ 6; omega⟩
          · exact ⟨by show m ≤ 6; omega, by show b ≤ 6; omega⟩

set_option maxHeartbeats 4000000 in
set_option maxRecDepth 100000 in
theorem c_X8_orchard_v {l : Launch} {D : DD} {ad : Nat → Nat} (σ : ST) (j s m : Nat) (a : Int32) (hj : j < 4) (h : isT 3 a) (hr : ¬ σ (2 + 2 * j) 1 = 0) (hla : σ (2 + 2 * j) 2 = a) (L : Nat) (hL : σ (2 + 2 * j) 3 = nI L) (hL50 : L ≤ 50) (hsm : s + m ≤ L) : Ct l yX8_orchard cX8_orchard 7 (Option.some FieldType.int) 4 87 D ad [.ref (ad 0), .int (nI j), .int a, .int (nI s), .int (nI m)] σ (pq (orQ σ j s m)) := by
  refine Ct.of2 [.ref (ad 0), .int (nI j), .int a, .int (nI s), .int (nI m), .float 0, .float 0] rfl (Nat.le_of_ble_eq_true rfl) rfl ?_
  rintro X C rfl rfl rfl hxn hR
  have hn5 : 5 < xn X := by rw [← hxn]; decide
  have hn6 : 6 < xn X := by rw [← hxn]; decide
  refine V_aload_n_0 (q := 1) C rfl dX8_orchard_0 ?_
  refine V_iconst (q := 2) (v := 0) C rfl rfl dX8_orchard_1 ?_
  refine pf_X8_45 (q := 5) C rfl dX8_orchard_2 ?_
  refine V_aload_n_0 (q := 6) C rfl dX8_orchard_5 ?_
  refine V_iload_n_1 (q := 7) C rfl dX8_orchard_6 ?_
  refine V_cV1r (q := 10) C (c_X8_sheetOf _ j hj) cw_X8_sheetOf cv_X8_sheetOf wm_X8_75 (by decide) ob_X8 ⟨by decide, by decide⟩ (Nat.le_of_ble_eq_true rfl) rfl dX8_orchard_7 ?_
  refine V_astore_5 (q := 12) C hn5 rfl rfl dX8_orchard_10 ?_
  refine V_aload_5 (q := 14) C rfl dX8_orchard_12 ?_
  refine V_ifnonnull (tgt := 19) C (by decide) dX8_orchard_14 ?_
  refine V_iload_n_2 (q := 20) C rfl dX8_orchard_19 ?_
  refine V_cS1r (q := 23) C (c_X8_isLane _ _) cw_X8_isLane cs_X8_isLane wm_X8_79 ⟨by decide, by decide⟩ (Nat.le_of_ble_eq_true rfl) rfl dX8_orchard_20 ?_
  refine V_ifp_ne_t (tgt := 29) C h (by decide) dX8_orchard_23 ?_
  refine V_aload_5 (q := 31) C rfl dX8_orchard_29 ?_
  refine V_iload_n_2 (q := 32) C rfl dX8_orchard_31 ?_
  refine V_cV1r (q := 35) C (Ct.mono (v' := some (.int (pI (¬ σ (2 + 2 * j) 1 = 0 ∧ ¬ σ (2 + 2 * j) 2 = a)))) (c_X5_isOfOtherLane (setf σ 0 8 0) j a hj) (by rw [f0_sh]) rfl) cw_X5_isOfOtherLane cv_X5_isOfOtherLane wm_X8_83 (by omega) (ob_X5 hj) ⟨by decide, by decide⟩ (Nat.le_of_ble_eq_true rfl) rfl dX8_orchard_32 ?_
  refine V_ifp_eq_t (tgt := 44) C (fun q => q.2 hla) (by decide) dX8_orchard_35 ?_
  refine V_aload_5 (q := 46) C rfl dX8_orchard_44 ?_
  refine gf_X8_90 (q := 49) C hj rfl dX8_orchard_46 ?_
  rw [f0_sh]
  refine V_if_ne_t (tgt := 58) C hr (by decide) dX8_orchard_49 ?_
  refine V_iload_4 (q := 60) C rfl dX8_orchard_58 ?_
  refine V_if_ge_t (tgt := 69) C (nI_pos' (by omega)) (by decide) dX8_orchard_60 ?_
  refine V_aload_5 (q := 71) C rfl dX8_orchard_69 ?_
  refine V_iload_n_3 (q := 72) C rfl dX8_orchard_71 ?_
  refine V_iload_4 (q := 74) C rfl dX8_orchard_72 ?_
  refine V_cV2r (q := 77) C (Ct.mono (v' := some (.int (pI (hcC σ j (nI s) (nI m))))) (c_X5_hasCells (setf σ 0 8 0) j (nI s) (nI m) hj) (by rw [f0_sh]) rfl) cw_X5_hasCells cv_X5_hasCells wm_X8_94 (by omega) (ob_X5 hj) ⟨by decide, by decide⟩ (Nat.le_of_ble_eq_true rfl) rfl dX8_orchard_74 ?_
  refine V_ifp_ne_t (tgt := 86) C (by unfold hcC; rw [hL]; exact (hcN hL50).mpr ⟨s, m, rfl, rfl, hsm⟩) (by decide) dX8_orchard_77 ?_
  refine V_aload_n_0 (q := 87) C rfl dX8_orchard_86 ?_
  refine gf_X8_20 (q := 90) C rfl dX8_orchard_87 ?_
  refine V_aload_5 (q := 92) C rfl dX8_orchard_90 ?_
  refine V_iload_n_3 (q := 93) C rfl dX8_orchard_92 ?_
  refine V_iload_4 (q := 95) C rfl dX8_orchard_93 ?_
  refine V_cV3v (q := 98) C (Ct.mono (v' := none) (τ' := orT σ j s m) (c_X6_take (setf σ 0 8 0) j s m hj (by omega)) (rfl) (by rw [f0_sc]; rfl)) cw_X6_take cv_X6_take wm_X8_98 (by decide) ob_X6 ⟨by decide, by decide⟩ (Nat.le_of_ble_eq_true rfl) rfl dX8_orchard_95 ?_
  refine V_aload_n_0 (q := 99) C rfl dX8_orchard_98 ?_
  refine gf_X8_20 (q := 102) C rfl dX8_orchard_99 ?_
  refine V_cV0r (q := 105) C (c_X6_firstFault (orT σ j s m) m rfl (by omega)) cw_X6_firstFault cv_X6_firstFault wm_X8_102 (by decide) ob_X6 ⟨by decide, by decide⟩ (Nat.le_of_ble_eq_true rfl) rfl dX8_orchard_102 ?_
  refine V_istore_6 (q := 107) C hn6 rfl rfl dX8_orchard_105 ?_
  refine V_iload_6 (q := 109) C rfl dX8_orchard_107 ?_
  refine V_iconst (q := 110) (v := (-1)) C rfl rfl dX8_orchard_109 ?_
  refine V_icmp_eq (tgt := 119) C rfl (by decide) dX8_orchard_110 (fun c110 => ?_) (fun c110 => ?_)
  · refine V_aload_n_0 (q := 120) C rfl dX8_orchard_119 ?_
    refine gf_X8_57 (q := 123) C rfl dX8_orchard_120 ?_
    refine V_aload_n_0 (q := 124) C rfl dX8_orchard_123 ?_
    refine gf_X8_20 (q := 127) C rfl dX8_orchard_124 ?_
    refine V_cV1v (q := 130) C (c_X1_plant (ffS (orT σ j s m) (ffR (orT σ j s m) m).2.1 (ffR (orT σ j s m) m).2.2) m (ffR (orT σ j s m) m).2.1 (ffR (orT σ j s m) m).2.2 rfl (by omega) rfl ffR_le.1 rfl ffR_le.2) cw_X1_plant cv_X1_plant wm_X8_106 (by decide) ob_X1 ⟨by decide, by decide⟩ (Nat.le_of_ble_eq_true rfl) rfl dX8_orchard_127 ?_
    refine V_aload_n_0 (q := 131) C rfl dX8_orchard_130 ?_
    refine gf_X8_27 (q := 134) C rfl dX8_orchard_131 ?_
    refine V_cV0v (q := 137) C (c_X7_clear _) cw_X7_clear cv_X7_clear wm_X8_110 (by decide) ob_X7 ⟨by decide, by decide⟩ (Nat.le_of_ble_eq_true rfl) rfl dX8_orchard_134 ?_
    refine V_aload_n_0 (q := 138) C rfl dX8_orchard_137 ?_
    refine gf_X8_34 (q := 141) C rfl dX8_orchard_138 ?_
    refine V_iconst (q := 142) (v := 0) C rfl rfl dX8_orchard_141 ?_
    refine pf_X8_113 (q := 145) C rfl dX8_orchard_142 ?_
    refine V_aload_n_0 (q := 146) C rfl dX8_orchard_145 ?_
    refine gf_X8_57 (q := 149) C rfl dX8_orchard_146 ?_
    refine gf_X8_116 (q := 152) C rfl dX8_orchard_149 ?_
    refine V_iret C hR dX8_orchard_152 ?_
    refine ⟨_, rfl, ?_⟩
    unfold orQ
    rw [if_pos c110]
    exact ⟨rfl, rfl⟩
  · refine V_bipush (q := 115) (v := (-100)) C (by decide) rfl dX8_orchard_113 ?_
    refine V_iload_6 (q := 117) C rfl dX8_orchard_115 ?_
    refine V_isub (q := 118) C rfl dX8_orchard_117 ?_
    refine V_iret C hR dX8_orchard_118 ?_
    refine ⟨_, rfl, ?_⟩
    unfold orQ
    rw [if_neg c110]
    refine ⟨rfl, fun k hk => ?_⟩
    unfold scr at hk
    unfold ffS orT setf
    rw [setc_n (by omega), setc_n (by omega), setc_n (by omega), setc_n (by omega)]

