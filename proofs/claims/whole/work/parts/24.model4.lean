/-! the reference: most, saws, worth -/
def moM (σ : ST) (T P C N k : Nat) : Nat → Int32 × Nat
  | 0 => (-1, 0)
  | r + 1 => if (moM σ T P C N k r).1 < cntB (mDC (rowS σ T k r) T P C N).2.2 P then (cntB (mDC (rowS σ T k r) T P C N).2.2 P, r) else moM σ T P C N k r
theorem moM_le {σ : ST} {T P C N k : Nat} : ∀ r : Nat, (moM σ T P C N k r).2 ≤ r := by
  intro r
  induction r with
  | zero => exact Nat.le_refl _
  | succ r ih =>
    show (if (moM σ T P C N k r).1 < cntB (mDC (rowS σ T k r) T P C N).2.2 P then (cntB (mDC (rowS σ T k r) T P C N).2.2 P, r) else moM σ T P C N k r).2 ≤ r + 1
    split
    · show r ≤ _; omega
    · omega
theorem row_st2 {σ : ST} {s : S3} {w f : Nat → Int32} {x : Int32} {k : Nat} : setf (setc (putM (setf (setc σ 63 w) 40 31 x) s) 63 f) 40 31 (nI k) = putM (setf (setc σ 63 f) 40 31 (nI k)) s := by
  rw [putM_63, putM_40, show setc (setf (setc σ 63 w) 40 31 x) 63 f = setf (setc σ 63 f) 40 31 x from by
    unfold setf
    rw [setc_comm (k := 40) (j := 63) (by decide), setc_setc]
    rfl, setf_setf]

set_option maxHeartbeats 4000000 in
set_option maxRecDepth 100000 in
theorem c_X9_most_u {l : Launch} {D : DD} {ad : Nat → Nat} (σ : ST) (d k q : Int32) (h : ¬ (isT 30 d ∧ ¬ q < -1)) : Ct l yX9_most cX9_most 8 (Option.some FieldType.int) 4 88 D ad [.ref (ad 40), .int d, .int k, .int q] σ (ex (some (.int (-1))) σ) := by
  refine Ct.of2 [.ref (ad 40), .int d, .int k, .int q, .float 0, .float 0, .float 0, .float 0] rfl (Nat.le_of_ble_eq_true rfl) rfl ?_
  rintro X C rfl rfl rfl hxn hR
  refine V_iload_n_1 (q := 1) C rfl dX9_most_0 ?_
  refine V_cS1r (q := 4) C (c_X9_isDay _ _) cw_X9_isDay cs_X9_isDay wm_X9_165 ⟨by decide, by decide⟩ (Nat.le_of_ble_eq_true rfl) rfl dX9_most_1 ?_
  refine V_ifp_eq (tgt := 12) C rfl (by decide) dX9_most_4 (fun c4 => ?_) (fun c4 => ?_)
  · refine V_iconst (q := 13) (v := (-1)) C rfl rfl dX9_most_12 ?_
    refine V_iret C hR dX9_most_13 ?_
    exact ⟨rfl, rfl⟩
  · refine V_iload_n_3 (q := 8) C rfl dX9_most_7 ?_
    refine V_iconst (q := 9) (v := (-1)) C rfl rfl dX9_most_8 ?_
    refine V_icmp_ge (tgt := 14) C rfl (by decide) dX9_most_9 (fun c9 => ?_) (fun c9 => ?_)
    · exact absurd ⟨c4, Int32.not_lt.mpr c9⟩ h
    · refine V_iconst (q := 13) (v := (-1)) C rfl rfl dX9_most_12 ?_
      refine V_iret C hR dX9_most_13 ?_
      exact ⟨rfl, rfl⟩

set_option maxHeartbeats 4000000 in
set_option maxRecDepth 100000 in
theorem c_X9_most_o {l : Launch} {D : DD} {ad : Nat → Nat} (σ : ST) (d : Nat) (k q : Int32) (hd : d < 30) (hq : ¬ q < -1) (h : ¬ (¬ k < 0 ∧ ¬ 4 < k)) : Ct l yX9_most cX9_most 8 (Option.some FieldType.int) 4 88 D ad [.ref (ad 40), .int (nI d), .int k, .int q] σ (ex (some (.int (-2))) σ) := by
  refine Ct.of2 [.ref (ad 40), .int (nI d), .int k, .int q, .float 0, .float 0, .float 0, .float 0] rfl (Nat.le_of_ble_eq_true rfl) rfl ?_
  rintro X C rfl rfl rfl hxn hR
  refine V_iload_n_1 (q := 1) C rfl dX9_most_0 ?_
  refine V_cS1r (q := 4) C (c_X9_isDay _ _) cw_X9_isDay cs_X9_isDay wm_X9_165 ⟨by decide, by decide⟩ (Nat.le_of_ble_eq_true rfl) rfl dX9_most_1 ?_
  refine V_ifp_eq_f (tgt := 12) C (isT_nI (N := 30) hd (by decide)) rfl (by decide) dX9_most_4 ?_
  refine V_iload_n_3 (q := 8) C rfl dX9_most_7 ?_
  refine V_iconst (q := 9) (v := (-1)) C rfl rfl dX9_most_8 ?_
  refine V_icmp_ge_t (tgt := 14) C (Int32.not_lt.mp hq) (by decide) dX9_most_9 ?_
  refine V_iload_n_2 (q := 15) C rfl dX9_most_14 ?_
  refine V_iconst (q := 16) (v := 0) C rfl rfl dX9_most_15 ?_
  refine V_iconst (q := 17) (v := 4) C rfl rfl dX9_most_16 ?_
  refine V_cS3r (q := 20) C (c_X9_within _ _ _ _) cw_X9_within cs_X9_within wm_X9_101 ⟨by decide, by decide⟩ (Nat.le_of_ble_eq_true rfl) rfl dX9_most_17 ?_
  refine V_ifp_ne_f (tgt := 26) C h rfl (by decide) dX9_most_20 ?_
  refine V_bipush (q := 25) (v := (-2)) C (by decide) rfl dX9_most_23 ?_
  refine V_iret C hR dX9_most_25 ?_
  exact ⟨rfl, rfl⟩

set_option maxHeartbeats 4000000 in
set_option maxRecDepth 100000 in
theorem c_X9_most_s {l : Launch} {D : DD} {ad : Nat → Nat} (σ : ST) (T d k : Nat) (q : Int32) (hd : d < 30) (hq : ¬ q < -1) (hk : k ≤ 4) (hT : σ 40 5 = nI T) (h0 : T = 0) : Ct l yX9_most cX9_most 8 (Option.some FieldType.int) 4 88 D ad [.ref (ad 40), .int (nI d), .int (nI k), .int q] σ (ex (some (.int (-3))) σ) := by
  refine Ct.of2 [.ref (ad 40), .int (nI d), .int (nI k), .int q, .float 0, .float 0, .float 0, .float 0] rfl (Nat.le_of_ble_eq_true rfl) rfl ?_
  rintro X C rfl rfl rfl hxn hR
  refine V_iload_n_1 (q := 1) C rfl dX9_most_0 ?_
  refine V_cS1r (q := 4) C (c_X9_isDay _ _) cw_X9_isDay cs_X9_isDay wm_X9_165 ⟨by decide, by decide⟩ (Nat.le_of_ble_eq_true rfl) rfl dX9_most_1 ?_
  refine V_ifp_eq_f (tgt := 12) C (isT_nI (N := 30) hd (by decide)) rfl (by decide) dX9_most_4 ?_
  refine V_iload_n_3 (q := 8) C rfl dX9_most_7 ?_
  refine V_iconst (q := 9) (v := (-1)) C rfl rfl dX9_most_8 ?_
  refine V_icmp_ge_t (tgt := 14) C (Int32.not_lt.mp hq) (by decide) dX9_most_9 ?_
  refine V_iload_n_2 (q := 15) C rfl dX9_most_14 ?_
  refine V_iconst (q := 16) (v := 0) C rfl rfl dX9_most_15 ?_
  refine V_iconst (q := 17) (v := 4) C rfl rfl dX9_most_16 ?_
  refine V_cS3r (q := 20) C (c_X9_within _ _ _ _) cw_X9_within cs_X9_within wm_X9_101 ⟨by decide, by decide⟩ (Nat.le_of_ble_eq_true rfl) rfl dX9_most_17 ?_
  refine V_ifp_ne_t (tgt := 26) C ⟨nI_pos (by omega), Int32.not_lt.mpr (nI_le (b := 4) hk (by decide))⟩ (by decide) dX9_most_20 ?_
  refine V_aload_n_0 (q := 27) C rfl dX9_most_26 ?_
  refine gf_X9_105 (q := 30) C rfl dX9_most_27 ?_
  rw [hT]
  refine V_if_ne_f (tgt := 36) C (by subst h0; decide) rfl (by decide) dX9_most_30 ?_
  refine V_bipush (q := 35) (v := (-3)) C (by decide) rfl dX9_most_33 ?_
  refine V_iret C hR dX9_most_35 ?_
  exact ⟨rfl, rfl⟩

set_option maxHeartbeats 4000000 in
set_option maxRecDepth 100000 in
theorem c_X9_most_v {l : Launch} {D : DD} {ad : Nat → Nat} (σ : ST) (T P C2 d k : Nat) (q : Int32) (hM : MH σ T P C2) (h9 : σ 40 31 = -9) (h0 : 0 < T) (hd : d < 30) (hk : k ≤ 4) (hq : ¬ q < -1) : Ct l yX9_most cX9_most 8 (Option.some FieldType.int) 4 88 D ad [.ref (ad 40), .int (nI d), .int (nI k), .int q] σ (pq (fun v τ => v = moR T k q (moM σ T P C2 (d + 1) k (T ^ k)) ∧ KM C2 σ τ)) := by
  refine Ct.of2 [.ref (ad 40), .int (nI d), .int (nI k), .int q, .float 0, .float 0, .float 0, .float 0] rfl (Nat.le_of_ble_eq_true rfl) rfl ?_
  rintro X C rfl rfl rfl hxn hR
  have hn4 : 4 < xn X := by rw [← hxn]; decide
  have hn5 : 5 < xn X := by rw [← hxn]; decide
  have hn6 : 6 < xn X := by rw [← hxn]; decide
  have hn7 : 7 < xn X := by rw [← hxn]; decide
  refine V_iload_n_1 (q := 1) C rfl dX9_most_0 ?_
  refine V_cS1r (q := 4) C (c_X9_isDay _ _) cw_X9_isDay cs_X9_isDay wm_X9_165 ⟨by decide, by decide⟩ (Nat.le_of_ble_eq_true rfl) rfl dX9_most_1 ?_
  refine V_ifp_eq_f (tgt := 12) C (isT_nI (N := 30) hd (by decide)) rfl (by decide) dX9_most_4 ?_
  refine V_iload_n_3 (q := 8) C rfl dX9_most_7 ?_
  refine V_iconst (q := 9) (v := (-1)) C rfl rfl dX9_most_8 ?_
  refine V_icmp_ge_t (tgt := 14) C (Int32.not_lt.mp hq) (by decide) dX9_most_9 ?_
  refine V_iload_n_2 (q := 15) C rfl dX9_most_14 ?_
  refine V_iconst (q := 16) (v := 0) C rfl rfl dX9_most_15 ?_
  refine V_iconst (q := 17) (v := 4) C rfl rfl dX9_most_16 ?_
  refine V_cS3r (q := 20) C (c_X9_within _ _ _ _) cw_X9_within cs_X9_within wm_X9_101 ⟨by decide, by decide⟩ (Nat.le_of_ble_eq_true rfl) rfl dX9_most_17 ?_
  refine V_ifp_ne_t (tgt := 26) C ⟨nI_pos (by omega), Int32.not_lt.mpr (nI_le (b := 4) hk (by decide))⟩ (by decide) dX9_most_20 ?_
  have hT := hM.1
  have hT6 := hM.2.1
  have hP6 := hM.2.2.2.1
  have hT1 : T ^ k ≤ 1296 := pow_b hT6 hk
  refine V_aload_n_0 (q := 27) C rfl dX9_most_26 ?_
  refine gf_X9_105 (q := 30) C rfl dX9_most_27 ?_
  rw [hT]
  refine V_if_ne_t (tgt := 36) C (nI_ne0 h0 (by omega)) (by decide) dX9_most_30 ?_
  refine V_aload_n_0 (q := 37) C rfl dX9_most_36 ?_
  refine V_iload_n_2 (q := 38) C rfl dX9_most_37 ?_
  refine V_cV1r (q := 41) C (c_X9_rowsOf σ T k hT hk) cw_X9_rowsOf cv_X9_rowsOf wm_X9_188 (by decide) ob_X9 ⟨by decide, by decide⟩ (Nat.le_of_ble_eq_true rfl) rfl dX9_most_38 ?_
  refine V_istore_4 (q := 43) C hn4 rfl rfl dX9_most_41 ?_
  refine V_iconst (q := 44) (v := (nI (moM σ T P C2 (d + 1) k 0).2)) C rfl rfl dX9_most_43 ?_
  refine V_istore_5 (q := 46) C hn5 rfl rfl dX9_most_44 ?_
  refine V_iconst (q := 47) (v := (moM σ T P C2 (d + 1) k 0).1) C rfl rfl dX9_most_46 ?_
  refine V_istore_6 (q := 49) C hn6 rfl rfl dX9_most_47 ?_
  refine V_iconst (q := 50) (v := (nI 0)) C rfl rfl dX9_most_49 ?_
  refine V_istore_7 (q := 52) C hn7 rfl rfl dX9_most_50 ?_
  have hx52 : ∀ (w : Nat → Int32) (x : Int32) (s : S3), V X 52 [.ref (xad X 40), .int (nI d), .int (nI k), .int q, .int (nI (T ^ k)), .int (nI (moM σ T P C2 (d + 1) k ((T ^ k))).2), .int (moM σ T P C2 (d + 1) k ((T ^ k))).1, .int (nI ((T ^ k)))] [] (putM (setf (setc σ 63 w) 40 31 x) s) := by
    intro w x s
    refine V_iload_7 (q := 54) C rfl dX9_most_52 ?_
    refine V_iload_4 (q := 56) C rfl dX9_most_54 ?_
    refine V_icmp_ge_t (tgt := 96) C (nI_le (Nat.le_refl _) (by omega)) (by decide) dX9_most_56 ?_
    have hb := moM_le (σ := σ) (T := T) (P := P) (C := C2) (N := d + 1) (k := k) (T ^ k)
    generalize hmo : moM σ T P C2 (d + 1) k (T ^ k) = mo at hb ⊢
    refine V_aload_n_0 (q := 97) C rfl dX9_most_96 ?_
    refine V_iload_5 (q := 99) C rfl dX9_most_97 ?_
    refine V_iload_n_2 (q := 100) C rfl dX9_most_99 ?_
    refine V_cV2v (q := 103) C (Ct.mono (v' := none) (τ' := putM (setf (setc σ 63 (rowJ T k mo.2 k w)) 40 31 (nI k)) s) (c_X9_layRow (putM (setf (setc σ 63 w) 40 31 x) s) T k mo.2 hT hT6 h0 hk (by omega)) (rfl) (row_st2)) cw_X9_layRow cv_X9_layRow wm_X9_191 (by decide) ob_X9 ⟨by decide, by decide⟩ (Nat.le_of_ble_eq_true rfl) rfl dX9_most_100 ?_
    refine V_aload_n_0 (q := 104) C rfl dX9_most_103 ?_
    refine V_bipush (q := 106) (v := (-9)) C (by decide) rfl dX9_most_104 ?_
    refine pf_X9_80 (q := 109) C rfl dX9_most_106 ?_
    refine V_eq (row_un h9) ?_
    refine V_iload_n_3 (q := 110) C rfl dX9_most_109 ?_
    refine V_iconst (q := 111) (v := (-1)) C rfl rfl dX9_most_110 ?_
    refine V_icmp_ne (tgt := 119) C rfl (by decide) dX9_most_111 (fun c111 => ?_) (fun c111 => ?_)
    · refine V_iload_n_3 (q := 120) C rfl dX9_most_119 ?_
      refine V_iload_n_2 (q := 121) C rfl dX9_most_120 ?_
      refine V_icmp_ge (tgt := 133) C rfl (by decide) dX9_most_121 (fun c121 => ?_) (fun c121 => ?_)
      · refine V_bipush (q := 135) (v := (-9)) C (by decide) rfl dX9_most_133 ?_
        refine V_iret C hR dX9_most_135 ?_
        refine ⟨_, rfl, ?_, (KM.setc (by omega)).trans KM.put⟩
        rw [hmo]
        unfold moR
        rw [if_neg c111]
        unfold trR
        rw [if_neg (fun h => h.2 c121)]
      · have hq0 : ¬ q < 0 := fun h => c111 (by
          have h1 := Int32.not_lt.mp hq
          rw [Int32.le_iff_toInt_le] at h1
          rw [Int32.lt_iff_toInt_lt] at h
          refine Int32.toInt_inj.mp ?_
          have h3 : (-1 : Int) ≤ q.toInt := h1
          have h4 : q.toInt < (0 : Int) := h
          show q.toInt = (-1 : Int)
          omega)
        obtain ⟨t, ht, et⟩ := isT_of ⟨hq0, c121⟩ rfl (by omega)
        refine V_aload_n_0 (q := 125) C rfl dX9_most_124 ?_
        refine gf_X9_77 (q := 128) C rfl dX9_most_125 ?_
        refine V_iload_n_3 (q := 129) C rfl dX9_most_128 ?_
        refine V_iald (q := 130) C t et (by show _ < 4; omega) rfl (by decide) (by decide) rfl dX9_most_129 ?_
        refine V_goto (tgt := 135) C (by decide) dX9_most_130 ?_
        refine V_iret C hR dX9_most_135 ?_
        refine ⟨_, rfl, ?_, (KM.setc (by omega)).trans KM.put⟩
        rw [hmo]
        unfold moR
        rw [if_neg c111]
        unfold trR
        rw [if_pos ⟨hq0, c121⟩, et, nI_clamp (by omega)]
        exact rowJ_lt ht
    · refine V_iload_6 (q := 116) C rfl dX9_most_114 ?_
      refine V_goto (tgt := 135) C (by decide) dX9_most_116 ?_
      refine V_iret C hR dX9_most_135 ?_
      refine ⟨_, rfl, ?_, (KM.setc (by omega)).trans KM.put⟩
      rw [hmo]
      exact (if_pos c111).symm
  have hs52 : ∀ r : Nat, r < (T ^ k) → (∀ (w : Nat → Int32) (x : Int32) (s : S3), V X 52 [.ref (xad X 40), .int (nI d), .int (nI k), .int q, .int (nI (T ^ k)), .int (nI (moM σ T P C2 (d + 1) k (r + 1)).2), .int (moM σ T P C2 (d + 1) k (r + 1)).1, .int (nI (r + 1))] [] (putM (setf (setc σ 63 w) 40 31 x) s)) → ∀ (w : Nat → Int32) (x : Int32) (s : S3), V X 52 [.ref (xad X 40), .int (nI d), .int (nI k), .int q, .int (nI (T ^ k)), .int (nI (moM σ T P C2 (d + 1) k r).2), .int (moM σ T P C2 (d + 1) k r).1, .int (nI r)] [] (putM (setf (setc σ 63 w) 40 31 x) s) := by
    intro r hi52 ih52 w x s
    refine V_iload_7 (q := 54) C rfl dX9_most_52 ?_
    refine V_iload_4 (q := 56) C rfl dX9_most_54 ?_
    refine V_icmp_ge_f (tgt := 96) C (nI_ge hi52 (by omega)) rfl (by decide) dX9_most_56 ?_
    refine V_aload_n_0 (q := 60) C rfl dX9_most_59 ?_
    refine V_iload_7 (q := 62) C rfl dX9_most_60 ?_
    refine V_iload_n_2 (q := 63) C rfl dX9_most_62 ?_
    refine V_cV2v (q := 66) C (Ct.mono (v' := none) (τ' := putM (setf (setc σ 63 (rowJ T k r k w)) 40 31 (nI k)) s) (c_X9_layRow (putM (setf (setc σ 63 w) 40 31 x) s) T k r hT hT6 h0 hk (by omega)) (rfl) (row_st2)) cw_X9_layRow cv_X9_layRow wm_X9_191 (by decide) ob_X9 ⟨by decide, by decide⟩ (Nat.le_of_ble_eq_true rfl) rfl dX9_most_63 ?_
    refine V_aload_n_0 (q := 67) C rfl dX9_most_66 ?_
    refine V_iload_n_1 (q := 68) C rfl dX9_most_67 ?_
    refine V_cV1v (q := 71) C (c_X9_goTo (putM (setf (setc σ 63 (rowJ T k r k w)) 40 31 (nI k)) s) T P C2 (d + 1) (nI d) (MH_row (σ := σ) (f := rowJ T k r k w) (k := k) (r := r) hM h0 hk (fun _ h => rowJ_lt h)) (ldN hd)) cw_X9_goTo cv_X9_goTo wm_X9_185 (by decide) ob_X9 ⟨by decide, by decide⟩ (Nat.le_of_ble_eq_true rfl) rfl dX9_most_68 ?_
    have hE : EqR T P (mDays (putM (setf (setc σ 63 (rowJ T k r k w)) 40 31 (nI k)) s) T P C2 (d + 1) (m0 (putM (setf (setc σ 63 (rowJ T k r k w)) 40 31 (nI k)) s) T P)) (mDC (rowS σ T k r) T P C2 (d + 1)) := by have h1 := mDC_eq (σ := putM (setf (setc σ 63 (rowJ T k r k w)) 40 31 (nI k)) s) (T := T) (P := P) (C := C2) (N := d + 1) (MH_row (σ := σ) (f := rowJ T k r k w) (k := k) (r := r) hM h0 hk (fun _ h => rowJ_lt h)) (ldN hd).1; unfold mDC at h1 ⊢; rw [show mDays (putM (setf (setc σ 63 (rowJ T k r k w)) 40 31 (nI k)) s) T P C2 (d + 1) mc0 = mDays (rowS σ T k r) T P C2 (d + 1) mc0 from (mDays_put _).trans (mDays_cg (Ag_row hk (fun _ h => rowJ_lt h)) _ (ldN hd).1)] at h1; exact h1
    generalize mDays (putM (setf (setc σ 63 (rowJ T k r k w)) 40 31 (nI k)) s) T P C2 (d + 1) (m0 (putM (setf (setc σ 63 (rowJ T k r k w)) 40 31 (nI k)) s) T P) = s1 at hE ⊢
    refine V_eq putM_putM ?_
    refine V_aload_n_0 (q := 72) C rfl dX9_most_71 ?_
    refine V_cV0r (q := 75) C (Ct.mono (v' := some (.int (cntB (mDC (rowS σ T k r) T P C2 (d + 1)).2.2 P))) (c_X9_outByTrees (putM (setf (setc σ 63 (rowJ T k r k w)) 40 31 (nI k)) s1) P hM.2.2.1 hP6) (congrArg (fun z => some (Value.int z)) (cntB_cg P (fun p hp => (hE.2 p hp).2))) rfl) cw_X9_outByTrees cv_X9_outByTrees wm_X9_197 (by decide) ob_X9 ⟨by decide, by decide⟩ (Nat.le_of_ble_eq_true rfl) rfl dX9_most_72 ?_
    refine V_iload_6 (q := 77) C rfl dX9_most_75 ?_
    refine V_icmp_le (tgt := 90) C rfl (by decide) dX9_most_77 (fun c77 => ?_) (fun c77 => ?_)
    · refine V_iinc_7 (q := 93) (n := 1) C nI_inc hn7 rfl rfl dX9_most_90 ?_
      refine V_goto (tgt := 52) C (by decide) dX9_most_93 ?_
      first
      | (refine V_eqlv ?_ (ih52 _ _ _); rw [show moM σ T P C2 (d + 1) k (r + 1) = moM σ T P C2 (d + 1) k r from if_neg (Int32.not_lt.mpr c77)]; done)
      | (refine V_eqlv ?_ (ih52 _ _ _); rw [show moM σ T P C2 (d + 1) k (r + 1) = (cntB (mDC (rowS σ T k r) T P C2 (d + 1)).2.2 P, r) from if_pos (Int32.not_le.mp c77)]; done)
    · refine V_aload_n_0 (q := 81) C rfl dX9_most_80 ?_
      refine V_cV0r (q := 84) C (Ct.mono (v' := some (.int (cntB (mDC (rowS σ T k r) T P C2 (d + 1)).2.2 P))) (c_X9_outByTrees (putM (setf (setc σ 63 (rowJ T k r k w)) 40 31 (nI k)) s1) P hM.2.2.1 hP6) (congrArg (fun z => some (Value.int z)) (cntB_cg P (fun p hp => (hE.2 p hp).2))) rfl) cw_X9_outByTrees cv_X9_outByTrees wm_X9_197 (by decide) ob_X9 ⟨by decide, by decide⟩ (Nat.le_of_ble_eq_true rfl) rfl dX9_most_81 ?_
      refine V_istore_6 (q := 86) C hn6 rfl rfl dX9_most_84 ?_
      refine V_iload_7 (q := 88) C rfl dX9_most_86 ?_
      refine V_istore_5 (q := 90) C hn5 rfl rfl dX9_most_88 ?_
      refine V_iinc_7 (q := 93) (n := 1) C nI_inc hn7 rfl rfl dX9_most_90 ?_
      refine V_goto (tgt := 52) C (by decide) dX9_most_93 ?_
      first
      | (refine V_eqlv ?_ (ih52 _ _ _); rw [show moM σ T P C2 (d + 1) k (r + 1) = moM σ T P C2 (d + 1) k r from if_neg (Int32.not_lt.mpr c77)]; done)
      | (refine V_eqlv ?_ (ih52 _ _ _); rw [show moM σ T P C2 (d + 1) k (r + 1) = (cntB (mDC (rowS σ T k r) T P C2 (d + 1)).2.2 P, r) from if_pos (Int32.not_le.mp c77)]; done)
  exact V_eq (by rw [setc_id, setf_id h9, putM_get]) (loopN (P := fun r => ∀ (w : Nat → Int32) (x : Int32) (s : S3), V X 52 [.ref (xad X 40), .int (nI d), .int (nI k), .int q, .int (nI (T ^ k)), .int (nI (moM σ T P C2 (d + 1) k r).2), .int (moM σ T P C2 (d + 1) k r).1, .int (nI r)] [] (putM (setf (setc σ 63 w) 40 31 x) s)) ((T ^ k)) hx52 hs52 0 (Nat.zero_le _) (σ 63) (-9) (getM σ))

set_option maxHeartbeats 4000000 in
set_option maxRecDepth 100000 in
theorem c_X9_size {l : Launch} {D : DD} {ad : Nat → Nat} (σ : ST) (m : Nat) (hm : m < 64) : Ct l yX9_size cX9_size 3 (Option.some FieldType.int) 0 0 D ad [.int (nI m)] σ (ex (some (.int (nI (szN 6 m)))) σ) := by
  refine Ct.of2 [.int (nI m), .float 0, .float 0] rfl (Nat.le_of_ble_eq_true rfl) rfl ?_
  rintro X C rfl rfl rfl hxn hR
  have hn1 : 1 < xn X := by rw [← hxn]; decide
  have hn2 : 2 < xn X := by rw [← hxn]; decide
  refine V_iconst (q := 1) (v := (nI 0)) C rfl rfl dX9_size_0 ?_
  refine V_istore_n_1 (q := 2) C hn1 rfl rfl dX9_size_1 ?_
  refine V_iload_n_0 (q := 3) C rfl dX9_size_2 ?_
  refine V_istore_n_2 (q := 4) C hn2 rfl rfl dX9_size_3 ?_
  have hx4 : ∀ a b : Nat, (b < 2 ^ (6 - 6) ∧ a + szN (6 - 6) b = szN 6 m) → V X 4 [.int (nI m), .int (nI a), .int (nI b)] [] (σ) := by
    intro a b hv4
    obtain ⟨hv1, hv2⟩ := hv4
    have hb0 : b = 0 := by have : b < 1 := hv1; omega
    subst hb0
    refine V_iload_n_2 (q := 5) C rfl dX9_size_4 ?_
    refine V_if_le_t (tgt := 21) C (by decide) (by decide) dX9_size_5 ?_
    refine V_iload_n_1 (q := 22) C rfl dX9_size_21 ?_
    refine V_iret C hR dX9_size_22 ?_
    refine ⟨?_, rfl⟩
    rw [← hv2]
    rfl
  have hs4 : ∀ i : Nat, i < 6 → (∀ a b : Nat, (b < 2 ^ (6 - (i + 1)) ∧ a + szN (6 - (i + 1)) b = szN 6 m) → V X 4 [.int (nI m), .int (nI a), .int (nI b)] [] (σ)) → ∀ a b : Nat, (b < 2 ^ (6 - i) ∧ a + szN (6 - i) b = szN 6 m) → V X 4 [.int (nI m), .int (nI a), .int (nI b)] [] (σ) := by
    intro i hi4 ih4 a b hv4
    obtain ⟨hv1, hv2⟩ := hv4
    have hp : 2 ^ (6 - i) = 2 ^ (6 - (i + 1)) * 2 := by rw [show 6 - i = 6 - (i + 1) + 1 by omega, Nat.pow_succ]
    have hp6 : 2 ^ (6 - i) ≤ 64 := Nat.pow_le_pow_right (n := 2) (by decide) (show 6 - i ≤ 6 by omega)
    have hz : szN (6 - i) b = szN (6 - (i + 1)) (b / 2) + b % 2 := by rw [show 6 - i = 6 - (i + 1) + 1 by omega]; rfl
    refine V_iload_n_2 (q := 5) C rfl dX9_size_4 ?_
    refine V_if_le (tgt := 21) C rfl (by decide) dX9_size_5 (fun c5 => ?_) (fun c5 => ?_)
    · refine V_iload_n_1 (q := 22) C rfl dX9_size_21 ?_
      refine V_iret C hR dX9_size_22 ?_
      have hb0 : b = 0 := by
        rcases Nat.eq_zero_or_pos b with h | h
        · exact h
        · exact absurd (nI_lt (a := 0) h (by omega)) (Int32.not_lt.mpr c5)
      subst hb0
      refine ⟨?_, rfl⟩
      rw [← hv2, szN_0]
      rfl
    · refine V_iload_n_1 (q := 9) C rfl dX9_size_8 ?_
      refine V_iload_n_2 (q := 10) C rfl dX9_size_9 ?_
      refine V_iconst (q := 11) (v := 1) C rfl rfl dX9_size_10 ?_
      refine V_iand (q := 12) C rfl dX9_size_11 ?_
      rw [show nI b &&& 1 = nI (b % 2) from pk_andN (by omega) 1 rfl]
      refine V_iadd (q := 13) C rfl dX9_size_12 ?_
      rw [nI_add]
      refine V_istore_n_1 (q := 14) C hn1 rfl rfl dX9_size_13 ?_
      refine V_iload_n_2 (q := 15) C rfl dX9_size_14 ?_
      refine V_iconst (q := 16) (v := 1) C rfl rfl dX9_size_15 ?_
      refine V_ishr (q := 17) C rfl dX9_size_16 ?_
      rw [sh1 (by omega)]
      refine V_istore_n_2 (q := 18) C hn2 rfl rfl dX9_size_17 ?_
      refine V_goto (tgt := 4) C (by decide) dX9_size_18 ?_
      refine ih4 (a + b % 2) (b / 2) ⟨by omega, ?_⟩
      rw [← hv2, hz]
      omega
  exact V_eq (rfl) (loopN (P := fun i => ∀ a b : Nat, (b < 2 ^ (6 - i) ∧ a + szN (6 - i) b = szN 6 m) → V X 4 [.int (nI m), .int (nI a), .int (nI b)] [] (σ)) (6) hx4 hs4 0 (Nat.zero_le _) 0 m (⟨hm, Nat.zero_add _⟩))

def feA (σ : ST) (x b : Int32) (t : Nat) : Int32 := if (x >>> (nI t &&& 31)) &&& 1 = 1 then b else σ 47 t
def feM (σ : ST) (T : Nat) (x b : Int32) : Nat → Int32 := pre T (feA σ x b) (σ 47)

set_option maxHeartbeats 4000000 in
set_option maxRecDepth 100000 in
theorem c_X9_fellAll {l : Launch} {D : DD} {ad : Nat → Nat} (σ : ST) (T : Nat) (x b : Int32) (hT : σ 40 5 = nI T) (hT6 : T ≤ 6) (hb : vp_nar .boolean b = b) (hfl : ∀ t, t < T → vp_nar .boolean (σ 47 t) = σ 47 t) : Ct l yX9_fellAll cX9_fellAll 4 (Option.none : Option FieldType) 0 0 D ad [.ref (ad 40), .int x, .int b] σ (ex none (setc σ 47 (feM σ T x b))) := by
  refine Ct.of2 [.ref (ad 40), .int x, .int b, .float 0] rfl (Nat.le_of_ble_eq_true rfl) rfl ?_
  rintro X C rfl rfl rfl hxn hR
  have hn3 : 3 < xn X := by rw [← hxn]; decide
  refine V_iconst (q := 1) (v := (nI 0)) C rfl rfl dX9_fellAll_0 ?_
  refine V_istore_n_3 (q := 2) C hn3 rfl rfl dX9_fellAll_1 ?_
  have hx2 : V X 2 [.ref (xad X 40), .int x, .int b, .int (nI T)] [] (setc σ 47 (pre T (feA σ x b) (σ 47))) := by
    refine V_iload_n_3 (q := 3) C rfl dX9_fellAll_2 ?_
    refine V_aload_n_0 (q := 4) C rfl dX9_fellAll_3 ?_
    refine gf_X9_105 (q := 7) C rfl dX9_fellAll_4 ?_
    rw [show (setc σ 47 (pre T (feA σ x b) (σ 47))) 40 5 = nI T from hT]
    refine V_icmp_ge_t (tgt := 41) C (nI_le (Nat.le_refl _) (by omega)) (by decide) dX9_fellAll_7 ?_
    refine V_vret C hR dX9_fellAll_41 ?_
    exact ⟨rfl, rfl⟩
  have hs2 : ∀ t : Nat, t < T → (V X 2 [.ref (xad X 40), .int x, .int b, .int (nI (t + 1))] [] (setc σ 47 (pre (t + 1) (feA σ x b) (σ 47)))) → V X 2 [.ref (xad X 40), .int x, .int b, .int (nI t)] [] (setc σ 47 (pre t (feA σ x b) (σ 47))) := by
    intro t hi2 ih2
    refine V_iload_n_3 (q := 3) C rfl dX9_fellAll_2 ?_
    refine V_aload_n_0 (q := 4) C rfl dX9_fellAll_3 ?_
    refine gf_X9_105 (q := 7) C rfl dX9_fellAll_4 ?_
    rw [show (setc σ 47 (pre t (feA σ x b) (σ 47))) 40 5 = nI T from hT]
    refine V_icmp_ge_f (tgt := 41) C (nI_ge hi2 (by omega)) rfl (by decide) dX9_fellAll_7 ?_
    refine V_aload_n_0 (q := 11) C rfl dX9_fellAll_10 ?_
    refine gf_X9_28 (q := 14) C rfl dX9_fellAll_11 ?_
    refine V_iload_n_3 (q := 15) C rfl dX9_fellAll_14 ?_
    refine V_iload_n_1 (q := 16) C rfl dX9_fellAll_15 ?_
    refine V_iload_n_3 (q := 17) C rfl dX9_fellAll_16 ?_
    refine V_ishr (q := 18) C rfl dX9_fellAll_17 ?_
    refine V_iconst (q := 19) (v := 1) C rfl rfl dX9_fellAll_18 ?_
    refine V_iand (q := 20) C rfl dX9_fellAll_19 ?_
    refine V_iconst (q := 21) (v := 1) C rfl rfl dX9_fellAll_20 ?_
    refine V_icmp_ne (tgt := 28) C rfl (by decide) dX9_fellAll_21 (fun c21 => ?_) (fun c21 => ?_)
    · refine V_aload_n_0 (q := 29) C rfl dX9_fellAll_28 ?_
      refine gf_X9_28 (q := 32) C rfl dX9_fellAll_29 ?_
      refine V_iload_n_3 (q := 33) C rfl dX9_fellAll_32 ?_
      refine V_zald (q := 34) C _ rfl (by show _ < 6; omega) rfl (by decide) (by decide) rfl dX9_fellAll_33 ?_
      rw [show (setc σ 47 (pre t (feA σ x b) (σ 47))) 47 t = σ 47 t from pre_ge (Nat.lt_irrefl t)]
      refine V_zast (q := 35) C _ rfl (by show _ < 6; omega) (hfl t hi2) rfl (by decide) (by decide) rfl dX9_fellAll_34 ?_
      refine V_iinc_3 (q := 38) (n := 1) C nI_inc hn3 rfl rfl dX9_fellAll_35 ?_
      refine V_goto (tgt := 2) C (by decide) dX9_fellAll_38 ?_
      refine V_eq ?_ ih2
      show setc (setc σ 47 (pre t (feA σ x b) (σ 47))) 47 (upd (pre t (feA σ x b) (σ 47)) t _) = _
      first
      | (rw [setc_setc, pre_step (show b = feA σ x b t from (if_pos c21).symm)]; done)
      | (rw [setc_setc, pre_step (show σ 47 t = feA σ x b t from (if_neg c21).symm)]; done)
    · refine V_iload_n_2 (q := 25) C rfl dX9_fellAll_24 ?_
      refine V_goto (tgt := 34) C (by decide) dX9_fellAll_25 ?_
      refine V_zast (q := 35) C _ rfl (by show _ < 6; omega) hb rfl (by decide) (by decide) rfl dX9_fellAll_34 ?_
      refine V_iinc_3 (q := 38) (n := 1) C nI_inc hn3 rfl rfl dX9_fellAll_35 ?_
      refine V_goto (tgt := 2) C (by decide) dX9_fellAll_38 ?_
      refine V_eq ?_ ih2
      show setc (setc σ 47 (pre t (feA σ x b) (σ 47))) 47 (upd (pre t (feA σ x b) (σ 47)) t _) = _
      first
      | (rw [setc_setc, pre_step (show b = feA σ x b t from (if_pos c21).symm)]; done)
      | (rw [setc_setc, pre_step (show σ 47 t = feA σ x b t from (if_neg c21).symm)]; done)
  exact V_eq (by rw [pre_0, setc_id]) (loopN (P := fun t => V X 2 [.ref (xad X 40), .int x, .int b, .int (nI t)] [] (setc σ 47 (pre t (feA σ x b) (σ 47)))) (T) hx2 hs2 0 (Nat.zero_le _))

abbrev flM (σ : ST) (T : Nat) : Int32 := setB (fun t => ¬ σ 47 t = 0) T
def szO : Option Nat → Nat
  | none => 100
  | some b => szN 6 b
def swS (σ : ST) (T z : Nat) : ST := setc σ 47 (feM σ T (nI z) 1)
def swM (σ : ST) (T P C p N : Nat) : Nat → Option Nat
  | 0 => none
  | z + 1 => if nI z &&& flM σ T = 0 ∧ szN 6 z < szO (swM σ T P C p N z) ∧ (mDC (swS σ T z) T P C N).2.2 p = -9 then some z else swM σ T P C p N z
theorem swM_lt {σ : ST} {T P C p N : Nat} : ∀ z b : Nat, swM σ T P C p N z = some b → b < z := by
  intro z
  induction z with
  | zero => intro b h; cases h
  | succ z ih =>
    intro b h
    have h2 : (if nI z &&& flM σ T = 0 ∧ szN 6 z < szO (swM σ T P C p N z) ∧ (mDC (swS σ T z) T P C N).2.2 p = -9 then some z else swM σ T P C p N z) = some b := h
    split at h2
    · cases h2; omega
    · have := ih b h2; omega
theorem fe_back {σ : ST} {T z : Nat} (hT6 : T ≤ 6) (h : nI z &&& flM σ T = 0) : feM (swS σ T z) T (nI z) 0 = σ 47 := funext fun t => by
  unfold feM
  by_cases ht : t < T
  · rw [pre_lt ht]
    unfold feA
    by_cases hb : (nI z >>> (nI t &&& 31)) &&& 1 = 1
    · rw [if_pos hb]
      rcases Classical.em (σ 47 t = 0) with h2 | h2
      · exact h2.symm
      · exfalso
        have h3 : bit (nI z &&& flM σ T) (nI t) := (bit_and (by omega)).mpr ⟨bit_1.mp hb, (bit_setB T (by omega) t (by omega)).mpr ⟨ht, h2⟩⟩
        rw [h] at h3
        exact bit_0 (by omega) h3
    · rw [if_neg hb]
      show pre T (feA σ (nI z) 1) (σ 47) t = _
      rw [pre_lt ht]
      exact if_neg hb
  · rw [pre_ge ht]
    show pre T (feA σ (nI z) 1) (σ 47) t = _
    rw [pre_ge ht]
theorem fe_ok {σ : ST} {T t : Nat} {x b : Int32} (hb : vp_nar .boolean b = b) (hfl : ∀ t, t < T → vp_nar .boolean (σ 47 t) = σ 47 t) (ht : t < T) : vp_nar .boolean (feM σ T x b t) = feM σ T x b t := by
  unfold feM
  rw [pre_lt ht]
  unfold feA
  split
  · exact hb
  · exact hfl t ht
theorem putM_47 {σ : ST} {s : S3} {w : Nat → Int32} : setc (putM σ s) 47 w = putM (setc σ 47 w) s := putM_c (by decide)
theorem feM_put {σ : ST} {s : S3} {T : Nat} {x b : Int32} : feM (putM σ s) T x b = feM σ T x b := rfl
theorem fr_ne {o : Option Nat} (h : frI o = -9) (hb : ∀ b, o = some b → b < 2 ^ 31) : o = none := by
  cases o with
  | none => rfl
  | some b => exact absurd h (nI_ne9 (hb b rfl))

set_option maxHeartbeats 4000000 in
set_option maxRecDepth 100000 in
theorem c_X9_saws_u {l : Launch} {D : DD} {ad : Nat → Nat} (σ : ST) (P : Nat) (p d : Int32) (hP : σ 40 6 = nI P) (h : ¬ (isT (nI P) p ∧ isT 30 d)) : Ct l yX9_saws cX9_saws 6 (Option.some FieldType.int) 4 88 D ad [.ref (ad 40), .int p, .int d] σ (ex (some (.int (-1))) σ) := by
  refine Ct.of2 [.ref (ad 40), .int p, .int d, .float 0, .float 0, .float 0] rfl (Nat.le_of_ble_eq_true rfl) rfl ?_
  rintro X C rfl rfl rfl hxn hR
  refine V_aload_n_0 (q := 1) C rfl dX9_saws_0 ?_
  refine V_iload_n_1 (q := 2) C rfl dX9_saws_1 ?_
  refine V_cV1r (q := 5) C (Ct.mono (v' := some (.int (pI (isT (nI P) p)))) (c_X9_isPrisoner σ p) (by rw [show σ 40 6 = nI P from hP]) rfl) cw_X9_isPrisoner cv_X9_isPrisoner wm_X9_162 (by decide) ob_X9 ⟨by decide, by decide⟩ (Nat.le_of_ble_eq_true rfl) rfl dX9_saws_2 ?_
  refine V_ifp_eq (tgt := 15) C rfl (by decide) dX9_saws_5 (fun c5 => ?_) (fun c5 => ?_)
  · refine V_iconst (q := 16) (v := (-1)) C rfl rfl dX9_saws_15 ?_
    refine V_iret C hR dX9_saws_16 ?_
    exact ⟨rfl, rfl⟩
  · refine V_iload_n_2 (q := 9) C rfl dX9_saws_8 ?_
    refine V_cS1r (q := 12) C (c_X9_isDay _ _) cw_X9_isDay cs_X9_isDay wm_X9_165 ⟨by decide, by decide⟩ (Nat.le_of_ble_eq_true rfl) rfl dX9_saws_9 ?_
    refine V_ifp_ne (tgt := 17) C rfl (by decide) dX9_saws_12 (fun c12 => ?_) (fun c12 => ?_)
    · exact absurd ⟨c5, c12⟩ h
    · refine V_iconst (q := 16) (v := (-1)) C rfl rfl dX9_saws_15 ?_
      refine V_iret C hR dX9_saws_16 ?_
      exact ⟨rfl, rfl⟩

set_option maxHeartbeats 4000000 in
set_option maxRecDepth 100000 in
theorem c_X9_saws_v {l : Launch} {D : DD} {ad : Nat → Nat} (σ : ST) (T P C2 j d : Nat) (hM : MH σ T P C2) (hj : j < P) (hd : d < 30) (hfl : ∀ t, t < T → vp_nar .boolean (σ 47 t) = σ 47 t) : Ct l yX9_saws cX9_saws 6 (Option.some FieldType.int) 4 88 D ad [.ref (ad 40), .int (nI j), .int (nI d)] σ (pq (fun v τ => v = frI (swM σ T P C2 j (d + 1) (2 ^ T)) ∧ ∃ s, τ = putM σ s)) := by
  refine Ct.of2 [.ref (ad 40), .int (nI j), .int (nI d), .float 0, .float 0, .float 0] rfl (Nat.le_of_ble_eq_true rfl) rfl ?_
  rintro X C rfl rfl rfl hxn hR
  have hn3 : 3 < xn X := by rw [← hxn]; decide
  have hn4 : 4 < xn X := by rw [← hxn]; decide
  have hn5 : 5 < xn X := by rw [← hxn]; decide
  have hT := hM.1
  have hT6 := hM.2.1
  have hP := hM.2.2.1
  have hP6 := hM.2.2.2.1
  have hp2 := p2_b hT6
  refine V_aload_n_0 (q := 1) C rfl dX9_saws_0 ?_
  refine V_iload_n_1 (q := 2) C rfl dX9_saws_1 ?_
  refine V_cV1r (q := 5) C (Ct.mono (v' := some (.int (pI (isT (nI P) (nI j))))) (c_X9_isPrisoner σ (nI j)) (by rw [show σ 40 6 = nI P from hP]) rfl) cw_X9_isPrisoner cv_X9_isPrisoner wm_X9_162 (by decide) ob_X9 ⟨by decide, by decide⟩ (Nat.le_of_ble_eq_true rfl) rfl dX9_saws_2 ?_
  refine V_ifp_eq_f (tgt := 15) C (isT_nI hj (by omega)) rfl (by decide) dX9_saws_5 ?_
  refine V_iload_n_2 (q := 9) C rfl dX9_saws_8 ?_
  refine V_cS1r (q := 12) C (c_X9_isDay _ _) cw_X9_isDay cs_X9_isDay wm_X9_165 ⟨by decide, by decide⟩ (Nat.le_of_ble_eq_true rfl) rfl dX9_saws_9 ?_
  refine V_ifp_ne_t (tgt := 17) C (isT_nI (N := 30) hd (by decide)) (by decide) dX9_saws_12 ?_
  refine V_iconst (q := 18) (v := (flM σ 0)) C rfl rfl dX9_saws_17 ?_
  refine V_istore_n_3 (q := 19) C hn3 rfl rfl dX9_saws_18 ?_
  refine V_iconst (q := 20) (v := (nI 0)) C rfl rfl dX9_saws_19 ?_
  refine V_istore_4 (q := 22) C hn4 rfl rfl dX9_saws_20 ?_
  have hx22 : V X 22 [.ref (xad X 40), .int (nI j), .int (nI d), .int (flM σ T), .int (nI T), .float 0] [] (σ) := by
    refine V_iload_4 (q := 24) C rfl dX9_saws_22 ?_
    refine V_aload_n_0 (q := 25) C rfl dX9_saws_24 ?_
    refine gf_X9_105 (q := 28) C rfl dX9_saws_25 ?_
    rw [hT]
    refine V_icmp_ge_t (tgt := 58) C (nI_le (Nat.le_refl _) (by omega)) (by decide) dX9_saws_28 ?_
    refine V_bipush (q := 60) (v := (frI (swM σ T P C2 j (d + 1) 0))) C rfl rfl dX9_saws_58 ?_
    refine V_istore_4 (q := 62) C hn4 rfl rfl dX9_saws_60 ?_
    refine V_iconst (q := 63) (v := (nI 0)) C rfl rfl dX9_saws_62 ?_
    refine V_istore_5 (q := 65) C hn5 rfl rfl dX9_saws_63 ?_
    have hx65 : ∀ s : S3, V X 65 [.ref (xad X 40), .int (nI j), .int (nI d), .int (flM σ T), .int (frI (swM σ T P C2 j (d + 1) ((2 ^ T)))), .int (nI ((2 ^ T)))] [] (putM σ s) := by
      intro s
      refine V_iload_5 (q := 67) C rfl dX9_saws_65 ?_
      refine V_iconst (q := 68) (v := 1) C rfl rfl dX9_saws_67 ?_
      refine V_aload_n_0 (q := 69) C rfl dX9_saws_68 ?_
      refine gf_X9_105 (q := 72) C rfl dX9_saws_69 ?_
      refine V_ishl (q := 73) C rfl dX9_saws_72 ?_
      rw [show (1 : Int32) <<< ((putM σ s) 40 5 &&& 31) = nI (2 ^ T) from by rw [show (putM σ s) 40 5 = nI T from hT]; exact own1_p T (by omega)]
      refine V_icmp_ge_t (tgt := 148) C (nI_le (Nat.le_refl _) (by omega)) (by decide) dX9_saws_73 ?_
      refine V_iload_4 (q := 150) C rfl dX9_saws_148 ?_
      refine V_iret C hR dX9_saws_150 ?_
      exact ⟨_, rfl, rfl, _, rfl⟩
    have hs65 : ∀ z : Nat, z < (2 ^ T) → (∀ s : S3, V X 65 [.ref (xad X 40), .int (nI j), .int (nI d), .int (flM σ T), .int (frI (swM σ T P C2 j (d + 1) (z + 1))), .int (nI (z + 1))] [] (putM σ s)) → ∀ s : S3, V X 65 [.ref (xad X 40), .int (nI j), .int (nI d), .int (flM σ T), .int (frI (swM σ T P C2 j (d + 1) z)), .int (nI z)] [] (putM σ s) := by
      intro z hi65 ih65 s
      have hlt : ∀ b, swM σ T P C2 j (d + 1) z = some b → b < 64 := fun b hb => by have := swM_lt z b hb; omega
      refine V_iload_5 (q := 67) C rfl dX9_saws_65 ?_
      refine V_iconst (q := 68) (v := 1) C rfl rfl dX9_saws_67 ?_
      refine V_aload_n_0 (q := 69) C rfl dX9_saws_68 ?_
      refine gf_X9_105 (q := 72) C rfl dX9_saws_69 ?_
      refine V_ishl (q := 73) C rfl dX9_saws_72 ?_
      rw [show (1 : Int32) <<< ((putM σ s) 40 5 &&& 31) = nI (2 ^ T) from by rw [show (putM σ s) 40 5 = nI T from hT]; exact own1_p T (by omega)]
      refine V_icmp_ge_f (tgt := 148) C (nI_ge hi65 (by omega)) rfl (by decide) dX9_saws_73 ?_
      refine V_iload_5 (q := 78) C rfl dX9_saws_76 ?_
      refine V_iload_n_3 (q := 79) C rfl dX9_saws_78 ?_
      refine V_iand (q := 80) C rfl dX9_saws_79 ?_
      show V X 80 _ (.int (nI z &&& flM σ T) :: []) _
      refine V_if_ne (tgt := 142) C rfl (by decide) dX9_saws_80 (fun c80 => ?_) (fun c80 => ?_)
      · refine V_iinc_5 (q := 145) (n := 1) C nI_inc hn5 rfl rfl dX9_saws_142 ?_
        refine V_goto (tgt := 65) C (by decide) dX9_saws_145 ?_
        first
        | (rw [show swM σ T P C2 j (d + 1) z = swM σ T P C2 j (d + 1) (z + 1) from (if_neg (fun h => c80 h.1)).symm]; exact ih65 _)
        | (refine V_eqlv ?_ (ih65 _); rw [show swM σ T P C2 j (d + 1) (z + 1) = swM σ T P C2 j (d + 1) z from if_neg (fun h => absurd h.2.1 hge)]; first | done | (rw [hb]; rfl))
        | (refine V_eqlv ?_ (ih65 _); rw [show swM σ T P C2 j (d + 1) (z + 1) = swM σ T P C2 j (d + 1) z from if_neg (fun h => c130 h.2.2)]; first | done | (rw [hb]; rfl))
        | (refine V_eqlv ?_ (ih65 _); rw [show swM σ T P C2 j (d + 1) (z + 1) = some z from if_pos ⟨c80, hls, c130⟩]; rfl)
      · refine V_iload_4 (q := 85) C rfl dX9_saws_83 ?_
        refine V_bipush (q := 87) (v := (-9)) C (by decide) rfl dX9_saws_85 ?_
        refine V_icmp_eq (tgt := 103) C rfl (by decide) dX9_saws_87 (fun c87 => ?_) (fun c87 => ?_)
        · have hls : szN 6 z < szO (swM σ T P C2 j (d + 1) z) := by
            rw [fr_ne c87 (fun b hb => by have := hlt b hb; omega)]
            have := szN_le 6 z
            show szN 6 z < 100
            omega
          refine V_aload_n_0 (q := 104) C rfl dX9_saws_103 ?_
          refine V_iload_5 (q := 106) C rfl dX9_saws_104 ?_
          refine V_iconst (q := 107) (v := 1) C rfl rfl dX9_saws_106 ?_
          refine V_cV2v (q := 110) C (Ct.mono (v' := none) (τ' := putM (swS σ T z) s) (c_X9_fellAll (putM σ s) T (nI z) 1 hT hT6 rfl hfl) (rfl) (putM_47)) cw_X9_fellAll cv_X9_fellAll wm_X9_204 (by decide) ob_X9 ⟨by decide, by decide⟩ (Nat.le_of_ble_eq_true rfl) rfl dX9_saws_107 ?_
          refine V_aload_n_0 (q := 111) C rfl dX9_saws_110 ?_
          refine V_iload_n_2 (q := 112) C rfl dX9_saws_111 ?_
          refine V_cV1v (q := 115) C (c_X9_goTo (putM (swS σ T z) s) T P C2 (d + 1) (nI d) hM (ldN hd)) cw_X9_goTo cv_X9_goTo wm_X9_185 (by decide) ob_X9 ⟨by decide, by decide⟩ (Nat.le_of_ble_eq_true rfl) rfl dX9_saws_112 ?_
          have hE : EqR T P (mDays (putM (swS σ T z) s) T P C2 (d + 1) (m0 (putM (swS σ T z) s) T P)) (mDC (swS σ T z) T P C2 (d + 1)) := by have h1 := mDC_eq (σ := putM (swS σ T z) s) (T := T) (P := P) (C := C2) (N := d + 1) hM (ldN hd).1; unfold mDC at h1 ⊢; rw [show mDays (putM (swS σ T z) s) T P C2 (d + 1) mc0 = mDays (swS σ T z) T P C2 (d + 1) mc0 from mDays_put _] at h1; exact h1
          generalize mDays (putM (swS σ T z) s) T P C2 (d + 1) (m0 (putM (swS σ T z) s) T P) = s1 at hE ⊢
          refine V_eq putM_putM ?_
          refine V_aload_n_0 (q := 116) C rfl dX9_saws_115 ?_
          refine V_iload_5 (q := 118) C rfl dX9_saws_116 ?_
          refine V_iconst (q := 119) (v := 0) C rfl rfl dX9_saws_118 ?_
          refine V_cV2v (q := 122) C (Ct.mono (v' := none) (τ' := putM σ s1) (c_X9_fellAll (putM (swS σ T z) s1) T (nI z) 0 hT hT6 rfl (fun t ht => fe_ok rfl hfl ht)) (rfl) (by rw [feM_put, fe_back hT6 c80, putM_47]; unfold swS; rw [setc_setc, setc_id])) cw_X9_fellAll cv_X9_fellAll wm_X9_204 (by decide) ob_X9 ⟨by decide, by decide⟩ (Nat.le_of_ble_eq_true rfl) rfl dX9_saws_119 ?_
          refine V_aload_n_0 (q := 123) C rfl dX9_saws_122 ?_
          refine gf_X9_74 (q := 126) C rfl dX9_saws_123 ?_
          refine V_iload_n_1 (q := 127) C rfl dX9_saws_126 ?_
          refine V_iald (q := 128) C _ rfl (by show _ < 6; omega) rfl (by decide) (by decide) rfl dX9_saws_127 ?_
          rw [show (putM σ s1) 62 j = (mDC (swS σ T z) T P C2 (d + 1)).2.2 j from (hE.2 j hj).2]
          refine V_bipush (q := 130) (v := (-9)) C (by decide) rfl dX9_saws_128 ?_
          refine V_icmp_ne (tgt := 138) C rfl (by decide) dX9_saws_130 (fun c130 => ?_) (fun c130 => ?_)
          · refine V_iload_4 (q := 140) C rfl dX9_saws_138 ?_
            refine V_istore_4 (q := 142) C hn4 rfl rfl dX9_saws_140 ?_
            refine V_iinc_5 (q := 145) (n := 1) C nI_inc hn5 rfl rfl dX9_saws_142 ?_
            refine V_goto (tgt := 65) C (by decide) dX9_saws_145 ?_
            first
            | (rw [show swM σ T P C2 j (d + 1) z = swM σ T P C2 j (d + 1) (z + 1) from (if_neg (fun h => c80 h.1)).symm]; exact ih65 _)
            | (refine V_eqlv ?_ (ih65 _); rw [show swM σ T P C2 j (d + 1) (z + 1) = swM σ T P C2 j (d + 1) z from if_neg (fun h => absurd h.2.1 hge)]; first | done | (rw [hb]; rfl))
            | (refine V_eqlv ?_ (ih65 _); rw [show swM σ T P C2 j (d + 1) (z + 1) = swM σ T P C2 j (d + 1) z from if_neg (fun h => c130 h.2.2)]; first | done | (rw [hb]; rfl))
            | (refine V_eqlv ?_ (ih65 _); rw [show swM σ T P C2 j (d + 1) (z + 1) = some z from if_pos ⟨c80, hls, c130⟩]; rfl)
          · refine V_iload_5 (q := 135) C rfl dX9_saws_133 ?_
            refine V_goto (tgt := 140) C (by decide) dX9_saws_135 ?_
            refine V_istore_4 (q := 142) C hn4 rfl rfl dX9_saws_140 ?_
            refine V_iinc_5 (q := 145) (n := 1) C nI_inc hn5 rfl rfl dX9_saws_142 ?_
            refine V_goto (tgt := 65) C (by decide) dX9_saws_145 ?_
            first
            | (rw [show swM σ T P C2 j (d + 1) z = swM σ T P C2 j (d + 1) (z + 1) from (if_neg (fun h => c80 h.1)).symm]; exact ih65 _)
            | (refine V_eqlv ?_ (ih65 _); rw [show swM σ T P C2 j (d + 1) (z + 1) = swM σ T P C2 j (d + 1) z from if_neg (fun h => absurd h.2.1 hge)]; first | done | (rw [hb]; rfl))
            | (refine V_eqlv ?_ (ih65 _); rw [show swM σ T P C2 j (d + 1) (z + 1) = swM σ T P C2 j (d + 1) z from if_neg (fun h => c130 h.2.2)]; first | done | (rw [hb]; rfl))
            | (refine V_eqlv ?_ (ih65 _); rw [show swM σ T P C2 j (d + 1) (z + 1) = some z from if_pos ⟨c80, hls, c130⟩]; rfl)
        · refine V_iload_5 (q := 92) C rfl dX9_saws_90 ?_
          refine V_cS1r (q := 95) C (c_X9_size _ z (by omega)) cw_X9_size cs_X9_size wm_X9_201 ⟨by decide, by decide⟩ (Nat.le_of_ble_eq_true rfl) rfl dX9_saws_92 ?_
          obtain ⟨b, hb⟩ : ∃ b, swM σ T P C2 j (d + 1) z = some b := by
            cases hs : swM σ T P C2 j (d + 1) z with
            | some b => exact ⟨b, rfl⟩
            | none => rw [hs] at c87; exact absurd rfl c87
          rw [show frI (swM σ T P C2 j (d + 1) z) = nI b from by rw [hb]; rfl]
          refine V_iload_4 (q := 97) C rfl dX9_saws_95 ?_
          refine V_cS1r (q := 100) C (c_X9_size _ b (hlt b hb)) cw_X9_size cs_X9_size wm_X9_201 ⟨by decide, by decide⟩ (Nat.le_of_ble_eq_true rfl) rfl dX9_saws_97 ?_
          refine V_icmp_ge (tgt := 142) C rfl (by decide) dX9_saws_100 (fun c100 => ?_) (fun c100 => ?_)
          · have hge : ¬ szN 6 z < szO (swM σ T P C2 j (d + 1) z) := by
              rw [hb]
              intro h
              exact nI_ge (show szN 6 z < szN 6 b from h) (by have := szN_le 6 b; omega) c100
            refine V_iinc_5 (q := 145) (n := 1) C nI_inc hn5 rfl rfl dX9_saws_142 ?_
            refine V_goto (tgt := 65) C (by decide) dX9_saws_145 ?_
            first
            | (rw [show swM σ T P C2 j (d + 1) z = swM σ T P C2 j (d + 1) (z + 1) from (if_neg (fun h => c80 h.1)).symm]; exact ih65 _)
            | (refine V_eqlv ?_ (ih65 _); rw [show swM σ T P C2 j (d + 1) (z + 1) = swM σ T P C2 j (d + 1) z from if_neg (fun h => absurd h.2.1 hge)]; first | done | (rw [hb]; rfl))
            | (refine V_eqlv ?_ (ih65 _); rw [show swM σ T P C2 j (d + 1) (z + 1) = swM σ T P C2 j (d + 1) z from if_neg (fun h => c130 h.2.2)]; first | done | (rw [hb]; rfl))
            | (refine V_eqlv ?_ (ih65 _); rw [show swM σ T P C2 j (d + 1) (z + 1) = some z from if_pos ⟨c80, hls, c130⟩]; rfl)
          · have hls : szN 6 z < szO (swM σ T P C2 j (d + 1) z) := by
              rw [hb]
              rcases Nat.lt_or_ge (szN 6 z) (szN 6 b) with h | h
              · exact h
              · exact absurd (nI_le h (by have := szN_le 6 z; omega)) c100
            refine V_aload_n_0 (q := 104) C rfl dX9_saws_103 ?_
            refine V_iload_5 (q := 106) C rfl dX9_saws_104 ?_
            refine V_iconst (q := 107) (v := 1) C rfl rfl dX9_saws_106 ?_
            refine V_cV2v (q := 110) C (Ct.mono (v' := none) (τ' := putM (swS σ T z) s) (c_X9_fellAll (putM σ s) T (nI z) 1 hT hT6 rfl hfl) (rfl) (putM_47)) cw_X9_fellAll cv_X9_fellAll wm_X9_204 (by decide) ob_X9 ⟨by decide, by decide⟩ (Nat.le_of_ble_eq_true rfl) rfl dX9_saws_107 ?_
            refine V_aload_n_0 (q := 111) C rfl dX9_saws_110 ?_
            refine V_iload_n_2 (q := 112) C rfl dX9_saws_111 ?_
            refine V_cV1v (q := 115) C (c_X9_goTo (putM (swS σ T z) s) T P C2 (d + 1) (nI d) hM (ldN hd)) cw_X9_goTo cv_X9_goTo wm_X9_185 (by decide) ob_X9 ⟨by decide, by decide⟩ (Nat.le_of_ble_eq_true rfl) rfl dX9_saws_112 ?_
            have hE : EqR T P (mDays (putM (swS σ T z) s) T P C2 (d + 1) (m0 (putM (swS σ T z) s) T P)) (mDC (swS σ T z) T P C2 (d + 1)) := by have h1 := mDC_eq (σ := putM (swS σ T z) s) (T := T) (P := P) (C := C2) (N := d + 1) hM (ldN hd).1; unfold mDC at h1 ⊢; rw [show mDays (putM (swS σ T z) s) T P C2 (d + 1) mc0 = mDays (swS σ T z) T P C2 (d + 1) mc0 from mDays_put _] at h1; exact h1
            generalize mDays (putM (swS σ T z) s) T P C2 (d + 1) (m0 (putM (swS σ T z) s) T P) = s1 at hE ⊢
            refine V_eq putM_putM ?_
            refine V_aload_n_0 (q := 116) C rfl dX9_saws_115 ?_
            refine V_iload_5 (q := 118) C rfl dX9_saws_116 ?_
            refine V_iconst (q := 119) (v := 0) C rfl rfl dX9_saws_118 ?_
            refine V_cV2v (q := 122) C (Ct.mono (v' := none) (τ' := putM σ s1) (c_X9_fellAll (putM (swS σ T z) s1) T (nI z) 0 hT hT6 rfl (fun t ht => fe_ok rfl hfl ht)) (rfl) (by rw [feM_put, fe_back hT6 c80, putM_47]; unfold swS; rw [setc_setc, setc_id])) cw_X9_fellAll cv_X9_fellAll wm_X9_204 (by decide) ob_X9 ⟨by decide, by decide⟩ (Nat.le_of_ble_eq_true rfl) rfl dX9_saws_119 ?_
            refine V_aload_n_0 (q := 123) C rfl dX9_saws_122 ?_
            refine gf_X9_74 (q := 126) C rfl dX9_saws_123 ?_
            refine V_iload_n_1 (q := 127) C rfl dX9_saws_126 ?_
            refine V_iald (q := 128) C _ rfl (by show _ < 6; omega) rfl (by decide) (by decide) rfl dX9_saws_127 ?_
            rw [show (putM σ s1) 62 j = (mDC (swS σ T z) T P C2 (d + 1)).2.2 j from (hE.2 j hj).2]
            refine V_bipush (q := 130) (v := (-9)) C (by decide) rfl dX9_saws_128 ?_
            refine V_icmp_ne (tgt := 138) C rfl (by decide) dX9_saws_130 (fun c130 => ?_) (fun c130 => ?_)
            · refine V_iload_4 (q := 140) C rfl dX9_saws_138 ?_
              refine V_istore_4 (q := 142) C hn4 rfl rfl dX9_saws_140 ?_
              refine V_iinc_5 (q := 145) (n := 1) C nI_inc hn5 rfl rfl dX9_saws_142 ?_
              refine V_goto (tgt := 65) C (by decide) dX9_saws_145 ?_
              first
              | (rw [show swM σ T P C2 j (d + 1) z = swM σ T P C2 j (d + 1) (z + 1) from (if_neg (fun h => c80 h.1)).symm]; exact ih65 _)
              | (refine V_eqlv ?_ (ih65 _); rw [show swM σ T P C2 j (d + 1) (z + 1) = swM σ T P C2 j (d + 1) z from if_neg (fun h => absurd h.2.1 hge)]; first | done | (rw [hb]; rfl))
              | (refine V_eqlv ?_ (ih65 _); rw [show swM σ T P C2 j (d + 1) (z + 1) = swM σ T P C2 j (d + 1) z from if_neg (fun h => c130 h.2.2)]; first | done | (rw [hb]; rfl))
              | (refine V_eqlv ?_ (ih65 _); rw [show swM σ T P C2 j (d + 1) (z + 1) = some z from if_pos ⟨c80, hls, c130⟩]; rfl)
            · refine V_iload_5 (q := 135) C rfl dX9_saws_133 ?_
              refine V_goto (tgt := 140) C (by decide) dX9_saws_135 ?_
              refine V_istore_4 (q := 142) C hn4 rfl rfl dX9_saws_140 ?_
              refine V_iinc_5 (q := 145) (n := 1) C nI_inc hn5 rfl rfl dX9_saws_142 ?_
              refine V_goto (tgt := 65) C (by decide) dX9_saws_145 ?_
              first
              | (rw [show swM σ T P C2 j (d + 1) z = swM σ T P C2 j (d + 1) (z + 1) from (if_neg (fun h => c80 h.1)).symm]; exact ih65 _)
              | (refine V_eqlv ?_ (ih65 _); rw [show swM σ T P C2 j (d + 1) (z + 1) = swM σ T P C2 j (d + 1) z from if_neg (fun h => absurd h.2.1 hge)]; first | done | (rw [hb]; rfl))
              | (refine V_eqlv ?_ (ih65 _); rw [show swM σ T P C2 j (d + 1) (z + 1) = swM σ T P C2 j (d + 1) z from if_neg (fun h => c130 h.2.2)]; first | done | (rw [hb]; rfl))
              | (refine V_eqlv ?_ (ih65 _); rw [show swM σ T P C2 j (d + 1) (z + 1) = some z from if_pos ⟨c80, hls, c130⟩]; rfl)
    exact V_eq (by rw [putM_get]) (loopN (P := fun z => ∀ s : S3, V X 65 [.ref (xad X 40), .int (nI j), .int (nI d), .int (flM σ T), .int (frI (swM σ T P C2 j (d + 1) z)), .int (nI z)] [] (putM σ s)) ((2 ^ T)) hx65 hs65 0 (Nat.zero_le _) (getM σ))
  have hs22 : ∀ t : Nat, t < T → (V X 22 [.ref (xad X 40), .int (nI j), .int (nI d), .int (flM σ (t + 1)), .int (nI (t + 1)), .float 0] [] (σ)) → V X 22 [.ref (xad X 40), .int (nI j), .int (nI d), .int (flM σ t), .int (nI t), .float 0] [] (σ) := by
    intro t hi22 ih22
    refine V_iload_4 (q := 24) C rfl dX9_saws_22 ?_
    refine V_aload_n_0 (q := 25) C rfl dX9_saws_24 ?_
    refine gf_X9_105 (q := 28) C rfl dX9_saws_25 ?_
    rw [hT]
    refine V_icmp_ge_f (tgt := 58) C (nI_ge hi22 (by omega)) rfl (by decide) dX9_saws_28 ?_
    refine V_iload_n_3 (q := 32) C rfl dX9_saws_31 ?_
    refine V_aload_n_0 (q := 33) C rfl dX9_saws_32 ?_
    refine gf_X9_28 (q := 36) C rfl dX9_saws_33 ?_
    refine V_iload_4 (q := 38) C rfl dX9_saws_36 ?_
    refine V_zald (q := 39) C _ rfl (by show _ < 6; omega) rfl (by decide) (by decide) rfl dX9_saws_38 ?_
    refine V_if_eq (tgt := 49) C rfl (by decide) dX9_saws_39 (fun c39 => ?_) (fun c39 => ?_)
    · refine V_iconst (q := 50) (v := 0) C rfl rfl dX9_saws_49 ?_
      refine V_ior (q := 51) C rfl dX9_saws_50 ?_
      refine V_istore_n_3 (q := 52) C hn3 rfl rfl dX9_saws_51 ?_
      refine V_iinc_4 (q := 55) (n := 1) C nI_inc hn4 rfl rfl dX9_saws_52 ?_
      refine V_goto (tgt := 22) C (by decide) dX9_saws_55 ?_
      first
      | (rw [or0, show flM σ t = flM σ (t + 1) from (if_neg (nn c39)).symm]; exact ih22)
      | (rw [show flM σ t ||| (1 <<< (nI t &&& 31)) = flM σ (t + 1) from (if_pos c39).symm]; exact ih22)
    · refine V_iconst (q := 43) (v := 1) C rfl rfl dX9_saws_42 ?_
      refine V_iload_4 (q := 45) C rfl dX9_saws_43 ?_
      refine V_ishl (q := 46) C rfl dX9_saws_45 ?_
      refine V_goto (tgt := 50) C (by decide) dX9_saws_46 ?_
      refine V_ior (q := 51) C rfl dX9_saws_50 ?_
      refine V_istore_n_3 (q := 52) C hn3 rfl rfl dX9_saws_51 ?_
      refine V_iinc_4 (q := 55) (n := 1) C nI_inc hn4 rfl rfl dX9_saws_52 ?_
      refine V_goto (tgt := 22) C (by decide) dX9_saws_55 ?_
      first
      | (rw [or0, show flM σ t = flM σ (t + 1) from (if_neg (nn c39)).symm]; exact ih22)
      | (rw [show flM σ t ||| (1 <<< (nI t &&& 31)) = flM σ (t + 1) from (if_pos c39).symm]; exact ih22)
  exact V_eq (rfl) (loopN (P := fun t => V X 22 [.ref (xad X 40), .int (nI j), .int (nI d), .int (flM σ t), .int (nI t), .float 0] [] (σ)) (T) hx22 hs22 0 (Nat.zero_le _))

set_option maxHeartbeats 4000000 in
set_option maxRecDepth 100000 in
theorem c_X9_allDays {l : Launch} {D : DD} {ad : Nat → Nat} (σ : ST) (T P C2 : Nat) (hM : MH σ T P C2) : Ct l yX9_allDays cX9_allDays 3 (Option.some FieldType.int) 4 88 D ad [.ref (ad 40)] σ (pq (fun v τ => v = sumO (mDC σ T P C2 30).2.1 P ∧ ∃ s, τ = putM σ s)) := by
  refine Ct.of2 [.ref (ad 40), .float 0, .float 0] rfl (Nat.le_of_ble_eq_true rfl) rfl ?_
  rintro X C rfl rfl rfl hxn hR
  have hn1 : 1 < xn X := by rw [← hxn]; decide
  have hn2 : 2 < xn X := by rw [← hxn]; decide
  have hP := hM.2.2.1
  have hP6 := hM.2.2.2.1
  refine V_aload_n_0 (q := 1) C rfl dX9_allDays_0 ?_
  refine V_bipush (q := 3) (v := 29) C (by decide) rfl dX9_allDays_1 ?_
  refine V_cV1v (q := 6) C (c_X9_goTo (σ) T P C2 (30) (29) (hM) (ld29)) cw_X9_goTo cv_X9_goTo wm_X9_185 (by decide) ob_X9 ⟨by decide, by decide⟩ (Nat.le_of_ble_eq_true rfl) rfl dX9_allDays_3 ?_
  have hE := mDC_eq (σ := σ) (T := T) (P := P) (C := C2) (N := 30) (hM) (ld29).1
  generalize mDays (σ) T P C2 (30) (m0 (σ) T P) = s1 at hE ⊢
  refine V_iconst (q := 7) (v := 0) C rfl rfl dX9_allDays_6 ?_
  refine V_istore_n_1 (q := 8) C hn1 rfl rfl dX9_allDays_7 ?_
  refine V_iconst (q := 9) (v := (nI 0)) C rfl rfl dX9_allDays_8 ?_
  refine V_istore_n_2 (q := 10) C hn2 rfl rfl dX9_allDays_9 ?_
  have hx10 : V X 10 [.ref (xad X 40), .int (sumO s1.2.1 P), .int (nI P)] [] (putM σ s1) := by
    refine V_iload_n_2 (q := 11) C rfl dX9_allDays_10 ?_
    refine V_aload_n_0 (q := 12) C rfl dX9_allDays_11 ?_
    refine gf_X9_108 (q := 15) C rfl dX9_allDays_12 ?_
    rw [show (putM σ s1) 40 6 = nI P from hP]
    refine V_icmp_ge_t (tgt := 33) C (nI_le (Nat.le_refl _) (by omega)) (by decide) dX9_allDays_15 ?_
    refine V_iload_n_1 (q := 34) C rfl dX9_allDays_33 ?_
    refine V_iret C hR dX9_allDays_34 ?_
    exact ⟨_, rfl, sumO_cg P (fun p hp => (hE.2 p hp).1), _, rfl⟩
  have hs10 : ∀ p : Nat, p < P → (V X 10 [.ref (xad X 40), .int (sumO s1.2.1 (p + 1)), .int (nI (p + 1))] [] (putM σ s1)) → V X 10 [.ref (xad X 40), .int (sumO s1.2.1 p), .int (nI p)] [] (putM σ s1) := by
    intro p hi10 ih10
    refine V_iload_n_2 (q := 11) C rfl dX9_allDays_10 ?_
    refine V_aload_n_0 (q := 12) C rfl dX9_allDays_11 ?_
    refine gf_X9_108 (q := 15) C rfl dX9_allDays_12 ?_
    rw [show (putM σ s1) 40 6 = nI P from hP]
    refine V_icmp_ge_f (tgt := 33) C (nI_ge hi10 (by omega)) rfl (by decide) dX9_allDays_15 ?_
    refine V_iload_n_1 (q := 19) C rfl dX9_allDays_18 ?_
    refine V_aload_n_0 (q := 20) C rfl dX9_allDays_19 ?_
    refine gf_X9_71 (q := 23) C rfl dX9_allDays_20 ?_
    refine V_iload_n_2 (q := 24) C rfl dX9_allDays_23 ?_
    refine V_iald (q := 25) C _ rfl (by show _ < 6; omega) rfl (by decide) (by decide) rfl dX9_allDays_24 ?_
    refine V_iadd (q := 26) C rfl dX9_allDays_25 ?_
    refine V_istore_n_1 (q := 27) C hn1 rfl rfl dX9_allDays_26 ?_
    refine V_iinc_2 (q := 30) (n := 1) C nI_inc hn2 rfl rfl dX9_allDays_27 ?_
    refine V_goto (tgt := 10) C (by decide) dX9_allDays_30 ?_
    exact V_eq rfl ih10
  exact V_eq (rfl) (loopN (P := fun p => V X 10 [.ref (xad X 40), .int (sumO s1.2.1 p), .int (nI p)] [] (putM σ s1)) (P) hx10 hs10 0 (Nat.zero_le _))

set_option maxHeartbeats 4000000 in
set_option maxRecDepth 100000 in
theorem c_X9_worth_u {l : Launch} {D : DD} {ad : Nat → Nat} (σ : ST) (T : Nat) (t : Int32) (hT : σ 40 5 = nI T) (h : ¬ isT (nI T) t) : Ct l yX9_worth cX9_worth 5 (Option.some FieldType.int) 5 110 D ad [.ref (ad 40), .int t] σ (ex (some (.int (-1))) σ) := by
  refine Ct.of2 [.ref (ad 40), .int t, .float 0, .float 0, .float 0] rfl (Nat.le_of_ble_eq_true rfl) rfl ?_
  rintro X C rfl rfl rfl hxn hR
  refine V_aload_n_0 (q := 1) C rfl dX9_worth_0 ?_
  refine V_iload_n_1 (q := 2) C rfl dX9_worth_1 ?_
  refine V_cV1r (q := 5) C (Ct.mono (v' := some (.int (pI (isT (nI T) t)))) (c_X9_isTree σ t) (by rw [show σ 40 5 = nI T from hT]) rfl) cw_X9_isTree cv_X9_isTree wm_X9_153 (by decide) ob_X9 ⟨by decide, by decide⟩ (Nat.le_of_ble_eq_true rfl) rfl dX9_worth_2 ?_
  refine V_ifp_ne_f (tgt := 10) C h rfl (by decide) dX9_worth_5 ?_
  refine V_iconst (q := 9) (v := (-1)) C rfl rfl dX9_worth_8 ?_
  refine V_iret C hR dX9_worth_9 ?_
  exact ⟨rfl, rfl⟩

theorem fl_un {σ : ST} {s t : S3} {j : Nat} : setf (putM (setf (putM σ s) 47 j 1) t) 47 j (σ 47 j) = putM σ t := by
  unfold setf
  rw [putM_47, putM_47, putM_47, putM_putM]
  refine congrArg (fun z => putM z t) ?_
  rw [setc_setc]
  show setc σ 47 (upd (upd (σ 47) j 1) j (σ 47 j)) = σ
  rw [upd_upd, upd_id, setc_id]
theorem fl_cg {σ : ST} {s : S3} {T P C j : Nat} : mDC (setf (putM σ s) 47 j 1) T P C 30 = mDC (setf σ 47 j 1) T P C 30 :=
  mDays_cg (σ := setf (putM σ s) 47 j 1) (τ := setf σ 47 j 1) ⟨fun _ _ => rfl, rfl, rfl, rfl, rfl, rfl, rfl, rfl, rfl, fun _ _ => ⟨rfl, rfl⟩⟩ 30 (Nat.le_refl _)

set_option maxHeartbeats 4000000 in
set_option maxRecDepth 100000 in
theorem c_X9_worth_v {l : Launch} {D : DD} {ad : Nat → Nat} (σ : ST) (T P C2 j : Nat) (hM : MH σ T P C2) (hj : j < T) (hfl : ∀ t, t < T → vp_nar .boolean (σ 47 t) = σ 47 t) : Ct l yX9_worth cX9_worth 5 (Option.some FieldType.int) 5 110 D ad [.ref (ad 40), .int (nI j)] σ (pq (fun v τ => v = sumO (mDC (setf σ 47 j 1) T P C2 30).2.1 P - sumO (mDC σ T P C2 30).2.1 P + 10000 ∧ ∃ s, τ = putM σ s)) := by
  refine Ct.of2 [.ref (ad 40), .int (nI j), .float 0, .float 0, .float 0] rfl (Nat.le_of_ble_eq_true rfl) rfl ?_
  rintro X C rfl rfl rfl hxn hR
  have hn2 : 2 < xn X := by rw [← hxn]; decide
  have hn3 : 3 < xn X := by rw [← hxn]; decide
  have hn4 : 4 < xn X := by rw [← hxn]; decide
  have hT := hM.1
  have hT6 := hM.2.1
  refine V_aload_n_0 (q := 1) C rfl dX9_worth_0 ?_
  refine V_iload_n_1 (q := 2) C rfl dX9_worth_1 ?_
  refine V_cV1r (q := 5) C (Ct.mono (v' := some (.int (pI (isT (nI T) (nI j))))) (c_X9_isTree σ (nI j)) (by rw [show σ 40 5 = nI T from hT]) rfl) cw_X9_isTree cv_X9_isTree wm_X9_153 (by decide) ob_X9 ⟨by decide, by decide⟩ (Nat.le_of_ble_eq_true rfl) rfl dX9_worth_2 ?_
  refine V_ifp_ne_t (tgt := 10) C (isT_nI hj (by omega)) (by decide) dX9_worth_5 ?_
  refine V_aload_n_0 (q := 11) C rfl dX9_worth_10 ?_
  refine V_cV0q C (c_X9_allDays σ T P C2 hM) cw_X9_allDays cv_X9_allDays wm_X9_208 (by decide) ob_X9 ⟨by decide, by decide⟩ (Nat.le_of_ble_eq_true rfl) rfl dX9_worth_11 (fun v1 τ hv => ?_)
  obtain ⟨rfl, s, rfl⟩ := hv
  refine V_istore_n_2 (q := 15) C hn2 rfl rfl dX9_worth_14 ?_
  refine V_aload_n_0 (q := 16) C rfl dX9_worth_15 ?_
  refine gf_X9_28 (q := 19) C rfl dX9_worth_16 ?_
  refine V_iload_n_1 (q := 20) C rfl dX9_worth_19 ?_
  refine V_zald (q := 21) C _ rfl (by show _ < 6; omega) rfl (by decide) (by decide) rfl dX9_worth_20 ?_
  refine V_istore_n_3 (q := 22) C hn3 rfl rfl dX9_worth_21 ?_
  refine V_aload_n_0 (q := 23) C rfl dX9_worth_22 ?_
  refine gf_X9_28 (q := 26) C rfl dX9_worth_23 ?_
  refine V_iload_n_1 (q := 27) C rfl dX9_worth_26 ?_
  refine V_iconst (q := 28) (v := 1) C rfl rfl dX9_worth_27 ?_
  refine V_zast (q := 29) C _ rfl (by show _ < 6; omega) rfl rfl (by decide) (by decide) rfl dX9_worth_28 ?_
  refine V_aload_n_0 (q := 30) C rfl dX9_worth_29 ?_
  refine V_cV0q C (c_X9_allDays (setf (putM σ s) 47 j 1) T P C2 hM) cw_X9_allDays cv_X9_allDays wm_X9_208 (by decide) ob_X9 ⟨by decide, by decide⟩ (Nat.le_of_ble_eq_true rfl) rfl dX9_worth_30 (fun v1 τ hv => ?_)
  obtain ⟨rfl, s2, rfl⟩ := hv
  refine V_istore_4 (q := 35) C hn4 rfl rfl dX9_worth_33 ?_
  refine V_aload_n_0 (q := 36) C rfl dX9_worth_35 ?_
  refine gf_X9_28 (q := 39) C rfl dX9_worth_36 ?_
  refine V_iload_n_1 (q := 40) C rfl dX9_worth_39 ?_
  refine V_iload_n_3 (q := 41) C rfl dX9_worth_40 ?_
  refine V_zast (q := 42) C _ rfl (by show _ < 6; omega) (hfl j hj) rfl (by decide) (by decide) rfl dX9_worth_41 ?_
  refine V_eq fl_un ?_
  refine V_iload_4 (q := 44) C rfl dX9_worth_42 ?_
  refine V_iload_n_2 (q := 45) C rfl dX9_worth_44 ?_
  refine V_isub (q := 46) C rfl dX9_worth_45 ?_
  refine V_sipush (q := 49) (v := 10000) C (by decide) rfl dX9_worth_46 ?_
  refine V_iadd (q := 50) C rfl dX9_worth_49 ?_
  refine V_iret C hR dX9_worth_50 ?_
  exact ⟨_, rfl, by rw [fl_cg], _, rfl⟩

