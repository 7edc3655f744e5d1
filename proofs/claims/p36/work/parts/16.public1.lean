/-! the class: its public calls, a case each -/
def sel6 (w a0 a1 a2 a3 a4 a5 : Int32) : Int32 := if w = nI 0 then a0 else if w = nI 1 then a1 else if w = nI 2 then a2 else if w = nI 3 then a3 else if w = nI 4 then a4 else if w = nI 5 then a5 else -2
def sel4 (w a0 a1 a2 a3 : Int32) : Int32 := if w = nI 0 then a0 else if w = nI 1 then a1 else if w = nI 2 then a2 else if w = nI 3 then a3 else -2
def sel2 (w a0 a1 : Int32) : Int32 := if w = 0 then a0 else if w = 1 then a1 else -2
theorem setf_setf {σ : ST} {k i : Nat} {x y : Int32} : setf (setf σ k i x) k i y = setf σ k i y := by
  unfold setf
  rw [setc_setc, setc_s, upd_upd]
theorem le_of_lt31 {a : Int32} (h : ¬ a < 30) : 30 ≤ a := Int32.not_lt.mp h
theorem pl0_of {T : Nat} (h0 : 0 < T) (hT6 : T ≤ 6) : (0 : Int32) < nI T := nI_lt (a := 0) h0 (by omega)
theorem pl0_no {T : Nat} (h0 : T = 0) : ¬ (0 : Int32) < nI T := by subst h0; decide
def pl (Q : Int64 → ST → Prop) : Option Value → ST → Prop := fun v σ => ∃ r : Int64, v = some (.long r) ∧ Q r σ
def lostL : Int64 := -9223372036854775808

set_option maxHeartbeats 4000000 in
set_option maxRecDepth 100000 in
theorem c_X8_sheetOf {l : Launch} {D : DD} {ad : Nat → Nat} (σ : ST) (j : Nat) (hj : j < 4) : Ct l yX8_sheetOf cX8_sheetOf 2 (Option.some (FieldType.object "KeyOrchard$Sheet")) 0 0 D ad [.ref (ad 0), .int (nI j)] σ (ex (some (.ref (ad (2 + 2 * j)))) σ) := by
  refine Ct.of2 [.ref (ad 0), .int (nI j)] rfl (Nat.le_of_ble_eq_true rfl) rfl ?_
  rintro X C rfl rfl rfl hxn hR
  refine V_iload_n_1 (q := 1) C rfl dX8_sheetOf_0 ?_
  refine V_if_lt_f (tgt := 18) C (nI_pos (by omega)) rfl (by decide) dX8_sheetOf_1 ?_
  refine V_iload_n_1 (q := 5) C rfl dX8_sheetOf_4 ?_
  refine V_iconst (q := 6) (v := 4) C rfl rfl dX8_sheetOf_5 ?_
  refine V_icmp_ge_f (tgt := 18) C (nI_ge (b := 4) hj (by decide)) rfl (by decide) dX8_sheetOf_6 ?_
  refine V_aload_n_0 (q := 10) C rfl dX8_sheetOf_9 ?_
  refine gf_X8_13 (q := 13) C rfl dX8_sheetOf_10 ?_
  refine V_iload_n_1 (q := 14) C rfl dX8_sheetOf_13 ?_
  refine V_shald (q := 15) C j rfl hj rfl dX8_sheetOf_14 ?_
  refine V_goto (tgt := 19) C (by decide) dX8_sheetOf_15 ?_
  refine V_aret C hR (Or.inr ⟨_, rfl⟩) dX8_sheetOf_19 ?_
  exact ⟨rfl, rfl⟩

set_option maxHeartbeats 4000000 in
set_option maxRecDepth 100000 in
theorem c_X8_sheetOfN {l : Launch} {D : DD} {ad : Nat → Nat} (σ : ST) (k : Int32) (h : ¬ isT 4 k) : Ct l yX8_sheetOf cX8_sheetOf 2 (Option.some (FieldType.object "KeyOrchard$Sheet")) 0 0 D ad [.ref (ad 0), .int k] σ (ex (some .null) σ) := by
  refine Ct.of2 [.ref (ad 0), .int k] rfl (Nat.le_of_ble_eq_true rfl) rfl ?_
  rintro X C rfl rfl rfl hxn hR
  refine V_iload_n_1 (q := 1) C rfl dX8_sheetOf_0 ?_
  refine V_if_lt (tgt := 18) C rfl (by decide) dX8_sheetOf_1 (fun c1 => ?_) (fun c1 => ?_)
  · refine V_null (q := 19) C rfl dX8_sheetOf_18 ?_
    refine V_aret C hR (Or.inl rfl) dX8_sheetOf_19 ?_
    exact ⟨rfl, rfl⟩
  · refine V_iload_n_1 (q := 5) C rfl dX8_sheetOf_4 ?_
    refine V_iconst (q := 6) (v := 4) C rfl rfl dX8_sheetOf_5 ?_
    refine V_icmp_ge (tgt := 18) C rfl (by decide) dX8_sheetOf_6 (fun c6 => ?_) (fun c6 => ?_)
    · refine V_null (q := 19) C rfl dX8_sheetOf_18 ?_
      refine V_aret C hR (Or.inl rfl) dX8_sheetOf_19 ?_
      exact ⟨rfl, rfl⟩
    · exact absurd ⟨c1, c6⟩ h

set_option maxHeartbeats 4000000 in
set_option maxRecDepth 100000 in
theorem c_X8_faulted {l : Launch} {D : DD} {ad : Nat → Nat} (σ : ST) (w : Int32)  : Ct l yX8_faulted cX8_faulted 2 (Option.some FieldType.int) 0 0 D ad [.ref (ad 0), .int w] σ (ex (some (.int (-10 - w))) (setf σ 0 8 w)) := by
  refine Ct.of2 [.ref (ad 0), .int w] rfl (Nat.le_of_ble_eq_true rfl) rfl ?_
  rintro X C rfl rfl rfl hxn hR
  refine V_aload_n_0 (q := 1) C rfl dX8_faulted_0 ?_
  refine V_iload_n_1 (q := 2) C rfl dX8_faulted_1 ?_
  refine pf_X8_45 (q := 5) C rfl dX8_faulted_2 ?_
  refine V_bipush (q := 7) (v := (-10)) C (by decide) rfl dX8_faulted_5 ?_
  refine V_iload_n_1 (q := 8) C rfl dX8_faulted_7 ?_
  refine V_isub (q := 9) C rfl dX8_faulted_8 ?_
  refine V_iret C hR dX8_faulted_9 ?_
  exact ⟨rfl, rfl⟩

def paT (σ : ST) (T P C N : Nat) : ST := putS (prepF σ C) (daysC (prepF σ C) T P N (s0C σ))

set_option maxHeartbeats 4000000 in
set_option maxRecDepth 100000 in
theorem c_X8_passAsTold {l : Launch} {D : DD} {ad : Nat → Nat} (σ : ST) (T P C2 N : Nat) (ld : Int32) (hT : σ 12 0 = nI T) (hT6 : T ≤ 6) (hP : σ 12 1 = nI P) (hP6 : P ≤ 6) (hC : σ 21 5 = nI C2) (hC6 : C2 ≤ 6) (hcd : ∀ c, c < C2 → ∃ d : Nat, d < 30 ∧ σ 24 c = nI d) (hN : isLd ld N) : Ct l yX8_passAsTold cX8_passAsTold 2 (Option.none : Option FieldType) 5 111 D ad [.ref (ad 0), .int ld] σ (ex none (paT σ T P C2 N)) := by
  refine Ct.of2 [.ref (ad 0), .int ld] rfl (Nat.le_of_ble_eq_true rfl) rfl ?_
  rintro X C rfl rfl rfl hxn hR
  refine V_aload_n_0 (q := 1) C rfl dX8_passAsTold_0 ?_
  refine gf_X8_61 (q := 4) C rfl dX8_passAsTold_1 ?_
  refine V_aload_n_0 (q := 5) C rfl dX8_passAsTold_4 ?_
  refine gf_X8_27 (q := 8) C rfl dX8_passAsTold_5 ?_
  refine V_cV1v (q := 11) C (c_X4_prepare σ C2 hC hC6 hcd) cw_X4_prepare cv_X4_prepare wm_X8_195 (by decide) ob_X4 ⟨by decide, by decide⟩ (Nat.le_of_ble_eq_true rfl) rfl dX8_passAsTold_8 ?_
  refine V_aload_n_0 (q := 12) C rfl dX8_passAsTold_11 ?_
  refine gf_X8_61 (q := 15) C rfl dX8_passAsTold_12 ?_
  refine V_iload_n_1 (q := 16) C rfl dX8_passAsTold_15 ?_
  refine V_cV1v (q := 19) C (c_X4_pass (prepF σ C2) T P N ld hT hT6 hP hP6 hN) cw_X4_pass cv_X4_pass wm_X8_227 (by decide) ob_X4 ⟨by decide, by decide⟩ (Nat.le_of_ble_eq_true rfl) rfl dX8_passAsTold_16 ?_
  refine V_vret C hR dX8_passAsTold_19 ?_
  exact ⟨rfl, rfl⟩

set_option maxHeartbeats 4000000 in
set_option maxRecDepth 100000 in
theorem c_X8_ofTree_u {l : Launch} {D : DD} {ad : Nat → Nat} (σ : ST) (T : Nat) (t w : Int32) (hT : σ 12 0 = nI T) (h : ¬ isT (nI T) t) : Ct l yX8_ofTree cX8_ofTree 3 (Option.some FieldType.int) 1 22 D ad [.ref (ad 0), .int t, .int w] σ (ex (some (.int (-1))) σ) := by
  refine Ct.of2 [.ref (ad 0), .int t, .int w] rfl (Nat.le_of_ble_eq_true rfl) rfl ?_
  rintro X C rfl rfl rfl hxn hR
  refine V_aload_n_0 (q := 1) C rfl dX8_ofTree_0 ?_
  refine gf_X8_57 (q := 4) C rfl dX8_ofTree_1 ?_
  refine V_iload_n_1 (q := 5) C rfl dX8_ofTree_4 ?_
  refine V_cV1r (q := 8) C (Ct.mono (v' := some (.int (pI (isT (nI T) t)))) (c_X1_hasTree σ t) (by rw [show σ 12 0 = nI T from hT]) rfl) cw_X1_hasTree cv_X1_hasTree wm_X8_119 (by decide) ob_X1 ⟨by decide, by decide⟩ (Nat.le_of_ble_eq_true rfl) rfl dX8_ofTree_5 ?_
  refine V_ifp_ne_f (tgt := 13) C h rfl (by decide) dX8_ofTree_8 ?_
  refine V_iconst (q := 12) (v := (-1)) C rfl rfl dX8_ofTree_11 ?_
  refine V_iret C hR dX8_ofTree_12 ?_
  exact ⟨rfl, rfl⟩

theorem sel6_0 {a0 a1 a2 a3 a4 a5 : Int32} : sel6 (nI 0) a0 a1 a2 a3 a4 a5 = a0 := rfl
theorem sel6_1 {a0 a1 a2 a3 a4 a5 : Int32} : sel6 (nI 1) a0 a1 a2 a3 a4 a5 = a1 := rfl
theorem sel6_2 {a0 a1 a2 a3 a4 a5 : Int32} : sel6 (nI 2) a0 a1 a2 a3 a4 a5 = a2 := rfl
theorem sel6_3 {a0 a1 a2 a3 a4 a5 : Int32} : sel6 (nI 3) a0 a1 a2 a3 a4 a5 = a3 := rfl
theorem sel6_4 {a0 a1 a2 a3 a4 a5 : Int32} : sel6 (nI 4) a0 a1 a2 a3 a4 a5 = a4 := rfl
theorem sel6_5 {a0 a1 a2 a3 a4 a5 : Int32} : sel6 (nI 5) a0 a1 a2 a3 a4 a5 = a5 := rfl
theorem sel6_d {w a0 a1 a2 a3 a4 a5 : Int32} (h : ∀ j : Nat, j < 6 → ¬ w = nI j) : sel6 w a0 a1 a2 a3 a4 a5 = -2 := by
  unfold sel6
  rw [if_neg (h 0 (by decide)), if_neg (h 1 (by decide)), if_neg (h 2 (by decide)), if_neg (h 3 (by decide)), if_neg (h 4 (by decide)), if_neg (h 5 (by decide))]
theorem sel4_d {w a0 a1 a2 a3 : Int32} (h : ∀ j : Nat, j < 4 → ¬ w = nI j) : sel4 w a0 a1 a2 a3 = -2 := by
  unfold sel4
  rw [if_neg (h 0 (by decide)), if_neg (h 1 (by decide)), if_neg (h 2 (by decide)), if_neg (h 3 (by decide))]

set_option maxHeartbeats 4000000 in
set_option maxRecDepth 100000 in
theorem c_X8_ofTree_v {l : Launch} {D : DD} {ad : Nat → Nat} (σ : ST) (T j : Nat) (w : Int32) (hT : σ 12 0 = nI T) (hT6 : T ≤ 6) (hj : j < T) : Ct l yX8_ofTree cX8_ofTree 3 (Option.some FieldType.int) 1 22 D ad [.ref (ad 0), .int (nI j), .int w] σ (ex (some (.int (sel6 w (σ 13 j) (σ 14 j) (σ 15 j) (σ 16 j) (opensC (σ 13 j) (σ 14 j)) (pI (bit (σ 12 2) (nI j)))))) σ) := by
  refine Ct.of2 [.ref (ad 0), .int (nI j), .int w] rfl (Nat.le_of_ble_eq_true rfl) rfl ?_
  rintro X C rfl rfl rfl hxn hR
  refine V_aload_n_0 (q := 1) C rfl dX8_ofTree_0 ?_
  refine gf_X8_57 (q := 4) C rfl dX8_ofTree_1 ?_
  refine V_iload_n_1 (q := 5) C rfl dX8_ofTree_4 ?_
  refine V_cV1r (q := 8) C (Ct.mono (v' := some (.int (pI (isT (nI T) (nI j))))) (c_X1_hasTree σ (nI j)) (by rw [show σ 12 0 = nI T from hT]) rfl) cw_X1_hasTree cv_X1_hasTree wm_X8_119 (by decide) ob_X1 ⟨by decide, by decide⟩ (Nat.le_of_ble_eq_true rfl) rfl dX8_ofTree_5 ?_
  refine V_ifp_ne_t (tgt := 13) C (isT_nI hj (by omega)) (by decide) dX8_ofTree_8 ?_
  refine V_iload_n_2 (q := 14) C rfl dX8_ofTree_13 ?_
  refine V_tab (n := 6) (td := 121) C (fun j => ([52, 62, 72, 82, 92, 101] : List Nat).getD j 0) rfl (by decide) (fun j hj => by rcases (show j = 0 ∨ j = 1 ∨ j = 2 ∨ j = 3 ∨ j = 4 ∨ j = 5 by omega) with rfl | rfl | rfl | rfl | rfl | rfl <;> exact ⟨_, rfl, by decide⟩) (by decide) dX8_ofTree_14 (fun j hj c14 => ?_) (fun c14 => ?_)
  · rcases (show j = 0 ∨ j = 1 ∨ j = 2 ∨ j = 3 ∨ j = 4 ∨ j = 5 by omega) with rfl | rfl | rfl | rfl | rfl | rfl
    · show V X 52 _ _ _
      refine V_aload_n_0 (q := 53) C rfl dX8_ofTree_52 ?_
      refine gf_X8_57 (q := 56) C rfl dX8_ofTree_53 ?_
      refine gf_X8_122 (q := 59) C rfl dX8_ofTree_56 ?_
      refine V_iload_n_1 (q := 60) C rfl dX8_ofTree_59 ?_
      refine V_iald (q := 61) C _ rfl (by show _ < 6; omega) rfl (by decide) (by decide) rfl dX8_ofTree_60 ?_
      refine V_iret C hR dX8_ofTree_61 ?_
      first
      | (subst c14; exact ⟨rfl, rfl⟩)
      | (subst c14; exact ⟨by rw [sel6_5, pI_t c14], rfl⟩)
      | (subst c14; exact ⟨by rw [sel6_5, pI_f c14], rfl⟩)
      | exact ⟨by rw [sel6_d c14], rfl⟩
    · show V X 62 _ _ _
      refine V_aload_n_0 (q := 63) C rfl dX8_ofTree_62 ?_
      refine gf_X8_57 (q := 66) C rfl dX8_ofTree_63 ?_
      refine gf_X8_126 (q := 69) C rfl dX8_ofTree_66 ?_
      refine V_iload_n_1 (q := 70) C rfl dX8_ofTree_69 ?_
      refine V_iald (q := 71) C _ rfl (by show _ < 6; omega) rfl (by decide) (by decide) rfl dX8_ofTree_70 ?_
      refine V_iret C hR dX8_ofTree_71 ?_
      first
      | (subst c14; exact ⟨rfl, rfl⟩)
      | (subst c14; exact ⟨by rw [sel6_5, pI_t c14], rfl⟩)
      | (subst c14; exact ⟨by rw [sel6_5, pI_f c14], rfl⟩)
      | exact ⟨by rw [sel6_d c14], rfl⟩
    · show V X 72 _ _ _
      refine V_aload_n_0 (q := 73) C rfl dX8_ofTree_72 ?_
      refine gf_X8_57 (q := 76) C rfl dX8_ofTree_73 ?_
      refine gf_X8_129 (q := 79) C rfl dX8_ofTree_76 ?_
      refine V_iload_n_1 (q := 80) C rfl dX8_ofTree_79 ?_
      refine V_iald (q := 81) C _ rfl (by show _ < 6; omega) rfl (by decide) (by decide) rfl dX8_ofTree_80 ?_
      refine V_iret C hR dX8_ofTree_81 ?_
      first
      | (subst c14; exact ⟨rfl, rfl⟩)
      | (subst c14; exact ⟨by rw [sel6_5, pI_t c14], rfl⟩)
      | (subst c14; exact ⟨by rw [sel6_5, pI_f c14], rfl⟩)
      | exact ⟨by rw [sel6_d c14], rfl⟩
    · show V X 82 _ _ _
      refine V_aload_n_0 (q := 83) C rfl dX8_ofTree_82 ?_
      refine gf_X8_57 (q := 86) C rfl dX8_ofTree_83 ?_
      refine gf_X8_132 (q := 89) C rfl dX8_ofTree_86 ?_
      refine V_iload_n_1 (q := 90) C rfl dX8_ofTree_89 ?_
      refine V_iald (q := 91) C _ rfl (by show _ < 6; omega) rfl (by decide) (by decide) rfl dX8_ofTree_90 ?_
      refine V_iret C hR dX8_ofTree_91 ?_
      first
      | (subst c14; exact ⟨rfl, rfl⟩)
      | (subst c14; exact ⟨by rw [sel6_5, pI_t c14], rfl⟩)
      | (subst c14; exact ⟨by rw [sel6_5, pI_f c14], rfl⟩)
      | exact ⟨by rw [sel6_d c14], rfl⟩
    · show V X 92 _ _ _
      refine V_aload_n_0 (q := 93) C rfl dX8_ofTree_92 ?_
      refine gf_X8_57 (q := 96) C rfl dX8_ofTree_93 ?_
      refine V_iload_n_1 (q := 97) C rfl dX8_ofTree_96 ?_
      refine V_cV1r (q := 100) C (c_X1_locksOpenedBy σ j (by omega)) cw_X1_locksOpenedBy cv_X1_locksOpenedBy wm_X8_135 (by decide) ob_X1 ⟨by decide, by decide⟩ (Nat.le_of_ble_eq_true rfl) rfl dX8_ofTree_97 ?_
      refine V_iret C hR dX8_ofTree_100 ?_
      first
      | (subst c14; exact ⟨rfl, rfl⟩)
      | (subst c14; exact ⟨by rw [sel6_5, pI_t c14], rfl⟩)
      | (subst c14; exact ⟨by rw [sel6_5, pI_f c14], rfl⟩)
      | exact ⟨by rw [sel6_d c14], rfl⟩
    · show V X 101 _ _ _
      refine V_aload_n_0 (q := 102) C rfl dX8_ofTree_101 ?_
      refine gf_X8_57 (q := 105) C rfl dX8_ofTree_102 ?_
      refine gf_X8_138 (q := 108) C rfl dX8_ofTree_105 ?_
      refine V_iload_n_1 (q := 109) C rfl dX8_ofTree_108 ?_
      refine V_cS2r (q := 112) C (c_X8_isIn σ (σ 12 2) (nI j)) cw_X8_isIn cs_X8_isIn wm_X8_141 ⟨by decide, by decide⟩ (Nat.le_of_ble_eq_true rfl) rfl dX8_ofTree_109 ?_
      refine V_ifp_eq (tgt := 119) C rfl (by decide) dX8_ofTree_112 (fun c112 => ?_) (fun c112 => ?_)
      · refine V_iconst (q := 120) (v := 0) C rfl rfl dX8_ofTree_119 ?_
        refine V_iret C hR dX8_ofTree_120 ?_
        first
        | (subst c14; exact ⟨rfl, rfl⟩)
        | (subst c14; exact ⟨by rw [sel6_5, pI_t c112], rfl⟩)
        | (subst c14; exact ⟨by rw [sel6_5, pI_f c112], rfl⟩)
        | exact ⟨by rw [sel6_d c14], rfl⟩
      · refine V_iconst (q := 116) (v := 1) C rfl rfl dX8_ofTree_115 ?_
        refine V_goto (tgt := 120) C (by decide) dX8_ofTree_116 ?_
        refine V_iret C hR dX8_ofTree_120 ?_
        first
        | (subst c14; exact ⟨rfl, rfl⟩)
        | (subst c14; exact ⟨by rw [sel6_5, pI_t c112], rfl⟩)
        | (subst c14; exact ⟨by rw [sel6_5, pI_f c112], rfl⟩)
        | exact ⟨by rw [sel6_d c14], rfl⟩
  · refine V_bipush (q := 123) (v := (-2)) C (by decide) rfl dX8_ofTree_121 ?_
    refine V_iret C hR dX8_ofTree_123 ?_
    first
    | (subst c14; exact ⟨rfl, rfl⟩)
    | (subst c14; exact ⟨by rw [sel6_5, pI_t c14], rfl⟩)
    | (subst c14; exact ⟨by rw [sel6_5, pI_f c14], rfl⟩)
    | exact ⟨by rw [sel6_d c14], rfl⟩

set_option maxHeartbeats 4000000 in
set_option maxRecDepth 100000 in
theorem c_X8_ofPrisoner_u {l : Launch} {D : DD} {ad : Nat → Nat} (σ : ST) (P : Nat) (p w : Int32) (hP : σ 12 1 = nI P) (h : ¬ isT (nI P) p) : Ct l yX8_ofPrisoner cX8_ofPrisoner 3 (Option.some FieldType.int) 1 21 D ad [.ref (ad 0), .int p, .int w] σ (ex (some (.int (-1))) σ) := by
  refine Ct.of2 [.ref (ad 0), .int p, .int w] rfl (Nat.le_of_ble_eq_true rfl) rfl ?_
  rintro X C rfl rfl rfl hxn hR
  refine V_aload_n_0 (q := 1) C rfl dX8_ofPrisoner_0 ?_
  refine gf_X8_57 (q := 4) C rfl dX8_ofPrisoner_1 ?_
  refine V_iload_n_1 (q := 5) C rfl dX8_ofPrisoner_4 ?_
  refine V_cV1r (q := 8) C (Ct.mono (v' := some (.int (pI (isT (nI P) p)))) (c_X1_hasPrisoner σ p) (by rw [show σ 12 1 = nI P from hP]) rfl) cw_X1_hasPrisoner cv_X1_hasPrisoner wm_X8_144 (by decide) ob_X1 ⟨by decide, by decide⟩ (Nat.le_of_ble_eq_true rfl) rfl dX8_ofPrisoner_5 ?_
  refine V_ifp_ne_f (tgt := 13) C h rfl (by decide) dX8_ofPrisoner_8 ?_
  refine V_iconst (q := 12) (v := (-1)) C rfl rfl dX8_ofPrisoner_11 ?_
  refine V_iret C hR dX8_ofPrisoner_12 ?_
  exact ⟨rfl, rfl⟩

set_option maxHeartbeats 4000000 in
set_option maxRecDepth 100000 in
theorem c_X8_ofPrisoner_v {l : Launch} {D : DD} {ad : Nat → Nat} (σ : ST) (P j : Nat) (w : Int32) (hP : σ 12 1 = nI P) (hP6 : P ≤ 6) (hj : j < P) : Ct l yX8_ofPrisoner cX8_ofPrisoner 3 (Option.some FieldType.int) 1 21 D ad [.ref (ad 0), .int (nI j), .int w] σ (ex (some (.int (sel2 w (σ 18 j) (σ 19 j)))) σ) := by
  refine Ct.of2 [.ref (ad 0), .int (nI j), .int w] rfl (Nat.le_of_ble_eq_true rfl) rfl ?_
  rintro X C rfl rfl rfl hxn hR
  refine V_aload_n_0 (q := 1) C rfl dX8_ofPrisoner_0 ?_
  refine gf_X8_57 (q := 4) C rfl dX8_ofPrisoner_1 ?_
  refine V_iload_n_1 (q := 5) C rfl dX8_ofPrisoner_4 ?_
  refine V_cV1r (q := 8) C (Ct.mono (v' := some (.int (pI (isT (nI P) (nI j))))) (c_X1_hasPrisoner σ (nI j)) (by rw [show σ 12 1 = nI P from hP]) rfl) cw_X1_hasPrisoner cv_X1_hasPrisoner wm_X8_144 (by decide) ob_X1 ⟨by decide, by decide⟩ (Nat.le_of_ble_eq_true rfl) rfl dX8_ofPrisoner_5 ?_
  refine V_ifp_ne_t (tgt := 13) C (isT_nI hj (by omega)) (by decide) dX8_ofPrisoner_8 ?_
  refine V_iload_n_2 (q := 14) C rfl dX8_ofPrisoner_13 ?_
  refine V_look2 (va := 0) (vb := 1) (ta := 40) (tb := 50) (td := 60) C rfl rfl (by decide) (by decide) (by decide) (by decide) dX8_ofPrisoner_14 (fun c14 => ?_) (fun c14 => ?_) (fun c14 c15 => ?_)
  · refine V_aload_n_0 (q := 41) C rfl dX8_ofPrisoner_40 ?_
    refine gf_X8_57 (q := 44) C rfl dX8_ofPrisoner_41 ?_
    refine gf_X8_147 (q := 47) C rfl dX8_ofPrisoner_44 ?_
    refine V_iload_n_1 (q := 48) C rfl dX8_ofPrisoner_47 ?_
    refine V_iald (q := 49) C _ rfl (by show _ < 6; omega) rfl (by decide) (by decide) rfl dX8_ofPrisoner_48 ?_
    refine V_iret C hR dX8_ofPrisoner_49 ?_
    exact ⟨by simp [sel2, c14], rfl⟩
  · refine V_aload_n_0 (q := 51) C rfl dX8_ofPrisoner_50 ?_
    refine gf_X8_57 (q := 54) C rfl dX8_ofPrisoner_51 ?_
    refine gf_X8_150 (q := 57) C rfl dX8_ofPrisoner_54 ?_
    refine V_iload_n_1 (q := 58) C rfl dX8_ofPrisoner_57 ?_
    refine V_iald (q := 59) C _ rfl (by show _ < 6; omega) rfl (by decide) (by decide) rfl dX8_ofPrisoner_58 ?_
    refine V_iret C hR dX8_ofPrisoner_59 ?_
    exact ⟨by simp [sel2, c14], rfl⟩
  · refine V_bipush (q := 62) (v := (-2)) C (by decide) rfl dX8_ofPrisoner_60 ?_
    refine V_iret C hR dX8_ofPrisoner_62 ?_
    exact ⟨by simp [sel2, c14, c15], rfl⟩

set_option maxHeartbeats 4000000 in
set_option maxRecDepth 100000 in
theorem c_X8_rain_u {l : Launch} {D : DD} {ad : Nat → Nat} (σ : ST) (d v : Int32) (h : ¬ isT 30 d) : Ct l yX8_rain cX8_rain 4 (Option.some FieldType.int) 1 20 D ad [.ref (ad 0), .int d, .int v] σ (ex (some (.int (-1))) σ) := by
  refine Ct.of2 [.ref (ad 0), .int d, .int v, .float 0] rfl (Nat.le_of_ble_eq_true rfl) rfl ?_
  rintro X C rfl rfl rfl hxn hR
  refine V_iload_n_1 (q := 1) C rfl dX8_rain_0 ?_
  refine V_cS1r (q := 4) C (c_X8_isDay _ _) cw_X8_isDay cs_X8_isDay wm_X8_153 ⟨by decide, by decide⟩ (Nat.le_of_ble_eq_true rfl) rfl dX8_rain_1 ?_
  refine V_ifp_ne_f (tgt := 9) C h rfl (by decide) dX8_rain_4 ?_
  refine V_iconst (q := 8) (v := (-1)) C rfl rfl dX8_rain_7 ?_
  refine V_iret C hR dX8_rain_8 ?_
  exact ⟨rfl, rfl⟩

set_option maxHeartbeats 4000000 in
set_option maxRecDepth 100000 in
theorem c_X8_rain_o {l : Launch} {D : DD} {ad : Nat → Nat} (σ : ST) (d : Nat) (v : Int32) (hd : d < 30) (h : v < 0 ∨ 9 < v) : Ct l yX8_rain cX8_rain 4 (Option.some FieldType.int) 1 20 D ad [.ref (ad 0), .int (nI d), .int v] σ (ex (some (.int (-2))) σ) := by
  refine Ct.of2 [.ref (ad 0), .int (nI d), .int v, .float 0] rfl (Nat.le_of_ble_eq_true rfl) rfl ?_
  rintro X C rfl rfl rfl hxn hR
  refine V_iload_n_1 (q := 1) C rfl dX8_rain_0 ?_
  refine V_cS1r (q := 4) C (c_X8_isDay _ _) cw_X8_isDay cs_X8_isDay wm_X8_153 ⟨by decide, by decide⟩ (Nat.le_of_ble_eq_true rfl) rfl dX8_rain_1 ?_
  refine V_ifp_ne_t (tgt := 9) C (isT_nI (N := 30) hd (by decide)) (by decide) dX8_rain_4 ?_
  refine V_iload_n_2 (q := 10) C rfl dX8_rain_9 ?_
  refine V_if_lt (tgt := 19) C rfl (by decide) dX8_rain_10 (fun c10 => ?_) (fun c10 => ?_)
  · refine V_bipush (q := 21) (v := (-2)) C (by decide) rfl dX8_rain_19 ?_
    refine V_iret C hR dX8_rain_21 ?_
    exact ⟨rfl, rfl⟩
  · refine V_iload_n_2 (q := 14) C rfl dX8_rain_13 ?_
    refine V_bipush (q := 16) (v := 9) C (by decide) rfl dX8_rain_14 ?_
    refine V_icmp_le (tgt := 22) C rfl (by decide) dX8_rain_16 (fun c16 => ?_) (fun c16 => ?_)
    · exact absurd h (fun q => q.elim c10 (Int32.not_lt.mpr c16))
    · refine V_bipush (q := 21) (v := (-2)) C (by decide) rfl dX8_rain_19 ?_
      refine V_iret C hR dX8_rain_21 ?_
      exact ⟨rfl, rfl⟩

set_option maxHeartbeats 4000000 in
set_option maxRecDepth 100000 in
theorem c_X8_rain_s {l : Launch} {D : DD} {ad : Nat → Nat} (σ : ST) (d T : Nat) (v : Int32) (hd : d < 30) (h : ¬ (v < 0 ∨ 9 < v)) (hT : σ 12 0 = nI T) (h0 : T = 0) : Ct l yX8_rain cX8_rain 4 (Option.some FieldType.int) 1 20 D ad [.ref (ad 0), .int (nI d), .int v] σ (ex (some (.int (-3))) σ) := by
  refine Ct.of2 [.ref (ad 0), .int (nI d), .int v, .float 0] rfl (Nat.le_of_ble_eq_true rfl) rfl ?_
  rintro X C rfl rfl rfl hxn hR
  refine V_iload_n_1 (q := 1) C rfl dX8_rain_0 ?_
  refine V_cS1r (q := 4) C (c_X8_isDay _ _) cw_X8_isDay cs_X8_isDay wm_X8_153 ⟨by decide, by decide⟩ (Nat.le_of_ble_eq_true rfl) rfl dX8_rain_1 ?_
  refine V_ifp_ne_t (tgt := 9) C (isT_nI (N := 30) hd (by decide)) (by decide) dX8_rain_4 ?_
  refine V_iload_n_2 (q := 10) C rfl dX8_rain_9 ?_
  refine V_if_lt_f (tgt := 19) C (fun q => h (Or.inl q)) rfl (by decide) dX8_rain_10 ?_
  refine V_iload_n_2 (q := 14) C rfl dX8_rain_13 ?_
  refine V_bipush (q := 16) (v := 9) C (by decide) rfl dX8_rain_14 ?_
  refine V_icmp_le_t (tgt := 22) C (Int32.not_lt.mp (fun q => h (Or.inr q))) (by decide) dX8_rain_16 ?_
  refine V_aload_n_0 (q := 23) C rfl dX8_rain_22 ?_
  refine gf_X8_57 (q := 26) C rfl dX8_rain_23 ?_
  refine V_cV0r (q := 29) C (Ct.mono (v' := some (.int (pI (0 < nI T)))) (c_X1_isPlanted σ) (by rw [show σ 12 0 = nI T from hT]) rfl) cw_X1_isPlanted cv_X1_isPlanted wm_X8_156 (by decide) ob_X1 ⟨by decide, by decide⟩ (Nat.le_of_ble_eq_true rfl) rfl dX8_rain_26 ?_
  refine V_ifp_ne_f (tgt := 35) C (pl0_no h0) rfl (by decide) dX8_rain_29 ?_
  refine V_bipush (q := 34) (v := (-3)) C (by decide) rfl dX8_rain_32 ?_
  refine V_iret C hR dX8_rain_34 ?_
  exact ⟨rfl, rfl⟩

set_option maxHeartbeats 4000000 in
set_option maxRecDepth 100000 in
theorem c_X8_rain_v {l : Launch} {D : DD} {ad : Nat → Nat} (σ : ST) (d T : Nat) (v : Int32) (hd : d < 30) (h : ¬ (v < 0 ∨ 9 < v)) (hT : σ 12 0 = nI T) (hT6 : T ≤ 6) (h0 : 0 < T) : Ct l yX8_rain cX8_rain 4 (Option.some FieldType.int) 1 20 D ad [.ref (ad 0), .int (nI d), .int v] σ (ex (some (.int (σ 22 d))) (setf σ 22 d v)) := by
  refine Ct.of2 [.ref (ad 0), .int (nI d), .int v, .float 0] rfl (Nat.le_of_ble_eq_true rfl) rfl ?_
  rintro X C rfl rfl rfl hxn hR
  have hn3 : 3 < xn X := by rw [← hxn]; decide
  refine V_iload_n_1 (q := 1) C rfl dX8_rain_0 ?_
  refine V_cS1r (q := 4) C (c_X8_isDay _ _) cw_X8_isDay cs_X8_isDay wm_X8_153 ⟨by decide, by decide⟩ (Nat.le_of_ble_eq_true rfl) rfl dX8_rain_1 ?_
  refine V_ifp_ne_t (tgt := 9) C (isT_nI (N := 30) hd (by decide)) (by decide) dX8_rain_4 ?_
  refine V_iload_n_2 (q := 10) C rfl dX8_rain_9 ?_
  refine V_if_lt_f (tgt := 19) C (fun q => h (Or.inl q)) rfl (by decide) dX8_rain_10 ?_
  refine V_iload_n_2 (q := 14) C rfl dX8_rain_13 ?_
  refine V_bipush (q := 16) (v := 9) C (by decide) rfl dX8_rain_14 ?_
  refine V_icmp_le_t (tgt := 22) C (Int32.not_lt.mp (fun q => h (Or.inr q))) (by decide) dX8_rain_16 ?_
  refine V_aload_n_0 (q := 23) C rfl dX8_rain_22 ?_
  refine gf_X8_57 (q := 26) C rfl dX8_rain_23 ?_
  refine V_cV0r (q := 29) C (Ct.mono (v' := some (.int (pI (0 < nI T)))) (c_X1_isPlanted σ) (by rw [show σ 12 0 = nI T from hT]) rfl) cw_X1_isPlanted cv_X1_isPlanted wm_X8_156 (by decide) ob_X1 ⟨by decide, by decide⟩ (Nat.le_of_ble_eq_true rfl) rfl dX8_rain_26 ?_
  refine V_ifp_ne_t (tgt := 35) C (pl0_of h0 hT6) (by decide) dX8_rain_29 ?_
  refine V_aload_n_0 (q := 36) C rfl dX8_rain_35 ?_
  refine gf_X8_27 (q := 39) C rfl dX8_rain_36 ?_
  refine gf_X8_160 (q := 42) C rfl dX8_rain_39 ?_
  refine V_iload_n_1 (q := 43) C rfl dX8_rain_42 ?_
  refine V_iald (q := 44) C _ rfl (by show _ < 30; omega) rfl (by decide) (by decide) rfl dX8_rain_43 ?_
  refine V_istore_n_3 (q := 45) C hn3 rfl rfl dX8_rain_44 ?_
  refine V_aload_n_0 (q := 46) C rfl dX8_rain_45 ?_
  refine gf_X8_27 (q := 49) C rfl dX8_rain_46 ?_
  refine gf_X8_160 (q := 52) C rfl dX8_rain_49 ?_
  refine V_iload_n_1 (q := 53) C rfl dX8_rain_52 ?_
  refine V_iload_n_2 (q := 54) C rfl dX8_rain_53 ?_
  refine V_iast (q := 55) C _ rfl (by show _ < 30; omega) rfl (by decide) (by decide) rfl dX8_rain_54 ?_
  refine V_iload_n_3 (q := 56) C rfl dX8_rain_55 ?_
  refine V_iret C hR dX8_rain_56 ?_
  exact ⟨rfl, rfl⟩

set_option maxHeartbeats 4000000 in
set_option maxRecDepth 100000 in
theorem c_X8_water_u {l : Launch} {D : DD} {ad : Nat → Nat} (σ : ST) (T : Nat) (d t : Int32) (hT : σ 12 0 = nI T) (h : ¬ (isT 30 d ∧ (t = -9 ∨ isT (nI T) t))) : Ct l yX8_water cX8_water 4 (Option.some FieldType.int) 1 21 D ad [.ref (ad 0), .int d, .int t] σ (ex (some (.int (-1))) σ) := by
  refine Ct.of2 [.ref (ad 0), .int d, .int t, .float 0] rfl (Nat.le_of_ble_eq_true rfl) rfl ?_
  rintro X C rfl rfl rfl hxn hR
  refine V_iload_n_1 (q := 1) C rfl dX8_water_0 ?_
  refine V_cS1r (q := 4) C (c_X8_isDay _ _) cw_X8_isDay cs_X8_isDay wm_X8_153 ⟨by decide, by decide⟩ (Nat.le_of_ble_eq_true rfl) rfl dX8_water_1 ?_
  refine V_ifp_eq (tgt := 24) C rfl (by decide) dX8_water_4 (fun c4 => ?_) (fun c4 => ?_)
  · refine V_iconst (q := 25) (v := (-1)) C rfl rfl dX8_water_24 ?_
    refine V_iret C hR dX8_water_25 ?_
    exact ⟨rfl, rfl⟩
  · refine V_iload_n_2 (q := 8) C rfl dX8_water_7 ?_
    refine V_bipush (q := 10) (v := (-9)) C (by decide) rfl dX8_water_8 ?_
    refine V_icmp_eq (tgt := 26) C rfl (by decide) dX8_water_10 (fun c10 => ?_) (fun c10 => ?_)
    · exact absurd ⟨c4, Or.inl c10⟩ h
    · refine V_aload_n_0 (q := 14) C rfl dX8_water_13 ?_
      refine gf_X8_57 (q := 17) C rfl dX8_water_14 ?_
      refine V_iload_n_2 (q := 18) C rfl dX8_water_17 ?_
      refine V_cV1r (q := 21) C (Ct.mono (v' := some (.int (pI (isT (nI T) t)))) (c_X1_hasTree σ t) (by rw [show σ 12 0 = nI T from hT]) rfl) cw_X1_hasTree cv_X1_hasTree wm_X8_119 (by decide) ob_X1 ⟨by decide, by decide⟩ (Nat.le_of_ble_eq_true rfl) rfl dX8_water_18 ?_
      refine V_ifp_ne (tgt := 26) C rfl (by decide) dX8_water_21 (fun c21 => ?_) (fun c21 => ?_)
      · exact absurd ⟨c4, Or.inr c21⟩ h
      · refine V_iconst (q := 25) (v := (-1)) C rfl rfl dX8_water_24 ?_
        refine V_iret C hR dX8_water_25 ?_
        exact ⟨rfl, rfl⟩

set_option maxHeartbeats 4000000 in
set_option maxRecDepth 100000 in
theorem c_X8_water_s {l : Launch} {D : DD} {ad : Nat → Nat} (σ : ST) (T d : Nat) (hd : d < 30) (hT : σ 12 0 = nI T) (h0 : T = 0) : Ct l yX8_water cX8_water 4 (Option.some FieldType.int) 1 21 D ad [.ref (ad 0), .int (nI d), .int (-9)] σ (ex (some (.int (-3))) σ) := by
  refine Ct.of2 [.ref (ad 0), .int (nI d), .int (-9), .float 0] rfl (Nat.le_of_ble_eq_true rfl) rfl ?_
  rintro X C rfl rfl rfl hxn hR
  refine V_iload_n_1 (q := 1) C rfl dX8_water_0 ?_
  refine V_cS1r (q := 4) C (c_X8_isDay _ _) cw_X8_isDay cs_X8_isDay wm_X8_153 ⟨by decide, by decide⟩ (Nat.le_of_ble_eq_true rfl) rfl dX8_water_1 ?_
  refine V_ifp_eq_f (tgt := 24) C (isT_nI (N := 30) hd (by decide)) rfl (by decide) dX8_water_4 ?_
  refine V_iload_n_2 (q := 8) C rfl dX8_water_7 ?_
  refine V_bipush (q := 10) (v := (-9)) C (by decide) rfl dX8_water_8 ?_
  refine V_icmp_eq_t (tgt := 26) C rfl (by decide) dX8_water_10 ?_
  refine V_aload_n_0 (q := 27) C rfl dX8_water_26 ?_
  refine gf_X8_57 (q := 30) C rfl dX8_water_27 ?_
  refine V_cV0r (q := 33) C (Ct.mono (v' := some (.int (pI (0 < nI T)))) (c_X1_isPlanted σ) (by rw [show σ 12 0 = nI T from hT]) rfl) cw_X1_isPlanted cv_X1_isPlanted wm_X8_156 (by decide) ob_X1 ⟨by decide, by decide⟩ (Nat.le_of_ble_eq_true rfl) rfl dX8_water_30 ?_
  refine V_ifp_ne_f (tgt := 39) C (pl0_no h0) rfl (by decide) dX8_water_33 ?_
  refine V_bipush (q := 38) (v := (-3)) C (by decide) rfl dX8_water_36 ?_
  refine V_iret C hR dX8_water_38 ?_
  exact ⟨rfl, rfl⟩

set_option maxHeartbeats 4000000 in
set_option maxRecDepth 100000 in
theorem c_X8_water_v {l : Launch} {D : DD} {ad : Nat → Nat} (σ : ST) (T d : Nat) (t : Int32) (hd : d < 30) (hT : σ 12 0 = nI T) (hT6 : T ≤ 6) (h0 : 0 < T) (ht : t = -9 ∨ isT (nI T) t) : Ct l yX8_water cX8_water 4 (Option.some FieldType.int) 1 21 D ad [.ref (ad 0), .int (nI d), .int t] σ (ex (some (.int (σ 23 d))) (setf σ 23 d t)) := by
  refine Ct.of2 [.ref (ad 0), .int (nI d), .int t, .float 0] rfl (Nat.le_of_ble_eq_true rfl) rfl ?_
  rintro X C rfl rfl rfl hxn hR
  have hn3 : 3 < xn X := by rw [← hxn]; decide
  refine V_iload_n_1 (q := 1) C rfl dX8_water_0 ?_
  refine V_cS1r (q := 4) C (c_X8_isDay _ _) cw_X8_isDay cs_X8_isDay wm_X8_153 ⟨by decide, by decide⟩ (Nat.le_of_ble_eq_true rfl) rfl dX8_water_1 ?_
  refine V_ifp_eq_f (tgt := 24) C (isT_nI (N := 30) hd (by decide)) rfl (by decide) dX8_water_4 ?_
  refine V_iload_n_2 (q := 8) C rfl dX8_water_7 ?_
  refine V_bipush (q := 10) (v := (-9)) C (by decide) rfl dX8_water_8 ?_
  refine V_icmp_eq (tgt := 26) C rfl (by decide) dX8_water_10 (fun c10 => ?_) (fun c10 => ?_)
  · refine V_aload_n_0 (q := 27) C rfl dX8_water_26 ?_
    refine gf_X8_57 (q := 30) C rfl dX8_water_27 ?_
    refine V_cV0r (q := 33) C (Ct.mono (v' := some (.int (pI (0 < nI T)))) (c_X1_isPlanted σ) (by rw [show σ 12 0 = nI T from hT]) rfl) cw_X1_isPlanted cv_X1_isPlanted wm_X8_156 (by decide) ob_X1 ⟨by decide, by decide⟩ (Nat.le_of_ble_eq_true rfl) rfl dX8_water_30 ?_
    refine V_ifp_ne_t (tgt := 39) C (pl0_of h0 hT6) (by decide) dX8_water_33 ?_
    refine V_aload_n_0 (q := 40) C rfl dX8_water_39 ?_
    refine gf_X8_27 (q := 43) C rfl dX8_water_40 ?_
    refine gf_X8_163 (q := 46) C rfl dX8_water_43 ?_
    refine V_iload_n_1 (q := 47) C rfl dX8_water_46 ?_
    refine V_iald (q := 48) C _ rfl (by show _ < 30; omega) rfl (by decide) (by decide) rfl dX8_water_47 ?_
    refine V_istore_n_3 (q := 49) C hn3 rfl rfl dX8_water_48 ?_
    refine V_aload_n_0 (q := 50) C rfl dX8_water_49 ?_
    refine gf_X8_27 (q := 53) C rfl dX8_water_50 ?_
    refine gf_X8_163 (q := 56) C rfl dX8_water_53 ?_
    refine V_iload_n_1 (q := 57) C rfl dX8_water_56 ?_
    refine V_iload_n_2 (q := 58) C rfl dX8_water_57 ?_
    refine V_iast (q := 59) C _ rfl (by show _ < 30; omega) rfl (by decide) (by decide) rfl dX8_water_58 ?_
    refine V_iload_n_3 (q := 60) C rfl dX8_water_59 ?_
    refine V_iret C hR dX8_water_60 ?_
    exact ⟨rfl, rfl⟩
  · refine V_aload_n_0 (q := 14) C rfl dX8_water_13 ?_
    refine gf_X8_57 (q := 17) C rfl dX8_water_14 ?_
    refine V_iload_n_2 (q := 18) C rfl dX8_water_17 ?_
    refine V_cV1r (q := 21) C (Ct.mono (v' := some (.int (pI (isT (nI T) t)))) (c_X1_hasTree σ t) (by rw [show σ 12 0 = nI T from hT]) rfl) cw_X1_hasTree cv_X1_hasTree wm_X8_119 (by decide) ob_X1 ⟨by decide, by decide⟩ (Nat.le_of_ble_eq_true rfl) rfl dX8_water_18 ?_
    refine V_ifp_ne_t (tgt := 26) C (ht.elim (fun q => absurd q c10) id) (by decide) dX8_water_21 ?_
    refine V_aload_n_0 (q := 27) C rfl dX8_water_26 ?_
    refine gf_X8_57 (q := 30) C rfl dX8_water_27 ?_
    refine V_cV0r (q := 33) C (Ct.mono (v' := some (.int (pI (0 < nI T)))) (c_X1_isPlanted σ) (by rw [show σ 12 0 = nI T from hT]) rfl) cw_X1_isPlanted cv_X1_isPlanted wm_X8_156 (by decide) ob_X1 ⟨by decide, by decide⟩ (Nat.le_of_ble_eq_true rfl) rfl dX8_water_30 ?_
    refine V_ifp_ne_t (tgt := 39) C (pl0_of h0 hT6) (by decide) dX8_water_33 ?_
    refine V_aload_n_0 (q := 40) C rfl dX8_water_39 ?_
    refine gf_X8_27 (q := 43) C rfl dX8_water_40 ?_
    refine gf_X8_163 (q := 46) C rfl dX8_water_43 ?_
    refine V_iload_n_1 (q := 47) C rfl dX8_water_46 ?_
    refine V_iald (q := 48) C _ rfl (by show _ < 30; omega) rfl (by decide) (by decide) rfl dX8_water_47 ?_
    refine V_istore_n_3 (q := 49) C hn3 rfl rfl dX8_water_48 ?_
    refine V_aload_n_0 (q := 50) C rfl dX8_water_49 ?_
    refine gf_X8_27 (q := 53) C rfl dX8_water_50 ?_
    refine gf_X8_163 (q := 56) C rfl dX8_water_53 ?_
    refine V_iload_n_1 (q := 57) C rfl dX8_water_56 ?_
    refine V_iload_n_2 (q := 58) C rfl dX8_water_57 ?_
    refine V_iast (q := 59) C _ rfl (by show _ < 30; omega) rfl (by decide) (by decide) rfl dX8_water_58 ?_
    refine V_iload_n_3 (q := 60) C rfl dX8_water_59 ?_
    refine V_iret C hR dX8_water_60 ?_
    exact ⟨rfl, rfl⟩

set_option maxHeartbeats 4000000 in
set_option maxRecDepth 100000 in
theorem c_X8_frost_u {l : Launch} {D : DD} {ad : Nat → Nat} (σ : ST) (d b : Int32) (h : ¬ isT 30 d) : Ct l yX8_frost cX8_frost 3 (Option.some FieldType.int) 1 21 D ad [.ref (ad 0), .int d, .int b] σ (ex (some (.int (-1))) σ) := by
  refine Ct.of2 [.ref (ad 0), .int d, .int b] rfl (Nat.le_of_ble_eq_true rfl) rfl ?_
  rintro X C rfl rfl rfl hxn hR
  refine V_iload_n_1 (q := 1) C rfl dX8_frost_0 ?_
  refine V_cS1r (q := 4) C (c_X8_isDay _ _) cw_X8_isDay cs_X8_isDay wm_X8_153 ⟨by decide, by decide⟩ (Nat.le_of_ble_eq_true rfl) rfl dX8_frost_1 ?_
  refine V_ifp_ne_f (tgt := 9) C h rfl (by decide) dX8_frost_4 ?_
  refine V_iconst (q := 8) (v := (-1)) C rfl rfl dX8_frost_7 ?_
  refine V_iret C hR dX8_frost_8 ?_
  exact ⟨rfl, rfl⟩

set_option maxHeartbeats 4000000 in
set_option maxRecDepth 100000 in
theorem c_X8_frost_s {l : Launch} {D : DD} {ad : Nat → Nat} (σ : ST) (d T : Nat) (b : Int32) (hd : d < 30) (hT : σ 12 0 = nI T) (h0 : T = 0) : Ct l yX8_frost cX8_frost 3 (Option.some FieldType.int) 1 21 D ad [.ref (ad 0), .int (nI d), .int b] σ (ex (some (.int (-3))) σ) := by
  refine Ct.of2 [.ref (ad 0), .int (nI d), .int b] rfl (Nat.le_of_ble_eq_true rfl) rfl ?_
  rintro X C rfl rfl rfl hxn hR
  refine V_iload_n_1 (q := 1) C rfl dX8_frost_0 ?_
  refine V_cS1r (q := 4) C (c_X8_isDay _ _) cw_X8_isDay cs_X8_isDay wm_X8_153 ⟨by decide, by decide⟩ (Nat.le_of_ble_eq_true rfl) rfl dX8_frost_1 ?_
  refine V_ifp_ne_t (tgt := 9) C (isT_nI (N := 30) hd (by decide)) (by decide) dX8_frost_4 ?_
  refine V_aload_n_0 (q := 10) C rfl dX8_frost_9 ?_
  refine gf_X8_57 (q := 13) C rfl dX8_frost_10 ?_
  refine V_cV0r (q := 16) C (Ct.mono (v' := some (.int (pI (0 < nI T)))) (c_X1_isPlanted σ) (by rw [show σ 12 0 = nI T from hT]) rfl) cw_X1_isPlanted cv_X1_isPlanted wm_X8_156 (by decide) ob_X1 ⟨by decide, by decide⟩ (Nat.le_of_ble_eq_true rfl) rfl dX8_frost_13 ?_
  refine V_ifp_ne_f (tgt := 22) C (pl0_no h0) rfl (by decide) dX8_frost_16 ?_
  refine V_bipush (q := 21) (v := (-3)) C (by decide) rfl dX8_frost_19 ?_
  refine V_iret C hR dX8_frost_21 ?_
  exact ⟨rfl, rfl⟩

def frF (σ : ST) (d : Nat) (b : Int32) : Int32 × ST := if pI (bit (σ 21 4) (nI d)) = b then (0, σ) else (1, setf σ 21 4 (σ 21 4 ^^^ own1 (nI d)))

set_option maxHeartbeats 4000000 in
set_option maxRecDepth 100000 in
theorem c_X8_frost_v {l : Launch} {D : DD} {ad : Nat → Nat} (σ : ST) (d T : Nat) (b : Int32) (hd : d < 30) (hT : σ 12 0 = nI T) (hT6 : T ≤ 6) (h0 : 0 < T) : Ct l yX8_frost cX8_frost 3 (Option.some FieldType.int) 1 21 D ad [.ref (ad 0), .int (nI d), .int b] σ (ex (some (.int (frF σ d b).1)) (frF σ d b).2) := by
  refine Ct.of2 [.ref (ad 0), .int (nI d), .int b] rfl (Nat.le_of_ble_eq_true rfl) rfl ?_
  rintro X C rfl rfl rfl hxn hR
  refine V_iload_n_1 (q := 1) C rfl dX8_frost_0 ?_
  refine V_cS1r (q := 4) C (c_X8_isDay _ _) cw_X8_isDay cs_X8_isDay wm_X8_153 ⟨by decide, by decide⟩ (Nat.le_of_ble_eq_true rfl) rfl dX8_frost_1 ?_
  refine V_ifp_ne_t (tgt := 9) C (isT_nI (N := 30) hd (by decide)) (by decide) dX8_frost_4 ?_
  refine V_aload_n_0 (q := 10) C rfl dX8_frost_9 ?_
  refine gf_X8_57 (q := 13) C rfl dX8_frost_10 ?_
  refine V_cV0r (q := 16) C (Ct.mono (v' := some (.int (pI (0 < nI T)))) (c_X1_isPlanted σ) (by rw [show σ 12 0 = nI T from hT]) rfl) cw_X1_isPlanted cv_X1_isPlanted wm_X8_156 (by decide) ob_X1 ⟨by decide, by decide⟩ (Nat.le_of_ble_eq_true rfl) rfl dX8_frost_13 ?_
  refine V_ifp_ne_t (tgt := 22) C (pl0_of h0 hT6) (by decide) dX8_frost_16 ?_
  refine V_aload_n_0 (q := 23) C rfl dX8_frost_22 ?_
  refine gf_X8_27 (q := 26) C rfl dX8_frost_23 ?_
  refine gf_X8_166 (q := 29) C rfl dX8_frost_26 ?_
  refine V_iload_n_1 (q := 30) C rfl dX8_frost_29 ?_
  refine V_cS2r (q := 33) C (c_X8_isIn _ _ _) cw_X8_isIn cs_X8_isIn wm_X8_141 ⟨by decide, by decide⟩ (Nat.le_of_ble_eq_true rfl) rfl dX8_frost_30 ?_
  refine V_iload_n_2 (q := 34) C rfl dX8_frost_33 ?_
  refine V_icmp_ne (tgt := 39) C rfl (by decide) dX8_frost_34 (fun c34 => ?_) (fun c34 => ?_)
  · refine V_aload_n_0 (q := 40) C rfl dX8_frost_39 ?_
    refine gf_X8_27 (q := 43) C rfl dX8_frost_40 ?_
    refine V_dup (q := 44) C rfl rfl dX8_frost_43 ?_
    refine gf_X8_166 (q := 47) C rfl dX8_frost_44 ?_
    refine V_iconst (q := 48) (v := 1) C rfl rfl dX8_frost_47 ?_
    refine V_iload_n_1 (q := 49) C rfl dX8_frost_48 ?_
    refine V_ishl (q := 50) C rfl dX8_frost_49 ?_
    refine V_ixor (q := 51) C rfl dX8_frost_50 ?_
    refine pf_X8_166 (q := 54) C rfl dX8_frost_51 ?_
    refine V_iconst (q := 55) (v := 1) C rfl rfl dX8_frost_54 ?_
    refine V_iret C hR dX8_frost_55 ?_
    refine ⟨by unfold frF; rw [if_neg c34], ?_⟩
    unfold frF
    rw [if_neg c34]
    try rfl
  · refine V_iconst (q := 38) (v := 0) C rfl rfl dX8_frost_37 ?_
    refine V_iret C hR dX8_frost_38 ?_
    refine ⟨by unfold frF; rw [if_pos c34], ?_⟩
    unfold frF
    rw [if_pos c34]
    try rfl

set_option maxHeartbeats 4000000 in
set_option maxRecDepth 100000 in
theorem c_X8_crow_u {l : Launch} {D : DD} {ad : Nat → Nat} (σ : ST) (T : Nat) (d t : Int32) (hT : σ 12 0 = nI T) (h : ¬ (isT 30 d ∧ isT (nI T) t)) : Ct l yX8_crow cX8_crow 3 (Option.some FieldType.int) 1 22 D ad [.ref (ad 0), .int d, .int t] σ (ex (some (.int (-1))) σ) := by
  refine Ct.of2 [.ref (ad 0), .int d, .int t] rfl (Nat.le_of_ble_eq_true rfl) rfl ?_
  rintro X C rfl rfl rfl hxn hR
  refine V_iload_n_1 (q := 1) C rfl dX8_crow_0 ?_
  refine V_cS1r (q := 4) C (c_X8_isDay _ _) cw_X8_isDay cs_X8_isDay wm_X8_153 ⟨by decide, by decide⟩ (Nat.le_of_ble_eq_true rfl) rfl dX8_crow_1 ?_
  refine V_ifp_eq (tgt := 18) C rfl (by decide) dX8_crow_4 (fun c4 => ?_) (fun c4 => ?_)
  · refine V_iconst (q := 19) (v := (-1)) C rfl rfl dX8_crow_18 ?_
    refine V_iret C hR dX8_crow_19 ?_
    exact ⟨rfl, rfl⟩
  · refine V_aload_n_0 (q := 8) C rfl dX8_crow_7 ?_
    refine gf_X8_57 (q := 11) C rfl dX8_crow_8 ?_
    refine V_iload_n_2 (q := 12) C rfl dX8_crow_11 ?_
    refine V_cV1r (q := 15) C (Ct.mono (v' := some (.int (pI (isT (nI T) t)))) (c_X1_hasTree σ t) (by rw [show σ 12 0 = nI T from hT]) rfl) cw_X1_hasTree cv_X1_hasTree wm_X8_119 (by decide) ob_X1 ⟨by decide, by decide⟩ (Nat.le_of_ble_eq_true rfl) rfl dX8_crow_12 ?_
    refine V_ifp_ne (tgt := 20) C rfl (by decide) dX8_crow_15 (fun c15 => ?_) (fun c15 => ?_)
    · exact absurd ⟨c4, c15⟩ h
    · refine V_iconst (q := 19) (v := (-1)) C rfl rfl dX8_crow_18 ?_
      refine V_iret C hR dX8_crow_19 ?_
      exact ⟨rfl, rfl⟩

set_option maxHeartbeats 4000000 in
set_option maxRecDepth 100000 in
theorem c_X8_crow_f {l : Launch} {D : DD} {ad : Nat → Nat} (σ : ST) (T d j : Nat) (hd : d < 30) (hT : σ 12 0 = nI T) (hT6 : T ≤ 6) (hj : j < T) (hC : σ 21 5 = nI 6) : Ct l yX8_crow cX8_crow 3 (Option.some FieldType.int) 1 22 D ad [.ref (ad 0), .int (nI d), .int (nI j)] σ (ex (some (.int (-4))) σ) := by
  refine Ct.of2 [.ref (ad 0), .int (nI d), .int (nI j)] rfl (Nat.le_of_ble_eq_true rfl) rfl ?_
  rintro X C rfl rfl rfl hxn hR
  refine V_iload_n_1 (q := 1) C rfl dX8_crow_0 ?_
  refine V_cS1r (q := 4) C (c_X8_isDay _ _) cw_X8_isDay cs_X8_isDay wm_X8_153 ⟨by decide, by decide⟩ (Nat.le_of_ble_eq_true rfl) rfl dX8_crow_1 ?_
  refine V_ifp_eq_f (tgt := 18) C (isT_nI (N := 30) hd (by decide)) rfl (by decide) dX8_crow_4 ?_
  refine V_aload_n_0 (q := 8) C rfl dX8_crow_7 ?_
  refine gf_X8_57 (q := 11) C rfl dX8_crow_8 ?_
  refine V_iload_n_2 (q := 12) C rfl dX8_crow_11 ?_
  refine V_cV1r (q := 15) C (Ct.mono (v' := some (.int (pI (isT (nI T) (nI j))))) (c_X1_hasTree σ (nI j)) (by rw [show σ 12 0 = nI T from hT]) rfl) cw_X1_hasTree cv_X1_hasTree wm_X8_119 (by decide) ob_X1 ⟨by decide, by decide⟩ (Nat.le_of_ble_eq_true rfl) rfl dX8_crow_12 ?_
  refine V_ifp_ne_t (tgt := 20) C (isT_nI hj (by omega)) (by decide) dX8_crow_15 ?_
  refine V_aload_n_0 (q := 21) C rfl dX8_crow_20 ?_
  refine gf_X8_27 (q := 24) C rfl dX8_crow_21 ?_
  refine gf_X8_169 (q := 27) C rfl dX8_crow_24 ?_
  refine V_bipush (q := 29) (v := 6) C (by decide) rfl dX8_crow_27 ?_
  refine V_icmp_lt_f (tgt := 35) C (by rw [hC]; decide) rfl (by decide) dX8_crow_29 ?_
  refine V_bipush (q := 34) (v := (-4)) C (by decide) rfl dX8_crow_32 ?_
  refine V_iret C hR dX8_crow_34 ?_
  exact ⟨rfl, rfl⟩

set_option maxHeartbeats 4000000 in
set_option maxRecDepth 100000 in
theorem c_X8_crow_v {l : Launch} {D : DD} {ad : Nat → Nat} (σ : ST) (T d j C2 : Nat) (hd : d < 30) (hT : σ 12 0 = nI T) (hT6 : T ≤ 6) (hj : j < T) (hC : σ 21 5 = nI C2) (hC6 : C2 < 6) : Ct l yX8_crow cX8_crow 3 (Option.some FieldType.int) 1 22 D ad [.ref (ad 0), .int (nI d), .int (nI j)] σ (ex (some (.int (nI C2))) (setf (setf (setf σ 24 C2 (nI d)) 25 C2 (nI j)) 21 5 (nI (C2 + 1)))) := by
  refine Ct.of2 [.ref (ad 0), .int (nI d), .int (nI j)] rfl (Nat.le_of_ble_eq_true rfl) rfl ?_
  rintro X C rfl rfl rfl hxn hR
  refine V_iload_n_1 (q := 1) C rfl dX8_crow_0 ?_
  refine V_cS1r (q := 4) C (c_X8_isDay _ _) cw_X8_isDay cs_X8_isDay wm_X8_153 ⟨by decide, by decide⟩ (Nat.le_of_ble_eq_true rfl) rfl dX8_crow_1 ?_
  refine V_ifp_eq_f (tgt := 18) C (isT_nI (N := 30) hd (by decide)) rfl (by decide) dX8_crow_4 ?_
  refine V_aload_n_0 (q := 8) C rfl dX8_crow_7 ?_
  refine gf_X8_57 (q := 11) C rfl dX8_crow_8 ?_
  refine V_iload_n_2 (q := 12) C rfl dX8_crow_11 ?_
  refine V_cV1r (q := 15) C (Ct.mono (v' := some (.int (pI (isT (nI T) (nI j))))) (c_X1_hasTree σ (nI j)) (by rw [show σ 12 0 = nI T from hT]) rfl) cw_X1_hasTree cv_X1_hasTree wm_X8_119 (by decide) ob_X1 ⟨by decide, by decide⟩ (Nat.le_of_ble_eq_true rfl) rfl dX8_crow_12 ?_
  refine V_ifp_ne_t (tgt := 20) C (isT_nI hj (by omega)) (by decide) dX8_crow_15 ?_
  refine V_aload_n_0 (q := 21) C rfl dX8_crow_20 ?_
  refine gf_X8_27 (q := 24) C rfl dX8_crow_21 ?_
  refine gf_X8_169 (q := 27) C rfl dX8_crow_24 ?_
  refine V_bipush (q := 29) (v := 6) C (by decide) rfl dX8_crow_27 ?_
  refine V_icmp_lt_t (tgt := 35) C (by rw [hC]; exact nI_lt (b := 6) hC6 (by decide)) (by decide) dX8_crow_29 ?_
  refine V_aload_n_0 (q := 36) C rfl dX8_crow_35 ?_
  refine gf_X8_27 (q := 39) C rfl dX8_crow_36 ?_
  refine V_iload_n_1 (q := 40) C rfl dX8_crow_39 ?_
  refine V_iload_n_2 (q := 41) C rfl dX8_crow_40 ?_
  refine V_cV2r (q := 44) C (Ct.mono (v' := some (.int (nI C2))) (τ' := setf (setf (setf σ 24 C2 (nI d)) 25 C2 (nI j)) 21 5 (nI (C2 + 1))) (c_X7_addCrow σ (nI d) (nI j) C2 hC hC6) (by rw [hC, show nI C2 + 1 = nI (C2 + 1) from nI_1 C2, show nI (C2 + 1) - 1 = nI (C2 + 1 - 1) from pk_sub (b := 1) (by omega)]; rfl) (by rw [hC, show nI C2 + 1 = nI (C2 + 1) from nI_1 C2])) cw_X7_addCrow cv_X7_addCrow wm_X8_172 (by decide) ob_X7 ⟨by decide, by decide⟩ (Nat.le_of_ble_eq_true rfl) rfl dX8_crow_41 ?_
  refine V_iret C hR dX8_crow_44 ?_
  exact ⟨rfl, rfl⟩

set_option maxHeartbeats 4000000 in
set_option maxRecDepth 100000 in
theorem c_X8_shoo_o {l : Launch} {D : DD} {ad : Nat → Nat} (σ : ST) (C2 : Nat) (k : Int32) (hC : σ 21 5 = nI C2) (hC8 : C2 ≤ 8) (h : ¬ (¬ k < 0 ∧ ¬ nI C2 < k)) : Ct l yX8_shoo cX8_shoo 2 (Option.some FieldType.int) 0 0 D ad [.ref (ad 0), .int k] σ (ex (some (.int (-2))) σ) := by
  refine Ct.of2 [.ref (ad 0), .int k] rfl (Nat.le_of_ble_eq_true rfl) rfl ?_
  rintro X C rfl rfl rfl hxn hR
  refine V_iload_n_1 (q := 1) C rfl dX8_shoo_0 ?_
  refine V_if_lt (tgt := 15) C rfl (by decide) dX8_shoo_1 (fun c1 => ?_) (fun c1 => ?_)
  · refine V_bipush (q := 17) (v := (-2)) C (by decide) rfl dX8_shoo_15 ?_
    refine V_iret C hR dX8_shoo_17 ?_
    exact ⟨rfl, rfl⟩
  · refine V_iload_n_1 (q := 5) C rfl dX8_shoo_4 ?_
    refine V_aload_n_0 (q := 6) C rfl dX8_shoo_5 ?_
    refine gf_X8_27 (q := 9) C rfl dX8_shoo_6 ?_
    refine gf_X8_169 (q := 12) C rfl dX8_shoo_9 ?_
    rw [hC]
    refine V_icmp_le (tgt := 18) C rfl (by decide) dX8_shoo_12 (fun c12 => ?_) (fun c12 => ?_)
    · exact absurd ⟨c1, Int32.not_lt.mpr c12⟩ h
    · refine V_bipush (q := 17) (v := (-2)) C (by decide) rfl dX8_shoo_15 ?_
      refine V_iret C hR dX8_shoo_17 ?_
      exact ⟨rfl, rfl⟩

set_option maxHeartbeats 4000000 in
set_option maxRecDepth 100000 in
theorem c_X8_shoo_v {l : Launch} {D : DD} {ad : Nat → Nat} (σ : ST) (C2 j : Nat) (hC : σ 21 5 = nI C2) (hC8 : C2 ≤ 8) (hj : j ≤ C2) : Ct l yX8_shoo cX8_shoo 2 (Option.some FieldType.int) 0 0 D ad [.ref (ad 0), .int (nI j)] σ (ex (some (.int (nI (C2 - j)))) (setf σ 21 5 (nI (C2 - j)))) := by
  refine Ct.of2 [.ref (ad 0), .int (nI j)] rfl (Nat.le_of_ble_eq_true rfl) rfl ?_
  rintro X C rfl rfl rfl hxn hR
  refine V_iload_n_1 (q := 1) C rfl dX8_shoo_0 ?_
  refine V_if_lt_f (tgt := 15) C (nI_pos (by omega)) rfl (by decide) dX8_shoo_1 ?_
  refine V_iload_n_1 (q := 5) C rfl dX8_shoo_4 ?_
  refine V_aload_n_0 (q := 6) C rfl dX8_shoo_5 ?_
  refine gf_X8_27 (q := 9) C rfl dX8_shoo_6 ?_
  refine gf_X8_169 (q := 12) C rfl dX8_shoo_9 ?_
  rw [hC]
  refine V_icmp_le_t (tgt := 18) C (nI_le hj (by omega)) (by decide) dX8_shoo_12 ?_
  refine V_aload_n_0 (q := 19) C rfl dX8_shoo_18 ?_
  refine gf_X8_27 (q := 22) C rfl dX8_shoo_19 ?_
  refine V_dup (q := 23) C rfl rfl dX8_shoo_22 ?_
  refine gf_X8_169 (q := 26) C rfl dX8_shoo_23 ?_
  refine V_iload_n_1 (q := 27) C rfl dX8_shoo_26 ?_
  refine V_isub (q := 28) C rfl dX8_shoo_27 ?_
  rw [hC, show nI C2 - nI j = nI (C2 - j) from pk_sub hj]
  refine pf_X8_169 (q := 31) C rfl dX8_shoo_28 ?_
  refine V_aload_n_0 (q := 32) C rfl dX8_shoo_31 ?_
  refine gf_X8_27 (q := 35) C rfl dX8_shoo_32 ?_
  refine gf_X8_169 (q := 38) C rfl dX8_shoo_35 ?_
  refine V_iret C hR dX8_shoo_38 ?_
  exact ⟨rfl, rfl⟩

set_option maxHeartbeats 4000000 in
set_option maxRecDepth 100000 in
theorem c_X8_fell_u {l : Launch} {D : DD} {ad : Nat → Nat} (σ : ST) (T : Nat) (t b : Int32) (hT : σ 12 0 = nI T) (h : ¬ isT (nI T) t) : Ct l yX8_fell cX8_fell 3 (Option.some FieldType.int) 1 21 D ad [.ref (ad 0), .int t, .int b] σ (ex (some (.int (-1))) σ) := by
  refine Ct.of2 [.ref (ad 0), .int t, .int b] rfl (Nat.le_of_ble_eq_true rfl) rfl ?_
  rintro X C rfl rfl rfl hxn hR
  refine V_aload_n_0 (q := 1) C rfl dX8_fell_0 ?_
  refine gf_X8_57 (q := 4) C rfl dX8_fell_1 ?_
  refine V_iload_n_1 (q := 5) C rfl dX8_fell_4 ?_
  refine V_cV1r (q := 8) C (Ct.mono (v' := some (.int (pI (isT (nI T) t)))) (c_X1_hasTree σ t) (by rw [show σ 12 0 = nI T from hT]) rfl) cw_X1_hasTree cv_X1_hasTree wm_X8_119 (by decide) ob_X1 ⟨by decide, by decide⟩ (Nat.le_of_ble_eq_true rfl) rfl dX8_fell_5 ?_
  refine V_ifp_ne_f (tgt := 13) C h rfl (by decide) dX8_fell_8 ?_
  refine V_iconst (q := 12) (v := (-1)) C rfl rfl dX8_fell_11 ?_
  refine V_iret C hR dX8_fell_12 ?_
  exact ⟨rfl, rfl⟩

def feF (σ : ST) (j : Nat) (b : Int32) : Int32 × ST := if pI (bit (σ 12 2) (nI j)) = b then (0, σ) else (1, setf σ 12 2 (σ 12 2 ^^^ own1 (nI j)))

set_option maxHeartbeats 4000000 in
set_option maxRecDepth 100000 in
theorem c_X8_fell_v {l : Launch} {D : DD} {ad : Nat → Nat} (σ : ST) (T j : Nat) (b : Int32) (hT : σ 12 0 = nI T) (hT6 : T ≤ 6) (hj : j < T) : Ct l yX8_fell cX8_fell 3 (Option.some FieldType.int) 1 21 D ad [.ref (ad 0), .int (nI j), .int b] σ (ex (some (.int (feF σ j b).1)) (feF σ j b).2) := by
  refine Ct.of2 [.ref (ad 0), .int (nI j), .int b] rfl (Nat.le_of_ble_eq_true rfl) rfl ?_
  rintro X C rfl rfl rfl hxn hR
  refine V_aload_n_0 (q := 1) C rfl dX8_fell_0 ?_
  refine gf_X8_57 (q := 4) C rfl dX8_fell_1 ?_
  refine V_iload_n_1 (q := 5) C rfl dX8_fell_4 ?_
  refine V_cV1r (q := 8) C (Ct.mono (v' := some (.int (pI (isT (nI T) (nI j))))) (c_X1_hasTree σ (nI j)) (by rw [show σ 12 0 = nI T from hT]) rfl) cw_X1_hasTree cv_X1_hasTree wm_X8_119 (by decide) ob_X1 ⟨by decide, by decide⟩ (Nat.le_of_ble_eq_true rfl) rfl dX8_fell_5 ?_
  refine V_ifp_ne_t (tgt := 13) C (isT_nI hj (by omega)) (by decide) dX8_fell_8 ?_
  refine V_aload_n_0 (q := 14) C rfl dX8_fell_13 ?_
  refine gf_X8_57 (q := 17) C rfl dX8_fell_14 ?_
  refine gf_X8_138 (q := 20) C rfl dX8_fell_17 ?_
  refine V_iload_n_1 (q := 21) C rfl dX8_fell_20 ?_
  refine V_cS2r (q := 24) C (c_X8_isIn _ _ _) cw_X8_isIn cs_X8_isIn wm_X8_141 ⟨by decide, by decide⟩ (Nat.le_of_ble_eq_true rfl) rfl dX8_fell_21 ?_
  refine V_iload_n_2 (q := 25) C rfl dX8_fell_24 ?_
  refine V_icmp_ne (tgt := 30) C rfl (by decide) dX8_fell_25 (fun c25 => ?_) (fun c25 => ?_)
  · refine V_aload_n_0 (q := 31) C rfl dX8_fell_30 ?_
    refine gf_X8_57 (q := 34) C rfl dX8_fell_31 ?_
    refine V_dup (q := 35) C rfl rfl dX8_fell_34 ?_
    refine gf_X8_138 (q := 38) C rfl dX8_fell_35 ?_
    refine V_iconst (q := 39) (v := 1) C rfl rfl dX8_fell_38 ?_
    refine V_iload_n_1 (q := 40) C rfl dX8_fell_39 ?_
    refine V_ishl (q := 41) C rfl dX8_fell_40 ?_
    refine V_ixor (q := 42) C rfl dX8_fell_41 ?_
    refine pf_X8_138 (q := 45) C rfl dX8_fell_42 ?_
    refine V_iconst (q := 46) (v := 1) C rfl rfl dX8_fell_45 ?_
    refine V_iret C hR dX8_fell_46 ?_
    first
    | (refine ⟨by unfold feF; rw [if_pos c25], ?_⟩; unfold feF; rw [if_pos c25]; done)
    | (refine ⟨by unfold feF; rw [if_neg c25], ?_⟩; unfold feF; rw [if_neg c25]; try rfl)
  · refine V_iconst (q := 29) (v := 0) C rfl rfl dX8_fell_28 ?_
    refine V_iret C hR dX8_fell_29 ?_
    first
    | (refine ⟨by unfold feF; rw [if_pos c25], ?_⟩; unfold feF; rw [if_pos c25]; done)
    | (refine ⟨by unfold feF; rw [if_neg c25], ?_⟩; unfold feF; rw [if_neg c25]; try rfl)

theorem ld29 : isLd 29 30 := ⟨by decide, fun i hi => by rw [show (29 : Int32) = nI 29 from rfl, nI_leI (by omega) (by decide)]; omega⟩
theorem ldN {d : Nat} (h : d < 30) : isLd (nI d) (d + 1) := ⟨by omega, fun i hi => by rw [nI_leI (by omega) (by omega)]; omega⟩

set_option maxHeartbeats 4000000 in
set_option maxRecDepth 100000 in
theorem c_X8_out_u {l : Launch} {D : DD} {ad : Nat → Nat} (σ : ST) (P : Nat) (p : Int32) (hP : σ 12 1 = nI P) (h : ¬ isT (nI P) p) : Ct l yX8_out cX8_out 2 (Option.some FieldType.int) 6 132 D ad [.ref (ad 0), .int p] σ (ex (some (.int (-1))) σ) := by
  refine Ct.of2 [.ref (ad 0), .int p] rfl (Nat.le_of_ble_eq_true rfl) rfl ?_
  rintro X C rfl rfl rfl hxn hR
  refine V_aload_n_0 (q := 1) C rfl dX8_out_0 ?_
  refine gf_X8_57 (q := 4) C rfl dX8_out_1 ?_
  refine V_iload_n_1 (q := 5) C rfl dX8_out_4 ?_
  refine V_cV1r (q := 8) C (Ct.mono (v' := some (.int (pI (isT (nI P) p)))) (c_X1_hasPrisoner σ p) (by rw [show σ 12 1 = nI P from hP]) rfl) cw_X1_hasPrisoner cv_X1_hasPrisoner wm_X8_144 (by decide) ob_X1 ⟨by decide, by decide⟩ (Nat.le_of_ble_eq_true rfl) rfl dX8_out_5 ?_
  refine V_ifp_ne_f (tgt := 13) C h rfl (by decide) dX8_out_8 ?_
  refine V_iconst (q := 12) (v := (-1)) C rfl rfl dX8_out_11 ?_
  refine V_iret C hR dX8_out_12 ?_
  exact ⟨rfl, rfl⟩

set_option maxHeartbeats 4000000 in
set_option maxRecDepth 100000 in
theorem c_X8_out_v {l : Launch} {D : DD} {ad : Nat → Nat} (σ : ST) (T P C2 j : Nat) (hT : σ 12 0 = nI T) (hT6 : T ≤ 6) (hP : σ 12 1 = nI P) (hP6 : P ≤ 6) (hC : σ 21 5 = nI C2) (hC6 : C2 ≤ 6) (hcd : ∀ c, c < C2 → ∃ d : Nat, d < 30 ∧ σ 24 c = nI d) (hj : j < P) : Ct l yX8_out cX8_out 2 (Option.some FieldType.int) 6 132 D ad [.ref (ad 0), .int (nI j)] σ (ex (some (.int ((daysC (prepF σ C2) T P 30 (s0C σ)).2.1 j))) (paT σ T P C2 30)) := by
  refine Ct.of2 [.ref (ad 0), .int (nI j)] rfl (Nat.le_of_ble_eq_true rfl) rfl ?_
  rintro X C rfl rfl rfl hxn hR
  refine V_aload_n_0 (q := 1) C rfl dX8_out_0 ?_
  refine gf_X8_57 (q := 4) C rfl dX8_out_1 ?_
  refine V_iload_n_1 (q := 5) C rfl dX8_out_4 ?_
  refine V_cV1r (q := 8) C (Ct.mono (v' := some (.int (pI (isT (nI P) (nI j))))) (c_X1_hasPrisoner σ (nI j)) (by rw [show σ 12 1 = nI P from hP]) rfl) cw_X1_hasPrisoner cv_X1_hasPrisoner wm_X8_144 (by decide) ob_X1 ⟨by decide, by decide⟩ (Nat.le_of_ble_eq_true rfl) rfl dX8_out_5 ?_
  refine V_ifp_ne_t (tgt := 13) C (isT_nI hj (by omega)) (by decide) dX8_out_8 ?_
  refine V_aload_n_0 (q := 14) C rfl dX8_out_13 ?_
  refine V_bipush (q := 16) (v := 29) C (by decide) rfl dX8_out_14 ?_
  refine V_cV1v (q := 19) C (c_X8_passAsTold σ T P C2 30 29 hT hT6 hP hP6 hC hC6 hcd ld29) cw_X8_passAsTold cv_X8_passAsTold wm_X8_176 (by decide) ob_X8 ⟨by decide, by decide⟩ (Nat.le_of_ble_eq_true rfl) rfl dX8_out_16 ?_
  refine V_aload_n_0 (q := 20) C rfl dX8_out_19 ?_
  refine gf_X8_61 (q := 23) C rfl dX8_out_20 ?_
  refine gf_X8_180 (q := 26) C rfl dX8_out_23 ?_
  refine V_iload_n_1 (q := 27) C rfl dX8_out_26 ?_
  refine V_iald (q := 28) C _ rfl (by show _ < 6; omega) rfl (by decide) (by decide) rfl dX8_out_27 ?_
  refine V_iret C hR dX8_out_28 ?_
  exact ⟨rfl, rfl⟩

set_option maxHeartbeats 4000000 in
set_option maxRecDepth 100000 in
theorem c_X8_by_u {l : Launch} {D : DD} {ad : Nat → Nat} (σ : ST) (P : Nat) (p : Int32) (hP : σ 12 1 = nI P) (h : ¬ isT (nI P) p) : Ct l yX8_by cX8_by 2 (Option.some FieldType.int) 6 132 D ad [.ref (ad 0), .int p] σ (ex (some (.int (-1))) σ) := by
  refine Ct.of2 [.ref (ad 0), .int p] rfl (Nat.le_of_ble_eq_true rfl) rfl ?_
  rintro X C rfl rfl rfl hxn hR
  refine V_aload_n_0 (q := 1) C rfl dX8_by_0 ?_
  refine gf_X8_57 (q := 4) C rfl dX8_by_1 ?_
  refine V_iload_n_1 (q := 5) C rfl dX8_by_4 ?_
  refine V_cV1r (q := 8) C (Ct.mono (v' := some (.int (pI (isT (nI P) p)))) (c_X1_hasPrisoner σ p) (by rw [show σ 12 1 = nI P from hP]) rfl) cw_X1_hasPrisoner cv_X1_hasPrisoner wm_X8_144 (by decide) ob_X1 ⟨by decide, by decide⟩ (Nat.le_of_ble_eq_true rfl) rfl dX8_by_5 ?_
  refine V_ifp_ne_f (tgt := 13) C h rfl (by decide) dX8_by_8 ?_
  refine V_iconst (q := 12) (v := (-1)) C rfl rfl dX8_by_11 ?_
  refine V_iret C hR dX8_by_12 ?_
  exact ⟨rfl, rfl⟩

set_option maxHeartbeats 4000000 in
set_option maxRecDepth 100000 in
theorem c_X8_by_v {l : Launch} {D : DD} {ad : Nat → Nat} (σ : ST) (T P C2 j : Nat) (hT : σ 12 0 = nI T) (hT6 : T ≤ 6) (hP : σ 12 1 = nI P) (hP6 : P ≤ 6) (hC : σ 21 5 = nI C2) (hC6 : C2 ≤ 6) (hcd : ∀ c, c < C2 → ∃ d : Nat, d < 30 ∧ σ 24 c = nI d) (hj : j < P) : Ct l yX8_by cX8_by 2 (Option.some FieldType.int) 6 132 D ad [.ref (ad 0), .int (nI j)] σ (ex (some (.int ((daysC (prepF σ C2) T P 30 (s0C σ)).2.2.1 j))) (paT σ T P C2 30)) := by
  refine Ct.of2 [.ref (ad 0), .int (nI j)] rfl (Nat.le_of_ble_eq_true rfl) rfl ?_
  rintro X C rfl rfl rfl hxn hR
  refine V_aload_n_0 (q := 1) C rfl dX8_by_0 ?_
  refine gf_X8_57 (q := 4) C rfl dX8_by_1 ?_
  refine V_iload_n_1 (q := 5) C rfl dX8_by_4 ?_
  refine V_cV1r (q := 8) C (Ct.mono (v' := some (.int (pI (isT (nI P) (nI j))))) (c_X1_hasPrisoner σ (nI j)) (by rw [show σ 12 1 = nI P from hP]) rfl) cw_X1_hasPrisoner cv_X1_hasPrisoner wm_X8_144 (by decide) ob_X1 ⟨by decide, by decide⟩ (Nat.le_of_ble_eq_true rfl) rfl dX8_by_5 ?_
  refine V_ifp_ne_t (tgt := 13) C (isT_nI hj (by omega)) (by decide) dX8_by_8 ?_
  refine V_aload_n_0 (q := 14) C rfl dX8_by_13 ?_
  refine V_bipush (q := 16) (v := 29) C (by decide) rfl dX8_by_14 ?_
  refine V_cV1v (q := 19) C (c_X8_passAsTold σ T P C2 30 29 hT hT6 hP hP6 hC hC6 hcd ld29) cw_X8_passAsTold cv_X8_passAsTold wm_X8_176 (by decide) ob_X8 ⟨by decide, by decide⟩ (Nat.le_of_ble_eq_true rfl) rfl dX8_by_16 ?_
  refine V_aload_n_0 (q := 20) C rfl dX8_by_19 ?_
  refine gf_X8_61 (q := 23) C rfl dX8_by_20 ?_
  refine gf_X8_183 (q := 26) C rfl dX8_by_23 ?_
  refine V_iload_n_1 (q := 27) C rfl dX8_by_26 ?_
  refine V_iald (q := 28) C _ rfl (by show _ < 6; omega) rfl (by decide) (by decide) rfl dX8_by_27 ?_
  refine V_iret C hR dX8_by_28 ?_
  exact ⟨rfl, rfl⟩

set_option maxHeartbeats 4000000 in
set_option maxRecDepth 100000 in
theorem c_X8_free_u {l : Launch} {D : DD} {ad : Nat → Nat} (σ : ST) (d : Int32) (h : ¬ isT 30 d) : Ct l yX8_free cX8_free 2 (Option.some FieldType.int) 6 132 D ad [.ref (ad 0), .int d] σ (ex (some (.int (-1))) σ) := by
  refine Ct.of2 [.ref (ad 0), .int d] rfl (Nat.le_of_ble_eq_true rfl) rfl ?_
  rintro X C rfl rfl rfl hxn hR
  refine V_iload_n_1 (q := 1) C rfl dX8_free_0 ?_
  refine V_cS1r (q := 4) C (c_X8_isDay _ _) cw_X8_isDay cs_X8_isDay wm_X8_153 ⟨by decide, by decide⟩ (Nat.le_of_ble_eq_true rfl) rfl dX8_free_1 ?_
  refine V_ifp_ne_f (tgt := 9) C h rfl (by decide) dX8_free_4 ?_
  refine V_iconst (q := 8) (v := (-1)) C rfl rfl dX8_free_7 ?_
  refine V_iret C hR dX8_free_8 ?_
  exact ⟨rfl, rfl⟩

set_option maxHeartbeats 4000000 in
set_option maxRecDepth 100000 in
theorem c_X8_free_s {l : Launch} {D : DD} {ad : Nat → Nat} (σ : ST) (d T : Nat) (hd : d < 30) (hT : σ 12 0 = nI T) (h0 : T = 0) : Ct l yX8_free cX8_free 2 (Option.some FieldType.int) 6 132 D ad [.ref (ad 0), .int (nI d)] σ (ex (some (.int (-3))) σ) := by
  refine Ct.of2 [.ref (ad 0), .int (nI d)] rfl (Nat.le_of_ble_eq_true rfl) rfl ?_
  rintro X C rfl rfl rfl hxn hR
  refine V_iload_n_1 (q := 1) C rfl dX8_free_0 ?_
  refine V_cS1r (q := 4) C (c_X8_isDay _ _) cw_X8_isDay cs_X8_isDay wm_X8_153 ⟨by decide, by decide⟩ (Nat.le_of_ble_eq_true rfl) rfl dX8_free_1 ?_
  refine V_ifp_ne_t (tgt := 9) C (isT_nI (N := 30) hd (by decide)) (by decide) dX8_free_4 ?_
  refine V_aload_n_0 (q := 10) C rfl dX8_free_9 ?_
  refine gf_X8_57 (q := 13) C rfl dX8_free_10 ?_
  refine V_cV0r (q := 16) C (Ct.mono (v' := some (.int (pI (0 < nI T)))) (c_X1_isPlanted σ) (by rw [show σ 12 0 = nI T from hT]) rfl) cw_X1_isPlanted cv_X1_isPlanted wm_X8_156 (by decide) ob_X1 ⟨by decide, by decide⟩ (Nat.le_of_ble_eq_true rfl) rfl dX8_free_13 ?_
  refine V_ifp_ne_f (tgt := 22) C (pl0_no h0) rfl (by decide) dX8_free_16 ?_
  refine V_bipush (q := 21) (v := (-3)) C (by decide) rfl dX8_free_19 ?_
  refine V_iret C hR dX8_free_21 ?_
  exact ⟨rfl, rfl⟩

set_option maxHeartbeats 4000000 in
set_option maxRecDepth 100000 in
theorem c_X8_free_v {l : Launch} {D : DD} {ad : Nat → Nat} (σ : ST) (T P C2 d : Nat) (hT : σ 12 0 = nI T) (hT6 : T ≤ 6) (hP : σ 12 1 = nI P) (hP6 : P ≤ 6) (hC : σ 21 5 = nI C2) (hC6 : C2 ≤ 6) (hcd : ∀ c, c < C2 → ∃ d : Nat, d < 30 ∧ σ 24 c = nI d) (hd : d < 30) (h0 : 0 < T) : Ct l yX8_free cX8_free 2 (Option.some FieldType.int) 6 132 D ad [.ref (ad 0), .int (nI d)] σ (ex (some (.int (ones (nI P) &&& ((daysC (prepF σ C2) T P (d + 1) (s0C σ)).2.2.2 ^^^ -1)))) (paT σ T P C2 (d + 1))) := by
  refine Ct.of2 [.ref (ad 0), .int (nI d)] rfl (Nat.le_of_ble_eq_true rfl) rfl ?_
  rintro X C rfl rfl rfl hxn hR
  refine V_iload_n_1 (q := 1) C rfl dX8_free_0 ?_
  refine V_cS1r (q := 4) C (c_X8_isDay _ _) cw_X8_isDay cs_X8_isDay wm_X8_153 ⟨by decide, by decide⟩ (Nat.le_of_ble_eq_true rfl) rfl dX8_free_1 ?_
  refine V_ifp_ne_t (tgt := 9) C (isT_nI (N := 30) hd (by decide)) (by decide) dX8_free_4 ?_
  refine V_aload_n_0 (q := 10) C rfl dX8_free_9 ?_
  refine gf_X8_57 (q := 13) C rfl dX8_free_10 ?_
  refine V_cV0r (q := 16) C (Ct.mono (v' := some (.int (pI (0 < nI T)))) (c_X1_isPlanted σ) (by rw [show σ 12 0 = nI T from hT]) rfl) cw_X1_isPlanted cv_X1_isPlanted wm_X8_156 (by decide) ob_X1 ⟨by decide, by decide⟩ (Nat.le_of_ble_eq_true rfl) rfl dX8_free_13 ?_
  refine V_ifp_ne_t (tgt := 22) C (pl0_of h0 hT6) (by decide) dX8_free_16 ?_
  refine V_aload_n_0 (q := 23) C rfl dX8_free_22 ?_
  refine V_iload_n_1 (q := 24) C rfl dX8_free_23 ?_
  refine V_cV1v (q := 27) C (c_X8_passAsTold σ T P C2 (d + 1) (nI d) hT hT6 hP hP6 hC hC6 hcd (ldN hd)) cw_X8_passAsTold cv_X8_passAsTold wm_X8_176 (by decide) ob_X8 ⟨by decide, by decide⟩ (Nat.le_of_ble_eq_true rfl) rfl dX8_free_24 ?_
  refine V_aload_n_0 (q := 28) C rfl dX8_free_27 ?_
  refine gf_X8_57 (q := 31) C rfl dX8_free_28 ?_
  refine V_cV0r (q := 34) C (Ct.mono (v' := some (.int (ones (nI P)))) (c_X1_allPrisoners _) (by rw [show (paT σ T P C2 (d + 1)) 12 1 = nI P from hP]) rfl) cw_X1_allPrisoners cv_X1_allPrisoners wm_X8_186 (by decide) ob_X1 ⟨by decide, by decide⟩ (Nat.le_of_ble_eq_true rfl) rfl dX8_free_31 ?_
  refine V_aload_n_0 (q := 35) C rfl dX8_free_34 ?_
  refine gf_X8_61 (q := 38) C rfl dX8_free_35 ?_
  refine gf_X8_189 (q := 41) C rfl dX8_free_38 ?_
  refine V_iconst (q := 42) (v := (-1)) C rfl rfl dX8_free_41 ?_
  refine V_ixor (q := 43) C rfl dX8_free_42 ?_
  refine V_iand (q := 44) C rfl dX8_free_43 ?_
  refine V_iret C hR dX8_free_44 ?_
  exact ⟨rfl, rfl⟩

set_option maxHeartbeats 4000000 in
set_option maxRecDepth 100000 in
theorem c_X8_has_u {l : Launch} {D : DD} {ad : Nat → Nat} (σ : ST) (T : Nat) (t d : Int32) (hT : σ 12 0 = nI T) (h : ¬ (isT (nI T) t ∧ isT 30 d)) : Ct l yX8_has cX8_has 3 (Option.some FieldType.int) 6 132 D ad [.ref (ad 0), .int t, .int d] σ (ex (some (.int (-1))) σ) := by
  refine Ct.of2 [.ref (ad 0), .int t, .int d] rfl (Nat.le_of_ble_eq_true rfl) rfl ?_
  rintro X C rfl rfl rfl hxn hR
  refine V_aload_n_0 (q := 1) C rfl dX8_has_0 ?_
  refine gf_X8_57 (q := 4) C rfl dX8_has_1 ?_
  refine V_iload_n_1 (q := 5) C rfl dX8_has_4 ?_
  refine V_cV1r (q := 8) C (Ct.mono (v' := some (.int (pI (isT (nI T) t)))) (c_X1_hasTree σ t) (by rw [show σ 12 0 = nI T from hT]) rfl) cw_X1_hasTree cv_X1_hasTree wm_X8_119 (by decide) ob_X1 ⟨by decide, by decide⟩ (Nat.le_of_ble_eq_true rfl) rfl dX8_has_5 ?_
  refine V_ifp_eq (tgt := 18) C rfl (by decide) dX8_has_8 (fun c8 => ?_) (fun c8 => ?_)
  · refine V_iconst (q := 19) (v := (-1)) C rfl rfl dX8_has_18 ?_
    refine V_iret C hR dX8_has_19 ?_
    exact ⟨rfl, rfl⟩
  · refine V_iload_n_2 (q := 12) C rfl dX8_has_11 ?_
    refine V_cS1r (q := 15) C (c_X8_isDay _ _) cw_X8_isDay cs_X8_isDay wm_X8_153 ⟨by decide, by decide⟩ (Nat.le_of_ble_eq_true rfl) rfl dX8_has_12 ?_
    refine V_ifp_ne (tgt := 20) C rfl (by decide) dX8_has_15 (fun c15 => ?_) (fun c15 => ?_)
    · exact absurd ⟨c8, c15⟩ h
    · refine V_iconst (q := 19) (v := (-1)) C rfl rfl dX8_has_18 ?_
      refine V_iret C hR dX8_has_19 ?_
      exact ⟨rfl, rfl⟩

set_option maxHeartbeats 4000000 in
set_option maxRecDepth 100000 in
theorem c_X8_has_v {l : Launch} {D : DD} {ad : Nat → Nat} (σ : ST) (T P C2 j d : Nat) (hT : σ 12 0 = nI T) (hT6 : T ≤ 6) (hP : σ 12 1 = nI P) (hP6 : P ≤ 6) (hC : σ 21 5 = nI C2) (hC6 : C2 ≤ 6) (hcd : ∀ c, c < C2 → ∃ d : Nat, d < 30 ∧ σ 24 c = nI d) (hj : j < T) (hd : d < 30) : Ct l yX8_has cX8_has 3 (Option.some FieldType.int) 6 132 D ad [.ref (ad 0), .int (nI j), .int (nI d)] σ (ex (some (.int ((daysC (prepF σ C2) T P (d + 1) (s0C σ)).1 j))) (paT σ T P C2 (d + 1))) := by
  refine Ct.of2 [.ref (ad 0), .int (nI j), .int (nI d)] rfl (Nat.le_of_ble_eq_true rfl) rfl ?_
  rintro X C rfl rfl rfl hxn hR
  refine V_aload_n_0 (q := 1) C rfl dX8_has_0 ?_
  refine gf_X8_57 (q := 4) C rfl dX8_has_1 ?_
  refine V_iload_n_1 (q := 5) C rfl dX8_has_4 ?_
  refine V_cV1r (q := 8) C (Ct.mono (v' := some (.int (pI (isT (nI T) (nI j))))) (c_X1_hasTree σ (nI j)) (by rw [show σ 12 0 = nI T from hT]) rfl) cw_X1_hasTree cv_X1_hasTree wm_X8_119 (by decide) ob_X1 ⟨by decide, by decide⟩ (Nat.le_of_ble_eq_true rfl) rfl dX8_has_5 ?_
  refine V_ifp_eq_f (tgt := 18) C (isT_nI hj (by omega)) rfl (by decide) dX8_has_8 ?_
  refine V_iload_n_2 (q := 12) C rfl dX8_has_11 ?_
  refine V_cS1r (q := 15) C (c_X8_isDay _ _) cw_X8_isDay cs_X8_isDay wm_X8_153 ⟨by decide, by decide⟩ (Nat.le_of_ble_eq_true rfl) rfl dX8_has_12 ?_
  refine V_ifp_ne_t (tgt := 20) C (isT_nI (N := 30) hd (by decide)) (by decide) dX8_has_15 ?_
  refine V_aload_n_0 (q := 21) C rfl dX8_has_20 ?_
  refine V_iload_n_2 (q := 22) C rfl dX8_has_21 ?_
  refine V_cV1v (q := 25) C (c_X8_passAsTold σ T P C2 (d + 1) (nI d) hT hT6 hP hP6 hC hC6 hcd (ldN hd)) cw_X8_passAsTold cv_X8_passAsTold wm_X8_176 (by decide) ob_X8 ⟨by decide, by decide⟩ (Nat.le_of_ble_eq_true rfl) rfl dX8_has_22 ?_
  refine V_aload_n_0 (q := 26) C rfl dX8_has_25 ?_
  refine gf_X8_61 (q := 29) C rfl dX8_has_26 ?_
  refine gf_X8_192 (q := 32) C rfl dX8_has_29 ?_
  refine V_iload_n_1 (q := 33) C rfl dX8_has_32 ?_
  refine V_iald (q := 34) C _ rfl (by show _ < 6; omega) rfl (by decide) (by decide) rfl dX8_has_33 ?_
  refine V_iret C hR dX8_has_34 ?_
  exact ⟨rfl, rfl⟩

set_option maxHeartbeats 4000000 in
set_option maxRecDepth 100000 in
theorem c_X8_worth_u {l : Launch} {D : DD} {ad : Nat → Nat} (σ : ST) (T : Nat) (t : Int32) (hT : σ 12 0 = nI T) (h : ¬ isT (nI T) t) : Ct l yX8_worth cX8_worth 3 (Option.some FieldType.int) 6 132 D ad [.ref (ad 0), .int t] σ (ex (some (.int (-1))) σ) := by
  refine Ct.of2 [.ref (ad 0), .int t, .float 0] rfl (Nat.le_of_ble_eq_true rfl) rfl ?_
  rintro X C rfl rfl rfl hxn hR
  refine V_aload_n_0 (q := 1) C rfl dX8_worth_0 ?_
  refine gf_X8_57 (q := 4) C rfl dX8_worth_1 ?_
  refine V_iload_n_1 (q := 5) C rfl dX8_worth_4 ?_
  refine V_cV1r (q := 8) C (Ct.mono (v' := some (.int (pI (isT (nI T) t)))) (c_X1_hasTree σ t) (by rw [show σ 12 0 = nI T from hT]) rfl) cw_X1_hasTree cv_X1_hasTree wm_X8_119 (by decide) ob_X1 ⟨by decide, by decide⟩ (Nat.le_of_ble_eq_true rfl) rfl dX8_worth_5 ?_
  refine V_ifp_ne_f (tgt := 13) C h rfl (by decide) dX8_worth_8 ?_
  refine V_iconst (q := 12) (v := (-1)) C rfl rfl dX8_worth_11 ?_
  refine V_iret C hR dX8_worth_12 ?_
  exact ⟨rfl, rfl⟩

def felS (σ : ST) (x : Int32) : ST := setf σ 30 5 x
theorem felS_put {σ : ST} {s : S4} {x : Int32} : setf (putS σ s) 30 5 x = putS (felS σ x) s := by
  funext z
  by_cases e0 : z = 36
  · subst e0; rfl
  · by_cases e1 : z = 35
    · subst e1; rfl
    · by_cases e2 : z = 34
      · subst e2; rfl
      · by_cases e3 : z = 30
        · subst e3
          show upd (upd (σ 30) 9 _) 5 x = upd (upd (σ 30) 5 x) 9 _
          funext t
          unfold upd
          by_cases h5 : t = 5
          · subst h5; rfl
          · by_cases h9 : t = 9
            · subst h9; rfl
            · simp only [if_neg h5, if_neg h9]
        · simp only [putS, felS, setf, setc, if_neg e0, if_neg e1, if_neg e2, if_neg e3]

set_option maxHeartbeats 4000000 in
set_option maxRecDepth 100000 in
theorem c_X8_worth_v {l : Launch} {D : DD} {ad : Nat → Nat} (σ : ST) (T P C2 j : Nat) (hT : σ 12 0 = nI T) (hT6 : T ≤ 6) (hP : σ 12 1 = nI P) (hP6 : P ≤ 6) (hC : σ 21 5 = nI C2) (hC6 : C2 ≤ 6) (hcd : ∀ c, c < C2 → ∃ d : Nat, d < 30 ∧ σ 24 c = nI d) (hj : j < T) : Ct l yX8_worth cX8_worth 3 (Option.some FieldType.int) 6 132 D ad [.ref (ad 0), .int (nI j)] σ (ex (some (.int (sumO (daysC (felS (prepF σ C2) (σ 12 2 ||| own1 (nI j))) T P 30 (s0C σ)).2.1 P - sumO (daysC (prepF σ C2) T P 30 (s0C σ)).2.1 P + 10000))) (putS (felS (prepF σ C2) (σ 12 2 ||| own1 (nI j))) (daysC (felS (prepF σ C2) (σ 12 2 ||| own1 (nI j))) T P 30 (s0C σ)))) := by
  refine Ct.of2 [.ref (ad 0), .int (nI j), .float 0] rfl (Nat.le_of_ble_eq_true rfl) rfl ?_
  rintro X C rfl rfl rfl hxn hR
  have hn2 : 2 < xn X := by rw [← hxn]; decide
  refine V_aload_n_0 (q := 1) C rfl dX8_worth_0 ?_
  refine gf_X8_57 (q := 4) C rfl dX8_worth_1 ?_
  refine V_iload_n_1 (q := 5) C rfl dX8_worth_4 ?_
  refine V_cV1r (q := 8) C (Ct.mono (v' := some (.int (pI (isT (nI T) (nI j))))) (c_X1_hasTree σ (nI j)) (by rw [show σ 12 0 = nI T from hT]) rfl) cw_X1_hasTree cv_X1_hasTree wm_X8_119 (by decide) ob_X1 ⟨by decide, by decide⟩ (Nat.le_of_ble_eq_true rfl) rfl dX8_worth_5 ?_
  refine V_ifp_ne_t (tgt := 13) C (isT_nI hj (by omega)) (by decide) dX8_worth_8 ?_
  refine V_aload_n_0 (q := 14) C rfl dX8_worth_13 ?_
  refine V_bipush (q := 16) (v := 29) C (by decide) rfl dX8_worth_14 ?_
  refine V_cV1v (q := 19) C (c_X8_passAsTold σ T P C2 30 29 hT hT6 hP hP6 hC hC6 hcd ld29) cw_X8_passAsTold cv_X8_passAsTold wm_X8_176 (by decide) ob_X8 ⟨by decide, by decide⟩ (Nat.le_of_ble_eq_true rfl) rfl dX8_worth_16 ?_
  refine V_aload_n_0 (q := 20) C rfl dX8_worth_19 ?_
  refine gf_X8_61 (q := 23) C rfl dX8_worth_20 ?_
  refine V_cV0r (q := 26) C (Ct.mono (v' := some (.int (sumO (daysC (prepF σ C2) T P 30 (s0C σ)).2.1 P))) (c_X4_sumOfOutDays (paT σ T P C2 30) P hP hP6) rfl rfl) cw_X4_sumOfOutDays cv_X4_sumOfOutDays wm_X8_224 (by decide) ob_X4 ⟨by decide, by decide⟩ (Nat.le_of_ble_eq_true rfl) rfl dX8_worth_23 ?_
  refine V_istore_n_2 (q := 27) C hn2 rfl rfl dX8_worth_26 ?_
  refine V_aload_n_0 (q := 28) C rfl dX8_worth_27 ?_
  refine gf_X8_61 (q := 31) C rfl dX8_worth_28 ?_
  refine V_aload_n_0 (q := 32) C rfl dX8_worth_31 ?_
  refine gf_X8_57 (q := 35) C rfl dX8_worth_32 ?_
  refine gf_X8_138 (q := 38) C rfl dX8_worth_35 ?_
  refine V_iconst (q := 39) (v := 1) C rfl rfl dX8_worth_38 ?_
  refine V_iload_n_1 (q := 40) C rfl dX8_worth_39 ?_
  refine V_ishl (q := 41) C rfl dX8_worth_40 ?_
  refine V_ior (q := 42) C rfl dX8_worth_41 ?_
  refine pf_X8_216 (q := 45) C rfl dX8_worth_42 ?_
  refine V_eq (τ := putS (felS (prepF σ C2) (σ 12 2 ||| own1 (nI j))) (daysC (prepF σ C2) T P 30 (s0C σ))) felS_put ?_
  refine V_aload_n_0 (q := 46) C rfl dX8_worth_45 ?_
  refine gf_X8_61 (q := 49) C rfl dX8_worth_46 ?_
  refine V_bipush (q := 51) (v := 29) C (by decide) rfl dX8_worth_49 ?_
  refine V_cV1v (q := 54) C (Ct.mono (v' := none) (τ' := putS (felS (prepF σ C2) (σ 12 2 ||| own1 (nI j))) (daysC (felS (prepF σ C2) (σ 12 2 ||| own1 (nI j))) T P 30 (s0C σ))) (c_X4_pass (putS (felS (prepF σ C2) (σ 12 2 ||| own1 (nI j))) (daysC (prepF σ C2) T P 30 (s0C σ))) T P 30 29 hT hT6 hP hP6 ld29) rfl (by rw [putS_putS, daysC_put]; rfl)) cw_X4_pass cv_X4_pass wm_X8_227 (by decide) ob_X4 ⟨by decide, by decide⟩ (Nat.le_of_ble_eq_true rfl) rfl dX8_worth_51 ?_
  refine V_aload_n_0 (q := 55) C rfl dX8_worth_54 ?_
  refine gf_X8_61 (q := 58) C rfl dX8_worth_55 ?_
  refine V_cV0r (q := 61) C (Ct.mono (v' := some (.int (sumO (daysC (felS (prepF σ C2) (σ 12 2 ||| own1 (nI j))) T P 30 (s0C σ)).2.1 P))) (c_X4_sumOfOutDays (putS (felS (prepF σ C2) (σ 12 2 ||| own1 (nI j))) (daysC (felS (prepF σ C2) (σ 12 2 ||| own1 (nI j))) T P 30 (s0C σ))) P hP hP6) rfl rfl) cw_X4_sumOfOutDays cv_X4_sumOfOutDays wm_X8_224 (by decide) ob_X4 ⟨by decide, by decide⟩ (Nat.le_of_ble_eq_true rfl) rfl dX8_worth_58 ?_
  refine V_iload_n_2 (q := 62) C rfl dX8_worth_61 ?_
  refine V_isub (q := 63) C rfl dX8_worth_62 ?_
  refine V_sipush (q := 66) (v := 10000) C (by decide) rfl dX8_worth_63 ?_
  refine V_iadd (q := 67) C rfl dX8_worth_66 ?_
  refine V_iret C hR dX8_worth_67 ?_
  exact ⟨rfl, rfl⟩

