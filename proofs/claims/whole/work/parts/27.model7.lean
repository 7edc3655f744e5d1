/-! the reference: sheets -/
theorem V_weak10 {X : CT} {pc : Nat} {a0 a1 a2 a3 a4 a5 a6 a7 a8 a9 : Value} {st : List Value} {σ : ST} (k : V X pc [a0, a1, a2, a3, a4, a5, a6, a7, a8, .float 0] st σ) : V X pc [a0, a1, a2, a3, a4, a5, a6, a7, a8, a9] st σ := fun H locs ls hP hS hl => k H locs ls hP hS (LV.of hl fun i v hi hd => mem_al.mpr ⟨by
  have : i < 10 := (List.getElem?_eq_some_iff.mp hi).1
  have h2 : i = 0 ∨ i = 1 ∨ i = 2 ∨ i = 3 ∨ i = 4 ∨ i = 5 ∨ i = 6 ∨ i = 7 ∨ i = 8 ∨ i = 9 := by omega
  rcases h2 with rfl | rfl | rfl | rfl | rfl | rfl | rfl | rfl | rfl | rfl
  · exact hi
  · exact hi
  · exact hi
  · exact hi
  · exact hi
  · exact hi
  · exact hi
  · exact hi
  · exact hi
  · cases hi; exact absurd hd (by decide), hd⟩)
def zeF (j i : Nat) (f : Nat → Int32) (t : Nat) : Int32 := if 50 * j ≤ t ∧ t < 50 * j + i then 0 else f t
theorem zeF_0 {j : Nat} {f : Nat → Int32} : zeF j 0 f = f := funext fun t => if_neg (by omega)
theorem zeF_s {j i : Nat} {f : Nat → Int32} : upd (zeF j i f) (50 * j + i) 0 = zeF j (i + 1) f := funext fun t => by
  unfold upd
  by_cases h : t = 50 * j + i
  · rw [if_pos h]; unfold zeF; rw [if_pos ⟨by omega, by omega⟩]
  · rw [if_neg h]
    unfold zeF
    by_cases h2 : 50 * j ≤ t ∧ t < 50 * j + i
    · rw [if_pos h2, if_pos ⟨h2.1, by omega⟩]
    · rw [if_neg h2, if_neg (by omega)]
def shM (σ : ST) (j : Nat) (a n : Int32) : ST := setc (setf (setf (setf σ 40 0 0) 41 j a) 42 j n) 43 (zeF j 50 (σ 43))
theorem w50 {j : Nat} : (50 : Int32) * nI j = nI (50 * j) := pk_mul 50 j
theorem wiL {i : Int32} {L : Nat} (hL : L ≤ 50) : (¬ i < 0 ∧ ¬ nI L - 1 < i) ↔ isT (nI L) i := by
  have h1 : (nI L - 1).toInt = (L : Int) - 1 := pk_sub_toInt (b := 1) (by omega) (by decide)
  unfold isT
  rw [Int32.lt_iff_toInt_lt, Int32.lt_iff_toInt_lt, Int32.le_iff_toInt_le, h1, nI_toInt (by omega)]
  omega

set_option maxHeartbeats 4000000 in
set_option maxRecDepth 100000 in
theorem c_X9_sheet_u {l : Launch} {D : DD} {ad : Nat → Nat} (σ : ST) (k a n : Int32) (h : ¬ isT 4 k) : Ct l yX9_sheet cX9_sheet 5 (Option.some FieldType.int) 2 42 D ad [.ref (ad 40), .int k, .int a, .int n] σ (ex (some (.int (-1))) (setf σ 40 0 0)) := by
  refine Ct.of2 [.ref (ad 40), .int k, .int a, .int n, .float 0] rfl (Nat.le_of_ble_eq_true rfl) rfl ?_
  rintro X C rfl rfl rfl hxn hR
  refine V_aload_n_0 (q := 1) C rfl dX9_sheet_0 ?_
  refine V_iconst (q := 2) (v := 0) C rfl rfl dX9_sheet_1 ?_
  refine pf_X9_96 (q := 5) C rfl dX9_sheet_2 ?_
  refine V_iload_n_1 (q := 6) C rfl dX9_sheet_5 ?_
  refine V_cS1r (q := 9) C (c_X9_isSheet _ _) cw_X9_isSheet cs_X9_isSheet wm_X9_114 ⟨by decide, by decide⟩ (Nat.le_of_ble_eq_true rfl) rfl dX9_sheet_6 ?_
  refine V_ifp_ne_f (tgt := 14) C h rfl (by decide) dX9_sheet_9 ?_
  refine V_iconst (q := 13) (v := (-1)) C rfl rfl dX9_sheet_12 ?_
  refine V_iret C hR dX9_sheet_13 ?_
  exact ⟨rfl, rfl⟩

set_option maxHeartbeats 4000000 in
set_option maxRecDepth 100000 in
theorem c_X9_sheet_o {l : Launch} {D : DD} {ad : Nat → Nat} (σ : ST) (j : Nat) (a n : Int32) (hj : j < 4) (h : ¬ (isT 3 a ∧ ¬ 50 < n)) : Ct l yX9_sheet cX9_sheet 5 (Option.some FieldType.int) 2 42 D ad [.ref (ad 40), .int (nI j), .int a, .int n] σ (ex (some (.int (-2))) (setf σ 40 0 0)) := by
  refine Ct.of2 [.ref (ad 40), .int (nI j), .int a, .int n, .float 0] rfl (Nat.le_of_ble_eq_true rfl) rfl ?_
  rintro X C rfl rfl rfl hxn hR
  refine V_aload_n_0 (q := 1) C rfl dX9_sheet_0 ?_
  refine V_iconst (q := 2) (v := 0) C rfl rfl dX9_sheet_1 ?_
  refine pf_X9_96 (q := 5) C rfl dX9_sheet_2 ?_
  refine V_iload_n_1 (q := 6) C rfl dX9_sheet_5 ?_
  refine V_cS1r (q := 9) C (c_X9_isSheet _ _) cw_X9_isSheet cs_X9_isSheet wm_X9_114 ⟨by decide, by decide⟩ (Nat.le_of_ble_eq_true rfl) rfl dX9_sheet_6 ?_
  refine V_ifp_ne_t (tgt := 14) C (isT_nI (N := 4) hj (by decide)) (by decide) dX9_sheet_9 ?_
  refine V_iload_n_2 (q := 15) C rfl dX9_sheet_14 ?_
  refine V_cS1r (q := 18) C (c_X9_isSort _ _) cw_X9_isSort cs_X9_isSort wm_X9_118 ⟨by decide, by decide⟩ (Nat.le_of_ble_eq_true rfl) rfl dX9_sheet_15 ?_
  refine V_ifp_eq (tgt := 27) C rfl (by decide) dX9_sheet_18 (fun c18 => ?_) (fun c18 => ?_)
  · refine V_bipush (q := 29) (v := (-2)) C (by decide) rfl dX9_sheet_27 ?_
    refine V_iret C hR dX9_sheet_29 ?_
    exact ⟨rfl, rfl⟩
  · refine V_iload_n_3 (q := 22) C rfl dX9_sheet_21 ?_
    refine V_bipush (q := 24) (v := 50) C (by decide) rfl dX9_sheet_22 ?_
    refine V_icmp_le (tgt := 30) C rfl (by decide) dX9_sheet_24 (fun c24 => ?_) (fun c24 => ?_)
    · exact absurd ⟨c18, Int32.not_lt.mpr c24⟩ h
    · refine V_bipush (q := 29) (v := (-2)) C (by decide) rfl dX9_sheet_27 ?_
      refine V_iret C hR dX9_sheet_29 ?_
      exact ⟨rfl, rfl⟩

set_option maxHeartbeats 4000000 in
set_option maxRecDepth 100000 in
theorem c_X9_sheet_z {l : Launch} {D : DD} {ad : Nat → Nat} (σ : ST) (j : Nat) (a n : Int32) (hj : j < 4) (h : isT 3 a) (hn : n < 0) : Ct l yX9_sheet cX9_sheet 5 (Option.some FieldType.int) 2 42 D ad [.ref (ad 40), .int (nI j), .int a, .int n] σ (ex (some (.int (-14))) (setf σ 40 0 4)) := by
  refine Ct.of2 [.ref (ad 40), .int (nI j), .int a, .int n, .float 0] rfl (Nat.le_of_ble_eq_true rfl) rfl ?_
  rintro X C rfl rfl rfl hxn hR
  refine V_aload_n_0 (q := 1) C rfl dX9_sheet_0 ?_
  refine V_iconst (q := 2) (v := 0) C rfl rfl dX9_sheet_1 ?_
  refine pf_X9_96 (q := 5) C rfl dX9_sheet_2 ?_
  refine V_iload_n_1 (q := 6) C rfl dX9_sheet_5 ?_
  refine V_cS1r (q := 9) C (c_X9_isSheet _ _) cw_X9_isSheet cs_X9_isSheet wm_X9_114 ⟨by decide, by decide⟩ (Nat.le_of_ble_eq_true rfl) rfl dX9_sheet_6 ?_
  refine V_ifp_ne_t (tgt := 14) C (isT_nI (N := 4) hj (by decide)) (by decide) dX9_sheet_9 ?_
  refine V_iload_n_2 (q := 15) C rfl dX9_sheet_14 ?_
  refine V_cS1r (q := 18) C (c_X9_isSort _ _) cw_X9_isSort cs_X9_isSort wm_X9_118 ⟨by decide, by decide⟩ (Nat.le_of_ble_eq_true rfl) rfl dX9_sheet_15 ?_
  refine V_ifp_eq_f (tgt := 27) C h rfl (by decide) dX9_sheet_18 ?_
  refine V_iload_n_3 (q := 22) C rfl dX9_sheet_21 ?_
  refine V_bipush (q := 24) (v := 50) C (by decide) rfl dX9_sheet_22 ?_
  refine V_icmp_le_t (tgt := 30) C (Int32.le_of_lt (Int32.lt_of_lt_of_le hn (by decide))) (by decide) dX9_sheet_24 ?_
  refine V_iload_n_3 (q := 31) C rfl dX9_sheet_30 ?_
  refine V_if_ge_f (tgt := 40) C (Int32.not_le.mpr hn) rfl (by decide) dX9_sheet_31 ?_
  refine V_aload_n_0 (q := 35) C rfl dX9_sheet_34 ?_
  refine V_iconst (q := 36) (v := 4) C rfl rfl dX9_sheet_35 ?_
  refine V_cV1r (q := 39) C (Ct.mono (v' := some (.int (-14))) (τ' := setf σ 40 0 4) (c_X9_fails _ 4) rfl setf_setf) cw_X9_fails cv_X9_fails wm_X9_125 (by decide) ob_X9 ⟨by decide, by decide⟩ (Nat.le_of_ble_eq_true rfl) rfl dX9_sheet_36 ?_
  refine V_iret C hR dX9_sheet_39 ?_
  exact ⟨rfl, rfl⟩

set_option maxHeartbeats 4000000 in
set_option maxRecDepth 100000 in
theorem c_X9_sheet_v {l : Launch} {D : DD} {ad : Nat → Nat} (σ : ST) (j m : Nat) (a : Int32) (hj : j < 4) (h : isT 3 a) (hn : m ≤ 50) : Ct l yX9_sheet cX9_sheet 5 (Option.some FieldType.int) 2 42 D ad [.ref (ad 40), .int (nI j), .int a, .int (nI m)] σ (ex (some (.int 1)) (shM σ j a (nI m))) := by
  refine Ct.of2 [.ref (ad 40), .int (nI j), .int a, .int (nI m), .float 0] rfl (Nat.le_of_ble_eq_true rfl) rfl ?_
  rintro X C rfl rfl rfl hxn hR
  have hn4 : 4 < xn X := by rw [← hxn]; decide
  refine V_aload_n_0 (q := 1) C rfl dX9_sheet_0 ?_
  refine V_iconst (q := 2) (v := 0) C rfl rfl dX9_sheet_1 ?_
  refine pf_X9_96 (q := 5) C rfl dX9_sheet_2 ?_
  refine V_iload_n_1 (q := 6) C rfl dX9_sheet_5 ?_
  refine V_cS1r (q := 9) C (c_X9_isSheet _ _) cw_X9_isSheet cs_X9_isSheet wm_X9_114 ⟨by decide, by decide⟩ (Nat.le_of_ble_eq_true rfl) rfl dX9_sheet_6 ?_
  refine V_ifp_ne_t (tgt := 14) C (isT_nI (N := 4) hj (by decide)) (by decide) dX9_sheet_9 ?_
  refine V_iload_n_2 (q := 15) C rfl dX9_sheet_14 ?_
  refine V_cS1r (q := 18) C (c_X9_isSort _ _) cw_X9_isSort cs_X9_isSort wm_X9_118 ⟨by decide, by decide⟩ (Nat.le_of_ble_eq_true rfl) rfl dX9_sheet_15 ?_
  refine V_ifp_eq_f (tgt := 27) C h rfl (by decide) dX9_sheet_18 ?_
  refine V_iload_n_3 (q := 22) C rfl dX9_sheet_21 ?_
  refine V_bipush (q := 24) (v := 50) C (by decide) rfl dX9_sheet_22 ?_
  refine V_icmp_le_t (tgt := 30) C (nI_le (b := 50) hn (by decide)) (by decide) dX9_sheet_24 ?_
  refine V_iload_n_3 (q := 31) C rfl dX9_sheet_30 ?_
  refine V_if_ge_t (tgt := 40) C (Int32.not_lt.mp (nI_pos (by omega))) (by decide) dX9_sheet_31 ?_
  refine V_aload_n_0 (q := 41) C rfl dX9_sheet_40 ?_
  refine gf_X9_9 (q := 44) C rfl dX9_sheet_41 ?_
  refine V_iload_n_1 (q := 45) C rfl dX9_sheet_44 ?_
  refine V_iload_n_2 (q := 46) C rfl dX9_sheet_45 ?_
  refine V_iast (q := 47) C _ rfl (by show _ < 4; omega) rfl (by decide) (by decide) rfl dX9_sheet_46 ?_
  refine V_aload_n_0 (q := 48) C rfl dX9_sheet_47 ?_
  refine gf_X9_13 (q := 51) C rfl dX9_sheet_48 ?_
  refine V_iload_n_1 (q := 52) C rfl dX9_sheet_51 ?_
  refine V_iload_n_3 (q := 53) C rfl dX9_sheet_52 ?_
  refine V_iast (q := 54) C _ rfl (by show _ < 4; omega) rfl (by decide) (by decide) rfl dX9_sheet_53 ?_
  refine V_iconst (q := 55) (v := (nI 0)) C rfl rfl dX9_sheet_54 ?_
  refine V_istore_4 (q := 57) C hn4 rfl rfl dX9_sheet_55 ?_
  have hx57 : V X 57 [.ref (xad X 40), .int (nI j), .int a, .int (nI m), .int (nI 50)] [] (setc (setf (setf (setf σ 40 0 0) 41 j a) 42 j (nI m)) 43 (zeF j 50 (σ 43))) := by
    refine V_iload_4 (q := 59) C rfl dX9_sheet_57 ?_
    refine V_bipush (q := 61) (v := 50) C (by decide) rfl dX9_sheet_59 ?_
    refine V_icmp_ge_t (tgt := 83) C (by decide) (by decide) dX9_sheet_61 ?_
    refine V_iconst (q := 84) (v := 1) C rfl rfl dX9_sheet_83 ?_
    refine V_iret C hR dX9_sheet_84 ?_
    exact ⟨rfl, rfl⟩
  have hs57 : ∀ i : Nat, i < 50 → (V X 57 [.ref (xad X 40), .int (nI j), .int a, .int (nI m), .int (nI (i + 1))] [] (setc (setf (setf (setf σ 40 0 0) 41 j a) 42 j (nI m)) 43 (zeF j (i + 1) (σ 43)))) → V X 57 [.ref (xad X 40), .int (nI j), .int a, .int (nI m), .int (nI i)] [] (setc (setf (setf (setf σ 40 0 0) 41 j a) 42 j (nI m)) 43 (zeF j i (σ 43))) := by
    intro i hi57 ih57
    refine V_iload_4 (q := 59) C rfl dX9_sheet_57 ?_
    refine V_bipush (q := 61) (v := 50) C (by decide) rfl dX9_sheet_59 ?_
    refine V_icmp_ge_f (tgt := 83) C (nI_ge (b := 50) hi57 (by decide)) rfl (by decide) dX9_sheet_61 ?_
    refine V_aload_n_0 (q := 65) C rfl dX9_sheet_64 ?_
    refine gf_X9_16 (q := 68) C rfl dX9_sheet_65 ?_
    refine V_bipush (q := 70) (v := 50) C (by decide) rfl dX9_sheet_68 ?_
    refine V_iload_n_1 (q := 71) C rfl dX9_sheet_70 ?_
    refine V_imul (q := 72) C rfl dX9_sheet_71 ?_
    rw [w50]
    refine V_iload_4 (q := 74) C rfl dX9_sheet_72 ?_
    refine V_iadd (q := 75) C rfl dX9_sheet_74 ?_
    rw [nI_add]
    refine V_iconst (q := 76) (v := 0) C rfl rfl dX9_sheet_75 ?_
    refine V_iast (q := 77) C (50 * j + i) rfl (by show _ < 200; omega) rfl (by decide) (by decide) rfl dX9_sheet_76 ?_
    refine V_iinc_4 (q := 80) (n := 1) C nI_inc hn4 rfl rfl dX9_sheet_77 ?_
    refine V_goto (tgt := 57) C (by decide) dX9_sheet_80 ?_
    refine V_eq ?_ ih57
    show setc (setc (setf (setf (setf σ 40 0 0) 41 j a) 42 j (nI m)) 43 (zeF j i (σ 43))) 43 (upd (zeF j i (σ 43)) (50 * j + i) 0) = _
    rw [setc_setc, zeF_s]
  exact V_eq (by rw [zeF_0]; exact (setc_id (σ := setf (setf (setf σ 40 0 0) 41 j a) 42 j (nI m)) (k := 43)).symm) (loopN (P := fun i => V X 57 [.ref (xad X 40), .int (nI j), .int a, .int (nI m), .int (nI i)] [] (setc (setf (setf (setf σ 40 0 0) 41 j a) 42 j (nI m)) 43 (zeF j i (σ 43)))) (50) hx57 hs57 0 (Nat.zero_le _))

set_option maxHeartbeats 4000000 in
set_option maxRecDepth 100000 in
theorem c_X9_lose_u {l : Launch} {D : DD} {ad : Nat → Nat} (σ : ST) (k : Int32) (h : ¬ isT 4 k) : Ct l yX9_lose cX9_lose 3 (Option.some FieldType.int) 2 42 D ad [.ref (ad 40), .int k] σ (ex (some (.int (-1))) σ) := by
  refine Ct.of2 [.ref (ad 40), .int k, .float 0] rfl (Nat.le_of_ble_eq_true rfl) rfl ?_
  rintro X C rfl rfl rfl hxn hR
  refine V_iload_n_1 (q := 1) C rfl dX9_lose_0 ?_
  refine V_cS1r (q := 4) C (c_X9_isSheet _ _) cw_X9_isSheet cs_X9_isSheet wm_X9_114 ⟨by decide, by decide⟩ (Nat.le_of_ble_eq_true rfl) rfl dX9_lose_1 ?_
  refine V_ifp_ne_f (tgt := 9) C h rfl (by decide) dX9_lose_4 ?_
  refine V_iconst (q := 8) (v := (-1)) C rfl rfl dX9_lose_7 ?_
  refine V_iret C hR dX9_lose_8 ?_
  exact ⟨rfl, rfl⟩

set_option maxHeartbeats 4000000 in
set_option maxRecDepth 100000 in
theorem c_X9_lose_v {l : Launch} {D : DD} {ad : Nat → Nat} (σ : ST) (j : Nat) (hj : j < 4) : Ct l yX9_lose cX9_lose 3 (Option.some FieldType.int) 2 42 D ad [.ref (ad 40), .int (nI j)] σ (ex (some (.int (if σ 41 j = -9 then 0 else 1))) (setf σ 41 j (-9))) := by
  refine Ct.of2 [.ref (ad 40), .int (nI j), .float 0] rfl (Nat.le_of_ble_eq_true rfl) rfl ?_
  rintro X C rfl rfl rfl hxn hR
  have hn2 : 2 < xn X := by rw [← hxn]; decide
  refine V_iload_n_1 (q := 1) C rfl dX9_lose_0 ?_
  refine V_cS1r (q := 4) C (c_X9_isSheet _ _) cw_X9_isSheet cs_X9_isSheet wm_X9_114 ⟨by decide, by decide⟩ (Nat.le_of_ble_eq_true rfl) rfl dX9_lose_1 ?_
  refine V_ifp_ne_t (tgt := 9) C (isT_nI (N := 4) hj (by decide)) (by decide) dX9_lose_4 ?_
  refine V_aload_n_0 (q := 10) C rfl dX9_lose_9 ?_
  refine gf_X9_9 (q := 13) C rfl dX9_lose_10 ?_
  refine V_iload_n_1 (q := 14) C rfl dX9_lose_13 ?_
  refine V_iald (q := 15) C _ rfl (by show _ < 4; omega) rfl (by decide) (by decide) rfl dX9_lose_14 ?_
  refine V_bipush (q := 17) (v := (-9)) C (by decide) rfl dX9_lose_15 ?_
  refine V_icmp_ne (tgt := 24) C rfl (by decide) dX9_lose_17 (fun c17 => ?_) (fun c17 => ?_)
  · refine V_iconst (q := 25) (v := 1) C rfl rfl dX9_lose_24 ?_
    refine V_istore_n_2 (q := 26) C hn2 rfl rfl dX9_lose_25 ?_
    refine V_aload_n_0 (q := 27) C rfl dX9_lose_26 ?_
    refine gf_X9_9 (q := 30) C rfl dX9_lose_27 ?_
    refine V_iload_n_1 (q := 31) C rfl dX9_lose_30 ?_
    refine V_bipush (q := 33) (v := (-9)) C (by decide) rfl dX9_lose_31 ?_
    refine V_iast (q := 34) C _ rfl (by show _ < 4; omega) rfl (by decide) (by decide) rfl dX9_lose_33 ?_
    refine V_iload_n_2 (q := 35) C rfl dX9_lose_34 ?_
    refine V_iret C hR dX9_lose_35 ?_
    first
    | exact ⟨by rw [if_pos c17], rfl⟩
    | exact ⟨by rw [if_neg c17], rfl⟩
  · refine V_iconst (q := 21) (v := 0) C rfl rfl dX9_lose_20 ?_
    refine V_goto (tgt := 25) C (by decide) dX9_lose_21 ?_
    refine V_istore_n_2 (q := 26) C hn2 rfl rfl dX9_lose_25 ?_
    refine V_aload_n_0 (q := 27) C rfl dX9_lose_26 ?_
    refine gf_X9_9 (q := 30) C rfl dX9_lose_27 ?_
    refine V_iload_n_1 (q := 31) C rfl dX9_lose_30 ?_
    refine V_bipush (q := 33) (v := (-9)) C (by decide) rfl dX9_lose_31 ?_
    refine V_iast (q := 34) C _ rfl (by show _ < 4; omega) rfl (by decide) (by decide) rfl dX9_lose_33 ?_
    refine V_iload_n_2 (q := 35) C rfl dX9_lose_34 ?_
    refine V_iret C hR dX9_lose_35 ?_
    first
    | exact ⟨by rw [if_pos c17], rfl⟩
    | exact ⟨by rw [if_neg c17], rfl⟩

set_option maxHeartbeats 4000000 in
set_option maxRecDepth 100000 in
theorem c_X9_put_u {l : Launch} {D : DD} {ad : Nat → Nat} (σ : ST) (k i v : Int32) (h : ¬ isT 4 k) : Ct l yX9_put cX9_put 4 (Option.some FieldType.int) 2 42 D ad [.ref (ad 40), .int k, .int i, .int v] σ (ex (some (.int (-1))) (setf σ 40 0 0)) := by
  refine Ct.of2 [.ref (ad 40), .int k, .int i, .int v] rfl (Nat.le_of_ble_eq_true rfl) rfl ?_
  rintro X C rfl rfl rfl hxn hR
  refine V_aload_n_0 (q := 1) C rfl dX9_put_0 ?_
  refine V_iconst (q := 2) (v := 0) C rfl rfl dX9_put_1 ?_
  refine pf_X9_96 (q := 5) C rfl dX9_put_2 ?_
  refine V_iload_n_1 (q := 6) C rfl dX9_put_5 ?_
  refine V_cS1r (q := 9) C (c_X9_isSheet _ _) cw_X9_isSheet cs_X9_isSheet wm_X9_114 ⟨by decide, by decide⟩ (Nat.le_of_ble_eq_true rfl) rfl dX9_put_6 ?_
  refine V_ifp_ne_f (tgt := 14) C h rfl (by decide) dX9_put_9 ?_
  refine V_iconst (q := 13) (v := (-1)) C rfl rfl dX9_put_12 ?_
  refine V_iret C hR dX9_put_13 ?_
  exact ⟨rfl, rfl⟩

theorem m41 {σ : ST} {x : Int32} : (setf σ 40 0 x) 41 = σ 41 := rfl
theorem m42 {σ : ST} {x : Int32} : (setf σ 40 0 x) 42 = σ 42 := rfl
def puM (σ : ST) (L j : Nat) (i v : Int32) : Int32 × ST := if σ 41 j = -9 then (-11, setf σ 40 0 1) else if ¬ isT (nI L) i then (-13, setf σ 40 0 3) else (1, setf (setf σ 40 0 0) 43 (50 * j + i.toNatClampNeg) (cutL (σ 41 j) v))
def ceM (σ : ST) (L j : Nat) (i a : Int32) : Int64 × ST := if ¬ σ 41 j = -9 ∧ ¬ σ 41 j = a then (lostL, setf σ 40 0 2) else if σ 41 j = -9 then (lostL, setf σ 40 0 1) else if ¬ isT (nI L) i then (lostL, setf σ 40 0 3) else ((σ 43 (50 * j + i.toNatClampNeg)).toInt64, setf σ 40 0 0)

set_option maxHeartbeats 4000000 in
set_option maxRecDepth 100000 in
theorem c_X9_put_v {l : Launch} {D : DD} {ad : Nat → Nat} (σ : ST) (j : Nat) (i v : Int32) (hj : j < 4) (L : Nat) (hL : σ 42 j = nI L) (hL50 : L ≤ 50) : Ct l yX9_put cX9_put 4 (Option.some FieldType.int) 2 42 D ad [.ref (ad 40), .int (nI j), .int i, .int v] σ (ex (some (.int (puM σ L j i v).1)) (puM σ L j i v).2) := by
  refine Ct.of2 [.ref (ad 40), .int (nI j), .int i, .int v] rfl (Nat.le_of_ble_eq_true rfl) rfl ?_
  rintro X C rfl rfl rfl hxn hR
  refine V_aload_n_0 (q := 1) C rfl dX9_put_0 ?_
  refine V_iconst (q := 2) (v := 0) C rfl rfl dX9_put_1 ?_
  refine pf_X9_96 (q := 5) C rfl dX9_put_2 ?_
  refine V_iload_n_1 (q := 6) C rfl dX9_put_5 ?_
  refine V_cS1r (q := 9) C (c_X9_isSheet _ _) cw_X9_isSheet cs_X9_isSheet wm_X9_114 ⟨by decide, by decide⟩ (Nat.le_of_ble_eq_true rfl) rfl dX9_put_6 ?_
  refine V_ifp_ne_t (tgt := 14) C (isT_nI (N := 4) hj (by decide)) (by decide) dX9_put_9 ?_
  refine V_aload_n_0 (q := 15) C rfl dX9_put_14 ?_
  refine gf_X9_9 (q := 18) C rfl dX9_put_15 ?_
  refine V_iload_n_1 (q := 19) C rfl dX9_put_18 ?_
  refine V_iald (q := 20) C _ rfl (by show _ < 4; omega) rfl (by decide) (by decide) rfl dX9_put_19 ?_
  rw [m41]
  refine V_bipush (q := 22) (v := (-9)) C (by decide) rfl dX9_put_20 ?_
  refine V_icmp_ne (tgt := 31) C rfl (by decide) dX9_put_22 (fun c22 => ?_) (fun c22 => ?_)
  · refine V_iload_n_2 (q := 32) C rfl dX9_put_31 ?_
    refine V_iconst (q := 33) (v := 0) C rfl rfl dX9_put_32 ?_
    refine V_aload_n_0 (q := 34) C rfl dX9_put_33 ?_
    refine gf_X9_13 (q := 37) C rfl dX9_put_34 ?_
    refine V_iload_n_1 (q := 38) C rfl dX9_put_37 ?_
    refine V_iald (q := 39) C _ rfl (by show _ < 4; omega) rfl (by decide) (by decide) rfl dX9_put_38 ?_
    refine V_iconst (q := 40) (v := 1) C rfl rfl dX9_put_39 ?_
    refine V_isub (q := 41) C rfl dX9_put_40 ?_
    rw [show (setf σ 40 0 0) 42 j = nI L from hL]
    refine V_cS3r (q := 44) C (Ct.mono (v' := some (.int (pI (isT (nI L) i)))) (c_X9_within _ _ _ _) (congrArg (fun z => some (Value.int z)) (pI_congr (wiL hL50))) rfl) cw_X9_within cs_X9_within wm_X9_101 ⟨by decide, by decide⟩ (Nat.le_of_ble_eq_true rfl) rfl dX9_put_41 ?_
    refine V_ifp_ne (tgt := 53) C rfl (by decide) dX9_put_44 (fun c44 => ?_) (fun c44 => ?_)
    · obtain ⟨t, ht, et⟩ := isT_of c44 rfl (by omega)
      refine V_aload_n_0 (q := 54) C rfl dX9_put_53 ?_
      refine gf_X9_16 (q := 57) C rfl dX9_put_54 ?_
      refine V_bipush (q := 59) (v := 50) C (by decide) rfl dX9_put_57 ?_
      refine V_iload_n_1 (q := 60) C rfl dX9_put_59 ?_
      refine V_imul (q := 61) C rfl dX9_put_60 ?_
      rw [w50]
      refine V_iload_n_2 (q := 62) C rfl dX9_put_61 ?_
      refine V_iadd (q := 63) C rfl dX9_put_62 ?_
      rw [et, nI_add]
      refine V_aload_n_0 (q := 64) C rfl dX9_put_63 ?_
      refine gf_X9_9 (q := 67) C rfl dX9_put_64 ?_
      refine V_iload_n_1 (q := 68) C rfl dX9_put_67 ?_
      refine V_iald (q := 69) C _ rfl (by show _ < 4; omega) rfl (by decide) (by decide) rfl dX9_put_68 ?_
      rw [m41]
      refine V_if_ne (tgt := 77) C rfl (by decide) dX9_put_69 (fun c69 => ?_) (fun c69 => ?_)
      · refine V_aload_n_0 (q := 78) C rfl dX9_put_77 ?_
        refine gf_X9_9 (q := 81) C rfl dX9_put_78 ?_
        refine V_iload_n_1 (q := 82) C rfl dX9_put_81 ?_
        refine V_iald (q := 83) C _ rfl (by show _ < 4; omega) rfl (by decide) (by decide) rfl dX9_put_82 ?_
        rw [m41]
        refine V_iconst (q := 84) (v := 1) C rfl rfl dX9_put_83 ?_
        refine V_icmp_ne (tgt := 92) C rfl (by decide) dX9_put_84 (fun c84 => ?_) (fun c84 => ?_)
        · refine V_iload_n_3 (q := 93) C rfl dX9_put_92 ?_
          refine V_iast (q := 94) C (50 * j + t) rfl (by show _ < 200; omega) rfl (by decide) (by decide) rfl dX9_put_93 ?_
          refine V_iconst (q := 95) (v := 1) C rfl rfl dX9_put_94 ?_
          refine V_iret C hR dX9_put_95 ?_
          refine ⟨by unfold puM; rw [if_neg c22, if_neg (nn c44)], ?_⟩
          unfold puM cutL
          rw [if_neg c22, if_neg (nn c44), et, nI_clamp (by omega), if_neg c69, if_neg c84]
        · refine V_iload_n_3 (q := 88) C rfl dX9_put_87 ?_
          refine V_i2s (q := 89) C rfl dX9_put_88 ?_
          refine V_goto (tgt := 93) C (by decide) dX9_put_89 ?_
          refine V_iast (q := 94) C (50 * j + t) rfl (by show _ < 200; omega) rfl (by decide) (by decide) rfl dX9_put_93 ?_
          refine V_iconst (q := 95) (v := 1) C rfl rfl dX9_put_94 ?_
          refine V_iret C hR dX9_put_95 ?_
          have e0 : σ 41 j = 1 := c84
          refine ⟨by unfold puM; rw [if_neg c22, if_neg (nn c44)], ?_⟩
          unfold puM cutL
          rw [if_neg c22, if_neg (nn c44), et, nI_clamp (by omega), if_neg c69, if_pos e0]
      · refine V_iload_n_3 (q := 73) C rfl dX9_put_72 ?_
        refine V_i2b (q := 74) C rfl dX9_put_73 ?_
        refine V_goto (tgt := 93) C (by decide) dX9_put_74 ?_
        refine V_iast (q := 94) C (50 * j + t) rfl (by show _ < 200; omega) rfl (by decide) (by decide) rfl dX9_put_93 ?_
        refine V_iconst (q := 95) (v := 1) C rfl rfl dX9_put_94 ?_
        refine V_iret C hR dX9_put_95 ?_
        have e0 : σ 41 j = 0 := c69
        refine ⟨by unfold puM; rw [if_neg c22, if_neg (nn c44)], ?_⟩
        unfold puM cutL
        rw [if_neg c22, if_neg (nn c44), et, nI_clamp (by omega), if_pos e0]
    · refine V_aload_n_0 (q := 48) C rfl dX9_put_47 ?_
      refine V_iconst (q := 49) (v := 3) C rfl rfl dX9_put_48 ?_
      refine V_cV1r (q := 52) C (Ct.mono (v' := some (.int (-13))) (τ' := setf σ 40 0 3) (c_X9_fails _ 3) rfl setf_setf) cw_X9_fails cv_X9_fails wm_X9_125 (by decide) ob_X9 ⟨by decide, by decide⟩ (Nat.le_of_ble_eq_true rfl) rfl dX9_put_49 ?_
      refine V_iret C hR dX9_put_52 ?_
      refine ⟨by unfold puM; rw [if_neg c22, if_pos c44], ?_⟩
      unfold puM
      rw [if_neg c22, if_pos c44]
  · refine V_aload_n_0 (q := 26) C rfl dX9_put_25 ?_
    refine V_iconst (q := 27) (v := 1) C rfl rfl dX9_put_26 ?_
    refine V_cV1r (q := 30) C (Ct.mono (v' := some (.int (-11))) (τ' := setf σ 40 0 1) (c_X9_fails _ 1) rfl setf_setf) cw_X9_fails cv_X9_fails wm_X9_125 (by decide) ob_X9 ⟨by decide, by decide⟩ (Nat.le_of_ble_eq_true rfl) rfl dX9_put_27 ?_
    refine V_iret C hR dX9_put_30 ?_
    have e0 : σ 41 j = -9 := c22
    refine ⟨by unfold puM; rw [if_pos e0], ?_⟩
    unfold puM
    rw [if_pos e0]

set_option maxHeartbeats 4000000 in
set_option maxRecDepth 100000 in
theorem c_X9_cell_u {l : Launch} {D : DD} {ad : Nat → Nat} (σ : ST) (k i a : Int32) (h : ¬ (isT 4 k ∧ isT 3 a)) : Ct l yX9_cell cX9_cell 4 (Option.some FieldType.long) 2 42 D ad [.ref (ad 40), .int k, .int i, .int a] σ (ex (some (.long lostL)) (setf σ 40 0 0)) := by
  refine Ct.of2 [.ref (ad 40), .int k, .int i, .int a] rfl (Nat.le_of_ble_eq_true rfl) rfl ?_
  rintro X C rfl rfl rfl hxn hR
  refine V_aload_n_0 (q := 1) C rfl dX9_cell_0 ?_
  refine V_iconst (q := 2) (v := 0) C rfl rfl dX9_cell_1 ?_
  refine pf_X9_96 (q := 5) C rfl dX9_cell_2 ?_
  refine V_iload_n_1 (q := 6) C rfl dX9_cell_5 ?_
  refine V_cS1r (q := 9) C (c_X9_isSheet _ _) cw_X9_isSheet cs_X9_isSheet wm_X9_114 ⟨by decide, by decide⟩ (Nat.le_of_ble_eq_true rfl) rfl dX9_cell_6 ?_
  refine V_ifp_eq (tgt := 19) C rfl (by decide) dX9_cell_9 (fun c9 => ?_) (fun c9 => ?_)
  · refine V_ldc2 (q := 22) C wc_X9_99 rfl dX9_cell_19 ?_
    refine V_lret C hR dX9_cell_22 ?_
    exact ⟨rfl, rfl⟩
  · refine V_iload_n_3 (q := 13) C rfl dX9_cell_12 ?_
    refine V_cS1r (q := 16) C (c_X9_isSort _ _) cw_X9_isSort cs_X9_isSort wm_X9_118 ⟨by decide, by decide⟩ (Nat.le_of_ble_eq_true rfl) rfl dX9_cell_13 ?_
    refine V_ifp_ne (tgt := 23) C rfl (by decide) dX9_cell_16 (fun c16 => ?_) (fun c16 => ?_)
    · exact absurd ⟨c9, c16⟩ h
    · refine V_ldc2 (q := 22) C wc_X9_99 rfl dX9_cell_19 ?_
      refine V_lret C hR dX9_cell_22 ?_
      exact ⟨rfl, rfl⟩

set_option maxHeartbeats 4000000 in
set_option maxRecDepth 100000 in
theorem c_X9_cell_v {l : Launch} {D : DD} {ad : Nat → Nat} (σ : ST) (j : Nat) (i a : Int32) (hj : j < 4) (L : Nat) (hL : σ 42 j = nI L) (hL50 : L ≤ 50) (h : isT 3 a) : Ct l yX9_cell cX9_cell 4 (Option.some FieldType.long) 2 42 D ad [.ref (ad 40), .int (nI j), .int i, .int a] σ (ex (some (.long (ceM σ L j i a).1)) (ceM σ L j i a).2) := by
  refine Ct.of2 [.ref (ad 40), .int (nI j), .int i, .int a] rfl (Nat.le_of_ble_eq_true rfl) rfl ?_
  rintro X C rfl rfl rfl hxn hR
  refine V_aload_n_0 (q := 1) C rfl dX9_cell_0 ?_
  refine V_iconst (q := 2) (v := 0) C rfl rfl dX9_cell_1 ?_
  refine pf_X9_96 (q := 5) C rfl dX9_cell_2 ?_
  refine V_iload_n_1 (q := 6) C rfl dX9_cell_5 ?_
  refine V_cS1r (q := 9) C (c_X9_isSheet _ _) cw_X9_isSheet cs_X9_isSheet wm_X9_114 ⟨by decide, by decide⟩ (Nat.le_of_ble_eq_true rfl) rfl dX9_cell_6 ?_
  refine V_ifp_eq_f (tgt := 19) C (isT_nI (N := 4) hj (by decide)) rfl (by decide) dX9_cell_9 ?_
  refine V_iload_n_3 (q := 13) C rfl dX9_cell_12 ?_
  refine V_cS1r (q := 16) C (c_X9_isSort _ _) cw_X9_isSort cs_X9_isSort wm_X9_118 ⟨by decide, by decide⟩ (Nat.le_of_ble_eq_true rfl) rfl dX9_cell_13 ?_
  refine V_ifp_ne_t (tgt := 23) C h (by decide) dX9_cell_16 ?_
  refine V_aload_n_0 (q := 24) C rfl dX9_cell_23 ?_
  refine gf_X9_9 (q := 27) C rfl dX9_cell_24 ?_
  refine V_iload_n_1 (q := 28) C rfl dX9_cell_27 ?_
  refine V_iald (q := 29) C _ rfl (by show _ < 4; omega) rfl (by decide) (by decide) rfl dX9_cell_28 ?_
  rw [m41]
  refine V_bipush (q := 31) (v := (-9)) C (by decide) rfl dX9_cell_29 ?_
  refine V_icmp_eq (tgt := 50) C rfl (by decide) dX9_cell_31 (fun c31 => ?_) (fun c31 => ?_)
  · refine V_aload_n_0 (q := 51) C rfl dX9_cell_50 ?_
    refine gf_X9_9 (q := 54) C rfl dX9_cell_51 ?_
    refine V_iload_n_1 (q := 55) C rfl dX9_cell_54 ?_
    refine V_iald (q := 56) C _ rfl (by show _ < 4; omega) rfl (by decide) (by decide) rfl dX9_cell_55 ?_
    rw [m41]
    refine V_bipush (q := 58) (v := (-9)) C (by decide) rfl dX9_cell_56 ?_
    refine V_icmp_ne (tgt := 67) C rfl (by decide) dX9_cell_58 (fun c58 => ?_) (fun c58 => ?_)
    · exact absurd c31 c58
    · refine V_aload_n_0 (q := 62) C rfl dX9_cell_61 ?_
      refine V_iconst (q := 63) (v := 1) C rfl rfl dX9_cell_62 ?_
      refine V_cV1r (q := 66) C (Ct.mono (v' := some (.long lostL)) (τ' := setf σ 40 0 1) (c_X9_lost _ 1) rfl setf_setf) cw_X9_lost cv_X9_lost wm_X9_223 (by decide) ob_X9 ⟨by decide, by decide⟩ (Nat.le_of_ble_eq_true rfl) rfl dX9_cell_63 ?_
      refine V_lret C hR dX9_cell_66 ?_
      have e0 : σ 41 j = -9 := c31
      refine ⟨by unfold ceM; rw [if_neg (fun h => h.1 e0), if_pos e0], ?_⟩
      unfold ceM
      rw [if_neg (fun h => h.1 e0), if_pos e0]
  · refine V_aload_n_0 (q := 35) C rfl dX9_cell_34 ?_
    refine gf_X9_9 (q := 38) C rfl dX9_cell_35 ?_
    refine V_iload_n_1 (q := 39) C rfl dX9_cell_38 ?_
    refine V_iald (q := 40) C _ rfl (by show _ < 4; omega) rfl (by decide) (by decide) rfl dX9_cell_39 ?_
    rw [m41]
    refine V_iload_n_3 (q := 41) C rfl dX9_cell_40 ?_
    refine V_icmp_eq (tgt := 50) C rfl (by decide) dX9_cell_41 (fun c41 => ?_) (fun c41 => ?_)
    · refine V_aload_n_0 (q := 51) C rfl dX9_cell_50 ?_
      refine gf_X9_9 (q := 54) C rfl dX9_cell_51 ?_
      refine V_iload_n_1 (q := 55) C rfl dX9_cell_54 ?_
      refine V_iald (q := 56) C _ rfl (by show _ < 4; omega) rfl (by decide) (by decide) rfl dX9_cell_55 ?_
      rw [m41]
      refine V_bipush (q := 58) (v := (-9)) C (by decide) rfl dX9_cell_56 ?_
      refine V_icmp_ne (tgt := 67) C rfl (by decide) dX9_cell_58 (fun c58 => ?_) (fun c58 => ?_)
      · refine V_iload_n_2 (q := 68) C rfl dX9_cell_67 ?_
        refine V_iconst (q := 69) (v := 0) C rfl rfl dX9_cell_68 ?_
        refine V_aload_n_0 (q := 70) C rfl dX9_cell_69 ?_
        refine gf_X9_13 (q := 73) C rfl dX9_cell_70 ?_
        refine V_iload_n_1 (q := 74) C rfl dX9_cell_73 ?_
        refine V_iald (q := 75) C _ rfl (by show _ < 4; omega) rfl (by decide) (by decide) rfl dX9_cell_74 ?_
        refine V_iconst (q := 76) (v := 1) C rfl rfl dX9_cell_75 ?_
        refine V_isub (q := 77) C rfl dX9_cell_76 ?_
        rw [show (setf σ 40 0 0) 42 j = nI L from hL]
        refine V_cS3r (q := 80) C (Ct.mono (v' := some (.int (pI (isT (nI L) i)))) (c_X9_within _ _ _ _) (congrArg (fun z => some (Value.int z)) (pI_congr (wiL hL50))) rfl) cw_X9_within cs_X9_within wm_X9_101 ⟨by decide, by decide⟩ (Nat.le_of_ble_eq_true rfl) rfl dX9_cell_77 ?_
        refine V_ifp_ne (tgt := 89) C rfl (by decide) dX9_cell_80 (fun c80 => ?_) (fun c80 => ?_)
        · obtain ⟨t, ht, et⟩ := isT_of c80 rfl (by omega)
          refine V_aload_n_0 (q := 90) C rfl dX9_cell_89 ?_
          refine gf_X9_16 (q := 93) C rfl dX9_cell_90 ?_
          refine V_bipush (q := 95) (v := 50) C (by decide) rfl dX9_cell_93 ?_
          refine V_iload_n_1 (q := 96) C rfl dX9_cell_95 ?_
          refine V_imul (q := 97) C rfl dX9_cell_96 ?_
          rw [w50]
          refine V_iload_n_2 (q := 98) C rfl dX9_cell_97 ?_
          refine V_iadd (q := 99) C rfl dX9_cell_98 ?_
          rw [et, nI_add]
          refine V_iald (q := 100) C (50 * j + t) rfl (by show _ < 200; omega) rfl (by decide) (by decide) rfl dX9_cell_99 ?_
          refine V_i2l (q := 101) C rfl dX9_cell_100 ?_
          refine V_lret C hR dX9_cell_101 ?_
          have e1 : σ 41 j = a := c41
          refine ⟨by unfold ceM; rw [if_neg (fun h => h.2 e1), if_neg c31, if_neg (nn c80), et, nI_clamp (by omega)]; rfl, ?_⟩
          unfold ceM
          rw [if_neg (fun h => h.2 e1), if_neg c31, if_neg (nn c80)]
        · refine V_aload_n_0 (q := 84) C rfl dX9_cell_83 ?_
          refine V_iconst (q := 85) (v := 3) C rfl rfl dX9_cell_84 ?_
          refine V_cV1r (q := 88) C (Ct.mono (v' := some (.long lostL)) (τ' := setf σ 40 0 3) (c_X9_lost _ 3) rfl setf_setf) cw_X9_lost cv_X9_lost wm_X9_223 (by decide) ob_X9 ⟨by decide, by decide⟩ (Nat.le_of_ble_eq_true rfl) rfl dX9_cell_85 ?_
          refine V_lret C hR dX9_cell_88 ?_
          have e1 : σ 41 j = a := c41
          refine ⟨by unfold ceM; rw [if_neg (fun h => h.2 e1), if_neg c31, if_pos c80], ?_⟩
          unfold ceM
          rw [if_neg (fun h => h.2 e1), if_neg c31, if_pos c80]
      · refine V_aload_n_0 (q := 62) C rfl dX9_cell_61 ?_
        refine V_iconst (q := 63) (v := 1) C rfl rfl dX9_cell_62 ?_
        refine V_cV1r (q := 66) C (Ct.mono (v' := some (.long lostL)) (τ' := setf σ 40 0 1) (c_X9_lost _ 1) rfl setf_setf) cw_X9_lost cv_X9_lost wm_X9_223 (by decide) ob_X9 ⟨by decide, by decide⟩ (Nat.le_of_ble_eq_true rfl) rfl dX9_cell_63 ?_
        refine V_lret C hR dX9_cell_66 ?_
        exact absurd c58 c31
    · refine V_aload_n_0 (q := 45) C rfl dX9_cell_44 ?_
      refine V_iconst (q := 46) (v := 2) C rfl rfl dX9_cell_45 ?_
      refine V_cV1r (q := 49) C (Ct.mono (v' := some (.long lostL)) (τ' := setf σ 40 0 2) (c_X9_lost _ 2) rfl setf_setf) cw_X9_lost cv_X9_lost wm_X9_223 (by decide) ob_X9 ⟨by decide, by decide⟩ (Nat.le_of_ble_eq_true rfl) rfl dX9_cell_46 ?_
      refine V_lret C hR dX9_cell_49 ?_
      refine ⟨by unfold ceM; rw [if_pos ⟨c31, c41⟩], ?_⟩
      unfold ceM
      rw [if_pos ⟨c31, c41⟩]

set_option maxHeartbeats 4000000 in
set_option maxRecDepth 100000 in
theorem c_X9_copy_u {l : Launch} {D : DD} {ad : Nat → Nat} (σ : ST) (k i o e n : Int32) (h : ¬ (isT 4 k ∧ isT 4 o)) : Ct l yX9_copy cX9_copy 10 (Option.some FieldType.int) 2 42 D ad [.ref (ad 40), .int k, .int i, .int o, .int e, .int n] σ (ex (some (.int (-1))) (setf σ 40 0 0)) := by
  refine Ct.of2 [.ref (ad 40), .int k, .int i, .int o, .int e, .int n, .float 0, .float 0, .float 0, .float 0] rfl (Nat.le_of_ble_eq_true rfl) rfl ?_
  rintro X C rfl rfl rfl hxn hR
  refine V_aload_n_0 (q := 1) C rfl dX9_copy_0 ?_
  refine V_iconst (q := 2) (v := 0) C rfl rfl dX9_copy_1 ?_
  refine pf_X9_96 (q := 5) C rfl dX9_copy_2 ?_
  refine V_iload_n_1 (q := 6) C rfl dX9_copy_5 ?_
  refine V_cS1r (q := 9) C (c_X9_isSheet _ _) cw_X9_isSheet cs_X9_isSheet wm_X9_114 ⟨by decide, by decide⟩ (Nat.le_of_ble_eq_true rfl) rfl dX9_copy_6 ?_
  refine V_ifp_eq (tgt := 19) C rfl (by decide) dX9_copy_9 (fun c9 => ?_) (fun c9 => ?_)
  · refine V_iconst (q := 20) (v := (-1)) C rfl rfl dX9_copy_19 ?_
    refine V_iret C hR dX9_copy_20 ?_
    exact ⟨rfl, rfl⟩
  · refine V_iload_n_3 (q := 13) C rfl dX9_copy_12 ?_
    refine V_cS1r (q := 16) C (c_X9_isSheet _ _) cw_X9_isSheet cs_X9_isSheet wm_X9_114 ⟨by decide, by decide⟩ (Nat.le_of_ble_eq_true rfl) rfl dX9_copy_13 ?_
    refine V_ifp_ne (tgt := 21) C rfl (by decide) dX9_copy_16 (fun c16 => ?_) (fun c16 => ?_)
    · exact absurd ⟨c9, c16⟩ h
    · refine V_iconst (q := 20) (v := (-1)) C rfl rfl dX9_copy_19 ?_
      refine V_iret C hR dX9_copy_20 ?_
      exact ⟨rfl, rfl⟩

abbrev hcM (x a n : Int32) : Prop := ¬ a < 0 ∧ ¬ x < a ∧ ¬ n < 0 ∧ ¬ x - a < n
def mvF (g : Nat → Int32) (S D a b t : Nat) : Int32 := if D + a ≤ t ∧ t < D + b then g (S + (t - D)) else g t
theorem mvF_0 {g : Nat → Int32} {S D a : Nat} : mvF g S D a a = g := funext fun t => if_neg (by omega)
theorem mvF_up {g : Nat → Int32} {S D a b : Nat} (h : a ≤ b) (hS : mvF g S D a b (S + b) = g (S + b)) : upd (mvF g S D a b) (D + b) (mvF g S D a b (S + b)) = mvF g S D a (b + 1) := funext fun t => by
  rw [hS]
  unfold upd
  by_cases e : t = D + b
  · rw [if_pos e]
    unfold mvF
    rw [if_pos ⟨by omega, by omega⟩, show t - D = b by omega]
  · rw [if_neg e]
    unfold mvF
    by_cases h2 : D + a ≤ t ∧ t < D + b
    · rw [if_pos h2, if_pos ⟨h2.1, by omega⟩]
    · rw [if_neg h2, if_neg (by omega)]
theorem mvF_dn {g : Nat → Int32} {S D a b : Nat} (h : a < b) (hS : mvF g S D (a + 1) b (S + a) = g (S + a)) : upd (mvF g S D (a + 1) b) (D + a) (mvF g S D (a + 1) b (S + a)) = mvF g S D a b := funext fun t => by
  rw [hS]
  unfold upd
  by_cases e : t = D + a
  · rw [if_pos e]
    unfold mvF
    rw [if_pos ⟨by omega, by omega⟩, show t - D = a by omega]
  · rw [if_neg e]
    unfold mvF
    by_cases h2 : D + (a + 1) ≤ t ∧ t < D + b
    · rw [if_pos h2, if_pos ⟨by omega, h2.2⟩]
    · rw [if_neg h2, if_neg (by omega)]
def cpM (σ : ST) (j j2 : Nat) (i e n : Int32) : Int32 × ST := if σ 41 j = -9 ∨ σ 41 j2 = -9 then (-11, setf σ 40 0 1) else if ¬ σ 41 j = σ 41 j2 then (-12, setf σ 40 0 2) else if ¬ (hcM (σ 42 j) i n ∧ hcM (σ 42 j2) e n) then (-13, setf σ 40 0 3) else (n, setc (setf σ 40 0 0) 43 (mvF (σ 43) (50 * j + i.toNatClampNeg) (50 * j2 + e.toNatClampNeg) 0 n.toNatClampNeg))

set_option maxHeartbeats 4000000 in
set_option maxRecDepth 100000 in
theorem c_X9_copy_v {l : Launch} {D : DD} {ad : Nat → Nat} (σ : ST) (j j2 : Nat) (i e n : Int32) (hj : j < 4) (hj2 : j2 < 4) (L L2 : Nat) (hL : σ 42 j = nI L) (hL50 : L ≤ 50) (hL2 : σ 42 j2 = nI L2) (hL250 : L2 ≤ 50) : Ct l yX9_copy cX9_copy 10 (Option.some FieldType.int) 2 42 D ad [.ref (ad 40), .int (nI j), .int i, .int (nI j2), .int e, .int n] σ (ex (some (.int (cpM σ j j2 i e n).1)) (cpM σ j j2 i e n).2) := by
  refine Ct.of2 [.ref (ad 40), .int (nI j), .int i, .int (nI j2), .int e, .int n, .float 0, .float 0, .float 0, .float 0] rfl (Nat.le_of_ble_eq_true rfl) rfl ?_
  rintro X C rfl rfl rfl hxn hR
  have hn6 : 6 < xn X := by rw [← hxn]; decide
  have hn7 : 7 < xn X := by rw [← hxn]; decide
  have hn8 : 8 < xn X := by rw [← hxn]; decide
  have hn9 : 9 < xn X := by rw [← hxn]; decide
  refine V_aload_n_0 (q := 1) C rfl dX9_copy_0 ?_
  refine V_iconst (q := 2) (v := 0) C rfl rfl dX9_copy_1 ?_
  refine pf_X9_96 (q := 5) C rfl dX9_copy_2 ?_
  refine V_iload_n_1 (q := 6) C rfl dX9_copy_5 ?_
  refine V_cS1r (q := 9) C (c_X9_isSheet _ _) cw_X9_isSheet cs_X9_isSheet wm_X9_114 ⟨by decide, by decide⟩ (Nat.le_of_ble_eq_true rfl) rfl dX9_copy_6 ?_
  refine V_ifp_eq_f (tgt := 19) C (isT_nI (N := 4) hj (by decide)) rfl (by decide) dX9_copy_9 ?_
  refine V_iload_n_3 (q := 13) C rfl dX9_copy_12 ?_
  refine V_cS1r (q := 16) C (c_X9_isSheet _ _) cw_X9_isSheet cs_X9_isSheet wm_X9_114 ⟨by decide, by decide⟩ (Nat.le_of_ble_eq_true rfl) rfl dX9_copy_13 ?_
  refine V_ifp_ne_t (tgt := 21) C (isT_nI (N := 4) hj2 (by decide)) (by decide) dX9_copy_16 ?_
  refine V_aload_n_0 (q := 22) C rfl dX9_copy_21 ?_
  refine gf_X9_9 (q := 25) C rfl dX9_copy_22 ?_
  refine V_iload_n_1 (q := 26) C rfl dX9_copy_25 ?_
  refine V_iald (q := 27) C _ rfl (by show _ < 4; omega) rfl (by decide) (by decide) rfl dX9_copy_26 ?_
  rw [m41]
  refine V_bipush (q := 29) (v := (-9)) C (by decide) rfl dX9_copy_27 ?_
  refine V_icmp_eq (tgt := 43) C rfl (by decide) dX9_copy_29 (fun c29 => ?_) (fun c29 => ?_)
  · refine V_aload_n_0 (q := 44) C rfl dX9_copy_43 ?_
    refine V_iconst (q := 45) (v := 1) C rfl rfl dX9_copy_44 ?_
    refine V_cV1r (q := 48) C (Ct.mono (v' := some (.int (-11))) (τ' := setf σ 40 0 1) (c_X9_fails _ 1) rfl setf_setf) cw_X9_fails cv_X9_fails wm_X9_125 (by decide) ob_X9 ⟨by decide, by decide⟩ (Nat.le_of_ble_eq_true rfl) rfl dX9_copy_45 ?_
    refine V_iret C hR dX9_copy_48 ?_
    have e0 : σ 41 j = -9 ∨ σ 41 j2 = -9 := Or.inl c29
    refine ⟨by unfold cpM; rw [if_pos e0], ?_⟩
    unfold cpM
    rw [if_pos e0]
  · refine V_aload_n_0 (q := 33) C rfl dX9_copy_32 ?_
    refine gf_X9_9 (q := 36) C rfl dX9_copy_33 ?_
    refine V_iload_n_3 (q := 37) C rfl dX9_copy_36 ?_
    refine V_iald (q := 38) C _ rfl (by show _ < 4; omega) rfl (by decide) (by decide) rfl dX9_copy_37 ?_
    rw [m41]
    refine V_bipush (q := 40) (v := (-9)) C (by decide) rfl dX9_copy_38 ?_
    refine V_icmp_ne (tgt := 49) C rfl (by decide) dX9_copy_40 (fun c40 => ?_) (fun c40 => ?_)
    · refine V_aload_n_0 (q := 50) C rfl dX9_copy_49 ?_
      refine gf_X9_9 (q := 53) C rfl dX9_copy_50 ?_
      refine V_iload_n_1 (q := 54) C rfl dX9_copy_53 ?_
      refine V_iald (q := 55) C _ rfl (by show _ < 4; omega) rfl (by decide) (by decide) rfl dX9_copy_54 ?_
      rw [m41]
      refine V_aload_n_0 (q := 56) C rfl dX9_copy_55 ?_
      refine gf_X9_9 (q := 59) C rfl dX9_copy_56 ?_
      refine V_iload_n_3 (q := 60) C rfl dX9_copy_59 ?_
      refine V_iald (q := 61) C _ rfl (by show _ < 4; omega) rfl (by decide) (by decide) rfl dX9_copy_60 ?_
      rw [m41]
      refine V_icmp_eq (tgt := 70) C rfl (by decide) dX9_copy_61 (fun c61 => ?_) (fun c61 => ?_)
      · refine V_iload_n_2 (q := 71) C rfl dX9_copy_70 ?_
        refine V_if_lt (tgt := 109) C rfl (by decide) dX9_copy_71 (fun c71 => ?_) (fun c71 => ?_)
        · refine V_iconst (q := 110) (v := 0) C rfl rfl dX9_copy_109 ?_
          refine V_istore_6 (q := 112) C hn6 rfl rfl dX9_copy_110 ?_
          refine V_iload_6 (q := 114) C rfl dX9_copy_112 ?_
          refine V_if_eq_t (tgt := 144) C rfl (by decide) dX9_copy_114 ?_
          refine V_aload_n_0 (q := 145) C rfl dX9_copy_144 ?_
          refine V_iconst (q := 146) (v := 3) C rfl rfl dX9_copy_145 ?_
          refine V_cV1r (q := 149) C (Ct.mono (v' := some (.int (-13))) (τ' := setf σ 40 0 3) (c_X9_fails _ 3) rfl setf_setf) cw_X9_fails cv_X9_fails wm_X9_125 (by decide) ob_X9 ⟨by decide, by decide⟩ (Nat.le_of_ble_eq_true rfl) rfl dX9_copy_146 ?_
          refine V_iret C hR dX9_copy_149 ?_
          have e1 : ¬ (σ 41 j = -9 ∨ σ 41 j2 = -9) := fun h => h.elim c29 c40
          have e2 : σ 41 j = σ 41 j2 := c61
          refine ⟨by unfold cpM; rw [if_neg e1, if_neg (nn e2), if_pos (fun h => h.1.1 c71)], ?_⟩
          unfold cpM
          rw [if_neg e1, if_neg (nn e2), if_pos (fun h => h.1.1 c71)]
        · refine V_iload_4 (q := 76) C rfl dX9_copy_74 ?_
          refine V_if_lt (tgt := 109) C rfl (by decide) dX9_copy_76 (fun c76 => ?_) (fun c76 => ?_)
          · refine V_iconst (q := 110) (v := 0) C rfl rfl dX9_copy_109 ?_
            refine V_istore_6 (q := 112) C hn6 rfl rfl dX9_copy_110 ?_
            refine V_iload_6 (q := 114) C rfl dX9_copy_112 ?_
            refine V_if_eq_t (tgt := 144) C rfl (by decide) dX9_copy_114 ?_
            refine V_aload_n_0 (q := 145) C rfl dX9_copy_144 ?_
            refine V_iconst (q := 146) (v := 3) C rfl rfl dX9_copy_145 ?_
            refine V_cV1r (q := 149) C (Ct.mono (v' := some (.int (-13))) (τ' := setf σ 40 0 3) (c_X9_fails _ 3) rfl setf_setf) cw_X9_fails cv_X9_fails wm_X9_125 (by decide) ob_X9 ⟨by decide, by decide⟩ (Nat.le_of_ble_eq_true rfl) rfl dX9_copy_146 ?_
            refine V_iret C hR dX9_copy_149 ?_
            have e1 : ¬ (σ 41 j = -9 ∨ σ 41 j2 = -9) := fun h => h.elim c29 c40
            have e2 : σ 41 j = σ 41 j2 := c61
            refine ⟨by unfold cpM; rw [if_neg e1, if_neg (nn e2), if_pos (fun h => h.2.1 c76)], ?_⟩
            unfold cpM
            rw [if_neg e1, if_neg (nn e2), if_pos (fun h => h.2.1 c76)]
          · refine V_iload_5 (q := 81) C rfl dX9_copy_79 ?_
            refine V_if_lt (tgt := 109) C rfl (by decide) dX9_copy_81 (fun c81 => ?_) (fun c81 => ?_)
            · refine V_iconst (q := 110) (v := 0) C rfl rfl dX9_copy_109 ?_
              refine V_istore_6 (q := 112) C hn6 rfl rfl dX9_copy_110 ?_
              refine V_iload_6 (q := 114) C rfl dX9_copy_112 ?_
              refine V_if_eq_t (tgt := 144) C rfl (by decide) dX9_copy_114 ?_
              refine V_aload_n_0 (q := 145) C rfl dX9_copy_144 ?_
              refine V_iconst (q := 146) (v := 3) C rfl rfl dX9_copy_145 ?_
              refine V_cV1r (q := 149) C (Ct.mono (v' := some (.int (-13))) (τ' := setf σ 40 0 3) (c_X9_fails _ 3) rfl setf_setf) cw_X9_fails cv_X9_fails wm_X9_125 (by decide) ob_X9 ⟨by decide, by decide⟩ (Nat.le_of_ble_eq_true rfl) rfl dX9_copy_146 ?_
              refine V_iret C hR dX9_copy_149 ?_
              have e1 : ¬ (σ 41 j = -9 ∨ σ 41 j2 = -9) := fun h => h.elim c29 c40
              have e2 : σ 41 j = σ 41 j2 := c61
              refine ⟨by unfold cpM; rw [if_neg e1, if_neg (nn e2), if_pos (fun h => h.1.2.2.1 c81)], ?_⟩
              unfold cpM
              rw [if_neg e1, if_neg (nn e2), if_pos (fun h => h.1.2.2.1 c81)]
            · refine V_iload_n_2 (q := 85) C rfl dX9_copy_84 ?_
              refine V_aload_n_0 (q := 86) C rfl dX9_copy_85 ?_
              refine gf_X9_13 (q := 89) C rfl dX9_copy_86 ?_
              refine V_iload_n_1 (q := 90) C rfl dX9_copy_89 ?_
              refine V_iald (q := 91) C _ rfl (by show _ < 4; omega) rfl (by decide) (by decide) rfl dX9_copy_90 ?_
              rw [m42]
              refine V_icmp_gt (tgt := 109) C rfl (by decide) dX9_copy_91 (fun c91 => ?_) (fun c91 => ?_)
              · refine V_iconst (q := 110) (v := 0) C rfl rfl dX9_copy_109 ?_
                refine V_istore_6 (q := 112) C hn6 rfl rfl dX9_copy_110 ?_
                refine V_iload_6 (q := 114) C rfl dX9_copy_112 ?_
                refine V_if_eq_t (tgt := 144) C rfl (by decide) dX9_copy_114 ?_
                refine V_aload_n_0 (q := 145) C rfl dX9_copy_144 ?_
                refine V_iconst (q := 146) (v := 3) C rfl rfl dX9_copy_145 ?_
                refine V_cV1r (q := 149) C (Ct.mono (v' := some (.int (-13))) (τ' := setf σ 40 0 3) (c_X9_fails _ 3) rfl setf_setf) cw_X9_fails cv_X9_fails wm_X9_125 (by decide) ob_X9 ⟨by decide, by decide⟩ (Nat.le_of_ble_eq_true rfl) rfl dX9_copy_146 ?_
                refine V_iret C hR dX9_copy_149 ?_
                have e1 : ¬ (σ 41 j = -9 ∨ σ 41 j2 = -9) := fun h => h.elim c29 c40
                have e2 : σ 41 j = σ 41 j2 := c61
                refine ⟨by unfold cpM; rw [if_neg e1, if_neg (nn e2), if_pos (fun h => h.1.2.1 c91)], ?_⟩
                unfold cpM
                rw [if_neg e1, if_neg (nn e2), if_pos (fun h => h.1.2.1 c91)]
              · refine V_iload_4 (q := 96) C rfl dX9_copy_94 ?_
                refine V_aload_n_0 (q := 97) C rfl dX9_copy_96 ?_
                refine gf_X9_13 (q := 100) C rfl dX9_copy_97 ?_
                refine V_iload_n_3 (q := 101) C rfl dX9_copy_100 ?_
                refine V_iald (q := 102) C _ rfl (by show _ < 4; omega) rfl (by decide) (by decide) rfl dX9_copy_101 ?_
                rw [m42]
                refine V_icmp_gt (tgt := 109) C rfl (by decide) dX9_copy_102 (fun c102 => ?_) (fun c102 => ?_)
                · refine V_iconst (q := 110) (v := 0) C rfl rfl dX9_copy_109 ?_
                  refine V_istore_6 (q := 112) C hn6 rfl rfl dX9_copy_110 ?_
                  refine V_iload_6 (q := 114) C rfl dX9_copy_112 ?_
                  refine V_if_eq_t (tgt := 144) C rfl (by decide) dX9_copy_114 ?_
                  refine V_aload_n_0 (q := 145) C rfl dX9_copy_144 ?_
                  refine V_iconst (q := 146) (v := 3) C rfl rfl dX9_copy_145 ?_
                  refine V_cV1r (q := 149) C (Ct.mono (v' := some (.int (-13))) (τ' := setf σ 40 0 3) (c_X9_fails _ 3) rfl setf_setf) cw_X9_fails cv_X9_fails wm_X9_125 (by decide) ob_X9 ⟨by decide, by decide⟩ (Nat.le_of_ble_eq_true rfl) rfl dX9_copy_146 ?_
                  refine V_iret C hR dX9_copy_149 ?_
                  have e1 : ¬ (σ 41 j = -9 ∨ σ 41 j2 = -9) := fun h => h.elim c29 c40
                  have e2 : σ 41 j = σ 41 j2 := c61
                  refine ⟨by unfold cpM; rw [if_neg e1, if_neg (nn e2), if_pos (fun h => h.2.2.1 c102)], ?_⟩
                  unfold cpM
                  rw [if_neg e1, if_neg (nn e2), if_pos (fun h => h.2.2.1 c102)]
                · refine V_iconst (q := 106) (v := 1) C rfl rfl dX9_copy_105 ?_
                  refine V_goto (tgt := 110) C (by decide) dX9_copy_106 ?_
                  refine V_istore_6 (q := 112) C hn6 rfl rfl dX9_copy_110 ?_
                  refine V_iload_6 (q := 114) C rfl dX9_copy_112 ?_
                  refine V_if_eq_f (tgt := 144) C (by decide) rfl (by decide) dX9_copy_114 ?_
                  refine V_iload_5 (q := 119) C rfl dX9_copy_117 ?_
                  refine V_aload_n_0 (q := 120) C rfl dX9_copy_119 ?_
                  refine gf_X9_13 (q := 123) C rfl dX9_copy_120 ?_
                  refine V_iload_n_1 (q := 124) C rfl dX9_copy_123 ?_
                  refine V_iald (q := 125) C _ rfl (by show _ < 4; omega) rfl (by decide) (by decide) rfl dX9_copy_124 ?_
                  rw [m42]
                  refine V_iload_n_2 (q := 126) C rfl dX9_copy_125 ?_
                  refine V_isub (q := 127) C rfl dX9_copy_126 ?_
                  refine V_icmp_gt (tgt := 144) C rfl (by decide) dX9_copy_127 (fun c127 => ?_) (fun c127 => ?_)
                  · refine V_aload_n_0 (q := 145) C rfl dX9_copy_144 ?_
                    refine V_iconst (q := 146) (v := 3) C rfl rfl dX9_copy_145 ?_
                    refine V_cV1r (q := 149) C (Ct.mono (v' := some (.int (-13))) (τ' := setf σ 40 0 3) (c_X9_fails _ 3) rfl setf_setf) cw_X9_fails cv_X9_fails wm_X9_125 (by decide) ob_X9 ⟨by decide, by decide⟩ (Nat.le_of_ble_eq_true rfl) rfl dX9_copy_146 ?_
                    refine V_iret C hR dX9_copy_149 ?_
                    have e1 : ¬ (σ 41 j = -9 ∨ σ 41 j2 = -9) := fun h => h.elim c29 c40
                    have e2 : σ 41 j = σ 41 j2 := c61
                    refine ⟨by unfold cpM; rw [if_neg e1, if_neg (nn e2), if_pos (fun h => h.1.2.2.2 c127)], ?_⟩
                    unfold cpM
                    rw [if_neg e1, if_neg (nn e2), if_pos (fun h => h.1.2.2.2 c127)]
                  · refine V_iload_5 (q := 132) C rfl dX9_copy_130 ?_
                    refine V_aload_n_0 (q := 133) C rfl dX9_copy_132 ?_
                    refine gf_X9_13 (q := 136) C rfl dX9_copy_133 ?_
                    refine V_iload_n_3 (q := 137) C rfl dX9_copy_136 ?_
                    refine V_iald (q := 138) C _ rfl (by show _ < 4; omega) rfl (by decide) (by decide) rfl dX9_copy_137 ?_
                    rw [m42]
                    refine V_iload_4 (q := 140) C rfl dX9_copy_138 ?_
                    refine V_isub (q := 141) C rfl dX9_copy_140 ?_
                    refine V_icmp_le (tgt := 150) C rfl (by decide) dX9_copy_141 (fun c141 => ?_) (fun c141 => ?_)
                    · have hc : hcM (nI L) i n := by rw [← hL]; exact ⟨c71, Int32.not_lt.mpr (Int32.not_lt.mp c91), c81, Int32.not_lt.mpr (Int32.not_lt.mp c127)⟩
                      obtain ⟨t, m, rfl, rfl, htm⟩ := (hcN hL50).mp hc
                      have hc2 : hcM (nI L2) e (nI m) := by rw [← hL2]; exact ⟨c76, Int32.not_lt.mpr (Int32.not_lt.mp c102), c81, Int32.not_lt.mpr c141⟩
                      obtain ⟨t2, m2, rfl, emm, htm2⟩ := (hcN hL250).mp hc2
                      have emm2 : m = m2 := (nI_eq (by omega) (by omega)).mp emm
                      subst emm2
                      refine V_iload_n_2 (q := 151) C rfl dX9_copy_150 ?_
                      refine V_iload_4 (q := 153) C rfl dX9_copy_151 ?_
                      refine V_icmp_ge (tgt := 160) C rfl (by decide) dX9_copy_153 (fun c153 => ?_) (fun c153 => ?_)
                      · refine V_iconst (q := 161) (v := 0) C rfl rfl dX9_copy_160 ?_
                        refine V_istore_7 (q := 163) C hn7 rfl rfl dX9_copy_161 ?_
                        have hge : t2 ≤ t := by rcases Nat.lt_or_ge t t2 with h | h; exact absurd c153 (nI_ge h (by omega)); exact h
                        refine V_iconst (q := 164) (v := (nI 0)) C rfl rfl dX9_copy_163 ?_
                        refine V_istore_8 (q := 166) C hn8 rfl rfl dX9_copy_164 ?_
                        have hx166 : V X 166 [.ref (xad X 40), .int (nI j), .int (nI t), .int (nI j2), .int (nI t2), .int (nI m), .int 1, .int 0, .int (nI m), .float 0] [] (setc (setf σ 40 0 0) 43 (mvF (σ 43) (50 * j + t) (50 * j2 + t2) 0 m)) := by
                          refine V_iload_8 (q := 168) C rfl dX9_copy_166 ?_
                          refine V_iload_5 (q := 170) C rfl dX9_copy_168 ?_
                          refine V_icmp_ge_t (tgt := 227) C (nI_le (Nat.le_refl _) (by omega)) (by decide) dX9_copy_170 ?_
                          refine V_iload_5 (q := 229) C rfl dX9_copy_227 ?_
                          refine V_iret C hR dX9_copy_229 ?_
                          have e1 : ¬ (σ 41 j = -9 ∨ σ 41 j2 = -9) := fun h => h.elim c29 c40
                          have e2 : σ 41 j = σ 41 j2 := c61
                          refine ⟨by unfold cpM; rw [if_neg e1, if_neg (nn e2), if_neg (nn ⟨hL.symm ▸ hc, hL2.symm ▸ hc2⟩)], ?_⟩
                          unfold cpM
                          rw [if_neg e1, if_neg (nn e2), if_neg (nn ⟨hL.symm ▸ hc, hL2.symm ▸ hc2⟩), nI_clamp (by omega), nI_clamp (by omega), nI_clamp (by omega)]
                        have hs166 : ∀ q : Nat, q < m → (V X 166 [.ref (xad X 40), .int (nI j), .int (nI t), .int (nI j2), .int (nI t2), .int (nI m), .int 1, .int 0, .int (nI (q + 1)), .float 0] [] (setc (setf σ 40 0 0) 43 (mvF (σ 43) (50 * j + t) (50 * j2 + t2) 0 (q + 1)))) → V X 166 [.ref (xad X 40), .int (nI j), .int (nI t), .int (nI j2), .int (nI t2), .int (nI m), .int 1, .int 0, .int (nI q), .float 0] [] (setc (setf σ 40 0 0) 43 (mvF (σ 43) (50 * j + t) (50 * j2 + t2) 0 q)) := by
                          intro q hi166 ih166
                          refine V_iload_8 (q := 168) C rfl dX9_copy_166 ?_
                          refine V_iload_5 (q := 170) C rfl dX9_copy_168 ?_
                          refine V_icmp_ge_f (tgt := 227) C (nI_ge hi166 (by omega)) rfl (by decide) dX9_copy_170 ?_
                          refine V_iload_7 (q := 175) C rfl dX9_copy_173 ?_
                          refine V_if_eq_t (tgt := 188) C rfl (by decide) dX9_copy_175 ?_
                          refine V_iload_8 (q := 190) C rfl dX9_copy_188 ?_
                          refine V_istore_9 (q := 192) C hn9 rfl rfl dX9_copy_190 ?_
                          refine V_aload_n_0 (q := 193) C rfl dX9_copy_192 ?_
                          refine gf_X9_16 (q := 196) C rfl dX9_copy_193 ?_
                          refine V_bipush (q := 198) (v := 50) C (by decide) rfl dX9_copy_196 ?_
                          refine V_iload_n_3 (q := 199) C rfl dX9_copy_198 ?_
                          refine V_imul (q := 200) C rfl dX9_copy_199 ?_
                          rw [w50]
                          refine V_iload_4 (q := 202) C rfl dX9_copy_200 ?_
                          refine V_iadd (q := 203) C rfl dX9_copy_202 ?_
                          rw [nI_add]
                          refine V_iload_9 (q := 205) C rfl dX9_copy_203 ?_
                          refine V_iadd (q := 206) C rfl dX9_copy_205 ?_
                          rw [nI_add]
                          refine V_aload_n_0 (q := 207) C rfl dX9_copy_206 ?_
                          refine gf_X9_16 (q := 210) C rfl dX9_copy_207 ?_
                          refine V_bipush (q := 212) (v := 50) C (by decide) rfl dX9_copy_210 ?_
                          refine V_iload_n_1 (q := 213) C rfl dX9_copy_212 ?_
                          refine V_imul (q := 214) C rfl dX9_copy_213 ?_
                          rw [w50]
                          refine V_iload_n_2 (q := 215) C rfl dX9_copy_214 ?_
                          refine V_iadd (q := 216) C rfl dX9_copy_215 ?_
                          rw [nI_add]
                          refine V_iload_9 (q := 218) C rfl dX9_copy_216 ?_
                          refine V_iadd (q := 219) C rfl dX9_copy_218 ?_
                          rw [nI_add]
                          refine V_iald (q := 220) C (50 * j + t + q) rfl (by show _ < 200; omega) rfl (by decide) (by decide) rfl dX9_copy_219 ?_
                          refine V_iast (q := 221) C (50 * j2 + t2 + q) rfl (by show _ < 200; omega) rfl (by decide) (by decide) rfl dX9_copy_220 ?_
                          refine V_iinc_8 (q := 224) (n := 1) C nI_inc hn8 rfl rfl dX9_copy_221 ?_
                          refine V_goto (tgt := 166) C (by decide) dX9_copy_224 ?_
                          refine V_weak10 (V_eq ?_ ih166)
                          show setc (setc (setf σ 40 0 0) 43 (mvF (σ 43) (50 * j + t) (50 * j2 + t2) 0 q)) 43 (upd (mvF (σ 43) (50 * j + t) (50 * j2 + t2) 0 q) (50 * j2 + t2 + q) (mvF (σ 43) (50 * j + t) (50 * j2 + t2) 0 q (50 * j + t + q))) = _
                          rw [setc_setc, mvF_up (Nat.zero_le _) (if_neg (by rcases Nat.lt_trichotomy j j2 with h | h | h <;> omega))]
                        exact V_eq (by rw [mvF_0]; exact (setc_id (σ := setf σ 40 0 0) (k := 43)).symm) (loopN (P := fun q => V X 166 [.ref (xad X 40), .int (nI j), .int (nI t), .int (nI j2), .int (nI t2), .int (nI m), .int 1, .int 0, .int (nI q), .float 0] [] (setc (setf σ 40 0 0) 43 (mvF (σ 43) (50 * j + t) (50 * j2 + t2) 0 q))) (m) hx166 hs166 0 (Nat.zero_le _))
                      · refine V_iconst (q := 157) (v := 1) C rfl rfl dX9_copy_156 ?_
                        refine V_goto (tgt := 161) C (by decide) dX9_copy_157 ?_
                        refine V_istore_7 (q := 163) C hn7 rfl rfl dX9_copy_161 ?_
                        have hlt : t < t2 := by rcases Nat.lt_or_ge t t2 with h | h; exact h; exact absurd (nI_le h (by omega)) c153
                        refine V_iconst (q := 164) (v := (nI 0)) C rfl rfl dX9_copy_163 ?_
                        refine V_istore_8 (q := 166) C hn8 rfl rfl dX9_copy_164 ?_
                        have hx166 : V X 166 [.ref (xad X 40), .int (nI j), .int (nI t), .int (nI j2), .int (nI t2), .int (nI m), .int 1, .int 1, .int (nI m), .float 0] [] (setc (setf σ 40 0 0) 43 (mvF (σ 43) (50 * j + t) (50 * j2 + t2) (m - m) m)) := by
                          refine V_iload_8 (q := 168) C rfl dX9_copy_166 ?_
                          refine V_iload_5 (q := 170) C rfl dX9_copy_168 ?_
                          refine V_icmp_ge_t (tgt := 227) C (nI_le (Nat.le_refl _) (by omega)) (by decide) dX9_copy_170 ?_
                          refine V_iload_5 (q := 229) C rfl dX9_copy_227 ?_
                          refine V_iret C hR dX9_copy_229 ?_
                          have e1 : ¬ (σ 41 j = -9 ∨ σ 41 j2 = -9) := fun h => h.elim c29 c40
                          have e2 : σ 41 j = σ 41 j2 := c61
                          refine ⟨by unfold cpM; rw [if_neg e1, if_neg (nn e2), if_neg (nn ⟨hL.symm ▸ hc, hL2.symm ▸ hc2⟩)], ?_⟩
                          unfold cpM
                          rw [if_neg e1, if_neg (nn e2), if_neg (nn ⟨hL.symm ▸ hc, hL2.symm ▸ hc2⟩), nI_clamp (by omega), nI_clamp (by omega), nI_clamp (by omega), Nat.sub_self]
                        have hs166 : ∀ q : Nat, q < m → (V X 166 [.ref (xad X 40), .int (nI j), .int (nI t), .int (nI j2), .int (nI t2), .int (nI m), .int 1, .int 1, .int (nI (q + 1)), .float 0] [] (setc (setf σ 40 0 0) 43 (mvF (σ 43) (50 * j + t) (50 * j2 + t2) (m - (q + 1)) m))) → V X 166 [.ref (xad X 40), .int (nI j), .int (nI t), .int (nI j2), .int (nI t2), .int (nI m), .int 1, .int 1, .int (nI q), .float 0] [] (setc (setf σ 40 0 0) 43 (mvF (σ 43) (50 * j + t) (50 * j2 + t2) (m - q) m)) := by
                          intro q hi166 ih166
                          refine V_iload_8 (q := 168) C rfl dX9_copy_166 ?_
                          refine V_iload_5 (q := 170) C rfl dX9_copy_168 ?_
                          refine V_icmp_ge_f (tgt := 227) C (nI_ge hi166 (by omega)) rfl (by decide) dX9_copy_170 ?_
                          refine V_iload_7 (q := 175) C rfl dX9_copy_173 ?_
                          refine V_if_eq_f (tgt := 188) C (by decide) rfl (by decide) dX9_copy_175 ?_
                          refine V_iload_5 (q := 180) C rfl dX9_copy_178 ?_
                          refine V_iconst (q := 181) (v := 1) C rfl rfl dX9_copy_180 ?_
                          refine V_isub (q := 182) C rfl dX9_copy_181 ?_
                          rw [show nI m - 1 = nI (m - 1) from pk_sub (b := 1) (by omega)]
                          refine V_iload_8 (q := 184) C rfl dX9_copy_182 ?_
                          refine V_isub (q := 185) C rfl dX9_copy_184 ?_
                          rw [show nI (m - 1) - nI q = nI (m - (q + 1)) from by rw [pk_sub (by omega)]; congr 1; omega]
                          refine V_goto (tgt := 190) C (by decide) dX9_copy_185 ?_
                          refine V_istore_9 (q := 192) C hn9 rfl rfl dX9_copy_190 ?_
                          refine V_aload_n_0 (q := 193) C rfl dX9_copy_192 ?_
                          refine gf_X9_16 (q := 196) C rfl dX9_copy_193 ?_
                          refine V_bipush (q := 198) (v := 50) C (by decide) rfl dX9_copy_196 ?_
                          refine V_iload_n_3 (q := 199) C rfl dX9_copy_198 ?_
                          refine V_imul (q := 200) C rfl dX9_copy_199 ?_
                          rw [w50]
                          refine V_iload_4 (q := 202) C rfl dX9_copy_200 ?_
                          refine V_iadd (q := 203) C rfl dX9_copy_202 ?_
                          rw [nI_add]
                          refine V_iload_9 (q := 205) C rfl dX9_copy_203 ?_
                          refine V_iadd (q := 206) C rfl dX9_copy_205 ?_
                          rw [nI_add]
                          refine V_aload_n_0 (q := 207) C rfl dX9_copy_206 ?_
                          refine gf_X9_16 (q := 210) C rfl dX9_copy_207 ?_
                          refine V_bipush (q := 212) (v := 50) C (by decide) rfl dX9_copy_210 ?_
                          refine V_iload_n_1 (q := 213) C rfl dX9_copy_212 ?_
                          refine V_imul (q := 214) C rfl dX9_copy_213 ?_
                          rw [w50]
                          refine V_iload_n_2 (q := 215) C rfl dX9_copy_214 ?_
                          refine V_iadd (q := 216) C rfl dX9_copy_215 ?_
                          rw [nI_add]
                          refine V_iload_9 (q := 218) C rfl dX9_copy_216 ?_
                          refine V_iadd (q := 219) C rfl dX9_copy_218 ?_
                          rw [nI_add]
                          refine V_iald (q := 220) C (50 * j + t + (m - (q + 1))) rfl (by show _ < 200; omega) rfl (by decide) (by decide) rfl dX9_copy_219 ?_
                          refine V_iast (q := 221) C (50 * j2 + t2 + (m - (q + 1))) rfl (by show _ < 200; omega) rfl (by decide) (by decide) rfl dX9_copy_220 ?_
                          refine V_iinc_8 (q := 224) (n := 1) C nI_inc hn8 rfl rfl dX9_copy_221 ?_
                          refine V_goto (tgt := 166) C (by decide) dX9_copy_224 ?_
                          refine V_weak10 (V_eq ?_ ih166)
                          have hmq : m - q = (m - (q + 1)) + 1 := by omega
                          show setc (setc (setf σ 40 0 0) 43 (mvF (σ 43) (50 * j + t) (50 * j2 + t2) (m - q) m)) 43 (upd (mvF (σ 43) (50 * j + t) (50 * j2 + t2) (m - q) m) (50 * j2 + t2 + (m - (q + 1))) (mvF (σ 43) (50 * j + t) (50 * j2 + t2) (m - q) m (50 * j + t + (m - (q + 1))))) = _
                          rw [setc_setc, hmq, mvF_dn (by omega) (if_neg (by rcases Nat.lt_trichotomy j j2 with h | h | h <;> omega))]
                        exact V_eq (by rw [Nat.sub_zero, mvF_0]; exact (setc_id (σ := setf σ 40 0 0) (k := 43)).symm) (loopN (P := fun q => V X 166 [.ref (xad X 40), .int (nI j), .int (nI t), .int (nI j2), .int (nI t2), .int (nI m), .int 1, .int 1, .int (nI q), .float 0] [] (setc (setf σ 40 0 0) 43 (mvF (σ 43) (50 * j + t) (50 * j2 + t2) (m - q) m))) (m) hx166 hs166 0 (Nat.zero_le _))
                    · refine V_aload_n_0 (q := 145) C rfl dX9_copy_144 ?_
                      refine V_iconst (q := 146) (v := 3) C rfl rfl dX9_copy_145 ?_
                      refine V_cV1r (q := 149) C (Ct.mono (v' := some (.int (-13))) (τ' := setf σ 40 0 3) (c_X9_fails _ 3) rfl setf_setf) cw_X9_fails cv_X9_fails wm_X9_125 (by decide) ob_X9 ⟨by decide, by decide⟩ (Nat.le_of_ble_eq_true rfl) rfl dX9_copy_146 ?_
                      refine V_iret C hR dX9_copy_149 ?_
                      have e1 : ¬ (σ 41 j = -9 ∨ σ 41 j2 = -9) := fun h => h.elim c29 c40
                      have e2 : σ 41 j = σ 41 j2 := c61
                      refine ⟨by unfold cpM; rw [if_neg e1, if_neg (nn e2), if_pos (fun h => h.2.2.2.2 (Int32.not_le.mp c141))], ?_⟩
                      unfold cpM
                      rw [if_neg e1, if_neg (nn e2), if_pos (fun h => h.2.2.2.2 (Int32.not_le.mp c141))]
      · refine V_aload_n_0 (q := 65) C rfl dX9_copy_64 ?_
        refine V_iconst (q := 66) (v := 2) C rfl rfl dX9_copy_65 ?_
        refine V_cV1r (q := 69) C (Ct.mono (v' := some (.int (-12))) (τ' := setf σ 40 0 2) (c_X9_fails _ 2) rfl setf_setf) cw_X9_fails cv_X9_fails wm_X9_125 (by decide) ob_X9 ⟨by decide, by decide⟩ (Nat.le_of_ble_eq_true rfl) rfl dX9_copy_66 ?_
        refine V_iret C hR dX9_copy_69 ?_
        have e1 : ¬ (σ 41 j = -9 ∨ σ 41 j2 = -9) := fun h => h.elim c29 c40
        refine ⟨by unfold cpM; rw [if_neg e1, if_pos c61], ?_⟩
        unfold cpM
        rw [if_neg e1, if_pos c61]
    · refine V_aload_n_0 (q := 44) C rfl dX9_copy_43 ?_
      refine V_iconst (q := 45) (v := 1) C rfl rfl dX9_copy_44 ?_
      refine V_cV1r (q := 48) C (Ct.mono (v' := some (.int (-11))) (τ' := setf σ 40 0 1) (c_X9_fails _ 1) rfl setf_setf) cw_X9_fails cv_X9_fails wm_X9_125 (by decide) ob_X9 ⟨by decide, by decide⟩ (Nat.le_of_ble_eq_true rfl) rfl dX9_copy_45 ?_
      refine V_iret C hR dX9_copy_48 ?_
      have e0 : σ 41 j = -9 ∨ σ 41 j2 = -9 := Or.inr c40
      refine ⟨by unfold cpM; rw [if_pos e0], ?_⟩
      unfold cpM
      rw [if_pos e0]

