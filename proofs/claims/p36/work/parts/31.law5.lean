/-! THE LAW: its body -/
set_option maxHeartbeats 8000000 in
set_option maxRecDepth 100000 in
theorem law_lay {X : CT} {σ : ST} (C : Cx X RL cL_law ret 9 308) (hxn : xn X = 14) (hsm : sN (xD X) < 2 ^ 31) (kk : ∀ (τ : ST) (T P n : Nat), LI τ T P 0 → V X 70 [.ref (sB (xD X)), .ref (xad X 0), .ref (xad X 40), .ref (xad X 41), .ref (xad X 42), .ref (xad X 43), .int (nI n), .float 0, .float 0, .float 0, .float 0, .float 0, .float 0, .float 0] [] τ) : V X 30 [.ref (sB (xD X)), .ref (xad X 0), .ref (xad X 40), .ref (xad X 41), .ref (xad X 42), .ref (xad X 43), .float 0, .float 0, .float 0, .float 0, .float 0, .float 0, .float 0, .float 0] [] σ := by
  have hn6 : 6 < xn X := by rw [hxn]; decide
  refine V_aload_n_1 (q := 31) C rfl dL_law_30 ?_
  refine V_aload_n_0 (q := 32) C rfl dL_law_31 ?_
  refine V_iconst (q := 33) (v := (nI 0)) C rfl rfl dL_law_32 ?_
  refine V_bipush (q := 35) (v := (nI 6)) C (by decide) rfl dL_law_33 ?_
  refine V_aload_n_2 (q := 36) C rfl dL_law_35 ?_
  refine V_aload_n_3 (q := 37) C rfl dL_law_36 ?_
  refine V_aload_4 (q := 39) C rfl dL_law_37 ?_
  refine V_aload_5 (q := 41) C rfl dL_law_39 ?_
  refine V_cS8q (q := 44) C (c_L_put σ hsm) cw_L_put cs_L_put wm_L_56 ⟨by decide, by decide⟩ (Nat.le_of_ble_eq_true rfl) rfl dL_law_41 (fun v τ h1 => ?_)
  obtain ⟨T, P, rfl, hH, hT, hP⟩ := h1
  have hb := hH.1
  refine V_istore_6 (q := 46) C hn6 rfl rfl dL_law_44 ?_
  refine V_iload_6 (q := 48) C rfl dL_law_46 ?_
  refine V_bipush (q := 50) (v := 8) C (by decide) rfl dL_law_48 ?_
  refine V_icmp_lt_f (tgt := 68) C (nI_nlt (b := 8) (by omega) (by omega)) rfl (by decide) dL_law_50 ?_
  refine V_aload_n_1 (q := 54) C rfl dL_law_53 ?_
  refine V_iconst (q := 55) (v := (nI 0)) C rfl rfl dL_law_54 ?_
  refine V_iconst (q := 56) (v := 0) C rfl rfl dL_law_55 ?_
  refine V_iconst (q := 57) (v := (nI 0)) C rfl rfl dL_law_56 ?_
  refine V_iload_6 (q := 59) C rfl dL_law_57 ?_
  refine V_cV4q (q := 62) C (c_X8_orchard_v τ 0 0 (1 + 3 * T + 4 * P) 0 (by decide) (by decide) (fun h => absurd (hH.2.2.1.1.symm.trans h) (by decide)) hH.2.2.1.2.1 50 hH.2.2.1.2.2 (by decide) (by omega)) cw_X8_orchard cv_X8_orchard wm_L_59 (by decide) ob_X8 ⟨by decide, by decide⟩ (Nat.le_of_ble_eq_true rfl) rfl dL_law_59 (fun v2 τ2 h2 => ?_)
  obtain ⟨rfl, hL⟩ := or_LI rfl hH hT hP h2
  refine V_aload_n_2 (q := 63) C rfl dL_law_62 ?_
  refine V_iconst (q := 64) (v := 0) C rfl rfl dL_law_63 ?_
  refine V_ialde (q := 65) C 0 rfl (by show _ < 48; omega) hL.T40 rfl (by decide) (by decide) rfl dL_law_64 ?_
  refine V_icmp_eq_t (tgt := 70) C rfl (by decide) dL_law_65 ?_
  exact kk τ2 T P _ hL

def opS (k a n : Nat) : Int32 := setB (fun j => bit (opM (nI k) (nI a)) (nI j)) n
set_option maxRecDepth 100000 in
theorem op_all (k a : Nat) (hk : k < 3) (ha : a < 6) : opensC (nI k) (nI a) = opS k a 6 := by
  have hh : ∀ (k : Fin 3) (a : Fin 6), opensC (nI k.val) (nI a.val) = opS k.val a.val 6 := by decide
  exact hh ⟨k, hk⟩ ⟨a, ha⟩
def frS (m : S3) (n : Nat) : Int32 := setB (fun p => ¬ rOf m (6 + p) < 0) n
theorem isT_no {n : Int32} : ¬ isT n n := fun h => h.2 (Int32.le_refl _)
theorem LI.fel {σ : ST} {T P C : Nat} (x : Int32) (h : LI σ T P C) : LG (setf σ 40 21 x) T P ∧ LW (setf σ 40 21 x) T ∧ LC (setf σ 40 21 x) T C :=
  ⟨h.1.cg rfl rfl (fun k h1 h2 => setf_n (by omega)) (fun i _ _ h2 => upd_ne h2), h.2.1.cg rfl (fun k h1 h2 => setf_n (by omega)) (fun k h1 h2 => setf_n (by omega)), h.2.2.1.cg rfl (fun k h1 h2 => setf_n (by omega)) rfl (fun i hi => upd_ne (by omega))⟩
/-- felled and back again -/
theorem back_21 {σ : ST} {T P C : Nat} {x : Int32} {R : Nat → Int32} (h : LI σ T P C) : (setf (setc (setf σ 40 21 x) 44 R) 40 21 (σ 40 21)) 40 = σ 40 ∧ LI (setf (setc (setf σ 40 21 x) 44 R) 40 21 (σ 40 21)) T P C := by
  have e : (setf (setc (setf σ 40 21 x) 44 R) 40 21 (σ 40 21)) 40 = σ 40 := by
    show upd (upd (σ 40) 21 x) 21 (σ 40 21) = σ 40
    rw [upd_upd, upd_id]
  exact ⟨e, h.cg (fun k h1 h2 => by rw [setf_n (by omega), setc_n (by omega), setf_n (by omega)]) e (fun k h1 h2 => by rw [setf_n (by omega), setc_n (by omega), setf_n (by omega)])⟩
/-- a state in which the row r is that of m, the days to n -/
def RQ (τ : ST) (T P C n : Nat) (m : S3) : Prop := LI τ T P C ∧ mDC (vM τ) T P C n = m ∧ τ 44 = rOf m
theorem RQ.kp {σ τ : ST} {T P C n : Nat} {m : S3} (h : RQ σ T P C n m) (hk : Kp σ τ) : RQ τ T P C n m := by
  refine ⟨h.1.kp hk, by rw [hk.vM]; exact h.2.1, ?_⟩
  have hh : ∀ k, ¬ (k = 10 ∨ k = 11 ∨ (30 ≤ k ∧ k ≤ 36) ∨ k = 38) → τ k = σ k := hk
  rw [hh 44 (by omega)]
  exact h.2.2
theorem RQ.E {τ : ST} {T P C n : Nat} {m : S3} (h : RQ τ T P C n m) (hn : n ≤ 30) : EqC T P (daysC (prepF τ C) T P n (s0C τ)) m := by
  rw [← h.2.1]
  exact days_LI h.1 hn
theorem RQ.ok {τ : ST} {T P C n : Nat} {m : S3} (h : RQ τ T P C n m) (hn : n ≤ 30) : OkM P m := by
  rw [← h.2.1]
  exact mDays_ok n hn
theorem RQ.of {σ : ST} {T P C n : Nat} {m : S3} (h : LI σ T P C) (e : mDC (vM σ) T P C n = m) : RQ (setc σ 44 (rOf m)) T P C n m := ⟨h.r, e, rfl⟩
theorem RQ.o {τ : ST} {T P C n : Nat} {m : S3} (h : RQ τ T P C n m) {p : Nat} (hp : p < 6) : τ 44 (6 + p) = m.2.1 p := (congrFun h.2.2 _).trans (rOf_o hp)
theorem RQ.b {τ : ST} {T P C n : Nat} {m : S3} (h : RQ τ T P C n m) {p : Nat} : τ 44 (12 + p) = m.2.2 p := (congrFun h.2.2 _).trans rOf_b
theorem RQ.w {τ : ST} {T P C n : Nat} {m : S3} (h : RQ τ T P C n m) {t : Nat} (ht : t < 6) : τ 44 t = m.1 t := (congrFun h.2.2 _).trans (rOf_w ht)
/-- what a tree is worth, at hand -/
def WQ (τ : ST) (T P C t : Nat) (m m2 : S3) : Prop := LI τ T P C ∧ mDC (vM τ) T P C 30 = m ∧ τ 44 = rOf m2 ∧ EqC T P (daysC (felS (prepF τ C) (τ 12 2 ||| own1 (nI t))) T P 30 (s0C τ)) m2
theorem WQ.of {σ : ST} {T P C t : Nat} {m : S3} (h : LI σ T P C) (e : mDC (vM σ) T P C 30 = m) : WQ (setf (setc (setf σ 40 21 (σ 40 21 ||| own1 (nI t))) 44 (rOf (mDC (vM (setf σ 40 21 (σ 40 21 ||| own1 (nI t)))) T P C 30))) 40 21 (σ 40 21)) T P C t m (mDC (vM (setf σ 40 21 (σ 40 21 ||| own1 (nI t)))) T P C 30) := by
  obtain ⟨e40, hL⟩ := back_21 (x := σ 40 21 ||| own1 (nI t)) (R := rOf (mDC (vM (setf σ 40 21 (σ 40 21 ||| own1 (nI t)))) T P C 30)) h
  refine ⟨hL, ?_, rfl, ?_⟩
  · rw [← e]
    show mDC (vL ((setf (setc (setf σ 40 21 (σ 40 21 ||| own1 (nI t))) 44 (rOf (mDC (vM (setf σ 40 21 (σ 40 21 ||| own1 (nI t)))) T P C 30))) 40 21 (σ 40 21)) 40) (σ 41) (σ 42) (σ 43)) T P C 30 = _
    rw [e40]
  · have h2 := days_fel (N := 30) (σ 40 21 ||| own1 (nI t)) hL (Nat.le_refl 30)
    rw [e40] at h2
    rw [hL.2.2.2, e40]
    exact h2
theorem WQ.o {τ : ST} {T P C t : Nat} {m m2 : S3} (h : WQ τ T P C t m m2) {p : Nat} (hp : p < 6) : τ 44 (6 + p) = m2.2.1 p := (congrFun h.2.2.1 _).trans (rOf_o hp)
theorem WQ.val {τ : ST} {T P C t : Nat} {m m2 : S3} (h : WQ τ T P C t m m2) : sumO (daysC (felS (prepF τ C) (τ 12 2 ||| own1 (nI t))) T P 30 (s0C τ)).2.1 P - sumO (daysC (prepF τ C) T P 30 (s0C τ)).2.1 P + 10000 = 10000 + sumO m2.2.1 P - sumO m.2.1 P := by
  have h1 := days_LI h.1 (Nat.le_refl 30)
  rw [h.2.1] at h1
  rw [sum_eq P (fun p hp => (h.2.2.2.2.1 p hp).1), sum_eq P (fun p hp => (h1.2.1 p hp).1)]
  exact worth_eq

set_option maxHeartbeats 8000000 in
set_option maxRecDepth 100000 in
theorem law_turns {X : CT} {σ : ST} {T P C2 : Nat} {cd : Int32} (C : Cx X RL cL_law ret 9 308) (hxn : xn X = 14) (hf : fl (xD X) = 1) (hsm : sN (xD X) < 2 ^ 31) (hL : LI σ T P C2) (hend : ∀ (lv : List Value) (τ : ST), V X 881 lv [.int 1] τ) : V X 76 [.ref (sB (xD X)), .ref (xad X 0), .ref (xad X 40), .ref (xad X 41), .ref (xad X 42), .ref (xad X 43), .int cd, .ref (xad X 44), .float 0, .float 0, .float 0, .float 0, .float 0, .float 0] [] σ := by
  have hn8 : 8 < xn X := by rw [hxn]; decide
  have hn9 : 9 < xn X := by rw [hxn]; decide
  have hn10 : 10 < xn X := by rw [hxn]; decide
  have hn11 : 11 < xn X := by rw [hxn]; decide
  have hn12 : 12 < xn X := by rw [hxn]; decide
  have hn13 : 13 < xn X := by rw [hxn]; decide
  have hT6 := hL.T6
  have hT0 := hL.T0
  have hP6 := hL.P6
  have hP0 := hL.P0
  refine V_iconst (q := 77) (v := (nI 0)) C rfl rfl dL_law_76 ?_
  refine V_istore_8 (q := 79) C hn8 rfl rfl dL_law_77 ?_
  have hx79 : ∀ (τ : ST) (c : Nat), LI τ T P c → V X 79 [.ref (sB (xD X)), .ref (xad X 0), .ref (xad X 40), .ref (xad X 41), .ref (xad X 42), .ref (xad X 43), .int cd, .ref (xad X 44), .int (nI 4), .float 0, .float 0, .float 0, .float 0, .float 0] [] (τ) := by
    intro τ c hτ
    refine V_iload_8 (q := 81) C rfl dL_law_79 ?_
    refine V_iconst (q := 82) (v := 4) C rfl rfl dL_law_81 ?_
    refine V_icmp_ge_t (tgt := 628) C (by decide) (by decide) dL_law_82 ?_
    refine V_aload_n_2 (q := 629) C rfl dL_law_628 ?_
    refine V_iconst (q := 630) (v := 0) C rfl rfl dL_law_629 ?_
    refine V_ialde (q := 631) C 0 rfl (by show _ < 48; omega) hτ.T40 rfl (by decide) (by decide) rfl dL_law_630 ?_
    refine V_istore_8 (q := 633) C hn8 rfl rfl dL_law_631 ?_
    refine V_aload_n_1 (q := 634) C rfl dL_law_633 ?_
    refine V_iload_8 (q := 636) C rfl dL_law_634 ?_
    refine V_iconst (q := 637) (v := 0) C rfl rfl dL_law_636 ?_
    refine V_cV2r (q := 640) C (c_X8_ofTree_u τ T (nI T) 0 hτ.T12 isT_no) cw_X8_ofTree cv_X8_ofTree wm_L_67 (by decide) ob_X8 ⟨by decide, by decide⟩ (Nat.le_of_ble_eq_true rfl) rfl dL_law_637 ?_
    refine V_iconst (q := 641) (v := (-1)) C rfl rfl dL_law_640 ?_
    refine V_icmp_ne_f (tgt := 880) C rfl rfl (by decide) dL_law_641 ?_
    refine V_aload_n_1 (q := 645) C rfl dL_law_644 ?_
    refine V_iconst (q := 646) (v := (nI 0)) C rfl rfl dL_law_645 ?_
    refine V_bipush (q := 648) (v := 6) C (by decide) rfl dL_law_646 ?_
    refine V_cV2r (q := 651) C (Ct.mono (v' := some (.int (-2))) (c_X8_ofTree_v τ T 0 6 hτ.T12 hT6 hT0) (congrArg (fun z => some (Value.int z)) (rfl)) rfl) cw_X8_ofTree cv_X8_ofTree wm_L_67 (by decide) ob_X8 ⟨by decide, by decide⟩ (Nat.le_of_ble_eq_true rfl) rfl dL_law_648 ?_
    refine V_bipush (q := 653) (v := (-2)) C (by decide) rfl dL_law_651 ?_
    refine V_icmp_ne_f (tgt := 880) C rfl rfl (by decide) dL_law_653 ?_
    refine V_aload_n_1 (q := 657) C rfl dL_law_656 ?_
    refine V_aload_n_2 (q := 658) C rfl dL_law_657 ?_
    refine V_iconst (q := 659) (v := 1) C rfl rfl dL_law_658 ?_
    refine V_ialde (q := 660) C 1 rfl (by show _ < 48; omega) hτ.P40 rfl (by decide) (by decide) rfl dL_law_659 ?_
    refine V_iconst (q := 661) (v := 0) C rfl rfl dL_law_660 ?_
    refine V_cV2r (q := 664) C (c_X8_ofPrisoner_u τ P (nI P) 0 hτ.P12 isT_no) cw_X8_ofPrisoner cv_X8_ofPrisoner wm_L_86 (by decide) ob_X8 ⟨by decide, by decide⟩ (Nat.le_of_ble_eq_true rfl) rfl dL_law_661 ?_
    refine V_iconst (q := 665) (v := (-1)) C rfl rfl dL_law_664 ?_
    refine V_icmp_ne_f (tgt := 880) C rfl rfl (by decide) dL_law_665 ?_
    refine V_aload_n_1 (q := 669) C rfl dL_law_668 ?_
    refine V_iconst (q := 670) (v := (nI 0)) C rfl rfl dL_law_669 ?_
    refine V_iconst (q := 671) (v := 2) C rfl rfl dL_law_670 ?_
    refine V_cV2r (q := 674) C (Ct.mono (v' := some (.int (-2))) (c_X8_ofPrisoner_v τ P 0 2 hτ.P12 hP6 hP0) (congrArg (fun z => some (Value.int z)) (rfl)) rfl) cw_X8_ofPrisoner cv_X8_ofPrisoner wm_L_86 (by decide) ob_X8 ⟨by decide, by decide⟩ (Nat.le_of_ble_eq_true rfl) rfl dL_law_671 ?_
    refine V_bipush (q := 676) (v := (-2)) C (by decide) rfl dL_law_674 ?_
    refine V_icmp_ne_f (tgt := 880) C rfl rfl (by decide) dL_law_676 ?_
    refine V_aload_n_1 (q := 680) C rfl dL_law_679 ?_
    refine V_bipush (q := 682) (v := 30) C (by decide) rfl dL_law_680 ?_
    refine V_iconst (q := 683) (v := 0) C rfl rfl dL_law_682 ?_
    refine V_cV2r (q := 686) C (c_X8_rain_u τ 30 0 (by decide)) cw_X8_rain cv_X8_rain wm_L_28 (by decide) ob_X8 ⟨by decide, by decide⟩ (Nat.le_of_ble_eq_true rfl) rfl dL_law_683 ?_
    refine V_iconst (q := 687) (v := (-1)) C rfl rfl dL_law_686 ?_
    refine V_icmp_ne_f (tgt := 880) C rfl rfl (by decide) dL_law_687 ?_
    refine V_aload_n_1 (q := 691) C rfl dL_law_690 ?_
    refine V_iconst (q := 692) (v := (nI 0)) C rfl rfl dL_law_691 ?_
    refine V_bipush (q := 694) (v := 10) C (by decide) rfl dL_law_692 ?_
    refine V_cV2r (q := 697) C (c_X8_rain_o τ 0 10 (by decide) (Or.inr (by decide))) cw_X8_rain cv_X8_rain wm_L_28 (by decide) ob_X8 ⟨by decide, by decide⟩ (Nat.le_of_ble_eq_true rfl) rfl dL_law_694 ?_
    refine V_bipush (q := 699) (v := (-2)) C (by decide) rfl dL_law_697 ?_
    refine V_icmp_ne_f (tgt := 880) C rfl rfl (by decide) dL_law_699 ?_
    refine V_aload_n_1 (q := 703) C rfl dL_law_702 ?_
    refine V_iconst (q := 704) (v := (-1)) C rfl rfl dL_law_703 ?_
    refine V_iconst (q := 705) (v := 0) C rfl rfl dL_law_704 ?_
    refine V_cV2r (q := 708) C (c_X8_rain_u τ (-1) 0 (by decide)) cw_X8_rain cv_X8_rain wm_L_28 (by decide) ob_X8 ⟨by decide, by decide⟩ (Nat.le_of_ble_eq_true rfl) rfl dL_law_705 ?_
    refine V_iconst (q := 709) (v := (-1)) C rfl rfl dL_law_708 ?_
    refine V_icmp_ne_f (tgt := 880) C rfl rfl (by decide) dL_law_709 ?_
    refine V_aload_n_1 (q := 713) C rfl dL_law_712 ?_
    refine V_bipush (q := 715) (v := 30) C (by decide) rfl dL_law_713 ?_
    refine V_iconst (q := 716) (v := 0) C rfl rfl dL_law_715 ?_
    refine V_cV2r (q := 719) C (c_X8_water_u τ T 30 0 hτ.T12 (fun h => absurd h.1 (by decide))) cw_X8_water cv_X8_water wm_L_31 (by decide) ob_X8 ⟨by decide, by decide⟩ (Nat.le_of_ble_eq_true rfl) rfl dL_law_716 ?_
    refine V_iconst (q := 720) (v := (-1)) C rfl rfl dL_law_719 ?_
    refine V_icmp_ne_f (tgt := 880) C rfl rfl (by decide) dL_law_720 ?_
    refine V_aload_n_1 (q := 724) C rfl dL_law_723 ?_
    refine V_iconst (q := 725) (v := 0) C rfl rfl dL_law_724 ?_
    refine V_iload_8 (q := 727) C rfl dL_law_725 ?_
    refine V_cV2r (q := 730) C (c_X8_water_u τ T 0 (nI T) hτ.T12 (fun h => h.2.elim (nI_ne9 (by omega)) isT_no)) cw_X8_water cv_X8_water wm_L_31 (by decide) ob_X8 ⟨by decide, by decide⟩ (Nat.le_of_ble_eq_true rfl) rfl dL_law_727 ?_
    refine V_iconst (q := 731) (v := (-1)) C rfl rfl dL_law_730 ?_
    refine V_icmp_ne_f (tgt := 880) C rfl rfl (by decide) dL_law_731 ?_
    refine V_aload_n_1 (q := 735) C rfl dL_law_734 ?_
    refine V_iconst (q := 736) (v := 0) C rfl rfl dL_law_735 ?_
    refine V_iconst (q := 737) (v := (-1)) C rfl rfl dL_law_736 ?_
    refine V_cV2r (q := 740) C (c_X8_water_u τ T 0 (-1) hτ.T12 (fun h => h.2.elim (by decide) (fun q => q.1 (by decide)))) cw_X8_water cv_X8_water wm_L_31 (by decide) ob_X8 ⟨by decide, by decide⟩ (Nat.le_of_ble_eq_true rfl) rfl dL_law_737 ?_
    refine V_iconst (q := 741) (v := (-1)) C rfl rfl dL_law_740 ?_
    refine V_icmp_ne_f (tgt := 880) C rfl rfl (by decide) dL_law_741 ?_
    refine V_aload_n_1 (q := 745) C rfl dL_law_744 ?_
    refine V_bipush (q := 747) (v := 30) C (by decide) rfl dL_law_745 ?_
    refine V_iconst (q := 748) (v := 1) C rfl rfl dL_law_747 ?_
    refine V_cV2r (q := 751) C (c_X8_frost_u τ 30 1 (by decide)) cw_X8_frost cv_X8_frost wm_L_34 (by decide) ob_X8 ⟨by decide, by decide⟩ (Nat.le_of_ble_eq_true rfl) rfl dL_law_748 ?_
    refine V_iconst (q := 752) (v := (-1)) C rfl rfl dL_law_751 ?_
    refine V_icmp_ne_f (tgt := 880) C rfl rfl (by decide) dL_law_752 ?_
    refine V_aload_n_1 (q := 756) C rfl dL_law_755 ?_
    refine V_bipush (q := 758) (v := 30) C (by decide) rfl dL_law_756 ?_
    refine V_iconst (q := 759) (v := 0) C rfl rfl dL_law_758 ?_
    refine V_cV2r (q := 762) C (c_X8_crow_u τ T 30 0 hτ.T12 (fun h => absurd h.1 (by decide))) cw_X8_crow cv_X8_crow wm_L_42 (by decide) ob_X8 ⟨by decide, by decide⟩ (Nat.le_of_ble_eq_true rfl) rfl dL_law_759 ?_
    refine V_iconst (q := 763) (v := (-1)) C rfl rfl dL_law_762 ?_
    refine V_icmp_ne_f (tgt := 880) C rfl rfl (by decide) dL_law_763 ?_
    refine V_aload_n_1 (q := 767) C rfl dL_law_766 ?_
    refine V_iconst (q := 768) (v := 0) C rfl rfl dL_law_767 ?_
    refine V_iload_8 (q := 770) C rfl dL_law_768 ?_
    refine V_cV2r (q := 773) C (c_X8_crow_u τ T 0 (nI T) hτ.T12 (fun h => isT_no h.2)) cw_X8_crow cv_X8_crow wm_L_42 (by decide) ob_X8 ⟨by decide, by decide⟩ (Nat.le_of_ble_eq_true rfl) rfl dL_law_770 ?_
    refine V_iconst (q := 774) (v := (-1)) C rfl rfl dL_law_773 ?_
    refine V_icmp_ne_f (tgt := 880) C rfl rfl (by decide) dL_law_774 ?_
    refine V_aload_n_1 (q := 778) C rfl dL_law_777 ?_
    refine V_aload_n_2 (q := 779) C rfl dL_law_778 ?_
    refine V_iconst (q := 780) (v := 2) C rfl rfl dL_law_779 ?_
    refine V_ialde (q := 781) C 2 rfl (by show _ < 48; omega) hτ.C40 rfl (by decide) (by decide) rfl dL_law_780 ?_
    refine V_iconst (q := 782) (v := 1) C rfl rfl dL_law_781 ?_
    refine V_iadd (q := 783) C rfl dL_law_782 ?_
    rw [show nI c + 1 = nI (c + 1) from nI_1 c]
    refine V_cV1r (q := 786) C (c_X8_shoo_o τ c (nI (c + 1)) hτ.C21 (by have := hτ.C6; omega) (fun h => h.2 (nI_lt (by omega) (by have := hτ.C6; omega)))) cw_X8_shoo cv_X8_shoo wm_L_38 (by decide) ob_X8 ⟨by decide, by decide⟩ (Nat.le_of_ble_eq_true rfl) rfl dL_law_783 ?_
    refine V_bipush (q := 788) (v := (-2)) C (by decide) rfl dL_law_786 ?_
    refine V_icmp_ne_f (tgt := 880) C rfl rfl (by decide) dL_law_788 ?_
    refine V_aload_n_1 (q := 792) C rfl dL_law_791 ?_
    refine V_iconst (q := 793) (v := (-1)) C rfl rfl dL_law_792 ?_
    refine V_cV1r (q := 796) C (c_X8_shoo_o τ c (-1) hτ.C21 (by have := hτ.C6; omega) (fun h => h.1 (by decide))) cw_X8_shoo cv_X8_shoo wm_L_38 (by decide) ob_X8 ⟨by decide, by decide⟩ (Nat.le_of_ble_eq_true rfl) rfl dL_law_793 ?_
    refine V_bipush (q := 798) (v := (-2)) C (by decide) rfl dL_law_796 ?_
    refine V_icmp_ne_f (tgt := 880) C rfl rfl (by decide) dL_law_798 ?_
    refine V_aload_n_1 (q := 802) C rfl dL_law_801 ?_
    refine V_iload_8 (q := 804) C rfl dL_law_802 ?_
    refine V_iconst (q := 805) (v := 1) C rfl rfl dL_law_804 ?_
    refine V_cV2r (q := 808) C (c_X8_fell_u τ T (nI T) 1 hτ.T12 isT_no) cw_X8_fell cv_X8_fell wm_L_45 (by decide) ob_X8 ⟨by decide, by decide⟩ (Nat.le_of_ble_eq_true rfl) rfl dL_law_805 ?_
    refine V_iconst (q := 809) (v := (-1)) C rfl rfl dL_law_808 ?_
    refine V_icmp_ne_f (tgt := 880) C rfl rfl (by decide) dL_law_809 ?_
    refine V_aload_n_1 (q := 813) C rfl dL_law_812 ?_
    refine V_aload_n_2 (q := 814) C rfl dL_law_813 ?_
    refine V_iconst (q := 815) (v := 1) C rfl rfl dL_law_814 ?_
    refine V_ialde (q := 816) C 1 rfl (by show _ < 48; omega) hτ.P40 rfl (by decide) (by decide) rfl dL_law_815 ?_
    refine V_cV1r (q := 819) C (c_X8_out_u τ P (nI P) hτ.P12 isT_no) cw_X8_out cv_X8_out wm_L_80 (by decide) ob_X8 ⟨by decide, by decide⟩ (Nat.le_of_ble_eq_true rfl) rfl dL_law_816 ?_
    refine V_iconst (q := 820) (v := (-1)) C rfl rfl dL_law_819 ?_
    refine V_icmp_ne_f (tgt := 880) C rfl rfl (by decide) dL_law_820 ?_
    refine V_aload_n_1 (q := 824) C rfl dL_law_823 ?_
    refine V_aload_n_2 (q := 825) C rfl dL_law_824 ?_
    refine V_iconst (q := 826) (v := 1) C rfl rfl dL_law_825 ?_
    refine V_ialde (q := 827) C 1 rfl (by show _ < 48; omega) hτ.P40 rfl (by decide) (by decide) rfl dL_law_826 ?_
    refine V_cV1r (q := 830) C (c_X8_by_u τ P (nI P) hτ.P12 isT_no) cw_X8_by cv_X8_by wm_L_83 (by decide) ob_X8 ⟨by decide, by decide⟩ (Nat.le_of_ble_eq_true rfl) rfl dL_law_827 ?_
    refine V_iconst (q := 831) (v := (-1)) C rfl rfl dL_law_830 ?_
    refine V_icmp_ne_f (tgt := 880) C rfl rfl (by decide) dL_law_831 ?_
    refine V_aload_n_1 (q := 835) C rfl dL_law_834 ?_
    refine V_bipush (q := 837) (v := 30) C (by decide) rfl dL_law_835 ?_
    refine V_cV1r (q := 840) C (c_X8_free_u τ 30 (by decide)) cw_X8_free cv_X8_free wm_L_74 (by decide) ob_X8 ⟨by decide, by decide⟩ (Nat.le_of_ble_eq_true rfl) rfl dL_law_837 ?_
    refine V_iconst (q := 841) (v := (-1)) C rfl rfl dL_law_840 ?_
    refine V_icmp_ne_f (tgt := 880) C rfl rfl (by decide) dL_law_841 ?_
    refine V_aload_n_1 (q := 845) C rfl dL_law_844 ?_
    refine V_iload_8 (q := 847) C rfl dL_law_845 ?_
    refine V_iconst (q := 848) (v := 0) C rfl rfl dL_law_847 ?_
    refine V_cV2r (q := 851) C (c_X8_has_u τ T (nI T) 0 hτ.T12 (fun h => isT_no h.1)) cw_X8_has cv_X8_has wm_L_77 (by decide) ob_X8 ⟨by decide, by decide⟩ (Nat.le_of_ble_eq_true rfl) rfl dL_law_848 ?_
    refine V_iconst (q := 852) (v := (-1)) C rfl rfl dL_law_851 ?_
    refine V_icmp_ne_f (tgt := 880) C rfl rfl (by decide) dL_law_852 ?_
    refine V_aload_n_1 (q := 856) C rfl dL_law_855 ?_
    refine V_iconst (q := 857) (v := 0) C rfl rfl dL_law_856 ?_
    refine V_bipush (q := 859) (v := 30) C (by decide) rfl dL_law_857 ?_
    refine V_cV2r (q := 862) C (c_X8_has_u τ T 0 30 hτ.T12 (fun h => absurd h.2 (by decide))) cw_X8_has cv_X8_has wm_L_77 (by decide) ob_X8 ⟨by decide, by decide⟩ (Nat.le_of_ble_eq_true rfl) rfl dL_law_859 ?_
    refine V_iconst (q := 863) (v := (-1)) C rfl rfl dL_law_862 ?_
    refine V_icmp_ne_f (tgt := 880) C rfl rfl (by decide) dL_law_863 ?_
    refine V_aload_n_1 (q := 867) C rfl dL_law_866 ?_
    refine V_iload_8 (q := 869) C rfl dL_law_867 ?_
    refine V_cV1r (q := 872) C (c_X8_worth_u τ T (nI T) hτ.T12 isT_no) cw_X8_worth cv_X8_worth wm_L_89 (by decide) ob_X8 ⟨by decide, by decide⟩ (Nat.le_of_ble_eq_true rfl) rfl dL_law_869 ?_
    refine V_iconst (q := 873) (v := (-1)) C rfl rfl dL_law_872 ?_
    refine V_icmp_ne_f (tgt := 880) C rfl rfl (by decide) dL_law_873 ?_
    refine V_iconst (q := 877) (v := 1) C rfl rfl dL_law_876 ?_
    refine V_goto (tgt := 881) C (by decide) dL_law_877 ?_
    exact hend _ τ
  have hs79 : ∀ i : Nat, i < 4 → (∀ (τ : ST) (c : Nat), LI τ T P c → V X 79 [.ref (sB (xD X)), .ref (xad X 0), .ref (xad X 40), .ref (xad X 41), .ref (xad X 42), .ref (xad X 43), .int cd, .ref (xad X 44), .int (nI (i + 1)), .float 0, .float 0, .float 0, .float 0, .float 0] [] (τ)) → ∀ (τ : ST) (c : Nat), LI τ T P c → V X 79 [.ref (sB (xD X)), .ref (xad X 0), .ref (xad X 40), .ref (xad X 41), .ref (xad X 42), .ref (xad X 43), .int cd, .ref (xad X 44), .int (nI i), .float 0, .float 0, .float 0, .float 0, .float 0] [] (τ) := by
    intro i hi79 ih79 τ c hτ
    refine V_iload_8 (q := 81) C rfl dL_law_79 ?_
    refine V_iconst (q := 82) (v := 4) C rfl rfl dL_law_81 ?_
    refine V_icmp_ge_f (tgt := 628) C (nI_ge (b := 4) hi79 (by decide)) rfl (by decide) dL_law_82 ?_
    refine V_aload_n_1 (q := 86) C rfl dL_law_85 ?_
    refine V_aload_n_0 (q := 87) C rfl dL_law_86 ?_
    refine V_iconst (q := 88) (v := 4) C rfl rfl dL_law_87 ?_
    refine V_iload_8 (q := 90) C rfl dL_law_88 ?_
    refine V_iadd (q := 91) C rfl dL_law_90 ?_
    rw [show (4 : Int32) + nI i = nI (4 + i) from nI_add 4 i]
    refine V_cS2q (q := 94) C (c_L_cell _ (4 + i) hsm (by omega)) cw_L_cell cs_L_cell wm_L_9 ⟨by decide, by decide⟩ (Nat.le_of_ble_eq_true rfl) rfl dL_law_91 (fun x τ1 h1 => ?_)
    rw [h1]
    refine V_aload_n_0 (q := 95) C rfl dL_law_94 ?_
    refine V_bipush (q := 97) (v := 8) C (by decide) rfl dL_law_95 ?_
    refine V_iload_8 (q := 99) C rfl dL_law_97 ?_
    refine V_iadd (q := 100) C rfl dL_law_99 ?_
    rw [show (8 : Int32) + nI i = nI (8 + i) from nI_add 8 i]
    refine V_cS2q (q := 103) C (c_L_cell _ (8 + i) hsm (by omega)) cw_L_cell cs_L_cell wm_L_9 ⟨by decide, by decide⟩ (Nat.le_of_ble_eq_true rfl) rfl dL_law_100 (fun y τ2 h2 => ?_)
    rw [h2]
    refine V_aload_n_2 (q := 104) C rfl dL_law_103 ?_
    refine V_aload_n_3 (q := 105) C rfl dL_law_104 ?_
    refine V_aload_4 (q := 107) C rfl dL_law_105 ?_
    refine V_aload_5 (q := 109) C rfl dL_law_107 ?_
    refine V_cS7q (q := 112) C (c_L_change τ x y T P c hτ) cw_L_change cs_L_change wm_L_63 ⟨by decide, by decide⟩ (Nat.le_of_ble_eq_true rfl) rfl dL_law_109 (fun v τ1 h3 => ?_)
    obtain ⟨rfl, c1, hL1⟩ := h3
    refine V_if_ne_t (tgt := 117) C (by decide) (by decide) dL_law_112 ?_
    refine V_iconst (q := 118) (v := (nI 0)) C rfl rfl dL_law_117 ?_
    refine V_istore_9 (q := 120) C hn9 rfl rfl dL_law_118 ?_
    have hx120 : V X 120 [.ref (sB (xD X)), .ref (xad X 0), .ref (xad X 40), .ref (xad X 41), .ref (xad X 42), .ref (xad X 43), .int cd, .ref (xad X 44), .int (nI i), .int (nI T), .float 0, .float 0, .float 0, .float 0] [] (τ1) := by
      refine V_iload_9 (q := 122) C rfl dL_law_120 ?_
      refine V_aload_n_2 (q := 123) C rfl dL_law_122 ?_
      refine V_iconst (q := 124) (v := 0) C rfl rfl dL_law_123 ?_
      refine V_ialde (q := 125) C 0 rfl (by show _ < 48; omega) hL1.T40 rfl (by decide) (by decide) rfl dL_law_124 ?_
      refine V_icmp_ge_t (tgt := 272) C (nI_le (Nat.le_refl _) (by omega)) (by decide) dL_law_125 ?_
      have k400 : ∀ τ : ST, LI τ T P c1 → V X 400 [.ref (sB (xD X)), .ref (xad X 0), .ref (xad X 40), .ref (xad X 41), .ref (xad X 42), .ref (xad X 43), .int cd, .ref (xad X 44), .int (nI i), .float 0, .float 0, .float 0, .float 0, .float 0] [] (τ) := by
        intro τ2 hL2
        obtain ⟨m, hm⟩ : ∃ m : S3, mDC (vM τ2) T P c1 30 = m := ⟨_, rfl⟩
        refine V_aload_n_2 (q := 401) C rfl dL_law_400 ?_
        refine V_aload_n_3 (q := 402) C rfl dL_law_401 ?_
        refine V_aload_4 (q := 404) C rfl dL_law_402 ?_
        refine V_aload_5 (q := 406) C rfl dL_law_404 ?_
        refine V_bipush (q := 408) (v := (nI 29)) C (by decide) rfl dL_law_406 ?_
        refine V_aload_7 (q := 410) C rfl dL_law_408 ?_
        refine V_cS6v (q := 413) C (c_L_go τ2 T P c1 29 hf hL2.1 hL2.2.1 hL2.2.2.1 (by decide)) cw_L_go cs_L_go wm_L_70 ⟨by decide, by decide⟩ (Nat.le_of_ble_eq_true rfl) rfl dL_law_410 ?_
        rw [show mDC (vM τ2) T P c1 (29 + 1) = m from hm]
        refine V_gen (Q := fun τ => RQ τ T P c1 30 m) (RQ.of hL2 hm) (fun τ3 h3 => ?_)
        refine V_iconst (q := 414) (v := (sumO m.2.1 0)) C rfl rfl dL_law_413 ?_
        refine V_istore_9 (q := 416) C hn9 rfl rfl dL_law_414 ?_
        refine V_iconst (q := 417) (v := (nI 0)) C rfl rfl dL_law_416 ?_
        refine V_istore_10 (q := 419) C hn10 rfl rfl dL_law_417 ?_
        have hx419 : ∀ τ : ST, RQ τ T P c1 30 m → V X 419 [.ref (sB (xD X)), .ref (xad X 0), .ref (xad X 40), .ref (xad X 41), .ref (xad X 42), .ref (xad X 43), .int cd, .ref (xad X 44), .int (nI i), .int (sumO m.2.1 P), .int (nI P), .float 0, .float 0, .float 0] [] (τ) := by
          intro τ4 h4
          refine V_iload_10 (q := 421) C rfl dL_law_419 ?_
          refine V_aload_n_2 (q := 422) C rfl dL_law_421 ?_
          refine V_iconst (q := 423) (v := 1) C rfl rfl dL_law_422 ?_
          refine V_ialde (q := 424) C 1 rfl (by show _ < 48; omega) h4.1.P40 rfl (by decide) (by decide) rfl dL_law_423 ?_
          refine V_icmp_ge_t (tgt := 516) C (nI_le (Nat.le_refl _) (by omega)) (by decide) dL_law_424 ?_
          refine V_iconst (q := 517) (v := (nI 0)) C rfl rfl dL_law_516 ?_
          refine V_istore_10 (q := 519) C hn10 rfl rfl dL_law_517 ?_
          have hx519 : ∀ τ : ST, (LI τ T P c1 ∧ mDC (vM τ) T P c1 30 = m) → V X 519 [.ref (sB (xD X)), .ref (xad X 0), .ref (xad X 40), .ref (xad X 41), .ref (xad X 42), .ref (xad X 43), .int cd, .ref (xad X 44), .int (nI i), .int (sumO m.2.1 P), .int (nI T), .float 0, .float 0, .float 0] [] (τ) := by
            intro τ6 h6
            refine V_iload_10 (q := 521) C rfl dL_law_519 ?_
            refine V_aload_n_2 (q := 522) C rfl dL_law_521 ?_
            refine V_iconst (q := 523) (v := 0) C rfl rfl dL_law_522 ?_
            refine V_ialde (q := 524) C 0 rfl (by show _ < 48; omega) h6.1.T40 rfl (by decide) (by decide) rfl dL_law_523 ?_
            refine V_icmp_ge_t (tgt := 622) C (nI_le (Nat.le_refl _) (by omega)) (by decide) dL_law_524 ?_
            refine V_iinc_8 (q := 625) (n := 1) C nI_inc hn8 rfl rfl dL_law_622 ?_
            refine V_goto (tgt := 79) C (by decide) dL_law_625 ?_
            refine V_wk (lv2 := [.ref (sB (xD X)), .ref (xad X 0), .ref (xad X 40), .ref (xad X 41), .ref (xad X 42), .ref (xad X 43), .int cd, .ref (xad X 44), .int (nI (i + 1)), .float 0, .float 0, .float 0, .float 0, .float 0]) ⟨Or.inl rfl, ⟨Or.inl rfl, ⟨Or.inl rfl, ⟨Or.inl rfl, ⟨Or.inl rfl, ⟨Or.inl rfl, ⟨Or.inl rfl, ⟨Or.inl rfl, ⟨Or.inl rfl, ⟨Or.inr rfl, ⟨Or.inr rfl, ⟨Or.inr rfl, ⟨Or.inr rfl, ⟨Or.inr rfl, trivial⟩⟩⟩⟩⟩⟩⟩⟩⟩⟩⟩⟩⟩⟩ ?_
            exact ih79 τ6 c1 h6.1
          have hs519 : ∀ t : Nat, t < T → (∀ τ : ST, (LI τ T P c1 ∧ mDC (vM τ) T P c1 30 = m) → V X 519 [.ref (sB (xD X)), .ref (xad X 0), .ref (xad X 40), .ref (xad X 41), .ref (xad X 42), .ref (xad X 43), .int cd, .ref (xad X 44), .int (nI i), .int (sumO m.2.1 P), .int (nI (t + 1)), .float 0, .float 0, .float 0] [] (τ)) → ∀ τ : ST, (LI τ T P c1 ∧ mDC (vM τ) T P c1 30 = m) → V X 519 [.ref (sB (xD X)), .ref (xad X 0), .ref (xad X 40), .ref (xad X 41), .ref (xad X 42), .ref (xad X 43), .int cd, .ref (xad X 44), .int (nI i), .int (sumO m.2.1 P), .int (nI t), .float 0, .float 0, .float 0] [] (τ) := by
            intro t hi519 ih519 τ6 h6
            refine V_iload_10 (q := 521) C rfl dL_law_519 ?_
            refine V_aload_n_2 (q := 522) C rfl dL_law_521 ?_
            refine V_iconst (q := 523) (v := 0) C rfl rfl dL_law_522 ?_
            refine V_ialde (q := 524) C 0 rfl (by show _ < 48; omega) h6.1.T40 rfl (by decide) (by decide) rfl dL_law_523 ?_
            refine V_icmp_ge_f (tgt := 622) C (nI_ge hi519 (by omega)) rfl (by decide) dL_law_524 ?_
            refine V_aload_n_2 (q := 528) C rfl dL_law_527 ?_
            refine V_bipush (q := 530) (v := 21) C (by decide) rfl dL_law_528 ?_
            refine V_ialde (q := 531) (v := τ6 40 21) C 21 rfl (by show _ < 48; omega) rfl rfl (by decide) (by decide) rfl dL_law_530 ?_
            refine V_istore_11 (q := 533) C hn11 rfl rfl dL_law_531 ?_
            refine V_aload_n_2 (q := 534) C rfl dL_law_533 ?_
            refine V_bipush (q := 536) (v := 21) C (by decide) rfl dL_law_534 ?_
            refine V_dup2 (q := 537) C rfl rfl rfl dL_law_536 ?_
            refine V_ialde (q := 538) (v := τ6 40 21) C 21 rfl (by show _ < 48; omega) rfl rfl (by decide) (by decide) rfl dL_law_537 ?_
            refine V_iconst (q := 539) (v := 1) C rfl rfl dL_law_538 ?_
            refine V_iload_10 (q := 541) C rfl dL_law_539 ?_
            refine V_ishl (q := 542) C rfl dL_law_541 ?_
            refine V_ior (q := 543) C rfl dL_law_542 ?_
            refine V_iast (q := 544) C 21 rfl (by show _ < 48; omega) rfl (by decide) (by decide) rfl dL_law_543 ?_
            refine V_aload_n_2 (q := 545) C rfl dL_law_544 ?_
            refine V_aload_n_3 (q := 546) C rfl dL_law_545 ?_
            refine V_aload_4 (q := 548) C rfl dL_law_546 ?_
            refine V_aload_5 (q := 550) C rfl dL_law_548 ?_
            refine V_bipush (q := 552) (v := (nI 29)) C (by decide) rfl dL_law_550 ?_
            refine V_aload_7 (q := 554) C rfl dL_law_552 ?_
            refine V_cS6v (q := 557) C (c_L_go (setf τ6 40 21 (τ6 40 21 ||| own1 (nI t))) T P c1 29 hf (h6.1.fel _).1 (h6.1.fel _).2.1 (h6.1.fel _).2.2 (by decide)) cw_L_go cs_L_go wm_L_70 ⟨by decide, by decide⟩ (Nat.le_of_ble_eq_true rfl) rfl dL_law_554 ?_
            refine V_aload_n_2 (q := 558) C rfl dL_law_557 ?_
            refine V_bipush (q := 560) (v := 21) C (by decide) rfl dL_law_558 ?_
            refine V_iload_11 (q := 562) C rfl dL_law_560 ?_
            refine V_iast (q := 563) C 21 rfl (by show _ < 48; omega) rfl (by decide) (by decide) rfl dL_law_562 ?_
            refine V_wk (lv2 := [.ref (sB (xD X)), .ref (xad X 0), .ref (xad X 40), .ref (xad X 41), .ref (xad X 42), .ref (xad X 43), .int cd, .ref (xad X 44), .int (nI i), .int (sumO m.2.1 P), .int (nI t), .float 0, .float 0, .float 0]) ⟨Or.inl rfl, ⟨Or.inl rfl, ⟨Or.inl rfl, ⟨Or.inl rfl, ⟨Or.inl rfl, ⟨Or.inl rfl, ⟨Or.inl rfl, ⟨Or.inl rfl, ⟨Or.inl rfl, ⟨Or.inl rfl, ⟨Or.inl rfl, ⟨Or.inr rfl, ⟨Or.inr rfl, ⟨Or.inr rfl, trivial⟩⟩⟩⟩⟩⟩⟩⟩⟩⟩⟩⟩⟩⟩ ?_
            refine V_gen (Q := fun τ => WQ τ T P c1 t m (mDC (vM (setf τ6 40 21 (τ6 40 21 ||| own1 (nI t)))) T P c1 30)) (WQ.of h6.1 h6.2) (fun τ8 h8 => ?_)
            generalize mDC (vM (setf τ6 40 21 (τ6 40 21 ||| own1 (nI t)))) T P c1 30 = m2 at h8
            refine V_iconst (q := 564) (v := (sumO m2.2.1 0)) C rfl rfl dL_law_563 ?_
            refine V_istore_12 (q := 566) C hn12 rfl rfl dL_law_564 ?_
            refine V_iconst (q := 567) (v := (nI 0)) C rfl rfl dL_law_566 ?_
            refine V_istore_13 (q := 569) C hn13 rfl rfl dL_law_567 ?_
            have hx569 : V X 569 [.ref (sB (xD X)), .ref (xad X 0), .ref (xad X 40), .ref (xad X 41), .ref (xad X 42), .ref (xad X 43), .int cd, .ref (xad X 44), .int (nI i), .int (sumO m.2.1 P), .int (nI t), .float 0, .int (sumO m2.2.1 P), .int (nI P)] [] (τ8) := by
              refine V_iload_13 (q := 571) C rfl dL_law_569 ?_
              refine V_aload_n_2 (q := 572) C rfl dL_law_571 ?_
              refine V_iconst (q := 573) (v := 1) C rfl rfl dL_law_572 ?_
              refine V_ialde (q := 574) C 1 rfl (by show _ < 48; omega) h8.1.P40 rfl (by decide) (by decide) rfl dL_law_573 ?_
              refine V_icmp_ge_t (tgt := 596) C (nI_le (Nat.le_refl _) (by omega)) (by decide) dL_law_574 ?_
              refine V_aload_n_1 (q := 597) C rfl dL_law_596 ?_
              refine V_iload_10 (q := 599) C rfl dL_law_597 ?_
              refine V_cV1r (q := 602) C (Ct.mono (v' := some (.int (10000 + sumO m2.2.1 P - sumO m.2.1 P))) (c_X8_worth_v τ8 T P c1 t h8.1.T12 hT6 h8.1.P12 hP6 h8.1.C21 h8.1.C6 h8.1.cd hi519) (congrArg (fun z => some (Value.int z)) h8.val) rfl) cw_X8_worth cv_X8_worth wm_L_89 (by decide) ob_X8 ⟨by decide, by decide⟩ (Nat.le_of_ble_eq_true rfl) rfl dL_law_599 ?_
              refine V_sipush (q := 605) (v := 10000) C (by decide) rfl dL_law_602 ?_
              refine V_iload_12 (q := 607) C rfl dL_law_605 ?_
              refine V_iadd (q := 608) C rfl dL_law_607 ?_
              refine V_iload_9 (q := 610) C rfl dL_law_608 ?_
              refine V_isub (q := 611) C rfl dL_law_610 ?_
              refine V_icmp_eq_t (tgt := 616) C rfl (by decide) dL_law_611 ?_
              refine V_iinc_10 (q := 619) (n := 1) C nI_inc hn10 rfl rfl dL_law_616 ?_
              refine V_goto (tgt := 519) C (by decide) dL_law_619 ?_
              refine V_wk (lv2 := [.ref (sB (xD X)), .ref (xad X 0), .ref (xad X 40), .ref (xad X 41), .ref (xad X 42), .ref (xad X 43), .int cd, .ref (xad X 44), .int (nI i), .int (sumO m.2.1 P), .int (nI (t + 1)), .float 0, .float 0, .float 0]) ⟨Or.inl rfl, ⟨Or.inl rfl, ⟨Or.inl rfl, ⟨Or.inl rfl, ⟨Or.inl rfl, ⟨Or.inl rfl, ⟨Or.inl rfl, ⟨Or.inl rfl, ⟨Or.inl rfl, ⟨Or.inl rfl, ⟨Or.inl rfl, ⟨Or.inr rfl, ⟨Or.inr rfl, ⟨Or.inr rfl, trivial⟩⟩⟩⟩⟩⟩⟩⟩⟩⟩⟩⟩⟩⟩ ?_
              exact V_gen (Q := fun τ => LI τ T P c1 ∧ mDC (vM τ) T P c1 30 = m) ⟨h8.1.kp (Kp.prep.trans (Kp.fel.trans Kp.put)), by rw [(Kp.prep.trans (Kp.fel.trans Kp.put)).vM]; exact h8.2.1⟩ ih519
            have hs569 : ∀ p : Nat, p < P → (V X 569 [.ref (sB (xD X)), .ref (xad X 0), .ref (xad X 40), .ref (xad X 41), .ref (xad X 42), .ref (xad X 43), .int cd, .ref (xad X 44), .int (nI i), .int (sumO m.2.1 P), .int (nI t), .float 0, .int (sumO m2.2.1 (p + 1)), .int (nI (p + 1))] [] (τ8)) → V X 569 [.ref (sB (xD X)), .ref (xad X 0), .ref (xad X 40), .ref (xad X 41), .ref (xad X 42), .ref (xad X 43), .int cd, .ref (xad X 44), .int (nI i), .int (sumO m.2.1 P), .int (nI t), .float 0, .int (sumO m2.2.1 p), .int (nI p)] [] (τ8) := by
              intro p hi569 ih569
              refine V_iload_13 (q := 571) C rfl dL_law_569 ?_
              refine V_aload_n_2 (q := 572) C rfl dL_law_571 ?_
              refine V_iconst (q := 573) (v := 1) C rfl rfl dL_law_572 ?_
              refine V_ialde (q := 574) C 1 rfl (by show _ < 48; omega) h8.1.P40 rfl (by decide) (by decide) rfl dL_law_573 ?_
              refine V_icmp_ge_f (tgt := 596) C (nI_ge hi569 (by omega)) rfl (by decide) dL_law_574 ?_
              refine V_iload_12 (q := 579) C rfl dL_law_577 ?_
              refine V_aload_7 (q := 581) C rfl dL_law_579 ?_
              refine V_bipush (q := 583) (v := 6) C (by decide) rfl dL_law_581 ?_
              refine V_iload_13 (q := 585) C rfl dL_law_583 ?_
              refine V_iadd (q := 586) C rfl dL_law_585 ?_
              refine V_ialdRe (q := 587) (v := m2.2.1 p) C (6 + p) (nI_add 6 p) (by show _ < 18; omega) (h8.o (by omega)) hf rfl dL_law_586 ?_
              refine V_iadd (q := 588) C rfl dL_law_587 ?_
              refine V_istore_12 (q := 590) C hn12 rfl rfl dL_law_588 ?_
              refine V_iinc_13 (q := 593) (n := 1) C nI_inc hn13 rfl rfl dL_law_590 ?_
              refine V_goto (tgt := 569) C (by decide) dL_law_593 ?_
              exact V_eq rfl ih569
            exact V_eq (rfl) (loopN (P := fun p => V X 569 [.ref (sB (xD X)), .ref (xad X 0), .ref (xad X 40), .ref (xad X 41), .ref (xad X 42), .ref (xad X 43), .int cd, .ref (xad X 44), .int (nI i), .int (sumO m.2.1 P), .int (nI t), .float 0, .int (sumO m2.2.1 p), .int (nI p)] [] (τ8)) (P) hx569 hs569 0 (Nat.zero_le _))
          exact V_eq (rfl) (loopN (P := fun t => ∀ τ : ST, (LI τ T P c1 ∧ mDC (vM τ) T P c1 30 = m) → V X 519 [.ref (sB (xD X)), .ref (xad X 0), .ref (xad X 40), .ref (xad X 41), .ref (xad X 42), .ref (xad X 43), .int cd, .ref (xad X 44), .int (nI i), .int (sumO m.2.1 P), .int (nI t), .float 0, .float 0, .float 0] [] (τ)) (T) hx519 hs519 0 (Nat.zero_le _) τ4 ⟨h4.1, h4.2.1⟩)
        have hs419 : ∀ p : Nat, p < P → (∀ τ : ST, RQ τ T P c1 30 m → V X 419 [.ref (sB (xD X)), .ref (xad X 0), .ref (xad X 40), .ref (xad X 41), .ref (xad X 42), .ref (xad X 43), .int cd, .ref (xad X 44), .int (nI i), .int (sumO m.2.1 (p + 1)), .int (nI (p + 1)), .float 0, .float 0, .float 0] [] (τ)) → ∀ τ : ST, RQ τ T P c1 30 m → V X 419 [.ref (sB (xD X)), .ref (xad X 0), .ref (xad X 40), .ref (xad X 41), .ref (xad X 42), .ref (xad X 43), .int cd, .ref (xad X 44), .int (nI i), .int (sumO m.2.1 p), .int (nI p), .float 0, .float 0, .float 0] [] (τ) := by
          intro p hi419 ih419 τ4 h4
          have hp6 : p < 6 := by omega
          refine V_iload_10 (q := 421) C rfl dL_law_419 ?_
          refine V_aload_n_2 (q := 422) C rfl dL_law_421 ?_
          refine V_iconst (q := 423) (v := 1) C rfl rfl dL_law_422 ?_
          refine V_ialde (q := 424) C 1 rfl (by show _ < 48; omega) h4.1.P40 rfl (by decide) (by decide) rfl dL_law_423 ?_
          refine V_icmp_ge_f (tgt := 516) C (nI_ge hi419 (by omega)) rfl (by decide) dL_law_424 ?_
          refine V_iload_9 (q := 429) C rfl dL_law_427 ?_
          refine V_aload_7 (q := 431) C rfl dL_law_429 ?_
          refine V_bipush (q := 433) (v := 6) C (by decide) rfl dL_law_431 ?_
          refine V_iload_10 (q := 435) C rfl dL_law_433 ?_
          refine V_iadd (q := 436) C rfl dL_law_435 ?_
          refine V_ialdRe (q := 437) (v := m.2.1 p) C (6 + p) (nI_add 6 p) (by show _ < 18; omega) (h4.o hp6) hf rfl dL_law_436 ?_
          refine V_iadd (q := 438) C rfl dL_law_437 ?_
          refine V_istore_9 (q := 440) C hn9 rfl rfl dL_law_438 ?_
          refine V_aload_n_1 (q := 441) C rfl dL_law_440 ?_
          refine V_iload_10 (q := 443) C rfl dL_law_441 ?_
          refine V_cV1r (q := 446) C (Ct.mono (v' := some (.int (m.2.1 p))) (c_X8_out_v τ4 T P c1 p h4.1.T12 hT6 h4.1.P12 hP6 h4.1.C21 h4.1.C6 h4.1.cd hi419) (congrArg (fun z => some (Value.int z)) (((h4.E (Nat.le_refl 30)).2.1 p hi419).1)) rfl) cw_X8_out cv_X8_out wm_L_80 (by decide) ob_X8 ⟨by decide, by decide⟩ (Nat.le_of_ble_eq_true rfl) rfl dL_law_443 ?_
          refine V_aload_7 (q := 448) C rfl dL_law_446 ?_
          refine V_bipush (q := 450) (v := 6) C (by decide) rfl dL_law_448 ?_
          refine V_iload_10 (q := 452) C rfl dL_law_450 ?_
          refine V_iadd (q := 453) C rfl dL_law_452 ?_
          refine V_ialdRe (q := 454) (v := m.2.1 p) C (6 + p) (nI_add 6 p) (by show _ < 18; omega) (h4.o hp6) hf rfl dL_law_453 ?_
          refine V_icmp_ne_f (tgt := 508) C rfl rfl (by decide) dL_law_454 ?_
          refine V_gen (Q := fun τ => RQ τ T P c1 30 m) (h4.kp Kp.pa) (fun τ5 h5 => ?_)
          refine V_aload_n_1 (q := 458) C rfl dL_law_457 ?_
          refine V_iload_10 (q := 460) C rfl dL_law_458 ?_
          refine V_cV1r (q := 463) C (Ct.mono (v' := some (.int (m.2.2 p))) (c_X8_by_v τ5 T P c1 p h5.1.T12 hT6 h5.1.P12 hP6 h5.1.C21 h5.1.C6 h5.1.cd hi419) (congrArg (fun z => some (Value.int z)) (((h5.E (Nat.le_refl 30)).2.1 p hi419).2.1)) rfl) cw_X8_by cv_X8_by wm_L_83 (by decide) ob_X8 ⟨by decide, by decide⟩ (Nat.le_of_ble_eq_true rfl) rfl dL_law_460 ?_
          refine V_aload_7 (q := 465) C rfl dL_law_463 ?_
          refine V_bipush (q := 467) (v := 12) C (by decide) rfl dL_law_465 ?_
          refine V_iload_10 (q := 469) C rfl dL_law_467 ?_
          refine V_iadd (q := 470) C rfl dL_law_469 ?_
          refine V_ialdRe (q := 471) (v := m.2.2 p) C (12 + p) (nI_add 12 p) (by show _ < 18; omega) h5.b hf rfl dL_law_470 ?_
          refine V_icmp_ne_f (tgt := 508) C rfl rfl (by decide) dL_law_471 ?_
          refine V_gen (Q := fun τ => RQ τ T P c1 30 m) (h5.kp Kp.pa) (fun τ7 h7 => ?_)
          refine V_aload_n_1 (q := 475) C rfl dL_law_474 ?_
          refine V_iload_10 (q := 477) C rfl dL_law_475 ?_
          refine V_iconst (q := 478) (v := 0) C rfl rfl dL_law_477 ?_
          refine V_cV2r (q := 481) C (Ct.mono (v' := some (.int (τ7 40 (22 + p)))) (c_X8_ofPrisoner_v τ7 P p 0 h7.1.P12 hP6 hi419) (congrArg (fun z => some (Value.int z)) ((h7.1.1.2.2.2.1 p hi419).1)) rfl) cw_X8_ofPrisoner cv_X8_ofPrisoner wm_L_86 (by decide) ob_X8 ⟨by decide, by decide⟩ (Nat.le_of_ble_eq_true rfl) rfl dL_law_478 ?_
          refine V_aload_n_2 (q := 482) C rfl dL_law_481 ?_
          refine V_bipush (q := 484) (v := 22) C (by decide) rfl dL_law_482 ?_
          refine V_iload_10 (q := 486) C rfl dL_law_484 ?_
          refine V_iadd (q := 487) C rfl dL_law_486 ?_
          refine V_ialde (q := 488) (v := τ7 40 (22 + p)) C (22 + p) (nI_add 22 p) (by show _ < 48; omega) rfl rfl (by decide) (by decide) rfl dL_law_487 ?_
          refine V_icmp_ne_f (tgt := 508) C rfl rfl (by decide) dL_law_488 ?_
          refine V_aload_n_1 (q := 492) C rfl dL_law_491 ?_
          refine V_iload_10 (q := 494) C rfl dL_law_492 ?_
          refine V_iconst (q := 495) (v := 1) C rfl rfl dL_law_494 ?_
          refine V_cV2r (q := 498) C (Ct.mono (v' := some (.int (τ7 40 (28 + p)))) (c_X8_ofPrisoner_v τ7 P p 1 h7.1.P12 hP6 hi419) (congrArg (fun z => some (Value.int z)) ((h7.1.1.2.2.2.1 p hi419).2.1)) rfl) cw_X8_ofPrisoner cv_X8_ofPrisoner wm_L_86 (by decide) ob_X8 ⟨by decide, by decide⟩ (Nat.le_of_ble_eq_true rfl) rfl dL_law_495 ?_
          refine V_aload_n_2 (q := 499) C rfl dL_law_498 ?_
          refine V_bipush (q := 501) (v := 28) C (by decide) rfl dL_law_499 ?_
          refine V_iload_10 (q := 503) C rfl dL_law_501 ?_
          refine V_iadd (q := 504) C rfl dL_law_503 ?_
          refine V_ialde (q := 505) (v := τ7 40 (28 + p)) C (28 + p) (nI_add 28 p) (by show _ < 48; omega) rfl rfl (by decide) (by decide) rfl dL_law_504 ?_
          refine V_icmp_eq_t (tgt := 510) C rfl (by decide) dL_law_505 ?_
          refine V_iinc_10 (q := 513) (n := 1) C nI_inc hn10 rfl rfl dL_law_510 ?_
          refine V_goto (tgt := 419) C (by decide) dL_law_513 ?_
          exact V_eq rfl (ih419 τ7 h7)
        exact V_eq (rfl) (loopN (P := fun p => ∀ τ : ST, RQ τ T P c1 30 m → V X 419 [.ref (sB (xD X)), .ref (xad X 0), .ref (xad X 40), .ref (xad X 41), .ref (xad X 42), .ref (xad X 43), .int cd, .ref (xad X 44), .int (nI i), .int (sumO m.2.1 p), .int (nI p), .float 0, .float 0, .float 0] [] (τ)) (P) hx419 hs419 0 (Nat.zero_le _) τ3 h3)
      refine V_iload_8 (q := 274) C rfl dL_law_272 ?_
      refine V_iconst (q := 275) (v := 2) C rfl rfl dL_law_274 ?_
      refine V_irem (q := 276) C (by decide) rfl dL_law_275 ?_
      rw [show nI i - nI i / 2 * 2 = nI (i % 2) from pk_rem (by omega) (by decide) (by decide)]
      refine V_istore_9 (q := 278) C hn9 rfl rfl dL_law_276 ?_
      have hx278 : ∀ (d : Nat) (τ : ST), 30 ≤ d → d ≤ 60 → LI τ T P c1 → V X 278 [.ref (sB (xD X)), .ref (xad X 0), .ref (xad X 40), .ref (xad X 41), .ref (xad X 42), .ref (xad X 43), .int cd, .ref (xad X 44), .int (nI i), .int (nI d), .float 0, .float 0, .float 0, .float 0] [] (τ) := by
        intro d τ hfd hd60 hL2
        refine V_iload_9 (q := 280) C rfl dL_law_278 ?_
        refine V_bipush (q := 282) (v := 30) C (by decide) rfl dL_law_280 ?_
        refine V_icmp_ge_t (tgt := 400) C (nI_le (a := 30) hfd (by omega)) (by decide) dL_law_282 ?_
        refine V_wk (lv2 := [.ref (sB (xD X)), .ref (xad X 0), .ref (xad X 40), .ref (xad X 41), .ref (xad X 42), .ref (xad X 43), .int cd, .ref (xad X 44), .int (nI i), .float 0, .float 0, .float 0, .float 0, .float 0]) ⟨Or.inl rfl, ⟨Or.inl rfl, ⟨Or.inl rfl, ⟨Or.inl rfl, ⟨Or.inl rfl, ⟨Or.inl rfl, ⟨Or.inl rfl, ⟨Or.inl rfl, ⟨Or.inl rfl, ⟨Or.inr rfl, ⟨Or.inl rfl, ⟨Or.inl rfl, ⟨Or.inl rfl, ⟨Or.inl rfl, trivial⟩⟩⟩⟩⟩⟩⟩⟩⟩⟩⟩⟩⟩⟩ ?_
        exact k400 _ hL2
      have hs278 : ∀ f : Nat, f < 30 → (∀ (d : Nat) (τ : ST), (f + 1) ≤ d → d ≤ 60 → LI τ T P c1 → V X 278 [.ref (sB (xD X)), .ref (xad X 0), .ref (xad X 40), .ref (xad X 41), .ref (xad X 42), .ref (xad X 43), .int cd, .ref (xad X 44), .int (nI i), .int (nI d), .float 0, .float 0, .float 0, .float 0] [] (τ)) → ∀ (d : Nat) (τ : ST), f ≤ d → d ≤ 60 → LI τ T P c1 → V X 278 [.ref (sB (xD X)), .ref (xad X 0), .ref (xad X 40), .ref (xad X 41), .ref (xad X 42), .ref (xad X 43), .int cd, .ref (xad X 44), .int (nI i), .int (nI d), .float 0, .float 0, .float 0, .float 0] [] (τ) := by
        intro f hi278 ih278 d τ hfd hd60 hL2
        refine V_iload_9 (q := 280) C rfl dL_law_278 ?_
        refine V_bipush (q := 282) (v := 30) C (by decide) rfl dL_law_280 ?_
        refine V_icmp_ge (tgt := 400) C rfl (by decide) dL_law_282 (fun c282 => ?_) (fun c282 => ?_)
        · refine V_wk (lv2 := [.ref (sB (xD X)), .ref (xad X 0), .ref (xad X 40), .ref (xad X 41), .ref (xad X 42), .ref (xad X 43), .int cd, .ref (xad X 44), .int (nI i), .float 0, .float 0, .float 0, .float 0, .float 0]) ⟨Or.inl rfl, ⟨Or.inl rfl, ⟨Or.inl rfl, ⟨Or.inl rfl, ⟨Or.inl rfl, ⟨Or.inl rfl, ⟨Or.inl rfl, ⟨Or.inl rfl, ⟨Or.inl rfl, ⟨Or.inr rfl, ⟨Or.inl rfl, ⟨Or.inl rfl, ⟨Or.inl rfl, ⟨Or.inl rfl, trivial⟩⟩⟩⟩⟩⟩⟩⟩⟩⟩⟩⟩⟩⟩ ?_
          exact k400 _ hL2
        · have hd : d < 30 := by rcases Nat.lt_or_ge d 30 with h | h; exact h; exact absurd (nI_le (a := 30) h (by omega)) c282
          obtain ⟨m, hm⟩ : ∃ m : S3, mDC (vM τ) T P c1 (d + 1) = m := ⟨_, rfl⟩
          refine V_aload_n_2 (q := 286) C rfl dL_law_285 ?_
          refine V_aload_n_3 (q := 287) C rfl dL_law_286 ?_
          refine V_aload_4 (q := 289) C rfl dL_law_287 ?_
          refine V_aload_5 (q := 291) C rfl dL_law_289 ?_
          refine V_iload_9 (q := 293) C rfl dL_law_291 ?_
          refine V_aload_7 (q := 295) C rfl dL_law_293 ?_
          refine V_cS6v (q := 298) C (c_L_go τ T P c1 d hf hL2.1 hL2.2.1 hL2.2.2.1 hd) cw_L_go cs_L_go wm_L_70 ⟨by decide, by decide⟩ (Nat.le_of_ble_eq_true rfl) rfl dL_law_295 ?_
          rw [hm]
          refine V_gen (Q := fun τ => RQ τ T P c1 (d + 1) m) (RQ.of hL2 hm) (fun τ2 h2 => ?_)
          refine V_iconst (q := 299) (v := (frS m 0)) C rfl rfl dL_law_298 ?_
          refine V_istore_10 (q := 301) C hn10 rfl rfl dL_law_299 ?_
          refine V_iconst (q := 302) (v := (nI 0)) C rfl rfl dL_law_301 ?_
          refine V_istore_11 (q := 304) C hn11 rfl rfl dL_law_302 ?_
          have hx304 : V X 304 [.ref (sB (xD X)), .ref (xad X 0), .ref (xad X 40), .ref (xad X 41), .ref (xad X 42), .ref (xad X 43), .int cd, .ref (xad X 44), .int (nI i), .int (nI d), .int (frS m P), .int (nI P), .float 0, .float 0] [] (τ2) := by
            refine V_iload_11 (q := 306) C rfl dL_law_304 ?_
            refine V_aload_n_2 (q := 307) C rfl dL_law_306 ?_
            refine V_iconst (q := 308) (v := 1) C rfl rfl dL_law_307 ?_
            refine V_ialde (q := 309) C 1 rfl (by show _ < 48; omega) h2.1.P40 rfl (by decide) (by decide) rfl dL_law_308 ?_
            refine V_icmp_ge_t (tgt := 338) C (nI_le (Nat.le_refl _) (by omega)) (by decide) dL_law_309 ?_
            refine V_aload_n_1 (q := 339) C rfl dL_law_338 ?_
            refine V_iload_9 (q := 341) C rfl dL_law_339 ?_
            refine V_cV1r (q := 344) C (Ct.mono (v' := some (.int (frS m P))) (c_X8_free_v τ2 T P c1 d h2.1.T12 hT6 h2.1.P12 hP6 h2.1.C21 h2.1.C6 h2.1.cd hd hT0) (congrArg (fun z => some (Value.int z)) (free_eq (N := 0) hP6 (h2.E (by omega)) (h2.ok (by omega)))) rfl) cw_X8_free cv_X8_free wm_L_74 (by decide) ob_X8 ⟨by decide, by decide⟩ (Nat.le_of_ble_eq_true rfl) rfl dL_law_341 ?_
            refine V_iload_10 (q := 346) C rfl dL_law_344 ?_
            refine V_icmp_eq_t (tgt := 351) C rfl (by decide) dL_law_346 ?_
            refine V_gen (Q := fun τ => RQ τ T P c1 (d + 1) m) (h2.kp Kp.pa) (fun τ3 h3 => ?_)
            refine V_iconst (q := 352) (v := (nI 0)) C rfl rfl dL_law_351 ?_
            refine V_istore_11 (q := 354) C hn11 rfl rfl dL_law_352 ?_
            have hx354 : ∀ τ : ST, RQ τ T P c1 (d + 1) m → V X 354 [.ref (sB (xD X)), .ref (xad X 0), .ref (xad X 40), .ref (xad X 41), .ref (xad X 42), .ref (xad X 43), .int cd, .ref (xad X 44), .int (nI i), .int (nI d), .int (frS m P), .int (nI T), .float 0, .float 0] [] (τ) := by
              intro τ4 h4
              refine V_iload_11 (q := 356) C rfl dL_law_354 ?_
              refine V_aload_n_2 (q := 357) C rfl dL_law_356 ?_
              refine V_iconst (q := 358) (v := 0) C rfl rfl dL_law_357 ?_
              refine V_ialde (q := 359) C 0 rfl (by show _ < 48; omega) h4.1.T40 rfl (by decide) (by decide) rfl dL_law_358 ?_
              refine V_icmp_ge_t (tgt := 386) C (nI_le (Nat.le_refl _) (by omega)) (by decide) dL_law_359 ?_
              refine V_iload_9 (q := 388) C rfl dL_law_386 ?_
              refine V_iconst (q := 389) (v := 1) C rfl rfl dL_law_388 ?_
              refine V_iload_9 (q := 391) C rfl dL_law_389 ?_
              refine V_iconst (q := 392) (v := 5) C rfl rfl dL_law_391 ?_
              refine V_idiv (q := 393) C (by decide) rfl dL_law_392 ?_
              rw [show nI d / 5 = nI (d / 5) from pk_div (by omega) (by decide) (by decide)]
              refine V_iadd (q := 394) C rfl dL_law_393 ?_
              rw [show (1 : Int32) + nI (d / 5) = nI (1 + d / 5) from nI_add 1 _]
              refine V_iadd (q := 395) C rfl dL_law_394 ?_
              rw [show nI d + nI (1 + d / 5) = nI (d + (1 + d / 5)) from nI_add d _]
              refine V_istore_9 (q := 397) C hn9 rfl rfl dL_law_395 ?_
              refine V_goto (tgt := 278) C (by decide) dL_law_397 ?_
              refine V_wk (lv2 := [.ref (sB (xD X)), .ref (xad X 0), .ref (xad X 40), .ref (xad X 41), .ref (xad X 42), .ref (xad X 43), .int cd, .ref (xad X 44), .int (nI i), .int (nI (d + (1 + d / 5))), .float 0, .float 0, .float 0, .float 0]) ⟨Or.inl rfl, ⟨Or.inl rfl, ⟨Or.inl rfl, ⟨Or.inl rfl, ⟨Or.inl rfl, ⟨Or.inl rfl, ⟨Or.inl rfl, ⟨Or.inl rfl, ⟨Or.inl rfl, ⟨Or.inl rfl, ⟨Or.inr rfl, ⟨Or.inr rfl, ⟨Or.inr rfl, ⟨Or.inr rfl, trivial⟩⟩⟩⟩⟩⟩⟩⟩⟩⟩⟩⟩⟩⟩ ?_
              exact ih278 (d + (1 + d / 5)) _ (by omega) (by omega) h4.1
            have hs354 : ∀ t : Nat, t < T → (∀ τ : ST, RQ τ T P c1 (d + 1) m → V X 354 [.ref (sB (xD X)), .ref (xad X 0), .ref (xad X 40), .ref (xad X 41), .ref (xad X 42), .ref (xad X 43), .int cd, .ref (xad X 44), .int (nI i), .int (nI d), .int (frS m P), .int (nI (t + 1)), .float 0, .float 0] [] (τ)) → ∀ τ : ST, RQ τ T P c1 (d + 1) m → V X 354 [.ref (sB (xD X)), .ref (xad X 0), .ref (xad X 40), .ref (xad X 41), .ref (xad X 42), .ref (xad X 43), .int cd, .ref (xad X 44), .int (nI i), .int (nI d), .int (frS m P), .int (nI t), .float 0, .float 0] [] (τ) := by
              intro t hi354 ih354 τ4 h4
              refine V_iload_11 (q := 356) C rfl dL_law_354 ?_
              refine V_aload_n_2 (q := 357) C rfl dL_law_356 ?_
              refine V_iconst (q := 358) (v := 0) C rfl rfl dL_law_357 ?_
              refine V_ialde (q := 359) C 0 rfl (by show _ < 48; omega) h4.1.T40 rfl (by decide) (by decide) rfl dL_law_358 ?_
              refine V_icmp_ge_f (tgt := 386) C (nI_ge hi354 (by omega)) rfl (by decide) dL_law_359 ?_
              refine V_aload_n_1 (q := 363) C rfl dL_law_362 ?_
              refine V_iload_11 (q := 365) C rfl dL_law_363 ?_
              refine V_iload_9 (q := 367) C rfl dL_law_365 ?_
              refine V_cV2r (q := 370) C (Ct.mono (v' := some (.int (m.1 t))) (c_X8_has_v τ4 T P c1 t d h4.1.T12 hT6 h4.1.P12 hP6 h4.1.C21 h4.1.C6 h4.1.cd hi354 hd) (congrArg (fun z => some (Value.int z)) ((h4.E (by omega)).1 t hi354)) rfl) cw_X8_has cv_X8_has wm_L_77 (by decide) ob_X8 ⟨by decide, by decide⟩ (Nat.le_of_ble_eq_true rfl) rfl dL_law_367 ?_
              refine V_aload_7 (q := 372) C rfl dL_law_370 ?_
              refine V_iload_11 (q := 374) C rfl dL_law_372 ?_
              refine V_ialdRe (q := 375) (v := m.1 t) C t rfl (by show _ < 18; omega) (h4.w (by omega)) hf rfl dL_law_374 ?_
              refine V_icmp_eq_t (tgt := 380) C rfl (by decide) dL_law_375 ?_
              refine V_iinc_11 (q := 383) (n := 1) C nI_inc hn11 rfl rfl dL_law_380 ?_
              refine V_goto (tgt := 354) C (by decide) dL_law_383 ?_
              exact V_gen (Q := fun τ => RQ τ T P c1 (d + 1) m) (h4.kp Kp.pa) ih354
            exact V_eq (rfl) (loopN (P := fun t => ∀ τ : ST, RQ τ T P c1 (d + 1) m → V X 354 [.ref (sB (xD X)), .ref (xad X 0), .ref (xad X 40), .ref (xad X 41), .ref (xad X 42), .ref (xad X 43), .int cd, .ref (xad X 44), .int (nI i), .int (nI d), .int (frS m P), .int (nI t), .float 0, .float 0] [] (τ)) (T) hx354 hs354 0 (Nat.zero_le _) τ3 h3)
          have hs304 : ∀ p : Nat, p < P → (V X 304 [.ref (sB (xD X)), .ref (xad X 0), .ref (xad X 40), .ref (xad X 41), .ref (xad X 42), .ref (xad X 43), .int cd, .ref (xad X 44), .int (nI i), .int (nI d), .int (frS m (p + 1)), .int (nI (p + 1)), .float 0, .float 0] [] (τ2)) → V X 304 [.ref (sB (xD X)), .ref (xad X 0), .ref (xad X 40), .ref (xad X 41), .ref (xad X 42), .ref (xad X 43), .int cd, .ref (xad X 44), .int (nI i), .int (nI d), .int (frS m p), .int (nI p), .float 0, .float 0] [] (τ2) := by
            intro p hi304 ih304
            refine V_iload_11 (q := 306) C rfl dL_law_304 ?_
            refine V_aload_n_2 (q := 307) C rfl dL_law_306 ?_
            refine V_iconst (q := 308) (v := 1) C rfl rfl dL_law_307 ?_
            refine V_ialde (q := 309) C 1 rfl (by show _ < 48; omega) h2.1.P40 rfl (by decide) (by decide) rfl dL_law_308 ?_
            refine V_icmp_ge_f (tgt := 338) C (nI_ge hi304 (by omega)) rfl (by decide) dL_law_309 ?_
            refine V_aload_7 (q := 314) C rfl dL_law_312 ?_
            refine V_bipush (q := 316) (v := 6) C (by decide) rfl dL_law_314 ?_
            refine V_iload_11 (q := 318) C rfl dL_law_316 ?_
            refine V_iadd (q := 319) C rfl dL_law_318 ?_
            refine V_ialdRe (q := 320) (v := rOf m (6 + p)) C (6 + p) (nI_add 6 p) (by show _ < 18; omega) (congrFun h2.2.2 _) hf rfl dL_law_319 ?_
            refine V_if_lt (tgt := 332) C rfl (by decide) dL_law_320 (fun c320 => ?_) (fun c320 => ?_)
            · refine V_iinc_11 (q := 335) (n := 1) C nI_inc hn11 rfl rfl dL_law_332 ?_
              refine V_goto (tgt := 304) C (by decide) dL_law_335 ?_
              first
              | (rw [show frS m p = frS m (p + 1) from (if_neg (nn c320)).symm]; exact ih304)
              | (rw [show frS m p ||| (1 <<< (nI p &&& 31)) = frS m (p + 1) from (if_pos c320).symm]; exact ih304)
            · refine V_iload_10 (q := 325) C rfl dL_law_323 ?_
              refine V_iconst (q := 326) (v := 1) C rfl rfl dL_law_325 ?_
              refine V_iload_11 (q := 328) C rfl dL_law_326 ?_
              refine V_ishl (q := 329) C rfl dL_law_328 ?_
              refine V_ior (q := 330) C rfl dL_law_329 ?_
              refine V_istore_10 (q := 332) C hn10 rfl rfl dL_law_330 ?_
              refine V_iinc_11 (q := 335) (n := 1) C nI_inc hn11 rfl rfl dL_law_332 ?_
              refine V_goto (tgt := 304) C (by decide) dL_law_335 ?_
              first
              | (rw [show frS m p = frS m (p + 1) from (if_neg (nn c320)).symm]; exact ih304)
              | (rw [show frS m p ||| (1 <<< (nI p &&& 31)) = frS m (p + 1) from (if_pos c320).symm]; exact ih304)
          exact V_eq (rfl) (loopN (P := fun p => V X 304 [.ref (sB (xD X)), .ref (xad X 0), .ref (xad X 40), .ref (xad X 41), .ref (xad X 42), .ref (xad X 43), .int cd, .ref (xad X 44), .int (nI i), .int (nI d), .int (frS m p), .int (nI p), .float 0, .float 0] [] (τ2)) (P) hx304 hs304 0 (Nat.zero_le _))
      exact V_eq (rfl) (loopN (P := fun f => ∀ (d : Nat) (τ : ST), f ≤ d → d ≤ 60 → LI τ T P c1 → V X 278 [.ref (sB (xD X)), .ref (xad X 0), .ref (xad X 40), .ref (xad X 41), .ref (xad X 42), .ref (xad X 43), .int cd, .ref (xad X 44), .int (nI i), .int (nI d), .float 0, .float 0, .float 0, .float 0] [] (τ)) (30) hx278 hs278 0 (Nat.zero_le _) (i % 2) τ1 (Nat.zero_le _) (by omega) hL1)
    have hs120 : ∀ t : Nat, t < T → (V X 120 [.ref (sB (xD X)), .ref (xad X 0), .ref (xad X 40), .ref (xad X 41), .ref (xad X 42), .ref (xad X 43), .int cd, .ref (xad X 44), .int (nI i), .int (nI (t + 1)), .float 0, .float 0, .float 0, .float 0] [] (τ1)) → V X 120 [.ref (sB (xD X)), .ref (xad X 0), .ref (xad X 40), .ref (xad X 41), .ref (xad X 42), .ref (xad X 43), .int cd, .ref (xad X 44), .int (nI i), .int (nI t), .float 0, .float 0, .float 0, .float 0] [] (τ1) := by
      intro t hi120 ih120
      obtain ⟨⟨t1, t2, t3, t4, t5⟩, hk, ⟨la, hla, ea⟩, n, n1, n9, en⟩ := hL1.1.2.2.1 t hi120
      obtain ⟨kk, hkk, ek⟩ := k012 hk
      refine V_iload_9 (q := 122) C rfl dL_law_120 ?_
      refine V_aload_n_2 (q := 123) C rfl dL_law_122 ?_
      refine V_iconst (q := 124) (v := 0) C rfl rfl dL_law_123 ?_
      refine V_ialde (q := 125) C 0 rfl (by show _ < 48; omega) hL1.T40 rfl (by decide) (by decide) rfl dL_law_124 ?_
      refine V_icmp_ge_f (tgt := 272) C (nI_ge hi120 (by omega)) rfl (by decide) dL_law_125 ?_
      refine V_iconst (q := 129) (v := (opS kk la 0)) C rfl rfl dL_law_128 ?_
      refine V_istore_10 (q := 131) C hn10 rfl rfl dL_law_129 ?_
      refine V_iconst (q := 132) (v := (nI 0)) C rfl rfl dL_law_131 ?_
      refine V_istore_11 (q := 134) C hn11 rfl rfl dL_law_132 ?_
      have hx134 : V X 134 [.ref (sB (xD X)), .ref (xad X 0), .ref (xad X 40), .ref (xad X 41), .ref (xad X 42), .ref (xad X 43), .int cd, .ref (xad X 44), .int (nI i), .int (nI t), .int (opS kk la 6), .int (nI 6), .float 0, .float 0] [] (τ1) := by
        refine V_iload_11 (q := 136) C rfl dL_law_134 ?_
        refine V_bipush (q := 138) (v := 6) C (by decide) rfl dL_law_136 ?_
        refine V_icmp_ge_t (tgt := 167) C (by decide) (by decide) dL_law_138 ?_
        refine V_aload_n_1 (q := 168) C rfl dL_law_167 ?_
        refine V_iload_9 (q := 170) C rfl dL_law_168 ?_
        refine V_iconst (q := 171) (v := 0) C rfl rfl dL_law_170 ?_
        refine V_cV2r (q := 174) C (Ct.mono (v' := some (.int (τ1 40 (3 + t)))) (c_X8_ofTree_v τ1 T t 0 hL1.T12 hT6 hi120) (congrArg (fun z => some (Value.int z)) (t1)) rfl) cw_X8_ofTree cv_X8_ofTree wm_L_67 (by decide) ob_X8 ⟨by decide, by decide⟩ (Nat.le_of_ble_eq_true rfl) rfl dL_law_171 ?_
        refine V_aload_n_2 (q := 175) C rfl dL_law_174 ?_
        refine V_iconst (q := 176) (v := 3) C rfl rfl dL_law_175 ?_
        refine V_iload_9 (q := 178) C rfl dL_law_176 ?_
        refine V_iadd (q := 179) C rfl dL_law_178 ?_
        refine V_ialde (q := 180) (v := τ1 40 (3 + t)) C (3 + t) (nI_add 3 t) (by show _ < 48; omega) rfl rfl (by decide) (by decide) rfl dL_law_179 ?_
        refine V_icmp_ne_f (tgt := 264) C rfl rfl (by decide) dL_law_180 ?_
        refine V_aload_n_1 (q := 184) C rfl dL_law_183 ?_
        refine V_iload_9 (q := 186) C rfl dL_law_184 ?_
        refine V_iconst (q := 187) (v := 1) C rfl rfl dL_law_186 ?_
        refine V_cV2r (q := 190) C (Ct.mono (v' := some (.int (τ1 40 (9 + t)))) (c_X8_ofTree_v τ1 T t 1 hL1.T12 hT6 hi120) (congrArg (fun z => some (Value.int z)) (t2)) rfl) cw_X8_ofTree cv_X8_ofTree wm_L_67 (by decide) ob_X8 ⟨by decide, by decide⟩ (Nat.le_of_ble_eq_true rfl) rfl dL_law_187 ?_
        refine V_aload_n_2 (q := 191) C rfl dL_law_190 ?_
        refine V_bipush (q := 193) (v := 9) C (by decide) rfl dL_law_191 ?_
        refine V_iload_9 (q := 195) C rfl dL_law_193 ?_
        refine V_iadd (q := 196) C rfl dL_law_195 ?_
        refine V_ialde (q := 197) (v := τ1 40 (9 + t)) C (9 + t) (nI_add 9 t) (by show _ < 48; omega) rfl rfl (by decide) (by decide) rfl dL_law_196 ?_
        refine V_icmp_ne_f (tgt := 264) C rfl rfl (by decide) dL_law_197 ?_
        refine V_aload_n_1 (q := 201) C rfl dL_law_200 ?_
        refine V_iload_9 (q := 203) C rfl dL_law_201 ?_
        refine V_iconst (q := 204) (v := 2) C rfl rfl dL_law_203 ?_
        refine V_cV2r (q := 207) C (Ct.mono (v' := some (.int (τ1 40 (15 + t)))) (c_X8_ofTree_v τ1 T t 2 hL1.T12 hT6 hi120) (congrArg (fun z => some (Value.int z)) (t3)) rfl) cw_X8_ofTree cv_X8_ofTree wm_L_67 (by decide) ob_X8 ⟨by decide, by decide⟩ (Nat.le_of_ble_eq_true rfl) rfl dL_law_204 ?_
        refine V_aload_n_2 (q := 208) C rfl dL_law_207 ?_
        refine V_bipush (q := 210) (v := 15) C (by decide) rfl dL_law_208 ?_
        refine V_iload_9 (q := 212) C rfl dL_law_210 ?_
        refine V_iadd (q := 213) C rfl dL_law_212 ?_
        refine V_ialde (q := 214) (v := τ1 40 (15 + t)) C (15 + t) (nI_add 15 t) (by show _ < 48; omega) rfl rfl (by decide) (by decide) rfl dL_law_213 ?_
        refine V_icmp_ne_f (tgt := 264) C rfl rfl (by decide) dL_law_214 ?_
        refine V_aload_n_1 (q := 218) C rfl dL_law_217 ?_
        refine V_iload_9 (q := 220) C rfl dL_law_218 ?_
        refine V_iconst (q := 221) (v := 3) C rfl rfl dL_law_220 ?_
        refine V_cV2r (q := 224) C (Ct.mono (v' := some (.int (wantM (τ1 40 (3 + t)) (nI n)))) (c_X8_ofTree_v τ1 T t 3 hL1.T12 hT6 hi120) (congrArg (fun z => some (Value.int z)) (t4.trans (by rw [en]))) rfl) cw_X8_ofTree cv_X8_ofTree wm_L_67 (by decide) ob_X8 ⟨by decide, by decide⟩ (Nat.le_of_ble_eq_true rfl) rfl dL_law_221 ?_
        refine V_aload_n_2 (q := 225) C rfl dL_law_224 ?_
        refine V_iload_9 (q := 227) C rfl dL_law_225 ?_
        refine V_cS2r (q := 230) C (c_L_wants τ1 t n (by omega) hk n9 en) cw_L_wants cs_L_wants wm_L_48 ⟨by decide, by decide⟩ (Nat.le_of_ble_eq_true rfl) rfl dL_law_227 ?_
        refine V_icmp_ne_f (tgt := 264) C rfl rfl (by decide) dL_law_230 ?_
        refine V_aload_n_1 (q := 234) C rfl dL_law_233 ?_
        refine V_iload_9 (q := 236) C rfl dL_law_234 ?_
        refine V_iconst (q := 237) (v := 4) C rfl rfl dL_law_236 ?_
        refine V_cV2r (q := 240) C (Ct.mono (v' := some (.int (opS kk la 6))) (c_X8_ofTree_v τ1 T t 4 hL1.T12 hT6 hi120) (congrArg (fun z => some (Value.int z)) (show opensC (τ1 13 t) (τ1 14 t) = opS kk la 6 from by rw [t1, t2, ek, ea]; exact op_all kk la hkk hla)) rfl) cw_X8_ofTree cv_X8_ofTree wm_L_67 (by decide) ob_X8 ⟨by decide, by decide⟩ (Nat.le_of_ble_eq_true rfl) rfl dL_law_237 ?_
        refine V_iload_10 (q := 242) C rfl dL_law_240 ?_
        refine V_icmp_ne_f (tgt := 264) C rfl rfl (by decide) dL_law_242 ?_
        refine V_aload_n_1 (q := 246) C rfl dL_law_245 ?_
        refine V_iload_9 (q := 248) C rfl dL_law_246 ?_
        refine V_iconst (q := 249) (v := 5) C rfl rfl dL_law_248 ?_
        refine V_cV2r (q := 252) C (Ct.mono (v' := some (.int ((τ1 40 21 >>> (nI t &&& 31)) &&& 1))) (c_X8_ofTree_v τ1 T t 5 hL1.T12 hT6 hi120) (congrArg (fun z => some (Value.int z)) (show pI (bit (τ1 12 2) (nI t)) = _ from by rw [hL1.2.2.2]; exact pI_b and1_01 Iff.rfl)) rfl) cw_X8_ofTree cv_X8_ofTree wm_L_67 (by decide) ob_X8 ⟨by decide, by decide⟩ (Nat.le_of_ble_eq_true rfl) rfl dL_law_249 ?_
        refine V_aload_n_2 (q := 253) C rfl dL_law_252 ?_
        refine V_bipush (q := 255) (v := 21) C (by decide) rfl dL_law_253 ?_
        refine V_ialde (q := 256) (v := τ1 40 21) C 21 rfl (by show _ < 48; omega) rfl rfl (by decide) (by decide) rfl dL_law_255 ?_
        refine V_iload_9 (q := 258) C rfl dL_law_256 ?_
        refine V_ishr (q := 259) C rfl dL_law_258 ?_
        refine V_iconst (q := 260) (v := 1) C rfl rfl dL_law_259 ?_
        refine V_iand (q := 261) C rfl dL_law_260 ?_
        refine V_icmp_eq_t (tgt := 266) C rfl (by decide) dL_law_261 ?_
        refine V_iinc_9 (q := 269) (n := 1) C nI_inc hn9 rfl rfl dL_law_266 ?_
        refine V_goto (tgt := 120) C (by decide) dL_law_269 ?_
        refine V_wk (lv2 := [.ref (sB (xD X)), .ref (xad X 0), .ref (xad X 40), .ref (xad X 41), .ref (xad X 42), .ref (xad X 43), .int cd, .ref (xad X 44), .int (nI i), .int (nI (t + 1)), .float 0, .float 0, .float 0, .float 0]) ⟨Or.inl rfl, ⟨Or.inl rfl, ⟨Or.inl rfl, ⟨Or.inl rfl, ⟨Or.inl rfl, ⟨Or.inl rfl, ⟨Or.inl rfl, ⟨Or.inl rfl, ⟨Or.inl rfl, ⟨Or.inl rfl, ⟨Or.inr rfl, ⟨Or.inr rfl, ⟨Or.inr rfl, ⟨Or.inr rfl, trivial⟩⟩⟩⟩⟩⟩⟩⟩⟩⟩⟩⟩⟩⟩ ?_
        exact V_eq rfl ih120
      have hs134 : ∀ q : Nat, q < 6 → (V X 134 [.ref (sB (xD X)), .ref (xad X 0), .ref (xad X 40), .ref (xad X 41), .ref (xad X 42), .ref (xad X 43), .int cd, .ref (xad X 44), .int (nI i), .int (nI t), .int (opS kk la (q + 1)), .int (nI (q + 1)), .float 0, .float 0] [] (τ1)) → V X 134 [.ref (sB (xD X)), .ref (xad X 0), .ref (xad X 40), .ref (xad X 41), .ref (xad X 42), .ref (xad X 43), .int cd, .ref (xad X 44), .int (nI i), .int (nI t), .int (opS kk la q), .int (nI q), .float 0, .float 0] [] (τ1) := by
        intro q hi134 ih134
        refine V_iload_11 (q := 136) C rfl dL_law_134 ?_
        refine V_bipush (q := 138) (v := 6) C (by decide) rfl dL_law_136 ?_
        refine V_icmp_ge_f (tgt := 167) C (nI_ge (b := 6) hi134 (by decide)) rfl (by decide) dL_law_138 ?_
        refine V_aload_n_2 (q := 142) C rfl dL_law_141 ?_
        refine V_iload_9 (q := 144) C rfl dL_law_142 ?_
        refine V_iload_11 (q := 146) C rfl dL_law_144 ?_
        refine V_cS3r (q := 149) C (c_L_opens τ1 t kk la q (by omega) hkk ek hla ea hi134) cw_L_opens cs_L_opens wm_L_51 ⟨by decide, by decide⟩ (Nat.le_of_ble_eq_true rfl) rfl dL_law_146 ?_
        refine V_ifp_eq (tgt := 161) C rfl (by decide) dL_law_149 (fun c149 => ?_) (fun c149 => ?_)
        · refine V_iinc_11 (q := 164) (n := 1) C nI_inc hn11 rfl rfl dL_law_161 ?_
          refine V_goto (tgt := 134) C (by decide) dL_law_164 ?_
          first
          | (rw [show opS kk la q = opS kk la (q + 1) from (if_neg c149).symm]; exact ih134)
          | (rw [show opS kk la q ||| (1 <<< (nI q &&& 31)) = opS kk la (q + 1) from (if_pos c149).symm]; exact ih134)
        · refine V_iload_10 (q := 154) C rfl dL_law_152 ?_
          refine V_iconst (q := 155) (v := 1) C rfl rfl dL_law_154 ?_
          refine V_iload_11 (q := 157) C rfl dL_law_155 ?_
          refine V_ishl (q := 158) C rfl dL_law_157 ?_
          refine V_ior (q := 159) C rfl dL_law_158 ?_
          refine V_istore_10 (q := 161) C hn10 rfl rfl dL_law_159 ?_
          refine V_iinc_11 (q := 164) (n := 1) C nI_inc hn11 rfl rfl dL_law_161 ?_
          refine V_goto (tgt := 134) C (by decide) dL_law_164 ?_
          first
          | (rw [show opS kk la q = opS kk la (q + 1) from (if_neg c149).symm]; exact ih134)
          | (rw [show opS kk la q ||| (1 <<< (nI q &&& 31)) = opS kk la (q + 1) from (if_pos c149).symm]; exact ih134)
      exact V_eq (rfl) (loopN (P := fun q => V X 134 [.ref (sB (xD X)), .ref (xad X 0), .ref (xad X 40), .ref (xad X 41), .ref (xad X 42), .ref (xad X 43), .int cd, .ref (xad X 44), .int (nI i), .int (nI t), .int (opS kk la q), .int (nI q), .float 0, .float 0] [] (τ1)) (6) hx134 hs134 0 (Nat.zero_le _))
    exact V_eq (rfl) (loopN (P := fun t => V X 120 [.ref (sB (xD X)), .ref (xad X 0), .ref (xad X 40), .ref (xad X 41), .ref (xad X 42), .ref (xad X 43), .int cd, .ref (xad X 44), .int (nI i), .int (nI t), .float 0, .float 0, .float 0, .float 0] [] (τ1)) (T) hx120 hs120 0 (Nat.zero_le _))
  exact V_eq (rfl) (loopN (P := fun i => ∀ (τ : ST) (c : Nat), LI τ T P c → V X 79 [.ref (sB (xD X)), .ref (xad X 0), .ref (xad X 40), .ref (xad X 41), .ref (xad X 42), .ref (xad X 43), .int cd, .ref (xad X 44), .int (nI i), .float 0, .float 0, .float 0, .float 0, .float 0] [] (τ)) (4) hx79 hs79 0 (Nat.zero_le _) σ C2 hL)

