/-! the reference: orchard -/
set_option maxHeartbeats 4000000 in
set_option maxRecDepth 100000 in
theorem c_X9_orchard_u {l : Launch} {D : DD} {ad : Nat → Nat} (σ : ST) (k a i n : Int32) (h : ¬ isT 4 k) : Ct l yX9_orchard cX9_orchard 8 (Option.some FieldType.int) 4 89 D ad [.ref (ad 40), .int k, .int a, .int i, .int n] σ (ex (some (.int (-1))) (setf σ 40 0 0)) := by
  refine Ct.of2 [.ref (ad 40), .int k, .int a, .int i, .int n, .float 0, .float 0, .float 0] rfl (Nat.le_of_ble_eq_true rfl) rfl ?_
  rintro X C rfl rfl rfl hxn hR
  refine V_aload_n_0 (q := 1) C rfl dX9_orchard_0 ?_
  refine V_iconst (q := 2) (v := 0) C rfl rfl dX9_orchard_1 ?_
  refine pf_X9_96 (q := 5) C rfl dX9_orchard_2 ?_
  refine V_iload_n_1 (q := 6) C rfl dX9_orchard_5 ?_
  refine V_cS1r (q := 9) C (c_X9_isSheet _ _) cw_X9_isSheet cs_X9_isSheet wm_X9_114 ⟨by decide, by decide⟩ (Nat.le_of_ble_eq_true rfl) rfl dX9_orchard_6 ?_
  refine V_ifp_ne_f (tgt := 14) C h rfl (by decide) dX9_orchard_9 ?_
  refine V_iconst (q := 13) (v := (-1)) C rfl rfl dX9_orchard_12 ?_
  refine V_iret C hR dX9_orchard_13 ?_
  exact ⟨rfl, rfl⟩

set_option maxHeartbeats 4000000 in
set_option maxRecDepth 100000 in
theorem c_X9_orchard_o {l : Launch} {D : DD} {ad : Nat → Nat} (σ : ST) (j : Nat) (a i n : Int32) (hj : j < 4) (h : ¬ isT 3 a) : Ct l yX9_orchard cX9_orchard 8 (Option.some FieldType.int) 4 89 D ad [.ref (ad 40), .int (nI j), .int a, .int i, .int n] σ (ex (some (.int (-2))) (setf σ 40 0 0)) := by
  refine Ct.of2 [.ref (ad 40), .int (nI j), .int a, .int i, .int n, .float 0, .float 0, .float 0] rfl (Nat.le_of_ble_eq_true rfl) rfl ?_
  rintro X C rfl rfl rfl hxn hR
  refine V_aload_n_0 (q := 1) C rfl dX9_orchard_0 ?_
  refine V_iconst (q := 2) (v := 0) C rfl rfl dX9_orchard_1 ?_
  refine pf_X9_96 (q := 5) C rfl dX9_orchard_2 ?_
  refine V_iload_n_1 (q := 6) C rfl dX9_orchard_5 ?_
  refine V_cS1r (q := 9) C (c_X9_isSheet _ _) cw_X9_isSheet cs_X9_isSheet wm_X9_114 ⟨by decide, by decide⟩ (Nat.le_of_ble_eq_true rfl) rfl dX9_orchard_6 ?_
  refine V_ifp_ne_t (tgt := 14) C (isT_nI (N := 4) hj (by decide)) (by decide) dX9_orchard_9 ?_
  refine V_iload_n_2 (q := 15) C rfl dX9_orchard_14 ?_
  refine V_cS1r (q := 18) C (c_X9_isSort _ _) cw_X9_isSort cs_X9_isSort wm_X9_118 ⟨by decide, by decide⟩ (Nat.le_of_ble_eq_true rfl) rfl dX9_orchard_15 ?_
  refine V_ifp_ne_f (tgt := 24) C h rfl (by decide) dX9_orchard_18 ?_
  refine V_bipush (q := 23) (v := (-2)) C (by decide) rfl dX9_orchard_21 ?_
  refine V_iret C hR dX9_orchard_23 ?_
  exact ⟨rfl, rfl⟩

set_option maxHeartbeats 4000000 in
set_option maxRecDepth 100000 in
theorem c_X9_orchard_e {l : Launch} {D : DD} {ad : Nat → Nat} (σ : ST) (j : Nat) (a i n : Int32) (hj : j < 4) (h : isT 3 a) (hok : ¬ agF σ j a i n = 0) : Ct l yX9_orchard cX9_orchard 8 (Option.some FieldType.int) 4 89 D ad [.ref (ad 40), .int (nI j), .int a, .int i, .int n] σ (ex (some (.int (-10 - agF σ j a i n))) (setf σ 40 0 (agF σ j a i n))) := by
  refine Ct.of2 [.ref (ad 40), .int (nI j), .int a, .int i, .int n, .float 0, .float 0, .float 0] rfl (Nat.le_of_ble_eq_true rfl) rfl ?_
  rintro X C rfl rfl rfl hxn hR
  have hn5 : 5 < xn X := by rw [← hxn]; decide
  refine V_aload_n_0 (q := 1) C rfl dX9_orchard_0 ?_
  refine V_iconst (q := 2) (v := 0) C rfl rfl dX9_orchard_1 ?_
  refine pf_X9_96 (q := 5) C rfl dX9_orchard_2 ?_
  refine V_iload_n_1 (q := 6) C rfl dX9_orchard_5 ?_
  refine V_cS1r (q := 9) C (c_X9_isSheet _ _) cw_X9_isSheet cs_X9_isSheet wm_X9_114 ⟨by decide, by decide⟩ (Nat.le_of_ble_eq_true rfl) rfl dX9_orchard_6 ?_
  refine V_ifp_ne_t (tgt := 14) C (isT_nI (N := 4) hj (by decide)) (by decide) dX9_orchard_9 ?_
  refine V_iload_n_2 (q := 15) C rfl dX9_orchard_14 ?_
  refine V_cS1r (q := 18) C (c_X9_isSort _ _) cw_X9_isSort cs_X9_isSort wm_X9_118 ⟨by decide, by decide⟩ (Nat.le_of_ble_eq_true rfl) rfl dX9_orchard_15 ?_
  refine V_ifp_ne_t (tgt := 24) C h (by decide) dX9_orchard_18 ?_
  refine V_aload_n_0 (q := 25) C rfl dX9_orchard_24 ?_
  refine V_iload_n_1 (q := 26) C rfl dX9_orchard_25 ?_
  refine V_iload_n_2 (q := 27) C rfl dX9_orchard_26 ?_
  refine V_iload_n_3 (q := 28) C rfl dX9_orchard_27 ?_
  refine V_iload_4 (q := 30) C rfl dX9_orchard_28 ?_
  refine V_cV4r (q := 33) C (Ct.mono (v' := some (.int (agF σ j a i n))) (c_X9_against (setf σ 40 0 0) j a i n hj) rfl rfl) cw_X9_against cv_X9_against wm_X9_121 (by decide) ob_X9 ⟨by decide, by decide⟩ (Nat.le_of_ble_eq_true rfl) rfl dX9_orchard_30 ?_
  refine V_istore_5 (q := 35) C hn5 rfl rfl dX9_orchard_33 ?_
  refine V_iload_5 (q := 37) C rfl dX9_orchard_35 ?_
  refine V_if_eq_f (tgt := 47) C hok rfl (by decide) dX9_orchard_37 ?_
  refine V_aload_n_0 (q := 41) C rfl dX9_orchard_40 ?_
  refine V_iload_5 (q := 43) C rfl dX9_orchard_41 ?_
  refine V_cV1r (q := 46) C (Ct.mono (v' := some (.int (-10 - agF σ j a i n))) (τ' := setf σ 40 0 (agF σ j a i n)) (c_X9_fails _ (agF σ j a i n)) rfl setf_setf) cw_X9_fails cv_X9_fails wm_X9_125 (by decide) ob_X9 ⟨by decide, by decide⟩ (Nat.le_of_ble_eq_true rfl) rfl dX9_orchard_43 ?_
  refine V_iret C hR dX9_orchard_46 ?_
  exact ⟨rfl, rfl⟩

def orA (β : ST) (i : Nat) (rk rl rq : Nat → Int32) : ST := setc (setc (setc (setc β 44 (pre i rk (β 44))) 45 (pre i rl (β 45))) 46 (pre i rq (β 46))) 47 (pre i (fun _ => 0) (β 47))
def orB (β : ST) (i : Nat) (ru rw : Nat → Int32) : ST := setc (setc β 48 (pre i ru (β 48))) 49 (pre i rw (β 49))
def orD (β : ST) (i : Nat) : ST := setc (setc (setc β 50 (pre i (fun _ => 0) (β 50))) 51 (pre i (fun _ => -9) (β 51))) 52 (pre i (fun _ => 0) (β 52))
theorem orA_s {β : ST} {i : Nat} {rk rl rq : Nat → Int32} : setf (setf (setf (setf (orA β i rk rl rq) 44 i (rk i)) 45 i (rl i)) 46 i (rq i)) 47 i 0 = orA β (i + 1) rk rl rq := by
  funext g
  by_cases e47 : g = 47
  · subst e47; exact pre_step rfl
  · skip
    by_cases e46 : g = 46
    · subst e46; exact pre_step rfl
    · skip
      by_cases e45 : g = 45
      · subst e45; exact pre_step rfl
      · skip
        by_cases e44 : g = 44
        · subst e44; exact pre_step rfl
        · skip
          simp only [orA, orB, orD, setf, setc, if_neg e47, if_neg e46, if_neg e45, if_neg e44]
theorem orB_s {β : ST} {i : Nat} {ru rw : Nat → Int32} : setf (setf (orB β i ru rw) 48 i (ru i)) 49 i (rw i) = orB β (i + 1) ru rw := by
  funext g
  by_cases e49 : g = 49
  · subst e49; exact pre_step rfl
  · skip
    by_cases e48 : g = 48
    · subst e48; exact pre_step rfl
    · skip
      simp only [orA, orB, orD, setf, setc, if_neg e49, if_neg e48]
theorem orD_s {β : ST} {i : Nat} : setf (setf (setf (orD β i) 50 i 0) 51 i (-9)) 52 i 0 = orD β (i + 1) := by
  funext g
  by_cases e52 : g = 52
  · subst e52; exact pre_step rfl
  · skip
    by_cases e51 : g = 51
    · subst e51; exact pre_step rfl
    · skip
      by_cases e50 : g = 50
      · subst e50; exact pre_step rfl
      · skip
        simp only [orA, orB, orD, setf, setc, if_neg e52, if_neg e51, if_neg e50]
theorem orA_0 {β : ST} {rk rl rq : Nat → Int32} : orA β 0 rk rl rq = β := by
  unfold orA
  rw [pre_0, pre_0, pre_0, pre_0, setc_id]
  rw [show setc β 45 (β 45) = β from setc_id, show setc β 46 (β 46) = β from setc_id, show setc β 47 (β 47) = β from setc_id]
theorem orB_0 {β : ST} {ru rw : Nat → Int32} : orB β 0 ru rw = β := by
  unfold orB
  rw [pre_0, pre_0, setc_id]
  exact setc_id
theorem orD_0 {β : ST} : orD β 0 = β := by
  unfold orD
  rw [pre_0, pre_0, pre_0, setc_id]
  rw [show setc β 51 (β 51) = β from setc_id, show setc β 52 (β 52) = β from setc_id]
def orS (σ : ST) (rk rl rq ru rw : Nat → Int32) (rx : Int32) (m q : Nat) : ST := setf (setf (RS σ rk rl rq ru rw rx (nI m) (nI q)) 40 5 (nI m)) 40 6 (nI q)
def orG (σ : ST) (rk rl rq ru rw : Nat → Int32) (rx : Int32) (m q : Nat) : ST := setf (setf (orD (orB (orA (orS σ rk rl rq ru rw rx m q) m rk rl rq) q ru rw) 30) 40 24 0) 40 33 0
def orQM (σ : ST) (f n : Nat) (v : Int32) (τ : ST) : Prop := if (ffR (xT σ f) n).1 = -1 then v = nI (ffR (xT σ f) n).2.1 ∧ ∃ (rk rl rq ru rw : Nat → Int32) (rx : Int32), τ = orG σ rk rl rq ru rw rx (ffR (xT σ f) n).2.1 (ffR (xT σ f) n).2.2 ∧ TRd (xT σ f) n (ffR (xT σ f) n).2.1 rk rl rq ∧ PRd (xT σ f) n (1 + 3 * (ffR (xT σ f) n).2.1) (ffR (xT σ f) n).2.2 ru rw else v = -100 - (ffR (xT σ f) n).1 ∧ ∀ C : Nat, KM C σ τ
theorem KM.rs {C : Nat} {σ : ST} {rk rl rq ru rw : Nat → Int32} {rx ry rz : Int32} : KM C σ (RS σ rk rl rq ru rw rx ry rz) := by
  refine ⟨fun k hk => ?_, fun i h1 h2 h3 => ?_, fun c _ => ⟨rfl, rfl⟩⟩
  · unfold scm at hk
    unfold RS
    rw [setc_n (by omega), setc_n (by omega), setc_n (by omega), setc_n (by omega), setc_n (by omega), setc_n (by omega)]
  · show (if i = 18 then rz else if i = 17 then ry else if i = 16 then rx else σ 40 i) = σ 40 i
    rw [if_neg h3, if_neg h2, if_neg h1]

set_option maxHeartbeats 4000000 in
set_option maxRecDepth 100000 in
theorem c_X9_orchard_v {l : Launch} {D : DD} {ad : Nat → Nat} (σ : ST) (j s m : Nat) (a : Int32) (hj : j < 4) (h : isT 3 a) (hr : ¬ σ 41 j = -9) (hla : σ 41 j = a) (L : Nat) (hL : σ 42 j = nI L) (hL50 : L ≤ 50) (hsm : s + m ≤ L) : Ct l yX9_orchard cX9_orchard 8 (Option.some FieldType.int) 4 89 D ad [.ref (ad 40), .int (nI j), .int a, .int (nI s), .int (nI m)] σ (pq (orQM (setf σ 40 0 0) (50 * j + s) m)) := by
  refine Ct.of2 [.ref (ad 40), .int (nI j), .int a, .int (nI s), .int (nI m), .float 0, .float 0, .float 0] rfl (Nat.le_of_ble_eq_true rfl) rfl ?_
  rintro X C rfl rfl rfl hxn hR
  have hn5 : 5 < xn X := by rw [← hxn]; decide
  have hn6 : 6 < xn X := by rw [← hxn]; decide
  have hn7 : 7 < xn X := by rw [← hxn]; decide
  have ag0 : agF σ j a (nI s) (nI m) = 0 := by
    unfold agF
    rw [if_neg (fun h => h.2 hla), if_neg hr, if_neg (nI_pos (by omega)), hL, if_neg]
    rintro (h | h | h)
    · exact nI_pos (by omega) h
    · exact nI_nlt (by omega) (by omega) h
    · rw [pk_sub (by omega)] at h
      exact nI_nlt (by omega) (by omega) h
  refine V_aload_n_0 (q := 1) C rfl dX9_orchard_0 ?_
  refine V_iconst (q := 2) (v := 0) C rfl rfl dX9_orchard_1 ?_
  refine pf_X9_96 (q := 5) C rfl dX9_orchard_2 ?_
  refine V_iload_n_1 (q := 6) C rfl dX9_orchard_5 ?_
  refine V_cS1r (q := 9) C (c_X9_isSheet _ _) cw_X9_isSheet cs_X9_isSheet wm_X9_114 ⟨by decide, by decide⟩ (Nat.le_of_ble_eq_true rfl) rfl dX9_orchard_6 ?_
  refine V_ifp_ne_t (tgt := 14) C (isT_nI (N := 4) hj (by decide)) (by decide) dX9_orchard_9 ?_
  refine V_iload_n_2 (q := 15) C rfl dX9_orchard_14 ?_
  refine V_cS1r (q := 18) C (c_X9_isSort _ _) cw_X9_isSort cs_X9_isSort wm_X9_118 ⟨by decide, by decide⟩ (Nat.le_of_ble_eq_true rfl) rfl dX9_orchard_15 ?_
  refine V_ifp_ne_t (tgt := 24) C h (by decide) dX9_orchard_18 ?_
  refine V_aload_n_0 (q := 25) C rfl dX9_orchard_24 ?_
  refine V_iload_n_1 (q := 26) C rfl dX9_orchard_25 ?_
  refine V_iload_n_2 (q := 27) C rfl dX9_orchard_26 ?_
  refine V_iload_n_3 (q := 28) C rfl dX9_orchard_27 ?_
  refine V_iload_4 (q := 30) C rfl dX9_orchard_28 ?_
  refine V_cV4r (q := 33) C (Ct.mono (v' := some (.int (0))) (c_X9_against (setf σ 40 0 0) j a (nI s) (nI m) hj) (congrArg (fun z => some (Value.int z)) (show agF σ j a (nI s) (nI m) = 0 from ag0)) rfl) cw_X9_against cv_X9_against wm_X9_121 (by decide) ob_X9 ⟨by decide, by decide⟩ (Nat.le_of_ble_eq_true rfl) rfl dX9_orchard_30 ?_
  refine V_istore_5 (q := 35) C hn5 rfl rfl dX9_orchard_33 ?_
  refine V_iload_5 (q := 37) C rfl dX9_orchard_35 ?_
  refine V_if_eq_t (tgt := 47) C rfl (by decide) dX9_orchard_37 ?_
  refine V_bipush (q := 49) (v := 50) C (by decide) rfl dX9_orchard_47 ?_
  refine V_iload_n_1 (q := 50) C rfl dX9_orchard_49 ?_
  refine V_imul (q := 51) C rfl dX9_orchard_50 ?_
  rw [w50]
  refine V_iload_n_3 (q := 52) C rfl dX9_orchard_51 ?_
  refine V_iadd (q := 53) C rfl dX9_orchard_52 ?_
  rw [nI_add]
  refine V_istore_6 (q := 55) C hn6 rfl rfl dX9_orchard_53 ?_
  refine V_aload_n_0 (q := 56) C rfl dX9_orchard_55 ?_
  refine V_iload_6 (q := 58) C rfl dX9_orchard_56 ?_
  refine pf_X9_111 (q := 61) C rfl dX9_orchard_58 ?_
  refine V_eq (show _ = RS (setf σ 40 0 0) (σ 53) (σ 54) (σ 55) (σ 56) (σ 57) (nI (50 * j + s + 0)) (σ 40 17) (σ 40 18) by rw [← RS_x (x := σ 40 16)]; exact congrArg (fun z => setf z 40 16 (nI (50 * j + s))) (RS_get (σ := (setf σ 40 0 0))).symm) ?_
  refine V_aload_n_0 (q := 62) C rfl dX9_orchard_61 ?_
  refine V_iload_6 (q := 64) C rfl dX9_orchard_62 ?_
  refine V_iload_4 (q := 66) C rfl dX9_orchard_64 ?_
  refine V_iadd (q := 67) C rfl dX9_orchard_66 ?_
  rw [nI_add]
  refine V_cV1q C (c_X9_readOrchard (setf σ 40 0 0) (σ 53) (σ 54) (σ 55) (σ 56) (σ 57) (σ 40 17) (σ 40 18) (50 * j + s) m (by omega)) cw_X9_readOrchard cv_X9_readOrchard wm_X9_129 (by decide) ob_X9 ⟨by decide, by decide⟩ (Nat.le_of_ble_eq_true rfl) rfl dX9_orchard_67 (fun v τ hv => ?_)
  obtain ⟨rk, rl, rq, ru, rw, rx, ry, rz, rfl, hv⟩ := hv
  refine V_if_ne (tgt := 84) C rfl (by decide) dX9_orchard_70 (fun c70 => ?_) (fun c70 => ?_)
  · have h1 : (ffR (xT (setf σ 40 0 0) (50 * j + s)) m).1 = -1 := Decidable.of_not_not (fun h1 => by rw [if_neg h1] at hv; exact c70 hv.1)
    rw [if_pos h1] at hv
    obtain ⟨-, rfl, rfl, hT, hPd⟩ := hv
    have hM6 : (ffR (xT (setf σ 40 0 0) (50 * j + s)) m).2.1 ≤ 6 := ffR_le.1
    have hQ6 : (ffR (xT (setf σ 40 0 0) (50 * j + s)) m).2.2 ≤ 6 := ffR_le.2
    generalize hMe : (ffR (xT (setf σ 40 0 0) (50 * j + s)) m).2.1 = M at hT hPd hM6 ⊢
    generalize hQe : (ffR (xT (setf σ 40 0 0) (50 * j + s)) m).2.2 = Q at hPd hQ6 ⊢
    refine V_aload_n_0 (q := 85) C rfl dX9_orchard_84 ?_
    refine V_aload_n_0 (q := 86) C rfl dX9_orchard_85 ?_
    refine gf_X9_132 (q := 89) C rfl dX9_orchard_86 ?_
    refine pf_X9_105 (q := 92) C rfl dX9_orchard_89 ?_
    refine V_aload_n_0 (q := 93) C rfl dX9_orchard_92 ?_
    refine V_aload_n_0 (q := 94) C rfl dX9_orchard_93 ?_
    refine gf_X9_135 (q := 97) C rfl dX9_orchard_94 ?_
    refine pf_X9_108 (q := 100) C rfl dX9_orchard_97 ?_
    refine V_eq (τ := orS (setf σ 40 0 0) rk rl rq ru rw rx M Q) rfl ?_
    refine V_iconst (q := 101) (v := (nI 0)) C rfl rfl dX9_orchard_100 ?_
    refine V_istore_7 (q := 103) C hn7 rfl rfl dX9_orchard_101 ?_
    have hx103 : V X 103 [.ref (xad X 40), .int (nI j), .int a, .int (nI s), .int (nI m), .int 0, .int (nI (50 * j + s)), .int (nI M)] [] (orA (orS (setf σ 40 0 0) rk rl rq ru rw rx M Q) M rk rl rq) := by
      refine V_iload_7 (q := 105) C rfl dX9_orchard_103 ?_
      refine V_aload_n_0 (q := 106) C rfl dX9_orchard_105 ?_
      refine gf_X9_105 (q := 109) C rfl dX9_orchard_106 ?_
      rw [show (orA (orS (setf σ 40 0 0) rk rl rq ru rw rx M Q) M rk rl rq) 40 5 = nI M from rfl]
      refine V_icmp_ge_t (tgt := 168) C (nI_le (Nat.le_refl _) (by omega)) (by decide) dX9_orchard_109 ?_
      refine V_iconst (q := 169) (v := (nI 0)) C rfl rfl dX9_orchard_168 ?_
      refine V_istore_7 (q := 171) C hn7 rfl rfl dX9_orchard_169 ?_
      have hx171 : V X 171 [.ref (xad X 40), .int (nI j), .int a, .int (nI s), .int (nI m), .int 0, .int (nI (50 * j + s)), .int (nI Q)] [] (orB (orA (orS (setf σ 40 0 0) rk rl rq ru rw rx M Q) M rk rl rq) Q ru rw) := by
        refine V_iload_7 (q := 173) C rfl dX9_orchard_171 ?_
        refine V_aload_n_0 (q := 174) C rfl dX9_orchard_173 ?_
        refine gf_X9_108 (q := 177) C rfl dX9_orchard_174 ?_
        rw [show (orB (orA (orS (setf σ 40 0 0) rk rl rq ru rw rx M Q) M rk rl rq) Q ru rw) 40 6 = nI Q from rfl]
        refine V_icmp_ge_t (tgt := 214) C (nI_le (Nat.le_refl _) (by omega)) (by decide) dX9_orchard_177 ?_
        refine V_iconst (q := 215) (v := (nI 0)) C rfl rfl dX9_orchard_214 ?_
        refine V_istore_7 (q := 217) C hn7 rfl rfl dX9_orchard_215 ?_
        have hx217 : V X 217 [.ref (xad X 40), .int (nI j), .int a, .int (nI s), .int (nI m), .int 0, .int (nI (50 * j + s)), .int (nI 30)] [] (orD (orB (orA (orS (setf σ 40 0 0) rk rl rq ru rw rx M Q) M rk rl rq) Q ru rw) 30) := by
          refine V_iload_7 (q := 219) C rfl dX9_orchard_217 ?_
          refine V_bipush (q := 221) (v := 30) C (by decide) rfl dX9_orchard_219 ?_
          refine V_icmp_ge_t (tgt := 255) C (by decide) (by decide) dX9_orchard_221 ?_
          refine V_aload_n_0 (q := 256) C rfl dX9_orchard_255 ?_
          refine V_iconst (q := 257) (v := 0) C rfl rfl dX9_orchard_256 ?_
          refine pf_X9_138 (q := 260) C rfl dX9_orchard_257 ?_
          refine V_aload_n_0 (q := 261) C rfl dX9_orchard_260 ?_
          refine V_iconst (q := 262) (v := 0) C rfl rfl dX9_orchard_261 ?_
          refine pf_X9_141 (q := 265) C rfl dX9_orchard_262 ?_
          refine V_aload_n_0 (q := 266) C rfl dX9_orchard_265 ?_
          refine gf_X9_105 (q := 269) C rfl dX9_orchard_266 ?_
          refine V_iret C hR dX9_orchard_269 ?_
          refine ⟨_, rfl, ?_⟩
          unfold orQM
          rw [if_pos h1, hMe, hQe]
          exact ⟨rfl, rk, rl, rq, ru, rw, rx, rfl, hT, hPd⟩
        have hs217 : ∀ d : Nat, d < 30 → (V X 217 [.ref (xad X 40), .int (nI j), .int a, .int (nI s), .int (nI m), .int 0, .int (nI (50 * j + s)), .int (nI (d + 1))] [] (orD (orB (orA (orS (setf σ 40 0 0) rk rl rq ru rw rx M Q) M rk rl rq) Q ru rw) (d + 1))) → V X 217 [.ref (xad X 40), .int (nI j), .int a, .int (nI s), .int (nI m), .int 0, .int (nI (50 * j + s)), .int (nI d)] [] (orD (orB (orA (orS (setf σ 40 0 0) rk rl rq ru rw rx M Q) M rk rl rq) Q ru rw) d) := by
          intro d hi217 ih217
          refine V_iload_7 (q := 219) C rfl dX9_orchard_217 ?_
          refine V_bipush (q := 221) (v := 30) C (by decide) rfl dX9_orchard_219 ?_
          refine V_icmp_ge_f (tgt := 255) C (nI_ge (b := 30) hi217 (by decide)) rfl (by decide) dX9_orchard_221 ?_
          refine V_aload_n_0 (q := 225) C rfl dX9_orchard_224 ?_
          refine gf_X9_38 (q := 228) C rfl dX9_orchard_225 ?_
          refine V_iload_7 (q := 230) C rfl dX9_orchard_228 ?_
          refine V_iconst (q := 231) (v := 0) C rfl rfl dX9_orchard_230 ?_
          refine V_iast (q := 232) C _ rfl (by show _ < 30; omega) rfl (by decide) (by decide) rfl dX9_orchard_231 ?_
          refine V_aload_n_0 (q := 233) C rfl dX9_orchard_232 ?_
          refine gf_X9_41 (q := 236) C rfl dX9_orchard_233 ?_
          refine V_iload_7 (q := 238) C rfl dX9_orchard_236 ?_
          refine V_bipush (q := 240) (v := (-9)) C (by decide) rfl dX9_orchard_238 ?_
          refine V_iast (q := 241) C _ rfl (by show _ < 30; omega) rfl (by decide) (by decide) rfl dX9_orchard_240 ?_
          refine V_aload_n_0 (q := 242) C rfl dX9_orchard_241 ?_
          refine gf_X9_44 (q := 245) C rfl dX9_orchard_242 ?_
          refine V_iload_7 (q := 247) C rfl dX9_orchard_245 ?_
          refine V_iconst (q := 248) (v := 0) C rfl rfl dX9_orchard_247 ?_
          refine V_zast (q := 249) C _ rfl (by show _ < 30; omega) rfl rfl (by decide) (by decide) rfl dX9_orchard_248 ?_
          refine V_iinc_7 (q := 252) (n := 1) C nI_inc hn7 rfl rfl dX9_orchard_249 ?_
          refine V_goto (tgt := 217) C (by decide) dX9_orchard_252 ?_
          exact V_eq orD_s ih217
        exact V_eq (by rw [orD_0]) (loopN (P := fun d => V X 217 [.ref (xad X 40), .int (nI j), .int a, .int (nI s), .int (nI m), .int 0, .int (nI (50 * j + s)), .int (nI d)] [] (orD (orB (orA (orS (setf σ 40 0 0) rk rl rq ru rw rx M Q) M rk rl rq) Q ru rw) d)) (30) hx217 hs217 0 (Nat.zero_le _))
      have hs171 : ∀ p : Nat, p < Q → (V X 171 [.ref (xad X 40), .int (nI j), .int a, .int (nI s), .int (nI m), .int 0, .int (nI (50 * j + s)), .int (nI (p + 1))] [] (orB (orA (orS (setf σ 40 0 0) rk rl rq ru rw rx M Q) M rk rl rq) (p + 1) ru rw)) → V X 171 [.ref (xad X 40), .int (nI j), .int a, .int (nI s), .int (nI m), .int 0, .int (nI (50 * j + s)), .int (nI p)] [] (orB (orA (orS (setf σ 40 0 0) rk rl rq ru rw rx M Q) M rk rl rq) p ru rw) := by
        intro p hi171 ih171
        refine V_iload_7 (q := 173) C rfl dX9_orchard_171 ?_
        refine V_aload_n_0 (q := 174) C rfl dX9_orchard_173 ?_
        refine gf_X9_108 (q := 177) C rfl dX9_orchard_174 ?_
        rw [show (orB (orA (orS (setf σ 40 0 0) rk rl rq ru rw rx M Q) M rk rl rq) p ru rw) 40 6 = nI Q from rfl]
        refine V_icmp_ge_f (tgt := 214) C (nI_ge hi171 (by omega)) rfl (by decide) dX9_orchard_177 ?_
        refine V_aload_n_0 (q := 181) C rfl dX9_orchard_180 ?_
        refine gf_X9_32 (q := 184) C rfl dX9_orchard_181 ?_
        refine V_iload_7 (q := 186) C rfl dX9_orchard_184 ?_
        refine V_aload_n_0 (q := 187) C rfl dX9_orchard_186 ?_
        refine gf_X9_56 (q := 190) C rfl dX9_orchard_187 ?_
        refine V_iload_7 (q := 192) C rfl dX9_orchard_190 ?_
        refine V_iald (q := 193) C _ rfl (by show _ < 6; omega) rfl (by decide) (by decide) rfl dX9_orchard_192 ?_
        refine V_iast (q := 194) C _ rfl (by show _ < 6; omega) rfl (by decide) (by decide) rfl dX9_orchard_193 ?_
        refine V_aload_n_0 (q := 195) C rfl dX9_orchard_194 ?_
        refine gf_X9_35 (q := 198) C rfl dX9_orchard_195 ?_
        refine V_iload_7 (q := 200) C rfl dX9_orchard_198 ?_
        refine V_aload_n_0 (q := 201) C rfl dX9_orchard_200 ?_
        refine gf_X9_59 (q := 204) C rfl dX9_orchard_201 ?_
        refine V_iload_7 (q := 206) C rfl dX9_orchard_204 ?_
        refine V_iald (q := 207) C _ rfl (by show _ < 6; omega) rfl (by decide) (by decide) rfl dX9_orchard_206 ?_
        refine V_iast (q := 208) C _ rfl (by show _ < 6; omega) rfl (by decide) (by decide) rfl dX9_orchard_207 ?_
        refine V_iinc_7 (q := 211) (n := 1) C nI_inc hn7 rfl rfl dX9_orchard_208 ?_
        refine V_goto (tgt := 171) C (by decide) dX9_orchard_211 ?_
        exact V_eq orB_s ih171
      exact V_eq (by rw [orB_0]) (loopN (P := fun p => V X 171 [.ref (xad X 40), .int (nI j), .int a, .int (nI s), .int (nI m), .int 0, .int (nI (50 * j + s)), .int (nI p)] [] (orB (orA (orS (setf σ 40 0 0) rk rl rq ru rw rx M Q) M rk rl rq) p ru rw)) (Q) hx171 hs171 0 (Nat.zero_le _))
    have hs103 : ∀ t : Nat, t < M → (V X 103 [.ref (xad X 40), .int (nI j), .int a, .int (nI s), .int (nI m), .int 0, .int (nI (50 * j + s)), .int (nI (t + 1))] [] (orA (orS (setf σ 40 0 0) rk rl rq ru rw rx M Q) (t + 1) rk rl rq)) → V X 103 [.ref (xad X 40), .int (nI j), .int a, .int (nI s), .int (nI m), .int 0, .int (nI (50 * j + s)), .int (nI t)] [] (orA (orS (setf σ 40 0 0) rk rl rq ru rw rx M Q) t rk rl rq) := by
      intro t hi103 ih103
      refine V_iload_7 (q := 105) C rfl dX9_orchard_103 ?_
      refine V_aload_n_0 (q := 106) C rfl dX9_orchard_105 ?_
      refine gf_X9_105 (q := 109) C rfl dX9_orchard_106 ?_
      rw [show (orA (orS (setf σ 40 0 0) rk rl rq ru rw rx M Q) t rk rl rq) 40 5 = nI M from rfl]
      refine V_icmp_ge_f (tgt := 168) C (nI_ge hi103 (by omega)) rfl (by decide) dX9_orchard_109 ?_
      refine V_aload_n_0 (q := 113) C rfl dX9_orchard_112 ?_
      refine gf_X9_19 (q := 116) C rfl dX9_orchard_113 ?_
      refine V_iload_7 (q := 118) C rfl dX9_orchard_116 ?_
      refine V_aload_n_0 (q := 119) C rfl dX9_orchard_118 ?_
      refine gf_X9_47 (q := 122) C rfl dX9_orchard_119 ?_
      refine V_iload_7 (q := 124) C rfl dX9_orchard_122 ?_
      refine V_iald (q := 125) C _ rfl (by show _ < 6; omega) rfl (by decide) (by decide) rfl dX9_orchard_124 ?_
      refine V_iast (q := 126) C _ rfl (by show _ < 6; omega) rfl (by decide) (by decide) rfl dX9_orchard_125 ?_
      refine V_aload_n_0 (q := 127) C rfl dX9_orchard_126 ?_
      refine gf_X9_22 (q := 130) C rfl dX9_orchard_127 ?_
      refine V_iload_7 (q := 132) C rfl dX9_orchard_130 ?_
      refine V_aload_n_0 (q := 133) C rfl dX9_orchard_132 ?_
      refine gf_X9_50 (q := 136) C rfl dX9_orchard_133 ?_
      refine V_iload_7 (q := 138) C rfl dX9_orchard_136 ?_
      refine V_iald (q := 139) C _ rfl (by show _ < 6; omega) rfl (by decide) (by decide) rfl dX9_orchard_138 ?_
      refine V_iast (q := 140) C _ rfl (by show _ < 6; omega) rfl (by decide) (by decide) rfl dX9_orchard_139 ?_
      refine V_aload_n_0 (q := 141) C rfl dX9_orchard_140 ?_
      refine gf_X9_25 (q := 144) C rfl dX9_orchard_141 ?_
      refine V_iload_7 (q := 146) C rfl dX9_orchard_144 ?_
      refine V_aload_n_0 (q := 147) C rfl dX9_orchard_146 ?_
      refine gf_X9_53 (q := 150) C rfl dX9_orchard_147 ?_
      refine V_iload_7 (q := 152) C rfl dX9_orchard_150 ?_
      refine V_iald (q := 153) C _ rfl (by show _ < 6; omega) rfl (by decide) (by decide) rfl dX9_orchard_152 ?_
      refine V_iast (q := 154) C _ rfl (by show _ < 6; omega) rfl (by decide) (by decide) rfl dX9_orchard_153 ?_
      refine V_aload_n_0 (q := 155) C rfl dX9_orchard_154 ?_
      refine gf_X9_28 (q := 158) C rfl dX9_orchard_155 ?_
      refine V_iload_7 (q := 160) C rfl dX9_orchard_158 ?_
      refine V_iconst (q := 161) (v := 0) C rfl rfl dX9_orchard_160 ?_
      refine V_zast (q := 162) C _ rfl (by show _ < 6; omega) rfl rfl (by decide) (by decide) rfl dX9_orchard_161 ?_
      refine V_iinc_7 (q := 165) (n := 1) C nI_inc hn7 rfl rfl dX9_orchard_162 ?_
      refine V_goto (tgt := 103) C (by decide) dX9_orchard_165 ?_
      exact V_eq orA_s ih103
    exact V_eq (by rw [orA_0]) (loopN (P := fun t => V X 103 [.ref (xad X 40), .int (nI j), .int a, .int (nI s), .int (nI m), .int 0, .int (nI (50 * j + s)), .int (nI t)] [] (orA (orS (setf σ 40 0 0) rk rl rq ru rw rx M Q) t rk rl rq)) (M) hx103 hs103 0 (Nat.zero_le _))
  · refine V_bipush (q := 75) (v := (-100)) C (by decide) rfl dX9_orchard_73 ?_
    refine V_aload_n_0 (q := 76) C rfl dX9_orchard_75 ?_
    refine gf_X9_111 (q := 79) C rfl dX9_orchard_76 ?_
    refine V_iload_6 (q := 81) C rfl dX9_orchard_79 ?_
    refine V_isub (q := 82) C rfl dX9_orchard_81 ?_
    refine V_isub (q := 83) C rfl dX9_orchard_82 ?_
    refine V_iret C hR dX9_orchard_83 ?_
    by_cases h1 : (ffR (xT (setf σ 40 0 0) (50 * j + s)) m).1 = -1
    · rw [if_pos h1] at hv
      exact absurd (hv.1.symm.trans c70) (by decide)
    · rw [if_neg h1] at hv
      obtain ⟨-, g, hg, rfl, hg2⟩ := hv
      refine ⟨_, rfl, ?_⟩
      unfold orQM
      rw [if_neg h1, hg2]
      refine ⟨?_, fun C => KM.rs⟩
      show -100 - (nI (50 * j + s + g) - nI (50 * j + s)) = -100 - nI g
      rw [pk_sub (by omega), show 50 * j + s + g - (50 * j + s) = g by omega]

