/-! the class: what is planted -/
section PLANT
variable (σ : ST) (n T P : Nat)
def plK (t : Nat) : Int32 := kdT (codeT σ n (1 + 3 * t))
def plL (t : Nat) : Int32 := digT σ n (2 + 3 * t)
def plN (t : Nat) : Int32 := digT σ n (3 + 3 * t)
def plW (t : Nat) : Int32 := wantC (plK σ n t) (plN σ n t)
def plPL (p : Nat) : Int32 := digT σ n (1 + 3 * T + 4 * p + 1)
def plTm (p : Nat) : Int32 := termT σ n (1 + 3 * T + 4 * p + 2)
def pl0 : ST := setf (setf (setf σ 12 0 (σ 10 2)) 12 1 (σ 10 3)) 12 2 0
def plA (i : Nat) : ST := setc (setc (setc (setc (pl0 σ) 13 (pre i (plK σ n) (σ 13))) 14 (pre i (plL σ n) (σ 14))) 15 (pre i (plN σ n) (σ 15))) 16 (pre i (plW σ n) (σ 16))
def plE : Nat → Nat → Int32
  | 0 => fun _ => 0
  | p + 1 => upd (plE p) (plTm σ n T p).toNatClampNeg (plE p (plTm σ n T p).toNatClampNeg ||| own1 (nI p))
def plB (i : Nat) : ST := setc (setc (setc (plA σ n T) 18 (pre i (plPL σ n T) (σ 18))) 19 (pre i (plTm σ n T) (σ 19))) 20 (plE σ n T i)
def plC (i : Nat) : ST := setc (plB σ n T P) 17 (pre i (fun t => fitC (plB σ n T P) t P) (σ 17))
end PLANT
theorem termT_d {σ : ST} {n j : Nat} : ∃ d : Nat, d < 30 ∧ termT σ n j = nI d := by
  unfold termT
  by_cases h : isT 30 (10 * digT σ n j + digT σ n (j + 1))
  · rw [if_pos h]
    exact isT_of h rfl (by decide)
  · rw [if_neg h]
    exact ⟨29, by decide, rfl⟩

set_option maxHeartbeats 4000000 in
set_option maxRecDepth 100000 in
theorem c_X1_plant {l : Launch} {D : DD} {ad : Nat → Nat} (σ : ST) (n T P : Nat) (hn : σ 10 1 = nI n) (hn50 : n ≤ 50) (hT : σ 10 2 = nI T) (hT6 : T ≤ 6) (hP : σ 10 3 = nI P) (hP6 : P ≤ 6) : Ct l yX1_plant cX1_plant 4 (Option.none : Option FieldType) 3 64 D ad [.ref (ad 12), .ref (ad 10)] σ (ex none (plC σ n T P T)) := by
  refine Ct.of2 [.ref (ad 12), .ref (ad 10), .float 0, .float 0] rfl (Nat.le_of_ble_eq_true rfl) rfl ?_
  rintro X C rfl rfl rfl hxn hR
  have hn2 : 2 < xn X := by rw [← hxn]; decide
  have hn3 : 3 < xn X := by rw [← hxn]; decide
  refine V_aload_n_0 (q := 1) C rfl dX1_plant_0 ?_
  refine V_aload_n_1 (q := 2) C rfl dX1_plant_1 ?_
  refine gf_X1_46 (q := 5) C rfl dX1_plant_2 ?_
  refine pf_X1_9 (q := 8) C rfl dX1_plant_5 ?_
  refine V_aload_n_0 (q := 9) C rfl dX1_plant_8 ?_
  refine V_aload_n_1 (q := 10) C rfl dX1_plant_9 ?_
  refine gf_X1_49 (q := 13) C rfl dX1_plant_10 ?_
  refine pf_X1_15 (q := 16) C rfl dX1_plant_13 ?_
  refine V_aload_n_0 (q := 17) C rfl dX1_plant_16 ?_
  refine V_iconst (q := 18) (v := 0) C rfl rfl dX1_plant_17 ?_
  refine pf_X1_18 (q := 21) C rfl dX1_plant_18 ?_
  refine V_iconst (q := 22) (v := (nI (1 + 3 * 0))) C rfl rfl dX1_plant_21 ?_
  refine V_istore_n_2 (q := 23) C hn2 rfl rfl dX1_plant_22 ?_
  refine V_iconst (q := 24) (v := (nI 0)) C rfl rfl dX1_plant_23 ?_
  refine V_istore_n_3 (q := 25) C hn3 rfl rfl dX1_plant_24 ?_
  have hx25 : V X 25 [.ref (xad X 12), .ref (xad X 10), .int (nI (1 + 3 * T)), .int (nI T)] [] (plA σ n T) := by
    refine V_iload_n_3 (q := 26) C rfl dX1_plant_25 ?_
    refine V_aload_n_0 (q := 27) C rfl dX1_plant_26 ?_
    refine gf_X1_9 (q := 30) C rfl dX1_plant_27 ?_
    rw [show plA σ n T 12 0 = nI T from hT]
    refine V_icmp_ge_t (tgt := 90) C (nI_le (Nat.le_refl _) (by omega)) (by decide) dX1_plant_30 ?_
    refine V_aload_n_0 (q := 91) C rfl dX1_plant_90 ?_
    refine gf_X1_43 (q := 94) C rfl dX1_plant_91 ?_
    refine V_iconst (q := 95) (v := 0) C rfl rfl dX1_plant_94 ?_
    refine V_cS2v (q := 98) C (c_J7_fill_53178 _ 20 0 rfl (by decide) (by decide)) cw_J7_fill_53178 cs_J7_fill_53178 wm_X1_60 ⟨by decide, by decide⟩ (Nat.le_of_ble_eq_true rfl) rfl dX1_plant_95 ?_
    refine V_iconst (q := 99) (v := (nI 0)) C rfl rfl dX1_plant_98 ?_
    refine V_istore_n_3 (q := 100) C hn3 rfl rfl dX1_plant_99 ?_
    have hx100 : V X 100 [.ref (xad X 12), .ref (xad X 10), .int (nI (1 + 3 * T + 4 * P)), .int (nI P)] [] (plB σ n T P) := by
      refine V_iload_n_3 (q := 101) C rfl dX1_plant_100 ?_
      refine V_aload_n_0 (q := 102) C rfl dX1_plant_101 ?_
      refine gf_X1_15 (q := 105) C rfl dX1_plant_102 ?_
      rw [show plB σ n T P 12 1 = nI P from hP]
      refine V_icmp_ge_t (tgt := 160) C (nI_le (Nat.le_refl _) (by omega)) (by decide) dX1_plant_105 ?_
      refine V_iconst (q := 161) (v := (nI 0)) C rfl rfl dX1_plant_160 ?_
      refine V_istore_n_3 (q := 162) C hn3 rfl rfl dX1_plant_161 ?_
      have hx162 : V X 162 [.ref (xad X 12), .ref (xad X 10), .int (nI (1 + 3 * T + 4 * P)), .int (nI T)] [] (plC σ n T P T) := by
        refine V_iload_n_3 (q := 163) C rfl dX1_plant_162 ?_
        refine V_aload_n_0 (q := 164) C rfl dX1_plant_163 ?_
        refine gf_X1_9 (q := 167) C rfl dX1_plant_164 ?_
        rw [show plC σ n T P T 12 0 = nI T from hT]
        refine V_icmp_ge_t (tgt := 187) C (nI_le (Nat.le_refl _) (by omega)) (by decide) dX1_plant_167 ?_
        refine V_vret C hR dX1_plant_187 ?_
        exact ⟨rfl, rfl⟩
      have hs162 : ∀ t : Nat, t < T → (V X 162 [.ref (xad X 12), .ref (xad X 10), .int (nI (1 + 3 * T + 4 * P)), .int (nI (t + 1))] [] (plC σ n T P (t + 1))) → V X 162 [.ref (xad X 12), .ref (xad X 10), .int (nI (1 + 3 * T + 4 * P)), .int (nI t)] [] (plC σ n T P t) := by
        intro t hi162 ih162
        refine V_iload_n_3 (q := 163) C rfl dX1_plant_162 ?_
        refine V_aload_n_0 (q := 164) C rfl dX1_plant_163 ?_
        refine gf_X1_9 (q := 167) C rfl dX1_plant_164 ?_
        rw [show plC σ n T P t 12 0 = nI T from hT]
        refine V_icmp_ge_f (tgt := 187) C (nI_ge hi162 (by omega)) rfl (by decide) dX1_plant_167 ?_
        refine V_aload_n_0 (q := 171) C rfl dX1_plant_170 ?_
        refine gf_X1_34 (q := 174) C rfl dX1_plant_171 ?_
        refine V_iload_n_3 (q := 175) C rfl dX1_plant_174 ?_
        refine V_aload_n_0 (q := 176) C rfl dX1_plant_175 ?_
        refine V_iload_n_3 (q := 177) C rfl dX1_plant_176 ?_
        refine V_cV1r (q := 180) C (Ct.mono (v' := some (.int (fitC (plB σ n T P) t P))) (c_X1_prisonersFitting (plC σ n T P t) t P (by omega) hP hP6) rfl rfl) cw_X1_prisonersFitting cv_X1_prisonersFitting wm_X1_69 (by decide) ob_X1 ⟨by decide, by decide⟩ (Nat.le_of_ble_eq_true rfl) rfl dX1_plant_177 ?_
        refine V_iast (q := 181) C _ rfl (by show _ < 6; omega) rfl (by decide) (by decide) rfl dX1_plant_180 ?_
        refine V_iinc_3 (q := 184) (n := 1) C nI_inc hn3 rfl rfl dX1_plant_181 ?_
        refine V_goto (tgt := 162) C (by decide) dX1_plant_184 ?_
        refine V_eq ?_ ih162
        funext z
        by_cases e0 : z = 17
        · subst e0
          show upd (pre t (fun t => fitC (plB σ n T P) t P) (σ 17)) t _ = pre (t + 1) (fun t => fitC (plB σ n T P) t P) (σ 17)
          exact pre_step rfl
        · skip
          simp only [plC, setf, setc, if_neg e0]
      exact V_eq (by unfold plC; rw [pre_0]; symm; funext z; by_cases e0 : z = 17; subst e0; rfl; simp only [setc, if_neg e0]) (loopN (P := fun t => V X 162 [.ref (xad X 12), .ref (xad X 10), .int (nI (1 + 3 * T + 4 * P)), .int (nI t)] [] (plC σ n T P t)) (T) hx162 hs162 0 (Nat.zero_le _))
    have hs100 : ∀ p : Nat, p < P → (V X 100 [.ref (xad X 12), .ref (xad X 10), .int (nI (1 + 3 * T + 4 * (p + 1))), .int (nI (p + 1))] [] (plB σ n T (p + 1))) → V X 100 [.ref (xad X 12), .ref (xad X 10), .int (nI (1 + 3 * T + 4 * p)), .int (nI p)] [] (plB σ n T p) := by
      intro p hi100 ih100
      obtain ⟨d, hd, ed⟩ := termT_d (σ := σ) (n := n) (j := 1 + 3 * T + 4 * p + 2)
      refine V_iload_n_3 (q := 101) C rfl dX1_plant_100 ?_
      refine V_aload_n_0 (q := 102) C rfl dX1_plant_101 ?_
      refine gf_X1_15 (q := 105) C rfl dX1_plant_102 ?_
      rw [show plB σ n T p 12 1 = nI P from hP]
      refine V_icmp_ge_f (tgt := 160) C (nI_ge hi100 (by omega)) rfl (by decide) dX1_plant_105 ?_
      refine V_aload_n_0 (q := 109) C rfl dX1_plant_108 ?_
      refine gf_X1_37 (q := 112) C rfl dX1_plant_109 ?_
      refine V_iload_n_3 (q := 113) C rfl dX1_plant_112 ?_
      refine V_aload_n_1 (q := 114) C rfl dX1_plant_113 ?_
      refine V_iload_n_2 (q := 115) C rfl dX1_plant_114 ?_
      refine V_iconst (q := 116) (v := 1) C rfl rfl dX1_plant_115 ?_
      refine V_iadd (q := 117) C rfl dX1_plant_116 ?_
      rw [show nI (1 + 3 * T + 4 * p) + 1 = nI (1 + 3 * T + 4 * p + 1) from nI_1 _]
      refine V_cV1r (q := 120) C (Ct.mono (v' := some (.int (plPL σ n T p))) (c_X6_digitAt (plB σ n T p) n (1 + 3 * T + 4 * p + 1) hn hn50 (by omega)) rfl rfl) cw_X6_digitAt cv_X6_digitAt wm_X1_54 (by decide) ob_X6 ⟨by decide, by decide⟩ (Nat.le_of_ble_eq_true rfl) rfl dX1_plant_117 ?_
      refine V_iast (q := 121) C _ rfl (by show _ < 6; omega) rfl (by decide) (by decide) rfl dX1_plant_120 ?_
      refine V_aload_n_0 (q := 122) C rfl dX1_plant_121 ?_
      refine gf_X1_40 (q := 125) C rfl dX1_plant_122 ?_
      refine V_iload_n_3 (q := 126) C rfl dX1_plant_125 ?_
      refine V_aload_n_1 (q := 127) C rfl dX1_plant_126 ?_
      refine V_iload_n_2 (q := 128) C rfl dX1_plant_127 ?_
      refine V_iconst (q := 129) (v := 2) C rfl rfl dX1_plant_128 ?_
      refine V_iadd (q := 130) C rfl dX1_plant_129 ?_
      rw [show nI (1 + 3 * T + 4 * p) + 2 = nI (1 + 3 * T + 4 * p + 2) from nI_k (k := 2) rfl]
      refine V_cV1r (q := 133) C (Ct.mono (v' := some (.int (plTm σ n T p))) (c_X6_termAt _ n (1 + 3 * T + 4 * p + 2) hn hn50 (by omega)) rfl rfl) cw_X6_termAt cv_X6_termAt wm_X1_66 (by decide) ob_X6 ⟨by decide, by decide⟩ (Nat.le_of_ble_eq_true rfl) rfl dX1_plant_130 ?_
      refine V_iast (q := 134) C _ rfl (by show _ < 6; omega) rfl (by decide) (by decide) rfl dX1_plant_133 ?_
      refine V_aload_n_0 (q := 135) C rfl dX1_plant_134 ?_
      refine gf_X1_43 (q := 138) C rfl dX1_plant_135 ?_
      refine V_aload_n_0 (q := 139) C rfl dX1_plant_138 ?_
      refine gf_X1_40 (q := 142) C rfl dX1_plant_139 ?_
      refine V_iload_n_3 (q := 143) C rfl dX1_plant_142 ?_
      refine V_iald (q := 144) C _ rfl (by show _ < 6; omega) rfl (by decide) (by decide) rfl dX1_plant_143 ?_
      rw [show setf (setf (plB σ n T p) 18 p (plPL σ n T p)) 19 p (plTm σ n T p) 19 p = nI d from by show upd _ p (plTm σ n T p) p = _; rw [pk_us]; exact ed]
      refine V_dup2 (q := 145) C rfl rfl rfl dX1_plant_144 ?_
      refine V_iald (q := 146) C d rfl (by show _ < 30; omega) rfl (by decide) (by decide) rfl dX1_plant_145 ?_
      refine V_iconst (q := 147) (v := 1) C rfl rfl dX1_plant_146 ?_
      refine V_iload_n_3 (q := 148) C rfl dX1_plant_147 ?_
      refine V_ishl (q := 149) C rfl dX1_plant_148 ?_
      refine V_ior (q := 150) C rfl dX1_plant_149 ?_
      refine V_iast (q := 151) C d rfl (by show _ < 30; omega) rfl (by decide) (by decide) rfl dX1_plant_150 ?_
      refine V_iinc_2 (q := 154) (n := 4) C (nI_k (a := 1 + 3 * T + 4 * p) (b := 1 + 3 * T + 4 * (p + 1)) (k := 4) (by omega)) hn2 rfl rfl dX1_plant_151 ?_
      refine V_iinc_3 (q := 157) (n := 1) C nI_inc hn3 rfl rfl dX1_plant_154 ?_
      refine V_goto (tgt := 100) C (by decide) dX1_plant_157 ?_
      refine V_eq ?_ ih100
      funext z
      by_cases e0 : z = 18
      · subst e0
        show upd (pre p (plPL σ n T) (σ 18)) p _ = pre (p + 1) (plPL σ n T) (σ 18)
        exact pre_step rfl
      · skip
        by_cases e1 : z = 19
        · subst e1
          show upd (pre p (plTm σ n T) (σ 19)) p _ = pre (p + 1) (plTm σ n T) (σ 19)
          exact pre_step rfl
        · skip
          by_cases e2 : z = 20
          · subst e2
            show upd (plE σ n T p) d (plE σ n T p d ||| own1 (nI p)) = upd (plE σ n T p) (plTm σ n T p).toNatClampNeg (plE σ n T p (plTm σ n T p).toNatClampNeg ||| own1 (nI p))
            rw [show plTm σ n T p = nI d from ed, nI_clamp (by omega)]
          · skip
            simp only [plB, setf, setc, if_neg e0, if_neg e1, if_neg e2]
    exact V_eq (by unfold plB; rw [pre_0, pre_0]; symm; funext z; by_cases e0 : z = 18; subst e0; rfl; by_cases e1 : z = 19; subst e1; rfl; by_cases e2 : z = 20; subst e2; rfl; simp only [setc, if_neg e0, if_neg e1, if_neg e2]) (loopN (P := fun p => V X 100 [.ref (xad X 12), .ref (xad X 10), .int (nI (1 + 3 * T + 4 * p)), .int (nI p)] [] (plB σ n T p)) (P) hx100 hs100 0 (Nat.zero_le _))
  have hs25 : ∀ i : Nat, i < T → (V X 25 [.ref (xad X 12), .ref (xad X 10), .int (nI (1 + 3 * (i + 1))), .int (nI (i + 1))] [] (plA σ n (i + 1))) → V X 25 [.ref (xad X 12), .ref (xad X 10), .int (nI (1 + 3 * i)), .int (nI i)] [] (plA σ n i) := by
    intro i hi25 ih25
    refine V_iload_n_3 (q := 26) C rfl dX1_plant_25 ?_
    refine V_aload_n_0 (q := 27) C rfl dX1_plant_26 ?_
    refine gf_X1_9 (q := 30) C rfl dX1_plant_27 ?_
    rw [show plA σ n i 12 0 = nI T from hT]
    refine V_icmp_ge_f (tgt := 90) C (nI_ge hi25 (by omega)) rfl (by decide) dX1_plant_30 ?_
    refine V_aload_n_0 (q := 34) C rfl dX1_plant_33 ?_
    refine gf_X1_21 (q := 37) C rfl dX1_plant_34 ?_
    refine V_iload_n_3 (q := 38) C rfl dX1_plant_37 ?_
    refine V_aload_n_1 (q := 39) C rfl dX1_plant_38 ?_
    refine V_iload_n_2 (q := 40) C rfl dX1_plant_39 ?_
    refine V_cV1r (q := 43) C (Ct.mono (v' := some (.int (plK σ n i))) (c_X6_kindAt (plA σ n i) n (1 + 3 * i) hn hn50 (by omega)) rfl rfl) cw_X6_kindAt cv_X6_kindAt wm_X1_50 (by decide) ob_X6 ⟨by decide, by decide⟩ (Nat.le_of_ble_eq_true rfl) rfl dX1_plant_40 ?_
    refine V_iast (q := 44) C _ rfl (by show _ < 6; omega) rfl (by decide) (by decide) rfl dX1_plant_43 ?_
    refine V_aload_n_0 (q := 45) C rfl dX1_plant_44 ?_
    refine gf_X1_25 (q := 48) C rfl dX1_plant_45 ?_
    refine V_iload_n_3 (q := 49) C rfl dX1_plant_48 ?_
    refine V_aload_n_1 (q := 50) C rfl dX1_plant_49 ?_
    refine V_iload_n_2 (q := 51) C rfl dX1_plant_50 ?_
    refine V_iconst (q := 52) (v := 1) C rfl rfl dX1_plant_51 ?_
    refine V_iadd (q := 53) C rfl dX1_plant_52 ?_
    rw [show nI (1 + 3 * i) + 1 = nI (2 + 3 * i) from nI_k (k := 1) (by omega)]
    refine V_cV1r (q := 56) C (Ct.mono (v' := some (.int (plL σ n i))) (c_X6_digitAt _ n (2 + 3 * i) hn hn50 (by omega)) rfl rfl) cw_X6_digitAt cv_X6_digitAt wm_X1_54 (by decide) ob_X6 ⟨by decide, by decide⟩ (Nat.le_of_ble_eq_true rfl) rfl dX1_plant_53 ?_
    refine V_iast (q := 57) C _ rfl (by show _ < 6; omega) rfl (by decide) (by decide) rfl dX1_plant_56 ?_
    refine V_aload_n_0 (q := 58) C rfl dX1_plant_57 ?_
    refine gf_X1_28 (q := 61) C rfl dX1_plant_58 ?_
    refine V_iload_n_3 (q := 62) C rfl dX1_plant_61 ?_
    refine V_aload_n_1 (q := 63) C rfl dX1_plant_62 ?_
    refine V_iload_n_2 (q := 64) C rfl dX1_plant_63 ?_
    refine V_iconst (q := 65) (v := 2) C rfl rfl dX1_plant_64 ?_
    refine V_iadd (q := 66) C rfl dX1_plant_65 ?_
    rw [show nI (1 + 3 * i) + 2 = nI (3 + 3 * i) from nI_k (k := 2) (by omega)]
    refine V_cV1r (q := 69) C (Ct.mono (v' := some (.int (plN σ n i))) (c_X6_digitAt _ n (3 + 3 * i) hn hn50 (by omega)) rfl rfl) cw_X6_digitAt cv_X6_digitAt wm_X1_54 (by decide) ob_X6 ⟨by decide, by decide⟩ (Nat.le_of_ble_eq_true rfl) rfl dX1_plant_66 ?_
    refine V_iast (q := 70) C _ rfl (by show _ < 6; omega) rfl (by decide) (by decide) rfl dX1_plant_69 ?_
    refine V_aload_n_0 (q := 71) C rfl dX1_plant_70 ?_
    refine gf_X1_31 (q := 74) C rfl dX1_plant_71 ?_
    refine V_iload_n_3 (q := 75) C rfl dX1_plant_74 ?_
    refine V_aload_n_0 (q := 76) C rfl dX1_plant_75 ?_
    refine V_iload_n_3 (q := 77) C rfl dX1_plant_76 ?_
    refine V_cV1r (q := 80) C (Ct.mono (v' := some (.int (plW σ n i))) (c_X1_waterWantedBy _ i (by omega)) (by show some (Value.int (wantC (upd _ i _ i) (upd _ i _ i))) = _; rw [pk_us, pk_us]; rfl) rfl) cw_X1_waterWantedBy cv_X1_waterWantedBy wm_X1_57 (by decide) ob_X1 ⟨by decide, by decide⟩ (Nat.le_of_ble_eq_true rfl) rfl dX1_plant_77 ?_
    refine V_iast (q := 81) C _ rfl (by show _ < 6; omega) rfl (by decide) (by decide) rfl dX1_plant_80 ?_
    refine V_iinc_2 (q := 84) (n := 3) C (nI_k (a := 1 + 3 * i) (b := 1 + 3 * (i + 1)) (k := 3) (by omega)) hn2 rfl rfl dX1_plant_81 ?_
    refine V_iinc_3 (q := 87) (n := 1) C nI_inc hn3 rfl rfl dX1_plant_84 ?_
    refine V_goto (tgt := 25) C (by decide) dX1_plant_87 ?_
    refine V_eq ?_ ih25
    funext z
    by_cases e0 : z = 13
    · subst e0
      show upd (pre i (plK σ n) (σ 13)) i _ = pre (i + 1) (plK σ n) (σ 13)
      exact pre_step rfl
    · skip
      by_cases e1 : z = 14
      · subst e1
        show upd (pre i (plL σ n) (σ 14)) i _ = pre (i + 1) (plL σ n) (σ 14)
        exact pre_step rfl
      · skip
        by_cases e2 : z = 15
        · subst e2
          show upd (pre i (plN σ n) (σ 15)) i _ = pre (i + 1) (plN σ n) (σ 15)
          exact pre_step rfl
        · skip
          by_cases e3 : z = 16
          · subst e3
            show upd (pre i (plW σ n) (σ 16)) i _ = pre (i + 1) (plW σ n) (σ 16)
            exact pre_step rfl
          · skip
            simp only [plA, setf, setc, if_neg e0, if_neg e1, if_neg e2, if_neg e3]
  exact V_eq (by unfold plA; rw [pre_0, pre_0, pre_0, pre_0]; symm; funext z; by_cases e0 : z = 13; subst e0; rfl; by_cases e1 : z = 14; subst e1; rfl; by_cases e2 : z = 15; subst e2; rfl; by_cases e3 : z = 16; subst e3; rfl; simp only [setc, if_neg e0, if_neg e1, if_neg e2, if_neg e3]; rfl) (loopN (P := fun i => V X 25 [.ref (xad X 12), .ref (xad X 10), .int (nI (1 + 3 * i)), .int (nI i)] [] (plA σ n i)) (T) hx25 hs25 0 (Nat.zero_le _))

