/-! the class: text read, grove, weather, readings -/
theorem nn {p : Prop} (h : p) : ¬ ¬ p := fun k => k h
theorem nI_k {a b k : Nat} (h : a + k = b) : nI a + nI k = nI b := by rw [nI_add, h]
def setB (q : Nat → Prop) [DecidablePred q] : Nat → Int32
  | 0 => 0
  | n + 1 => if q n then setB q n ||| (1 <<< (nI n &&& 31)) else setB q n
def sumL (set : Int32) (f : Nat → Int32) : Nat → Int32
  | 0 => 0
  | n + 1 => if bit set (nI n) then sumL set f n + f n else sumL set f n
def wantC (k n : Int32) : Int32 := if k = 1 then n + 1 else if k = 2 then 2 * (n + 1) else n
def own1 (lk : Int32) : Int32 := 1 <<< (lk &&& 31)
def remI (x y : Int32) : Int32 := x - x / y * y
def opensC (k lk : Int32) : Int32 := if k = 1 then own1 lk ||| own1 (remI (lk + 1) 6) else if k = 2 then 63 else own1 lk

set_option maxHeartbeats 4000000 in
set_option maxRecDepth 100000 in
theorem c_X1_waterWantedBy {l : Launch} {D : DD} {ad : Nat → Nat} (σ : ST) (j : Nat) (hj : j < 6) : Ct l yX1_waterWantedBy cX1_waterWantedBy 3 (Option.some FieldType.int) 0 0 D ad [.ref (ad 12), .int (nI j)] σ (ex (some (.int (wantC (σ 13 j) (σ 15 j)))) σ) := by
  refine Ct.of2 [.ref (ad 12), .int (nI j), .float 0] rfl (Nat.le_of_ble_eq_true rfl) rfl ?_
  rintro X C rfl rfl rfl hxn hR
  have hn2 : 2 < xn X := by rw [← hxn]; decide
  refine V_aload_n_0 (q := 1) C rfl dX1_waterWantedBy_0 ?_
  refine gf_X1_28 (q := 4) C rfl dX1_waterWantedBy_1 ?_
  refine V_iload_n_1 (q := 5) C rfl dX1_waterWantedBy_4 ?_
  refine V_iald (q := 6) C _ rfl (by show _ < 6; omega) rfl (by decide) (by decide) rfl dX1_waterWantedBy_5 ?_
  refine V_iconst (q := 7) (v := 1) C rfl rfl dX1_waterWantedBy_6 ?_
  refine V_iadd (q := 8) C rfl dX1_waterWantedBy_7 ?_
  refine V_istore_n_2 (q := 9) C hn2 rfl rfl dX1_waterWantedBy_8 ?_
  refine V_aload_n_0 (q := 10) C rfl dX1_waterWantedBy_9 ?_
  refine gf_X1_21 (q := 13) C rfl dX1_waterWantedBy_10 ?_
  refine V_iload_n_1 (q := 14) C rfl dX1_waterWantedBy_13 ?_
  refine V_iald (q := 15) C _ rfl (by show _ < 6; omega) rfl (by decide) (by decide) rfl dX1_waterWantedBy_14 ?_
  refine V_look2 (va := 1) (vb := 2) (ta := 40) (tb := 42) (td := 46) C rfl rfl (by decide) (by decide) (by decide) (by decide) dX1_waterWantedBy_15 (fun c15 => ?_) (fun c15 => ?_) (fun c15 c16 => ?_)
  · refine V_iload_n_2 (q := 41) C rfl dX1_waterWantedBy_40 ?_
    refine V_iret C hR dX1_waterWantedBy_41 ?_
    exact ⟨by simp [wantC, c15], rfl⟩
  · refine V_iconst (q := 43) (v := 2) C rfl rfl dX1_waterWantedBy_42 ?_
    refine V_iload_n_2 (q := 44) C rfl dX1_waterWantedBy_43 ?_
    refine V_imul (q := 45) C rfl dX1_waterWantedBy_44 ?_
    refine V_iret C hR dX1_waterWantedBy_45 ?_
    exact ⟨by simp [wantC, c15], rfl⟩
  · refine V_aload_n_0 (q := 47) C rfl dX1_waterWantedBy_46 ?_
    refine gf_X1_28 (q := 50) C rfl dX1_waterWantedBy_47 ?_
    refine V_iload_n_1 (q := 51) C rfl dX1_waterWantedBy_50 ?_
    refine V_iald (q := 52) C _ rfl (by show _ < 6; omega) rfl (by decide) (by decide) rfl dX1_waterWantedBy_51 ?_
    refine V_iret C hR dX1_waterWantedBy_52 ?_
    exact ⟨by simp [wantC, c15, c16], rfl⟩

set_option maxHeartbeats 4000000 in
set_option maxRecDepth 100000 in
theorem c_X1_locksOpenedBy {l : Launch} {D : DD} {ad : Nat → Nat} (σ : ST) (j : Nat) (hj : j < 6) : Ct l yX1_locksOpenedBy cX1_locksOpenedBy 3 (Option.some FieldType.int) 0 0 D ad [.ref (ad 12), .int (nI j)] σ (ex (some (.int (opensC (σ 13 j) (σ 14 j)))) σ) := by
  refine Ct.of2 [.ref (ad 12), .int (nI j), .float 0] rfl (Nat.le_of_ble_eq_true rfl) rfl ?_
  rintro X C rfl rfl rfl hxn hR
  have hn2 : 2 < xn X := by rw [← hxn]; decide
  refine V_iconst (q := 1) (v := 1) C rfl rfl dX1_locksOpenedBy_0 ?_
  refine V_aload_n_0 (q := 2) C rfl dX1_locksOpenedBy_1 ?_
  refine gf_X1_25 (q := 5) C rfl dX1_locksOpenedBy_2 ?_
  refine V_iload_n_1 (q := 6) C rfl dX1_locksOpenedBy_5 ?_
  refine V_iald (q := 7) C _ rfl (by show _ < 6; omega) rfl (by decide) (by decide) rfl dX1_locksOpenedBy_6 ?_
  refine V_ishl (q := 8) C rfl dX1_locksOpenedBy_7 ?_
  refine V_istore_n_2 (q := 9) C hn2 rfl rfl dX1_locksOpenedBy_8 ?_
  refine V_aload_n_0 (q := 10) C rfl dX1_locksOpenedBy_9 ?_
  refine gf_X1_21 (q := 13) C rfl dX1_locksOpenedBy_10 ?_
  refine V_iload_n_1 (q := 14) C rfl dX1_locksOpenedBy_13 ?_
  refine V_iald (q := 15) C _ rfl (by show _ < 6; omega) rfl (by decide) (by decide) rfl dX1_locksOpenedBy_14 ?_
  refine V_look2 (va := 1) (vb := 2) (ta := 40) (tb := 56) (td := 59) C rfl rfl (by decide) (by decide) (by decide) (by decide) dX1_locksOpenedBy_15 (fun c15 => ?_) (fun c15 => ?_) (fun c15 c16 => ?_)
  · refine V_iload_n_2 (q := 41) C rfl dX1_locksOpenedBy_40 ?_
    refine V_iconst (q := 42) (v := 1) C rfl rfl dX1_locksOpenedBy_41 ?_
    refine V_aload_n_0 (q := 43) C rfl dX1_locksOpenedBy_42 ?_
    refine gf_X1_25 (q := 46) C rfl dX1_locksOpenedBy_43 ?_
    refine V_iload_n_1 (q := 47) C rfl dX1_locksOpenedBy_46 ?_
    refine V_iald (q := 48) C _ rfl (by show _ < 6; omega) rfl (by decide) (by decide) rfl dX1_locksOpenedBy_47 ?_
    refine V_iconst (q := 49) (v := 1) C rfl rfl dX1_locksOpenedBy_48 ?_
    refine V_iadd (q := 50) C rfl dX1_locksOpenedBy_49 ?_
    refine V_bipush (q := 52) (v := 6) C (by decide) rfl dX1_locksOpenedBy_50 ?_
    refine V_irem (q := 53) C (by decide) rfl dX1_locksOpenedBy_52 ?_
    refine V_ishl (q := 54) C rfl dX1_locksOpenedBy_53 ?_
    refine V_ior (q := 55) C rfl dX1_locksOpenedBy_54 ?_
    refine V_iret C hR dX1_locksOpenedBy_55 ?_
    exact ⟨by simp [opensC, own1, remI, c15], rfl⟩
  · refine V_bipush (q := 58) (v := 63) C (by decide) rfl dX1_locksOpenedBy_56 ?_
    refine V_iret C hR dX1_locksOpenedBy_58 ?_
    exact ⟨by simp [opensC, own1, remI, c15], rfl⟩
  · refine V_iload_n_2 (q := 60) C rfl dX1_locksOpenedBy_59 ?_
    refine V_iret C hR dX1_locksOpenedBy_60 ?_
    exact ⟨by simp [opensC, own1, remI, c15, c16], rfl⟩

def fitC (σ : ST) (j : Nat) : Nat → Int32 := setB (fun p => bit (opensC (σ 13 j) (σ 14 j)) (σ 18 p))

set_option maxHeartbeats 4000000 in
set_option maxRecDepth 100000 in
theorem c_X1_prisonersFitting {l : Launch} {D : DD} {ad : Nat → Nat} (σ : ST) (j P : Nat) (hj : j < 6) (hP : σ 12 1 = nI P) (hP6 : P ≤ 6) : Ct l yX1_prisonersFitting cX1_prisonersFitting 5 (Option.some FieldType.int) 1 22 D ad [.ref (ad 12), .int (nI j)] σ (ex (some (.int (fitC σ j P))) σ) := by
  refine Ct.of2 [.ref (ad 12), .int (nI j), .float 0, .float 0, .float 0] rfl (Nat.le_of_ble_eq_true rfl) rfl ?_
  rintro X C rfl rfl rfl hxn hR
  have hn2 : 2 < xn X := by rw [← hxn]; decide
  have hn3 : 3 < xn X := by rw [← hxn]; decide
  have hn4 : 4 < xn X := by rw [← hxn]; decide
  refine V_aload_n_0 (q := 1) C rfl dX1_prisonersFitting_0 ?_
  refine V_iload_n_1 (q := 2) C rfl dX1_prisonersFitting_1 ?_
  refine V_cV1r (q := 5) C (c_X1_locksOpenedBy σ j hj) cw_X1_locksOpenedBy cv_X1_locksOpenedBy wm_X1_72 (by decide) ob_X1 ⟨by decide, by decide⟩ (Nat.le_of_ble_eq_true rfl) rfl dX1_prisonersFitting_2 ?_
  refine V_istore_n_2 (q := 6) C hn2 rfl rfl dX1_prisonersFitting_5 ?_
  refine V_iconst (q := 7) (v := 0) C rfl rfl dX1_prisonersFitting_6 ?_
  refine V_istore_n_3 (q := 8) C hn3 rfl rfl dX1_prisonersFitting_7 ?_
  refine V_iconst (q := 9) (v := (nI 0)) C rfl rfl dX1_prisonersFitting_8 ?_
  refine V_istore_4 (q := 11) C hn4 rfl rfl dX1_prisonersFitting_9 ?_
  have hx11 : V X 11 [.ref (xad X 12), .int (nI j), .int (opensC (σ 13 j) (σ 14 j)), .int (fitC σ j P), .int (nI P)] [] (σ) := by
    refine V_iload_4 (q := 13) C rfl dX1_prisonersFitting_11 ?_
    refine V_aload_n_0 (q := 14) C rfl dX1_prisonersFitting_13 ?_
    refine gf_X1_15 (q := 17) C rfl dX1_prisonersFitting_14 ?_
    rw [hP]
    refine V_icmp_ge_t (tgt := 47) C (nI_le (Nat.le_refl _) (by omega)) (by decide) dX1_prisonersFitting_17 ?_
    refine V_iload_n_3 (q := 48) C rfl dX1_prisonersFitting_47 ?_
    refine V_iret C hR dX1_prisonersFitting_48 ?_
    exact ⟨rfl, rfl⟩
  have hs11 : ∀ i : Nat, i < P → (V X 11 [.ref (xad X 12), .int (nI j), .int (opensC (σ 13 j) (σ 14 j)), .int (fitC σ j (i + 1)), .int (nI (i + 1))] [] (σ)) → V X 11 [.ref (xad X 12), .int (nI j), .int (opensC (σ 13 j) (σ 14 j)), .int (fitC σ j i), .int (nI i)] [] (σ) := by
    intro i hi11 ih11
    refine V_iload_4 (q := 13) C rfl dX1_prisonersFitting_11 ?_
    refine V_aload_n_0 (q := 14) C rfl dX1_prisonersFitting_13 ?_
    refine gf_X1_15 (q := 17) C rfl dX1_prisonersFitting_14 ?_
    rw [hP]
    refine V_icmp_ge_f (tgt := 47) C (nI_ge hi11 (by omega)) rfl (by decide) dX1_prisonersFitting_17 ?_
    refine V_iload_n_2 (q := 21) C rfl dX1_prisonersFitting_20 ?_
    refine V_aload_n_0 (q := 22) C rfl dX1_prisonersFitting_21 ?_
    refine gf_X1_37 (q := 25) C rfl dX1_prisonersFitting_22 ?_
    refine V_iload_4 (q := 27) C rfl dX1_prisonersFitting_25 ?_
    refine V_iald (q := 28) C _ rfl (by show _ < 6; omega) rfl (by decide) (by decide) rfl dX1_prisonersFitting_27 ?_
    refine V_cN2r (q := 31) C (c_X8_isIn _ _ _) cw_X8_isIn cs_X8_isIn C.K.2.1 ⟨by decide, by decide⟩ (Nat.le_of_ble_eq_true rfl) rfl dX1_prisonersFitting_28 ?_
    refine V_ifp_eq (tgt := 41) C rfl (by decide) dX1_prisonersFitting_31 (fun c31 => ?_) (fun c31 => ?_)
    · refine V_iinc_4 (q := 44) (n := 1) C nI_inc hn4 rfl rfl dX1_prisonersFitting_41 ?_
      refine V_goto (tgt := 11) C (by decide) dX1_prisonersFitting_44 ?_
      first | (refine V_eq rfl ?_; rw [show fitC σ j i = fitC σ j (i + 1) from (if_neg c31).symm]; exact ih11) | (rw [show fitC σ j i ||| (1 <<< (nI i &&& 31)) = fitC σ j (i + 1) from (if_pos c31).symm]; exact ih11)
    · refine V_iload_n_3 (q := 35) C rfl dX1_prisonersFitting_34 ?_
      refine V_iconst (q := 36) (v := 1) C rfl rfl dX1_prisonersFitting_35 ?_
      refine V_iload_4 (q := 38) C rfl dX1_prisonersFitting_36 ?_
      refine V_ishl (q := 39) C rfl dX1_prisonersFitting_38 ?_
      refine V_ior (q := 40) C rfl dX1_prisonersFitting_39 ?_
      refine V_istore_n_3 (q := 41) C hn3 rfl rfl dX1_prisonersFitting_40 ?_
      refine V_iinc_4 (q := 44) (n := 1) C nI_inc hn4 rfl rfl dX1_prisonersFitting_41 ?_
      refine V_goto (tgt := 11) C (by decide) dX1_prisonersFitting_44 ?_
      first | (refine V_eq rfl ?_; rw [show fitC σ j i = fitC σ j (i + 1) from (if_neg c31).symm]; exact ih11) | (rw [show fitC σ j i ||| (1 <<< (nI i &&& 31)) = fitC σ j (i + 1) from (if_pos c31).symm]; exact ih11)
  exact V_eq (rfl) (loopN (P := fun i => V X 11 [.ref (xad X 12), .int (nI j), .int (opensC (σ 13 j) (σ 14 j)), .int (fitC σ j i), .int (nI i)] [] (σ)) (P) hx11 hs11 0 (Nat.zero_le _))

set_option maxHeartbeats 4000000 in
set_option maxRecDepth 100000 in
theorem c_X6_take {l : Launch} {D : DD} {ad : Nat → Nat} (σ : ST) (j a n : Nat) (hj : j < 4) (han : a + n ≤ 50) : Ct l yX6_take cX6_take 4 (Option.none : Option FieldType) 1 48 D ad [.ref (ad 10), .ref (ad (2 + 2 * j)), .int (nI a), .int (nI n)] σ (ex none (setf (setc σ 11 (va_cpy (σ (2 + 2 * j + 1)) (σ 11) a 0 n)) 10 1 (nI n))) := by
  refine Ct.of2 [.ref (ad 10), .ref (ad (2 + 2 * j)), .int (nI a), .int (nI n)] rfl (Nat.le_of_ble_eq_true rfl) rfl ?_
  rintro X C rfl rfl rfl hxn hR
  refine V_aload_n_1 (q := 1) C rfl dX6_take_0 ?_
  refine gf_X6_25 (q := 4) C hj rfl dX6_take_1 ?_
  refine V_iload_n_2 (q := 5) C rfl dX6_take_4 ?_
  refine V_aload_n_0 (q := 6) C rfl dX6_take_5 ?_
  refine gf_X6_9 (q := 9) C rfl dX6_take_6 ?_
  refine V_iconst (q := 10) (v := (nI 0)) C rfl rfl dX6_take_9 ?_
  refine V_iload_n_3 (q := 11) C rfl dX6_take_10 ?_
  refine V_copy (q := 14) C a 0 n rfl rfl rfl (by rw [sh_al hj]; exact han) (by show 0 + n ≤ 50; omega) (sh_ak hj) rfl (by omega) (by decide) (by rw [sh_al hj]; decide) (by decide) wm_X6_30 wn_copy wn_copyS wn_copyI (by decide) (by decide) rfl dX6_take_11 ?_
  refine V_aload_n_0 (q := 15) C rfl dX6_take_14 ?_
  refine V_iload_n_3 (q := 16) C rfl dX6_take_15 ?_
  refine pf_X6_15 (q := 19) C rfl dX6_take_16 ?_
  refine V_vret C hR dX6_take_19 ?_
  exact ⟨rfl, rfl⟩

def ffA (σ : ST) (n : Nat) : Nat → Nat → Nat × Option Nat
  | 0, m => (m, none)
  | f + 1, m => if kdT (codeT σ n (1 + 3 * m)) = -9 then (m, none) else if ¬ isD σ n (2 + 3 * m) 0 5 then (m, some (2 + 3 * m)) else if ¬ isD σ n (3 + 3 * m) 1 9 then (m, some (3 + 3 * m)) else ffA σ n f (m + 1)
def ffB (σ : ST) (n q : Nat) : Nat → Nat → Nat × Option Nat
  | 0, b => (b, none)
  | f + 1, b => if ¬ codeT σ n (q + 4 * b) = 59 then (b, none) else if ¬ isD σ n (q + 4 * b + 1) 0 5 then (b, some (q + 4 * b + 1)) else if ¬ isD σ n (q + 4 * b + 2) 0 2 then (b, some (q + 4 * b + 2)) else if ¬ isD σ n (q + 4 * b + 3) 0 9 then (b, some (q + 4 * b + 3)) else ffB σ n q f (b + 1)
def ffR (σ : ST) (n : Nat) : Int32 × Nat × Nat := if ¬ codeT σ n 0 = 107 then (0, 0, 0) else match ffA σ n 6 0 with
  | (m, some k) => (nI k, m, 0)
  | (m, none) => if m = 0 then (nI 1, 0, 0) else match ffB σ n (1 + 3 * m) 6 0 with
    | (b, some k) => (nI k, m, b)
    | (b, none) => if b = 0 ∨ 1 + 3 * m + 4 * b < n then (nI (1 + 3 * m + 4 * b), m, b) else (-1, m, b)
def ffS (σ : ST) (m b : Nat) : ST := setf (setf σ 10 2 (nI m)) 10 3 (nI b)
theorem ffA_s {σ : ST} {n f m : Nat} : ffA σ n (f + 1) m = if kdT (codeT σ n (1 + 3 * m)) = -9 then (m, none) else if ¬ isD σ n (2 + 3 * m) 0 5 then (m, some (2 + 3 * m)) else if ¬ isD σ n (3 + 3 * m) 1 9 then (m, some (3 + 3 * m)) else ffA σ n f (m + 1) := rfl
theorem ffB_s {σ : ST} {n q f b : Nat} : ffB σ n q (f + 1) b = if ¬ codeT σ n (q + 4 * b) = 59 then (b, none) else if ¬ isD σ n (q + 4 * b + 1) 0 5 then (b, some (q + 4 * b + 1)) else if ¬ isD σ n (q + 4 * b + 2) 0 2 then (b, some (q + 4 * b + 2)) else if ¬ isD σ n (q + 4 * b + 3) 0 9 then (b, some (q + 4 * b + 3)) else ffB σ n q f (b + 1) := rfl
theorem ffS_m {σ : ST} {m b m2 : Nat} : setf (ffS σ m b) 10 2 (nI m2) = ffS σ m2 b := by
  simp only [ffS, setf, setc_setc, setc_s]
  refine congrArg (setc σ 10) (funext fun t => ?_)
  simp only [upd]
  by_cases h2 : t = 2
  · subst h2; rfl
  · by_cases h3 : t = 3
    · subst h3; rfl
    · simp only [if_neg h2, if_neg h3]
theorem ffS_b {σ : ST} {m b b2 : Nat} : setf (ffS σ m b) 10 3 (nI b2) = ffS σ m b2 := by
  simp only [ffS, setf, setc_setc, setc_s]
  refine congrArg (setc σ 10) (funext fun t => ?_)
  simp only [upd]
  by_cases h2 : t = 2
  · subst h2; rfl
  · by_cases h3 : t = 3
    · subst h3; rfl
    · simp only [if_neg h2, if_neg h3]

set_option maxHeartbeats 4000000 in
set_option maxRecDepth 100000 in
theorem c_X6_firstFault {l : Launch} {D : DD} {ad : Nat → Nat} (σ : ST) (n : Nat) (hn : σ 10 1 = nI n) (hn50 : n ≤ 50) : Ct l yX6_firstFault cX6_firstFault 2 (Option.some FieldType.int) 3 65 D ad [.ref (ad 10)] σ (ex (some (.int (ffR σ n).1)) (ffS σ (ffR σ n).2.1 (ffR σ n).2.2)) := by
  refine Ct.of2 [.ref (ad 10), .float 0] rfl (Nat.le_of_ble_eq_true rfl) rfl ?_
  rintro X C rfl rfl rfl hxn hR
  have hn1 : 1 < xn X := by rw [← hxn]; decide
  have k185 : ∀ m b : Nat, m ≤ 6 → b ≤ 6 → ffR σ n = (if b = 0 ∨ 1 + 3 * m + 4 * b < n then (nI (1 + 3 * m + 4 * b), m, b) else (-1, m, b)) → V X 185 [.ref (xad X 10), .int (nI (1 + 3 * m + 4 * b))] [] (ffS σ m b) := by
    intro m b hm hb hF
    refine V_aload_n_0 (q := 186) C rfl dX6_firstFault_185 ?_
    refine gf_X6_22 (q := 189) C rfl dX6_firstFault_186 ?_
    refine V_if_eq (tgt := 200) C rfl (by decide) dX6_firstFault_189 (fun c189 => ?_) (fun c189 => ?_)
    · refine V_iload_n_1 (q := 201) C rfl dX6_firstFault_200 ?_
      refine V_goto (tgt := 205) C (by decide) dX6_firstFault_201 ?_
      refine V_iret C hR dX6_firstFault_205 ?_
      have hb0 : b = 0 := by rcases Nat.eq_zero_or_pos b with h | h; exact h; exact absurd c189 (nI_ne0 h (by omega))
      subst hb0
      exact ⟨by rw [hF]; rfl, by rw [hF]; rfl⟩
    · refine V_iload_n_1 (q := 193) C rfl dX6_firstFault_192 ?_
      refine V_aload_n_0 (q := 194) C rfl dX6_firstFault_193 ?_
      refine gf_X6_15 (q := 197) C rfl dX6_firstFault_194 ?_
      rw [show ffS σ m b 10 1 = nI n from hn]
      refine V_icmp_ge (tgt := 204) C rfl (by decide) dX6_firstFault_197 (fun c197 => ?_) (fun c197 => ?_)
      · refine V_iconst (q := 205) (v := (-1)) C rfl rfl dX6_firstFault_204 ?_
        refine V_iret C hR dX6_firstFault_205 ?_
        have h0 : ¬ (b = 0 ∨ 1 + 3 * m + 4 * b < n) := fun h => by rcases h with h | h; exact c189 (by rw [h]; rfl); exact nI_ge h (by omega) c197
        exact ⟨by rw [hF, if_neg h0], by rw [hF, if_neg h0]⟩
      · refine V_iload_n_1 (q := 201) C rfl dX6_firstFault_200 ?_
        refine V_goto (tgt := 205) C (by decide) dX6_firstFault_201 ?_
        refine V_iret C hR dX6_firstFault_205 ?_
        have h0 : b = 0 ∨ 1 + 3 * m + 4 * b < n := Or.inr (by rcases Nat.lt_or_ge (1 + 3 * m + 4 * b) n with h | h; exact h; exact absurd (nI_le h (by omega)) c197)
        exact ⟨by rw [hF, if_pos h0], by rw [hF, if_pos h0]⟩
  have k92 : ∀ m : Nat, m ≤ 6 → codeT σ n 0 = 107 → ffA σ n 6 0 = (m, none) → V X 92 [.ref (xad X 10), .int (nI (1 + 3 * m))] [] (ffS σ m 0) := by
    intro m hm h107 hA
    refine V_aload_n_0 (q := 93) C rfl dX6_firstFault_92 ?_
    refine gf_X6_19 (q := 96) C rfl dX6_firstFault_93 ?_
    refine V_if_ne (tgt := 101) C rfl (by decide) dX6_firstFault_96 (fun c96 => ?_) (fun c96 => ?_)
    · have hx101 : (ffB σ n (1 + 3 * m) 6 0 = ffB σ n (1 + 3 * m) (6 - 6) 6) → V X 101 [.ref (xad X 10), .int (nI (1 + 3 * m + 4 * 6))] [] (ffS σ m 6) := by
        intro hv101
        have hm0 : ¬ m = 0 := fun h => c96 (by rw [h]; rfl)
        have hR0 : ffR σ n = (match ffB σ n (1 + 3 * m) 6 0 with | (b, some k) => (nI k, m, b) | (b, none) => if b = 0 ∨ 1 + 3 * m + 4 * b < n then (nI (1 + 3 * m + 4 * b), m, b) else (-1, m, b)) := by unfold ffR; rw [if_neg (nn h107), hA]; show (if m = 0 then _ else _) = _; rw [if_neg hm0]
        refine V_aload_n_0 (q := 102) C rfl dX6_firstFault_101 ?_
        refine gf_X6_22 (q := 105) C rfl dX6_firstFault_102 ?_
        refine V_bipush (q := 107) (v := 6) C (by decide) rfl dX6_firstFault_105 ?_
        refine V_icmp_ge_t (tgt := 185) C (by show (6 : Int32) ≤ nI 6; decide) (by decide) dX6_firstFault_107 ?_
        exact k185 m 6 hm (Nat.le_refl _) (by rw [hR0, hv101]; rfl)
      have hs101 : ∀ b : Nat, b < 6 → ((ffB σ n (1 + 3 * m) 6 0 = ffB σ n (1 + 3 * m) (6 - (b + 1)) (b + 1)) → V X 101 [.ref (xad X 10), .int (nI (1 + 3 * m + 4 * (b + 1)))] [] (ffS σ m (b + 1))) → (ffB σ n (1 + 3 * m) 6 0 = ffB σ n (1 + 3 * m) (6 - b) b) → V X 101 [.ref (xad X 10), .int (nI (1 + 3 * m + 4 * b))] [] (ffS σ m b) := by
        intro b hi101 ih101 hv101
        have hv : ffB σ n (1 + 3 * m) 6 0 = ffB σ n (1 + 3 * m) (5 - b + 1) b := by rw [hv101]; congr 1; omega
        have hm0 : ¬ m = 0 := fun h => c96 (by rw [h]; rfl)
        have hR0 : ffR σ n = (match ffB σ n (1 + 3 * m) 6 0 with | (b, some k) => (nI k, m, b) | (b, none) => if b = 0 ∨ 1 + 3 * m + 4 * b < n then (nI (1 + 3 * m + 4 * b), m, b) else (-1, m, b)) := by unfold ffR; rw [if_neg (nn h107), hA]; show (if m = 0 then _ else _) = _; rw [if_neg hm0]
        refine V_aload_n_0 (q := 102) C rfl dX6_firstFault_101 ?_
        refine gf_X6_22 (q := 105) C rfl dX6_firstFault_102 ?_
        refine V_bipush (q := 107) (v := 6) C (by decide) rfl dX6_firstFault_105 ?_
        refine V_icmp_ge_f (tgt := 185) C (by show ¬ (6 : Int32) ≤ nI b; exact nI_ge (b := 6) hi101 (by omega)) rfl (by decide) dX6_firstFault_107 ?_
        refine V_aload_n_0 (q := 111) C rfl dX6_firstFault_110 ?_
        refine V_iload_n_1 (q := 112) C rfl dX6_firstFault_111 ?_
        refine V_cV1r (q := 115) C (Ct.mono (v' := some (.int (codeT σ n (1 + 3 * m + 4 * b)))) (c_X6_codeAt (ffS σ m b) n (1 + 3 * m + 4 * b) hn hn50 (by omega)) rfl rfl) cw_X6_codeAt cv_X6_codeAt wm_X6_36 (by decide) ob_X6 ⟨by decide, by decide⟩ (Nat.le_of_ble_eq_true rfl) rfl dX6_firstFault_112 ?_
        refine V_bipush (q := 117) (v := 59) C (by decide) rfl dX6_firstFault_115 ?_
        refine V_icmp_ne (tgt := 185) C rfl (by decide) dX6_firstFault_117 (fun c117 => ?_) (fun c117 => ?_)
        · exact k185 m b hm (by omega) (by rw [hR0, hv]; rw [ffB_s, if_pos c117])
        · refine V_aload_n_0 (q := 121) C rfl dX6_firstFault_120 ?_
          refine V_iload_n_1 (q := 122) C rfl dX6_firstFault_121 ?_
          refine V_iconst (q := 123) (v := 1) C rfl rfl dX6_firstFault_122 ?_
          refine V_iadd (q := 124) C rfl dX6_firstFault_123 ?_
          rw [show nI (1 + 3 * m + 4 * b) + 1 = nI (1 + 3 * m + 4 * b + 1) from nI_k (k := 1) rfl]
          refine V_iconst (q := 125) (v := 0) C rfl rfl dX6_firstFault_124 ?_
          refine V_iconst (q := 126) (v := 5) C rfl rfl dX6_firstFault_125 ?_
          refine V_cV3r (q := 129) C (Ct.mono (v' := some (.int (pI (isD σ n (1 + 3 * m + 4 * b + 1) 0 5)))) (c_X6_isDigit (ffS σ m b) n (1 + 3 * m + 4 * b + 1) 0 5 hn hn50 (by omega)) rfl rfl) cw_X6_isDigit cv_X6_isDigit wm_X6_43 (by decide) ob_X6 ⟨by decide, by decide⟩ (Nat.le_of_ble_eq_true rfl) rfl dX6_firstFault_126 ?_
          refine V_ifp_ne (tgt := 136) C rfl (by decide) dX6_firstFault_129 (fun c129 => ?_) (fun c129 => ?_)
          · refine V_aload_n_0 (q := 137) C rfl dX6_firstFault_136 ?_
            refine V_iload_n_1 (q := 138) C rfl dX6_firstFault_137 ?_
            refine V_iconst (q := 139) (v := 2) C rfl rfl dX6_firstFault_138 ?_
            refine V_iadd (q := 140) C rfl dX6_firstFault_139 ?_
            rw [show nI (1 + 3 * m + 4 * b) + 2 = nI (1 + 3 * m + 4 * b + 2) from nI_k (k := 2) rfl]
            refine V_iconst (q := 141) (v := 0) C rfl rfl dX6_firstFault_140 ?_
            refine V_iconst (q := 142) (v := 2) C rfl rfl dX6_firstFault_141 ?_
            refine V_cV3r (q := 145) C (Ct.mono (v' := some (.int (pI (isD σ n (1 + 3 * m + 4 * b + 2) 0 2)))) (c_X6_isDigit (ffS σ m b) n (1 + 3 * m + 4 * b + 2) 0 2 hn hn50 (by omega)) rfl rfl) cw_X6_isDigit cv_X6_isDigit wm_X6_43 (by decide) ob_X6 ⟨by decide, by decide⟩ (Nat.le_of_ble_eq_true rfl) rfl dX6_firstFault_142 ?_
            refine V_ifp_ne (tgt := 152) C rfl (by decide) dX6_firstFault_145 (fun c145 => ?_) (fun c145 => ?_)
            · refine V_aload_n_0 (q := 153) C rfl dX6_firstFault_152 ?_
              refine V_iload_n_1 (q := 154) C rfl dX6_firstFault_153 ?_
              refine V_iconst (q := 155) (v := 3) C rfl rfl dX6_firstFault_154 ?_
              refine V_iadd (q := 156) C rfl dX6_firstFault_155 ?_
              rw [show nI (1 + 3 * m + 4 * b) + 3 = nI (1 + 3 * m + 4 * b + 3) from nI_k (k := 3) rfl]
              refine V_iconst (q := 157) (v := 0) C rfl rfl dX6_firstFault_156 ?_
              refine V_bipush (q := 159) (v := 9) C (by decide) rfl dX6_firstFault_157 ?_
              refine V_cV3r (q := 162) C (Ct.mono (v' := some (.int (pI (isD σ n (1 + 3 * m + 4 * b + 3) 0 9)))) (c_X6_isDigit (ffS σ m b) n (1 + 3 * m + 4 * b + 3) 0 9 hn hn50 (by omega)) rfl rfl) cw_X6_isDigit cv_X6_isDigit wm_X6_43 (by decide) ob_X6 ⟨by decide, by decide⟩ (Nat.le_of_ble_eq_true rfl) rfl dX6_firstFault_159 ?_
              refine V_ifp_ne (tgt := 169) C rfl (by decide) dX6_firstFault_162 (fun c162 => ?_) (fun c162 => ?_)
              · refine V_aload_n_0 (q := 170) C rfl dX6_firstFault_169 ?_
                refine V_dup (q := 171) C rfl rfl dX6_firstFault_170 ?_
                refine gf_X6_22 (q := 174) C rfl dX6_firstFault_171 ?_
                refine V_iconst (q := 175) (v := 1) C rfl rfl dX6_firstFault_174 ?_
                refine V_iadd (q := 176) C rfl dX6_firstFault_175 ?_
                refine pf_X6_22 (q := 179) C rfl dX6_firstFault_176 ?_
                refine V_iinc_1 (q := 182) (n := 4) C (nI_k (a := 1 + 3 * m + 4 * b) (b := 1 + 3 * m + 4 * (b + 1)) (k := 4) (by omega)) hn1 rfl rfl dX6_firstFault_179 ?_
                refine V_goto (tgt := 101) C (by decide) dX6_firstFault_182 ?_
                refine V_eq (by show setf (ffS σ m b) 10 3 (nI b + 1) = ffS σ m (b + 1); rw [show nI b + 1 = nI (b + 1) from nI_1 b, ffS_b]) (ih101 ?_)
                rw [hv, show 6 - (b + 1) = 5 - b by omega]
                rw [ffB_s, if_neg (nn c117), if_neg (nn c129), if_neg (nn c145), if_neg (nn c162)]
              · refine V_iload_n_1 (q := 166) C rfl dX6_firstFault_165 ?_
                refine V_iconst (q := 167) (v := 3) C rfl rfl dX6_firstFault_166 ?_
                refine V_iadd (q := 168) C rfl dX6_firstFault_167 ?_
                rw [show nI (1 + 3 * m + 4 * b) + 3 = nI (1 + 3 * m + 4 * b + 3) from nI_k (k := 3) rfl]
                refine V_iret C hR dX6_firstFault_168 ?_
                have hB : ffR σ n = (nI (1 + 3 * m + 4 * b + 3), m, b) := by rw [hR0, hv]; rw [ffB_s, if_neg (nn c117), if_neg (nn c129), if_neg (nn c145), if_pos c162]
                exact ⟨by rw [hB], by rw [hB]⟩
            · refine V_iload_n_1 (q := 149) C rfl dX6_firstFault_148 ?_
              refine V_iconst (q := 150) (v := 2) C rfl rfl dX6_firstFault_149 ?_
              refine V_iadd (q := 151) C rfl dX6_firstFault_150 ?_
              rw [show nI (1 + 3 * m + 4 * b) + 2 = nI (1 + 3 * m + 4 * b + 2) from nI_k (k := 2) rfl]
              refine V_iret C hR dX6_firstFault_151 ?_
              have hB : ffR σ n = (nI (1 + 3 * m + 4 * b + 2), m, b) := by rw [hR0, hv]; rw [ffB_s, if_neg (nn c117), if_neg (nn c129), if_pos c145]
              exact ⟨by rw [hB], by rw [hB]⟩
          · refine V_iload_n_1 (q := 133) C rfl dX6_firstFault_132 ?_
            refine V_iconst (q := 134) (v := 1) C rfl rfl dX6_firstFault_133 ?_
            refine V_iadd (q := 135) C rfl dX6_firstFault_134 ?_
            rw [show nI (1 + 3 * m + 4 * b) + 1 = nI (1 + 3 * m + 4 * b + 1) from nI_k (k := 1) rfl]
            refine V_iret C hR dX6_firstFault_135 ?_
            have hB : ffR σ n = (nI (1 + 3 * m + 4 * b + 1), m, b) := by rw [hR0, hv]; rw [ffB_s, if_neg (nn c117), if_pos c129]
            exact ⟨by rw [hB], by rw [hB]⟩
      exact V_eq (rfl) (loopN (P := fun b => (ffB σ n (1 + 3 * m) 6 0 = ffB σ n (1 + 3 * m) (6 - b) b) → V X 101 [.ref (xad X 10), .int (nI (1 + 3 * m + 4 * b))] [] (ffS σ m b)) (6) hx101 hs101 0 (Nat.zero_le _) (rfl))
    · refine V_iload_n_1 (q := 100) C rfl dX6_firstFault_99 ?_
      refine V_iret C hR dX6_firstFault_100 ?_
      have hm0 : m = 0 := by rcases Nat.eq_zero_or_pos m with h | h; exact h; exact absurd c96 (nI_ne0 h (by omega))
      subst hm0
      refine ⟨?_, ?_⟩ <;> (unfold ffR; rw [if_neg (nn h107), hA]) <;> rfl
  refine V_aload_n_0 (q := 1) C rfl dX6_firstFault_0 ?_
  refine V_iconst (q := 2) (v := (nI 0)) C rfl rfl dX6_firstFault_1 ?_
  refine pf_X6_19 (q := 5) C rfl dX6_firstFault_2 ?_
  refine V_aload_n_0 (q := 6) C rfl dX6_firstFault_5 ?_
  refine V_iconst (q := 7) (v := (nI 0)) C rfl rfl dX6_firstFault_6 ?_
  refine pf_X6_22 (q := 10) C rfl dX6_firstFault_7 ?_
  refine V_aload_n_0 (q := 11) C rfl dX6_firstFault_10 ?_
  refine V_iconst (q := 12) (v := (nI 0)) C rfl rfl dX6_firstFault_11 ?_
  refine V_cV1r (q := 15) C (Ct.mono (v' := some (.int (codeT σ n 0))) (c_X6_codeAt _ n 0 hn hn50 (by omega)) rfl rfl) cw_X6_codeAt cv_X6_codeAt wm_X6_36 (by decide) ob_X6 ⟨by decide, by decide⟩ (Nat.le_of_ble_eq_true rfl) rfl dX6_firstFault_12 ?_
  refine V_bipush (q := 17) (v := 107) C (by decide) rfl dX6_firstFault_15 ?_
  refine V_icmp_eq (tgt := 22) C rfl (by decide) dX6_firstFault_17 (fun c17 => ?_) (fun c17 => ?_)
  · refine V_iconst (q := 23) (v := (nI (1 + 3 * 0))) C rfl rfl dX6_firstFault_22 ?_
    refine V_istore_n_1 (q := 24) C hn1 rfl rfl dX6_firstFault_23 ?_
    have hx24 : (ffA σ n 6 0 = ffA σ n (6 - 6) 6) → V X 24 [.ref (xad X 10), .int (nI (1 + 3 * 6))] [] (ffS σ 6 0) := by
      intro hv24
      have h107 : codeT σ n 0 = 107 := c17
      refine V_aload_n_0 (q := 25) C rfl dX6_firstFault_24 ?_
      refine gf_X6_19 (q := 28) C rfl dX6_firstFault_25 ?_
      refine V_bipush (q := 30) (v := 6) C (by decide) rfl dX6_firstFault_28 ?_
      refine V_icmp_ge_t (tgt := 92) C (by show (6 : Int32) ≤ nI 6; decide) (by decide) dX6_firstFault_30 ?_
      exact k92 6 (Nat.le_refl _) h107 (by rw [hv24]; rfl)
    have hs24 : ∀ m : Nat, m < 6 → ((ffA σ n 6 0 = ffA σ n (6 - (m + 1)) (m + 1)) → V X 24 [.ref (xad X 10), .int (nI (1 + 3 * (m + 1)))] [] (ffS σ (m + 1) 0)) → (ffA σ n 6 0 = ffA σ n (6 - m) m) → V X 24 [.ref (xad X 10), .int (nI (1 + 3 * m))] [] (ffS σ m 0) := by
      intro m hi24 ih24 hv24
      have h107 : codeT σ n 0 = 107 := c17
      have hv : ffA σ n 6 0 = ffA σ n (5 - m + 1) m := by rw [hv24]; congr 1; omega
      refine V_aload_n_0 (q := 25) C rfl dX6_firstFault_24 ?_
      refine gf_X6_19 (q := 28) C rfl dX6_firstFault_25 ?_
      refine V_bipush (q := 30) (v := 6) C (by decide) rfl dX6_firstFault_28 ?_
      refine V_icmp_ge_f (tgt := 92) C (by show ¬ (6 : Int32) ≤ nI m; exact nI_ge (b := 6) hi24 (by omega)) rfl (by decide) dX6_firstFault_30 ?_
      refine V_aload_n_0 (q := 34) C rfl dX6_firstFault_33 ?_
      refine V_iload_n_1 (q := 35) C rfl dX6_firstFault_34 ?_
      refine V_cV1r (q := 38) C (Ct.mono (v' := some (.int (kdT (codeT σ n (1 + 3 * m))))) (c_X6_kindAt (ffS σ m 0) n (1 + 3 * m) hn hn50 (by omega)) rfl rfl) cw_X6_kindAt cv_X6_kindAt wm_X6_40 (by decide) ob_X6 ⟨by decide, by decide⟩ (Nat.le_of_ble_eq_true rfl) rfl dX6_firstFault_35 ?_
      refine V_bipush (q := 40) (v := (-9)) C (by decide) rfl dX6_firstFault_38 ?_
      refine V_icmp_eq (tgt := 92) C rfl (by decide) dX6_firstFault_40 (fun c40 => ?_) (fun c40 => ?_)
      · exact k92 m (by omega) h107 (by rw [hv]; rw [ffA_s, if_pos c40])
      · refine V_aload_n_0 (q := 44) C rfl dX6_firstFault_43 ?_
        refine V_iload_n_1 (q := 45) C rfl dX6_firstFault_44 ?_
        refine V_iconst (q := 46) (v := 1) C rfl rfl dX6_firstFault_45 ?_
        refine V_iadd (q := 47) C rfl dX6_firstFault_46 ?_
        rw [show nI (1 + 3 * m) + 1 = nI (2 + 3 * m) from nI_k (k := 1) (by omega)]
        refine V_iconst (q := 48) (v := 0) C rfl rfl dX6_firstFault_47 ?_
        refine V_iconst (q := 49) (v := 5) C rfl rfl dX6_firstFault_48 ?_
        refine V_cV3r (q := 52) C (Ct.mono (v' := some (.int (pI (isD σ n (2 + 3 * m) 0 5)))) (c_X6_isDigit (ffS σ m 0) n (2 + 3 * m) 0 5 hn hn50 (by omega)) rfl rfl) cw_X6_isDigit cv_X6_isDigit wm_X6_43 (by decide) ob_X6 ⟨by decide, by decide⟩ (Nat.le_of_ble_eq_true rfl) rfl dX6_firstFault_49 ?_
        refine V_ifp_ne (tgt := 59) C rfl (by decide) dX6_firstFault_52 (fun c52 => ?_) (fun c52 => ?_)
        · refine V_aload_n_0 (q := 60) C rfl dX6_firstFault_59 ?_
          refine V_iload_n_1 (q := 61) C rfl dX6_firstFault_60 ?_
          refine V_iconst (q := 62) (v := 2) C rfl rfl dX6_firstFault_61 ?_
          refine V_iadd (q := 63) C rfl dX6_firstFault_62 ?_
          rw [show nI (1 + 3 * m) + 2 = nI (3 + 3 * m) from nI_k (k := 2) (by omega)]
          refine V_iconst (q := 64) (v := 1) C rfl rfl dX6_firstFault_63 ?_
          refine V_bipush (q := 66) (v := 9) C (by decide) rfl dX6_firstFault_64 ?_
          refine V_cV3r (q := 69) C (Ct.mono (v' := some (.int (pI (isD σ n (3 + 3 * m) 1 9)))) (c_X6_isDigit (ffS σ m 0) n (3 + 3 * m) 1 9 hn hn50 (by omega)) rfl rfl) cw_X6_isDigit cv_X6_isDigit wm_X6_43 (by decide) ob_X6 ⟨by decide, by decide⟩ (Nat.le_of_ble_eq_true rfl) rfl dX6_firstFault_66 ?_
          refine V_ifp_ne (tgt := 76) C rfl (by decide) dX6_firstFault_69 (fun c69 => ?_) (fun c69 => ?_)
          · refine V_aload_n_0 (q := 77) C rfl dX6_firstFault_76 ?_
            refine V_dup (q := 78) C rfl rfl dX6_firstFault_77 ?_
            refine gf_X6_19 (q := 81) C rfl dX6_firstFault_78 ?_
            refine V_iconst (q := 82) (v := 1) C rfl rfl dX6_firstFault_81 ?_
            refine V_iadd (q := 83) C rfl dX6_firstFault_82 ?_
            refine pf_X6_19 (q := 86) C rfl dX6_firstFault_83 ?_
            refine V_iinc_1 (q := 89) (n := 3) C (nI_k (a := 1 + 3 * m) (b := 1 + 3 * (m + 1)) (k := 3) (by omega)) hn1 rfl rfl dX6_firstFault_86 ?_
            refine V_goto (tgt := 24) C (by decide) dX6_firstFault_89 ?_
            refine V_eq (by show setf (ffS σ m 0) 10 2 (nI m + 1) = ffS σ (m + 1) 0; rw [show nI m + 1 = nI (m + 1) from nI_1 m, ffS_m]) (ih24 ?_)
            rw [hv, show 6 - (m + 1) = 5 - m by omega]
            rw [ffA_s, if_neg c40, if_neg (nn c52), if_neg (nn c69)]
          · refine V_iload_n_1 (q := 73) C rfl dX6_firstFault_72 ?_
            refine V_iconst (q := 74) (v := 2) C rfl rfl dX6_firstFault_73 ?_
            refine V_iadd (q := 75) C rfl dX6_firstFault_74 ?_
            rw [show nI (1 + 3 * m) + 2 = nI (3 + 3 * m) from nI_k (k := 2) (by omega)]
            refine V_iret C hR dX6_firstFault_75 ?_
            have hA : ffA σ n 6 0 = (m, some (3 + 3 * m)) := by rw [hv]; rw [ffA_s, if_neg c40, if_neg (nn c52), if_pos c69]
            refine ⟨?_, ?_⟩ <;> (unfold ffR; rw [if_neg (nn h107), hA]) <;> rfl
        · refine V_iload_n_1 (q := 56) C rfl dX6_firstFault_55 ?_
          refine V_iconst (q := 57) (v := 1) C rfl rfl dX6_firstFault_56 ?_
          refine V_iadd (q := 58) C rfl dX6_firstFault_57 ?_
          rw [show nI (1 + 3 * m) + 1 = nI (2 + 3 * m) from nI_k (k := 1) (by omega)]
          refine V_iret C hR dX6_firstFault_58 ?_
          have hA : ffA σ n 6 0 = (m, some (2 + 3 * m)) := by rw [hv]; rw [ffA_s, if_neg c40, if_pos c52]
          refine ⟨?_, ?_⟩ <;> (unfold ffR; rw [if_neg (nn h107), hA]) <;> rfl
    exact V_eq (rfl) (loopN (P := fun m => (ffA σ n 6 0 = ffA σ n (6 - m) m) → V X 24 [.ref (xad X 10), .int (nI (1 + 3 * m))] [] (ffS σ m 0)) (6) hx24 hs24 0 (Nat.zero_le _) (rfl))
  · refine V_iconst (q := 21) (v := 0) C rfl rfl dX6_firstFault_20 ?_
    refine V_iret C hR dX6_firstFault_21 ?_
    refine ⟨?_, ?_⟩ <;> (unfold ffR; rw [if_pos c17]) <;> rfl

set_option maxHeartbeats 4000000 in
set_option maxRecDepth 100000 in
theorem c_X7_clear {l : Launch} {D : DD} {ad : Nat → Nat} (σ : ST)  : Ct l yX7_clear cX7_clear 1 (Option.none : Option FieldType) 1 23 D ad [.ref (ad 21)] σ (ex none (setf (setf (setc (setc σ 22 (fun _ => 0)) 23 (fun _ => -9)) 21 4 0) 21 5 0)) := by
  refine Ct.of2 [.ref (ad 21)] rfl (Nat.le_of_ble_eq_true rfl) rfl ?_
  rintro X C rfl rfl rfl hxn hR
  refine V_aload_n_0 (q := 1) C rfl dX7_clear_0 ?_
  refine gf_X7_9 (q := 4) C rfl dX7_clear_1 ?_
  refine V_iconst (q := 5) (v := 0) C rfl rfl dX7_clear_4 ?_
  refine V_cS2v (q := 8) C (c_J7_fill_53178 σ 22 0 rfl (by decide) (by decide)) cw_J7_fill_53178 cs_J7_fill_53178 wm_X7_31 ⟨by decide, by decide⟩ (Nat.le_of_ble_eq_true rfl) rfl dX7_clear_5 ?_
  refine V_aload_n_0 (q := 9) C rfl dX7_clear_8 ?_
  refine gf_X7_15 (q := 12) C rfl dX7_clear_9 ?_
  refine V_bipush (q := 14) (v := (-9)) C (by decide) rfl dX7_clear_12 ?_
  refine V_cS2v (q := 17) C (c_J7_fill_53178 _ 23 (-9) rfl (by decide) (by decide)) cw_J7_fill_53178 cs_J7_fill_53178 wm_X7_31 ⟨by decide, by decide⟩ (Nat.le_of_ble_eq_true rfl) rfl dX7_clear_14 ?_
  refine V_aload_n_0 (q := 18) C rfl dX7_clear_17 ?_
  refine V_iconst (q := 19) (v := 0) C rfl rfl dX7_clear_18 ?_
  refine pf_X7_24 (q := 22) C rfl dX7_clear_19 ?_
  refine V_aload_n_0 (q := 23) C rfl dX7_clear_22 ?_
  refine V_iconst (q := 24) (v := 0) C rfl rfl dX7_clear_23 ?_
  refine pf_X7_28 (q := 27) C rfl dX7_clear_24 ?_
  refine V_vret C hR dX7_clear_27 ?_
  exact ⟨rfl, rfl⟩

set_option maxHeartbeats 4000000 in
set_option maxRecDepth 100000 in
theorem c_X7_addCrow {l : Launch} {D : DD} {ad : Nat → Nat} (σ : ST) (d t : Int32) (n : Nat) (hC : σ 21 5 = nI n) (hC6 : n < 6) : Ct l yX7_addCrow cX7_addCrow 3 (Option.some FieldType.int) 0 0 D ad [.ref (ad 21), .int d, .int t] σ (ex (some (.int (σ 21 5 + 1 - 1))) (setf (setf (setf σ 24 n d) 25 n t) 21 5 (σ 21 5 + 1))) := by
  refine Ct.of2 [.ref (ad 21), .int d, .int t] rfl (Nat.le_of_ble_eq_true rfl) rfl ?_
  rintro X C rfl rfl rfl hxn hR
  refine V_aload_n_0 (q := 1) C rfl dX7_addCrow_0 ?_
  refine gf_X7_18 (q := 4) C rfl dX7_addCrow_1 ?_
  refine V_aload_n_0 (q := 5) C rfl dX7_addCrow_4 ?_
  refine gf_X7_28 (q := 8) C rfl dX7_addCrow_5 ?_
  refine V_iload_n_1 (q := 9) C rfl dX7_addCrow_8 ?_
  refine V_iast (q := 10) C n hC (by show _ < 6; omega) rfl (by decide) (by decide) rfl dX7_addCrow_9 ?_
  refine V_aload_n_0 (q := 11) C rfl dX7_addCrow_10 ?_
  refine gf_X7_21 (q := 14) C rfl dX7_addCrow_11 ?_
  refine V_aload_n_0 (q := 15) C rfl dX7_addCrow_14 ?_
  refine gf_X7_28 (q := 18) C rfl dX7_addCrow_15 ?_
  refine V_iload_n_2 (q := 19) C rfl dX7_addCrow_18 ?_
  refine V_iast (q := 20) C n hC (by show _ < 6; omega) rfl (by decide) (by decide) rfl dX7_addCrow_19 ?_
  refine V_aload_n_0 (q := 21) C rfl dX7_addCrow_20 ?_
  refine V_dup (q := 22) C rfl rfl dX7_addCrow_21 ?_
  refine gf_X7_28 (q := 25) C rfl dX7_addCrow_22 ?_
  refine V_iconst (q := 26) (v := 1) C rfl rfl dX7_addCrow_25 ?_
  refine V_iadd (q := 27) C rfl dX7_addCrow_26 ?_
  refine pf_X7_28 (q := 30) C rfl dX7_addCrow_27 ?_
  refine V_aload_n_0 (q := 31) C rfl dX7_addCrow_30 ?_
  refine gf_X7_28 (q := 34) C rfl dX7_addCrow_31 ?_
  refine V_iconst (q := 35) (v := 1) C rfl rfl dX7_addCrow_34 ?_
  refine V_isub (q := 36) C rfl dX7_addCrow_35 ?_
  refine V_iret C hR dX7_addCrow_36 ?_
  exact ⟨rfl, rfl⟩


abbrev agr (σ : ST) (r : Nat) : Prop := pI (σ 35 (σ 27 r).toNatClampNeg ≤ σ 28 r) = σ 29 r



