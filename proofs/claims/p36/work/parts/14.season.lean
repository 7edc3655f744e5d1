/-! the class: the season -/
theorem upd_upd {f : Nat → Int32} {k : Nat} {x y : Int32} : upd (upd f k x) k y = upd f k y := funext fun t => by
  unfold upd
  by_cases h : t = k
  · rw [if_pos h, if_pos h]
  · rw [if_neg h, if_neg h, if_neg h]
theorem upd_id {f : Nat → Int32} {k : Nat} : upd f k (f k) = f := funext fun t => by
  unfold upd
  by_cases h : t = k
  · rw [if_pos h, h]
  · rw [if_neg h]
abbrev S4 : Type := (Nat → Int32) × (Nat → Int32) × (Nat → Int32) × Int32
def putS (σ : ST) (s : S4) : ST := setc (setc (setc (setf σ 30 9 s.2.2.2) 34 s.1) 35 s.2.1) 36 s.2.2.1
def getS (σ : ST) : S4 := (σ 34, σ 35, σ 36, σ 30 9)
theorem putS_putS {σ : ST} {s : S4} {t : S4} : putS (putS σ s) t = putS σ t := by
  funext z
  by_cases e0 : z = 36
  · subst e0; rfl
  · by_cases e1 : z = 35
    · subst e1; rfl
    · by_cases e2 : z = 34
      · subst e2; rfl
      · by_cases e3 : z = 30
        · subst e3; show upd (upd (σ 30) 9 _) 9 _ = upd (σ 30) 9 _; exact upd_upd
        · simp only [putS, setf, setc, if_neg e0, if_neg e1, if_neg e2, if_neg e3]
theorem putS_w {σ : ST} {s : S4} {w : Nat → Int32} : setc (putS σ s) 34 w = putS σ (w, s.2) := by
  funext z
  by_cases e0 : z = 36
  · subst e0; rfl
  · by_cases e1 : z = 35
    · subst e1; rfl
    · by_cases e2 : z = 34
      · subst e2; rfl
      · by_cases e3 : z = 30
        · subst e3; rfl
        · simp only [putS, setf, setc, if_neg e0, if_neg e1, if_neg e2, if_neg e3]
theorem putS_o {σ : ST} {s : S4} {w : Nat → Int32} : setc (putS σ s) 35 w = putS σ (s.1, w, s.2.2) := by
  funext z
  by_cases e0 : z = 36
  · subst e0; rfl
  · by_cases e1 : z = 35
    · subst e1; rfl
    · by_cases e2 : z = 34
      · subst e2; rfl
      · by_cases e3 : z = 30
        · subst e3; rfl
        · simp only [putS, setf, setc, if_neg e0, if_neg e1, if_neg e2, if_neg e3]
theorem putS_b {σ : ST} {s : S4} {w : Nat → Int32} : setc (putS σ s) 36 w = putS σ (s.1, s.2.1, w, s.2.2.2) := by
  funext z
  by_cases e0 : z = 36
  · subst e0; rfl
  · by_cases e1 : z = 35
    · subst e1; rfl
    · by_cases e2 : z = 34
      · subst e2; rfl
      · by_cases e3 : z = 30
        · subst e3; rfl
        · simp only [putS, setf, setc, if_neg e0, if_neg e1, if_neg e2, if_neg e3]
theorem putS_n {σ : ST} {s : S4} {x : Int32} : setf (putS σ s) 30 9 x = putS σ (s.1, s.2.1, s.2.2.1, x) := by
  funext z
  by_cases e0 : z = 36
  · subst e0; rfl
  · by_cases e1 : z = 35
    · subst e1; rfl
    · by_cases e2 : z = 34
      · subst e2; rfl
      · by_cases e3 : z = 30
        · subst e3; show upd (upd (σ 30) 9 _) 9 _ = upd (σ 30) 9 _; exact upd_upd
        · simp only [putS, setf, setc, if_neg e0, if_neg e1, if_neg e2, if_neg e3]
theorem putS_get {σ : ST} : putS σ (getS σ) = σ := by
  funext z
  by_cases e0 : z = 36
  · subst e0; rfl
  · by_cases e1 : z = 35
    · subst e1; rfl
    · by_cases e2 : z = 34
      · subst e2; rfl
      · by_cases e3 : z = 30
        · subst e3; show upd (σ 30) 9 (σ 30 9) = σ 30; exact upd_id
        · simp only [putS, setf, setc, if_neg e0, if_neg e1, if_neg e2, if_neg e3]
def fstN (q : Nat → Prop) [DecidablePred q] : Nat → Nat → Nat
  | 0, i => i
  | n + 1, i => if q i then i else fstN q n (i + 1)
def lo6 (x : Int32) : Nat := fstN (fun j => bit x (nI j)) 5 0
theorem fstN_le {q : Nat → Prop} [DecidablePred q] : ∀ (n i : Nat), fstN q n i ≤ i + n := by
  intro n
  induction n with
  | zero => intro i; exact Nat.le_refl _
  | succ n ih =>
    intro i
    show (if q i then i else fstN q n (i + 1)) ≤ _
    by_cases h : q i
    · rw [if_pos h]; omega
    · rw [if_neg h]; have := ih (i + 1); omega
theorem lo6_lt (x : Int32) : lo6 x < 6 := by
  have := fstN_le (q := fun j => bit x (nI j)) 5 0
  unfold lo6
  omega
def gwF (T : Nat) (a x : Int32) (w : Nat → Int32) : Nat → Int32 := if isT (nI T) x then upd (pre T (fun t => w t + a) w) x.toNatClampNeg (pre T (fun t => w t + a) w x.toNatClampNeg + 3) else pre T (fun t => w t + a) w
def crG (wn : Nat → Int32) (set : Int32) (w : Nat → Int32) (t : Nat) : Int32 := if bit set (nI t) ∧ wn t ≤ w t then 0 else w t
def lout (s : S4) (p : Nat) (d t : Int32) : S4 := (s.1, upd s.2.1 p d, upd s.2.2.1 p t, s.2.2.2 &&& (own1 (nI p) ^^^ -1))
abbrev tkC (σ : ST) (s : S4) (t : Nat) : Prop := ¬ (σ 17 t &&& s.2.2.2) = 0 ∧ σ 16 t ≤ s.1 t ∧ ¬ bit (σ 30 5) (nI t)
def tkStep (σ : ST) (d : Int32) (t : Nat) (s : S4) : S4 := if tkC σ s t then (upd s.1 t 0, (lout s (lo6 (σ 17 t &&& s.2.2.2)) d (nI t)).2) else s
def tkN (σ : ST) (d : Int32) : Nat → S4 → S4
  | 0, s => s
  | t + 1, s => tkStep σ d t (tkN σ d t s)
def etStep (set d : Int32) (p : Nat) (s : S4) : S4 := if bit set (nI p) then lout s p d (-9) else s
def etN (set d : Int32) : Nat → S4 → S4
  | 0, s => s
  | p + 1, s => etStep set d p (etN set d p s)
abbrev wetC (σ : ST) (d : Nat) : Prop := ¬ bit (σ 30 4) (nI d) ∧ (0 < σ 31 d ∨ ¬ σ 32 d = -9)
def day1 (σ : ST) (T d : Nat) (s : S4) : S4 := if wetC σ d then (gwF T (σ 31 d) (σ 32 d) s.1, s.2) else s
def day2 (σ : ST) (T d : Nat) (s : S4) : S4 := if ¬ σ 33 d = 0 then (pre T (crG (σ 16) (σ 33 d) s.1) s.1, s.2) else s
def day3 (σ : ST) (T d : Nat) (s : S4) : S4 := if wetC σ d then tkN σ (nI d) T s else s
def day4 (σ : ST) (P d : Nat) (s : S4) : S4 := if ¬ (σ 20 d &&& s.2.2.2) = 0 then etN (σ 20 d &&& s.2.2.2) (nI d) P s else s
def dayC (σ : ST) (T P d : Nat) (s : S4) : S4 := day4 σ P d (day3 σ T d (day2 σ T d (day1 σ T d s)))
def daysC (σ : ST) (T P : Nat) : Nat → S4 → S4
  | 0, s => s
  | n + 1, s => dayC σ T P n (daysC σ T P n s)
def runU (σ : ST) (T P : Nat) (set : Int32) : Nat → S4 → S4
  | 0, s => s
  | n + 1, s => if (runU σ T P set n s).2.2.2 &&& set = 0 then runU σ T P set n s else dayC σ T P n (runU σ T P set n s)
def s0C (σ : ST) : S4 := (fun _ => 0, fun _ => -9, fun _ => -9, ones (σ 12 1))
def cntB (b : Nat → Int32) : Nat → Int32
  | 0 => 0
  | p + 1 => if ¬ b p = -9 then cntB b p + 1 else cntB b p
def sumO (f : Nat → Int32) : Nat → Int32
  | 0 => 0
  | p + 1 => sumO f p + f p
def crsF (cd ct : Nat → Int32) : Nat → Nat → Int32
  | 0 => fun _ => 0
  | c + 1 => upd (crsF cd ct c) (cd c).toNatClampNeg (crsF cd ct c (cd c).toNatClampNeg ||| own1 (ct c))
def prepF (σ : ST) (C : Nat) : ST := setf (setf (setc (setc (setc σ 31 (σ 22)) 32 (σ 23)) 33 (crsF (σ 24) (σ 25) C)) 30 4 (σ 21 4)) 30 5 (σ 12 2)

set_option maxHeartbeats 4000000 in
set_option maxRecDepth 100000 in
theorem c_X4_isRipe {l : Launch} {D : DD} {ad : Nat → Nat} (σ : ST) (j : Nat) (hj : j < 6) : Ct l yX4_isRipe cX4_isRipe 2 (Option.some FieldType.boolean) 0 0 D ad [.ref (ad 30), .int (nI j)] σ (ex (some (.int (pI (σ 16 j ≤ σ 34 j)))) σ) := by
  refine Ct.of2 [.ref (ad 30), .int (nI j)] rfl (Nat.le_of_ble_eq_true rfl) rfl ?_
  rintro X C rfl rfl rfl hxn hR
  refine V_aload_n_0 (q := 1) C rfl dX4_isRipe_0 ?_
  refine gf_X4_28 (q := 4) C rfl dX4_isRipe_1 ?_
  refine V_iload_n_1 (q := 5) C rfl dX4_isRipe_4 ?_
  refine V_iald (q := 6) C _ rfl (by show _ < 6; omega) rfl (by decide) (by decide) rfl dX4_isRipe_5 ?_
  refine V_aload_n_0 (q := 7) C rfl dX4_isRipe_6 ?_
  refine gf_X4_40 (q := 10) C rfl dX4_isRipe_7 ?_
  refine gf_X4_120 (q := 13) C rfl dX4_isRipe_10 ?_
  refine V_iload_n_1 (q := 14) C rfl dX4_isRipe_13 ?_
  refine V_iald (q := 15) C _ rfl (by show _ < 6; omega) rfl (by decide) (by decide) rfl dX4_isRipe_14 ?_
  refine V_icmp_lt (tgt := 22) C rfl (by decide) dX4_isRipe_15 (fun c15 => ?_) (fun c15 => ?_)
  · refine V_iconst (q := 23) (v := 0) C rfl rfl dX4_isRipe_22 ?_
    refine V_zret C hR rfl dX4_isRipe_23 ?_
    exact ⟨by rw [pI_f (Int32.not_le.mpr c15)], rfl⟩
  · refine V_iconst (q := 19) (v := 1) C rfl rfl dX4_isRipe_18 ?_
    refine V_goto (tgt := 23) C (by decide) dX4_isRipe_19 ?_
    refine V_zret C hR rfl dX4_isRipe_23 ?_
    exact ⟨by rw [pI_t (Int32.not_lt.mp c15)], rfl⟩


set_option maxHeartbeats 4000000 in
set_option maxRecDepth 100000 in
theorem c_X4_leastOf {l : Launch} {D : DD} {ad : Nat → Nat} (σ : ST) (x : Int32)  : Ct l yX4_leastOf cX4_leastOf 3 (Option.some FieldType.int) 1 21 D ad [.ref (ad 30), .int x] σ (ex (some (.int (nI (lo6 x)))) σ) := by
  refine Ct.of2 [.ref (ad 30), .int x, .float 0] rfl (Nat.le_of_ble_eq_true rfl) rfl ?_
  rintro X C rfl rfl rfl hxn hR
  have hn2 : 2 < xn X := by rw [← hxn]; decide
  refine V_iconst (q := 1) (v := (nI 0)) C rfl rfl dX4_leastOf_0 ?_
  refine V_istore_n_2 (q := 2) C hn2 rfl rfl dX4_leastOf_1 ?_
  have hx2 : (lo6 x = fstN (fun j => bit x (nI j)) (5 - 5) 5) → V X 2 [.ref (xad X 30), .int x, .int (nI 5)] [] (σ) := by
    intro hv2
    refine V_iload_n_2 (q := 3) C rfl dX4_leastOf_2 ?_
    refine V_iconst (q := 4) (v := 5) C rfl rfl dX4_leastOf_3 ?_
    refine V_icmp_ge_t (tgt := 21) C (by decide) (by decide) dX4_leastOf_4 ?_
    refine V_iload_n_2 (q := 22) C rfl dX4_leastOf_21 ?_
    refine V_iret C hR dX4_leastOf_22 ?_
    exact ⟨by rw [hv2]; rfl, rfl⟩
  have hs2 : ∀ i : Nat, i < 5 → ((lo6 x = fstN (fun j => bit x (nI j)) (5 - (i + 1)) (i + 1)) → V X 2 [.ref (xad X 30), .int x, .int (nI (i + 1))] [] (σ)) → (lo6 x = fstN (fun j => bit x (nI j)) (5 - i) i) → V X 2 [.ref (xad X 30), .int x, .int (nI i)] [] (σ) := by
    intro i hi2 ih2 hv2
    refine V_iload_n_2 (q := 3) C rfl dX4_leastOf_2 ?_
    refine V_iconst (q := 4) (v := 5) C rfl rfl dX4_leastOf_3 ?_
    refine V_icmp_ge_f (tgt := 21) C (nI_ge (b := 5) hi2 (by decide)) rfl (by decide) dX4_leastOf_4 ?_
    refine V_iload_n_1 (q := 8) C rfl dX4_leastOf_7 ?_
    refine V_iload_n_2 (q := 9) C rfl dX4_leastOf_8 ?_
    refine V_cN2r (q := 12) C (c_X8_isIn _ _ _) cw_X8_isIn cs_X8_isIn C.K.2.2.1 ⟨by decide, by decide⟩ (Nat.le_of_ble_eq_true rfl) rfl dX4_leastOf_9 ?_
    refine V_ifp_ne (tgt := 21) C rfl (by decide) dX4_leastOf_12 (fun c12 => ?_) (fun c12 => ?_)
    · refine V_iload_n_2 (q := 22) C rfl dX4_leastOf_21 ?_
      refine V_iret C hR dX4_leastOf_22 ?_
      exact ⟨by rw [hv2, show 5 - i = (5 - (i + 1)) + 1 by omega, show fstN (fun j => bit x (nI j)) (5 - (i + 1) + 1) i = i from if_pos c12], rfl⟩
    · refine V_iinc_2 (q := 18) (n := 1) C nI_inc hn2 rfl rfl dX4_leastOf_15 ?_
      refine V_goto (tgt := 2) C (by decide) dX4_leastOf_18 ?_
      refine ih2 ?_
      rw [hv2, show 5 - i = (5 - (i + 1)) + 1 by omega]
      exact if_neg c12
  exact V_eq (rfl) (loopN (P := fun i => (lo6 x = fstN (fun j => bit x (nI j)) (5 - i) i) → V X 2 [.ref (xad X 30), .int x, .int (nI i)] [] (σ)) (5) hx2 hs2 0 (Nat.zero_le _) (rfl))

set_option maxHeartbeats 4000000 in
set_option maxRecDepth 100000 in
theorem c_X4_letOut {l : Launch} {D : DD} {ad : Nat → Nat} (σ : ST) (s : S4) (p : Nat) (d t : Int32) (hp : p < 6) : Ct l yX4_letOut cX4_letOut 4 (Option.none : Option FieldType) 0 0 D ad [.ref (ad 30), .int (nI p), .int d, .int t] (putS σ s) (ex none (putS σ (lout s p d t))) := by
  refine Ct.of2 [.ref (ad 30), .int (nI p), .int d, .int t] rfl (Nat.le_of_ble_eq_true rfl) rfl ?_
  rintro X C rfl rfl rfl hxn hR
  refine V_aload_n_0 (q := 1) C rfl dX4_letOut_0 ?_
  refine V_dup (q := 2) C rfl rfl dX4_letOut_1 ?_
  refine gf_X4_37 (q := 5) C rfl dX4_letOut_2 ?_
  refine V_iconst (q := 6) (v := 1) C rfl rfl dX4_letOut_5 ?_
  refine V_iload_n_1 (q := 7) C rfl dX4_letOut_6 ?_
  refine V_ishl (q := 8) C rfl dX4_letOut_7 ?_
  refine V_iconst (q := 9) (v := (-1)) C rfl rfl dX4_letOut_8 ?_
  refine V_ixor (q := 10) C rfl dX4_letOut_9 ?_
  refine V_iand (q := 11) C rfl dX4_letOut_10 ?_
  refine pf_X4_37 (q := 14) C rfl dX4_letOut_11 ?_
  refine V_aload_n_0 (q := 15) C rfl dX4_letOut_14 ?_
  refine gf_X4_31 (q := 18) C rfl dX4_letOut_15 ?_
  refine V_iload_n_1 (q := 19) C rfl dX4_letOut_18 ?_
  refine V_iload_n_2 (q := 20) C rfl dX4_letOut_19 ?_
  refine V_iast (q := 21) C _ rfl (by show _ < 6; omega) rfl (by decide) (by decide) rfl dX4_letOut_20 ?_
  refine V_aload_n_0 (q := 22) C rfl dX4_letOut_21 ?_
  refine gf_X4_34 (q := 25) C rfl dX4_letOut_22 ?_
  refine V_iload_n_1 (q := 26) C rfl dX4_letOut_25 ?_
  refine V_iload_n_3 (q := 27) C rfl dX4_letOut_26 ?_
  refine V_iast (q := 28) C _ rfl (by show _ < 6; omega) rfl (by decide) (by decide) rfl dX4_letOut_27 ?_
  refine V_vret C hR dX4_letOut_28 ?_
  refine ⟨rfl, ?_⟩
  show setc (setc (setf (putS σ s) 30 9 (s.2.2.2 &&& (own1 (nI p) ^^^ -1))) 35 (upd s.2.1 p d)) 36 (upd s.2.2.1 p t) = putS σ (lout s p d t)
  rw [putS_n, putS_o, putS_b]
  rfl

set_option maxHeartbeats 4000000 in
set_option maxRecDepth 100000 in
theorem c_X4_begin {l : Launch} {D : DD} {ad : Nat → Nat} (σ : ST)  : Ct l yX4_begin cX4_begin 1 (Option.none : Option FieldType) 1 23 D ad [.ref (ad 30)] σ (ex none (putS σ (s0C σ))) := by
  refine Ct.of2 [.ref (ad 30)] rfl (Nat.le_of_ble_eq_true rfl) rfl ?_
  rintro X C rfl rfl rfl hxn hR
  refine V_aload_n_0 (q := 1) C rfl dX4_begin_0 ?_
  refine gf_X4_28 (q := 4) C rfl dX4_begin_1 ?_
  refine V_iconst (q := 5) (v := 0) C rfl rfl dX4_begin_4 ?_
  refine V_cS2v (q := 8) C (c_J7_fill_53178 σ 34 0 rfl (by decide) (by decide)) cw_J7_fill_53178 cs_J7_fill_53178 wm_X4_54 ⟨by decide, by decide⟩ (Nat.le_of_ble_eq_true rfl) rfl dX4_begin_5 ?_
  refine V_aload_n_0 (q := 9) C rfl dX4_begin_8 ?_
  refine gf_X4_31 (q := 12) C rfl dX4_begin_9 ?_
  refine V_bipush (q := 14) (v := (-9)) C (by decide) rfl dX4_begin_12 ?_
  refine V_cS2v (q := 17) C (c_J7_fill_53178 _ 35 (-9) rfl (by decide) (by decide)) cw_J7_fill_53178 cs_J7_fill_53178 wm_X4_54 ⟨by decide, by decide⟩ (Nat.le_of_ble_eq_true rfl) rfl dX4_begin_14 ?_
  refine V_aload_n_0 (q := 18) C rfl dX4_begin_17 ?_
  refine gf_X4_34 (q := 21) C rfl dX4_begin_18 ?_
  refine V_bipush (q := 23) (v := (-9)) C (by decide) rfl dX4_begin_21 ?_
  refine V_cS2v (q := 26) C (c_J7_fill_53178 _ 36 (-9) rfl (by decide) (by decide)) cw_J7_fill_53178 cs_J7_fill_53178 wm_X4_54 ⟨by decide, by decide⟩ (Nat.le_of_ble_eq_true rfl) rfl dX4_begin_23 ?_
  refine V_aload_n_0 (q := 27) C rfl dX4_begin_26 ?_
  refine V_aload_n_0 (q := 28) C rfl dX4_begin_27 ?_
  refine gf_X4_40 (q := 31) C rfl dX4_begin_28 ?_
  refine V_cV0r (q := 34) C (c_X1_allPrisoners _) cw_X1_allPrisoners cv_X1_allPrisoners wm_X4_91 (by decide) ob_X1 ⟨by decide, by decide⟩ (Nat.le_of_ble_eq_true rfl) rfl dX4_begin_31 ?_
  refine pf_X4_37 (q := 37) C rfl dX4_begin_34 ?_
  refine V_vret C hR dX4_begin_37 ?_
  refine ⟨rfl, ?_⟩
  show setf (setc (setc (setc σ 34 (fun _ => 0)) 35 (fun _ => -9)) 36 (fun _ => -9)) 30 9 (ones (σ 12 1)) = putS σ (s0C σ)
  funext z
  by_cases e0 : z = 36
  · subst e0; rfl
  · by_cases e1 : z = 35
    · subst e1; rfl
    · by_cases e2 : z = 34
      · subst e2; rfl
      · by_cases e3 : z = 30
        · subst e3; rfl
        · simp only [putS, setf, setc, if_neg e0, if_neg e1, if_neg e2, if_neg e3]

set_option maxHeartbeats 4000000 in
set_option maxRecDepth 100000 in
theorem c_X4_giveWater {l : Launch} {D : DD} {ad : Nat → Nat} (σ : ST) (s : S4) (T : Nat) (a x : Int32) (hT : σ 12 0 = nI T) (hT6 : T ≤ 6) : Ct l yX4_giveWater cX4_giveWater 4 (Option.none : Option FieldType) 1 21 D ad [.ref (ad 30), .int a, .int x] (putS σ s) (ex none (putS σ (gwF T a x s.1, s.2))) := by
  refine Ct.of2 [.ref (ad 30), .int a, .int x, .float 0] rfl (Nat.le_of_ble_eq_true rfl) rfl ?_
  rintro X C rfl rfl rfl hxn hR
  have hn3 : 3 < xn X := by rw [← hxn]; decide
  refine V_iconst (q := 1) (v := (nI 0)) C rfl rfl dX4_giveWater_0 ?_
  refine V_istore_n_3 (q := 2) C hn3 rfl rfl dX4_giveWater_1 ?_
  have hx2 : V X 2 [.ref (xad X 30), .int a, .int x, .int (nI T)] [] (putS σ (pre T (fun t => s.1 t + a) s.1, s.2)) := by
    refine V_iload_n_3 (q := 3) C rfl dX4_giveWater_2 ?_
    refine V_aload_n_0 (q := 4) C rfl dX4_giveWater_3 ?_
    refine gf_X4_40 (q := 7) C rfl dX4_giveWater_4 ?_
    refine gf_X4_111 (q := 10) C rfl dX4_giveWater_7 ?_
    rw [show (putS σ (pre T (fun t => s.1 t + a) s.1, s.2)) 12 0 = nI T from hT]
    refine V_icmp_ge_t (tgt := 29) C (nI_le (Nat.le_refl _) (by omega)) (by decide) dX4_giveWater_10 ?_
    refine V_aload_n_0 (q := 30) C rfl dX4_giveWater_29 ?_
    refine gf_X4_40 (q := 33) C rfl dX4_giveWater_30 ?_
    refine V_iload_n_2 (q := 34) C rfl dX4_giveWater_33 ?_
    refine V_cV1r (q := 37) C (Ct.mono (v' := some (.int (pI (isT (nI T) x)))) (c_X1_hasTree _ x) (by rw [show (putS σ (pre T (fun t => s.1 t + a) s.1, s.2)) 12 0 = nI T from hT]) rfl) cw_X1_hasTree cv_X1_hasTree wm_X4_114 (by decide) ob_X1 ⟨by decide, by decide⟩ (Nat.le_of_ble_eq_true rfl) rfl dX4_giveWater_34 ?_
    refine V_ifp_eq (tgt := 50) C rfl (by decide) dX4_giveWater_37 (fun c37 => ?_) (fun c37 => ?_)
    · refine V_vret C hR dX4_giveWater_50 ?_
      refine ⟨rfl, ?_⟩
      unfold gwF
      rw [if_neg c37]
    · obtain ⟨j, hj, ej⟩ := isT_of c37 rfl (by omega)
      refine V_aload_n_0 (q := 41) C rfl dX4_giveWater_40 ?_
      refine gf_X4_28 (q := 44) C rfl dX4_giveWater_41 ?_
      refine V_iload_n_2 (q := 45) C rfl dX4_giveWater_44 ?_
      refine V_dup2 (q := 46) C rfl rfl rfl dX4_giveWater_45 ?_
      refine V_iald (q := 47) C j ej (by show _ < 6; omega) rfl (by decide) (by decide) rfl dX4_giveWater_46 ?_
      refine V_iconst (q := 48) (v := 3) C rfl rfl dX4_giveWater_47 ?_
      refine V_iadd (q := 49) C rfl dX4_giveWater_48 ?_
      refine V_iast (q := 50) C j ej (by show _ < 6; omega) rfl (by decide) (by decide) rfl dX4_giveWater_49 ?_
      refine V_vret C hR dX4_giveWater_50 ?_
      refine ⟨rfl, ?_⟩
      unfold gwF
      rw [if_pos c37]
      subst ej
      rw [nI_clamp (by omega)]
      exact putS_w
  have hs2 : ∀ i : Nat, i < T → (V X 2 [.ref (xad X 30), .int a, .int x, .int (nI (i + 1))] [] (putS σ (pre (i + 1) (fun t => s.1 t + a) s.1, s.2))) → V X 2 [.ref (xad X 30), .int a, .int x, .int (nI i)] [] (putS σ (pre i (fun t => s.1 t + a) s.1, s.2)) := by
    intro i hi2 ih2
    refine V_iload_n_3 (q := 3) C rfl dX4_giveWater_2 ?_
    refine V_aload_n_0 (q := 4) C rfl dX4_giveWater_3 ?_
    refine gf_X4_40 (q := 7) C rfl dX4_giveWater_4 ?_
    refine gf_X4_111 (q := 10) C rfl dX4_giveWater_7 ?_
    rw [show (putS σ (pre i (fun t => s.1 t + a) s.1, s.2)) 12 0 = nI T from hT]
    refine V_icmp_ge_f (tgt := 29) C (nI_ge hi2 (by omega)) rfl (by decide) dX4_giveWater_10 ?_
    refine V_aload_n_0 (q := 14) C rfl dX4_giveWater_13 ?_
    refine gf_X4_28 (q := 17) C rfl dX4_giveWater_14 ?_
    refine V_iload_n_3 (q := 18) C rfl dX4_giveWater_17 ?_
    refine V_dup2 (q := 19) C rfl rfl rfl dX4_giveWater_18 ?_
    refine V_iald (q := 20) C _ rfl (by show _ < 6; omega) rfl (by decide) (by decide) rfl dX4_giveWater_19 ?_
    refine V_iload_n_1 (q := 21) C rfl dX4_giveWater_20 ?_
    refine V_iadd (q := 22) C rfl dX4_giveWater_21 ?_
    refine V_iast (q := 23) C _ rfl (by show _ < 6; omega) rfl (by decide) (by decide) rfl dX4_giveWater_22 ?_
    refine V_iinc_3 (q := 26) (n := 1) C nI_inc hn3 rfl rfl dX4_giveWater_23 ?_
    refine V_goto (tgt := 2) C (by decide) dX4_giveWater_26 ?_
    refine V_eq ?_ ih2
    show setc (putS σ (pre i (fun t => s.1 t + a) s.1, s.2)) 34 (upd (pre i (fun t => s.1 t + a) s.1) i (pre i (fun t => s.1 t + a) s.1 i + a)) = _
    rw [putS_w, pre_ge (Nat.lt_irrefl i), pre_step rfl]
  exact V_eq (by rw [pre_0]) (loopN (P := fun i => V X 2 [.ref (xad X 30), .int a, .int x, .int (nI i)] [] (putS σ (pre i (fun t => s.1 t + a) s.1, s.2))) (T) hx2 hs2 0 (Nat.zero_le _))

set_option maxHeartbeats 4000000 in
set_option maxRecDepth 100000 in
theorem c_X4_sendCrows {l : Launch} {D : DD} {ad : Nat → Nat} (σ : ST) (s : S4) (T : Nat) (x : Int32) (hT : σ 12 0 = nI T) (hT6 : T ≤ 6) : Ct l yX4_sendCrows cX4_sendCrows 3 (Option.none : Option FieldType) 1 21 D ad [.ref (ad 30), .int x] (putS σ s) (ex none (putS σ (pre T (crG (σ 16) x s.1) s.1, s.2))) := by
  refine Ct.of2 [.ref (ad 30), .int x, .float 0] rfl (Nat.le_of_ble_eq_true rfl) rfl ?_
  rintro X C rfl rfl rfl hxn hR
  have hn2 : 2 < xn X := by rw [← hxn]; decide
  refine V_iconst (q := 1) (v := (nI 0)) C rfl rfl dX4_sendCrows_0 ?_
  refine V_istore_n_2 (q := 2) C hn2 rfl rfl dX4_sendCrows_1 ?_
  have hx2 : V X 2 [.ref (xad X 30), .int x, .int (nI T)] [] (putS σ (pre T (crG (σ 16) x s.1) s.1, s.2)) := by
    refine V_iload_n_2 (q := 3) C rfl dX4_sendCrows_2 ?_
    refine V_aload_n_0 (q := 4) C rfl dX4_sendCrows_3 ?_
    refine gf_X4_40 (q := 7) C rfl dX4_sendCrows_4 ?_
    refine gf_X4_111 (q := 10) C rfl dX4_sendCrows_7 ?_
    rw [show (putS σ (pre T (crG (σ 16) x s.1) s.1, s.2)) 12 0 = nI T from hT]
    refine V_icmp_ge_t (tgt := 42) C (nI_le (Nat.le_refl _) (by omega)) (by decide) dX4_sendCrows_10 ?_
    refine V_vret C hR dX4_sendCrows_42 ?_
    exact ⟨rfl, rfl⟩
  have hs2 : ∀ i : Nat, i < T → (V X 2 [.ref (xad X 30), .int x, .int (nI (i + 1))] [] (putS σ (pre (i + 1) (crG (σ 16) x s.1) s.1, s.2))) → V X 2 [.ref (xad X 30), .int x, .int (nI i)] [] (putS σ (pre i (crG (σ 16) x s.1) s.1, s.2)) := by
    intro i hi2 ih2
    refine V_iload_n_2 (q := 3) C rfl dX4_sendCrows_2 ?_
    refine V_aload_n_0 (q := 4) C rfl dX4_sendCrows_3 ?_
    refine gf_X4_40 (q := 7) C rfl dX4_sendCrows_4 ?_
    refine gf_X4_111 (q := 10) C rfl dX4_sendCrows_7 ?_
    rw [show (putS σ (pre i (crG (σ 16) x s.1) s.1, s.2)) 12 0 = nI T from hT]
    refine V_icmp_ge_f (tgt := 42) C (nI_ge hi2 (by omega)) rfl (by decide) dX4_sendCrows_10 ?_
    refine V_iload_n_1 (q := 14) C rfl dX4_sendCrows_13 ?_
    refine V_iload_n_2 (q := 15) C rfl dX4_sendCrows_14 ?_
    refine V_cN2r (q := 18) C (c_X8_isIn _ _ _) cw_X8_isIn cs_X8_isIn C.K.2.2.1 ⟨by decide, by decide⟩ (Nat.le_of_ble_eq_true rfl) rfl dX4_sendCrows_15 ?_
    refine V_ifp_eq (tgt := 36) C rfl (by decide) dX4_sendCrows_18 (fun c18 => ?_) (fun c18 => ?_)
    · refine V_iinc_2 (q := 39) (n := 1) C nI_inc hn2 rfl rfl dX4_sendCrows_36 ?_
      refine V_goto (tgt := 2) C (by decide) dX4_sendCrows_39 ?_
      first
      | (refine V_eq ?_ ih2; rw [pre_keep (i := i) (show crG (σ 16) x s.1 i = s.1 i from if_neg (fun h => c18 h.1))]; done)
      | (refine V_eq ?_ ih2; rw [pre_keep (i := i) (show crG (σ 16) x s.1 i = s.1 i from if_neg (fun h => c26 h.2))]; done)
      | (refine V_eq ?_ ih2; show setc (putS σ (pre i (crG (σ 16) x s.1) s.1, s.2)) 34 (upd (pre i (crG (σ 16) x s.1) s.1) i 0) = _; rw [putS_w, pre_step (show (0 : Int32) = crG (σ 16) x s.1 i from (if_pos ⟨c18, c26⟩).symm)]; done)
    · refine V_aload_n_0 (q := 22) C rfl dX4_sendCrows_21 ?_
      refine V_iload_n_2 (q := 23) C rfl dX4_sendCrows_22 ?_
      refine V_cV1r (q := 26) C (Ct.mono (v' := some (.int (pI (σ 16 i ≤ s.1 i)))) (c_X4_isRipe _ i (by omega)) (by show some (Value.int (pI (σ 16 i ≤ pre i (crG (σ 16) x s.1) s.1 i))) = _; rw [pre_ge (Nat.lt_irrefl i)]) rfl) cw_X4_isRipe cv_X4_isRipe wm_X4_117 (by decide) ob_X4 ⟨by decide, by decide⟩ (Nat.le_of_ble_eq_true rfl) rfl dX4_sendCrows_23 ?_
      refine V_ifp_eq (tgt := 36) C rfl (by decide) dX4_sendCrows_26 (fun c26 => ?_) (fun c26 => ?_)
      · refine V_iinc_2 (q := 39) (n := 1) C nI_inc hn2 rfl rfl dX4_sendCrows_36 ?_
        refine V_goto (tgt := 2) C (by decide) dX4_sendCrows_39 ?_
        first
        | (refine V_eq ?_ ih2; rw [pre_keep (i := i) (show crG (σ 16) x s.1 i = s.1 i from if_neg (fun h => c18 h.1))]; done)
        | (refine V_eq ?_ ih2; rw [pre_keep (i := i) (show crG (σ 16) x s.1 i = s.1 i from if_neg (fun h => c26 h.2))]; done)
        | (refine V_eq ?_ ih2; show setc (putS σ (pre i (crG (σ 16) x s.1) s.1, s.2)) 34 (upd (pre i (crG (σ 16) x s.1) s.1) i 0) = _; rw [putS_w, pre_step (show (0 : Int32) = crG (σ 16) x s.1 i from (if_pos ⟨c18, c26⟩).symm)]; done)
      · refine V_aload_n_0 (q := 30) C rfl dX4_sendCrows_29 ?_
        refine gf_X4_28 (q := 33) C rfl dX4_sendCrows_30 ?_
        refine V_iload_n_2 (q := 34) C rfl dX4_sendCrows_33 ?_
        refine V_iconst (q := 35) (v := 0) C rfl rfl dX4_sendCrows_34 ?_
        refine V_iast (q := 36) C _ rfl (by show _ < 6; omega) rfl (by decide) (by decide) rfl dX4_sendCrows_35 ?_
        refine V_iinc_2 (q := 39) (n := 1) C nI_inc hn2 rfl rfl dX4_sendCrows_36 ?_
        refine V_goto (tgt := 2) C (by decide) dX4_sendCrows_39 ?_
        first
        | (refine V_eq ?_ ih2; rw [pre_keep (i := i) (show crG (σ 16) x s.1 i = s.1 i from if_neg (fun h => c18 h.1))]; done)
        | (refine V_eq ?_ ih2; rw [pre_keep (i := i) (show crG (σ 16) x s.1 i = s.1 i from if_neg (fun h => c26 h.2))]; done)
        | (refine V_eq ?_ ih2; show setc (putS σ (pre i (crG (σ 16) x s.1) s.1, s.2)) 34 (upd (pre i (crG (σ 16) x s.1) s.1) i 0) = _; rw [putS_w, pre_step (show (0 : Int32) = crG (σ 16) x s.1 i from (if_pos ⟨c18, c26⟩).symm)]; done)
  exact V_eq (by rw [pre_0]) (loopN (P := fun i => V X 2 [.ref (xad X 30), .int x, .int (nI i)] [] (putS σ (pre i (crG (σ 16) x s.1) s.1, s.2))) (T) hx2 hs2 0 (Nat.zero_le _))

set_option maxHeartbeats 4000000 in
set_option maxRecDepth 100000 in
theorem c_X4_turnKeys {l : Launch} {D : DD} {ad : Nat → Nat} (σ : ST) (s : S4) (T : Nat) (d : Int32) (hT : σ 12 0 = nI T) (hT6 : T ≤ 6) : Ct l yX4_turnKeys cX4_turnKeys 4 (Option.none : Option FieldType) 2 43 D ad [.ref (ad 30), .int d] (putS σ s) (ex none (putS σ (tkN σ d T s))) := by
  refine Ct.of2 [.ref (ad 30), .int d, .float 0, .float 0] rfl (Nat.le_of_ble_eq_true rfl) rfl ?_
  rintro X C rfl rfl rfl hxn hR
  have hn2 : 2 < xn X := by rw [← hxn]; decide
  have hn3 : 3 < xn X := by rw [← hxn]; decide
  refine V_iconst (q := 1) (v := (nI 0)) C rfl rfl dX4_turnKeys_0 ?_
  refine V_istore_n_2 (q := 2) C hn2 rfl rfl dX4_turnKeys_1 ?_
  have hx2 : V X 2 [.ref (xad X 30), .int d, .int (nI T), .float 0] [] (putS σ (tkN σ d T s)) := by
    refine V_iload_n_2 (q := 3) C rfl dX4_turnKeys_2 ?_
    refine V_aload_n_0 (q := 4) C rfl dX4_turnKeys_3 ?_
    refine gf_X4_40 (q := 7) C rfl dX4_turnKeys_4 ?_
    refine gf_X4_111 (q := 10) C rfl dX4_turnKeys_7 ?_
    rw [show (putS σ (tkN σ d T s)) 12 0 = nI T from hT]
    refine V_icmp_ge_t (tgt := 75) C (nI_le (Nat.le_refl _) (by omega)) (by decide) dX4_turnKeys_10 ?_
    refine V_vret C hR dX4_turnKeys_75 ?_
    exact ⟨rfl, rfl⟩
  have hs2 : ∀ i : Nat, i < T → (V X 2 [.ref (xad X 30), .int d, .int (nI (i + 1)), .float 0] [] (putS σ (tkN σ d (i + 1) s))) → V X 2 [.ref (xad X 30), .int d, .int (nI i), .float 0] [] (putS σ (tkN σ d i s)) := by
    intro i hi2 ih2
    refine V_iload_n_2 (q := 3) C rfl dX4_turnKeys_2 ?_
    refine V_aload_n_0 (q := 4) C rfl dX4_turnKeys_3 ?_
    refine gf_X4_40 (q := 7) C rfl dX4_turnKeys_4 ?_
    refine gf_X4_111 (q := 10) C rfl dX4_turnKeys_7 ?_
    rw [show (putS σ (tkN σ d i s)) 12 0 = nI T from hT]
    refine V_icmp_ge_f (tgt := 75) C (nI_ge hi2 (by omega)) rfl (by decide) dX4_turnKeys_10 ?_
    refine V_aload_n_0 (q := 14) C rfl dX4_turnKeys_13 ?_
    refine gf_X4_40 (q := 17) C rfl dX4_turnKeys_14 ?_
    refine gf_X4_123 (q := 20) C rfl dX4_turnKeys_17 ?_
    refine V_iload_n_2 (q := 21) C rfl dX4_turnKeys_20 ?_
    refine V_iald (q := 22) C _ rfl (by show _ < 6; omega) rfl (by decide) (by decide) rfl dX4_turnKeys_21 ?_
    refine V_aload_n_0 (q := 23) C rfl dX4_turnKeys_22 ?_
    refine gf_X4_37 (q := 26) C rfl dX4_turnKeys_23 ?_
    refine V_iand (q := 27) C rfl dX4_turnKeys_26 ?_
    refine V_istore_n_3 (q := 28) C hn3 rfl rfl dX4_turnKeys_27 ?_
    refine V_iload_n_3 (q := 29) C rfl dX4_turnKeys_28 ?_
    show V X 29 _ (.int (σ 17 i &&& (tkN σ d i s).2.2.2) :: []) _
    refine V_if_eq (tgt := 69) C rfl (by decide) dX4_turnKeys_29 (fun c29 => ?_) (fun c29 => ?_)
    · refine V_iinc_2 (q := 72) (n := 1) C nI_inc hn2 rfl rfl dX4_turnKeys_69 ?_
      refine V_goto (tgt := 2) C (by decide) dX4_turnKeys_72 ?_
      refine V_weak4 ?_
      first
      | (refine V_eq ?_ ih2; show putS σ (tkN σ d i s) = putS σ (tkStep σ d i (tkN σ d i s)); unfold tkStep; rw [if_neg (fun h => h.1 c29)]; done)
      | (refine V_eq ?_ ih2; show putS σ (tkN σ d i s) = putS σ (tkStep σ d i (tkN σ d i s)); unfold tkStep; rw [if_neg (fun h => c37 h.2.1)]; done)
      | (refine V_eq ?_ ih2; show putS σ (tkN σ d i s) = putS σ (tkStep σ d i (tkN σ d i s)); unfold tkStep; rw [if_neg (fun h => h.2.2 c48)]; done)
      | (refine V_eq ?_ ih2; show setc (putS σ (lout (tkN σ d i s) (lo6 (σ 17 i &&& (tkN σ d i s).2.2.2)) d (nI i))) 34 (upd (tkN σ d i s).1 i 0) = putS σ (tkStep σ d i (tkN σ d i s)); unfold tkStep; rw [if_pos (show tkC σ (tkN σ d i s) i from ⟨c29, c37, c48⟩), putS_w]; done)
    · refine V_aload_n_0 (q := 33) C rfl dX4_turnKeys_32 ?_
      refine V_iload_n_2 (q := 34) C rfl dX4_turnKeys_33 ?_
      refine V_cV1r (q := 37) C (Ct.mono (v' := some (.int (pI (σ 16 i ≤ (tkN σ d i s).1 i)))) (c_X4_isRipe _ i (by omega)) rfl rfl) cw_X4_isRipe cv_X4_isRipe wm_X4_117 (by decide) ob_X4 ⟨by decide, by decide⟩ (Nat.le_of_ble_eq_true rfl) rfl dX4_turnKeys_34 ?_
      refine V_ifp_eq (tgt := 69) C rfl (by decide) dX4_turnKeys_37 (fun c37 => ?_) (fun c37 => ?_)
      · refine V_iinc_2 (q := 72) (n := 1) C nI_inc hn2 rfl rfl dX4_turnKeys_69 ?_
        refine V_goto (tgt := 2) C (by decide) dX4_turnKeys_72 ?_
        refine V_weak4 ?_
        first
        | (refine V_eq ?_ ih2; show putS σ (tkN σ d i s) = putS σ (tkStep σ d i (tkN σ d i s)); unfold tkStep; rw [if_neg (fun h => h.1 c29)]; done)
        | (refine V_eq ?_ ih2; show putS σ (tkN σ d i s) = putS σ (tkStep σ d i (tkN σ d i s)); unfold tkStep; rw [if_neg (fun h => c37 h.2.1)]; done)
        | (refine V_eq ?_ ih2; show putS σ (tkN σ d i s) = putS σ (tkStep σ d i (tkN σ d i s)); unfold tkStep; rw [if_neg (fun h => h.2.2 c48)]; done)
        | (refine V_eq ?_ ih2; show setc (putS σ (lout (tkN σ d i s) (lo6 (σ 17 i &&& (tkN σ d i s).2.2.2)) d (nI i))) 34 (upd (tkN σ d i s).1 i 0) = putS σ (tkStep σ d i (tkN σ d i s)); unfold tkStep; rw [if_pos (show tkC σ (tkN σ d i s) i from ⟨c29, c37, c48⟩), putS_w]; done)
      · refine V_aload_n_0 (q := 41) C rfl dX4_turnKeys_40 ?_
        refine gf_X4_25 (q := 44) C rfl dX4_turnKeys_41 ?_
        refine V_iload_n_2 (q := 45) C rfl dX4_turnKeys_44 ?_
        refine V_cN2r (q := 48) C (Ct.mono (v' := some (.int (pI (bit (σ 30 5) (nI i))))) (c_X8_isIn _ (σ 30 5) (nI i)) rfl rfl) cw_X8_isIn cs_X8_isIn C.K.2.2.1 ⟨by decide, by decide⟩ (Nat.le_of_ble_eq_true rfl) rfl dX4_turnKeys_45 ?_
        refine V_ifp_ne (tgt := 69) C rfl (by decide) dX4_turnKeys_48 (fun c48 => ?_) (fun c48 => ?_)
        · refine V_iinc_2 (q := 72) (n := 1) C nI_inc hn2 rfl rfl dX4_turnKeys_69 ?_
          refine V_goto (tgt := 2) C (by decide) dX4_turnKeys_72 ?_
          refine V_weak4 ?_
          first
          | (refine V_eq ?_ ih2; show putS σ (tkN σ d i s) = putS σ (tkStep σ d i (tkN σ d i s)); unfold tkStep; rw [if_neg (fun h => h.1 c29)]; done)
          | (refine V_eq ?_ ih2; show putS σ (tkN σ d i s) = putS σ (tkStep σ d i (tkN σ d i s)); unfold tkStep; rw [if_neg (fun h => c37 h.2.1)]; done)
          | (refine V_eq ?_ ih2; show putS σ (tkN σ d i s) = putS σ (tkStep σ d i (tkN σ d i s)); unfold tkStep; rw [if_neg (fun h => h.2.2 c48)]; done)
          | (refine V_eq ?_ ih2; show setc (putS σ (lout (tkN σ d i s) (lo6 (σ 17 i &&& (tkN σ d i s).2.2.2)) d (nI i))) 34 (upd (tkN σ d i s).1 i 0) = putS σ (tkStep σ d i (tkN σ d i s)); unfold tkStep; rw [if_pos (show tkC σ (tkN σ d i s) i from ⟨c29, c37, c48⟩), putS_w]; done)
        · refine V_aload_n_0 (q := 52) C rfl dX4_turnKeys_51 ?_
          refine V_aload_n_0 (q := 53) C rfl dX4_turnKeys_52 ?_
          refine V_iload_n_3 (q := 54) C rfl dX4_turnKeys_53 ?_
          refine V_cV1r (q := 57) C (c_X4_leastOf _ (σ 17 i &&& (tkN σ d i s).2.2.2)) cw_X4_leastOf cv_X4_leastOf wm_X4_126 (by decide) ob_X4 ⟨by decide, by decide⟩ (Nat.le_of_ble_eq_true rfl) rfl dX4_turnKeys_54 ?_
          refine V_iload_n_1 (q := 58) C rfl dX4_turnKeys_57 ?_
          refine V_iload_n_2 (q := 59) C rfl dX4_turnKeys_58 ?_
          refine V_cV3v (q := 62) C (c_X4_letOut σ (tkN σ d i s) (lo6 (σ 17 i &&& (tkN σ d i s).2.2.2)) d (nI i) (lo6_lt _)) cw_X4_letOut cv_X4_letOut wm_X4_130 (by decide) ob_X4 ⟨by decide, by decide⟩ (Nat.le_of_ble_eq_true rfl) rfl dX4_turnKeys_59 ?_
          refine V_aload_n_0 (q := 63) C rfl dX4_turnKeys_62 ?_
          refine gf_X4_28 (q := 66) C rfl dX4_turnKeys_63 ?_
          refine V_iload_n_2 (q := 67) C rfl dX4_turnKeys_66 ?_
          refine V_iconst (q := 68) (v := 0) C rfl rfl dX4_turnKeys_67 ?_
          refine V_iast (q := 69) C _ rfl (by show _ < 6; omega) rfl (by decide) (by decide) rfl dX4_turnKeys_68 ?_
          refine V_iinc_2 (q := 72) (n := 1) C nI_inc hn2 rfl rfl dX4_turnKeys_69 ?_
          refine V_goto (tgt := 2) C (by decide) dX4_turnKeys_72 ?_
          refine V_weak4 ?_
          first
          | (refine V_eq ?_ ih2; show putS σ (tkN σ d i s) = putS σ (tkStep σ d i (tkN σ d i s)); unfold tkStep; rw [if_neg (fun h => h.1 c29)]; done)
          | (refine V_eq ?_ ih2; show putS σ (tkN σ d i s) = putS σ (tkStep σ d i (tkN σ d i s)); unfold tkStep; rw [if_neg (fun h => c37 h.2.1)]; done)
          | (refine V_eq ?_ ih2; show putS σ (tkN σ d i s) = putS σ (tkStep σ d i (tkN σ d i s)); unfold tkStep; rw [if_neg (fun h => h.2.2 c48)]; done)
          | (refine V_eq ?_ ih2; show setc (putS σ (lout (tkN σ d i s) (lo6 (σ 17 i &&& (tkN σ d i s).2.2.2)) d (nI i))) 34 (upd (tkN σ d i s).1 i 0) = putS σ (tkStep σ d i (tkN σ d i s)); unfold tkStep; rw [if_pos (show tkC σ (tkN σ d i s) i from ⟨c29, c37, c48⟩), putS_w]; done)
  exact V_eq (rfl) (loopN (P := fun i => V X 2 [.ref (xad X 30), .int d, .int (nI i), .float 0] [] (putS σ (tkN σ d i s))) (T) hx2 hs2 0 (Nat.zero_le _))

set_option maxHeartbeats 4000000 in
set_option maxRecDepth 100000 in
theorem c_X4_endTerms {l : Launch} {D : DD} {ad : Nat → Nat} (σ : ST) (s : S4) (P : Nat) (x d : Int32) (hP : σ 12 1 = nI P) (hP6 : P ≤ 6) : Ct l yX4_endTerms cX4_endTerms 4 (Option.none : Option FieldType) 1 23 D ad [.ref (ad 30), .int x, .int d] (putS σ s) (ex none (putS σ (etN x d P s))) := by
  refine Ct.of2 [.ref (ad 30), .int x, .int d, .float 0] rfl (Nat.le_of_ble_eq_true rfl) rfl ?_
  rintro X C rfl rfl rfl hxn hR
  have hn3 : 3 < xn X := by rw [← hxn]; decide
  refine V_iconst (q := 1) (v := (nI 0)) C rfl rfl dX4_endTerms_0 ?_
  refine V_istore_n_3 (q := 2) C hn3 rfl rfl dX4_endTerms_1 ?_
  have hx2 : V X 2 [.ref (xad X 30), .int x, .int d, .int (nI P)] [] (putS σ (etN x d P s)) := by
    refine V_iload_n_3 (q := 3) C rfl dX4_endTerms_2 ?_
    refine V_aload_n_0 (q := 4) C rfl dX4_endTerms_3 ?_
    refine gf_X4_40 (q := 7) C rfl dX4_endTerms_4 ?_
    refine gf_X4_84 (q := 10) C rfl dX4_endTerms_7 ?_
    rw [show (putS σ (etN x d P s)) 12 1 = nI P from hP]
    refine V_icmp_ge_t (tgt := 35) C (nI_le (Nat.le_refl _) (by omega)) (by decide) dX4_endTerms_10 ?_
    refine V_vret C hR dX4_endTerms_35 ?_
    exact ⟨rfl, rfl⟩
  have hs2 : ∀ i : Nat, i < P → (V X 2 [.ref (xad X 30), .int x, .int d, .int (nI (i + 1))] [] (putS σ (etN x d (i + 1) s))) → V X 2 [.ref (xad X 30), .int x, .int d, .int (nI i)] [] (putS σ (etN x d i s)) := by
    intro i hi2 ih2
    refine V_iload_n_3 (q := 3) C rfl dX4_endTerms_2 ?_
    refine V_aload_n_0 (q := 4) C rfl dX4_endTerms_3 ?_
    refine gf_X4_40 (q := 7) C rfl dX4_endTerms_4 ?_
    refine gf_X4_84 (q := 10) C rfl dX4_endTerms_7 ?_
    rw [show (putS σ (etN x d i s)) 12 1 = nI P from hP]
    refine V_icmp_ge_f (tgt := 35) C (nI_ge hi2 (by omega)) rfl (by decide) dX4_endTerms_10 ?_
    refine V_iload_n_1 (q := 14) C rfl dX4_endTerms_13 ?_
    refine V_iload_n_3 (q := 15) C rfl dX4_endTerms_14 ?_
    refine V_cN2r (q := 18) C (c_X8_isIn _ _ _) cw_X8_isIn cs_X8_isIn C.K.2.2.1 ⟨by decide, by decide⟩ (Nat.le_of_ble_eq_true rfl) rfl dX4_endTerms_15 ?_
    refine V_ifp_eq (tgt := 29) C rfl (by decide) dX4_endTerms_18 (fun c18 => ?_) (fun c18 => ?_)
    · refine V_iinc_3 (q := 32) (n := 1) C nI_inc hn3 rfl rfl dX4_endTerms_29 ?_
      refine V_goto (tgt := 2) C (by decide) dX4_endTerms_32 ?_
      first
      | (refine V_eq ?_ ih2; show putS σ (etN x d i s) = putS σ (etStep x d i (etN x d i s)); unfold etStep; rw [if_neg c18]; done)
      | (refine V_eq ?_ ih2; show putS σ (lout (etN x d i s) i d (-9)) = putS σ (etStep x d i (etN x d i s)); unfold etStep; rw [if_pos c18]; done)
    · refine V_aload_n_0 (q := 22) C rfl dX4_endTerms_21 ?_
      refine V_iload_n_3 (q := 23) C rfl dX4_endTerms_22 ?_
      refine V_iload_n_2 (q := 24) C rfl dX4_endTerms_23 ?_
      refine V_bipush (q := 26) (v := (-9)) C (by decide) rfl dX4_endTerms_24 ?_
      refine V_cV3v (q := 29) C (c_X4_letOut σ (etN x d i s) i d (-9) (by omega)) cw_X4_letOut cv_X4_letOut wm_X4_130 (by decide) ob_X4 ⟨by decide, by decide⟩ (Nat.le_of_ble_eq_true rfl) rfl dX4_endTerms_26 ?_
      refine V_iinc_3 (q := 32) (n := 1) C nI_inc hn3 rfl rfl dX4_endTerms_29 ?_
      refine V_goto (tgt := 2) C (by decide) dX4_endTerms_32 ?_
      first
      | (refine V_eq ?_ ih2; show putS σ (etN x d i s) = putS σ (etStep x d i (etN x d i s)); unfold etStep; rw [if_neg c18]; done)
      | (refine V_eq ?_ ih2; show putS σ (lout (etN x d i s) i d (-9)) = putS σ (etStep x d i (etN x d i s)); unfold etStep; rw [if_pos c18]; done)
  exact V_eq (rfl) (loopN (P := fun i => V X 2 [.ref (xad X 30), .int x, .int d, .int (nI i)] [] (putS σ (etN x d i s))) (P) hx2 hs2 0 (Nat.zero_le _))

set_option maxHeartbeats 4000000 in
set_option maxRecDepth 100000 in
theorem c_X4_passDay {l : Launch} {D : DD} {ad : Nat → Nat} (σ : ST) (s : S4) (T P d : Nat) (hT : σ 12 0 = nI T) (hT6 : T ≤ 6) (hP : σ 12 1 = nI P) (hP6 : P ≤ 6) (hd : d < 30) : Ct l yX4_passDay cX4_passDay 4 (Option.none : Option FieldType) 3 66 D ad [.ref (ad 30), .int (nI d)] (putS σ s) (ex none (putS σ (dayC σ T P d s))) := by
  refine Ct.of2 [.ref (ad 30), .int (nI d), .float 0, .float 0] rfl (Nat.le_of_ble_eq_true rfl) rfl ?_
  rintro X C rfl rfl rfl hxn hR
  have hn2 : 2 < xn X := by rw [← hxn]; decide
  have hn3 : 3 < xn X := by rw [← hxn]; decide
  have k85 : V X 85 [.ref (xad X 30), .int (nI d), .int (pI (wetC σ d)), .float 0] [] (putS σ (day3 σ T d (day2 σ T d (day1 σ T d s)))) := by
    refine V_aload_n_0 (q := 86) C rfl dX4_passDay_85 ?_
    refine gf_X4_40 (q := 89) C rfl dX4_passDay_86 ?_
    refine gf_X4_105 (q := 92) C rfl dX4_passDay_89 ?_
    refine V_iload_n_1 (q := 93) C rfl dX4_passDay_92 ?_
    refine V_iald (q := 94) C _ rfl (by show _ < 30; omega) rfl (by decide) (by decide) rfl dX4_passDay_93 ?_
    refine V_aload_n_0 (q := 95) C rfl dX4_passDay_94 ?_
    refine gf_X4_37 (q := 98) C rfl dX4_passDay_95 ?_
    refine V_iand (q := 99) C rfl dX4_passDay_98 ?_
    refine V_istore_n_3 (q := 100) C hn3 rfl rfl dX4_passDay_99 ?_
    refine V_iload_n_3 (q := 101) C rfl dX4_passDay_100 ?_
    show V X 101 _ (.int (σ 20 d &&& (day3 σ T d (day2 σ T d (day1 σ T d s))).2.2.2) :: []) _
    refine V_if_eq (tgt := 110) C rfl (by decide) dX4_passDay_101 (fun c101 => ?_) (fun c101 => ?_)
    · refine V_vret C hR dX4_passDay_110 ?_
      refine ⟨rfl, ?_⟩
      unfold dayC day4
      rw [if_neg (fun h => h c101)]
    · refine V_aload_n_0 (q := 105) C rfl dX4_passDay_104 ?_
      refine V_iload_n_3 (q := 106) C rfl dX4_passDay_105 ?_
      refine V_iload_n_1 (q := 107) C rfl dX4_passDay_106 ?_
      refine V_cV2v (q := 110) C (c_X4_endTerms σ (day3 σ T d (day2 σ T d (day1 σ T d s))) P (σ 20 d &&& (day3 σ T d (day2 σ T d (day1 σ T d s))).2.2.2) (nI d) hP hP6) cw_X4_endTerms cv_X4_endTerms wm_X4_108 (by decide) ob_X4 ⟨by decide, by decide⟩ (Nat.le_of_ble_eq_true rfl) rfl dX4_passDay_107 ?_
      refine V_vret C hR dX4_passDay_110 ?_
      refine ⟨rfl, ?_⟩
      unfold dayC day4
      rw [if_pos c101]
  have k76 : V X 76 [.ref (xad X 30), .int (nI d), .int (pI (wetC σ d)), .float 0] [] (putS σ (day2 σ T d (day1 σ T d s))) := by
    refine V_iload_n_2 (q := 77) C rfl dX4_passDay_76 ?_
    refine V_ifp_eq (tgt := 85) C rfl (by decide) dX4_passDay_77 (fun c77 => ?_) (fun c77 => ?_)
    · refine V_eq ?_ k85
      unfold day3
      first | rw [if_pos c77] | rw [if_neg c77]
    · refine V_aload_n_0 (q := 81) C rfl dX4_passDay_80 ?_
      refine V_iload_n_1 (q := 82) C rfl dX4_passDay_81 ?_
      refine V_cV1v (q := 85) C (c_X4_turnKeys σ (day2 σ T d (day1 σ T d s)) T (nI d) hT hT6) cw_X4_turnKeys cv_X4_turnKeys wm_X4_102 (by decide) ob_X4 ⟨by decide, by decide⟩ (Nat.le_of_ble_eq_true rfl) rfl dX4_passDay_82 ?_
      refine V_eq ?_ k85
      unfold day3
      first | rw [if_pos c77] | rw [if_neg c77]
  have k57 : V X 57 [.ref (xad X 30), .int (nI d), .int (pI (wetC σ d)), .float 0] [] (putS σ (day1 σ T d s)) := by
    refine V_aload_n_0 (q := 58) C rfl dX4_passDay_57 ?_
    refine gf_X4_18 (q := 61) C rfl dX4_passDay_58 ?_
    refine V_iload_n_1 (q := 62) C rfl dX4_passDay_61 ?_
    refine V_iald (q := 63) C _ rfl (by show _ < 30; omega) rfl (by decide) (by decide) rfl dX4_passDay_62 ?_
    show V X 63 _ (.int (σ 33 d) :: []) _
    refine V_if_eq (tgt := 76) C rfl (by decide) dX4_passDay_63 (fun c63 => ?_) (fun c63 => ?_)
    · refine V_eq ?_ k76
      unfold day2
      rw [if_neg (fun h => h c63)]
    · refine V_aload_n_0 (q := 67) C rfl dX4_passDay_66 ?_
      refine V_aload_n_0 (q := 68) C rfl dX4_passDay_67 ?_
      refine gf_X4_18 (q := 71) C rfl dX4_passDay_68 ?_
      refine V_iload_n_1 (q := 72) C rfl dX4_passDay_71 ?_
      refine V_iald (q := 73) C _ rfl (by show _ < 30; omega) rfl (by decide) (by decide) rfl dX4_passDay_72 ?_
      refine V_cV1v (q := 76) C (c_X4_sendCrows σ (day1 σ T d s) T (σ 33 d) hT hT6) cw_X4_sendCrows cv_X4_sendCrows wm_X4_99 (by decide) ob_X4 ⟨by decide, by decide⟩ (Nat.le_of_ble_eq_true rfl) rfl dX4_passDay_73 ?_
      refine V_eq ?_ k76
      unfold day2
      rw [if_pos c63]
  have k36 : V X 36 [.ref (xad X 30), .int (nI d), .float 0, .float 0] [.int (pI (wetC σ d))] (putS σ s) := by
    refine V_istore_n_2 (q := 37) C hn2 rfl rfl dX4_passDay_36 ?_
    refine V_iload_n_2 (q := 38) C rfl dX4_passDay_37 ?_
    refine V_ifp_eq (tgt := 57) C rfl (by decide) dX4_passDay_38 (fun c38 => ?_) (fun c38 => ?_)
    · refine V_eq ?_ k57
      unfold day1
      first | rw [if_pos c38] | rw [if_neg c38]
    · refine V_aload_n_0 (q := 42) C rfl dX4_passDay_41 ?_
      refine V_aload_n_0 (q := 43) C rfl dX4_passDay_42 ?_
      refine gf_X4_9 (q := 46) C rfl dX4_passDay_43 ?_
      refine V_iload_n_1 (q := 47) C rfl dX4_passDay_46 ?_
      refine V_iald (q := 48) C _ rfl (by show _ < 30; omega) rfl (by decide) (by decide) rfl dX4_passDay_47 ?_
      refine V_aload_n_0 (q := 49) C rfl dX4_passDay_48 ?_
      refine gf_X4_15 (q := 52) C rfl dX4_passDay_49 ?_
      refine V_iload_n_1 (q := 53) C rfl dX4_passDay_52 ?_
      refine V_iald (q := 54) C _ rfl (by show _ < 30; omega) rfl (by decide) (by decide) rfl dX4_passDay_53 ?_
      refine V_cV2v (q := 57) C (c_X4_giveWater σ s T (σ 31 d) (σ 32 d) hT hT6) cw_X4_giveWater cv_X4_giveWater wm_X4_95 (by decide) ob_X4 ⟨by decide, by decide⟩ (Nat.le_of_ble_eq_true rfl) rfl dX4_passDay_54 ?_
      refine V_eq ?_ k57
      unfold day1
      first | rw [if_pos c38] | rw [if_neg c38]
  refine V_aload_n_0 (q := 1) C rfl dX4_passDay_0 ?_
  refine gf_X4_21 (q := 4) C rfl dX4_passDay_1 ?_
  refine V_iload_n_1 (q := 5) C rfl dX4_passDay_4 ?_
  refine V_cN2r (q := 8) C (c_X8_isIn _ (σ 30 4) (nI d)) cw_X8_isIn cs_X8_isIn C.K.2.2.1 ⟨by decide, by decide⟩ (Nat.le_of_ble_eq_true rfl) rfl dX4_passDay_5 ?_
  refine V_ifp_ne (tgt := 35) C rfl (by decide) dX4_passDay_8 (fun c8 => ?_) (fun c8 => ?_)
  · refine V_iconst (q := 36) (v := 0) C rfl rfl dX4_passDay_35 ?_
    rw [show (0 : Int32) = pI (wetC σ d) from (pI_f (fun h => h.1 c8)).symm]
    exact k36
  · refine V_aload_n_0 (q := 12) C rfl dX4_passDay_11 ?_
    refine gf_X4_9 (q := 15) C rfl dX4_passDay_12 ?_
    refine V_iload_n_1 (q := 16) C rfl dX4_passDay_15 ?_
    refine V_iald (q := 17) C _ rfl (by show _ < 30; omega) rfl (by decide) (by decide) rfl dX4_passDay_16 ?_
    refine V_if_gt (tgt := 31) C rfl (by decide) dX4_passDay_17 (fun c17 => ?_) (fun c17 => ?_)
    · refine V_iconst (q := 32) (v := 1) C rfl rfl dX4_passDay_31 ?_
      refine V_goto (tgt := 36) C (by decide) dX4_passDay_32 ?_
      rw [show (1 : Int32) = pI (wetC σ d) from (pI_t ⟨c8, Or.inl c17⟩).symm]
      exact k36
    · refine V_aload_n_0 (q := 21) C rfl dX4_passDay_20 ?_
      refine gf_X4_15 (q := 24) C rfl dX4_passDay_21 ?_
      refine V_iload_n_1 (q := 25) C rfl dX4_passDay_24 ?_
      refine V_iald (q := 26) C _ rfl (by show _ < 30; omega) rfl (by decide) (by decide) rfl dX4_passDay_25 ?_
      refine V_bipush (q := 28) (v := (-9)) C (by decide) rfl dX4_passDay_26 ?_
      refine V_icmp_eq (tgt := 35) C rfl (by decide) dX4_passDay_28 (fun c28 => ?_) (fun c28 => ?_)
      · refine V_iconst (q := 36) (v := 0) C rfl rfl dX4_passDay_35 ?_
        rw [show (0 : Int32) = pI (wetC σ d) from (pI_f (fun h => h.2.elim c17 (fun h => h c28))).symm]
        exact k36
      · refine V_iconst (q := 32) (v := 1) C rfl rfl dX4_passDay_31 ?_
        refine V_goto (tgt := 36) C (by decide) dX4_passDay_32 ?_
        rw [show (1 : Int32) = pI (wetC σ d) from (pI_t ⟨c8, Or.inr c28⟩).symm]
        exact k36

def isLd (ld : Int32) (N : Nat) : Prop := N ≤ 30 ∧ ∀ i : Nat, i ≤ 30 → (nI i ≤ ld ↔ i < N)

set_option maxHeartbeats 4000000 in
set_option maxRecDepth 100000 in
theorem c_X4_pass {l : Launch} {D : DD} {ad : Nat → Nat} (σ : ST) (T P N : Nat) (ld : Int32) (hT : σ 12 0 = nI T) (hT6 : T ≤ 6) (hP : σ 12 1 = nI P) (hP6 : P ≤ 6) (hN : isLd ld N) : Ct l yX4_pass cX4_pass 3 (Option.none : Option FieldType) 4 89 D ad [.ref (ad 30), .int ld] σ (ex none (putS σ (daysC σ T P N (s0C σ)))) := by
  refine Ct.of2 [.ref (ad 30), .int ld, .float 0] rfl (Nat.le_of_ble_eq_true rfl) rfl ?_
  rintro X C rfl rfl rfl hxn hR
  have hn2 : 2 < xn X := by rw [← hxn]; decide
  refine V_aload_n_0 (q := 1) C rfl dX4_pass_0 ?_
  refine V_cV0v (q := 4) C (c_X4_begin σ) cw_X4_begin cv_X4_begin wm_X4_77 (by decide) ob_X4 ⟨by decide, by decide⟩ (Nat.le_of_ble_eq_true rfl) rfl dX4_pass_1 ?_
  refine V_iconst (q := 5) (v := (nI 0)) C rfl rfl dX4_pass_4 ?_
  refine V_istore_n_2 (q := 6) C hn2 rfl rfl dX4_pass_5 ?_
  have hx6 : V X 6 [.ref (xad X 30), .int ld, .int (nI N)] [] (putS σ (daysC σ T P N (s0C σ))) := by
    refine V_iload_n_2 (q := 7) C rfl dX4_pass_6 ?_
    refine V_iload_n_1 (q := 8) C rfl dX4_pass_7 ?_
    refine V_icmp_gt_t (tgt := 28) C (Int32.not_le.mp (fun h => Nat.lt_irrefl _ ((hN.2 N hN.1).mp h))) (by decide) dX4_pass_8 ?_
    refine V_vret C hR dX4_pass_28 ?_
    exact ⟨rfl, rfl⟩
  have hs6 : ∀ d : Nat, d < N → (V X 6 [.ref (xad X 30), .int ld, .int (nI (d + 1))] [] (putS σ (daysC σ T P (d + 1) (s0C σ)))) → V X 6 [.ref (xad X 30), .int ld, .int (nI d)] [] (putS σ (daysC σ T P d (s0C σ))) := by
    intro d hi6 ih6
    refine V_iload_n_2 (q := 7) C rfl dX4_pass_6 ?_
    refine V_iload_n_1 (q := 8) C rfl dX4_pass_7 ?_
    refine V_icmp_gt_f (tgt := 28) C (Int32.not_lt.mpr ((hN.2 d (by have := hN.1; omega)).mpr hi6)) rfl (by decide) dX4_pass_8 ?_
    refine V_iload_n_2 (q := 12) C rfl dX4_pass_11 ?_
    refine V_bipush (q := 14) (v := 30) C (by decide) rfl dX4_pass_12 ?_
    refine V_icmp_ge_f (tgt := 28) C (nI_ge (b := 30) (by have := hN.1; omega) (by decide)) rfl (by decide) dX4_pass_14 ?_
    refine V_aload_n_0 (q := 18) C rfl dX4_pass_17 ?_
    refine V_iload_n_2 (q := 19) C rfl dX4_pass_18 ?_
    refine V_cV1v (q := 22) C (c_X4_passDay σ (daysC σ T P d (s0C σ)) T P d hT hT6 hP hP6 (by have := hN.1; omega)) cw_X4_passDay cv_X4_passDay wm_X4_80 (by decide) ob_X4 ⟨by decide, by decide⟩ (Nat.le_of_ble_eq_true rfl) rfl dX4_pass_19 ?_
    refine V_iinc_2 (q := 25) (n := 1) C nI_inc hn2 rfl rfl dX4_pass_22 ?_
    refine V_goto (tgt := 6) C (by decide) dX4_pass_25 ?_
    exact V_eq rfl ih6
  exact V_eq (rfl) (loopN (P := fun d => V X 6 [.ref (xad X 30), .int ld, .int (nI d)] [] (putS σ (daysC σ T P d (s0C σ)))) (N) hx6 hs6 0 (Nat.zero_le _))

theorem runU_stop {σ : ST} {T P : Nat} {set : Int32} {s : S4} {i : Nat} (h : (runU σ T P set i s).2.2.2 &&& set = 0) : ∀ k : Nat, runU σ T P set (i + k) s = runU σ T P set i s := by
  intro k
  induction k with
  | zero => rfl
  | succ k ih =>
    show (if (runU σ T P set (i + k) s).2.2.2 &&& set = 0 then runU σ T P set (i + k) s else _) = _
    rw [ih, if_pos h]



set_option maxHeartbeats 4000000 in
set_option maxRecDepth 100000 in
theorem c_X4_sumOfOutDays {l : Launch} {D : DD} {ad : Nat → Nat} (σ : ST) (P : Nat) (hP : σ 12 1 = nI P) (hP6 : P ≤ 6) : Ct l yX4_sumOfOutDays cX4_sumOfOutDays 3 (Option.some FieldType.int) 0 0 D ad [.ref (ad 30)] σ (ex (some (.int (sumO (σ 35) P))) σ) := by
  refine Ct.of2 [.ref (ad 30), .float 0, .float 0] rfl (Nat.le_of_ble_eq_true rfl) rfl ?_
  rintro X C rfl rfl rfl hxn hR
  have hn1 : 1 < xn X := by rw [← hxn]; decide
  have hn2 : 2 < xn X := by rw [← hxn]; decide
  refine V_iconst (q := 1) (v := 0) C rfl rfl dX4_sumOfOutDays_0 ?_
  refine V_istore_n_1 (q := 2) C hn1 rfl rfl dX4_sumOfOutDays_1 ?_
  refine V_iconst (q := 3) (v := (nI 0)) C rfl rfl dX4_sumOfOutDays_2 ?_
  refine V_istore_n_2 (q := 4) C hn2 rfl rfl dX4_sumOfOutDays_3 ?_
  have hx4 : V X 4 [.ref (xad X 30), .int (sumO (σ 35) P), .int (nI P)] [] (σ) := by
    refine V_iload_n_2 (q := 5) C rfl dX4_sumOfOutDays_4 ?_
    refine V_aload_n_0 (q := 6) C rfl dX4_sumOfOutDays_5 ?_
    refine gf_X4_40 (q := 9) C rfl dX4_sumOfOutDays_6 ?_
    refine gf_X4_84 (q := 12) C rfl dX4_sumOfOutDays_9 ?_
    rw [show (σ) 12 1 = nI P from hP]
    refine V_icmp_ge_t (tgt := 30) C (nI_le (Nat.le_refl _) (by omega)) (by decide) dX4_sumOfOutDays_12 ?_
    refine V_iload_n_1 (q := 31) C rfl dX4_sumOfOutDays_30 ?_
    refine V_iret C hR dX4_sumOfOutDays_31 ?_
    exact ⟨rfl, rfl⟩
  have hs4 : ∀ p : Nat, p < P → (V X 4 [.ref (xad X 30), .int (sumO (σ 35) (p + 1)), .int (nI (p + 1))] [] (σ)) → V X 4 [.ref (xad X 30), .int (sumO (σ 35) p), .int (nI p)] [] (σ) := by
    intro p hi4 ih4
    refine V_iload_n_2 (q := 5) C rfl dX4_sumOfOutDays_4 ?_
    refine V_aload_n_0 (q := 6) C rfl dX4_sumOfOutDays_5 ?_
    refine gf_X4_40 (q := 9) C rfl dX4_sumOfOutDays_6 ?_
    refine gf_X4_84 (q := 12) C rfl dX4_sumOfOutDays_9 ?_
    rw [show (σ) 12 1 = nI P from hP]
    refine V_icmp_ge_f (tgt := 30) C (nI_ge hi4 (by omega)) rfl (by decide) dX4_sumOfOutDays_12 ?_
    refine V_iload_n_1 (q := 16) C rfl dX4_sumOfOutDays_15 ?_
    refine V_aload_n_0 (q := 17) C rfl dX4_sumOfOutDays_16 ?_
    refine gf_X4_31 (q := 20) C rfl dX4_sumOfOutDays_17 ?_
    refine V_iload_n_2 (q := 21) C rfl dX4_sumOfOutDays_20 ?_
    refine V_iald (q := 22) C _ rfl (by show _ < 6; omega) rfl (by decide) (by decide) rfl dX4_sumOfOutDays_21 ?_
    refine V_iadd (q := 23) C rfl dX4_sumOfOutDays_22 ?_
    refine V_istore_n_1 (q := 24) C hn1 rfl rfl dX4_sumOfOutDays_23 ?_
    refine V_iinc_2 (q := 27) (n := 1) C nI_inc hn2 rfl rfl dX4_sumOfOutDays_24 ?_
    refine V_goto (tgt := 4) C (by decide) dX4_sumOfOutDays_27 ?_
    exact V_eq rfl ih4
  exact V_eq (rfl) (loopN (P := fun p => V X 4 [.ref (xad X 30), .int (sumO (σ 35) p), .int (nI p)] [] (σ)) (P) hx4 hs4 0 (Nat.zero_le _))

def rnG (x : Int32) (d : Nat) : Int32 := if bit x (nI d) then 3 else 0


set_option maxHeartbeats 4000000 in
set_option maxRecDepth 100000 in
theorem c_X4_prepare {l : Launch} {D : DD} {ad : Nat → Nat} (σ : ST) (C2 : Nat) (hC : σ 21 5 = nI C2) (hC6 : C2 ≤ 6) (hcd : ∀ c, c < C2 → ∃ d : Nat, d < 30 ∧ σ 24 c = nI d) : Ct l yX4_prepare cX4_prepare 3 (Option.none : Option FieldType) 1 48 D ad [.ref (ad 30), .ref (ad 21)] σ (ex none (prepF σ C2)) := by
  refine Ct.of2 [.ref (ad 30), .ref (ad 21), .float 0] rfl (Nat.le_of_ble_eq_true rfl) rfl ?_
  rintro X C rfl rfl rfl hxn hR
  have hn2 : 2 < xn X := by rw [← hxn]; decide
  refine V_aload_n_1 (q := 1) C rfl dX4_prepare_0 ?_
  refine gf_X4_44 (q := 4) C rfl dX4_prepare_1 ?_
  refine V_iconst (q := 5) (v := (nI 0)) C rfl rfl dX4_prepare_4 ?_
  refine V_aload_n_0 (q := 6) C rfl dX4_prepare_5 ?_
  refine gf_X4_9 (q := 9) C rfl dX4_prepare_6 ?_
  refine V_iconst (q := 10) (v := (nI 0)) C rfl rfl dX4_prepare_9 ?_
  refine V_bipush (q := 12) (v := (nI 30)) C (by decide) rfl dX4_prepare_10 ?_
  refine V_copy (q := 15) C 0 0 30 rfl rfl rfl (by decide) (by decide) rfl rfl (by decide) (by decide) (by decide) (by decide) wm_X4_47 wn_copy wn_copyS wn_copyI (by decide) (by decide) rfl dX4_prepare_12 ?_
  refine V_arr_congr (g := σ 22) (Or.inl rfl) (fun i hi => by show (if 0 ≤ i ∧ i < 0 + 30 then σ 22 (0 + (i - 0)) else σ 31 i) = σ 22 i; rw [if_pos ⟨Nat.zero_le _, hi⟩]; congr 1; omega) ?_
  refine V_aload_n_1 (q := 16) C rfl dX4_prepare_15 ?_
  refine gf_X4_53 (q := 19) C rfl dX4_prepare_16 ?_
  refine V_iconst (q := 20) (v := (nI 0)) C rfl rfl dX4_prepare_19 ?_
  refine V_aload_n_0 (q := 21) C rfl dX4_prepare_20 ?_
  refine gf_X4_15 (q := 24) C rfl dX4_prepare_21 ?_
  refine V_iconst (q := 25) (v := (nI 0)) C rfl rfl dX4_prepare_24 ?_
  refine V_bipush (q := 27) (v := (nI 30)) C (by decide) rfl dX4_prepare_25 ?_
  refine V_copy (q := 30) C 0 0 30 rfl rfl rfl (by decide) (by decide) rfl rfl (by decide) (by decide) (by decide) (by decide) wm_X4_47 wn_copy wn_copyS wn_copyI (by decide) (by decide) rfl dX4_prepare_27 ?_
  refine V_arr_congr (g := σ 23) (Or.inl rfl) (fun i hi => by show (if 0 ≤ i ∧ i < 0 + 30 then σ 23 (0 + (i - 0)) else σ 32 i) = σ 23 i; rw [if_pos ⟨Nat.zero_le _, hi⟩]; congr 1; omega) ?_
  refine V_aload_n_0 (q := 31) C rfl dX4_prepare_30 ?_
  refine gf_X4_18 (q := 34) C rfl dX4_prepare_31 ?_
  refine V_iconst (q := 35) (v := 0) C rfl rfl dX4_prepare_34 ?_
  refine V_cS2v (q := 38) C (c_J7_fill_53178 _ 33 0 rfl (by decide) (by decide)) cw_J7_fill_53178 cs_J7_fill_53178 wm_X4_54 ⟨by decide, by decide⟩ (Nat.le_of_ble_eq_true rfl) rfl dX4_prepare_35 ?_
  refine V_iconst (q := 39) (v := (nI 0)) C rfl rfl dX4_prepare_38 ?_
  refine V_istore_n_2 (q := 40) C hn2 rfl rfl dX4_prepare_39 ?_
  have hx40 : V X 40 [.ref (xad X 30), .ref (xad X 21), .int (nI C2)] [] (setc (setc (setc σ 31 (σ 22)) 32 (σ 23)) 33 (crsF (σ 24) (σ 25) C2)) := by
    refine V_iload_n_2 (q := 41) C rfl dX4_prepare_40 ?_
    refine V_aload_n_1 (q := 42) C rfl dX4_prepare_41 ?_
    refine gf_X4_60 (q := 45) C rfl dX4_prepare_42 ?_
    rw [show (setc (setc (setc σ 31 (σ 22)) 32 (σ 23)) 33 (crsF (σ 24) (σ 25) C2)) 21 5 = nI C2 from hC]
    refine V_icmp_ge_t (tgt := 76) C (nI_le (Nat.le_refl _) (by omega)) (by decide) dX4_prepare_45 ?_
    refine V_aload_n_0 (q := 77) C rfl dX4_prepare_76 ?_
    refine V_aload_n_1 (q := 78) C rfl dX4_prepare_77 ?_
    refine gf_X4_69 (q := 81) C rfl dX4_prepare_78 ?_
    refine pf_X4_21 (q := 84) C rfl dX4_prepare_81 ?_
    refine V_aload_n_0 (q := 85) C rfl dX4_prepare_84 ?_
    refine V_aload_n_0 (q := 86) C rfl dX4_prepare_85 ?_
    refine gf_X4_40 (q := 89) C rfl dX4_prepare_86 ?_
    refine gf_X4_70 (q := 92) C rfl dX4_prepare_89 ?_
    refine pf_X4_25 (q := 95) C rfl dX4_prepare_92 ?_
    refine V_vret C hR dX4_prepare_95 ?_
    exact ⟨rfl, rfl⟩
  have hs40 : ∀ c : Nat, c < C2 → (V X 40 [.ref (xad X 30), .ref (xad X 21), .int (nI (c + 1))] [] (setc (setc (setc σ 31 (σ 22)) 32 (σ 23)) 33 (crsF (σ 24) (σ 25) (c + 1)))) → V X 40 [.ref (xad X 30), .ref (xad X 21), .int (nI c)] [] (setc (setc (setc σ 31 (σ 22)) 32 (σ 23)) 33 (crsF (σ 24) (σ 25) c)) := by
    intro c hi40 ih40
    obtain ⟨d, hd30, ed⟩ := hcd c hi40
    refine V_iload_n_2 (q := 41) C rfl dX4_prepare_40 ?_
    refine V_aload_n_1 (q := 42) C rfl dX4_prepare_41 ?_
    refine gf_X4_60 (q := 45) C rfl dX4_prepare_42 ?_
    rw [show (setc (setc (setc σ 31 (σ 22)) 32 (σ 23)) 33 (crsF (σ 24) (σ 25) c)) 21 5 = nI C2 from hC]
    refine V_icmp_ge_f (tgt := 76) C (nI_ge hi40 (by omega)) rfl (by decide) dX4_prepare_45 ?_
    refine V_aload_n_0 (q := 49) C rfl dX4_prepare_48 ?_
    refine gf_X4_18 (q := 52) C rfl dX4_prepare_49 ?_
    refine V_aload_n_1 (q := 53) C rfl dX4_prepare_52 ?_
    refine gf_X4_63 (q := 56) C rfl dX4_prepare_53 ?_
    refine V_iload_n_2 (q := 57) C rfl dX4_prepare_56 ?_
    refine V_iald (q := 58) C _ rfl (by show _ < 6; omega) rfl (by decide) (by decide) rfl dX4_prepare_57 ?_
    refine V_dup2 (q := 59) C rfl rfl rfl dX4_prepare_58 ?_
    refine V_iald (q := 60) C d ed (by show _ < 30; omega) rfl (by decide) (by decide) rfl dX4_prepare_59 ?_
    refine V_iconst (q := 61) (v := 1) C rfl rfl dX4_prepare_60 ?_
    refine V_aload_n_1 (q := 62) C rfl dX4_prepare_61 ?_
    refine gf_X4_66 (q := 65) C rfl dX4_prepare_62 ?_
    refine V_iload_n_2 (q := 66) C rfl dX4_prepare_65 ?_
    refine V_iald (q := 67) C _ rfl (by show _ < 6; omega) rfl (by decide) (by decide) rfl dX4_prepare_66 ?_
    refine V_ishl (q := 68) C rfl dX4_prepare_67 ?_
    refine V_ior (q := 69) C rfl dX4_prepare_68 ?_
    refine V_iast (q := 70) C d ed (by show _ < 30; omega) rfl (by decide) (by decide) rfl dX4_prepare_69 ?_
    refine V_iinc_2 (q := 73) (n := 1) C nI_inc hn2 rfl rfl dX4_prepare_70 ?_
    refine V_goto (tgt := 40) C (by decide) dX4_prepare_73 ?_
    refine V_eq ?_ ih40
    show setc (setc (setc (setc σ 31 (σ 22)) 32 (σ 23)) 33 (crsF (σ 24) (σ 25) c)) 33 (upd (crsF (σ 24) (σ 25) c) d (crsF (σ 24) (σ 25) c d ||| own1 (σ 25 c))) = setc (setc (setc σ 31 (σ 22)) 32 (σ 23)) 33 (upd (crsF (σ 24) (σ 25) c) (σ 24 c).toNatClampNeg (crsF (σ 24) (σ 25) c (σ 24 c).toNatClampNeg ||| own1 (σ 25 c)))
    rw [setc_setc, ed, nI_clamp (by omega)]
  exact V_eq (rfl) (loopN (P := fun c => V X 40 [.ref (xad X 30), .ref (xad X 21), .int (nI c)] [] (setc (setc (setc σ 31 (σ 22)) 32 (σ 23)) 33 (crsF (σ 24) (σ 25) c))) (C2) hx40 hs40 0 (Nat.zero_le _))

