/-! THE LAW: the orchard that it lays -/
theorem V_gen {X : CT} {pc : Nat} {lv st : List Value} {σ : ST} {Q : ST → Prop} (h : Q σ) (k : ∀ τ, Q τ → V X pc lv st τ) : V X pc lv st σ := k σ h
theorem to8 (n : Nat) (h : n < 128) : (nI n).toInt8.toInt32 = nI n := by
  have hh : ∀ m : Fin 128, (nI m.val).toInt8.toInt32 = nI m.val := by decide
  exact hh ⟨n, h⟩
def Sh50 (σ : ST) : Prop := σ 2 1 = 1 ∧ σ 2 2 = 0 ∧ σ 2 3 = nI 50
theorem c_put0 {l : Launch} {D : DD} {ad : Nat → Nat} (σ : ST) (a n : Nat) (hs : Sh50 σ) (ha : a < 50) (hn : n < 128) : Ct l yX8_put cX8_put 5 (Option.some FieldType.int) 1 22 D ad [.ref (ad 0), .int (nI 0), .int (nI a), .int (nI n)] σ (ex (some (.int 1)) (setf (setf σ 0 8 0) 3 a (nI n))) := by
  obtain ⟨h1, h2, h3⟩ := hs
  have e : puF σ 0 (nI a) (nI n) = (1, setf (setf σ 0 8 0) 3 a (nI n)) := by
    unfold puF
    rw [if_neg (show ¬ σ (2 + 2 * 0) 1 = 0 from fun h => absurd (h1.symm.trans h) (by decide)), if_neg (nn (show hcC σ 0 (nI a) 1 from by
      unfold hcC
      rw [show σ (2 + 2 * 0) 3 = nI 50 from h3]
      exact (hcN (L := 50) (by decide)).mpr ⟨a, 1, rfl, rfl, by omega⟩)), nI_clamp (by omega)]
    refine congrArg (fun z => ((1 : Int32), setf (setf σ 0 8 0) 3 a z)) ?_
    rw [show σ (2 + 2 * 0) 2 = 0 from h2]
    exact to8 n hn
  have k := c_X8_put_v (l := l) (D := D) (ad := ad) σ 0 (nI a) (nI n) (by decide) 50 h3 (by decide)
  rw [e] at k
  exact k
theorem Sh50.put {σ : ST} {a : Nat} {x : Int32} (h : Sh50 σ) : Sh50 (setf (setf σ 0 8 0) 3 a x) := h
def ltr (k : Int32) : Int32 := if k = 0 then nI 116 else if k = 1 then nI 103 else nI 111
def PH (τ : ST) (T P : Nat) : Prop := (0 < T ∧ T ≤ 6 ∧ 0 < P ∧ P ≤ 6) ∧ (τ 40 0 = nI T ∧ τ 40 1 = nI P ∧ τ 40 2 = 0 ∧ τ 40 21 = 0) ∧ Sh50 τ ∧ (∀ d, d < 30 → τ 41 d = 0 ∧ τ 42 d = -9 ∧ τ 43 d = 0) ∧ τ 3 0 = nI 107
def PT (τ : ST) (t : Nat) : Prop := ∀ i, i < t → ((τ 40 (3 + i) = 0 ∨ τ 40 (3 + i) = 1 ∨ τ 40 (3 + i) = 2) ∧ τ 3 (1 + 3 * i) = ltr (τ 40 (3 + i))) ∧ (∃ l : Nat, l < 6 ∧ τ 40 (9 + i) = nI l ∧ τ 3 (1 + 3 * i + 1) = nI (48 + l)) ∧ ∃ n : Nat, 1 ≤ n ∧ n ≤ 9 ∧ τ 40 (15 + i) = nI n ∧ τ 3 (1 + 3 * i + 1 + 1) = nI (48 + n)
def PP (τ : ST) (T p : Nat) : Prop := ∀ i, i < p → τ 3 (1 + 3 * T + 4 * i) = nI 59 ∧ (∃ l : Nat, l < 6 ∧ τ 40 (22 + i) = nI l ∧ τ 3 (1 + 3 * T + 4 * i + 1) = nI (48 + l)) ∧ ∃ d : Nat, d < 30 ∧ τ 40 (28 + i) = nI d ∧ τ 3 (1 + 3 * T + 4 * i + 1 + 1) = nI (48 + d / 10) ∧ τ 3 (1 + 3 * T + 4 * i + 1 + 1 + 1) = nI (48 + d % 10)
theorem PH.cg {σ τ : ST} {T P : Nat} (h : PH σ T P) (h2 : τ 2 = σ 2) (hr : τ 41 = σ 41 ∧ τ 42 = σ 42 ∧ τ 43 = σ 43) (h0 : τ 3 0 = σ 3 0) (hg : τ 40 0 = σ 40 0 ∧ τ 40 1 = σ 40 1 ∧ τ 40 2 = σ 40 2 ∧ τ 40 21 = σ 40 21) : PH τ T P := by
  unfold PH Sh50
  rw [h2, hr.1, hr.2.1, hr.2.2, h0, hg.1, hg.2.1, hg.2.2.1, hg.2.2.2]
  exact h
theorem PT.cg {σ τ : ST} {t : Nat} (h : PT σ t) (h3 : ∀ i, i < 1 + 3 * t → τ 3 i = σ 3 i) (hg : ∀ i, i < t → τ 40 (3 + i) = σ 40 (3 + i) ∧ τ 40 (9 + i) = σ 40 (9 + i) ∧ τ 40 (15 + i) = σ 40 (15 + i)) : PT τ t := by
  intro i hi
  rw [h3 (1 + 3 * i) (by omega), h3 (1 + 3 * i + 1) (by omega), h3 (1 + 3 * i + 1 + 1) (by omega), (hg i hi).1, (hg i hi).2.1, (hg i hi).2.2]
  exact h i hi
theorem PP.cg {σ τ : ST} {T p : Nat} (h : PP σ T p) (h3 : ∀ i, i < 1 + 3 * T + 4 * p → τ 3 i = σ 3 i) (hg : ∀ i, i < p → τ 40 (22 + i) = σ 40 (22 + i) ∧ τ 40 (28 + i) = σ 40 (28 + i)) : PP τ T p := by
  intro i hi
  rw [h3 (1 + 3 * T + 4 * i) (by omega), h3 (1 + 3 * T + 4 * i + 1) (by omega), h3 (1 + 3 * T + 4 * i + 1 + 1) (by omega), h3 (1 + 3 * T + 4 * i + 1 + 1 + 1) (by omega), (hg i hi).1, (hg i hi).2]
  exact h i hi
theorem PT.step {σ τ : ST} {t c l n : Nat} {k : Int32} (ht : t < 6) (h : PT σ t) (hk : k = 0 ∨ k = 1 ∨ k = 2) (ek : σ 40 (3 + t) = k) (hc : nI c = ltr k) (hl : l < 6) (el : σ 40 (9 + t) = nI l) (h1 : 1 ≤ n) (h9 : n ≤ 9) (en : σ 40 (15 + t) = nI n) (e40 : τ 40 = σ 40) (e3 : τ 3 = upd (upd (upd (σ 3) (1 + 3 * t) (nI c)) (1 + 3 * t + 1) (nI (48 + l))) (1 + 3 * t + 1 + 1) (nI (48 + n))) : PT τ (t + 1) := by
  intro i hi
  by_cases e : i = t
  · subst e
    rw [e40, ek, e3]
    refine ⟨⟨hk, ?_⟩, ⟨l, hl, el, ?_⟩, n, h1, h9, en, ?_⟩
    · rw [upd_ne (by omega), upd_ne (by omega), upd_at, hc]
    · rw [upd_ne (by omega), upd_at]
    · rw [upd_at]
  · exact PT.cg (t := t) h (fun j hj => by rw [e3, upd_ne (by omega), upd_ne (by omega), upd_ne (by omega)]) (fun j hj => by rw [e40]; exact ⟨rfl, rfl, rfl⟩) i (by omega)
theorem PP.step {σ τ : ST} {T p l d : Nat} (h : PP σ T p) (hl : l < 6) (el : σ 40 (22 + p) = nI l) (hd : d < 30) (ed : σ 40 (28 + p) = nI d) (e40 : τ 40 = σ 40) (e3 : τ 3 = upd (upd (upd (upd (σ 3) (1 + 3 * T + 4 * p) (nI 59)) (1 + 3 * T + 4 * p + 1) (nI (48 + l))) (1 + 3 * T + 4 * p + 1 + 1) (nI (48 + d / 10))) (1 + 3 * T + 4 * p + 1 + 1 + 1) (nI (48 + d % 10))) : PP τ T (p + 1) := by
  intro i hi
  by_cases e : i = p
  · subst e
    rw [e40, e3]
    refine ⟨?_, ⟨l, hl, el, ?_⟩, d, hd, ed, ?_, ?_⟩
    · rw [upd_ne (by omega), upd_ne (by omega), upd_ne (by omega), upd_at]
    · rw [upd_ne (by omega), upd_ne (by omega), upd_at]
    · rw [upd_ne (by omega), upd_at]
    · rw [upd_at]
  · exact PP.cg (p := p) h (fun j hj => by rw [e3, upd_ne (by omega), upd_ne (by omega), upd_ne (by omega), upd_ne (by omega)]) (fun j hj => by rw [e40]; exact ⟨rfl, rfl⟩) i (by omega)
theorem kd4 {y : Int32} (h : ¬ someL y 4 = 3) : someL y 4 = 0 ∨ someL y 4 = 1 ∨ someL y 4 = 2 := by
  obtain ⟨j, hj, e⟩ := some_nI (x := y) 4 (show (4 : Int32) = nI 4 from rfl) (by decide) (by decide)
  rw [e] at h ⊢
  rcases (show j = 0 ∨ j = 1 ∨ j = 2 ∨ j = 3 by omega) with rfl | rfl | rfl | rfl
  · exact Or.inl rfl
  · exact Or.inr (Or.inl rfl)
  · exact Or.inr (Or.inr rfl)
  · exact absurd rfl h

set_option maxHeartbeats 4000000 in
set_option maxRecDepth 100000 in
theorem c_L_put {l : Launch} {D : DD} {ad : Nat → Nat} (σ : ST) (hsm : sN D < 2 ^ 31) : Ct l yL_put cL_put 12 (Option.some FieldType.int) 3 69 D ad [.ref (ad 0), .ref (sB D), .int (nI 0), .int (nI 6), .ref (ad 40), .ref (ad 41), .ref (ad 42), .ref (ad 43)] σ (pq (fun v τ => ∃ T P : Nat, v = nI (1 + 3 * T + 4 * P) ∧ PH τ T P ∧ PT τ T ∧ PP τ T P)) := by
  refine Ct.of2 [.ref (ad 0), .ref (sB D), .int (nI 0), .int (nI 6), .ref (ad 40), .ref (ad 41), .ref (ad 42), .ref (ad 43), .float 0, .float 0, .float 0, .float 0] rfl (Nat.le_of_ble_eq_true rfl) rfl ?_
  rintro X C rfl rfl rfl hxn hR
  have hn8 : 8 < xn X := by rw [← hxn]; decide
  have hn9 : 9 < xn X := by rw [← hxn]; decide
  have hn10 : 10 < xn X := by rw [← hxn]; decide
  have hn11 : 11 < xn X := by rw [← hxn]; decide
  refine V_aload_n_1 (q := 1) C rfl dL_put_0 ?_
  refine V_iload_n_2 (q := 2) C rfl dL_put_1 ?_
  refine V_cS2q (q := 5) C (c_L_cell σ 0 hsm (by decide)) cw_L_cell cs_L_cell wm_L_9 ⟨by decide, by decide⟩ (Nat.le_of_ble_eq_true rfl) rfl dL_put_2 (fun x σ1 h1 => ?_)
  rw [h1]
  refine V_istore_8 (q := 7) C hn8 rfl rfl dL_put_5 ?_
  refine V_aload_4 (q := 9) C rfl dL_put_7 ?_
  refine V_iconst (q := 10) (v := 0) C rfl rfl dL_put_9 ?_
  refine V_iconst (q := 11) (v := 1) C rfl rfl dL_put_10 ?_
  refine V_iload_8 (q := 13) C rfl dL_put_11 ?_
  refine V_iload_n_3 (q := 14) C rfl dL_put_13 ?_
  refine V_cS2r (q := 17) C (c_L_some _ _ _ (by decide)) cw_L_some cs_L_some wm_L_15 ⟨by decide, by decide⟩ (Nat.le_of_ble_eq_true rfl) rfl dL_put_14 ?_
  obtain ⟨j, hj, ej⟩ := some_nI (x := x) 6 (show (nI 6 : Int32) = nI 6 from rfl) (by decide) (by decide)
  rw [ej]
  refine V_iadd (q := 18) C rfl dL_put_17 ?_
  rw [show (1 : Int32) + nI j = nI (1 + j) from nI_add 1 j]
  refine V_iast (q := 19) C 0 rfl (by show _ < 48; omega) rfl (by decide) (by decide) rfl dL_put_18 ?_
  refine V_aload_4 (q := 21) C rfl dL_put_19 ?_
  refine V_iconst (q := 22) (v := 1) C rfl rfl dL_put_21 ?_
  refine V_iconst (q := 23) (v := 1) C rfl rfl dL_put_22 ?_
  refine V_iload_8 (q := 25) C rfl dL_put_23 ?_
  refine V_iconst (q := 26) (v := 3) C rfl rfl dL_put_25 ?_
  refine V_ishr (q := 27) C rfl dL_put_26 ?_
  refine V_bipush (q := 29) (v := 6) C (by decide) rfl dL_put_27 ?_
  refine V_cS2r (q := 32) C (c_L_some _ _ _ (by decide)) cw_L_some cs_L_some wm_L_15 ⟨by decide, by decide⟩ (Nat.le_of_ble_eq_true rfl) rfl dL_put_29 ?_
  obtain ⟨i, hi, ei⟩ := some_nI (x := x >>> (3 &&& 31)) 6 (show (6 : Int32) = nI 6 from rfl) (by decide) (by decide)
  rw [ei]
  refine V_iadd (q := 33) C rfl dL_put_32 ?_
  rw [show (1 : Int32) + nI i = nI (1 + i) from nI_add 1 i]
  refine V_iast (q := 34) C 1 rfl (by show _ < 48; omega) rfl (by decide) (by decide) rfl dL_put_33 ?_
  refine V_aload_4 (q := 36) C rfl dL_put_34 ?_
  refine V_iconst (q := 37) (v := 2) C rfl rfl dL_put_36 ?_
  refine V_iconst (q := 38) (v := 0) C rfl rfl dL_put_37 ?_
  refine V_iast (q := 39) C 2 rfl (by show _ < 48; omega) rfl (by decide) (by decide) rfl dL_put_38 ?_
  refine V_aload_4 (q := 41) C rfl dL_put_39 ?_
  refine V_bipush (q := 43) (v := 21) C (by decide) rfl dL_put_41 ?_
  refine V_iconst (q := 44) (v := 0) C rfl rfl dL_put_43 ?_
  refine V_iast (q := 45) C 21 rfl (by show _ < 48; omega) rfl (by decide) (by decide) rfl dL_put_44 ?_
  obtain ⟨T, hT⟩ : ∃ T : Nat, T = 1 + j := ⟨_, rfl⟩
  obtain ⟨P, hP⟩ : ∃ P : Nat, P = 1 + i := ⟨_, rfl⟩
  rw [← hT, ← hP]
  refine V_gen (Q := fun τ => τ 40 0 = nI T ∧ τ 40 1 = nI P ∧ τ 40 2 = 0 ∧ τ 40 21 = 0) (by exact ⟨rfl, rfl, rfl, rfl⟩) (fun τ hτ => ?_)
  refine V_iconst (q := 46) (v := (nI 0)) C rfl rfl dL_put_45 ?_
  refine V_istore_9 (q := 48) C hn9 rfl rfl dL_put_46 ?_
  have hx48 : ∀ τ : ST, (τ 40 0 = nI T ∧ τ 40 1 = nI P ∧ τ 40 2 = 0 ∧ τ 40 21 = 0) ∧ (∀ z, z < 30 → τ 41 z = 0 ∧ τ 42 z = -9 ∧ τ 43 z = 0) → V X 48 [.ref (xad X 0), .ref (sB (xD X)), .int (nI 0), .int (nI 6), .ref (xad X 40), .ref (xad X 41), .ref (xad X 42), .ref (xad X 43), .int x, .int (nI 30), .float 0, .float 0] [] (τ) := by
    intro τ hτ
    refine V_iload_9 (q := 50) C rfl dL_put_48 ?_
    refine V_bipush (q := 52) (v := 30) C (by decide) rfl dL_put_50 ?_
    refine V_icmp_ge_t (tgt := 80) C (by decide) (by decide) dL_put_52 ?_
    refine V_aload_n_0 (q := 81) C rfl dL_put_80 ?_
    refine V_iconst (q := 82) (v := (nI 0)) C rfl rfl dL_put_81 ?_
    refine V_iconst (q := 83) (v := 0) C rfl rfl dL_put_82 ?_
    refine V_bipush (q := 85) (v := (nI 50)) C (by decide) rfl dL_put_83 ?_
    refine V_cV3r (q := 88) C (c_X8_sheet_v τ 0 50 0 (by decide) (by decide) (by decide)) cw_X8_sheet cv_X8_sheet wm_L_19 (by decide) ob_X8 ⟨by decide, by decide⟩ (Nat.le_of_ble_eq_true rfl) rfl dL_put_85 ?_
    refine V_iconst (q := 89) (v := 1) C rfl rfl dL_put_88 ?_
    refine V_icmp_ne_f (tgt := 104) C rfl rfl (by decide) dL_put_89 ?_
    refine V_aload_n_0 (q := 93) C rfl dL_put_92 ?_
    refine V_iconst (q := 94) (v := (nI 0)) C rfl rfl dL_put_93 ?_
    refine V_iconst (q := 95) (v := (nI 0)) C rfl rfl dL_put_94 ?_
    refine V_bipush (q := 97) (v := (nI 107)) C (by decide) rfl dL_put_95 ?_
    refine V_cV3r (q := 100) C (c_put0 _ 0 107 ⟨rfl, rfl, rfl⟩ (by decide) (by decide)) cw_X8_put cv_X8_put wm_L_25 (by decide) ob_X8 ⟨by decide, by decide⟩ (Nat.le_of_ble_eq_true rfl) rfl dL_put_97 ?_
    refine V_iconst (q := 101) (v := 1) C rfl rfl dL_put_100 ?_
    refine V_icmp_eq_t (tgt := 107) C rfl (by decide) dL_put_101 ?_
    refine V_gen (Q := fun τ => PH τ T P) (by exact ⟨⟨by omega, by omega, by omega, by omega⟩, hτ.1, ⟨rfl, rfl, rfl⟩, hτ.2, rfl⟩) (fun τ hτ => ?_)
    refine V_iconst (q := 108) (v := (nI (1 + 3 * 0))) C rfl rfl dL_put_107 ?_
    refine V_istore_9 (q := 110) C hn9 rfl rfl dL_put_108 ?_
    refine V_iconst (q := 111) (v := (nI 0)) C rfl rfl dL_put_110 ?_
    refine V_istore_10 (q := 113) C hn10 rfl rfl dL_put_111 ?_
    have hx113 : ∀ τ : ST, PH τ T P ∧ PT τ T → V X 113 [.ref (xad X 0), .ref (sB (xD X)), .int (nI 0), .int (nI 6), .ref (xad X 40), .ref (xad X 41), .ref (xad X 42), .ref (xad X 43), .int x, .int (nI (1 + 3 * T)), .int (nI T), .float 0] [] (τ) := by
      intro τ hτ
      refine V_iload_10 (q := 115) C rfl dL_put_113 ?_
      refine V_aload_4 (q := 117) C rfl dL_put_115 ?_
      refine V_iconst (q := 118) (v := 0) C rfl rfl dL_put_117 ?_
      refine V_ialde (q := 119) C 0 rfl (by show _ < 48; omega) hτ.1.2.1.1 rfl (by decide) (by decide) rfl dL_put_118 ?_
      refine V_icmp_ge_t (tgt := 329) C (nI_le (Nat.le_refl _) (by omega)) (by decide) dL_put_119 ?_
      refine V_iconst (q := 330) (v := (nI 0)) C rfl rfl dL_put_329 ?_
      refine V_istore_10 (q := 332) C hn10 rfl rfl dL_put_330 ?_
      have hx332 : ∀ τ : ST, PH τ T P ∧ PT τ T ∧ PP τ T P → V X 332 [.ref (xad X 0), .ref (sB (xD X)), .int (nI 0), .int (nI 6), .ref (xad X 40), .ref (xad X 41), .ref (xad X 42), .ref (xad X 43), .int x, .int (nI (1 + 3 * T + 4 * P)), .int (nI P), .float 0] [] (τ) := by
        intro τ hτ
        refine V_iload_10 (q := 334) C rfl dL_put_332 ?_
        refine V_aload_4 (q := 336) C rfl dL_put_334 ?_
        refine V_iconst (q := 337) (v := 1) C rfl rfl dL_put_336 ?_
        refine V_ialde (q := 338) C 1 rfl (by show _ < 48; omega) hτ.1.2.1.2.1 rfl (by decide) (by decide) rfl dL_put_337 ?_
        refine V_icmp_ge_t (tgt := 509) C (nI_le (Nat.le_refl _) (by omega)) (by decide) dL_put_338 ?_
        refine V_iload_9 (q := 511) C rfl dL_put_509 ?_
        refine V_iret C hR dL_put_511 ?_
        exact ⟨_, rfl, T, P, rfl, hτ⟩
      have hs332 : ∀ p : Nat, p < P → (∀ τ : ST, PH τ T P ∧ PT τ T ∧ PP τ T (p + 1) → V X 332 [.ref (xad X 0), .ref (sB (xD X)), .int (nI 0), .int (nI 6), .ref (xad X 40), .ref (xad X 41), .ref (xad X 42), .ref (xad X 43), .int x, .int (nI (1 + 3 * T + 4 * (p + 1))), .int (nI (p + 1)), .float 0] [] (τ)) → ∀ τ : ST, PH τ T P ∧ PT τ T ∧ PP τ T p → V X 332 [.ref (xad X 0), .ref (sB (xD X)), .int (nI 0), .int (nI 6), .ref (xad X 40), .ref (xad X 41), .ref (xad X 42), .ref (xad X 43), .int x, .int (nI (1 + 3 * T + 4 * p)), .int (nI p), .float 0] [] (τ) := by
        intro p hi332 ih332 τ hτ
        have hp6 : p < 6 := by omega
        refine V_iload_10 (q := 334) C rfl dL_put_332 ?_
        refine V_aload_4 (q := 336) C rfl dL_put_334 ?_
        refine V_iconst (q := 337) (v := 1) C rfl rfl dL_put_336 ?_
        refine V_ialde (q := 338) C 1 rfl (by show _ < 48; omega) hτ.1.2.1.2.1 rfl (by decide) (by decide) rfl dL_put_337 ?_
        refine V_icmp_ge_f (tgt := 509) C (nI_ge hi332 (by omega)) rfl (by decide) dL_put_338 ?_
        refine V_aload_n_1 (q := 342) C rfl dL_put_341 ?_
        refine V_iload_n_2 (q := 343) C rfl dL_put_342 ?_
        refine V_iconst (q := 344) (v := 3) C rfl rfl dL_put_343 ?_
        refine V_iadd (q := 345) C rfl dL_put_344 ?_
        rw [show nI 0 + 3 = nI 3 from rfl]
        refine V_cS2q (q := 348) C (c_L_cell _ 3 hsm (by decide)) cw_L_cell cs_L_cell wm_L_9 ⟨by decide, by decide⟩ (Nat.le_of_ble_eq_true rfl) rfl dL_put_345 (fun y τ1 h1 => ?_)
        rw [h1]
        refine V_iconst (q := 349) (v := 3) C rfl rfl dL_put_348 ?_
        refine V_iload_10 (q := 351) C rfl dL_put_349 ?_
        refine V_imul (q := 352) C rfl dL_put_351 ?_
        refine V_ishr (q := 353) C rfl dL_put_352 ?_
        refine V_topi (fun y2 _ => ?_)
        refine V_istore_11 (q := 355) C hn11 rfl rfl dL_put_353 ?_
        have k386 : ∀ l : Nat, l < 6 → V X 386 [.ref (xad X 0), .ref (sB (xD X)), .int (nI 0), .int (nI 6), .ref (xad X 40), .ref (xad X 41), .ref (xad X 42), .ref (xad X 43), .int x, .int (nI (1 + 3 * T + 4 * p)), .int (nI p), .int y2] [] (setf τ 40 (22 + p) (nI l)) := by
          intro l hl
          refine V_aload_4 (q := 388) C rfl dL_put_386 ?_
          refine V_bipush (q := 390) (v := 28) C (by decide) rfl dL_put_388 ?_
          refine V_iload_10 (q := 392) C rfl dL_put_390 ?_
          refine V_iadd (q := 393) C rfl dL_put_392 ?_
          refine V_iload_11 (q := 395) C rfl dL_put_393 ?_
          refine V_iconst (q := 396) (v := 2) C rfl rfl dL_put_395 ?_
          refine V_ishr (q := 397) C rfl dL_put_396 ?_
          refine V_bipush (q := 399) (v := 30) C (by decide) rfl dL_put_397 ?_
          refine V_cS2r (q := 402) C (c_L_some _ _ _ (by decide)) cw_L_some cs_L_some wm_L_15 ⟨by decide, by decide⟩ (Nat.le_of_ble_eq_true rfl) rfl dL_put_399 ?_
          obtain ⟨d, hd, ed⟩ := some_nI (x := y2 >>> (2 &&& 31)) 30 (show (30 : Int32) = nI 30 from rfl) (by decide) (by decide)
          rw [ed]
          refine V_iast (q := 403) C (28 + p) (nI_add 28 p) (by show _ < 48; omega) rfl (by decide) (by decide) rfl dL_put_402 ?_
          refine V_gen (Q := fun τ => PH τ T P ∧ PT τ T ∧ PP τ T p ∧ τ 40 (22 + p) = nI l ∧ τ 40 (28 + p) = nI d) (by
    have u : ∀ i, i ≠ 22 + p → i ≠ 28 + p → upd (upd (τ 40) (22 + p) (nI l)) (28 + p) (nI d) i = τ 40 i := fun i a b => by rw [upd_ne b, upd_ne a]
    refine ⟨hτ.1.cg rfl ⟨rfl, rfl, rfl⟩ rfl ⟨u 0 (by omega) (by omega), u 1 (by omega) (by omega), u 2 (by omega) (by omega), u 21 (by omega) (by omega)⟩, PT.cg hτ.2.1 (fun _ _ => rfl) (fun i hi => ⟨u _ (by omega) (by omega), u _ (by omega) (by omega), u _ (by omega) (by omega)⟩), PP.cg hτ.2.2 (fun _ _ => rfl) (fun i hi => ⟨u _ (by omega) (by omega), u _ (by omega) (by omega)⟩), ?_, ?_⟩
    · show upd (upd (τ 40) (22 + p) (nI l)) (28 + p) (nI d) (22 + p) = nI l
      rw [upd_ne (by omega), upd_at]
    · exact upd_at) (fun τ3 h3 => ?_)
          refine V_aload_n_0 (q := 404) C rfl dL_put_403 ?_
          refine V_iconst (q := 405) (v := (nI 0)) C rfl rfl dL_put_404 ?_
          refine V_iload_9 (q := 407) C rfl dL_put_405 ?_
          refine V_iinc_9 (q := 410) (n := 1) C nI_inc hn9 rfl rfl dL_put_407 ?_
          refine V_bipush (q := 412) (v := (nI 59)) C (by decide) rfl dL_put_410 ?_
          refine V_cV3r (q := 415) C (c_put0 _ (1 + 3 * T + 4 * p) 59 h3.1.2.2.1 (by omega) (by decide)) cw_X8_put cv_X8_put wm_L_25 (by decide) ob_X8 ⟨by decide, by decide⟩ (Nat.le_of_ble_eq_true rfl) rfl dL_put_412 ?_
          refine V_iconst (q := 416) (v := 1) C rfl rfl dL_put_415 ?_
          refine V_icmp_ne_f (tgt := 500) C rfl rfl (by decide) dL_put_416 ?_
          refine V_aload_n_0 (q := 420) C rfl dL_put_419 ?_
          refine V_iconst (q := 421) (v := (nI 0)) C rfl rfl dL_put_420 ?_
          refine V_iload_9 (q := 423) C rfl dL_put_421 ?_
          refine V_iinc_9 (q := 426) (n := 1) C nI_inc hn9 rfl rfl dL_put_423 ?_
          refine V_bipush (q := 428) (v := 48) C (by decide) rfl dL_put_426 ?_
          refine V_aload_4 (q := 430) C rfl dL_put_428 ?_
          refine V_bipush (q := 432) (v := 22) C (by decide) rfl dL_put_430 ?_
          refine V_iload_10 (q := 434) C rfl dL_put_432 ?_
          refine V_iadd (q := 435) C rfl dL_put_434 ?_
          refine V_ialde (q := 436) C (22 + p) (nI_add 22 p) (by show _ < 48; omega) h3.2.2.2.1 rfl (by decide) (by decide) rfl dL_put_435 ?_
          refine V_iadd (q := 437) C rfl dL_put_436 ?_
          rw [show (48 : Int32) + nI l = nI (48 + l) from nI_add 48 l]
          refine V_cV3r (q := 440) C (c_put0 _ (1 + 3 * T + 4 * p + 1) (48 + l) h3.1.2.2.1 (by omega) (by omega)) cw_X8_put cv_X8_put wm_L_25 (by decide) ob_X8 ⟨by decide, by decide⟩ (Nat.le_of_ble_eq_true rfl) rfl dL_put_437 ?_
          refine V_iconst (q := 441) (v := 1) C rfl rfl dL_put_440 ?_
          refine V_icmp_ne_f (tgt := 500) C rfl rfl (by decide) dL_put_441 ?_
          refine V_aload_n_0 (q := 445) C rfl dL_put_444 ?_
          refine V_iconst (q := 446) (v := (nI 0)) C rfl rfl dL_put_445 ?_
          refine V_iload_9 (q := 448) C rfl dL_put_446 ?_
          refine V_iinc_9 (q := 451) (n := 1) C nI_inc hn9 rfl rfl dL_put_448 ?_
          refine V_bipush (q := 453) (v := 48) C (by decide) rfl dL_put_451 ?_
          refine V_aload_4 (q := 455) C rfl dL_put_453 ?_
          refine V_bipush (q := 457) (v := 28) C (by decide) rfl dL_put_455 ?_
          refine V_iload_10 (q := 459) C rfl dL_put_457 ?_
          refine V_iadd (q := 460) C rfl dL_put_459 ?_
          refine V_ialde (q := 461) C (28 + p) (nI_add 28 p) (by show _ < 48; omega) h3.2.2.2.2 rfl (by decide) (by decide) rfl dL_put_460 ?_
          refine V_bipush (q := 463) (v := 10) C (by decide) rfl dL_put_461 ?_
          refine V_idiv (q := 464) C (by decide) rfl dL_put_463 ?_
          rw [show nI d / 10 = nI (d / 10) from pk_div (by omega) (by decide) (by decide)]
          refine V_iadd (q := 465) C rfl dL_put_464 ?_
          rw [show (48 : Int32) + nI (d / 10) = nI (48 + d / 10) from nI_add 48 _]
          refine V_cV3r (q := 468) C (c_put0 _ (1 + 3 * T + 4 * p + 1 + 1) (48 + d / 10) h3.1.2.2.1 (by omega) (by omega)) cw_X8_put cv_X8_put wm_L_25 (by decide) ob_X8 ⟨by decide, by decide⟩ (Nat.le_of_ble_eq_true rfl) rfl dL_put_465 ?_
          refine V_iconst (q := 469) (v := 1) C rfl rfl dL_put_468 ?_
          refine V_icmp_ne_f (tgt := 500) C rfl rfl (by decide) dL_put_469 ?_
          refine V_aload_n_0 (q := 473) C rfl dL_put_472 ?_
          refine V_iconst (q := 474) (v := (nI 0)) C rfl rfl dL_put_473 ?_
          refine V_iload_9 (q := 476) C rfl dL_put_474 ?_
          refine V_iinc_9 (q := 479) (n := 1) C nI_inc hn9 rfl rfl dL_put_476 ?_
          refine V_bipush (q := 481) (v := 48) C (by decide) rfl dL_put_479 ?_
          refine V_aload_4 (q := 483) C rfl dL_put_481 ?_
          refine V_bipush (q := 485) (v := 28) C (by decide) rfl dL_put_483 ?_
          refine V_iload_10 (q := 487) C rfl dL_put_485 ?_
          refine V_iadd (q := 488) C rfl dL_put_487 ?_
          refine V_ialde (q := 489) C (28 + p) (nI_add 28 p) (by show _ < 48; omega) h3.2.2.2.2 rfl (by decide) (by decide) rfl dL_put_488 ?_
          refine V_bipush (q := 491) (v := 10) C (by decide) rfl dL_put_489 ?_
          refine V_irem (q := 492) C (by decide) rfl dL_put_491 ?_
          rw [show nI d - nI d / 10 * 10 = nI (d % 10) from pk_rem (by omega) (by decide) (by decide)]
          refine V_iadd (q := 493) C rfl dL_put_492 ?_
          rw [show (48 : Int32) + nI (d % 10) = nI (48 + d % 10) from nI_add 48 _]
          refine V_cV3r (q := 496) C (c_put0 _ (1 + 3 * T + 4 * p + 1 + 1 + 1) (48 + d % 10) h3.1.2.2.1 (by omega) (by omega)) cw_X8_put cv_X8_put wm_L_25 (by decide) ob_X8 ⟨by decide, by decide⟩ (Nat.le_of_ble_eq_true rfl) rfl dL_put_493 ?_
          refine V_iconst (q := 497) (v := 1) C rfl rfl dL_put_496 ?_
          refine V_icmp_eq_t (tgt := 503) C rfl (by decide) dL_put_497 ?_
          refine V_iinc_10 (q := 506) (n := 1) C nI_inc hn10 rfl rfl dL_put_503 ?_
          refine V_goto (tgt := 332) C (by decide) dL_put_506 ?_
          rw [show 1 + 3 * T + 4 * p + 1 + 1 + 1 + 1 = 1 + 3 * T + 4 * (p + 1) by omega]
          refine V_wk (lv2 := [.ref (xad X 0), .ref (sB (xD X)), .int (nI 0), .int (nI 6), .ref (xad X 40), .ref (xad X 41), .ref (xad X 42), .ref (xad X 43), .int x, .int (nI (1 + 3 * T + 4 * (p + 1))), .int (nI (p + 1)), .float 0]) ⟨Or.inl rfl, ⟨Or.inl rfl, ⟨Or.inl rfl, ⟨Or.inl rfl, ⟨Or.inl rfl, ⟨Or.inl rfl, ⟨Or.inl rfl, ⟨Or.inl rfl, ⟨Or.inl rfl, ⟨Or.inl rfl, ⟨Or.inl rfl, ⟨Or.inr rfl, trivial⟩⟩⟩⟩⟩⟩⟩⟩⟩⟩⟩⟩ ?_
          exact V_gen (Q := fun τ => PH τ T P ∧ PT τ T ∧ PP τ T (p + 1)) ⟨h3.1.cg rfl ⟨rfl, rfl, rfl⟩ (by
            show upd (upd (upd (upd (τ3 3) (1 + 3 * T + 4 * p) (nI 59)) (1 + 3 * T + 4 * p + 1) (nI (48 + l))) (1 + 3 * T + 4 * p + 1 + 1) (nI (48 + d / 10))) (1 + 3 * T + 4 * p + 1 + 1 + 1) (nI (48 + d % 10)) 0 = τ3 3 0
            rw [upd_ne (by omega), upd_ne (by omega), upd_ne (by omega), upd_ne (by omega)]) ⟨rfl, rfl, rfl, rfl⟩, PT.cg h3.2.1 (fun i hi => by
            show upd (upd (upd (upd (τ3 3) (1 + 3 * T + 4 * p) (nI 59)) (1 + 3 * T + 4 * p + 1) (nI (48 + l))) (1 + 3 * T + 4 * p + 1 + 1) (nI (48 + d / 10))) (1 + 3 * T + 4 * p + 1 + 1 + 1) (nI (48 + d % 10)) i = τ3 3 i
            rw [upd_ne (by omega), upd_ne (by omega), upd_ne (by omega), upd_ne (by omega)]) (fun _ _ => ⟨rfl, rfl, rfl⟩), PP.step h3.2.2.1 hl h3.2.2.2.1 hd h3.2.2.2.2 rfl rfl⟩ ih332
        refine V_aload_4 (q := 357) C rfl dL_put_355 ?_
        refine V_bipush (q := 359) (v := 22) C (by decide) rfl dL_put_357 ?_
        refine V_iload_10 (q := 361) C rfl dL_put_359 ?_
        refine V_iadd (q := 362) C rfl dL_put_361 ?_
        refine V_iload_11 (q := 364) C rfl dL_put_362 ?_
        refine V_iload_8 (q := 366) C rfl dL_put_364 ?_
        refine V_bipush (q := 368) (v := 6) C (by decide) rfl dL_put_366 ?_
        refine V_ishr (q := 369) C rfl dL_put_368 ?_
        refine V_iconst (q := 370) (v := 2) C rfl rfl dL_put_369 ?_
        refine V_cS2r (q := 373) C (c_L_some _ _ _ (by decide)) cw_L_some cs_L_some wm_L_15 ⟨by decide, by decide⟩ (Nat.le_of_ble_eq_true rfl) rfl dL_put_370 ?_
        refine V_if_ne (tgt := 381) C rfl (by decide) dL_put_373 (fun c373 => ?_) (fun c373 => ?_)
        · refine V_iconst (q := 382) (v := 3) C rfl rfl dL_put_381 ?_
          refine V_cS2r (q := 385) C (c_L_some _ _ _ (by decide)) cw_L_some cs_L_some wm_L_15 ⟨by decide, by decide⟩ (Nat.le_of_ble_eq_true rfl) rfl dL_put_382 ?_
          obtain ⟨l, hl, el⟩ := some_nI (x := y2) 3 (show (3 : Int32) = nI 3 from rfl) (by decide) (by decide)
          rw [el]
          refine V_iast (q := 386) C (22 + p) (nI_add 22 p) (by show _ < 48; omega) rfl (by decide) (by decide) rfl dL_put_385 ?_
          exact k386 l (by omega)
        · refine V_bipush (q := 378) (v := 6) C (by decide) rfl dL_put_376 ?_
          refine V_goto (tgt := 382) C (by decide) dL_put_378 ?_
          refine V_cS2r (q := 385) C (c_L_some _ _ _ (by decide)) cw_L_some cs_L_some wm_L_15 ⟨by decide, by decide⟩ (Nat.le_of_ble_eq_true rfl) rfl dL_put_382 ?_
          obtain ⟨l, hl, el⟩ := some_nI (x := y2) 6 (show (6 : Int32) = nI 6 from rfl) (by decide) (by decide)
          rw [el]
          refine V_iast (q := 386) C (22 + p) (nI_add 22 p) (by show _ < 48; omega) rfl (by decide) (by decide) rfl dL_put_385 ?_
          exact k386 l (by omega)
      exact V_eq (rfl) (loopN (P := fun p => ∀ τ : ST, PH τ T P ∧ PT τ T ∧ PP τ T p → V X 332 [.ref (xad X 0), .ref (sB (xD X)), .int (nI 0), .int (nI 6), .ref (xad X 40), .ref (xad X 41), .ref (xad X 42), .ref (xad X 43), .int x, .int (nI (1 + 3 * T + 4 * p)), .int (nI p), .float 0] [] (τ)) (P) hx332 hs332 0 (Nat.zero_le _) τ ⟨hτ.1, hτ.2, fun z h => absurd h (Nat.not_lt_zero _)⟩)
    have hs113 : ∀ t : Nat, t < T → (∀ τ : ST, PH τ T P ∧ PT τ (t + 1) → V X 113 [.ref (xad X 0), .ref (sB (xD X)), .int (nI 0), .int (nI 6), .ref (xad X 40), .ref (xad X 41), .ref (xad X 42), .ref (xad X 43), .int x, .int (nI (1 + 3 * (t + 1))), .int (nI (t + 1)), .float 0] [] (τ)) → ∀ τ : ST, PH τ T P ∧ PT τ t → V X 113 [.ref (xad X 0), .ref (sB (xD X)), .int (nI 0), .int (nI 6), .ref (xad X 40), .ref (xad X 41), .ref (xad X 42), .ref (xad X 43), .int x, .int (nI (1 + 3 * t)), .int (nI t), .float 0] [] (τ) := by
      intro t hi113 ih113 τ hτ
      have ht6 : t < 6 := by omega
      refine V_iload_10 (q := 115) C rfl dL_put_113 ?_
      refine V_aload_4 (q := 117) C rfl dL_put_115 ?_
      refine V_iconst (q := 118) (v := 0) C rfl rfl dL_put_117 ?_
      refine V_ialde (q := 119) C 0 rfl (by show _ < 48; omega) hτ.1.2.1.1 rfl (by decide) (by decide) rfl dL_put_118 ?_
      refine V_icmp_ge_f (tgt := 329) C (nI_ge hi113 (by omega)) rfl (by decide) dL_put_119 ?_
      refine V_aload_n_1 (q := 123) C rfl dL_put_122 ?_
      refine V_iload_n_2 (q := 124) C rfl dL_put_123 ?_
      refine V_iconst (q := 125) (v := 1) C rfl rfl dL_put_124 ?_
      refine V_iadd (q := 126) C rfl dL_put_125 ?_
      rw [show nI 0 + 1 = nI 1 from rfl]
      refine V_iload_10 (q := 128) C rfl dL_put_126 ?_
      refine V_iconst (q := 129) (v := 2) C rfl rfl dL_put_128 ?_
      refine V_irem (q := 130) C (by decide) rfl dL_put_129 ?_
      rw [show nI t - nI t / 2 * 2 = nI (t % 2) from pk_rem (by omega) (by decide) (by decide)]
      refine V_iadd (q := 131) C rfl dL_put_130 ?_
      rw [show nI 1 + nI (t % 2) = nI (1 + t % 2) from nI_add 1 _]
      refine V_cS2q (q := 134) C (c_L_cell _ (1 + t % 2) hsm (by omega)) cw_L_cell cs_L_cell wm_L_9 ⟨by decide, by decide⟩ (Nat.le_of_ble_eq_true rfl) rfl dL_put_131 (fun y τ1 h1 => ?_)
      rw [h1]
      refine V_iload_10 (q := 136) C rfl dL_put_134 ?_
      refine V_iconst (q := 137) (v := 2) C rfl rfl dL_put_136 ?_
      refine V_idiv (q := 138) C (by decide) rfl dL_put_137 ?_
      refine V_bipush (q := 140) (v := 7) C (by decide) rfl dL_put_138 ?_
      refine V_imul (q := 141) C rfl dL_put_140 ?_
      refine V_ishr (q := 142) C rfl dL_put_141 ?_
      refine V_topi (fun y2 _ => ?_)
      refine V_istore_11 (q := 144) C hn11 rfl rfl dL_put_142 ?_
      have k171 : ∀ k : Int32, (k = 0 ∨ k = 1 ∨ k = 2) → V X 171 [.ref (xad X 0), .ref (sB (xD X)), .int (nI 0), .int (nI 6), .ref (xad X 40), .ref (xad X 41), .ref (xad X 42), .ref (xad X 43), .int x, .int (nI (1 + 3 * t)), .int (nI t), .int y2] [] (setf τ 40 (3 + t) k) := by
        intro k hk
        have k204 : ∀ l : Nat, l < 6 → V X 204 [.ref (xad X 0), .ref (sB (xD X)), .int (nI 0), .int (nI 6), .ref (xad X 40), .ref (xad X 41), .ref (xad X 42), .ref (xad X 43), .int x, .int (nI (1 + 3 * t)), .int (nI t), .int y2] [] (setf (setf τ 40 (3 + t) k) 40 (9 + t) (nI l)) := by
          intro l hl
          refine V_aload_4 (q := 206) C rfl dL_put_204 ?_
          refine V_bipush (q := 208) (v := 15) C (by decide) rfl dL_put_206 ?_
          refine V_iload_10 (q := 210) C rfl dL_put_208 ?_
          refine V_iadd (q := 211) C rfl dL_put_210 ?_
          refine V_iconst (q := 212) (v := 1) C rfl rfl dL_put_211 ?_
          refine V_iload_11 (q := 214) C rfl dL_put_212 ?_
          refine V_iconst (q := 215) (v := 3) C rfl rfl dL_put_214 ?_
          refine V_ishr (q := 216) C rfl dL_put_215 ?_
          refine V_bipush (q := 218) (v := 9) C (by decide) rfl dL_put_216 ?_
          refine V_cS2r (q := 221) C (c_L_some _ _ _ (by decide)) cw_L_some cs_L_some wm_L_15 ⟨by decide, by decide⟩ (Nat.le_of_ble_eq_true rfl) rfl dL_put_218 ?_
          obtain ⟨n, hn, en⟩ := some_nI (x := y2 >>> (3 &&& 31)) 9 (show (9 : Int32) = nI 9 from rfl) (by decide) (by decide)
          rw [en]
          refine V_iadd (q := 222) C rfl dL_put_221 ?_
          rw [show (1 : Int32) + nI n = nI (1 + n) from nI_add 1 n]
          refine V_iast (q := 223) C (15 + t) (nI_add 15 t) (by show _ < 48; omega) rfl (by decide) (by decide) rfl dL_put_222 ?_
          refine V_gen (Q := fun τ => PH τ T P ∧ PT τ t ∧ τ 40 (3 + t) = k ∧ τ 40 (9 + t) = nI l ∧ τ 40 (15 + t) = nI (1 + n)) (by
    have u : ∀ i, i ≠ 3 + t → i ≠ 9 + t → i ≠ 15 + t → upd (upd (upd (τ 40) (3 + t) k) (9 + t) (nI l)) (15 + t) (nI (1 + n)) i = τ 40 i := fun i a b c => by rw [upd_ne c, upd_ne b, upd_ne a]
    refine ⟨hτ.1.cg rfl ⟨rfl, rfl, rfl⟩ rfl ⟨u 0 (by omega) (by omega) (by omega), u 1 (by omega) (by omega) (by omega), u 2 (by omega) (by omega) (by omega), u 21 (by omega) (by omega) (by omega)⟩, PT.cg hτ.2 (fun _ _ => rfl) (fun i hi => ⟨u _ (by omega) (by omega) (by omega), u _ (by omega) (by omega) (by omega), u _ (by omega) (by omega) (by omega)⟩), ?_, ?_, ?_⟩
    · show upd (upd (upd (τ 40) (3 + t) k) (9 + t) (nI l)) (15 + t) (nI (1 + n)) (3 + t) = k
      rw [upd_ne (by omega), upd_ne (by omega), upd_at]
    · show upd (upd (upd (τ 40) (3 + t) k) (9 + t) (nI l)) (15 + t) (nI (1 + n)) (9 + t) = nI l
      rw [upd_ne (by omega), upd_at]
    · exact upd_at) (fun τ3 h3 => ?_)
          refine V_aload_n_0 (q := 224) C rfl dL_put_223 ?_
          refine V_iconst (q := 225) (v := (nI 0)) C rfl rfl dL_put_224 ?_
          have k263 : ∀ c : Nat, c < 128 → nI c = ltr k → V X 263 [.ref (xad X 0), .ref (sB (xD X)), .int (nI 0), .int (nI 6), .ref (xad X 40), .ref (xad X 41), .ref (xad X 42), .ref (xad X 43), .int x, .int (nI (1 + 3 * t + 1)), .int (nI t), .int y2] [.int (nI c), .int (nI (1 + 3 * t)), .int (nI 0), .ref (xad X 0)] (τ3) := by
            intro c hc hcl
            refine V_cV3r (q := 266) C (c_put0 _ (1 + 3 * t) c h3.1.2.2.1 (by omega) hc) cw_X8_put cv_X8_put wm_L_25 (by decide) ob_X8 ⟨by decide, by decide⟩ (Nat.le_of_ble_eq_true rfl) rfl dL_put_263 ?_
            refine V_iconst (q := 267) (v := 1) C rfl rfl dL_put_266 ?_
            refine V_icmp_ne_f (tgt := 320) C rfl rfl (by decide) dL_put_267 ?_
            refine V_aload_n_0 (q := 271) C rfl dL_put_270 ?_
            refine V_iconst (q := 272) (v := (nI 0)) C rfl rfl dL_put_271 ?_
            refine V_iload_9 (q := 274) C rfl dL_put_272 ?_
            refine V_iinc_9 (q := 277) (n := 1) C nI_inc hn9 rfl rfl dL_put_274 ?_
            refine V_bipush (q := 279) (v := 48) C (by decide) rfl dL_put_277 ?_
            refine V_aload_4 (q := 281) C rfl dL_put_279 ?_
            refine V_bipush (q := 283) (v := 9) C (by decide) rfl dL_put_281 ?_
            refine V_iload_10 (q := 285) C rfl dL_put_283 ?_
            refine V_iadd (q := 286) C rfl dL_put_285 ?_
            refine V_ialde (q := 287) C (9 + t) (nI_add 9 t) (by show _ < 48; omega) h3.2.2.2.1 rfl (by decide) (by decide) rfl dL_put_286 ?_
            refine V_iadd (q := 288) C rfl dL_put_287 ?_
            rw [show (48 : Int32) + nI l = nI (48 + l) from nI_add 48 l]
            refine V_cV3r (q := 291) C (c_put0 _ (1 + 3 * t + 1) (48 + l) h3.1.2.2.1 (by omega) (by omega)) cw_X8_put cv_X8_put wm_L_25 (by decide) ob_X8 ⟨by decide, by decide⟩ (Nat.le_of_ble_eq_true rfl) rfl dL_put_288 ?_
            refine V_iconst (q := 292) (v := 1) C rfl rfl dL_put_291 ?_
            refine V_icmp_ne_f (tgt := 320) C rfl rfl (by decide) dL_put_292 ?_
            refine V_aload_n_0 (q := 296) C rfl dL_put_295 ?_
            refine V_iconst (q := 297) (v := (nI 0)) C rfl rfl dL_put_296 ?_
            refine V_iload_9 (q := 299) C rfl dL_put_297 ?_
            refine V_iinc_9 (q := 302) (n := 1) C nI_inc hn9 rfl rfl dL_put_299 ?_
            refine V_bipush (q := 304) (v := 48) C (by decide) rfl dL_put_302 ?_
            refine V_aload_4 (q := 306) C rfl dL_put_304 ?_
            refine V_bipush (q := 308) (v := 15) C (by decide) rfl dL_put_306 ?_
            refine V_iload_10 (q := 310) C rfl dL_put_308 ?_
            refine V_iadd (q := 311) C rfl dL_put_310 ?_
            refine V_ialde (q := 312) C (15 + t) (nI_add 15 t) (by show _ < 48; omega) h3.2.2.2.2 rfl (by decide) (by decide) rfl dL_put_311 ?_
            refine V_iadd (q := 313) C rfl dL_put_312 ?_
            rw [show (48 : Int32) + nI (1 + n) = nI (48 + (1 + n)) from nI_add 48 _]
            refine V_cV3r (q := 316) C (c_put0 _ (1 + 3 * t + 1 + 1) (48 + (1 + n)) h3.1.2.2.1 (by omega) (by omega)) cw_X8_put cv_X8_put wm_L_25 (by decide) ob_X8 ⟨by decide, by decide⟩ (Nat.le_of_ble_eq_true rfl) rfl dL_put_313 ?_
            refine V_iconst (q := 317) (v := 1) C rfl rfl dL_put_316 ?_
            refine V_icmp_eq_t (tgt := 323) C rfl (by decide) dL_put_317 ?_
            refine V_iinc_10 (q := 326) (n := 1) C nI_inc hn10 rfl rfl dL_put_323 ?_
            refine V_goto (tgt := 113) C (by decide) dL_put_326 ?_
            rw [show 1 + 3 * t + 1 + 1 + 1 = 1 + 3 * (t + 1) by omega]
            refine V_wk (lv2 := [.ref (xad X 0), .ref (sB (xD X)), .int (nI 0), .int (nI 6), .ref (xad X 40), .ref (xad X 41), .ref (xad X 42), .ref (xad X 43), .int x, .int (nI (1 + 3 * (t + 1))), .int (nI (t + 1)), .float 0]) ⟨Or.inl rfl, ⟨Or.inl rfl, ⟨Or.inl rfl, ⟨Or.inl rfl, ⟨Or.inl rfl, ⟨Or.inl rfl, ⟨Or.inl rfl, ⟨Or.inl rfl, ⟨Or.inl rfl, ⟨Or.inl rfl, ⟨Or.inl rfl, ⟨Or.inr rfl, trivial⟩⟩⟩⟩⟩⟩⟩⟩⟩⟩⟩⟩ ?_
            exact V_gen (Q := fun τ => PH τ T P ∧ PT τ (t + 1)) ⟨h3.1.cg rfl ⟨rfl, rfl, rfl⟩ (by
              show upd (upd (upd (τ3 3) (1 + 3 * t) (nI c)) (1 + 3 * t + 1) (nI (48 + l))) (1 + 3 * t + 1 + 1) (nI (48 + (1 + n))) 0 = τ3 3 0
              rw [upd_ne (by omega), upd_ne (by omega), upd_ne (by omega)]) ⟨rfl, rfl, rfl, rfl⟩, PT.step ht6 h3.2.1 hk h3.2.2.1 hcl hl h3.2.2.2.1 (by omega) (by omega) h3.2.2.2.2 rfl rfl⟩ ih113
          refine V_iload_9 (q := 227) C rfl dL_put_225 ?_
          refine V_iinc_9 (q := 230) (n := 1) C nI_inc hn9 rfl rfl dL_put_227 ?_
          refine V_aload_4 (q := 232) C rfl dL_put_230 ?_
          refine V_iconst (q := 233) (v := 3) C rfl rfl dL_put_232 ?_
          refine V_iload_10 (q := 235) C rfl dL_put_233 ?_
          refine V_iadd (q := 236) C rfl dL_put_235 ?_
          refine V_ialde (q := 237) C (3 + t) (nI_add 3 t) (by show _ < 48; omega) h3.2.2.1 rfl (by decide) (by decide) rfl dL_put_236 ?_
          refine V_if_ne (tgt := 245) C rfl (by decide) dL_put_237 (fun c237 => ?_) (fun c237 => ?_)
          · refine V_aload_4 (q := 247) C rfl dL_put_245 ?_
            refine V_iconst (q := 248) (v := 3) C rfl rfl dL_put_247 ?_
            refine V_iload_10 (q := 250) C rfl dL_put_248 ?_
            refine V_iadd (q := 251) C rfl dL_put_250 ?_
            refine V_ialde (q := 252) C (3 + t) (nI_add 3 t) (by show _ < 48; omega) h3.2.2.1 rfl (by decide) (by decide) rfl dL_put_251 ?_
            refine V_iconst (q := 253) (v := 1) C rfl rfl dL_put_252 ?_
            refine V_icmp_ne (tgt := 261) C rfl (by decide) dL_put_253 (fun c253 => ?_) (fun c253 => ?_)
            · refine V_bipush (q := 263) (v := (nI 111)) C (by decide) rfl dL_put_261 ?_
              exact k263 111 (by decide) (by rw [hk.resolve_left c237 |>.resolve_left c253]; rfl)
            · refine V_bipush (q := 258) (v := (nI 103)) C (by decide) rfl dL_put_256 ?_
              refine V_goto (tgt := 263) C (by decide) dL_put_258 ?_
              exact k263 103 (by decide) (by rw [c253]; rfl)
          · refine V_bipush (q := 242) (v := (nI 116)) C (by decide) rfl dL_put_240 ?_
            refine V_goto (tgt := 263) C (by decide) dL_put_242 ?_
            exact k263 116 (by decide) (by rw [c237]; rfl)
        refine V_aload_4 (q := 173) C rfl dL_put_171 ?_
        refine V_bipush (q := 175) (v := 9) C (by decide) rfl dL_put_173 ?_
        refine V_iload_10 (q := 177) C rfl dL_put_175 ?_
        refine V_iadd (q := 178) C rfl dL_put_177 ?_
        refine V_iload_11 (q := 180) C rfl dL_put_178 ?_
        refine V_iconst (q := 181) (v := 1) C rfl rfl dL_put_180 ?_
        refine V_ishr (q := 182) C rfl dL_put_181 ?_
        refine V_iload_8 (q := 184) C rfl dL_put_182 ?_
        refine V_bipush (q := 186) (v := 6) C (by decide) rfl dL_put_184 ?_
        refine V_ishr (q := 187) C rfl dL_put_186 ?_
        refine V_iconst (q := 188) (v := 2) C rfl rfl dL_put_187 ?_
        refine V_cS2r (q := 191) C (c_L_some _ _ _ (by decide)) cw_L_some cs_L_some wm_L_15 ⟨by decide, by decide⟩ (Nat.le_of_ble_eq_true rfl) rfl dL_put_188 ?_
        refine V_if_ne (tgt := 199) C rfl (by decide) dL_put_191 (fun c191 => ?_) (fun c191 => ?_)
        · refine V_iconst (q := 200) (v := 3) C rfl rfl dL_put_199 ?_
          refine V_cS2r (q := 203) C (c_L_some _ _ _ (by decide)) cw_L_some cs_L_some wm_L_15 ⟨by decide, by decide⟩ (Nat.le_of_ble_eq_true rfl) rfl dL_put_200 ?_
          obtain ⟨l, hl, el⟩ := some_nI (x := y2 >>> (1 &&& 31)) 3 (show (3 : Int32) = nI 3 from rfl) (by decide) (by decide)
          rw [el]
          refine V_iast (q := 204) C (9 + t) (nI_add 9 t) (by show _ < 48; omega) rfl (by decide) (by decide) rfl dL_put_203 ?_
          exact k204 l (by omega)
        · refine V_bipush (q := 196) (v := 6) C (by decide) rfl dL_put_194 ?_
          refine V_goto (tgt := 200) C (by decide) dL_put_196 ?_
          refine V_cS2r (q := 203) C (c_L_some _ _ _ (by decide)) cw_L_some cs_L_some wm_L_15 ⟨by decide, by decide⟩ (Nat.le_of_ble_eq_true rfl) rfl dL_put_200 ?_
          obtain ⟨l, hl, el⟩ := some_nI (x := y2 >>> (1 &&& 31)) 6 (show (6 : Int32) = nI 6 from rfl) (by decide) (by decide)
          rw [el]
          refine V_iast (q := 204) C (9 + t) (nI_add 9 t) (by show _ < 48; omega) rfl (by decide) (by decide) rfl dL_put_203 ?_
          exact k204 l (by omega)
      refine V_aload_4 (q := 146) C rfl dL_put_144 ?_
      refine V_iconst (q := 147) (v := 3) C rfl rfl dL_put_146 ?_
      refine V_iload_10 (q := 149) C rfl dL_put_147 ?_
      refine V_iadd (q := 150) C rfl dL_put_149 ?_
      refine V_iload_11 (q := 152) C rfl dL_put_150 ?_
      refine V_iconst (q := 153) (v := 4) C rfl rfl dL_put_152 ?_
      refine V_cS2r (q := 156) C (c_L_some _ _ _ (by decide)) cw_L_some cs_L_some wm_L_15 ⟨by decide, by decide⟩ (Nat.le_of_ble_eq_true rfl) rfl dL_put_153 ?_
      refine V_iconst (q := 157) (v := 3) C rfl rfl dL_put_156 ?_
      refine V_icmp_ne (tgt := 164) C rfl (by decide) dL_put_157 (fun c157 => ?_) (fun c157 => ?_)
      · refine V_iload_11 (q := 166) C rfl dL_put_164 ?_
        refine V_iconst (q := 167) (v := 4) C rfl rfl dL_put_166 ?_
        refine V_cS2r (q := 170) C (c_L_some _ _ _ (by decide)) cw_L_some cs_L_some wm_L_15 ⟨by decide, by decide⟩ (Nat.le_of_ble_eq_true rfl) rfl dL_put_167 ?_
        refine V_iast (q := 171) C (3 + t) (nI_add 3 t) (by show _ < 48; omega) rfl (by decide) (by decide) rfl dL_put_170 ?_
        exact k171 _ (kd4 c157)
      · refine V_iconst (q := 161) (v := 0) C rfl rfl dL_put_160 ?_
        refine V_goto (tgt := 170) C (by decide) dL_put_161 ?_
        refine V_iast (q := 171) C (3 + t) (nI_add 3 t) (by show _ < 48; omega) rfl (by decide) (by decide) rfl dL_put_170 ?_
        exact k171 _ (Or.inl rfl)
    exact V_eq (rfl) (loopN (P := fun t => ∀ τ : ST, PH τ T P ∧ PT τ t → V X 113 [.ref (xad X 0), .ref (sB (xD X)), .int (nI 0), .int (nI 6), .ref (xad X 40), .ref (xad X 41), .ref (xad X 42), .ref (xad X 43), .int x, .int (nI (1 + 3 * t)), .int (nI t), .float 0] [] (τ)) (T) hx113 hs113 0 (Nat.zero_le _) τ ⟨hτ, fun z h => absurd h (Nat.not_lt_zero _)⟩)
  have hs48 : ∀ d : Nat, d < 30 → (∀ τ : ST, (τ 40 0 = nI T ∧ τ 40 1 = nI P ∧ τ 40 2 = 0 ∧ τ 40 21 = 0) ∧ (∀ z, z < (d + 1) → τ 41 z = 0 ∧ τ 42 z = -9 ∧ τ 43 z = 0) → V X 48 [.ref (xad X 0), .ref (sB (xD X)), .int (nI 0), .int (nI 6), .ref (xad X 40), .ref (xad X 41), .ref (xad X 42), .ref (xad X 43), .int x, .int (nI (d + 1)), .float 0, .float 0] [] (τ)) → ∀ τ : ST, (τ 40 0 = nI T ∧ τ 40 1 = nI P ∧ τ 40 2 = 0 ∧ τ 40 21 = 0) ∧ (∀ z, z < d → τ 41 z = 0 ∧ τ 42 z = -9 ∧ τ 43 z = 0) → V X 48 [.ref (xad X 0), .ref (sB (xD X)), .int (nI 0), .int (nI 6), .ref (xad X 40), .ref (xad X 41), .ref (xad X 42), .ref (xad X 43), .int x, .int (nI d), .float 0, .float 0] [] (τ) := by
    intro d hi48 ih48 τ hτ
    refine V_iload_9 (q := 50) C rfl dL_put_48 ?_
    refine V_bipush (q := 52) (v := 30) C (by decide) rfl dL_put_50 ?_
    refine V_icmp_ge_f (tgt := 80) C (nI_ge (b := 30) hi48 (by decide)) rfl (by decide) dL_put_52 ?_
    refine V_aload_5 (q := 57) C rfl dL_put_55 ?_
    refine V_iload_9 (q := 59) C rfl dL_put_57 ?_
    refine V_iconst (q := 60) (v := 0) C rfl rfl dL_put_59 ?_
    refine V_iast (q := 61) C d rfl (by show _ < 30; omega) rfl (by decide) (by decide) rfl dL_put_60 ?_
    refine V_aload_6 (q := 63) C rfl dL_put_61 ?_
    refine V_iload_9 (q := 65) C rfl dL_put_63 ?_
    refine V_bipush (q := 67) (v := (-9)) C (by decide) rfl dL_put_65 ?_
    refine V_iast (q := 68) C d rfl (by show _ < 30; omega) rfl (by decide) (by decide) rfl dL_put_67 ?_
    refine V_aload_7 (q := 70) C rfl dL_put_68 ?_
    refine V_iload_9 (q := 72) C rfl dL_put_70 ?_
    refine V_iconst (q := 73) (v := 0) C rfl rfl dL_put_72 ?_
    refine V_iast (q := 74) C d rfl (by show _ < 30; omega) rfl (by decide) (by decide) rfl dL_put_73 ?_
    refine V_iinc_9 (q := 77) (n := 1) C nI_inc hn9 rfl rfl dL_put_74 ?_
    refine V_goto (tgt := 48) C (by decide) dL_put_77 ?_
    refine V_gen (Q := fun τ => (τ 40 0 = nI T ∧ τ 40 1 = nI P ∧ τ 40 2 = 0 ∧ τ 40 21 = 0) ∧ (∀ z, z < (d + 1) → τ 41 z = 0 ∧ τ 42 z = -9 ∧ τ 43 z = 0)) ⟨hτ.1, fun z hz => ?_⟩ ih48
    show upd (τ 41) d 0 z = 0 ∧ upd (τ 42) d (-9) z = -9 ∧ upd (τ 43) d 0 z = 0
    by_cases e : z = d
    · subst e; rw [upd_at, upd_at, upd_at]; exact ⟨rfl, rfl, rfl⟩
    · rw [upd_ne e, upd_ne e, upd_ne e]; exact hτ.2 z (by omega)
  exact V_eq (rfl) (loopN (P := fun d => ∀ τ : ST, (τ 40 0 = nI T ∧ τ 40 1 = nI P ∧ τ 40 2 = 0 ∧ τ 40 21 = 0) ∧ (∀ z, z < d → τ 41 z = 0 ∧ τ 42 z = -9 ∧ τ 43 z = 0) → V X 48 [.ref (xad X 0), .ref (sB (xD X)), .int (nI 0), .int (nI 6), .ref (xad X 40), .ref (xad X 41), .ref (xad X 42), .ref (xad X 43), .int x, .int (nI d), .float 0, .float 0] [] (τ)) (30) hx48 hs48 0 (Nat.zero_le _) τ ⟨hτ, fun z h => absurd h (Nat.not_lt_zero _)⟩)

