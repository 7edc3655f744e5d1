/-! THE LAW: its changes -/
theorem setf_id {σ : ST} {k i : Nat} {x : Int32} (h : σ k i = x) : setf σ k i x = σ := by
  unfold setf
  rw [← h, upd_id, setc_id]
theorem pI_b {Q : Prop} [Decidable Q] {x : Int32} (hx : x = 0 ∨ x = 1) (h : Q ↔ ¬ x = 0) : pI Q = x := by
  rcases hx with rfl | rfl
  · exact pI_f (fun q => (h.mp q) rfl)
  · exact pI_t (h.mpr (by decide))
theorem LI_rain {τ : ST} {T P C e v : Nat} (h : LI τ T P C) (hv : v ≤ 9) : LI (setf (setf τ 22 e (nI v)) 41 e (nI v)) T P C := by
  refine ⟨h.1.cg rfl rfl (fun k h1 h2 => by rw [setf_n (by omega), setf_n (by omega)]) (fun i _ _ _ => rfl), ⟨h.2.1.1, fun d hd => ?_⟩, h.2.2.1.cg rfl (fun k h1 h2 => by rw [setf_n (by omega), setf_n (by omega)]) rfl (fun _ _ => rfl), h.2.2.2⟩
  obtain ⟨w1, w2, w3, w4, w5⟩ := h.2.1.2 d hd
  show upd (τ 22) e (nI v) d = upd (τ 41) e (nI v) d ∧ τ 23 d = τ 42 d ∧ (∃ n : Nat, n ≤ 9 ∧ upd (τ 41) e (nI v) d = nI n) ∧ _ ∧ _
  by_cases q : d = e
  · subst q
    rw [upd_at, upd_at]
    exact ⟨rfl, w2, ⟨v, hv, rfl⟩, w4, w5⟩
  · rw [upd_ne q, upd_ne q]
    exact ⟨w1, w2, w3, w4, w5⟩
theorem LI_water {τ : ST} {T P C e : Nat} {w : Int32} (h : LI τ T P C) (hw : w = -9 ∨ isT (nI T) w) : LI (setf (setf τ 23 e w) 42 e w) T P C := by
  have hT6 := h.T6
  refine ⟨h.1.cg rfl rfl (fun k h1 h2 => by rw [setf_n (by omega), setf_n (by omega)]) (fun i _ _ _ => rfl), ⟨h.2.1.1, fun d hd => ?_⟩, h.2.2.1.cg rfl (fun k h1 h2 => by rw [setf_n (by omega), setf_n (by omega)]) rfl (fun _ _ => rfl), h.2.2.2⟩
  obtain ⟨w1, w2, w3, w4, w5⟩ := h.2.1.2 d hd
  show τ 22 d = τ 41 d ∧ upd (τ 23) e w d = upd (τ 42) e w d ∧ _ ∧ (upd (τ 42) e w d = -9 ∨ ∃ j : Nat, j < T ∧ upd (τ 42) e w d = nI j) ∧ _
  by_cases q : d = e
  · subst q
    rw [upd_at, upd_at]
    exact ⟨w1, rfl, w3, hw.imp id (fun q => isT_of q rfl (by omega)), w5⟩
  · rw [upd_ne q, upd_ne q]
    exact ⟨w1, w2, w3, w4, w5⟩
theorem frost_LI {τ : ST} {T P C e : Nat} {b : Int32} (h : LI τ T P C) (he : e < 30) (hb : b = 0 ∨ b = 1) : (frF τ e b).1 = (if τ 43 e = b then 0 else 1) ∧ (frF τ e b).2 43 = τ 43 ∧ LI (setf (frF τ e b).2 43 e b) T P C := by
  obtain ⟨w1, w2, w3, w4, w5⟩ := h.2.1.2 e he
  have hp : pI (bit (τ 21 4) (nI e)) = τ 43 e := pI_b w5 (h.2.1.1 e he)
  by_cases hs : τ 43 e = b
  · have e1 : frF τ e b = (0, τ) := by unfold frF; rw [hp, if_pos hs]
    rw [e1, if_pos hs]
    refine ⟨rfl, rfl, ?_⟩
    show LI (setf τ 43 e b) T P C
    rw [setf_id hs]
    exact h
  · have e1 : frF τ e b = (1, setf τ 21 4 (τ 21 4 ^^^ own1 (nI e))) := by unfold frF; rw [hp, if_neg hs]
    rw [e1, if_neg hs]
    refine ⟨rfl, rfl, h.1.cg rfl rfl (fun k h1 h2 => by rw [setf_n (by omega)]; exact setf_n (by omega)) (fun i _ _ _ => rfl), ⟨fun i hi => ?_, fun d hd => ?_⟩, h.2.2.1.cg rfl (fun k h1 h2 => by rw [setf_n (by omega)]; exact setf_n (by omega)) rfl (fun _ _ => rfl), h.2.2.2⟩
    · show bit (τ 21 4 ^^^ own1 (nI e)) (nI i) ↔ ¬ upd (τ 43) e b i = 0
      rw [bit_xor (by omega), bit_own (by omega) (by omega), h.2.1.1 i hi]
      by_cases q : i = e
      · subst q
        rw [upd_at]
        rcases w5 with w | w <;> rcases hb with rfl | rfl
        · exact absurd w hs
        · exact ⟨fun _ => by decide, fun _ z => z.mpr rfl w⟩
        · exact ⟨fun z => absurd ⟨fun _ => rfl, fun _ => by rw [w]; decide⟩ z, fun z => absurd rfl z⟩
        · exact absurd w hs
      · rw [upd_ne q]
        exact ⟨fun z => Decidable.of_not_not (fun y => z ⟨fun y2 => absurd (Decidable.of_not_not y) y2, fun y2 => absurd y2 q⟩), fun z y => q (y.mp z)⟩
    · obtain ⟨v1, v2, v3, v4, v5⟩ := h.2.1.2 d hd
      refine ⟨v1, v2, v3, v4, ?_⟩
      show upd (τ 43) e b d = 0 ∨ upd (τ 43) e b d = 1
      by_cases q : d = e
      · subst q; rw [upd_at]; exact hb
      · rw [upd_ne q]; exact v5
theorem LI_shoo {τ : ST} {T P : Nat} (h : LI τ T P 6) : LI (setf (setf τ 21 5 (nI 1)) 40 2 1) T P 1 := by
  have u : ∀ i, i ≠ 2 → upd (τ 40) 2 1 i = τ 40 i := fun i q => upd_ne q
  refine ⟨h.1.cg rfl rfl (fun k h1 h2 => by rw [setf_n (by omega), setf_n (by omega)]) (fun i _ h1 _ => u i h1), h.2.1.cg rfl (fun k h1 h2 => by rw [setf_n (by omega), setf_n (by omega)]) (fun k h1 h2 => by rw [setf_n (by omega), setf_n (by omega)]), ⟨by decide, rfl, rfl, fun c hc => ?_⟩, h.2.2.2.trans (u 21 (by decide)).symm⟩
  show τ 24 c = upd (τ 40) 2 1 (34 + 2 * c) ∧ τ 25 c = upd (τ 40) 2 1 (35 + 2 * c) ∧ (∃ d : Nat, d < 30 ∧ upd (τ 40) 2 1 (34 + 2 * c) = nI d) ∧ ∃ t : Nat, t < T ∧ upd (τ 40) 2 1 (35 + 2 * c) = nI t
  rw [u _ (by omega), u _ (by omega)]
  exact h.2.2.1.2.2.2 c (by omega)
theorem LI_crow {τ : ST} {T P C e j : Nat} (h : LI τ T P C) (hC6 : C < 6) (he : e < 30) (hj : j < T) : LI (setf (setf (setf (setf (setf (setf τ 24 C (nI e)) 25 C (nI j)) 21 5 (nI (C + 1))) 40 (34 + 2 * C) (nI e)) 40 (35 + 2 * C) (nI j)) 40 2 (nI (C + 1))) T P (C + 1) := by
  have eg : (setf (setf (setf (setf (setf (setf τ 24 C (nI e)) 25 C (nI j)) 21 5 (nI (C + 1))) 40 (34 + 2 * C) (nI e)) 40 (35 + 2 * C) (nI j)) 40 2 (nI (C + 1))) 40 = upd (upd (upd (τ 40) (34 + 2 * C) (nI e)) (35 + 2 * C) (nI j)) 2 (nI (C + 1)) := rfl
  have u : ∀ i, i ≠ 2 → i ≠ 34 + 2 * C → i ≠ 35 + 2 * C → upd (upd (upd (τ 40) (34 + 2 * C) (nI e)) (35 + 2 * C) (nI j)) 2 (nI (C + 1)) i = τ 40 i := fun i a b c => by rw [upd_ne a, upd_ne c, upd_ne b]
  refine ⟨h.1.cg rfl rfl (fun k h1 h2 => by rw [setf_n (by omega), setf_n (by omega), setf_n (by omega), setf_n (by omega), setf_n (by omega), setf_n (by omega)]) (fun i hi h1 _ => by rw [eg]; exact u i h1 (by omega) (by omega)), h.2.1.cg rfl (fun k h1 h2 => by rw [setf_n (by omega), setf_n (by omega), setf_n (by omega), setf_n (by omega), setf_n (by omega), setf_n (by omega)]) (fun k h1 h2 => by rw [setf_n (by omega), setf_n (by omega), setf_n (by omega), setf_n (by omega), setf_n (by omega), setf_n (by omega)]), ⟨by omega, rfl, ?_, fun c hc => ?_⟩, ?_⟩
  · rw [eg]; exact upd_at
  · rw [eg]
    show upd (τ 24) C (nI e) c = _ ∧ upd (τ 25) C (nI j) c = _ ∧ _
    by_cases q : c = C
    · subst q
      rw [upd_at, upd_at, upd_ne (by omega), upd_ne (by omega), upd_at, upd_ne (by omega), upd_at]
      exact ⟨rfl, rfl, ⟨e, he, rfl⟩, j, hj, rfl⟩
    · rw [upd_ne q, upd_ne q, u _ (by omega) (by omega) (by omega), u _ (by omega) (by omega) (by omega)]
      exact h.2.2.1.2.2.2 c (by omega)
  · rw [eg, u 21 (by decide) (by omega) (by omega)]
    exact h.2.2.2
theorem LI_felt {τ : ST} {T P C : Nat} {y : Int32} (h : LI τ T P C) : LI (setf (setf τ 12 2 y) 40 21 y) T P C :=
  ⟨h.1.cg rfl rfl (fun k h1 h2 => by rw [setf_n (by omega), setf_n (by omega)]) (fun i _ _ h2 => upd_ne h2), h.2.1.cg rfl (fun k h1 h2 => by rw [setf_n (by omega), setf_n (by omega)]) (fun k h1 h2 => by rw [setf_n (by omega), setf_n (by omega)]), h.2.2.1.cg rfl (fun k h1 h2 => by rw [setf_n (by omega), setf_n (by omega)]) rfl (fun i hi => upd_ne (by omega)), rfl⟩
theorem fell_1 {τ : ST} {T P C j : Nat} (h : LI τ T P C) (hj : j < T) : (feF τ j 1).1 = (if (τ 40 21 >>> (nI j &&& 31)) &&& 1 = 1 then 0 else 1) ∧ (feF τ j 1).2 40 = τ 40 ∧ LI (setf (feF τ j 1).2 40 21 (τ 40 21 ||| own1 (nI j))) T P C := by
  have hT6 := h.T6
  have e2 := h.2.2.2
  by_cases hb : bit (τ 40 21) (nI j)
  · have e1 : feF τ j 1 = (0, τ) := by unfold feF; rw [e2, pI_t hb, if_pos rfl]
    rw [e1, if_pos (bit_1.mpr hb)]
    refine ⟨rfl, rfl, ?_⟩
    show LI (setf τ 40 21 _) T P C
    rw [setf_id]
    · exact h
    · refine bit_ext fun i hi => ?_
      rw [bit_or hi, bit_own (by omega) hi]
      exact ⟨Or.inl, fun q => q.elim id (fun z => by rw [z]; exact hb)⟩
  · have e1 : feF τ j 1 = (1, setf τ 12 2 (τ 12 2 ^^^ own1 (nI j))) := by unfold feF; rw [e2, pI_f hb, if_neg (by decide)]
    rw [e1, if_neg (fun q => hb (bit_1.mp q))]
    refine ⟨rfl, rfl, ?_⟩
    show LI (setf (setf τ 12 2 (τ 12 2 ^^^ own1 (nI j))) 40 21 _) T P C
    rw [e2, show τ 40 21 ^^^ own1 (nI j) = τ 40 21 ||| own1 (nI j) from bit_ext fun i hi => by
      rw [bit_or hi, bit_xor hi, bit_own (by omega) hi]
      by_cases q : i = j
      · subst q
        exact ⟨fun _ => Or.inr rfl, fun _ z => hb (z.mpr rfl)⟩
      · exact ⟨fun z => Decidable.of_not_not (fun y => z ⟨fun a => absurd (Or.inl a) y, fun a => absurd a q⟩), fun z y => z.elim (fun a => q (y.mp a)) q⟩]
    exact LI_felt h
theorem fell_0 {τ : ST} {T P C j : Nat} (h : LI τ T P C) (hj : j < T) : (feF τ j 0).1 = (if (τ 40 21 >>> (nI j &&& 31)) &&& 1 = 0 then 0 else 1) ∧ (feF τ j 0).2 40 = τ 40 ∧ LI (setf (feF τ j 0).2 40 21 (τ 40 21 &&& (own1 (nI j) ^^^ -1))) T P C := by
  have hT6 := h.T6
  have e2 := h.2.2.2
  by_cases hb : bit (τ 40 21) (nI j)
  · have e1 : feF τ j 0 = (1, setf τ 12 2 (τ 12 2 ^^^ own1 (nI j))) := by unfold feF; rw [e2, pI_t hb, if_neg (by decide)]
    rw [e1, if_neg hb]
    refine ⟨rfl, rfl, ?_⟩
    show LI (setf (setf τ 12 2 (τ 12 2 ^^^ own1 (nI j))) 40 21 _) T P C
    rw [e2, show τ 40 21 ^^^ own1 (nI j) = τ 40 21 &&& (own1 (nI j) ^^^ -1) from bit_ext fun i hi => by
      rw [bit_xor hi, bit_and hi, bit_not hi, bit_own (by omega) hi]
      by_cases q : i = j
      · subst q
        exact ⟨fun z => absurd ⟨fun _ => rfl, fun _ => hb⟩ z, fun z => absurd rfl z.2⟩
      · exact ⟨fun z => ⟨Decidable.of_not_not (fun y => z ⟨fun a => absurd a y, fun a => absurd a q⟩), q⟩, fun z y => z.2 (y.mp z.1)⟩]
    exact LI_felt h
  · have e1 : feF τ j 0 = (0, τ) := by unfold feF; rw [e2, pI_f hb, if_pos rfl]
    rw [e1, if_pos (Decidable.of_not_not hb)]
    refine ⟨rfl, rfl, ?_⟩
    show LI (setf τ 40 21 _) T P C
    rw [setf_id]
    · exact h
    · refine bit_ext fun i hi => ?_
      rw [bit_and hi, bit_not hi, bit_own (by omega) hi]
      exact ⟨fun q => ⟨q, fun z => hb (by rw [← z]; exact q)⟩, fun q => q.1⟩
theorem rain_ok {v : Nat} (h : v ≤ 9) : ¬ (nI v < 0 ∨ 9 < nI v) := fun q => q.elim (nI_pos (by omega)) (nI_nlt (a := 9) h (by decide))
theorem dec1 {j T : Nat} (hj : j < T + 1) (hT6 : T ≤ 6) (h : 0 ≤ nI j - 1) : isT (nI T) (nI j - 1) := by
  rcases Nat.eq_zero_or_pos j with e | e
  · subst e; exact absurd h (by decide)
  · rw [show nI j - 1 = nI (j - 1) from pk_sub (b := 1) e]
    exact isT_nI (by omega) (by omega)

set_option maxHeartbeats 4000000 in
set_option maxRecDepth 100000 in
theorem c_L_change {l : Launch} {D : DD} {ad : Nat → Nat} (σ : ST) (x y : Int32) (T P C2 : Nat) (hL : LI σ T P C2) : Ct l yL_change cL_change 11 (Option.some FieldType.boolean) 2 44 D ad [.ref (ad 0), .int x, .int y, .ref (ad 40), .ref (ad 41), .ref (ad 42), .ref (ad 43)] σ (pq (fun v τ => v = 1 ∧ ∃ c : Nat, LI τ T P c)) := by
  refine Ct.of2 [.ref (ad 0), .int x, .int y, .ref (ad 40), .ref (ad 41), .ref (ad 42), .ref (ad 43), .float 0, .float 0, .float 0, .float 0] rfl (Nat.le_of_ble_eq_true rfl) rfl ?_
  rintro X C rfl rfl rfl hxn hR
  have hn7 : 7 < xn X := by rw [← hxn]; decide
  have hn8 : 8 < xn X := by rw [← hxn]; decide
  have hn9 : 9 < xn X := by rw [← hxn]; decide
  have hn10 : 10 < xn X := by rw [← hxn]; decide
  have hT6 := hL.T6
  have hT0 := hL.T0
  refine V_iconst (q := 1) (v := (nI 0)) C rfl rfl dL_change_0 ?_
  refine V_istore_7 (q := 3) C hn7 rfl rfl dL_change_1 ?_
  have hx3 : ∀ τ : ST, LI τ T P C2 → V X 3 [.ref (xad X 0), .int x, .int y, .ref (xad X 40), .ref (xad X 41), .ref (xad X 42), .ref (xad X 43), .int (nI 6), .float 0, .float 0, .float 0] [] (τ) := by
    intro τ hτ
    refine V_iload_7 (q := 5) C rfl dL_change_3 ?_
    refine V_bipush (q := 7) (v := 6) C (by decide) rfl dL_change_5 ?_
    refine V_icmp_ge_t (tgt := 169) C (by decide) (by decide) dL_change_7 ?_
    refine V_iload_n_1 (q := 170) C rfl dL_change_169 ?_
    refine V_bipush (q := 172) (v := 7) C (by decide) rfl dL_change_170 ?_
    refine V_ishr (q := 173) C rfl dL_change_172 ?_
    refine V_topi (fun y1 _ => ?_)
    refine V_bipush (q := 175) (v := 30) C (by decide) rfl dL_change_173 ?_
    refine V_cS2r (q := 178) C (c_L_some _ _ _ (by decide)) cw_L_some cs_L_some wm_L_15 ⟨by decide, by decide⟩ (Nat.le_of_ble_eq_true rfl) rfl dL_change_175 ?_
    obtain ⟨e, he, ee⟩ := some_nI (x := y1) 30 (show (30 : Int32) = nI 30 from rfl) (by decide) (by decide)
    rw [ee]
    refine V_istore_7 (q := 180) C hn7 rfl rfl dL_change_178 ?_
    have k198 : ∀ b : Int32, (b = 0 ∨ b = 1) → V X 198 [.ref (xad X 0), .int x, .int y, .ref (xad X 40), .ref (xad X 41), .ref (xad X 42), .ref (xad X 43), .int (nI e), .int b, .float 0, .float 0] [] (τ) := by
      intro b hb
      have k242 : ∀ τ : ST, LI τ T P C2 → V X 242 [.ref (xad X 0), .int x, .int y, .ref (xad X 40), .ref (xad X 41), .ref (xad X 42), .ref (xad X 43), .float 0, .float 0, .float 0, .float 0] [] (τ) := by
        intro τ2 h2
        have k265 : ∀ (τ : ST) (C : Nat), C < 6 → LI τ T P C → V X 265 [.ref (xad X 0), .int x, .int y, .ref (xad X 40), .ref (xad X 41), .ref (xad X 42), .ref (xad X 43), .float 0, .float 0, .float 0, .float 0] [] (τ) := by
          intro τ3 c hC6 h3
          refine V_iload_n_2 (q := 266) C rfl dL_change_265 ?_
          refine V_bipush (q := 268) (v := 10) C (by decide) rfl dL_change_266 ?_
          refine V_ishr (q := 269) C rfl dL_change_268 ?_
          refine V_topi (fun y1 _ => ?_)
          refine V_bipush (q := 271) (v := 12) C (by decide) rfl dL_change_269 ?_
          refine V_cS2r (q := 274) C (c_L_some _ _ _ (by decide)) cw_L_some cs_L_some wm_L_15 ⟨by decide, by decide⟩ (Nat.le_of_ble_eq_true rfl) rfl dL_change_271 ?_
          obtain ⟨e, he, ee⟩ := some_nI (x := y1) 12 (show (12 : Int32) = nI 12 from rfl) (by decide) (by decide)
          rw [ee]
          refine V_istore_7 (q := 276) C hn7 rfl rfl dL_change_274 ?_
          refine V_iload_n_1 (q := 277) C rfl dL_change_276 ?_
          refine V_bipush (q := 279) (v := 12) C (by decide) rfl dL_change_277 ?_
          refine V_ishr (q := 280) C rfl dL_change_279 ?_
          refine V_topi (fun y2 _ => ?_)
          refine V_aload_n_3 (q := 281) C rfl dL_change_280 ?_
          refine V_iconst (q := 282) (v := 0) C rfl rfl dL_change_281 ?_
          refine V_ialde (q := 283) C 0 rfl (by show _ < 48; omega) h3.T40 rfl (by decide) (by decide) rfl dL_change_282 ?_
          refine V_cS2r (q := 286) C (c_L_some _ _ _ (nI_ne0 hT0 (by omega))) cw_L_some cs_L_some wm_L_15 ⟨by decide, by decide⟩ (Nat.le_of_ble_eq_true rfl) rfl dL_change_283 ?_
          obtain ⟨j, hj, ej⟩ := some_nI (x := y2) (T) rfl (by omega) (by omega)
          rw [ej]
          refine V_istore_9 (q := 288) C hn9 rfl rfl dL_change_286 ?_
          refine V_aload_n_0 (q := 289) C rfl dL_change_288 ?_
          refine V_iload_7 (q := 291) C rfl dL_change_289 ?_
          refine V_iload_9 (q := 293) C rfl dL_change_291 ?_
          refine V_cV2r (q := 296) C (c_X8_crow_v τ3 T e j c (by omega) h3.T12 hT6 hj h3.C21 hC6) cw_X8_crow cv_X8_crow wm_L_42 (by decide) ob_X8 ⟨by decide, by decide⟩ (Nat.le_of_ble_eq_true rfl) rfl dL_change_293 ?_
          refine V_aload_n_3 (q := 297) C rfl dL_change_296 ?_
          refine V_iconst (q := 298) (v := 2) C rfl rfl dL_change_297 ?_
          refine V_ialde (q := 299) C 2 rfl (by show _ < 48; omega) h3.C40 rfl (by decide) (by decide) rfl dL_change_298 ?_
          refine V_icmp_eq_t (tgt := 304) C rfl (by decide) dL_change_299 ?_
          refine V_aload_n_3 (q := 305) C rfl dL_change_304 ?_
          refine V_bipush (q := 307) (v := 34) C (by decide) rfl dL_change_305 ?_
          refine V_iconst (q := 308) (v := 2) C rfl rfl dL_change_307 ?_
          refine V_aload_n_3 (q := 309) C rfl dL_change_308 ?_
          refine V_iconst (q := 310) (v := 2) C rfl rfl dL_change_309 ?_
          refine V_ialde (q := 311) C 2 rfl (by show _ < 48; omega) h3.C40 rfl (by decide) (by decide) rfl dL_change_310 ?_
          refine V_imul (q := 312) C rfl dL_change_311 ?_
          refine V_iadd (q := 313) C rfl dL_change_312 ?_
          refine V_iload_7 (q := 315) C rfl dL_change_313 ?_
          refine V_iast (q := 316) C (34 + 2 * c) (ix2 34 c) (by show _ < 48; omega) rfl (by decide) (by decide) rfl dL_change_315 ?_
          refine V_aload_n_3 (q := 317) C rfl dL_change_316 ?_
          refine V_bipush (q := 319) (v := 35) C (by decide) rfl dL_change_317 ?_
          refine V_iconst (q := 320) (v := 2) C rfl rfl dL_change_319 ?_
          refine V_aload_n_3 (q := 321) C rfl dL_change_320 ?_
          refine V_iconst (q := 322) (v := 2) C rfl rfl dL_change_321 ?_
          refine V_ialde (q := 323) C 2 rfl (by show _ < 48; omega) ((upd_ne (by omega)).trans h3.C40) rfl (by decide) (by decide) rfl dL_change_322 ?_
          refine V_imul (q := 324) C rfl dL_change_323 ?_
          refine V_iadd (q := 325) C rfl dL_change_324 ?_
          refine V_iload_9 (q := 327) C rfl dL_change_325 ?_
          refine V_iast (q := 328) C (35 + 2 * c) (ix2 35 c) (by show _ < 48; omega) rfl (by decide) (by decide) rfl dL_change_327 ?_
          refine V_aload_n_3 (q := 329) C rfl dL_change_328 ?_
          refine V_iconst (q := 330) (v := 2) C rfl rfl dL_change_329 ?_
          refine V_dup2 (q := 331) C rfl rfl rfl dL_change_330 ?_
          refine V_ialde (q := 332) C 2 rfl (by show _ < 48; omega) ((upd_ne (by omega)).trans ((upd_ne (by omega)).trans h3.C40)) rfl (by decide) (by decide) rfl dL_change_331 ?_
          refine V_iconst (q := 333) (v := 1) C rfl rfl dL_change_332 ?_
          refine V_iadd (q := 334) C rfl dL_change_333 ?_
          rw [show nI c + 1 = nI (c + 1) from nI_1 c]
          refine V_iast (q := 335) C 2 rfl (by show _ < 48; omega) rfl (by decide) (by decide) rfl dL_change_334 ?_
          refine V_gen (Q := fun τ => LI τ T P (c + 1)) (LI_crow h3 hC6 (by omega) hj) (fun τ4 h4 => ?_)
          refine V_iload_n_2 (q := 336) C rfl dL_change_335 ?_
          refine V_bipush (q := 338) (v := 13) C (by decide) rfl dL_change_336 ?_
          refine V_ishr (q := 339) C rfl dL_change_338 ?_
          refine V_topi (fun y3 _ => ?_)
          refine V_aload_n_3 (q := 340) C rfl dL_change_339 ?_
          refine V_iconst (q := 341) (v := 0) C rfl rfl dL_change_340 ?_
          refine V_ialde (q := 342) C 0 rfl (by show _ < 48; omega) h4.T40 rfl (by decide) (by decide) rfl dL_change_341 ?_
          refine V_cS2r (q := 345) C (c_L_some _ _ _ (nI_ne0 hT0 (by omega))) cw_L_some cs_L_some wm_L_15 ⟨by decide, by decide⟩ (Nat.le_of_ble_eq_true rfl) rfl dL_change_342 ?_
          obtain ⟨i, hi, ei⟩ := some_nI (x := y3) (T) rfl (by omega) (by omega)
          rw [ei]
          refine V_istore_9 (q := 347) C hn9 rfl rfl dL_change_345 ?_
          refine V_iload_n_1 (q := 348) C rfl dL_change_347 ?_
          refine V_bipush (q := 350) (v := 15) C (by decide) rfl dL_change_348 ?_
          refine V_ishr (q := 351) C rfl dL_change_350 ?_
          refine V_topi (fun y5 _ => ?_)
          refine V_iconst (q := 352) (v := 4) C rfl rfl dL_change_351 ?_
          refine V_cS2r (q := 355) C (c_L_some _ _ _ (by decide)) cw_L_some cs_L_some wm_L_15 ⟨by decide, by decide⟩ (Nat.le_of_ble_eq_true rfl) rfl dL_change_352 ?_
          refine V_if_ne (tgt := 362) C rfl (by decide) dL_change_355 (fun c355 => ?_) (fun c355 => ?_)
          · refine V_iconst (q := 363) (v := 0) C rfl rfl dL_change_362 ?_
            refine V_istore_10 (q := 365) C hn10 rfl rfl dL_change_363 ?_
            refine V_aload_n_0 (q := 366) C rfl dL_change_365 ?_
            refine V_iload_9 (q := 368) C rfl dL_change_366 ?_
            refine V_iload_10 (q := 370) C rfl dL_change_368 ?_
            refine V_cV2r (q := 373) C (Ct.mono (v' := some (.int (if (τ4 40 21 >>> (nI i &&& 31)) &&& 1 = 0 then 0 else 1))) (c_X8_fell_v τ4 T i 0 h4.T12 hT6 hi) (congrArg (fun z => some (Value.int z)) (fell_0 h4 hi).1) rfl) cw_X8_fell cv_X8_fell wm_L_45 (by decide) ob_X8 ⟨by decide, by decide⟩ (Nat.le_of_ble_eq_true rfl) rfl dL_change_370 ?_
            refine V_aload_n_3 (q := 374) C rfl dL_change_373 ?_
            refine V_bipush (q := 376) (v := 21) C (by decide) rfl dL_change_374 ?_
            refine V_ialde (q := 377) (v := τ4 40 21) C 21 rfl (by show _ < 48; omega) (congrFun (fell_0 h4 hi).2.1 21) rfl (by decide) (by decide) rfl dL_change_376 ?_
            refine V_iload_9 (q := 379) C rfl dL_change_377 ?_
            refine V_ishr (q := 380) C rfl dL_change_379 ?_
            refine V_iconst (q := 381) (v := 1) C rfl rfl dL_change_380 ?_
            refine V_iand (q := 382) C rfl dL_change_381 ?_
            refine V_iconst (q := 383) (v := 1) C rfl rfl dL_change_382 ?_
            refine V_icmp_ne (tgt := 390) C rfl (by decide) dL_change_383 (fun c383 => ?_) (fun c383 => ?_)
            · refine V_iconst (q := 391) (v := 0) C rfl rfl dL_change_390 ?_
              refine V_iload_10 (q := 393) C rfl dL_change_391 ?_
              refine V_icmp_ne_f (tgt := 400) C rfl rfl (by decide) dL_change_393 ?_
              refine V_iconst (q := 397) (v := 0) C rfl rfl dL_change_396 ?_
              refine V_goto (tgt := 401) C (by decide) dL_change_397 ?_
              refine V_icmp_eq_t (tgt := 406) C (if_pos (and1_01.resolve_right c383)) (by decide) dL_change_401 ?_
              refine V_aload_n_3 (q := 407) C rfl dL_change_406 ?_
              refine V_bipush (q := 409) (v := 21) C (by decide) rfl dL_change_407 ?_
              refine V_iload_10 (q := 411) C rfl dL_change_409 ?_
              refine V_if_eq_t (tgt := 426) C rfl (by decide) dL_change_411 ?_
              refine V_aload_n_3 (q := 427) C rfl dL_change_426 ?_
              refine V_bipush (q := 429) (v := 21) C (by decide) rfl dL_change_427 ?_
              refine V_ialde (q := 430) (v := τ4 40 21) C 21 rfl (by show _ < 48; omega) (congrFun (fell_0 h4 hi).2.1 21) rfl (by decide) (by decide) rfl dL_change_429 ?_
              refine V_iconst (q := 431) (v := 1) C rfl rfl dL_change_430 ?_
              refine V_iload_9 (q := 433) C rfl dL_change_431 ?_
              refine V_ishl (q := 434) C rfl dL_change_433 ?_
              refine V_iconst (q := 435) (v := (-1)) C rfl rfl dL_change_434 ?_
              refine V_ixor (q := 436) C rfl dL_change_435 ?_
              refine V_iand (q := 437) C rfl dL_change_436 ?_
              refine V_iast (q := 438) C 21 rfl (by show _ < 48; omega) rfl (by decide) (by decide) rfl dL_change_437 ?_
              refine V_iconst (q := 439) (v := 1) C rfl rfl dL_change_438 ?_
              refine V_zret C hR rfl dL_change_439 ?_
              exact ⟨_, rfl, rfl, c + 1, (fell_0 h4 hi).2.2⟩
            · refine V_iconst (q := 387) (v := 1) C rfl rfl dL_change_386 ?_
              refine V_goto (tgt := 391) C (by decide) dL_change_387 ?_
              refine V_iload_10 (q := 393) C rfl dL_change_391 ?_
              refine V_icmp_ne_t (tgt := 400) C (by decide) (by decide) dL_change_393 ?_
              refine V_iconst (q := 401) (v := 1) C rfl rfl dL_change_400 ?_
              refine V_icmp_eq_t (tgt := 406) C (if_neg (by rw [c383]; decide)) (by decide) dL_change_401 ?_
              refine V_aload_n_3 (q := 407) C rfl dL_change_406 ?_
              refine V_bipush (q := 409) (v := 21) C (by decide) rfl dL_change_407 ?_
              refine V_iload_10 (q := 411) C rfl dL_change_409 ?_
              refine V_if_eq_t (tgt := 426) C rfl (by decide) dL_change_411 ?_
              refine V_aload_n_3 (q := 427) C rfl dL_change_426 ?_
              refine V_bipush (q := 429) (v := 21) C (by decide) rfl dL_change_427 ?_
              refine V_ialde (q := 430) (v := τ4 40 21) C 21 rfl (by show _ < 48; omega) (congrFun (fell_0 h4 hi).2.1 21) rfl (by decide) (by decide) rfl dL_change_429 ?_
              refine V_iconst (q := 431) (v := 1) C rfl rfl dL_change_430 ?_
              refine V_iload_9 (q := 433) C rfl dL_change_431 ?_
              refine V_ishl (q := 434) C rfl dL_change_433 ?_
              refine V_iconst (q := 435) (v := (-1)) C rfl rfl dL_change_434 ?_
              refine V_ixor (q := 436) C rfl dL_change_435 ?_
              refine V_iand (q := 437) C rfl dL_change_436 ?_
              refine V_iast (q := 438) C 21 rfl (by show _ < 48; omega) rfl (by decide) (by decide) rfl dL_change_437 ?_
              refine V_iconst (q := 439) (v := 1) C rfl rfl dL_change_438 ?_
              refine V_zret C hR rfl dL_change_439 ?_
              exact ⟨_, rfl, rfl, c + 1, (fell_0 h4 hi).2.2⟩
          · refine V_iconst (q := 359) (v := 1) C rfl rfl dL_change_358 ?_
            refine V_goto (tgt := 363) C (by decide) dL_change_359 ?_
            refine V_istore_10 (q := 365) C hn10 rfl rfl dL_change_363 ?_
            refine V_aload_n_0 (q := 366) C rfl dL_change_365 ?_
            refine V_iload_9 (q := 368) C rfl dL_change_366 ?_
            refine V_iload_10 (q := 370) C rfl dL_change_368 ?_
            refine V_cV2r (q := 373) C (Ct.mono (v' := some (.int (if (τ4 40 21 >>> (nI i &&& 31)) &&& 1 = 1 then 0 else 1))) (c_X8_fell_v τ4 T i 1 h4.T12 hT6 hi) (congrArg (fun z => some (Value.int z)) (fell_1 h4 hi).1) rfl) cw_X8_fell cv_X8_fell wm_L_45 (by decide) ob_X8 ⟨by decide, by decide⟩ (Nat.le_of_ble_eq_true rfl) rfl dL_change_370 ?_
            refine V_aload_n_3 (q := 374) C rfl dL_change_373 ?_
            refine V_bipush (q := 376) (v := 21) C (by decide) rfl dL_change_374 ?_
            refine V_ialde (q := 377) (v := τ4 40 21) C 21 rfl (by show _ < 48; omega) (congrFun (fell_1 h4 hi).2.1 21) rfl (by decide) (by decide) rfl dL_change_376 ?_
            refine V_iload_9 (q := 379) C rfl dL_change_377 ?_
            refine V_ishr (q := 380) C rfl dL_change_379 ?_
            refine V_iconst (q := 381) (v := 1) C rfl rfl dL_change_380 ?_
            refine V_iand (q := 382) C rfl dL_change_381 ?_
            refine V_iconst (q := 383) (v := 1) C rfl rfl dL_change_382 ?_
            refine V_icmp_ne (tgt := 390) C rfl (by decide) dL_change_383 (fun c383 => ?_) (fun c383 => ?_)
            · refine V_iconst (q := 391) (v := 0) C rfl rfl dL_change_390 ?_
              refine V_iload_10 (q := 393) C rfl dL_change_391 ?_
              refine V_icmp_ne_t (tgt := 400) C (by decide) (by decide) dL_change_393 ?_
              refine V_iconst (q := 401) (v := 1) C rfl rfl dL_change_400 ?_
              refine V_icmp_eq_t (tgt := 406) C (if_neg c383) (by decide) dL_change_401 ?_
              refine V_aload_n_3 (q := 407) C rfl dL_change_406 ?_
              refine V_bipush (q := 409) (v := 21) C (by decide) rfl dL_change_407 ?_
              refine V_iload_10 (q := 411) C rfl dL_change_409 ?_
              refine V_if_eq_f (tgt := 426) C (by decide) rfl (by decide) dL_change_411 ?_
              refine V_aload_n_3 (q := 415) C rfl dL_change_414 ?_
              refine V_bipush (q := 417) (v := 21) C (by decide) rfl dL_change_415 ?_
              refine V_ialde (q := 418) (v := τ4 40 21) C 21 rfl (by show _ < 48; omega) (congrFun (fell_1 h4 hi).2.1 21) rfl (by decide) (by decide) rfl dL_change_417 ?_
              refine V_iconst (q := 419) (v := 1) C rfl rfl dL_change_418 ?_
              refine V_iload_9 (q := 421) C rfl dL_change_419 ?_
              refine V_ishl (q := 422) C rfl dL_change_421 ?_
              refine V_ior (q := 423) C rfl dL_change_422 ?_
              refine V_goto (tgt := 437) C (by decide) dL_change_423 ?_
              refine V_iast (q := 438) C 21 rfl (by show _ < 48; omega) rfl (by decide) (by decide) rfl dL_change_437 ?_
              refine V_iconst (q := 439) (v := 1) C rfl rfl dL_change_438 ?_
              refine V_zret C hR rfl dL_change_439 ?_
              exact ⟨_, rfl, rfl, c + 1, (fell_1 h4 hi).2.2⟩
            · refine V_iconst (q := 387) (v := 1) C rfl rfl dL_change_386 ?_
              refine V_goto (tgt := 391) C (by decide) dL_change_387 ?_
              refine V_iload_10 (q := 393) C rfl dL_change_391 ?_
              refine V_icmp_ne_f (tgt := 400) C rfl rfl (by decide) dL_change_393 ?_
              refine V_iconst (q := 397) (v := 0) C rfl rfl dL_change_396 ?_
              refine V_goto (tgt := 401) C (by decide) dL_change_397 ?_
              refine V_icmp_eq_t (tgt := 406) C (if_pos c383) (by decide) dL_change_401 ?_
              refine V_aload_n_3 (q := 407) C rfl dL_change_406 ?_
              refine V_bipush (q := 409) (v := 21) C (by decide) rfl dL_change_407 ?_
              refine V_iload_10 (q := 411) C rfl dL_change_409 ?_
              refine V_if_eq_f (tgt := 426) C (by decide) rfl (by decide) dL_change_411 ?_
              refine V_aload_n_3 (q := 415) C rfl dL_change_414 ?_
              refine V_bipush (q := 417) (v := 21) C (by decide) rfl dL_change_415 ?_
              refine V_ialde (q := 418) (v := τ4 40 21) C 21 rfl (by show _ < 48; omega) (congrFun (fell_1 h4 hi).2.1 21) rfl (by decide) (by decide) rfl dL_change_417 ?_
              refine V_iconst (q := 419) (v := 1) C rfl rfl dL_change_418 ?_
              refine V_iload_9 (q := 421) C rfl dL_change_419 ?_
              refine V_ishl (q := 422) C rfl dL_change_421 ?_
              refine V_ior (q := 423) C rfl dL_change_422 ?_
              refine V_goto (tgt := 437) C (by decide) dL_change_423 ?_
              refine V_iast (q := 438) C 21 rfl (by show _ < 48; omega) rfl (by decide) (by decide) rfl dL_change_437 ?_
              refine V_iconst (q := 439) (v := 1) C rfl rfl dL_change_438 ?_
              refine V_zret C hR rfl dL_change_439 ?_
              exact ⟨_, rfl, rfl, c + 1, (fell_1 h4 hi).2.2⟩
        refine V_aload_n_3 (q := 243) C rfl dL_change_242 ?_
        refine V_iconst (q := 244) (v := 2) C rfl rfl dL_change_243 ?_
        refine V_ialde (q := 245) C 2 rfl (by show _ < 48; omega) h2.C40 rfl (by decide) (by decide) rfl dL_change_244 ?_
        refine V_bipush (q := 247) (v := 6) C (by decide) rfl dL_change_245 ?_
        refine V_icmp_ne (tgt := 265) C rfl (by decide) dL_change_247 (fun c247 => ?_) (fun c247 => ?_)
        · exact k265 _ C2 (by rcases Nat.lt_or_ge C2 6 with h | h; exact h; exact absurd (congrArg nI (show C2 = 6 by have := h2.C6; omega)) c247) h2
        · have hC : C2 = 6 := (nI_eq (b := 6) (by have := h2.C6; omega) (by decide)).mp c247
          subst hC
          refine V_aload_n_0 (q := 251) C rfl dL_change_250 ?_
          refine V_iconst (q := 252) (v := (nI 5)) C rfl rfl dL_change_251 ?_
          refine V_cV1r (q := 255) C (Ct.mono (v' := some (.int (nI 1))) (τ' := setf τ2 21 5 (nI 1)) (c_X8_shoo_v τ2 6 5 h2.C21 (by decide) (by decide)) rfl rfl) cw_X8_shoo cv_X8_shoo wm_L_38 (by decide) ob_X8 ⟨by decide, by decide⟩ (Nat.le_of_ble_eq_true rfl) rfl dL_change_252 ?_
          refine V_iconst (q := 256) (v := 1) C rfl rfl dL_change_255 ?_
          refine V_icmp_eq_t (tgt := 261) C rfl (by decide) dL_change_256 ?_
          refine V_aload_n_3 (q := 262) C rfl dL_change_261 ?_
          refine V_iconst (q := 263) (v := 2) C rfl rfl dL_change_262 ?_
          refine V_iconst (q := 264) (v := 1) C rfl rfl dL_change_263 ?_
          refine V_iast (q := 265) C 2 rfl (by show _ < 48; omega) rfl (by decide) (by decide) rfl dL_change_264 ?_
          exact k265 _ 1 (by decide) (LI_shoo h2)
      rcases hb with rfl | rfl
      · refine V_aload_n_0 (q := 199) C rfl dL_change_198 ?_
        refine V_iload_7 (q := 201) C rfl dL_change_199 ?_
        refine V_iload_8 (q := 203) C rfl dL_change_201 ?_
        refine V_iconst (q := 204) (v := 1) C rfl rfl dL_change_203 ?_
        refine V_icmp_ne_t (tgt := 211) C (by decide) (by decide) dL_change_204 ?_
        refine V_iconst (q := 212) (v := 0) C rfl rfl dL_change_211 ?_
        refine V_cV2r (q := 215) C (Ct.mono (v' := some (.int (if τ 43 e = 0 then 0 else 1))) (c_X8_frost_v τ e T 0 he hτ.T12 hT6 hT0) (congrArg (fun z => some (Value.int z)) (frost_LI hτ he (Or.inl rfl)).1) rfl) cw_X8_frost cv_X8_frost wm_L_34 (by decide) ob_X8 ⟨by decide, by decide⟩ (Nat.le_of_ble_eq_true rfl) rfl dL_change_212 ?_
        refine V_aload_6 (q := 217) C rfl dL_change_215 ?_
        refine V_iload_7 (q := 219) C rfl dL_change_217 ?_
        refine V_ialde (q := 220) (v := τ 43 e) C e rfl (by show _ < 30; omega) (congrFun (frost_LI hτ he (Or.inl rfl)).2.1 e) rfl (by decide) (by decide) rfl dL_change_219 ?_
        refine V_iload_8 (q := 222) C rfl dL_change_220 ?_
        refine V_icmp_ne (tgt := 229) C rfl (by decide) dL_change_222 (fun c222 => ?_) (fun c222 => ?_)
        · refine V_iconst (q := 230) (v := 1) C rfl rfl dL_change_229 ?_
          refine V_icmp_eq_t (tgt := 235) C (if_neg c222) (by decide) dL_change_230 ?_
          refine V_aload_6 (q := 237) C rfl dL_change_235 ?_
          refine V_iload_7 (q := 239) C rfl dL_change_237 ?_
          refine V_iload_8 (q := 241) C rfl dL_change_239 ?_
          refine V_iast (q := 242) C e rfl (by show _ < 30; omega) rfl (by decide) (by decide) rfl dL_change_241 ?_
          refine V_wk (lv2 := [.ref (xad X 0), .int x, .int y, .ref (xad X 40), .ref (xad X 41), .ref (xad X 42), .ref (xad X 43), .float 0, .float 0, .float 0, .float 0]) ⟨Or.inl rfl, ⟨Or.inl rfl, ⟨Or.inl rfl, ⟨Or.inl rfl, ⟨Or.inl rfl, ⟨Or.inl rfl, ⟨Or.inl rfl, ⟨Or.inr rfl, ⟨Or.inr rfl, ⟨Or.inr rfl, ⟨Or.inr rfl, trivial⟩⟩⟩⟩⟩⟩⟩⟩⟩⟩⟩ ?_
          exact k242 _ (frost_LI hτ he (Or.inl rfl)).2.2
        · refine V_iconst (q := 226) (v := 0) C rfl rfl dL_change_225 ?_
          refine V_goto (tgt := 230) C (by decide) dL_change_226 ?_
          refine V_icmp_eq_t (tgt := 235) C (if_pos c222) (by decide) dL_change_230 ?_
          refine V_aload_6 (q := 237) C rfl dL_change_235 ?_
          refine V_iload_7 (q := 239) C rfl dL_change_237 ?_
          refine V_iload_8 (q := 241) C rfl dL_change_239 ?_
          refine V_iast (q := 242) C e rfl (by show _ < 30; omega) rfl (by decide) (by decide) rfl dL_change_241 ?_
          refine V_wk (lv2 := [.ref (xad X 0), .int x, .int y, .ref (xad X 40), .ref (xad X 41), .ref (xad X 42), .ref (xad X 43), .float 0, .float 0, .float 0, .float 0]) ⟨Or.inl rfl, ⟨Or.inl rfl, ⟨Or.inl rfl, ⟨Or.inl rfl, ⟨Or.inl rfl, ⟨Or.inl rfl, ⟨Or.inl rfl, ⟨Or.inr rfl, ⟨Or.inr rfl, ⟨Or.inr rfl, ⟨Or.inr rfl, trivial⟩⟩⟩⟩⟩⟩⟩⟩⟩⟩⟩ ?_
          exact k242 _ (frost_LI hτ he (Or.inl rfl)).2.2
      · refine V_aload_n_0 (q := 199) C rfl dL_change_198 ?_
        refine V_iload_7 (q := 201) C rfl dL_change_199 ?_
        refine V_iload_8 (q := 203) C rfl dL_change_201 ?_
        refine V_iconst (q := 204) (v := 1) C rfl rfl dL_change_203 ?_
        refine V_icmp_ne_f (tgt := 211) C rfl rfl (by decide) dL_change_204 ?_
        refine V_iconst (q := 208) (v := 1) C rfl rfl dL_change_207 ?_
        refine V_goto (tgt := 212) C (by decide) dL_change_208 ?_
        refine V_cV2r (q := 215) C (Ct.mono (v' := some (.int (if τ 43 e = 1 then 0 else 1))) (c_X8_frost_v τ e T 1 he hτ.T12 hT6 hT0) (congrArg (fun z => some (Value.int z)) (frost_LI hτ he (Or.inr rfl)).1) rfl) cw_X8_frost cv_X8_frost wm_L_34 (by decide) ob_X8 ⟨by decide, by decide⟩ (Nat.le_of_ble_eq_true rfl) rfl dL_change_212 ?_
        refine V_aload_6 (q := 217) C rfl dL_change_215 ?_
        refine V_iload_7 (q := 219) C rfl dL_change_217 ?_
        refine V_ialde (q := 220) (v := τ 43 e) C e rfl (by show _ < 30; omega) (congrFun (frost_LI hτ he (Or.inr rfl)).2.1 e) rfl (by decide) (by decide) rfl dL_change_219 ?_
        refine V_iload_8 (q := 222) C rfl dL_change_220 ?_
        refine V_icmp_ne (tgt := 229) C rfl (by decide) dL_change_222 (fun c222 => ?_) (fun c222 => ?_)
        · refine V_iconst (q := 230) (v := 1) C rfl rfl dL_change_229 ?_
          refine V_icmp_eq_t (tgt := 235) C (if_neg c222) (by decide) dL_change_230 ?_
          refine V_aload_6 (q := 237) C rfl dL_change_235 ?_
          refine V_iload_7 (q := 239) C rfl dL_change_237 ?_
          refine V_iload_8 (q := 241) C rfl dL_change_239 ?_
          refine V_iast (q := 242) C e rfl (by show _ < 30; omega) rfl (by decide) (by decide) rfl dL_change_241 ?_
          refine V_wk (lv2 := [.ref (xad X 0), .int x, .int y, .ref (xad X 40), .ref (xad X 41), .ref (xad X 42), .ref (xad X 43), .float 0, .float 0, .float 0, .float 0]) ⟨Or.inl rfl, ⟨Or.inl rfl, ⟨Or.inl rfl, ⟨Or.inl rfl, ⟨Or.inl rfl, ⟨Or.inl rfl, ⟨Or.inl rfl, ⟨Or.inr rfl, ⟨Or.inr rfl, ⟨Or.inr rfl, ⟨Or.inr rfl, trivial⟩⟩⟩⟩⟩⟩⟩⟩⟩⟩⟩ ?_
          exact k242 _ (frost_LI hτ he (Or.inr rfl)).2.2
        · refine V_iconst (q := 226) (v := 0) C rfl rfl dL_change_225 ?_
          refine V_goto (tgt := 230) C (by decide) dL_change_226 ?_
          refine V_icmp_eq_t (tgt := 235) C (if_pos c222) (by decide) dL_change_230 ?_
          refine V_aload_6 (q := 237) C rfl dL_change_235 ?_
          refine V_iload_7 (q := 239) C rfl dL_change_237 ?_
          refine V_iload_8 (q := 241) C rfl dL_change_239 ?_
          refine V_iast (q := 242) C e rfl (by show _ < 30; omega) rfl (by decide) (by decide) rfl dL_change_241 ?_
          refine V_wk (lv2 := [.ref (xad X 0), .int x, .int y, .ref (xad X 40), .ref (xad X 41), .ref (xad X 42), .ref (xad X 43), .float 0, .float 0, .float 0, .float 0]) ⟨Or.inl rfl, ⟨Or.inl rfl, ⟨Or.inl rfl, ⟨Or.inl rfl, ⟨Or.inl rfl, ⟨Or.inl rfl, ⟨Or.inl rfl, ⟨Or.inr rfl, ⟨Or.inr rfl, ⟨Or.inr rfl, ⟨Or.inr rfl, trivial⟩⟩⟩⟩⟩⟩⟩⟩⟩⟩⟩ ?_
          exact k242 _ (frost_LI hτ he (Or.inr rfl)).2.2
    refine V_iload_n_2 (q := 181) C rfl dL_change_180 ?_
    refine V_bipush (q := 183) (v := 8) C (by decide) rfl dL_change_181 ?_
    refine V_ishr (q := 184) C rfl dL_change_183 ?_
    refine V_topi (fun y2 _ => ?_)
    refine V_iconst (q := 185) (v := 3) C rfl rfl dL_change_184 ?_
    refine V_cS2r (q := 188) C (c_L_some _ _ _ (by decide)) cw_L_some cs_L_some wm_L_15 ⟨by decide, by decide⟩ (Nat.le_of_ble_eq_true rfl) rfl dL_change_185 ?_
    refine V_if_ne (tgt := 195) C rfl (by decide) dL_change_188 (fun c188 => ?_) (fun c188 => ?_)
    · refine V_iconst (q := 196) (v := 0) C rfl rfl dL_change_195 ?_
      refine V_istore_8 (q := 198) C hn8 rfl rfl dL_change_196 ?_
      exact k198 _ (Or.inl rfl)
    · refine V_iconst (q := 192) (v := 1) C rfl rfl dL_change_191 ?_
      refine V_goto (tgt := 196) C (by decide) dL_change_192 ?_
      refine V_istore_8 (q := 198) C hn8 rfl rfl dL_change_196 ?_
      exact k198 _ (Or.inr rfl)
  have hs3 : ∀ k : Nat, k < 6 → (∀ τ : ST, LI τ T P C2 → V X 3 [.ref (xad X 0), .int x, .int y, .ref (xad X 40), .ref (xad X 41), .ref (xad X 42), .ref (xad X 43), .int (nI (k + 1)), .float 0, .float 0, .float 0] [] (τ)) → ∀ τ : ST, LI τ T P C2 → V X 3 [.ref (xad X 0), .int x, .int y, .ref (xad X 40), .ref (xad X 41), .ref (xad X 42), .ref (xad X 43), .int (nI k), .float 0, .float 0, .float 0] [] (τ) := by
    intro k hi3 ih3 τ hτ
    refine V_iload_7 (q := 5) C rfl dL_change_3 ?_
    refine V_bipush (q := 7) (v := 6) C (by decide) rfl dL_change_5 ?_
    refine V_icmp_ge_f (tgt := 169) C (nI_ge (b := 6) hi3 (by decide)) rfl (by decide) dL_change_7 ?_
    have k34 : ∀ e : Nat, e < 30 → V X 34 [.ref (xad X 0), .int x, .int y, .ref (xad X 40), .ref (xad X 41), .ref (xad X 42), .ref (xad X 43), .int (nI k), .int (nI e), .float 0, .float 0] [] (τ) := by
      intro e he
      have k62 : ∀ v : Nat, v ≤ 9 → V X 62 [.ref (xad X 0), .int x, .int y, .ref (xad X 40), .ref (xad X 41), .ref (xad X 42), .ref (xad X 43), .int (nI k), .int (nI e), .int (nI v), .float 0] [] (τ) := by
        intro v hv
        refine V_aload_n_0 (q := 63) C rfl dL_change_62 ?_
        refine V_iload_8 (q := 65) C rfl dL_change_63 ?_
        refine V_iload_9 (q := 67) C rfl dL_change_65 ?_
        refine V_cV2r (q := 70) C (c_X8_rain_v τ e T (nI v) he (rain_ok hv) hτ.T12 hT6 hT0) cw_X8_rain cv_X8_rain wm_L_28 (by decide) ob_X8 ⟨by decide, by decide⟩ (Nat.le_of_ble_eq_true rfl) rfl dL_change_67 ?_
        refine V_aload_4 (q := 72) C rfl dL_change_70 ?_
        refine V_iload_8 (q := 74) C rfl dL_change_72 ?_
        refine V_ialde (q := 75) (v := τ 41 e) C e rfl (by show _ < 30; omega) rfl rfl (by decide) (by decide) rfl dL_change_74 ?_
        refine V_icmp_eq_t (tgt := 80) C (hτ.2.1.2 e he).1 (by decide) dL_change_75 ?_
        refine V_aload_4 (q := 82) C rfl dL_change_80 ?_
        refine V_iload_8 (q := 84) C rfl dL_change_82 ?_
        refine V_iload_9 (q := 86) C rfl dL_change_84 ?_
        refine V_iast (q := 87) C e rfl (by show _ < 30; omega) rfl (by decide) (by decide) rfl dL_change_86 ?_
        refine V_gen (Q := fun τ => LI τ T P C2) (LI_rain hτ hv) (fun τ2 h2 => ?_)
        refine V_iload_n_2 (q := 88) C rfl dL_change_87 ?_
        have k111 : ∀ e : Nat, e < 30 → V X 111 [.ref (xad X 0), .int x, .int y, .ref (xad X 40), .ref (xad X 41), .ref (xad X 42), .ref (xad X 43), .int (nI k), .int (nI e), .float 0, .float 0] [] (τ2) := by
          intro e he
          have k138 : ∀ w : Int32, (w = -9 ∨ isT (nI T) w) → V X 138 [.ref (xad X 0), .int x, .int y, .ref (xad X 40), .ref (xad X 41), .ref (xad X 42), .ref (xad X 43), .int (nI k), .int (nI e), .float 0, .int w] [] (τ2) := by
            intro w hw
            refine V_aload_n_0 (q := 139) C rfl dL_change_138 ?_
            refine V_iload_8 (q := 141) C rfl dL_change_139 ?_
            refine V_iload_10 (q := 143) C rfl dL_change_141 ?_
            refine V_cV2r (q := 146) C (c_X8_water_v τ2 T e w he h2.T12 hT6 hT0 hw) cw_X8_water cv_X8_water wm_L_31 (by decide) ob_X8 ⟨by decide, by decide⟩ (Nat.le_of_ble_eq_true rfl) rfl dL_change_143 ?_
            refine V_aload_5 (q := 148) C rfl dL_change_146 ?_
            refine V_iload_8 (q := 150) C rfl dL_change_148 ?_
            refine V_ialde (q := 151) (v := τ2 42 e) C e rfl (by show _ < 30; omega) rfl rfl (by decide) (by decide) rfl dL_change_150 ?_
            refine V_icmp_eq_t (tgt := 156) C (h2.2.1.2 e he).2.1 (by decide) dL_change_151 ?_
            refine V_aload_5 (q := 158) C rfl dL_change_156 ?_
            refine V_iload_8 (q := 160) C rfl dL_change_158 ?_
            refine V_iload_10 (q := 162) C rfl dL_change_160 ?_
            refine V_iast (q := 163) C e rfl (by show _ < 30; omega) rfl (by decide) (by decide) rfl dL_change_162 ?_
            refine V_iinc_7 (q := 166) (n := 1) C nI_inc hn7 rfl rfl dL_change_163 ?_
            refine V_goto (tgt := 3) C (by decide) dL_change_166 ?_
            refine V_wk (lv2 := [.ref (xad X 0), .int x, .int y, .ref (xad X 40), .ref (xad X 41), .ref (xad X 42), .ref (xad X 43), .int (nI (k + 1)), .float 0, .float 0, .float 0]) ⟨Or.inl rfl, ⟨Or.inl rfl, ⟨Or.inl rfl, ⟨Or.inl rfl, ⟨Or.inl rfl, ⟨Or.inl rfl, ⟨Or.inl rfl, ⟨Or.inl rfl, ⟨Or.inr rfl, ⟨Or.inr rfl, ⟨Or.inr rfl, trivial⟩⟩⟩⟩⟩⟩⟩⟩⟩⟩⟩ ?_
            exact V_gen (Q := fun τ => LI τ T P C2) (LI_water h2 hw) ih3
          refine V_iload_n_1 (q := 112) C rfl dL_change_111 ?_
          refine V_iconst (q := 113) (v := 2) C rfl rfl dL_change_112 ?_
          refine V_iload_7 (q := 115) C rfl dL_change_113 ?_
          refine V_imul (q := 116) C rfl dL_change_115 ?_
          refine V_ishr (q := 117) C rfl dL_change_116 ?_
          refine V_topi (fun y4 _ => ?_)
          refine V_aload_n_3 (q := 118) C rfl dL_change_117 ?_
          refine V_iconst (q := 119) (v := 0) C rfl rfl dL_change_118 ?_
          refine V_ialde (q := 120) C 0 rfl (by show _ < 48; omega) h2.T40 rfl (by decide) (by decide) rfl dL_change_119 ?_
          refine V_iconst (q := 121) (v := 1) C rfl rfl dL_change_120 ?_
          refine V_iadd (q := 122) C rfl dL_change_121 ?_
          rw [show nI T + 1 = nI (T + 1) from nI_1 T]
          refine V_cS2r (q := 125) C (c_L_some _ _ _ (nI_ne0 (by omega) (by omega))) cw_L_some cs_L_some wm_L_15 ⟨by decide, by decide⟩ (Nat.le_of_ble_eq_true rfl) rfl dL_change_122 ?_
          obtain ⟨j, hj, ej⟩ := some_nI (x := y4) (T + 1) rfl (by omega) (by omega)
          rw [ej]
          refine V_iconst (q := 126) (v := 1) C rfl rfl dL_change_125 ?_
          refine V_isub (q := 127) C rfl dL_change_126 ?_
          refine V_istore_10 (q := 129) C hn10 rfl rfl dL_change_127 ?_
          refine V_iload_10 (q := 131) C rfl dL_change_129 ?_
          refine V_if_ge (tgt := 138) C rfl (by decide) dL_change_131 (fun c131 => ?_) (fun c131 => ?_)
          · exact k138 _ (Or.inr (dec1 hj hT6 c131))
          · refine V_bipush (q := 136) (v := (-9)) C (by decide) rfl dL_change_134 ?_
            refine V_istore_10 (q := 138) C hn10 rfl rfl dL_change_136 ?_
            exact k138 _ (Or.inl rfl)
        refine V_iconst (q := 89) (v := 3) C rfl rfl dL_change_88 ?_
        refine V_iload_7 (q := 91) C rfl dL_change_89 ?_
        refine V_imul (q := 92) C rfl dL_change_91 ?_
        refine V_ishr (q := 93) C rfl dL_change_92 ?_
        refine V_topi (fun y1 _ => ?_)
        refine V_iload_7 (q := 95) C rfl dL_change_93 ?_
        refine V_iconst (q := 96) (v := 4) C rfl rfl dL_change_95 ?_
        refine V_icmp_ge (tgt := 104) C rfl (by decide) dL_change_96 (fun c96 => ?_) (fun c96 => ?_)
        · refine V_bipush (q := 106) (v := 30) C (by decide) rfl dL_change_104 ?_
          refine V_cS2r (q := 109) C (c_L_some _ _ _ (by decide)) cw_L_some cs_L_some wm_L_15 ⟨by decide, by decide⟩ (Nat.le_of_ble_eq_true rfl) rfl dL_change_106 ?_
          obtain ⟨e2, he2, ee2⟩ := some_nI (x := y1) 30 (show (30 : Int32) = nI 30 from rfl) (by decide) (by decide)
          rw [ee2]
          refine V_istore_8 (q := 111) C hn8 rfl rfl dL_change_109 ?_
          refine V_wk (lv2 := [.ref (xad X 0), .int x, .int y, .ref (xad X 40), .ref (xad X 41), .ref (xad X 42), .ref (xad X 43), .int (nI k), .int (nI e2), .float 0, .float 0]) ⟨Or.inl rfl, ⟨Or.inl rfl, ⟨Or.inl rfl, ⟨Or.inl rfl, ⟨Or.inl rfl, ⟨Or.inl rfl, ⟨Or.inl rfl, ⟨Or.inl rfl, ⟨Or.inl rfl, ⟨Or.inr rfl, ⟨Or.inr rfl, trivial⟩⟩⟩⟩⟩⟩⟩⟩⟩⟩⟩ ?_
          exact k111 e2 (by omega)
        · refine V_bipush (q := 101) (v := 8) C (by decide) rfl dL_change_99 ?_
          refine V_goto (tgt := 106) C (by decide) dL_change_101 ?_
          refine V_cS2r (q := 109) C (c_L_some _ _ _ (by decide)) cw_L_some cs_L_some wm_L_15 ⟨by decide, by decide⟩ (Nat.le_of_ble_eq_true rfl) rfl dL_change_106 ?_
          obtain ⟨e2, he2, ee2⟩ := some_nI (x := y1) 8 (show (8 : Int32) = nI 8 from rfl) (by decide) (by decide)
          rw [ee2]
          refine V_istore_8 (q := 111) C hn8 rfl rfl dL_change_109 ?_
          refine V_wk (lv2 := [.ref (xad X 0), .int x, .int y, .ref (xad X 40), .ref (xad X 41), .ref (xad X 42), .ref (xad X 43), .int (nI k), .int (nI e2), .float 0, .float 0]) ⟨Or.inl rfl, ⟨Or.inl rfl, ⟨Or.inl rfl, ⟨Or.inl rfl, ⟨Or.inl rfl, ⟨Or.inl rfl, ⟨Or.inl rfl, ⟨Or.inl rfl, ⟨Or.inl rfl, ⟨Or.inr rfl, ⟨Or.inr rfl, trivial⟩⟩⟩⟩⟩⟩⟩⟩⟩⟩⟩ ?_
          exact k111 e2 (by omega)
      refine V_iload_n_2 (q := 35) C rfl dL_change_34 ?_
      refine V_iconst (q := 36) (v := 2) C rfl rfl dL_change_35 ?_
      refine V_iload_7 (q := 38) C rfl dL_change_36 ?_
      refine V_imul (q := 39) C rfl dL_change_38 ?_
      refine V_ishr (q := 40) C rfl dL_change_39 ?_
      refine V_topi (fun y2 _ => ?_)
      refine V_iload_n_1 (q := 41) C rfl dL_change_40 ?_
      refine V_bipush (q := 43) (v := 19) C (by decide) rfl dL_change_41 ?_
      refine V_ishr (q := 44) C rfl dL_change_43 ?_
      refine V_topi (fun y3 _ => ?_)
      refine V_iconst (q := 45) (v := 2) C rfl rfl dL_change_44 ?_
      refine V_cS2r (q := 48) C (c_L_some _ _ _ (by decide)) cw_L_some cs_L_some wm_L_15 ⟨by decide, by decide⟩ (Nat.le_of_ble_eq_true rfl) rfl dL_change_45 ?_
      refine V_if_ne (tgt := 56) C rfl (by decide) dL_change_48 (fun c48 => ?_) (fun c48 => ?_)
      · refine V_iconst (q := 57) (v := 4) C rfl rfl dL_change_56 ?_
        refine V_cS2r (q := 60) C (c_L_some _ _ _ (by decide)) cw_L_some cs_L_some wm_L_15 ⟨by decide, by decide⟩ (Nat.le_of_ble_eq_true rfl) rfl dL_change_57 ?_
        obtain ⟨v, hv, ev⟩ := some_nI (x := y2) 4 (show (4 : Int32) = nI 4 from rfl) (by decide) (by decide)
        rw [ev]
        refine V_istore_9 (q := 62) C hn9 rfl rfl dL_change_60 ?_
        exact k62 v (by omega)
      · refine V_bipush (q := 53) (v := 10) C (by decide) rfl dL_change_51 ?_
        refine V_goto (tgt := 57) C (by decide) dL_change_53 ?_
        refine V_cS2r (q := 60) C (c_L_some _ _ _ (by decide)) cw_L_some cs_L_some wm_L_15 ⟨by decide, by decide⟩ (Nat.le_of_ble_eq_true rfl) rfl dL_change_57 ?_
        obtain ⟨v, hv, ev⟩ := some_nI (x := y2) 10 (show (10 : Int32) = nI 10 from rfl) (by decide) (by decide)
        rw [ev]
        refine V_istore_9 (q := 62) C hn9 rfl rfl dL_change_60 ?_
        exact k62 v (by omega)
    refine V_iload_n_1 (q := 11) C rfl dL_change_10 ?_
    refine V_iconst (q := 12) (v := 3) C rfl rfl dL_change_11 ?_
    refine V_iload_7 (q := 14) C rfl dL_change_12 ?_
    refine V_imul (q := 15) C rfl dL_change_14 ?_
    refine V_ishr (q := 16) C rfl dL_change_15 ?_
    refine V_topi (fun y1 _ => ?_)
    refine V_iload_7 (q := 18) C rfl dL_change_16 ?_
    refine V_iconst (q := 19) (v := 4) C rfl rfl dL_change_18 ?_
    refine V_icmp_ge (tgt := 27) C rfl (by decide) dL_change_19 (fun c19 => ?_) (fun c19 => ?_)
    · refine V_bipush (q := 29) (v := 30) C (by decide) rfl dL_change_27 ?_
      refine V_cS2r (q := 32) C (c_L_some _ _ _ (by decide)) cw_L_some cs_L_some wm_L_15 ⟨by decide, by decide⟩ (Nat.le_of_ble_eq_true rfl) rfl dL_change_29 ?_
      obtain ⟨e, he, ee⟩ := some_nI (x := y1) 30 (show (30 : Int32) = nI 30 from rfl) (by decide) (by decide)
      rw [ee]
      refine V_istore_8 (q := 34) C hn8 rfl rfl dL_change_32 ?_
      exact k34 e (by omega)
    · refine V_bipush (q := 24) (v := 8) C (by decide) rfl dL_change_22 ?_
      refine V_goto (tgt := 29) C (by decide) dL_change_24 ?_
      refine V_cS2r (q := 32) C (c_L_some _ _ _ (by decide)) cw_L_some cs_L_some wm_L_15 ⟨by decide, by decide⟩ (Nat.le_of_ble_eq_true rfl) rfl dL_change_29 ?_
      obtain ⟨e, he, ee⟩ := some_nI (x := y1) 8 (show (8 : Int32) = nI 8 from rfl) (by decide) (by decide)
      rw [ee]
      refine V_istore_8 (q := 34) C hn8 rfl rfl dL_change_32 ?_
      exact k34 e (by omega)
  exact V_eq (rfl) (loopN (P := fun k => ∀ τ : ST, LI τ T P C2 → V X 3 [.ref (xad X 0), .int x, .int y, .ref (xad X 40), .ref (xad X 41), .ref (xad X 42), .ref (xad X 43), .int (nI k), .float 0, .float 0, .float 0] [] (τ)) (6) hx3 hs3 0 (Nat.zero_le _) σ hL)

