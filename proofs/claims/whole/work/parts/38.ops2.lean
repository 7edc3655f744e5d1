/-! the operations of both sides: what is told of the weather, saws, readings, bodies -/
theorem upd_at {f : Nat → Int32} {k : Nat} {x : Int32} : upd f k x k = x := if_pos rfl
theorem upd_ne {f : Nat → Int32} {k i : Nat} {x : Int32} (h : i ≠ k) : upd f k x i = f i := if_neg h
theorem setf_n {σ : ST} {k i j : Nat} {x : Int32} (h : j ≠ k) : setf σ k i x j = σ j := setc_n h
theorem pI_b {Q : Prop} [Decidable Q] {x : Int32} (hx : x = 0 ∨ x = 1) (h : Q ↔ ¬ x = 0) : pI Q = x := by
  rcases hx with rfl | rfl
  · exact pI_f (fun q => (h.mp q) rfl)
  · exact pI_t (h.mpr (by decide))
theorem nar_b {x : Int32} (hx : x = 0 ∨ x = 1) : vp_nar .boolean x = x := by
  rcases hx with rfl | rfl <;> rfl
theorem op_rain {l : Launch} {D : DD} {ad : Nat → Nat} {σ : ST} (d v : Int32) (h0 : RelE σ) : OpI (kC_rain l D ad d v) (kM_rain l D ad d v) σ := by
  obtain ⟨T, P, C, R, h⟩ := h0
  have hT6 := h.T6
  have hP6 := h.P6
  by_cases hd : isT 30 d
  · obtain ⟨e, he, rfl⟩ := isT_of (N := 30) hd rfl (by decide)
    by_cases hv : v < 0 ∨ 9 < v
    · exact OpI.ee (c_X8_rain_o σ e v he hv) (c_X9_rain_o σ e v he hv) rfl h.E
    · by_cases hz : T = 0
      · exact OpI.ee (c_X8_rain_s σ e T v he hv h.T12 hz) (c_X9_rain_s σ e T v he hv h.T40 hz) rfl h.E
      · refine OpI.ee (c_X8_rain_v σ e T v he hv h.T12 hT6 (by omega)) (c_X9_rain_v (setf σ 22 e v) e T v he hv h.T40 hT6 (by omega)) (h.wd he).1.symm ⟨T, P, C, R, h.we (fun k hk => ?_) rfl ⟨h.2.1.1, fun x hx => ?_⟩⟩
        · rw [setf_n (by omega), setf_n (by omega)]
        · obtain ⟨w1, w2, w3, w4, w5⟩ := h.wd hx
          show upd (σ 22) e v x = upd (σ 50) e v x ∧ σ 23 x = σ 51 x ∧ (∃ n : Nat, n ≤ 9 ∧ upd (σ 50) e v x = nI n) ∧ _ ∧ _
          by_cases q : x = e
          · subst q
            rw [upd_at, upd_at]
            obtain ⟨n, hn, rfl⟩ := nI_of (x := v) (fun q => hv (Or.inl q))
            refine ⟨rfl, w2, ⟨n, ?_, rfl⟩, w4, w5⟩
            rcases Nat.lt_or_ge 9 n with q2 | q2
            · exact absurd (Or.inr (nI_lt (a := 9) q2 hn)) hv
            · exact q2
          · rw [upd_ne q, upd_ne q]
            exact ⟨w1, w2, w3, w4, w5⟩
  · exact OpI.ee (c_X8_rain_u σ d v hd) (c_X9_rain_u σ d v hd) rfl h.E
theorem op_water {l : Launch} {D : DD} {ad : Nat → Nat} {σ : ST} (d t : Int32) (h0 : RelE σ) : OpI (kC_water l D ad d t) (kM_water l D ad d t) σ := by
  obtain ⟨T, P, C, R, h⟩ := h0
  have hT6 := h.T6
  have hP6 := h.P6
  by_cases hg : isT 30 d ∧ (t = -9 ∨ isT (nI T) t)
  · obtain ⟨e, he, rfl⟩ := isT_of (N := 30) hg.1 rfl (by decide)
    by_cases hz : T = 0
    · have ht : t = -9 := hg.2.elim id (fun q => by
        obtain ⟨j, hj, -⟩ := isT_of q rfl (by omega)
        omega)
      subst ht
      exact OpI.ee (c_X8_water_s σ T e he h.T12 hz) (c_X9_water_s σ T e he h.T40 hz) rfl h.E
    · refine OpI.ee (c_X8_water_v σ T e t he h.T12 hT6 (by omega) hg.2) (c_X9_water_v (setf σ 23 e t) T e t he h.T40 hT6 (by omega) hg.2) (h.wd he).2.1.symm ⟨T, P, C, R, h.we (fun k hk => ?_) rfl ⟨h.2.1.1, fun x hx => ?_⟩⟩
      · rw [setf_n (by omega), setf_n (by omega)]
      · obtain ⟨w1, w2, w3, w4, w5⟩ := h.wd hx
        show σ 22 x = σ 50 x ∧ upd (σ 23) e t x = upd (σ 51) e t x ∧ _ ∧ (0 < T → upd (σ 51) e t x = -9 ∨ ∃ j : Nat, j < T ∧ upd (σ 51) e t x = nI j) ∧ _
        by_cases q : x = e
        · subst q
          rw [upd_at, upd_at]
          exact ⟨w1, rfl, w3, fun _ => hg.2.imp id (fun q => isT_of q rfl (by omega)), w5⟩
        · rw [upd_ne q, upd_ne q]
          exact ⟨w1, w2, w3, w4, w5⟩
  · exact OpI.ee (c_X8_water_u σ T d t h.T12 hg) (c_X9_water_u σ T d t h.T40 hT6 hg) rfl h.E
theorem op_frost {l : Launch} {D : DD} {ad : Nat → Nat} {σ : ST} (d b : Int32) (hb : b = 0 ∨ b = 1) (h0 : RelE σ) : OpI (kC_frost l D ad d b) (kM_frost l D ad d b) σ := by
  obtain ⟨T, P, C, R, h⟩ := h0
  have hT6 := h.T6
  have hP6 := h.P6
  by_cases hd : isT 30 d
  · obtain ⟨e, he, rfl⟩ := isT_of (N := 30) hd rfl (by decide)
    by_cases hz : T = 0
    · exact OpI.ee (c_X8_frost_s σ e T b he h.T12 hz) (c_X9_frost_s σ e T b he h.T40 hz) rfl h.E
    · obtain ⟨w1, w2, w3, w4, w5⟩ := h.wd he
      have hbit : ∀ x, x < 30 → (bit (σ 21 4) (nI x) ↔ ¬ σ 52 x = 0) := fun x hx => by
        rw [h.2.1.1, bit_setB 30 (by decide) x (by omega)]
        exact ⟨fun q => q.2, fun q => ⟨hx, q⟩⟩
      have hp : pI (bit (σ 21 4) (nI e)) = σ 52 e := pI_b w5 (hbit e he)
      by_cases hs : σ 52 e = b
      · have e1 : frF σ e b = (0, σ) := by unfold frF; rw [hp, if_pos hs]
        have k1 := c_X8_frost_v (l := l) (D := D) (ad := ad) σ e T b he h.T12 hT6 (by omega)
        rw [e1] at k1
        refine OpI.ee k1 (c_X9_frost_v σ e T b he h.T40 hT6 (by omega) (nar_b hb)) (if_pos hs) ?_
        rw [setf_id hs]
        exact h.E
      · have e1 : frF σ e b = (1, setf σ 21 4 (σ 21 4 ^^^ own1 (nI e))) := by unfold frF; rw [hp, if_neg hs]
        have k1 := c_X8_frost_v (l := l) (D := D) (ad := ad) σ e T b he h.T12 hT6 (by omega)
        rw [e1] at k1
        refine OpI.ee k1 (c_X9_frost_v (setf σ 21 4 (σ 21 4 ^^^ own1 (nI e))) e T b he h.T40 hT6 (by omega) (nar_b hb)) (if_neg hs) ⟨T, P, C, R, h.we (fun k hk => ?_) rfl ⟨?_, fun x hx => ?_⟩⟩
        · rw [setf_n (by omega), setf_n (by omega)]
        · show σ 21 4 ^^^ own1 (nI e) = setB (fun d => ¬ upd (σ 52) e b d = 0) 30
          refine bit_ext fun i hi => ?_
          rw [bit_xor hi, bit_own (by omega) hi, bit_setB 30 (by decide) i hi, h.2.1.1, bit_setB 30 (by decide) i hi]
          by_cases q : i = e
          · subst q
            rw [upd_at]
            rcases w5 with w | w <;> rcases hb with rfl | rfl
            · exact absurd w hs
            · exact ⟨fun _ => ⟨he, by decide⟩, fun _ q => (q.mpr rfl).2 w⟩
            · exact ⟨fun q => absurd ⟨fun _ => rfl, fun _ => ⟨he, by rw [w]; decide⟩⟩ q, fun q => absurd rfl q.2⟩
            · exact absurd w hs
          · rw [upd_ne q]
            exact ⟨fun z => Decidable.of_not_not (fun y => z ⟨fun y2 => absurd y2 y, fun y2 => absurd y2 q⟩), fun z y => q (y.mp z)⟩
        · obtain ⟨v1, v2, v3, v4, v5⟩ := h.wd hx
          refine ⟨v1, v2, v3, v4, ?_⟩
          show upd (σ 52) e b x = 0 ∨ upd (σ 52) e b x = 1
          by_cases q : x = e
          · subst q; rw [upd_at]; exact hb
          · rw [upd_ne q]; exact v5
  · exact OpI.ee (c_X8_frost_u σ d b hd) (c_X9_frost_u σ d b hd) rfl h.E
theorem op_crow {l : Launch} {D : DD} {ad : Nat → Nat} {σ : ST} (d t : Int32) (h0 : RelE σ) : OpI (kC_crow l D ad d t) (kM_crow l D ad d t) σ := by
  obtain ⟨T, P, C, R, h⟩ := h0
  have hT6 := h.T6
  have hP6 := h.P6
  have hC6 := h.C6
  by_cases hg : isT 30 d ∧ isT (nI T) t
  · obtain ⟨e, he, rfl⟩ := isT_of (N := 30) hg.1 rfl (by decide)
    obtain ⟨j, hj, rfl⟩ := isT_of hg.2 rfl (by omega)
    by_cases hf : C = 6
    · subst hf
      exact OpI.ee (c_X8_crow_f σ T e j he h.T12 hT6 hj h.C21) (c_X9_crow_f σ T e j he h.T40 hT6 hj h.C40) rfl h.E
    · refine OpI.ee (c_X8_crow_v σ T e j C he h.T12 hT6 hj h.C21 (by omega)) (c_X9_crow_v _ T e j C he h.T40 hT6 hj h.C40 (by omega)) rfl ⟨T, P, C + 1, R, h.cr (C2 := C + 1) (fun k hk => ?_) (fun i hi => ?_) rfl ⟨by omega, rfl, rfl, fun c hc => ?_⟩⟩
      · rw [setf_n (by omega), setf_n (by omega), setf_n (by omega), setf_n (by omega), setf_n (by omega), setf_n (by omega)]
      · exact upd_ne hi
      · show upd (σ 24) C (nI e) c = upd (σ 58) C (nI e) c ∧ upd (σ 25) C (nI j) c = upd (σ 59) C (nI j) c ∧ (∃ d : Nat, d < 30 ∧ upd (σ 58) C (nI e) c = nI d) ∧ ∃ t : Nat, t < T ∧ upd (σ 59) C (nI j) c = nI t
        by_cases q : c = C
        · subst q
          rw [upd_at, upd_at, upd_at, upd_at]
          exact ⟨rfl, rfl, ⟨e, he, rfl⟩, j, hj, rfl⟩
        · rw [upd_ne q, upd_ne q, upd_ne q, upd_ne q]
          exact h.cc (by omega)
  · exact OpI.ee (c_X8_crow_u σ T d t h.T12 hg) (c_X9_crow_u σ T d t h.T40 hg) rfl h.E
theorem op_shoo {l : Launch} {D : DD} {ad : Nat → Nat} {σ : ST} (k : Int32) (h0 : RelE σ) : OpI (kC_shoo l D ad k) (kM_shoo l D ad k) σ := by
  obtain ⟨T, P, C, R, h⟩ := h0
  have hT6 := h.T6
  have hP6 := h.P6
  have hC6 := h.C6
  by_cases hk : ¬ k < 0 ∧ ¬ nI C < k
  · obtain ⟨j, hj, rfl⟩ := nI_of hk.1
    have hjC : j ≤ C := by
      rcases Nat.lt_or_ge C j with q | q
      · exact absurd (nI_lt q hj) hk.2
      · exact q
    refine OpI.ee (c_X8_shoo_v σ C j h.C21 (by omega) hjC) (c_X9_shoo_v (setf σ 21 5 (nI (C - j))) C j h.C40 (by omega) hjC) rfl ⟨T, P, C - j, R, h.cr (C2 := C - j) (fun k hk => ?_) (fun i hi => ?_) rfl ⟨by omega, rfl, rfl, fun c hc => h.cc (by omega)⟩⟩
    · rw [setf_n (by omega), setf_n (by omega)]
    · exact upd_ne hi
  · exact OpI.ee (c_X8_shoo_o σ C k h.C21 (by omega) hk) (c_X9_shoo_o σ C k h.C40 (by omega) hk) rfl h.E
theorem op_back {l : Launch} {D : DD} {ad : Nat → Nat} {σ : ST} (k : Int32) (h0 : RelE σ) : OpI (kC_back l D ad k) (kM_back l D ad k) σ := by
  obtain ⟨T, P, C, R, h⟩ := h0
  have hT6 := h.T6
  have hP6 := h.P6
  have hR8 := h.R8
  by_cases hk : ¬ k < 0 ∧ ¬ nI R < k
  · obtain ⟨j, hj, rfl⟩ := nI_of hk.1
    have hjC : j ≤ R := by
      rcases Nat.lt_or_ge R j with q | q
      · exact absurd (nI_lt q hj) hk.2
      · exact q
    refine OpI.ee (c_X8_back_v σ R j h.R26 hR8 hjC) (c_X9_back_v (setf σ 26 3 (nI (R - j))) R j h.R40 hR8 hjC) rfl ⟨T, P, C, R - j, h.re (R2 := R - j) (fun k hk => ?_) (fun i hi => ?_) ⟨by omega, rfl, rfl, fun c hc => h.rr (by omega)⟩⟩
    · rw [setf_n (by omega), setf_n (by omega)]
    · exact upd_ne hi
  · exact OpI.ee (c_X8_back_o σ R k h.R26 hR8 hk) (c_X9_back_o σ R k h.R40 hR8 hk) rfl h.E
theorem op_reading {l : Launch} {D : DD} {ad : Nat → Nat} {σ : ST} (p d b : Int32) (hb : b = 0 ∨ b = 1) (h0 : RelE σ) : OpI (kC_reading l D ad p d b) (kM_reading l D ad p d b) σ := by
  obtain ⟨T, P, C, R, h⟩ := h0
  have hT6 := h.T6
  have hP6 := h.P6
  have hR8 := h.R8
  by_cases hg : isT (nI P) p ∧ isT 30 d
  · obtain ⟨j, hj, rfl⟩ := isT_of hg.1 rfl (by omega)
    obtain ⟨e, he, rfl⟩ := isT_of (N := 30) hg.2 rfl (by decide)
    by_cases hf : R = 8
    · subst hf
      exact OpI.ee (c_X8_reading_f σ P j e b h.P12 hP6 hj he h.R26) (c_X9_reading_f σ P j e b h.P40 hP6 hj he h.R40) rfl h.E
    · refine OpI.ee (c_X8_reading_v σ P j e R b h.P12 hP6 hj he h.R26 (by omega) (nar_b hb)) (c_X9_reading_v _ P j e R b h.P40 hP6 hj he h.R40 (by omega) (nar_b hb)) rfl ⟨T, P, C, R + 1, h.re (R2 := R + 1) (fun k hk => ?_) (fun i hi => ?_) ⟨by omega, rfl, rfl, fun c hc => ?_⟩⟩
      · rw [setf_n (by omega), setf_n (by omega), setf_n (by omega), setf_n (by omega), setf_n (by omega), setf_n (by omega), setf_n (by omega), setf_n (by omega)]
      · exact upd_ne hi
      · show upd (σ 27) R (nI j) c = upd (σ 65) R (nI j) c ∧ upd (σ 28) R (nI e) c = upd (σ 66) R (nI e) c ∧ upd (σ 29) R b c = upd (σ 67) R b c ∧ ∃ p : Nat, p < P ∧ upd (σ 65) R (nI j) c = nI p
        by_cases q : c = R
        · subst q
          rw [upd_at, upd_at, upd_at, upd_at, upd_at, upd_at]
          exact ⟨rfl, rfl, rfl, j, hj, rfl⟩
        · rw [upd_ne q, upd_ne q, upd_ne q, upd_ne q, upd_ne q, upd_ne q]
          exact h.rr (by omega)
  · exact OpI.ee (c_X8_reading_u σ P p d b h.P12 hg) (c_X9_reading_u σ P p d b h.P40 hg) rfl h.E
theorem op_fell {l : Launch} {D : DD} {ad : Nat → Nat} {σ : ST} (t b : Int32) (hb : b = 0 ∨ b = 1) (h0 : RelE σ) : OpI (kC_fell l D ad t b) (kM_fell l D ad t b) σ := by
  obtain ⟨T, P, C, R, h⟩ := h0
  have hT6 := h.T6
  have hP6 := h.P6
  by_cases ht : isT (nI T) t
  · obtain ⟨j, hj, rfl⟩ := isT_of ht rfl (by omega)
    have w5 := (h.tr hj).2.2.2.2.2.2.2
    have hp : pI (bit (σ 12 2) (nI j)) = σ 47 j := pI_b w5 (h.fel hj)
    by_cases hs : σ 47 j = b
    · have e1 : feF σ j b = (0, σ) := by unfold feF; rw [hp, if_pos hs]
      have k1 := c_X8_fell_v (l := l) (D := D) (ad := ad) σ T j b h.T12 hT6 hj
      rw [e1] at k1
      refine OpI.ee k1 (c_X9_fell_v σ T j b h.T40 hT6 hj (nar_b hb)) (if_pos hs) ?_
      rw [setf_id hs]
      exact h.E
    · have e1 : feF σ j b = (1, setf σ 12 2 (σ 12 2 ^^^ own1 (nI j))) := by unfold feF; rw [hp, if_neg hs]
      have k1 := c_X8_fell_v (l := l) (D := D) (ad := ad) σ T j b h.T12 hT6 hj
      rw [e1] at k1
      obtain ⟨g1, g2, g3, g4, g5, g6, g7, g8, g9, g10, g11⟩ := h.1
      refine OpI.ee k1 (c_X9_fell_v (setf σ 12 2 (σ 12 2 ^^^ own1 (nI j))) T j b h.T40 hT6 hj (nar_b hb)) (if_neg hs) ⟨T, P, C, R, h.fe (fun k hk => ?_) ⟨g1, g2, g3, g4, g5, g6, g7, ?_, fun x hx => ?_, g10, g11⟩⟩
      · rw [setf_n (by omega), setf_n (by omega)]
      · show σ 12 2 ^^^ own1 (nI j) = setB (fun t => ¬ upd (σ 47) j b t = 0) T
        refine bit_ext fun i hi => ?_
        rw [bit_xor hi, bit_own (by omega) hi, bit_setB T (by omega) i hi, g8, bit_setB T (by omega) i hi]
        by_cases q : i = j
        · subst q
          rw [upd_at]
          rcases w5 with w | w <;> rcases hb with rfl | rfl
          · exact absurd w hs
          · exact ⟨fun _ => ⟨hj, by decide⟩, fun _ q => (q.mpr rfl).2 w⟩
          · exact ⟨fun q => absurd ⟨fun _ => rfl, fun _ => ⟨hj, by rw [w]; decide⟩⟩ q, fun q => absurd rfl q.2⟩
          · exact absurd w hs
        · rw [upd_ne q]
          exact ⟨fun z => Decidable.of_not_not (fun y => z ⟨fun y2 => absurd y2 y, fun y2 => absurd y2 q⟩), fun z y => q (y.mp z)⟩
      · obtain ⟨v1, v2, v3, v4, v5, v6, v7, v8⟩ := g9 x hx
        refine ⟨v1, v2, v3, v4, v5, v6, v7, ?_⟩
        show upd (σ 47) j b x = 0 ∨ upd (σ 47) j b x = 1
        by_cases q : x = j
        · subst q; rw [upd_at]; exact hb
        · rw [upd_ne q]; exact v8
  · exact OpI.ee (c_X8_fell_u σ T t b h.T12 ht) (c_X9_fell_u σ T t b h.T40 ht) rfl h.E
