/-! the operations of both sides: bodies, sheets, orchards -/
theorem Rel.hs {σ : ST} {T P C R : Nat} (h : Rel σ T P C R) {j : Nat} (hj : j < 4) : (σ (2 + 2 * j) 1 = 0 ↔ σ 41 j = -9) ∧ (¬ σ 41 j = -9 → σ (2 + 2 * j) 2 = σ 41 j ∧ isT 3 (σ 41 j)) ∧ σ (2 + 2 * j) 3 = σ 42 j ∧ ∃ L : Nat, L ≤ 50 ∧ σ 42 j = nI L := by
  obtain ⟨⟨L, hL, e1, e2⟩, hh, -⟩ := h.sh hj
  refine ⟨?_, ?_, e1.trans e2.symm, L, hL, e2⟩
  · rcases hh with ⟨a, b⟩ | ⟨a, b, c⟩
    · exact ⟨fun _ => b, fun _ => a⟩
    · exact ⟨fun q => absurd (a.symm.trans q) (by decide), fun q => absurd c (by rw [q]; exact fun z => z.1 (by decide))⟩
  · intro q
    rcases hh with ⟨a, b⟩ | ⟨a, b, c⟩
    · exact absurd b q
    · exact ⟨b, c⟩
theorem bgM_n {σ : ST} {k : Nat} {w : Int32} (h : k ≠ 40) : bgM σ w k = σ k := setc_n h
theorem lv1_n {σ : ST} {k : Nat} {w : Int32} (h : k ≠ 39) : lv1 σ w k = σ k := setc_n h
theorem lv_mi {σ τ : ST} {n : Int32} (h : σ 39 0 = τ 40 1) : (lv1 σ n) 39 0 = (bgM τ n) 40 1 := by
  show 31 * σ 39 0 + n = 31 * τ 40 1 + n
  rw [h]
theorem op_tell {l : Launch} {D : DD} {ad : Nat → Nat} {σ : ST} (t : Int32) (h0 : RelE σ) : OpI (kC_tell l D ad t) (kM_tell l D ad t) σ := by
  obtain ⟨T, P, C, R, h⟩ := h0
  have hT6 := h.T6
  have hP6 := h.P6
  by_cases ht : isT (nI T) t
  · obtain ⟨j, hj, rfl⟩ := isT_of ht rfl (by omega)
    obtain ⟨e1, -, e3, -, -, e6, -, -⟩ := h.tr hj
    have hm : σ 39 0 = σ 40 1 := h.2.2.2.2.2.1
    have k1 := c_X8_tell_v (l := l) (D := D) (ad := ad) σ T j h.T12 hT6 hj
    have k2 := fun τ (hT : τ 40 5 = nI T) => c_X9_tell_v (l := l) (D := D) (ad := ad) τ T j hT hT6 hj
    rw [e1, e3] at k1
    rcases e6 with e | e | e
    · rw [show teC σ (σ 44 j) (σ 46 j) = (σ 46 j, lv1 σ 1) from by rw [e]; rfl] at k1
      have k3 := k2 (lv1 σ 1) h.T40
      rw [show teM (lv1 σ 1) ((lv1 σ 1) 44 j) ((lv1 σ 1) 46 j) = (σ 46 j, bgM (lv1 σ 1) 1) from by rw [show (lv1 σ 1) 44 j = 0 from e]; rfl] at k3
      exact OpI.ee k1 k3 rfl ⟨T, P, C, R, h.mii (fun k hk => ((bgM_n (by omega)).trans (lv1_n (by omega)))) (fun i hi => upd_ne hi) (by show (lv1 σ 1) 39 0 = _; exact lv_mi (τ := lv1 σ 1) hm)⟩
    · rw [show teC σ (σ 44 j) (σ 46 j) = (σ 46 j + 100, lv1 (lv1 σ 2) 1) from by rw [e]; rfl] at k1
      have k3 := k2 (lv1 (lv1 σ 2) 1) h.T40
      rw [show teM (lv1 (lv1 σ 2) 1) ((lv1 (lv1 σ 2) 1) 44 j) ((lv1 (lv1 σ 2) 1) 46 j) = (σ 46 j + 100, bgM (bgM (lv1 (lv1 σ 2) 1) 2) 1) from by rw [show (lv1 (lv1 σ 2) 1) 44 j = 1 from e]; rfl] at k3
      exact OpI.ee k1 k3 rfl ⟨T, P, C, R, h.mii (fun k hk => ((((bgM_n (by omega)).trans (bgM_n (by omega))).trans (lv1_n (by omega))).trans (lv1_n (by omega)))) (fun i hi => (upd_ne hi).trans (upd_ne hi)) (by show 31 * (31 * σ 39 0 + 2) + 1 = 31 * (31 * σ 40 1 + 2) + 1; rw [hm])⟩
    · rw [show teC σ (σ 44 j) (σ 46 j) = (σ 46 j + 100 + σ 46 j, lv1 (lv1 (lv1 (lv1 σ 3) 2) 1) 1) from by rw [e]; rfl] at k1
      have k3 := k2 (lv1 (lv1 (lv1 (lv1 σ 3) 2) 1) 1) h.T40
      rw [show teM (lv1 (lv1 (lv1 (lv1 σ 3) 2) 1) 1) ((lv1 (lv1 (lv1 (lv1 σ 3) 2) 1) 1) 44 j) ((lv1 (lv1 (lv1 (lv1 σ 3) 2) 1) 1) 46 j) = (2 * σ 46 j + 100, bgM (bgM (bgM (bgM (lv1 (lv1 (lv1 (lv1 σ 3) 2) 1) 1) 3) 2) 1) 1) from by rw [show (lv1 (lv1 (lv1 (lv1 σ 3) 2) 1) 1) 44 j = 2 from e]; rfl] at k3
      refine OpI.ee k1 k3 ?_ ⟨T, P, C, R, h.mii (fun k hk => ((((((((bgM_n (by omega)).trans (bgM_n (by omega))).trans (bgM_n (by omega))).trans (bgM_n (by omega))).trans (lv1_n (by omega))).trans (lv1_n (by omega))).trans (lv1_n (by omega))).trans (lv1_n (by omega)))) (fun i hi => (((upd_ne hi).trans (upd_ne hi)).trans (upd_ne hi)).trans (upd_ne hi)) (by show 31 * (31 * (31 * (31 * σ 39 0 + 3) + 2) + 1) + 1 = 31 * (31 * (31 * (31 * σ 40 1 + 3) + 2) + 1) + 1; rw [hm])⟩
      have e2 : (2 : Int32) * σ 46 j = σ 46 j + σ 46 j := by
        rw [show (2 : Int32) = 1 + 1 from rfl, Int32.add_mul, Int32.one_mul]
      rw [e2, Int32.add_assoc, Int32.add_assoc, Int32.add_comm (σ 46 j) 100]
  · exact OpI.ee (c_X8_tell_u σ T t h.T12 ht) (c_X9_tell_u σ T t h.T40 ht) rfl h.E
theorem op_shake {l : Launch} {D : DD} {ad : Nat → Nat} {σ : ST} (t : Int32) (h0 : RelE σ) : OpI (kC_shake l D ad t) (kM_shake l D ad t) σ := by
  obtain ⟨T, P, C, R, h⟩ := h0
  have hT6 := h.T6
  have hP6 := h.P6
  by_cases ht : isT (nI T) t
  · obtain ⟨j, hj, rfl⟩ := isT_of ht rfl (by omega)
    obtain ⟨e1, -, -, -, -, -, -, -⟩ := h.tr hj
    have hm : σ 39 0 = σ 40 1 := h.2.2.2.2.2.1
    have k1 := c_X8_shake_v (l := l) (D := D) (ad := ad) σ T j h.T12 hT6 hj
    have k2 := fun τ (hT : τ 40 5 = nI T) => c_X9_shake_v (l := l) (D := D) (ad := ad) τ T j hT hT6 hj
    rw [e1] at k1
    by_cases e : σ 44 j = 2
    · rw [show shkC σ (σ 44 j) j = (60, lv1 σ 5) from if_pos e] at k1
      have k3 := k2 (lv1 σ 5) h.T40
      rw [show shkM (lv1 σ 5) ((lv1 σ 5) 44 j) j = (60, bgM (lv1 σ 5) 5) from if_pos e] at k3
      exact OpI.ee k1 k3 rfl ⟨T, P, C, R, h.mii (fun k hk => ((bgM_n (by omega)).trans (lv1_n (by omega)))) (fun i hi => upd_ne hi) (by show (lv1 σ 5) 39 0 = _; exact lv_mi (τ := lv1 σ 5) hm)⟩
    · rw [show shkC σ (σ 44 j) j = (nI j, lv1 σ 4) from if_neg e] at k1
      have k3 := k2 (lv1 σ 4) h.T40
      rw [show shkM (lv1 σ 4) ((lv1 σ 4) 44 j) j = (nI j, bgM (lv1 σ 4) 4) from if_neg e] at k3
      exact OpI.ee k1 k3 rfl ⟨T, P, C, R, h.mii (fun k hk => ((bgM_n (by omega)).trans (lv1_n (by omega)))) (fun i hi => upd_ne hi) (by show (lv1 σ 4) 39 0 = _; exact lv_mi (τ := lv1 σ 4) hm)⟩
  · exact OpI.ee (c_X8_shake_u σ T t h.T12 ht) (c_X9_shake_u σ T t h.T40 ht) rfl h.E
theorem op_as {l : Launch} {D : DD} {ad : Nat → Nat} {σ : ST} (t k : Int32) (h0 : RelE σ) : OpI (kC_as l D ad t k) (kM_as l D ad t k) σ := by
  obtain ⟨T, P, C, R, h⟩ := h0
  have hT6 := h.T6
  have hP6 := h.P6
  by_cases ht : isT (nI T) t
  · obtain ⟨j, hj, rfl⟩ := isT_of ht rfl (by omega)
    obtain ⟨e1, -, -, -, -, -, -, -⟩ := h.tr hj
    by_cases hk : isT 3 k
    · have k1 := c_X8_as_v (l := l) (D := D) (ad := ad) σ T j k h.T12 hT6 hj hk
      have k2 := fun τ (hT : τ 40 5 = nI T) => c_X9_as_v (l := l) (D := D) (ad := ad) τ T j k hT hT6 hj hk
      rw [e1] at k1
      by_cases e : k ≤ σ 44 j
      · rw [show asC σ (σ 44 j) k = (1, setf σ 0 8 0) from if_pos e] at k1
        have k3 := k2 (setf σ 0 8 0) h.T40
        rw [show asM (setf σ 0 8 0) ((setf σ 0 8 0) 44 j) k = (1, setf (setf σ 0 8 0) 40 0 0) from if_pos e] at k3
        exact OpI.ee k1 k3 rfl ⟨T, P, C, R, h.ff⟩
      · rw [show asC σ (σ 44 j) k = (-12, setf σ 0 8 2) from if_neg e] at k1
        have k3 := k2 (setf σ 0 8 2) h.T40
        rw [show asM (setf σ 0 8 2) ((setf σ 0 8 2) 44 j) k = (-12, setf (setf σ 0 8 2) 40 0 2) from if_neg e] at k3
        exact OpI.ee k1 k3 rfl ⟨T, P, C, R, h.ff⟩
    · exact OpI.ee (c_X8_as_o σ T j k h.T12 hT6 hj hk) (c_X9_as_o (setf σ 0 8 0) T j k h.T40 hT6 hj hk) rfl ⟨T, P, C, R, h.ff⟩
  · exact OpI.ee (c_X8_as_u σ T t k h.T12 ht) (c_X9_as_u (setf σ 0 8 0) T t k h.T40 ht) rfl ⟨T, P, C, R, h.ff⟩
theorem rn_n {σ : ST} {j k : Nat} {a n : Int32} (h1 : k ≠ 2 + 2 * j) (h2 : k ≠ 2 + 2 * j + 1) : renewF σ j a n k = σ k := by
  unfold renewF setf
  rw [setc_n h1, setc_n h1, setc_n h1, setc_n h2]
theorem rn_c {σ : ST} {j : Nat} {a n : Int32} : renewF σ j a n (2 + 2 * j + 1) = fun _ => 0 := by
  unfold renewF setf
  rw [setc_n (by omega), setc_n (by omega), setc_n (by omega), setc_s]
theorem rn_o {σ : ST} {j : Nat} {a n : Int32} : (renewF σ j a n) (2 + 2 * j) 1 = 1 ∧ (renewF σ j a n) (2 + 2 * j) 2 = a ∧ (renewF σ j a n) (2 + 2 * j) 3 = n := by
  unfold renewF setf
  simp only [setc_s]
  refine ⟨?_, ?_, ?_⟩
  · rw [upd_ne (by decide), upd_ne (by decide), upd_at]
  · rw [upd_ne (by decide), upd_at]
  · rw [upd_at]
theorem shM_n {σ : ST} {j k : Nat} {a n : Int32} (h : ¬ (40 ≤ k ∧ k ≤ 43)) : shM σ j a n k = σ k := by
  unfold shM setf
  rw [setc_n (by omega), setc_n (by omega), setc_n (by omega), setc_n (by omega)]
theorem nI_n {x : Int32} {b : Nat} (h0 : ¬ x < 0) (hb : ¬ nI b < x) (hb2 : b < 2 ^ 31) : ∃ m : Nat, m ≤ b ∧ x = nI m := by
  obtain ⟨m, hm, rfl⟩ := nI_of h0
  refine ⟨m, ?_, rfl⟩
  rcases Nat.lt_or_ge b m with q | q
  · exact absurd (nI_lt q hm) hb
  · exact q
theorem op_sheet {l : Launch} {D : DD} {ad : Nat → Nat} {σ : ST} (k a n : Int32) (h0 : RelE σ) : OpI (kC_sheet l D ad k a n) (kM_sheet l D ad k a n) σ := by
  obtain ⟨T, P, C, R, h⟩ := h0
  have hT6 := h.T6
  have hP6 := h.P6
  by_cases hk : isT 4 k
  · obtain ⟨j, hj, rfl⟩ := isT_of (N := 4) hk rfl (by decide)
    by_cases ha : isT 3 a ∧ ¬ 50 < n
    · by_cases hn : n < 0
      · refine OpI.ee (c_X8_sheet_z σ j a n hj ha.1 hn) (c_X9_sheet_z (setf σ 0 8 4) j a n hj ha.1 hn) rfl ⟨T, P, C, R, h.ff⟩
      · obtain ⟨m, hm, rfl⟩ := nI_n (b := 50) hn ha.2 (by decide)
        refine OpI.ee (c_X8_sheet_v σ j m a hj ha.1 hm) (c_X9_sheet_v (renewF (setf σ 0 8 0) j a (nI m)) j m a hj ha.1 hm) rfl ⟨T, P, C, R, h.shh (fun k hk => ?_) (fun i hi => ?_) ?_ (fun j2 hj2 => ?_)⟩
        · rw [shM_n (by omega), rn_n (by omega) (by omega), setf_n (by omega)]
        · show upd ((renewF (setf σ 0 8 0) j a (nI m)) 40) 0 0 i = σ 40 i
          rw [upd_ne hi, rn_n (by omega) (by omega)]
          rfl
        · rw [shM_n (by decide), rn_n (by omega) (by omega)]
          rfl
        · have e43 : ∀ t, (shM (renewF (setf σ 0 8 0) j a (nI m)) j a (nI m)) 43 t = zeF j 50 (σ 43) t := fun t => by
            show zeF j 50 ((renewF (setf σ 0 8 0) j a (nI m)) 43) t = _
            rw [rn_n (by omega) (by omega)]
            rfl
          have e41 : (shM (renewF (setf σ 0 8 0) j a (nI m)) j a (nI m)) 41 = upd (σ 41) j a := by
            show upd ((renewF (setf σ 0 8 0) j a (nI m)) 41) j a = _
            rw [rn_n (by omega) (by omega)]
            rfl
          have e42 : (shM (renewF (setf σ 0 8 0) j a (nI m)) j a (nI m)) 42 = upd (σ 42) j (nI m) := by
            show upd ((renewF (setf σ 0 8 0) j a (nI m)) 42) j (nI m) = _
            rw [rn_n (by omega) (by omega)]
            rfl
          rw [e41, e42, shM_n (by omega), shM_n (by omega)]
          by_cases q : j2 = j
          · subst q
            obtain ⟨r1, r2, r3⟩ := rn_o (σ := setf σ 0 8 0) (j := j2) (a := a) (n := nI m)
            rw [upd_at, upd_at, r1, r2, r3, rn_c]
            refine ⟨⟨m, hm, rfl, rfl⟩, Or.inr ⟨rfl, rfl, ha.1⟩, fun i hi => ?_⟩
            rw [e43]
            exact (if_pos ⟨by omega, by omega⟩).symm
          · rw [upd_ne q, upd_ne q, rn_n (by omega) (by omega), rn_n (by omega) (by omega), setf_n (by omega), setf_n (by omega)]
            obtain ⟨s1, s2, s3⟩ := h.sh hj2
            refine ⟨s1, s2, fun i hi => ?_⟩
            rw [e43, s3 i hi]
            exact (if_neg (by omega)).symm
    · exact OpI.ee (c_X8_sheet_o σ j a n hj ha) (c_X9_sheet_o (setf σ 0 8 0) j a n hj ha) rfl ⟨T, P, C, R, h.ff⟩
  · exact OpI.ee (c_X8_sheet_u σ k a n hk) (c_X9_sheet_u (setf σ 0 8 0) k a n hk) rfl ⟨T, P, C, R, h.ff⟩
