/-! the operations of both sides: sheets, orchards -/
theorem hc_is {σ : ST} {j L : Nat} {i : Int32} (hL : σ (2 + 2 * j) 3 = nI L) (hL50 : L ≤ 50) : hcC σ j i 1 ↔ isT (nI L) i := by
  unfold hcC
  rw [hL, hcN hL50]
  constructor
  · rintro ⟨s, m, rfl, em, hs⟩
    have : m = 1 := ((nI_eq (a := m) (b := 1) (by omega) (by decide)).mp em.symm)
    exact isT_nI (by omega) (by omega)
  · intro q
    obtain ⟨s, hs, rfl⟩ := isT_of q rfl (by omega)
    exact ⟨s, 1, rfl, rfl, by omega⟩
theorem op_lose {l : Launch} {D : DD} {ad : Nat → Nat} {σ : ST} (k : Int32) (h0 : RelE σ) : OpI (kC_lose l D ad k) (kM_lose l D ad k) σ := by
  obtain ⟨T, P, C, R, h⟩ := h0
  have hT6 := h.T6
  have hP6 := h.P6
  by_cases hk : isT 4 k
  · obtain ⟨j, hj, rfl⟩ := isT_of (N := 4) hk rfl (by decide)
    obtain ⟨q1, q2, q3, L, hL, q4⟩ := h.hs hj
    have k1 := c_X8_lose_v (l := l) (D := D) (ad := ad) σ j hj
    by_cases e : σ 41 j = -9
    · rw [show loF σ j = (0, σ) from if_pos (q1.mpr e)] at k1
      refine OpI.ee k1 (c_X9_lose_v σ j hj) (if_pos e) ?_
      rw [setf_id e]
      exact h.E
    · rw [show loF σ j = (1, setf σ (2 + 2 * j) 1 0) from if_neg (fun q => e (q1.mp q))] at k1
      have e41 : (setf σ (2 + 2 * j) 1 0) 41 = σ 41 := setf_n (by omega)
      refine OpI.ee k1 (c_X9_lose_v (setf σ (2 + 2 * j) 1 0) j hj) (if_neg (by rw [e41]; exact e)) ⟨T, P, C, R, h.shh (fun k hk => ?_) (fun i hi => ?_) ?_ (fun j2 hj2 => ?_)⟩
      · exact (setf_n (by omega)).trans (setf_n (by omega))
      · show (setf (setf σ (2 + 2 * j) 1 0) 41 j (-9)) 40 i = σ 40 i
        rw [setf_n (by decide), setf_n (by omega)]
      · show (setf (setf σ (2 + 2 * j) 1 0) 41 j (-9)) 0 8 = (setf (setf σ (2 + 2 * j) 1 0) 41 j (-9)) 40 0
        rw [setf_n (by decide), setf_n (by omega), setf_n (by decide), setf_n (by omega)]
        exact h.2.2.2.2.2.2.1
      · show (∃ L : Nat, L ≤ 50 ∧ (setf (setf σ (2 + 2 * j) 1 0) 41 j (-9)) (2 + 2 * j2) 3 = nI L ∧ (setf (setf σ (2 + 2 * j) 1 0) 41 j (-9)) 42 j2 = nI L) ∧ (((setf (setf σ (2 + 2 * j) 1 0) 41 j (-9)) (2 + 2 * j2) 1 = 0 ∧ (setf (setf σ (2 + 2 * j) 1 0) 41 j (-9)) 41 j2 = -9) ∨ ((setf (setf σ (2 + 2 * j) 1 0) 41 j (-9)) (2 + 2 * j2) 1 = 1 ∧ (setf (setf σ (2 + 2 * j) 1 0) 41 j (-9)) (2 + 2 * j2) 2 = (setf (setf σ (2 + 2 * j) 1 0) 41 j (-9)) 41 j2 ∧ isT 3 ((setf (setf σ (2 + 2 * j) 1 0) 41 j (-9)) 41 j2))) ∧ ∀ i, i < 50 → (setf (setf σ (2 + 2 * j) 1 0) 41 j (-9)) (2 + 2 * j2 + 1) i = (setf (setf σ (2 + 2 * j) 1 0) 41 j (-9)) 43 (50 * j2 + i)
        have x1 : (setf (setf σ (2 + 2 * j) 1 0) 41 j (-9)) (2 + 2 * j2) = (setf σ (2 + 2 * j) 1 0) (2 + 2 * j2) := setf_n (by omega)
        have x2 : (setf (setf σ (2 + 2 * j) 1 0) 41 j (-9)) 42 = σ 42 := (setf_n (by decide)).trans (setf_n (by omega))
        have x3 : (setf (setf σ (2 + 2 * j) 1 0) 41 j (-9)) 41 = upd (σ 41) j (-9) := by unfold setf; rw [setc_s, setc_n (by omega)]
        have x4 : (setf (setf σ (2 + 2 * j) 1 0) 41 j (-9)) (2 + 2 * j2 + 1) = σ (2 + 2 * j2 + 1) := (setf_n (by omega)).trans (setf_n (by omega))
        have x5 : (setf (setf σ (2 + 2 * j) 1 0) 41 j (-9)) 43 = σ 43 := (setf_n (by decide)).trans (setf_n (by omega))
        rw [x1, x2, x3, x4, x5]
        obtain ⟨s1, s2, s3⟩ := h.sh hj2
        by_cases q : j2 = j
        · subst q
          have y : (setf σ (2 + 2 * j2) 1 0) (2 + 2 * j2) = upd (σ (2 + 2 * j2)) 1 0 := setc_s
          rw [y, upd_at, upd_at, upd_ne (by decide)]
          exact ⟨s1, Or.inl ⟨rfl, rfl⟩, s3⟩
        · rw [setf_n (by omega), upd_ne q]
          exact ⟨s1, s2, s3⟩
  · exact OpI.ee (c_X8_lose_u σ k hk) (c_X9_lose_u σ k hk) rfl h.E
theorem op_put {l : Launch} {D : DD} {ad : Nat → Nat} {σ : ST} (k i v : Int32) (h0 : RelE σ) : OpI (kC_put l D ad k i v) (kM_put l D ad k i v) σ := by
  obtain ⟨T, P, C, R, h⟩ := h0
  have hT6 := h.T6
  have hP6 := h.P6
  by_cases hk : isT 4 k
  · obtain ⟨j, hj, rfl⟩ := isT_of (N := 4) hk rfl (by decide)
    obtain ⟨q1, q2, q3, L, hL, q4⟩ := h.hs hj
    have hi := hc_is (i := i) (q3.trans q4) hL
    have k1 := c_X8_put_v (l := l) (D := D) (ad := ad) σ j i v hj L (q3.trans q4) hL
    have k2 := fun τ (hτ : τ 42 j = nI L) => c_X9_put_v (l := l) (D := D) (ad := ad) τ j i v hj L hτ hL
    by_cases e : σ 41 j = -9
    · rw [show puF σ j i v = (-11, setf σ 0 8 1) from if_pos (q1.mpr e)] at k1
      have k3 := k2 (setf σ 0 8 1) q4
      rw [show puM (setf σ 0 8 1) L j i v = (-11, setf (setf σ 0 8 1) 40 0 1) from if_pos e] at k3
      exact OpI.ee k1 k3 rfl ⟨T, P, C, R, h.ff⟩
    · have e0 : ¬ σ (2 + 2 * j) 1 = 0 := fun q => e (q1.mp q)
      by_cases ht : isT (nI L) i
      · obtain ⟨t, htL, rfl⟩ := isT_of ht rfl (by omega)
        rw [show puF σ j (nI t) v = (1, setf (setf σ 0 8 0) (2 + 2 * j + 1) t (cutL (σ 41 j) v)) from by unfold puF; rw [if_neg e0, if_neg (nn (hi.mpr ht)), nI_clamp (by omega), (q2 e).1]] at k1
        have e42 : (setf (setf σ 0 8 0) (2 + 2 * j + 1) t (cutL (σ 41 j) v)) 42 = σ 42 := (setf_n (by omega)).trans (setf_n (by decide))
        have e41 : (setf (setf σ 0 8 0) (2 + 2 * j + 1) t (cutL (σ 41 j) v)) 41 = σ 41 := (setf_n (by omega)).trans (setf_n (by decide))
        have k3 := k2 (setf (setf σ 0 8 0) (2 + 2 * j + 1) t (cutL (σ 41 j) v)) (by rw [e42]; exact q4)
        rw [show puM (setf (setf σ 0 8 0) (2 + 2 * j + 1) t (cutL (σ 41 j) v)) L j (nI t) v = (1, setf (setf (setf (setf σ 0 8 0) (2 + 2 * j + 1) t (cutL (σ 41 j) v)) 40 0 0) 43 (50 * j + t) (cutL (σ 41 j) v)) from by unfold puM; rw [e41, if_neg e, if_neg (nn ht), nI_clamp (by omega)]] at k3
        dsimp only at k1 k3
        have x1 : ∀ k, ¬ (k = 0 ∨ k = 40 ∨ k = 43 ∨ k = 2 + 2 * j + 1) → (setf (setf (setf (setf σ 0 8 0) (2 + 2 * j + 1) t (cutL (σ 41 j) v)) 40 0 0) 43 (50 * j + t) (cutL (σ 41 j) v)) k = σ k := fun k hk => (setf_n (by omega)).trans ((setf_n (by omega)).trans ((setf_n (by omega)).trans (setf_n (by omega))))
        have x2 : (setf (setf (setf (setf σ 0 8 0) (2 + 2 * j + 1) t (cutL (σ 41 j) v)) 40 0 0) 43 (50 * j + t) (cutL (σ 41 j) v)) 43 = upd (σ 43) (50 * j + t) (cutL (σ 41 j) v) := by
          unfold setf; rw [setc_s, setc_n (by decide), setc_n (by omega), setc_n (by decide)]
        have x3 : (setf (setf (setf (setf σ 0 8 0) (2 + 2 * j + 1) t (cutL (σ 41 j) v)) 40 0 0) 43 (50 * j + t) (cutL (σ 41 j) v)) (2 + 2 * j + 1) = upd (σ (2 + 2 * j + 1)) t (cutL (σ 41 j) v) := by
          rw [setf_n (by omega), setf_n (by omega)]
          unfold setf; rw [setc_s, setc_n (by omega)]
        have y0 : (setf (setf (setf (setf σ 0 8 0) (2 + 2 * j + 1) t (cutL (σ 41 j) v)) 40 0 0) 43 (50 * j + t) (cutL (σ 41 j) v)) 0 = upd (σ 0) 8 0 := (setf_n (by decide)).trans ((setf_n (by decide)).trans ((setf_n (by omega)).trans setc_s))
        have y40 : (setf (setf (setf (setf σ 0 8 0) (2 + 2 * j + 1) t (cutL (σ 41 j) v)) 40 0 0) 43 (50 * j + t) (cutL (σ 41 j) v)) 40 = upd (σ 40) 0 0 := by
          rw [setf_n (by decide)]
          unfold setf; rw [setc_s, setc_n (by omega), setc_n (by decide)]
        generalize (setf (setf (setf (setf σ 0 8 0) (2 + 2 * j + 1) t (cutL (σ 41 j) v)) 40 0 0) 43 (50 * j + t) (cutL (σ 41 j) v)) = υ at x1 x2 x3 y0 y40 k3
        refine OpI.ee k1 k3 rfl ⟨T, P, C, R, h.shh (fun k hk => x1 k (by omega)) (fun x hx => by rw [y40, upd_ne hx]) (by rw [y0, y40, upd_at, upd_at]) (fun j2 hj2 => ?_)⟩
        · skip
          rw [x1 (2 + 2 * j2) (by omega), x1 42 (by omega), x1 41 (by omega), x2]
          obtain ⟨s1, s2, s3⟩ := h.sh hj2
          refine ⟨s1, s2, fun y hy => ?_⟩
          by_cases q : j2 = j
          · subst q
            rw [x3]
            by_cases q2 : y = t
            · subst q2; rw [upd_at, upd_at]
            · rw [upd_ne q2, upd_ne (by omega)]; exact s3 y hy
          · rw [x1 (2 + 2 * j2 + 1) (by omega), upd_ne (by omega)]; exact s3 y hy
      · rw [show puF σ j i v = (-13, setf σ 0 8 3) from by unfold puF; rw [if_neg e0, if_pos (fun q => ht (hi.mp q))]] at k1
        have k3 := k2 (setf σ 0 8 3) q4
        rw [show puM (setf σ 0 8 3) L j i v = (-13, setf (setf σ 0 8 3) 40 0 3) from (if_neg e).trans (if_pos ht)] at k3
        exact OpI.ee k1 k3 rfl ⟨T, P, C, R, h.ff⟩
  · exact OpI.ee (c_X8_put_u σ k i v hk) (c_X9_put_u (setf σ 0 8 0) k i v hk) rfl ⟨T, P, C, R, h.ff⟩
theorem op_cell {l : Launch} {D : DD} {ad : Nat → Nat} {σ : ST} (k i a : Int32) (h0 : RelE σ) : OpL (kC_cell l D ad k i a) (kM_cell l D ad k i a) σ := by
  obtain ⟨T, P, C, R, h⟩ := h0
  have hT6 := h.T6
  have hP6 := h.P6
  by_cases hk : isT 4 k
  · obtain ⟨j, hj, rfl⟩ := isT_of (N := 4) hk rfl (by decide)
    by_cases ha : isT 3 a
    · obtain ⟨q1, q2, q3, L, hL, q4⟩ := h.hs hj
      have hi := hc_is (i := i) (q3.trans q4) hL
      have k1 := c_X8_cell_v (l := l) (D := D) (ad := ad) σ j i a hj L (q3.trans q4) hL ha
      have k2 := fun τ (hτ : τ 42 j = nI L) => c_X9_cell_v (l := l) (D := D) (ad := ad) τ j i a hj L hτ hL ha
      by_cases e : σ 41 j = -9
      · rw [show ceF σ j i a = (lostL, setf σ 0 8 1) from (if_neg (fun q => q.1 (q1.mpr e))).trans (if_pos (q1.mpr e))] at k1
        have k3 := k2 (setf σ 0 8 1) q4
        rw [show ceM (setf σ 0 8 1) L j i a = (lostL, setf (setf σ 0 8 1) 40 0 1) from (if_neg (fun q => q.1 e)).trans (if_pos e)] at k3
        exact OpL.ee k1 k3 rfl ⟨T, P, C, R, h.ff⟩
      · have e0 : ¬ σ (2 + 2 * j) 1 = 0 := fun q => e (q1.mp q)
        have el := (q2 e).1
        by_cases ea : σ 41 j = a
        · by_cases ht : isT (nI L) i
          · obtain ⟨t, htL, rfl⟩ := isT_of ht rfl (by omega)
            rw [show ceF σ j (nI t) a = ((σ (2 + 2 * j + 1) t).toInt64, setf σ 0 8 0) from by unfold ceF; rw [if_neg (fun q => q.2 (el.trans ea)), if_neg e0, if_neg (nn (hi.mpr ht)), nI_clamp (by omega)]] at k1
            have k3 := k2 (setf σ 0 8 0) q4
            rw [show ceM (setf σ 0 8 0) L j (nI t) a = ((σ 43 (50 * j + t)).toInt64, setf (setf σ 0 8 0) 40 0 0) from by unfold ceM; rw [if_neg (fun q => q.2 ea), if_neg (show ¬ (setf σ 0 8 0) 41 j = -9 from e), if_neg (nn ht), nI_clamp (by omega)]; rfl] at k3
            exact OpL.ee k1 k3 (by rw [(h.sh hj).2.2 t (by omega)]) ⟨T, P, C, R, h.ff⟩
          · rw [show ceF σ j i a = (lostL, setf σ 0 8 3) from by unfold ceF; rw [if_neg (fun q => q.2 (el.trans ea)), if_neg e0, if_pos (fun q => ht (hi.mp q))]] at k1
            have k3 := k2 (setf σ 0 8 3) q4
            rw [show ceM (setf σ 0 8 3) L j i a = (lostL, setf (setf σ 0 8 3) 40 0 3) from (if_neg (fun q => q.2 ea)).trans ((if_neg e).trans (if_pos ht))] at k3
            exact OpL.ee k1 k3 rfl ⟨T, P, C, R, h.ff⟩
        · rw [show ceF σ j i a = (lostL, setf σ 0 8 2) from if_pos ⟨e0, fun q => ea (el.symm.trans q)⟩] at k1
          have k3 := k2 (setf σ 0 8 2) q4
          rw [show ceM (setf σ 0 8 2) L j i a = (lostL, setf (setf σ 0 8 2) 40 0 2) from if_pos ⟨e, ea⟩] at k3
          exact OpL.ee k1 k3 rfl ⟨T, P, C, R, h.ff⟩
    · exact OpL.ee (c_X8_cell_o σ j i a hj ha) (c_X9_cell_u (setf σ 0 8 0) (nI j) i a (fun q => ha q.2)) rfl ⟨T, P, C, R, h.ff⟩
  · exact OpL.ee (c_X8_cell_u σ k i a hk) (c_X9_cell_u (setf σ 0 8 0) k i a (fun q => hk q.1)) rfl ⟨T, P, C, R, h.ff⟩
