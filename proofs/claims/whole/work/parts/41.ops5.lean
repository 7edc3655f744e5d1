/-! the operations of both sides: copies, orchards -/
theorem op_copy {l : Launch} {D : DD} {ad : Nat → Nat} {σ : ST} (k i o e n : Int32) (h0 : RelE σ) : OpI (kC_copy l D ad k i o e n) (kM_copy l D ad k i o e n) σ := by
  obtain ⟨T, P, C, R, h⟩ := h0
  have hT6 := h.T6
  have hP6 := h.P6
  by_cases hk : isT 4 k
  · obtain ⟨j, hj, rfl⟩ := isT_of (N := 4) hk rfl (by decide)
    by_cases ho : isT 4 o
    · obtain ⟨j2, hj2, rfl⟩ := isT_of (N := 4) ho rfl (by decide)
      obtain ⟨p1, p2, p3, L, hL, p4⟩ := h.hs hj
      obtain ⟨q1, q2, q3, L2, hL2, q4⟩ := h.hs hj2
      have k1 := c_X8_copy_v (l := l) (D := D) (ad := ad) σ j j2 i e n hj hj2 L L2 (p3.trans p4) hL (q3.trans q4) hL2
      have k2 := fun τ (hτ : τ 42 j = nI L) (hτ2 : τ 42 j2 = nI L2) => c_X9_copy_v (l := l) (D := D) (ad := ad) τ j j2 i e n hj hj2 L L2 hτ hL hτ2 hL2
      by_cases hA : σ 41 j = -9 ∨ σ 41 j2 = -9
      · rw [show cpF σ j j2 i e n = (-11, setf σ 0 8 1) from if_pos (hA.imp p1.mpr q1.mpr)] at k1
        have k3 := k2 (setf σ 0 8 1) p4 q4
        rw [show cpM (setf σ 0 8 1) j j2 i e n = (-11, setf (setf σ 0 8 1) 40 0 1) from if_pos hA] at k3
        exact OpI.ee k1 k3 rfl ⟨T, P, C, R, h.ff⟩
      · have hA2 : ¬ (σ (2 + 2 * j) 1 = 0 ∨ σ (2 + 2 * j2) 1 = 0) := fun q => hA (q.imp p1.mp q1.mp)
        have l1 := (p2 (fun q => hA (Or.inl q))).1
        have l2 := (q2 (fun q => hA (Or.inr q))).1
        by_cases hB : σ 41 j = σ 41 j2
        · have hB2 : σ (2 + 2 * j) 2 = σ (2 + 2 * j2) 2 := by rw [l1, l2, hB]
          by_cases hC : hcM (nI L) i n ∧ hcM (nI L2) e n
          · have hC2 : hcC σ j i n ∧ hcC σ j2 e n := by unfold hcC; rw [p3.trans p4, q3.trans q4]; exact hC
            obtain ⟨t, m, rfl, rfl, htm⟩ := (hcN hL).mp hC.1
            obtain ⟨t2, m2, rfl, em, htm2⟩ := (hcN hL2).mp hC.2
            have emm : m = m2 := (nI_eq (by omega) (by omega)).mp em
            subst emm
            rw [show cpF σ j j2 (nI t) (nI t2) (nI m) = (nI m, setc (setf σ 0 8 0) (2 + 2 * j2 + 1) (va_cpy (σ (2 + 2 * j + 1)) (σ (2 + 2 * j2 + 1)) t t2 m)) from by unfold cpF; rw [if_neg hA2, if_neg (nn hB2), if_neg (nn hC2), nI_clamp (by omega), nI_clamp (by omega), nI_clamp (by omega)]] at k1
            generalize hτ : setc (setf σ 0 8 0) (2 + 2 * j2 + 1) (va_cpy (σ (2 + 2 * j + 1)) (σ (2 + 2 * j2 + 1)) t t2 m) = τ at k1
            have t1 : ∀ k, ¬ (k = 0 ∨ k = 2 + 2 * j2 + 1) → τ k = σ k := fun k hk => by rw [← hτ]; exact (setc_n (by omega)).trans (setf_n (by omega))
            have t3 : τ (2 + 2 * j2 + 1) = va_cpy (σ (2 + 2 * j + 1)) (σ (2 + 2 * j2 + 1)) t t2 m := by rw [← hτ]; exact setc_s
            have t0 : τ 0 = upd (σ 0) 8 0 := by rw [← hτ]; exact (setc_n (by omega)).trans setc_s
            have k3 := k2 τ (by rw [t1 42 (by omega)]; exact p4) (by rw [t1 42 (by omega)]; exact q4)
            rw [show cpM τ j j2 (nI t) (nI t2) (nI m) = (nI m, setc (setf τ 40 0 0) 43 (mvF (σ 43) (50 * j + t) (50 * j2 + t2) 0 m)) from by unfold cpM; rw [t1 41 (by omega), t1 42 (by omega), t1 43 (by omega), if_neg hA, if_neg (nn hB), p4, q4, if_neg (nn hC), nI_clamp (by omega), nI_clamp (by omega), nI_clamp (by omega)]] at k3
            dsimp only at k1 k3
            have x1 : ∀ k, ¬ (k = 0 ∨ k = 40 ∨ k = 43 ∨ k = 2 + 2 * j2 + 1) → setc (setf τ 40 0 0) 43 (mvF (σ 43) (50 * j + t) (50 * j2 + t2) 0 m) k = σ k := fun k hk => (setc_n (by omega)).trans ((setf_n (by omega)).trans (t1 k (by omega)))
            have x2 : setc (setf τ 40 0 0) 43 (mvF (σ 43) (50 * j + t) (50 * j2 + t2) 0 m) 43 = mvF (σ 43) (50 * j + t) (50 * j2 + t2) 0 m := setc_s
            have x3 : setc (setf τ 40 0 0) 43 (mvF (σ 43) (50 * j + t) (50 * j2 + t2) 0 m) (2 + 2 * j2 + 1) = va_cpy (σ (2 + 2 * j + 1)) (σ (2 + 2 * j2 + 1)) t t2 m := (setc_n (by omega)).trans ((setf_n (by omega)).trans t3)
            have y0 : setc (setf τ 40 0 0) 43 (mvF (σ 43) (50 * j + t) (50 * j2 + t2) 0 m) 0 = upd (σ 0) 8 0 := (setc_n (by decide)).trans ((setf_n (by decide)).trans t0)
            have y40 : setc (setf τ 40 0 0) 43 (mvF (σ 43) (50 * j + t) (50 * j2 + t2) 0 m) 40 = upd (σ 40) 0 0 := by
              rw [setc_n (by decide)]
              unfold setf; rw [setc_s, t1 40 (by omega)]
            generalize setc (setf τ 40 0 0) 43 (mvF (σ 43) (50 * j + t) (50 * j2 + t2) 0 m) = υ at x1 x2 x3 y0 y40 k3
            refine OpI.ee k1 k3 rfl ⟨T, P, C, R, h.shh (fun k hk => x1 k (by omega)) (fun x hx => by rw [y40, upd_ne hx]) (by rw [y0, y40, upd_at, upd_at]) (fun j3 hj3 => ?_)⟩
            rw [x1 (2 + 2 * j3) (by omega), x1 42 (by omega), x1 41 (by omega), x2]
            obtain ⟨s1, s2, s3⟩ := h.sh hj3
            refine ⟨s1, s2, fun y hy => ?_⟩
            by_cases q : j3 = j2
            · subst q
              rw [x3]
              unfold va_cpy mvF
              by_cases q5 : t2 ≤ y ∧ y < t2 + m
              · rw [if_pos q5, if_pos ⟨by omega, by omega⟩]
                have := (h.sh hj).2.2 (t + (y - t2)) (by omega)
                rw [show 50 * j + t + (50 * j3 + y - (50 * j3 + t2)) = 50 * j + (t + (y - t2)) by omega, ← this]
              · rw [if_neg q5, if_neg (by omega)]
                exact s3 y hy
            · rw [x1 (2 + 2 * j3 + 1) (by omega), s3 y hy]
              unfold mvF
              rw [if_neg (by omega)]
          · have hC2 : ¬ (hcC σ j i n ∧ hcC σ j2 e n) := by unfold hcC; rw [p3.trans p4, q3.trans q4]; exact hC
            rw [show cpF σ j j2 i e n = (-13, setf σ 0 8 3) from by unfold cpF; rw [if_neg hA2, if_neg (nn hB2), if_pos hC2]] at k1
            have k3 := k2 (setf σ 0 8 3) p4 q4
            rw [show cpM (setf σ 0 8 3) j j2 i e n = (-13, setf (setf σ 0 8 3) 40 0 3) from (if_neg hA).trans ((if_neg (nn hB)).trans (if_pos (by rw [show (setf σ 0 8 3) 42 j = nI L from p4, show (setf σ 0 8 3) 42 j2 = nI L2 from q4]; exact hC)))] at k3
            exact OpI.ee k1 k3 rfl ⟨T, P, C, R, h.ff⟩
        · have hB2 : ¬ σ (2 + 2 * j) 2 = σ (2 + 2 * j2) 2 := by rw [l1, l2]; exact hB
          rw [show cpF σ j j2 i e n = (-12, setf σ 0 8 2) from by unfold cpF; rw [if_neg hA2, if_pos hB2]] at k1
          have k3 := k2 (setf σ 0 8 2) p4 q4
          rw [show cpM (setf σ 0 8 2) j j2 i e n = (-12, setf (setf σ 0 8 2) 40 0 2) from (if_neg hA).trans (if_pos hB)] at k3
          exact OpI.ee k1 k3 rfl ⟨T, P, C, R, h.ff⟩
    · exact OpI.ee (c_X8_copy_u3 σ j i o e n ho hj) (c_X9_copy_u (setf σ 0 8 0) (nI j) i o e n (fun q => ho q.2)) rfl ⟨T, P, C, R, h.ff⟩
  · by_cases ho : isT 4 o
    · obtain ⟨j, hj, rfl⟩ := isT_of (N := 4) ho rfl (by decide)
      exact OpI.ee (c_X8_copy_u2 σ j k i e n hk hj) (c_X9_copy_u (setf σ 0 8 0) k i (nI j) e n (fun q => hk q.1)) rfl ⟨T, P, C, R, h.ff⟩
    · exact OpI.ee (c_X8_copy_u1 σ k i o e n hk ho) (c_X9_copy_u (setf σ 0 8 0) k i o e n (fun q => hk q.1)) rfl ⟨T, P, C, R, h.ff⟩
theorem op_orchard {l : Launch} {D : DD} {ad : Nat → Nat} {σ : ST} (k a i n : Int32) (h0 : RelE σ) : OpI (kC_orchard l D ad k a i n) (kM_orchard l D ad k a i n) σ := by
  obtain ⟨T, P, C, R, h⟩ := h0
  have hT6 := h.T6
  have hP6 := h.P6
  by_cases hk : isT 4 k
  · obtain ⟨j, hj, rfl⟩ := isT_of (N := 4) hk rfl (by decide)
    by_cases ha : isT 3 a
    · obtain ⟨q1, q2, q3, L, hL, q4⟩ := h.hs hj
      by_cases hok : ¬ (¬ σ (2 + 2 * j) 1 = 0 ∧ ¬ σ (2 + 2 * j) 2 = a) ∧ ¬ σ (2 + 2 * j) 1 = 0 ∧ hcC σ j i n
      · obtain ⟨o1, o2, o3⟩ := hok
        have e : ¬ σ 41 j = -9 := fun q => o2 (q1.mpr q)
        have el : σ (2 + 2 * j) 2 = a := Decidable.of_not_not (fun q => o1 ⟨o2, q⟩)
        unfold hcC at o3
        rw [q3.trans q4] at o3
        obtain ⟨s, m, rfl, rfl, hsm⟩ := (hcN hL).mp o3
        refine OpI.qq (c_X8_orchard_v σ j s m a hj ha o2 el L (q3.trans q4) hL hsm) (fun v τ hq => ?_)
        have e41 : τ 41 = σ 41 ∧ τ 42 = σ 42 := by
          unfold orQ at hq
          split at hq
          · obtain ⟨-, rfl⟩ := hq; exact ⟨rfl, rfl⟩
          · obtain ⟨-, hkp⟩ := hq
            rw [hkp 41 (by unfold scr; omega), hkp 42 (by unfold scr; omega)]
            exact ⟨rfl, rfl⟩
        exact ⟨_, c_X9_orchard_v τ j s m a hj ha (by rw [e41.1]; exact e) (by rw [e41.1, ← (q2 e).1]; exact el) L (by rw [e41.2]; exact q4) hL hsm, fun v2 τ2 hq2 => or_eq h hj (by omega) hq hq2⟩
      · have hag : agF σ j a i n = orE σ j a n ∧ ¬ agF σ j a i n = 0 := by
          unfold agF orE
          by_cases e : σ 41 j = -9
          · rw [if_neg (fun q => q.1 e), if_pos e, if_neg (fun q => q.1 (q1.mpr e)), if_pos (q1.mpr e)]
            exact ⟨rfl, by decide⟩
          · have e0 : ¬ σ (2 + 2 * j) 1 = 0 := fun q => e (q1.mp q)
            rw [(q2 e).1]
            by_cases ea : σ 41 j = a
            · have g1 : ¬ (¬ σ 41 j = -9 ∧ ¬ σ 41 j = a) := fun q => q.2 ea
              have g2 : ¬ (¬ σ (2 + 2 * j) 1 = 0 ∧ ¬ σ 41 j = a) := fun q => q.2 ea
              rw [if_neg g1, if_neg e, if_neg g2, if_neg e0]
              by_cases hn : n < 0
              · rw [if_pos hn, if_pos hn]; exact ⟨rfl, by decide⟩
              · rw [if_neg hn, if_neg hn, if_pos]
                · exact ⟨rfl, by decide⟩
                · refine Decidable.of_not_not (fun q => hok ⟨fun z => z.2 ((q2 e).1.trans ea), e0, ?_⟩)
                  unfold hcC
                  rw [q3]
                  exact ⟨fun z => q (Or.inl z), fun z => q (Or.inr (Or.inl z)), hn, fun z => q (Or.inr (Or.inr z))⟩
            · rw [if_pos ⟨e, ea⟩, if_pos ⟨e0, ea⟩]
              exact ⟨rfl, by decide⟩
        have k1 := c_X8_orchard_e (l := l) (D := D) (ad := ad) σ j a i n hj ha hok
        have k3 := c_X9_orchard_e (l := l) (D := D) (ad := ad) (setf σ 0 8 (orE σ j a n)) j a i n hj ha hag.2
        rw [show agF (setf σ 0 8 (orE σ j a n)) j a i n = orE σ j a n from hag.1] at k3
        exact OpI.ee k1 k3 rfl ⟨T, P, C, R, h.ff⟩
    · exact OpI.ee (c_X8_orchard_o σ j a i n hj ha) (c_X9_orchard_o (setf σ 0 8 0) j a i n hj ha) rfl ⟨T, P, C, R, h.ff⟩
  · exact OpI.ee (c_X8_orchard_u σ k a i n hk) (c_X9_orchard_u (setf σ 0 8 0) k a i n hk) rfl ⟨T, P, C, R, h.ff⟩
