/-! THE LAW: the orchard that it laid is taken -/
theorem plE_bit {σ : ST} {n T : Nat} : ∀ P : Nat, P ≤ 32 → ∀ d p, d < 30 → p < 32 → (bit (plE σ n T P d) (nI p) ↔ p < P ∧ plTm σ n T p = nI d) := by
  intro P
  induction P with
  | zero => intro _ d p _ hp; exact ⟨fun h => absurd h (bit_0 hp), fun h => absurd h.1 (Nat.not_lt_zero _)⟩
  | succ P ih =>
    intro hP d p hd hp
    have ih2 := ih (by omega) d p hd hp
    obtain ⟨x, hx, ex⟩ := termT_d (σ := σ) (n := n) (j := 1 + 3 * T + 4 * P + 2)
    have ex2 : plTm σ n T P = nI x := ex
    show bit (upd (plE σ n T P) (plTm σ n T P).toNatClampNeg (plE σ n T P (plTm σ n T P).toNatClampNeg ||| own1 (nI P)) d) (nI p) ↔ _
    rw [ex2, nI_clamp (by omega)]
    unfold upd
    by_cases e : d = x
    · subst e
      rw [if_pos rfl, bit_or hp, ih2, bit_own (by omega) hp]
      constructor
      · rintro (⟨a, b⟩ | rfl)
        · exact ⟨by omega, b⟩
        · exact ⟨by omega, ex2⟩
      · rintro ⟨a, b⟩
        by_cases e : p = P
        · exact Or.inr e
        · exact Or.inl ⟨by omega, b⟩
    · rw [if_neg e, ih2]
      constructor
      · rintro ⟨a, b⟩; exact ⟨by omega, b⟩
      · rintro ⟨a, b⟩
        by_cases e2 : p = P
        · subst e2
          exact absurd ((nI_eq (by omega) (by omega)).mp (b.symm.trans ex2)) e
        · exact ⟨by omega, b⟩
theorem wantCM {k : Int32} {n : Nat} (hk : k = 0 ∨ k = 1 ∨ k = 2) (hn : n ≤ 9) : wantC k (nI n) = wantM k (nI n) := by
  have hh : ∀ m : Fin 10, wantC 0 (nI m.val) = wantM 0 (nI m.val) ∧ wantC 1 (nI m.val) = wantM 1 (nI m.val) ∧ wantC 2 (nI m.val) = wantM 2 (nI m.val) := by decide
  have h2 := hh ⟨n, by omega⟩
  rcases hk with rfl | rfl | rfl
  · exact h2.1
  · exact h2.2.1
  · exact h2.2.2
theorem opCM {k lk : Int32} (hk : k = 0 ∨ k = 1 ∨ k = 2) : opensC k lk = opM k lk := by
  rcases hk with rfl | rfl | rfl <;> rfl
theorem kd_ltr {k : Int32} (hk : k = 0 ∨ k = 1 ∨ k = 2) : kdT (ltr k) = k ∧ ¬ kdT (ltr k) = -9 := by
  rcases hk with rfl | rfl | rfl <;> decide
theorem dg48 (v : Nat) : nI (48 + v) - 48 = nI v := by
  rw [show nI (48 + v) = 48 + nI v from (nI_add 48 v).symm, Int32.add_comm, Int32.add_sub_cancel]
section OR
variable {τ : ST} {T P m : Nat}
theorem or_code (hm : m = 1 + 3 * T + 4 * P) {i : Nat} (hi : i < m) : codeT (orT τ 0 0 m) m i = τ 3 i := by
  unfold codeT
  rw [if_pos hi]
  show (if 0 ≤ i ∧ i < 0 + m then τ 3 (0 + (i - 0)) else τ 11 i) = τ 3 i
  rw [if_pos ⟨Nat.zero_le _, by omega⟩, show 0 + (i - 0) = i by omega]
theorem or_dig (hm : m = 1 + 3 * T + 4 * P) {i v a b : Nat} (A B : Int32) (eA : A = nI a) (eB : B = nI b) (hi : i < m) (h : τ 3 i = nI (48 + v)) (ha : a ≤ v) (hv : v ≤ b) (hb : b ≤ 100) : digT (orT τ 0 0 m) m i = nI v ∧ isD (orT τ 0 0 m) m i A B := by
  subst eA; subst eB
  have e : digT (orT τ 0 0 m) m i = nI v := by
    unfold digT
    rw [or_code hm hi, h]
    exact dg48 v
  exact ⟨e, hi, by rw [e]; exact nI_nlt ha (by omega), by rw [e]; exact nI_nlt hv (by omega)⟩
theorem or_A (hm : m = 1 + 3 * T + 4 * P) (hT6 : T ≤ 6) (hP0 : 0 < P) (hT : PT τ T) (hP : PP τ T P) : ∀ f t, t + f = 6 → t ≤ T → ffA (orT τ 0 0 m) m f t = (T, none) := by
  intro f
  induction f with
  | zero => intro t h1 h2; show (t, none) = (T, none); rw [show t = T by omega]
  | succ f ih =>
    intro t h1 h2
    rw [ffA_s]
    by_cases e : t = T
    · subst e
      rw [if_pos]
      rw [or_code hm (by omega), show 1 + 3 * t = 1 + 3 * t + 4 * 0 by omega, (hP 0 hP0).1]
      decide
    · obtain ⟨⟨hk, ek⟩, ⟨l, hl, el, cl⟩, n, n1, n9, en, cn⟩ := hT t (by omega)
      rw [if_neg (by rw [or_code hm (by omega), ek]; exact (kd_ltr hk).2), show 2 + 3 * t = 1 + 3 * t + 1 by omega, show 3 + 3 * t = 1 + 3 * t + 1 + 1 by omega, if_neg (nn (or_dig hm (a := 0) (b := 5) 0 5 rfl rfl (by omega) cl (by omega) (by omega) (by decide)).2), if_neg (nn (or_dig hm (a := 1) (b := 9) 1 9 rfl rfl (by omega) cn n1 n9 (by decide)).2)]
      exact ih (t + 1) (by omega) (by omega)
theorem or_B (hm : m = 1 + 3 * T + 4 * P) (hP6 : P ≤ 6) (hP : PP τ T P) : ∀ f p, p + f = 6 → p ≤ P → ffB (orT τ 0 0 m) m (1 + 3 * T) f p = (P, none) := by
  intro f
  induction f with
  | zero => intro t h1 h2; show (t, none) = (P, none); rw [show t = P by omega]
  | succ f ih =>
    intro p h1 h2
    rw [ffB_s]
    by_cases e : p = P
    · subst e
      rw [if_pos]
      unfold codeT
      rw [if_neg (by omega)]
      decide
    · obtain ⟨c0, ⟨l, hl, el, cl⟩, d, hd, ed, c2, c3⟩ := hP p (by omega)
      rw [if_neg (nn (by rw [or_code hm (by omega), c0]; rfl)), if_neg (nn (or_dig hm (a := 0) (b := 5) 0 5 rfl rfl (by omega) cl (by omega) (by omega) (by decide)).2), show 1 + 3 * T + 4 * p + 2 = 1 + 3 * T + 4 * p + 1 + 1 by omega, show 1 + 3 * T + 4 * p + 3 = 1 + 3 * T + 4 * p + 1 + 1 + 1 by omega, if_neg (nn (or_dig hm (a := 0) (b := 2) 0 2 rfl rfl (by omega) c2 (by omega) (by omega) (by decide)).2), if_neg (nn (or_dig hm (a := 0) (b := 9) 0 9 rfl rfl (by omega) c3 (by omega) (by omega) (by decide)).2)]
      exact ih (p + 1) (by omega) (by omega)
theorem or_R (hm : m = 1 + 3 * T + 4 * P) (hH : PH τ T P) (hT : PT τ T) (hP : PP τ T P) : ffR (orT τ 0 0 m) m = (-1, T, P) := by
  obtain ⟨⟨hT0, hT6, hP0, hP6⟩, -, -, -, h107⟩ := hH
  unfold ffR
  rw [if_neg (nn (by rw [or_code hm (by omega), h107]; rfl)), or_A hm hT6 hP0 hT hP 6 0 rfl (Nat.zero_le _)]
  show (if T = 0 then _ else _) = _
  rw [if_neg (by omega), or_B hm hP6 hP 6 0 rfl (Nat.zero_le _)]
  show (if P = 0 ∨ 1 + 3 * T + 4 * P < m then _ else _) = _
  rw [if_neg (by omega)]
def orC (β : ST) (m M Q : Nat) : ST := setf (setf (setf (setc (setc (plC β m M Q M) 22 (fun _ => 0)) 23 (fun _ => -9)) 21 4 0) 21 5 0) 26 3 0
theorem or_LI {v : Int32} {τ2 : ST} (hm : m = 1 + 3 * T + 4 * P) (hH : PH τ T P) (hT : PT τ T) (hP : PP τ T P) (h : orQ τ 0 0 m v τ2) : v = nI T ∧ LI τ2 T P 0 := by
  have hR := or_R hm hH hT hP
  obtain ⟨⟨hT0, hT6, hP0, hP6⟩, ⟨g0, g1, g2, g21⟩, -, hw, -⟩ := hH
  unfold orQ at h
  have hPe : orP τ 0 0 m = orC (ffS (orT τ 0 0 m) T P) m T P := by unfold orP orC; rw [hR]
  rw [hR, if_pos rfl, hPe] at h
  obtain ⟨hv, hτ⟩ := h
  refine ⟨hv, ?_⟩
  clear hR hPe hv
  have hkk : ∀ t, t < T → plK (ffS (orT τ 0 0 m) T P) m t = τ 40 (3 + t) := fun t ht => by
    show kdT (codeT (orT τ 0 0 m) m (1 + 3 * t)) = _
    rw [or_code hm (by omega), (hT t ht).1.2]
    exact (kd_ltr (hT t ht).1.1).1
  have hll : ∀ t, t < T → plL (ffS (orT τ 0 0 m) T P) m t = τ 40 (9 + t) := fun t ht => by
    obtain ⟨l, hl, el, cl⟩ := (hT t ht).2.1
    show digT (orT τ 0 0 m) m (2 + 3 * t) = _
    rw [show 2 + 3 * t = 1 + 3 * t + 1 by omega, (or_dig hm (a := 0) (b := 5) 0 5 rfl rfl (by omega) cl (by omega) (by omega) (by decide)).1, el]
  have hnn : ∀ t, t < T → plN (ffS (orT τ 0 0 m) T P) m t = τ 40 (15 + t) := fun t ht => by
    obtain ⟨n, n1, n9, en, cn⟩ := (hT t ht).2.2
    show digT (orT τ 0 0 m) m (3 + 3 * t) = _
    rw [show 3 + 3 * t = 1 + 3 * t + 1 + 1 by omega, (or_dig hm (a := 1) (b := 9) 1 9 rfl rfl (by omega) cn n1 n9 (by decide)).1, en]
  have hpl : ∀ p, p < P → plPL (ffS (orT τ 0 0 m) T P) m T p = τ 40 (22 + p) := fun p hp => by
    obtain ⟨-, ⟨l, hl, el, cl⟩, -⟩ := hP p hp
    show digT (orT τ 0 0 m) m (1 + 3 * T + 4 * p + 1) = _
    rw [(or_dig hm (a := 0) (b := 5) 0 5 rfl rfl (by omega) cl (by omega) (by omega) (by decide)).1, el]
  have htm : ∀ p, p < P → plTm (ffS (orT τ 0 0 m) T P) m T p = τ 40 (28 + p) := fun p hp => by
    obtain ⟨-, -, d, hd, ed, c2, c3⟩ := hP p hp
    show termT (orT τ 0 0 m) m (1 + 3 * T + 4 * p + 2) = _
    have e : 10 * digT (orT τ 0 0 m) m (1 + 3 * T + 4 * p + 2) + digT (orT τ 0 0 m) m (1 + 3 * T + 4 * p + 2 + 1) = nI d := by
      rw [show 1 + 3 * T + 4 * p + 2 = 1 + 3 * T + 4 * p + 1 + 1 by omega, (or_dig hm (a := 0) (b := 2) 0 2 rfl rfl (by omega) c2 (by omega) (by omega) (by decide)).1, (or_dig hm (a := 0) (b := 9) 0 9 rfl rfl (by omega) c3 (by omega) (by omega) (by decide)).1, show (10 : Int32) * nI (d / 10) = nI (10 * (d / 10)) from pk_mul 10 _, nI_add]
      congr 1
      omega
    unfold termT
    rw [e]
    exact (if_pos (isT_nI (N := 30) hd (by decide))).trans ed.symm
  subst hτ
  have a13 : ∀ t, t < T → (orC (ffS (orT τ 0 0 m) T P) m T P) 13 t = τ 40 (3 + t) := fun t ht => (pre_lt ht).trans (hkk t ht)
  have a14 : ∀ t, t < T → (orC (ffS (orT τ 0 0 m) T P) m T P) 14 t = τ 40 (9 + t) := fun t ht => (pre_lt ht).trans (hll t ht)
  have a15 : ∀ t, t < T → (orC (ffS (orT τ 0 0 m) T P) m T P) 15 t = τ 40 (15 + t) := fun t ht => (pre_lt ht).trans (hnn t ht)
  have a16 : ∀ t, t < T → (orC (ffS (orT τ 0 0 m) T P) m T P) 16 t = plW (ffS (orT τ 0 0 m) T P) m t := fun t ht => pre_lt ht
  have a17 : ∀ t, t < T → (orC (ffS (orT τ 0 0 m) T P) m T P) 17 t = fitC (plB (ffS (orT τ 0 0 m) T P) m T P) t P := fun t ht => pre_lt (f := fun t => fitC (plB (ffS (orT τ 0 0 m) T P) m T P) t P) ht
  have a18 : ∀ p, p < P → (orC (ffS (orT τ 0 0 m) T P) m T P) 18 p = τ 40 (22 + p) := fun p hp => (pre_lt hp).trans (hpl p hp)
  have a19 : ∀ p, p < P → (orC (ffS (orT τ 0 0 m) T P) m T P) 19 p = τ 40 (28 + p) := fun p hp => (pre_lt hp).trans (htm p hp)
  have b13 : ∀ t, t < T → (plB (ffS (orT τ 0 0 m) T P) m T P) 13 t = τ 40 (3 + t) := fun t ht => (pre_lt ht).trans (hkk t ht)
  have b14 : ∀ t, t < T → (plB (ffS (orT τ 0 0 m) T P) m T P) 14 t = τ 40 (9 + t) := fun t ht => (pre_lt ht).trans (hll t ht)
  have b18 : ∀ p, p < P → (plB (ffS (orT τ 0 0 m) T P) m T P) 18 p = τ 40 (22 + p) := fun p hp => (pre_lt hp).trans (hpl p hp)
  refine ⟨⟨⟨hT0, hT6, hP0, hP6⟩, ⟨rfl, rfl, g0, g1⟩, fun t ht => ?_, fun p hp => ?_, fun d hd => ?_⟩, ⟨fun d hd => ?_, fun d hd => ?_⟩, ⟨by decide, rfl, g2, fun c hc => absurd hc (Nat.not_lt_zero _)⟩, g21.symm⟩
  · obtain ⟨⟨hk, -⟩, ⟨l, hl, el, -⟩, n, n1, n9, en, -⟩ := hT t ht
    refine ⟨⟨a13 t ht, a14 t ht, a15 t ht, ?_, ?_⟩, hk, ⟨l, hl, el⟩, n, n1, n9, en⟩
    · rw [a16 t ht]
      show plW (ffS (orT τ 0 0 m) T P) m t = wantM (τ 40 (3 + t)) (τ 40 (15 + t))
      unfold plW
      rw [hkk t ht, hnn t ht, en]
      exact wantCM hk n9
    · rw [a17 t ht]
      unfold fitC
      refine setB_cg (by omega) fun p hp => ?_
      rw [b13 t ht, b14 t ht, b18 p hp, opCM hk]
      exact Iff.rfl
  · obtain ⟨-, ⟨l, hl, el, -⟩, d, hd, ed, -⟩ := hP p hp
    exact ⟨a18 p hp, a19 p hp, ⟨l, hl, el⟩, d, hd, ed⟩
  · show plE (ffS (orT τ 0 0 m) T P) m T P d = setB (fun p => τ 40 (28 + p) = nI d) P
    refine bit_ext fun i hi => ?_
    rw [plE_bit P (by omega) d i hd hi, bit_setB P (by omega) i hi]
    exact and_congr_right fun hiP => by rw [htm i hiP]
  · show bit 0 (nI d) ↔ ¬ τ 43 d = 0
    exact ⟨fun q => absurd q (bit_0 (by omega)), fun q => absurd (hw d hd).2.2 q⟩
  · obtain ⟨w1, w2, w3⟩ := hw d hd
    show (0 : Int32) = τ 41 d ∧ (-9 : Int32) = τ 42 d ∧ (∃ v : Nat, v ≤ 9 ∧ τ 41 d = nI v) ∧ (τ 42 d = -9 ∨ ∃ t : Nat, t < T ∧ τ 42 d = nI t) ∧ (τ 43 d = 0 ∨ τ 43 d = 1)
    rw [w1, w2, w3]
    exact ⟨rfl, rfl, ⟨0, by decide, rfl⟩, Or.inl rfl, Or.inl rfl⟩
end OR
