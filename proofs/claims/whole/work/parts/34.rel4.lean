/-! the relation: saws, worth, odds, green keys, thieves, the free -/
theorem setB_cg {q r : Nat → Prop} [DecidablePred q] [DecidablePred r] {n : Nat} (hn : n ≤ 32) (h : ∀ i, i < n → (q i ↔ r i)) : setB q n = setB r n := bit_ext fun i hi => by
  rw [bit_setB n hn i hi, bit_setB n hn i hi]
  exact and_congr_right fun hin => h i hin
theorem flM_cg {σ μ : ST} {T : Nat} (hμ : μ 47 = σ 47) : flM μ T = flM σ T := by unfold flM; rw [hμ]
theorem lt_nat {x : Int32} {T : Nat} (hT : T ≤ 6) (h : ∀ i, i < 32 → bit x (nI i) → i < T) : ∃ a, a < 2 ^ T ∧ x = nI a := by
  have hb : x.toBitVec.toNat < 2 ^ T := Nat.lt_pow_two_of_testBit _ fun i hi => by
    rcases Nat.lt_or_ge i 32 with h32 | h32
    · rcases Bool.eq_false_or_eq_true (x.toBitVec.toNat.testBit i) with h1 | h1
      · have := h i h32 ((bit_lsb h32).mpr h1)
        omega
      · exact h1
    · exact Nat.testBit_lt_two_pow (Nat.lt_of_lt_of_le x.toBitVec.isLt (Nat.pow_le_pow_right (by decide) h32))
  have h64 := (p2_b hT).2
  refine ⟨x.toBitVec.toNat, hb, Int32.toBitVec_inj.mp (BitVec.eq_of_toNat_eq ?_)⟩
  rw [pk_tn (by omega)]
theorem nat_lt {z T i : Nat} (hT : T ≤ 6) (hz : z < 2 ^ T) (hi : i < 32) (h : bit (nI z) (nI i)) : i < T := by
  have h64 := (p2_b hT).2
  rw [bit_lsb hi] at h
  rcases Nat.lt_or_ge i T with h2 | h2
  · exact h2
  · have h3 : (nI z).toBitVec.toNat.testBit i = true := h
    rw [pk_tn (by omega), Nat.testBit_lt_two_pow (Nat.lt_of_lt_of_le hz (Nat.pow_le_pow_right (by decide) h2))] at h3
    exact absurd h3 (by decide)
theorem sz_sub {z a : Nat} (hz : z < 64) (ha : a < 64) (h : nI z &&& nI a = nI z) (hne : ¬ z = a) : szN 6 z < szN 6 a := by
  have hh : ∀ x y : Fin 64, nI x.val &&& nI y.val = nI x.val → ¬ x.val = y.val → szN 6 x.val < szN 6 y.val := by decide +kernel
  exact hh ⟨z, hz⟩ ⟨a, ha⟩ h hne
theorem pop_lt {z b : Nat} (hz : z < 64) (hb : b < 64) : popc (nI z) < popc (nI b) ↔ szN 6 z < szN 6 b := by
  have h1 := szN_le 6 z
  have h2 := szN_le 6 b
  rw [pop_sz hz, pop_sz hb, nI_ltI (by omega) (by omega)]
theorem no_keys {ν : ST} {T P C : Nat} (h : ∀ t, t < T → ¬ ν 47 t = 0) : ∀ n, (mDays ν T P C n mc0).2.2 = fun _ => -9 := by
  have hk : ∀ d m n, n ≤ T → (kyM ν P d n m) = m := by
    intro d m n
    induction n with
    | zero => intro _; rfl
    | succ n ih => intro hn; rw [kyM_s, if_neg (fun q => h n (by omega) q.1), ih (by omega)]
  intro n
  induction n with
  | zero => rfl
  | succ n ih =>
    show (md4 ν P n (kyM ν P n T (md2 ν C n (md1 ν T n (mDays ν T P C n mc0))))).2.2 = _
    rw [hk n _ T (Nat.le_refl _)]
    exact ih
theorem feM_fel {σ μ : ST} {T P C R z t : Nat} (h : Rel σ T P C R) (hμ : ∀ k, 40 ≤ k → μ k = σ k) (ht : t < T) : bit (σ 12 2 ||| nI z) (nI t) ↔ ¬ feM μ T (nI z) 1 t = 0 := by
  have hT6 := h.1.1
  rw [bit_or (by omega), h.1.2.2.2.2.2.2.2.1, bit_setB T (by omega) t (by omega)]
  unfold feM
  rw [pre_lt ht]
  unfold feA
  rw [hμ 47 (by decide)]
  by_cases hb : bit (nI z) (nI t)
  · rw [if_pos (bit_1.mpr hb)]
    exact ⟨fun _ => by decide, fun _ => Or.inr hb⟩
  · rw [if_neg (fun q => hb (bit_1.mp q))]
    exact ⟨fun q => q.elim (fun q => q.2) (fun q => absurd q hb), fun q => Or.inl ⟨ht, q⟩⟩
theorem sa_eq {σ μ : ST} {T P C R N p z : Nat} (h : Rel σ T P C R) (hμ : ∀ k, 40 ≤ k → μ k = σ k) (hN : N ≤ 30) (hp : p < P) : (runU (felS (prepF σ C) (σ 12 2 ||| nI z)) T P (own1 (nI p)) N (s0C σ)).2.2.1 p = (mDC (swS μ T z) T P C N).2.2 p :=
  run_by (DI_fel h hμ (h.1.2.2.1 (by omega)) (fun t ht => feM_fel h hμ ht)) h.P12 hN hp (wu h.1.2.1 hp)
theorem sw_eq {σ μ : ST} {T P C R N p a : Nat} (h : Rel σ T P C R) (hμ : ∀ k, 40 ≤ k → μ k = σ k) (hN : N ≤ 30) (hp : p < P) (ha : a < 2 ^ T) (hA : ones (nI T) &&& (σ 12 2 ^^^ -1) = nI a) : ∀ z, z ≤ 2 ^ T → (swM μ T P C p N z = none ∧ swN σ T P C p N z = nI a ∧ z ≤ a) ∨ ∃ b, b < 2 ^ T ∧ swM μ T P C p N z = some b ∧ swN σ T P C p N z = nI b := by
  have hT6 := h.1.1
  have h64 := (p2_b hT6).2
  have hF : flM μ T = σ 12 2 := (flM_cg (hμ 47 (by decide))).trans h.1.2.2.2.2.2.2.2.1.symm
  have abit : ∀ i, i < 32 → (bit (nI a) (nI i) ↔ i < T ∧ ¬ bit (σ 12 2) (nI i)) := fun i hi => by rw [← hA, bit_and hi, bit_ones hT6 hi, bit_not hi]
  have aq1 : nI a &&& flM μ T = 0 := bit_ext fun i hi => by
    rw [hF, bit_and hi, abit i hi]
    exact ⟨fun q => absurd q.2 q.1.2, fun q => absurd q (bit_0 hi)⟩
  have aq3 : (mDC (swS μ T a) T P C N).2.2 p = -9 := by
    unfold mDC
    rw [no_keys (ν := swS μ T a) (fun t ht => (feM_fel h hμ ht).mp ((bit_or (by omega)).mpr (by
      by_cases q : bit (σ 12 2) (nI t)
      · exact Or.inl q
      · exact Or.inr ((abit t (by omega)).mpr ⟨ht, q⟩))))]
  have sub : ∀ z, z < 2 ^ T → nI z &&& flM μ T = 0 → nI z &&& nI a = nI z := fun z hz hq => bit_ext fun i hi => by
    rw [bit_and hi, abit i hi]
    refine ⟨fun q => q.1, fun q => ⟨q, nat_lt hT6 hz hi q, fun q2 => ?_⟩⟩
    have := (bit_and (x := nI z) (y := flM μ T) hi).mpr ⟨q, by rw [hF]; exact q2⟩
    rw [hq] at this
    exact bit_0 hi this
  intro z
  induction z with
  | zero => intro _; exact Or.inl ⟨rfl, hA, Nat.zero_le _⟩
  | succ z ih =>
    intro hz
    have ih2 := ih (by omega)
    have eM : swM μ T P C p N (z + 1) = if nI z &&& flM μ T = 0 ∧ szN 6 z < szO (swM μ T P C p N z) ∧ (mDC (swS μ T z) T P C N).2.2 p = -9 then some z else swM μ T P C p N z := rfl
    have eN : swN σ T P C p N (z + 1) = if nI z &&& σ 12 2 = 0 ∧ popc (nI z) < popc (swN σ T P C p N z) ∧ ¬ saO σ T P C p N (σ 12 2 ||| nI z) then nI z else swN σ T P C p N z := rfl
    have e3 : (¬ saO σ T P C p N (σ 12 2 ||| nI z)) ↔ (mDC (swS μ T z) T P C N).2.2 p = -9 := by
      show (¬ ¬ (runU (felS (prepF σ C) (σ 12 2 ||| nI z)) T P (own1 (nI p)) N (s0C σ)).2.2.1 p = -9) ↔ _
      rw [sa_eq h hμ hN hp]
      exact ⟨Decidable.of_not_not, nn⟩
    rw [eM, eN, ← hF]
    rcases ih2 with ⟨i1, i2, i3⟩ | ⟨b, hb, i1, i2⟩
    · rw [i1, i2]
      by_cases hq : nI z &&& flM μ T = 0 ∧ (mDC (swS μ T z) T P C N).2.2 p = -9
      · rw [if_pos ⟨hq.1, by have := szN_le 6 z; show szN 6 z < 100; omega, hq.2⟩]
        refine Or.inr ⟨z, by omega, rfl, ?_⟩
        by_cases e : z = a
        · subst e
          rw [if_neg (fun q => by have := (pop_lt (by omega) (by omega)).mp q.2.1; omega)]
        · rw [if_pos ⟨hq.1, (pop_lt (by omega) (by omega)).mpr (sz_sub (by omega) (by omega) (sub z (by omega) hq.1) e), by rw [hF]; exact e3.mpr hq.2⟩]
      · rw [if_neg (fun q => hq ⟨q.1, q.2.2⟩), if_neg (fun q => hq ⟨q.1, e3.mp (by rw [← hF]; exact q.2.2)⟩)]
        refine Or.inl ⟨rfl, rfl, ?_⟩
        rcases Nat.lt_or_ge z a with h2 | h2
        · exact h2
        · exfalso
          have : z = a := by omega
          subst this
          exact hq ⟨aq1, aq3⟩
    · rw [i1, i2]
      refine Or.inr ?_
      by_cases hq : nI z &&& flM μ T = 0 ∧ szN 6 z < szN 6 b ∧ (mDC (swS μ T z) T P C N).2.2 p = -9
      · rw [if_pos (show nI z &&& flM μ T = 0 ∧ szN 6 z < szO (some b) ∧ _ from hq), if_pos ⟨hq.1, (pop_lt (by omega) (by omega)).mpr hq.2.1, by rw [hF]; exact e3.mpr hq.2.2⟩]
        exact ⟨z, by omega, rfl, rfl⟩
      · rw [if_neg (show ¬ (nI z &&& flM μ T = 0 ∧ szN 6 z < szO (some b) ∧ _) from hq), if_neg (fun q => hq ⟨q.1, (pop_lt (by omega) (by omega)).mp q.2.1, e3.mp (by rw [← hF]; exact q.2.2)⟩)]
        exact ⟨b, hb, rfl, rfl⟩
theorem saws_eq {σ μ : ST} {T P C R N p : Nat} (h : Rel σ T P C R) (hμ : ∀ k, 40 ≤ k → μ k = σ k) (hN : N ≤ 30) (hp : p < P) : swN σ T P C p N (2 ^ T) = frI (swM μ T P C p N (2 ^ T)) := by
  have hT6 := h.1.1
  obtain ⟨a, ha, hA⟩ := lt_nat (x := ones (nI T) &&& (σ 12 2 ^^^ -1)) hT6 (fun i hi q => (bit_ones hT6 hi).mp ((bit_and hi).mp q).1)
  rcases sw_eq h hμ hN hp ha hA (2 ^ T) (Nat.le_refl _) with ⟨-, -, h3⟩ | ⟨b, -, h1, h2⟩
  · omega
  · rw [h1, h2]; rfl
theorem worth_eq {σ μ : ST} {T P C R j : Nat} (h : Rel σ T P C R) (hμ : ∀ k, 40 ≤ k → μ k = σ k) (hj : j < T) : sumO (daysC (felS (prepF σ C) (σ 12 2 ||| own1 (nI j))) T P 30 (s0C σ)).2.1 P = sumO (mDC (setf μ 47 j 1) T P C 30).2.1 P := by
  have hT6 := h.1.1
  have hI : DI (felS (prepF σ C) (σ 12 2 ||| own1 (nI j))) (setf μ 47 j 1) T P C := DI_fel h hμ (by omega) (fun t ht => by
    rw [bit_or (by omega), h.1.2.2.2.2.2.2.2.1, bit_setB T (by omega) t (by omega), bit_own (by omega) (by omega), hμ 47 (by decide)]
    unfold upd
    by_cases e : t = j
    · rw [if_pos e]; exact ⟨fun _ => by decide, fun _ => Or.inr e⟩
    · rw [if_neg e]; exact ⟨fun q => q.elim (fun q => q.2) (fun q => absurd q e), fun q => Or.inl ⟨ht, q⟩⟩)
  exact sumO_cg P (fun p hp => ((run_full hI h.P12 (Nat.le_refl _)).2.1 p hp).1)
theorem told_eq {σ μ : ST} {T P C R N : Nat} (h : Rel σ T P C R) (hμ : ∀ k, 40 ≤ k → μ k = σ k) (h0 : 0 < T) (hN : N ≤ 30) : EqC T P (daysC (prepF σ C) T P N (s0C σ)) (mDC μ T P C N) := run_full (h.DI0 hμ h0) h.P12 hN
theorem sum_eq {σ μ : ST} {T P C R : Nat} (h : Rel σ T P C R) (hμ : ∀ k, 40 ≤ k → μ k = σ k) (h0 : 0 < T) : sumO (daysC (prepF σ C) T P 30 (s0C σ)).2.1 P = sumO (mDC μ T P C 30).2.1 P := sumO_cg P (fun p hp => ((told_eq h hμ h0 (Nat.le_refl _)).2.1 p hp).1)
theorem free_eq {σ μ : ST} {T P C R N : Nat} (h : Rel σ T P C R) (hμ : ∀ k, 40 ≤ k → μ k = σ k) (h0 : 0 < T) (hN : N ≤ 30) : ones (nI P) &&& ((daysC (prepF σ C) T P N (s0C σ)).2.2.2 ^^^ -1) = setB (fun p => ¬ (mDC μ T P C N).2.1 p = -9) P := bit_ext fun i hi => by
  have hP6 := h.1.2.1
  rw [bit_and hi, bit_ones hP6 hi, bit_not hi, (told_eq h hμ h0 hN).2.2 i hi, bit_setB P (by omega) i hi]
  exact ⟨fun q => ⟨q.1, fun e => q.2 ⟨q.1, e⟩⟩, fun q => ⟨q.1, fun e => q.2 e.2⟩⟩
theorem od_eq {σ μ : ST} {T P C R p m : Nat} (h : Rel σ T P C R) (hμ : ∀ k, 40 ≤ k → μ k = σ k) (hm : m ≤ 8) (hp : p < P) : ∀ r, odN σ T P C p m r = odM μ T P C p m r := by
  intro r
  induction r with
  | zero => rfl
  | succ r ih =>
    have hI : DI (setc (prepF σ C) 31 (pre m (rnG (nI r)) (σ 22))) (odS μ m r) T P C := DI_rain h hμ (h.1.2.2.1 (by omega)) (fun d hd => by
      by_cases hdm : d < m
      · rw [pre_lt hdm, pre_lt hdm]
        unfold rnG rnM
        by_cases hb : bit (nI r) (nI d)
        · rw [if_pos hb, if_pos (bit_1.mpr hb)]; exact ⟨rfl, by decide⟩
        · rw [if_neg hb, if_neg (fun q => hb (bit_1.mp q))]; exact ⟨rfl, by decide⟩
      · rw [pre_ge hdm, pre_ge hdm, hμ 50 (by decide)]
        obtain ⟨e1, -, ⟨v, hv, e3⟩, -⟩ := h.2.1.2 d hd
        refine ⟨e1, ?_⟩
        rw [e1, e3]; exact nI_pos (by omega))
    have e := run_by hI h.P12 (show m ≤ 30 by omega) hp (wu h.1.2.1 hp)
    show (if ¬ (runU (setc (prepF σ C) 31 (pre m (rnG (nI r)) (σ 22))) T P (own1 (nI p)) m (s0C σ)).2.2.1 p = -9 then odN σ T P C p m r + 1 else odN σ T P C p m r) = (if ¬ (mDC (odS μ m r) T P C m).2.2 p = -9 then odM μ T P C p m r + 1 else odM μ T P C p m r)
    rw [e, ih]
theorem hv_eq : ∀ m u : Nat, u ≤ 2 ^ m → ltM u (2 ^ m) 0 = (hv2 m u).1 ∧ ltM u (2 ^ m) 1 = 2 ^ (hv2 m u).2 := by
  intro m
  induction m with
  | zero =>
    intro u hu
    show u / Nat.gcd u 1 = u ∧ 1 / Nat.gcd u 1 = 1
    rw [Nat.gcd_one_right, Nat.div_one]
    exact ⟨rfl, rfl⟩
  | succ m ih =>
    intro u hu
    show u / Nat.gcd u (2 ^ (m + 1)) = (if u % 2 = 0 then hv2 m (u / 2) else (u, m + 1)).1 ∧ 2 ^ (m + 1) / Nat.gcd u (2 ^ (m + 1)) = 2 ^ (if u % 2 = 0 then hv2 m (u / 2) else (u, m + 1)).2
    by_cases h : u % 2 = 0
    · rw [if_pos h]
      have hp : 2 ^ (m + 1) = 2 * 2 ^ m := by rw [Nat.pow_succ, Nat.mul_comm]
      have hu2 : u = 2 * (u / 2) := by omega
      obtain ⟨i1, i2⟩ := ih (u / 2) (by omega)
      have hg : Nat.gcd u (2 ^ (m + 1)) = 2 * Nat.gcd (u / 2) (2 ^ m) := by rw [hp]; conv => lhs; rw [hu2]
                                                                            exact Nat.gcd_mul_left 2 (u / 2) (2 ^ m)
      rw [hg, ← i1, ← i2]
      refine ⟨?_, ?_⟩
      · show u / (2 * Nat.gcd (u / 2) (2 ^ m)) = u / 2 / Nat.gcd (u / 2) (2 ^ m)
        rw [Nat.div_div_eq_div_mul]
      · show 2 ^ (m + 1) / (2 * Nat.gcd (u / 2) (2 ^ m)) = 2 ^ m / Nat.gcd (u / 2) (2 ^ m)
        rw [hp, Nat.mul_div_mul_left _ _ (by decide)]
    · rw [if_neg h]
      have h1 : Nat.gcd u 2 = 1 := by
        rw [Nat.gcd_comm, Nat.gcd_rec, show u % 2 = 1 by omega]
        exact Nat.gcd_one_left 2
      have hg : Nat.gcd u (2 ^ (m + 1)) = 1 := Nat.Coprime.pow_right (m + 1) h1
      rw [hg, Nat.div_one, Nat.div_one]
      exact ⟨rfl, rfl⟩
theorem grS_cg {q r : Nat → Prop} [DecidablePred q] [DecidablePred r] {k : Int32} : ∀ f i c, (∀ x, i ≤ x → x < i + f → (q x ↔ r x)) → grS q k f i c = grS r k f i c := by
  intro f
  induction f with
  | zero => intro i c _; rfl
  | succ f ih =>
    intro i c h
    show (if q i then (if nI c = k then nI i else grS q k f (i + 1) (c + 1)) else grS q k f (i + 1) c) = (if r i then (if nI c = k then nI i else grS r k f (i + 1) (c + 1)) else grS r k f (i + 1) c)
    rw [ih (i + 1) (c + 1) (fun x h1 h2 => h x (by omega) (by omega)), ih (i + 1) c (fun x h1 h2 => h x (by omega) (by omega))]
    by_cases hq : q i
    · rw [if_pos hq, if_pos ((h i (Nat.le_refl _) (by omega)).mp hq)]
    · rw [if_neg hq, if_neg (fun q2 => hq ((h i (Nat.le_refl _) (by omega)).mpr q2))]
theorem sumL_cg {x : Int32} {f g : Nat → Int32} : ∀ T : Nat, (∀ t, t < T → f t = g t) → sumL x f T = sumL x g T := by
  intro T
  induction T with
  | zero => intro _; rfl
  | succ T ih =>
    intro h
    show (if bit x (nI T) then sumL x f T + f T else sumL x f T) = (if bit x (nI T) then sumL x g T + g T else sumL x g T)
    rw [ih (fun t ht => h t (by omega)), h T (by omega)]
theorem green_eq {σ μ : ST} {T P C R : Nat} {a k : Int32} (h : Rel σ T P C R) (hμ : ∀ k, 40 ≤ k → μ k = σ k) : grS (grC σ T a) k (2 ^ T) 0 0 = grS (grM μ T a) k (2 ^ T) 0 0 := grS_cg _ _ _ fun x _ hx => by
  have hT6 := h.1.1
  have h64 := (p2_b hT6).2
  have hF := h.1.2.2.2.2.2.2.2.1
  have hs := szN_le 6 x
  show (popc (nI x) = 3 ∧ nI x &&& σ 12 2 = 0 ∧ remI (sumL (nI x) (σ 14) T) 6 = a) ↔ (grQ μ x T ∧ szN 6 x = 3 ∧ remI (sumL (nI x) (μ 45) T) 6 = a)
  rw [sumL_cg (f := σ 14) (g := μ 45) T (fun t ht => by rw [hμ 45 (by decide)]; exact (h.1.2.2.2.2.2.2.2.2.1 t ht).2.1), pop_sz (by omega)]
  have e1 : nI (szN 6 x) = 3 ↔ szN 6 x = 3 := nI_eq (b := 3) (by omega) (by decide)
  have e2 : nI x &&& σ 12 2 = 0 ↔ grQ μ x T := by
    rw [hF]
    constructor
    · intro q t ht hb
      rw [hμ 47 (by decide)]
      refine Decidable.of_not_not fun h2 => ?_
      have := (bit_and (x := nI x) (y := flM σ T) (i := t) (by omega)).mpr ⟨bit_1.mp hb, (bit_setB T (by omega) t (by omega)).mpr ⟨ht, h2⟩⟩
      rw [q] at this
      exact bit_0 (by omega) this
    · intro q
      refine bit_ext fun i hi => ⟨fun hb => ?_, fun hb => absurd hb (bit_0 hi)⟩
      have h2 := (bit_and hi).mp hb
      have h3 := (bit_setB T (by omega) i hi).mp h2.2
      have h4 := q i h3.1 (bit_1.mpr h2.1)
      rw [hμ 47 (by decide)] at h4
      exact absurd h4 h3.2
  rw [e1, e2]
  exact ⟨fun q => ⟨q.2.1, q.1, q.2.2⟩, fun q => ⟨q.2.1, q.1, q.2.2⟩⟩
theorem thief_eq {σ μ : ST} {T P C R d : Nat} (h : Rel σ T P C R) (hμ : ∀ k, 40 ≤ k → μ k = σ k) (hd : d < 30) : setB (thP σ T P C R d) T = setB (thQ μ T P C R d) T := by
  have hT6 := h.1.1
  refine setB_cg (by omega) fun t ht => ?_
  have hE := run_full (DI_th h hμ hd ht) h.P12 (Nat.le_refl 30)
  show (∀ r, r < R → pI ((daysC (thS σ C d t) T P 30 (s0C σ)).2.1 (σ 27 r).toNatClampNeg ≤ σ 28 r) = σ 29 r) ↔ (∀ r, r < R → pI ((mDC (thX μ C d (nI t)) T P (C + 1) 30).2.1 (μ 65 r).toNatClampNeg ≤ μ 66 r) = μ 67 r)
  refine forall_congr' fun r => forall_congr' fun hr => ?_
  obtain ⟨e1, e2, e3, p, hp, e4⟩ := h.2.2.2.1.2.2.2 r hr
  have hP6 := h.1.2.1
  rw [hμ 65 (by decide), hμ 66 (by decide), hμ 67 (by decide), e1, e2, e3, e4, nI_clamp (by omega), (hE.2.1 p hp).1]
