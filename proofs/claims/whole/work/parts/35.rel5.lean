/-! the relation: a text planted -/
theorem Rel.cgA {σ τ : ST} {T P C R : Nat} (h : Rel σ T P C R) (g : ∀ k, ¬ (k = 0 ∨ k = 40 ∨ k = 10 ∨ k = 11 ∨ (30 ≤ k ∧ k ≤ 36) ∨ k = 38 ∨ (53 ≤ k ∧ k ≤ 57) ∨ (60 ≤ k ∧ k ≤ 64)) → τ k = σ k) (h40 : ∀ i, i ≠ 0 → i ≠ 16 → i ≠ 17 → i ≠ 18 → τ 40 i = σ 40 i) (hf : τ 0 8 = τ 40 0) : Rel τ T P C R := by
  obtain ⟨a, b, c, d, e, f⟩ := h
  exact ⟨a.cg (fun k h1 h2 => g k (by omega)) (fun k h1 h2 => g k (by omega)) (h40 5 (by decide) (by decide) (by decide) (by decide)) (h40 6 (by decide) (by decide) (by decide) (by decide)),
    b.cg (fun k h1 h2 => g k (by omega)) (fun k h1 h2 => g k (by omega)),
    c.cg (g 21 (by omega)) (g 24 (by omega)) (g 25 (by omega)) (h40 24 (by decide) (by decide) (by decide) (by decide)) (fun _ _ => by rw [g 58 (by omega), g 59 (by omega)]; exact ⟨rfl, rfl⟩),
    d.cg (fun k h1 h2 => g k (by omega)) (fun k h1 h2 => g k (by omega)) (h40 33 (by decide) (by decide) (by decide) (by decide)),
    e.cg (fun k h1 h2 => g k (by omega)) (fun k h1 h2 => g k (by omega)),
    by rw [g 39 (by omega), h40 1 (by decide) (by decide) (by decide) (by decide)]; exact f.1, hf, by rw [h40 31 (by decide) (by decide) (by decide) (by decide)]; exact f.2.2⟩
theorem Rel.flt {σ τ : ST} {T P C R : Nat} {x : Int32} (h : Rel σ T P C R) (hk : Kp (setf σ 0 8 x) τ) : Rel (setf τ 40 0 x) T P C R := by
  have hh : ∀ k, ¬ (k = 10 ∨ k = 11 ∨ (30 ≤ k ∧ k ≤ 36) ∨ k = 38) → τ k = setf σ 0 8 x k := hk
  refine h.cgA (fun k hk => ?_) (fun i h0 _ _ _ => ?_) ?_
  · show setc τ 40 _ k = σ k
    rw [setc_n (by omega), hh k (by omega)]
    exact setc_n (by omega)
  · show upd (τ 40) 0 x i = σ 40 i
    rw [hh 40 (by omega)]
    exact if_neg h0
  · show τ 0 8 = x
    rw [hh 0 (by omega)]
    rfl
theorem Rel.ff {σ : ST} {T P C R : Nat} {x : Int32} (h : Rel σ T P C R) : Rel (setf (setf σ 0 8 x) 40 0 x) T P C R := h.flt Kp.refl
theorem code_cg {σ τ : ST} {n : Nat} (h : ∀ p, p < n → σ 11 p = τ 11 p) : codeT σ n = codeT τ n := funext fun j => by
  unfold codeT
  by_cases hj : j < n
  · rw [if_pos hj, if_pos hj, h j hj]
  · rw [if_neg hj, if_neg hj]
theorem dig_cg {σ τ : ST} {n : Nat} (h : codeT σ n = codeT τ n) : digT σ n = digT τ n := funext fun j => by
  unfold digT
  rw [h]
theorem ffA_cg {σ τ : ST} {n : Nat} (h : codeT σ n = codeT τ n) : ∀ f m, ffA σ n f m = ffA τ n f m := by
  have hd := dig_cg h
  intro f
  induction f with
  | zero => intro m; rfl
  | succ f ih => intro m; rw [ffA_s, ffA_s, ih]; simp only [isD, h, hd]
theorem ffB_cg {σ τ : ST} {n q : Nat} (h : codeT σ n = codeT τ n) : ∀ f m, ffB σ n q f m = ffB τ n q f m := by
  have hd := dig_cg h
  intro f
  induction f with
  | zero => intro m; rfl
  | succ f ih => intro m; rw [ffB_s, ffB_s, ih]; simp only [isD, h, hd]
theorem ffR_cg {σ τ : ST} {n : Nat} (h : codeT σ n = codeT τ n) : ffR σ n = ffR τ n := by
  have hB : ∀ q, ffB σ n q 6 0 = ffB τ n q 6 0 := fun q => ffB_cg h 6 0
  unfold ffR
  simp only [h, ffA_cg h, hB]
theorem ffA_ok {σ : ST} {n : Nat} : ∀ f m M, ffA σ n f m = (M, none) → m ≤ M ∧ ∀ t, m ≤ t → t < M → ¬ kdT (codeT σ n (1 + 3 * t)) = -9 ∧ isD σ n (2 + 3 * t) 0 5 ∧ isD σ n (3 + 3 * t) 1 9 := by
  intro f
  induction f with
  | zero => intro m M h; cases h; exact ⟨Nat.le_refl _, fun t h1 h2 => by omega⟩
  | succ f ih =>
    intro m M h
    rw [ffA_s] at h
    by_cases h1 : kdT (codeT σ n (1 + 3 * m)) = -9
    · rw [if_pos h1] at h; cases h; exact ⟨Nat.le_refl _, fun t h1 h2 => by omega⟩
    · rw [if_neg h1] at h
      by_cases h2 : isD σ n (2 + 3 * m) 0 5
      · rw [if_neg (nn h2)] at h
        by_cases h3 : isD σ n (3 + 3 * m) 1 9
        · rw [if_neg (nn h3)] at h
          obtain ⟨i1, i2⟩ := ih (m + 1) M h
          refine ⟨by omega, fun t ht1 ht2 => ?_⟩
          by_cases e : t = m
          · subst e; exact ⟨h1, h2, h3⟩
          · exact i2 t (by omega) ht2
        · rw [if_pos h3] at h; cases h
      · rw [if_pos h2] at h; cases h
theorem ffB_ok {σ : ST} {n q : Nat} : ∀ f b B, ffB σ n q f b = (B, none) → b ≤ B ∧ ∀ u, b ≤ u → u < B → isD σ n (q + 4 * u + 1) 0 5 ∧ isD σ n (q + 4 * u + 2) 0 2 ∧ isD σ n (q + 4 * u + 3) 0 9 := by
  intro f
  induction f with
  | zero => intro m M h; cases h; exact ⟨Nat.le_refl _, fun t h1 h2 => by omega⟩
  | succ f ih =>
    intro b B h
    rw [ffB_s] at h
    by_cases h1 : codeT σ n (q + 4 * b) = 59
    · rw [if_neg (nn h1)] at h
      by_cases h2 : isD σ n (q + 4 * b + 1) 0 5
      · rw [if_neg (nn h2)] at h
        by_cases h3 : isD σ n (q + 4 * b + 2) 0 2
        · rw [if_neg (nn h3)] at h
          by_cases h4 : isD σ n (q + 4 * b + 3) 0 9
          · rw [if_neg (nn h4)] at h
            obtain ⟨i1, i2⟩ := ih (b + 1) B h
            refine ⟨by omega, fun t ht1 ht2 => ?_⟩
            by_cases e : t = b
            · subst e; exact ⟨h2, h3, h4⟩
            · exact i2 t (by omega) ht2
          · rw [if_pos h4] at h; cases h
        · rw [if_pos h3] at h; cases h
      · rw [if_pos h2] at h; cases h
    · rw [if_pos h1] at h; cases h; exact ⟨Nat.le_refl _, fun t h1 h2 => by omega⟩
theorem ffA_kb {σ : ST} {n : Nat} : ∀ f m M k, ffA σ n f m = (M, some k) → k ≤ 3 + 3 * (m + f) := by
  intro f
  induction f with
  | zero => intro m M k h; cases h
  | succ f ih =>
    intro m M k h
    rw [ffA_s] at h
    by_cases h1 : kdT (codeT σ n (1 + 3 * m)) = -9
    · rw [if_pos h1] at h; cases h
    · rw [if_neg h1] at h
      by_cases h2 : isD σ n (2 + 3 * m) 0 5
      · rw [if_neg (nn h2)] at h
        by_cases h3 : isD σ n (3 + 3 * m) 1 9
        · rw [if_neg (nn h3)] at h
          have := ih (m + 1) M k h
          omega
        · rw [if_pos h3] at h; cases h; omega
      · rw [if_pos h2] at h; cases h; omega
theorem ffB_kb {σ : ST} {n q : Nat} : ∀ f b B k, ffB σ n q f b = (B, some k) → k ≤ q + 3 + 4 * (b + f) := by
  intro f
  induction f with
  | zero => intro m M k h; cases h
  | succ f ih =>
    intro b B k h
    rw [ffB_s] at h
    by_cases h1 : codeT σ n (q + 4 * b) = 59
    · rw [if_neg (nn h1)] at h
      by_cases h2 : isD σ n (q + 4 * b + 1) 0 5
      · rw [if_neg (nn h2)] at h
        by_cases h3 : isD σ n (q + 4 * b + 2) 0 2
        · rw [if_neg (nn h3)] at h
          by_cases h4 : isD σ n (q + 4 * b + 3) 0 9
          · rw [if_neg (nn h4)] at h
            have := ih (b + 1) B k h
            omega
          · rw [if_pos h4] at h; cases h; omega
        · rw [if_pos h3] at h; cases h; omega
      · rw [if_pos h2] at h; cases h; omega
    · rw [if_pos h1] at h; cases h
theorem ffA_kn1 {σ : ST} {n M k : Nat} (h : ffA σ n 6 0 = (M, some k)) : ¬ nI k = -1 := nI_n1 (by have := ffA_kb 6 0 M k h; omega)
theorem ffB_kn1 {σ : ST} {n m Q k : Nat} (h : ffB σ n (1 + 3 * m) 6 0 = (Q, some k)) (hm : m ≤ 6) : ¬ nI k = -1 := nI_n1 (by have := ffB_kb 6 0 Q k h; omega)
theorem ffR_ok {σ : ST} {n : Nat} (h : (ffR σ n).1 = -1) : ∃ M Q : Nat, ffR σ n = (-1, M, Q) ∧ 0 < M ∧ (∀ t, t < M → ¬ kdT (codeT σ n (1 + 3 * t)) = -9 ∧ isD σ n (2 + 3 * t) 0 5 ∧ isD σ n (3 + 3 * t) 1 9) ∧ ∀ u, u < Q → isD σ n (1 + 3 * M + 4 * u + 1) 0 5 ∧ isD σ n (1 + 3 * M + 4 * u + 2) 0 2 ∧ isD σ n (1 + 3 * M + 4 * u + 3) 0 9 := by
  have hAle := ffA_le (σ := σ) (n := n) 6 0
  by_cases h107 : codeT σ n 0 = 107
  · rcases hA : ffA σ n 6 0 with ⟨M, _ | k⟩
    · rw [hA] at hAle
      by_cases hm : M = 0
      · subst hm
        rw [ffR_0 h107 hA] at h
        exact absurd h (by decide)
      · have hBle := ffB_le (σ := σ) (n := n) (q := 1 + 3 * M) 6 0
        rcases hB : ffB σ n (1 + 3 * M) 6 0 with ⟨Q, _ | k⟩
        · have e := ffR_BN h107 hA hm hB
          rw [hB] at hBle
          by_cases hc : Q = 0 ∨ 1 + 3 * M + 4 * Q < n
          · rw [if_pos hc] at e
            rw [e] at h
            have h1 : M ≤ 0 + 6 := hAle
            have h2 : Q ≤ 0 + 6 := hBle
            exact absurd h (nI_n1 (by omega))
          · rw [if_neg hc] at e
            exact ⟨M, Q, e, by omega, fun t ht => (ffA_ok 6 0 M hA).2 t (Nat.zero_le _) ht, fun u hu => (ffB_ok 6 0 Q hB).2 u (Nat.zero_le _) hu⟩
        · have e := ffR_BK h107 hA hm hB
          rw [e] at h
          exact absurd h (ffB_kn1 hB (by have : M ≤ 0 + 6 := hAle; omega))
    · rw [ffR_K h107 hA] at h
      exact absurd h (ffA_kn1 hA)
  · unfold ffR at h
    rw [if_pos h107] at h
    exact absurd h (by decide)
theorem plE_bit {σ : ST} {n T : Nat} : ∀ P : Nat, P ≤ 32 → ∀ d p, d < 30 → p < 32 → (bit (plE σ n T P d) (nI p) ↔ p < P ∧ plTm σ n T p = nI d) := by
  intro P
  induction P with
  | zero => intro _ d p _ hp; exact ⟨fun h => absurd h (bit_0 hp), fun h => absurd h.1 (Nat.not_lt_zero _)⟩
  | succ P ih =>
    intro hP d p hd hp
    have ih2 := ih (by omega) d p hd hp
    obtain ⟨x, hx, ex⟩ := termT_d (σ := σ) (n := n) (j := 1 + 3 * T + 4 * P + 2)
    have ex2 : plTm σ n T P = nI x := ex
    show bit (upd (plE σ n T P) (plTm σ n T P).toNatClampNeg (plE σ n T P (plTm σ n T P).toNatClampNeg ||| own1 (nI P)) d) (nI p) ↔ _
    rw [ex2, nI_clamp (by omega)]
    unfold upd
    by_cases e : d = x
    · subst e
      rw [if_pos rfl, bit_or hp, ih2, bit_own (by omega) hp]
      constructor
      · rintro (⟨a, b⟩ | rfl)
        · exact ⟨by omega, b⟩
        · exact ⟨by omega, ex2⟩
      · rintro ⟨a, b⟩
        by_cases e : p = P
        · exact Or.inr e
        · exact Or.inl ⟨by omega, b⟩
    · rw [if_neg e, ih2]
      constructor
      · rintro ⟨a, b⟩; exact ⟨by omega, b⟩
      · rintro ⟨a, b⟩
        by_cases e2 : p = P
        · subst e2
          exact absurd ((nI_eq (by omega) (by omega)).mp (b.symm.trans ex2)) e
        · exact ⟨by omega, b⟩
theorem kd_k {c : Int32} (h : ¬ kdT c = -9) : kdT c = 0 ∨ kdT c = 1 ∨ kdT c = 2 := by
  rcases kd_cases h with rfl | rfl | rfl
  · exact Or.inl rfl
  · exact Or.inr (Or.inl rfl)
  · exact Or.inr (Or.inr rfl)
theorem wantCM {k : Int32} {n : Nat} (hk : k = 0 ∨ k = 1 ∨ k = 2) (hn : n ≤ 9) : wantC k (nI n) = wantM k (nI n) := by
  have hh : ∀ m : Fin 10, wantC 0 (nI m.val) = wantM 0 (nI m.val) ∧ wantC 1 (nI m.val) = wantM 1 (nI m.val) ∧ wantC 2 (nI m.val) = wantM 2 (nI m.val) := by decide
  have h2 := hh ⟨n, by omega⟩
  rcases hk with rfl | rfl | rfl
  · exact h2.1
  · exact h2.2.1
  · exact h2.2.2
theorem opCM {k lk : Int32} (hk : k = 0 ∨ k = 1 ∨ k = 2) : opensC k lk = opM k lk := by
  rcases hk with rfl | rfl | rfl <;> rfl
theorem dig_n {σ : ST} {n j a b : Nat} (hb : b ≤ 9) (h : isD σ n j (nI a) (nI b)) (ha : a ≤ 9) : ∃ v : Nat, a ≤ v ∧ v ≤ b ∧ digT σ n j = nI v := by
  obtain ⟨-, h1, h2⟩ := h
  have h0 : ¬ digT σ n j < 0 := fun q => h1 (Int32.lt_of_lt_of_le q (nI_pos' (by omega)))
  obtain ⟨v, hv, e⟩ := nI_of h0
  rw [e] at h1 h2
  refine ⟨v, ?_, ?_, e⟩
  · rcases Nat.lt_or_ge v a with q | q
    · exact absurd (nI_lt q (by omega)) h1
    · exact q
  · rcases Nat.lt_or_ge b v with q | q
    · exact absurd (nI_lt q hv) h2
    · exact q
theorem term_eq {σ : ST} {n j : Nat} (h1 : isD σ n j 0 2) (h2 : isD σ n (j + 1) 0 9) : termT σ n j = 10 * digT σ n j + digT σ n (j + 1) := by
  obtain ⟨x, -, hx, ex⟩ := dig_n (a := 0) (b := 2) (by decide) h1 (by decide)
  obtain ⟨y, -, hy, ey⟩ := dig_n (a := 0) (b := 9) (by decide) h2 (by decide)
  have e : 10 * digT σ n j + digT σ n (j + 1) = nI (10 * x + y) := by
    rw [ex, ey, show (10 : Int32) * nI x = nI (10 * x) from pk_mul 10 x, nI_add]
  unfold termT
  rw [e]
  exact if_pos (isT_nI (N := 30) (by omega) (by decide))
def orC (β : ST) (m M Q : Nat) : ST := setf (setf (setf (setc (setc (plC β m M Q M) 22 (fun _ => 0)) 23 (fun _ => -9)) 21 4 0) 21 5 0) 26 3 0
theorem or_rel {σ β Y τ : ST} {T P C R m M Q : Nat} {rk rl rq ru rv : Nat → Int32} {rx : Int32} (h : Rel σ T P C R) (hM6 : M ≤ 6) (hQ6 : Q ≤ 6) (h0 : 0 < M) (hβ : β = ffS Y M Q) (hY0 : Y 0 8 = 0) (hYk : ∀ k, k ≠ 0 → k ≠ 10 → k ≠ 11 → Y k = σ k) {X : ST} (hX : codeT Y m = codeT X m)
    (hA : ∀ t, t < M → ¬ kdT (codeT X m (1 + 3 * t)) = -9 ∧ isD X m (2 + 3 * t) 0 5 ∧ isD X m (3 + 3 * t) 1 9) (hB : ∀ u, u < Q → isD X m (1 + 3 * M + 4 * u + 1) 0 5 ∧ isD X m (1 + 3 * M + 4 * u + 2) 0 2 ∧ isD X m (1 + 3 * M + 4 * u + 3) 0 9)
    (hT : TRd X m M rk rl rq) (hP : PRd X m (1 + 3 * M) Q ru rv) (hτ : τ = orG (setf (orC β m M Q) 40 0 0) rk rl rq ru rv rx M Q) : Rel τ M Q 0 0 := by
  have hc : codeT β m = codeT X m := by rw [← hX, hβ]; exact code_cg (fun _ _ => rfl)
  have hd : digT β m = digT X m := dig_cg hc
  have hi : ∀ j a b, isD β m j a b ↔ isD X m j a b := fun j a b => by simp only [isD, hd]
  have hY40 : Y 40 = σ 40 := hYk 40 (by decide) (by decide) (by decide)
  have htm : ∀ u, u < Q → plTm β m M u = rv u := fun u hu => by
    obtain ⟨-, b1, b2⟩ := hB u hu
    unfold plTm
    rw [term_eq ((hi _ _ _).mpr b1) ((hi _ _ _).mpr b2), hd]
    exact (hP u hu).2.symm
  have hpl : ∀ u, u < Q → plPL β m M u = ru u := fun u hu => by
    unfold plPL
    rw [hd]
    exact (hP u hu).1.symm
  have hkk : ∀ t, t < M → plK β m t = rk t := fun t ht => by unfold plK; rw [hc]; exact (hT t ht).1.symm
  have hll : ∀ t, t < M → plL β m t = rl t := fun t ht => by unfold plL; rw [hd]; exact (hT t ht).2.1.symm
  have hnn : ∀ t, t < M → plN β m t = rq t := fun t ht => by unfold plN; rw [hd]; exact (hT t ht).2.2.symm
  have hk3 : ∀ t, t < M → rk t = 0 ∨ rk t = 1 ∨ rk t = 2 := fun t ht => by rw [(hT t ht).1]; exact kd_k (hA t ht).1
  have hn9 : ∀ t, t < M → ∃ n : Nat, 1 ≤ n ∧ n ≤ 9 ∧ rq t = nI n := fun t ht => by rw [(hT t ht).2.2]; exact dig_n (a := 1) (b := 9) (by decide) (hA t ht).2.2 (by decide)
  subst hτ
  have a44 : ∀ t, t < M → (orG (setf (orC β m M Q) 40 0 0) rk rl rq ru rv rx M Q) 44 t = rk t := fun t ht => pre_lt ht
  have a45 : ∀ t, t < M → (orG (setf (orC β m M Q) 40 0 0) rk rl rq ru rv rx M Q) 45 t = rl t := fun t ht => pre_lt ht
  have a46 : ∀ t, t < M → (orG (setf (orC β m M Q) 40 0 0) rk rl rq ru rv rx M Q) 46 t = rq t := fun t ht => pre_lt ht
  have a47 : ∀ t, t < M → (orG (setf (orC β m M Q) 40 0 0) rk rl rq ru rv rx M Q) 47 t = 0 := fun t ht => pre_lt (f := fun _ => 0) ht
  have a48 : ∀ u, u < Q → (orG (setf (orC β m M Q) 40 0 0) rk rl rq ru rv rx M Q) 48 u = ru u := fun t ht => pre_lt ht
  have a49 : ∀ u, u < Q → (orG (setf (orC β m M Q) 40 0 0) rk rl rq ru rv rx M Q) 49 u = rv u := fun t ht => pre_lt ht
  have a50 : ∀ d, d < 30 → (orG (setf (orC β m M Q) 40 0 0) rk rl rq ru rv rx M Q) 50 d = 0 := fun t ht => pre_lt (f := fun _ => 0) ht
  have a51 : ∀ d, d < 30 → (orG (setf (orC β m M Q) 40 0 0) rk rl rq ru rv rx M Q) 51 d = -9 := fun t ht => pre_lt (f := fun _ => -9) ht
  have a52 : ∀ d, d < 30 → (orG (setf (orC β m M Q) 40 0 0) rk rl rq ru rv rx M Q) 52 d = 0 := fun t ht => pre_lt (f := fun _ => 0) ht
  have a13 : ∀ t, t < M → (orG (setf (orC β m M Q) 40 0 0) rk rl rq ru rv rx M Q) 13 t = plK β m t := fun t ht => pre_lt ht
  have a14 : ∀ t, t < M → (orG (setf (orC β m M Q) 40 0 0) rk rl rq ru rv rx M Q) 14 t = plL β m t := fun t ht => pre_lt ht
  have a15 : ∀ t, t < M → (orG (setf (orC β m M Q) 40 0 0) rk rl rq ru rv rx M Q) 15 t = plN β m t := fun t ht => pre_lt ht
  have a16 : ∀ t, t < M → (orG (setf (orC β m M Q) 40 0 0) rk rl rq ru rv rx M Q) 16 t = plW β m t := fun t ht => pre_lt ht
  have a17 : ∀ t, t < M → (orG (setf (orC β m M Q) 40 0 0) rk rl rq ru rv rx M Q) 17 t = fitC (plB β m M Q) t Q := fun t ht => pre_lt (f := fun t => fitC (plB β m M Q) t Q) ht
  have a18 : ∀ u, u < Q → (orG (setf (orC β m M Q) 40 0 0) rk rl rq ru rv rx M Q) 18 u = plPL β m M u := fun t ht => pre_lt ht
  have a19 : ∀ u, u < Q → (orG (setf (orC β m M Q) 40 0 0) rk rl rq ru rv rx M Q) 19 u = plTm β m M u := fun t ht => pre_lt ht
  have b13 : ∀ t, t < M → (plB β m M Q) 13 t = plK β m t := fun t ht => pre_lt ht
  have b14 : ∀ t, t < M → (plB β m M Q) 14 t = plL β m t := fun t ht => pre_lt ht
  have b18 : ∀ u, u < Q → (plB β m M Q) 18 u = plPL β m M u := fun t ht => pre_lt ht
  refine ⟨⟨hM6, hQ6, fun _ => h0, ?_, ?_, rfl, rfl, ?_, fun t ht => ⟨?_, ?_, ?_, ?_, ?_, ?_, ?_, ?_⟩, fun u hu => ⟨?_, ?_⟩, fun d hd' => ?_⟩, ⟨?_, fun d hd' => ⟨?_, ?_, ⟨0, by decide, a50 d hd'⟩, fun _ => Or.inl (a51 d hd'), Or.inl (a52 d hd')⟩⟩, ⟨by decide, rfl, rfl, fun c hc => absurd hc (Nat.not_lt_zero _)⟩, ⟨by decide, rfl, rfl, fun c hc => absurd hc (Nat.not_lt_zero _)⟩, ?_, ?_, ?_, ?_⟩
  · show β 10 2 = nI M
    rw [hβ]; rfl
  · show β 10 3 = nI Q
    rw [hβ]; rfl
  · show (0 : Int32) = _
    refine bit_ext fun i hi => ⟨fun q => absurd q (bit_0 hi), fun q => ?_⟩
    have := (bit_setB M (by omega) i hi).mp q
    exact absurd (a47 i this.1) this.2
  · rw [a13 t ht, a44 t ht]; exact hkk t ht
  · rw [a14 t ht, a45 t ht]; exact hll t ht
  · rw [a15 t ht, a46 t ht]; exact hnn t ht
  · rw [a16 t ht, a44 t ht, a46 t ht]
    unfold plW
    rw [hkk t ht, hnn t ht]
    obtain ⟨n, -, n9, en⟩ := hn9 t ht
    rw [en]
    exact wantCM (hk3 t ht) n9
  · rw [a17 t ht, a44 t ht, a45 t ht]
    unfold fitC
    refine setB_cg (by omega) fun p hp => ?_
    rw [b13 t ht, b14 t ht, b18 p hp, a48 p hp, hkk t ht, hll t ht, hpl p hp, opCM (hk3 t ht)]
  · rw [a44 t ht]; exact hk3 t ht
  · rw [a46 t ht]; exact hn9 t ht
  · exact Or.inl (a47 t ht)
  · rw [a18 u hu, a48 u hu]; exact hpl u hu
  · rw [a19 u hu, a49 u hu]; exact htm u hu
  · show plE β m M Q d = _
    refine bit_ext fun i hi => ?_
    rw [plE_bit Q (by omega) d i hd' hi, bit_setB Q (by omega) i hi]
    exact and_congr_right fun hiQ => by rw [a49 i hiQ, htm i hiQ]
  · show (0 : Int32) = _
    refine bit_ext fun i hi => ⟨fun q => absurd q (bit_0 hi), fun q => ?_⟩
    have := (bit_setB 30 (by decide) i hi).mp q
    exact absurd (a52 i this.1) this.2
  · rw [a50 d hd']; rfl
  · rw [a51 d hd']; rfl
  · refine h.2.2.2.2.1.cg (fun k h1 h2 => ?_) (fun k h1 h2 => ?_)
    · have e : β k = σ k := by
        rw [hβ]
        show setc (setc Y 10 _) 10 _ k = _
        rw [setc_n (by omega), setc_n (by omega)]
        exact hYk k (by omega) (by omega) (by omega)
      rw [← e]
      have : k = 2 ∨ k = 3 ∨ k = 4 ∨ k = 5 ∨ k = 6 ∨ k = 7 ∨ k = 8 ∨ k = 9 := by omega
      rcases this with rfl | rfl | rfl | rfl | rfl | rfl | rfl | rfl <;> rfl
    · have e : β k = σ k := by
        rw [hβ]
        show setc (setc Y 10 _) 10 _ k = _
        rw [setc_n (by omega), setc_n (by omega)]
        exact hYk k (by omega) (by omega) (by omega)
      rw [← e]
      have : k = 41 ∨ k = 42 ∨ k = 43 := by omega
      rcases this with rfl | rfl | rfl <;> rfl
  · show β 39 0 = β 40 1
    rw [hβ]
    show Y 39 0 = Y 40 1
    rw [hYk 39 (by decide) (by decide) (by decide), hY40]
    exact h.2.2.2.2.2.1
  · show β 0 8 = 0
    rw [hβ]
    exact hY0
  · show β 40 31 = -9
    rw [hβ]
    show Y 40 31 = -9
    rw [hY40]
    exact h.2.2.2.2.2.2.2
theorem or_eq {σ τ1 τ2 : ST} {T P C R j s m : Nat} {v v2 : Int32} (h : Rel σ T P C R) (hj : j < 4) (hsm : s + m ≤ 50) (h1 : orQ σ j s m v τ1) (h2 : orQM (setf τ1 40 0 0) (50 * j + s) m v2 τ2) : v2 = v ∧ RelE τ2 := by
  have e43 : τ1 43 = σ 43 := by
    unfold orQ at h1
    split at h1
    · obtain ⟨-, rfl⟩ := h1; rfl
    · obtain ⟨-, hk⟩ := h1
      have := hk 43 (by unfold scr; omega)
      rw [this]
      rfl
  have hc : codeT (orT σ j s m) m = codeT (xT (setf τ1 40 0 0) (50 * j + s)) m := code_cg (fun p hp => by
    show va_cpy (σ (2 + 2 * j + 1)) (σ 11) s 0 m p = τ1 43 (50 * j + s + p)
    unfold va_cpy
    rw [if_pos ⟨Nat.zero_le _, by omega⟩, e43]
    have := (h.2.2.2.2.1 j hj).2.2 (s + p) (by omega)
    rw [show 50 * j + s + p = 50 * j + (s + p) by omega, ← this]
    congr 1)
  have hR := ffR_cg hc
  unfold orQ at h1
  unfold orQM at h2
  rw [← hR] at h2
  by_cases hg : (ffR (orT σ j s m) m).1 = -1
  · rw [if_pos hg] at h1 h2
    have hle := ffR_le (σ := orT σ j s m) (n := m)
    obtain ⟨M, Q, e, h0, hA, hB⟩ := ffR_ok hg
    have hPe : orP σ j s m = orC (ffS (orT σ j s m) M Q) m M Q := by unfold orP orC; rw [e]
    rw [e] at h1 h2 hle
    obtain ⟨rfl, hτ1⟩ := h1
    rw [hPe] at hτ1
    obtain ⟨hv2, rk, rl, rq, ru, rv, rx, hτ2, hT, hPd⟩ := h2
    rw [hτ1] at hτ2
    refine ⟨hv2, M, Q, 0, 0, or_rel h hle.1 hle.2 h0 rfl rfl (fun k k0 k10 k11 => ?_) hc (fun t ht => ?_) (fun u hu => ?_) hT hPd hτ2⟩
    · unfold orT setf
      rw [setc_n k10, setc_n k11, setc_n k0]
    · have hd := dig_cg hc
      have := hA t ht
      simp only [isD, hc, hd] at this ⊢
      exact this
    · have hd := dig_cg hc
      have := hB u hu
      simp only [isD, hc, hd] at this ⊢
      exact this
  · rw [if_neg hg] at h1 h2
    exact ⟨h2.1.trans h1.1.symm, T, P, C, R, (h.flt h1.2).km (h2.2 C)⟩
