/-! the relation of both sides, and the days under it -/
def Gr (σ : ST) (T P : Nat) : Prop := T ≤ 6 ∧ P ≤ 6 ∧ (0 < P → 0 < T) ∧ σ 12 0 = nI T ∧ σ 12 1 = nI P ∧ σ 40 5 = nI T ∧ σ 40 6 = nI P ∧ σ 12 2 = flM σ T ∧ (∀ t, t < T → σ 13 t = σ 44 t ∧ σ 14 t = σ 45 t ∧ σ 15 t = σ 46 t ∧ σ 16 t = wantM (σ 44 t) (σ 46 t) ∧ σ 17 t = setB (fun p => bit (opM (σ 44 t) (σ 45 t)) (σ 48 p)) P ∧ (σ 44 t = 0 ∨ σ 44 t = 1 ∨ σ 44 t = 2) ∧ (∃ n : Nat, 1 ≤ n ∧ n ≤ 9 ∧ σ 46 t = nI n) ∧ (σ 47 t = 0 ∨ σ 47 t = 1)) ∧ (∀ p, p < P → σ 18 p = σ 48 p ∧ σ 19 p = σ 49 p) ∧ ∀ d, d < 30 → σ 20 d = setB (fun p => σ 49 p = nI d) P
def We (σ : ST) (T : Nat) : Prop := σ 21 4 = setB (fun d => ¬ σ 52 d = 0) 30 ∧ ∀ d, d < 30 → σ 22 d = σ 50 d ∧ σ 23 d = σ 51 d ∧ (∃ v : Nat, v ≤ 9 ∧ σ 50 d = nI v) ∧ (0 < T → σ 51 d = -9 ∨ ∃ t : Nat, t < T ∧ σ 51 d = nI t) ∧ (σ 52 d = 0 ∨ σ 52 d = 1)
def Cr (σ : ST) (T C : Nat) : Prop := C ≤ 6 ∧ σ 21 5 = nI C ∧ σ 40 24 = nI C ∧ ∀ c, c < C → σ 24 c = σ 58 c ∧ σ 25 c = σ 59 c ∧ (∃ d : Nat, d < 30 ∧ σ 58 c = nI d) ∧ ∃ t : Nat, t < T ∧ σ 59 c = nI t
def Re (σ : ST) (P R : Nat) : Prop := R ≤ 8 ∧ σ 26 3 = nI R ∧ σ 40 33 = nI R ∧ ∀ r, r < R → σ 27 r = σ 65 r ∧ σ 28 r = σ 66 r ∧ σ 29 r = σ 67 r ∧ ∃ p : Nat, p < P ∧ σ 65 r = nI p
def Sh (σ : ST) : Prop := ∀ j, j < 4 → (∃ L : Nat, L ≤ 50 ∧ σ (2 + 2 * j) 3 = nI L ∧ σ 42 j = nI L) ∧ ((σ (2 + 2 * j) 1 = 0 ∧ σ 41 j = -9) ∨ (σ (2 + 2 * j) 1 = 1 ∧ σ (2 + 2 * j) 2 = σ 41 j ∧ isT 3 (σ 41 j))) ∧ ∀ i, i < 50 → σ (2 + 2 * j + 1) i = σ 43 (50 * j + i)
def Mi (σ : ST) : Prop := σ 39 0 = σ 40 1 ∧ σ 0 8 = σ 40 0 ∧ σ 40 31 = -9
def Rel (σ : ST) (T P C R : Nat) : Prop := Gr σ T P ∧ We σ T ∧ Cr σ T C ∧ Re σ P R ∧ Sh σ ∧ Mi σ
def RelE (σ : ST) : Prop := ∃ T P C R : Nat, Rel σ T P C R
theorem Gr.cg {σ τ : ST} {T P : Nat} (h : Gr σ T P) (h1 : ∀ k, 12 ≤ k → k ≤ 20 → τ k = σ k) (h2 : ∀ k, 44 ≤ k → k ≤ 49 → τ k = σ k) (h3 : τ 40 5 = σ 40 5) (h4 : τ 40 6 = σ 40 6) : Gr τ T P := by
  unfold Gr flM
  rw [h1 12 (by decide) (by decide), h1 13 (by decide) (by decide), h1 14 (by decide) (by decide), h1 15 (by decide) (by decide), h1 16 (by decide) (by decide), h1 17 (by decide) (by decide), h1 18 (by decide) (by decide), h1 19 (by decide) (by decide), h1 20 (by decide) (by decide), h2 44 (by decide) (by decide), h2 45 (by decide) (by decide), h2 46 (by decide) (by decide), h2 47 (by decide) (by decide), h2 48 (by decide) (by decide), h2 49 (by decide) (by decide), h3, h4]
  exact h
theorem We.cg {σ τ : ST} {T : Nat} (h : We σ T) (h1 : ∀ k, 21 ≤ k → k ≤ 23 → τ k = σ k) (h2 : ∀ k, 50 ≤ k → k ≤ 52 → τ k = σ k) : We τ T := by
  unfold We
  rw [h1 21 (by decide) (by decide), h1 22 (by decide) (by decide), h1 23 (by decide) (by decide), h2 50 (by decide) (by decide), h2 51 (by decide) (by decide), h2 52 (by decide) (by decide)]
  exact h
theorem Cr.cg {σ τ : ST} {T C : Nat} (h : Cr σ T C) (h1 : τ 21 = σ 21) (h2 : τ 24 = σ 24) (h3 : τ 25 = σ 25) (h4 : τ 40 24 = σ 40 24) (h5 : ∀ c, c < C → τ 58 c = σ 58 c ∧ τ 59 c = σ 59 c) : Cr τ T C := by
  refine ⟨h.1, by rw [h1]; exact h.2.1, by rw [h4]; exact h.2.2.1, fun c hc => ?_⟩
  rw [h2, h3, (h5 c hc).1, (h5 c hc).2]
  exact h.2.2.2 c hc
theorem Re.cg {σ τ : ST} {P R : Nat} (h : Re σ P R) (h1 : ∀ k, 26 ≤ k → k ≤ 29 → τ k = σ k) (h2 : ∀ k, 65 ≤ k → k ≤ 67 → τ k = σ k) (h3 : τ 40 33 = σ 40 33) : Re τ P R := by
  unfold Re
  rw [h1 26 (by decide) (by decide), h1 27 (by decide) (by decide), h1 28 (by decide) (by decide), h1 29 (by decide) (by decide), h2 65 (by decide) (by decide), h2 66 (by decide) (by decide), h2 67 (by decide) (by decide), h3]
  exact h
theorem Sh.cg {σ τ : ST} (h : Sh σ) (h1 : ∀ k, 2 ≤ k → k ≤ 9 → τ k = σ k) (h2 : ∀ k, 41 ≤ k → k ≤ 43 → τ k = σ k) : Sh τ := by
  intro j hj
  rw [h1 (2 + 2 * j) (by omega) (by omega), h1 (2 + 2 * j + 1) (by omega) (by omega), h2 41 (by decide) (by decide), h2 42 (by decide) (by decide), h2 43 (by decide) (by decide)]
  exact h j hj
theorem Mi.cg {σ τ : ST} (h : Mi σ) (h1 : τ 39 0 = σ 39 0) (h2 : τ 0 8 = σ 0 8) (h3 : τ 40 1 = σ 40 1) (h4 : τ 40 0 = σ 40 0) (h5 : τ 40 31 = σ 40 31) : Mi τ := by
  unfold Mi
  rw [h1, h2, h3, h4, h5]
  exact h
theorem Rel.kp {σ τ : ST} {T P C R : Nat} (h : Rel σ T P C R) (hk : Kp σ τ) : Rel τ T P C R := by
  obtain ⟨a, b, c, d, e, f⟩ := h
  have hh : ∀ k, ¬ scr k → τ k = σ k := hk
  have g : ∀ k, ¬ (k = 10 ∨ k = 11 ∨ (30 ≤ k ∧ k ≤ 36) ∨ k = 38) → τ k = σ k := hh
  exact ⟨a.cg (fun k h1 h2 => g k (by omega)) (fun k h1 h2 => g k (by omega)) (by rw [g 40 (by omega)]) (by rw [g 40 (by omega)]),
    b.cg (fun k h1 h2 => g k (by omega)) (fun k h1 h2 => g k (by omega)),
    c.cg (g 21 (by omega)) (g 24 (by omega)) (g 25 (by omega)) (by rw [g 40 (by omega)]) (fun _ _ => by rw [g 58 (by omega), g 59 (by omega)]; exact ⟨rfl, rfl⟩),
    d.cg (fun k h1 h2 => g k (by omega)) (fun k h1 h2 => g k (by omega)) (by rw [g 40 (by omega)]),
    e.cg (fun k h1 h2 => g k (by omega)) (fun k h1 h2 => g k (by omega)),
    f.cg (by rw [g 39 (by omega)]) (by rw [g 0 (by omega)]) (by rw [g 40 (by omega)]) (by rw [g 40 (by omega)]) (by rw [g 40 (by omega)])⟩
theorem Rel.km {σ τ : ST} {T P C R : Nat} (h : Rel σ T P C R) (hk : KM C σ τ) : Rel τ T P C R := by
  obtain ⟨a, b, c, d, e, f⟩ := h
  obtain ⟨h1, h2, h3⟩ := hk
  have g : ∀ k, ¬ (k = 40 ∨ k = 58 ∨ k = 59 ∨ (53 ≤ k ∧ k ≤ 57) ∨ (60 ≤ k ∧ k ≤ 64)) → τ k = σ k := h1
  exact ⟨a.cg (fun k h1 h2 => g k (by omega)) (fun k h1 h2 => g k (by omega)) (h2 5 (by decide) (by decide) (by decide)) (h2 6 (by decide) (by decide) (by decide)),
    b.cg (fun k h1 h2 => g k (by omega)) (fun k h1 h2 => g k (by omega)),
    c.cg (g 21 (by omega)) (g 24 (by omega)) (g 25 (by omega)) (h2 24 (by decide) (by decide) (by decide)) h3,
    d.cg (fun k h1 h2 => g k (by omega)) (fun k h1 h2 => g k (by omega)) (h2 33 (by decide) (by decide) (by decide)),
    e.cg (fun k h1 h2 => g k (by omega)) (fun k h1 h2 => g k (by omega)),
    f.cg (by rw [g 39 (by omega)]) (by rw [g 0 (by omega)]) (h2 1 (by decide) (by decide) (by decide)) (h2 0 (by decide) (by decide) (by decide)) (h2 31 (by decide) (by decide) (by decide))⟩
theorem want_pos {k : Int32} {n : Nat} (hk : k = 0 ∨ k = 1 ∨ k = 2) (h1 : 1 ≤ n) (h9 : n ≤ 9) : (0 : Int32) < wantM k (nI n) := by
  have hh : ∀ m : Fin 10, 1 ≤ m.val → (0 : Int32) < wantM 0 (nI m.val) ∧ (0 : Int32) < wantM 1 (nI m.val) ∧ (0 : Int32) < wantM 2 (nI m.val) := by decide
  have h2 := hh ⟨n, by omega⟩ h1
  rcases hk with rfl | rfl | rfl
  · exact h2.1
  · exact h2.2.1
  · exact h2.2.2
theorem crs_bit {cd ct : Nat → Int32} : ∀ C : Nat, (∀ c, c < C → (∃ d : Nat, d < 30 ∧ cd c = nI d) ∧ ∃ t : Nat, t < 6 ∧ ct c = nI t) → ∀ d t, d < 30 → t < 6 → (bit (crsF cd ct C d) (nI t) ↔ ∃ c, c < C ∧ cd c = nI d ∧ ct c = nI t) := by
  intro C
  induction C with
  | zero => intro _ d t _ ht; exact ⟨fun h => absurd h (bit_0 (by omega)), fun h => by obtain ⟨c, hc, -⟩ := h; exact absurd hc (Nat.not_lt_zero _)⟩
  | succ C ih =>
    intro hc d t hd ht
    have ih2 := ih (fun c h => hc c (by omega)) d t hd ht
    obtain ⟨⟨x, hx, ex⟩, y, hy, ey⟩ := hc C (by omega)
    show bit (upd (crsF cd ct C) (cd C).toNatClampNeg (crsF cd ct C (cd C).toNatClampNeg ||| own1 (ct C)) d) (nI t) ↔ _
    rw [ex, ey, nI_clamp (by omega)]
    have split : (∃ c, c < C + 1 ∧ cd c = nI d ∧ ct c = nI t) ↔ (∃ c, c < C ∧ cd c = nI d ∧ ct c = nI t) ∨ (d = x ∧ t = y) := by
      constructor
      · rintro ⟨c, h1, h2, h3⟩
        rcases Nat.lt_or_ge c C with h4 | h4
        · exact Or.inl ⟨c, h4, h2, h3⟩
        · rw [show c = C by omega] at h2 h3
          exact Or.inr ⟨((nI_eq (by omega) (by omega)).mp (ex.symm.trans h2)).symm, ((nI_eq (by omega) (by omega)).mp (ey.symm.trans h3)).symm⟩
      · rintro (⟨c, h1, h2⟩ | ⟨rfl, rfl⟩)
        · exact ⟨c, by omega, h2⟩
        · exact ⟨C, by omega, ex, ey⟩
    rw [split]
    unfold upd
    by_cases e : d = x
    · rw [if_pos e]
      subst e
      rw [bit_or (by omega), ih2, bit_own (by omega) (by omega)]
      exact ⟨fun h => h.elim Or.inl (fun q => Or.inr ⟨rfl, q⟩), fun h => h.elim Or.inl (fun q => Or.inr q.2)⟩
    · rw [if_neg e, ih2]
      exact ⟨Or.inl, fun h => h.elim id (fun q => absurd q.1 e)⟩
theorem DI_mk {σ κ μ : ST} {T P C : Nat} (hG : Gr σ T P) (hW : We σ T) (k16 : κ 16 = σ 16) (k17 : κ 17 = σ 17) (k20 : κ 20 = σ 20) (m44 : μ 44 = σ 44) (m45 : μ 45 = σ 45) (m46 : μ 46 = σ 46) (m48 : μ 48 = σ 48) (m49 : μ 49 = σ 49) (m52 : μ 52 = σ 52) (hfr : κ 30 4 = σ 21 4)
    (hfel : ∀ t, t < T → (bit (κ 30 5) (nI t) ↔ ¬ μ 47 t = 0)) (hrain : ∀ d, d < 30 → κ 31 d = μ 50 d ∧ ¬ κ 31 d < 0) (hwat : ∀ d, d < 30 → κ 32 d = woM μ d ∧ (woM μ d = -9 ∨ ∃ t : Nat, t < T ∧ woM μ d = nI t)) (hct : ∀ c, c < C → ∃ t : Nat, t < T ∧ μ 59 c = nI t)
    (hcr : ∀ d, d < 30 → ∀ t, t < T → (bit (κ 33 d) (nI t) ↔ ∃ c, c < C ∧ μ 58 c = nI d ∧ μ 59 c = nI t)) : DI κ μ T P C := by
  obtain ⟨hT6, hP6, -, -, -, -, -, -, hTr, hPr, hE⟩ := hG
  refine ⟨hT6, hP6, hct, fun t ht => ?_, fun d hd => ?_⟩
  · obtain ⟨-, -, -, t4, t5, t6, ⟨n, n1, n9, en⟩, -⟩ := hTr t ht
    rw [k16, k17, m44, m45, m46, m48]
    refine ⟨t4, ?_, hfel t ht, fun p hp => ?_⟩
    · rw [t4, en]; exact want_pos t6 n1 n9
    · rw [t5]; exact bit_setB P (by omega) p hp
  · rw [hfr, m52, k20, m49]
    refine ⟨?_, (hrain d hd).1, (hrain d hd).2, (hwat d hd).1, (hwat d hd).2, hcr d hd, fun p hp => ?_⟩
    · rw [hW.1, bit_setB 30 (by decide) d (by omega)]
      exact ⟨fun h => h.2, fun h => ⟨hd, h⟩⟩
    · rw [hE d hd]; exact bit_setB P (by omega) p hp
theorem Rel.DI0 {σ μ : ST} {T P C R : Nat} (h : Rel σ T P C R) (hμ : ∀ k, 40 ≤ k → μ k = σ k) (h0 : 0 < T) : DI (prepF σ C) μ T P C := by
  obtain ⟨a, b, c, -, -, f⟩ := h
  have hw : ∀ d, woM μ d = σ 51 d := fun d => by unfold woM; rw [hμ 40 (by decide), hμ 51 (by decide), if_pos f.2.2]
  refine DI_mk a b rfl rfl rfl (hμ 44 (by decide)) (hμ 45 (by decide)) (hμ 46 (by decide)) (hμ 48 (by decide)) (hμ 49 (by decide)) (hμ 52 (by decide)) rfl (fun t ht => ?_) (fun d hd => ?_) (fun d hd => ?_) (fun c2 hc => ?_) (fun d hd t ht => ?_)
  · show bit (σ 12 2) (nI t) ↔ _
    have hT6 := a.1
    rw [a.2.2.2.2.2.2.2.1, hμ 47 (by decide), bit_setB T (by omega) t (by omega)]
    exact ⟨fun h => h.2, fun h => ⟨ht, h⟩⟩
  · obtain ⟨e1, -, ⟨v, hv, e3⟩, -⟩ := b.2 d hd
    rw [hμ 50 (by decide)]
    refine ⟨e1, ?_⟩
    show ¬ σ 22 d < 0
    rw [e1, e3]; exact nI_pos (by omega)
  · obtain ⟨-, e2, -, e4, -⟩ := b.2 d hd
    rw [hw]
    exact ⟨e2, e4 h0⟩
  · rw [hμ 59 (by decide)]
    exact (c.2.2.2 c2 hc).2.2.2
  · rw [hμ 58 (by decide), hμ 59 (by decide)]
    have hT6 := a.1
    show bit (crsF (σ 24) (σ 25) C d) (nI t) ↔ _
    rw [crs_bit C (fun c2 hc => by
      obtain ⟨e1, e2, ⟨x, hx, ex⟩, y, hy, ey⟩ := c.2.2.2 c2 hc
      exact ⟨⟨x, hx, e1.trans ex⟩, y, by omega, e2.trans ey⟩) d t hd (by omega)]
    constructor
    · rintro ⟨c2, h1, h2, h3⟩
      obtain ⟨e1, e2, -⟩ := c.2.2.2 c2 h1
      exact ⟨c2, h1, e1.symm.trans h2, e2.symm.trans h3⟩
    · rintro ⟨c2, h1, h2, h3⟩
      obtain ⟨e1, e2, -⟩ := c.2.2.2 c2 h1
      exact ⟨c2, h1, e1.trans h2, e2.trans h3⟩
/-- the same but for one part -/
theorem DI_row {σ μ : ST} {T P C R k r : Nat} (h : Rel σ T P C R) (hμ : ∀ k, 40 ≤ k → μ k = σ k) (h0 : 0 < T) (hk : k ≤ 4) : DI (setc (prepF σ C) 32 (rowW T k r)) (rowS μ T k r) T P C := by
  obtain ⟨h1, h2, h3, h4, h5⟩ := h.DI0 hμ h0
  refine ⟨h1, h2, h3, h4, fun d hd => ?_⟩
  obtain ⟨a, b, c, -, -, f, g⟩ := h5 d hd
  refine ⟨a, b, c, ?_, ?_, f, g⟩
  · rw [wo_rowS hk hd]; rfl
  · rw [wo_rowS hk hd]; exact rowW_T h0
theorem DI_fel {σ μ : ST} {T P C R : Nat} {x : Int32} {w : Nat → Int32} (h : Rel σ T P C R) (hμ : ∀ k, 40 ≤ k → μ k = σ k) (h0 : 0 < T) (hx : ∀ t, t < T → (bit x (nI t) ↔ ¬ w t = 0)) : DI (felS (prepF σ C) x) (setc μ 47 w) T P C := by
  obtain ⟨h1, h2, h3, h4, h5⟩ := h.DI0 hμ h0
  refine ⟨h1, h2, h3, fun t ht => ?_, h5⟩
  obtain ⟨a, b, -, d⟩ := h4 t ht
  exact ⟨a, b, hx t ht, d⟩
theorem DI_rain {σ μ : ST} {T P C R : Nat} {w v : Nat → Int32} (h : Rel σ T P C R) (hμ : ∀ k, 40 ≤ k → μ k = σ k) (h0 : 0 < T) (hx : ∀ d, d < 30 → w d = v d ∧ ¬ w d < 0) : DI (setc (prepF σ C) 31 w) (setc μ 50 v) T P C := by
  obtain ⟨h1, h2, h3, h4, h5⟩ := h.DI0 hμ h0
  refine ⟨h1, h2, h3, h4, fun d hd => ?_⟩
  obtain ⟨a, -, -, b⟩ := h5 d hd
  exact ⟨a, (hx d hd).1, (hx d hd).2, b⟩
theorem DI_th {σ μ : ST} {T P C R d t : Nat} (h : Rel σ T P C R) (hμ : ∀ k, 40 ≤ k → μ k = σ k) (hd : d < 30) (ht : t < T) : DI (thS σ C d t) (thX μ C d (nI t)) T P (C + 1) := by
  have h9 : μ 40 31 = -9 := by rw [hμ 40 (by decide)]; exact h.2.2.2.2.2.2.2
  obtain ⟨h1, h2, h3, h4, h5⟩ := h.DI0 hμ (by omega)
  have e59 : ∀ c, (thX μ C d (nI t)) 59 c = if c = C then nI t else μ 59 c := fun c => rfl
  have e58 : ∀ c, (thX μ C d (nI t)) 58 c = if c = C then nI d else μ 58 c := fun c => rfl
  refine ⟨h1, h2, fun c hc => ?_, h4, fun e he => ?_⟩
  · rw [e59]
    by_cases q : c = C
    · rw [if_pos q]; exact ⟨t, ht, rfl⟩
    · rw [if_neg q]; exact h3 c (by omega)
  · obtain ⟨a, b, c, w, w2, f, g⟩ := h5 e he
    have ew : woM (thX μ C d (nI t)) e = woM μ e := by
      unfold woM
      rw [if_pos h9, if_pos (show (thX μ C d (nI t)) 40 31 = -9 from h9)]
      rfl
    refine ⟨a, b, c, by rw [ew]; exact w, by rw [ew]; exact w2, fun u hu => ?_, g⟩
    show bit (upd ((prepF σ C) 33) d ((prepF σ C) 33 d ||| own1 (nI t)) e) (nI u) ↔ _
    have sp : (∃ c, c < C + 1 ∧ (thX μ C d (nI t)) 58 c = nI e ∧ (thX μ C d (nI t)) 59 c = nI u) ↔ (∃ c, c < C ∧ μ 58 c = nI e ∧ μ 59 c = nI u) ∨ (e = d ∧ u = t) := by
      constructor
      · rintro ⟨c, c1, c2, c3⟩
        rw [e58] at c2
        rw [e59] at c3
        by_cases q : c = C
        · rw [if_pos q] at c2 c3
          exact Or.inr ⟨((nI_eq (by omega) (by omega)).mp c2).symm, ((nI_eq (by omega) (by omega)).mp c3).symm⟩
        · rw [if_neg q] at c2 c3
          exact Or.inl ⟨c, by omega, c2, c3⟩
      · rintro (⟨c, c1, c2, c3⟩ | ⟨rfl, rfl⟩)
        · exact ⟨c, by omega, by rw [e58, if_neg (by omega)]; exact c2, by rw [e59, if_neg (by omega)]; exact c3⟩
        · exact ⟨C, by omega, by rw [e58, if_pos rfl], by rw [e59, if_pos rfl]⟩
    rw [sp]
    unfold upd
    by_cases q : e = d
    · subst q
      rw [if_pos rfl, bit_or (by omega), f u hu, bit_own (by omega) (by omega)]
      exact ⟨fun h => h.elim Or.inl (fun q => Or.inr ⟨rfl, q⟩), fun h => h.elim Or.inl (fun q => Or.inr q.2)⟩
    · rw [if_neg q, f u hu]
      exact ⟨Or.inl, fun h => h.elim id (fun z => absurd z.1 q)⟩
theorem Rel.MH {σ : ST} {T P C R : Nat} (h : Rel σ T P C R) (h0 : 0 < T) : MH σ T P C := by
  obtain ⟨a, b, c, -, -, f⟩ := h
  have hw : ∀ d, woM σ d = σ 51 d := fun d => by unfold woM; rw [if_pos f.2.2]
  exact ⟨a.2.2.2.2.2.1, a.1, a.2.2.2.2.2.2.1, a.2.1, c.2.2.1, by have := c.1; omega, fun c2 hc => (c.2.2.2 c2 hc).2.2.2, Or.inl f.2.2, fun d hd => by rw [hw]; exact (b.2 d hd).2.2.2.1 h0⟩
theorem Rel.P12 {σ : ST} {T P C R : Nat} (h : Rel σ T P C R) : σ 12 1 = nI P := h.1.2.2.2.2.1
theorem wu {P p : Nat} (hP6 : P ≤ 6) (hp : p < P) : bit (own1 (nI p)) (nI p) := (bit_own (by omega) (by omega)).mpr rfl
/-- least, most -/
theorem row_by {σ μ : ST} {T P C R k r N p : Nat} {x : Int32} (h : Rel σ T P C R) (hμ : ∀ k, 40 ≤ k → μ k = σ k) (h0 : 0 < T) (hk : k ≤ 4) (hN : N ≤ 30) (hp : p < P) (hb : bit x (nI p)) : (passW (prepF σ C) T P x N k r).2.2.1 p = (mDC (rowS μ T k r) T P C N).2.2 p :=
  run_by (ν := prepF σ C) (DI_row h hμ h0 hk) h.P12 hN hp hb
theorem lw_eq {σ μ : ST} {T P C R N p : Nat} (h : Rel σ T P C R) (hμ : ∀ k, 40 ≤ k → μ k = σ k) (h0 : 0 < T) (hN : N ≤ 30) (hp : p < P) : ∀ f k, k + f ≤ 5 → lwF (prepF σ C) T P p N f k = lwM μ T P C p N f k := by
  have hP6 := h.1.2.1
  intro f
  induction f with
  | zero => intro k _; rfl
  | succ f ih =>
    intro k hk
    show (match fst? (winC (prepF σ C) T P p N k) (T ^ k) 0 with | some r => some (k, r) | none => lwF (prepF σ C) T P p N f (k + 1)) = (match fst? (winM μ T P C p N k) (T ^ k) 0 with | some r => some (k, r) | none => lwM μ T P C p N f (k + 1))
    rw [show fst? (winC (prepF σ C) T P p N k) (T ^ k) 0 = fst? (winM μ T P C p N k) (T ^ k) 0 from fst?_congr _ _ (fun r _ _ => by
      show (¬ (passW (prepF σ C) T P (own1 (nI p)) N k r).2.2.1 p = -9) ↔ (¬ (mDC (rowS μ T k r) T P C N).2.2 p = -9)
      rw [row_by h hμ h0 (by omega) hN hp (wu hP6 hp)]), ih (k + 1) (by omega)]
theorem mo_eq {σ μ : ST} {T P C R N k : Nat} (h : Rel σ T P C R) (hμ : ∀ k, 40 ≤ k → μ k = σ k) (h0 : 0 < T) (hk : k ≤ 4) (hN : N ≤ 30) : ∀ r, moF (prepF σ C) T P N k r = moM μ T P C N k r := by
  have hP6 := h.1.2.1
  intro r
  induction r with
  | zero => rfl
  | succ r ih =>
    have e : cntB (passW (prepF σ C) T P (ones (nI P)) N k r).2.2.1 P = cntB (mDC (rowS μ T k r) T P C N).2.2 P := cntB_cg P (fun p hp => row_by h hμ h0 hk hN hp ((bit_ones hP6 (by omega)).mpr hp))
    show (if (moF (prepF σ C) T P N k r).1 < cntB (passW (prepF σ C) T P (ones (nI P)) N k r).2.2.1 P then (cntB (passW (prepF σ C) T P (ones (nI P)) N k r).2.2.1 P, r) else moF (prepF σ C) T P N k r) = _
    rw [e, ih]
    rfl
