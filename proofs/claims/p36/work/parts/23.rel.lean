/-! THE RELATION of the class's cells and the law's arrays, and the days under it -/
def LG (σ : ST) (T P : Nat) : Prop := (0 < T ∧ T ≤ 6 ∧ 0 < P ∧ P ≤ 6) ∧ (σ 12 0 = nI T ∧ σ 12 1 = nI P ∧ σ 40 0 = nI T ∧ σ 40 1 = nI P) ∧ (∀ t, t < T → (σ 13 t = σ 40 (3 + t) ∧ σ 14 t = σ 40 (9 + t) ∧ σ 15 t = σ 40 (15 + t) ∧ σ 16 t = wantM (σ 40 (3 + t)) (σ 40 (15 + t)) ∧ σ 17 t = setB (fun p => bit (opM (σ 40 (3 + t)) (σ 40 (9 + t))) (σ 40 (22 + p))) P) ∧ (σ 40 (3 + t) = 0 ∨ σ 40 (3 + t) = 1 ∨ σ 40 (3 + t) = 2) ∧ (∃ l : Nat, l < 6 ∧ σ 40 (9 + t) = nI l) ∧ ∃ n : Nat, 1 ≤ n ∧ n ≤ 9 ∧ σ 40 (15 + t) = nI n) ∧ (∀ p, p < P → σ 18 p = σ 40 (22 + p) ∧ σ 19 p = σ 40 (28 + p) ∧ (∃ l : Nat, l < 6 ∧ σ 40 (22 + p) = nI l) ∧ ∃ d : Nat, d < 30 ∧ σ 40 (28 + p) = nI d) ∧ ∀ d, d < 30 → σ 20 d = setB (fun p => σ 40 (28 + p) = nI d) P
def LW (σ : ST) (T : Nat) : Prop := (∀ d, d < 30 → (bit (σ 21 4) (nI d) ↔ ¬ σ 43 d = 0)) ∧ ∀ d, d < 30 → σ 22 d = σ 41 d ∧ σ 23 d = σ 42 d ∧ (∃ v : Nat, v ≤ 9 ∧ σ 41 d = nI v) ∧ (σ 42 d = -9 ∨ ∃ t : Nat, t < T ∧ σ 42 d = nI t) ∧ (σ 43 d = 0 ∨ σ 43 d = 1)
def LC (σ : ST) (T C : Nat) : Prop := C ≤ 6 ∧ σ 21 5 = nI C ∧ σ 40 2 = nI C ∧ ∀ c, c < C → σ 24 c = σ 40 (34 + 2 * c) ∧ σ 25 c = σ 40 (35 + 2 * c) ∧ (∃ d : Nat, d < 30 ∧ σ 40 (34 + 2 * c) = nI d) ∧ ∃ t : Nat, t < T ∧ σ 40 (35 + 2 * c) = nI t
def LI (σ : ST) (T P C : Nat) : Prop := LG σ T P ∧ LW σ T ∧ LC σ T C ∧ σ 12 2 = σ 40 21
section LIL
variable {σ : ST} {T P C : Nat}
theorem LI.T0 (h : LI σ T P C) : 0 < T := h.1.1.1
theorem LI.T6 (h : LI σ T P C) : T ≤ 6 := h.1.1.2.1
theorem LI.P0 (h : LI σ T P C) : 0 < P := h.1.1.2.2.1
theorem LI.P6 (h : LI σ T P C) : P ≤ 6 := h.1.1.2.2.2
theorem LI.T12 (h : LI σ T P C) : σ 12 0 = nI T := h.1.2.1.1
theorem LI.P12 (h : LI σ T P C) : σ 12 1 = nI P := h.1.2.1.2.1
theorem LI.T40 (h : LI σ T P C) : σ 40 0 = nI T := h.1.2.1.2.2.1
theorem LI.P40 (h : LI σ T P C) : σ 40 1 = nI P := h.1.2.1.2.2.2
theorem LI.C6 (h : LI σ T P C) : C ≤ 6 := h.2.2.1.1
theorem LI.C21 (h : LI σ T P C) : σ 21 5 = nI C := h.2.2.1.2.1
theorem LI.C40 (h : LI σ T P C) : σ 40 2 = nI C := h.2.2.1.2.2.1
theorem LI.cd (h : LI σ T P C) : ∀ c, c < C → ∃ d : Nat, d < 30 ∧ σ 24 c = nI d := fun c hc => by
  obtain ⟨e1, -, ⟨d, hd, e⟩, -⟩ := h.2.2.1.2.2.2 c hc
  exact ⟨d, hd, e1.trans e⟩
end LIL
theorem LG.cg {σ τ : ST} {T P : Nat} (h : LG σ T P) (h0 : τ 12 0 = σ 12 0) (h1 : τ 12 1 = σ 12 1) (hc : ∀ k, 13 ≤ k → k ≤ 20 → τ k = σ k) (hg : ∀ i, i < 34 → i ≠ 2 → i ≠ 21 → τ 40 i = σ 40 i) : LG τ T P := by
  obtain ⟨a, ⟨b1, b2, b3, b4⟩, c, d, e⟩ := h
  have hP6 := a.2.2.2
  have hT6 := a.2.1
  refine ⟨a, ⟨by rw [h0]; exact b1, by rw [h1]; exact b2, by rw [hg 0 (by decide) (by decide) (by decide)]; exact b3, by rw [hg 1 (by decide) (by decide) (by decide)]; exact b4⟩, fun t ht => ?_, fun p hp => ?_, fun x hx => ?_⟩
  · obtain ⟨⟨c1, c2, c3, c4, c5⟩, c6⟩ := c t ht
    rw [hc 13 (by decide) (by decide), hc 14 (by decide) (by decide), hc 15 (by decide) (by decide), hc 16 (by decide) (by decide), hc 17 (by decide) (by decide), hg (3 + t) (by omega) (by omega) (by omega), hg (9 + t) (by omega) (by omega) (by omega), hg (15 + t) (by omega) (by omega) (by omega)]
    refine ⟨⟨c1, c2, c3, c4, c5.trans (setB_cg (by omega) fun p hp => ?_)⟩, c6⟩
    rw [hg (22 + p) (by omega) (by omega) (by omega)]
  · rw [hc 18 (by decide) (by decide), hc 19 (by decide) (by decide), hg (22 + p) (by omega) (by omega) (by omega), hg (28 + p) (by omega) (by omega) (by omega)]
    exact d p hp
  · rw [hc 20 (by decide) (by decide), e x hx]
    exact setB_cg (by omega) fun p hp => by rw [hg (28 + p) (by omega) (by omega) (by omega)]
theorem LW.cg {σ τ : ST} {T : Nat} (h : LW σ T) (h0 : τ 21 4 = σ 21 4) (hc : ∀ k, 22 ≤ k → k ≤ 23 → τ k = σ k) (hg : ∀ k, 41 ≤ k → k ≤ 43 → τ k = σ k) : LW τ T := by
  unfold LW
  rw [h0, hc 22 (by decide) (by decide), hc 23 (by decide) (by decide), hg 41 (by decide) (by decide), hg 42 (by decide) (by decide), hg 43 (by decide) (by decide)]
  exact h
theorem LC.cg {σ τ : ST} {T C : Nat} (h : LC σ T C) (h0 : τ 21 5 = σ 21 5) (hc : ∀ k, 24 ≤ k → k ≤ 25 → τ k = σ k) (h2 : τ 40 2 = σ 40 2) (hg : ∀ i, 34 ≤ i → τ 40 i = σ 40 i) : LC τ T C := by
  refine ⟨h.1, by rw [h0]; exact h.2.1, by rw [h2]; exact h.2.2.1, fun c hcc => ?_⟩
  rw [hc 24 (by decide) (by decide), hc 25 (by decide) (by decide), hg (34 + 2 * c) (by omega), hg (35 + 2 * c) (by omega)]
  exact h.2.2.2 c hcc
/-- what is not scratch is as it was -/
theorem LI.cg {σ τ : ST} {T P C : Nat} (h : LI σ T P C) (hc : ∀ k, 12 ≤ k → k ≤ 25 → τ k = σ k) (h40 : τ 40 = σ 40) (hg : ∀ k, 41 ≤ k → k ≤ 43 → τ k = σ k) : LI τ T P C :=
  ⟨h.1.cg (by rw [hc 12 (by decide) (by decide)]) (by rw [hc 12 (by decide) (by decide)]) (fun k h1 h2 => hc k (by omega) (by omega)) (fun i _ _ _ => by rw [h40]), h.2.1.cg (by rw [hc 21 (by decide) (by decide)]) (fun k h1 h2 => hc k (by omega) (by omega)) hg, h.2.2.1.cg (by rw [hc 21 (by decide) (by decide)]) (fun k h1 h2 => hc k (by omega) (by omega)) (by rw [h40]) (fun i _ => by rw [h40]), by rw [hc 12 (by decide) (by decide), h40]; exact h.2.2.2⟩
theorem LI.kp {σ τ : ST} {T P C : Nat} (h : LI σ T P C) (hk : Kp σ τ) : LI τ T P C := by
  have hh : ∀ k, ¬ (k = 10 ∨ k = 11 ∨ (30 ≤ k ∧ k ≤ 36) ∨ k = 38) → τ k = σ k := hk
  exact h.cg (fun k h1 h2 => hh k (by omega)) (hh 40 (by omega)) (fun k h1 h2 => hh k (by omega))
theorem LI.r {σ : ST} {T P C : Nat} {f : Nat → Int32} (h : LI σ T P C) : LI (setc σ 44 f) T P C := h.cg (fun k h1 h2 => setc_n (by omega)) (setc_n (by decide)) (fun k h1 h2 => setc_n (by omega))
theorem Kp.refl {σ : ST} : Kp σ σ := fun _ _ => rfl
theorem Kp.trans {σ τ υ : ST} (h : Kp σ τ) (h2 : Kp τ υ) : Kp σ υ := fun k hk => (h2 k hk).trans (h k hk)
theorem Kp.setc {σ : ST} {k : Nat} {f : Nat → Int32} (h : scr k) : Kp σ (setc σ k f) := fun j hj => setc_n (fun e => hj (e ▸ h))
theorem Kp.put {σ : ST} {s : S4} : Kp σ (putS σ s) := fun k hk => by
  unfold putS setf
  unfold scr at hk
  rw [setc_n (by omega), setc_n (by omega), setc_n (by omega), setc_n (by omega)]
theorem Kp.prep {σ : ST} {C : Nat} : Kp σ (prepF σ C) := fun k hk => by
  unfold prepF setf
  unfold scr at hk
  rw [setc_n (by omega), setc_n (by omega), setc_n (by omega), setc_n (by omega), setc_n (by omega)]
theorem Kp.pa {σ : ST} {T P C N : Nat} : Kp σ (paT σ T P C N) := Kp.prep.trans Kp.put
theorem Kp.fel {σ : ST} {x : Int32} : Kp σ (felS σ x) := Kp.setc (Or.inr (Or.inr (Or.inl ⟨by decide, by decide⟩)))
theorem Kp.vM {σ τ : ST} (h : Kp σ τ) : vM τ = vM σ := by
  have hh : ∀ k, ¬ (k = 10 ∨ k = 11 ∨ (30 ≤ k ∧ k ≤ 36) ∨ k = 38) → τ k = σ k := h
  show vL (τ 40) (τ 41) (τ 42) (τ 43) = _
  rw [hh 40 (by omega), hh 41 (by omega), hh 42 (by omega), hh 43 (by omega)]
theorem want_pos {k : Int32} {n : Nat} (hk : k = 0 ∨ k = 1 ∨ k = 2) (h1 : 1 ≤ n) (h9 : n ≤ 9) : (0 : Int32) < wantM k (nI n) := by
  have hh : ∀ m : Fin 10, 1 ≤ m.val → (0 : Int32) < wantM 0 (nI m.val) ∧ (0 : Int32) < wantM 1 (nI m.val) ∧ (0 : Int32) < wantM 2 (nI m.val) := by decide
  have h2 := hh ⟨n, by omega⟩ h1
  rcases hk with rfl | rfl | rfl
  · exact h2.1
  · exact h2.2.1
  · exact h2.2.2
theorem crs_bit {cd ct : Nat → Int32} : ∀ C : Nat, (∀ c, c < C → (∃ d : Nat, d < 30 ∧ cd c = nI d) ∧ ∃ t : Nat, t < 6 ∧ ct c = nI t) → ∀ d t, d < 30 → t < 6 → (bit (crsF cd ct C d) (nI t) ↔ ∃ c, c < C ∧ cd c = nI d ∧ ct c = nI t) := by
  intro C
  induction C with
  | zero => intro _ d t _ ht; exact ⟨fun h => absurd h (bit_0 (by omega)), fun h => by obtain ⟨c, hc, -⟩ := h; exact absurd hc (Nat.not_lt_zero _)⟩
  | succ C ih =>
    intro hc d t hd ht
    have ih2 := ih (fun c h => hc c (by omega)) d t hd ht
    obtain ⟨⟨x, hx, ex⟩, y, hy, ey⟩ := hc C (by omega)
    show bit (upd (crsF cd ct C) (cd C).toNatClampNeg (crsF cd ct C (cd C).toNatClampNeg ||| own1 (ct C)) d) (nI t) ↔ _
    rw [ex, ey, nI_clamp (by omega)]
    have split : (∃ c, c < C + 1 ∧ cd c = nI d ∧ ct c = nI t) ↔ (∃ c, c < C ∧ cd c = nI d ∧ ct c = nI t) ∨ (d = x ∧ t = y) := by
      constructor
      · rintro ⟨c, h1, h2, h3⟩
        rcases Nat.lt_or_ge c C with h4 | h4
        · exact Or.inl ⟨c, h4, h2, h3⟩
        · rw [show c = C by omega] at h2 h3
          exact Or.inr ⟨((nI_eq (by omega) (by omega)).mp (ex.symm.trans h2)).symm, ((nI_eq (by omega) (by omega)).mp (ey.symm.trans h3)).symm⟩
      · rintro (⟨c, h1, h2⟩ | ⟨rfl, rfl⟩)
        · exact ⟨c, by omega, h2⟩
        · exact ⟨C, by omega, ex, ey⟩
    rw [split]
    unfold upd
    by_cases e : d = x
    · rw [if_pos e]
      subst e
      rw [bit_or (by omega), ih2, bit_own (by omega) (by omega)]
      exact ⟨fun h => h.elim Or.inl (fun q => Or.inr ⟨rfl, q⟩), fun h => h.elim Or.inl (fun q => Or.inr q.2)⟩
    · rw [if_neg e, ih2]
      exact ⟨Or.inl, fun h => h.elim id (fun q => absurd q.1 e)⟩
/-- the days of both sides, with x felled -/
theorem DI_of {σ : ST} {T P C : Nat} (x : Int32) (hG : LG σ T P) (hW : LW σ T) (hC : LC σ T C) : DI (felS (prepF σ C) x) (vL (upd (σ 40) 21 x) (σ 41) (σ 42) (σ 43)) T P C := by
  obtain ⟨⟨hT0, hT6, hP0, hP6⟩, -, hTr, hPr, hE⟩ := hG
  have u : ∀ i, i ≠ 21 → upd (σ 40) 21 x i = σ 40 i := fun i h => upd_ne h
  refine ⟨hT6, hP6, fun c hc => ?_, fun t ht => ?_, fun d hd => ?_⟩
  · show ∃ t : Nat, t < T ∧ upd (σ 40) 21 x (35 + 2 * c) = nI t
    rw [u _ (by omega)]
    exact (hC.2.2.2 c hc).2.2.2
  · obtain ⟨⟨t1, t2, t3, t4, t5⟩, t6, ⟨l, hl, el⟩, n, n1, n9, en⟩ := hTr t ht
    show σ 16 t = wantM (upd (σ 40) 21 x (3 + t)) (upd (σ 40) 21 x (15 + t)) ∧ (0 : Int32) < σ 16 t ∧ (bit x (nI t) ↔ ¬ (upd (σ 40) 21 x 21 >>> (nI t &&& 31)) &&& 1 = 0) ∧ ∀ p, p < 32 → (bit (σ 17 t) (nI p) ↔ p < P ∧ bit (opM (upd (σ 40) 21 x (3 + t)) (upd (σ 40) 21 x (9 + t))) (upd (σ 40) 21 x (22 + p)))
    rw [u (3 + t) (by omega), u (9 + t) (by omega), u (15 + t) (by omega), upd_at]
    refine ⟨t4, ?_, Iff.rfl, fun p hp => ?_⟩
    · rw [t4, en]; exact want_pos t6 n1 n9
    · rw [t5, u (22 + p) (by omega)]; exact bit_setB P (by omega) p hp
  · obtain ⟨w1, w2, ⟨v, hv, ev⟩, w4, w5⟩ := hW.2 d hd
    have ew : woM (vL (upd (σ 40) 21 x) (σ 41) (σ 42) (σ 43)) d = σ 42 d := if_pos rfl
    rw [ew]
    refine ⟨hW.1 d hd, w1, ?_, w2, w4, fun t ht => ?_, fun p hp => ?_⟩
    · show ¬ σ 22 d < 0
      rw [w1, ev]; exact nI_pos (by omega)
    · show bit (crsF (σ 24) (σ 25) C d) (nI t) ↔ ∃ c, c < C ∧ upd (σ 40) 21 x (34 + 2 * c) = nI d ∧ upd (σ 40) 21 x (35 + 2 * c) = nI t
      rw [crs_bit C (fun c hc => by
        obtain ⟨e1, e2, ⟨a, ha, ea⟩, b, hb, eb⟩ := hC.2.2.2 c hc
        exact ⟨⟨a, ha, e1.trans ea⟩, b, by omega, e2.trans eb⟩) d t hd (by omega)]
      constructor
      · rintro ⟨c, h1, h2, h3⟩
        obtain ⟨e1, e2, -⟩ := hC.2.2.2 c h1
        exact ⟨c, h1, by rw [u _ (by omega), ← e1]; exact h2, by rw [u _ (by omega), ← e2]; exact h3⟩
      · rintro ⟨c, h1, h2, h3⟩
        rw [u _ (by omega)] at h2 h3
        obtain ⟨e1, e2, -⟩ := hC.2.2.2 c h1
        exact ⟨c, h1, e1.trans h2, e2.trans h3⟩
    · show bit (σ 20 d) (nI p) ↔ p < P ∧ upd (σ 40) 21 x (28 + p) = nI d
      rw [hE d hd, u _ (by omega)]
      exact bit_setB P (by omega) p hp
theorem days_fel {σ : ST} {T P C N : Nat} (x : Int32) (h : LI σ T P C) (hN : N ≤ 30) : EqC T P (daysC (felS (prepF σ C) x) T P N (s0C σ)) (mDC (vL (upd (σ 40) 21 x) (σ 41) (σ 42) (σ 43)) T P C N) := run_full (DI_of x h.1 h.2.1 h.2.2.1) h.P12 hN
theorem days_LI {σ : ST} {T P C N : Nat} (h : LI σ T P C) (hN : N ≤ 30) : EqC T P (daysC (prepF σ C) T P N (s0C σ)) (mDC (vM σ) T P C N) := by
  have h1 := days_fel (σ 12 2) h hN
  have e : felS (prepF σ C) (σ 12 2) = prepF σ C := setf_setf
  rw [e, h.2.2.2, upd_id] at h1
  exact h1
/-! what class and law tell of the days -/
theorem sum_eq {f g : Nat → Int32} : ∀ P, (∀ p, p < P → f p = g p) → sumO f P = sumO g P := by
  intro P
  induction P with
  | zero => intro _; rfl
  | succ P ih =>
    intro h
    show sumO f P + f P = sumO g P + g P
    rw [ih (fun p hp => h p (by omega)), h P (by omega)]
theorem free_eq {T P N : Nat} {s : S4} {m : S3} (hP6 : P ≤ 6) (hE : EqC T P s m) (hk : OkM P m) : ones (nI P) &&& (s.2.2.2 ^^^ -1) = setB (fun p => ¬ rOf m (6 + p) < 0) P := by
  refine bit_ext fun i hi => ?_
  rw [bit_and hi, bit_ones hP6 hi, bit_not hi, hE.2.2 i hi, bit_setB P (by omega) i hi]
  refine and_congr_right fun hiP => ?_
  rw [rOf_o (by omega)]
  rcases hk i hiP with e | ⟨d, hd, e⟩
  · rw [e]
    exact ⟨fun h => absurd ⟨hiP, rfl⟩ h, fun h => absurd (by decide) h⟩
  · rw [e]
    exact ⟨fun _ => nI_pos (by omega), fun _ h => nI_ne9 (by omega) h.2⟩
theorem worth_eq {a b c : Int32} : a - b + c = c + a - b := by
  rw [Int32.sub_eq_add_neg, Int32.sub_eq_add_neg, Int32.add_comm, Int32.add_assoc]
