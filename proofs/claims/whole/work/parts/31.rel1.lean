/-! both sides' days -/
def DI (κ μ : ST) (T P C : Nat) : Prop := T ≤ 6 ∧ P ≤ 6 ∧ (∀ c, c < C → ∃ t : Nat, t < T ∧ μ 59 c = nI t) ∧ (∀ t, t < T → κ 16 t = wantM (μ 44 t) (μ 46 t) ∧ (0 : Int32) < κ 16 t ∧ (bit (κ 30 5) (nI t) ↔ ¬ μ 47 t = 0) ∧ ∀ p, p < 32 → (bit (κ 17 t) (nI p) ↔ p < P ∧ bit (opM (μ 44 t) (μ 45 t)) (μ 48 p))) ∧ ∀ d, d < 30 → (bit (κ 30 4) (nI d) ↔ ¬ μ 52 d = 0) ∧ κ 31 d = μ 50 d ∧ ¬ κ 31 d < 0 ∧ κ 32 d = woM μ d ∧ (woM μ d = -9 ∨ ∃ t : Nat, t < T ∧ woM μ d = nI t) ∧ (∀ t, t < T → (bit (κ 33 d) (nI t) ↔ ∃ c, c < C ∧ μ 58 c = nI d ∧ μ 59 c = nI t)) ∧ ∀ p, p < 32 → (bit (κ 20 d) (nI p) ↔ p < P ∧ μ 49 p = nI d)
def EqC (T P : Nat) (s : S4) (m : S3) : Prop := (∀ t, t < T → s.1 t = m.1 t) ∧ (∀ p, p < P → s.2.1 p = m.2.1 p ∧ s.2.2.1 p = m.2.2 p ∧ (m.2.1 p = -9 → m.2.2 p = -9)) ∧ ∀ p, p < 32 → (bit s.2.2.2 (nI p) ↔ p < P ∧ m.2.1 p = -9)
def NoK (κ : ST) (T : Nat) (s : S4) : Prop := ∀ t, t < T → ¬ tkC κ s t
theorem nle_of_pos {x y : Int32} (h : (0 : Int32) < x) (hy : y = 0) : ¬ x ≤ y := by
  rw [hy]
  exact Int32.not_le.mpr h
theorem gw_wet {κ μ : ST} {T P C d : Nat} {w v : Nat → Int32} (hI : DI κ μ T P C) (hd : d < 30) (hw : ∀ t, t < T → w t = v t) (hwet : wetC κ d) : ∀ t, t < T → gwF T (κ 31 d) (κ 32 d) w t = gwM T (μ 52 d) (μ 50 d) (woM μ d) v t := by
  obtain ⟨hT6, -, -, -, hD⟩ := hI
  obtain ⟨h1, h2, -, h3, h4, -, -⟩ := hD d hd
  have hf : μ 52 d = 0 := Decidable.of_not_not (fun h => hwet.1 (h1.mpr h))
  have hp : ∀ t, t < T → pre T (fun t => w t + μ 50 d) w t = pre T (fun t => v t + μ 50 d) v t := fun t ht => by rw [pre_lt ht, pre_lt ht, hw t ht]
  intro t ht
  unfold gwF gwM
  rw [if_neg (nn hf), h2, h3]
  rcases h4 with h4 | ⟨x, hx, h4⟩
  · rw [h4, if_pos rfl, if_neg (fun h => h.1 (by decide))]
    exact hp t ht
  · rw [h4, if_pos (isT_nI hx (by omega)), if_neg (nI_ne9 (by omega)), nI_clamp (by omega)]
    exact upd_eq (by rw [hp x hx]) (hp t ht)
theorem gw_dry {κ μ : ST} {T P C d : Nat} {v : Nat → Int32} (hI : DI κ μ T P C) (hd : d < 30) (hwet : ¬ wetC κ d) : ∀ t, t < T → v t = gwM T (μ 52 d) (μ 50 d) (woM μ d) v t := by
  obtain ⟨hT6, -, -, -, hD⟩ := hI
  obtain ⟨h1, h2, h5, h3, h4, -, -⟩ := hD d hd
  intro t ht
  unfold gwM
  by_cases hf : μ 52 d = 0
  · rw [if_neg (nn hf)]
    have hb : ¬ bit (κ 30 4) (nI d) := fun h => (h1.mp h) hf
    have h9 : woM μ d = -9 := Decidable.of_not_not (fun h => hwet ⟨hb, Or.inr (by rw [h3]; exact h)⟩)
    have h0 : μ 50 d = 0 := by
      have a1 : ¬ (0 : Int32) < κ 31 d := fun h => hwet ⟨hb, Or.inl h⟩
      rw [← h2]
      exact Int32.le_antisymm (Int32.not_lt.mp a1) (Int32.not_lt.mp h5)
    rw [if_pos h9, pre_lt ht, h0, Int32.add_zero]
  · rw [if_pos hf]
theorem cr_in {μ : ST} {T d : Nat} {w : Nat → Int32} (hT6 : T ≤ 6) (hpos : ∀ t, t < T → (0 : Int32) < wantM (μ 44 t) (μ 46 t)) : ∀ C : Nat, (∀ c, c < C → ∃ t : Nat, t < T ∧ μ 59 c = nI t) → ∀ t, t < T → (((∃ c, c < C ∧ μ 58 c = nI d ∧ μ 59 c = nI t) ∧ wantM (μ 44 t) (μ 46 t) ≤ w t → crM μ d C w t = 0) ∧ (¬ ((∃ c, c < C ∧ μ 58 c = nI d ∧ μ 59 c = nI t) ∧ wantM (μ 44 t) (μ 46 t) ≤ w t) → crM μ d C w t = w t)) := by
  intro C
  induction C with
  | zero => intro _ t ht; exact ⟨fun h => by obtain ⟨⟨c, hc, -⟩, -⟩ := h; exact absurd hc (Nat.not_lt_zero _), fun _ => rfl⟩
  | succ C ih =>
    intro hc t ht
    have ih2 := ih (fun c h => hc c (by omega)) t ht
    obtain ⟨x, hx, ex⟩ := hc C (by omega)
    have ih3 := ih (fun c h => hc c (by omega)) x hx
    rw [crM_s, ex, nI_clamp (by omega)]
    by_cases e : t = x
    · subst e
      by_cases hd : μ 58 C = nI d
      · by_cases hr : wantM (μ 44 t) (μ 46 t) ≤ w t
        · refine ⟨fun _ => ?_, fun h => absurd ⟨⟨C, by omega, hd, ex⟩, hr⟩ h⟩
          by_cases h1 : ∃ c, c < C ∧ μ 58 c = nI d ∧ μ 59 c = nI t
          · have e0 := ih2.1 ⟨h1, hr⟩
            rw [if_neg (fun h => nle_of_pos (hpos t ht) e0 h.2), e0]
          · have e0 := ih2.2 (fun h => h1 h.1)
            rw [if_pos ⟨hd, by rw [e0]; exact hr⟩]
            exact if_pos rfl
        · refine ⟨fun h => absurd h.2 hr, fun _ => ?_⟩
          have e0 := ih2.2 (fun h => hr h.2)
          rw [if_neg (fun h => hr (by rw [← e0]; exact h.2)), e0]
      · rw [if_neg (fun h => hd h.1)]
        refine ⟨fun h => ih2.1 ⟨?_, h.2⟩, fun h => ih2.2 (fun q => h ⟨?_, q.2⟩)⟩
        · obtain ⟨⟨c, h1, h2, h3⟩, -⟩ := h
          rcases Nat.lt_or_ge c C with h4 | h4
          · exact ⟨c, h4, h2, h3⟩
          · rw [show c = C by omega] at h2; exact absurd h2 hd
        · obtain ⟨c, h1, h2⟩ := q.1
          exact ⟨c, by omega, h2⟩
    · have hv : (if μ 58 C = nI d ∧ wantM (μ 44 x) (μ 46 x) ≤ crM μ d C w x then upd (crM μ d C w) x 0 else crM μ d C w) t = crM μ d C w t := by
        split
        · exact if_neg e
        · rfl
      rw [hv]
      refine ⟨fun h => ih2.1 ⟨?_, h.2⟩, fun h => ih2.2 (fun q => h ⟨?_, q.2⟩)⟩
      · obtain ⟨⟨c, h1, h2, h3⟩, -⟩ := h
        rcases Nat.lt_or_ge c C with h4 | h4
        · exact ⟨c, h4, h2, h3⟩
        · rw [show c = C by omega, ex] at h3
          exact absurd ((nI_eq (by omega) (by omega)).mp h3) (fun h => e h.symm)
      · obtain ⟨c, h1, h2⟩ := q.1
        exact ⟨c, by omega, h2⟩
theorem day2_at {κ : ST} {T d t : Nat} {s : S4} (hT6 : T ≤ 6) (ht : t < T) : (day2 κ T d s).1 t = crG (κ 16) (κ 33 d) s.1 t := by
  unfold day2
  by_cases h : κ 33 d = 0
  · rw [if_neg (nn h)]
    unfold crG
    rw [if_neg (fun q => by rw [h] at q; exact bit_0 (by omega) q.1)]
  · rw [if_pos h]
    exact pre_lt ht
theorem day2_rest {κ : ST} {T d : Nat} {s : S4} : (day2 κ T d s).2 = s.2 := by
  unfold day2
  split <;> rfl
theorem cr_eq {κ μ : ST} {T P C d : Nat} {s : S4} {m : S3} (hI : DI κ μ T P C) (hd : d < 30) (hE : EqC T P s m) : EqC T P (day2 κ T d s) (md2 μ C d m) := by
  obtain ⟨hT6, -, hC, hTr, hD⟩ := hI
  obtain ⟨-, -, -, -, -, h6, -⟩ := hD d hd
  refine ⟨fun t ht => ?_, ?_⟩
  · rw [day2_at hT6 ht]
    show crG (κ 16) (κ 33 d) s.1 t = crM μ d C m.1 t
    have h := cr_in (w := m.1) (d := d) hT6 (fun t ht => by rw [← (hTr t ht).1]; exact (hTr t ht).2.1) C hC t ht
    unfold crG
    rw [(hTr t ht).1, hE.1 t ht]
    by_cases hb : bit (κ 33 d) (nI t) ∧ wantM (μ 44 t) (μ 46 t) ≤ m.1 t
    · rw [if_pos hb, h.1 ⟨(h6 t ht).mp hb.1, hb.2⟩]
    · rw [if_neg hb, h.2 (fun q => hb ⟨(h6 t ht).mpr q.1, q.2⟩)]
  · rw [day2_rest]
    exact hE.2
theorem fst_N {q : Nat → Prop} [DecidablePred q] : ∀ f g i : Nat, (∃ j, i ≤ j ∧ j < i + f ∧ q j) → f ≤ g + 1 → fst? q f i = some (fstN q g i) := by
  intro f
  induction f with
  | zero => intro g i h _; obtain ⟨j, h1, h2, -⟩ := h; omega
  | succ f ih =>
    intro g i h hg
    show (if q i then some i else fst? q f (i + 1)) = _
    by_cases hq : q i
    · rw [if_pos hq]
      cases g with
      | zero => rfl
      | succ g => show _ = some (if q i then i else fstN q g (i + 1)); rw [if_pos hq]
    · rw [if_neg hq]
      obtain ⟨j, h1, h2, h3⟩ := h
      have hj : i + 1 ≤ j := by
        rcases Nat.lt_or_ge i j with h4 | h4
        · exact h4
        · rw [show j = i by omega] at h3; exact absurd h3 hq
      cases g with
      | zero => omega
      | succ g =>
        show _ = some (if q i then i else fstN q g (i + 1))
        rw [if_neg hq]
        exact ih g (i + 1) ⟨j, hj, by omega, h3⟩ (by omega)
theorem fst_none {q : Nat → Prop} [DecidablePred q] : ∀ f i : Nat, (∀ j, i ≤ j → j < i + f → ¬ q j) → fst? q f i = none := by
  intro f
  induction f with
  | zero => intro i _; rfl
  | succ f ih =>
    intro i h
    show (if q i then some i else fst? q f (i + 1)) = none
    rw [if_neg (h i (Nat.le_refl _) (by omega))]
    exact ih (i + 1) (fun j h1 h2 => h j (by omega) (by omega))
theorem fstN_q {q : Nat → Prop} [DecidablePred q] {f g i : Nat} (h : ∃ j, i ≤ j ∧ j < i + f ∧ q j) (hg : f ≤ g + 1) : q (fstN q g i) ∧ fstN q g i < i + f := by
  have e := fst_N f g i h hg
  have := fst?_lt f i _ e
  exact ⟨this.2.2, this.2.1⟩
