/-! both sides' days -/
def DI (κ μ : ST) (T P C : Nat) : Prop := T ≤ 6 ∧ P ≤ 6 ∧ (∀ c, c < C → ∃ t : Nat, t < T ∧ μ 59 c = nI t) ∧ (∀ t, t < T → κ 16 t = wantM (μ 44 t) (μ 46 t) ∧ (0 : Int32) < κ 16 t ∧ (bit (κ 30 5) (nI t) ↔ ¬ μ 47 t = 0) ∧ ∀ p, p < 32 → (bit (κ 17 t) (nI p) ↔ p < P ∧ bit (opM (μ 44 t) (μ 45 t)) (μ 48 p))) ∧ ∀ d, d < 30 → (bit (κ 30 4) (nI d) ↔ ¬ μ 52 d = 0) ∧ κ 31 d = μ 50 d ∧ ¬ κ 31 d < 0 ∧ κ 32 d = woM μ d ∧ (woM μ d = -9 ∨ ∃ t : Nat, t < T ∧ woM μ d = nI t) ∧ (∀ t, t < T → (bit (κ 33 d) (nI t) ↔ ∃ c, c < C ∧ μ 58 c = nI d ∧ μ 59 c = nI t)) ∧ ∀ p, p < 32 → (bit (κ 20 d) (nI p) ↔ p < P ∧ μ 49 p = nI d)
def EqC (T P : Nat) (s : S4) (m : S3) : Prop := (∀ t, t < T → s.1 t = m.1 t) ∧ (∀ p, p < P → s.2.1 p = m.2.1 p ∧ s.2.2.1 p = m.2.2 p ∧ (m.2.1 p = -9 → m.2.2 p = -9)) ∧ ∀ p, p < 32 → (bit s.2.2.2 (nI p) ↔ p < P ∧ m.2.1 p = -9)
def NoK (κ : ST) (T : Nat) (s : S4) : Prop := ∀ t, t < T → ¬ tkC κ s t
theorem nle_of_pos {x y : Int32} (h : (0 : Int32) < x) (hy : y = 0) : ¬ x ≤ y := by
  rw [hy]
  exact Int32.not_le.mpr h
theorem gw_wet {κ μ : ST} {T P C d : Nat} {w v : Nat → Int32} (hI : DI κ μ T P C) (hd : d < 30) (hw : ∀ t, t < T → w t = v t) (hwet : wetC κ d) : ∀ t, t < T → gwF T (κ 31 d) (κ 32 d) w t = gwM T (μ 52 d) (μ 50 d) (woM μ d) v t := by
  obtain ⟨hT6, -, -, -, hD⟩ := hI
  obtain ⟨h1, h2, -, h3, h4, -, -⟩ := hD d hd
  have hf : μ 52 d = 0 := Decidable.of_not_not (fun h => hwet.1 (h1.mpr h))
  have hp : ∀ t, t < T → pre T (fun t => w t + μ 50 d) w t = pre T (fun t => v t + μ 50 d) v t := fun t ht => by rw [pre_lt ht, pre_lt ht, hw t ht]
  intro t ht
  unfold gwF gwM
  rw [if_neg (nn hf), h2, h3]
  rcases h4 with h4 | ⟨x, hx, h4⟩
  · rw [h4, if_pos rfl, if_neg (fun h => h.1 (by decide))]
    exact hp t ht
  · rw [h4, if_pos (isT_nI hx (by omega)), if_neg (nI_ne9 (by omega)), nI_clamp (by omega)]
    exact upd_eq (by rw [hp x hx]) (hp t ht)
theorem gw_dry {κ μ : ST} {T P C d : Nat} {v : Nat → Int32} (hI : DI κ μ T P C) (hd : d < 30) (hwet : ¬ wetC κ d) : ∀ t, t < T → v t = gwM T (μ 52 d) (μ 50 d) (woM μ d) v t := by
  obtain ⟨hT6, -, -, -, hD⟩ := hI
  obtain ⟨h1, h2, h5, h3, h4, -, -⟩ := hD d hd
  intro t ht
  unfold gwM
  by_cases hf : μ 52 d = 0
  · rw [if_neg (nn hf)]
    have hb : ¬ bit (κ 30 4) (nI d) := fun h => (h1.mp h) hf
    have h9 : woM μ d = -9 := Decidable.of_not_not (fun h => hwet ⟨hb, Or.inr (by rw [h3]; exact h)⟩)
    have h0 : μ 50 d = 0 := by
      have a1 : ¬ (0 : Int32) < κ 31 d := fun h => hwet ⟨hb, Or.inl h⟩
      rw [← h2]
      exact Int32.le_antisymm (Int32.not_lt.mp a1) (Int32.not_lt.mp h5)
    rw [if_pos h9, pre_lt ht, h0, Int32.add_zero]
  · rw [if_pos hf]
theorem cr_in {μ : ST} {T d : Nat} {w : Nat → Int32} (hT6 : T ≤ 6) (hpos : ∀ t, t < T → (0 : Int32) < wantM (μ 44 t) (μ 46 t)) : ∀ C : Nat, (∀ c, c < C → ∃ t : Nat, t < T ∧ μ 59 c = nI t) → ∀ t, t < T → (((∃ c, c < C ∧ μ 58 c = nI d ∧ μ 59 c = nI t) ∧ wantM (μ 44 t) (μ 46 t) ≤ w t → crM μ d C w t = 0) ∧ (¬ ((∃ c, c < C ∧ μ 58 c = nI d ∧ μ 59 c = nI t) ∧ wantM (μ 44 t) (μ 46 t) ≤ w t) → crM μ d C w t = w t)) := by
  intro C
  induction C with
  | zero => intro _ t ht; exact ⟨fun h => by obtain ⟨⟨c, hc, -⟩, -⟩ := h; exact absurd hc (Nat.not_lt_zero _), fun _ => rfl⟩
  | succ C ih =>
    intro hc t ht
    have ih2 := ih (fun c h => hc c (by omega)) t ht
    obtain ⟨x, hx, ex⟩ := hc C (by omega)
    have ih3 := ih (fun c h => hc c (by omega)) x hx
    rw [crM_s, ex, nI_clamp (by omega)]
    by_cases e : t = x
    · subst e
      by_cases hd : μ 58 C = nI d
      · by_cases hr : wantM (μ 44 t) (μ 46 t) ≤ w t
        · refine ⟨fun _ => ?_, fun h => absurd ⟨⟨C, by omega, hd, ex⟩, hr⟩ h⟩
          by_cases h1 : ∃ c, c < C ∧ μ 58 c = nI d ∧ μ 59 c = nI t
          · have e0 := ih2.1 ⟨h1, hr⟩
            rw [if_neg (fun h => nle_of_pos (hpos t ht) e0 h.2), e0]
          · have e0 := ih2.2 (fun h => h1 h.1)
            rw [if_pos ⟨hd, by rw [e0]; exact hr⟩]
            exact if_pos rfl
        · refine ⟨fun h => absurd h.2 hr, fun _ => ?_⟩
          have e0 := ih2.2 (fun h => hr h.2)
          rw [if_neg (fun h => hr (by rw [← e0]; exact h.2)), e0]
      · rw [if_neg (fun h => hd h.1)]
        refine ⟨fun h => ih2.1 ⟨?_, h.2⟩, fun h => ih2.2 (fun q => h ⟨?_, q.2⟩)⟩
        · obtain ⟨⟨c, h1, h2, h3⟩, -⟩ := h
          rcases Nat.lt_or_ge c C with h4 | h4
          · exact ⟨c, h4, h2, h3⟩
          · rw [show c = C by omega] at h2; exact absurd h2 hd
        · obtain ⟨c, h1, h2⟩ := q.1
          exact ⟨c, by omega, h2⟩
    · have hv : (if μ 58 C = nI d ∧ wantM (μ 44 x) (μ 46 x) ≤ crM μ d C w x then upd (crM μ d C w) x 0 else crM μ d C w) t = crM μ d C w t := by
        split
        · exact if_neg e
        · rfl
      rw [hv]
      refine ⟨fun h => ih2.1 ⟨?_, h.2⟩, fun h => ih2.2 (fun q => h ⟨?_, q.2⟩)⟩
      · obtain ⟨⟨c, h1, h2, h3⟩, -⟩ := h
        rcases Nat.lt_or_ge c C with h4 | h4
        · exact ⟨c, h4, h2, h3⟩
        · rw [show c = C by omega, ex] at h3
          exact absurd ((nI_eq (by omega) (by omega)).mp h3) (fun h => e h.symm)
      · obtain ⟨c, h1, h2⟩ := q.1
        exact ⟨c, by omega, h2⟩
theorem day2_at {κ : ST} {T d t : Nat} {s : S4} (hT6 : T ≤ 6) (ht : t < T) : (day2 κ T d s).1 t = crG (κ 16) (κ 33 d) s.1 t := by
  unfold day2
  by_cases h : κ 33 d = 0
  · rw [if_neg (nn h)]
    unfold crG
    rw [if_neg (fun q => by rw [h] at q; exact bit_0 (by omega) q.1)]
  · rw [if_pos h]
    exact pre_lt ht
theorem day2_rest {κ : ST} {T d : Nat} {s : S4} : (day2 κ T d s).2 = s.2 := by
  unfold day2
  split <;> rfl
theorem cr_eq {κ μ : ST} {T P C d : Nat} {s : S4} {m : S3} (hI : DI κ μ T P C) (hd : d < 30) (hE : EqC T P s m) : EqC T P (day2 κ T d s) (md2 μ C d m) := by
  obtain ⟨hT6, -, hC, hTr, hD⟩ := hI
  obtain ⟨-, -, -, -, -, h6, -⟩ := hD d hd
  refine ⟨fun t ht => ?_, ?_⟩
  · rw [day2_at hT6 ht]
    show crG (κ 16) (κ 33 d) s.1 t = crM μ d C m.1 t
    have h := cr_in (w := m.1) (d := d) hT6 (fun t ht => by rw [← (hTr t ht).1]; exact (hTr t ht).2.1) C hC t ht
    unfold crG
    rw [(hTr t ht).1, hE.1 t ht]
    by_cases hb : bit (κ 33 d) (nI t) ∧ wantM (μ 44 t) (μ 46 t) ≤ m.1 t
    · rw [if_pos hb, h.1 ⟨(h6 t ht).mp hb.1, hb.2⟩]
    · rw [if_neg hb, h.2 (fun q => hb ⟨(h6 t ht).mpr q.1, q.2⟩)]
  · rw [day2_rest]
    exact hE.2
theorem fst_N {q : Nat → Prop} [DecidablePred q] : ∀ f g i : Nat, (∃ j, i ≤ j ∧ j < i + f ∧ q j) → f ≤ g + 1 → fst? q f i = some (fstN q g i) := by
  intro f
  induction f with
  | zero => intro g i h _; obtain ⟨j, h1, h2, -⟩ := h; omega
  | succ f ih =>
    intro g i h hg
    show (if q i then some i else fst? q f (i + 1)) = _
    by_cases hq : q i
    · rw [if_pos hq]
      cases g with
      | zero => rfl
      | succ g => show _ = some (if q i then i else fstN q g (i + 1)); rw [if_pos hq]
    · rw [if_neg hq]
      obtain ⟨j, h1, h2, h3⟩ := h
      have hj : i + 1 ≤ j := by
        rcases Nat.lt_or_ge i j with h4 | h4
        · exact h4
        · rw [show j = i by omega] at h3; exact absurd h3 hq
      cases g with
      | zero => omega
      | succ g =>
        show _ = some (if q i then i else fstN q g (i + 1))
        rw [if_neg hq]
        exact ih g (i + 1) ⟨j, hj, by omega, h3⟩ (by omega)
theorem fst_none {q : Nat → Prop} [DecidablePred q] : ∀ f i : Nat, (∀ j, i ≤ j → j < i + f → ¬ q j) → fst? q f i = none := by
  intro f
  induction f with
  | zero => intro i _; rfl
  | succ f ih =>
    intro i h
    show (if q i then some i else fst? q f (i + 1)) = none
    rw [if_neg (h i (Nat.le_refl _) (by omega))]
    exact ih (i + 1) (fun j h1 h2 => h j (by omega) (by omega))
theorem fstN_q {q : Nat → Prop} [DecidablePred q] {f g i : Nat} (h : ∃ j, i ≤ j ∧ j < i + f ∧ q j) (hg : f ≤ g + 1) : q (fstN q g i) ∧ fstN q g i < i + f := by
  have e := fst_N f g i h hg
  have := fst?_lt f i _ e
  exact ⟨this.2.2, this.2.1⟩
/-! both sides' days: keys, terms, a day -/
theorem uk_q {κ μ : ST} {T P C n : Nat} {s : S4} {m : S3} (hI : DI κ μ T P C) (hn : n < T) (hE : EqC T P s m) {p : Nat} (hp : p < 32) : bit (κ 17 n &&& s.2.2.2) (nI p) ↔ p < P ∧ ukQ μ n m.2.1 p := by
  rw [bit_and hp, (hI.2.2.2.1 n hn).2.2.2 p hp, hE.2.2 p hp]
  constructor
  · rintro ⟨⟨a, b⟩, c, d⟩; exact ⟨a, d, bit_1.mpr b⟩
  · rintro ⟨a, b, c⟩; exact ⟨⟨a, bit_1.mp c⟩, a, b⟩
theorem uk_none {κ μ : ST} {T P C n : Nat} {s : S4} {m : S3} {x : Int32} (hI : DI κ μ T P C) (hn : n < T) (hE : EqC T P s m) (h : κ 17 n &&& s.2.2.2 = 0) : ukM μ P n x m = m := by
  unfold ukM
  rw [show fst? (ukQ μ n m.2.1) P 0 = none from fst_none P 0 (fun p h1 h2 hq => by
    have h3 : p < P := by omega
    have hP6 := hI.2.1
    have := (uk_q hI hn hE (p := p) (by omega)).mpr ⟨h3, hq⟩
    rw [h] at this
    exact bit_0 (by omega) this)]
theorem uk_some {κ μ : ST} {T P C n : Nat} {s : S4} {m : S3} {x : Int32} (hI : DI κ μ T P C) (hn : n < T) (hE : EqC T P s m) (h : ¬ κ 17 n &&& s.2.2.2 = 0) : lo6 (κ 17 n &&& s.2.2.2) < P ∧ ukQ μ n m.2.1 (lo6 (κ 17 n &&& s.2.2.2)) ∧ ukM μ P n x m = (upd m.1 n 0, upd m.2.1 (lo6 (κ 17 n &&& s.2.2.2)) x, upd m.2.2 (lo6 (κ 17 n &&& s.2.2.2)) (nI n)) := by
  have hP6 := hI.2.1
  obtain ⟨j, hj, hb⟩ := bit_ne0.mp h
  have hjP := (uk_q hI hn hE hj).mp hb
  have e1 : fst? (fun j => bit (κ 17 n &&& s.2.2.2) (nI j)) P 0 = some (lo6 (κ 17 n &&& s.2.2.2)) := fst_N P 5 0 ⟨j, Nat.zero_le _, by omega, hb⟩ (by omega)
  have e2 : fst? (ukQ μ n m.2.1) P 0 = some (lo6 (κ 17 n &&& s.2.2.2)) := by
    rw [← e1]
    exact fst?_congr P 0 (fun p _ h2 => ⟨fun q => (uk_q hI hn hE (p := p) (by omega)).mpr ⟨by omega, q⟩, fun q => ((uk_q hI hn hE (p := p) (by omega)).mp q).2⟩)
  have h3 := fst?_lt P 0 _ e2
  refine ⟨by omega, h3.2.2, ?_⟩
  unfold ukM
  rw [e2]
theorem in_off {x : Int32} {p q : Nat} (hp : p < 32) (hq : q < 32) : bit (x &&& (own1 (nI p) ^^^ -1)) (nI q) ↔ bit x (nI q) ∧ ¬ q = p := by
  rw [bit_and hq, bit_not hq, bit_own hp hq]
theorem tk_step {κ μ : ST} {T P C n d : Nat} {s : S4} {m : S3} (hI : DI κ μ T P C) (hd : d < 30) (hn : n < T) (hE : EqC T P s m) : EqC T P (tkStep κ (nI d) n s) (if μ 47 n = 0 ∧ wantM (μ 44 n) (μ 46 n) ≤ m.1 n then ukM μ P n (nI d) m else m) := by
  have hP6 := hI.2.1
  obtain ⟨t1, t2, t3, -⟩ := hI.2.2.2.1 n hn
  unfold tkStep
  by_cases hc : tkC κ s n
  · obtain ⟨c1, c2, c3⟩ := hc
    obtain ⟨u1, u2, u3⟩ := uk_some (x := nI d) hI hn hE c1
    rw [if_pos ⟨c1, c2, c3⟩, if_pos ⟨Decidable.of_not_not (fun h => c3 (t3.mpr h)), by rw [← t1, ← hE.1 n hn]; exact c2⟩, u3]
    generalize lo6 (κ 17 n &&& s.2.2.2) = p at u1 u2
    refine ⟨fun t ht => upd_eq rfl (hE.1 t ht), fun q hq => ?_, fun q hq => ?_⟩
    · refine ⟨upd_eq rfl (hE.2.1 q hq).1, upd_eq rfl (hE.2.1 q hq).2.1, ?_⟩
      show upd m.2.1 p (nI d) q = -9 → upd m.2.2 p (nI n) q = -9
      unfold upd
      by_cases e : q = p
      · rw [if_pos e]; exact fun h => absurd h (nI_ne9 (by omega))
      · rw [if_neg e, if_neg e]; exact (hE.2.1 q hq).2.2
    · show bit (s.2.2.2 &&& (own1 (nI p) ^^^ -1)) (nI q) ↔ q < P ∧ upd m.2.1 p (nI d) q = -9
      rw [in_off (by omega) hq, hE.2.2 q hq]
      unfold upd
      by_cases e : q = p
      · rw [if_pos e]
        exact ⟨fun h => absurd e h.2, fun h => absurd h.2 (nI_ne9 (by omega))⟩
      · rw [if_neg e]
        exact ⟨fun h => h.1, fun h => ⟨h, e⟩⟩
  · rw [if_neg hc]
    split
    next h =>
      have hz : κ 17 n &&& s.2.2.2 = 0 := Decidable.of_not_not (fun h2 => hc ⟨h2, by rw [t1, hE.1 n hn]; exact h.2, fun h3 => (t3.mp h3) h.1⟩)
      rw [uk_none hI hn hE hz]
      exact hE
    next h => exact hE
theorem tk_eq {κ μ : ST} {T P C d : Nat} {s : S4} {m : S3} (hI : DI κ μ T P C) (hd : d < 30) (hE : EqC T P s m) : ∀ n, n ≤ T → EqC T P (tkN κ (nI d) n s) (kyM μ P d n m) := by
  intro n
  induction n with
  | zero => intro _; exact hE
  | succ n ih =>
    intro hn
    rw [kyM_s]
    exact tk_step hI hd (by omega) (ih (by omega))
theorem ky_still {κ μ : ST} {T P C d : Nat} {s : S4} {m : S3} (hI : DI κ μ T P C) (hE : EqC T P s m) (hN : NoK κ T s) : ∀ n, n ≤ T → kyM μ P d n m = m := by
  intro n
  induction n with
  | zero => intro _; rfl
  | succ n ih =>
    intro hn
    rw [kyM_s, ih (by omega)]
    split
    next h =>
      obtain ⟨t1, t2, t3, -⟩ := hI.2.2.2.1 n (by omega)
      exact uk_none hI (by omega) hE (Decidable.of_not_not (fun h2 => hN n (by omega) ⟨h2, by rw [t1, hE.1 n (by omega)]; exact h.2, fun h3 => (t3.mp h3) h.1⟩))
    next h => rfl
theorem and_sub {a x y : Int32} (h : ∀ i, i < 32 → bit y (nI i) → bit x (nI i)) (hz : ¬ a &&& y = 0) : ¬ a &&& x = 0 := by
  obtain ⟨i, hi, hb⟩ := bit_ne0.mp hz
  have := (bit_and hi).mp hb
  exact bit_ne0.mpr ⟨i, hi, (bit_and hi).mpr ⟨this.1, h i hi this.2⟩⟩
theorem noK_sub {κ : ST} {t : Nat} {s s2 : S4} (h : ¬ tkC κ s t) (hw : s2.1 t = s.1 t) (hi : ∀ i, i < 32 → bit s2.2.2.2 (nI i) → bit s.2.2.2 (nI i)) : ¬ tkC κ s2 t := fun q => h ⟨and_sub hi q.1, by rw [← hw]; exact q.2.1, q.2.2⟩
theorem tk_in {κ : ST} {d : Int32} {n : Nat} {s : S4} : ∀ i, i < 32 → bit (tkStep κ d n s).2.2.2 (nI i) → bit s.2.2.2 (nI i) := by
  intro i hi
  unfold tkStep
  split
  · intro h
    have h2 : bit (s.2.2.2 &&& (own1 (nI (lo6 (κ 17 n &&& s.2.2.2))) ^^^ -1)) (nI i) := h
    exact ((bit_and hi).mp h2).1
  · exact fun h => h
theorem tk_noK {κ : ST} {d : Int32} {T : Nat} {s : S4} (hpos : ∀ t, t < T → (0 : Int32) < κ 16 t) : ∀ n, n ≤ T → ∀ t, t < n → ¬ tkC κ (tkN κ d n s) t := by
  intro n
  induction n with
  | zero => intro _ t ht; exact absurd ht (Nat.not_lt_zero _)
  | succ n ih =>
    intro hn t ht
    show ¬ tkC κ (tkStep κ d n (tkN κ d n s)) t
    by_cases hc : tkC κ (tkN κ d n s) n
    · by_cases e : t = n
      · subst e
        intro q
        have hz : (tkStep κ d t (tkN κ d t s)).1 t = 0 := by
          unfold tkStep
          rw [if_pos hc]
          exact if_pos rfl
        exact nle_of_pos (hpos t (by omega)) hz q.2.1
      · refine noK_sub (ih (by omega) t (by omega)) ?_ tk_in
        unfold tkStep
        rw [if_pos hc]
        exact if_neg e
    · have e : tkStep κ d n (tkN κ d n s) = tkN κ d n s := by unfold tkStep; rw [if_neg hc]
      rw [e]
      by_cases e2 : t = n
      · rw [e2]; exact hc
      · exact ih (by omega) t (by omega)
theorem et_at {set d : Int32} {s : S4} : ∀ n, n ≤ 32 → (etN set d n s).1 = s.1 ∧ (∀ p, p < 32 → (etN set d n s).2.1 p = (if p < n ∧ bit set (nI p) then d else s.2.1 p) ∧ (etN set d n s).2.2.1 p = (if p < n ∧ bit set (nI p) then -9 else s.2.2.1 p) ∧ (bit (etN set d n s).2.2.2 (nI p) ↔ bit s.2.2.2 (nI p) ∧ ¬ (p < n ∧ bit set (nI p)))) := by
  intro n
  induction n with
  | zero => intro _; exact ⟨rfl, fun p hp => ⟨(if_neg (fun h => absurd h.1 (Nat.not_lt_zero _))).symm, (if_neg (fun h => absurd h.1 (Nat.not_lt_zero _))).symm, ⟨fun h => ⟨h, fun q => absurd q.1 (Nat.not_lt_zero _)⟩, fun h => h.1⟩⟩⟩
  | succ n ih =>
    intro hn
    obtain ⟨i1, i2⟩ := ih (by omega)
    show (etStep set d n (etN set d n s)).1 = s.1 ∧ (∀ p, p < 32 → (etStep set d n (etN set d n s)).2.1 p = (if p < n + 1 ∧ bit set (nI p) then d else s.2.1 p) ∧ (etStep set d n (etN set d n s)).2.2.1 p = (if p < n + 1 ∧ bit set (nI p) then -9 else s.2.2.1 p) ∧ (bit (etStep set d n (etN set d n s)).2.2.2 (nI p) ↔ bit s.2.2.2 (nI p) ∧ ¬ (p < n + 1 ∧ bit set (nI p))))
    unfold etStep
    by_cases hb : bit set (nI n)
    · rw [if_pos hb]
      refine ⟨i1, fun p hp => ?_⟩
      obtain ⟨j1, j2, j3⟩ := i2 p hp
      by_cases e : p = n
      · subst e
        rw [if_pos ⟨Nat.lt_succ_self _, hb⟩, if_pos ⟨Nat.lt_succ_self _, hb⟩]
        refine ⟨if_pos rfl, if_pos rfl, ?_⟩
        show bit ((etN set d p s).2.2.2 &&& (own1 (nI p) ^^^ -1)) (nI p) ↔ _
        rw [in_off hp hp]
        exact ⟨fun h => absurd rfl h.2, fun h => absurd ⟨Nat.lt_succ_self _, hb⟩ h.2⟩
      · have ei : (p < n + 1 ∧ bit set (nI p)) ↔ (p < n ∧ bit set (nI p)) := ⟨fun h => ⟨by omega, h.2⟩, fun h => ⟨by omega, h.2⟩⟩
        have e1 : (lout (etN set d n s) n d (-9)).2.1 p = (etN set d n s).2.1 p := if_neg e
        have e2 : (lout (etN set d n s) n d (-9)).2.2.1 p = (etN set d n s).2.2.1 p := if_neg e
        rw [e1, e2, j1, j2]
        refine ⟨by simp only [ei], by simp only [ei], ?_⟩
        show bit ((etN set d n s).2.2.2 &&& (own1 (nI n) ^^^ -1)) (nI p) ↔ _
        rw [in_off (by omega) hp, j3, ei]
        exact ⟨fun h => h.1, fun h => ⟨h, e⟩⟩
    · rw [if_neg hb]
      refine ⟨i1, fun p hp => ?_⟩
      obtain ⟨j1, j2, j3⟩ := i2 p hp
      have ei : (p < n + 1 ∧ bit set (nI p)) ↔ (p < n ∧ bit set (nI p)) := ⟨fun h => ⟨by
        rcases Nat.lt_or_ge p n with h2 | h2
        · exact h2
        · rw [show p = n by omega] at h; exact absurd h.2 hb, h.2⟩, fun h => ⟨by omega, h.2⟩⟩
      rw [j1, j2, j3]
      exact ⟨by simp only [ei], by simp only [ei], by rw [ei]⟩
theorem d4_eq {κ μ : ST} {T P C d : Nat} {s : S4} {m : S3} (hI : DI κ μ T P C) (hd : d < 30) (hE : EqC T P s m) : EqC T P (day4 κ P d s) (md4 μ P d m) ∧ (day4 κ P d s).1 = s.1 ∧ ∀ i, i < 32 → bit (day4 κ P d s).2.2.2 (nI i) → bit s.2.2.2 (nI i) := by
  have hP6 := hI.2.1
  obtain ⟨-, -, -, -, -, -, h7⟩ := hI.2.2.2.2 d hd
  have hx : ∀ p, p < 32 → (bit (κ 20 d &&& s.2.2.2) (nI p) ↔ p < P ∧ m.2.1 p = -9 ∧ μ 49 p = nI d) := fun p hp => by
    rw [bit_and hp, h7 p hp, hE.2.2 p hp]
    exact ⟨fun h => ⟨h.1.1, h.2.2, h.1.2⟩, fun h => ⟨⟨h.1, h.2.2⟩, h.1, h.2.1⟩⟩
  have hm : ∀ p, p < P → (md4 μ P d m).2.1 p = if m.2.1 p = -9 ∧ μ 49 p = nI d then nI d else m.2.1 p := fun p hp => pre_lt hp
  unfold day4
  by_cases hz : κ 20 d &&& s.2.2.2 = 0
  · rw [if_neg (nn hz)]
    refine ⟨⟨hE.1, fun p hp => ?_, fun p hp => ?_⟩, rfl, fun _ _ h => h⟩
    · have hn : ¬ (m.2.1 p = -9 ∧ μ 49 p = nI d) := fun h => by
        have := (hx p (by omega)).mpr ⟨hp, h⟩
        rw [hz] at this
        exact bit_0 (by omega) this
      rw [hm p hp, if_neg hn]
      exact hE.2.1 p hp
    · rw [hE.2.2 p hp]
      refine and_congr_right fun hpP => ?_
      have hn : ¬ (m.2.1 p = -9 ∧ μ 49 p = nI d) := fun h => by
        have := (hx p hp).mpr ⟨hpP, h⟩
        rw [hz] at this
        exact bit_0 hp this
      rw [hm p hpP, if_neg hn]
  · rw [if_pos hz]
    obtain ⟨e1, e2⟩ := et_at (set := κ 20 d &&& s.2.2.2) (d := nI d) (s := s) P (by omega)
    refine ⟨⟨fun t ht => by rw [e1]; exact hE.1 t ht, fun p hp => ?_, fun p hp => ?_⟩, e1, fun i hi h => ((e2 i hi).2.2.mp h).1⟩
    · obtain ⟨f1, f2, -⟩ := e2 p (by omega)
      have hh := hx p (by omega)
      rw [f1, f2, hm p hp]
      by_cases hc : m.2.1 p = -9 ∧ μ 49 p = nI d
      · have g1 : p < P ∧ bit (κ 20 d &&& s.2.2.2) (nI p) := ⟨hp, hh.mpr ⟨hp, hc⟩⟩
        rw [if_pos g1, if_pos g1, if_pos hc]
        exact ⟨rfl, ((hE.2.1 p hp).2.2 hc.1).symm, fun _ => (hE.2.1 p hp).2.2 hc.1⟩
      · have g1 : ¬ (p < P ∧ bit (κ 20 d &&& s.2.2.2) (nI p)) := fun q => hc (hh.mp q.2).2
        rw [if_neg g1, if_neg g1, if_neg hc]
        exact hE.2.1 p hp
    · obtain ⟨-, -, f3⟩ := e2 p hp
      have hh := hx p hp
      rw [f3, hE.2.2 p hp]
      constructor
      · rintro ⟨⟨a, b⟩, c⟩
        refine ⟨a, ?_⟩
        rw [hm p a, if_neg (fun q => c ⟨a, hh.mpr ⟨a, q⟩⟩)]
        exact b
      · rintro ⟨a, b⟩
        rw [hm p a] at b
        by_cases hc : m.2.1 p = -9 ∧ μ 49 p = nI d
        · rw [if_pos hc] at b; exact absurd b (nI_ne9 (by omega))
        · rw [if_neg hc] at b
          exact ⟨⟨a, b⟩, fun q => hc (hh.mp q.2).2⟩
theorem day_eq {κ μ : ST} {T P C d : Nat} {s : S4} {m : S3} (hI : DI κ μ T P C) (hd : d < 30) (hE : EqC T P s m) (hN : NoK κ T s) : EqC T P (dayC κ T P d s) (mDay μ T P C d m) ∧ NoK κ T (dayC κ T P d s) := by
  have hT6 := hI.1
  have hpos : ∀ t, t < T → (0 : Int32) < κ 16 t := fun t ht => (hI.2.2.2.1 t ht).2.1
  have hE1 : EqC T P (day1 κ T d s) (md1 μ T d m) := by
    unfold day1
    by_cases hw : wetC κ d
    · rw [if_pos hw]
      exact ⟨gw_wet hI hd hE.1 hw, hE.2⟩
    · rw [if_neg hw]
      exact ⟨fun t ht => (hE.1 t ht).trans (gw_dry hI hd hw t ht), hE.2⟩
  have hE2 := cr_eq hI hd hE1
  have key : EqC T P (day3 κ T d (day2 κ T d (day1 κ T d s))) (kyM μ P d T (md2 μ C d (md1 μ T d m))) ∧ NoK κ T (day3 κ T d (day2 κ T d (day1 κ T d s))) := by
    unfold day3
    by_cases hw : wetC κ d
    · rw [if_pos hw]
      exact ⟨tk_eq hI hd hE2 T (Nat.le_refl _), tk_noK hpos T (Nat.le_refl _)⟩
    · rw [if_neg hw]
      have hN2 : NoK κ T (day2 κ T d (day1 κ T d s)) := by
        intro t ht
        rw [show day1 κ T d s = s from if_neg hw]
        have hi : ∀ i, i < 32 → bit (day2 κ T d s).2.2.2 (nI i) → bit s.2.2.2 (nI i) := fun i _ h => by rw [day2_rest] at h; exact h
        by_cases hb : bit (κ 33 d) (nI t) ∧ κ 16 t ≤ s.1 t
        · intro q
          have hz : (day2 κ T d s).1 t = 0 := by rw [day2_at hT6 ht]; exact if_pos hb
          exact nle_of_pos (hpos t ht) hz q.2.1
        · exact noK_sub (hN t ht) (by rw [day2_at hT6 ht]; exact if_neg hb) hi
      rw [ky_still hI hE2 hN2 T (Nat.le_refl _)]
      exact ⟨hE2, hN2⟩
  obtain ⟨k1, k2, k3⟩ := d4_eq hI hd key.1
  exact ⟨k1, fun t ht => noK_sub (key.2 t ht) (by show (day4 κ P d _).1 t = _; rw [k2]) k3⟩
theorem days_eq {κ μ : ST} {T P C : Nat} {s : S4} {m : S3} (hI : DI κ μ T P C) (hE : EqC T P s m) (hN : NoK κ T s) : ∀ n, n ≤ 30 → EqC T P (daysC κ T P n s) (mDays μ T P C n m) ∧ NoK κ T (daysC κ T P n s) := by
  intro n
  induction n with
  | zero => intro _; exact ⟨hE, hN⟩
  | succ n ih => intro hn; exact day_eq hI (by omega) (ih (by omega)).1 (ih (by omega)).2
theorem s0_eq {κ μ ν : ST} {T P C : Nat} (hI : DI κ μ T P C) (hP : ν 12 1 = nI P) : EqC T P (s0C ν) mc0 ∧ NoK κ T (s0C ν) := by
  have hP6 := hI.2.1
  refine ⟨⟨fun _ _ => rfl, fun _ _ => ⟨rfl, rfl, fun _ => rfl⟩, fun p hp => ?_⟩, fun t ht q => nle_of_pos (hI.2.2.2.1 t ht).2.1 rfl q.2.1⟩
  show bit (ones (ν 12 1)) (nI p) ↔ _
  rw [hP, bit_ones hP6 hp]
  exact ⟨fun h => ⟨h, rfl⟩, fun h => h.1⟩
theorem run_full {κ μ ν : ST} {T P C N : Nat} (hI : DI κ μ T P C) (hP : ν 12 1 = nI P) (hN : N ≤ 30) : EqC T P (daysC κ T P N (s0C ν)) (mDC μ T P C N) := (days_eq hI (s0_eq hI hP).1 (s0_eq hI hP).2 N hN).1
