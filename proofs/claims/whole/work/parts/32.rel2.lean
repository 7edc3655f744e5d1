/-! both sides' days: keys, terms, a day -/
theorem uk_q {κ μ : ST} {T P C n : Nat} {s : S4} {m : S3} (hI : DI κ μ T P C) (hn : n < T) (hE : EqC T P s m) {p : Nat} (hp : p < 32) : bit (κ 17 n &&& s.2.2.2) (nI p) ↔ p < P ∧ ukQ μ n m.2.1 p := by
  rw [bit_and hp, (hI.2.2.2.1 n hn).2.2.2 p hp, hE.2.2 p hp]
  constructor
  · rintro ⟨⟨a, b⟩, c, d⟩; exact ⟨a, d, bit_1.mpr b⟩
  · rintro ⟨a, b, c⟩; exact ⟨⟨a, bit_1.mp c⟩, a, b⟩
theorem uk_none {κ μ : ST} {T P C n : Nat} {s : S4} {m : S3} {x : Int32} (hI : DI κ μ T P C) (hn : n < T) (hE : EqC T P s m) (h : κ 17 n &&& s.2.2.2 = 0) : ukM μ P n x m = m := by
  unfold ukM
  rw [show fst? (ukQ μ n m.2.1) P 0 = none from fst_none P 0 (fun p h1 h2 hq => by
    have h3 : p < P := by omega
    have hP6 := hI.2.1
    have := (uk_q hI hn hE (p := p) (by omega)).mpr ⟨h3, hq⟩
    rw [h] at this
    exact bit_0 (by omega) this)]
theorem uk_some {κ μ : ST} {T P C n : Nat} {s : S4} {m : S3} {x : Int32} (hI : DI κ μ T P C) (hn : n < T) (hE : EqC T P s m) (h : ¬ κ 17 n &&& s.2.2.2 = 0) : lo6 (κ 17 n &&& s.2.2.2) < P ∧ ukQ μ n m.2.1 (lo6 (κ 17 n &&& s.2.2.2)) ∧ ukM μ P n x m = (upd m.1 n 0, upd m.2.1 (lo6 (κ 17 n &&& s.2.2.2)) x, upd m.2.2 (lo6 (κ 17 n &&& s.2.2.2)) (nI n)) := by
  have hP6 := hI.2.1
  obtain ⟨j, hj, hb⟩ := bit_ne0.mp h
  have hjP := (uk_q hI hn hE hj).mp hb
  have e1 : fst? (fun j => bit (κ 17 n &&& s.2.2.2) (nI j)) P 0 = some (lo6 (κ 17 n &&& s.2.2.2)) := fst_N P 5 0 ⟨j, Nat.zero_le _, by omega, hb⟩ (by omega)
  have e2 : fst? (ukQ μ n m.2.1) P 0 = some (lo6 (κ 17 n &&& s.2.2.2)) := by
    rw [← e1]
    exact fst?_congr P 0 (fun p _ h2 => ⟨fun q => (uk_q hI hn hE (p := p) (by omega)).mpr ⟨by omega, q⟩, fun q => ((uk_q hI hn hE (p := p) (by omega)).mp q).2⟩)
  have h3 := fst?_lt P 0 _ e2
  refine ⟨by omega, h3.2.2, ?_⟩
  unfold ukM
  rw [e2]
theorem in_off {x : Int32} {p q : Nat} (hp : p < 32) (hq : q < 32) : bit (x &&& (own1 (nI p) ^^^ -1)) (nI q) ↔ bit x (nI q) ∧ ¬ q = p := by
  rw [bit_and hq, bit_not hq, bit_own hp hq]
theorem tk_step {κ μ : ST} {T P C n d : Nat} {s : S4} {m : S3} (hI : DI κ μ T P C) (hd : d < 30) (hn : n < T) (hE : EqC T P s m) : EqC T P (tkStep κ (nI d) n s) (if μ 47 n = 0 ∧ wantM (μ 44 n) (μ 46 n) ≤ m.1 n then ukM μ P n (nI d) m else m) := by
  have hP6 := hI.2.1
  obtain ⟨t1, t2, t3, -⟩ := hI.2.2.2.1 n hn
  unfold tkStep
  by_cases hc : tkC κ s n
  · obtain ⟨c1, c2, c3⟩ := hc
    obtain ⟨u1, u2, u3⟩ := uk_some (x := nI d) hI hn hE c1
    rw [if_pos ⟨c1, c2, c3⟩, if_pos ⟨Decidable.of_not_not (fun h => c3 (t3.mpr h)), by rw [← t1, ← hE.1 n hn]; exact c2⟩, u3]
    generalize lo6 (κ 17 n &&& s.2.2.2) = p at u1 u2
    refine ⟨fun t ht => upd_eq rfl (hE.1 t ht), fun q hq => ?_, fun q hq => ?_⟩
    · refine ⟨upd_eq rfl (hE.2.1 q hq).1, upd_eq rfl (hE.2.1 q hq).2.1, ?_⟩
      show upd m.2.1 p (nI d) q = -9 → upd m.2.2 p (nI n) q = -9
      unfold upd
      by_cases e : q = p
      · rw [if_pos e]; exact fun h => absurd h (nI_ne9 (by omega))
      · rw [if_neg e, if_neg e]; exact (hE.2.1 q hq).2.2
    · show bit (s.2.2.2 &&& (own1 (nI p) ^^^ -1)) (nI q) ↔ q < P ∧ upd m.2.1 p (nI d) q = -9
      rw [in_off (by omega) hq, hE.2.2 q hq]
      unfold upd
      by_cases e : q = p
      · rw [if_pos e]
        exact ⟨fun h => absurd e h.2, fun h => absurd h.2 (nI_ne9 (by omega))⟩
      · rw [if_neg e]
        exact ⟨fun h => h.1, fun h => ⟨h, e⟩⟩
  · rw [if_neg hc]
    split
    next h =>
      have hz : κ 17 n &&& s.2.2.2 = 0 := Decidable.of_not_not (fun h2 => hc ⟨h2, by rw [t1, hE.1 n hn]; exact h.2, fun h3 => (t3.mp h3) h.1⟩)
      rw [uk_none hI hn hE hz]
      exact hE
    next h => exact hE
theorem tk_eq {κ μ : ST} {T P C d : Nat} {s : S4} {m : S3} (hI : DI κ μ T P C) (hd : d < 30) (hE : EqC T P s m) : ∀ n, n ≤ T → EqC T P (tkN κ (nI d) n s) (kyM μ P d n m) := by
  intro n
  induction n with
  | zero => intro _; exact hE
  | succ n ih =>
    intro hn
    rw [kyM_s]
    exact tk_step hI hd (by omega) (ih (by omega))
theorem ky_still {κ μ : ST} {T P C d : Nat} {s : S4} {m : S3} (hI : DI κ μ T P C) (hE : EqC T P s m) (hN : NoK κ T s) : ∀ n, n ≤ T → kyM μ P d n m = m := by
  intro n
  induction n with
  | zero => intro _; rfl
  | succ n ih =>
    intro hn
    rw [kyM_s, ih (by omega)]
    split
    next h =>
      obtain ⟨t1, t2, t3, -⟩ := hI.2.2.2.1 n (by omega)
      exact uk_none hI (by omega) hE (Decidable.of_not_not (fun h2 => hN n (by omega) ⟨h2, by rw [t1, hE.1 n (by omega)]; exact h.2, fun h3 => (t3.mp h3) h.1⟩))
    next h => rfl
theorem and_sub {a x y : Int32} (h : ∀ i, i < 32 → bit y (nI i) → bit x (nI i)) (hz : ¬ a &&& y = 0) : ¬ a &&& x = 0 := by
  obtain ⟨i, hi, hb⟩ := bit_ne0.mp hz
  have := (bit_and hi).mp hb
  exact bit_ne0.mpr ⟨i, hi, (bit_and hi).mpr ⟨this.1, h i hi this.2⟩⟩
theorem noK_sub {κ : ST} {t : Nat} {s s2 : S4} (h : ¬ tkC κ s t) (hw : s2.1 t = s.1 t) (hi : ∀ i, i < 32 → bit s2.2.2.2 (nI i) → bit s.2.2.2 (nI i)) : ¬ tkC κ s2 t := fun q => h ⟨and_sub hi q.1, by rw [← hw]; exact q.2.1, q.2.2⟩
theorem tk_in {κ : ST} {d : Int32} {n : Nat} {s : S4} : ∀ i, i < 32 → bit (tkStep κ d n s).2.2.2 (nI i) → bit s.2.2.2 (nI i) := by
  intro i hi
  unfold tkStep
  split
  · intro h
    have h2 : bit (s.2.2.2 &&& (own1 (nI (lo6 (κ 17 n &&& s.2.2.2))) ^^^ -1)) (nI i) := h
    exact ((bit_and hi).mp h2).1
  · exact fun h => h
theorem tk_noK {κ : ST} {d : Int32} {T : Nat} {s : S4} (hpos : ∀ t, t < T → (0 : Int32) < κ 16 t) : ∀ n, n ≤ T → ∀ t, t < n → ¬ tkC κ (tkN κ d n s) t := by
  intro n
  induction n with
  | zero => intro _ t ht; exact absurd ht (Nat.not_lt_zero _)
  | succ n ih =>
    intro hn t ht
    show ¬ tkC κ (tkStep κ d n (tkN κ d n s)) t
    by_cases hc : tkC κ (tkN κ d n s) n
    · by_cases e : t = n
      · subst e
        intro q
        have hz : (tkStep κ d t (tkN κ d t s)).1 t = 0 := by
          unfold tkStep
          rw [if_pos hc]
          exact if_pos rfl
        exact nle_of_pos (hpos t (by omega)) hz q.2.1
      · refine noK_sub (ih (by omega) t (by omega)) ?_ tk_in
        unfold tkStep
        rw [if_pos hc]
        exact if_neg e
    · have e : tkStep κ d n (tkN κ d n s) = tkN κ d n s := by unfold tkStep; rw [if_neg hc]
      rw [e]
      by_cases e2 : t = n
      · rw [e2]; exact hc
      · exact ih (by omega) t (by omega)
theorem et_at {set d : Int32} {s : S4} : ∀ n, n ≤ 32 → (etN set d n s).1 = s.1 ∧ (∀ p, p < 32 → (etN set d n s).2.1 p = (if p < n ∧ bit set (nI p) then d else s.2.1 p) ∧ (etN set d n s).2.2.1 p = (if p < n ∧ bit set (nI p) then -9 else s.2.2.1 p) ∧ (bit (etN set d n s).2.2.2 (nI p) ↔ bit s.2.2.2 (nI p) ∧ ¬ (p < n ∧ bit set (nI p)))) := by
  intro n
  induction n with
  | zero => intro _; exact ⟨rfl, fun p hp => ⟨(if_neg (fun h => absurd h.1 (Nat.not_lt_zero _))).symm, (if_neg (fun h => absurd h.1 (Nat.not_lt_zero _))).symm, ⟨fun h => ⟨h, fun q => absurd q.1 (Nat.not_lt_zero _)⟩, fun h => h.1⟩⟩⟩
  | succ n ih =>
    intro hn
    obtain ⟨i1, i2⟩ := ih (by omega)
    show (etStep set d n (etN set d n s)).1 = s.1 ∧ (∀ p, p < 32 → (etStep set d n (etN set d n s)).2.1 p = (if p < n + 1 ∧ bit set (nI p) then d else s.2.1 p) ∧ (etStep set d n (etN set d n s)).2.2.1 p = (if p < n + 1 ∧ bit set (nI p) then -9 else s.2.2.1 p) ∧ (bit (etStep set d n (etN set d n s)).2.2.2 (nI p) ↔ bit s.2.2.2 (nI p) ∧ ¬ (p < n + 1 ∧ bit set (nI p))))
    unfold etStep
    by_cases hb : bit set (nI n)
    · rw [if_pos hb]
      refine ⟨i1, fun p hp => ?_⟩
      obtain ⟨j1, j2, j3⟩ := i2 p hp
      by_cases e : p = n
      · subst e
        rw [if_pos ⟨Nat.lt_succ_self _, hb⟩, if_pos ⟨Nat.lt_succ_self _, hb⟩]
        refine ⟨if_pos rfl, if_pos rfl, ?_⟩
        show bit ((etN set d p s).2.2.2 &&& (own1 (nI p) ^^^ -1)) (nI p) ↔ _
        rw [in_off hp hp]
        exact ⟨fun h => absurd rfl h.2, fun h => absurd ⟨Nat.lt_succ_self _, hb⟩ h.2⟩
      · have ei : (p < n + 1 ∧ bit set (nI p)) ↔ (p < n ∧ bit set (nI p)) := ⟨fun h => ⟨by omega, h.2⟩, fun h => ⟨by omega, h.2⟩⟩
        have e1 : (lout (etN set d n s) n d (-9)).2.1 p = (etN set d n s).2.1 p := if_neg e
        have e2 : (lout (etN set d n s) n d (-9)).2.2.1 p = (etN set d n s).2.2.1 p := if_neg e
        rw [e1, e2, j1, j2]
        refine ⟨by simp only [ei], by simp only [ei], ?_⟩
        show bit ((etN set d n s).2.2.2 &&& (own1 (nI n) ^^^ -1)) (nI p) ↔ _
        rw [in_off (by omega) hp, j3, ei]
        exact ⟨fun h => h.1, fun h => ⟨h, e⟩⟩
    · rw [if_neg hb]
      refine ⟨i1, fun p hp => ?_⟩
      obtain ⟨j1, j2, j3⟩ := i2 p hp
      have ei : (p < n + 1 ∧ bit set (nI p)) ↔ (p < n ∧ bit set (nI p)) := ⟨fun h => ⟨by
        rcases Nat.lt_or_ge p n with h2 | h2
        · exact h2
        · rw [show p = n by omega] at h; exact absurd h.2 hb, h.2⟩, fun h => ⟨by omega, h.2⟩⟩
      rw [j1, j2, j3]
      exact ⟨by simp only [ei], by simp only [ei], by rw [ei]⟩
theorem d4_eq {κ μ : ST} {T P C d : Nat} {s : S4} {m : S3} (hI : DI κ μ T P C) (hd : d < 30) (hE : EqC T P s m) : EqC T P (day4 κ P d s) (md4 μ P d m) ∧ (day4 κ P d s).1 = s.1 ∧ ∀ i, i < 32 → bit (day4 κ P d s).2.2.2 (nI i) → bit s.2.2.2 (nI i) := by
  have hP6 := hI.2.1
  obtain ⟨-, -, -, -, -, -, h7⟩ := hI.2.2.2.2 d hd
  have hx : ∀ p, p < 32 → (bit (κ 20 d &&& s.2.2.2) (nI p) ↔ p < P ∧ m.2.1 p = -9 ∧ μ 49 p = nI d) := fun p hp => by
    rw [bit_and hp, h7 p hp, hE.2.2 p hp]
    exact ⟨fun h => ⟨h.1.1, h.2.2, h.1.2⟩, fun h => ⟨⟨h.1, h.2.2⟩, h.1, h.2.1⟩⟩
  have hm : ∀ p, p < P → (md4 μ P d m).2.1 p = if m.2.1 p = -9 ∧ μ 49 p = nI d then nI d else m.2.1 p := fun p hp => pre_lt hp
  unfold day4
  by_cases hz : κ 20 d &&& s.2.2.2 = 0
  · rw [if_neg (nn hz)]
    refine ⟨⟨hE.1, fun p hp => ?_, fun p hp => ?_⟩, rfl, fun _ _ h => h⟩
    · have hn : ¬ (m.2.1 p = -9 ∧ μ 49 p = nI d) := fun h => by
        have := (hx p (by omega)).mpr ⟨hp, h⟩
        rw [hz] at this
        exact bit_0 (by omega) this
      rw [hm p hp, if_neg hn]
      exact hE.2.1 p hp
    · rw [hE.2.2 p hp]
      refine and_congr_right fun hpP => ?_
      have hn : ¬ (m.2.1 p = -9 ∧ μ 49 p = nI d) := fun h => by
        have := (hx p hp).mpr ⟨hpP, h⟩
        rw [hz] at this
        exact bit_0 hp this
      rw [hm p hpP, if_neg hn]
  · rw [if_pos hz]
    obtain ⟨e1, e2⟩ := et_at (set := κ 20 d &&& s.2.2.2) (d := nI d) (s := s) P (by omega)
    refine ⟨⟨fun t ht => by rw [e1]; exact hE.1 t ht, fun p hp => ?_, fun p hp => ?_⟩, e1, fun i hi h => ((e2 i hi).2.2.mp h).1⟩
    · obtain ⟨f1, f2, -⟩ := e2 p (by omega)
      have hh := hx p (by omega)
      rw [f1, f2, hm p hp]
      by_cases hc : m.2.1 p = -9 ∧ μ 49 p = nI d
      · have g1 : p < P ∧ bit (κ 20 d &&& s.2.2.2) (nI p) := ⟨hp, hh.mpr ⟨hp, hc⟩⟩
        rw [if_pos g1, if_pos g1, if_pos hc]
        exact ⟨rfl, ((hE.2.1 p hp).2.2 hc.1).symm, fun _ => (hE.2.1 p hp).2.2 hc.1⟩
      · have g1 : ¬ (p < P ∧ bit (κ 20 d &&& s.2.2.2) (nI p)) := fun q => hc (hh.mp q.2).2
        rw [if_neg g1, if_neg g1, if_neg hc]
        exact hE.2.1 p hp
    · obtain ⟨-, -, f3⟩ := e2 p hp
      have hh := hx p hp
      rw [f3, hE.2.2 p hp]
      constructor
      · rintro ⟨⟨a, b⟩, c⟩
        refine ⟨a, ?_⟩
        rw [hm p a, if_neg (fun q => c ⟨a, hh.mpr ⟨a, q⟩⟩)]
        exact b
      · rintro ⟨a, b⟩
        rw [hm p a] at b
        by_cases hc : m.2.1 p = -9 ∧ μ 49 p = nI d
        · rw [if_pos hc] at b; exact absurd b (nI_ne9 (by omega))
        · rw [if_neg hc] at b
          exact ⟨⟨a, b⟩, fun q => hc (hh.mp q.2).2⟩
theorem day_eq {κ μ : ST} {T P C d : Nat} {s : S4} {m : S3} (hI : DI κ μ T P C) (hd : d < 30) (hE : EqC T P s m) (hN : NoK κ T s) : EqC T P (dayC κ T P d s) (mDay μ T P C d m) ∧ NoK κ T (dayC κ T P d s) := by
  have hT6 := hI.1
  have hpos : ∀ t, t < T → (0 : Int32) < κ 16 t := fun t ht => (hI.2.2.2.1 t ht).2.1
  have hE1 : EqC T P (day1 κ T d s) (md1 μ T d m) := by
    unfold day1
    by_cases hw : wetC κ d
    · rw [if_pos hw]
      exact ⟨gw_wet hI hd hE.1 hw, hE.2⟩
    · rw [if_neg hw]
      exact ⟨fun t ht => (hE.1 t ht).trans (gw_dry hI hd hw t ht), hE.2⟩
  have hE2 := cr_eq hI hd hE1
  have key : EqC T P (day3 κ T d (day2 κ T d (day1 κ T d s))) (kyM μ P d T (md2 μ C d (md1 μ T d m))) ∧ NoK κ T (day3 κ T d (day2 κ T d (day1 κ T d s))) := by
    unfold day3
    by_cases hw : wetC κ d
    · rw [if_pos hw]
      exact ⟨tk_eq hI hd hE2 T (Nat.le_refl _), tk_noK hpos T (Nat.le_refl _)⟩
    · rw [if_neg hw]
      have hN2 : NoK κ T (day2 κ T d (day1 κ T d s)) := by
        intro t ht
        rw [show day1 κ T d s = s from if_neg hw]
        have hi : ∀ i, i < 32 → bit (day2 κ T d s).2.2.2 (nI i) → bit s.2.2.2 (nI i) := fun i _ h => by rw [day2_rest] at h; exact h
        by_cases hb : bit (κ 33 d) (nI t) ∧ κ 16 t ≤ s.1 t
        · intro q
          have hz : (day2 κ T d s).1 t = 0 := by rw [day2_at hT6 ht]; exact if_pos hb
          exact nle_of_pos (hpos t ht) hz q.2.1
        · exact noK_sub (hN t ht) (by rw [day2_at hT6 ht]; exact if_neg hb) hi
      rw [ky_still hI hE2 hN2 T (Nat.le_refl _)]
      exact ⟨hE2, hN2⟩
  obtain ⟨k1, k2, k3⟩ := d4_eq hI hd key.1
  exact ⟨k1, fun t ht => noK_sub (key.2 t ht) (by show (day4 κ P d _).1 t = _; rw [k2]) k3⟩
theorem days_eq {κ μ : ST} {T P C : Nat} {s : S4} {m : S3} (hI : DI κ μ T P C) (hE : EqC T P s m) (hN : NoK κ T s) : ∀ n, n ≤ 30 → EqC T P (daysC κ T P n s) (mDays μ T P C n m) ∧ NoK κ T (daysC κ T P n s) := by
  intro n
  induction n with
  | zero => intro _; exact ⟨hE, hN⟩
  | succ n ih => intro hn; exact day_eq hI (by omega) (ih (by omega)).1 (ih (by omega)).2
theorem s0_eq {κ μ ν : ST} {T P C : Nat} (hI : DI κ μ T P C) (hP : ν 12 1 = nI P) : EqC T P (s0C ν) mc0 ∧ NoK κ T (s0C ν) := by
  have hP6 := hI.2.1
  refine ⟨⟨fun _ _ => rfl, fun _ _ => ⟨rfl, rfl, fun _ => rfl⟩, fun p hp => ?_⟩, fun t ht q => nle_of_pos (hI.2.2.2.1 t ht).2.1 rfl q.2.1⟩
  show bit (ones (ν 12 1)) (nI p) ↔ _
  rw [hP, bit_ones hP6 hp]
  exact ⟨fun h => ⟨h, rfl⟩, fun h => h.1⟩
theorem run_full {κ μ ν : ST} {T P C N : Nat} (hI : DI κ μ T P C) (hP : ν 12 1 = nI P) (hN : N ≤ 30) : EqC T P (daysC κ T P N (s0C ν)) (mDC μ T P C N) := (days_eq hI (s0_eq hI hP).1 (s0_eq hI hP).2 N hN).1
theorem day_out {κ : ST} {T P d : Nat} {s : S4} {p : Nat} (hP6 : P ≤ 6) (hp : p < 32) (hpos : ∀ x, ¬ x = 0 → (∃ i, i < 6 ∧ bit x (nI i)) → bit x (nI (lo6 x))) (hf : ∀ t, t < T → ∀ i, i < 32 → bit (κ 17 t) (nI i) → i < 6) (h : ¬ bit s.2.2.2 (nI p)) : ¬ bit (dayC κ T P d s).2.2.2 (nI p) ∧ (dayC κ T P d s).2.2.1 p = s.2.2.1 p := by
  have h1 : (day1 κ T d s).2 = s.2 := by unfold day1; split <;> rfl
  have h2 : (day2 κ T d (day1 κ T d s)).2 = s.2 := by rw [day2_rest, h1]
  have h3 : ∀ n, n ≤ T → ¬ bit (tkN κ (nI d) n (day2 κ T d (day1 κ T d s))).2.2.2 (nI p) ∧ (tkN κ (nI d) n (day2 κ T d (day1 κ T d s))).2.2.1 p = s.2.2.1 p := by
    intro n
    induction n with
    | zero => intro _; show ¬ bit (day2 κ T d (day1 κ T d s)).2.2.2 (nI p) ∧ (day2 κ T d (day1 κ T d s)).2.2.1 p = _; rw [h2]; exact ⟨h, rfl⟩
    | succ n ih =>
      intro hn
      obtain ⟨i1, i2⟩ := ih (by omega)
      refine ⟨fun q => i1 (tk_in p hp q), ?_⟩
      show (tkStep κ (nI d) n (tkN κ (nI d) n (day2 κ T d (day1 κ T d s)))).2.2.1 p = _
      rw [← i2]
      generalize tkN κ (nI d) n (day2 κ T d (day1 κ T d s)) = u at i1
      unfold tkStep
      split
      next hc =>
        refine if_neg (fun e => ?_)
        obtain ⟨j, hj, hb⟩ := bit_ne0.mp hc.1
        have hb1 := (bit_and hj).mp hb
        have := hpos _ hc.1 ⟨j, hf n (by omega) j hj hb1.1, hb⟩
        rw [← e] at this
        exact i1 ((bit_and hp).mp this).2
      next hc => rfl
  have h4 : ¬ bit (day3 κ T d (day2 κ T d (day1 κ T d s))).2.2.2 (nI p) ∧ (day3 κ T d (day2 κ T d (day1 κ T d s))).2.2.1 p = s.2.2.1 p := by
    unfold day3
    split
    · exact h3 T (Nat.le_refl _)
    · rw [h2]; exact ⟨h, rfl⟩
  show ¬ bit (day4 κ P d (day3 κ T d (day2 κ T d (day1 κ T d s)))).2.2.2 (nI p) ∧ (day4 κ P d (day3 κ T d (day2 κ T d (day1 κ T d s)))).2.2.1 p = _
  rw [← h4.2]
  have h5 := h4.1
  generalize day3 κ T d (day2 κ T d (day1 κ T d s)) = u at h5
  unfold day4
  split
  · obtain ⟨-, e2⟩ := et_at (set := κ 20 d &&& u.2.2.2) (d := nI d) (s := u) P (by omega)
    obtain ⟨-, f2, f3⟩ := e2 p hp
    refine ⟨fun q => h5 (f3.mp q).1, ?_⟩
    rw [f2, if_neg (fun q => h5 ((bit_and hp).mp q.2).2)]
  · exact ⟨h5, rfl⟩
theorem lo6_bit {x : Int32} (h : ∃ i, i < 6 ∧ bit x (nI i)) : bit x (nI (lo6 x)) := by
  obtain ⟨i, hi, hb⟩ := h
  exact (fstN_q (q := fun j => bit x (nI j)) (f := 6) (g := 5) (i := 0) ⟨i, Nat.zero_le _, by omega, hb⟩ (by decide)).1
theorem run_eq {κ μ : ST} {T P C : Nat} {x : Int32} {s : S4} (hI : DI κ μ T P C) : ∀ n, (runU κ T P x n s = daysC κ T P n s) ∨ ((runU κ T P x n s).2.2.2 &&& x = 0 ∧ ∀ p, p < 6 → bit x (nI p) → ¬ bit (daysC κ T P n s).2.2.2 (nI p) ∧ (runU κ T P x n s).2.2.1 p = (daysC κ T P n s).2.2.1 p) := by
  have hP6 := hI.2.1
  have hf : ∀ t, t < T → ∀ i, i < 32 → bit (κ 17 t) (nI i) → i < 6 := fun t ht i hi hb => by have := (((hI.2.2.2.1 t ht).2.2.2 i hi).mp hb).1; omega
  intro n
  induction n with
  | zero => exact Or.inl rfl
  | succ n ih =>
    have e : runU κ T P x (n + 1) s = if (runU κ T P x n s).2.2.2 &&& x = 0 then runU κ T P x n s else dayC κ T P n (runU κ T P x n s) := rfl
    have e2 : daysC κ T P (n + 1) s = dayC κ T P n (daysC κ T P n s) := rfl
    by_cases hz : (runU κ T P x n s).2.2.2 &&& x = 0
    · rw [e, if_pos hz, e2]
      refine Or.inr ⟨hz, fun p hp hb => ?_⟩
      have h0 : ¬ bit (daysC κ T P n s).2.2.2 (nI p) ∧ (runU κ T P x n s).2.2.1 p = (daysC κ T P n s).2.2.1 p := by
        rcases ih with h | h
        · rw [← h]
          exact ⟨fun q => by
            have := (bit_and (x := (runU κ T P x n s).2.2.2) (y := x) (i := p) (by omega)).mpr ⟨q, hb⟩
            rw [hz] at this
            exact bit_0 (by omega) this, rfl⟩
        · exact h.2 p hp hb
      obtain ⟨d1, d2⟩ := day_out (d := n) hP6 (show p < 32 by omega) (fun x _ h => lo6_bit h) hf h0.1
      exact ⟨d1, h0.2.trans d2.symm⟩
    · rw [e, if_neg hz, e2]
      rcases ih with h | h
      · rw [h]; exact Or.inl rfl
      · exact absurd h.1 hz
theorem run_by {κ μ ν : ST} {T P C N p : Nat} {x : Int32} (hI : DI κ μ T P C) (hP : ν 12 1 = nI P) (hN : N ≤ 30) (hp : p < P) (hb : bit x (nI p)) : (runU κ T P x N (s0C ν)).2.2.1 p = (mDC μ T P C N).2.2 p := by
  have hP6 := hI.2.1
  have h := ((run_full hI hP hN).2.1 p hp).2.1
  rcases run_eq (x := x) (s := s0C ν) hI N with e | e
  · rw [e]; exact h
  · rw [(e.2 p (by omega) hb).2]; exact h
