/-! the reference: an orchard read -/
def TRd (σ : ST) (n m : Nat) (rk rl rq : Nat → Int32) : Prop := ∀ t, t < m → rk t = kdT (codeT σ n (1 + 3 * t)) ∧ rl t = digT σ n (2 + 3 * t) ∧ rq t = digT σ n (3 + 3 * t)
def PRd (σ : ST) (n q b : Nat) (ru rw : Nat → Int32) : Prop := ∀ u, u < b → ru u = digT σ n (q + 4 * u + 1) ∧ rw u = 10 * digT σ n (q + 4 * u + 2) + digT σ n (q + 4 * u + 3)
theorem TRd_0 {σ : ST} {n : Nat} {rk rl rq : Nat → Int32} : TRd σ n 0 rk rl rq := fun _ h => absurd h (Nat.not_lt_zero _)
theorem PRd_0 {σ : ST} {n q : Nat} {ru rw : Nat → Int32} : PRd σ n q 0 ru rw := fun _ h => absurd h (Nat.not_lt_zero _)
theorem TRd_s {σ : ST} {n m : Nat} {rk rl rq : Nat → Int32} (h : TRd σ n m rk rl rq) : TRd σ n (m + 1) (upd rk m (kdT (codeT σ n (1 + 3 * m)))) (upd rl m (digT σ n (1 + 3 * m + 1))) (upd rq m (digT σ n (1 + 3 * m + 2))) := fun t ht => by
  unfold upd
  by_cases e : t = m
  · subst e
    rw [if_pos rfl, if_pos rfl, if_pos rfl, show 1 + 3 * t + 1 = 2 + 3 * t by omega, show 1 + 3 * t + 2 = 3 + 3 * t by omega]
    exact ⟨rfl, rfl, rfl⟩
  · rw [if_neg e, if_neg e, if_neg e]
    exact h t (by omega)
theorem PRd_s {σ : ST} {n q b : Nat} {ru rw : Nat → Int32} (h : PRd σ n q b ru rw) : PRd σ n q (b + 1) (upd ru b (digT σ n (q + 4 * b + 1))) (upd rw b (10 * digT σ n (q + 4 * b + 1 + 1) + digT σ n (q + 4 * b + 1 + 2))) := fun u hu => by
  unfold upd
  by_cases e : u = b
  · subst e
    rw [if_pos rfl, if_pos rfl]
    exact ⟨rfl, rfl⟩
  · rw [if_neg e, if_neg e]
    exact h u (by omega)
def roP (σ : ST) (f n : Nat) (v : Int32) (τ : ST) : Prop := ∃ (rk rl rq ru rw : Nat → Int32) (rx ry rz : Int32), τ = RS σ rk rl rq ru rw rx ry rz ∧ if (ffR (xT σ f) n).1 = -1 then v = 1 ∧ ry = nI (ffR (xT σ f) n).2.1 ∧ rz = nI (ffR (xT σ f) n).2.2 ∧ TRd (xT σ f) n (ffR (xT σ f) n).2.1 rk rl rq ∧ PRd (xT σ f) n (1 + 3 * (ffR (xT σ f) n).2.1) (ffR (xT σ f) n).2.2 ru rw else v = 0 ∧ ∃ g : Nat, g ≤ 200 ∧ rx = nI (f + g) ∧ (ffR (xT σ f) n).1 = nI g
theorem nI_n1 {g : Nat} (h : g < 2 ^ 31) : ¬ nI g = -1 := fun e => by
  have := congrArg Int32.toInt e
  rw [nI_toInt h] at this
  exact absurd this (by show ¬ ((g : Int) = -1); omega)
theorem ro_fail {σ : ST} {f n g : Nat} {rk rl rq ru rw : Nat → Int32} {ry rz : Int32} (hg : g ≤ 200) (h : (ffR (xT σ f) n).1 = nI g) : roP σ f n 0 (RS σ rk rl rq ru rw (nI (f + g)) ry rz) :=
  ⟨rk, rl, rq, ru, rw, _, ry, rz, rfl, by rw [if_neg (by rw [h]; exact nI_n1 (by omega))]; exact ⟨rfl, g, hg, rfl, h⟩⟩
theorem ro_ok {σ : ST} {f n m b : Nat} {rk rl rq ru rw : Nat → Int32} {rx : Int32} (h : ffR (xT σ f) n = (-1, m, b)) (hT : TRd (xT σ f) n m rk rl rq) (hP : PRd (xT σ f) n (1 + 3 * m) b ru rw) : roP σ f n 1 (RS σ rk rl rq ru rw rx (nI m) (nI b)) :=
  ⟨rk, rl, rq, ru, rw, rx, _, _, rfl, by rw [h]; exact ⟨rfl, rfl, rfl, hT, hP⟩⟩

theorem ffR_K {σ : ST} {n m k : Nat} (h107 : codeT σ n 0 = 107) (hA : ffA σ n 6 0 = (m, some k)) : ffR σ n = (nI k, m, 0) := by unfold ffR; rw [if_neg (nn h107), hA]
theorem ffR_0 {σ : ST} {n : Nat} (h107 : codeT σ n 0 = 107) (hA : ffA σ n 6 0 = (0, none)) : ffR σ n = (nI 1, 0, 0) := by unfold ffR; rw [if_neg (nn h107), hA]; rfl
theorem ffR_A {σ : ST} {n m : Nat} (h107 : codeT σ n 0 = 107) (hA : ffA σ n 6 0 = (m, none)) (hm0 : ¬ m = 0) : ffR σ n = (match ffB σ n (1 + 3 * m) 6 0 with | (b, some k) => (nI k, m, b) | (b, none) => if b = 0 ∨ 1 + 3 * m + 4 * b < n then (nI (1 + 3 * m + 4 * b), m, b) else (-1, m, b)) := by unfold ffR; rw [if_neg (nn h107), hA]; show (if m = 0 then _ else _) = _; rw [if_neg hm0]; rcases ffB σ n (1 + 3 * m) 6 0 with ⟨b, _ | k⟩ <;> rfl
theorem ffR_BK {σ : ST} {n m b k : Nat} (h107 : codeT σ n 0 = 107) (hA : ffA σ n 6 0 = (m, none)) (hm0 : ¬ m = 0) (hB : ffB σ n (1 + 3 * m) 6 0 = (b, some k)) : ffR σ n = (nI k, m, b) := by rw [ffR_A h107 hA hm0, hB]
theorem ffR_BN {σ : ST} {n m b : Nat} (h107 : codeT σ n 0 = 107) (hA : ffA σ n 6 0 = (m, none)) (hm0 : ¬ m = 0) (hB : ffB σ n (1 + 3 * m) 6 0 = (b, none)) : ffR σ n = if b = 0 ∨ 1 + 3 * m + 4 * b < n then (nI (1 + 3 * m + 4 * b), m, b) else (-1, m, b) := by rw [ffR_A h107 hA hm0, hB]
theorem rt_go {σ : ST} {f n m : Nat} {rk rl rq ru rw : Nat → Int32} {ry rz : Int32} {v : Int32} {τ : ST} (h107 : codeT (xT σ f) n 0 = 107) (hm : m < 6) (hs : ffA (xT σ f) n 6 0 = if kdT (codeT (xT σ f) n (1 + 3 * m)) = -9 then (m, none) else if ¬ isD (xT σ f) n (2 + 3 * m) 0 5 then (m, some (2 + 3 * m)) else if ¬ isD (xT σ f) n (3 + 3 * m) 1 9 then (m, some (3 + 3 * m)) else ffA (xT σ f) n (6 - (m + 1)) (m + 1)) (hn : m = 0 ∨ ¬ codeT (xT σ f) n (1 + 3 * m) = 59) (h : rtP σ rk rl rq ru rw ry rz f n (1 + 3 * m) m v τ) :
    (v = 0 ∧ roP σ f n 0 τ) ∨ (v = 1 ∧ 1 + 3 * m + 3 ≤ n ∧ ¬ kdT (codeT (xT σ f) n (1 + 3 * m)) = -9 ∧ isD (xT σ f) n (2 + 3 * m) 0 5 ∧ isD (xT σ f) n (3 + 3 * m) 1 9 ∧ τ = RS σ (upd rk m (kdT (codeT (xT σ f) n (1 + 3 * m)))) (upd rl m (digT (xT σ f) n (1 + 3 * m + 1))) (upd rq m (digT (xT σ f) n (1 + 3 * m + 2))) ru rw (nI (f + (1 + 3 * m + 3))) ry rz) := by
  unfold rtP at h
  by_cases hk : kdT (codeT (xT σ f) n (1 + 3 * m)) = -9
  · rw [show rtF (xT σ f) n (1 + 3 * m) = some (1 + 3 * m) from if_pos hk] at h
    obtain ⟨hv, k, l, q, u, w, y, z, rfl⟩ := h
    rw [if_pos hk] at hs
    refine Or.inl ⟨hv, ro_fail (by omega) ?_⟩
    by_cases hm0 : m = 0
    · subst hm0; rw [ffR_0 h107 hs]
    · rw [ffR_BN (b := 0) h107 hs hm0 (by rw [ffB_s]; exact if_pos (hn.resolve_left hm0)), if_pos (Or.inl rfl)]
      rfl
  · rw [if_neg hk] at hs
    by_cases h1 : isD (xT σ f) n (2 + 3 * m) 0 5
    · have h1b : isD (xT σ f) n (1 + 3 * m + 1) (nI 0) (nI 5) := by rw [show 1 + 3 * m + 1 = 2 + 3 * m by omega]; exact h1
      rw [if_neg (nn h1)] at hs
      by_cases h2 : isD (xT σ f) n (3 + 3 * m) 1 9
      · have h2b : isD (xT σ f) n (1 + 3 * m + 2) (nI 1) (nI 9) := by rw [show 1 + 3 * m + 2 = 3 + 3 * m by omega]; exact h2
        rw [show rtF (xT σ f) n (1 + 3 * m) = none from by unfold rtF; rw [if_neg hk, if_neg (nn h1b), if_neg (nn h2b)]] at h
        exact Or.inr ⟨h.1, by have := h2.1; omega, hk, h1, h2, h.2⟩
      · have h2b : ¬ isD (xT σ f) n (1 + 3 * m + 2) (nI 1) (nI 9) := by rw [show 1 + 3 * m + 2 = 3 + 3 * m by omega]; exact h2
        rw [show rtF (xT σ f) n (1 + 3 * m) = some (1 + 3 * m + 2) from by unfold rtF; rw [if_neg hk, if_neg (nn h1b), if_pos h2b]] at h
        obtain ⟨hv, k, l, q, u, w, y, z, rfl⟩ := h
        rw [if_pos h2] at hs
        exact Or.inl ⟨hv, ro_fail (by omega) (by rw [ffR_K h107 hs]; exact congrArg nI (show 3 + 3 * m = 1 + 3 * m + 2 by omega))⟩
    · have h1b : ¬ isD (xT σ f) n (1 + 3 * m + 1) (nI 0) (nI 5) := by rw [show 1 + 3 * m + 1 = 2 + 3 * m by omega]; exact h1
      rw [show rtF (xT σ f) n (1 + 3 * m) = some (1 + 3 * m + 1) from by unfold rtF; rw [if_neg hk, if_pos h1b]] at h
      obtain ⟨hv, k, l, q, u, w, y, z, rfl⟩ := h
      rw [if_pos h1] at hs
      exact Or.inl ⟨hv, ro_fail (by omega) (by rw [ffR_K h107 hs]; exact congrArg nI (show 2 + 3 * m = 1 + 3 * m + 1 by omega))⟩
theorem rp_go {σ : ST} {f n m b : Nat} {rk rl rq ru rw : Nat → Int32} {ry rz : Int32} {v : Int32} {τ : ST} (h107 : codeT (xT σ f) n 0 = 107) (hA : ffA (xT σ f) n 6 0 = (m, none)) (hm0 : ¬ m = 0) (hm : m ≤ 6) (hb : b < 6) (h59 : codeT (xT σ f) n (1 + 3 * m + 4 * b) = 59) (hs : ffB (xT σ f) n (1 + 3 * m) 6 0 = if ¬ codeT (xT σ f) n (1 + 3 * m + 4 * b) = 59 then (b, none) else if ¬ isD (xT σ f) n (1 + 3 * m + 4 * b + 1) 0 5 then (b, some (1 + 3 * m + 4 * b + 1)) else if ¬ isD (xT σ f) n (1 + 3 * m + 4 * b + 2) 0 2 then (b, some (1 + 3 * m + 4 * b + 2)) else if ¬ isD (xT σ f) n (1 + 3 * m + 4 * b + 3) 0 9 then (b, some (1 + 3 * m + 4 * b + 3)) else ffB (xT σ f) n (1 + 3 * m) (6 - (b + 1)) (b + 1)) (h : rpP σ rk rl rq ru rw ry rz f n (1 + 3 * m + 4 * b + 1) b v τ) :
    (v = 0 ∧ roP σ f n 0 τ) ∨ (v = 1 ∧ 1 + 3 * m + 4 * b + 4 ≤ n ∧ ffB (xT σ f) n (1 + 3 * m) 6 0 = ffB (xT σ f) n (1 + 3 * m) (6 - (b + 1)) (b + 1) ∧ τ = RS σ rk rl rq (upd ru b (digT (xT σ f) n (1 + 3 * m + 4 * b + 1))) (upd rw b (10 * digT (xT σ f) n (1 + 3 * m + 4 * b + 1 + 1) + digT (xT σ f) n (1 + 3 * m + 4 * b + 1 + 2))) (nI (f + (1 + 3 * m + 4 * b + 4))) ry rz) := by
  unfold rpP at h
  rw [if_neg (nn h59)] at hs
  by_cases h1 : isD (xT σ f) n (1 + 3 * m + 4 * b + 1) 0 5
  · have h1b : isD (xT σ f) n (1 + 3 * m + 4 * b + 1) (nI 0) (nI 5) := h1
    rw [if_neg (nn h1)] at hs
    by_cases h2 : isD (xT σ f) n (1 + 3 * m + 4 * b + 2) 0 2
    · have h2b : isD (xT σ f) n (1 + 3 * m + 4 * b + 1 + 1) (nI 0) (nI 2) := h2
      rw [if_neg (nn h2)] at hs
      by_cases h3 : isD (xT σ f) n (1 + 3 * m + 4 * b + 3) 0 9
      · have h3b : isD (xT σ f) n (1 + 3 * m + 4 * b + 1 + 2) (nI 0) (nI 9) := h3
        rw [if_neg (nn h3)] at hs
        rw [show rpF (xT σ f) n (1 + 3 * m + 4 * b + 1) = none from by unfold rpF; rw [if_neg (nn h1b), if_neg (nn h2b), if_neg (nn h3b)]] at h
        exact Or.inr ⟨h.1, by have := h3.1; omega, hs, h.2⟩
      · have h3b : ¬ isD (xT σ f) n (1 + 3 * m + 4 * b + 1 + 2) (nI 0) (nI 9) := h3
        rw [if_pos h3] at hs
        rw [show rpF (xT σ f) n (1 + 3 * m + 4 * b + 1) = some (1 + 3 * m + 4 * b + 1 + 2) from by unfold rpF; rw [if_neg (nn h1b), if_neg (nn h2b), if_pos h3b]] at h
        obtain ⟨hv, k, l, q, u, w, y, z, rfl⟩ := h
        exact Or.inl ⟨hv, ro_fail (by omega) (by rw [ffR_BK h107 hA hm0 hs])⟩
    · have h2b : ¬ isD (xT σ f) n (1 + 3 * m + 4 * b + 1 + 1) (nI 0) (nI 2) := h2
      rw [if_pos h2] at hs
      rw [show rpF (xT σ f) n (1 + 3 * m + 4 * b + 1) = some (1 + 3 * m + 4 * b + 1 + 1) from by unfold rpF; rw [if_neg (nn h1b), if_pos h2b]] at h
      obtain ⟨hv, k, l, q, u, w, y, z, rfl⟩ := h
      exact Or.inl ⟨hv, ro_fail (by omega) (by rw [ffR_BK h107 hA hm0 hs])⟩
  · have h1b : ¬ isD (xT σ f) n (1 + 3 * m + 4 * b + 1) (nI 0) (nI 5) := h1
    rw [if_pos h1] at hs
    rw [show rpF (xT σ f) n (1 + 3 * m + 4 * b + 1) = some (1 + 3 * m + 4 * b + 1) from by unfold rpF; rw [if_pos h1b]] at h
    obtain ⟨hv, k, l, q, u, w, y, z, rfl⟩ := h
    exact Or.inl ⟨hv, ro_fail (by omega) (by rw [ffR_BK h107 hA hm0 hs])⟩

set_option maxHeartbeats 4000000 in
set_option maxRecDepth 100000 in
theorem c_X9_readOrchard {l : Launch} {D : DD} {ad : Nat → Nat} (σ : ST) (rk rl rq ru rw : Nat → Int32) (ry rz : Int32) (f n : Nat) (hf : f + n ≤ 200) : Ct l yX9_readOrchard cX9_readOrchard 2 (Option.some FieldType.boolean) 3 68 D ad [.ref (ad 40), .int (nI (f + n))] (RS σ rk rl rq ru rw (nI (f + 0)) ry rz) (pq (roP σ f n)) := by
  refine Ct.of2 [.ref (ad 40), .int (nI (f + n))] rfl (Nat.le_of_ble_eq_true rfl) rfl ?_
  rintro X C rfl rfl rfl hxn hR
  have k100 : ∀ (m : Nat) (rk rl rq ru rw : Nat → Int32) (rz : Int32), m ≤ 6 → ¬ m = 0 → codeT (xT σ f) n 0 = 107 → ffA (xT σ f) n 6 0 = (m, none) → 1 + 3 * m ≤ n → TRd (xT σ f) n m rk rl rq → V X 100 [.ref (xad X 40), .int (nI (f + n))] [] (RS σ rk rl rq ru rw (nI (f + (1 + 3 * m))) (nI m) rz) := by
    intro m rk rl rq ru rw rz hm hm0 h107 hA hq hT
    refine V_aload_n_0 (q := 101) C rfl dX9_readOrchard_100 ?_
    refine V_iconst (q := 102) (v := (nI 0)) C rfl rfl dX9_readOrchard_101 ?_
    refine pf_X9_135 (q := 105) C rfl dX9_readOrchard_102 ?_
    refine V_eq RS_z ?_
    have hx105 : ∀ ru rw : Nat → Int32, (1 + 3 * m + 4 * 6 ≤ n ∧ ffB (xT σ f) n (1 + 3 * m) 6 0 = ffB (xT σ f) n (1 + 3 * m) (6 - 6) 6 ∧ PRd (xT σ f) n (1 + 3 * m) 6 ru rw) → V X 105 [.ref (xad X 40), .int (nI (f + n))] [] (RS σ rk rl rq ru rw (nI (f + (1 + 3 * m + 4 * 6))) (nI m) (nI 6)) := by
      intro ru rw hv105
      obtain ⟨hqb, hvB, hPd⟩ := hv105
      have hB : ffB (xT σ f) n (1 + 3 * m) 6 0 = (6, none) := by rw [hvB]; rfl
      refine V_aload_n_0 (q := 106) C rfl dX9_readOrchard_105 ?_
      refine gf_X9_135 (q := 109) C rfl dX9_readOrchard_106 ?_
      refine V_if_eq_f (tgt := 120) C (by show ¬ nI 6 = 0; decide) rfl (by decide) dX9_readOrchard_109 ?_
      refine V_aload_n_0 (q := 113) C rfl dX9_readOrchard_112 ?_
      refine gf_X9_111 (q := 116) C rfl dX9_readOrchard_113 ?_
      rw [show (RS σ rk rl rq ru rw (nI (f + (1 + 3 * m + 4 * 6))) (nI m) (nI 6)) 40 16 = nI (f + (1 + 3 * m + 4 * 6)) from rfl]
      refine V_iload_n_1 (q := 117) C rfl dX9_readOrchard_116 ?_
      refine V_icmp_ge (tgt := 186) C rfl (by decide) dX9_readOrchard_117 (fun c117 => ?_) (fun c117 => ?_)
      · refine V_iconst (q := 187) (v := 1) C rfl rfl dX9_readOrchard_186 ?_
        refine V_zret C hR rfl dX9_readOrchard_187 ?_
        have hnn : ¬ (6 = 0 ∨ 1 + 3 * m + 4 * 6 < n) := fun h => by rcases h with h | h; omega; exact nI_ge (a := f + (1 + 3 * m + 4 * 6)) (b := f + n) (by omega) (by omega) c117
        exact ⟨_, rfl, ro_ok (by rw [ffR_BN h107 hA hm0 hB, if_neg hnn]) hT hPd⟩
      · refine V_aload_n_0 (q := 121) C rfl dX9_readOrchard_120 ?_
        refine gf_X9_135 (q := 124) C rfl dX9_readOrchard_121 ?_
        refine V_bipush (q := 126) (v := 6) C (by decide) rfl dX9_readOrchard_124 ?_
        refine V_icmp_eq_t (tgt := 151) C rfl (by decide) dX9_readOrchard_126 ?_
        refine V_iconst (q := 152) (v := 0) C rfl rfl dX9_readOrchard_151 ?_
        refine V_zret C hR rfl dX9_readOrchard_152 ?_
        have hpn : 1 + 3 * m + 4 * 6 < n := by rcases Nat.lt_or_ge (1 + 3 * m + 4 * 6) n with h | h; exact h; exact absurd (nI_le (a := f + n) (b := f + (1 + 3 * m + 4 * 6)) (by omega) (by omega)) c117
        exact ⟨_, rfl, ro_fail (by omega) (by rw [ffR_BN h107 hA hm0 hB, if_pos (Or.inr hpn)])⟩
    have hs105 : ∀ b : Nat, b < 6 → (∀ ru rw : Nat → Int32, (1 + 3 * m + 4 * (b + 1) ≤ n ∧ ffB (xT σ f) n (1 + 3 * m) 6 0 = ffB (xT σ f) n (1 + 3 * m) (6 - (b + 1)) (b + 1) ∧ PRd (xT σ f) n (1 + 3 * m) (b + 1) ru rw) → V X 105 [.ref (xad X 40), .int (nI (f + n))] [] (RS σ rk rl rq ru rw (nI (f + (1 + 3 * m + 4 * (b + 1)))) (nI m) (nI (b + 1)))) → ∀ ru rw : Nat → Int32, (1 + 3 * m + 4 * b ≤ n ∧ ffB (xT σ f) n (1 + 3 * m) 6 0 = ffB (xT σ f) n (1 + 3 * m) (6 - b) b ∧ PRd (xT σ f) n (1 + 3 * m) b ru rw) → V X 105 [.ref (xad X 40), .int (nI (f + n))] [] (RS σ rk rl rq ru rw (nI (f + (1 + 3 * m + 4 * b))) (nI m) (nI b)) := by
      intro b hi105 ih105 ru rw hv105
      obtain ⟨hqb, hvB, hPd⟩ := hv105
      have hsB : ffB (xT σ f) n (1 + 3 * m) 6 0 = if ¬ codeT (xT σ f) n (1 + 3 * m + 4 * b) = 59 then (b, none) else if ¬ isD (xT σ f) n (1 + 3 * m + 4 * b + 1) 0 5 then (b, some (1 + 3 * m + 4 * b + 1)) else if ¬ isD (xT σ f) n (1 + 3 * m + 4 * b + 2) 0 2 then (b, some (1 + 3 * m + 4 * b + 2)) else if ¬ isD (xT σ f) n (1 + 3 * m + 4 * b + 3) 0 9 then (b, some (1 + 3 * m + 4 * b + 3)) else ffB (xT σ f) n (1 + 3 * m) (6 - (b + 1)) (b + 1) := by rw [hvB, show 6 - b = (6 - (b + 1)) + 1 by omega]; exact ffB_s
      refine V_aload_n_0 (q := 106) C rfl dX9_readOrchard_105 ?_
      refine gf_X9_135 (q := 109) C rfl dX9_readOrchard_106 ?_
      refine V_if_eq (tgt := 120) C rfl (by decide) dX9_readOrchard_109 (fun c109 => ?_) (fun c109 => ?_)
      · refine V_aload_n_0 (q := 121) C rfl dX9_readOrchard_120 ?_
        refine gf_X9_135 (q := 124) C rfl dX9_readOrchard_121 ?_
        refine V_bipush (q := 126) (v := 6) C (by decide) rfl dX9_readOrchard_124 ?_
        refine V_icmp_eq_f (tgt := 151) C (fun h => absurd ((nI_eq (a := b) (b := 6) (by omega) (by decide)).mp h) (by omega)) rfl (by decide) dX9_readOrchard_126 ?_
        refine V_aload_n_0 (q := 130) C rfl dX9_readOrchard_129 ?_
        refine gf_X9_111 (q := 133) C rfl dX9_readOrchard_130 ?_
        rw [show (RS σ rk rl rq ru rw (nI (f + (1 + 3 * m + 4 * b))) (nI m) (nI b)) 40 16 = nI (f + (1 + 3 * m + 4 * b)) from rfl]
        refine V_iload_n_1 (q := 134) C rfl dX9_readOrchard_133 ?_
        refine V_icmp_ge (tgt := 151) C rfl (by decide) dX9_readOrchard_134 (fun c134 => ?_) (fun c134 => ?_)
        · refine V_iconst (q := 152) (v := 0) C rfl rfl dX9_readOrchard_151 ?_
          refine V_zret C hR rfl dX9_readOrchard_152 ?_
          have hb0 : b = 0 := (nI_eq (a := b) (b := 0) (by omega) (by decide)).mp c109
          have hpn : ¬ 1 + 3 * m + 4 * b < n := fun h => nI_ge (a := f + (1 + 3 * m + 4 * b)) (b := f + n) (by omega) (by omega) c134
          exact ⟨_, rfl, ro_fail (by omega) (by rw [ffR_BN (b := b) h107 hA hm0 (by rw [hsB, codeT_o hpn, if_pos (by decide)]), if_pos (Or.inl hb0)])⟩
        · refine V_aload_n_0 (q := 138) C rfl dX9_readOrchard_137 ?_
          refine gf_X9_16 (q := 141) C rfl dX9_readOrchard_138 ?_
          refine V_aload_n_0 (q := 142) C rfl dX9_readOrchard_141 ?_
          refine gf_X9_111 (q := 145) C rfl dX9_readOrchard_142 ?_
          have hpn : 1 + 3 * m + 4 * b < n := by rcases Nat.lt_or_ge (1 + 3 * m + 4 * b) n with h | h; exact h; exact absurd (nI_le (a := f + n) (b := f + (1 + 3 * m + 4 * b)) (by omega) (by omega)) c134
          rw [show (RS σ rk rl rq ru rw (nI (f + (1 + 3 * m + 4 * b))) (nI m) (nI b)) 40 16 = nI (f + (1 + 3 * m + 4 * b)) from rfl]
          refine V_iald (q := 146) C (f + (1 + 3 * m + 4 * b)) rfl (by show _ < 200; omega) rfl (by decide) (by decide) rfl dX9_readOrchard_145 ?_
          rw [show (RS σ rk rl rq ru rw (nI (f + (1 + 3 * m + 4 * b))) (nI m) (nI b)) 43 (f + (1 + 3 * m + 4 * b)) = σ 43 (f + (1 + 3 * m + 4 * b)) from rfl]
          refine V_bipush (q := 148) (v := 59) C (by decide) rfl dX9_readOrchard_146 ?_
          refine V_icmp_eq (tgt := 153) C rfl (by decide) dX9_readOrchard_148 (fun c148 => ?_) (fun c148 => ?_)
          · have h59 : codeT (xT σ f) n (1 + 3 * m + 4 * b) = 59 := by rw [codeT_x hpn]; exact c148
            refine V_aload_n_0 (q := 154) C rfl dX9_readOrchard_153 ?_
            refine V_dup (q := 155) C rfl rfl dX9_readOrchard_154 ?_
            refine gf_X9_111 (q := 158) C rfl dX9_readOrchard_155 ?_
            rw [show (RS σ rk rl rq ru rw (nI (f + (1 + 3 * m + 4 * b))) (nI m) (nI b)) 40 16 = nI (f + (1 + 3 * m + 4 * b)) from rfl]
            refine V_iconst (q := 159) (v := 1) C rfl rfl dX9_readOrchard_158 ?_
            refine V_iadd (q := 160) C rfl dX9_readOrchard_159 ?_
            rw [show nI (f + (1 + 3 * m + 4 * b)) + 1 = nI (f + (1 + 3 * m + 4 * b + 1)) from nI_1 _]
            refine pf_X9_111 (q := 163) C rfl dX9_readOrchard_160 ?_
            refine V_eq RS_x ?_
            refine V_aload_n_0 (q := 164) C rfl dX9_readOrchard_163 ?_
            refine V_iload_n_1 (q := 165) C rfl dX9_readOrchard_164 ?_
            refine V_cV1q C (c_X9_readPrisoner σ rk rl rq ru rw (nI m) f n (1 + 3 * m + 4 * b + 1) b hf (by omega) hi105) cw_X9_readPrisoner cv_X9_readPrisoner wm_X9_147 (by decide) ob_X9 ⟨by decide, by decide⟩ (Nat.le_of_ble_eq_true rfl) rfl dX9_readOrchard_165 (fun v τ hv2 => ?_)
            refine V_if_ne (tgt := 173) C rfl (by decide) dX9_readOrchard_168 (fun c168 => ?_) (fun c168 => ?_)
            · obtain ⟨-, hq1, hfb, rfl⟩ := (rp_go h107 hA hm0 hm hi105 h59 hsB hv2).resolve_left (fun h => c168 h.1)
              refine V_aload_n_0 (q := 174) C rfl dX9_readOrchard_173 ?_
              refine V_dup (q := 175) C rfl rfl dX9_readOrchard_174 ?_
              refine gf_X9_135 (q := 178) C rfl dX9_readOrchard_175 ?_
              refine V_iconst (q := 179) (v := 1) C rfl rfl dX9_readOrchard_178 ?_
              refine V_iadd (q := 180) C rfl dX9_readOrchard_179 ?_
              rw [show (RS σ rk rl rq (upd ru b (digT (xT σ f) n (1 + 3 * m + 4 * b + 1))) (upd rw b (10 * digT (xT σ f) n (1 + 3 * m + 4 * b + 1 + 1) + digT (xT σ f) n (1 + 3 * m + 4 * b + 1 + 2))) (nI (f + (1 + 3 * m + 4 * b + 4))) (nI m) (nI b)) 40 18 + 1 = nI (b + 1) from nI_1 b]
              refine pf_X9_135 (q := 183) C rfl dX9_readOrchard_180 ?_
              refine V_eq RS_z ?_
              refine V_goto (tgt := 105) C (by decide) dX9_readOrchard_183 ?_
              refine V_eq ?_ (ih105 _ _ ⟨by omega, hfb, PRd_s hPd⟩)
              rw [show 1 + 3 * m + 4 * (b + 1) = 1 + 3 * m + 4 * b + 4 by omega]
            · refine V_iconst (q := 172) (v := 0) C rfl rfl dX9_readOrchard_171 ?_
              refine V_zret C hR rfl dX9_readOrchard_172 ?_
              rcases rp_go h107 hA hm0 hm hi105 h59 hsB hv2 with ⟨hv0, hro⟩ | ⟨hv1, -⟩
              · exact ⟨_, rfl, hro⟩
              · exact absurd (hv1.symm.trans c168) (by decide)
          · refine V_iconst (q := 152) (v := 0) C rfl rfl dX9_readOrchard_151 ?_
            refine V_zret C hR rfl dX9_readOrchard_152 ?_
            exact ⟨_, rfl, ro_fail (by omega) (by rw [ffR_BN (b := b) h107 hA hm0 (by rw [hsB, codeT_x hpn, if_pos c148]), if_pos (Or.inr hpn)])⟩
      · refine V_aload_n_0 (q := 113) C rfl dX9_readOrchard_112 ?_
        refine gf_X9_111 (q := 116) C rfl dX9_readOrchard_113 ?_
        rw [show (RS σ rk rl rq ru rw (nI (f + (1 + 3 * m + 4 * b))) (nI m) (nI b)) 40 16 = nI (f + (1 + 3 * m + 4 * b)) from rfl]
        refine V_iload_n_1 (q := 117) C rfl dX9_readOrchard_116 ?_
        refine V_icmp_ge (tgt := 186) C rfl (by decide) dX9_readOrchard_117 (fun c117 => ?_) (fun c117 => ?_)
        · refine V_iconst (q := 187) (v := 1) C rfl rfl dX9_readOrchard_186 ?_
          refine V_zret C hR rfl dX9_readOrchard_187 ?_
          have hb0 : ¬ b = 0 := fun h => c109 (by rw [h]; rfl)
          have hpn : ¬ 1 + 3 * m + 4 * b < n := fun h => nI_ge (a := f + (1 + 3 * m + 4 * b)) (b := f + n) (by omega) (by omega) c117
          exact ⟨_, rfl, ro_ok (by rw [ffR_BN (b := b) h107 hA hm0 (by rw [hsB, codeT_o hpn, if_pos (by decide)]), if_neg (fun h => h.elim hb0 hpn)]) hT hPd⟩
        · refine V_aload_n_0 (q := 121) C rfl dX9_readOrchard_120 ?_
          refine gf_X9_135 (q := 124) C rfl dX9_readOrchard_121 ?_
          refine V_bipush (q := 126) (v := 6) C (by decide) rfl dX9_readOrchard_124 ?_
          refine V_icmp_eq_f (tgt := 151) C (fun h => absurd ((nI_eq (a := b) (b := 6) (by omega) (by decide)).mp h) (by omega)) rfl (by decide) dX9_readOrchard_126 ?_
          refine V_aload_n_0 (q := 130) C rfl dX9_readOrchard_129 ?_
          refine gf_X9_111 (q := 133) C rfl dX9_readOrchard_130 ?_
          rw [show (RS σ rk rl rq ru rw (nI (f + (1 + 3 * m + 4 * b))) (nI m) (nI b)) 40 16 = nI (f + (1 + 3 * m + 4 * b)) from rfl]
          refine V_iload_n_1 (q := 134) C rfl dX9_readOrchard_133 ?_
          refine V_icmp_ge (tgt := 151) C rfl (by decide) dX9_readOrchard_134 (fun c134 => ?_) (fun c134 => ?_)
          · refine V_iconst (q := 152) (v := 0) C rfl rfl dX9_readOrchard_151 ?_
            refine V_zret C hR rfl dX9_readOrchard_152 ?_
            exact absurd c134 c117
          · refine V_aload_n_0 (q := 138) C rfl dX9_readOrchard_137 ?_
            refine gf_X9_16 (q := 141) C rfl dX9_readOrchard_138 ?_
            refine V_aload_n_0 (q := 142) C rfl dX9_readOrchard_141 ?_
            refine gf_X9_111 (q := 145) C rfl dX9_readOrchard_142 ?_
            have hpn : 1 + 3 * m + 4 * b < n := by rcases Nat.lt_or_ge (1 + 3 * m + 4 * b) n with h | h; exact h; exact absurd (nI_le (a := f + n) (b := f + (1 + 3 * m + 4 * b)) (by omega) (by omega)) c134
            rw [show (RS σ rk rl rq ru rw (nI (f + (1 + 3 * m + 4 * b))) (nI m) (nI b)) 40 16 = nI (f + (1 + 3 * m + 4 * b)) from rfl]
            refine V_iald (q := 146) C (f + (1 + 3 * m + 4 * b)) rfl (by show _ < 200; omega) rfl (by decide) (by decide) rfl dX9_readOrchard_145 ?_
            rw [show (RS σ rk rl rq ru rw (nI (f + (1 + 3 * m + 4 * b))) (nI m) (nI b)) 43 (f + (1 + 3 * m + 4 * b)) = σ 43 (f + (1 + 3 * m + 4 * b)) from rfl]
            refine V_bipush (q := 148) (v := 59) C (by decide) rfl dX9_readOrchard_146 ?_
            refine V_icmp_eq (tgt := 153) C rfl (by decide) dX9_readOrchard_148 (fun c148 => ?_) (fun c148 => ?_)
            · have h59 : codeT (xT σ f) n (1 + 3 * m + 4 * b) = 59 := by rw [codeT_x hpn]; exact c148
              refine V_aload_n_0 (q := 154) C rfl dX9_readOrchard_153 ?_
              refine V_dup (q := 155) C rfl rfl dX9_readOrchard_154 ?_
              refine gf_X9_111 (q := 158) C rfl dX9_readOrchard_155 ?_
              rw [show (RS σ rk rl rq ru rw (nI (f + (1 + 3 * m + 4 * b))) (nI m) (nI b)) 40 16 = nI (f + (1 + 3 * m + 4 * b)) from rfl]
              refine V_iconst (q := 159) (v := 1) C rfl rfl dX9_readOrchard_158 ?_
              refine V_iadd (q := 160) C rfl dX9_readOrchard_159 ?_
              rw [show nI (f + (1 + 3 * m + 4 * b)) + 1 = nI (f + (1 + 3 * m + 4 * b + 1)) from nI_1 _]
              refine pf_X9_111 (q := 163) C rfl dX9_readOrchard_160 ?_
              refine V_eq RS_x ?_
              refine V_aload_n_0 (q := 164) C rfl dX9_readOrchard_163 ?_
              refine V_iload_n_1 (q := 165) C rfl dX9_readOrchard_164 ?_
              refine V_cV1q C (c_X9_readPrisoner σ rk rl rq ru rw (nI m) f n (1 + 3 * m + 4 * b + 1) b hf (by omega) hi105) cw_X9_readPrisoner cv_X9_readPrisoner wm_X9_147 (by decide) ob_X9 ⟨by decide, by decide⟩ (Nat.le_of_ble_eq_true rfl) rfl dX9_readOrchard_165 (fun v τ hv2 => ?_)
              refine V_if_ne (tgt := 173) C rfl (by decide) dX9_readOrchard_168 (fun c168 => ?_) (fun c168 => ?_)
              · obtain ⟨-, hq1, hfb, rfl⟩ := (rp_go h107 hA hm0 hm hi105 h59 hsB hv2).resolve_left (fun h => c168 h.1)
                refine V_aload_n_0 (q := 174) C rfl dX9_readOrchard_173 ?_
                refine V_dup (q := 175) C rfl rfl dX9_readOrchard_174 ?_
                refine gf_X9_135 (q := 178) C rfl dX9_readOrchard_175 ?_
                refine V_iconst (q := 179) (v := 1) C rfl rfl dX9_readOrchard_178 ?_
                refine V_iadd (q := 180) C rfl dX9_readOrchard_179 ?_
                rw [show (RS σ rk rl rq (upd ru b (digT (xT σ f) n (1 + 3 * m + 4 * b + 1))) (upd rw b (10 * digT (xT σ f) n (1 + 3 * m + 4 * b + 1 + 1) + digT (xT σ f) n (1 + 3 * m + 4 * b + 1 + 2))) (nI (f + (1 + 3 * m + 4 * b + 4))) (nI m) (nI b)) 40 18 + 1 = nI (b + 1) from nI_1 b]
                refine pf_X9_135 (q := 183) C rfl dX9_readOrchard_180 ?_
                refine V_eq RS_z ?_
                refine V_goto (tgt := 105) C (by decide) dX9_readOrchard_183 ?_
                refine V_eq ?_ (ih105 _ _ ⟨by omega, hfb, PRd_s hPd⟩)
                rw [show 1 + 3 * m + 4 * (b + 1) = 1 + 3 * m + 4 * b + 4 by omega]
              · refine V_iconst (q := 172) (v := 0) C rfl rfl dX9_readOrchard_171 ?_
                refine V_zret C hR rfl dX9_readOrchard_172 ?_
                rcases rp_go h107 hA hm0 hm hi105 h59 hsB hv2 with ⟨hv0, hro⟩ | ⟨hv1, -⟩
                · exact ⟨_, rfl, hro⟩
                · exact absurd (hv1.symm.trans c168) (by decide)
            · refine V_iconst (q := 152) (v := 0) C rfl rfl dX9_readOrchard_151 ?_
              refine V_zret C hR rfl dX9_readOrchard_152 ?_
              exact ⟨_, rfl, ro_fail (by omega) (by rw [ffR_BN (b := b) h107 hA hm0 (by rw [hsB, codeT_x hpn, if_pos c148]), if_pos (Or.inr hpn)])⟩
    exact V_eq (rfl) (loopN (P := fun b => ∀ ru rw : Nat → Int32, (1 + 3 * m + 4 * b ≤ n ∧ ffB (xT σ f) n (1 + 3 * m) 6 0 = ffB (xT σ f) n (1 + 3 * m) (6 - b) b ∧ PRd (xT σ f) n (1 + 3 * m) b ru rw) → V X 105 [.ref (xad X 40), .int (nI (f + n))] [] (RS σ rk rl rq ru rw (nI (f + (1 + 3 * m + 4 * b))) (nI m) (nI b))) (6) hx105 hs105 0 (Nat.zero_le _) ru rw (⟨hq, rfl, PRd_0⟩))
  refine V_aload_n_0 (q := 1) C rfl dX9_readOrchard_0 ?_
  refine gf_X9_111 (q := 4) C rfl dX9_readOrchard_1 ?_
  rw [show (RS σ rk rl rq ru rw (nI (f + 0)) ry rz) 40 16 = nI (f + 0) from rfl]
  refine V_iload_n_1 (q := 5) C rfl dX9_readOrchard_4 ?_
  refine V_icmp_ge (tgt := 22) C rfl (by decide) dX9_readOrchard_5 (fun c5 => ?_) (fun c5 => ?_)
  · refine V_iconst (q := 23) (v := 0) C rfl rfl dX9_readOrchard_22 ?_
    refine V_zret C hR rfl dX9_readOrchard_23 ?_
    have hpn : ¬ 0 < n := fun h => nI_ge (a := f + (0)) (b := f + n) (by omega) (by omega) c5
    exact ⟨_, rfl, ro_fail (g := 0) (by decide) (by unfold ffR; rw [codeT_o hpn, if_pos (by decide)]; rfl)⟩
  · refine V_aload_n_0 (q := 9) C rfl dX9_readOrchard_8 ?_
    refine gf_X9_16 (q := 12) C rfl dX9_readOrchard_9 ?_
    refine V_aload_n_0 (q := 13) C rfl dX9_readOrchard_12 ?_
    refine gf_X9_111 (q := 16) C rfl dX9_readOrchard_13 ?_
    have hpn : 0 < n := by rcases Nat.lt_or_ge (0) n with h | h; exact h; exact absurd (nI_le (a := f + n) (b := f + (0)) (by omega) (by omega)) c5
    rw [show (RS σ rk rl rq ru rw (nI (f + 0)) ry rz) 40 16 = nI (f + 0) from rfl]
    refine V_iald (q := 17) C (f + 0) rfl (by show _ < 200; omega) rfl (by decide) (by decide) rfl dX9_readOrchard_16 ?_
    rw [show (RS σ rk rl rq ru rw (nI (f + 0)) ry rz) 43 (f + 0) = σ 43 (f + 0) from rfl]
    refine V_bipush (q := 19) (v := 107) C (by decide) rfl dX9_readOrchard_17 ?_
    refine V_icmp_eq (tgt := 24) C rfl (by decide) dX9_readOrchard_19 (fun c19 => ?_) (fun c19 => ?_)
    · have h107 : codeT (xT σ f) n 0 = 107 := by rw [codeT_x hpn]; exact c19
      refine V_aload_n_0 (q := 25) C rfl dX9_readOrchard_24 ?_
      refine V_dup (q := 26) C rfl rfl dX9_readOrchard_25 ?_
      refine gf_X9_111 (q := 29) C rfl dX9_readOrchard_26 ?_
      refine V_iconst (q := 30) (v := 1) C rfl rfl dX9_readOrchard_29 ?_
      refine V_iadd (q := 31) C rfl dX9_readOrchard_30 ?_
      rw [show (RS σ rk rl rq ru rw (nI (f + 0)) ry rz) 40 16 + 1 = nI (f + (1 + 3 * 0)) from nI_1 _]
      refine pf_X9_111 (q := 34) C rfl dX9_readOrchard_31 ?_
      refine V_eq RS_x ?_
      refine V_aload_n_0 (q := 35) C rfl dX9_readOrchard_34 ?_
      refine V_iconst (q := 36) (v := (nI 0)) C rfl rfl dX9_readOrchard_35 ?_
      refine pf_X9_132 (q := 39) C rfl dX9_readOrchard_36 ?_
      refine V_eq RS_y ?_
      have hx39 : ∀ (rk rl rq ru rw : Nat → Int32) (rz : Int32), (1 + 3 * 6 ≤ n ∧ ffA (xT σ f) n 6 0 = ffA (xT σ f) n (6 - 6) 6 ∧ TRd (xT σ f) n 6 rk rl rq) → V X 39 [.ref (xad X 40), .int (nI (f + n))] [] (RS σ rk rl rq ru rw (nI (f + (1 + 3 * 6))) (nI 6) rz) := by
        intro rk rl rq ru rw rz hv39
        obtain ⟨hq, hv, hT⟩ := hv39
        have hA : ffA (xT σ f) n 6 0 = (6, none) := by rw [hv]; rfl
        refine V_aload_n_0 (q := 40) C rfl dX9_readOrchard_39 ?_
        refine gf_X9_132 (q := 43) C rfl dX9_readOrchard_40 ?_
        refine V_if_eq_f (tgt := 68) C (by show ¬ nI 6 = 0; decide) rfl (by decide) dX9_readOrchard_43 ?_
        refine V_aload_n_0 (q := 47) C rfl dX9_readOrchard_46 ?_
        refine gf_X9_111 (q := 50) C rfl dX9_readOrchard_47 ?_
        rw [show (RS σ rk rl rq ru rw (nI (f + (1 + 3 * 6))) (nI 6) rz) 40 16 = nI (f + (1 + 3 * 6)) from rfl]
        refine V_iload_n_1 (q := 51) C rfl dX9_readOrchard_50 ?_
        refine V_icmp_ge (tgt := 100) C rfl (by decide) dX9_readOrchard_51 (fun c51 => ?_) (fun c51 => ?_)
        · exact k100 6 rk rl rq ru rw rz (Nat.le_refl _) (by decide) h107 hA hq hT
        · refine V_aload_n_0 (q := 55) C rfl dX9_readOrchard_54 ?_
          refine gf_X9_16 (q := 58) C rfl dX9_readOrchard_55 ?_
          refine V_aload_n_0 (q := 59) C rfl dX9_readOrchard_58 ?_
          refine gf_X9_111 (q := 62) C rfl dX9_readOrchard_59 ?_
          have hpn : 1 + 3 * 6 < n := by rcases Nat.lt_or_ge (1 + 3 * 6) n with h | h; exact h; exact absurd (nI_le (a := f + n) (b := f + (1 + 3 * 6)) (by omega) (by omega)) c51
          rw [show (RS σ rk rl rq ru rw (nI (f + (1 + 3 * 6))) (nI 6) rz) 40 16 = nI (f + (1 + 3 * 6)) from rfl]
          refine V_iald (q := 63) C (f + (1 + 3 * 6)) rfl (by show _ < 200; omega) rfl (by decide) (by decide) rfl dX9_readOrchard_62 ?_
          rw [show (RS σ rk rl rq ru rw (nI (f + (1 + 3 * 6))) (nI 6) rz) 43 (f + (1 + 3 * 6)) = σ 43 (f + (1 + 3 * 6)) from rfl]
          refine V_bipush (q := 65) (v := 59) C (by decide) rfl dX9_readOrchard_63 ?_
          refine V_icmp_eq (tgt := 100) C rfl (by decide) dX9_readOrchard_65 (fun c65 => ?_) (fun c65 => ?_)
          · exact k100 6 rk rl rq ru rw rz (Nat.le_refl _) (by decide) h107 hA hq hT
          · refine V_aload_n_0 (q := 69) C rfl dX9_readOrchard_68 ?_
            refine gf_X9_132 (q := 72) C rfl dX9_readOrchard_69 ?_
            refine V_bipush (q := 74) (v := 6) C (by decide) rfl dX9_readOrchard_72 ?_
            refine V_icmp_eq_t (tgt := 85) C rfl (by decide) dX9_readOrchard_74 ?_
            refine V_iconst (q := 86) (v := 0) C rfl rfl dX9_readOrchard_85 ?_
            refine V_zret C hR rfl dX9_readOrchard_86 ?_
            have hm0 : ¬ 6 = 0 := by decide
            have hB : ffR (xT σ f) n = (nI 19, 6, 0) := by
              unfold ffR
              rw [if_neg (nn h107), hA]
              show (match ffB (xT σ f) n 19 6 0 with | (b, some k) => (nI k, 6, b) | (b, none) => if b = 0 ∨ 1 + 3 * 6 + 4 * b < n then (nI (1 + 3 * 6 + 4 * b), 6, b) else (-1, 6, b)) = _
              rw [ffB_s, if_pos (by rw [codeT_x (by exact hpn)]; exact c65)]
              rfl
            exact ⟨_, rfl, ro_fail (g := 19) (by decide) (by rw [hB])⟩
      have hs39 : ∀ m : Nat, m < 6 → (∀ (rk rl rq ru rw : Nat → Int32) (rz : Int32), (1 + 3 * (m + 1) ≤ n ∧ ffA (xT σ f) n 6 0 = ffA (xT σ f) n (6 - (m + 1)) (m + 1) ∧ TRd (xT σ f) n (m + 1) rk rl rq) → V X 39 [.ref (xad X 40), .int (nI (f + n))] [] (RS σ rk rl rq ru rw (nI (f + (1 + 3 * (m + 1)))) (nI (m + 1)) rz)) → ∀ (rk rl rq ru rw : Nat → Int32) (rz : Int32), (1 + 3 * m ≤ n ∧ ffA (xT σ f) n 6 0 = ffA (xT σ f) n (6 - m) m ∧ TRd (xT σ f) n m rk rl rq) → V X 39 [.ref (xad X 40), .int (nI (f + n))] [] (RS σ rk rl rq ru rw (nI (f + (1 + 3 * m))) (nI m) rz) := by
        intro m hi39 ih39 rk rl rq ru rw rz hv39
        obtain ⟨hq, hv, hT⟩ := hv39
        have hs : ffA (xT σ f) n 6 0 = if kdT (codeT (xT σ f) n (1 + 3 * m)) = -9 then (m, none) else if ¬ isD (xT σ f) n (2 + 3 * m) 0 5 then (m, some (2 + 3 * m)) else if ¬ isD (xT σ f) n (3 + 3 * m) 1 9 then (m, some (3 + 3 * m)) else ffA (xT σ f) n (6 - (m + 1)) (m + 1) := by rw [hv, show 6 - m = (6 - (m + 1)) + 1 by omega]; exact ffA_s
        refine V_aload_n_0 (q := 40) C rfl dX9_readOrchard_39 ?_
        refine gf_X9_132 (q := 43) C rfl dX9_readOrchard_40 ?_
        refine V_if_eq (tgt := 68) C rfl (by decide) dX9_readOrchard_43 (fun c43 => ?_) (fun c43 => ?_)
        · refine V_aload_n_0 (q := 69) C rfl dX9_readOrchard_68 ?_
          refine gf_X9_132 (q := 72) C rfl dX9_readOrchard_69 ?_
          refine V_bipush (q := 74) (v := 6) C (by decide) rfl dX9_readOrchard_72 ?_
          refine V_icmp_eq_f (tgt := 85) C (fun h => absurd ((nI_eq (a := m) (b := 6) (by omega) (by decide)).mp h) (by omega)) rfl (by decide) dX9_readOrchard_74 ?_
          refine V_aload_n_0 (q := 78) C rfl dX9_readOrchard_77 ?_
          refine V_iload_n_1 (q := 79) C rfl dX9_readOrchard_78 ?_
          refine V_cV1q C (c_X9_readTree σ rk rl rq ru rw rz f n (1 + 3 * m) m hf hq hi39) cw_X9_readTree cv_X9_readTree wm_X9_144 (by decide) ob_X9 ⟨by decide, by decide⟩ (Nat.le_of_ble_eq_true rfl) rfl dX9_readOrchard_79 (fun v τ hv2 => ?_)
          refine V_if_ne (tgt := 87) C rfl (by decide) dX9_readOrchard_82 (fun c82 => ?_) (fun c82 => ?_)
          · obtain ⟨-, hq1, hk1, hk2, hk3, rfl⟩ := (rt_go h107 hi39 hs (Or.inl ((nI_eq (a := m) (b := 0) (by omega) (by decide)).mp c43)) hv2).resolve_left (fun h => c82 h.1)
            refine V_aload_n_0 (q := 88) C rfl dX9_readOrchard_87 ?_
            refine V_dup (q := 89) C rfl rfl dX9_readOrchard_88 ?_
            refine gf_X9_132 (q := 92) C rfl dX9_readOrchard_89 ?_
            refine V_iconst (q := 93) (v := 1) C rfl rfl dX9_readOrchard_92 ?_
            refine V_iadd (q := 94) C rfl dX9_readOrchard_93 ?_
            rw [show (RS σ (upd rk m (kdT (codeT (xT σ f) n (1 + 3 * m)))) (upd rl m (digT (xT σ f) n (1 + 3 * m + 1))) (upd rq m (digT (xT σ f) n (1 + 3 * m + 2))) ru rw (nI (f + (1 + 3 * m + 3))) (nI m) rz) 40 17 + 1 = nI (m + 1) from nI_1 m]
            refine pf_X9_132 (q := 97) C rfl dX9_readOrchard_94 ?_
            refine V_eq RS_y ?_
            refine V_goto (tgt := 39) C (by decide) dX9_readOrchard_97 ?_
            refine ih39 _ _ _ _ _ _ ⟨by omega, ?_, TRd_s hT⟩
            rw [hs, if_neg hk1, if_neg (nn hk2), if_neg (nn hk3)]
          · refine V_iconst (q := 86) (v := 0) C rfl rfl dX9_readOrchard_85 ?_
            refine V_zret C hR rfl dX9_readOrchard_86 ?_
            rcases rt_go h107 hi39 hs (Or.inl ((nI_eq (a := m) (b := 0) (by omega) (by decide)).mp c43)) hv2 with ⟨hv0, hro⟩ | ⟨hv1, -⟩
            · exact ⟨_, rfl, hro⟩
            · exact absurd (hv1.symm.trans c82) (by decide)
        · refine V_aload_n_0 (q := 47) C rfl dX9_readOrchard_46 ?_
          refine gf_X9_111 (q := 50) C rfl dX9_readOrchard_47 ?_
          rw [show (RS σ rk rl rq ru rw (nI (f + (1 + 3 * m))) (nI m) rz) 40 16 = nI (f + (1 + 3 * m)) from rfl]
          refine V_iload_n_1 (q := 51) C rfl dX9_readOrchard_50 ?_
          refine V_icmp_ge (tgt := 100) C rfl (by decide) dX9_readOrchard_51 (fun c51 => ?_) (fun c51 => ?_)
          · have hpn : ¬ 1 + 3 * m < n := fun h => nI_ge (a := f + (1 + 3 * m)) (b := f + n) (by omega) (by omega) c51
            exact k100 m rk rl rq ru rw rz (by omega) (fun h => c43 (by rw [h]; rfl)) h107 (by rw [hs, codeT_o hpn, if_pos kd_o]) hq hT
          · refine V_aload_n_0 (q := 55) C rfl dX9_readOrchard_54 ?_
            refine gf_X9_16 (q := 58) C rfl dX9_readOrchard_55 ?_
            refine V_aload_n_0 (q := 59) C rfl dX9_readOrchard_58 ?_
            refine gf_X9_111 (q := 62) C rfl dX9_readOrchard_59 ?_
            have hpn : 1 + 3 * m < n := by rcases Nat.lt_or_ge (1 + 3 * m) n with h | h; exact h; exact absurd (nI_le (a := f + n) (b := f + (1 + 3 * m)) (by omega) (by omega)) c51
            rw [show (RS σ rk rl rq ru rw (nI (f + (1 + 3 * m))) (nI m) rz) 40 16 = nI (f + (1 + 3 * m)) from rfl]
            refine V_iald (q := 63) C (f + (1 + 3 * m)) rfl (by show _ < 200; omega) rfl (by decide) (by decide) rfl dX9_readOrchard_62 ?_
            rw [show (RS σ rk rl rq ru rw (nI (f + (1 + 3 * m))) (nI m) rz) 43 (f + (1 + 3 * m)) = σ 43 (f + (1 + 3 * m)) from rfl]
            refine V_bipush (q := 65) (v := 59) C (by decide) rfl dX9_readOrchard_63 ?_
            refine V_icmp_eq (tgt := 100) C rfl (by decide) dX9_readOrchard_65 (fun c65 => ?_) (fun c65 => ?_)
            · exact k100 m rk rl rq ru rw rz (by omega) (fun h => c43 (by rw [h]; rfl)) h107 (by rw [hs, codeT_x hpn, show σ 43 (f + (1 + 3 * m)) = 59 from c65, if_pos (by decide)]) hq hT
            · refine V_aload_n_0 (q := 69) C rfl dX9_readOrchard_68 ?_
              refine gf_X9_132 (q := 72) C rfl dX9_readOrchard_69 ?_
              refine V_bipush (q := 74) (v := 6) C (by decide) rfl dX9_readOrchard_72 ?_
              refine V_icmp_eq_f (tgt := 85) C (fun h => absurd ((nI_eq (a := m) (b := 6) (by omega) (by decide)).mp h) (by omega)) rfl (by decide) dX9_readOrchard_74 ?_
              refine V_aload_n_0 (q := 78) C rfl dX9_readOrchard_77 ?_
              refine V_iload_n_1 (q := 79) C rfl dX9_readOrchard_78 ?_
              refine V_cV1q C (c_X9_readTree σ rk rl rq ru rw rz f n (1 + 3 * m) m hf hq hi39) cw_X9_readTree cv_X9_readTree wm_X9_144 (by decide) ob_X9 ⟨by decide, by decide⟩ (Nat.le_of_ble_eq_true rfl) rfl dX9_readOrchard_79 (fun v τ hv2 => ?_)
              refine V_if_ne (tgt := 87) C rfl (by decide) dX9_readOrchard_82 (fun c82 => ?_) (fun c82 => ?_)
              · obtain ⟨-, hq1, hk1, hk2, hk3, rfl⟩ := (rt_go h107 hi39 hs (Or.inr (by rw [codeT_x hpn]; exact c65)) hv2).resolve_left (fun h => c82 h.1)
                refine V_aload_n_0 (q := 88) C rfl dX9_readOrchard_87 ?_
                refine V_dup (q := 89) C rfl rfl dX9_readOrchard_88 ?_
                refine gf_X9_132 (q := 92) C rfl dX9_readOrchard_89 ?_
                refine V_iconst (q := 93) (v := 1) C rfl rfl dX9_readOrchard_92 ?_
                refine V_iadd (q := 94) C rfl dX9_readOrchard_93 ?_
                rw [show (RS σ (upd rk m (kdT (codeT (xT σ f) n (1 + 3 * m)))) (upd rl m (digT (xT σ f) n (1 + 3 * m + 1))) (upd rq m (digT (xT σ f) n (1 + 3 * m + 2))) ru rw (nI (f + (1 + 3 * m + 3))) (nI m) rz) 40 17 + 1 = nI (m + 1) from nI_1 m]
                refine pf_X9_132 (q := 97) C rfl dX9_readOrchard_94 ?_
                refine V_eq RS_y ?_
                refine V_goto (tgt := 39) C (by decide) dX9_readOrchard_97 ?_
                refine ih39 _ _ _ _ _ _ ⟨by omega, ?_, TRd_s hT⟩
                rw [hs, if_neg hk1, if_neg (nn hk2), if_neg (nn hk3)]
              · refine V_iconst (q := 86) (v := 0) C rfl rfl dX9_readOrchard_85 ?_
                refine V_zret C hR rfl dX9_readOrchard_86 ?_
                rcases rt_go h107 hi39 hs (Or.inr (by rw [codeT_x hpn]; exact c65)) hv2 with ⟨hv0, hro⟩ | ⟨hv1, -⟩
                · exact ⟨_, rfl, hro⟩
                · exact absurd (hv1.symm.trans c82) (by decide)
      exact V_eq (rfl) (loopN (P := fun m => ∀ (rk rl rq ru rw : Nat → Int32) (rz : Int32), (1 + 3 * m ≤ n ∧ ffA (xT σ f) n 6 0 = ffA (xT σ f) n (6 - m) m ∧ TRd (xT σ f) n m rk rl rq) → V X 39 [.ref (xad X 40), .int (nI (f + n))] [] (RS σ rk rl rq ru rw (nI (f + (1 + 3 * m))) (nI m) rz)) (6) hx39 hs39 0 (Nat.zero_le _) rk rl rq ru rw rz (⟨by omega, rfl, TRd_0⟩))
    · refine V_iconst (q := 23) (v := 0) C rfl rfl dX9_readOrchard_22 ?_
      refine V_zret C hR rfl dX9_readOrchard_23 ?_
      exact ⟨_, rfl, ro_fail (g := 0) (by decide) (by unfold ffR; rw [codeT_x hpn, if_pos c19]; rfl)⟩

