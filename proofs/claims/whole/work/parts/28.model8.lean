/-! the reference: a text read -/
def RS (σ : ST) (k l n p t : Nat → Int32) (x y z : Int32) : ST := setc (setc (setc (setc (setc (setc σ 40 (upd (upd (upd (σ 40) 16 x) 17 y) 18 z)) 53 k) 54 l) 55 n) 56 p) 57 t
theorem RS_k {σ : ST} {k l n p t : Nat → Int32} {x y z : Int32} {w : Nat → Int32} : setc (RS σ k l n p t x y z) 53 w = RS σ w l n p t x y z := by
  funext g
  by_cases e57 : g = 57
  · subst e57; rfl
  · skip
    by_cases e56 : g = 56
    · subst e56; rfl
    · skip
      by_cases e55 : g = 55
      · subst e55; rfl
      · skip
        by_cases e54 : g = 54
        · subst e54; rfl
        · skip
          by_cases e53 : g = 53
          · subst e53; rfl
          · skip
            by_cases e40 : g = 40
            · subst e40; rfl
            · skip
              simp only [RS, setf, setc, if_neg e57, if_neg e56, if_neg e55, if_neg e54, if_neg e53, if_neg e40]
theorem RS_l {σ : ST} {k l n p t : Nat → Int32} {x y z : Int32} {w : Nat → Int32} : setc (RS σ k l n p t x y z) 54 w = RS σ k w n p t x y z := by
  funext g
  by_cases e57 : g = 57
  · subst e57; rfl
  · skip
    by_cases e56 : g = 56
    · subst e56; rfl
    · skip
      by_cases e55 : g = 55
      · subst e55; rfl
      · skip
        by_cases e54 : g = 54
        · subst e54; rfl
        · skip
          by_cases e53 : g = 53
          · subst e53; rfl
          · skip
            by_cases e40 : g = 40
            · subst e40; rfl
            · skip
              simp only [RS, setf, setc, if_neg e57, if_neg e56, if_neg e55, if_neg e54, if_neg e53, if_neg e40]
theorem RS_n {σ : ST} {k l n p t : Nat → Int32} {x y z : Int32} {w : Nat → Int32} : setc (RS σ k l n p t x y z) 55 w = RS σ k l w p t x y z := by
  funext g
  by_cases e57 : g = 57
  · subst e57; rfl
  · skip
    by_cases e56 : g = 56
    · subst e56; rfl
    · skip
      by_cases e55 : g = 55
      · subst e55; rfl
      · skip
        by_cases e54 : g = 54
        · subst e54; rfl
        · skip
          by_cases e53 : g = 53
          · subst e53; rfl
          · skip
            by_cases e40 : g = 40
            · subst e40; rfl
            · skip
              simp only [RS, setf, setc, if_neg e57, if_neg e56, if_neg e55, if_neg e54, if_neg e53, if_neg e40]
theorem RS_p {σ : ST} {k l n p t : Nat → Int32} {x y z : Int32} {w : Nat → Int32} : setc (RS σ k l n p t x y z) 56 w = RS σ k l n w t x y z := by
  funext g
  by_cases e57 : g = 57
  · subst e57; rfl
  · skip
    by_cases e56 : g = 56
    · subst e56; rfl
    · skip
      by_cases e55 : g = 55
      · subst e55; rfl
      · skip
        by_cases e54 : g = 54
        · subst e54; rfl
        · skip
          by_cases e53 : g = 53
          · subst e53; rfl
          · skip
            by_cases e40 : g = 40
            · subst e40; rfl
            · skip
              simp only [RS, setf, setc, if_neg e57, if_neg e56, if_neg e55, if_neg e54, if_neg e53, if_neg e40]
theorem RS_t {σ : ST} {k l n p t : Nat → Int32} {x y z : Int32} {w : Nat → Int32} : setc (RS σ k l n p t x y z) 57 w = RS σ k l n p w x y z := by
  funext g
  by_cases e57 : g = 57
  · subst e57; rfl
  · skip
    by_cases e56 : g = 56
    · subst e56; rfl
    · skip
      by_cases e55 : g = 55
      · subst e55; rfl
      · skip
        by_cases e54 : g = 54
        · subst e54; rfl
        · skip
          by_cases e53 : g = 53
          · subst e53; rfl
          · skip
            by_cases e40 : g = 40
            · subst e40; rfl
            · skip
              simp only [RS, setf, setc, if_neg e57, if_neg e56, if_neg e55, if_neg e54, if_neg e53, if_neg e40]
theorem RS_x {σ : ST} {k l n p t : Nat → Int32} {x y z : Int32} {v : Int32} : setf (RS σ k l n p t x y z) 40 16 v = RS σ k l n p t v y z := by
  funext g
  by_cases e57 : g = 57
  · subst e57; rfl
  · skip
    by_cases e56 : g = 56
    · subst e56; rfl
    · skip
      by_cases e55 : g = 55
      · subst e55; rfl
      · skip
        by_cases e54 : g = 54
        · subst e54; rfl
        · skip
          by_cases e53 : g = 53
          · subst e53; rfl
          · skip
            by_cases e40 : g = 40
            · subst e40; funext q; show (if q = 16 then v else (if q = 18 then z else if q = 17 then y else if q = 16 then x else σ 40 q)) = (if q = 18 then z else if q = 17 then y else if q = 16 then v else σ 40 q); by_cases h18 : q = 18; (subst h18; rfl); by_cases h17 : q = 17; (subst h17; rfl); by_cases h16 : q = 16; (subst h16; rfl); simp only [if_neg h18, if_neg h17, if_neg h16]
            · skip
              simp only [RS, setf, setc, if_neg e57, if_neg e56, if_neg e55, if_neg e54, if_neg e53, if_neg e40]
theorem RS_y {σ : ST} {k l n p t : Nat → Int32} {x y z : Int32} {v : Int32} : setf (RS σ k l n p t x y z) 40 17 v = RS σ k l n p t x v z := by
  funext g
  by_cases e57 : g = 57
  · subst e57; rfl
  · skip
    by_cases e56 : g = 56
    · subst e56; rfl
    · skip
      by_cases e55 : g = 55
      · subst e55; rfl
      · skip
        by_cases e54 : g = 54
        · subst e54; rfl
        · skip
          by_cases e53 : g = 53
          · subst e53; rfl
          · skip
            by_cases e40 : g = 40
            · subst e40; funext q; show (if q = 17 then v else (if q = 18 then z else if q = 17 then y else if q = 16 then x else σ 40 q)) = (if q = 18 then z else if q = 17 then v else if q = 16 then x else σ 40 q); by_cases h18 : q = 18; (subst h18; rfl); by_cases h17 : q = 17; (subst h17; rfl); by_cases h16 : q = 16; (subst h16; rfl); simp only [if_neg h18, if_neg h17, if_neg h16]
            · skip
              simp only [RS, setf, setc, if_neg e57, if_neg e56, if_neg e55, if_neg e54, if_neg e53, if_neg e40]
theorem RS_z {σ : ST} {k l n p t : Nat → Int32} {x y z : Int32} {v : Int32} : setf (RS σ k l n p t x y z) 40 18 v = RS σ k l n p t x y v := by
  funext g
  by_cases e57 : g = 57
  · subst e57; rfl
  · skip
    by_cases e56 : g = 56
    · subst e56; rfl
    · skip
      by_cases e55 : g = 55
      · subst e55; rfl
      · skip
        by_cases e54 : g = 54
        · subst e54; rfl
        · skip
          by_cases e53 : g = 53
          · subst e53; rfl
          · skip
            by_cases e40 : g = 40
            · subst e40; funext q; show (if q = 18 then v else (if q = 18 then z else if q = 17 then y else if q = 16 then x else σ 40 q)) = (if q = 18 then v else if q = 17 then y else if q = 16 then x else σ 40 q); by_cases h18 : q = 18; (subst h18; rfl); by_cases h17 : q = 17; (subst h17; rfl); by_cases h16 : q = 16; (subst h16; rfl); simp only [if_neg h18, if_neg h17, if_neg h16]
            · skip
              simp only [RS, setf, setc, if_neg e57, if_neg e56, if_neg e55, if_neg e54, if_neg e53, if_neg e40]
theorem RS_get {σ : ST}   : RS σ (σ 53) (σ 54) (σ 55) (σ 56) (σ 57) (σ 40 16) (σ 40 17) (σ 40 18) = σ := by
  funext g
  by_cases e57 : g = 57
  · subst e57; rfl
  · skip
    by_cases e56 : g = 56
    · subst e56; rfl
    · skip
      by_cases e55 : g = 55
      · subst e55; rfl
      · skip
        by_cases e54 : g = 54
        · subst e54; rfl
        · skip
          by_cases e53 : g = 53
          · subst e53; rfl
          · skip
            by_cases e40 : g = 40
            · subst e40; funext q; show (if q = 18 then σ 40 18 else if q = 17 then σ 40 17 else if q = 16 then σ 40 16 else σ 40 q) = σ 40 q; by_cases h18 : q = 18; (subst h18; rfl); by_cases h17 : q = 17; (subst h17; rfl); by_cases h16 : q = 16; (subst h16; rfl); simp only [if_neg h18, if_neg h17, if_neg h16]
            · skip
              simp only [RS, setf, setc, if_neg e57, if_neg e56, if_neg e55, if_neg e54, if_neg e53, if_neg e40]
/-- the text that stands from f on in the reference's cells, as the class's text -/
def xT (σ : ST) (f : Nat) : ST := setc σ 11 (fun p => σ 43 (f + p))
theorem codeT_x {σ : ST} {f n p : Nat} (h : p < n) : codeT (xT σ f) n p = σ 43 (f + p) := if_pos h
theorem codeT_o {σ : ST} {n p : Nat} (h : ¬ p < n) : codeT σ n p = -9 := if_neg h
theorem digW {x : Int32} {a b : Nat} (ha : a ≤ 9) (hb : b ≤ 9) : (¬ x < 48 + nI a ∧ ¬ 48 + nI b < x) ↔ (¬ x - 48 < nI a ∧ ¬ nI b < x - 48) := by
  have h1 : (48 : Int32) + nI a = nI (48 + a) := nI_add 48 a
  have h2 : (48 : Int32) + nI b = nI (48 + b) := nI_add 48 b
  have hx := Int32.toInt_lt x
  have hx2 := Int32.le_toInt x
  rw [h1, h2, Int32.lt_iff_toInt_lt, Int32.lt_iff_toInt_lt, Int32.lt_iff_toInt_lt, Int32.lt_iff_toInt_lt, nI_toInt (by omega), nI_toInt (by omega), nI_toInt (by omega), nI_toInt (by omega), Int32.toInt_sub, show (48 : Int32).toInt = 48 from rfl, Int.bmod_def]
  split <;> omega
def dgN (σ : ST) (n j : Nat) (a b : Int32) : Nat := if isD σ n j a b then j + 1 else j
def dgM (σ : ST) (n j : Nat) (a b : Int32) : Int32 := if isD σ n j a b then digT σ n j else -9
theorem dg_ne {σ : ST} {n j a b : Nat} (ha : a ≤ 9) (hb : b ≤ 9) : dgM σ n j (nI a) (nI b) = -9 ↔ ¬ isD σ n j (nI a) (nI b) := by
  unfold dgM
  by_cases h : isD σ n j (nI a) (nI b)
  · rw [if_pos h]
    refine ⟨fun e => absurd h.2.1 (by rw [e]; have h2 : (-9 : Int32) < nI a := by rw [Int32.lt_iff_toInt_lt, nI_toInt (by omega)]; show (-9 : Int) < a; omega
                                      exact fun q => q h2), fun q => absurd h q⟩
  · rw [if_neg h]; exact ⟨fun _ => h, fun _ => rfl⟩

set_option maxHeartbeats 4000000 in
set_option maxRecDepth 100000 in
theorem c_X9_digit {l : Launch} {D : DD} {ad : Nat → Nat} (σ : ST) (rk rl rq ru rw : Nat → Int32) (rx ry rz : Int32) (f n p a b : Nat) (hf : f + n ≤ 200) (hp : p ≤ n) (he : rx = nI (f + p)) (ha : a ≤ 9) (hb : b ≤ 9) : Ct l yX9_digit cX9_digit 4 (Option.some FieldType.int) 1 22 D ad [.ref (ad 40), .int (nI (f + n)), .int (nI a), .int (nI b)] (RS σ rk rl rq ru rw rx ry rz) (ex (some (.int (dgM (xT σ f) n p (nI a) (nI b)))) (RS σ rk rl rq ru rw (nI (f + dgN (xT σ f) n p (nI a) (nI b))) ry rz)) := by
  refine Ct.of2 [.ref (ad 40), .int (nI (f + n)), .int (nI a), .int (nI b)] rfl (Nat.le_of_ble_eq_true rfl) rfl ?_
  rintro X C rfl rfl rfl hxn hR
  refine V_aload_n_0 (q := 1) C rfl dX9_digit_0 ?_
  refine gf_X9_111 (q := 4) C rfl dX9_digit_1 ?_
  rw [show (RS σ rk rl rq ru rw rx ry rz) 40 16 = nI (f + p) from he]
  refine V_iload_n_1 (q := 5) C rfl dX9_digit_4 ?_
  refine V_icmp_ge (tgt := 31) C rfl (by decide) dX9_digit_5 (fun c5 => ?_) (fun c5 => ?_)
  · refine V_bipush (q := 33) (v := (-9)) C (by decide) rfl dX9_digit_31 ?_
    refine V_iret C hR dX9_digit_33 ?_
    have hD : ¬ isD (xT σ f) n p (nI a) (nI b) := fun h => nI_ge (a := f + p) (b := f + n) (by have := h.1; omega) (by omega) c5
    exact ⟨by unfold dgM; rw [if_neg hD], by unfold dgN; rw [if_neg hD, he]⟩
  · refine V_aload_n_0 (q := 9) C rfl dX9_digit_8 ?_
    refine gf_X9_16 (q := 12) C rfl dX9_digit_9 ?_
    refine V_aload_n_0 (q := 13) C rfl dX9_digit_12 ?_
    refine gf_X9_111 (q := 16) C rfl dX9_digit_13 ?_
    have hpn : p < n := by rcases Nat.lt_or_ge p n with h | h; exact h; exact absurd (nI_le (a := f + n) (b := f + p) (by omega) (by omega)) c5
    rw [show (RS σ rk rl rq ru rw rx ry rz) 40 16 = nI (f + p) from he]
    refine V_iald (q := 17) C (f + p) rfl (by show _ < 200; omega) rfl (by decide) (by decide) rfl dX9_digit_16 ?_
    rw [show (RS σ rk rl rq ru rw rx ry rz) 43 (f + p) = σ 43 (f + p) from rfl]
    refine V_bipush (q := 19) (v := 48) C (by decide) rfl dX9_digit_17 ?_
    refine V_iload_n_2 (q := 20) C rfl dX9_digit_19 ?_
    refine V_iadd (q := 21) C rfl dX9_digit_20 ?_
    refine V_bipush (q := 23) (v := 48) C (by decide) rfl dX9_digit_21 ?_
    refine V_iload_n_3 (q := 24) C rfl dX9_digit_23 ?_
    refine V_iadd (q := 25) C rfl dX9_digit_24 ?_
    refine V_cS3r (q := 28) C (Ct.mono (v' := some (.int (pI (¬ σ 43 (f + p) < 48 + nI a ∧ ¬ 48 + nI b < σ 43 (f + p))))) (c_X9_within _ _ _ _) rfl rfl) cw_X9_within cs_X9_within wm_X9_101 ⟨by decide, by decide⟩ (Nat.le_of_ble_eq_true rfl) rfl dX9_digit_25 ?_
    refine V_ifp_ne (tgt := 34) C rfl (by decide) dX9_digit_28 (fun c28 => ?_) (fun c28 => ?_)
    · refine V_aload_n_0 (q := 35) C rfl dX9_digit_34 ?_
      refine V_dup (q := 36) C rfl rfl dX9_digit_35 ?_
      refine gf_X9_111 (q := 39) C rfl dX9_digit_36 ?_
      rw [show (RS σ rk rl rq ru rw rx ry rz) 40 16 = nI (f + p) from he]
      refine V_iconst (q := 40) (v := 1) C rfl rfl dX9_digit_39 ?_
      refine V_iadd (q := 41) C rfl dX9_digit_40 ?_
      refine pf_X9_111 (q := 44) C rfl dX9_digit_41 ?_
      refine V_eq (by rw [show nI (f + p) + 1 = nI (f + (p + 1)) from nI_1 _, RS_x]) ?_
      refine V_aload_n_0 (q := 45) C rfl dX9_digit_44 ?_
      refine gf_X9_16 (q := 48) C rfl dX9_digit_45 ?_
      refine V_aload_n_0 (q := 49) C rfl dX9_digit_48 ?_
      refine gf_X9_111 (q := 52) C rfl dX9_digit_49 ?_
      refine V_iconst (q := 53) (v := 1) C rfl rfl dX9_digit_52 ?_
      refine V_isub (q := 54) C rfl dX9_digit_53 ?_
      rw [show (RS σ rk rl rq ru rw (nI (f + (p + 1))) ry rz) 40 16 - 1 = nI (f + p) from pk_sub (a := f + (p + 1)) (b := 1) (by omega)]
      refine V_iald (q := 55) C (f + p) rfl (by show _ < 200; omega) rfl (by decide) (by decide) rfl dX9_digit_54 ?_
      rw [show (RS σ rk rl rq ru rw (nI (f + (p + 1))) ry rz) 43 (f + p) = σ 43 (f + p) from rfl]
      refine V_bipush (q := 57) (v := 48) C (by decide) rfl dX9_digit_55 ?_
      refine V_isub (q := 58) C rfl dX9_digit_57 ?_
      refine V_iret C hR dX9_digit_58 ?_
      have hD : isD (xT σ f) n p (nI a) (nI b) := ⟨hpn, by unfold digT; rw [codeT_x hpn]; exact (digW ha hb).mp c28⟩
      exact ⟨by unfold dgM; rw [if_pos hD]; unfold digT; rw [codeT_x hpn], by unfold dgN; rw [if_pos hD]⟩
    · refine V_bipush (q := 33) (v := (-9)) C (by decide) rfl dX9_digit_31 ?_
      refine V_iret C hR dX9_digit_33 ?_
      have hD : ¬ isD (xT σ f) n p (nI a) (nI b) := fun h => c28 ((digW ha hb).mpr (by have := h.2; unfold digT at this; rw [codeT_x hpn] at this; exact this))
      exact ⟨by unfold dgM; rw [if_neg hD], by unfold dgN; rw [if_neg hD, he]⟩

def rtF (σ : ST) (n p : Nat) : Option Nat := if kdT (codeT σ n p) = -9 then some p else if ¬ isD σ n (p + 1) (nI 0) (nI 5) then some (p + 1) else if ¬ isD σ n (p + 2) (nI 1) (nI 9) then some (p + 2) else none
def rtP (σ : ST) (rk rl rq ru rw : Nat → Int32) (ry rz : Int32) (f n p i : Nat) (v : Int32) (τ : ST) : Prop := match rtF (xT σ f) n p with
  | some g => v = 0 ∧ ∃ (rk rl rq ru rw : Nat → Int32) (ry rz : Int32), τ = RS σ rk rl rq ru rw (nI (f + g)) ry rz
  | none => v = 1 ∧ τ = RS σ (upd rk i (kdT (codeT (xT σ f) n p))) (upd rl i (digT (xT σ f) n (p + 1))) (upd rq i (digT (xT σ f) n (p + 2))) ru rw (nI (f + (p + 3))) ry rz
def rpF (σ : ST) (n p : Nat) : Option Nat := if ¬ isD σ n p (nI 0) (nI 5) then some p else if ¬ isD σ n (p + 1) (nI 0) (nI 2) then some (p + 1) else if ¬ isD σ n (p + 2) (nI 0) (nI 9) then some (p + 2) else none
def rpP (σ : ST) (rk rl rq ru rw : Nat → Int32) (ry rz : Int32) (f n p j : Nat) (v : Int32) (τ : ST) : Prop := match rpF (xT σ f) n p with
  | some g => v = 0 ∧ ∃ (rk rl rq ru rw : Nat → Int32) (ry rz : Int32), τ = RS σ rk rl rq ru rw (nI (f + g)) ry rz
  | none => v = 1 ∧ τ = RS σ rk rl rq (upd ru j (digT (xT σ f) n p)) (upd rw j (10 * digT (xT σ f) n (p + 1) + digT (xT σ f) n (p + 2))) (nI (f + (p + 3))) ry rz
theorem kd_o : kdT (-9) = -9 := rfl
theorem kd_cases {c : Int32} (h : ¬ kdT c = -9) : c = 116 ∨ c = 103 ∨ c = 111 := by
  unfold kdT at h
  by_cases h1 : c = 116
  · exact Or.inl h1
  · rw [if_neg h1] at h
    by_cases h2 : c = 103
    · exact Or.inr (Or.inl h2)
    · rw [if_neg h2] at h
      by_cases h3 : c = 111
      · exact Or.inr (Or.inr h3)
      · rw [if_neg h3] at h; exact absurd rfl h
theorem kd_lt {σ : ST} {n p : Nat} (h : ¬ kdT (codeT σ n p) = -9) : p < n := by
  rcases Nat.lt_or_ge p n with q | q
  · exact q
  · rw [codeT_o (by omega)] at h; exact absurd kd_o h

set_option maxHeartbeats 4000000 in
set_option maxRecDepth 100000 in
theorem c_X9_readTree {l : Launch} {D : DD} {ad : Nat → Nat} (σ : ST) (rk rl rq ru rw : Nat → Int32) (rz : Int32) (f n p i : Nat) (hf : f + n ≤ 200) (hp : p ≤ n) (hi : i < 6) : Ct l yX9_readTree cX9_readTree 3 (Option.some FieldType.boolean) 2 45 D ad [.ref (ad 40), .int (nI (f + n))] (RS σ rk rl rq ru rw (nI (f + p)) (nI i) rz) (pq (rtP σ rk rl rq ru rw (nI i) rz f n p i)) := by
  refine Ct.of2 [.ref (ad 40), .int (nI (f + n)), .float 0] rfl (Nat.le_of_ble_eq_true rfl) rfl ?_
  rintro X C rfl rfl rfl hxn hR
  have hn2 : 2 < xn X := by rw [← hxn]; decide
  refine V_aload_n_0 (q := 1) C rfl dX9_readTree_0 ?_
  refine gf_X9_111 (q := 4) C rfl dX9_readTree_1 ?_
  rw [show (RS σ rk rl rq ru rw (nI (f + p)) (nI i) rz) 40 16 = nI (f + p) from rfl]
  refine V_iload_n_1 (q := 5) C rfl dX9_readTree_4 ?_
  refine V_icmp_ge (tgt := 20) C rfl (by decide) dX9_readTree_5 (fun c5 => ?_) (fun c5 => ?_)
  · refine V_iconst (q := 21) (v := 0) C rfl rfl dX9_readTree_20 ?_
    refine V_istore_n_2 (q := 22) C hn2 rfl rfl dX9_readTree_21 ?_
    refine V_aload_n_0 (q := 23) C rfl dX9_readTree_22 ?_
    refine gf_X9_47 (q := 26) C rfl dX9_readTree_23 ?_
    refine V_aload_n_0 (q := 27) C rfl dX9_readTree_26 ?_
    refine gf_X9_132 (q := 30) C rfl dX9_readTree_27 ?_
    refine V_iload_n_2 (q := 31) C rfl dX9_readTree_30 ?_
    refine V_bipush (q := 33) (v := 116) C (by decide) rfl dX9_readTree_31 ?_
    refine V_icmp_ne_t (tgt := 40) C (by decide) (by decide) dX9_readTree_33 ?_
    refine V_iload_n_2 (q := 41) C rfl dX9_readTree_40 ?_
    refine V_bipush (q := 43) (v := 103) C (by decide) rfl dX9_readTree_41 ?_
    refine V_icmp_ne_t (tgt := 50) C (by decide) (by decide) dX9_readTree_43 ?_
    refine V_iload_n_2 (q := 51) C rfl dX9_readTree_50 ?_
    refine V_bipush (q := 53) (v := 111) C (by decide) rfl dX9_readTree_51 ?_
    refine V_icmp_ne_t (tgt := 60) C (by decide) (by decide) dX9_readTree_53 ?_
    refine V_bipush (q := 62) (v := (-9)) C (by decide) rfl dX9_readTree_60 ?_
    have hpn : ¬ p < n := fun h => nI_ge (a := f + p) (b := f + n) (by omega) (by omega) c5
    refine V_topi (fun yy hyy => ?_)
    obtain rfl : yy = (kdT (codeT (xT σ f) n p)) := by
      rw [hyy]
      rw [codeT_o hpn]; rfl
    refine V_iast (q := 63) C i rfl (by show _ < 6; omega) rfl (by decide) (by decide) rfl dX9_readTree_62 ?_
    refine V_eq (show _ = RS σ (upd rk i (kdT (codeT (xT σ f) n p))) rl rq ru rw (nI (f + p)) (nI i) rz by show setc (RS σ rk rl rq ru rw (nI (f + p)) (nI i) rz) 53 (upd rk i _) = _; rw [RS_k]) ?_
    refine V_aload_n_0 (q := 64) C rfl dX9_readTree_63 ?_
    refine gf_X9_47 (q := 67) C rfl dX9_readTree_64 ?_
    refine V_aload_n_0 (q := 68) C rfl dX9_readTree_67 ?_
    refine gf_X9_132 (q := 71) C rfl dX9_readTree_68 ?_
    refine V_iald (q := 72) C i rfl (by show _ < 6; omega) rfl (by decide) (by decide) rfl dX9_readTree_71 ?_
    rw [show (RS σ (upd rk i (kdT (codeT (xT σ f) n p))) rl rq ru rw (nI (f + p)) (nI i) rz) 53 i = (kdT (codeT (xT σ f) n p)) from if_pos rfl]
    refine V_bipush (q := 74) (v := (-9)) C (by decide) rfl dX9_readTree_72 ?_
    refine V_icmp_ne (tgt := 79) C rfl (by decide) dX9_readTree_74 (fun c74 => ?_) (fun c74 => ?_)
    · have hpn := kd_lt c74
      refine V_aload_n_0 (q := 80) C rfl dX9_readTree_79 ?_
      refine V_dup (q := 81) C rfl rfl dX9_readTree_80 ?_
      refine gf_X9_111 (q := 84) C rfl dX9_readTree_81 ?_
      refine V_iconst (q := 85) (v := 1) C rfl rfl dX9_readTree_84 ?_
      refine V_iadd (q := 86) C rfl dX9_readTree_85 ?_
      refine pf_X9_111 (q := 89) C rfl dX9_readTree_86 ?_
      refine V_eq (show _ = RS σ (upd rk i (kdT (codeT (xT σ f) n p))) rl rq ru rw (nI (f + (p + 1))) (nI i) rz by rw [show (RS σ (upd rk i (kdT (codeT (xT σ f) n p))) rl rq ru rw (nI (f + p)) (nI i) rz) 40 16 + 1 = nI (f + (p + 1)) from nI_1 _, RS_x]) ?_
      refine V_aload_n_0 (q := 90) C rfl dX9_readTree_89 ?_
      refine gf_X9_50 (q := 93) C rfl dX9_readTree_90 ?_
      refine V_aload_n_0 (q := 94) C rfl dX9_readTree_93 ?_
      refine gf_X9_132 (q := 97) C rfl dX9_readTree_94 ?_
      refine V_aload_n_0 (q := 98) C rfl dX9_readTree_97 ?_
      refine V_iload_n_1 (q := 99) C rfl dX9_readTree_98 ?_
      refine V_iconst (q := 100) (v := 0) C rfl rfl dX9_readTree_99 ?_
      refine V_iconst (q := 101) (v := 5) C rfl rfl dX9_readTree_100 ?_
      refine V_cV3r (q := 104) C (c_X9_digit σ (upd rk i (kdT (codeT (xT σ f) n p))) rl rq ru rw (nI (f + (p + 1))) (nI i) rz f n (p + 1) 0 5 hf (by omega) rfl (by decide) (by decide)) cw_X9_digit cv_X9_digit wm_X9_149 (by decide) ob_X9 ⟨by decide, by decide⟩ (Nat.le_of_ble_eq_true rfl) rfl dX9_readTree_101 ?_
      refine V_iast (q := 105) C i rfl (by show _ < 6; omega) rfl (by decide) (by decide) rfl dX9_readTree_104 ?_
      refine V_eq (show _ = RS σ (upd rk i (kdT (codeT (xT σ f) n p))) (upd rl i (dgM (xT σ f) n (p + 1) (nI 0) (nI 5))) rq ru rw (nI (f + (dgN (xT σ f) n (p + 1) (nI 0) (nI 5)))) (nI i) rz by show setc (RS σ (upd rk i (kdT (codeT (xT σ f) n p))) rl rq ru rw (nI (f + (dgN (xT σ f) n (p + 1) (nI 0) (nI 5)))) (nI i) rz) 54 (upd rl i _) = _; rw [RS_l]) ?_
      refine V_aload_n_0 (q := 106) C rfl dX9_readTree_105 ?_
      refine gf_X9_50 (q := 109) C rfl dX9_readTree_106 ?_
      refine V_aload_n_0 (q := 110) C rfl dX9_readTree_109 ?_
      refine gf_X9_132 (q := 113) C rfl dX9_readTree_110 ?_
      refine V_iald (q := 114) C i rfl (by show _ < 6; omega) rfl (by decide) (by decide) rfl dX9_readTree_113 ?_
      rw [show (RS σ (upd rk i (kdT (codeT (xT σ f) n p))) (upd rl i (dgM (xT σ f) n (p + 1) (nI 0) (nI 5))) rq ru rw (nI (f + (dgN (xT σ f) n (p + 1) (nI 0) (nI 5)))) (nI i) rz) 54 i = (dgM (xT σ f) n (p + 1) (nI 0) (nI 5)) from if_pos rfl]
      refine V_bipush (q := 116) (v := (-9)) C (by decide) rfl dX9_readTree_114 ?_
      refine V_icmp_ne (tgt := 121) C rfl (by decide) dX9_readTree_116 (fun c116 => ?_) (fun c116 => ?_)
      · have hD : isD (xT σ f) n (p + 1) (nI 0) (nI 5) := Decidable.of_not_not (fun h => c116 ((dg_ne (a := 0) (b := 5) (by decide) (by decide)).mpr h))
        refine V_eq (τ := RS σ (upd rk i (kdT (codeT (xT σ f) n p))) (upd rl i (dgM (xT σ f) n (p + 1) (nI 0) (nI 5))) rq ru rw (nI (f + (p + 2))) (nI i) rz) (by unfold dgN; rw [if_pos hD]) ?_
        refine V_aload_n_0 (q := 122) C rfl dX9_readTree_121 ?_
        refine gf_X9_53 (q := 125) C rfl dX9_readTree_122 ?_
        refine V_aload_n_0 (q := 126) C rfl dX9_readTree_125 ?_
        refine gf_X9_132 (q := 129) C rfl dX9_readTree_126 ?_
        refine V_aload_n_0 (q := 130) C rfl dX9_readTree_129 ?_
        refine V_iload_n_1 (q := 131) C rfl dX9_readTree_130 ?_
        refine V_iconst (q := 132) (v := 1) C rfl rfl dX9_readTree_131 ?_
        refine V_bipush (q := 134) (v := 9) C (by decide) rfl dX9_readTree_132 ?_
        refine V_cV3r (q := 137) C (c_X9_digit σ (upd rk i (kdT (codeT (xT σ f) n p))) (upd rl i (dgM (xT σ f) n (p + 1) (nI 0) (nI 5))) rq ru rw (nI (f + (p + 2))) (nI i) rz f n (p + 2) 1 9 hf (by have := hD.1; omega) rfl (by decide) (by decide)) cw_X9_digit cv_X9_digit wm_X9_149 (by decide) ob_X9 ⟨by decide, by decide⟩ (Nat.le_of_ble_eq_true rfl) rfl dX9_readTree_134 ?_
        refine V_iast (q := 138) C i rfl (by show _ < 6; omega) rfl (by decide) (by decide) rfl dX9_readTree_137 ?_
        refine V_eq (show _ = RS σ (upd rk i (kdT (codeT (xT σ f) n p))) (upd rl i (dgM (xT σ f) n (p + 1) (nI 0) (nI 5))) (upd rq i (dgM (xT σ f) n (p + 2) (nI 1) (nI 9))) ru rw (nI (f + (dgN (xT σ f) n (p + 2) (nI 1) (nI 9)))) (nI i) rz by show setc (RS σ (upd rk i (kdT (codeT (xT σ f) n p))) (upd rl i (dgM (xT σ f) n (p + 1) (nI 0) (nI 5))) rq ru rw (nI (f + (dgN (xT σ f) n (p + 2) (nI 1) (nI 9)))) (nI i) rz) 55 (upd rq i _) = _; rw [RS_n]) ?_
        refine V_aload_n_0 (q := 139) C rfl dX9_readTree_138 ?_
        refine gf_X9_53 (q := 142) C rfl dX9_readTree_139 ?_
        refine V_aload_n_0 (q := 143) C rfl dX9_readTree_142 ?_
        refine gf_X9_132 (q := 146) C rfl dX9_readTree_143 ?_
        refine V_iald (q := 147) C i rfl (by show _ < 6; omega) rfl (by decide) (by decide) rfl dX9_readTree_146 ?_
        rw [show (RS σ (upd rk i (kdT (codeT (xT σ f) n p))) (upd rl i (dgM (xT σ f) n (p + 1) (nI 0) (nI 5))) (upd rq i (dgM (xT σ f) n (p + 2) (nI 1) (nI 9))) ru rw (nI (f + (dgN (xT σ f) n (p + 2) (nI 1) (nI 9)))) (nI i) rz) 55 i = (dgM (xT σ f) n (p + 2) (nI 1) (nI 9)) from if_pos rfl]
        refine V_bipush (q := 149) (v := (-9)) C (by decide) rfl dX9_readTree_147 ?_
        refine V_icmp_eq (tgt := 156) C rfl (by decide) dX9_readTree_149 (fun c149 => ?_) (fun c149 => ?_)
        · refine V_iconst (q := 157) (v := 0) C rfl rfl dX9_readTree_156 ?_
          refine V_zret C hR rfl dX9_readTree_157 ?_
          have hD2 := (dg_ne (a := 1) (b := 9) (by decide) (by decide)).mp c149
          refine ⟨_, rfl, ?_⟩
          unfold rtP
          rw [show rtF (xT σ f) n p = some (p + 2) from by unfold rtF; rw [if_neg c74, if_neg (nn hD)]; exact if_pos hD2]
          exact ⟨rfl, _, _, _, _, _, _, _, by unfold dgN; rw [if_neg hD2]⟩
        · refine V_iconst (q := 153) (v := 1) C rfl rfl dX9_readTree_152 ?_
          refine V_goto (tgt := 157) C (by decide) dX9_readTree_153 ?_
          refine V_zret C hR rfl dX9_readTree_157 ?_
          have hD2 : isD (xT σ f) n (p + 2) (nI 1) (nI 9) := Decidable.of_not_not (fun h => c149 ((dg_ne (a := 1) (b := 9) (by decide) (by decide)).mpr h))
          refine ⟨_, rfl, ?_⟩
          unfold rtP
          rw [show rtF (xT σ f) n p = none from by unfold rtF; rw [if_neg c74, if_neg (nn hD)]; exact if_neg (nn hD2)]
          exact ⟨rfl, by unfold dgN dgM; rw [if_pos hD, if_pos hD2, if_pos hD2]⟩
      · refine V_iconst (q := 120) (v := 0) C rfl rfl dX9_readTree_119 ?_
        refine V_zret C hR rfl dX9_readTree_120 ?_
        have hD := (dg_ne (a := 0) (b := 5) (by decide) (by decide)).mp c116
        refine ⟨_, rfl, ?_⟩
        unfold rtP
        rw [show rtF (xT σ f) n p = some (p + 1) from by unfold rtF; rw [if_neg c74]; exact if_pos hD]
        exact ⟨rfl, _, _, _, _, _, _, _, by unfold dgN; rw [if_neg hD]⟩
    · refine V_iconst (q := 78) (v := 0) C rfl rfl dX9_readTree_77 ?_
      refine V_zret C hR rfl dX9_readTree_78 ?_
      refine ⟨_, rfl, ?_⟩
      unfold rtP
      rw [show rtF (xT σ f) n p = some p from if_pos c74]
      exact ⟨rfl, _, _, _, _, _, _, _, rfl⟩
  · refine V_aload_n_0 (q := 9) C rfl dX9_readTree_8 ?_
    refine gf_X9_16 (q := 12) C rfl dX9_readTree_9 ?_
    refine V_aload_n_0 (q := 13) C rfl dX9_readTree_12 ?_
    refine gf_X9_111 (q := 16) C rfl dX9_readTree_13 ?_
    have hpn : p < n := by rcases Nat.lt_or_ge p n with h | h; exact h; exact absurd (nI_le (a := f + n) (b := f + p) (by omega) (by omega)) c5
    rw [show (RS σ rk rl rq ru rw (nI (f + p)) (nI i) rz) 40 16 = nI (f + p) from rfl]
    refine V_iald (q := 17) C (f + p) rfl (by show _ < 200; omega) rfl (by decide) (by decide) rfl dX9_readTree_16 ?_
    rw [show (RS σ rk rl rq ru rw (nI (f + p)) (nI i) rz) 43 (f + p) = σ 43 (f + p) from rfl]
    refine V_goto (tgt := 21) C (by decide) dX9_readTree_17 ?_
    refine V_istore_n_2 (q := 22) C hn2 rfl rfl dX9_readTree_21 ?_
    refine V_aload_n_0 (q := 23) C rfl dX9_readTree_22 ?_
    refine gf_X9_47 (q := 26) C rfl dX9_readTree_23 ?_
    refine V_aload_n_0 (q := 27) C rfl dX9_readTree_26 ?_
    refine gf_X9_132 (q := 30) C rfl dX9_readTree_27 ?_
    refine V_iload_n_2 (q := 31) C rfl dX9_readTree_30 ?_
    refine V_bipush (q := 33) (v := 116) C (by decide) rfl dX9_readTree_31 ?_
    refine V_icmp_ne (tgt := 40) C rfl (by decide) dX9_readTree_33 (fun c33 => ?_) (fun c33 => ?_)
    · refine V_iload_n_2 (q := 41) C rfl dX9_readTree_40 ?_
      refine V_bipush (q := 43) (v := 103) C (by decide) rfl dX9_readTree_41 ?_
      refine V_icmp_ne (tgt := 50) C rfl (by decide) dX9_readTree_43 (fun c43 => ?_) (fun c43 => ?_)
      · refine V_iload_n_2 (q := 51) C rfl dX9_readTree_50 ?_
        refine V_bipush (q := 53) (v := 111) C (by decide) rfl dX9_readTree_51 ?_
        refine V_icmp_ne (tgt := 60) C rfl (by decide) dX9_readTree_53 (fun c53 => ?_) (fun c53 => ?_)
        · refine V_bipush (q := 62) (v := (-9)) C (by decide) rfl dX9_readTree_60 ?_
          refine V_topi (fun yy hyy => ?_)
          obtain rfl : yy = (kdT (codeT (xT σ f) n p)) := by
            rw [hyy]
            rw [codeT_x hpn]; unfold kdT; rw [if_neg c33, if_neg c43, if_neg c53]
          refine V_iast (q := 63) C i rfl (by show _ < 6; omega) rfl (by decide) (by decide) rfl dX9_readTree_62 ?_
          refine V_eq (show _ = RS σ (upd rk i (kdT (codeT (xT σ f) n p))) rl rq ru rw (nI (f + p)) (nI i) rz by show setc (RS σ rk rl rq ru rw (nI (f + p)) (nI i) rz) 53 (upd rk i _) = _; rw [RS_k]) ?_
          refine V_aload_n_0 (q := 64) C rfl dX9_readTree_63 ?_
          refine gf_X9_47 (q := 67) C rfl dX9_readTree_64 ?_
          refine V_aload_n_0 (q := 68) C rfl dX9_readTree_67 ?_
          refine gf_X9_132 (q := 71) C rfl dX9_readTree_68 ?_
          refine V_iald (q := 72) C i rfl (by show _ < 6; omega) rfl (by decide) (by decide) rfl dX9_readTree_71 ?_
          rw [show (RS σ (upd rk i (kdT (codeT (xT σ f) n p))) rl rq ru rw (nI (f + p)) (nI i) rz) 53 i = (kdT (codeT (xT σ f) n p)) from if_pos rfl]
          refine V_bipush (q := 74) (v := (-9)) C (by decide) rfl dX9_readTree_72 ?_
          refine V_icmp_ne (tgt := 79) C rfl (by decide) dX9_readTree_74 (fun c74 => ?_) (fun c74 => ?_)
          · have hpn := kd_lt c74
            refine V_aload_n_0 (q := 80) C rfl dX9_readTree_79 ?_
            refine V_dup (q := 81) C rfl rfl dX9_readTree_80 ?_
            refine gf_X9_111 (q := 84) C rfl dX9_readTree_81 ?_
            refine V_iconst (q := 85) (v := 1) C rfl rfl dX9_readTree_84 ?_
            refine V_iadd (q := 86) C rfl dX9_readTree_85 ?_
            refine pf_X9_111 (q := 89) C rfl dX9_readTree_86 ?_
            refine V_eq (show _ = RS σ (upd rk i (kdT (codeT (xT σ f) n p))) rl rq ru rw (nI (f + (p + 1))) (nI i) rz by rw [show (RS σ (upd rk i (kdT (codeT (xT σ f) n p))) rl rq ru rw (nI (f + p)) (nI i) rz) 40 16 + 1 = nI (f + (p + 1)) from nI_1 _, RS_x]) ?_
            refine V_aload_n_0 (q := 90) C rfl dX9_readTree_89 ?_
            refine gf_X9_50 (q := 93) C rfl dX9_readTree_90 ?_
            refine V_aload_n_0 (q := 94) C rfl dX9_readTree_93 ?_
            refine gf_X9_132 (q := 97) C rfl dX9_readTree_94 ?_
            refine V_aload_n_0 (q := 98) C rfl dX9_readTree_97 ?_
            refine V_iload_n_1 (q := 99) C rfl dX9_readTree_98 ?_
            refine V_iconst (q := 100) (v := 0) C rfl rfl dX9_readTree_99 ?_
            refine V_iconst (q := 101) (v := 5) C rfl rfl dX9_readTree_100 ?_
            refine V_cV3r (q := 104) C (c_X9_digit σ (upd rk i (kdT (codeT (xT σ f) n p))) rl rq ru rw (nI (f + (p + 1))) (nI i) rz f n (p + 1) 0 5 hf (by omega) rfl (by decide) (by decide)) cw_X9_digit cv_X9_digit wm_X9_149 (by decide) ob_X9 ⟨by decide, by decide⟩ (Nat.le_of_ble_eq_true rfl) rfl dX9_readTree_101 ?_
            refine V_iast (q := 105) C i rfl (by show _ < 6; omega) rfl (by decide) (by decide) rfl dX9_readTree_104 ?_
            refine V_eq (show _ = RS σ (upd rk i (kdT (codeT (xT σ f) n p))) (upd rl i (dgM (xT σ f) n (p + 1) (nI 0) (nI 5))) rq ru rw (nI (f + (dgN (xT σ f) n (p + 1) (nI 0) (nI 5)))) (nI i) rz by show setc (RS σ (upd rk i (kdT (codeT (xT σ f) n p))) rl rq ru rw (nI (f + (dgN (xT σ f) n (p + 1) (nI 0) (nI 5)))) (nI i) rz) 54 (upd rl i _) = _; rw [RS_l]) ?_
            refine V_aload_n_0 (q := 106) C rfl dX9_readTree_105 ?_
            refine gf_X9_50 (q := 109) C rfl dX9_readTree_106 ?_
            refine V_aload_n_0 (q := 110) C rfl dX9_readTree_109 ?_
            refine gf_X9_132 (q := 113) C rfl dX9_readTree_110 ?_
            refine V_iald (q := 114) C i rfl (by show _ < 6; omega) rfl (by decide) (by decide) rfl dX9_readTree_113 ?_
            rw [show (RS σ (upd rk i (kdT (codeT (xT σ f) n p))) (upd rl i (dgM (xT σ f) n (p + 1) (nI 0) (nI 5))) rq ru rw (nI (f + (dgN (xT σ f) n (p + 1) (nI 0) (nI 5)))) (nI i) rz) 54 i = (dgM (xT σ f) n (p + 1) (nI 0) (nI 5)) from if_pos rfl]
            refine V_bipush (q := 116) (v := (-9)) C (by decide) rfl dX9_readTree_114 ?_
            refine V_icmp_ne (tgt := 121) C rfl (by decide) dX9_readTree_116 (fun c116 => ?_) (fun c116 => ?_)
            · have hD : isD (xT σ f) n (p + 1) (nI 0) (nI 5) := Decidable.of_not_not (fun h => c116 ((dg_ne (a := 0) (b := 5) (by decide) (by decide)).mpr h))
              refine V_eq (τ := RS σ (upd rk i (kdT (codeT (xT σ f) n p))) (upd rl i (dgM (xT σ f) n (p + 1) (nI 0) (nI 5))) rq ru rw (nI (f + (p + 2))) (nI i) rz) (by unfold dgN; rw [if_pos hD]) ?_
              refine V_aload_n_0 (q := 122) C rfl dX9_readTree_121 ?_
              refine gf_X9_53 (q := 125) C rfl dX9_readTree_122 ?_
              refine V_aload_n_0 (q := 126) C rfl dX9_readTree_125 ?_
              refine gf_X9_132 (q := 129) C rfl dX9_readTree_126 ?_
              refine V_aload_n_0 (q := 130) C rfl dX9_readTree_129 ?_
              refine V_iload_n_1 (q := 131) C rfl dX9_readTree_130 ?_
              refine V_iconst (q := 132) (v := 1) C rfl rfl dX9_readTree_131 ?_
              refine V_bipush (q := 134) (v := 9) C (by decide) rfl dX9_readTree_132 ?_
              refine V_cV3r (q := 137) C (c_X9_digit σ (upd rk i (kdT (codeT (xT σ f) n p))) (upd rl i (dgM (xT σ f) n (p + 1) (nI 0) (nI 5))) rq ru rw (nI (f + (p + 2))) (nI i) rz f n (p + 2) 1 9 hf (by have := hD.1; omega) rfl (by decide) (by decide)) cw_X9_digit cv_X9_digit wm_X9_149 (by decide) ob_X9 ⟨by decide, by decide⟩ (Nat.le_of_ble_eq_true rfl) rfl dX9_readTree_134 ?_
              refine V_iast (q := 138) C i rfl (by show _ < 6; omega) rfl (by decide) (by decide) rfl dX9_readTree_137 ?_
              refine V_eq (show _ = RS σ (upd rk i (kdT (codeT (xT σ f) n p))) (upd rl i (dgM (xT σ f) n (p + 1) (nI 0) (nI 5))) (upd rq i (dgM (xT σ f) n (p + 2) (nI 1) (nI 9))) ru rw (nI (f + (dgN (xT σ f) n (p + 2) (nI 1) (nI 9)))) (nI i) rz by show setc (RS σ (upd rk i (kdT (codeT (xT σ f) n p))) (upd rl i (dgM (xT σ f) n (p + 1) (nI 0) (nI 5))) rq ru rw (nI (f + (dgN (xT σ f) n (p + 2) (nI 1) (nI 9)))) (nI i) rz) 55 (upd rq i _) = _; rw [RS_n]) ?_
              refine V_aload_n_0 (q := 139) C rfl dX9_readTree_138 ?_
              refine gf_X9_53 (q := 142) C rfl dX9_readTree_139 ?_
              refine V_aload_n_0 (q := 143) C rfl dX9_readTree_142 ?_
              refine gf_X9_132 (q := 146) C rfl dX9_readTree_143 ?_
              refine V_iald (q := 147) C i rfl (by show _ < 6; omega) rfl (by decide) (by decide) rfl dX9_readTree_146 ?_
              rw [show (RS σ (upd rk i (kdT (codeT (xT σ f) n p))) (upd rl i (dgM (xT σ f) n (p + 1) (nI 0) (nI 5))) (upd rq i (dgM (xT σ f) n (p + 2) (nI 1) (nI 9))) ru rw (nI (f + (dgN (xT σ f) n (p + 2) (nI 1) (nI 9)))) (nI i) rz) 55 i = (dgM (xT σ f) n (p + 2) (nI 1) (nI 9)) from if_pos rfl]
              refine V_bipush (q := 149) (v := (-9)) C (by decide) rfl dX9_readTree_147 ?_
              refine V_icmp_eq (tgt := 156) C rfl (by decide) dX9_readTree_149 (fun c149 => ?_) (fun c149 => ?_)
              · refine V_iconst (q := 157) (v := 0) C rfl rfl dX9_readTree_156 ?_
                refine V_zret C hR rfl dX9_readTree_157 ?_
                have hD2 := (dg_ne (a := 1) (b := 9) (by decide) (by decide)).mp c149
                refine ⟨_, rfl, ?_⟩
                unfold rtP
                rw [show rtF (xT σ f) n p = some (p + 2) from by unfold rtF; rw [if_neg c74, if_neg (nn hD)]; exact if_pos hD2]
                exact ⟨rfl, _, _, _, _, _, _, _, by unfold dgN; rw [if_neg hD2]⟩
              · refine V_iconst (q := 153) (v := 1) C rfl rfl dX9_readTree_152 ?_
                refine V_goto (tgt := 157) C (by decide) dX9_readTree_153 ?_
                refine V_zret C hR rfl dX9_readTree_157 ?_
                have hD2 : isD (xT σ f) n (p + 2) (nI 1) (nI 9) := Decidable.of_not_not (fun h => c149 ((dg_ne (a := 1) (b := 9) (by decide) (by decide)).mpr h))
                refine ⟨_, rfl, ?_⟩
                unfold rtP
                rw [show rtF (xT σ f) n p = none from by unfold rtF; rw [if_neg c74, if_neg (nn hD)]; exact if_neg (nn hD2)]
                exact ⟨rfl, by unfold dgN dgM; rw [if_pos hD, if_pos hD2, if_pos hD2]⟩
            · refine V_iconst (q := 120) (v := 0) C rfl rfl dX9_readTree_119 ?_
              refine V_zret C hR rfl dX9_readTree_120 ?_
              have hD := (dg_ne (a := 0) (b := 5) (by decide) (by decide)).mp c116
              refine ⟨_, rfl, ?_⟩
              unfold rtP
              rw [show rtF (xT σ f) n p = some (p + 1) from by unfold rtF; rw [if_neg c74]; exact if_pos hD]
              exact ⟨rfl, _, _, _, _, _, _, _, by unfold dgN; rw [if_neg hD]⟩
          · refine V_iconst (q := 78) (v := 0) C rfl rfl dX9_readTree_77 ?_
            refine V_zret C hR rfl dX9_readTree_78 ?_
            refine ⟨_, rfl, ?_⟩
            unfold rtP
            rw [show rtF (xT σ f) n p = some p from if_pos c74]
            exact ⟨rfl, _, _, _, _, _, _, _, rfl⟩
        · refine V_iconst (q := 57) (v := 2) C rfl rfl dX9_readTree_56 ?_
          refine V_goto (tgt := 62) C (by decide) dX9_readTree_57 ?_
          refine V_topi (fun yy hyy => ?_)
          obtain rfl : yy = (kdT (codeT (xT σ f) n p)) := by
            rw [hyy]
            rw [codeT_x hpn]; unfold kdT; rw [if_neg c33, if_neg c43, if_pos c53]
          refine V_iast (q := 63) C i rfl (by show _ < 6; omega) rfl (by decide) (by decide) rfl dX9_readTree_62 ?_
          refine V_eq (show _ = RS σ (upd rk i (kdT (codeT (xT σ f) n p))) rl rq ru rw (nI (f + p)) (nI i) rz by show setc (RS σ rk rl rq ru rw (nI (f + p)) (nI i) rz) 53 (upd rk i _) = _; rw [RS_k]) ?_
          refine V_aload_n_0 (q := 64) C rfl dX9_readTree_63 ?_
          refine gf_X9_47 (q := 67) C rfl dX9_readTree_64 ?_
          refine V_aload_n_0 (q := 68) C rfl dX9_readTree_67 ?_
          refine gf_X9_132 (q := 71) C rfl dX9_readTree_68 ?_
          refine V_iald (q := 72) C i rfl (by show _ < 6; omega) rfl (by decide) (by decide) rfl dX9_readTree_71 ?_
          rw [show (RS σ (upd rk i (kdT (codeT (xT σ f) n p))) rl rq ru rw (nI (f + p)) (nI i) rz) 53 i = (kdT (codeT (xT σ f) n p)) from if_pos rfl]
          refine V_bipush (q := 74) (v := (-9)) C (by decide) rfl dX9_readTree_72 ?_
          refine V_icmp_ne (tgt := 79) C rfl (by decide) dX9_readTree_74 (fun c74 => ?_) (fun c74 => ?_)
          · have hpn := kd_lt c74
            refine V_aload_n_0 (q := 80) C rfl dX9_readTree_79 ?_
            refine V_dup (q := 81) C rfl rfl dX9_readTree_80 ?_
            refine gf_X9_111 (q := 84) C rfl dX9_readTree_81 ?_
            refine V_iconst (q := 85) (v := 1) C rfl rfl dX9_readTree_84 ?_
            refine V_iadd (q := 86) C rfl dX9_readTree_85 ?_
            refine pf_X9_111 (q := 89) C rfl dX9_readTree_86 ?_
            refine V_eq (show _ = RS σ (upd rk i (kdT (codeT (xT σ f) n p))) rl rq ru rw (nI (f + (p + 1))) (nI i) rz by rw [show (RS σ (upd rk i (kdT (codeT (xT σ f) n p))) rl rq ru rw (nI (f + p)) (nI i) rz) 40 16 + 1 = nI (f + (p + 1)) from nI_1 _, RS_x]) ?_
            refine V_aload_n_0 (q := 90) C rfl dX9_readTree_89 ?_
            refine gf_X9_50 (q := 93) C rfl dX9_readTree_90 ?_
            refine V_aload_n_0 (q := 94) C rfl dX9_readTree_93 ?_
            refine gf_X9_132 (q := 97) C rfl dX9_readTree_94 ?_
            refine V_aload_n_0 (q := 98) C rfl dX9_readTree_97 ?_
            refine V_iload_n_1 (q := 99) C rfl dX9_readTree_98 ?_
            refine V_iconst (q := 100) (v := 0) C rfl rfl dX9_readTree_99 ?_
            refine V_iconst (q := 101) (v := 5) C rfl rfl dX9_readTree_100 ?_
            refine V_cV3r (q := 104) C (c_X9_digit σ (upd rk i (kdT (codeT (xT σ f) n p))) rl rq ru rw (nI (f + (p + 1))) (nI i) rz f n (p + 1) 0 5 hf (by omega) rfl (by decide) (by decide)) cw_X9_digit cv_X9_digit wm_X9_149 (by decide) ob_X9 ⟨by decide, by decide⟩ (Nat.le_of_ble_eq_true rfl) rfl dX9_readTree_101 ?_
            refine V_iast (q := 105) C i rfl (by show _ < 6; omega) rfl (by decide) (by decide) rfl dX9_readTree_104 ?_
            refine V_eq (show _ = RS σ (upd rk i (kdT (codeT (xT σ f) n p))) (upd rl i (dgM (xT σ f) n (p + 1) (nI 0) (nI 5))) rq ru rw (nI (f + (dgN (xT σ f) n (p + 1) (nI 0) (nI 5)))) (nI i) rz by show setc (RS σ (upd rk i (kdT (codeT (xT σ f) n p))) rl rq ru rw (nI (f + (dgN (xT σ f) n (p + 1) (nI 0) (nI 5)))) (nI i) rz) 54 (upd rl i _) = _; rw [RS_l]) ?_
            refine V_aload_n_0 (q := 106) C rfl dX9_readTree_105 ?_
            refine gf_X9_50 (q := 109) C rfl dX9_readTree_106 ?_
            refine V_aload_n_0 (q := 110) C rfl dX9_readTree_109 ?_
            refine gf_X9_132 (q := 113) C rfl dX9_readTree_110 ?_
            refine V_iald (q := 114) C i rfl (by show _ < 6; omega) rfl (by decide) (by decide) rfl dX9_readTree_113 ?_
            rw [show (RS σ (upd rk i (kdT (codeT (xT σ f) n p))) (upd rl i (dgM (xT σ f) n (p + 1) (nI 0) (nI 5))) rq ru rw (nI (f + (dgN (xT σ f) n (p + 1) (nI 0) (nI 5)))) (nI i) rz) 54 i = (dgM (xT σ f) n (p + 1) (nI 0) (nI 5)) from if_pos rfl]
            refine V_bipush (q := 116) (v := (-9)) C (by decide) rfl dX9_readTree_114 ?_
            refine V_icmp_ne (tgt := 121) C rfl (by decide) dX9_readTree_116 (fun c116 => ?_) (fun c116 => ?_)
            · have hD : isD (xT σ f) n (p + 1) (nI 0) (nI 5) := Decidable.of_not_not (fun h => c116 ((dg_ne (a := 0) (b := 5) (by decide) (by decide)).mpr h))
              refine V_eq (τ := RS σ (upd rk i (kdT (codeT (xT σ f) n p))) (upd rl i (dgM (xT σ f) n (p + 1) (nI 0) (nI 5))) rq ru rw (nI (f + (p + 2))) (nI i) rz) (by unfold dgN; rw [if_pos hD]) ?_
              refine V_aload_n_0 (q := 122) C rfl dX9_readTree_121 ?_
              refine gf_X9_53 (q := 125) C rfl dX9_readTree_122 ?_
              refine V_aload_n_0 (q := 126) C rfl dX9_readTree_125 ?_
              refine gf_X9_132 (q := 129) C rfl dX9_readTree_126 ?_
              refine V_aload_n_0 (q := 130) C rfl dX9_readTree_129 ?_
              refine V_iload_n_1 (q := 131) C rfl dX9_readTree_130 ?_
              refine V_iconst (q := 132) (v := 1) C rfl rfl dX9_readTree_131 ?_
              refine V_bipush (q := 134) (v := 9) C (by decide) rfl dX9_readTree_132 ?_
              refine V_cV3r (q := 137) C (c_X9_digit σ (upd rk i (kdT (codeT (xT σ f) n p))) (upd rl i (dgM (xT σ f) n (p + 1) (nI 0) (nI 5))) rq ru rw (nI (f + (p + 2))) (nI i) rz f n (p + 2) 1 9 hf (by have := hD.1; omega) rfl (by decide) (by decide)) cw_X9_digit cv_X9_digit wm_X9_149 (by decide) ob_X9 ⟨by decide, by decide⟩ (Nat.le_of_ble_eq_true rfl) rfl dX9_readTree_134 ?_
              refine V_iast (q := 138) C i rfl (by show _ < 6; omega) rfl (by decide) (by decide) rfl dX9_readTree_137 ?_
              refine V_eq (show _ = RS σ (upd rk i (kdT (codeT (xT σ f) n p))) (upd rl i (dgM (xT σ f) n (p + 1) (nI 0) (nI 5))) (upd rq i (dgM (xT σ f) n (p + 2) (nI 1) (nI 9))) ru rw (nI (f + (dgN (xT σ f) n (p + 2) (nI 1) (nI 9)))) (nI i) rz by show setc (RS σ (upd rk i (kdT (codeT (xT σ f) n p))) (upd rl i (dgM (xT σ f) n (p + 1) (nI 0) (nI 5))) rq ru rw (nI (f + (dgN (xT σ f) n (p + 2) (nI 1) (nI 9)))) (nI i) rz) 55 (upd rq i _) = _; rw [RS_n]) ?_
              refine V_aload_n_0 (q := 139) C rfl dX9_readTree_138 ?_
              refine gf_X9_53 (q := 142) C rfl dX9_readTree_139 ?_
              refine V_aload_n_0 (q := 143) C rfl dX9_readTree_142 ?_
              refine gf_X9_132 (q := 146) C rfl dX9_readTree_143 ?_
              refine V_iald (q := 147) C i rfl (by show _ < 6; omega) rfl (by decide) (by decide) rfl dX9_readTree_146 ?_
              rw [show (RS σ (upd rk i (kdT (codeT (xT σ f) n p))) (upd rl i (dgM (xT σ f) n (p + 1) (nI 0) (nI 5))) (upd rq i (dgM (xT σ f) n (p + 2) (nI 1) (nI 9))) ru rw (nI (f + (dgN (xT σ f) n (p + 2) (nI 1) (nI 9)))) (nI i) rz) 55 i = (dgM (xT σ f) n (p + 2) (nI 1) (nI 9)) from if_pos rfl]
              refine V_bipush (q := 149) (v := (-9)) C (by decide) rfl dX9_readTree_147 ?_
              refine V_icmp_eq (tgt := 156) C rfl (by decide) dX9_readTree_149 (fun c149 => ?_) (fun c149 => ?_)
              · refine V_iconst (q := 157) (v := 0) C rfl rfl dX9_readTree_156 ?_
                refine V_zret C hR rfl dX9_readTree_157 ?_
                have hD2 := (dg_ne (a := 1) (b := 9) (by decide) (by decide)).mp c149
                refine ⟨_, rfl, ?_⟩
                unfold rtP
                rw [show rtF (xT σ f) n p = some (p + 2) from by unfold rtF; rw [if_neg c74, if_neg (nn hD)]; exact if_pos hD2]
                exact ⟨rfl, _, _, _, _, _, _, _, by unfold dgN; rw [if_neg hD2]⟩
              · refine V_iconst (q := 153) (v := 1) C rfl rfl dX9_readTree_152 ?_
                refine V_goto (tgt := 157) C (by decide) dX9_readTree_153 ?_
                refine V_zret C hR rfl dX9_readTree_157 ?_
                have hD2 : isD (xT σ f) n (p + 2) (nI 1) (nI 9) := Decidable.of_not_not (fun h => c149 ((dg_ne (a := 1) (b := 9) (by decide) (by decide)).mpr h))
                refine ⟨_, rfl, ?_⟩
                unfold rtP
                rw [show rtF (xT σ f) n p = none from by unfold rtF; rw [if_neg c74, if_neg (nn hD)]; exact if_neg (nn hD2)]
                exact ⟨rfl, by unfold dgN dgM; rw [if_pos hD, if_pos hD2, if_pos hD2]⟩
            · refine V_iconst (q := 120) (v := 0) C rfl rfl dX9_readTree_119 ?_
              refine V_zret C hR rfl dX9_readTree_120 ?_
              have hD := (dg_ne (a := 0) (b := 5) (by decide) (by decide)).mp c116
              refine ⟨_, rfl, ?_⟩
              unfold rtP
              rw [show rtF (xT σ f) n p = some (p + 1) from by unfold rtF; rw [if_neg c74]; exact if_pos hD]
              exact ⟨rfl, _, _, _, _, _, _, _, by unfold dgN; rw [if_neg hD]⟩
          · refine V_iconst (q := 78) (v := 0) C rfl rfl dX9_readTree_77 ?_
            refine V_zret C hR rfl dX9_readTree_78 ?_
            refine ⟨_, rfl, ?_⟩
            unfold rtP
            rw [show rtF (xT σ f) n p = some p from if_pos c74]
            exact ⟨rfl, _, _, _, _, _, _, _, rfl⟩
      · refine V_iconst (q := 47) (v := 1) C rfl rfl dX9_readTree_46 ?_
        refine V_goto (tgt := 62) C (by decide) dX9_readTree_47 ?_
        refine V_topi (fun yy hyy => ?_)
        obtain rfl : yy = (kdT (codeT (xT σ f) n p)) := by
          rw [hyy]
          rw [codeT_x hpn]; unfold kdT; rw [if_neg c33, if_pos c43]
        refine V_iast (q := 63) C i rfl (by show _ < 6; omega) rfl (by decide) (by decide) rfl dX9_readTree_62 ?_
        refine V_eq (show _ = RS σ (upd rk i (kdT (codeT (xT σ f) n p))) rl rq ru rw (nI (f + p)) (nI i) rz by show setc (RS σ rk rl rq ru rw (nI (f + p)) (nI i) rz) 53 (upd rk i _) = _; rw [RS_k]) ?_
        refine V_aload_n_0 (q := 64) C rfl dX9_readTree_63 ?_
        refine gf_X9_47 (q := 67) C rfl dX9_readTree_64 ?_
        refine V_aload_n_0 (q := 68) C rfl dX9_readTree_67 ?_
        refine gf_X9_132 (q := 71) C rfl dX9_readTree_68 ?_
        refine V_iald (q := 72) C i rfl (by show _ < 6; omega) rfl (by decide) (by decide) rfl dX9_readTree_71 ?_
        rw [show (RS σ (upd rk i (kdT (codeT (xT σ f) n p))) rl rq ru rw (nI (f + p)) (nI i) rz) 53 i = (kdT (codeT (xT σ f) n p)) from if_pos rfl]
        refine V_bipush (q := 74) (v := (-9)) C (by decide) rfl dX9_readTree_72 ?_
        refine V_icmp_ne (tgt := 79) C rfl (by decide) dX9_readTree_74 (fun c74 => ?_) (fun c74 => ?_)
        · have hpn := kd_lt c74
          refine V_aload_n_0 (q := 80) C rfl dX9_readTree_79 ?_
          refine V_dup (q := 81) C rfl rfl dX9_readTree_80 ?_
          refine gf_X9_111 (q := 84) C rfl dX9_readTree_81 ?_
          refine V_iconst (q := 85) (v := 1) C rfl rfl dX9_readTree_84 ?_
          refine V_iadd (q := 86) C rfl dX9_readTree_85 ?_
          refine pf_X9_111 (q := 89) C rfl dX9_readTree_86 ?_
          refine V_eq (show _ = RS σ (upd rk i (kdT (codeT (xT σ f) n p))) rl rq ru rw (nI (f + (p + 1))) (nI i) rz by rw [show (RS σ (upd rk i (kdT (codeT (xT σ f) n p))) rl rq ru rw (nI (f + p)) (nI i) rz) 40 16 + 1 = nI (f + (p + 1)) from nI_1 _, RS_x]) ?_
          refine V_aload_n_0 (q := 90) C rfl dX9_readTree_89 ?_
          refine gf_X9_50 (q := 93) C rfl dX9_readTree_90 ?_
          refine V_aload_n_0 (q := 94) C rfl dX9_readTree_93 ?_
          refine gf_X9_132 (q := 97) C rfl dX9_readTree_94 ?_
          refine V_aload_n_0 (q := 98) C rfl dX9_readTree_97 ?_
          refine V_iload_n_1 (q := 99) C rfl dX9_readTree_98 ?_
          refine V_iconst (q := 100) (v := 0) C rfl rfl dX9_readTree_99 ?_
          refine V_iconst (q := 101) (v := 5) C rfl rfl dX9_readTree_100 ?_
          refine V_cV3r (q := 104) C (c_X9_digit σ (upd rk i (kdT (codeT (xT σ f) n p))) rl rq ru rw (nI (f + (p + 1))) (nI i) rz f n (p + 1) 0 5 hf (by omega) rfl (by decide) (by decide)) cw_X9_digit cv_X9_digit wm_X9_149 (by decide) ob_X9 ⟨by decide, by decide⟩ (Nat.le_of_ble_eq_true rfl) rfl dX9_readTree_101 ?_
          refine V_iast (q := 105) C i rfl (by show _ < 6; omega) rfl (by decide) (by decide) rfl dX9_readTree_104 ?_
          refine V_eq (show _ = RS σ (upd rk i (kdT (codeT (xT σ f) n p))) (upd rl i (dgM (xT σ f) n (p + 1) (nI 0) (nI 5))) rq ru rw (nI (f + (dgN (xT σ f) n (p + 1) (nI 0) (nI 5)))) (nI i) rz by show setc (RS σ (upd rk i (kdT (codeT (xT σ f) n p))) rl rq ru rw (nI (f + (dgN (xT σ f) n (p + 1) (nI 0) (nI 5)))) (nI i) rz) 54 (upd rl i _) = _; rw [RS_l]) ?_
          refine V_aload_n_0 (q := 106) C rfl dX9_readTree_105 ?_
          refine gf_X9_50 (q := 109) C rfl dX9_readTree_106 ?_
          refine V_aload_n_0 (q := 110) C rfl dX9_readTree_109 ?_
          refine gf_X9_132 (q := 113) C rfl dX9_readTree_110 ?_
          refine V_iald (q := 114) C i rfl (by show _ < 6; omega) rfl (by decide) (by decide) rfl dX9_readTree_113 ?_
          rw [show (RS σ (upd rk i (kdT (codeT (xT σ f) n p))) (upd rl i (dgM (xT σ f) n (p + 1) (nI 0) (nI 5))) rq ru rw (nI (f + (dgN (xT σ f) n (p + 1) (nI 0) (nI 5)))) (nI i) rz) 54 i = (dgM (xT σ f) n (p + 1) (nI 0) (nI 5)) from if_pos rfl]
          refine V_bipush (q := 116) (v := (-9)) C (by decide) rfl dX9_readTree_114 ?_
          refine V_icmp_ne (tgt := 121) C rfl (by decide) dX9_readTree_116 (fun c116 => ?_) (fun c116 => ?_)
          · have hD : isD (xT σ f) n (p + 1) (nI 0) (nI 5) := Decidable.of_not_not (fun h => c116 ((dg_ne (a := 0) (b := 5) (by decide) (by decide)).mpr h))
            refine V_eq (τ := RS σ (upd rk i (kdT (codeT (xT σ f) n p))) (upd rl i (dgM (xT σ f) n (p + 1) (nI 0) (nI 5))) rq ru rw (nI (f + (p + 2))) (nI i) rz) (by unfold dgN; rw [if_pos hD]) ?_
            refine V_aload_n_0 (q := 122) C rfl dX9_readTree_121 ?_
            refine gf_X9_53 (q := 125) C rfl dX9_readTree_122 ?_
            refine V_aload_n_0 (q := 126) C rfl dX9_readTree_125 ?_
            refine gf_X9_132 (q := 129) C rfl dX9_readTree_126 ?_
            refine V_aload_n_0 (q := 130) C rfl dX9_readTree_129 ?_
            refine V_iload_n_1 (q := 131) C rfl dX9_readTree_130 ?_
            refine V_iconst (q := 132) (v := 1) C rfl rfl dX9_readTree_131 ?_
            refine V_bipush (q := 134) (v := 9) C (by decide) rfl dX9_readTree_132 ?_
            refine V_cV3r (q := 137) C (c_X9_digit σ (upd rk i (kdT (codeT (xT σ f) n p))) (upd rl i (dgM (xT σ f) n (p + 1) (nI 0) (nI 5))) rq ru rw (nI (f + (p + 2))) (nI i) rz f n (p + 2) 1 9 hf (by have := hD.1; omega) rfl (by decide) (by decide)) cw_X9_digit cv_X9_digit wm_X9_149 (by decide) ob_X9 ⟨by decide, by decide⟩ (Nat.le_of_ble_eq_true rfl) rfl dX9_readTree_134 ?_
            refine V_iast (q := 138) C i rfl (by show _ < 6; omega) rfl (by decide) (by decide) rfl dX9_readTree_137 ?_
            refine V_eq (show _ = RS σ (upd rk i (kdT (codeT (xT σ f) n p))) (upd rl i (dgM (xT σ f) n (p + 1) (nI 0) (nI 5))) (upd rq i (dgM (xT σ f) n (p + 2) (nI 1) (nI 9))) ru rw (nI (f + (dgN (xT σ f) n (p + 2) (nI 1) (nI 9)))) (nI i) rz by show setc (RS σ (upd rk i (kdT (codeT (xT σ f) n p))) (upd rl i (dgM (xT σ f) n (p + 1) (nI 0) (nI 5))) rq ru rw (nI (f + (dgN (xT σ f) n (p + 2) (nI 1) (nI 9)))) (nI i) rz) 55 (upd rq i _) = _; rw [RS_n]) ?_
            refine V_aload_n_0 (q := 139) C rfl dX9_readTree_138 ?_
            refine gf_X9_53 (q := 142) C rfl dX9_readTree_139 ?_
            refine V_aload_n_0 (q := 143) C rfl dX9_readTree_142 ?_
            refine gf_X9_132 (q := 146) C rfl dX9_readTree_143 ?_
            refine V_iald (q := 147) C i rfl (by show _ < 6; omega) rfl (by decide) (by decide) rfl dX9_readTree_146 ?_
            rw [show (RS σ (upd rk i (kdT (codeT (xT σ f) n p))) (upd rl i (dgM (xT σ f) n (p + 1) (nI 0) (nI 5))) (upd rq i (dgM (xT σ f) n (p + 2) (nI 1) (nI 9))) ru rw (nI (f + (dgN (xT σ f) n (p + 2) (nI 1) (nI 9)))) (nI i) rz) 55 i = (dgM (xT σ f) n (p + 2) (nI 1) (nI 9)) from if_pos rfl]
            refine V_bipush (q := 149) (v := (-9)) C (by decide) rfl dX9_readTree_147 ?_
            refine V_icmp_eq (tgt := 156) C rfl (by decide) dX9_readTree_149 (fun c149 => ?_) (fun c149 => ?_)
            · refine V_iconst (q := 157) (v := 0) C rfl rfl dX9_readTree_156 ?_
              refine V_zret C hR rfl dX9_readTree_157 ?_
              have hD2 := (dg_ne (a := 1) (b := 9) (by decide) (by decide)).mp c149
              refine ⟨_, rfl, ?_⟩
              unfold rtP
              rw [show rtF (xT σ f) n p = some (p + 2) from by unfold rtF; rw [if_neg c74, if_neg (nn hD)]; exact if_pos hD2]
              exact ⟨rfl, _, _, _, _, _, _, _, by unfold dgN; rw [if_neg hD2]⟩
            · refine V_iconst (q := 153) (v := 1) C rfl rfl dX9_readTree_152 ?_
              refine V_goto (tgt := 157) C (by decide) dX9_readTree_153 ?_
              refine V_zret C hR rfl dX9_readTree_157 ?_
              have hD2 : isD (xT σ f) n (p + 2) (nI 1) (nI 9) := Decidable.of_not_not (fun h => c149 ((dg_ne (a := 1) (b := 9) (by decide) (by decide)).mpr h))
              refine ⟨_, rfl, ?_⟩
              unfold rtP
              rw [show rtF (xT σ f) n p = none from by unfold rtF; rw [if_neg c74, if_neg (nn hD)]; exact if_neg (nn hD2)]
              exact ⟨rfl, by unfold dgN dgM; rw [if_pos hD, if_pos hD2, if_pos hD2]⟩
          · refine V_iconst (q := 120) (v := 0) C rfl rfl dX9_readTree_119 ?_
            refine V_zret C hR rfl dX9_readTree_120 ?_
            have hD := (dg_ne (a := 0) (b := 5) (by decide) (by decide)).mp c116
            refine ⟨_, rfl, ?_⟩
            unfold rtP
            rw [show rtF (xT σ f) n p = some (p + 1) from by unfold rtF; rw [if_neg c74]; exact if_pos hD]
            exact ⟨rfl, _, _, _, _, _, _, _, by unfold dgN; rw [if_neg hD]⟩
        · refine V_iconst (q := 78) (v := 0) C rfl rfl dX9_readTree_77 ?_
          refine V_zret C hR rfl dX9_readTree_78 ?_
          refine ⟨_, rfl, ?_⟩
          unfold rtP
          rw [show rtF (xT σ f) n p = some p from if_pos c74]
          exact ⟨rfl, _, _, _, _, _, _, _, rfl⟩
    · refine V_iconst (q := 37) (v := 0) C rfl rfl dX9_readTree_36 ?_
      refine V_goto (tgt := 62) C (by decide) dX9_readTree_37 ?_
      refine V_topi (fun yy hyy => ?_)
      obtain rfl : yy = (kdT (codeT (xT σ f) n p)) := by
        rw [hyy]
        rw [codeT_x hpn]; unfold kdT; rw [if_pos c33]
      refine V_iast (q := 63) C i rfl (by show _ < 6; omega) rfl (by decide) (by decide) rfl dX9_readTree_62 ?_
      refine V_eq (show _ = RS σ (upd rk i (kdT (codeT (xT σ f) n p))) rl rq ru rw (nI (f + p)) (nI i) rz by show setc (RS σ rk rl rq ru rw (nI (f + p)) (nI i) rz) 53 (upd rk i _) = _; rw [RS_k]) ?_
      refine V_aload_n_0 (q := 64) C rfl dX9_readTree_63 ?_
      refine gf_X9_47 (q := 67) C rfl dX9_readTree_64 ?_
      refine V_aload_n_0 (q := 68) C rfl dX9_readTree_67 ?_
      refine gf_X9_132 (q := 71) C rfl dX9_readTree_68 ?_
      refine V_iald (q := 72) C i rfl (by show _ < 6; omega) rfl (by decide) (by decide) rfl dX9_readTree_71 ?_
      rw [show (RS σ (upd rk i (kdT (codeT (xT σ f) n p))) rl rq ru rw (nI (f + p)) (nI i) rz) 53 i = (kdT (codeT (xT σ f) n p)) from if_pos rfl]
      refine V_bipush (q := 74) (v := (-9)) C (by decide) rfl dX9_readTree_72 ?_
      refine V_icmp_ne (tgt := 79) C rfl (by decide) dX9_readTree_74 (fun c74 => ?_) (fun c74 => ?_)
      · have hpn := kd_lt c74
        refine V_aload_n_0 (q := 80) C rfl dX9_readTree_79 ?_
        refine V_dup (q := 81) C rfl rfl dX9_readTree_80 ?_
        refine gf_X9_111 (q := 84) C rfl dX9_readTree_81 ?_
        refine V_iconst (q := 85) (v := 1) C rfl rfl dX9_readTree_84 ?_
        refine V_iadd (q := 86) C rfl dX9_readTree_85 ?_
        refine pf_X9_111 (q := 89) C rfl dX9_readTree_86 ?_
        refine V_eq (show _ = RS σ (upd rk i (kdT (codeT (xT σ f) n p))) rl rq ru rw (nI (f + (p + 1))) (nI i) rz by rw [show (RS σ (upd rk i (kdT (codeT (xT σ f) n p))) rl rq ru rw (nI (f + p)) (nI i) rz) 40 16 + 1 = nI (f + (p + 1)) from nI_1 _, RS_x]) ?_
        refine V_aload_n_0 (q := 90) C rfl dX9_readTree_89 ?_
        refine gf_X9_50 (q := 93) C rfl dX9_readTree_90 ?_
        refine V_aload_n_0 (q := 94) C rfl dX9_readTree_93 ?_
        refine gf_X9_132 (q := 97) C rfl dX9_readTree_94 ?_
        refine V_aload_n_0 (q := 98) C rfl dX9_readTree_97 ?_
        refine V_iload_n_1 (q := 99) C rfl dX9_readTree_98 ?_
        refine V_iconst (q := 100) (v := 0) C rfl rfl dX9_readTree_99 ?_
        refine V_iconst (q := 101) (v := 5) C rfl rfl dX9_readTree_100 ?_
        refine V_cV3r (q := 104) C (c_X9_digit σ (upd rk i (kdT (codeT (xT σ f) n p))) rl rq ru rw (nI (f + (p + 1))) (nI i) rz f n (p + 1) 0 5 hf (by omega) rfl (by decide) (by decide)) cw_X9_digit cv_X9_digit wm_X9_149 (by decide) ob_X9 ⟨by decide, by decide⟩ (Nat.le_of_ble_eq_true rfl) rfl dX9_readTree_101 ?_
        refine V_iast (q := 105) C i rfl (by show _ < 6; omega) rfl (by decide) (by decide) rfl dX9_readTree_104 ?_
        refine V_eq (show _ = RS σ (upd rk i (kdT (codeT (xT σ f) n p))) (upd rl i (dgM (xT σ f) n (p + 1) (nI 0) (nI 5))) rq ru rw (nI (f + (dgN (xT σ f) n (p + 1) (nI 0) (nI 5)))) (nI i) rz by show setc (RS σ (upd rk i (kdT (codeT (xT σ f) n p))) rl rq ru rw (nI (f + (dgN (xT σ f) n (p + 1) (nI 0) (nI 5)))) (nI i) rz) 54 (upd rl i _) = _; rw [RS_l]) ?_
        refine V_aload_n_0 (q := 106) C rfl dX9_readTree_105 ?_
        refine gf_X9_50 (q := 109) C rfl dX9_readTree_106 ?_
        refine V_aload_n_0 (q := 110) C rfl dX9_readTree_109 ?_
        refine gf_X9_132 (q := 113) C rfl dX9_readTree_110 ?_
        refine V_iald (q := 114) C i rfl (by show _ < 6; omega) rfl (by decide) (by decide) rfl dX9_readTree_113 ?_
        rw [show (RS σ (upd rk i (kdT (codeT (xT σ f) n p))) (upd rl i (dgM (xT σ f) n (p + 1) (nI 0) (nI 5))) rq ru rw (nI (f + (dgN (xT σ f) n (p + 1) (nI 0) (nI 5)))) (nI i) rz) 54 i = (dgM (xT σ f) n (p + 1) (nI 0) (nI 5)) from if_pos rfl]
        refine V_bipush (q := 116) (v := (-9)) C (by decide) rfl dX9_readTree_114 ?_
        refine V_icmp_ne (tgt := 121) C rfl (by decide) dX9_readTree_116 (fun c116 => ?_) (fun c116 => ?_)
        · have hD : isD (xT σ f) n (p + 1) (nI 0) (nI 5) := Decidable.of_not_not (fun h => c116 ((dg_ne (a := 0) (b := 5) (by decide) (by decide)).mpr h))
          refine V_eq (τ := RS σ (upd rk i (kdT (codeT (xT σ f) n p))) (upd rl i (dgM (xT σ f) n (p + 1) (nI 0) (nI 5))) rq ru rw (nI (f + (p + 2))) (nI i) rz) (by unfold dgN; rw [if_pos hD]) ?_
          refine V_aload_n_0 (q := 122) C rfl dX9_readTree_121 ?_
          refine gf_X9_53 (q := 125) C rfl dX9_readTree_122 ?_
          refine V_aload_n_0 (q := 126) C rfl dX9_readTree_125 ?_
          refine gf_X9_132 (q := 129) C rfl dX9_readTree_126 ?_
          refine V_aload_n_0 (q := 130) C rfl dX9_readTree_129 ?_
          refine V_iload_n_1 (q := 131) C rfl dX9_readTree_130 ?_
          refine V_iconst (q := 132) (v := 1) C rfl rfl dX9_readTree_131 ?_
          refine V_bipush (q := 134) (v := 9) C (by decide) rfl dX9_readTree_132 ?_
          refine V_cV3r (q := 137) C (c_X9_digit σ (upd rk i (kdT (codeT (xT σ f) n p))) (upd rl i (dgM (xT σ f) n (p + 1) (nI 0) (nI 5))) rq ru rw (nI (f + (p + 2))) (nI i) rz f n (p + 2) 1 9 hf (by have := hD.1; omega) rfl (by decide) (by decide)) cw_X9_digit cv_X9_digit wm_X9_149 (by decide) ob_X9 ⟨by decide, by decide⟩ (Nat.le_of_ble_eq_true rfl) rfl dX9_readTree_134 ?_
          refine V_iast (q := 138) C i rfl (by show _ < 6; omega) rfl (by decide) (by decide) rfl dX9_readTree_137 ?_
          refine V_eq (show _ = RS σ (upd rk i (kdT (codeT (xT σ f) n p))) (upd rl i (dgM (xT σ f) n (p + 1) (nI 0) (nI 5))) (upd rq i (dgM (xT σ f) n (p + 2) (nI 1) (nI 9))) ru rw (nI (f + (dgN (xT σ f) n (p + 2) (nI 1) (nI 9)))) (nI i) rz by show setc (RS σ (upd rk i (kdT (codeT (xT σ f) n p))) (upd rl i (dgM (xT σ f) n (p + 1) (nI 0) (nI 5))) rq ru rw (nI (f + (dgN (xT σ f) n (p + 2) (nI 1) (nI 9)))) (nI i) rz) 55 (upd rq i _) = _; rw [RS_n]) ?_
          refine V_aload_n_0 (q := 139) C rfl dX9_readTree_138 ?_
          refine gf_X9_53 (q := 142) C rfl dX9_readTree_139 ?_
          refine V_aload_n_0 (q := 143) C rfl dX9_readTree_142 ?_
          refine gf_X9_132 (q := 146) C rfl dX9_readTree_143 ?_
          refine V_iald (q := 147) C i rfl (by show _ < 6; omega) rfl (by decide) (by decide) rfl dX9_readTree_146 ?_
          rw [show (RS σ (upd rk i (kdT (codeT (xT σ f) n p))) (upd rl i (dgM (xT σ f) n (p + 1) (nI 0) (nI 5))) (upd rq i (dgM (xT σ f) n (p + 2) (nI 1) (nI 9))) ru rw (nI (f + (dgN (xT σ f) n (p + 2) (nI 1) (nI 9)))) (nI i) rz) 55 i = (dgM (xT σ f) n (p + 2) (nI 1) (nI 9)) from if_pos rfl]
          refine V_bipush (q := 149) (v := (-9)) C (by decide) rfl dX9_readTree_147 ?_
          refine V_icmp_eq (tgt := 156) C rfl (by decide) dX9_readTree_149 (fun c149 => ?_) (fun c149 => ?_)
          · refine V_iconst (q := 157) (v := 0) C rfl rfl dX9_readTree_156 ?_
            refine V_zret C hR rfl dX9_readTree_157 ?_
            have hD2 := (dg_ne (a := 1) (b := 9) (by decide) (by decide)).mp c149
            refine ⟨_, rfl, ?_⟩
            unfold rtP
            rw [show rtF (xT σ f) n p = some (p + 2) from by unfold rtF; rw [if_neg c74, if_neg (nn hD)]; exact if_pos hD2]
            exact ⟨rfl, _, _, _, _, _, _, _, by unfold dgN; rw [if_neg hD2]⟩
          · refine V_iconst (q := 153) (v := 1) C rfl rfl dX9_readTree_152 ?_
            refine V_goto (tgt := 157) C (by decide) dX9_readTree_153 ?_
            refine V_zret C hR rfl dX9_readTree_157 ?_
            have hD2 : isD (xT σ f) n (p + 2) (nI 1) (nI 9) := Decidable.of_not_not (fun h => c149 ((dg_ne (a := 1) (b := 9) (by decide) (by decide)).mpr h))
            refine ⟨_, rfl, ?_⟩
            unfold rtP
            rw [show rtF (xT σ f) n p = none from by unfold rtF; rw [if_neg c74, if_neg (nn hD)]; exact if_neg (nn hD2)]
            exact ⟨rfl, by unfold dgN dgM; rw [if_pos hD, if_pos hD2, if_pos hD2]⟩
        · refine V_iconst (q := 120) (v := 0) C rfl rfl dX9_readTree_119 ?_
          refine V_zret C hR rfl dX9_readTree_120 ?_
          have hD := (dg_ne (a := 0) (b := 5) (by decide) (by decide)).mp c116
          refine ⟨_, rfl, ?_⟩
          unfold rtP
          rw [show rtF (xT σ f) n p = some (p + 1) from by unfold rtF; rw [if_neg c74]; exact if_pos hD]
          exact ⟨rfl, _, _, _, _, _, _, _, by unfold dgN; rw [if_neg hD]⟩
      · refine V_iconst (q := 78) (v := 0) C rfl rfl dX9_readTree_77 ?_
        refine V_zret C hR rfl dX9_readTree_78 ?_
        refine ⟨_, rfl, ?_⟩
        unfold rtP
        rw [show rtF (xT σ f) n p = some p from if_pos c74]
        exact ⟨rfl, _, _, _, _, _, _, _, rfl⟩

set_option maxHeartbeats 4000000 in
set_option maxRecDepth 100000 in
theorem c_X9_readPrisoner {l : Launch} {D : DD} {ad : Nat → Nat} (σ : ST) (rk rl rq ru rw : Nat → Int32) (ry : Int32) (f n p j : Nat) (hf : f + n ≤ 200) (hp : p ≤ n) (hj : j < 6) : Ct l yX9_readPrisoner cX9_readPrisoner 4 (Option.some FieldType.boolean) 2 45 D ad [.ref (ad 40), .int (nI (f + n))] (RS σ rk rl rq ru rw (nI (f + p)) ry (nI j)) (pq (rpP σ rk rl rq ru rw ry (nI j) f n p j)) := by
  refine Ct.of2 [.ref (ad 40), .int (nI (f + n)), .float 0, .float 0] rfl (Nat.le_of_ble_eq_true rfl) rfl ?_
  rintro X C rfl rfl rfl hxn hR
  have hn2 : 2 < xn X := by rw [← hxn]; decide
  have hn3 : 3 < xn X := by rw [← hxn]; decide
  refine V_aload_n_0 (q := 1) C rfl dX9_readPrisoner_0 ?_
  refine gf_X9_56 (q := 4) C rfl dX9_readPrisoner_1 ?_
  refine V_aload_n_0 (q := 5) C rfl dX9_readPrisoner_4 ?_
  refine gf_X9_135 (q := 8) C rfl dX9_readPrisoner_5 ?_
  refine V_aload_n_0 (q := 9) C rfl dX9_readPrisoner_8 ?_
  refine V_iload_n_1 (q := 10) C rfl dX9_readPrisoner_9 ?_
  refine V_iconst (q := 11) (v := 0) C rfl rfl dX9_readPrisoner_10 ?_
  refine V_iconst (q := 12) (v := 5) C rfl rfl dX9_readPrisoner_11 ?_
  refine V_cV3r (q := 15) C (c_X9_digit σ rk rl rq ru rw (nI (f + p)) ry (nI j) f n p 0 5 hf hp rfl (by decide) (by decide)) cw_X9_digit cv_X9_digit wm_X9_149 (by decide) ob_X9 ⟨by decide, by decide⟩ (Nat.le_of_ble_eq_true rfl) rfl dX9_readPrisoner_12 ?_
  refine V_iast (q := 16) C j rfl (by show _ < 6; omega) rfl (by decide) (by decide) rfl dX9_readPrisoner_15 ?_
  refine V_eq (show _ = RS σ rk rl rq (upd ru j (dgM (xT σ f) n p (nI 0) (nI 5))) rw (nI (f + (dgN (xT σ f) n p (nI 0) (nI 5)))) ry (nI j) by show setc (RS σ rk rl rq ru rw (nI (f + (dgN (xT σ f) n p (nI 0) (nI 5)))) ry (nI j)) 56 (upd ru j _) = _; rw [RS_p]) ?_
  refine V_aload_n_0 (q := 17) C rfl dX9_readPrisoner_16 ?_
  refine gf_X9_56 (q := 20) C rfl dX9_readPrisoner_17 ?_
  refine V_aload_n_0 (q := 21) C rfl dX9_readPrisoner_20 ?_
  refine gf_X9_135 (q := 24) C rfl dX9_readPrisoner_21 ?_
  refine V_iald (q := 25) C j rfl (by show _ < 6; omega) rfl (by decide) (by decide) rfl dX9_readPrisoner_24 ?_
  rw [show (RS σ rk rl rq (upd ru j (dgM (xT σ f) n p (nI 0) (nI 5))) rw (nI (f + (dgN (xT σ f) n p (nI 0) (nI 5)))) ry (nI j)) 56 j = (dgM (xT σ f) n p (nI 0) (nI 5)) from if_pos rfl]
  refine V_bipush (q := 27) (v := (-9)) C (by decide) rfl dX9_readPrisoner_25 ?_
  refine V_icmp_ne (tgt := 32) C rfl (by decide) dX9_readPrisoner_27 (fun c27 => ?_) (fun c27 => ?_)
  · have hD : isD (xT σ f) n p (nI 0) (nI 5) := Decidable.of_not_not (fun h => c27 ((dg_ne (a := 0) (b := 5) (by decide) (by decide)).mpr h))
    refine V_eq (τ := RS σ rk rl rq (upd ru j (dgM (xT σ f) n p (nI 0) (nI 5))) rw (nI (f + (p + 1))) ry (nI j)) (by unfold dgN; rw [if_pos hD]) ?_
    refine V_aload_n_0 (q := 33) C rfl dX9_readPrisoner_32 ?_
    refine V_iload_n_1 (q := 34) C rfl dX9_readPrisoner_33 ?_
    refine V_iconst (q := 35) (v := 0) C rfl rfl dX9_readPrisoner_34 ?_
    refine V_iconst (q := 36) (v := 2) C rfl rfl dX9_readPrisoner_35 ?_
    refine V_cV3r (q := 39) C (c_X9_digit σ rk rl rq (upd ru j (dgM (xT σ f) n p (nI 0) (nI 5))) rw (nI (f + (p + 1))) ry (nI j) f n (p + 1) 0 2 hf (by have := hD.1; omega) rfl (by decide) (by decide)) cw_X9_digit cv_X9_digit wm_X9_149 (by decide) ob_X9 ⟨by decide, by decide⟩ (Nat.le_of_ble_eq_true rfl) rfl dX9_readPrisoner_36 ?_
    refine V_istore_n_2 (q := 40) C hn2 rfl rfl dX9_readPrisoner_39 ?_
    refine V_iload_n_2 (q := 41) C rfl dX9_readPrisoner_40 ?_
    refine V_bipush (q := 43) (v := (-9)) C (by decide) rfl dX9_readPrisoner_41 ?_
    refine V_icmp_ne (tgt := 48) C rfl (by decide) dX9_readPrisoner_43 (fun c43 => ?_) (fun c43 => ?_)
    · have hD2 : isD (xT σ f) n (p + 1) (nI 0) (nI 2) := Decidable.of_not_not (fun h => c43 ((dg_ne (a := 0) (b := 2) (by decide) (by decide)).mpr h))
      refine V_eq (τ := RS σ rk rl rq (upd ru j (dgM (xT σ f) n p (nI 0) (nI 5))) rw (nI (f + (p + 2))) ry (nI j)) (by unfold dgN; rw [if_pos hD2]) ?_
      refine V_aload_n_0 (q := 49) C rfl dX9_readPrisoner_48 ?_
      refine V_iload_n_1 (q := 50) C rfl dX9_readPrisoner_49 ?_
      refine V_iconst (q := 51) (v := 0) C rfl rfl dX9_readPrisoner_50 ?_
      refine V_bipush (q := 53) (v := 9) C (by decide) rfl dX9_readPrisoner_51 ?_
      refine V_cV3r (q := 56) C (c_X9_digit σ rk rl rq (upd ru j (dgM (xT σ f) n p (nI 0) (nI 5))) rw (nI (f + (p + 2))) ry (nI j) f n (p + 2) 0 9 hf (by have := hD2.1; omega) rfl (by decide) (by decide)) cw_X9_digit cv_X9_digit wm_X9_149 (by decide) ob_X9 ⟨by decide, by decide⟩ (Nat.le_of_ble_eq_true rfl) rfl dX9_readPrisoner_53 ?_
      refine V_istore_n_3 (q := 57) C hn3 rfl rfl dX9_readPrisoner_56 ?_
      refine V_aload_n_0 (q := 58) C rfl dX9_readPrisoner_57 ?_
      refine gf_X9_59 (q := 61) C rfl dX9_readPrisoner_58 ?_
      refine V_aload_n_0 (q := 62) C rfl dX9_readPrisoner_61 ?_
      refine gf_X9_135 (q := 65) C rfl dX9_readPrisoner_62 ?_
      refine V_bipush (q := 67) (v := 10) C (by decide) rfl dX9_readPrisoner_65 ?_
      refine V_iload_n_2 (q := 68) C rfl dX9_readPrisoner_67 ?_
      refine V_imul (q := 69) C rfl dX9_readPrisoner_68 ?_
      refine V_iload_n_3 (q := 70) C rfl dX9_readPrisoner_69 ?_
      refine V_iadd (q := 71) C rfl dX9_readPrisoner_70 ?_
      refine V_iast (q := 72) C j rfl (by show _ < 6; omega) rfl (by decide) (by decide) rfl dX9_readPrisoner_71 ?_
      refine V_eq (show _ = RS σ rk rl rq (upd ru j (dgM (xT σ f) n p (nI 0) (nI 5))) (upd rw j (10 * (dgM (xT σ f) n (p + 1) (nI 0) (nI 2)) + (dgM (xT σ f) n (p + 2) (nI 0) (nI 9)))) (nI (f + (dgN (xT σ f) n (p + 2) (nI 0) (nI 9)))) ry (nI j) by show setc (RS σ rk rl rq (upd ru j (dgM (xT σ f) n p (nI 0) (nI 5))) rw (nI (f + (dgN (xT σ f) n (p + 2) (nI 0) (nI 9)))) ry (nI j)) 57 (upd rw j _) = _; rw [RS_t]) ?_
      refine V_iload_n_3 (q := 73) C rfl dX9_readPrisoner_72 ?_
      refine V_bipush (q := 75) (v := (-9)) C (by decide) rfl dX9_readPrisoner_73 ?_
      refine V_icmp_eq (tgt := 82) C rfl (by decide) dX9_readPrisoner_75 (fun c75 => ?_) (fun c75 => ?_)
      · refine V_iconst (q := 83) (v := 0) C rfl rfl dX9_readPrisoner_82 ?_
        refine V_zret C hR rfl dX9_readPrisoner_83 ?_
        have hD3 := (dg_ne (a := 0) (b := 9) (by decide) (by decide)).mp c75
        refine ⟨_, rfl, ?_⟩
        unfold rpP
        rw [show rpF (xT σ f) n p = some (p + 2) from by unfold rpF; rw [if_neg (nn hD), if_neg (nn hD2)]; exact if_pos hD3]
        exact ⟨rfl, _, _, _, _, _, _, _, by unfold dgN; rw [if_neg hD3]⟩
      · refine V_iconst (q := 79) (v := 1) C rfl rfl dX9_readPrisoner_78 ?_
        refine V_goto (tgt := 83) C (by decide) dX9_readPrisoner_79 ?_
        refine V_zret C hR rfl dX9_readPrisoner_83 ?_
        have hD3 : isD (xT σ f) n (p + 2) (nI 0) (nI 9) := Decidable.of_not_not (fun h => c75 ((dg_ne (a := 0) (b := 9) (by decide) (by decide)).mpr h))
        refine ⟨_, rfl, ?_⟩
        unfold rpP
        rw [show rpF (xT σ f) n p = none from by unfold rpF; rw [if_neg (nn hD), if_neg (nn hD2)]; exact if_neg (nn hD3)]
        exact ⟨rfl, by unfold dgN dgM; rw [if_pos hD, if_pos hD2, if_pos hD3, if_pos hD3]⟩
    · refine V_iconst (q := 47) (v := 0) C rfl rfl dX9_readPrisoner_46 ?_
      refine V_zret C hR rfl dX9_readPrisoner_47 ?_
      have hD2 := (dg_ne (a := 0) (b := 2) (by decide) (by decide)).mp c43
      refine ⟨_, rfl, ?_⟩
      unfold rpP
      rw [show rpF (xT σ f) n p = some (p + 1) from by unfold rpF; rw [if_neg (nn hD)]; exact if_pos hD2]
      exact ⟨rfl, _, _, _, _, _, _, _, by unfold dgN; rw [if_neg hD2]⟩
  · refine V_iconst (q := 31) (v := 0) C rfl rfl dX9_readPrisoner_30 ?_
    refine V_zret C hR rfl dX9_readPrisoner_31 ?_
    have hD := (dg_ne (a := 0) (b := 5) (by decide) (by decide)).mp c27
    refine ⟨_, rfl, ?_⟩
    unfold rpP
    rw [show rpF (xT σ f) n p = some p from if_pos hD]
    exact ⟨rfl, _, _, _, _, _, _, _, by unfold dgN; rw [if_neg hD]⟩

