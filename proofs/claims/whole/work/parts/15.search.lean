/-! the class: the search -/
def pq (Q : Int32 → ST → Prop) : Option Value → ST → Prop := fun v σ => ∃ r : Int32, v = some (.int r) ∧ Q r σ
def pv (Q : ST → Prop) : Option Value → ST → Prop := fun v σ => v = none ∧ Q σ
theorem V_cV0q {X : CT} {own : String} {cc : ByteArray} {ret : Option FieldType} {fr lo : Nat} {pc q : Nat} {lv rest : List Value} {σ : ST} (C : Cx X own cc ret fr lo) {y : MethodName} {yc : ByteArray} {n idx k fr2 lo2 : Nat} {yret : Option FieldType} {Q : Int32 → ST → Prop} (hM : Ct (xl X) y yc n yret fr2 lo2 (xD X) (xad X) (.ref (xad X k) :: []) σ (pq Q)) (hw : Cw y yc n yret 0) (hv : CwV y) (hlink : Cond.methodLink own idx y ∈ TT) (hk : k < 68) (hobj : ∃ (ci : Nat) (fs : List Value) (z : vw_C), cellF (xD X) (xad X) k (σ k) = .inr (ci, fs) ∧ vwCl[ci]? = some z ∧ z.1 = y.cls) (hroom : fr2 + 1 ≤ fr ∧ 8 + (n + 11) + lo2 ≤ lo) (hcat : (rest.map fun v => v.category).sum ≤ 8) (hq : pc + 3 = q) (hdg : decode cc pc = .ok (.invokevirtual idx, 3)) (kk : ∀ (r : Int32) (τ : ST), Q r τ → V X q lv (.int r :: rest) τ) : V X pc lv (.ref (xad X k) :: rest) σ := V_callV C (As := []) hM hw hv hlink hk hobj hroom rfl rfl hcat hq hdg (fun v σ2 h => by obtain ⟨r, rfl, h2⟩ := h; exact kk r σ2 h2)
theorem V_cV0p {X : CT} {own : String} {cc : ByteArray} {ret : Option FieldType} {fr lo : Nat} {pc q : Nat} {lv rest : List Value} {σ : ST} (C : Cx X own cc ret fr lo) {y : MethodName} {yc : ByteArray} {n idx k fr2 lo2 : Nat} {yret : Option FieldType} {Q : ST → Prop} (hM : Ct (xl X) y yc n yret fr2 lo2 (xD X) (xad X) (.ref (xad X k) :: []) σ (pv Q)) (hw : Cw y yc n yret 0) (hv : CwV y) (hlink : Cond.methodLink own idx y ∈ TT) (hk : k < 68) (hobj : ∃ (ci : Nat) (fs : List Value) (z : vw_C), cellF (xD X) (xad X) k (σ k) = .inr (ci, fs) ∧ vwCl[ci]? = some z ∧ z.1 = y.cls) (hroom : fr2 + 1 ≤ fr ∧ 8 + (n + 11) + lo2 ≤ lo) (hcat : (rest.map fun v => v.category).sum ≤ 8) (hq : pc + 3 = q) (hdg : decode cc pc = .ok (.invokevirtual idx, 3)) (kk : ∀ (τ : ST), Q τ → V X q lv rest τ) : V X pc lv (.ref (xad X k) :: rest) σ := V_callV C (As := []) hM hw hv hlink hk hobj hroom rfl rfl hcat hq hdg (fun v σ2 h => by obtain ⟨rfl, h2⟩ := h; exact kk σ2 h2)
theorem V_cV1q {X : CT} {own : String} {cc : ByteArray} {ret : Option FieldType} {fr lo : Nat} {pc q : Nat} {lv rest : List Value} {σ : ST} (C : Cx X own cc ret fr lo) {y : MethodName} {yc : ByteArray} {n idx k fr2 lo2 : Nat} {yret : Option FieldType} {a0 : Value} {Q : Int32 → ST → Prop} (hM : Ct (xl X) y yc n yret fr2 lo2 (xD X) (xad X) (.ref (xad X k) :: [a0]) σ (pq Q)) (hw : Cw y yc n yret 1) (hv : CwV y) (hlink : Cond.methodLink own idx y ∈ TT) (hk : k < 68) (hobj : ∃ (ci : Nat) (fs : List Value) (z : vw_C), cellF (xD X) (xad X) k (σ k) = .inr (ci, fs) ∧ vwCl[ci]? = some z ∧ z.1 = y.cls) (hroom : fr2 + 1 ≤ fr ∧ 8 + (n + 11) + lo2 ≤ lo) (hcat : (rest.map fun v => v.category).sum ≤ 8) (hq : pc + 3 = q) (hdg : decode cc pc = .ok (.invokevirtual idx, 3)) (kk : ∀ (r : Int32) (τ : ST), Q r τ → V X q lv (.int r :: rest) τ) : V X pc lv (a0 :: .ref (xad X k) :: rest) σ := V_callV C (As := [a0]) hM hw hv hlink hk hobj hroom rfl rfl hcat hq hdg (fun v σ2 h => by obtain ⟨r, rfl, h2⟩ := h; exact kk r σ2 h2)
theorem V_cV1p {X : CT} {own : String} {cc : ByteArray} {ret : Option FieldType} {fr lo : Nat} {pc q : Nat} {lv rest : List Value} {σ : ST} (C : Cx X own cc ret fr lo) {y : MethodName} {yc : ByteArray} {n idx k fr2 lo2 : Nat} {yret : Option FieldType} {a0 : Value} {Q : ST → Prop} (hM : Ct (xl X) y yc n yret fr2 lo2 (xD X) (xad X) (.ref (xad X k) :: [a0]) σ (pv Q)) (hw : Cw y yc n yret 1) (hv : CwV y) (hlink : Cond.methodLink own idx y ∈ TT) (hk : k < 68) (hobj : ∃ (ci : Nat) (fs : List Value) (z : vw_C), cellF (xD X) (xad X) k (σ k) = .inr (ci, fs) ∧ vwCl[ci]? = some z ∧ z.1 = y.cls) (hroom : fr2 + 1 ≤ fr ∧ 8 + (n + 11) + lo2 ≤ lo) (hcat : (rest.map fun v => v.category).sum ≤ 8) (hq : pc + 3 = q) (hdg : decode cc pc = .ok (.invokevirtual idx, 3)) (kk : ∀ (τ : ST), Q τ → V X q lv rest τ) : V X pc lv (a0 :: .ref (xad X k) :: rest) σ := V_callV C (As := [a0]) hM hw hv hlink hk hobj hroom rfl rfl hcat hq hdg (fun v σ2 h => by obtain ⟨rfl, h2⟩ := h; exact kk σ2 h2)
theorem V_cV2q {X : CT} {own : String} {cc : ByteArray} {ret : Option FieldType} {fr lo : Nat} {pc q : Nat} {lv rest : List Value} {σ : ST} (C : Cx X own cc ret fr lo) {y : MethodName} {yc : ByteArray} {n idx k fr2 lo2 : Nat} {yret : Option FieldType} {a0 a1 : Value} {Q : Int32 → ST → Prop} (hM : Ct (xl X) y yc n yret fr2 lo2 (xD X) (xad X) (.ref (xad X k) :: [a0, a1]) σ (pq Q)) (hw : Cw y yc n yret 2) (hv : CwV y) (hlink : Cond.methodLink own idx y ∈ TT) (hk : k < 68) (hobj : ∃ (ci : Nat) (fs : List Value) (z : vw_C), cellF (xD X) (xad X) k (σ k) = .inr (ci, fs) ∧ vwCl[ci]? = some z ∧ z.1 = y.cls) (hroom : fr2 + 1 ≤ fr ∧ 8 + (n + 11) + lo2 ≤ lo) (hcat : (rest.map fun v => v.category).sum ≤ 8) (hq : pc + 3 = q) (hdg : decode cc pc = .ok (.invokevirtual idx, 3)) (kk : ∀ (r : Int32) (τ : ST), Q r τ → V X q lv (.int r :: rest) τ) : V X pc lv (a1 :: a0 :: .ref (xad X k) :: rest) σ := V_callV C (As := [a0, a1]) hM hw hv hlink hk hobj hroom rfl rfl hcat hq hdg (fun v σ2 h => by obtain ⟨r, rfl, h2⟩ := h; exact kk r σ2 h2)
theorem V_cV2p {X : CT} {own : String} {cc : ByteArray} {ret : Option FieldType} {fr lo : Nat} {pc q : Nat} {lv rest : List Value} {σ : ST} (C : Cx X own cc ret fr lo) {y : MethodName} {yc : ByteArray} {n idx k fr2 lo2 : Nat} {yret : Option FieldType} {a0 a1 : Value} {Q : ST → Prop} (hM : Ct (xl X) y yc n yret fr2 lo2 (xD X) (xad X) (.ref (xad X k) :: [a0, a1]) σ (pv Q)) (hw : Cw y yc n yret 2) (hv : CwV y) (hlink : Cond.methodLink own idx y ∈ TT) (hk : k < 68) (hobj : ∃ (ci : Nat) (fs : List Value) (z : vw_C), cellF (xD X) (xad X) k (σ k) = .inr (ci, fs) ∧ vwCl[ci]? = some z ∧ z.1 = y.cls) (hroom : fr2 + 1 ≤ fr ∧ 8 + (n + 11) + lo2 ≤ lo) (hcat : (rest.map fun v => v.category).sum ≤ 8) (hq : pc + 3 = q) (hdg : decode cc pc = .ok (.invokevirtual idx, 3)) (kk : ∀ (τ : ST), Q τ → V X q lv rest τ) : V X pc lv (a1 :: a0 :: .ref (xad X k) :: rest) σ := V_callV C (As := [a0, a1]) hM hw hv hlink hk hobj hroom rfl rfl hcat hq hdg (fun v σ2 h => by obtain ⟨rfl, h2⟩ := h; exact kk σ2 h2)
theorem V_cV3q {X : CT} {own : String} {cc : ByteArray} {ret : Option FieldType} {fr lo : Nat} {pc q : Nat} {lv rest : List Value} {σ : ST} (C : Cx X own cc ret fr lo) {y : MethodName} {yc : ByteArray} {n idx k fr2 lo2 : Nat} {yret : Option FieldType} {a0 a1 a2 : Value} {Q : Int32 → ST → Prop} (hM : Ct (xl X) y yc n yret fr2 lo2 (xD X) (xad X) (.ref (xad X k) :: [a0, a1, a2]) σ (pq Q)) (hw : Cw y yc n yret 3) (hv : CwV y) (hlink : Cond.methodLink own idx y ∈ TT) (hk : k < 68) (hobj : ∃ (ci : Nat) (fs : List Value) (z : vw_C), cellF (xD X) (xad X) k (σ k) = .inr (ci, fs) ∧ vwCl[ci]? = some z ∧ z.1 = y.cls) (hroom : fr2 + 1 ≤ fr ∧ 8 + (n + 11) + lo2 ≤ lo) (hcat : (rest.map fun v => v.category).sum ≤ 8) (hq : pc + 3 = q) (hdg : decode cc pc = .ok (.invokevirtual idx, 3)) (kk : ∀ (r : Int32) (τ : ST), Q r τ → V X q lv (.int r :: rest) τ) : V X pc lv (a2 :: a1 :: a0 :: .ref (xad X k) :: rest) σ := V_callV C (As := [a0, a1, a2]) hM hw hv hlink hk hobj hroom rfl rfl hcat hq hdg (fun v σ2 h => by obtain ⟨r, rfl, h2⟩ := h; exact kk r σ2 h2)
theorem V_cV3p {X : CT} {own : String} {cc : ByteArray} {ret : Option FieldType} {fr lo : Nat} {pc q : Nat} {lv rest : List Value} {σ : ST} (C : Cx X own cc ret fr lo) {y : MethodName} {yc : ByteArray} {n idx k fr2 lo2 : Nat} {yret : Option FieldType} {a0 a1 a2 : Value} {Q : ST → Prop} (hM : Ct (xl X) y yc n yret fr2 lo2 (xD X) (xad X) (.ref (xad X k) :: [a0, a1, a2]) σ (pv Q)) (hw : Cw y yc n yret 3) (hv : CwV y) (hlink : Cond.methodLink own idx y ∈ TT) (hk : k < 68) (hobj : ∃ (ci : Nat) (fs : List Value) (z : vw_C), cellF (xD X) (xad X) k (σ k) = .inr (ci, fs) ∧ vwCl[ci]? = some z ∧ z.1 = y.cls) (hroom : fr2 + 1 ≤ fr ∧ 8 + (n + 11) + lo2 ≤ lo) (hcat : (rest.map fun v => v.category).sum ≤ 8) (hq : pc + 3 = q) (hdg : decode cc pc = .ok (.invokevirtual idx, 3)) (kk : ∀ (τ : ST), Q τ → V X q lv rest τ) : V X pc lv (a2 :: a1 :: a0 :: .ref (xad X k) :: rest) σ := V_callV C (As := [a0, a1, a2]) hM hw hv hlink hk hobj hroom rfl rfl hcat hq hdg (fun v σ2 h => by obtain ⟨rfl, h2⟩ := h; exact kk σ2 h2)
theorem tkN_put {σ : ST} {s t : S4} {d : Int32} : ∀ n : Nat, tkN (putS σ s) d n t = tkN σ d n t := by
  intro n
  induction n with
  | zero => rfl
  | succ n ih =>
    show tkStep (putS σ s) d n (tkN (putS σ s) d n t) = tkStep σ d n (tkN σ d n t)
    rw [ih]
    rfl
theorem dayC_put {σ : ST} {s t : S4} {T P d : Nat} : dayC (putS σ s) T P d t = dayC σ T P d t := by
  show day4 σ P d (if wetC σ d then tkN (putS σ s) (nI d) T _ else _) = day4 σ P d (if wetC σ d then tkN σ (nI d) T _ else _)
  rw [tkN_put]
  rfl
theorem runU_put {σ : ST} {s t : S4} {T P : Nat} {x : Int32} : ∀ n : Nat, runU (putS σ s) T P x n t = runU σ T P x n t := by
  intro n
  induction n with
  | zero => rfl
  | succ n ih =>
    show (if (runU (putS σ s) T P x n t).2.2.2 &&& x = 0 then runU (putS σ s) T P x n t else dayC (putS σ s) T P n (runU (putS σ s) T P x n t)) = _
    rw [ih, dayC_put]
    rfl
theorem daysC_put {σ : ST} {s t : S4} {T P : Nat} : ∀ n : Nat, daysC (putS σ s) T P n t = daysC σ T P n t := by
  intro n
  induction n with
  | zero => rfl
  | succ n ih =>
    show dayC (putS σ s) T P n (daysC (putS σ s) T P n t) = _
    rw [ih, dayC_put]
    rfl
theorem putS_32 {σ : ST} {s : S4} {w v : Nat → Int32} : setc (putS (setc σ 32 w) s) 32 v = putS (setc σ 32 v) s := by
  funext z
  by_cases e0 : z = 36
  · subst e0; rfl
  · by_cases e1 : z = 35
    · subst e1; rfl
    · by_cases e2 : z = 34
      · subst e2; rfl
      · by_cases e3 : z = 30
        · subst e3; rfl
        · by_cases e4 : z = 32
          · subst e4; rfl
          · simp only [putS, setf, setc, if_neg e0, if_neg e1, if_neg e2, if_neg e3, if_neg e4]
theorem V_eqlv {X : CT} {pc : Nat} {lv lv2 st : List Value} {σ : ST} (h : lv = lv2) (k : V X pc lv2 st σ) : V X pc lv st σ := h ▸ k
def rowW (T k r d : Nat) : Int32 := if d < k then nI (r / T ^ (k - 1 - d) % T) else -9
def rowI (T k r i d : Nat) : Int32 := if k - i ≤ d ∧ d < k then nI (r / T ^ (k - 1 - d) % T) else -9
theorem rowI_0 {T k r : Nat} : rowI T k r 0 = fun _ => -9 := funext fun d => if_neg (by omega)
theorem rowI_k {T k r : Nat} : rowI T k r k = rowW T k r := funext fun d => by
  unfold rowI rowW
  by_cases h : d < k
  · rw [if_pos ⟨by omega, h⟩, if_pos h]
  · rw [if_neg (fun q => h q.2), if_neg h]
theorem rowI_s {T k r i : Nat} (h : i < k) : upd (rowI T k r i) (k - i - 1) (nI (r / T ^ i % T)) = rowI T k r (i + 1) := funext fun d => by
  unfold upd
  by_cases hd : d = k - i - 1
  · rw [if_pos hd]
    unfold rowI
    rw [if_pos ⟨by omega, by omega⟩, show k - 1 - d = i by omega]
  · rw [if_neg hd]
    unfold rowI
    by_cases h2 : k - i ≤ d ∧ d < k
    · rw [if_pos h2, if_pos ⟨by omega, h2.2⟩]
    · rw [if_neg h2, if_neg (by omega)]
theorem nI_dec {k i : Nat} (h : i < k) (hk : k < 100) : nI (k - i) - 1 + Int32.ofInt (-1) = nI (k - (i + 1)) - 1 := by
  rw [show nI (k - i) - 1 = nI (k - i - 1) from pk_sub (a := k - i) (b := 1) (by omega), show k - (i + 1) = k - i - 1 by omega, Int32.sub_eq_add_neg]
  rfl
def cpk (k : Nat) (f g : Nat → Int32) : Nat → Int32 := va_cpy f g 0 0 k
theorem cpk_lt {k t : Nat} {f g : Nat → Int32} (h : t < k) : cpk k f g t = f t := by
  unfold cpk va_cpy
  rw [if_pos ⟨Nat.zero_le _, by omega⟩]
  congr 1
  omega
def trR (f : Nat → Int32) (k q : Int32) : Int32 := if isT k q then f q.toNatClampNeg else -9
theorem pow_b {T k : Nat} (hT : T ≤ 6) (hk : k ≤ 4) : T ^ k ≤ 1296 := Nat.le_trans (Nat.pow_le_pow_left hT k) (Nat.pow_le_pow_right (n := 6) (by decide) hk)

set_option maxHeartbeats 4000000 in
set_option maxRecDepth 100000 in
theorem c_X3_howManyRows {l : Launch} {D : DD} {ad : Nat → Nat} (σ : ST) (T k : Nat) (hT : σ 12 0 = nI T) (hk : k ≤ 4) : Ct l yX3_howManyRows cX3_howManyRows 4 (Option.some FieldType.int) 0 0 D ad [.ref (ad 37), .int (nI k)] σ (ex (some (.int (nI (T ^ k)))) σ) := by
  refine Ct.of2 [.ref (ad 37), .int (nI k), .float 0, .float 0] rfl (Nat.le_of_ble_eq_true rfl) rfl ?_
  rintro X C rfl rfl rfl hxn hR
  have hn2 : 2 < xn X := by rw [← hxn]; decide
  have hn3 : 3 < xn X := by rw [← hxn]; decide
  refine V_iconst (q := 1) (v := (nI (T ^ 0))) C rfl rfl dX3_howManyRows_0 ?_
  refine V_istore_n_2 (q := 2) C hn2 rfl rfl dX3_howManyRows_1 ?_
  refine V_iconst (q := 3) (v := (nI 0)) C rfl rfl dX3_howManyRows_2 ?_
  refine V_istore_n_3 (q := 4) C hn3 rfl rfl dX3_howManyRows_3 ?_
  have hx4 : V X 4 [.ref (xad X 37), .int (nI k), .int (nI (T ^ k)), .int (nI k)] [] (σ) := by
    refine V_iload_n_3 (q := 5) C rfl dX3_howManyRows_4 ?_
    refine V_iload_n_1 (q := 6) C rfl dX3_howManyRows_5 ?_
    refine V_icmp_ge_t (tgt := 25) C (nI_le (Nat.le_refl _) (by omega)) (by decide) dX3_howManyRows_6 ?_
    refine V_iload_n_2 (q := 26) C rfl dX3_howManyRows_25 ?_
    refine V_iret C hR dX3_howManyRows_26 ?_
    exact ⟨rfl, rfl⟩
  have hs4 : ∀ i : Nat, i < k → (V X 4 [.ref (xad X 37), .int (nI k), .int (nI (T ^ (i + 1))), .int (nI (i + 1))] [] (σ)) → V X 4 [.ref (xad X 37), .int (nI k), .int (nI (T ^ i)), .int (nI i)] [] (σ) := by
    intro i hi4 ih4
    refine V_iload_n_3 (q := 5) C rfl dX3_howManyRows_4 ?_
    refine V_iload_n_1 (q := 6) C rfl dX3_howManyRows_5 ?_
    refine V_icmp_ge_f (tgt := 25) C (nI_ge hi4 (by omega)) rfl (by decide) dX3_howManyRows_6 ?_
    refine V_iload_n_2 (q := 10) C rfl dX3_howManyRows_9 ?_
    refine V_aload_n_0 (q := 11) C rfl dX3_howManyRows_10 ?_
    refine gf_X3_15 (q := 14) C rfl dX3_howManyRows_11 ?_
    refine gf_X3_53 (q := 17) C rfl dX3_howManyRows_14 ?_
    refine V_imul (q := 18) C rfl dX3_howManyRows_17 ?_
    rw [hT, show nI (T ^ i) * nI T = nI (T ^ (i + 1)) from by rw [pk_mul, Nat.pow_succ]]
    refine V_istore_n_2 (q := 19) C hn2 rfl rfl dX3_howManyRows_18 ?_
    refine V_iinc_3 (q := 22) (n := 1) C nI_inc hn3 rfl rfl dX3_howManyRows_19 ?_
    refine V_goto (tgt := 4) C (by decide) dX3_howManyRows_22 ?_
    exact V_eq rfl ih4
  exact V_eq (rfl) (loopN (P := fun i => V X 4 [.ref (xad X 37), .int (nI k), .int (nI (T ^ i)), .int (nI i)] [] (σ)) (k) hx4 hs4 0 (Nat.zero_le _))

set_option maxHeartbeats 4000000 in
set_option maxRecDepth 100000 in
theorem c_X3_waterBy {l : Launch} {D : DD} {ad : Nat → Nat} (σ : ST) (T k r : Nat) (hT : σ 12 0 = nI T) (hT6 : T ≤ 6) (h0 : 0 < T) (hk : k ≤ 4) (hr : r < 2 ^ 31) : Ct l yX3_waterBy cX3_waterBy 5 (Option.none : Option FieldType) 1 23 D ad [.ref (ad 37), .int (nI r), .int (nI k)] σ (ex none (setc σ 32 (rowW T k r))) := by
  refine Ct.of2 [.ref (ad 37), .int (nI r), .int (nI k), .float 0, .float 0] rfl (Nat.le_of_ble_eq_true rfl) rfl ?_
  rintro X C rfl rfl rfl hxn hR
  have hn3 : 3 < xn X := by rw [← hxn]; decide
  have hn4 : 4 < xn X := by rw [← hxn]; decide
  refine V_aload_n_0 (q := 1) C rfl dX3_waterBy_0 ?_
  refine gf_X3_19 (q := 4) C rfl dX3_waterBy_1 ?_
  refine gf_X3_57 (q := 7) C rfl dX3_waterBy_4 ?_
  refine V_bipush (q := 9) (v := (-9)) C (by decide) rfl dX3_waterBy_7 ?_
  refine V_cS2v (q := 12) C (c_J7_fill_53178 σ 32 (-9) rfl (by decide) (by decide)) cw_J7_fill_53178 cs_J7_fill_53178 wm_X3_60 ⟨by decide, by decide⟩ (Nat.le_of_ble_eq_true rfl) rfl dX3_waterBy_9 ?_
  refine V_iload_n_1 (q := 13) C rfl dX3_waterBy_12 ?_
  refine V_istore_n_3 (q := 14) C hn3 rfl rfl dX3_waterBy_13 ?_
  refine V_iload_n_2 (q := 15) C rfl dX3_waterBy_14 ?_
  refine V_iconst (q := 16) (v := 1) C rfl rfl dX3_waterBy_15 ?_
  refine V_isub (q := 17) C rfl dX3_waterBy_16 ?_
  refine V_istore_4 (q := 19) C hn4 rfl rfl dX3_waterBy_17 ?_
  have hx19 : V X 19 [.ref (xad X 37), .int (nI r), .int (nI k), .int (nI (r / T ^ k)), .int (nI (k - k) - 1)] [] (setc σ 32 (rowI T k r k)) := by
    refine V_iload_4 (q := 21) C rfl dX3_waterBy_19 ?_
    refine V_if_lt_t (tgt := 69) C (by rw [Nat.sub_self]; decide) (by decide) dX3_waterBy_21 ?_
    rw [rowI_k]
    refine V_vret C hR dX3_waterBy_69 ?_
    exact ⟨rfl, rfl⟩
  have hs19 : ∀ i : Nat, i < k → (V X 19 [.ref (xad X 37), .int (nI r), .int (nI k), .int (nI (r / T ^ (i + 1))), .int (nI (k - (i + 1)) - 1)] [] (setc σ 32 (rowI T k r (i + 1)))) → V X 19 [.ref (xad X 37), .int (nI r), .int (nI k), .int (nI (r / T ^ i)), .int (nI (k - i) - 1)] [] (setc σ 32 (rowI T k r i)) := by
    intro i hi19 ih19
    have hTi : (setc σ 32 (rowI T k r i)) 12 0 = nI T := hT
    have hri : r / T ^ i < 2 ^ 31 := Nat.lt_of_le_of_lt (Nat.div_le_self _ _) (by omega)
    refine V_iload_4 (q := 21) C rfl dX3_waterBy_19 ?_
    refine V_if_lt_f (tgt := 69) C (by rw [show nI (k - i) - 1 = nI (k - i - 1) from pk_sub (a := k - i) (b := 1) (by omega)]; exact nI_pos (by omega)) rfl (by decide) dX3_waterBy_21 ?_
    refine V_aload_n_0 (q := 25) C rfl dX3_waterBy_24 ?_
    refine gf_X3_15 (q := 28) C rfl dX3_waterBy_25 ?_
    refine gf_X3_53 (q := 31) C rfl dX3_waterBy_28 ?_
    refine V_if_le_f (tgt := 69) C (fun h => absurd h (Int32.not_le.mpr (by rw [hTi]; exact nI_lt (a := 0) h0 (by omega)))) rfl (by decide) dX3_waterBy_31 ?_
    refine V_aload_n_0 (q := 35) C rfl dX3_waterBy_34 ?_
    refine gf_X3_19 (q := 38) C rfl dX3_waterBy_35 ?_
    refine gf_X3_57 (q := 41) C rfl dX3_waterBy_38 ?_
    refine V_iload_4 (q := 43) C rfl dX3_waterBy_41 ?_
    refine V_iload_n_3 (q := 44) C rfl dX3_waterBy_43 ?_
    refine V_aload_n_0 (q := 45) C rfl dX3_waterBy_44 ?_
    refine gf_X3_15 (q := 48) C rfl dX3_waterBy_45 ?_
    refine gf_X3_53 (q := 51) C rfl dX3_waterBy_48 ?_
    refine V_irem (q := 52) C (by rw [hTi]; exact nI_ne0 h0 (by omega)) rfl dX3_waterBy_51 ?_
    rw [hTi, pk_rem hri h0 (by omega)]
    refine V_iast (q := 53) C (k - i - 1) (pk_sub (a := k - i) (b := 1) (by omega)) (by show _ < 30; omega) rfl (by decide) (by decide) rfl dX3_waterBy_52 ?_
    refine V_iload_n_3 (q := 54) C rfl dX3_waterBy_53 ?_
    refine V_aload_n_0 (q := 55) C rfl dX3_waterBy_54 ?_
    refine gf_X3_15 (q := 58) C rfl dX3_waterBy_55 ?_
    refine gf_X3_53 (q := 61) C rfl dX3_waterBy_58 ?_
    refine V_idiv (q := 62) C (by show ¬ (setc σ 32 (rowI T k r i)) 12 0 = 0; rw [hTi]; exact nI_ne0 h0 (by omega)) rfl dX3_waterBy_61 ?_
    rw [show setf (setc σ 32 (rowI T k r i)) 32 (k - i - 1) (nI (r / T ^ i % T)) 12 0 = nI T from hT, pk_div hri h0 (by omega), show r / T ^ i / T = r / T ^ (i + 1) from by rw [Nat.div_div_eq_div_mul, Nat.pow_succ]]
    refine V_istore_n_3 (q := 63) C hn3 rfl rfl dX3_waterBy_62 ?_
    refine V_iinc_4 (q := 66) (n := (-1)) C (nI_dec hi19 (by omega)) hn4 rfl rfl dX3_waterBy_63 ?_
    refine V_goto (tgt := 19) C (by decide) dX3_waterBy_66 ?_
    refine V_eq ?_ ih19
    show setc (setc σ 32 (rowI T k r i)) 32 (upd (rowI T k r i) (k - i - 1) _) = _
    rw [setc_setc, rowI_s hi19]
  exact V_eqlv (by rw [Nat.pow_zero, Nat.div_one, Nat.sub_zero]) (V_eq (by rw [rowI_0]) (loopN (P := fun i => V X 19 [.ref (xad X 37), .int (nI r), .int (nI k), .int (nI (r / T ^ i)), .int (nI (k - i) - 1)] [] (setc σ 32 (rowI T k r i))) (k) hx19 hs19 0 (Nat.zero_le _)))

set_option maxHeartbeats 4000000 in
set_option maxRecDepth 100000 in
theorem c_X3_keep {l : Launch} {D : DD} {ad : Nat → Nat} (σ : ST) (k : Nat) (hk : k ≤ 4) : Ct l yX3_keep cX3_keep 2 (Option.none : Option FieldType) 1 48 D ad [.ref (ad 37), .int (nI k)] σ (ex none (setc σ 38 (cpk k (σ 32) (σ 38)))) := by
  refine Ct.of2 [.ref (ad 37), .int (nI k)] rfl (Nat.le_of_ble_eq_true rfl) rfl ?_
  rintro X C rfl rfl rfl hxn hR
  refine V_aload_n_0 (q := 1) C rfl dX3_keep_0 ?_
  refine gf_X3_19 (q := 4) C rfl dX3_keep_1 ?_
  refine gf_X3_57 (q := 7) C rfl dX3_keep_4 ?_
  refine V_iconst (q := 8) (v := (nI 0)) C rfl rfl dX3_keep_7 ?_
  refine V_aload_n_0 (q := 9) C rfl dX3_keep_8 ?_
  refine gf_X3_9 (q := 12) C rfl dX3_keep_9 ?_
  refine V_iconst (q := 13) (v := (nI 0)) C rfl rfl dX3_keep_12 ?_
  refine V_iload_n_1 (q := 14) C rfl dX3_keep_13 ?_
  refine V_copy (q := 17) C 0 0 k rfl rfl rfl (by show 0 + k ≤ 30; omega) (by show 0 + k ≤ 4; omega) rfl rfl (by decide) (by decide) (by decide) (by decide) wm_X3_66 wn_copy wn_copyS wn_copyI (by decide) (by decide) rfl dX3_keep_14 ?_
  refine V_vret C hR dX3_keep_17 ?_
  exact ⟨rfl, rfl⟩

set_option maxHeartbeats 4000000 in
set_option maxRecDepth 100000 in
theorem c_X3_treeOfRow {l : Launch} {D : DD} {ad : Nat → Nat} (σ : ST) (k : Nat) (q : Int32) (hk : k ≤ 4) : Ct l yX3_treeOfRow cX3_treeOfRow 3 (Option.some FieldType.int) 0 0 D ad [.ref (ad 37), .int (nI k), .int q] σ (ex (some (.int (trR (σ 38) (nI k) q))) σ) := by
  refine Ct.of2 [.ref (ad 37), .int (nI k), .int q] rfl (Nat.le_of_ble_eq_true rfl) rfl ?_
  rintro X C rfl rfl rfl hxn hR
  refine V_iload_n_2 (q := 1) C rfl dX3_treeOfRow_0 ?_
  refine V_if_lt (tgt := 23) C rfl (by decide) dX3_treeOfRow_1 (fun c1 => ?_) (fun c1 => ?_)
  · refine V_bipush (q := 25) (v := (-9)) C (by decide) rfl dX3_treeOfRow_23 ?_
    refine V_iret C hR dX3_treeOfRow_25 ?_
    exact ⟨by unfold trR; rw [if_neg (fun h => h.1 c1)], rfl⟩
  · refine V_iload_n_2 (q := 5) C rfl dX3_treeOfRow_4 ?_
    refine V_iload_n_1 (q := 6) C rfl dX3_treeOfRow_5 ?_
    refine V_icmp_ge (tgt := 23) C rfl (by decide) dX3_treeOfRow_6 (fun c6 => ?_) (fun c6 => ?_)
    · refine V_bipush (q := 25) (v := (-9)) C (by decide) rfl dX3_treeOfRow_23 ?_
      refine V_iret C hR dX3_treeOfRow_25 ?_
      exact ⟨by unfold trR; rw [if_neg (fun h => h.2 c6)], rfl⟩
    · refine V_iload_n_2 (q := 10) C rfl dX3_treeOfRow_9 ?_
      refine V_iconst (q := 11) (v := 4) C rfl rfl dX3_treeOfRow_10 ?_
      obtain ⟨j, hj, ej⟩ := isT_of ⟨c1, c6⟩ rfl (by omega)
      refine V_icmp_ge_f (tgt := 23) C (fun h => absurd h (Int32.not_le.mpr (by rw [ej]; exact nI_lt (b := 4) (by omega) (by decide)))) rfl (by decide) dX3_treeOfRow_11 ?_
      refine V_aload_n_0 (q := 15) C rfl dX3_treeOfRow_14 ?_
      refine gf_X3_9 (q := 18) C rfl dX3_treeOfRow_15 ?_
      refine V_iload_n_2 (q := 19) C rfl dX3_treeOfRow_18 ?_
      refine V_iald (q := 20) C j ej (by show _ < 4; omega) rfl (by decide) (by decide) rfl dX3_treeOfRow_19 ?_
      refine V_goto (tgt := 25) C (by decide) dX3_treeOfRow_20 ?_
      refine V_iret C hR dX3_treeOfRow_25 ?_
      exact ⟨by unfold trR; rw [if_pos ⟨c1, c6⟩, ej, nI_clamp (by omega)], rfl⟩

def fst? (q : Nat → Prop) [DecidablePred q] : Nat → Nat → Option Nat
  | 0, _ => none
  | f + 1, i => if q i then some i else fst? q f (i + 1)
def passW (σ : ST) (T P : Nat) (x : Int32) (N k r : Nat) : S4 := runU (setc σ 32 (rowW T k r)) T P x N (s0C σ)
abbrev winC (σ : ST) (T P p N k r : Nat) : Prop := ¬ (passW σ T P (own1 (nI p)) N k r).2.2.1 p = -9
def lwF (σ : ST) (T P p N : Nat) : Nat → Nat → Option (Nat × Nat)
  | 0, _ => none
  | f + 1, k => match fst? (winC σ T P p N k) (T ^ k) 0 with
    | some r => some (k, r)
    | none => lwF σ T P p N f (k + 1)
def moF (σ : ST) (T P N k : Nat) : Nat → Int32 × Nat
  | 0 => (-1, 0)
  | r + 1 => if (moF σ T P N k r).1 < cntB (passW σ T P (ones (nI P)) N k r).2.2.1 P then (cntB (passW σ T P (ones (nI P)) N k r).2.2.1 P, r) else moF σ T P N k r
def fwQ (σ : ST) (T P p N : Nat) (v : Int32) (τ : ST) : Prop := ∃ (w : Nat → Int32) (s : S4), match lwF σ T P p N 5 0 with
  | some (k, r) => v = nI k ∧ τ = setc (putS (setc σ 32 w) s) 38 (cpk k (rowW T k r) (σ 38))
  | none => v = -9 ∧ τ = putS (setc σ 32 w) s
def moQ (σ : ST) (T P N k : Nat) (v : Int32) (τ : ST) : Prop := v = (moF σ T P N k (T ^ k)).1 ∧ ∃ (w : Nat → Int32) (s : S4) (f : Nat → Int32), τ = setc (putS (setc σ 32 w) s) 38 f ∧ ∀ t, t < k → f t = rowW T k (moF σ T P N k (T ^ k)).2 t

theorem V_weak6 {X : CT} {pc : Nat} {a0 a1 a2 a3 a4 a5 : Value} {st : List Value} {σ : ST} (k : V X pc [a0, a1, a2, a3, .float 0, .float 0] st σ) : V X pc [a0, a1, a2, a3, a4, a5] st σ := fun H locs ls hP hS hl => k H locs ls hP hS (LV.of hl fun i v hi hd => mem_al.mpr ⟨by
  have : i < 6 := (List.getElem?_eq_some_iff.mp hi).1
  have h2 : i = 0 ∨ i = 1 ∨ i = 2 ∨ i = 3 ∨ i = 4 ∨ i = 5 := by omega
  rcases h2 with rfl | rfl | rfl | rfl | rfl | rfl
  · exact hi
  · exact hi
  · exact hi
  · exact hi
  · cases hi; exact absurd hd (by decide)
  · cases hi; exact absurd hd (by decide), hd⟩)
theorem cntB_n {b : Nat → Int32} : ∀ p : Nat, ∃ c : Nat, c ≤ p ∧ cntB b p = nI c := by
  intro p
  induction p with
  | zero => exact ⟨0, Nat.le_refl _, rfl⟩
  | succ p ih =>
    obtain ⟨c, h1, h2⟩ := ih
    show ∃ c : Nat, c ≤ p + 1 ∧ (if ¬ b p = -9 then cntB b p + 1 else cntB b p) = nI c
    by_cases h : b p = -9
    · rw [if_neg (nn h)]; exact ⟨c, by omega, h2⟩
    · rw [if_pos h, h2]; exact ⟨c + 1, by omega, nI_1 c⟩

set_option maxHeartbeats 4000000 in
set_option maxRecDepth 100000 in
theorem c_X3_fewestWaterings {l : Launch} {D : DD} {ad : Nat → Nat} (σ : ST) (T P p N : Nat) (ld : Int32) (hT : σ 12 0 = nI T) (hT6 : T ≤ 6) (hP : σ 12 1 = nI P) (hP6 : P ≤ 6) (h0 : 0 < T) (hN : isLd ld N) (hp : p < 6) : Ct l yX3_fewestWaterings cX3_fewestWaterings 6 (Option.some FieldType.int) 5 112 D ad [.ref (ad 37), .int (nI p), .int ld] σ (pq (fwQ σ T P p N)) := by
  refine Ct.of2 [.ref (ad 37), .int (nI p), .int ld, .float 0, .float 0, .float 0] rfl (Nat.le_of_ble_eq_true rfl) rfl ?_
  rintro X C rfl rfl rfl hxn hR
  have hn3 : 3 < xn X := by rw [← hxn]; decide
  have hn4 : 4 < xn X := by rw [← hxn]; decide
  have hn5 : 5 < xn X := by rw [← hxn]; decide
  refine V_iconst (q := 1) (v := (nI 0)) C rfl rfl dX3_fewestWaterings_0 ?_
  refine V_istore_n_3 (q := 2) C hn3 rfl rfl dX3_fewestWaterings_1 ?_
  have hx2 : ∀ (w : Nat → Int32) (s : S4), (lwF σ T P p N 5 0 = lwF σ T P p N (5 - 5) 5) → V X 2 [.ref (xad X 37), .int (nI p), .int ld, .int (nI 5), .float 0, .float 0] [] (putS (setc σ 32 w) s) := by
    intro w s hv2
    refine V_iload_n_3 (q := 3) C rfl dX3_fewestWaterings_2 ?_
    refine V_iconst (q := 4) (v := 4) C rfl rfl dX3_fewestWaterings_3 ?_
    refine V_icmp_gt_t (tgt := 72) C (by decide) (by decide) dX3_fewestWaterings_4 ?_
    refine V_bipush (q := 74) (v := (-9)) C (by decide) rfl dX3_fewestWaterings_72 ?_
    refine V_iret C hR dX3_fewestWaterings_74 ?_
    refine ⟨-9, rfl, w, s, ?_⟩
    rw [hv2]
    exact ⟨rfl, rfl⟩
  have hs2 : ∀ k : Nat, k < 5 → (∀ (w : Nat → Int32) (s : S4), (lwF σ T P p N 5 0 = lwF σ T P p N (5 - (k + 1)) (k + 1)) → V X 2 [.ref (xad X 37), .int (nI p), .int ld, .int (nI (k + 1)), .float 0, .float 0] [] (putS (setc σ 32 w) s)) → ∀ (w : Nat → Int32) (s : S4), (lwF σ T P p N 5 0 = lwF σ T P p N (5 - k) k) → V X 2 [.ref (xad X 37), .int (nI p), .int ld, .int (nI k), .float 0, .float 0] [] (putS (setc σ 32 w) s) := by
    intro k hi2 ih2 w s hv2
    have hT1 : T ^ k ≤ 1296 := pow_b hT6 (by omega)
    refine V_iload_n_3 (q := 3) C rfl dX3_fewestWaterings_2 ?_
    refine V_iconst (q := 4) (v := 4) C rfl rfl dX3_fewestWaterings_3 ?_
    refine V_icmp_gt_f (tgt := 72) C (Int32.not_lt.mpr (nI_le (b := 4) (by omega) (by decide))) rfl (by decide) dX3_fewestWaterings_4 ?_
    refine V_aload_n_0 (q := 8) C rfl dX3_fewestWaterings_7 ?_
    refine V_iload_n_3 (q := 9) C rfl dX3_fewestWaterings_8 ?_
    refine V_cV1r (q := 12) C (c_X3_howManyRows (putS (setc σ 32 w) s) T k hT (by omega)) cw_X3_howManyRows cv_X3_howManyRows wm_X3_23 (by decide) ob_X3 ⟨by decide, by decide⟩ (Nat.le_of_ble_eq_true rfl) rfl dX3_fewestWaterings_9 ?_
    refine V_istore_4 (q := 14) C hn4 rfl rfl dX3_fewestWaterings_12 ?_
    refine V_iconst (q := 15) (v := (nI 0)) C rfl rfl dX3_fewestWaterings_14 ?_
    refine V_istore_5 (q := 17) C hn5 rfl rfl dX3_fewestWaterings_15 ?_
    have hx17 : ∀ (w : Nat → Int32) (s : S4), (fst? (winC σ T P p N k) (T ^ k) 0 = fst? (winC σ T P p N k) (T ^ k - ((T ^ k))) ((T ^ k))) → V X 17 [.ref (xad X 37), .int (nI p), .int ld, .int (nI k), .int (nI (T ^ k)), .int (nI ((T ^ k)))] [] (putS (setc σ 32 w) s) := by
      intro w s hv17
      refine V_iload_5 (q := 19) C rfl dX3_fewestWaterings_17 ?_
      refine V_iload_4 (q := 21) C rfl dX3_fewestWaterings_19 ?_
      refine V_icmp_ge_t (tgt := 66) C (nI_le (Nat.le_refl _) (by omega)) (by decide) dX3_fewestWaterings_21 ?_
      refine V_iinc_3 (q := 69) (n := 1) C nI_inc hn3 rfl rfl dX3_fewestWaterings_66 ?_
      refine V_goto (tgt := 2) C (by decide) dX3_fewestWaterings_69 ?_
      refine V_weak6 (ih2 w s ?_)
      rw [hv2, show 5 - k = (5 - (k + 1)) + 1 by omega]
      show (match fst? (winC σ T P p N k) (T ^ k) 0 with | some r => some (k, r) | none => lwF σ T P p N (5 - (k + 1)) (k + 1)) = _
      rw [hv17, Nat.sub_self]
      rfl
    have hs17 : ∀ r : Nat, r < (T ^ k) → (∀ (w : Nat → Int32) (s : S4), (fst? (winC σ T P p N k) (T ^ k) 0 = fst? (winC σ T P p N k) (T ^ k - (r + 1)) (r + 1)) → V X 17 [.ref (xad X 37), .int (nI p), .int ld, .int (nI k), .int (nI (T ^ k)), .int (nI (r + 1))] [] (putS (setc σ 32 w) s)) → ∀ (w : Nat → Int32) (s : S4), (fst? (winC σ T P p N k) (T ^ k) 0 = fst? (winC σ T P p N k) (T ^ k - r) r) → V X 17 [.ref (xad X 37), .int (nI p), .int ld, .int (nI k), .int (nI (T ^ k)), .int (nI r)] [] (putS (setc σ 32 w) s) := by
      intro r hi17 ih17 w s hv17
      refine V_iload_5 (q := 19) C rfl dX3_fewestWaterings_17 ?_
      refine V_iload_4 (q := 21) C rfl dX3_fewestWaterings_19 ?_
      refine V_icmp_ge_f (tgt := 66) C (nI_ge hi17 (by omega)) rfl (by decide) dX3_fewestWaterings_21 ?_
      refine V_aload_n_0 (q := 25) C rfl dX3_fewestWaterings_24 ?_
      refine V_iload_5 (q := 27) C rfl dX3_fewestWaterings_25 ?_
      refine V_iload_n_3 (q := 28) C rfl dX3_fewestWaterings_27 ?_
      refine V_cV2v (q := 31) C (Ct.mono (v' := none) (τ' := putS (setc σ 32 (rowW T k r)) s) (c_X3_waterBy (putS (setc σ 32 w) s) T k r hT hT6 h0 (by omega) (by omega)) rfl putS_32) cw_X3_waterBy cv_X3_waterBy wm_X3_27 (by decide) ob_X3 ⟨by decide, by decide⟩ (Nat.le_of_ble_eq_true rfl) rfl dX3_fewestWaterings_28 ?_
      refine V_aload_n_0 (q := 32) C rfl dX3_fewestWaterings_31 ?_
      refine gf_X3_19 (q := 35) C rfl dX3_fewestWaterings_32 ?_
      refine V_iload_n_2 (q := 36) C rfl dX3_fewestWaterings_35 ?_
      refine V_iconst (q := 37) (v := 1) C rfl rfl dX3_fewestWaterings_36 ?_
      refine V_iload_n_1 (q := 38) C rfl dX3_fewestWaterings_37 ?_
      refine V_ishl (q := 39) C rfl dX3_fewestWaterings_38 ?_
      refine V_cV2v (q := 42) C (Ct.mono (v' := none) (τ' := putS (setc σ 32 (rowW T k r)) (passW σ T P (own1 (nI p)) N k r)) (c_X4_passUntilOut (putS (setc σ 32 (rowW T k r)) s) T P N ld (own1 (nI p)) hT hT6 hP hP6 hN) rfl (by rw [putS_putS, runU_put]; rfl)) cw_X4_passUntilOut cv_X4_passUntilOut wm_X3_31 (by decide) ob_X4 ⟨by decide, by decide⟩ (Nat.le_of_ble_eq_true rfl) rfl dX3_fewestWaterings_39 ?_
      refine V_aload_n_0 (q := 43) C rfl dX3_fewestWaterings_42 ?_
      refine gf_X3_19 (q := 46) C rfl dX3_fewestWaterings_43 ?_
      refine V_iload_n_1 (q := 47) C rfl dX3_fewestWaterings_46 ?_
      refine V_cV1r (q := 50) C (Ct.mono (v' := some (.int (pI (winC σ T P p N k r)))) (c_X4_isOutByTree (putS (setc σ 32 (rowW T k r)) (passW σ T P (own1 (nI p)) N k r)) p (by omega)) rfl rfl) cw_X4_isOutByTree cv_X4_isOutByTree wm_X3_36 (by decide) ob_X4 ⟨by decide, by decide⟩ (Nat.le_of_ble_eq_true rfl) rfl dX3_fewestWaterings_47 ?_
      refine V_ifp_eq (tgt := 60) C rfl (by decide) dX3_fewestWaterings_50 (fun c50 => ?_) (fun c50 => ?_)
      · refine V_iinc_5 (q := 63) (n := 1) C nI_inc hn5 rfl rfl dX3_fewestWaterings_60 ?_
        refine V_goto (tgt := 17) C (by decide) dX3_fewestWaterings_63 ?_
        refine ih17 _ _ ?_
        rw [hv17, show T ^ k - r = (T ^ k - (r + 1)) + 1 by omega]
        exact if_neg c50
      · refine V_aload_n_0 (q := 54) C rfl dX3_fewestWaterings_53 ?_
        refine V_iload_n_3 (q := 55) C rfl dX3_fewestWaterings_54 ?_
        refine V_cV1v (q := 58) C (c_X3_keep (putS (setc σ 32 (rowW T k r)) (passW σ T P (own1 (nI p)) N k r)) k (by omega)) cw_X3_keep cv_X3_keep wm_X3_40 (by decide) ob_X3 ⟨by decide, by decide⟩ (Nat.le_of_ble_eq_true rfl) rfl dX3_fewestWaterings_55 ?_
        refine V_iload_n_3 (q := 59) C rfl dX3_fewestWaterings_58 ?_
        refine V_iret C hR dX3_fewestWaterings_59 ?_
        refine ⟨nI k, rfl, rowW T k r, passW σ T P (own1 (nI p)) N k r, ?_⟩
        have hf : fst? (winC σ T P p N k) (T ^ k) 0 = some r := by rw [hv17, show T ^ k - r = (T ^ k - (r + 1)) + 1 by omega]; exact if_pos c50
        have hl : lwF σ T P p N 5 0 = some (k, r) := by rw [hv2, show 5 - k = (5 - (k + 1)) + 1 by omega]; show (match fst? (winC σ T P p N k) (T ^ k) 0 with | some r => some (k, r) | none => lwF σ T P p N (5 - (k + 1)) (k + 1)) = _; rw [hf]
        rw [hl]
        exact ⟨rfl, rfl⟩
    exact V_eq (rfl) (loopN (P := fun r => ∀ (w : Nat → Int32) (s : S4), (fst? (winC σ T P p N k) (T ^ k) 0 = fst? (winC σ T P p N k) (T ^ k - r) r) → V X 17 [.ref (xad X 37), .int (nI p), .int ld, .int (nI k), .int (nI (T ^ k)), .int (nI r)] [] (putS (setc σ 32 w) s)) ((T ^ k)) hx17 hs17 0 (Nat.zero_le _) w s (rfl))
  exact V_eq (by rw [setc_id, putS_get]) (loopN (P := fun k => ∀ (w : Nat → Int32) (s : S4), (lwF σ T P p N 5 0 = lwF σ T P p N (5 - k) k) → V X 2 [.ref (xad X 37), .int (nI p), .int ld, .int (nI k), .float 0, .float 0] [] (putS (setc σ 32 w) s)) (5) hx2 hs2 0 (Nat.zero_le _) (σ 32) (getS σ) (rfl))

theorem set38_32 {σ : ST} {s : S4} {w v f : Nat → Int32} : setc (setc (putS (setc σ 32 w) s) 38 f) 32 v = setc (putS (setc σ 32 v) s) 38 f := by
  rw [setc_comm (by decide), putS_32]
theorem set38_put {σ : ST} {s t : S4} {f : Nat → Int32} : putS (setc (putS σ s) 38 f) t = setc (putS σ t) 38 f := by
  funext z
  by_cases e0 : z = 36
  · subst e0; rfl
  · by_cases e1 : z = 35
    · subst e1; rfl
    · by_cases e2 : z = 34
      · subst e2; rfl
      · by_cases e3 : z = 30
        · subst e3; show upd (upd (σ 30) 9 _) 9 _ = upd (σ 30) 9 _; exact upd_upd
        · by_cases e4 : z = 38
          · subst e4; rfl
          · simp only [putS, setf, setc, if_neg e0, if_neg e1, if_neg e2, if_neg e3, if_neg e4]
theorem tkN_38 {σ : ST} {t : S4} {f : Nat → Int32} {d : Int32} : ∀ n : Nat, tkN (setc σ 38 f) d n t = tkN σ d n t := by
  intro n
  induction n with
  | zero => rfl
  | succ n ih =>
    show tkStep (setc σ 38 f) d n (tkN (setc σ 38 f) d n t) = tkStep σ d n (tkN σ d n t)
    rw [ih]
    rfl
theorem dayC_38 {σ : ST} {t : S4} {f : Nat → Int32} {T P d : Nat} : dayC (setc σ 38 f) T P d t = dayC σ T P d t := by
  show day4 σ P d (if wetC σ d then tkN (setc σ 38 f) (nI d) T _ else _) = day4 σ P d (if wetC σ d then tkN σ (nI d) T _ else _)
  rw [tkN_38]
  rfl
theorem runU_38 {σ : ST} {t : S4} {f : Nat → Int32} {T P : Nat} {x : Int32} : ∀ n : Nat, runU (setc σ 38 f) T P x n t = runU σ T P x n t := by
  intro n
  induction n with
  | zero => rfl
  | succ n ih =>
    show (if (runU (setc σ 38 f) T P x n t).2.2.2 &&& x = 0 then runU (setc σ 38 f) T P x n t else dayC (setc σ 38 f) T P n (runU (setc σ 38 f) T P x n t)) = _
    rw [ih, dayC_38]
    rfl

theorem V_weak7 {X : CT} {pc : Nat} {a0 a1 a2 a3 a4 a5 a6 : Value} {st : List Value} {σ : ST} (k : V X pc [a0, a1, a2, a3, a4, a5, .float 0] st σ) : V X pc [a0, a1, a2, a3, a4, a5, a6] st σ := fun H locs ls hP hS hl => k H locs ls hP hS (LV.of hl fun i v hi hd => mem_al.mpr ⟨by
  have : i < 7 := (List.getElem?_eq_some_iff.mp hi).1
  have h2 : i = 0 ∨ i = 1 ∨ i = 2 ∨ i = 3 ∨ i = 4 ∨ i = 5 ∨ i = 6 := by omega
  rcases h2 with rfl | rfl | rfl | rfl | rfl | rfl | rfl
  · exact hi
  · exact hi
  · exact hi
  · exact hi
  · exact hi
  · exact hi
  · cases hi; exact absurd hd (by decide), hd⟩)

set_option maxHeartbeats 4000000 in
set_option maxRecDepth 100000 in
theorem c_X3_mostOut {l : Launch} {D : DD} {ad : Nat → Nat} (σ : ST) (T P N k : Nat) (ld : Int32) (hT : σ 12 0 = nI T) (hT6 : T ≤ 6) (hP : σ 12 1 = nI P) (hP6 : P ≤ 6) (h0 : 0 < T) (hN : isLd ld N) (hk : k ≤ 4) : Ct l yX3_mostOut cX3_mostOut 7 (Option.some FieldType.int) 5 112 D ad [.ref (ad 37), .int ld, .int (nI k)] σ (pq (moQ σ T P N k)) := by
  refine Ct.of2 [.ref (ad 37), .int ld, .int (nI k), .float 0, .float 0, .float 0, .float 0] rfl (Nat.le_of_ble_eq_true rfl) rfl ?_
  rintro X C rfl rfl rfl hxn hR
  have hn3 : 3 < xn X := by rw [← hxn]; decide
  have hn4 : 4 < xn X := by rw [← hxn]; decide
  have hn5 : 5 < xn X := by rw [← hxn]; decide
  have hn6 : 6 < xn X := by rw [← hxn]; decide
  refine V_iconst (q := 1) (v := (-1)) C rfl rfl dX3_mostOut_0 ?_
  refine V_istore_n_3 (q := 2) C hn3 rfl rfl dX3_mostOut_1 ?_
  refine V_aload_n_0 (q := 3) C rfl dX3_mostOut_2 ?_
  refine V_iload_n_2 (q := 4) C rfl dX3_mostOut_3 ?_
  refine V_cV1r (q := 7) C (c_X3_howManyRows σ T k hT hk) cw_X3_howManyRows cv_X3_howManyRows wm_X3_23 (by decide) ob_X3 ⟨by decide, by decide⟩ (Nat.le_of_ble_eq_true rfl) rfl dX3_mostOut_4 ?_
  refine V_istore_4 (q := 9) C hn4 rfl rfl dX3_mostOut_7 ?_
  have hT1 : T ^ k ≤ 1296 := pow_b hT6 hk
  refine V_iconst (q := 10) (v := (nI 0)) C rfl rfl dX3_mostOut_9 ?_
  refine V_istore_5 (q := 12) C hn5 rfl rfl dX3_mostOut_10 ?_
  have hx12 : ∀ (w : Nat → Int32) (s : S4) (f : Nat → Int32), ((0 < ((T ^ k)) → ∀ t, t < k → f t = rowW T k (moF σ T P N k ((T ^ k))).2 t)) → V X 12 [.ref (xad X 37), .int ld, .int (nI k), .int (moF σ T P N k ((T ^ k))).1, .int (nI (T ^ k)), .int (nI ((T ^ k))), .float 0] [] (setc (putS (setc σ 32 w) s) 38 f) := by
    intro w s f hv12
    refine V_iload_5 (q := 14) C rfl dX3_mostOut_12 ?_
    refine V_iload_4 (q := 16) C rfl dX3_mostOut_14 ?_
    refine V_icmp_ge_t (tgt := 70) C (nI_le (Nat.le_refl _) (by omega)) (by decide) dX3_mostOut_16 ?_
    refine V_iload_n_3 (q := 71) C rfl dX3_mostOut_70 ?_
    refine V_iret C hR dX3_mostOut_71 ?_
    exact ⟨_, rfl, rfl, w, s, f, rfl, hv12 (Nat.pow_pos h0)⟩
  have hs12 : ∀ r : Nat, r < (T ^ k) → (∀ (w : Nat → Int32) (s : S4) (f : Nat → Int32), ((0 < (r + 1) → ∀ t, t < k → f t = rowW T k (moF σ T P N k (r + 1)).2 t)) → V X 12 [.ref (xad X 37), .int ld, .int (nI k), .int (moF σ T P N k (r + 1)).1, .int (nI (T ^ k)), .int (nI (r + 1)), .float 0] [] (setc (putS (setc σ 32 w) s) 38 f)) → ∀ (w : Nat → Int32) (s : S4) (f : Nat → Int32), ((0 < r → ∀ t, t < k → f t = rowW T k (moF σ T P N k r).2 t)) → V X 12 [.ref (xad X 37), .int ld, .int (nI k), .int (moF σ T P N k r).1, .int (nI (T ^ k)), .int (nI r), .float 0] [] (setc (putS (setc σ 32 w) s) 38 f) := by
    intro r hi12 ih12 w s f hv12
    have hpos : ∀ r : Nat, (moF σ T P N k 0).1 < cntB (passW σ T P (ones (nI P)) N k r).2.2.1 P := fun r => by obtain ⟨c, h1, h2⟩ := cntB_n (b := (passW σ T P (ones (nI P)) N k r).2.2.1) P; rw [h2]; show (-1 : Int32) < nI c; rw [Int32.lt_iff_toInt_lt, nI_toInt (by omega)]; show (-1 : Int) < c; omega
    refine V_iload_5 (q := 14) C rfl dX3_mostOut_12 ?_
    refine V_iload_4 (q := 16) C rfl dX3_mostOut_14 ?_
    refine V_icmp_ge_f (tgt := 70) C (nI_ge hi12 (by omega)) rfl (by decide) dX3_mostOut_16 ?_
    refine V_aload_n_0 (q := 20) C rfl dX3_mostOut_19 ?_
    refine V_iload_5 (q := 22) C rfl dX3_mostOut_20 ?_
    refine V_iload_n_2 (q := 23) C rfl dX3_mostOut_22 ?_
    refine V_cV2v (q := 26) C (Ct.mono (v' := none) (τ' := setc (putS (setc σ 32 (rowW T k r)) s) 38 f) (c_X3_waterBy (setc (putS (setc σ 32 w) s) 38 f) T k r hT hT6 h0 hk (by omega)) rfl set38_32) cw_X3_waterBy cv_X3_waterBy wm_X3_27 (by decide) ob_X3 ⟨by decide, by decide⟩ (Nat.le_of_ble_eq_true rfl) rfl dX3_mostOut_23 ?_
    refine V_aload_n_0 (q := 27) C rfl dX3_mostOut_26 ?_
    refine gf_X3_19 (q := 30) C rfl dX3_mostOut_27 ?_
    refine V_iload_n_1 (q := 31) C rfl dX3_mostOut_30 ?_
    refine V_aload_n_0 (q := 32) C rfl dX3_mostOut_31 ?_
    refine gf_X3_15 (q := 35) C rfl dX3_mostOut_32 ?_
    refine V_cV0r (q := 38) C (Ct.mono (v' := some (.int (ones (nI P)))) (c_X1_allPrisoners _) (by rw [show (setc (putS (setc σ 32 (rowW T k r)) s) 38 f) 12 1 = nI P from hP]) rfl) cw_X1_allPrisoners cv_X1_allPrisoners wm_X3_44 (by decide) ob_X1 ⟨by decide, by decide⟩ (Nat.le_of_ble_eq_true rfl) rfl dX3_mostOut_35 ?_
    refine V_cV2v (q := 41) C (Ct.mono (v' := none) (τ' := setc (putS (setc σ 32 (rowW T k r)) (passW σ T P (ones (nI P)) N k r)) 38 f) (c_X4_passUntilOut (setc (putS (setc σ 32 (rowW T k r)) s) 38 f) T P N ld (ones (nI P)) hT hT6 hP hP6 hN) rfl (by rw [set38_put, runU_38, runU_put]; rfl)) cw_X4_passUntilOut cv_X4_passUntilOut wm_X3_31 (by decide) ob_X4 ⟨by decide, by decide⟩ (Nat.le_of_ble_eq_true rfl) rfl dX3_mostOut_38 ?_
    refine V_aload_n_0 (q := 42) C rfl dX3_mostOut_41 ?_
    refine gf_X3_19 (q := 45) C rfl dX3_mostOut_42 ?_
    refine V_cV0r (q := 48) C (Ct.mono (v' := some (.int (cntB (passW σ T P (ones (nI P)) N k r).2.2.1 P))) (c_X4_countOutByTrees (setc (putS (setc σ 32 (rowW T k r)) (passW σ T P (ones (nI P)) N k r)) 38 f) P hP hP6) rfl rfl) cw_X4_countOutByTrees cv_X4_countOutByTrees wm_X3_50 (by decide) ob_X4 ⟨by decide, by decide⟩ (Nat.le_of_ble_eq_true rfl) rfl dX3_mostOut_45 ?_
    refine V_istore_6 (q := 50) C hn6 rfl rfl dX3_mostOut_48 ?_
    refine V_iload_6 (q := 52) C rfl dX3_mostOut_50 ?_
    refine V_iload_n_3 (q := 53) C rfl dX3_mostOut_52 ?_
    show V X 53 _ (.int (moF σ T P N k r).1 :: .int (cntB (passW σ T P (ones (nI P)) N k r).2.2.1 P) :: []) _
    refine V_icmp_le (tgt := 64) C rfl (by decide) dX3_mostOut_53 (fun c53 => ?_) (fun c53 => ?_)
    · refine V_iinc_5 (q := 67) (n := 1) C nI_inc hn5 rfl rfl dX3_mostOut_64 ?_
      refine V_goto (tgt := 12) C (by decide) dX3_mostOut_67 ?_
      have hm : moF σ T P N k (r + 1) = if (moF σ T P N k r).1 < cntB (passW σ T P (ones (nI P)) N k r).2.2.1 P then (cntB (passW σ T P (ones (nI P)) N k r).2.2.1 P, r) else moF σ T P N k r := rfl
      first
      | (rw [if_neg (Int32.not_lt.mpr c53)] at hm; rw [← hm]; refine V_weak7 (ih12 _ _ _ (fun _ t ht => ?_)); rw [hm]; rcases Nat.eq_zero_or_pos r with h | h; (subst h; exact absurd c53 (Int32.not_le.mpr (hpos 0))); exact hv12 h t ht)
      | (rw [if_pos (Int32.not_le.mp c53)] at hm; rw [show cntB (passW σ T P (ones (nI P)) N k r).2.2.1 P = (moF σ T P N k (r + 1)).1 from by rw [hm]]; refine V_weak7 (V_eq (by show setc (setc (putS (setc σ 32 (rowW T k r)) (passW σ T P (ones (nI P)) N k r)) 38 f) 38 (cpk k (rowW T k r) f) = _; rw [setc_setc]) (ih12 (rowW T k r) (passW σ T P (ones (nI P)) N k r) (cpk k (rowW T k r) f) (fun _ t ht => ?_))); rw [hm, cpk_lt ht])
    · refine V_iload_6 (q := 58) C rfl dX3_mostOut_56 ?_
      refine V_istore_n_3 (q := 59) C hn3 rfl rfl dX3_mostOut_58 ?_
      refine V_aload_n_0 (q := 60) C rfl dX3_mostOut_59 ?_
      refine V_iload_n_2 (q := 61) C rfl dX3_mostOut_60 ?_
      refine V_cV1v (q := 64) C (c_X3_keep (setc (putS (setc σ 32 (rowW T k r)) (passW σ T P (ones (nI P)) N k r)) 38 f) k hk) cw_X3_keep cv_X3_keep wm_X3_40 (by decide) ob_X3 ⟨by decide, by decide⟩ (Nat.le_of_ble_eq_true rfl) rfl dX3_mostOut_61 ?_
      refine V_iinc_5 (q := 67) (n := 1) C nI_inc hn5 rfl rfl dX3_mostOut_64 ?_
      refine V_goto (tgt := 12) C (by decide) dX3_mostOut_67 ?_
      have hm : moF σ T P N k (r + 1) = if (moF σ T P N k r).1 < cntB (passW σ T P (ones (nI P)) N k r).2.2.1 P then (cntB (passW σ T P (ones (nI P)) N k r).2.2.1 P, r) else moF σ T P N k r := rfl
      first
      | (rw [if_neg (Int32.not_lt.mpr c53)] at hm; rw [← hm]; refine V_weak7 (ih12 _ _ _ (fun _ t ht => ?_)); rw [hm]; rcases Nat.eq_zero_or_pos r with h | h; (subst h; exact absurd c53 (Int32.not_le.mpr (hpos 0))); exact hv12 h t ht)
      | (rw [if_pos (Int32.not_le.mp c53)] at hm; rw [show cntB (passW σ T P (ones (nI P)) N k r).2.2.1 P = (moF σ T P N k (r + 1)).1 from by rw [hm]]; refine V_weak7 (V_eq (by show setc (setc (putS (setc σ 32 (rowW T k r)) (passW σ T P (ones (nI P)) N k r)) 38 f) 38 (cpk k (rowW T k r) f) = _; rw [setc_setc]) (ih12 (rowW T k r) (passW σ T P (ones (nI P)) N k r) (cpk k (rowW T k r) f) (fun _ t ht => ?_))); rw [hm, cpk_lt ht])
  exact V_eq (by rw [setc_id, putS_get, setc_id]) (loopN (P := fun r => ∀ (w : Nat → Int32) (s : S4) (f : Nat → Int32), ((0 < r → ∀ t, t < k → f t = rowW T k (moF σ T P N k r).2 t)) → V X 12 [.ref (xad X 37), .int ld, .int (nI k), .int (moF σ T P N k r).1, .int (nI (T ^ k)), .int (nI r), .float 0] [] (setc (putS (setc σ 32 w) s) 38 f)) ((T ^ k)) hx12 hs12 0 (Nat.zero_le _) (σ 32) (getS σ) (σ 38) (fun h => absurd h (Nat.lt_irrefl 0)))

