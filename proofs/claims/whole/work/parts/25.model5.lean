/-! the reference: odds, green, thief -/
theorem LV.set2 {ls : Array Slot} {n : Nat} {lv : List Value} {i : Nat} {x : Value} (h : lv_has ls n ((i, x) :: (al lv).filter (fun q => !(q.1 == i) && (!(q.1 == i + 1) && !(q.1 + 1 == i && q.2.category == 2))))) (h1 : lv[i + 1]? = some (.float 0)) (hc : ∀ v, lv[i - 1]? = some v → i = 0 ∨ v.category = 1) : LV ls n (lv.set i x) := by
  refine LV.of h fun j v hj hd => ?_
  by_cases hji : j = i
  · subst hji
    have hl : j < lv.length := by have := (List.getElem?_eq_some_iff.mp hj).1; rwa [List.length_set] at this
    rw [List.getElem?_set_self hl] at hj
    rw [Option.some.inj hj]
    exact List.mem_cons_self
  · rw [List.getElem?_set_ne (Ne.symm hji)] at hj
    have h3 : ¬ j = i + 1 := fun e => by rw [e, h1] at hj; cases hj; exact absurd hd (by decide)
    refine List.mem_cons_of_mem _ (List.mem_filter.mpr ⟨mem_al.mpr ⟨hj, hd⟩, ?_⟩)
    by_cases e : j + 1 = i
    · have := hc v (by rw [← e]; exact hj)
      rcases this with h0 | h0
      · omega
      · simp [hji, h3, h0]
    · simp [hji, h3, e]
theorem V_lstore_5 {X : CT} {own : String} {cc : ByteArray} {ret : Option FieldType} {fr lo : Nat} {pc q : Nat} {st : List Value} {σ : ST} (C : Cx X own cc ret fr lo) {a0 a1 a2 a3 a4 z : Value} {L : List Value} {x : Int64} (hn : 6 < xn X) (hc : a4.category = 1) (hq : pc + 2 = q) (hdg : decode cc pc = .ok (.lstore 5, 2)) (k : V X q (a0 :: a1 :: a2 :: a3 :: a4 :: .long x :: .float 0 :: L) st σ) : V X pc (a0 :: a1 :: a2 :: a3 :: a4 :: z :: .float 0 :: L) (.long x :: st) σ := by subst hq; exact fun H locs ls hP hS hl => lv_lstore C.x C.b hdg hl hn rfl (fun ls2 h2 => k H locs ls2 hP hS (LV.set2 (lv := a0 :: a1 :: a2 :: a3 :: a4 :: z :: .float 0 :: L) h2 rfl (fun v h => by cases h; exact Or.inr hc)))
theorem V_lstore_7 {X : CT} {own : String} {cc : ByteArray} {ret : Option FieldType} {fr lo : Nat} {pc q : Nat} {st : List Value} {σ : ST} (C : Cx X own cc ret fr lo) {a0 a1 a2 a3 a4 a5 a6 z : Value} {L : List Value} {x : Int64} (hn : 8 < xn X) (hc : a6.category = 1) (hq : pc + 2 = q) (hdg : decode cc pc = .ok (.lstore 7, 2)) (k : V X q (a0 :: a1 :: a2 :: a3 :: a4 :: a5 :: a6 :: .long x :: .float 0 :: L) st σ) : V X pc (a0 :: a1 :: a2 :: a3 :: a4 :: a5 :: a6 :: z :: .float 0 :: L) (.long x :: st) σ := by subst hq; exact fun H locs ls hP hS hl => lv_lstore C.x C.b hdg hl hn rfl (fun ls2 h2 => k H locs ls2 hP hS (LV.set2 (lv := a0 :: a1 :: a2 :: a3 :: a4 :: a5 :: a6 :: z :: .float 0 :: L) h2 rfl (fun v h => by cases h; exact Or.inr hc)))
theorem V_lstore_9 {X : CT} {own : String} {cc : ByteArray} {ret : Option FieldType} {fr lo : Nat} {pc q : Nat} {st : List Value} {σ : ST} (C : Cx X own cc ret fr lo) {a0 a1 a2 a3 a4 a5 a6 a7 a8 z : Value} {L : List Value} {x : Int64} (hn : 10 < xn X) (hc : a8.category = 1) (hq : pc + 2 = q) (hdg : decode cc pc = .ok (.lstore 9, 2)) (k : V X q (a0 :: a1 :: a2 :: a3 :: a4 :: a5 :: a6 :: a7 :: a8 :: .long x :: .float 0 :: L) st σ) : V X pc (a0 :: a1 :: a2 :: a3 :: a4 :: a5 :: a6 :: a7 :: a8 :: z :: .float 0 :: L) (.long x :: st) σ := by subst hq; exact fun H locs ls hP hS hl => lv_lstore C.x C.b hdg hl hn rfl (fun ls2 h2 => k H locs ls2 hP hS (LV.set2 (lv := a0 :: a1 :: a2 :: a3 :: a4 :: a5 :: a6 :: a7 :: a8 :: z :: .float 0 :: L) h2 rfl (fun v h => by cases h; exact Or.inr hc)))
theorem V_weakL {X : CT} {pc : Nat} {a0 a1 a2 a3 a4 a5 a6 a7 a8 a9 a10 : Value} {st : List Value} {σ : ST} (k : V X pc [a0, a1, a2, a3, a4, a5, a6, a7, a8, .float 0, a10] st σ) : V X pc [a0, a1, a2, a3, a4, a5, a6, a7, a8, a9, a10] st σ := fun H locs ls hP hS hl => k H locs ls hP hS (LV.of hl fun i v hi hd => mem_al.mpr ⟨by
  have : i < 11 := (List.getElem?_eq_some_iff.mp hi).1
  have h2 : i = 0 ∨ i = 1 ∨ i = 2 ∨ i = 3 ∨ i = 4 ∨ i = 5 ∨ i = 6 ∨ i = 7 ∨ i = 8 ∨ i = 9 ∨ i = 10 := by omega
  rcases h2 with rfl | rfl | rfl | rfl | rfl | rfl | rfl | rfl | rfl | rfl | rfl
  · exact hi
  · exact hi
  · exact hi
  · exact hi
  · exact hi
  · exact hi
  · exact hi
  · exact hi
  · exact hi
  · cases hi; exact absurd hd (by decide)
  · exact hi, hd⟩)
theorem nI64 {n : Nat} (h : n < 2 ^ 31) : (nI n).toInt64 = lN n := Int64.toInt_inj.mp (by rw [Int32.toInt_toInt64, nI_toInt h, lN_toInt h])
theorem gcd_st {x y g : Nat} (h : Nat.gcd x y = g) : Nat.gcd y (x % y) = g := by
  rw [Nat.gcd_comm, ← Nat.gcd_rec, Nat.gcd_comm]; exact h
def ltM (u d w : Nat) : Nat := if w = 0 then u / Nat.gcd u d else d / Nat.gcd u d

set_option maxHeartbeats 4000000 in
set_option maxRecDepth 100000 in
theorem c_X9_inLeastTerms {l : Launch} {D : DD} {ad : Nat → Nat} (σ : ST) (u d w : Nat) (hu : u ≤ 256) (hd : d ≤ 256) (h0 : 0 < d) (hw1 : w < 2 ^ 31) : Ct l yX9_inLeastTerms cX9_inLeastTerms 11 (Option.some FieldType.long) 0 0 D ad [.long (lN u), .long (lN d), .int (nI w)] σ (ex (some (.long (lN (ltM u d w)))) σ) := by
  refine Ct.of2 [.long (lN u), .float 0, .long (lN d), .float 0, .int (nI w), .float 0, .float 0, .float 0, .float 0, .float 0, .float 0] rfl (Nat.le_of_ble_eq_true rfl) rfl ?_
  rintro X C rfl rfl rfl hxn hR
  have hn6 : 6 < xn X := by rw [← hxn]; decide
  have hn8 : 8 < xn X := by rw [← hxn]; decide
  have hn10 : 10 < xn X := by rw [← hxn]; decide
  refine V_lload_n_0 (q := 1) C rfl dX9_inLeastTerms_0 ?_
  refine V_lstore_5 (q := 3) C hn6 rfl rfl dX9_inLeastTerms_1 ?_
  refine V_lload_n_2 (q := 4) C rfl dX9_inLeastTerms_3 ?_
  refine V_lstore_7 (q := 6) C hn8 rfl rfl dX9_inLeastTerms_4 ?_
  have hx6 : ∀ x y : Nat, (y ≤ 256 - 256 ∧ x ≤ 256 ∧ Nat.gcd x y = Nat.gcd u d) → V X 6 [.long (lN u), .float 0, .long (lN d), .float 0, .int (nI w), .long (lN x), .float 0, .long (lN y), .float 0, .float 0, .float 0] [] (σ) := by
    intro x y hv6
    obtain ⟨h1, h2, h3⟩ := hv6
    have hy : y = 0 := by omega
    subst hy
    have hx : x = Nat.gcd u d := by rw [← h3, Nat.gcd_zero_right]
    have hx0 : 0 < x := by rw [hx]; exact Nat.gcd_pos_of_pos_right _ h0
    refine V_lload_7 (q := 8) C rfl dX9_inLeastTerms_6 ?_
    refine V_lconst (q := 9) (v := 0) C rfl rfl dX9_inLeastTerms_8 ?_
    refine V_lcmp (q := 10) C rfl dX9_inLeastTerms_9 ?_
    refine V_if_eq_t (tgt := 31) C ((lg_cmp_eq _ _).mpr rfl) (by decide) dX9_inLeastTerms_10 ?_
    refine V_iload_4 (q := 33) C rfl dX9_inLeastTerms_31 ?_
    refine V_if_ne (tgt := 43) C rfl (by decide) dX9_inLeastTerms_33 (fun c33 => ?_) (fun c33 => ?_)
    · refine V_lload_n_2 (q := 44) C rfl dX9_inLeastTerms_43 ?_
      refine V_lload_5 (q := 46) C rfl dX9_inLeastTerms_44 ?_
      refine V_ldiv (q := 47) C (fun h => by have := (lN_eq (a := x) (b := 0) (by omega) (by decide)).mp h; omega) rfl dX9_inLeastTerms_46 ?_
      rw [pk_lDiv (by omega) hx0 (by omega)]
      refine V_lret C hR dX9_inLeastTerms_47 ?_
      have hw : ¬ w = 0 := fun h => c33 (by rw [h]; rfl)
      exact ⟨by unfold ltM; rw [if_neg hw, hx], rfl⟩
    · refine V_lload_n_0 (q := 37) C rfl dX9_inLeastTerms_36 ?_
      refine V_lload_5 (q := 39) C rfl dX9_inLeastTerms_37 ?_
      refine V_ldiv (q := 40) C (fun h => by have := (lN_eq (a := x) (b := 0) (by omega) (by decide)).mp h; omega) rfl dX9_inLeastTerms_39 ?_
      rw [pk_lDiv (by omega) hx0 (by omega)]
      refine V_goto (tgt := 47) C (by decide) dX9_inLeastTerms_40 ?_
      refine V_lret C hR dX9_inLeastTerms_47 ?_
      have hw : w = 0 := (nI_eq (a := w) (b := 0) hw1 (by decide)).mp c33
      exact ⟨by unfold ltM; rw [if_pos hw, hx], rfl⟩
  have hs6 : ∀ i : Nat, i < 256 → (∀ x y : Nat, (y ≤ 256 - (i + 1) ∧ x ≤ 256 ∧ Nat.gcd x y = Nat.gcd u d) → V X 6 [.long (lN u), .float 0, .long (lN d), .float 0, .int (nI w), .long (lN x), .float 0, .long (lN y), .float 0, .float 0, .float 0] [] (σ)) → ∀ x y : Nat, (y ≤ 256 - i ∧ x ≤ 256 ∧ Nat.gcd x y = Nat.gcd u d) → V X 6 [.long (lN u), .float 0, .long (lN d), .float 0, .int (nI w), .long (lN x), .float 0, .long (lN y), .float 0, .float 0, .float 0] [] (σ) := by
    intro i hi6 ih6 x y hv6
    obtain ⟨h1, h2, h3⟩ := hv6
    refine V_lload_7 (q := 8) C rfl dX9_inLeastTerms_6 ?_
    refine V_lconst (q := 9) (v := 0) C rfl rfl dX9_inLeastTerms_8 ?_
    refine V_lcmp (q := 10) C rfl dX9_inLeastTerms_9 ?_
    refine V_if_eq (tgt := 31) C rfl (by decide) dX9_inLeastTerms_10 (fun c10 => ?_) (fun c10 => ?_)
    · have hy : y = 0 := (lN_eq (a := y) (b := 0) (by omega) (by decide)).mp ((lg_cmp_eq _ _).mp c10)
      subst hy
      have hx : x = Nat.gcd u d := by rw [← h3, Nat.gcd_zero_right]
      have hx0 : 0 < x := by rw [hx]; exact Nat.gcd_pos_of_pos_right _ h0
      refine V_iload_4 (q := 33) C rfl dX9_inLeastTerms_31 ?_
      refine V_if_ne (tgt := 43) C rfl (by decide) dX9_inLeastTerms_33 (fun c33 => ?_) (fun c33 => ?_)
      · refine V_lload_n_2 (q := 44) C rfl dX9_inLeastTerms_43 ?_
        refine V_lload_5 (q := 46) C rfl dX9_inLeastTerms_44 ?_
        refine V_ldiv (q := 47) C (fun h => by have := (lN_eq (a := x) (b := 0) (by omega) (by decide)).mp h; omega) rfl dX9_inLeastTerms_46 ?_
        rw [pk_lDiv (by omega) hx0 (by omega)]
        refine V_lret C hR dX9_inLeastTerms_47 ?_
        have hw : ¬ w = 0 := fun h => c33 (by rw [h]; rfl)
        exact ⟨by unfold ltM; rw [if_neg hw, hx], rfl⟩
      · refine V_lload_n_0 (q := 37) C rfl dX9_inLeastTerms_36 ?_
        refine V_lload_5 (q := 39) C rfl dX9_inLeastTerms_37 ?_
        refine V_ldiv (q := 40) C (fun h => by have := (lN_eq (a := x) (b := 0) (by omega) (by decide)).mp h; omega) rfl dX9_inLeastTerms_39 ?_
        rw [pk_lDiv (by omega) hx0 (by omega)]
        refine V_goto (tgt := 47) C (by decide) dX9_inLeastTerms_40 ?_
        refine V_lret C hR dX9_inLeastTerms_47 ?_
        have hw : w = 0 := (nI_eq (a := w) (b := 0) hw1 (by decide)).mp c33
        exact ⟨by unfold ltM; rw [if_pos hw, hx], rfl⟩
    · have hy : 0 < y := by
        rcases Nat.eq_zero_or_pos y with h | h
        · exact absurd ((lg_cmp_eq _ _).mpr (by rw [h]; rfl)) c10
        · exact h
      refine V_lload_5 (q := 15) C rfl dX9_inLeastTerms_13 ?_
      refine V_lload_7 (q := 17) C rfl dX9_inLeastTerms_15 ?_
      refine V_lrem (q := 18) C (fun h => by have := (lN_eq (a := y) (b := 0) (by omega) (by decide)).mp h; omega) rfl dX9_inLeastTerms_17 ?_
      rw [pk_lRem (by omega) hy (by omega)]
      refine V_lstore_9 (q := 20) C hn10 rfl rfl dX9_inLeastTerms_18 ?_
      refine V_lload_7 (q := 22) C rfl dX9_inLeastTerms_20 ?_
      refine V_lstore_5 (q := 24) C hn6 rfl rfl dX9_inLeastTerms_22 ?_
      refine V_lload_9 (q := 26) C rfl dX9_inLeastTerms_24 ?_
      refine V_lstore_7 (q := 28) C hn8 rfl rfl dX9_inLeastTerms_26 ?_
      refine V_goto (tgt := 6) C (by decide) dX9_inLeastTerms_28 ?_
      refine V_weakL (ih6 y (x % y) ⟨by have := Nat.mod_lt x hy; omega, by omega, gcd_st h3⟩)
  exact V_eq (rfl) (loopN (P := fun i => ∀ x y : Nat, (y ≤ 256 - i ∧ x ≤ 256 ∧ Nat.gcd x y = Nat.gcd u d) → V X 6 [.long (lN u), .float 0, .long (lN d), .float 0, .int (nI w), .long (lN x), .float 0, .long (lN y), .float 0, .float 0, .float 0] [] (σ)) (256) hx6 hs6 0 (Nat.zero_le _) u d (⟨hd, hu, rfl⟩))

set_option maxHeartbeats 4000000 in
set_option maxRecDepth 100000 in
theorem c_X9_odds_u {l : Launch} {D : DD} {ad : Nat → Nat} (σ : ST) (P : Nat) (p n w : Int32) (hP : σ 40 6 = nI P) (h : ¬ (isT (nI P) p ∧ ¬ n < 0 ∧ ¬ 8 < n ∧ ¬ w < 0 ∧ ¬ 1 < w)) : Ct l yX9_odds cX9_odds 7 (Option.some FieldType.long) 4 88 D ad [.ref (ad 40), .int p, .int n, .int w] σ (ex (some (.long lostL)) σ) := by
  refine Ct.of2 [.ref (ad 40), .int p, .int n, .int w, .float 0, .float 0, .float 0] rfl (Nat.le_of_ble_eq_true rfl) rfl ?_
  rintro X C rfl rfl rfl hxn hR
  refine V_aload_n_0 (q := 1) C rfl dX9_odds_0 ?_
  refine V_iload_n_1 (q := 2) C rfl dX9_odds_1 ?_
  refine V_cV1r (q := 5) C (Ct.mono (v' := some (.int (pI (isT (nI P) p)))) (c_X9_isPrisoner σ p) (by rw [show σ 40 6 = nI P from hP]) rfl) cw_X9_isPrisoner cv_X9_isPrisoner wm_X9_162 (by decide) ob_X9 ⟨by decide, by decide⟩ (Nat.le_of_ble_eq_true rfl) rfl dX9_odds_2 ?_
  refine V_ifp_eq (tgt := 27) C rfl (by decide) dX9_odds_5 (fun c5 => ?_) (fun c5 => ?_)
  · refine V_ldc2 (q := 30) C wc_X9_99 rfl dX9_odds_27 ?_
    refine V_lret C hR dX9_odds_30 ?_
    exact ⟨rfl, rfl⟩
  · refine V_iload_n_2 (q := 9) C rfl dX9_odds_8 ?_
    refine V_iconst (q := 10) (v := 0) C rfl rfl dX9_odds_9 ?_
    refine V_bipush (q := 12) (v := 8) C (by decide) rfl dX9_odds_10 ?_
    refine V_cS3r (q := 15) C (c_X9_within _ _ _ _) cw_X9_within cs_X9_within wm_X9_101 ⟨by decide, by decide⟩ (Nat.le_of_ble_eq_true rfl) rfl dX9_odds_12 ?_
    refine V_ifp_eq (tgt := 27) C rfl (by decide) dX9_odds_15 (fun c15 => ?_) (fun c15 => ?_)
    · refine V_ldc2 (q := 30) C wc_X9_99 rfl dX9_odds_27 ?_
      refine V_lret C hR dX9_odds_30 ?_
      exact ⟨rfl, rfl⟩
    · refine V_iload_n_3 (q := 19) C rfl dX9_odds_18 ?_
      refine V_iconst (q := 20) (v := 0) C rfl rfl dX9_odds_19 ?_
      refine V_iconst (q := 21) (v := 1) C rfl rfl dX9_odds_20 ?_
      refine V_cS3r (q := 24) C (c_X9_within _ _ _ _) cw_X9_within cs_X9_within wm_X9_101 ⟨by decide, by decide⟩ (Nat.le_of_ble_eq_true rfl) rfl dX9_odds_21 ?_
      refine V_ifp_ne (tgt := 31) C rfl (by decide) dX9_odds_24 (fun c24 => ?_) (fun c24 => ?_)
      · exact absurd ⟨c5, c15.1, c15.2, c24.1, c24.2⟩ h
      · refine V_ldc2 (q := 30) C wc_X9_99 rfl dX9_odds_27 ?_
        refine V_lret C hR dX9_odds_30 ?_
        exact ⟨rfl, rfl⟩

def rnM (r d : Nat) : Int32 := if (nI r >>> (nI d &&& 31)) &&& 1 = 1 then 3 else 0
def odS (σ : ST) (m r : Nat) : ST := setc σ 50 (pre m (rnM r) (σ 50))
abbrev odQ (σ : ST) (T P C p m r : Nat) : Prop := ¬ (mDC (odS σ m r) T P C m).2.2 p = -9
def odM (σ : ST) (T P C p m : Nat) : Nat → Nat
  | 0 => 0
  | r + 1 => if odQ σ T P C p m r then odM σ T P C p m r + 1 else odM σ T P C p m r
theorem odM_le {σ : ST} {T P C p m : Nat} : ∀ r : Nat, odM σ T P C p m r ≤ r := by
  intro r
  induction r with
  | zero => exact Nat.le_refl _
  | succ r ih =>
    show (if odQ σ T P C p m r then odM σ T P C p m r + 1 else odM σ T P C p m r) ≤ r + 1
    split <;> omega
def kp (σ : ST) : ST := setc σ 64 (pre 30 (σ 50) (σ 64))
theorem putM_50 {σ : ST} {s : S3} {w : Nat → Int32} : setc (putM σ s) 50 w = putM (setc σ 50 w) s := putM_c (by decide)
theorem od_cg {σ : ST} {s : S3} {T P C m r : Nat} {w : Nat → Int32} (hm : m ≤ 8) (hw : pre m (rnM r) w = pre m (rnM r) (σ 50)) : mDC (putM (setc (kp σ) 50 (pre m (rnM r) w)) s) T P C m = mDC (odS σ m r) T P C m := by
  rw [hw]
  exact (mDays_put _).trans (mDays_cg (σ := setc (kp σ) 50 (pre m (rnM r) (σ 50))) (τ := odS σ m r) ⟨fun _ _ => rfl, rfl, rfl, rfl, rfl, rfl, rfl, rfl, rfl, fun _ _ => ⟨rfl, rfl⟩⟩ m (by omega))
theorem kp_un {σ : ST} {s : S3} {m : Nat} {w : Nat → Int32} (hm : m ≤ 8) (hw : ∀ f, pre m f w = pre m f (σ 50)) : setc (putM (setc (kp σ) 50 w) s) 50 (pre 30 (σ 50) w) = putM (kp σ) s := by
  have e : pre 30 (σ 50) w = σ 50 := funext fun t => by
    by_cases ht : t < 30
    · rw [pre_lt ht]
    · rw [pre_ge ht]
      have := congrFun (hw (fun _ => 0)) t
      rw [pre_ge (by omega), pre_ge (by omega)] at this
      exact this
  rw [e, putM_50, setc_setc]
  exact congrArg (fun z => putM z s) (show setc (kp σ) 50 ((kp σ) 50) = kp σ from setc_id)

theorem shl64 : ∀ m : Nat, m ≤ 8 → (1 : Int64) <<< ((nI m).toInt64 &&& 63) = lN (2 ^ m) := by
  intro m h
  have : m = 0 ∨ m = 1 ∨ m = 2 ∨ m = 3 ∨ m = 4 ∨ m = 5 ∨ m = 6 ∨ m = 7 ∨ m = 8 := by omega
  rcases this with rfl | rfl | rfl | rfl | rfl | rfl | rfl | rfl | rfl <;> decide

set_option maxHeartbeats 4000000 in
set_option maxRecDepth 100000 in
theorem c_X9_odds_v {l : Launch} {D : DD} {ad : Nat → Nat} (σ : ST) (T P C2 j m wh : Nat) (hM : MH σ T P C2) (hj : j < P) (hm : m ≤ 8) (hw : wh ≤ 1) : Ct l yX9_odds cX9_odds 7 (Option.some FieldType.long) 4 88 D ad [.ref (ad 40), .int (nI j), .int (nI m), .int (nI wh)] σ (pl (fun v τ => v = lN (ltM (odM σ T P C2 j m (2 ^ m)) (2 ^ m) wh) ∧ KM C2 σ τ)) := by
  refine Ct.of2 [.ref (ad 40), .int (nI j), .int (nI m), .int (nI wh), .float 0, .float 0, .float 0] rfl (Nat.le_of_ble_eq_true rfl) rfl ?_
  rintro X C rfl rfl rfl hxn hR
  have hn4 : 4 < xn X := by rw [← hxn]; decide
  have hn5 : 5 < xn X := by rw [← hxn]; decide
  have hn6 : 6 < xn X := by rw [← hxn]; decide
  have hP := hM.2.2.1
  have hP6 := hM.2.2.2.1
  have hp2 := p2_b8 hm
  refine V_aload_n_0 (q := 1) C rfl dX9_odds_0 ?_
  refine V_iload_n_1 (q := 2) C rfl dX9_odds_1 ?_
  refine V_cV1r (q := 5) C (Ct.mono (v' := some (.int (pI (isT (nI P) (nI j))))) (c_X9_isPrisoner σ (nI j)) (by rw [show σ 40 6 = nI P from hP]) rfl) cw_X9_isPrisoner cv_X9_isPrisoner wm_X9_162 (by decide) ob_X9 ⟨by decide, by decide⟩ (Nat.le_of_ble_eq_true rfl) rfl dX9_odds_2 ?_
  refine V_ifp_eq_f (tgt := 27) C (isT_nI hj (by omega)) rfl (by decide) dX9_odds_5 ?_
  refine V_iload_n_2 (q := 9) C rfl dX9_odds_8 ?_
  refine V_iconst (q := 10) (v := 0) C rfl rfl dX9_odds_9 ?_
  refine V_bipush (q := 12) (v := 8) C (by decide) rfl dX9_odds_10 ?_
  refine V_cS3r (q := 15) C (c_X9_within _ _ _ _) cw_X9_within cs_X9_within wm_X9_101 ⟨by decide, by decide⟩ (Nat.le_of_ble_eq_true rfl) rfl dX9_odds_12 ?_
  refine V_ifp_eq_f (tgt := 27) C ⟨nI_pos (by omega), nI_nlt (a := 8) hm (by decide)⟩ rfl (by decide) dX9_odds_15 ?_
  refine V_iload_n_3 (q := 19) C rfl dX9_odds_18 ?_
  refine V_iconst (q := 20) (v := 0) C rfl rfl dX9_odds_19 ?_
  refine V_iconst (q := 21) (v := 1) C rfl rfl dX9_odds_20 ?_
  refine V_cS3r (q := 24) C (c_X9_within _ _ _ _) cw_X9_within cs_X9_within wm_X9_101 ⟨by decide, by decide⟩ (Nat.le_of_ble_eq_true rfl) rfl dX9_odds_21 ?_
  refine V_ifp_ne_t (tgt := 31) C ⟨nI_pos (by omega), nI_nlt (a := 1) hw (by decide)⟩ (by decide) dX9_odds_24 ?_
  refine V_iconst (q := 32) (v := (nI 0)) C rfl rfl dX9_odds_31 ?_
  refine V_istore_4 (q := 34) C hn4 rfl rfl dX9_odds_32 ?_
  have hx34 : V X 34 [.ref (xad X 40), .int (nI j), .int (nI m), .int (nI wh), .int (nI 30), .float 0, .float 0] [] (setc σ 64 (pre 30 (σ 50) (σ 64))) := by
    refine V_iload_4 (q := 36) C rfl dX9_odds_34 ?_
    refine V_bipush (q := 38) (v := 30) C (by decide) rfl dX9_odds_36 ?_
    refine V_icmp_ge_t (tgt := 61) C (by decide) (by decide) dX9_odds_38 ?_
    refine V_iconst (q := 62) (v := (nI (odM σ T P C2 j m 0))) C rfl rfl dX9_odds_61 ?_
    refine V_istore_4 (q := 64) C hn4 rfl rfl dX9_odds_62 ?_
    refine V_iconst (q := 65) (v := (nI 0)) C rfl rfl dX9_odds_64 ?_
    refine V_istore_5 (q := 67) C hn5 rfl rfl dX9_odds_65 ?_
    have hx67 : ∀ (w : Nat → Int32) (s : S3), (∀ f, pre m f w = pre m f (σ 50)) →  V X 67 [.ref (xad X 40), .int (nI j), .int (nI m), .int (nI wh), .int (nI (odM σ T P C2 j m ((2 ^ m)))), .int (nI ((2 ^ m))), .float 0] [] (putM (setc (kp σ) 50 w) s) := by
      intro w s hw50
      refine V_iload_5 (q := 69) C rfl dX9_odds_67 ?_
      refine V_iconst (q := 70) (v := 1) C rfl rfl dX9_odds_69 ?_
      refine V_iload_n_2 (q := 71) C rfl dX9_odds_70 ?_
      refine V_ishl (q := 72) C rfl dX9_odds_71 ?_
      rw [show (1 : Int32) <<< (nI m &&& 31) = nI (2 ^ m) from own1_p m hm]
      refine V_icmp_ge_t (tgt := 147) C (nI_le (Nat.le_refl _) (by omega)) (by decide) dX9_odds_72 ?_
      refine V_iconst (q := 148) (v := (nI 0)) C rfl rfl dX9_odds_147 ?_
      refine V_istore_5 (q := 150) C hn5 rfl rfl dX9_odds_148 ?_
      have hx150 : V X 150 [.ref (xad X 40), .int (nI j), .int (nI m), .int (nI wh), .int (nI (odM σ T P C2 j m (2 ^ m))), .int (nI 30), .float 0] [] (setc (putM (setc (kp σ) 50 w) s) 50 (pre 30 (σ 50) w)) := by
        refine V_iload_5 (q := 152) C rfl dX9_odds_150 ?_
        refine V_bipush (q := 154) (v := 30) C (by decide) rfl dX9_odds_152 ?_
        refine V_icmp_ge_t (tgt := 177) C (by decide) (by decide) dX9_odds_154 ?_
        refine V_eq (kp_un hm hw50) ?_
        have hl := odM_le (σ := σ) (T := T) (P := P) (C := C2) (p := j) (m := m) (2 ^ m)
        refine V_iload_4 (q := 179) C rfl dX9_odds_177 ?_
        refine V_i2l (q := 180) C rfl dX9_odds_179 ?_
        rw [nI64 (by omega)]
        refine V_lconst (q := 181) (v := 1) C rfl rfl dX9_odds_180 ?_
        refine V_iload_n_2 (q := 182) C rfl dX9_odds_181 ?_
        refine V_lshl (q := 183) C rfl dX9_odds_182 ?_
        rw [show (1 : Int64) <<< ((nI m).toInt64 &&& 63) = lN (2 ^ m) from shl64 m hm]
        refine V_iload_n_3 (q := 184) C rfl dX9_odds_183 ?_
        refine V_cS3r (q := 187) C (c_X9_inLeastTerms (putM (kp σ) s) (odM σ T P C2 j m (2 ^ m)) (2 ^ m) wh (by omega) (by omega) hp2.1 (by omega)) cw_X9_inLeastTerms cs_X9_inLeastTerms wm_X9_211 ⟨by decide, by decide⟩ (Nat.le_of_ble_eq_true rfl) rfl dX9_odds_184 ?_
        refine V_lret C hR dX9_odds_187 ?_
        exact ⟨_, rfl, rfl, (KM.setc (by omega)).trans KM.put⟩
      have hs150 : ∀ t : Nat, t < 30 → (V X 150 [.ref (xad X 40), .int (nI j), .int (nI m), .int (nI wh), .int (nI (odM σ T P C2 j m (2 ^ m))), .int (nI (t + 1)), .float 0] [] (setc (putM (setc (kp σ) 50 w) s) 50 (pre (t + 1) (σ 50) w))) → V X 150 [.ref (xad X 40), .int (nI j), .int (nI m), .int (nI wh), .int (nI (odM σ T P C2 j m (2 ^ m))), .int (nI t), .float 0] [] (setc (putM (setc (kp σ) 50 w) s) 50 (pre t (σ 50) w)) := by
        intro t hi150 ih150
        refine V_iload_5 (q := 152) C rfl dX9_odds_150 ?_
        refine V_bipush (q := 154) (v := 30) C (by decide) rfl dX9_odds_152 ?_
        refine V_icmp_ge_f (tgt := 177) C (nI_ge (b := 30) hi150 (by decide)) rfl (by decide) dX9_odds_154 ?_
        refine V_aload_n_0 (q := 158) C rfl dX9_odds_157 ?_
        refine gf_X9_38 (q := 161) C rfl dX9_odds_158 ?_
        refine V_iload_5 (q := 163) C rfl dX9_odds_161 ?_
        refine V_aload_n_0 (q := 164) C rfl dX9_odds_163 ?_
        refine gf_X9_84 (q := 167) C rfl dX9_odds_164 ?_
        refine V_iload_5 (q := 169) C rfl dX9_odds_167 ?_
        refine V_iald (q := 170) C _ rfl (by show _ < 30; omega) rfl (by decide) (by decide) rfl dX9_odds_169 ?_
        refine V_iast (q := 171) C _ rfl (by show _ < 30; omega) rfl (by decide) (by decide) rfl dX9_odds_170 ?_
        refine V_iinc_5 (q := 174) (n := 1) C nI_inc hn5 rfl rfl dX9_odds_171 ?_
        refine V_goto (tgt := 150) C (by decide) dX9_odds_174 ?_
        refine V_eq ?_ ih150
        show setc (setc (putM (setc (kp σ) 50 w) s) 50 (pre t (σ 50) w)) 50 (upd (pre t (σ 50) w) t (pre 30 (σ 50) (σ 64) t)) = _
        rw [setc_setc, pre_step (pre_lt hi150)]
      exact V_eq (by rw [pre_0]; exact (setc_id (σ := putM (setc (kp σ) 50 w) s) (k := 50)).symm) (loopN (P := fun t => V X 150 [.ref (xad X 40), .int (nI j), .int (nI m), .int (nI wh), .int (nI (odM σ T P C2 j m (2 ^ m))), .int (nI t), .float 0] [] (setc (putM (setc (kp σ) 50 w) s) 50 (pre t (σ 50) w))) (30) hx150 hs150 0 (Nat.zero_le _))
    have hs67 : ∀ r : Nat, r < (2 ^ m) → (∀ (w : Nat → Int32) (s : S3), (∀ f, pre m f w = pre m f (σ 50)) →  V X 67 [.ref (xad X 40), .int (nI j), .int (nI m), .int (nI wh), .int (nI (odM σ T P C2 j m (r + 1))), .int (nI (r + 1)), .float 0] [] (putM (setc (kp σ) 50 w) s)) → ∀ (w : Nat → Int32) (s : S3), (∀ f, pre m f w = pre m f (σ 50)) →  V X 67 [.ref (xad X 40), .int (nI j), .int (nI m), .int (nI wh), .int (nI (odM σ T P C2 j m r)), .int (nI r), .float 0] [] (putM (setc (kp σ) 50 w) s) := by
      intro r hi67 ih67 w s hw50
      have hl := odM_le (σ := σ) (T := T) (P := P) (C := C2) (p := j) (m := m) r
      refine V_iload_5 (q := 69) C rfl dX9_odds_67 ?_
      refine V_iconst (q := 70) (v := 1) C rfl rfl dX9_odds_69 ?_
      refine V_iload_n_2 (q := 71) C rfl dX9_odds_70 ?_
      refine V_ishl (q := 72) C rfl dX9_odds_71 ?_
      rw [show (1 : Int32) <<< (nI m &&& 31) = nI (2 ^ m) from own1_p m hm]
      refine V_icmp_ge_f (tgt := 147) C (nI_ge hi67 (by omega)) rfl (by decide) dX9_odds_72 ?_
      refine V_iconst (q := 76) (v := (nI 0)) C rfl rfl dX9_odds_75 ?_
      refine V_istore_6 (q := 78) C hn6 rfl rfl dX9_odds_76 ?_
      have hx78 : V X 78 [.ref (xad X 40), .int (nI j), .int (nI m), .int (nI wh), .int (nI (odM σ T P C2 j m r)), .int (nI r), .int (nI m)] [] (putM (setc (kp σ) 50 (pre m (rnM r) w)) s) := by
        refine V_iload_6 (q := 80) C rfl dX9_odds_78 ?_
        refine V_iload_n_2 (q := 81) C rfl dX9_odds_80 ?_
        refine V_icmp_ge_t (tgt := 113) C (nI_le (Nat.le_refl _) (by omega)) (by decide) dX9_odds_81 ?_
        refine V_aload_n_0 (q := 114) C rfl dX9_odds_113 ?_
        refine V_iload_n_2 (q := 115) C rfl dX9_odds_114 ?_
        refine V_iconst (q := 116) (v := 1) C rfl rfl dX9_odds_115 ?_
        refine V_isub (q := 117) C rfl dX9_odds_116 ?_
        refine V_cV1v (q := 120) C (c_X9_goTo (putM (setc (kp σ) 50 (pre m (rnM r) w)) s) T P C2 m (nI m - 1) hM (ldM hm)) cw_X9_goTo cv_X9_goTo wm_X9_185 (by decide) ob_X9 ⟨by decide, by decide⟩ (Nat.le_of_ble_eq_true rfl) rfl dX9_odds_117 ?_
        have hE : EqR T P (mDays (putM (setc (kp σ) 50 (pre m (rnM r) w)) s) T P C2 m (m0 (putM (setc (kp σ) 50 (pre m (rnM r) w)) s) T P)) (mDC (odS σ m r) T P C2 m) := by have h1 := mDC_eq (σ := putM (setc (kp σ) 50 (pre m (rnM r) w)) s) (T := T) (P := P) (C := C2) (N := m) hM (ldM hm).1; rw [od_cg hm (hw50 _)] at h1; exact h1
        generalize mDays (putM (setc (kp σ) 50 (pre m (rnM r) w)) s) T P C2 m (m0 (putM (setc (kp σ) 50 (pre m (rnM r) w)) s) T P) = s1 at hE ⊢
        refine V_eq putM_putM ?_
        refine V_iload_4 (q := 122) C rfl dX9_odds_120 ?_
        refine V_aload_n_0 (q := 123) C rfl dX9_odds_122 ?_
        refine gf_X9_74 (q := 126) C rfl dX9_odds_123 ?_
        refine V_iload_n_1 (q := 127) C rfl dX9_odds_126 ?_
        refine V_iald (q := 128) C _ rfl (by show _ < 6; omega) rfl (by decide) (by decide) rfl dX9_odds_127 ?_
        rw [show (putM (setc (kp σ) 50 (pre m (rnM r) w)) s1) 62 j = (mDC (odS σ m r) T P C2 m).2.2 j from (hE.2 j hj).2]
        refine V_bipush (q := 130) (v := (-9)) C (by decide) rfl dX9_odds_128 ?_
        refine V_icmp_ne (tgt := 137) C rfl (by decide) dX9_odds_130 (fun c130 => ?_) (fun c130 => ?_)
        · refine V_iconst (q := 138) (v := 1) C rfl rfl dX9_odds_137 ?_
          refine V_iadd (q := 139) C rfl dX9_odds_138 ?_
          skip
          refine V_istore_4 (q := 141) C hn4 rfl rfl dX9_odds_139 ?_
          refine V_iinc_5 (q := 144) (n := 1) C nI_inc hn5 rfl rfl dX9_odds_141 ?_
          refine V_goto (tgt := 67) C (by decide) dX9_odds_144 ?_
          have hw2 : ∀ f, pre m f (pre m (rnM r) w) = pre m f (σ 50) := fun f => by rw [pre_pre]; exact hw50 f
          first
          | (refine V_weak7 (V_eqlv ?_ (ih67 _ _ hw2)); rw [show nI (odM σ T P C2 j m (r + 1)) = nI (odM σ T P C2 j m r) + 1 from by rw [show odM σ T P C2 j m (r + 1) = odM σ T P C2 j m r + 1 from if_pos c130, nI_1]]; done)
          | (refine V_weak7 (V_eqlv ?_ (ih67 _ _ hw2)); rw [show odM σ T P C2 j m (r + 1) = odM σ T P C2 j m r from if_neg (nn c130), Int32.add_zero]; done)
        · refine V_iconst (q := 134) (v := 0) C rfl rfl dX9_odds_133 ?_
          refine V_goto (tgt := 138) C (by decide) dX9_odds_134 ?_
          refine V_iadd (q := 139) C rfl dX9_odds_138 ?_
          skip
          refine V_istore_4 (q := 141) C hn4 rfl rfl dX9_odds_139 ?_
          refine V_iinc_5 (q := 144) (n := 1) C nI_inc hn5 rfl rfl dX9_odds_141 ?_
          refine V_goto (tgt := 67) C (by decide) dX9_odds_144 ?_
          have hw2 : ∀ f, pre m f (pre m (rnM r) w) = pre m f (σ 50) := fun f => by rw [pre_pre]; exact hw50 f
          first
          | (refine V_weak7 (V_eqlv ?_ (ih67 _ _ hw2)); rw [show nI (odM σ T P C2 j m (r + 1)) = nI (odM σ T P C2 j m r) + 1 from by rw [show odM σ T P C2 j m (r + 1) = odM σ T P C2 j m r + 1 from if_pos c130, nI_1]]; done)
          | (refine V_weak7 (V_eqlv ?_ (ih67 _ _ hw2)); rw [show odM σ T P C2 j m (r + 1) = odM σ T P C2 j m r from if_neg (nn c130), Int32.add_zero]; done)
      have hs78 : ∀ d : Nat, d < m → (V X 78 [.ref (xad X 40), .int (nI j), .int (nI m), .int (nI wh), .int (nI (odM σ T P C2 j m r)), .int (nI r), .int (nI (d + 1))] [] (putM (setc (kp σ) 50 (pre (d + 1) (rnM r) w)) s)) → V X 78 [.ref (xad X 40), .int (nI j), .int (nI m), .int (nI wh), .int (nI (odM σ T P C2 j m r)), .int (nI r), .int (nI d)] [] (putM (setc (kp σ) 50 (pre d (rnM r) w)) s) := by
        intro d hi78 ih78
        refine V_iload_6 (q := 80) C rfl dX9_odds_78 ?_
        refine V_iload_n_2 (q := 81) C rfl dX9_odds_80 ?_
        refine V_icmp_ge_f (tgt := 113) C (nI_ge hi78 (by omega)) rfl (by decide) dX9_odds_81 ?_
        refine V_aload_n_0 (q := 85) C rfl dX9_odds_84 ?_
        refine gf_X9_38 (q := 88) C rfl dX9_odds_85 ?_
        refine V_iload_6 (q := 90) C rfl dX9_odds_88 ?_
        refine V_iload_5 (q := 92) C rfl dX9_odds_90 ?_
        refine V_iload_6 (q := 94) C rfl dX9_odds_92 ?_
        refine V_ishr (q := 95) C rfl dX9_odds_94 ?_
        refine V_iconst (q := 96) (v := 1) C rfl rfl dX9_odds_95 ?_
        refine V_iand (q := 97) C rfl dX9_odds_96 ?_
        refine V_iconst (q := 98) (v := 1) C rfl rfl dX9_odds_97 ?_
        refine V_icmp_ne (tgt := 105) C rfl (by decide) dX9_odds_98 (fun c98 => ?_) (fun c98 => ?_)
        · refine V_iconst (q := 106) (v := 0) C rfl rfl dX9_odds_105 ?_
          refine V_iast (q := 107) C _ rfl (by show _ < 30; omega) rfl (by decide) (by decide) rfl dX9_odds_106 ?_
          refine V_iinc_6 (q := 110) (n := 1) C nI_inc hn6 rfl rfl dX9_odds_107 ?_
          refine V_goto (tgt := 78) C (by decide) dX9_odds_110 ?_
          refine V_eq ?_ ih78
          show setc (putM (setc (kp σ) 50 (pre d (rnM r) w)) s) 50 (upd (pre d (rnM r) w) d _) = _
          rw [putM_50, setc_setc]
          first
          | (rw [pre_step (show (3 : Int32) = rnM r d from (if_pos c98).symm)]; done)
          | (rw [pre_step (show (0 : Int32) = rnM r d from (if_neg c98).symm)]; done)
        · refine V_iconst (q := 102) (v := 3) C rfl rfl dX9_odds_101 ?_
          refine V_goto (tgt := 106) C (by decide) dX9_odds_102 ?_
          refine V_iast (q := 107) C _ rfl (by show _ < 30; omega) rfl (by decide) (by decide) rfl dX9_odds_106 ?_
          refine V_iinc_6 (q := 110) (n := 1) C nI_inc hn6 rfl rfl dX9_odds_107 ?_
          refine V_goto (tgt := 78) C (by decide) dX9_odds_110 ?_
          refine V_eq ?_ ih78
          show setc (putM (setc (kp σ) 50 (pre d (rnM r) w)) s) 50 (upd (pre d (rnM r) w) d _) = _
          rw [putM_50, setc_setc]
          first
          | (rw [pre_step (show (3 : Int32) = rnM r d from (if_pos c98).symm)]; done)
          | (rw [pre_step (show (0 : Int32) = rnM r d from (if_neg c98).symm)]; done)
      exact V_eq (by rw [pre_0]) (loopN (P := fun d => V X 78 [.ref (xad X 40), .int (nI j), .int (nI m), .int (nI wh), .int (nI (odM σ T P C2 j m r)), .int (nI r), .int (nI d)] [] (putM (setc (kp σ) 50 (pre d (rnM r) w)) s)) (m) hx78 hs78 0 (Nat.zero_le _))
    exact V_eq (by rw [show setc (kp σ) 50 (σ 50) = kp σ from setc_id (σ := kp σ) (k := 50), putM_get]; rfl) (loopN (P := fun r => ∀ (w : Nat → Int32) (s : S3), (∀ f, pre m f w = pre m f (σ 50)) →  V X 67 [.ref (xad X 40), .int (nI j), .int (nI m), .int (nI wh), .int (nI (odM σ T P C2 j m r)), .int (nI r), .float 0] [] (putM (setc (kp σ) 50 w) s)) ((2 ^ m)) hx67 hs67 0 (Nat.zero_le _) (σ 50) (getM (kp σ)) (fun _ => rfl))
  have hs34 : ∀ t : Nat, t < 30 → (V X 34 [.ref (xad X 40), .int (nI j), .int (nI m), .int (nI wh), .int (nI (t + 1)), .float 0, .float 0] [] (setc σ 64 (pre (t + 1) (σ 50) (σ 64)))) → V X 34 [.ref (xad X 40), .int (nI j), .int (nI m), .int (nI wh), .int (nI t), .float 0, .float 0] [] (setc σ 64 (pre t (σ 50) (σ 64))) := by
    intro t hi34 ih34
    refine V_iload_4 (q := 36) C rfl dX9_odds_34 ?_
    refine V_bipush (q := 38) (v := 30) C (by decide) rfl dX9_odds_36 ?_
    refine V_icmp_ge_f (tgt := 61) C (nI_ge (b := 30) hi34 (by decide)) rfl (by decide) dX9_odds_38 ?_
    refine V_aload_n_0 (q := 42) C rfl dX9_odds_41 ?_
    refine gf_X9_84 (q := 45) C rfl dX9_odds_42 ?_
    refine V_iload_4 (q := 47) C rfl dX9_odds_45 ?_
    refine V_aload_n_0 (q := 48) C rfl dX9_odds_47 ?_
    refine gf_X9_38 (q := 51) C rfl dX9_odds_48 ?_
    refine V_iload_4 (q := 53) C rfl dX9_odds_51 ?_
    refine V_iald (q := 54) C _ rfl (by show _ < 30; omega) rfl (by decide) (by decide) rfl dX9_odds_53 ?_
    refine V_iast (q := 55) C _ rfl (by show _ < 30; omega) rfl (by decide) (by decide) rfl dX9_odds_54 ?_
    refine V_iinc_4 (q := 58) (n := 1) C nI_inc hn4 rfl rfl dX9_odds_55 ?_
    refine V_goto (tgt := 34) C (by decide) dX9_odds_58 ?_
    refine V_eq ?_ ih34
    show setc (setc σ 64 (pre t (σ 50) (σ 64))) 64 (upd (pre t (σ 50) (σ 64)) t (σ 50 t)) = _
    rw [setc_setc, pre_step rfl]
  exact V_eq (by rw [pre_0, setc_id]) (loopN (P := fun t => V X 34 [.ref (xad X 40), .int (nI j), .int (nI m), .int (nI wh), .int (nI t), .float 0, .float 0] [] (setc σ 64 (pre t (σ 50) (σ 64)))) (30) hx34 hs34 0 (Nat.zero_le _))

