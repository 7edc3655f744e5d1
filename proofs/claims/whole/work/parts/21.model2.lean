/-! the reference: what its days say on the ranges alone; its public calls, a case each -/
def EqR (T P : Nat) (s t : S3) : Prop := (∀ i, i < T → s.1 i = t.1 i) ∧ ∀ p, p < P → s.2.1 p = t.2.1 p ∧ s.2.2 p = t.2.2 p
theorem EqR.refl {T P : Nat} {s : S3} : EqR T P s s := ⟨fun _ _ => rfl, fun _ _ => ⟨rfl, rfl⟩⟩
theorem pre_eq {n i : Nat} {f g f2 g2 : Nat → Int32} (hi : i < n) (h : f i = f2 i) : pre n f g i = pre n f2 g2 i := by rw [pre_lt hi, pre_lt hi, h]
theorem upd_eq {k i : Nat} {f g : Nat → Int32} {x y : Int32} (hx : x = y) (h : f i = g i) : upd f k x i = upd g k y i := by
  unfold upd
  by_cases e : i = k
  · rw [if_pos e, if_pos e, hx]
  · rw [if_neg e, if_neg e, h]
theorem gwM_eq {T : Nat} {f a x : Int32} {w v : Nat → Int32} (h : ∀ i, i < T → w i = v i) (hx : x = -9 ∨ ∃ t : Nat, t < T ∧ x = nI t) (hT6 : T ≤ 6) : ∀ i, i < T → gwM T f a x w i = gwM T f a x v i := by
  intro i hi
  unfold gwM
  have hp : ∀ i, i < T → pre T (fun t => w t + a) w i = pre T (fun t => v t + a) v i := fun i hi => pre_eq hi (by show w i + a = v i + a; rw [h i hi])
  by_cases hf : f = 0
  · rw [if_neg (nn hf), if_neg (nn hf)]
    by_cases h9 : x = -9
    · rw [if_pos h9, if_pos h9]; exact hp i hi
    · rw [if_neg h9, if_neg h9]
      obtain ⟨t, ht, rfl⟩ := hx.resolve_left h9
      rw [nI_clamp (by omega)]
      exact upd_eq (by rw [hp t ht]) (hp i hi)
  · rw [if_pos hf, if_pos hf]; exact h i hi
theorem crM_s {σ : ST} {d c : Nat} {w : Nat → Int32} : crM σ d (c + 1) w = if σ 58 c = nI d ∧ wantM (σ 44 (σ 59 c).toNatClampNeg) (σ 46 (σ 59 c).toNatClampNeg) ≤ crM σ d c w (σ 59 c).toNatClampNeg then upd (crM σ d c w) (σ 59 c).toNatClampNeg 0 else crM σ d c w := rfl
theorem crM_eq {σ : ST} {T d : Nat} {w v : Nat → Int32} (hT6 : T ≤ 6) (h : ∀ i, i < T → w i = v i) : ∀ C : Nat, (∀ c, c < C → ∃ t : Nat, t < T ∧ σ 59 c = nI t) → ∀ i, i < T → crM σ d C w i = crM σ d C v i := by
  intro C
  induction C with
  | zero => intro _ i hi; exact h i hi
  | succ C ih =>
    intro hc i hi
    have ih2 := ih (fun c h => hc c (by omega))
    obtain ⟨t, ht, et⟩ := hc C (by omega)
    rw [crM_s, crM_s, et, nI_clamp (by omega), ih2 t ht]
    split
    · exact upd_eq rfl (ih2 i hi)
    · exact ih2 i hi
theorem fst?_congr {q r : Nat → Prop} [DecidablePred q] [DecidablePred r] : ∀ (f i : Nat), (∀ j, i ≤ j → j < i + f → (q j ↔ r j)) → fst? q f i = fst? r f i := by
  intro f
  induction f with
  | zero => intro i _; rfl
  | succ f ih =>
    intro i h
    show (if q i then some i else fst? q f (i + 1)) = (if r i then some i else fst? r f (i + 1))
    rw [ih (i + 1) (fun j h1 h2 => h j (by omega) (by omega))]
    by_cases hq : q i
    · rw [if_pos hq, if_pos ((h i (Nat.le_refl _) (by omega)).mp hq)]
    · rw [if_neg hq, if_neg (fun hr => hq ((h i (Nat.le_refl _) (by omega)).mpr hr))]
theorem fst?_lt {q : Nat → Prop} [DecidablePred q] : ∀ (f i k : Nat), fst? q f i = some k → i ≤ k ∧ k < i + f ∧ q k := by
  intro f
  induction f with
  | zero => intro i k h; cases h
  | succ f ih =>
    intro i k h
    have h2 : (if q i then some i else fst? q f (i + 1)) = some k := h
    by_cases hq : q i
    · rw [if_pos hq] at h2; cases h2; exact ⟨Nat.le_refl _, by omega, hq⟩
    · rw [if_neg hq] at h2
      have := ih (i + 1) k h2
      exact ⟨by omega, by omega, this.2.2⟩
theorem ukM_eq {σ : ST} {T P j : Nat} {d : Int32} {s t : S3} (h : EqR T P s t) : EqR T P (ukM σ P j d s) (ukM σ P j d t) := by
  have hf : fst? (ukQ σ j s.2.1) P 0 = fst? (ukQ σ j t.2.1) P 0 := fst?_congr P 0 (fun p _ hp => by unfold ukQ; rw [(h.2 p (by omega)).1])
  unfold ukM
  rw [hf]
  cases fst? (ukQ σ j t.2.1) P 0 with
  | none => exact h
  | some p => exact ⟨fun i hi => upd_eq rfl (h.1 i hi), fun q hq => ⟨upd_eq rfl (h.2 q hq).1, upd_eq rfl (h.2 q hq).2⟩⟩
theorem kyM_eq {σ : ST} {T P d : Nat} {s t : S3} (h : EqR T P s t) : ∀ n, n ≤ T → EqR T P (kyM σ P d n s) (kyM σ P d n t) := by
  intro n
  induction n with
  | zero => intro _; exact h
  | succ n ih =>
    intro hn
    have ih2 := ih (by omega)
    show EqR T P (if _ then _ else _) (if _ then _ else _)
    rw [ih2.1 n (by omega)]
    split
    · exact ukM_eq ih2
    · exact ih2
theorem mDay_eq {σ : ST} {T P C d : Nat} {s t : S3} (hM : MH σ T P C) (hd : d < 30) (h : EqR T P s t) : EqR T P (mDay σ T P C d s) (mDay σ T P C d t) := by
  have h1 : EqR T P (md1 σ T d s) (md1 σ T d t) := ⟨gwM_eq h.1 (hM.2.2.2.2.2.2.2.2 d hd) hM.2.1, h.2⟩
  have h2 : EqR T P (md2 σ C d (md1 σ T d s)) (md2 σ C d (md1 σ T d t)) := ⟨crM_eq hM.2.1 h1.1 C hM.2.2.2.2.2.2.1, h1.2⟩
  have h3 := kyM_eq (σ := σ) (d := d) h2 T (Nat.le_refl _)
  exact ⟨h3.1, fun p hp => ⟨pre_eq hp (by unfold tmM; rw [(h3.2 p hp).1]), (h3.2 p hp).2⟩⟩
theorem mDays_eq {σ : ST} {T P C : Nat} {s t : S3} (hM : MH σ T P C) (h : EqR T P s t) : ∀ N, N ≤ 30 → EqR T P (mDays σ T P C N s) (mDays σ T P C N t) := by
  intro N
  induction N with
  | zero => intro _; exact h
  | succ N ih => intro hN; exact mDay_eq hM (by omega) (ih (by omega))
def mc0 : S3 := (fun _ => 0, fun _ => -9, fun _ => -9)
def mDC (σ : ST) (T P C N : Nat) : S3 := mDays σ T P C N mc0
theorem m0_eq {σ : ST} {T P : Nat} : EqR T P (m0 σ T P) mc0 := ⟨fun i hi => (pre_lt hi : pre T (fun _ => 0) (σ 60) i = 0), fun p hp => ⟨(pre_lt hp : pre P (fun _ => -9) (σ 61) p = -9), (pre_lt hp : pre P (fun _ => -9) (σ 62) p = -9)⟩⟩
theorem mDC_eq {σ : ST} {T P C N : Nat} (hM : MH σ T P C) (hN : N ≤ 30) : EqR T P (mDays σ T P C N (m0 σ T P)) (mDC σ T P C N) := mDays_eq hM m0_eq N hN
theorem tmM_put {σ : ST} {s : S3} {d : Nat} {o : Nat → Int32} : tmM (putM σ s) d o = tmM σ d o := rfl
theorem crM_put {σ : ST} {s : S3} {d : Nat} {w : Nat → Int32} : ∀ n, crM (putM σ s) d n w = crM σ d n w := by
  intro n
  induction n with
  | zero => rfl
  | succ n ih => show (if _ then _ else _) = (if _ then _ else _); rw [ih]; rfl
theorem kyM_put {σ : ST} {s t : S3} {P d : Nat} : ∀ n, kyM (putM σ s) P d n t = kyM σ P d n t := by
  intro n
  induction n with
  | zero => rfl
  | succ n ih => show (if _ then _ else _) = (if _ then _ else _); rw [ih]; rfl
theorem mDays_put {σ : ST} {s t : S3} {T P C : Nat} : ∀ n, mDays (putM σ s) T P C n t = mDays σ T P C n t := by
  intro n
  induction n with
  | zero => rfl
  | succ n ih =>
    show md4 (putM σ s) P n (kyM (putM σ s) P n T (md2 (putM σ s) C n (md1 (putM σ s) T n (mDays (putM σ s) T P C n t)))) = _
    rw [ih, kyM_put]
    show md4 σ P n (kyM σ P n T (crM (putM σ s) n C _, _)) = _
    rw [crM_put]
    rfl

set_option maxHeartbeats 4000000 in
set_option maxRecDepth 100000 in
theorem c_X9_ofTree_u {l : Launch} {D : DD} {ad : Nat → Nat} (σ : ST) (T : Nat) (t w : Int32) (hT : σ 40 5 = nI T) (h : ¬ isT (nI T) t) : Ct l yX9_ofTree cX9_ofTree 3 (Option.some FieldType.int) 1 21 D ad [.ref (ad 40), .int t, .int w] σ (ex (some (.int (-1))) σ) := by
  refine Ct.of2 [.ref (ad 40), .int t, .int w] rfl (Nat.le_of_ble_eq_true rfl) rfl ?_
  rintro X C rfl rfl rfl hxn hR
  refine V_aload_n_0 (q := 1) C rfl dX9_ofTree_0 ?_
  refine V_iload_n_1 (q := 2) C rfl dX9_ofTree_1 ?_
  refine V_cV1r (q := 5) C (Ct.mono (v' := some (.int (pI (isT (nI T) t)))) (c_X9_isTree σ t) (by rw [show σ 40 5 = nI T from hT]) rfl) cw_X9_isTree cv_X9_isTree wm_X9_153 (by decide) ob_X9 ⟨by decide, by decide⟩ (Nat.le_of_ble_eq_true rfl) rfl dX9_ofTree_2 ?_
  refine V_ifp_ne_f (tgt := 10) C h rfl (by decide) dX9_ofTree_5 ?_
  refine V_iconst (q := 9) (v := (-1)) C rfl rfl dX9_ofTree_8 ?_
  refine V_iret C hR dX9_ofTree_9 ?_
  exact ⟨rfl, rfl⟩

set_option maxHeartbeats 4000000 in
set_option maxRecDepth 100000 in
theorem c_X9_ofTree_v {l : Launch} {D : DD} {ad : Nat → Nat} (σ : ST) (T j : Nat) (w : Int32) (hT : σ 40 5 = nI T) (hT6 : T ≤ 6) (hj : j < T) : Ct l yX9_ofTree cX9_ofTree 3 (Option.some FieldType.int) 1 21 D ad [.ref (ad 40), .int (nI j), .int w] σ (ex (some (.int (sel6 w (σ 44 j) (σ 45 j) (σ 46 j) (wantM (σ 44 j) (σ 46 j)) (opM (σ 44 j) (σ 45 j)) (pI (¬ σ 47 j = 0))))) σ) := by
  refine Ct.of2 [.ref (ad 40), .int (nI j), .int w] rfl (Nat.le_of_ble_eq_true rfl) rfl ?_
  rintro X C rfl rfl rfl hxn hR
  refine V_aload_n_0 (q := 1) C rfl dX9_ofTree_0 ?_
  refine V_iload_n_1 (q := 2) C rfl dX9_ofTree_1 ?_
  refine V_cV1r (q := 5) C (Ct.mono (v' := some (.int (pI (isT (nI T) (nI j))))) (c_X9_isTree σ (nI j)) (by rw [show σ 40 5 = nI T from hT]) rfl) cw_X9_isTree cv_X9_isTree wm_X9_153 (by decide) ob_X9 ⟨by decide, by decide⟩ (Nat.le_of_ble_eq_true rfl) rfl dX9_ofTree_2 ?_
  refine V_ifp_ne_t (tgt := 10) C (isT_nI hj (by omega)) (by decide) dX9_ofTree_5 ?_
  refine V_iload_n_2 (q := 11) C rfl dX9_ofTree_10 ?_
  refine V_tab (n := 6) (td := 96) C (fun j => ([48, 55, 62, 69, 75, 81] : List Nat).getD j 0) rfl (by decide) (fun j hj => by rcases (show j = 0 ∨ j = 1 ∨ j = 2 ∨ j = 3 ∨ j = 4 ∨ j = 5 by omega) with rfl | rfl | rfl | rfl | rfl | rfl <;> exact ⟨_, rfl, by decide⟩) (by decide) dX9_ofTree_11 (fun j hj c11 => ?_) (fun c11 => ?_)
  · rcases (show j = 0 ∨ j = 1 ∨ j = 2 ∨ j = 3 ∨ j = 4 ∨ j = 5 by omega) with rfl | rfl | rfl | rfl | rfl | rfl
    · show V X 48 _ _ _
      refine V_aload_n_0 (q := 49) C rfl dX9_ofTree_48 ?_
      refine gf_X9_19 (q := 52) C rfl dX9_ofTree_49 ?_
      refine V_iload_n_1 (q := 53) C rfl dX9_ofTree_52 ?_
      refine V_iald (q := 54) C _ rfl (by show _ < 6; omega) rfl (by decide) (by decide) rfl dX9_ofTree_53 ?_
      refine V_iret C hR dX9_ofTree_54 ?_
      first
      | (subst c11; exact ⟨rfl, rfl⟩)
      | (subst c11; exact ⟨by rw [sel6_5, pI_t c11], rfl⟩)
      | (subst c11; exact ⟨by rw [sel6_5, pI_f (nn c11)], rfl⟩)
      | exact ⟨by rw [sel6_d c11], rfl⟩
    · show V X 55 _ _ _
      refine V_aload_n_0 (q := 56) C rfl dX9_ofTree_55 ?_
      refine gf_X9_22 (q := 59) C rfl dX9_ofTree_56 ?_
      refine V_iload_n_1 (q := 60) C rfl dX9_ofTree_59 ?_
      refine V_iald (q := 61) C _ rfl (by show _ < 6; omega) rfl (by decide) (by decide) rfl dX9_ofTree_60 ?_
      refine V_iret C hR dX9_ofTree_61 ?_
      first
      | (subst c11; exact ⟨rfl, rfl⟩)
      | (subst c11; exact ⟨by rw [sel6_5, pI_t c11], rfl⟩)
      | (subst c11; exact ⟨by rw [sel6_5, pI_f (nn c11)], rfl⟩)
      | exact ⟨by rw [sel6_d c11], rfl⟩
    · show V X 62 _ _ _
      refine V_aload_n_0 (q := 63) C rfl dX9_ofTree_62 ?_
      refine gf_X9_25 (q := 66) C rfl dX9_ofTree_63 ?_
      refine V_iload_n_1 (q := 67) C rfl dX9_ofTree_66 ?_
      refine V_iald (q := 68) C _ rfl (by show _ < 6; omega) rfl (by decide) (by decide) rfl dX9_ofTree_67 ?_
      refine V_iret C hR dX9_ofTree_68 ?_
      first
      | (subst c11; exact ⟨rfl, rfl⟩)
      | (subst c11; exact ⟨by rw [sel6_5, pI_t c11], rfl⟩)
      | (subst c11; exact ⟨by rw [sel6_5, pI_f (nn c11)], rfl⟩)
      | exact ⟨by rw [sel6_d c11], rfl⟩
    · show V X 69 _ _ _
      refine V_aload_n_0 (q := 70) C rfl dX9_ofTree_69 ?_
      refine V_iload_n_1 (q := 71) C rfl dX9_ofTree_70 ?_
      refine V_cV1r (q := 74) C (c_X9_wants σ j (by omega)) cw_X9_wants cv_X9_wants wm_X9_156 (by decide) ob_X9 ⟨by decide, by decide⟩ (Nat.le_of_ble_eq_true rfl) rfl dX9_ofTree_71 ?_
      refine V_iret C hR dX9_ofTree_74 ?_
      first
      | (subst c11; exact ⟨rfl, rfl⟩)
      | (subst c11; exact ⟨by rw [sel6_5, pI_t c11], rfl⟩)
      | (subst c11; exact ⟨by rw [sel6_5, pI_f (nn c11)], rfl⟩)
      | exact ⟨by rw [sel6_d c11], rfl⟩
    · show V X 75 _ _ _
      refine V_aload_n_0 (q := 76) C rfl dX9_ofTree_75 ?_
      refine V_iload_n_1 (q := 77) C rfl dX9_ofTree_76 ?_
      refine V_cV1r (q := 80) C (c_X9_opens σ j (by omega)) cw_X9_opens cv_X9_opens wm_X9_159 (by decide) ob_X9 ⟨by decide, by decide⟩ (Nat.le_of_ble_eq_true rfl) rfl dX9_ofTree_77 ?_
      refine V_iret C hR dX9_ofTree_80 ?_
      first
      | (subst c11; exact ⟨rfl, rfl⟩)
      | (subst c11; exact ⟨by rw [sel6_5, pI_t c11], rfl⟩)
      | (subst c11; exact ⟨by rw [sel6_5, pI_f (nn c11)], rfl⟩)
      | exact ⟨by rw [sel6_d c11], rfl⟩
    · show V X 81 _ _ _
      refine V_aload_n_0 (q := 82) C rfl dX9_ofTree_81 ?_
      refine gf_X9_28 (q := 85) C rfl dX9_ofTree_82 ?_
      refine V_iload_n_1 (q := 86) C rfl dX9_ofTree_85 ?_
      refine V_zald (q := 87) C _ rfl (by show _ < 6; omega) rfl (by decide) (by decide) rfl dX9_ofTree_86 ?_
      refine V_if_eq (tgt := 94) C rfl (by decide) dX9_ofTree_87 (fun c87 => ?_) (fun c87 => ?_)
      · refine V_iconst (q := 95) (v := 0) C rfl rfl dX9_ofTree_94 ?_
        refine V_iret C hR dX9_ofTree_95 ?_
        first
        | (subst c11; exact ⟨rfl, rfl⟩)
        | (subst c11; exact ⟨by rw [sel6_5, pI_t c87], rfl⟩)
        | (subst c11; exact ⟨by rw [sel6_5, pI_f (nn c87)], rfl⟩)
        | exact ⟨by rw [sel6_d c11], rfl⟩
      · refine V_iconst (q := 91) (v := 1) C rfl rfl dX9_ofTree_90 ?_
        refine V_goto (tgt := 95) C (by decide) dX9_ofTree_91 ?_
        refine V_iret C hR dX9_ofTree_95 ?_
        first
        | (subst c11; exact ⟨rfl, rfl⟩)
        | (subst c11; exact ⟨by rw [sel6_5, pI_t c87], rfl⟩)
        | (subst c11; exact ⟨by rw [sel6_5, pI_f (nn c87)], rfl⟩)
        | exact ⟨by rw [sel6_d c11], rfl⟩
  · refine V_bipush (q := 98) (v := (-2)) C (by decide) rfl dX9_ofTree_96 ?_
    refine V_iret C hR dX9_ofTree_98 ?_
    first
    | (subst c11; exact ⟨rfl, rfl⟩)
    | (subst c11; exact ⟨by rw [sel6_5, pI_t c11], rfl⟩)
    | (subst c11; exact ⟨by rw [sel6_5, pI_f (nn c11)], rfl⟩)
    | exact ⟨by rw [sel6_d c11], rfl⟩

set_option maxHeartbeats 4000000 in
set_option maxRecDepth 100000 in
theorem c_X9_ofPrisoner_u {l : Launch} {D : DD} {ad : Nat → Nat} (σ : ST) (P : Nat) (p w : Int32) (hP : σ 40 6 = nI P) (h : ¬ isT (nI P) p) : Ct l yX9_ofPrisoner cX9_ofPrisoner 3 (Option.some FieldType.int) 1 21 D ad [.ref (ad 40), .int p, .int w] σ (ex (some (.int (-1))) σ) := by
  refine Ct.of2 [.ref (ad 40), .int p, .int w] rfl (Nat.le_of_ble_eq_true rfl) rfl ?_
  rintro X C rfl rfl rfl hxn hR
  refine V_aload_n_0 (q := 1) C rfl dX9_ofPrisoner_0 ?_
  refine V_iload_n_1 (q := 2) C rfl dX9_ofPrisoner_1 ?_
  refine V_cV1r (q := 5) C (Ct.mono (v' := some (.int (pI (isT (nI P) p)))) (c_X9_isPrisoner σ p) (by rw [show σ 40 6 = nI P from hP]) rfl) cw_X9_isPrisoner cv_X9_isPrisoner wm_X9_162 (by decide) ob_X9 ⟨by decide, by decide⟩ (Nat.le_of_ble_eq_true rfl) rfl dX9_ofPrisoner_2 ?_
  refine V_ifp_ne_f (tgt := 10) C h rfl (by decide) dX9_ofPrisoner_5 ?_
  refine V_iconst (q := 9) (v := (-1)) C rfl rfl dX9_ofPrisoner_8 ?_
  refine V_iret C hR dX9_ofPrisoner_9 ?_
  exact ⟨rfl, rfl⟩

set_option maxHeartbeats 4000000 in
set_option maxRecDepth 100000 in
theorem c_X9_ofPrisoner_v {l : Launch} {D : DD} {ad : Nat → Nat} (σ : ST) (P j : Nat) (w : Int32) (hP : σ 40 6 = nI P) (hP6 : P ≤ 6) (hj : j < P) : Ct l yX9_ofPrisoner cX9_ofPrisoner 3 (Option.some FieldType.int) 1 21 D ad [.ref (ad 40), .int (nI j), .int w] σ (ex (some (.int (sel2 w (σ 48 j) (σ 49 j)))) σ) := by
  refine Ct.of2 [.ref (ad 40), .int (nI j), .int w] rfl (Nat.le_of_ble_eq_true rfl) rfl ?_
  rintro X C rfl rfl rfl hxn hR
  refine V_aload_n_0 (q := 1) C rfl dX9_ofPrisoner_0 ?_
  refine V_iload_n_1 (q := 2) C rfl dX9_ofPrisoner_1 ?_
  refine V_cV1r (q := 5) C (Ct.mono (v' := some (.int (pI (isT (nI P) (nI j))))) (c_X9_isPrisoner σ (nI j)) (by rw [show σ 40 6 = nI P from hP]) rfl) cw_X9_isPrisoner cv_X9_isPrisoner wm_X9_162 (by decide) ob_X9 ⟨by decide, by decide⟩ (Nat.le_of_ble_eq_true rfl) rfl dX9_ofPrisoner_2 ?_
  refine V_ifp_ne_t (tgt := 10) C (isT_nI hj (by omega)) (by decide) dX9_ofPrisoner_5 ?_
  refine V_iload_n_2 (q := 11) C rfl dX9_ofPrisoner_10 ?_
  refine V_if_ne (tgt := 23) C rfl (by decide) dX9_ofPrisoner_11 (fun c11 => ?_) (fun c11 => ?_)
  · refine V_iload_n_2 (q := 24) C rfl dX9_ofPrisoner_23 ?_
    refine V_iconst (q := 25) (v := 1) C rfl rfl dX9_ofPrisoner_24 ?_
    refine V_icmp_ne (tgt := 37) C rfl (by decide) dX9_ofPrisoner_25 (fun c25 => ?_) (fun c25 => ?_)
    · refine V_bipush (q := 39) (v := (-2)) C (by decide) rfl dX9_ofPrisoner_37 ?_
      refine V_iret C hR dX9_ofPrisoner_39 ?_
      exact ⟨by simp [sel2, c11, c25], rfl⟩
    · refine V_aload_n_0 (q := 29) C rfl dX9_ofPrisoner_28 ?_
      refine gf_X9_35 (q := 32) C rfl dX9_ofPrisoner_29 ?_
      refine V_iload_n_1 (q := 33) C rfl dX9_ofPrisoner_32 ?_
      refine V_iald (q := 34) C _ rfl (by show _ < 6; omega) rfl (by decide) (by decide) rfl dX9_ofPrisoner_33 ?_
      refine V_goto (tgt := 39) C (by decide) dX9_ofPrisoner_34 ?_
      refine V_iret C hR dX9_ofPrisoner_39 ?_
      exact ⟨by simp [sel2, c11, c25], rfl⟩
  · refine V_aload_n_0 (q := 15) C rfl dX9_ofPrisoner_14 ?_
    refine gf_X9_32 (q := 18) C rfl dX9_ofPrisoner_15 ?_
    refine V_iload_n_1 (q := 19) C rfl dX9_ofPrisoner_18 ?_
    refine V_iald (q := 20) C _ rfl (by show _ < 6; omega) rfl (by decide) (by decide) rfl dX9_ofPrisoner_19 ?_
    refine V_goto (tgt := 39) C (by decide) dX9_ofPrisoner_20 ?_
    refine V_iret C hR dX9_ofPrisoner_39 ?_
    exact ⟨by simp [sel2, c11], rfl⟩

set_option maxHeartbeats 4000000 in
set_option maxRecDepth 100000 in
theorem c_X9_rain_u {l : Launch} {D : DD} {ad : Nat → Nat} (σ : ST) (d v : Int32) (h : ¬ isT 30 d) : Ct l yX9_rain cX9_rain 4 (Option.some FieldType.int) 2 42 D ad [.ref (ad 40), .int d, .int v] σ (ex (some (.int (-1))) σ) := by
  refine Ct.of2 [.ref (ad 40), .int d, .int v, .float 0] rfl (Nat.le_of_ble_eq_true rfl) rfl ?_
  rintro X C rfl rfl rfl hxn hR
  refine V_iload_n_1 (q := 1) C rfl dX9_rain_0 ?_
  refine V_cS1r (q := 4) C (c_X9_isDay _ _) cw_X9_isDay cs_X9_isDay wm_X9_165 ⟨by decide, by decide⟩ (Nat.le_of_ble_eq_true rfl) rfl dX9_rain_1 ?_
  refine V_ifp_ne_f (tgt := 9) C h rfl (by decide) dX9_rain_4 ?_
  refine V_iconst (q := 8) (v := (-1)) C rfl rfl dX9_rain_7 ?_
  refine V_iret C hR dX9_rain_8 ?_
  exact ⟨rfl, rfl⟩

set_option maxHeartbeats 4000000 in
set_option maxRecDepth 100000 in
theorem c_X9_rain_o {l : Launch} {D : DD} {ad : Nat → Nat} (σ : ST) (d : Nat) (v : Int32) (hd : d < 30) (h : v < 0 ∨ 9 < v) : Ct l yX9_rain cX9_rain 4 (Option.some FieldType.int) 2 42 D ad [.ref (ad 40), .int (nI d), .int v] σ (ex (some (.int (-2))) σ) := by
  refine Ct.of2 [.ref (ad 40), .int (nI d), .int v, .float 0] rfl (Nat.le_of_ble_eq_true rfl) rfl ?_
  rintro X C rfl rfl rfl hxn hR
  refine V_iload_n_1 (q := 1) C rfl dX9_rain_0 ?_
  refine V_cS1r (q := 4) C (c_X9_isDay _ _) cw_X9_isDay cs_X9_isDay wm_X9_165 ⟨by decide, by decide⟩ (Nat.le_of_ble_eq_true rfl) rfl dX9_rain_1 ?_
  refine V_ifp_ne_t (tgt := 9) C (isT_nI (N := 30) hd (by decide)) (by decide) dX9_rain_4 ?_
  refine V_iload_n_2 (q := 10) C rfl dX9_rain_9 ?_
  refine V_iconst (q := 11) (v := 0) C rfl rfl dX9_rain_10 ?_
  refine V_bipush (q := 13) (v := 9) C (by decide) rfl dX9_rain_11 ?_
  refine V_cS3r (q := 16) C (c_X9_within _ _ _ _) cw_X9_within cs_X9_within wm_X9_101 ⟨by decide, by decide⟩ (Nat.le_of_ble_eq_true rfl) rfl dX9_rain_13 ?_
  refine V_ifp_ne_f (tgt := 22) C (fun q => h.elim q.1 q.2) rfl (by decide) dX9_rain_16 ?_
  refine V_bipush (q := 21) (v := (-2)) C (by decide) rfl dX9_rain_19 ?_
  refine V_iret C hR dX9_rain_21 ?_
  exact ⟨rfl, rfl⟩

set_option maxHeartbeats 4000000 in
set_option maxRecDepth 100000 in
theorem c_X9_rain_s {l : Launch} {D : DD} {ad : Nat → Nat} (σ : ST) (d T : Nat) (v : Int32) (hd : d < 30) (h : ¬ (v < 0 ∨ 9 < v)) (hT : σ 40 5 = nI T) (h0 : T = 0) : Ct l yX9_rain cX9_rain 4 (Option.some FieldType.int) 2 42 D ad [.ref (ad 40), .int (nI d), .int v] σ (ex (some (.int (-3))) σ) := by
  refine Ct.of2 [.ref (ad 40), .int (nI d), .int v, .float 0] rfl (Nat.le_of_ble_eq_true rfl) rfl ?_
  rintro X C rfl rfl rfl hxn hR
  refine V_iload_n_1 (q := 1) C rfl dX9_rain_0 ?_
  refine V_cS1r (q := 4) C (c_X9_isDay _ _) cw_X9_isDay cs_X9_isDay wm_X9_165 ⟨by decide, by decide⟩ (Nat.le_of_ble_eq_true rfl) rfl dX9_rain_1 ?_
  refine V_ifp_ne_t (tgt := 9) C (isT_nI (N := 30) hd (by decide)) (by decide) dX9_rain_4 ?_
  refine V_iload_n_2 (q := 10) C rfl dX9_rain_9 ?_
  refine V_iconst (q := 11) (v := 0) C rfl rfl dX9_rain_10 ?_
  refine V_bipush (q := 13) (v := 9) C (by decide) rfl dX9_rain_11 ?_
  refine V_cS3r (q := 16) C (c_X9_within _ _ _ _) cw_X9_within cs_X9_within wm_X9_101 ⟨by decide, by decide⟩ (Nat.le_of_ble_eq_true rfl) rfl dX9_rain_13 ?_
  refine V_ifp_ne_t (tgt := 22) C ⟨fun q => h (Or.inl q), fun q => h (Or.inr q)⟩ (by decide) dX9_rain_16 ?_
  refine V_aload_n_0 (q := 23) C rfl dX9_rain_22 ?_
  refine gf_X9_105 (q := 26) C rfl dX9_rain_23 ?_
  rw [hT]
  refine V_if_ne_f (tgt := 32) C (by subst h0; decide) rfl (by decide) dX9_rain_26 ?_
  refine V_bipush (q := 31) (v := (-3)) C (by decide) rfl dX9_rain_29 ?_
  refine V_iret C hR dX9_rain_31 ?_
  exact ⟨rfl, rfl⟩

set_option maxHeartbeats 4000000 in
set_option maxRecDepth 100000 in
theorem c_X9_rain_v {l : Launch} {D : DD} {ad : Nat → Nat} (σ : ST) (d T : Nat) (v : Int32) (hd : d < 30) (h : ¬ (v < 0 ∨ 9 < v)) (hT : σ 40 5 = nI T) (hT6 : T ≤ 6) (h0 : 0 < T) : Ct l yX9_rain cX9_rain 4 (Option.some FieldType.int) 2 42 D ad [.ref (ad 40), .int (nI d), .int v] σ (ex (some (.int (σ 50 d))) (setf σ 50 d v)) := by
  refine Ct.of2 [.ref (ad 40), .int (nI d), .int v, .float 0] rfl (Nat.le_of_ble_eq_true rfl) rfl ?_
  rintro X C rfl rfl rfl hxn hR
  have hn3 : 3 < xn X := by rw [← hxn]; decide
  refine V_iload_n_1 (q := 1) C rfl dX9_rain_0 ?_
  refine V_cS1r (q := 4) C (c_X9_isDay _ _) cw_X9_isDay cs_X9_isDay wm_X9_165 ⟨by decide, by decide⟩ (Nat.le_of_ble_eq_true rfl) rfl dX9_rain_1 ?_
  refine V_ifp_ne_t (tgt := 9) C (isT_nI (N := 30) hd (by decide)) (by decide) dX9_rain_4 ?_
  refine V_iload_n_2 (q := 10) C rfl dX9_rain_9 ?_
  refine V_iconst (q := 11) (v := 0) C rfl rfl dX9_rain_10 ?_
  refine V_bipush (q := 13) (v := 9) C (by decide) rfl dX9_rain_11 ?_
  refine V_cS3r (q := 16) C (c_X9_within _ _ _ _) cw_X9_within cs_X9_within wm_X9_101 ⟨by decide, by decide⟩ (Nat.le_of_ble_eq_true rfl) rfl dX9_rain_13 ?_
  refine V_ifp_ne_t (tgt := 22) C ⟨fun q => h (Or.inl q), fun q => h (Or.inr q)⟩ (by decide) dX9_rain_16 ?_
  refine V_aload_n_0 (q := 23) C rfl dX9_rain_22 ?_
  refine gf_X9_105 (q := 26) C rfl dX9_rain_23 ?_
  rw [hT]
  refine V_if_ne_t (tgt := 32) C (nI_ne0 h0 (by omega)) (by decide) dX9_rain_26 ?_
  refine V_aload_n_0 (q := 33) C rfl dX9_rain_32 ?_
  refine gf_X9_38 (q := 36) C rfl dX9_rain_33 ?_
  refine V_iload_n_1 (q := 37) C rfl dX9_rain_36 ?_
  refine V_iald (q := 38) C _ rfl (by show _ < 30; omega) rfl (by decide) (by decide) rfl dX9_rain_37 ?_
  refine V_istore_n_3 (q := 39) C hn3 rfl rfl dX9_rain_38 ?_
  refine V_aload_n_0 (q := 40) C rfl dX9_rain_39 ?_
  refine gf_X9_38 (q := 43) C rfl dX9_rain_40 ?_
  refine V_iload_n_1 (q := 44) C rfl dX9_rain_43 ?_
  refine V_iload_n_2 (q := 45) C rfl dX9_rain_44 ?_
  refine V_iast (q := 46) C _ rfl (by show _ < 30; omega) rfl (by decide) (by decide) rfl dX9_rain_45 ?_
  refine V_iload_n_3 (q := 47) C rfl dX9_rain_46 ?_
  refine V_iret C hR dX9_rain_47 ?_
  exact ⟨rfl, rfl⟩

set_option maxHeartbeats 4000000 in
set_option maxRecDepth 100000 in
theorem c_X9_water_u {l : Launch} {D : DD} {ad : Nat → Nat} (σ : ST) (T : Nat) (d t : Int32) (hT : σ 40 5 = nI T) (hT6 : T ≤ 6) (h : ¬ (isT 30 d ∧ (t = -9 ∨ isT (nI T) t))) : Ct l yX9_water cX9_water 4 (Option.some FieldType.int) 2 42 D ad [.ref (ad 40), .int d, .int t] σ (ex (some (.int (-1))) σ) := by
  refine Ct.of2 [.ref (ad 40), .int d, .int t, .float 0] rfl (Nat.le_of_ble_eq_true rfl) rfl ?_
  rintro X C rfl rfl rfl hxn hR
  refine V_iload_n_1 (q := 1) C rfl dX9_water_0 ?_
  refine V_cS1r (q := 4) C (c_X9_isDay _ _) cw_X9_isDay cs_X9_isDay wm_X9_165 ⟨by decide, by decide⟩ (Nat.le_of_ble_eq_true rfl) rfl dX9_water_1 ?_
  refine V_ifp_eq (tgt := 28) C rfl (by decide) dX9_water_4 (fun c4 => ?_) (fun c4 => ?_)
  · refine V_iconst (q := 29) (v := (-1)) C rfl rfl dX9_water_28 ?_
    refine V_iret C hR dX9_water_29 ?_
    exact ⟨rfl, rfl⟩
  · refine V_aload_n_0 (q := 8) C rfl dX9_water_7 ?_
    refine gf_X9_105 (q := 11) C rfl dX9_water_8 ?_
    rw [hT]
    refine V_if_le (tgt := 30) C rfl (by decide) dX9_water_11 (fun c11 => ?_) (fun c11 => ?_)
    · refine V_aload_n_0 (q := 31) C rfl dX9_water_30 ?_
      refine gf_X9_105 (q := 34) C rfl dX9_water_31 ?_
      rw [hT]
      refine V_if_ne (tgt := 50) C rfl (by decide) dX9_water_34 (fun c34 => ?_) (fun c34 => ?_)
      · exfalso
        rcases Nat.eq_zero_or_pos T with h0 | h0
        · exact c34 (by rw [h0]; rfl)
        · exact absurd c11 (Int32.not_le.mpr (nI_lt (a := 0) h0 (by omega)))
      · refine V_iload_n_2 (q := 38) C rfl dX9_water_37 ?_
        refine V_bipush (q := 40) (v := (-9)) C (by decide) rfl dX9_water_38 ?_
        refine V_icmp_ne (tgt := 48) C rfl (by decide) dX9_water_40 (fun c40 => ?_) (fun c40 => ?_)
        · refine V_iconst (q := 49) (v := (-1)) C rfl rfl dX9_water_48 ?_
          refine V_iret C hR dX9_water_49 ?_
          exact ⟨rfl, rfl⟩
        · exact absurd ⟨c4, Or.inl c40⟩ h
    · refine V_iload_n_2 (q := 15) C rfl dX9_water_14 ?_
      refine V_bipush (q := 17) (v := (-9)) C (by decide) rfl dX9_water_15 ?_
      refine V_icmp_eq (tgt := 30) C rfl (by decide) dX9_water_17 (fun c17 => ?_) (fun c17 => ?_)
      · exact absurd ⟨c4, Or.inl c17⟩ h
      · refine V_aload_n_0 (q := 21) C rfl dX9_water_20 ?_
        refine V_iload_n_2 (q := 22) C rfl dX9_water_21 ?_
        refine V_cV1r (q := 25) C (Ct.mono (v' := some (.int (pI (isT (nI T) t)))) (c_X9_isTree σ t) (by rw [show σ 40 5 = nI T from hT]) rfl) cw_X9_isTree cv_X9_isTree wm_X9_153 (by decide) ob_X9 ⟨by decide, by decide⟩ (Nat.le_of_ble_eq_true rfl) rfl dX9_water_22 ?_
        refine V_ifp_ne (tgt := 30) C rfl (by decide) dX9_water_25 (fun c25 => ?_) (fun c25 => ?_)
        · exact absurd ⟨c4, Or.inr c25⟩ h
        · refine V_iconst (q := 29) (v := (-1)) C rfl rfl dX9_water_28 ?_
          refine V_iret C hR dX9_water_29 ?_
          exact ⟨rfl, rfl⟩

set_option maxHeartbeats 4000000 in
set_option maxRecDepth 100000 in
theorem c_X9_water_s {l : Launch} {D : DD} {ad : Nat → Nat} (σ : ST) (T d : Nat) (hd : d < 30) (hT : σ 40 5 = nI T) (h0 : T = 0) : Ct l yX9_water cX9_water 4 (Option.some FieldType.int) 2 42 D ad [.ref (ad 40), .int (nI d), .int (-9)] σ (ex (some (.int (-3))) σ) := by
  refine Ct.of2 [.ref (ad 40), .int (nI d), .int (-9), .float 0] rfl (Nat.le_of_ble_eq_true rfl) rfl ?_
  rintro X C rfl rfl rfl hxn hR
  refine V_iload_n_1 (q := 1) C rfl dX9_water_0 ?_
  refine V_cS1r (q := 4) C (c_X9_isDay _ _) cw_X9_isDay cs_X9_isDay wm_X9_165 ⟨by decide, by decide⟩ (Nat.le_of_ble_eq_true rfl) rfl dX9_water_1 ?_
  refine V_ifp_eq_f (tgt := 28) C (isT_nI (N := 30) hd (by decide)) rfl (by decide) dX9_water_4 ?_
  refine V_aload_n_0 (q := 8) C rfl dX9_water_7 ?_
  refine gf_X9_105 (q := 11) C rfl dX9_water_8 ?_
  rw [hT]
  refine V_if_le_t (tgt := 30) C (by subst h0; decide) (by decide) dX9_water_11 ?_
  refine V_aload_n_0 (q := 31) C rfl dX9_water_30 ?_
  refine gf_X9_105 (q := 34) C rfl dX9_water_31 ?_
  rw [hT]
  refine V_if_ne_f (tgt := 50) C (by subst h0; decide) rfl (by decide) dX9_water_34 ?_
  refine V_iload_n_2 (q := 38) C rfl dX9_water_37 ?_
  refine V_bipush (q := 40) (v := (-9)) C (by decide) rfl dX9_water_38 ?_
  refine V_icmp_ne_f (tgt := 48) C rfl rfl (by decide) dX9_water_40 ?_
  refine V_bipush (q := 45) (v := (-3)) C (by decide) rfl dX9_water_43 ?_
  refine V_goto (tgt := 49) C (by decide) dX9_water_45 ?_
  refine V_iret C hR dX9_water_49 ?_
  exact ⟨rfl, rfl⟩

set_option maxHeartbeats 4000000 in
set_option maxRecDepth 100000 in
theorem c_X9_water_v {l : Launch} {D : DD} {ad : Nat → Nat} (σ : ST) (T d : Nat) (t : Int32) (hd : d < 30) (hT : σ 40 5 = nI T) (hT6 : T ≤ 6) (h0 : 0 < T) (ht : t = -9 ∨ isT (nI T) t) : Ct l yX9_water cX9_water 4 (Option.some FieldType.int) 2 42 D ad [.ref (ad 40), .int (nI d), .int t] σ (ex (some (.int (σ 51 d))) (setf σ 51 d t)) := by
  refine Ct.of2 [.ref (ad 40), .int (nI d), .int t, .float 0] rfl (Nat.le_of_ble_eq_true rfl) rfl ?_
  rintro X C rfl rfl rfl hxn hR
  have hn3 : 3 < xn X := by rw [← hxn]; decide
  refine V_iload_n_1 (q := 1) C rfl dX9_water_0 ?_
  refine V_cS1r (q := 4) C (c_X9_isDay _ _) cw_X9_isDay cs_X9_isDay wm_X9_165 ⟨by decide, by decide⟩ (Nat.le_of_ble_eq_true rfl) rfl dX9_water_1 ?_
  refine V_ifp_eq_f (tgt := 28) C (isT_nI (N := 30) hd (by decide)) rfl (by decide) dX9_water_4 ?_
  refine V_aload_n_0 (q := 8) C rfl dX9_water_7 ?_
  refine gf_X9_105 (q := 11) C rfl dX9_water_8 ?_
  rw [hT]
  refine V_if_le_f (tgt := 30) C (Int32.not_le.mpr (nI_lt (a := 0) h0 (by omega))) rfl (by decide) dX9_water_11 ?_
  refine V_iload_n_2 (q := 15) C rfl dX9_water_14 ?_
  refine V_bipush (q := 17) (v := (-9)) C (by decide) rfl dX9_water_15 ?_
  refine V_icmp_eq (tgt := 30) C rfl (by decide) dX9_water_17 (fun c17 => ?_) (fun c17 => ?_)
  · refine V_aload_n_0 (q := 31) C rfl dX9_water_30 ?_
    refine gf_X9_105 (q := 34) C rfl dX9_water_31 ?_
    rw [hT]
    refine V_if_ne_t (tgt := 50) C (nI_ne0 h0 (by omega)) (by decide) dX9_water_34 ?_
    refine V_aload_n_0 (q := 51) C rfl dX9_water_50 ?_
    refine gf_X9_41 (q := 54) C rfl dX9_water_51 ?_
    refine V_iload_n_1 (q := 55) C rfl dX9_water_54 ?_
    refine V_iald (q := 56) C _ rfl (by show _ < 30; omega) rfl (by decide) (by decide) rfl dX9_water_55 ?_
    refine V_istore_n_3 (q := 57) C hn3 rfl rfl dX9_water_56 ?_
    refine V_aload_n_0 (q := 58) C rfl dX9_water_57 ?_
    refine gf_X9_41 (q := 61) C rfl dX9_water_58 ?_
    refine V_iload_n_1 (q := 62) C rfl dX9_water_61 ?_
    refine V_iload_n_2 (q := 63) C rfl dX9_water_62 ?_
    refine V_iast (q := 64) C _ rfl (by show _ < 30; omega) rfl (by decide) (by decide) rfl dX9_water_63 ?_
    refine V_iload_n_3 (q := 65) C rfl dX9_water_64 ?_
    refine V_iret C hR dX9_water_65 ?_
    exact ⟨rfl, rfl⟩
  · refine V_aload_n_0 (q := 21) C rfl dX9_water_20 ?_
    refine V_iload_n_2 (q := 22) C rfl dX9_water_21 ?_
    refine V_cV1r (q := 25) C (Ct.mono (v' := some (.int (pI (isT (nI T) t)))) (c_X9_isTree σ t) (by rw [show σ 40 5 = nI T from hT]) rfl) cw_X9_isTree cv_X9_isTree wm_X9_153 (by decide) ob_X9 ⟨by decide, by decide⟩ (Nat.le_of_ble_eq_true rfl) rfl dX9_water_22 ?_
    refine V_ifp_ne_t (tgt := 30) C (ht.elim (fun q => absurd q c17) id) (by decide) dX9_water_25 ?_
    refine V_aload_n_0 (q := 31) C rfl dX9_water_30 ?_
    refine gf_X9_105 (q := 34) C rfl dX9_water_31 ?_
    rw [hT]
    refine V_if_ne_t (tgt := 50) C (nI_ne0 h0 (by omega)) (by decide) dX9_water_34 ?_
    refine V_aload_n_0 (q := 51) C rfl dX9_water_50 ?_
    refine gf_X9_41 (q := 54) C rfl dX9_water_51 ?_
    refine V_iload_n_1 (q := 55) C rfl dX9_water_54 ?_
    refine V_iald (q := 56) C _ rfl (by show _ < 30; omega) rfl (by decide) (by decide) rfl dX9_water_55 ?_
    refine V_istore_n_3 (q := 57) C hn3 rfl rfl dX9_water_56 ?_
    refine V_aload_n_0 (q := 58) C rfl dX9_water_57 ?_
    refine gf_X9_41 (q := 61) C rfl dX9_water_58 ?_
    refine V_iload_n_1 (q := 62) C rfl dX9_water_61 ?_
    refine V_iload_n_2 (q := 63) C rfl dX9_water_62 ?_
    refine V_iast (q := 64) C _ rfl (by show _ < 30; omega) rfl (by decide) (by decide) rfl dX9_water_63 ?_
    refine V_iload_n_3 (q := 65) C rfl dX9_water_64 ?_
    refine V_iret C hR dX9_water_65 ?_
    exact ⟨rfl, rfl⟩

set_option maxHeartbeats 4000000 in
set_option maxRecDepth 100000 in
theorem c_X9_frost_u {l : Launch} {D : DD} {ad : Nat → Nat} (σ : ST) (d b : Int32) (h : ¬ isT 30 d) : Ct l yX9_frost cX9_frost 4 (Option.some FieldType.int) 2 42 D ad [.ref (ad 40), .int d, .int b] σ (ex (some (.int (-1))) σ) := by
  refine Ct.of2 [.ref (ad 40), .int d, .int b, .float 0] rfl (Nat.le_of_ble_eq_true rfl) rfl ?_
  rintro X C rfl rfl rfl hxn hR
  refine V_iload_n_1 (q := 1) C rfl dX9_frost_0 ?_
  refine V_cS1r (q := 4) C (c_X9_isDay _ _) cw_X9_isDay cs_X9_isDay wm_X9_165 ⟨by decide, by decide⟩ (Nat.le_of_ble_eq_true rfl) rfl dX9_frost_1 ?_
  refine V_ifp_ne_f (tgt := 9) C h rfl (by decide) dX9_frost_4 ?_
  refine V_iconst (q := 8) (v := (-1)) C rfl rfl dX9_frost_7 ?_
  refine V_iret C hR dX9_frost_8 ?_
  exact ⟨rfl, rfl⟩

set_option maxHeartbeats 4000000 in
set_option maxRecDepth 100000 in
theorem c_X9_frost_s {l : Launch} {D : DD} {ad : Nat → Nat} (σ : ST) (d T : Nat) (b : Int32) (hd : d < 30) (hT : σ 40 5 = nI T) (h0 : T = 0) : Ct l yX9_frost cX9_frost 4 (Option.some FieldType.int) 2 42 D ad [.ref (ad 40), .int (nI d), .int b] σ (ex (some (.int (-3))) σ) := by
  refine Ct.of2 [.ref (ad 40), .int (nI d), .int b, .float 0] rfl (Nat.le_of_ble_eq_true rfl) rfl ?_
  rintro X C rfl rfl rfl hxn hR
  refine V_iload_n_1 (q := 1) C rfl dX9_frost_0 ?_
  refine V_cS1r (q := 4) C (c_X9_isDay _ _) cw_X9_isDay cs_X9_isDay wm_X9_165 ⟨by decide, by decide⟩ (Nat.le_of_ble_eq_true rfl) rfl dX9_frost_1 ?_
  refine V_ifp_ne_t (tgt := 9) C (isT_nI (N := 30) hd (by decide)) (by decide) dX9_frost_4 ?_
  refine V_aload_n_0 (q := 10) C rfl dX9_frost_9 ?_
  refine gf_X9_105 (q := 13) C rfl dX9_frost_10 ?_
  rw [hT]
  refine V_if_ne_f (tgt := 19) C (by subst h0; decide) rfl (by decide) dX9_frost_13 ?_
  refine V_bipush (q := 18) (v := (-3)) C (by decide) rfl dX9_frost_16 ?_
  refine V_iret C hR dX9_frost_18 ?_
  exact ⟨rfl, rfl⟩

set_option maxHeartbeats 4000000 in
set_option maxRecDepth 100000 in
theorem c_X9_frost_v {l : Launch} {D : DD} {ad : Nat → Nat} (σ : ST) (d T : Nat) (b : Int32) (hd : d < 30) (hT : σ 40 5 = nI T) (hT6 : T ≤ 6) (h0 : 0 < T) (hb : vp_nar .boolean b = b) : Ct l yX9_frost cX9_frost 4 (Option.some FieldType.int) 2 42 D ad [.ref (ad 40), .int (nI d), .int b] σ (ex (some (.int (if σ 52 d = b then 0 else 1))) (setf σ 52 d b)) := by
  refine Ct.of2 [.ref (ad 40), .int (nI d), .int b, .float 0] rfl (Nat.le_of_ble_eq_true rfl) rfl ?_
  rintro X C rfl rfl rfl hxn hR
  have hn3 : 3 < xn X := by rw [← hxn]; decide
  refine V_iload_n_1 (q := 1) C rfl dX9_frost_0 ?_
  refine V_cS1r (q := 4) C (c_X9_isDay _ _) cw_X9_isDay cs_X9_isDay wm_X9_165 ⟨by decide, by decide⟩ (Nat.le_of_ble_eq_true rfl) rfl dX9_frost_1 ?_
  refine V_ifp_ne_t (tgt := 9) C (isT_nI (N := 30) hd (by decide)) (by decide) dX9_frost_4 ?_
  refine V_aload_n_0 (q := 10) C rfl dX9_frost_9 ?_
  refine gf_X9_105 (q := 13) C rfl dX9_frost_10 ?_
  rw [hT]
  refine V_if_ne_t (tgt := 19) C (nI_ne0 h0 (by omega)) (by decide) dX9_frost_13 ?_
  refine V_aload_n_0 (q := 20) C rfl dX9_frost_19 ?_
  refine gf_X9_44 (q := 23) C rfl dX9_frost_20 ?_
  refine V_iload_n_1 (q := 24) C rfl dX9_frost_23 ?_
  refine V_zald (q := 25) C _ rfl (by show _ < 30; omega) rfl (by decide) (by decide) rfl dX9_frost_24 ?_
  refine V_istore_n_3 (q := 26) C hn3 rfl rfl dX9_frost_25 ?_
  refine V_aload_n_0 (q := 27) C rfl dX9_frost_26 ?_
  refine gf_X9_44 (q := 30) C rfl dX9_frost_27 ?_
  refine V_iload_n_1 (q := 31) C rfl dX9_frost_30 ?_
  refine V_iload_n_2 (q := 32) C rfl dX9_frost_31 ?_
  refine V_zast (q := 33) C _ rfl (by show _ < 30; omega) hb rfl (by decide) (by decide) rfl dX9_frost_32 ?_
  refine V_iload_n_3 (q := 34) C rfl dX9_frost_33 ?_
  refine V_iload_n_2 (q := 35) C rfl dX9_frost_34 ?_
  refine V_icmp_ne (tgt := 42) C rfl (by decide) dX9_frost_35 (fun c35 => ?_) (fun c35 => ?_)
  · refine V_iconst (q := 43) (v := 1) C rfl rfl dX9_frost_42 ?_
    refine V_iret C hR dX9_frost_43 ?_
    first
    | exact ⟨by rw [if_pos c35], rfl⟩
    | exact ⟨by rw [if_neg c35], rfl⟩
  · refine V_iconst (q := 39) (v := 0) C rfl rfl dX9_frost_38 ?_
    refine V_goto (tgt := 43) C (by decide) dX9_frost_39 ?_
    refine V_iret C hR dX9_frost_43 ?_
    first
    | exact ⟨by rw [if_pos c35], rfl⟩
    | exact ⟨by rw [if_neg c35], rfl⟩

set_option maxHeartbeats 4000000 in
set_option maxRecDepth 100000 in
theorem c_X9_crow_u {l : Launch} {D : DD} {ad : Nat → Nat} (σ : ST) (T : Nat) (d t : Int32) (hT : σ 40 5 = nI T) (h : ¬ (isT 30 d ∧ isT (nI T) t)) : Ct l yX9_crow cX9_crow 3 (Option.some FieldType.int) 2 42 D ad [.ref (ad 40), .int d, .int t] σ (ex (some (.int (-1))) σ) := by
  refine Ct.of2 [.ref (ad 40), .int d, .int t] rfl (Nat.le_of_ble_eq_true rfl) rfl ?_
  rintro X C rfl rfl rfl hxn hR
  refine V_iload_n_1 (q := 1) C rfl dX9_crow_0 ?_
  refine V_cS1r (q := 4) C (c_X9_isDay _ _) cw_X9_isDay cs_X9_isDay wm_X9_165 ⟨by decide, by decide⟩ (Nat.le_of_ble_eq_true rfl) rfl dX9_crow_1 ?_
  refine V_ifp_eq (tgt := 15) C rfl (by decide) dX9_crow_4 (fun c4 => ?_) (fun c4 => ?_)
  · refine V_iconst (q := 16) (v := (-1)) C rfl rfl dX9_crow_15 ?_
    refine V_iret C hR dX9_crow_16 ?_
    exact ⟨rfl, rfl⟩
  · refine V_aload_n_0 (q := 8) C rfl dX9_crow_7 ?_
    refine V_iload_n_2 (q := 9) C rfl dX9_crow_8 ?_
    refine V_cV1r (q := 12) C (Ct.mono (v' := some (.int (pI (isT (nI T) t)))) (c_X9_isTree σ t) (by rw [show σ 40 5 = nI T from hT]) rfl) cw_X9_isTree cv_X9_isTree wm_X9_153 (by decide) ob_X9 ⟨by decide, by decide⟩ (Nat.le_of_ble_eq_true rfl) rfl dX9_crow_9 ?_
    refine V_ifp_ne (tgt := 17) C rfl (by decide) dX9_crow_12 (fun c12 => ?_) (fun c12 => ?_)
    · exact absurd ⟨c4, c12⟩ h
    · refine V_iconst (q := 16) (v := (-1)) C rfl rfl dX9_crow_15 ?_
      refine V_iret C hR dX9_crow_16 ?_
      exact ⟨rfl, rfl⟩

set_option maxHeartbeats 4000000 in
set_option maxRecDepth 100000 in
theorem c_X9_crow_f {l : Launch} {D : DD} {ad : Nat → Nat} (σ : ST) (T d j : Nat) (hd : d < 30) (hT : σ 40 5 = nI T) (hT6 : T ≤ 6) (hj : j < T) (hC : σ 40 24 = nI 6) : Ct l yX9_crow cX9_crow 3 (Option.some FieldType.int) 2 42 D ad [.ref (ad 40), .int (nI d), .int (nI j)] σ (ex (some (.int (-4))) σ) := by
  refine Ct.of2 [.ref (ad 40), .int (nI d), .int (nI j)] rfl (Nat.le_of_ble_eq_true rfl) rfl ?_
  rintro X C rfl rfl rfl hxn hR
  refine V_iload_n_1 (q := 1) C rfl dX9_crow_0 ?_
  refine V_cS1r (q := 4) C (c_X9_isDay _ _) cw_X9_isDay cs_X9_isDay wm_X9_165 ⟨by decide, by decide⟩ (Nat.le_of_ble_eq_true rfl) rfl dX9_crow_1 ?_
  refine V_ifp_eq_f (tgt := 15) C (isT_nI (N := 30) hd (by decide)) rfl (by decide) dX9_crow_4 ?_
  refine V_aload_n_0 (q := 8) C rfl dX9_crow_7 ?_
  refine V_iload_n_2 (q := 9) C rfl dX9_crow_8 ?_
  refine V_cV1r (q := 12) C (Ct.mono (v' := some (.int (pI (isT (nI T) (nI j))))) (c_X9_isTree σ (nI j)) (by rw [show σ 40 5 = nI T from hT]) rfl) cw_X9_isTree cv_X9_isTree wm_X9_153 (by decide) ob_X9 ⟨by decide, by decide⟩ (Nat.le_of_ble_eq_true rfl) rfl dX9_crow_9 ?_
  refine V_ifp_ne_t (tgt := 17) C (isT_nI hj (by omega)) (by decide) dX9_crow_12 ?_
  refine V_aload_n_0 (q := 18) C rfl dX9_crow_17 ?_
  refine gf_X9_138 (q := 21) C rfl dX9_crow_18 ?_
  refine V_bipush (q := 23) (v := 6) C (by decide) rfl dX9_crow_21 ?_
  refine V_icmp_ne_f (tgt := 29) C hC rfl (by decide) dX9_crow_23 ?_
  refine V_bipush (q := 28) (v := (-4)) C (by decide) rfl dX9_crow_26 ?_
  refine V_iret C hR dX9_crow_28 ?_
  exact ⟨rfl, rfl⟩

set_option maxHeartbeats 4000000 in
set_option maxRecDepth 100000 in
theorem c_X9_crow_v {l : Launch} {D : DD} {ad : Nat → Nat} (σ : ST) (T d j C2 : Nat) (hd : d < 30) (hT : σ 40 5 = nI T) (hT6 : T ≤ 6) (hj : j < T) (hC : σ 40 24 = nI C2) (hC6 : C2 < 6) : Ct l yX9_crow cX9_crow 3 (Option.some FieldType.int) 2 42 D ad [.ref (ad 40), .int (nI d), .int (nI j)] σ (ex (some (.int (nI C2))) (setf (setf (setf σ 58 C2 (nI d)) 59 C2 (nI j)) 40 24 (nI (C2 + 1)))) := by
  refine Ct.of2 [.ref (ad 40), .int (nI d), .int (nI j)] rfl (Nat.le_of_ble_eq_true rfl) rfl ?_
  rintro X C rfl rfl rfl hxn hR
  refine V_iload_n_1 (q := 1) C rfl dX9_crow_0 ?_
  refine V_cS1r (q := 4) C (c_X9_isDay _ _) cw_X9_isDay cs_X9_isDay wm_X9_165 ⟨by decide, by decide⟩ (Nat.le_of_ble_eq_true rfl) rfl dX9_crow_1 ?_
  refine V_ifp_eq_f (tgt := 15) C (isT_nI (N := 30) hd (by decide)) rfl (by decide) dX9_crow_4 ?_
  refine V_aload_n_0 (q := 8) C rfl dX9_crow_7 ?_
  refine V_iload_n_2 (q := 9) C rfl dX9_crow_8 ?_
  refine V_cV1r (q := 12) C (Ct.mono (v' := some (.int (pI (isT (nI T) (nI j))))) (c_X9_isTree σ (nI j)) (by rw [show σ 40 5 = nI T from hT]) rfl) cw_X9_isTree cv_X9_isTree wm_X9_153 (by decide) ob_X9 ⟨by decide, by decide⟩ (Nat.le_of_ble_eq_true rfl) rfl dX9_crow_9 ?_
  refine V_ifp_ne_t (tgt := 17) C (isT_nI hj (by omega)) (by decide) dX9_crow_12 ?_
  refine V_aload_n_0 (q := 18) C rfl dX9_crow_17 ?_
  refine gf_X9_138 (q := 21) C rfl dX9_crow_18 ?_
  refine V_bipush (q := 23) (v := 6) C (by decide) rfl dX9_crow_21 ?_
  refine V_icmp_ne_t (tgt := 29) C (by rw [hC]; intro h; have := (nI_eq (a := C2) (b := 6) (by omega) (by decide)).mp h; omega) (by decide) dX9_crow_23 ?_
  refine V_aload_n_0 (q := 30) C rfl dX9_crow_29 ?_
  refine gf_X9_62 (q := 33) C rfl dX9_crow_30 ?_
  refine V_aload_n_0 (q := 34) C rfl dX9_crow_33 ?_
  refine gf_X9_138 (q := 37) C rfl dX9_crow_34 ?_
  refine V_iload_n_1 (q := 38) C rfl dX9_crow_37 ?_
  refine V_iast (q := 39) C C2 hC (by show _ < 7; omega) rfl (by decide) (by decide) rfl dX9_crow_38 ?_
  refine V_aload_n_0 (q := 40) C rfl dX9_crow_39 ?_
  refine gf_X9_65 (q := 43) C rfl dX9_crow_40 ?_
  refine V_aload_n_0 (q := 44) C rfl dX9_crow_43 ?_
  refine gf_X9_138 (q := 47) C rfl dX9_crow_44 ?_
  refine V_iload_n_2 (q := 48) C rfl dX9_crow_47 ?_
  refine V_iast (q := 49) C C2 hC (by show _ < 7; omega) rfl (by decide) (by decide) rfl dX9_crow_48 ?_
  refine V_aload_n_0 (q := 50) C rfl dX9_crow_49 ?_
  refine V_dup (q := 51) C rfl rfl dX9_crow_50 ?_
  refine gf_X9_138 (q := 54) C rfl dX9_crow_51 ?_
  refine V_iconst (q := 55) (v := 1) C rfl rfl dX9_crow_54 ?_
  refine V_iadd (q := 56) C rfl dX9_crow_55 ?_
  rw [show (setf (setf σ 58 C2 (nI d)) 59 C2 (nI j)) 40 24 + 1 = nI (C2 + 1) from by show σ 40 24 + 1 = _; rw [hC]; exact nI_1 C2]
  refine pf_X9_138 (q := 59) C rfl dX9_crow_56 ?_
  refine V_aload_n_0 (q := 60) C rfl dX9_crow_59 ?_
  refine gf_X9_138 (q := 63) C rfl dX9_crow_60 ?_
  refine V_iconst (q := 64) (v := 1) C rfl rfl dX9_crow_63 ?_
  refine V_isub (q := 65) C rfl dX9_crow_64 ?_
  refine V_iret C hR dX9_crow_65 ?_
  exact ⟨by show some (Value.int (nI (C2 + 1) - 1)) = _; rw [show nI (C2 + 1) - 1 = nI (C2 + 1 - 1) from pk_sub (b := 1) (by omega)]; rfl, rfl⟩

set_option maxHeartbeats 4000000 in
set_option maxRecDepth 100000 in
theorem c_X9_shoo_o {l : Launch} {D : DD} {ad : Nat → Nat} (σ : ST) (C2 : Nat) (k : Int32) (hC : σ 40 24 = nI C2) (hC8 : C2 ≤ 8) (h : ¬ (¬ k < 0 ∧ ¬ nI C2 < k)) : Ct l yX9_shoo cX9_shoo 2 (Option.some FieldType.int) 1 22 D ad [.ref (ad 40), .int k] σ (ex (some (.int (-2))) σ) := by
  refine Ct.of2 [.ref (ad 40), .int k] rfl (Nat.le_of_ble_eq_true rfl) rfl ?_
  rintro X C rfl rfl rfl hxn hR
  refine V_iload_n_1 (q := 1) C rfl dX9_shoo_0 ?_
  refine V_iconst (q := 2) (v := 0) C rfl rfl dX9_shoo_1 ?_
  refine V_aload_n_0 (q := 3) C rfl dX9_shoo_2 ?_
  refine gf_X9_138 (q := 6) C rfl dX9_shoo_3 ?_
  rw [hC]
  refine V_cS3r (q := 9) C (c_X9_within _ _ _ _) cw_X9_within cs_X9_within wm_X9_101 ⟨by decide, by decide⟩ (Nat.le_of_ble_eq_true rfl) rfl dX9_shoo_6 ?_
  refine V_ifp_ne_f (tgt := 15) C h rfl (by decide) dX9_shoo_9 ?_
  refine V_bipush (q := 14) (v := (-2)) C (by decide) rfl dX9_shoo_12 ?_
  refine V_iret C hR dX9_shoo_14 ?_
  exact ⟨rfl, rfl⟩

set_option maxHeartbeats 4000000 in
set_option maxRecDepth 100000 in
theorem c_X9_shoo_v {l : Launch} {D : DD} {ad : Nat → Nat} (σ : ST) (C2 j : Nat) (hC : σ 40 24 = nI C2) (hC8 : C2 ≤ 8) (hj : j ≤ C2) : Ct l yX9_shoo cX9_shoo 2 (Option.some FieldType.int) 1 22 D ad [.ref (ad 40), .int (nI j)] σ (ex (some (.int (nI (C2 - j)))) (setf σ 40 24 (nI (C2 - j)))) := by
  refine Ct.of2 [.ref (ad 40), .int (nI j)] rfl (Nat.le_of_ble_eq_true rfl) rfl ?_
  rintro X C rfl rfl rfl hxn hR
  refine V_iload_n_1 (q := 1) C rfl dX9_shoo_0 ?_
  refine V_iconst (q := 2) (v := 0) C rfl rfl dX9_shoo_1 ?_
  refine V_aload_n_0 (q := 3) C rfl dX9_shoo_2 ?_
  refine gf_X9_138 (q := 6) C rfl dX9_shoo_3 ?_
  rw [hC]
  refine V_cS3r (q := 9) C (c_X9_within _ _ _ _) cw_X9_within cs_X9_within wm_X9_101 ⟨by decide, by decide⟩ (Nat.le_of_ble_eq_true rfl) rfl dX9_shoo_6 ?_
  refine V_ifp_ne_t (tgt := 15) C ⟨nI_pos (by omega), nI_nlt hj (by omega)⟩ (by decide) dX9_shoo_9 ?_
  refine V_aload_n_0 (q := 16) C rfl dX9_shoo_15 ?_
  refine V_dup (q := 17) C rfl rfl dX9_shoo_16 ?_
  refine gf_X9_138 (q := 20) C rfl dX9_shoo_17 ?_
  refine V_iload_n_1 (q := 21) C rfl dX9_shoo_20 ?_
  refine V_isub (q := 22) C rfl dX9_shoo_21 ?_
  rw [hC, show nI C2 - nI j = nI (C2 - j) from pk_sub hj]
  refine pf_X9_138 (q := 25) C rfl dX9_shoo_22 ?_
  refine V_aload_n_0 (q := 26) C rfl dX9_shoo_25 ?_
  refine gf_X9_138 (q := 29) C rfl dX9_shoo_26 ?_
  refine V_iret C hR dX9_shoo_29 ?_
  exact ⟨rfl, rfl⟩

set_option maxHeartbeats 4000000 in
set_option maxRecDepth 100000 in
theorem c_X9_back_o {l : Launch} {D : DD} {ad : Nat → Nat} (σ : ST) (R2 : Nat) (k : Int32) (hC : σ 40 33 = nI R2) (hC8 : R2 ≤ 8) (h : ¬ (¬ k < 0 ∧ ¬ nI R2 < k)) : Ct l yX9_back cX9_back 2 (Option.some FieldType.int) 1 22 D ad [.ref (ad 40), .int k] σ (ex (some (.int (-2))) σ) := by
  refine Ct.of2 [.ref (ad 40), .int k] rfl (Nat.le_of_ble_eq_true rfl) rfl ?_
  rintro X C rfl rfl rfl hxn hR
  refine V_iload_n_1 (q := 1) C rfl dX9_back_0 ?_
  refine V_iconst (q := 2) (v := 0) C rfl rfl dX9_back_1 ?_
  refine V_aload_n_0 (q := 3) C rfl dX9_back_2 ?_
  refine gf_X9_141 (q := 6) C rfl dX9_back_3 ?_
  rw [hC]
  refine V_cS3r (q := 9) C (c_X9_within _ _ _ _) cw_X9_within cs_X9_within wm_X9_101 ⟨by decide, by decide⟩ (Nat.le_of_ble_eq_true rfl) rfl dX9_back_6 ?_
  refine V_ifp_ne_f (tgt := 15) C h rfl (by decide) dX9_back_9 ?_
  refine V_bipush (q := 14) (v := (-2)) C (by decide) rfl dX9_back_12 ?_
  refine V_iret C hR dX9_back_14 ?_
  exact ⟨rfl, rfl⟩

set_option maxHeartbeats 4000000 in
set_option maxRecDepth 100000 in
theorem c_X9_back_v {l : Launch} {D : DD} {ad : Nat → Nat} (σ : ST) (R2 j : Nat) (hC : σ 40 33 = nI R2) (hC8 : R2 ≤ 8) (hj : j ≤ R2) : Ct l yX9_back cX9_back 2 (Option.some FieldType.int) 1 22 D ad [.ref (ad 40), .int (nI j)] σ (ex (some (.int (nI (R2 - j)))) (setf σ 40 33 (nI (R2 - j)))) := by
  refine Ct.of2 [.ref (ad 40), .int (nI j)] rfl (Nat.le_of_ble_eq_true rfl) rfl ?_
  rintro X C rfl rfl rfl hxn hR
  refine V_iload_n_1 (q := 1) C rfl dX9_back_0 ?_
  refine V_iconst (q := 2) (v := 0) C rfl rfl dX9_back_1 ?_
  refine V_aload_n_0 (q := 3) C rfl dX9_back_2 ?_
  refine gf_X9_141 (q := 6) C rfl dX9_back_3 ?_
  rw [hC]
  refine V_cS3r (q := 9) C (c_X9_within _ _ _ _) cw_X9_within cs_X9_within wm_X9_101 ⟨by decide, by decide⟩ (Nat.le_of_ble_eq_true rfl) rfl dX9_back_6 ?_
  refine V_ifp_ne_t (tgt := 15) C ⟨nI_pos (by omega), nI_nlt hj (by omega)⟩ (by decide) dX9_back_9 ?_
  refine V_aload_n_0 (q := 16) C rfl dX9_back_15 ?_
  refine V_dup (q := 17) C rfl rfl dX9_back_16 ?_
  refine gf_X9_141 (q := 20) C rfl dX9_back_17 ?_
  refine V_iload_n_1 (q := 21) C rfl dX9_back_20 ?_
  refine V_isub (q := 22) C rfl dX9_back_21 ?_
  rw [hC, show nI R2 - nI j = nI (R2 - j) from pk_sub hj]
  refine pf_X9_141 (q := 25) C rfl dX9_back_22 ?_
  refine V_aload_n_0 (q := 26) C rfl dX9_back_25 ?_
  refine gf_X9_141 (q := 29) C rfl dX9_back_26 ?_
  refine V_iret C hR dX9_back_29 ?_
  exact ⟨rfl, rfl⟩

set_option maxHeartbeats 4000000 in
set_option maxRecDepth 100000 in
theorem c_X9_fell_u {l : Launch} {D : DD} {ad : Nat → Nat} (σ : ST) (T : Nat) (t b : Int32) (hT : σ 40 5 = nI T) (h : ¬ isT (nI T) t) : Ct l yX9_fell cX9_fell 4 (Option.some FieldType.int) 1 21 D ad [.ref (ad 40), .int t, .int b] σ (ex (some (.int (-1))) σ) := by
  refine Ct.of2 [.ref (ad 40), .int t, .int b, .float 0] rfl (Nat.le_of_ble_eq_true rfl) rfl ?_
  rintro X C rfl rfl rfl hxn hR
  refine V_aload_n_0 (q := 1) C rfl dX9_fell_0 ?_
  refine V_iload_n_1 (q := 2) C rfl dX9_fell_1 ?_
  refine V_cV1r (q := 5) C (Ct.mono (v' := some (.int (pI (isT (nI T) t)))) (c_X9_isTree σ t) (by rw [show σ 40 5 = nI T from hT]) rfl) cw_X9_isTree cv_X9_isTree wm_X9_153 (by decide) ob_X9 ⟨by decide, by decide⟩ (Nat.le_of_ble_eq_true rfl) rfl dX9_fell_2 ?_
  refine V_ifp_ne_f (tgt := 10) C h rfl (by decide) dX9_fell_5 ?_
  refine V_iconst (q := 9) (v := (-1)) C rfl rfl dX9_fell_8 ?_
  refine V_iret C hR dX9_fell_9 ?_
  exact ⟨rfl, rfl⟩

set_option maxHeartbeats 4000000 in
set_option maxRecDepth 100000 in
theorem c_X9_fell_v {l : Launch} {D : DD} {ad : Nat → Nat} (σ : ST) (T j : Nat) (b : Int32) (hT : σ 40 5 = nI T) (hT6 : T ≤ 6) (hj : j < T) (hb : vp_nar .boolean b = b) : Ct l yX9_fell cX9_fell 4 (Option.some FieldType.int) 1 21 D ad [.ref (ad 40), .int (nI j), .int b] σ (ex (some (.int (if σ 47 j = b then 0 else 1))) (setf σ 47 j b)) := by
  refine Ct.of2 [.ref (ad 40), .int (nI j), .int b, .float 0] rfl (Nat.le_of_ble_eq_true rfl) rfl ?_
  rintro X C rfl rfl rfl hxn hR
  have hn3 : 3 < xn X := by rw [← hxn]; decide
  refine V_aload_n_0 (q := 1) C rfl dX9_fell_0 ?_
  refine V_iload_n_1 (q := 2) C rfl dX9_fell_1 ?_
  refine V_cV1r (q := 5) C (Ct.mono (v' := some (.int (pI (isT (nI T) (nI j))))) (c_X9_isTree σ (nI j)) (by rw [show σ 40 5 = nI T from hT]) rfl) cw_X9_isTree cv_X9_isTree wm_X9_153 (by decide) ob_X9 ⟨by decide, by decide⟩ (Nat.le_of_ble_eq_true rfl) rfl dX9_fell_2 ?_
  refine V_ifp_ne_t (tgt := 10) C (isT_nI hj (by omega)) (by decide) dX9_fell_5 ?_
  refine V_aload_n_0 (q := 11) C rfl dX9_fell_10 ?_
  refine gf_X9_28 (q := 14) C rfl dX9_fell_11 ?_
  refine V_iload_n_1 (q := 15) C rfl dX9_fell_14 ?_
  refine V_zald (q := 16) C _ rfl (by show _ < 6; omega) rfl (by decide) (by decide) rfl dX9_fell_15 ?_
  refine V_istore_n_3 (q := 17) C hn3 rfl rfl dX9_fell_16 ?_
  refine V_aload_n_0 (q := 18) C rfl dX9_fell_17 ?_
  refine gf_X9_28 (q := 21) C rfl dX9_fell_18 ?_
  refine V_iload_n_1 (q := 22) C rfl dX9_fell_21 ?_
  refine V_iload_n_2 (q := 23) C rfl dX9_fell_22 ?_
  refine V_zast (q := 24) C _ rfl (by show _ < 6; omega) hb rfl (by decide) (by decide) rfl dX9_fell_23 ?_
  refine V_iload_n_3 (q := 25) C rfl dX9_fell_24 ?_
  refine V_iload_n_2 (q := 26) C rfl dX9_fell_25 ?_
  refine V_icmp_ne (tgt := 33) C rfl (by decide) dX9_fell_26 (fun c26 => ?_) (fun c26 => ?_)
  · refine V_iconst (q := 34) (v := 1) C rfl rfl dX9_fell_33 ?_
    refine V_iret C hR dX9_fell_34 ?_
    first
    | exact ⟨by rw [if_pos c26], rfl⟩
    | exact ⟨by rw [if_neg c26], rfl⟩
  · refine V_iconst (q := 30) (v := 0) C rfl rfl dX9_fell_29 ?_
    refine V_goto (tgt := 34) C (by decide) dX9_fell_30 ?_
    refine V_iret C hR dX9_fell_34 ?_
    first
    | exact ⟨by rw [if_pos c26], rfl⟩
    | exact ⟨by rw [if_neg c26], rfl⟩

set_option maxHeartbeats 4000000 in
set_option maxRecDepth 100000 in
theorem c_X9_tell_u {l : Launch} {D : DD} {ad : Nat → Nat} (σ : ST) (T : Nat) (t : Int32) (hT : σ 40 5 = nI T) (h : ¬ isT (nI T) t) : Ct l yX9_tell cX9_tell 3 (Option.some FieldType.int) 1 21 D ad [.ref (ad 40), .int t] σ (ex (some (.int (-1))) σ) := by
  refine Ct.of2 [.ref (ad 40), .int t, .float 0] rfl (Nat.le_of_ble_eq_true rfl) rfl ?_
  rintro X C rfl rfl rfl hxn hR
  refine V_aload_n_0 (q := 1) C rfl dX9_tell_0 ?_
  refine V_iload_n_1 (q := 2) C rfl dX9_tell_1 ?_
  refine V_cV1r (q := 5) C (Ct.mono (v' := some (.int (pI (isT (nI T) t)))) (c_X9_isTree σ t) (by rw [show σ 40 5 = nI T from hT]) rfl) cw_X9_isTree cv_X9_isTree wm_X9_153 (by decide) ob_X9 ⟨by decide, by decide⟩ (Nat.le_of_ble_eq_true rfl) rfl dX9_tell_2 ?_
  refine V_ifp_ne_f (tgt := 10) C h rfl (by decide) dX9_tell_5 ?_
  refine V_iconst (q := 9) (v := (-1)) C rfl rfl dX9_tell_8 ?_
  refine V_iret C hR dX9_tell_9 ?_
  exact ⟨rfl, rfl⟩

def bgM (σ : ST) (w : Int32) : ST := setf σ 40 1 (31 * σ 40 1 + w)
def teM (σ : ST) (k n : Int32) : Int32 × ST := if k = 1 then (n + 100, bgM (bgM σ 2) 1) else if k = 2 then (2 * n + 100, bgM (bgM (bgM (bgM σ 3) 2) 1) 1) else (n, bgM σ 1)
def shkM (σ : ST) (k : Int32) (j : Nat) : Int32 × ST := if k = 2 then (60, bgM σ 5) else (nI j, bgM σ 4)
def asM (σ : ST) (kd k : Int32) : Int32 × ST := if k ≤ kd then (1, setf σ 40 0 0) else (-12, setf σ 40 0 2)

set_option maxHeartbeats 4000000 in
set_option maxRecDepth 100000 in
theorem c_X9_tell_v {l : Launch} {D : DD} {ad : Nat → Nat} (σ : ST) (T j : Nat) (hT : σ 40 5 = nI T) (hT6 : T ≤ 6) (hj : j < T) : Ct l yX9_tell cX9_tell 3 (Option.some FieldType.int) 1 21 D ad [.ref (ad 40), .int (nI j)] σ (ex (some (.int (teM σ (σ 44 j) (σ 46 j)).1)) (teM σ (σ 44 j) (σ 46 j)).2) := by
  refine Ct.of2 [.ref (ad 40), .int (nI j), .float 0] rfl (Nat.le_of_ble_eq_true rfl) rfl ?_
  rintro X C rfl rfl rfl hxn hR
  have hn2 : 2 < xn X := by rw [← hxn]; decide
  refine V_aload_n_0 (q := 1) C rfl dX9_tell_0 ?_
  refine V_iload_n_1 (q := 2) C rfl dX9_tell_1 ?_
  refine V_cV1r (q := 5) C (Ct.mono (v' := some (.int (pI (isT (nI T) (nI j))))) (c_X9_isTree σ (nI j)) (by rw [show σ 40 5 = nI T from hT]) rfl) cw_X9_isTree cv_X9_isTree wm_X9_153 (by decide) ob_X9 ⟨by decide, by decide⟩ (Nat.le_of_ble_eq_true rfl) rfl dX9_tell_2 ?_
  refine V_ifp_ne_t (tgt := 10) C (isT_nI hj (by omega)) (by decide) dX9_tell_5 ?_
  refine V_aload_n_0 (q := 11) C rfl dX9_tell_10 ?_
  refine gf_X9_25 (q := 14) C rfl dX9_tell_11 ?_
  refine V_iload_n_1 (q := 15) C rfl dX9_tell_14 ?_
  refine V_iald (q := 16) C _ rfl (by show _ < 6; omega) rfl (by decide) (by decide) rfl dX9_tell_15 ?_
  refine V_istore_n_2 (q := 17) C hn2 rfl rfl dX9_tell_16 ?_
  refine V_aload_n_0 (q := 18) C rfl dX9_tell_17 ?_
  refine gf_X9_19 (q := 21) C rfl dX9_tell_18 ?_
  refine V_iload_n_1 (q := 22) C rfl dX9_tell_21 ?_
  refine V_iald (q := 23) C _ rfl (by show _ < 6; omega) rfl (by decide) (by decide) rfl dX9_tell_22 ?_
  refine V_look2 (va := 1) (vb := 2) (ta := 48) (tb := 63) (td := 90) C rfl rfl (by decide) (by decide) (by decide) (by decide) dX9_tell_23 (fun c23 => ?_) (fun c23 => ?_) (fun c23 c24 => ?_)
  · refine V_aload_n_0 (q := 49) C rfl dX9_tell_48 ?_
    refine V_iconst (q := 50) (v := 2) C rfl rfl dX9_tell_49 ?_
    refine V_cV1v (q := 53) C (c_X9_begins _ _) cw_X9_begins cv_X9_begins wm_X9_230 (by decide) ob_X9 ⟨by decide, by decide⟩ (Nat.le_of_ble_eq_true rfl) rfl dX9_tell_50 ?_
    refine V_aload_n_0 (q := 54) C rfl dX9_tell_53 ?_
    refine V_iconst (q := 55) (v := 1) C rfl rfl dX9_tell_54 ?_
    refine V_cV1v (q := 58) C (c_X9_begins _ _) cw_X9_begins cv_X9_begins wm_X9_230 (by decide) ob_X9 ⟨by decide, by decide⟩ (Nat.le_of_ble_eq_true rfl) rfl dX9_tell_55 ?_
    refine V_iload_n_2 (q := 59) C rfl dX9_tell_58 ?_
    refine V_bipush (q := 61) (v := 100) C (by decide) rfl dX9_tell_59 ?_
    refine V_iadd (q := 62) C rfl dX9_tell_61 ?_
    refine V_iret C hR dX9_tell_62 ?_
    first
    | (refine ⟨by unfold teM; rw [if_pos c23], ?_⟩; unfold teM; rw [if_pos c23]; done)
    | (refine ⟨by unfold teM; rw [if_neg (by rw [c23]; decide), if_pos c23], ?_⟩; unfold teM; rw [if_neg (by rw [c23]; decide), if_pos c23]; done)
    | (refine ⟨by unfold teM; rw [if_neg c23, if_neg c24], ?_⟩; unfold teM; rw [if_neg c23, if_neg c24]; done)
    | (refine ⟨by unfold teM; rw [if_pos c23], ?_⟩; unfold teM; rw [if_pos c23]; rfl)
    | (refine ⟨by unfold teM; rw [if_neg (by rw [c23]; decide), if_pos c23], ?_⟩; unfold teM; rw [if_neg (by rw [c23]; decide), if_pos c23]; rfl)
    | (refine ⟨by unfold teM; rw [if_neg c23, if_neg c24], ?_⟩; unfold teM; rw [if_neg c23, if_neg c24]; rfl)
  · refine V_aload_n_0 (q := 64) C rfl dX9_tell_63 ?_
    refine V_iconst (q := 65) (v := 3) C rfl rfl dX9_tell_64 ?_
    refine V_cV1v (q := 68) C (c_X9_begins _ _) cw_X9_begins cv_X9_begins wm_X9_230 (by decide) ob_X9 ⟨by decide, by decide⟩ (Nat.le_of_ble_eq_true rfl) rfl dX9_tell_65 ?_
    refine V_aload_n_0 (q := 69) C rfl dX9_tell_68 ?_
    refine V_iconst (q := 70) (v := 2) C rfl rfl dX9_tell_69 ?_
    refine V_cV1v (q := 73) C (c_X9_begins _ _) cw_X9_begins cv_X9_begins wm_X9_230 (by decide) ob_X9 ⟨by decide, by decide⟩ (Nat.le_of_ble_eq_true rfl) rfl dX9_tell_70 ?_
    refine V_aload_n_0 (q := 74) C rfl dX9_tell_73 ?_
    refine V_iconst (q := 75) (v := 1) C rfl rfl dX9_tell_74 ?_
    refine V_cV1v (q := 78) C (c_X9_begins _ _) cw_X9_begins cv_X9_begins wm_X9_230 (by decide) ob_X9 ⟨by decide, by decide⟩ (Nat.le_of_ble_eq_true rfl) rfl dX9_tell_75 ?_
    refine V_aload_n_0 (q := 79) C rfl dX9_tell_78 ?_
    refine V_iconst (q := 80) (v := 1) C rfl rfl dX9_tell_79 ?_
    refine V_cV1v (q := 83) C (c_X9_begins _ _) cw_X9_begins cv_X9_begins wm_X9_230 (by decide) ob_X9 ⟨by decide, by decide⟩ (Nat.le_of_ble_eq_true rfl) rfl dX9_tell_80 ?_
    refine V_iconst (q := 84) (v := 2) C rfl rfl dX9_tell_83 ?_
    refine V_iload_n_2 (q := 85) C rfl dX9_tell_84 ?_
    refine V_imul (q := 86) C rfl dX9_tell_85 ?_
    refine V_bipush (q := 88) (v := 100) C (by decide) rfl dX9_tell_86 ?_
    refine V_iadd (q := 89) C rfl dX9_tell_88 ?_
    refine V_iret C hR dX9_tell_89 ?_
    first
    | (refine ⟨by unfold teM; rw [if_pos c23], ?_⟩; unfold teM; rw [if_pos c23]; done)
    | (refine ⟨by unfold teM; rw [if_neg (by rw [c23]; decide), if_pos c23], ?_⟩; unfold teM; rw [if_neg (by rw [c23]; decide), if_pos c23]; done)
    | (refine ⟨by unfold teM; rw [if_neg c23, if_neg c24], ?_⟩; unfold teM; rw [if_neg c23, if_neg c24]; done)
    | (refine ⟨by unfold teM; rw [if_pos c23], ?_⟩; unfold teM; rw [if_pos c23]; rfl)
    | (refine ⟨by unfold teM; rw [if_neg (by rw [c23]; decide), if_pos c23], ?_⟩; unfold teM; rw [if_neg (by rw [c23]; decide), if_pos c23]; rfl)
    | (refine ⟨by unfold teM; rw [if_neg c23, if_neg c24], ?_⟩; unfold teM; rw [if_neg c23, if_neg c24]; rfl)
  · refine V_aload_n_0 (q := 91) C rfl dX9_tell_90 ?_
    refine V_iconst (q := 92) (v := 1) C rfl rfl dX9_tell_91 ?_
    refine V_cV1v (q := 95) C (c_X9_begins _ _) cw_X9_begins cv_X9_begins wm_X9_230 (by decide) ob_X9 ⟨by decide, by decide⟩ (Nat.le_of_ble_eq_true rfl) rfl dX9_tell_92 ?_
    refine V_iload_n_2 (q := 96) C rfl dX9_tell_95 ?_
    refine V_iret C hR dX9_tell_96 ?_
    first
    | (refine ⟨by unfold teM; rw [if_pos c23], ?_⟩; unfold teM; rw [if_pos c23]; done)
    | (refine ⟨by unfold teM; rw [if_neg (by rw [c23]; decide), if_pos c23], ?_⟩; unfold teM; rw [if_neg (by rw [c23]; decide), if_pos c23]; done)
    | (refine ⟨by unfold teM; rw [if_neg c23, if_neg c24], ?_⟩; unfold teM; rw [if_neg c23, if_neg c24]; done)
    | (refine ⟨by unfold teM; rw [if_pos c23], ?_⟩; unfold teM; rw [if_pos c23]; rfl)
    | (refine ⟨by unfold teM; rw [if_neg (by rw [c23]; decide), if_pos c23], ?_⟩; unfold teM; rw [if_neg (by rw [c23]; decide), if_pos c23]; rfl)
    | (refine ⟨by unfold teM; rw [if_neg c23, if_neg c24], ?_⟩; unfold teM; rw [if_neg c23, if_neg c24]; rfl)

set_option maxHeartbeats 4000000 in
set_option maxRecDepth 100000 in
theorem c_X9_shake_u {l : Launch} {D : DD} {ad : Nat → Nat} (σ : ST) (T : Nat) (t : Int32) (hT : σ 40 5 = nI T) (h : ¬ isT (nI T) t) : Ct l yX9_shake cX9_shake 2 (Option.some FieldType.int) 1 21 D ad [.ref (ad 40), .int t] σ (ex (some (.int (-1))) σ) := by
  refine Ct.of2 [.ref (ad 40), .int t] rfl (Nat.le_of_ble_eq_true rfl) rfl ?_
  rintro X C rfl rfl rfl hxn hR
  refine V_aload_n_0 (q := 1) C rfl dX9_shake_0 ?_
  refine V_iload_n_1 (q := 2) C rfl dX9_shake_1 ?_
  refine V_cV1r (q := 5) C (Ct.mono (v' := some (.int (pI (isT (nI T) t)))) (c_X9_isTree σ t) (by rw [show σ 40 5 = nI T from hT]) rfl) cw_X9_isTree cv_X9_isTree wm_X9_153 (by decide) ob_X9 ⟨by decide, by decide⟩ (Nat.le_of_ble_eq_true rfl) rfl dX9_shake_2 ?_
  refine V_ifp_ne_f (tgt := 10) C h rfl (by decide) dX9_shake_5 ?_
  refine V_iconst (q := 9) (v := (-1)) C rfl rfl dX9_shake_8 ?_
  refine V_iret C hR dX9_shake_9 ?_
  exact ⟨rfl, rfl⟩

set_option maxHeartbeats 4000000 in
set_option maxRecDepth 100000 in
theorem c_X9_shake_v {l : Launch} {D : DD} {ad : Nat → Nat} (σ : ST) (T j : Nat) (hT : σ 40 5 = nI T) (hT6 : T ≤ 6) (hj : j < T) : Ct l yX9_shake cX9_shake 2 (Option.some FieldType.int) 1 21 D ad [.ref (ad 40), .int (nI j)] σ (ex (some (.int (shkM σ (σ 44 j) j).1)) (shkM σ (σ 44 j) j).2) := by
  refine Ct.of2 [.ref (ad 40), .int (nI j)] rfl (Nat.le_of_ble_eq_true rfl) rfl ?_
  rintro X C rfl rfl rfl hxn hR
  refine V_aload_n_0 (q := 1) C rfl dX9_shake_0 ?_
  refine V_iload_n_1 (q := 2) C rfl dX9_shake_1 ?_
  refine V_cV1r (q := 5) C (Ct.mono (v' := some (.int (pI (isT (nI T) (nI j))))) (c_X9_isTree σ (nI j)) (by rw [show σ 40 5 = nI T from hT]) rfl) cw_X9_isTree cv_X9_isTree wm_X9_153 (by decide) ob_X9 ⟨by decide, by decide⟩ (Nat.le_of_ble_eq_true rfl) rfl dX9_shake_2 ?_
  refine V_ifp_ne_t (tgt := 10) C (isT_nI hj (by omega)) (by decide) dX9_shake_5 ?_
  refine V_aload_n_0 (q := 11) C rfl dX9_shake_10 ?_
  refine V_aload_n_0 (q := 12) C rfl dX9_shake_11 ?_
  refine gf_X9_19 (q := 15) C rfl dX9_shake_12 ?_
  refine V_iload_n_1 (q := 16) C rfl dX9_shake_15 ?_
  refine V_iald (q := 17) C _ rfl (by show _ < 6; omega) rfl (by decide) (by decide) rfl dX9_shake_16 ?_
  refine V_iconst (q := 18) (v := 2) C rfl rfl dX9_shake_17 ?_
  refine V_icmp_ne (tgt := 25) C rfl (by decide) dX9_shake_18 (fun c18 => ?_) (fun c18 => ?_)
  · refine V_iconst (q := 26) (v := 4) C rfl rfl dX9_shake_25 ?_
    refine V_cV1v (q := 29) C (c_X9_begins _ _) cw_X9_begins cv_X9_begins wm_X9_230 (by decide) ob_X9 ⟨by decide, by decide⟩ (Nat.le_of_ble_eq_true rfl) rfl dX9_shake_26 ?_
    refine V_aload_n_0 (q := 30) C rfl dX9_shake_29 ?_
    refine gf_X9_19 (q := 33) C rfl dX9_shake_30 ?_
    refine V_iload_n_1 (q := 34) C rfl dX9_shake_33 ?_
    refine V_iald (q := 35) C _ rfl (by show _ < 6; omega) rfl (by decide) (by decide) rfl dX9_shake_34 ?_
    refine V_iconst (q := 36) (v := 2) C rfl rfl dX9_shake_35 ?_
    refine V_icmp_ne (tgt := 44) C rfl (by decide) dX9_shake_36 (fun c36 => ?_) (fun c36 => ?_)
    · refine V_iload_n_1 (q := 45) C rfl dX9_shake_44 ?_
      refine V_iret C hR dX9_shake_45 ?_
      first
      | exact absurd (show σ 44 j = 2 from c36) c18
      | exact absurd c18 (show ¬ σ 44 j = 2 from c36)
      | (refine ⟨by unfold shkM; rw [if_pos c18], ?_⟩; unfold shkM; rw [if_pos c18]; done)
      | (refine ⟨by unfold shkM; rw [if_neg c18], ?_⟩; unfold shkM; rw [if_neg c18]; done)
      | (refine ⟨by unfold shkM; rw [if_pos c18], ?_⟩; unfold shkM; rw [if_pos c18]; rfl)
      | (refine ⟨by unfold shkM; rw [if_neg c18], ?_⟩; unfold shkM; rw [if_neg c18]; rfl)
      | exact absurd c18 c36
      | exact absurd c36 c18
    · refine V_bipush (q := 41) (v := 60) C (by decide) rfl dX9_shake_39 ?_
      refine V_goto (tgt := 45) C (by decide) dX9_shake_41 ?_
      refine V_iret C hR dX9_shake_45 ?_
      first
      | exact absurd (show σ 44 j = 2 from c36) c18
      | exact absurd c18 (show ¬ σ 44 j = 2 from c36)
      | (refine ⟨by unfold shkM; rw [if_pos c18], ?_⟩; unfold shkM; rw [if_pos c18]; done)
      | (refine ⟨by unfold shkM; rw [if_neg c18], ?_⟩; unfold shkM; rw [if_neg c18]; done)
      | (refine ⟨by unfold shkM; rw [if_pos c18], ?_⟩; unfold shkM; rw [if_pos c18]; rfl)
      | (refine ⟨by unfold shkM; rw [if_neg c18], ?_⟩; unfold shkM; rw [if_neg c18]; rfl)
      | exact absurd c18 c36
      | exact absurd c36 c18
  · refine V_iconst (q := 22) (v := 5) C rfl rfl dX9_shake_21 ?_
    refine V_goto (tgt := 26) C (by decide) dX9_shake_22 ?_
    refine V_cV1v (q := 29) C (c_X9_begins _ _) cw_X9_begins cv_X9_begins wm_X9_230 (by decide) ob_X9 ⟨by decide, by decide⟩ (Nat.le_of_ble_eq_true rfl) rfl dX9_shake_26 ?_
    refine V_aload_n_0 (q := 30) C rfl dX9_shake_29 ?_
    refine gf_X9_19 (q := 33) C rfl dX9_shake_30 ?_
    refine V_iload_n_1 (q := 34) C rfl dX9_shake_33 ?_
    refine V_iald (q := 35) C _ rfl (by show _ < 6; omega) rfl (by decide) (by decide) rfl dX9_shake_34 ?_
    refine V_iconst (q := 36) (v := 2) C rfl rfl dX9_shake_35 ?_
    refine V_icmp_ne (tgt := 44) C rfl (by decide) dX9_shake_36 (fun c36 => ?_) (fun c36 => ?_)
    · refine V_iload_n_1 (q := 45) C rfl dX9_shake_44 ?_
      refine V_iret C hR dX9_shake_45 ?_
      first
      | exact absurd (show σ 44 j = 2 from c36) c18
      | exact absurd c18 (show ¬ σ 44 j = 2 from c36)
      | (refine ⟨by unfold shkM; rw [if_pos c18], ?_⟩; unfold shkM; rw [if_pos c18]; done)
      | (refine ⟨by unfold shkM; rw [if_neg c18], ?_⟩; unfold shkM; rw [if_neg c18]; done)
      | (refine ⟨by unfold shkM; rw [if_pos c18], ?_⟩; unfold shkM; rw [if_pos c18]; rfl)
      | (refine ⟨by unfold shkM; rw [if_neg c18], ?_⟩; unfold shkM; rw [if_neg c18]; rfl)
      | exact absurd c18 c36
      | exact absurd c36 c18
    · refine V_bipush (q := 41) (v := 60) C (by decide) rfl dX9_shake_39 ?_
      refine V_goto (tgt := 45) C (by decide) dX9_shake_41 ?_
      refine V_iret C hR dX9_shake_45 ?_
      first
      | exact absurd (show σ 44 j = 2 from c36) c18
      | exact absurd c18 (show ¬ σ 44 j = 2 from c36)
      | (refine ⟨by unfold shkM; rw [if_pos c18], ?_⟩; unfold shkM; rw [if_pos c18]; done)
      | (refine ⟨by unfold shkM; rw [if_neg c18], ?_⟩; unfold shkM; rw [if_neg c18]; done)
      | (refine ⟨by unfold shkM; rw [if_pos c18], ?_⟩; unfold shkM; rw [if_pos c18]; rfl)
      | (refine ⟨by unfold shkM; rw [if_neg c18], ?_⟩; unfold shkM; rw [if_neg c18]; rfl)
      | exact absurd c18 c36
      | exact absurd c36 c18

set_option maxHeartbeats 4000000 in
set_option maxRecDepth 100000 in
theorem c_X9_as_u {l : Launch} {D : DD} {ad : Nat → Nat} (σ : ST) (T : Nat) (t k : Int32) (hT : σ 40 5 = nI T) (h : ¬ isT (nI T) t) : Ct l yX9_as cX9_as 3 (Option.some FieldType.int) 1 22 D ad [.ref (ad 40), .int t, .int k] σ (ex (some (.int (-1))) (setf σ 40 0 0)) := by
  refine Ct.of2 [.ref (ad 40), .int t, .int k] rfl (Nat.le_of_ble_eq_true rfl) rfl ?_
  rintro X C rfl rfl rfl hxn hR
  refine V_aload_n_0 (q := 1) C rfl dX9_as_0 ?_
  refine V_iconst (q := 2) (v := 0) C rfl rfl dX9_as_1 ?_
  refine pf_X9_96 (q := 5) C rfl dX9_as_2 ?_
  refine V_aload_n_0 (q := 6) C rfl dX9_as_5 ?_
  refine V_iload_n_1 (q := 7) C rfl dX9_as_6 ?_
  refine V_cV1r (q := 10) C (Ct.mono (v' := some (.int (pI (isT (nI T) t)))) (c_X9_isTree (setf σ 40 0 0) t) (by rw [show (setf σ 40 0 0) 40 5 = nI T from hT]) rfl) cw_X9_isTree cv_X9_isTree wm_X9_153 (by decide) ob_X9 ⟨by decide, by decide⟩ (Nat.le_of_ble_eq_true rfl) rfl dX9_as_7 ?_
  refine V_ifp_ne_f (tgt := 15) C h rfl (by decide) dX9_as_10 ?_
  refine V_iconst (q := 14) (v := (-1)) C rfl rfl dX9_as_13 ?_
  refine V_iret C hR dX9_as_14 ?_
  exact ⟨rfl, rfl⟩

set_option maxHeartbeats 4000000 in
set_option maxRecDepth 100000 in
theorem c_X9_as_o {l : Launch} {D : DD} {ad : Nat → Nat} (σ : ST) (T j : Nat) (k : Int32) (hT : σ 40 5 = nI T) (hT6 : T ≤ 6) (hj : j < T) (h : ¬ isT 3 k) : Ct l yX9_as cX9_as 3 (Option.some FieldType.int) 1 22 D ad [.ref (ad 40), .int (nI j), .int k] σ (ex (some (.int (-2))) (setf σ 40 0 0)) := by
  refine Ct.of2 [.ref (ad 40), .int (nI j), .int k] rfl (Nat.le_of_ble_eq_true rfl) rfl ?_
  rintro X C rfl rfl rfl hxn hR
  refine V_aload_n_0 (q := 1) C rfl dX9_as_0 ?_
  refine V_iconst (q := 2) (v := 0) C rfl rfl dX9_as_1 ?_
  refine pf_X9_96 (q := 5) C rfl dX9_as_2 ?_
  refine V_aload_n_0 (q := 6) C rfl dX9_as_5 ?_
  refine V_iload_n_1 (q := 7) C rfl dX9_as_6 ?_
  refine V_cV1r (q := 10) C (Ct.mono (v' := some (.int (pI (isT (nI T) (nI j))))) (c_X9_isTree (setf σ 40 0 0) (nI j)) (by rw [show (setf σ 40 0 0) 40 5 = nI T from hT]) rfl) cw_X9_isTree cv_X9_isTree wm_X9_153 (by decide) ob_X9 ⟨by decide, by decide⟩ (Nat.le_of_ble_eq_true rfl) rfl dX9_as_7 ?_
  refine V_ifp_ne_t (tgt := 15) C (isT_nI hj (by omega)) (by decide) dX9_as_10 ?_
  refine V_iload_n_2 (q := 16) C rfl dX9_as_15 ?_
  refine V_iconst (q := 17) (v := 0) C rfl rfl dX9_as_16 ?_
  refine V_iconst (q := 18) (v := 2) C rfl rfl dX9_as_17 ?_
  refine V_cS3r (q := 21) C (Ct.mono (v' := some (.int (pI (isT 3 k)))) (c_X9_within _ _ _ _) (congrArg (fun z => some (Value.int z)) (pI_congr (and_congr_right fun _ => lt2))) rfl) cw_X9_within cs_X9_within wm_X9_101 ⟨by decide, by decide⟩ (Nat.le_of_ble_eq_true rfl) rfl dX9_as_18 ?_
  refine V_ifp_ne_f (tgt := 27) C h rfl (by decide) dX9_as_21 ?_
  refine V_bipush (q := 26) (v := (-2)) C (by decide) rfl dX9_as_24 ?_
  refine V_iret C hR dX9_as_26 ?_
  exact ⟨rfl, rfl⟩

set_option maxHeartbeats 4000000 in
set_option maxRecDepth 100000 in
theorem c_X9_as_v {l : Launch} {D : DD} {ad : Nat → Nat} (σ : ST) (T j : Nat) (k : Int32) (hT : σ 40 5 = nI T) (hT6 : T ≤ 6) (hj : j < T) (h : isT 3 k) : Ct l yX9_as cX9_as 3 (Option.some FieldType.int) 1 22 D ad [.ref (ad 40), .int (nI j), .int k] σ (ex (some (.int (asM σ (σ 44 j) k).1)) (asM σ (σ 44 j) k).2) := by
  refine Ct.of2 [.ref (ad 40), .int (nI j), .int k] rfl (Nat.le_of_ble_eq_true rfl) rfl ?_
  rintro X C rfl rfl rfl hxn hR
  refine V_aload_n_0 (q := 1) C rfl dX9_as_0 ?_
  refine V_iconst (q := 2) (v := 0) C rfl rfl dX9_as_1 ?_
  refine pf_X9_96 (q := 5) C rfl dX9_as_2 ?_
  refine V_aload_n_0 (q := 6) C rfl dX9_as_5 ?_
  refine V_iload_n_1 (q := 7) C rfl dX9_as_6 ?_
  refine V_cV1r (q := 10) C (Ct.mono (v' := some (.int (pI (isT (nI T) (nI j))))) (c_X9_isTree (setf σ 40 0 0) (nI j)) (by rw [show (setf σ 40 0 0) 40 5 = nI T from hT]) rfl) cw_X9_isTree cv_X9_isTree wm_X9_153 (by decide) ob_X9 ⟨by decide, by decide⟩ (Nat.le_of_ble_eq_true rfl) rfl dX9_as_7 ?_
  refine V_ifp_ne_t (tgt := 15) C (isT_nI hj (by omega)) (by decide) dX9_as_10 ?_
  refine V_iload_n_2 (q := 16) C rfl dX9_as_15 ?_
  refine V_iconst (q := 17) (v := 0) C rfl rfl dX9_as_16 ?_
  refine V_iconst (q := 18) (v := 2) C rfl rfl dX9_as_17 ?_
  refine V_cS3r (q := 21) C (Ct.mono (v' := some (.int (pI (isT 3 k)))) (c_X9_within _ _ _ _) (congrArg (fun z => some (Value.int z)) (pI_congr (and_congr_right fun _ => lt2))) rfl) cw_X9_within cs_X9_within wm_X9_101 ⟨by decide, by decide⟩ (Nat.le_of_ble_eq_true rfl) rfl dX9_as_18 ?_
  refine V_ifp_ne_t (tgt := 27) C h (by decide) dX9_as_21 ?_
  refine V_aload_n_0 (q := 28) C rfl dX9_as_27 ?_
  refine gf_X9_19 (q := 31) C rfl dX9_as_28 ?_
  refine V_iload_n_1 (q := 32) C rfl dX9_as_31 ?_
  refine V_iald (q := 33) C _ rfl (by show _ < 6; omega) rfl (by decide) (by decide) rfl dX9_as_32 ?_
  refine V_iload_n_2 (q := 34) C rfl dX9_as_33 ?_
  refine V_icmp_lt (tgt := 41) C rfl (by decide) dX9_as_34 (fun c34 => ?_) (fun c34 => ?_)
  · refine V_aload_n_0 (q := 42) C rfl dX9_as_41 ?_
    refine V_iconst (q := 43) (v := 2) C rfl rfl dX9_as_42 ?_
    refine V_cV1r (q := 46) C (c_X9_fails _ 2) cw_X9_fails cv_X9_fails wm_X9_125 (by decide) ob_X9 ⟨by decide, by decide⟩ (Nat.le_of_ble_eq_true rfl) rfl dX9_as_43 ?_
    refine V_iret C hR dX9_as_46 ?_
    first
    | (refine ⟨by unfold asM; rw [if_neg (Int32.not_le.mpr (show σ 44 j < k from c34))]; rfl, ?_⟩; unfold asM; rw [if_neg (Int32.not_le.mpr (show σ 44 j < k from c34)), setf_setf]; done)
    | (refine ⟨by unfold asM; rw [if_pos (Int32.not_lt.mp (show ¬ σ 44 j < k from c34))], ?_⟩; unfold asM; rw [if_pos (Int32.not_lt.mp (show ¬ σ 44 j < k from c34))]; done)
  · refine V_iconst (q := 38) (v := 1) C rfl rfl dX9_as_37 ?_
    refine V_goto (tgt := 46) C (by decide) dX9_as_38 ?_
    refine V_iret C hR dX9_as_46 ?_
    first
    | (refine ⟨by unfold asM; rw [if_neg (Int32.not_le.mpr (show σ 44 j < k from c34))]; rfl, ?_⟩; unfold asM; rw [if_neg (Int32.not_le.mpr (show σ 44 j < k from c34)), setf_setf]; done)
    | (refine ⟨by unfold asM; rw [if_pos (Int32.not_lt.mp (show ¬ σ 44 j < k from c34))], ?_⟩; unfold asM; rw [if_pos (Int32.not_lt.mp (show ¬ σ 44 j < k from c34))]; done)

set_option maxHeartbeats 4000000 in
set_option maxRecDepth 100000 in
theorem c_X9_trace_v {l : Launch} {D : DD} {ad : Nat → Nat} (σ : ST)  : Ct l yX9_trace cX9_trace 1 (Option.some FieldType.int) 0 0 D ad [.ref (ad 40)] σ (ex (some (.int (σ 40 1))) σ) := by
  refine Ct.of2 [.ref (ad 40)] rfl (Nat.le_of_ble_eq_true rfl) rfl ?_
  rintro X C rfl rfl rfl hxn hR
  refine V_aload_n_0 (q := 1) C rfl dX9_trace_0 ?_
  refine gf_X9_227 (q := 4) C rfl dX9_trace_1 ?_
  refine V_iret C hR dX9_trace_4 ?_
  exact ⟨rfl, rfl⟩

set_option maxHeartbeats 4000000 in
set_option maxRecDepth 100000 in
theorem c_X9_fault_v {l : Launch} {D : DD} {ad : Nat → Nat} (σ : ST)  : Ct l yX9_fault cX9_fault 1 (Option.some FieldType.int) 0 0 D ad [.ref (ad 40)] σ (ex (some (.int (σ 40 0))) σ) := by
  refine Ct.of2 [.ref (ad 40)] rfl (Nat.le_of_ble_eq_true rfl) rfl ?_
  rintro X C rfl rfl rfl hxn hR
  refine V_aload_n_0 (q := 1) C rfl dX9_fault_0 ?_
  refine gf_X9_96 (q := 4) C rfl dX9_fault_1 ?_
  refine V_iret C hR dX9_fault_4 ?_
  exact ⟨rfl, rfl⟩

theorem sel4_if {w a0 a1 a2 a3 : Int32} : sel4 w a0 a1 a2 a3 = if w = 0 then a0 else if w = 1 then a1 else if w = 2 then a2 else if w = 3 then a3 else -2 := rfl

set_option maxHeartbeats 4000000 in
set_option maxRecDepth 100000 in
theorem c_X9_many_v {l : Launch} {D : DD} {ad : Nat → Nat} (σ : ST) (w : Int32)  : Ct l yX9_many cX9_many 2 (Option.some FieldType.int) 0 0 D ad [.ref (ad 40), .int w] σ (ex (some (.int (sel4 w (σ 40 5) (σ 40 6) (σ 40 24) (σ 40 33)))) σ) := by
  refine Ct.of2 [.ref (ad 40), .int w] rfl (Nat.le_of_ble_eq_true rfl) rfl ?_
  rintro X C rfl rfl rfl hxn hR
  refine V_iload_n_1 (q := 1) C rfl dX9_many_0 ?_
  refine V_if_ne (tgt := 11) C rfl (by decide) dX9_many_1 (fun c1 => ?_) (fun c1 => ?_)
  · refine V_iload_n_1 (q := 12) C rfl dX9_many_11 ?_
    refine V_iconst (q := 13) (v := 1) C rfl rfl dX9_many_12 ?_
    refine V_icmp_ne (tgt := 23) C rfl (by decide) dX9_many_13 (fun c13 => ?_) (fun c13 => ?_)
    · refine V_iload_n_1 (q := 24) C rfl dX9_many_23 ?_
      refine V_iconst (q := 25) (v := 2) C rfl rfl dX9_many_24 ?_
      refine V_icmp_ne (tgt := 35) C rfl (by decide) dX9_many_25 (fun c25 => ?_) (fun c25 => ?_)
      · refine V_iload_n_1 (q := 36) C rfl dX9_many_35 ?_
        refine V_iconst (q := 37) (v := 3) C rfl rfl dX9_many_36 ?_
        refine V_icmp_ne (tgt := 47) C rfl (by decide) dX9_many_37 (fun c37 => ?_) (fun c37 => ?_)
        · refine V_bipush (q := 49) (v := (-2)) C (by decide) rfl dX9_many_47 ?_
          refine V_iret C hR dX9_many_49 ?_
          exact ⟨by rw [sel4_if]; simp [c1, c13, c25, c37], rfl⟩
        · refine V_aload_n_0 (q := 41) C rfl dX9_many_40 ?_
          refine gf_X9_141 (q := 44) C rfl dX9_many_41 ?_
          refine V_goto (tgt := 49) C (by decide) dX9_many_44 ?_
          refine V_iret C hR dX9_many_49 ?_
          exact ⟨by rw [sel4_if]; simp [c1, c13, c25, c37], rfl⟩
      · refine V_aload_n_0 (q := 29) C rfl dX9_many_28 ?_
        refine gf_X9_138 (q := 32) C rfl dX9_many_29 ?_
        refine V_goto (tgt := 49) C (by decide) dX9_many_32 ?_
        refine V_iret C hR dX9_many_49 ?_
        exact ⟨by rw [sel4_if]; simp [c1, c13, c25], rfl⟩
    · refine V_aload_n_0 (q := 17) C rfl dX9_many_16 ?_
      refine gf_X9_108 (q := 20) C rfl dX9_many_17 ?_
      refine V_goto (tgt := 49) C (by decide) dX9_many_20 ?_
      refine V_iret C hR dX9_many_49 ?_
      exact ⟨by rw [sel4_if]; simp [c1, c13], rfl⟩
  · refine V_aload_n_0 (q := 5) C rfl dX9_many_4 ?_
    refine gf_X9_105 (q := 8) C rfl dX9_many_5 ?_
    refine V_goto (tgt := 49) C (by decide) dX9_many_8 ?_
    refine V_iret C hR dX9_many_49 ?_
    exact ⟨by rw [sel4_if]; simp [c1], rfl⟩

set_option maxHeartbeats 4000000 in
set_option maxRecDepth 100000 in
theorem c_X9_reading_u {l : Launch} {D : DD} {ad : Nat → Nat} (σ : ST) (P : Nat) (p d b : Int32) (hP : σ 40 6 = nI P) (h : ¬ (isT (nI P) p ∧ isT 30 d)) : Ct l yX9_reading cX9_reading 4 (Option.some FieldType.int) 2 42 D ad [.ref (ad 40), .int p, .int d, .int b] σ (ex (some (.int (-1))) σ) := by
  refine Ct.of2 [.ref (ad 40), .int p, .int d, .int b] rfl (Nat.le_of_ble_eq_true rfl) rfl ?_
  rintro X C rfl rfl rfl hxn hR
  refine V_aload_n_0 (q := 1) C rfl dX9_reading_0 ?_
  refine V_iload_n_1 (q := 2) C rfl dX9_reading_1 ?_
  refine V_cV1r (q := 5) C (Ct.mono (v' := some (.int (pI (isT (nI P) p)))) (c_X9_isPrisoner σ p) (by rw [show σ 40 6 = nI P from hP]) rfl) cw_X9_isPrisoner cv_X9_isPrisoner wm_X9_162 (by decide) ob_X9 ⟨by decide, by decide⟩ (Nat.le_of_ble_eq_true rfl) rfl dX9_reading_2 ?_
  refine V_ifp_eq (tgt := 15) C rfl (by decide) dX9_reading_5 (fun c5 => ?_) (fun c5 => ?_)
  · refine V_iconst (q := 16) (v := (-1)) C rfl rfl dX9_reading_15 ?_
    refine V_iret C hR dX9_reading_16 ?_
    exact ⟨rfl, rfl⟩
  · refine V_iload_n_2 (q := 9) C rfl dX9_reading_8 ?_
    refine V_cS1r (q := 12) C (c_X9_isDay _ _) cw_X9_isDay cs_X9_isDay wm_X9_165 ⟨by decide, by decide⟩ (Nat.le_of_ble_eq_true rfl) rfl dX9_reading_9 ?_
    refine V_ifp_ne (tgt := 17) C rfl (by decide) dX9_reading_12 (fun c12 => ?_) (fun c12 => ?_)
    · exact absurd ⟨c5, c12⟩ h
    · refine V_iconst (q := 16) (v := (-1)) C rfl rfl dX9_reading_15 ?_
      refine V_iret C hR dX9_reading_16 ?_
      exact ⟨rfl, rfl⟩

set_option maxHeartbeats 4000000 in
set_option maxRecDepth 100000 in
theorem c_X9_reading_f {l : Launch} {D : DD} {ad : Nat → Nat} (σ : ST) (P j d : Nat) (b : Int32) (hP : σ 40 6 = nI P) (hP6 : P ≤ 6) (hj : j < P) (hd : d < 30) (hC : σ 40 33 = nI 8) : Ct l yX9_reading cX9_reading 4 (Option.some FieldType.int) 2 42 D ad [.ref (ad 40), .int (nI j), .int (nI d), .int b] σ (ex (some (.int (-4))) σ) := by
  refine Ct.of2 [.ref (ad 40), .int (nI j), .int (nI d), .int b] rfl (Nat.le_of_ble_eq_true rfl) rfl ?_
  rintro X C rfl rfl rfl hxn hR
  refine V_aload_n_0 (q := 1) C rfl dX9_reading_0 ?_
  refine V_iload_n_1 (q := 2) C rfl dX9_reading_1 ?_
  refine V_cV1r (q := 5) C (Ct.mono (v' := some (.int (pI (isT (nI P) (nI j))))) (c_X9_isPrisoner σ (nI j)) (by rw [show σ 40 6 = nI P from hP]) rfl) cw_X9_isPrisoner cv_X9_isPrisoner wm_X9_162 (by decide) ob_X9 ⟨by decide, by decide⟩ (Nat.le_of_ble_eq_true rfl) rfl dX9_reading_2 ?_
  refine V_ifp_eq_f (tgt := 15) C (isT_nI hj (by omega)) rfl (by decide) dX9_reading_5 ?_
  refine V_iload_n_2 (q := 9) C rfl dX9_reading_8 ?_
  refine V_cS1r (q := 12) C (c_X9_isDay _ _) cw_X9_isDay cs_X9_isDay wm_X9_165 ⟨by decide, by decide⟩ (Nat.le_of_ble_eq_true rfl) rfl dX9_reading_9 ?_
  refine V_ifp_ne_t (tgt := 17) C (isT_nI (N := 30) hd (by decide)) (by decide) dX9_reading_12 ?_
  refine V_aload_n_0 (q := 18) C rfl dX9_reading_17 ?_
  refine gf_X9_141 (q := 21) C rfl dX9_reading_18 ?_
  refine V_bipush (q := 23) (v := 8) C (by decide) rfl dX9_reading_21 ?_
  refine V_icmp_ne_f (tgt := 29) C hC rfl (by decide) dX9_reading_23 ?_
  refine V_bipush (q := 28) (v := (-4)) C (by decide) rfl dX9_reading_26 ?_
  refine V_iret C hR dX9_reading_28 ?_
  exact ⟨rfl, rfl⟩

set_option maxHeartbeats 4000000 in
set_option maxRecDepth 100000 in
theorem c_X9_reading_v {l : Launch} {D : DD} {ad : Nat → Nat} (σ : ST) (P j d R2 : Nat) (b : Int32) (hP : σ 40 6 = nI P) (hP6 : P ≤ 6) (hj : j < P) (hd : d < 30) (hC : σ 40 33 = nI R2) (hC8 : R2 < 8) (hb : vp_nar .boolean b = b) : Ct l yX9_reading cX9_reading 4 (Option.some FieldType.int) 2 42 D ad [.ref (ad 40), .int (nI j), .int (nI d), .int b] σ (ex (some (.int (nI R2))) (setf (setf (setf (setf σ 65 R2 (nI j)) 66 R2 (nI d)) 67 R2 b) 40 33 (nI (R2 + 1)))) := by
  refine Ct.of2 [.ref (ad 40), .int (nI j), .int (nI d), .int b] rfl (Nat.le_of_ble_eq_true rfl) rfl ?_
  rintro X C rfl rfl rfl hxn hR
  refine V_aload_n_0 (q := 1) C rfl dX9_reading_0 ?_
  refine V_iload_n_1 (q := 2) C rfl dX9_reading_1 ?_
  refine V_cV1r (q := 5) C (Ct.mono (v' := some (.int (pI (isT (nI P) (nI j))))) (c_X9_isPrisoner σ (nI j)) (by rw [show σ 40 6 = nI P from hP]) rfl) cw_X9_isPrisoner cv_X9_isPrisoner wm_X9_162 (by decide) ob_X9 ⟨by decide, by decide⟩ (Nat.le_of_ble_eq_true rfl) rfl dX9_reading_2 ?_
  refine V_ifp_eq_f (tgt := 15) C (isT_nI hj (by omega)) rfl (by decide) dX9_reading_5 ?_
  refine V_iload_n_2 (q := 9) C rfl dX9_reading_8 ?_
  refine V_cS1r (q := 12) C (c_X9_isDay _ _) cw_X9_isDay cs_X9_isDay wm_X9_165 ⟨by decide, by decide⟩ (Nat.le_of_ble_eq_true rfl) rfl dX9_reading_9 ?_
  refine V_ifp_ne_t (tgt := 17) C (isT_nI (N := 30) hd (by decide)) (by decide) dX9_reading_12 ?_
  refine V_aload_n_0 (q := 18) C rfl dX9_reading_17 ?_
  refine gf_X9_141 (q := 21) C rfl dX9_reading_18 ?_
  refine V_bipush (q := 23) (v := 8) C (by decide) rfl dX9_reading_21 ?_
  refine V_icmp_ne_t (tgt := 29) C (by rw [hC]; intro h; have := (nI_eq (a := R2) (b := 8) (by omega) (by decide)).mp h; omega) (by decide) dX9_reading_23 ?_
  refine V_aload_n_0 (q := 30) C rfl dX9_reading_29 ?_
  refine gf_X9_87 (q := 33) C rfl dX9_reading_30 ?_
  refine V_aload_n_0 (q := 34) C rfl dX9_reading_33 ?_
  refine gf_X9_141 (q := 37) C rfl dX9_reading_34 ?_
  refine V_iload_n_1 (q := 38) C rfl dX9_reading_37 ?_
  refine V_iast (q := 39) C R2 hC (by show _ < 8; omega) rfl (by decide) (by decide) rfl dX9_reading_38 ?_
  refine V_aload_n_0 (q := 40) C rfl dX9_reading_39 ?_
  refine gf_X9_90 (q := 43) C rfl dX9_reading_40 ?_
  refine V_aload_n_0 (q := 44) C rfl dX9_reading_43 ?_
  refine gf_X9_141 (q := 47) C rfl dX9_reading_44 ?_
  refine V_iload_n_2 (q := 48) C rfl dX9_reading_47 ?_
  refine V_iast (q := 49) C R2 hC (by show _ < 8; omega) rfl (by decide) (by decide) rfl dX9_reading_48 ?_
  refine V_aload_n_0 (q := 50) C rfl dX9_reading_49 ?_
  refine gf_X9_93 (q := 53) C rfl dX9_reading_50 ?_
  refine V_aload_n_0 (q := 54) C rfl dX9_reading_53 ?_
  refine gf_X9_141 (q := 57) C rfl dX9_reading_54 ?_
  refine V_iload_n_3 (q := 58) C rfl dX9_reading_57 ?_
  refine V_zast (q := 59) C R2 hC (by show _ < 8; omega) hb rfl (by decide) (by decide) rfl dX9_reading_58 ?_
  refine V_aload_n_0 (q := 60) C rfl dX9_reading_59 ?_
  refine V_dup (q := 61) C rfl rfl dX9_reading_60 ?_
  refine gf_X9_141 (q := 64) C rfl dX9_reading_61 ?_
  refine V_iconst (q := 65) (v := 1) C rfl rfl dX9_reading_64 ?_
  refine V_iadd (q := 66) C rfl dX9_reading_65 ?_
  rw [show (setf (setf (setf σ 65 R2 (nI j)) 66 R2 (nI d)) 67 R2 b) 40 33 + 1 = nI (R2 + 1) from by show σ 40 33 + 1 = _; rw [hC]; exact nI_1 R2]
  refine pf_X9_141 (q := 69) C rfl dX9_reading_66 ?_
  refine V_aload_n_0 (q := 70) C rfl dX9_reading_69 ?_
  refine gf_X9_141 (q := 73) C rfl dX9_reading_70 ?_
  refine V_iconst (q := 74) (v := 1) C rfl rfl dX9_reading_73 ?_
  refine V_isub (q := 75) C rfl dX9_reading_74 ?_
  refine V_iret C hR dX9_reading_75 ?_
  exact ⟨by show some (Value.int (nI (R2 + 1) - 1)) = _; rw [show nI (R2 + 1) - 1 = nI (R2 + 1 - 1) from pk_sub (b := 1) (by omega)]; rfl, rfl⟩

