/-! THE LAW: its small methods, and its days -/
def wk : List Value → List Value → Prop
  | [], [] => True
  | a :: l, b :: m => (b = a ∨ isDead b = true) ∧ wk l m
  | _, _ => False
theorem wk_at : ∀ {l m : List Value}, wk l m → ∀ {i : Nat} {v : Value}, m[i]? = some v → isDead v = false → l[i]? = some v := by
  intro l
  induction l with
  | nil => intro m h i v hi _; cases m with
    | nil => exact hi
    | cons b m => exact h.elim
  | cons a l ih => intro m h i v hi hd; cases m with
    | nil => exact h.elim
    | cons b m =>
      cases i with
      | zero =>
        rcases h.1 with e | e
        · rw [← e]; exact hi
        · have : b = v := Option.some.inj hi
          rw [this] at e
          rw [e] at hd
          exact absurd hd (by decide)
      | succ i => exact ih h.2 hi hd
/-- what stands in a local may be forgotten -/
theorem V_wk {X : CT} {pc : Nat} {lv lv2 st : List Value} {σ : ST} (h : wk lv lv2) (k : V X pc lv2 st σ) : V X pc lv st σ := fun H locs ls hP hS hl => k H locs ls hP hS (LV.of hl fun i v hi hd => mem_al.mpr ⟨wk_at h hi hd, hd⟩)
def someL (x n : Int32) : Int32 := remI (x &&& 2147483647) n
theorem pos31 (x : Int32) : ∃ a : Nat, a < 2 ^ 31 ∧ x &&& 2147483647 = nI a := by
  refine ⟨(x &&& 2147483647).toBitVec.toNat, ?_, ?_⟩
  · rw [Int32.toBitVec_and, BitVec.toNat_and]
    exact Nat.lt_of_le_of_lt Nat.and_le_right (by decide)
  · rw [← Int32.toBitVec_inj]
    show _ = BitVec.ofNat 32 _
    rw [BitVec.ofNat_toNat, BitVec.setWidth_eq]
theorem some_nI {x n : Int32} (N : Nat) (h : n = nI N) (h0 : 0 < N) (hN : N < 2 ^ 31) : ∃ j : Nat, j < N ∧ someL x n = nI j := by
  obtain ⟨a, ha, e⟩ := pos31 x
  unfold someL remI
  rw [e, h, pk_rem ha h0 hN]
  exact ⟨a % N, Nat.mod_lt _ h0, rfl⟩
theorem ix2 (a c : Nat) : nI a + 2 * nI c = nI (a + 2 * c) := by
  rw [show (2 : Int32) * nI c = nI (2 * c) from pk_mul 2 c, nI_add]

set_option maxHeartbeats 4000000 in
set_option maxRecDepth 100000 in
theorem c_L_cell {l : Launch} {D : DD} {ad : Nat → Nat} (σ : ST) (j : Nat) (hsm : sN D < 2 ^ 31) (hj : j < 2 ^ 31) : Ct l yL_cell cL_cell 2 (Option.some FieldType.int) 0 0 D ad [.ref (sB D), .int (nI j)] σ (pq (fun _ τ => τ = σ)) := by
  refine Ct.of2 [.ref (sB D), .int (nI j)] rfl (Nat.le_of_ble_eq_true rfl) rfl ?_
  rintro X C rfl rfl rfl hxn hR
  refine V_iload_n_1 (q := 1) C rfl dL_cell_0 ?_
  refine V_aload_n_0 (q := 2) C rfl dL_cell_1 ?_
  refine V_slen (q := 3) C rfl dL_cell_2 ?_
  refine V_icmp_ge (tgt := 12) C rfl (by decide) dL_cell_3 (fun c3 => ?_) (fun c3 => ?_)
  · refine V_ldc (q := 14) C wc_L_7 rfl dL_cell_12 ?_
    refine V_iload_n_1 (q := 15) C rfl dL_cell_14 ?_
    refine V_iconst (q := 16) (v := 1) C rfl rfl dL_cell_15 ?_
    refine V_iadd (q := 17) C rfl dL_cell_16 ?_
    refine V_imul (q := 18) C rfl dL_cell_17 ?_
    refine V_iret C hR dL_cell_18 ?_
    exact ⟨_, rfl, rfl⟩
  · refine V_aload_n_0 (q := 7) C rfl dL_cell_6 ?_
    refine V_iload_n_1 (q := 8) C rfl dL_cell_7 ?_
    refine V_sld (q := 9) C hsm j rfl (by rcases Nat.lt_or_ge j (sN (xD X)) with h | h; exact h; exact absurd (nI_le h (by omega)) c3) rfl dL_cell_8 ?_
    refine V_goto (tgt := 18) C (by decide) dL_cell_9 ?_
    refine V_iret C hR dL_cell_18 ?_
    exact ⟨_, rfl, rfl⟩

set_option maxHeartbeats 4000000 in
set_option maxRecDepth 100000 in
theorem c_L_some {l : Launch} {D : DD} {ad : Nat → Nat} (σ : ST) (x n : Int32) (hn : ¬ n = 0) : Ct l yL_some cL_some 2 (Option.some FieldType.int) 0 0 D ad [.int x, .int n] σ (ex (some (.int (someL x n))) σ) := by
  refine Ct.of2 [.int x, .int n] rfl (Nat.le_of_ble_eq_true rfl) rfl ?_
  rintro X C rfl rfl rfl hxn hR
  refine V_iload_n_0 (q := 1) C rfl dL_some_0 ?_
  refine V_ldc (q := 3) C wc_L_8 rfl dL_some_1 ?_
  refine V_iand (q := 4) C rfl dL_some_3 ?_
  refine V_iload_n_1 (q := 5) C rfl dL_some_4 ?_
  refine V_irem (q := 6) C hn rfl dL_some_5 ?_
  refine V_iret C hR dL_some_6 ?_
  exact ⟨rfl, rfl⟩

theorem want_dec (n : Nat) (hn : n ≤ 9) : nI n + 0 = wantM 0 (nI n) ∧ nI n + 1 = wantM 1 (nI n) ∧ nI n + 1 + (nI n + 1) = wantM 2 (nI n) := by
  have hh : ∀ m : Fin 10, nI m.val + 0 = wantM 0 (nI m.val) ∧ nI m.val + 1 = wantM 1 (nI m.val) ∧ nI m.val + 1 + (nI m.val + 1) = wantM 2 (nI m.val) := by decide
  exact hh ⟨n, by omega⟩
set_option maxRecDepth 100000 in
theorem open_dec (k a l : Nat) (hk : k < 3) (ha : a < 6) (hl : l < 6) : bit (opM (nI k) (nI a)) (nI l) ↔ nI k = 2 ∨ nI a = nI l ∨ (nI k = 1 ∧ remI (nI a + 1) 6 = nI l) := by
  have hh : ∀ (k : Fin 3) (a l : Fin 6), bit (opM (nI k.val) (nI a.val)) (nI l.val) ↔ nI k.val = 2 ∨ nI a.val = nI l.val ∨ (nI k.val = 1 ∧ remI (nI a.val + 1) 6 = nI l.val) := by decide
  exact hh ⟨k, hk⟩ ⟨a, ha⟩ ⟨l, hl⟩
theorem k012 {x : Int32} (h : x = 0 ∨ x = 1 ∨ x = 2) : ∃ k : Nat, k < 3 ∧ x = nI k := by
  rcases h with rfl | rfl | rfl
  · exact ⟨0, by decide, rfl⟩
  · exact ⟨1, by decide, rfl⟩
  · exact ⟨2, by decide, rfl⟩

set_option maxHeartbeats 4000000 in
set_option maxRecDepth 100000 in
theorem c_L_wants {l : Launch} {D : DD} {ad : Nat → Nat} (σ : ST) (j n : Nat) (hj : j < 6) (hk : σ 40 (3 + j) = 0 ∨ σ 40 (3 + j) = 1 ∨ σ 40 (3 + j) = 2) (hn : n ≤ 9) (en : σ 40 (15 + j) = nI n) : Ct l yL_wants cL_wants 3 (Option.some FieldType.int) 0 0 D ad [.ref (ad 40), .int (nI j)] σ (ex (some (.int (wantM (σ 40 (3 + j)) (nI n)))) σ) := by
  refine Ct.of2 [.ref (ad 40), .int (nI j), .float 0] rfl (Nat.le_of_ble_eq_true rfl) rfl ?_
  rintro X C rfl rfl rfl hxn hR
  have hn2 : 2 < xn X := by rw [← hxn]; decide
  refine V_aload_n_0 (q := 1) C rfl dL_wants_0 ?_
  refine V_bipush (q := 3) (v := 15) C (by decide) rfl dL_wants_1 ?_
  refine V_iload_n_1 (q := 4) C rfl dL_wants_3 ?_
  refine V_iadd (q := 5) C rfl dL_wants_4 ?_
  refine V_ialde (q := 6) C (15 + j) (nI_add 15 j) (by show _ < 48; omega) en rfl (by decide) (by decide) rfl dL_wants_5 ?_
  refine V_aload_n_0 (q := 7) C rfl dL_wants_6 ?_
  refine V_iconst (q := 8) (v := 3) C rfl rfl dL_wants_7 ?_
  refine V_iload_n_1 (q := 9) C rfl dL_wants_8 ?_
  refine V_iadd (q := 10) C rfl dL_wants_9 ?_
  refine V_iald (q := 11) C (3 + j) (nI_add 3 j) (by show _ < 48; omega) rfl (by decide) (by decide) rfl dL_wants_10 ?_
  refine V_if_le (tgt := 18) C rfl (by decide) dL_wants_11 (fun c11 => ?_) (fun c11 => ?_)
  · refine V_iconst (q := 19) (v := 0) C rfl rfl dL_wants_18 ?_
    refine V_iadd (q := 20) C rfl dL_wants_19 ?_
    refine V_istore_n_2 (q := 21) C hn2 rfl rfl dL_wants_20 ?_
    refine V_aload_n_0 (q := 22) C rfl dL_wants_21 ?_
    refine V_iconst (q := 23) (v := 3) C rfl rfl dL_wants_22 ?_
    refine V_iload_n_1 (q := 24) C rfl dL_wants_23 ?_
    refine V_iadd (q := 25) C rfl dL_wants_24 ?_
    refine V_iald (q := 26) C (3 + j) (nI_add 3 j) (by show _ < 48; omega) rfl (by decide) (by decide) rfl dL_wants_25 ?_
    refine V_iconst (q := 27) (v := 2) C rfl rfl dL_wants_26 ?_
    refine V_icmp_ne (tgt := 36) C rfl (by decide) dL_wants_27 (fun c26 => ?_) (fun c26 => ?_)
    · refine V_iload_n_2 (q := 37) C rfl dL_wants_36 ?_
      refine V_iret C hR dL_wants_37 ?_
      refine ⟨congrArg (fun z => some (Value.int z)) ?_, rfl⟩
      obtain ⟨w0, w1, w2⟩ := want_dec n hn
      rcases hk with h | h | h <;> rw [h] at c11 c26 <;> rw [h] <;> first | exact w0 | exact w1 | exact w2 | exact absurd c11 (by decide) | exact absurd rfl c26 | exact absurd c26 (by decide)
    · refine V_iload_n_2 (q := 31) C rfl dL_wants_30 ?_
      refine V_iload_n_2 (q := 32) C rfl dL_wants_31 ?_
      refine V_iadd (q := 33) C rfl dL_wants_32 ?_
      refine V_goto (tgt := 37) C (by decide) dL_wants_33 ?_
      refine V_iret C hR dL_wants_37 ?_
      refine ⟨congrArg (fun z => some (Value.int z)) ?_, rfl⟩
      obtain ⟨w0, w1, w2⟩ := want_dec n hn
      rcases hk with h | h | h <;> rw [h] at c11 c26 <;> rw [h] <;> first | exact w0 | exact w1 | exact w2 | exact absurd c11 (by decide) | exact absurd rfl c26 | exact absurd c26 (by decide)
  · refine V_iconst (q := 15) (v := 1) C rfl rfl dL_wants_14 ?_
    refine V_goto (tgt := 19) C (by decide) dL_wants_15 ?_
    refine V_iadd (q := 20) C rfl dL_wants_19 ?_
    refine V_istore_n_2 (q := 21) C hn2 rfl rfl dL_wants_20 ?_
    refine V_aload_n_0 (q := 22) C rfl dL_wants_21 ?_
    refine V_iconst (q := 23) (v := 3) C rfl rfl dL_wants_22 ?_
    refine V_iload_n_1 (q := 24) C rfl dL_wants_23 ?_
    refine V_iadd (q := 25) C rfl dL_wants_24 ?_
    refine V_iald (q := 26) C (3 + j) (nI_add 3 j) (by show _ < 48; omega) rfl (by decide) (by decide) rfl dL_wants_25 ?_
    refine V_iconst (q := 27) (v := 2) C rfl rfl dL_wants_26 ?_
    refine V_icmp_ne (tgt := 36) C rfl (by decide) dL_wants_27 (fun c26 => ?_) (fun c26 => ?_)
    · refine V_iload_n_2 (q := 37) C rfl dL_wants_36 ?_
      refine V_iret C hR dL_wants_37 ?_
      refine ⟨congrArg (fun z => some (Value.int z)) ?_, rfl⟩
      obtain ⟨w0, w1, w2⟩ := want_dec n hn
      rcases hk with h | h | h <;> rw [h] at c11 c26 <;> rw [h] <;> first | exact w0 | exact w1 | exact w2 | exact absurd c11 (by decide) | exact absurd rfl c26 | exact absurd c26 (by decide)
    · refine V_iload_n_2 (q := 31) C rfl dL_wants_30 ?_
      refine V_iload_n_2 (q := 32) C rfl dL_wants_31 ?_
      refine V_iadd (q := 33) C rfl dL_wants_32 ?_
      refine V_goto (tgt := 37) C (by decide) dL_wants_33 ?_
      refine V_iret C hR dL_wants_37 ?_
      refine ⟨congrArg (fun z => some (Value.int z)) ?_, rfl⟩
      obtain ⟨w0, w1, w2⟩ := want_dec n hn
      rcases hk with h | h | h <;> rw [h] at c11 c26 <;> rw [h] <;> first | exact w0 | exact w1 | exact w2 | exact absurd c11 (by decide) | exact absurd rfl c26 | exact absurd c26 (by decide)

set_option maxHeartbeats 4000000 in
set_option maxRecDepth 100000 in
theorem c_L_opens {l : Launch} {D : DD} {ad : Nat → Nat} (σ : ST) (j k a b : Nat) (hj : j < 6) (hk : k < 3) (ek : σ 40 (3 + j) = nI k) (ha : a < 6) (ea : σ 40 (9 + j) = nI a) (hl : b < 6) : Ct l yL_opens cL_opens 3 (Option.some FieldType.boolean) 0 0 D ad [.ref (ad 40), .int (nI j), .int (nI b)] σ (ex (some (.int (pI (bit (opM (nI k) (nI a)) (nI b))))) σ) := by
  refine Ct.of2 [.ref (ad 40), .int (nI j), .int (nI b)] rfl (Nat.le_of_ble_eq_true rfl) rfl ?_
  rintro X C rfl rfl rfl hxn hR
  have hd := open_dec k a b hk ha hl
  refine V_aload_n_0 (q := 1) C rfl dL_opens_0 ?_
  refine V_iconst (q := 2) (v := 3) C rfl rfl dL_opens_1 ?_
  refine V_iload_n_1 (q := 3) C rfl dL_opens_2 ?_
  refine V_iadd (q := 4) C rfl dL_opens_3 ?_
  refine V_ialde (q := 5) C (3 + j) (nI_add 3 j) (by show _ < 48; omega) ek rfl (by decide) (by decide) rfl dL_opens_4 ?_
  refine V_iconst (q := 6) (v := 2) C rfl rfl dL_opens_5 ?_
  refine V_icmp_eq (tgt := 43) C rfl (by decide) dL_opens_6 (fun c6 => ?_) (fun c6 => ?_)
  · refine V_iconst (q := 44) (v := 1) C rfl rfl dL_opens_43 ?_
    refine V_goto (tgt := 48) C (by decide) dL_opens_44 ?_
    refine V_zret C hR rfl dL_opens_48 ?_
    exact ⟨by rw [pI_t (hd.mpr (Or.inl c6))], rfl⟩
  · refine V_aload_n_0 (q := 10) C rfl dL_opens_9 ?_
    refine V_bipush (q := 12) (v := 9) C (by decide) rfl dL_opens_10 ?_
    refine V_iload_n_1 (q := 13) C rfl dL_opens_12 ?_
    refine V_iadd (q := 14) C rfl dL_opens_13 ?_
    refine V_ialde (q := 15) C (9 + j) (nI_add 9 j) (by show _ < 48; omega) ea rfl (by decide) (by decide) rfl dL_opens_14 ?_
    refine V_iload_n_2 (q := 16) C rfl dL_opens_15 ?_
    refine V_icmp_eq (tgt := 43) C rfl (by decide) dL_opens_16 (fun c16 => ?_) (fun c16 => ?_)
    · refine V_iconst (q := 44) (v := 1) C rfl rfl dL_opens_43 ?_
      refine V_goto (tgt := 48) C (by decide) dL_opens_44 ?_
      refine V_zret C hR rfl dL_opens_48 ?_
      exact ⟨by rw [pI_t (hd.mpr (Or.inr (Or.inl c16)))], rfl⟩
    · refine V_aload_n_0 (q := 20) C rfl dL_opens_19 ?_
      refine V_iconst (q := 21) (v := 3) C rfl rfl dL_opens_20 ?_
      refine V_iload_n_1 (q := 22) C rfl dL_opens_21 ?_
      refine V_iadd (q := 23) C rfl dL_opens_22 ?_
      refine V_ialde (q := 24) C (3 + j) (nI_add 3 j) (by show _ < 48; omega) ek rfl (by decide) (by decide) rfl dL_opens_23 ?_
      refine V_iconst (q := 25) (v := 1) C rfl rfl dL_opens_24 ?_
      refine V_icmp_ne (tgt := 47) C rfl (by decide) dL_opens_25 (fun c25 => ?_) (fun c25 => ?_)
      · refine V_iconst (q := 48) (v := 0) C rfl rfl dL_opens_47 ?_
        refine V_zret C hR rfl dL_opens_48 ?_
        exact ⟨by rw [pI_f (fun h => (hd.mp h).elim c6 (fun h => h.elim c16 (fun h => c25 h.1)))], rfl⟩
      · refine V_aload_n_0 (q := 29) C rfl dL_opens_28 ?_
        refine V_bipush (q := 31) (v := 9) C (by decide) rfl dL_opens_29 ?_
        refine V_iload_n_1 (q := 32) C rfl dL_opens_31 ?_
        refine V_iadd (q := 33) C rfl dL_opens_32 ?_
        refine V_ialde (q := 34) C (9 + j) (nI_add 9 j) (by show _ < 48; omega) ea rfl (by decide) (by decide) rfl dL_opens_33 ?_
        refine V_iconst (q := 35) (v := 1) C rfl rfl dL_opens_34 ?_
        refine V_iadd (q := 36) C rfl dL_opens_35 ?_
        refine V_bipush (q := 38) (v := 6) C (by decide) rfl dL_opens_36 ?_
        refine V_irem (q := 39) C (by decide) rfl dL_opens_38 ?_
        refine V_iload_n_2 (q := 40) C rfl dL_opens_39 ?_
        refine V_icmp_ne (tgt := 47) C rfl (by decide) dL_opens_40 (fun c40 => ?_) (fun c40 => ?_)
        · refine V_iconst (q := 48) (v := 0) C rfl rfl dL_opens_47 ?_
          refine V_zret C hR rfl dL_opens_48 ?_
          exact ⟨by rw [pI_f (fun h => (hd.mp h).elim c6 (fun h => h.elim c16 (fun h => c40 h.2)))], rfl⟩
        · refine V_iconst (q := 44) (v := 1) C rfl rfl dL_opens_43 ?_
          refine V_goto (tgt := 48) C (by decide) dL_opens_44 ?_
          refine V_zret C hR rfl dL_opens_48 ?_
          exact ⟨by rw [pI_t (hd.mpr (Or.inr (Or.inr ⟨c25, c40⟩)))], rfl⟩

def r0 : Nat → Int32 := fun k => if k < 6 then 0 else -9
theorem r0_r {k : Nat} : r0 k = rOf mc0 k := by
  unfold r0 rOf
  by_cases h : k < 6
  · rw [if_pos h, if_pos h]; rfl
  · rw [if_neg h, if_neg h]
    by_cases h2 : k < 12
    · rw [if_pos h2]; rfl
    · rw [if_neg h2]; rfl

set_option maxHeartbeats 4000000 in
set_option maxRecDepth 100000 in
theorem c_L_go {l : Launch} {D : DD} {ad : Nat → Nat} (σ : ST) (T P C2 e : Nat) (hf : fl D = 1) (hG : LG σ T P) (hW : LW σ T) (hC0 : LC σ T C2) (he : e < 30) : Ct l yL_go cL_go 9 (Option.none : Option FieldType) 1 22 D ad [.ref (ad 40), .ref (ad 41), .ref (ad 42), .ref (ad 43), .int (nI e), .ref (ad 44)] σ (ex none (setc σ 44 (rOf (mDC (vM σ) T P C2 (e + 1))))) := by
  refine Ct.of2 [.ref (ad 40), .ref (ad 41), .ref (ad 42), .ref (ad 43), .int (nI e), .ref (ad 44), .float 0, .float 0, .float 0] rfl (Nat.le_of_ble_eq_true rfl) rfl ?_
  rintro X C rfl rfl rfl hxn hR
  have hn6 : 6 < xn X := by rw [← hxn]; decide
  have hn7 : 7 < xn X := by rw [← hxn]; decide
  have hn8 : 8 < xn X := by rw [← hxn]; decide
  obtain ⟨⟨hT0, hT6, hP0, hP6⟩, ⟨-, -, hT, hP⟩, hTr0, hPr0, -⟩ := hG
  obtain ⟨hC6, -, hC, hCr0⟩ := hC0
  have hTr : ∀ t, t < T → (σ 40 (3 + t) = 0 ∨ σ 40 (3 + t) = 1 ∨ σ 40 (3 + t) = 2) ∧ ∃ n : Nat, n ≤ 9 ∧ σ 40 (15 + t) = nI n := fun t ht => ⟨(hTr0 t ht).2.1, by obtain ⟨n, -, h9, en⟩ := (hTr0 t ht).2.2.2; exact ⟨n, h9, en⟩⟩
  have hLk : ∀ t, t < T → ∃ l : Nat, l < 6 ∧ σ 40 (9 + t) = nI l := fun t ht => (hTr0 t ht).2.2.1
  have hPr : ∀ p, p < P → ∃ l : Nat, l < 6 ∧ σ 40 (22 + p) = nI l := fun p hp => (hPr0 p hp).2.2.1
  have hCr : ∀ c, c < C2 → ∃ t : Nat, t < T ∧ σ 40 (35 + 2 * c) = nI t := fun c hc => (hCr0 c hc).2.2.2
  have hWt : ∀ d, d < 30 → σ 42 d = -9 ∨ ∃ t : Nat, t < T ∧ σ 42 d = nI t := fun d hd => (hW.2 d hd).2.2.2.1
  refine V_iconst (q := 1) (v := (nI 0)) C rfl rfl dL_go_0 ?_
  refine V_istore_6 (q := 3) C hn6 rfl rfl dL_go_1 ?_
  have hx3 : V X 3 [.ref (xad X 40), .ref (xad X 41), .ref (xad X 42), .ref (xad X 43), .int (nI e), .ref (xad X 44), .int (nI 18), .float 0, .float 0] [] (setc σ 44 (pre 18 r0 (σ 44))) := by
    refine V_iload_6 (q := 5) C rfl dL_go_3 ?_
    refine V_bipush (q := 7) (v := 18) C (by decide) rfl dL_go_5 ?_
    refine V_icmp_ge_t (tgt := 34) C (by decide) (by decide) dL_go_7 ?_
    refine V_arr_congr (k := 44) (g := rOf mc0) (Or.inl rfl) (fun i hi => (pre_lt (i := 18) (t := i) hi).trans r0_r) ?_
    refine V_iconst (q := 35) (v := (nI 0)) C rfl rfl dL_go_34 ?_
    refine V_istore_6 (q := 37) C hn6 rfl rfl dL_go_35 ?_
    have hx37 : V X 37 [.ref (xad X 40), .ref (xad X 41), .ref (xad X 42), .ref (xad X 43), .int (nI e), .ref (xad X 44), .int (nI ((e + 1))), .float 0, .float 0] [] (setc σ 44 (rOf (mDays (vM σ) T P C2 ((e + 1)) mc0))) := by
      refine V_iload_6 (q := 39) C rfl dL_go_37 ?_
      refine V_iload_4 (q := 41) C rfl dL_go_39 ?_
      refine V_icmp_gt_t (tgt := 346) C (nI_lt (by omega) (by omega)) (by decide) dL_go_41 ?_
      refine V_vret C hR dL_go_346 ?_
      exact ⟨rfl, rfl⟩
    have hs37 : ∀ d : Nat, d < (e + 1) → (V X 37 [.ref (xad X 40), .ref (xad X 41), .ref (xad X 42), .ref (xad X 43), .int (nI e), .ref (xad X 44), .int (nI (d + 1)), .float 0, .float 0] [] (setc σ 44 (rOf (mDays (vM σ) T P C2 (d + 1) mc0)))) → V X 37 [.ref (xad X 40), .ref (xad X 41), .ref (xad X 42), .ref (xad X 43), .int (nI e), .ref (xad X 44), .int (nI d), .float 0, .float 0] [] (setc σ 44 (rOf (mDays (vM σ) T P C2 d mc0))) := by
      intro d hi37 ih37
      have hd : d < 30 := by omega
      have hok := mDays_ok (μ := vM σ) (T := T) (P := P) (C := C2) d (by omega)
      refine V_iload_6 (q := 39) C rfl dL_go_37 ?_
      refine V_iload_4 (q := 41) C rfl dL_go_39 ?_
      refine V_icmp_gt_f (tgt := 346) C (nI_nlt (by omega) (by omega)) rfl (by decide) dL_go_41 ?_
      refine V_iconst (q := 45) (v := (nI 0)) C rfl rfl dL_go_44 ?_
      refine V_istore_7 (q := 47) C hn7 rfl rfl dL_go_45 ?_
      have hx47 : V X 47 [.ref (xad X 40), .ref (xad X 41), .ref (xad X 42), .ref (xad X 43), .int (nI e), .ref (xad X 44), .int (nI d), .int (nI T), .float 0] [] (setc σ 44 (rOf (gwA (vM σ) d T (mDays (vM σ) T P C2 d mc0)))) := by
        refine V_iload_7 (q := 49) C rfl dL_go_47 ?_
        refine V_aload_n_0 (q := 50) C rfl dL_go_49 ?_
        refine V_iconst (q := 51) (v := 0) C rfl rfl dL_go_50 ?_
        refine V_ialde (q := 52) C 0 rfl (by show _ < 48; omega) hT rfl (by decide) (by decide) rfl dL_go_51 ?_
        refine V_icmp_ge_t (tgt := 95) C (nI_le (Nat.le_refl _) (by omega)) (by decide) dL_go_52 ?_
        refine V_eq (τ := setc σ 44 (rOf (md1 (vM σ) T d (mDays (vM σ) T P C2 d mc0)))) (congrArg (fun z => setc σ 44 (rOf z)) (gwA_T hT6 (hWt d hd))) ?_
        refine V_iconst (q := 96) (v := (nI 0)) C rfl rfl dL_go_95 ?_
        refine V_istore_7 (q := 98) C hn7 rfl rfl dL_go_96 ?_
        have hx98 : V X 98 [.ref (xad X 40), .ref (xad X 41), .ref (xad X 42), .ref (xad X 43), .int (nI e), .ref (xad X 44), .int (nI d), .int (nI C2), .float 0] [] (setc σ 44 (rOf (crM (vM σ) d C2 (md1 (vM σ) T d (mDays (vM σ) T P C2 d mc0)).1, (md1 (vM σ) T d (mDays (vM σ) T P C2 d mc0)).2))) := by
          refine V_iload_7 (q := 100) C rfl dL_go_98 ?_
          refine V_aload_n_0 (q := 101) C rfl dL_go_100 ?_
          refine V_iconst (q := 102) (v := 2) C rfl rfl dL_go_101 ?_
          refine V_ialde (q := 103) C 2 rfl (by show _ < 48; omega) hC rfl (by decide) (by decide) rfl dL_go_102 ?_
          refine V_icmp_ge_t (tgt := 167) C (nI_le (Nat.le_refl _) (by omega)) (by decide) dL_go_103 ?_
          refine V_iconst (q := 168) (v := (nI 0)) C rfl rfl dL_go_167 ?_
          refine V_istore_7 (q := 170) C hn7 rfl rfl dL_go_168 ?_
          have hx170 : V X 170 [.ref (xad X 40), .ref (xad X 41), .ref (xad X 42), .ref (xad X 43), .int (nI e), .ref (xad X 44), .int (nI d), .int (nI T), .float 0] [] (setc σ 44 (rOf (kyM (vM σ) P d T (md2 (vM σ) C2 d (md1 (vM σ) T d (mDays (vM σ) T P C2 d mc0)))))) := by
            refine V_iload_7 (q := 172) C rfl dL_go_170 ?_
            refine V_aload_n_0 (q := 173) C rfl dL_go_172 ?_
            refine V_iconst (q := 174) (v := 0) C rfl rfl dL_go_173 ?_
            refine V_ialde (q := 175) C 0 rfl (by show _ < 48; omega) hT rfl (by decide) (by decide) rfl dL_go_174 ?_
            refine V_icmp_ge_t (tgt := 290) C (nI_le (Nat.le_refl _) (by omega)) (by decide) dL_go_175 ?_
            have hokT : OkM P (kyM (vM σ) P d T (md2 (vM σ) C2 d (md1 (vM σ) T d (mDays (vM σ) T P C2 d mc0)))) := kyM_ok hd (show OkM P (md2 (vM σ) C2 d (md1 (vM σ) T d (mDays (vM σ) T P C2 d mc0))) from hok) T
            refine V_iconst (q := 291) (v := (nI 0)) C rfl rfl dL_go_290 ?_
            refine V_istore_7 (q := 293) C hn7 rfl rfl dL_go_291 ?_
            have hx293 : V X 293 [.ref (xad X 40), .ref (xad X 41), .ref (xad X 42), .ref (xad X 43), .int (nI e), .ref (xad X 44), .int (nI d), .int (nI P), .float 0] [] (setc σ 44 (rOf ((kyM (vM σ) P d T (md2 (vM σ) C2 d (md1 (vM σ) T d (mDays (vM σ) T P C2 d mc0)))).1, pre P (tmM (vM σ) d (kyM (vM σ) P d T (md2 (vM σ) C2 d (md1 (vM σ) T d (mDays (vM σ) T P C2 d mc0)))).2.1) (kyM (vM σ) P d T (md2 (vM σ) C2 d (md1 (vM σ) T d (mDays (vM σ) T P C2 d mc0)))).2.1, (kyM (vM σ) P d T (md2 (vM σ) C2 d (md1 (vM σ) T d (mDays (vM σ) T P C2 d mc0)))).2.2))) := by
              refine V_iload_7 (q := 295) C rfl dL_go_293 ?_
              refine V_aload_n_0 (q := 296) C rfl dL_go_295 ?_
              refine V_iconst (q := 297) (v := 1) C rfl rfl dL_go_296 ?_
              refine V_ialde (q := 298) C 1 rfl (by show _ < 48; omega) hP rfl (by decide) (by decide) rfl dL_go_297 ?_
              refine V_icmp_ge_t (tgt := 340) C (nI_le (Nat.le_refl _) (by omega)) (by decide) dL_go_298 ?_
              refine V_iinc_6 (q := 343) (n := 1) C nI_inc hn6 rfl rfl dL_go_340 ?_
              refine V_goto (tgt := 37) C (by decide) dL_go_343 ?_
              refine V_wk (lv2 := [.ref (xad X 40), .ref (xad X 41), .ref (xad X 42), .ref (xad X 43), .int (nI e), .ref (xad X 44), .int (nI (d + 1)), .float 0, .float 0]) ⟨Or.inl rfl, ⟨Or.inl rfl, ⟨Or.inl rfl, ⟨Or.inl rfl, ⟨Or.inl rfl, ⟨Or.inl rfl, ⟨Or.inl rfl, ⟨Or.inr rfl, ⟨Or.inr rfl, trivial⟩⟩⟩⟩⟩⟩⟩⟩⟩ ?_
              exact V_eq rfl ih37
            have hs293 : ∀ p : Nat, p < P → (V X 293 [.ref (xad X 40), .ref (xad X 41), .ref (xad X 42), .ref (xad X 43), .int (nI e), .ref (xad X 44), .int (nI d), .int (nI (p + 1)), .float 0] [] (setc σ 44 (rOf ((kyM (vM σ) P d T (md2 (vM σ) C2 d (md1 (vM σ) T d (mDays (vM σ) T P C2 d mc0)))).1, pre (p + 1) (tmM (vM σ) d (kyM (vM σ) P d T (md2 (vM σ) C2 d (md1 (vM σ) T d (mDays (vM σ) T P C2 d mc0)))).2.1) (kyM (vM σ) P d T (md2 (vM σ) C2 d (md1 (vM σ) T d (mDays (vM σ) T P C2 d mc0)))).2.1, (kyM (vM σ) P d T (md2 (vM σ) C2 d (md1 (vM σ) T d (mDays (vM σ) T P C2 d mc0)))).2.2)))) → V X 293 [.ref (xad X 40), .ref (xad X 41), .ref (xad X 42), .ref (xad X 43), .int (nI e), .ref (xad X 44), .int (nI d), .int (nI p), .float 0] [] (setc σ 44 (rOf ((kyM (vM σ) P d T (md2 (vM σ) C2 d (md1 (vM σ) T d (mDays (vM σ) T P C2 d mc0)))).1, pre p (tmM (vM σ) d (kyM (vM σ) P d T (md2 (vM σ) C2 d (md1 (vM σ) T d (mDays (vM σ) T P C2 d mc0)))).2.1) (kyM (vM σ) P d T (md2 (vM σ) C2 d (md1 (vM σ) T d (mDays (vM σ) T P C2 d mc0)))).2.1, (kyM (vM σ) P d T (md2 (vM σ) C2 d (md1 (vM σ) T d (mDays (vM σ) T P C2 d mc0)))).2.2))) := by
              intro p hi293 ih293
              have hp6 : p < 6 := by omega
              refine V_iload_7 (q := 295) C rfl dL_go_293 ?_
              refine V_aload_n_0 (q := 296) C rfl dL_go_295 ?_
              refine V_iconst (q := 297) (v := 1) C rfl rfl dL_go_296 ?_
              refine V_ialde (q := 298) C 1 rfl (by show _ < 48; omega) hP rfl (by decide) (by decide) rfl dL_go_297 ?_
              refine V_icmp_ge_f (tgt := 340) C (nI_ge hi293 (by omega)) rfl (by decide) dL_go_298 ?_
              refine V_aload_5 (q := 303) C rfl dL_go_301 ?_
              refine V_bipush (q := 305) (v := 6) C (by decide) rfl dL_go_303 ?_
              refine V_iload_7 (q := 307) C rfl dL_go_305 ?_
              refine V_iadd (q := 308) C rfl dL_go_307 ?_
              refine V_ialdRe (q := 309) (v := (kyM (vM σ) P d T (md2 (vM σ) C2 d (md1 (vM σ) T d (mDays (vM σ) T P C2 d mc0)))).2.1 p) C (6 + p) (nI_add 6 p) (by show _ < 18; omega) ((rOf_o hp6).trans (pre_ge (Nat.lt_irrefl p))) hf rfl dL_go_308 ?_
              refine V_if_ge (tgt := 334) C rfl (by decide) dL_go_309 (fun c309 => ?_) (fun c309 => ?_)
              · refine V_iinc_7 (q := 337) (n := 1) C nI_inc hn7 rfl rfl dL_go_334 ?_
                refine V_goto (tgt := 293) C (by decide) dL_go_337 ?_
                first
                | (refine V_eq ?_ ih293; rw [pre_keep (i := p) (show tmM (vM σ) d (kyM (vM σ) P d T (md2 (vM σ) C2 d (md1 (vM σ) T d (mDays (vM σ) T P C2 d mc0)))).2.1 p = (kyM (vM σ) P d T (md2 (vM σ) C2 d (md1 (vM σ) T d (mDays (vM σ) T P C2 d mc0)))).2.1 p from if_neg (fun h => by rw [h.1] at c309; exact absurd c309 (by decide)))]; done)
                | (refine V_eq ?_ ih293; rw [pre_keep (i := p) (show tmM (vM σ) d (kyM (vM σ) P d T (md2 (vM σ) C2 d (md1 (vM σ) T d (mDays (vM σ) T P C2 d mc0)))).2.1 p = (kyM (vM σ) P d T (md2 (vM σ) C2 d (md1 (vM σ) T d (mDays (vM σ) T P C2 d mc0)))).2.1 p from if_neg (fun h => c321 h.2))]; done)
                | (refine V_eq (rset_o hp6 ?_) ih293; rw [pre_step (show nI d = tmM (vM σ) d (kyM (vM σ) P d T (md2 (vM σ) C2 d (md1 (vM σ) T d (mDays (vM σ) T P C2 d mc0)))).2.1 p from (if_pos ⟨(hokT p hi293).resolve_right (fun ⟨x, hx, e⟩ => c309 (by rw [e]; exact nI_pos' (by omega))), c321⟩).symm)]; done)
              · refine V_aload_n_0 (q := 313) C rfl dL_go_312 ?_
                refine V_bipush (q := 315) (v := 28) C (by decide) rfl dL_go_313 ?_
                refine V_iload_7 (q := 317) C rfl dL_go_315 ?_
                refine V_iadd (q := 318) C rfl dL_go_317 ?_
                refine V_ialde (q := 319) (v := (vM σ) 49 p) C (28 + p) (nI_add 28 p) (by show _ < 48; omega) rfl rfl (by decide) (by decide) rfl dL_go_318 ?_
                refine V_iload_6 (q := 321) C rfl dL_go_319 ?_
                refine V_icmp_ne (tgt := 334) C rfl (by decide) dL_go_321 (fun c321 => ?_) (fun c321 => ?_)
                · refine V_iinc_7 (q := 337) (n := 1) C nI_inc hn7 rfl rfl dL_go_334 ?_
                  refine V_goto (tgt := 293) C (by decide) dL_go_337 ?_
                  first
                  | (refine V_eq ?_ ih293; rw [pre_keep (i := p) (show tmM (vM σ) d (kyM (vM σ) P d T (md2 (vM σ) C2 d (md1 (vM σ) T d (mDays (vM σ) T P C2 d mc0)))).2.1 p = (kyM (vM σ) P d T (md2 (vM σ) C2 d (md1 (vM σ) T d (mDays (vM σ) T P C2 d mc0)))).2.1 p from if_neg (fun h => by rw [h.1] at c309; exact absurd c309 (by decide)))]; done)
                  | (refine V_eq ?_ ih293; rw [pre_keep (i := p) (show tmM (vM σ) d (kyM (vM σ) P d T (md2 (vM σ) C2 d (md1 (vM σ) T d (mDays (vM σ) T P C2 d mc0)))).2.1 p = (kyM (vM σ) P d T (md2 (vM σ) C2 d (md1 (vM σ) T d (mDays (vM σ) T P C2 d mc0)))).2.1 p from if_neg (fun h => c321 h.2))]; done)
                  | (refine V_eq (rset_o hp6 ?_) ih293; rw [pre_step (show nI d = tmM (vM σ) d (kyM (vM σ) P d T (md2 (vM σ) C2 d (md1 (vM σ) T d (mDays (vM σ) T P C2 d mc0)))).2.1 p from (if_pos ⟨(hokT p hi293).resolve_right (fun ⟨x, hx, e⟩ => c309 (by rw [e]; exact nI_pos' (by omega))), c321⟩).symm)]; done)
                · refine V_aload_5 (q := 326) C rfl dL_go_324 ?_
                  refine V_bipush (q := 328) (v := 6) C (by decide) rfl dL_go_326 ?_
                  refine V_iload_7 (q := 330) C rfl dL_go_328 ?_
                  refine V_iadd (q := 331) C rfl dL_go_330 ?_
                  refine V_iload_6 (q := 333) C rfl dL_go_331 ?_
                  refine V_iastR (q := 334) C (6 + p) (nI_add 6 p) (by show _ < 18; omega) hf rfl dL_go_333 ?_
                  refine V_iinc_7 (q := 337) (n := 1) C nI_inc hn7 rfl rfl dL_go_334 ?_
                  refine V_goto (tgt := 293) C (by decide) dL_go_337 ?_
                  first
                  | (refine V_eq ?_ ih293; rw [pre_keep (i := p) (show tmM (vM σ) d (kyM (vM σ) P d T (md2 (vM σ) C2 d (md1 (vM σ) T d (mDays (vM σ) T P C2 d mc0)))).2.1 p = (kyM (vM σ) P d T (md2 (vM σ) C2 d (md1 (vM σ) T d (mDays (vM σ) T P C2 d mc0)))).2.1 p from if_neg (fun h => by rw [h.1] at c309; exact absurd c309 (by decide)))]; done)
                  | (refine V_eq ?_ ih293; rw [pre_keep (i := p) (show tmM (vM σ) d (kyM (vM σ) P d T (md2 (vM σ) C2 d (md1 (vM σ) T d (mDays (vM σ) T P C2 d mc0)))).2.1 p = (kyM (vM σ) P d T (md2 (vM σ) C2 d (md1 (vM σ) T d (mDays (vM σ) T P C2 d mc0)))).2.1 p from if_neg (fun h => c321 h.2))]; done)
                  | (refine V_eq (rset_o hp6 ?_) ih293; rw [pre_step (show nI d = tmM (vM σ) d (kyM (vM σ) P d T (md2 (vM σ) C2 d (md1 (vM σ) T d (mDays (vM σ) T P C2 d mc0)))).2.1 p from (if_pos ⟨(hokT p hi293).resolve_right (fun ⟨x, hx, e⟩ => c309 (by rw [e]; exact nI_pos' (by omega))), c321⟩).symm)]; done)
            exact V_eq (by rw [pre_0]) (loopN (P := fun p => V X 293 [.ref (xad X 40), .ref (xad X 41), .ref (xad X 42), .ref (xad X 43), .int (nI e), .ref (xad X 44), .int (nI d), .int (nI p), .float 0] [] (setc σ 44 (rOf ((kyM (vM σ) P d T (md2 (vM σ) C2 d (md1 (vM σ) T d (mDays (vM σ) T P C2 d mc0)))).1, pre p (tmM (vM σ) d (kyM (vM σ) P d T (md2 (vM σ) C2 d (md1 (vM σ) T d (mDays (vM σ) T P C2 d mc0)))).2.1) (kyM (vM σ) P d T (md2 (vM σ) C2 d (md1 (vM σ) T d (mDays (vM σ) T P C2 d mc0)))).2.1, (kyM (vM σ) P d T (md2 (vM σ) C2 d (md1 (vM σ) T d (mDays (vM σ) T P C2 d mc0)))).2.2)))) (P) hx293 hs293 0 (Nat.zero_le _))
          have hs170 : ∀ t : Nat, t < T → (V X 170 [.ref (xad X 40), .ref (xad X 41), .ref (xad X 42), .ref (xad X 43), .int (nI e), .ref (xad X 44), .int (nI d), .int (nI (t + 1)), .float 0] [] (setc σ 44 (rOf (kyM (vM σ) P d (t + 1) (md2 (vM σ) C2 d (md1 (vM σ) T d (mDays (vM σ) T P C2 d mc0))))))) → V X 170 [.ref (xad X 40), .ref (xad X 41), .ref (xad X 42), .ref (xad X 43), .int (nI e), .ref (xad X 44), .int (nI d), .int (nI t), .float 0] [] (setc σ 44 (rOf (kyM (vM σ) P d t (md2 (vM σ) C2 d (md1 (vM σ) T d (mDays (vM σ) T P C2 d mc0)))))) := by
            intro t hi170 ih170
            obtain ⟨hk, n, hn, en⟩ := hTr t hi170
            obtain ⟨kk, hkk, ek⟩ := k012 hk
            obtain ⟨la, hla, ea⟩ := hLk t hi170
            have ew : wantM ((vM σ) 44 t) ((vM σ) 46 t) = wantM (σ 40 (3 + t)) (nI n) := congrArg (wantM _) en
            have hokt : OkM P (kyM (vM σ) P d t (md2 (vM σ) C2 d (md1 (vM σ) T d (mDays (vM σ) T P C2 d mc0)))) := kyM_ok hd (show OkM P (md2 (vM σ) C2 d (md1 (vM σ) T d (mDays (vM σ) T P C2 d mc0))) from hok) t
            have h47 : ¬ (vM σ) 47 t = 1 → (vM σ) 47 t = 0 := fun h => (and1_01 (x := σ 40 21 >>> (nI t &&& 31))).resolve_right h
            refine V_iload_7 (q := 172) C rfl dL_go_170 ?_
            refine V_aload_n_0 (q := 173) C rfl dL_go_172 ?_
            refine V_iconst (q := 174) (v := 0) C rfl rfl dL_go_173 ?_
            refine V_ialde (q := 175) C 0 rfl (by show _ < 48; omega) hT rfl (by decide) (by decide) rfl dL_go_174 ?_
            refine V_icmp_ge_f (tgt := 290) C (nI_ge hi170 (by omega)) rfl (by decide) dL_go_175 ?_
            refine V_aload_n_0 (q := 179) C rfl dL_go_178 ?_
            refine V_bipush (q := 181) (v := 21) C (by decide) rfl dL_go_179 ?_
            refine V_iald (q := 182) C 21 rfl (by show _ < 48; omega) rfl (by decide) (by decide) rfl dL_go_181 ?_
            refine V_iload_7 (q := 184) C rfl dL_go_182 ?_
            refine V_ishr (q := 185) C rfl dL_go_184 ?_
            refine V_iconst (q := 186) (v := 1) C rfl rfl dL_go_185 ?_
            refine V_iand (q := 187) C rfl dL_go_186 ?_
            refine V_iconst (q := 188) (v := 1) C rfl rfl dL_go_187 ?_
            show V X 188 _ (.int 1 :: .int ((vM σ) 47 t) :: []) _
            refine V_icmp_eq (tgt := 284) C rfl (by decide) dL_go_188 (fun c188 => ?_) (fun c188 => ?_)
            · refine V_iinc_7 (q := 287) (n := 1) C nI_inc hn7 rfl rfl dL_go_284 ?_
              refine V_goto (tgt := 170) C (by decide) dL_go_287 ?_
              refine V_wk (lv2 := [.ref (xad X 40), .ref (xad X 41), .ref (xad X 42), .ref (xad X 43), .int (nI e), .ref (xad X 44), .int (nI d), .int (nI (t + 1)), .float 0]) ⟨Or.inl rfl, ⟨Or.inl rfl, ⟨Or.inl rfl, ⟨Or.inl rfl, ⟨Or.inl rfl, ⟨Or.inl rfl, ⟨Or.inl rfl, ⟨Or.inl rfl, ⟨Or.inr rfl, trivial⟩⟩⟩⟩⟩⟩⟩⟩⟩ ?_
              first
              | (refine V_eq ?_ ih170; rw [kyM_s, if_neg (fun h => by rw [h.1] at c188; exact absurd c188 (by decide))]; done)
              | (refine V_eq ?_ ih170; rw [kyM_s, ew, if_neg (fun h => c202 h.2)]; done)
              | (refine V_eq ?_ ih170; rw [kyM_s, ew, if_pos ⟨h47 c188, c202⟩]; unfold ukM; rw [hv211, Nat.sub_self]; rfl)
              | (refine V_eq ((congrArg (fun z => setf (setf z 44 (12 + p) (nI t)) 44 t 0) (rset_o hp6 rfl)).trans ((congrArg (fun z => setf z 44 t 0) (rset_b rfl)).trans (rset_w (by omega) ?_))) ih170; rw [kyM_s, ew, if_pos ⟨h47 c188, c202⟩]; unfold ukM; rw [hff, if_pos hq]; done)
            · refine V_aload_5 (q := 193) C rfl dL_go_191 ?_
              refine V_iload_7 (q := 195) C rfl dL_go_193 ?_
              refine V_ialdRe (q := 196) (v := (kyM (vM σ) P d t (md2 (vM σ) C2 d (md1 (vM σ) T d (mDays (vM σ) T P C2 d mc0)))).1 t) C t rfl (by show _ < 18; omega) (rOf_w (by omega)) hf rfl dL_go_195 ?_
              refine V_aload_n_0 (q := 197) C rfl dL_go_196 ?_
              refine V_iload_7 (q := 199) C rfl dL_go_197 ?_
              refine V_cS2r (q := 202) C (c_L_wants _ t n (by omega) hk hn en) cw_L_wants cs_L_wants wm_L_48 ⟨by decide, by decide⟩ (Nat.le_of_ble_eq_true rfl) rfl dL_go_199 ?_
              refine V_icmp_ge (tgt := 208) C rfl (by decide) dL_go_202 (fun c202 => ?_) (fun c202 => ?_)
              · refine V_iconst (q := 209) (v := (nI 0)) C rfl rfl dL_go_208 ?_
                refine V_istore_8 (q := 211) C hn8 rfl rfl dL_go_209 ?_
                have hx211 : (fst? (ukQ (vM σ) t (kyM (vM σ) P d t (md2 (vM σ) C2 d (md1 (vM σ) T d (mDays (vM σ) T P C2 d mc0)))).2.1) P 0 = fst? (ukQ (vM σ) t (kyM (vM σ) P d t (md2 (vM σ) C2 d (md1 (vM σ) T d (mDays (vM σ) T P C2 d mc0)))).2.1) (P - P) P) → V X 211 [.ref (xad X 40), .ref (xad X 41), .ref (xad X 42), .ref (xad X 43), .int (nI e), .ref (xad X 44), .int (nI d), .int (nI t), .int (nI P)] [] (setc σ 44 (rOf (kyM (vM σ) P d t (md2 (vM σ) C2 d (md1 (vM σ) T d (mDays (vM σ) T P C2 d mc0)))))) := by
                  intro hv211
                  refine V_iload_8 (q := 213) C rfl dL_go_211 ?_
                  refine V_aload_n_0 (q := 214) C rfl dL_go_213 ?_
                  refine V_iconst (q := 215) (v := 1) C rfl rfl dL_go_214 ?_
                  refine V_ialde (q := 216) C 1 rfl (by show _ < 48; omega) hP rfl (by decide) (by decide) rfl dL_go_215 ?_
                  refine V_icmp_ge_t (tgt := 284) C (nI_le (Nat.le_refl _) (by omega)) (by decide) dL_go_216 ?_
                  refine V_iinc_7 (q := 287) (n := 1) C nI_inc hn7 rfl rfl dL_go_284 ?_
                  refine V_goto (tgt := 170) C (by decide) dL_go_287 ?_
                  refine V_wk (lv2 := [.ref (xad X 40), .ref (xad X 41), .ref (xad X 42), .ref (xad X 43), .int (nI e), .ref (xad X 44), .int (nI d), .int (nI (t + 1)), .float 0]) ⟨Or.inl rfl, ⟨Or.inl rfl, ⟨Or.inl rfl, ⟨Or.inl rfl, ⟨Or.inl rfl, ⟨Or.inl rfl, ⟨Or.inl rfl, ⟨Or.inl rfl, ⟨Or.inr rfl, trivial⟩⟩⟩⟩⟩⟩⟩⟩⟩ ?_
                  first
                  | (refine V_eq ?_ ih170; rw [kyM_s, if_neg (fun h => by rw [h.1] at c188; exact absurd c188 (by decide))]; done)
                  | (refine V_eq ?_ ih170; rw [kyM_s, ew, if_neg (fun h => c202 h.2)]; done)
                  | (refine V_eq ?_ ih170; rw [kyM_s, ew, if_pos ⟨h47 c188, c202⟩]; unfold ukM; rw [hv211, Nat.sub_self]; rfl)
                  | (refine V_eq ((congrArg (fun z => setf (setf z 44 (12 + p) (nI t)) 44 t 0) (rset_o hp6 rfl)).trans ((congrArg (fun z => setf z 44 t 0) (rset_b rfl)).trans (rset_w (by omega) ?_))) ih170; rw [kyM_s, ew, if_pos ⟨h47 c188, c202⟩]; unfold ukM; rw [hff, if_pos hq]; done)
                have hs211 : ∀ p : Nat, p < P → ((fst? (ukQ (vM σ) t (kyM (vM σ) P d t (md2 (vM σ) C2 d (md1 (vM σ) T d (mDays (vM σ) T P C2 d mc0)))).2.1) P 0 = fst? (ukQ (vM σ) t (kyM (vM σ) P d t (md2 (vM σ) C2 d (md1 (vM σ) T d (mDays (vM σ) T P C2 d mc0)))).2.1) (P - (p + 1)) (p + 1)) → V X 211 [.ref (xad X 40), .ref (xad X 41), .ref (xad X 42), .ref (xad X 43), .int (nI e), .ref (xad X 44), .int (nI d), .int (nI t), .int (nI (p + 1))] [] (setc σ 44 (rOf (kyM (vM σ) P d t (md2 (vM σ) C2 d (md1 (vM σ) T d (mDays (vM σ) T P C2 d mc0))))))) → (fst? (ukQ (vM σ) t (kyM (vM σ) P d t (md2 (vM σ) C2 d (md1 (vM σ) T d (mDays (vM σ) T P C2 d mc0)))).2.1) P 0 = fst? (ukQ (vM σ) t (kyM (vM σ) P d t (md2 (vM σ) C2 d (md1 (vM σ) T d (mDays (vM σ) T P C2 d mc0)))).2.1) (P - p) p) → V X 211 [.ref (xad X 40), .ref (xad X 41), .ref (xad X 42), .ref (xad X 43), .int (nI e), .ref (xad X 44), .int (nI d), .int (nI t), .int (nI p)] [] (setc σ 44 (rOf (kyM (vM σ) P d t (md2 (vM σ) C2 d (md1 (vM σ) T d (mDays (vM σ) T P C2 d mc0)))))) := by
                  intro p hi211 ih211 hv211
                  have hp6 : p < 6 := by omega
                  obtain ⟨l, hl, el⟩ := hPr p hi211
                  have hff : fst? (ukQ (vM σ) t (kyM (vM σ) P d t (md2 (vM σ) C2 d (md1 (vM σ) T d (mDays (vM σ) T P C2 d mc0)))).2.1) P 0 = if ukQ (vM σ) t (kyM (vM σ) P d t (md2 (vM σ) C2 d (md1 (vM σ) T d (mDays (vM σ) T P C2 d mc0)))).2.1 p then some p else fst? (ukQ (vM σ) t (kyM (vM σ) P d t (md2 (vM σ) C2 d (md1 (vM σ) T d (mDays (vM σ) T P C2 d mc0)))).2.1) (P - (p + 1)) (p + 1) := by rw [hv211, show P - p = (P - (p + 1)) + 1 by omega]; rfl
                  have hop : (opM ((vM σ) 44 t) ((vM σ) 45 t) >>> ((vM σ) 48 p &&& 31)) &&& 1 = 1 ↔ bit (opM (nI kk) (nI la)) (nI l) := by
                    rw [show (vM σ) 44 t = nI kk from ek, show (vM σ) 45 t = nI la from ea, show (vM σ) 48 p = nI l from el]
                    exact bit_1
                  refine V_iload_8 (q := 213) C rfl dL_go_211 ?_
                  refine V_aload_n_0 (q := 214) C rfl dL_go_213 ?_
                  refine V_iconst (q := 215) (v := 1) C rfl rfl dL_go_214 ?_
                  refine V_ialde (q := 216) C 1 rfl (by show _ < 48; omega) hP rfl (by decide) (by decide) rfl dL_go_215 ?_
                  refine V_icmp_ge_f (tgt := 284) C (nI_ge hi211 (by omega)) rfl (by decide) dL_go_216 ?_
                  refine V_aload_5 (q := 221) C rfl dL_go_219 ?_
                  refine V_bipush (q := 223) (v := 6) C (by decide) rfl dL_go_221 ?_
                  refine V_iload_8 (q := 225) C rfl dL_go_223 ?_
                  refine V_iadd (q := 226) C rfl dL_go_225 ?_
                  refine V_ialdRe (q := 227) (v := (kyM (vM σ) P d t (md2 (vM σ) C2 d (md1 (vM σ) T d (mDays (vM σ) T P C2 d mc0)))).2.1 p) C (6 + p) (nI_add 6 p) (by show _ < 18; omega) (rOf_o hp6) hf rfl dL_go_226 ?_
                  refine V_if_ge (tgt := 278) C rfl (by decide) dL_go_227 (fun c227 => ?_) (fun c227 => ?_)
                  · refine V_iinc_8 (q := 281) (n := 1) C nI_inc hn8 rfl rfl dL_go_278 ?_
                    refine V_goto (tgt := 211) C (by decide) dL_go_281 ?_
                    first
                    | exact V_eq rfl (ih211 (by rw [hff, if_neg (fun h => by rw [h.1] at c227; exact absurd c227 (by decide))]))
                    | exact V_eq rfl (ih211 (by rw [hff, if_neg (fun h => c243 (hop.mp h.2))]))
                  · refine V_aload_n_0 (q := 231) C rfl dL_go_230 ?_
                    refine V_iload_7 (q := 233) C rfl dL_go_231 ?_
                    refine V_aload_n_0 (q := 234) C rfl dL_go_233 ?_
                    refine V_bipush (q := 236) (v := 22) C (by decide) rfl dL_go_234 ?_
                    refine V_iload_8 (q := 238) C rfl dL_go_236 ?_
                    refine V_iadd (q := 239) C rfl dL_go_238 ?_
                    refine V_ialde (q := 240) C (22 + p) (nI_add 22 p) (by show _ < 48; omega) el rfl (by decide) (by decide) rfl dL_go_239 ?_
                    refine V_cS3r (q := 243) C (c_L_opens _ t kk la l (by omega) hkk ek hla ea hl) cw_L_opens cs_L_opens wm_L_51 ⟨by decide, by decide⟩ (Nat.le_of_ble_eq_true rfl) rfl dL_go_240 ?_
                    refine V_ifp_ne (tgt := 249) C rfl (by decide) dL_go_243 (fun c243 => ?_) (fun c243 => ?_)
                    · have hq : ukQ (vM σ) t (kyM (vM σ) P d t (md2 (vM σ) C2 d (md1 (vM σ) T d (mDays (vM σ) T P C2 d mc0)))).2.1 p := ⟨(hokt p hi211).resolve_right (fun ⟨x, hx, e⟩ => c227 (by rw [e]; exact nI_pos' (by omega))), hop.mpr c243⟩
                      refine V_aload_5 (q := 251) C rfl dL_go_249 ?_
                      refine V_bipush (q := 253) (v := 6) C (by decide) rfl dL_go_251 ?_
                      refine V_iload_8 (q := 255) C rfl dL_go_253 ?_
                      refine V_iadd (q := 256) C rfl dL_go_255 ?_
                      refine V_iload_6 (q := 258) C rfl dL_go_256 ?_
                      refine V_iastR (q := 259) C (6 + p) (nI_add 6 p) (by show _ < 18; omega) hf rfl dL_go_258 ?_
                      refine V_aload_5 (q := 261) C rfl dL_go_259 ?_
                      refine V_bipush (q := 263) (v := 12) C (by decide) rfl dL_go_261 ?_
                      refine V_iload_8 (q := 265) C rfl dL_go_263 ?_
                      refine V_iadd (q := 266) C rfl dL_go_265 ?_
                      refine V_iload_7 (q := 268) C rfl dL_go_266 ?_
                      refine V_iastR (q := 269) C (12 + p) (nI_add 12 p) (by show _ < 18; omega) hf rfl dL_go_268 ?_
                      refine V_aload_5 (q := 271) C rfl dL_go_269 ?_
                      refine V_iload_7 (q := 273) C rfl dL_go_271 ?_
                      refine V_iconst (q := 274) (v := 0) C rfl rfl dL_go_273 ?_
                      refine V_iastR (q := 275) C t rfl (by show _ < 18; omega) hf rfl dL_go_274 ?_
                      refine V_goto (tgt := 284) C (by decide) dL_go_275 ?_
                      refine V_iinc_7 (q := 287) (n := 1) C nI_inc hn7 rfl rfl dL_go_284 ?_
                      refine V_goto (tgt := 170) C (by decide) dL_go_287 ?_
                      refine V_wk (lv2 := [.ref (xad X 40), .ref (xad X 41), .ref (xad X 42), .ref (xad X 43), .int (nI e), .ref (xad X 44), .int (nI d), .int (nI (t + 1)), .float 0]) ⟨Or.inl rfl, ⟨Or.inl rfl, ⟨Or.inl rfl, ⟨Or.inl rfl, ⟨Or.inl rfl, ⟨Or.inl rfl, ⟨Or.inl rfl, ⟨Or.inl rfl, ⟨Or.inr rfl, trivial⟩⟩⟩⟩⟩⟩⟩⟩⟩ ?_
                      first
                      | (refine V_eq ?_ ih170; rw [kyM_s, if_neg (fun h => by rw [h.1] at c188; exact absurd c188 (by decide))]; done)
                      | (refine V_eq ?_ ih170; rw [kyM_s, ew, if_neg (fun h => c202 h.2)]; done)
                      | (refine V_eq ?_ ih170; rw [kyM_s, ew, if_pos ⟨h47 c188, c202⟩]; unfold ukM; rw [hv211, Nat.sub_self]; rfl)
                      | (refine V_eq ((congrArg (fun z => setf (setf z 44 (12 + p) (nI t)) 44 t 0) (rset_o hp6 rfl)).trans ((congrArg (fun z => setf z 44 t 0) (rset_b rfl)).trans (rset_w (by omega) ?_))) ih170; rw [kyM_s, ew, if_pos ⟨h47 c188, c202⟩]; unfold ukM; rw [hff, if_pos hq]; done)
                    · refine V_goto (tgt := 278) C (by decide) dL_go_246 ?_
                      refine V_iinc_8 (q := 281) (n := 1) C nI_inc hn8 rfl rfl dL_go_278 ?_
                      refine V_goto (tgt := 211) C (by decide) dL_go_281 ?_
                      first
                      | exact V_eq rfl (ih211 (by rw [hff, if_neg (fun h => by rw [h.1] at c227; exact absurd c227 (by decide))]))
                      | exact V_eq rfl (ih211 (by rw [hff, if_neg (fun h => c243 (hop.mp h.2))]))
                exact V_eq (rfl) (loopN (P := fun p => (fst? (ukQ (vM σ) t (kyM (vM σ) P d t (md2 (vM σ) C2 d (md1 (vM σ) T d (mDays (vM σ) T P C2 d mc0)))).2.1) P 0 = fst? (ukQ (vM σ) t (kyM (vM σ) P d t (md2 (vM σ) C2 d (md1 (vM σ) T d (mDays (vM σ) T P C2 d mc0)))).2.1) (P - p) p) → V X 211 [.ref (xad X 40), .ref (xad X 41), .ref (xad X 42), .ref (xad X 43), .int (nI e), .ref (xad X 44), .int (nI d), .int (nI t), .int (nI p)] [] (setc σ 44 (rOf (kyM (vM σ) P d t (md2 (vM σ) C2 d (md1 (vM σ) T d (mDays (vM σ) T P C2 d mc0))))))) (P) hx211 hs211 0 (Nat.zero_le _) (rfl))
              · refine V_goto (tgt := 284) C (by decide) dL_go_205 ?_
                refine V_iinc_7 (q := 287) (n := 1) C nI_inc hn7 rfl rfl dL_go_284 ?_
                refine V_goto (tgt := 170) C (by decide) dL_go_287 ?_
                refine V_wk (lv2 := [.ref (xad X 40), .ref (xad X 41), .ref (xad X 42), .ref (xad X 43), .int (nI e), .ref (xad X 44), .int (nI d), .int (nI (t + 1)), .float 0]) ⟨Or.inl rfl, ⟨Or.inl rfl, ⟨Or.inl rfl, ⟨Or.inl rfl, ⟨Or.inl rfl, ⟨Or.inl rfl, ⟨Or.inl rfl, ⟨Or.inl rfl, ⟨Or.inr rfl, trivial⟩⟩⟩⟩⟩⟩⟩⟩⟩ ?_
                first
                | (refine V_eq ?_ ih170; rw [kyM_s, if_neg (fun h => by rw [h.1] at c188; exact absurd c188 (by decide))]; done)
                | (refine V_eq ?_ ih170; rw [kyM_s, ew, if_neg (fun h => c202 h.2)]; done)
                | (refine V_eq ?_ ih170; rw [kyM_s, ew, if_pos ⟨h47 c188, c202⟩]; unfold ukM; rw [hv211, Nat.sub_self]; rfl)
                | (refine V_eq ((congrArg (fun z => setf (setf z 44 (12 + p) (nI t)) 44 t 0) (rset_o hp6 rfl)).trans ((congrArg (fun z => setf z 44 t 0) (rset_b rfl)).trans (rset_w (by omega) ?_))) ih170; rw [kyM_s, ew, if_pos ⟨h47 c188, c202⟩]; unfold ukM; rw [hff, if_pos hq]; done)
          exact V_eq (rfl) (loopN (P := fun t => V X 170 [.ref (xad X 40), .ref (xad X 41), .ref (xad X 42), .ref (xad X 43), .int (nI e), .ref (xad X 44), .int (nI d), .int (nI t), .float 0] [] (setc σ 44 (rOf (kyM (vM σ) P d t (md2 (vM σ) C2 d (md1 (vM σ) T d (mDays (vM σ) T P C2 d mc0))))))) (T) hx170 hs170 0 (Nat.zero_le _))
        have hs98 : ∀ c : Nat, c < C2 → (V X 98 [.ref (xad X 40), .ref (xad X 41), .ref (xad X 42), .ref (xad X 43), .int (nI e), .ref (xad X 44), .int (nI d), .int (nI (c + 1)), .float 0] [] (setc σ 44 (rOf (crM (vM σ) d (c + 1) (md1 (vM σ) T d (mDays (vM σ) T P C2 d mc0)).1, (md1 (vM σ) T d (mDays (vM σ) T P C2 d mc0)).2)))) → V X 98 [.ref (xad X 40), .ref (xad X 41), .ref (xad X 42), .ref (xad X 43), .int (nI e), .ref (xad X 44), .int (nI d), .int (nI c), .float 0] [] (setc σ 44 (rOf (crM (vM σ) d c (md1 (vM σ) T d (mDays (vM σ) T P C2 d mc0)).1, (md1 (vM σ) T d (mDays (vM σ) T P C2 d mc0)).2))) := by
          intro c hi98 ih98
          obtain ⟨x, hx, ex⟩ := hCr c hi98
          obtain ⟨hk, n, hn, en⟩ := hTr x hx
          have ew : wantM ((vM σ) 44 x) ((vM σ) 46 x) = wantM (σ 40 (3 + x)) (nI n) := congrArg (wantM _) en
          refine V_iload_7 (q := 100) C rfl dL_go_98 ?_
          refine V_aload_n_0 (q := 101) C rfl dL_go_100 ?_
          refine V_iconst (q := 102) (v := 2) C rfl rfl dL_go_101 ?_
          refine V_ialde (q := 103) C 2 rfl (by show _ < 48; omega) hC rfl (by decide) (by decide) rfl dL_go_102 ?_
          refine V_icmp_ge_f (tgt := 167) C (nI_ge hi98 (by omega)) rfl (by decide) dL_go_103 ?_
          refine V_aload_n_0 (q := 107) C rfl dL_go_106 ?_
          refine V_bipush (q := 109) (v := 34) C (by decide) rfl dL_go_107 ?_
          refine V_iconst (q := 110) (v := 2) C rfl rfl dL_go_109 ?_
          refine V_iload_7 (q := 112) C rfl dL_go_110 ?_
          refine V_imul (q := 113) C rfl dL_go_112 ?_
          refine V_iadd (q := 114) C rfl dL_go_113 ?_
          refine V_ialde (q := 115) (v := (vM σ) 58 c) C (34 + 2 * c) (ix2 34 c) (by show _ < 48; omega) rfl rfl (by decide) (by decide) rfl dL_go_114 ?_
          refine V_iload_6 (q := 117) C rfl dL_go_115 ?_
          refine V_icmp_ne (tgt := 161) C rfl (by decide) dL_go_117 (fun c117 => ?_) (fun c117 => ?_)
          · refine V_iinc_7 (q := 164) (n := 1) C nI_inc hn7 rfl rfl dL_go_161 ?_
            refine V_goto (tgt := 98) C (by decide) dL_go_164 ?_
            first
            | (refine V_eq ?_ ih98; rw [crM_s, if_neg (fun h => c117 h.1)]; done)
            | (refine V_eq ?_ ih98; rw [crM_s, show (vM σ) 59 c = nI x from ex, nI_clamp (by omega), ew, if_neg (fun h => Int32.not_le.mpr c145 h.2)]; done)
            | (refine V_eq (rset_w (m2 := (crM (vM σ) d (c + 1) (md1 (vM σ) T d (mDays (vM σ) T P C2 d mc0)).1, (md1 (vM σ) T d (mDays (vM σ) T P C2 d mc0)).2)) (by omega) ?_) ih98; rw [crM_s, show (vM σ) 59 c = nI x from ex, nI_clamp (by omega), ew, if_pos ⟨c117, Int32.not_lt.mp c145⟩]; done)
          · refine V_aload_5 (q := 122) C rfl dL_go_120 ?_
            refine V_aload_n_0 (q := 123) C rfl dL_go_122 ?_
            refine V_bipush (q := 125) (v := 35) C (by decide) rfl dL_go_123 ?_
            refine V_iconst (q := 126) (v := 2) C rfl rfl dL_go_125 ?_
            refine V_iload_7 (q := 128) C rfl dL_go_126 ?_
            refine V_imul (q := 129) C rfl dL_go_128 ?_
            refine V_iadd (q := 130) C rfl dL_go_129 ?_
            refine V_ialde (q := 131) C (35 + 2 * c) (ix2 35 c) (by show _ < 48; omega) ex rfl (by decide) (by decide) rfl dL_go_130 ?_
            refine V_ialdRe (q := 132) (v := crM (vM σ) d c (md1 (vM σ) T d (mDays (vM σ) T P C2 d mc0)).1 x) C x rfl (by show _ < 18; omega) (rOf_w (by omega)) hf rfl dL_go_131 ?_
            refine V_aload_n_0 (q := 133) C rfl dL_go_132 ?_
            refine V_aload_n_0 (q := 134) C rfl dL_go_133 ?_
            refine V_bipush (q := 136) (v := 35) C (by decide) rfl dL_go_134 ?_
            refine V_iconst (q := 137) (v := 2) C rfl rfl dL_go_136 ?_
            refine V_iload_7 (q := 139) C rfl dL_go_137 ?_
            refine V_imul (q := 140) C rfl dL_go_139 ?_
            refine V_iadd (q := 141) C rfl dL_go_140 ?_
            refine V_ialde (q := 142) C (35 + 2 * c) (ix2 35 c) (by show _ < 48; omega) ex rfl (by decide) (by decide) rfl dL_go_141 ?_
            refine V_cS2r (q := 145) C (c_L_wants _ x n (by omega) hk hn en) cw_L_wants cs_L_wants wm_L_48 ⟨by decide, by decide⟩ (Nat.le_of_ble_eq_true rfl) rfl dL_go_142 ?_
            refine V_icmp_lt (tgt := 161) C rfl (by decide) dL_go_145 (fun c145 => ?_) (fun c145 => ?_)
            · refine V_iinc_7 (q := 164) (n := 1) C nI_inc hn7 rfl rfl dL_go_161 ?_
              refine V_goto (tgt := 98) C (by decide) dL_go_164 ?_
              first
              | (refine V_eq ?_ ih98; rw [crM_s, if_neg (fun h => c117 h.1)]; done)
              | (refine V_eq ?_ ih98; rw [crM_s, show (vM σ) 59 c = nI x from ex, nI_clamp (by omega), ew, if_neg (fun h => Int32.not_le.mpr c145 h.2)]; done)
              | (refine V_eq (rset_w (m2 := (crM (vM σ) d (c + 1) (md1 (vM σ) T d (mDays (vM σ) T P C2 d mc0)).1, (md1 (vM σ) T d (mDays (vM σ) T P C2 d mc0)).2)) (by omega) ?_) ih98; rw [crM_s, show (vM σ) 59 c = nI x from ex, nI_clamp (by omega), ew, if_pos ⟨c117, Int32.not_lt.mp c145⟩]; done)
            · refine V_aload_5 (q := 150) C rfl dL_go_148 ?_
              refine V_aload_n_0 (q := 151) C rfl dL_go_150 ?_
              refine V_bipush (q := 153) (v := 35) C (by decide) rfl dL_go_151 ?_
              refine V_iconst (q := 154) (v := 2) C rfl rfl dL_go_153 ?_
              refine V_iload_7 (q := 156) C rfl dL_go_154 ?_
              refine V_imul (q := 157) C rfl dL_go_156 ?_
              refine V_iadd (q := 158) C rfl dL_go_157 ?_
              refine V_ialde (q := 159) C (35 + 2 * c) (ix2 35 c) (by show _ < 48; omega) ex rfl (by decide) (by decide) rfl dL_go_158 ?_
              refine V_iconst (q := 160) (v := 0) C rfl rfl dL_go_159 ?_
              refine V_iastR (q := 161) C x rfl (by show _ < 18; omega) hf rfl dL_go_160 ?_
              refine V_iinc_7 (q := 164) (n := 1) C nI_inc hn7 rfl rfl dL_go_161 ?_
              refine V_goto (tgt := 98) C (by decide) dL_go_164 ?_
              first
              | (refine V_eq ?_ ih98; rw [crM_s, if_neg (fun h => c117 h.1)]; done)
              | (refine V_eq ?_ ih98; rw [crM_s, show (vM σ) 59 c = nI x from ex, nI_clamp (by omega), ew, if_neg (fun h => Int32.not_le.mpr c145 h.2)]; done)
              | (refine V_eq (rset_w (m2 := (crM (vM σ) d (c + 1) (md1 (vM σ) T d (mDays (vM σ) T P C2 d mc0)).1, (md1 (vM σ) T d (mDays (vM σ) T P C2 d mc0)).2)) (by omega) ?_) ih98; rw [crM_s, show (vM σ) 59 c = nI x from ex, nI_clamp (by omega), ew, if_pos ⟨c117, Int32.not_lt.mp c145⟩]; done)
        exact V_eq (rfl) (loopN (P := fun c => V X 98 [.ref (xad X 40), .ref (xad X 41), .ref (xad X 42), .ref (xad X 43), .int (nI e), .ref (xad X 44), .int (nI d), .int (nI c), .float 0] [] (setc σ 44 (rOf (crM (vM σ) d c (md1 (vM σ) T d (mDays (vM σ) T P C2 d mc0)).1, (md1 (vM σ) T d (mDays (vM σ) T P C2 d mc0)).2)))) (C2) hx98 hs98 0 (Nat.zero_le _))
      have hs47 : ∀ t : Nat, t < T → (V X 47 [.ref (xad X 40), .ref (xad X 41), .ref (xad X 42), .ref (xad X 43), .int (nI e), .ref (xad X 44), .int (nI d), .int (nI (t + 1)), .float 0] [] (setc σ 44 (rOf (gwA (vM σ) d (t + 1) (mDays (vM σ) T P C2 d mc0))))) → V X 47 [.ref (xad X 40), .ref (xad X 41), .ref (xad X 42), .ref (xad X 43), .int (nI e), .ref (xad X 44), .int (nI d), .int (nI t), .float 0] [] (setc σ 44 (rOf (gwA (vM σ) d t (mDays (vM σ) T P C2 d mc0)))) := by
        intro t hi47 ih47
        refine V_iload_7 (q := 49) C rfl dL_go_47 ?_
        refine V_aload_n_0 (q := 50) C rfl dL_go_49 ?_
        refine V_iconst (q := 51) (v := 0) C rfl rfl dL_go_50 ?_
        refine V_ialde (q := 52) C 0 rfl (by show _ < 48; omega) hT rfl (by decide) (by decide) rfl dL_go_51 ?_
        refine V_icmp_ge_f (tgt := 95) C (nI_ge hi47 (by omega)) rfl (by decide) dL_go_52 ?_
        refine V_aload_n_3 (q := 56) C rfl dL_go_55 ?_
        refine V_iload_6 (q := 58) C rfl dL_go_56 ?_
        refine V_ialde (q := 59) (v := (vM σ) 52 d) C d rfl (by show _ < 30; omega) rfl rfl (by decide) (by decide) rfl dL_go_58 ?_
        refine V_if_ne (tgt := 89) C rfl (by decide) dL_go_59 (fun c59 => ?_) (fun c59 => ?_)
        · refine V_iinc_7 (q := 92) (n := 1) C nI_inc hn7 rfl rfl dL_go_89 ?_
          refine V_goto (tgt := 47) C (by decide) dL_go_92 ?_
          first
          | (refine V_eq ?_ ih47; rw [gwA_n (j := t + 1) c59]; done)
          | (refine V_eq ?_ ih47; exact rset_w (by omega) (gwA_y (by omega) c59 (if_pos c78).symm))
          | (refine V_eq ?_ ih47; exact rset_w (by omega) (gwA_y (by omega) c59 (if_neg c78).symm))
        · refine V_aload_5 (q := 64) C rfl dL_go_62 ?_
          refine V_iload_7 (q := 66) C rfl dL_go_64 ?_
          refine V_dup2 (q := 67) C rfl rfl rfl dL_go_66 ?_
          refine V_ialdR (q := 68) C t rfl (by show _ < 18; omega) hf rfl dL_go_67 ?_
          refine V_aload_n_1 (q := 69) C rfl dL_go_68 ?_
          refine V_iload_6 (q := 71) C rfl dL_go_69 ?_
          refine V_ialde (q := 72) (v := (vM σ) 50 d) C d rfl (by show _ < 30; omega) rfl rfl (by decide) (by decide) rfl dL_go_71 ?_
          refine V_aload_n_2 (q := 73) C rfl dL_go_72 ?_
          refine V_iload_6 (q := 75) C rfl dL_go_73 ?_
          refine V_ialde (q := 76) (v := (vM σ) 51 d) C d rfl (by show _ < 30; omega) rfl rfl (by decide) (by decide) rfl dL_go_75 ?_
          refine V_iload_7 (q := 78) C rfl dL_go_76 ?_
          refine V_icmp_ne (tgt := 85) C rfl (by decide) dL_go_78 (fun c78 => ?_) (fun c78 => ?_)
          · refine V_iconst (q := 86) (v := 0) C rfl rfl dL_go_85 ?_
            refine V_iadd (q := 87) C rfl dL_go_86 ?_
            refine V_iadd (q := 88) C rfl dL_go_87 ?_
            refine V_iastR (q := 89) C t rfl (by show _ < 18; omega) hf rfl dL_go_88 ?_
            refine V_iinc_7 (q := 92) (n := 1) C nI_inc hn7 rfl rfl dL_go_89 ?_
            refine V_goto (tgt := 47) C (by decide) dL_go_92 ?_
            first
            | (refine V_eq ?_ ih47; rw [gwA_n (j := t + 1) c59]; done)
            | (refine V_eq ?_ ih47; exact rset_w (by omega) (gwA_y (by omega) c59 (if_pos c78).symm))
            | (refine V_eq ?_ ih47; exact rset_w (by omega) (gwA_y (by omega) c59 (if_neg c78).symm))
          · refine V_iconst (q := 82) (v := 3) C rfl rfl dL_go_81 ?_
            refine V_goto (tgt := 86) C (by decide) dL_go_82 ?_
            refine V_iadd (q := 87) C rfl dL_go_86 ?_
            refine V_iadd (q := 88) C rfl dL_go_87 ?_
            refine V_iastR (q := 89) C t rfl (by show _ < 18; omega) hf rfl dL_go_88 ?_
            refine V_iinc_7 (q := 92) (n := 1) C nI_inc hn7 rfl rfl dL_go_89 ?_
            refine V_goto (tgt := 47) C (by decide) dL_go_92 ?_
            first
            | (refine V_eq ?_ ih47; rw [gwA_n (j := t + 1) c59]; done)
            | (refine V_eq ?_ ih47; exact rset_w (by omega) (gwA_y (by omega) c59 (if_pos c78).symm))
            | (refine V_eq ?_ ih47; exact rset_w (by omega) (gwA_y (by omega) c59 (if_neg c78).symm))
      exact V_eq (by rw [gwA_0]) (loopN (P := fun t => V X 47 [.ref (xad X 40), .ref (xad X 41), .ref (xad X 42), .ref (xad X 43), .int (nI e), .ref (xad X 44), .int (nI d), .int (nI t), .float 0] [] (setc σ 44 (rOf (gwA (vM σ) d t (mDays (vM σ) T P C2 d mc0))))) (T) hx47 hs47 0 (Nat.zero_le _))
    exact V_eq (rfl) (loopN (P := fun d => V X 37 [.ref (xad X 40), .ref (xad X 41), .ref (xad X 42), .ref (xad X 43), .int (nI e), .ref (xad X 44), .int (nI d), .float 0, .float 0] [] (setc σ 44 (rOf (mDays (vM σ) T P C2 d mc0)))) ((e + 1)) hx37 hs37 0 (Nat.zero_le _))
  have hs3 : ∀ k : Nat, k < 18 → (V X 3 [.ref (xad X 40), .ref (xad X 41), .ref (xad X 42), .ref (xad X 43), .int (nI e), .ref (xad X 44), .int (nI (k + 1)), .float 0, .float 0] [] (setc σ 44 (pre (k + 1) r0 (σ 44)))) → V X 3 [.ref (xad X 40), .ref (xad X 41), .ref (xad X 42), .ref (xad X 43), .int (nI e), .ref (xad X 44), .int (nI k), .float 0, .float 0] [] (setc σ 44 (pre k r0 (σ 44))) := by
    intro k hi3 ih3
    refine V_iload_6 (q := 5) C rfl dL_go_3 ?_
    refine V_bipush (q := 7) (v := 18) C (by decide) rfl dL_go_5 ?_
    refine V_icmp_ge_f (tgt := 34) C (nI_ge (b := 18) hi3 (by decide)) rfl (by decide) dL_go_7 ?_
    refine V_aload_5 (q := 12) C rfl dL_go_10 ?_
    refine V_iload_6 (q := 14) C rfl dL_go_12 ?_
    refine V_iload_6 (q := 16) C rfl dL_go_14 ?_
    refine V_bipush (q := 18) (v := 6) C (by decide) rfl dL_go_16 ?_
    refine V_icmp_ge (tgt := 25) C rfl (by decide) dL_go_18 (fun c18 => ?_) (fun c18 => ?_)
    · refine V_bipush (q := 27) (v := (-9)) C (by decide) rfl dL_go_25 ?_
      refine V_iastR (q := 28) C k rfl (by show _ < 18; omega) hf rfl dL_go_27 ?_
      refine V_iinc_6 (q := 31) (n := 1) C nI_inc hn6 rfl rfl dL_go_28 ?_
      refine V_goto (tgt := 3) C (by decide) dL_go_31 ?_
      first
      | (refine V_eq ?_ ih3; unfold setf; rw [setc_s, setc_setc, pre_step (show (0 : Int32) = r0 k from (if_pos (by rcases Nat.lt_or_ge k 6 with h | h; exact h; exact absurd (nI_le (a := 6) h (by omega)) c18)).symm)]; done)
      | (refine V_eq ?_ ih3; unfold setf; rw [setc_s, setc_setc, pre_step (show (-9 : Int32) = r0 k from (if_neg (fun h => nI_ge (b := 6) h (by decide) c18)).symm)]; done)
    · refine V_iconst (q := 22) (v := 0) C rfl rfl dL_go_21 ?_
      refine V_goto (tgt := 27) C (by decide) dL_go_22 ?_
      refine V_iastR (q := 28) C k rfl (by show _ < 18; omega) hf rfl dL_go_27 ?_
      refine V_iinc_6 (q := 31) (n := 1) C nI_inc hn6 rfl rfl dL_go_28 ?_
      refine V_goto (tgt := 3) C (by decide) dL_go_31 ?_
      first
      | (refine V_eq ?_ ih3; unfold setf; rw [setc_s, setc_setc, pre_step (show (0 : Int32) = r0 k from (if_pos (by rcases Nat.lt_or_ge k 6 with h | h; exact h; exact absurd (nI_le (a := 6) h (by omega)) c18)).symm)]; done)
      | (refine V_eq ?_ ih3; unfold setf; rw [setc_s, setc_setc, pre_step (show (-9 : Int32) = r0 k from (if_neg (fun h => nI_ge (b := 6) h (by decide) c18)).symm)]; done)
  exact V_eq (by rw [pre_0, setc_id]) (loopN (P := fun k => V X 3 [.ref (xad X 40), .ref (xad X 41), .ref (xad X 42), .ref (xad X 43), .int (nI e), .ref (xad X 44), .int (nI k), .float 0, .float 0] [] (setc σ 44 (pre k r0 (σ 44)))) (18) hx3 hs3 0 (Nat.zero_le _))

