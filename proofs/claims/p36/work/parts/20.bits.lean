/-! bits of a number as places of its word -/
theorem amt32 {i : Nat} (h : i < 32) : (nI i &&& 31).toBitVec.smod 32 = BitVec.ofNat 32 i := by
  have hh : ∀ j : Fin 32, (nI j.val &&& 31).toBitVec.smod 32 = BitVec.ofNat 32 j.val := by decide
  exact hh ⟨i, h⟩
theorem lsb1 {y : BitVec 32} : y &&& 1#32 = 0#32 ↔ y.getLsbD 0 = false := by
  constructor
  · intro h
    have h1 := congrArg (fun z : BitVec 32 => z.getLsbD 0) h
    simpa using h1
  · intro h
    refine BitVec.eq_of_getLsbD_eq fun i hi => ?_
    rw [BitVec.getLsbD_and]
    rcases Nat.eq_zero_or_pos i with e | e
    · subst e; rw [h]; rfl
    · rw [show (1#32).getLsbD i = false from by rw [BitVec.getLsbD_one]; simp; omega]
      simp
theorem bit_lsb {x : Int32} {i : Nat} (h : i < 32) : bit x (nI i) ↔ x.toBitVec.getLsbD i = true := by
  have e : ((x >>> (nI i &&& 31)) &&& 1 = 0) ↔ x.toBitVec.getLsbD i = false := by
    rw [← Int32.toBitVec_inj, Int32.toBitVec_and, Int32.toBitVec_shiftRight, amt32 h]
    show (x.toBitVec.sshiftRight' (BitVec.ofNat 32 i)) &&& 1#32 = 0#32 ↔ _
    rw [lsb1, BitVec.sshiftRight', BitVec.toNat_ofNat, Nat.mod_eq_of_lt (by omega), BitVec.getLsbD_sshiftRight]
    simp [h]
  unfold bit
  rw [e]
  simp
theorem own_lsb {i j : Nat} (hi : i < 32) (hj : j < 32) : (own1 (nI i)).toBitVec.getLsbD j = true ↔ j = i := by
  have hh : ∀ a b : Fin 32, (own1 (nI a.val)).toBitVec.getLsbD b.val = true ↔ b.val = a.val := by decide
  exact hh ⟨i, hi⟩ ⟨j, hj⟩
theorem bit_and {x y : Int32} {i : Nat} (h : i < 32) : bit (x &&& y) (nI i) ↔ bit x (nI i) ∧ bit y (nI i) := by
  rw [bit_lsb h, bit_lsb h, bit_lsb h, Int32.toBitVec_and, BitVec.getLsbD_and, Bool.and_eq_true]
theorem bit_or {x y : Int32} {i : Nat} (h : i < 32) : bit (x ||| y) (nI i) ↔ bit x (nI i) ∨ bit y (nI i) := by
  rw [bit_lsb h, bit_lsb h, bit_lsb h, Int32.toBitVec_or, BitVec.getLsbD_or, Bool.or_eq_true]
theorem bit_not {x : Int32} {i : Nat} (h : i < 32) : bit (x ^^^ -1) (nI i) ↔ ¬ bit x (nI i) := by
  have e : (-1 : Int32).toBitVec.getLsbD i = true := by
    have hh : ∀ a : Fin 32, (-1 : Int32).toBitVec.getLsbD a.val = true := by decide
    exact hh ⟨i, h⟩
  rw [bit_lsb h, bit_lsb h, Int32.toBitVec_xor, BitVec.getLsbD_xor, e]
  simp
theorem bit_xor {x y : Int32} {i : Nat} (h : i < 32) : bit (x ^^^ y) (nI i) ↔ ¬ (bit x (nI i) ↔ bit y (nI i)) := by
  rw [bit_lsb h, bit_lsb h, bit_lsb h, Int32.toBitVec_xor, BitVec.getLsbD_xor]
  cases x.toBitVec.getLsbD i <;> cases y.toBitVec.getLsbD i <;> simp
theorem bit_own {i j : Nat} (hi : i < 32) (hj : j < 32) : bit (own1 (nI i)) (nI j) ↔ j = i := by
  rw [bit_lsb hj, own_lsb hi hj]
theorem bit_0 {i : Nat} (h : i < 32) : ¬ bit 0 (nI i) := by
  rw [bit_lsb h]
  have hh : ∀ a : Fin 32, ¬ (0 : Int32).toBitVec.getLsbD a.val = true := by decide
  exact hh ⟨i, h⟩
theorem bit_ext {x y : Int32} (h : ∀ i, i < 32 → (bit x (nI i) ↔ bit y (nI i))) : x = y := by
  rw [← Int32.toBitVec_inj]
  refine BitVec.eq_of_getLsbD_eq fun i hi => ?_
  have := h i hi
  rw [bit_lsb hi, bit_lsb hi] at this
  exact Bool.eq_iff_iff.mpr this
theorem bit_ne0 {x : Int32} : ¬ x = 0 ↔ ∃ i, i < 32 ∧ bit x (nI i) := by
  constructor
  · intro h
    rcases Classical.em (∃ i, i < 32 ∧ bit x (nI i)) with h2 | h2
    · exact h2
    · exact absurd (bit_ext fun i hi => ⟨fun q => absurd ⟨i, hi, q⟩ h2, fun q => absurd q (bit_0 hi)⟩) h
  · rintro ⟨i, hi, q⟩ h
    subst h
    exact bit_0 hi q
theorem bit_setB {q : Nat → Prop} [DecidablePred q] : ∀ n : Nat, n ≤ 32 → ∀ i, i < 32 → (bit (setB q n) (nI i) ↔ i < n ∧ q i) := by
  intro n
  induction n with
  | zero => intro _ i hi; exact ⟨fun h => absurd h (bit_0 hi), fun h => absurd h.1 (Nat.not_lt_zero _)⟩
  | succ n ih =>
    intro hn i hi
    have h1 := ih (by omega) i hi
    show bit (if q n then setB q n ||| own1 (nI n) else setB q n) (nI i) ↔ _
    by_cases hq : q n
    · rw [if_pos hq, bit_or hi, h1, bit_own (by omega) hi]
      constructor
      · rintro (⟨a, b⟩ | rfl)
        · exact ⟨by omega, b⟩
        · exact ⟨by omega, hq⟩
      · rintro ⟨a, b⟩
        by_cases e : i = n
        · exact Or.inr e
        · exact Or.inl ⟨by omega, b⟩
    · rw [if_neg hq, h1]
      constructor
      · rintro ⟨a, b⟩; exact ⟨by omega, b⟩
      · rintro ⟨a, b⟩
        by_cases e : i = n
        · subst e; exact absurd b hq
        · exact ⟨by omega, b⟩
theorem bit_ones {n i : Nat} (hn : n ≤ 6) (hi : i < 32) : bit (ones (nI n)) (nI i) ↔ i < n := by
  rw [bit_lsb hi]
  have hh : ∀ (a : Fin 7) (b : Fin 32), (ones (nI a.val)).toBitVec.getLsbD b.val = true ↔ b.val < a.val := by decide
  exact hh ⟨n, by omega⟩ ⟨i, hi⟩
theorem and1_01 {x : Int32} : x &&& 1 = 0 ∨ x &&& 1 = 1 := by
  have e : ∀ b : Bool, b = true ∨ b = false := by decide
  rcases e (x.toBitVec.getLsbD 0) with h | h
  · right
    rw [← Int32.toBitVec_inj, Int32.toBitVec_and]
    refine BitVec.eq_of_getLsbD_eq fun i hi => ?_
    show (x.toBitVec &&& 1#32).getLsbD i = (1#32).getLsbD i
    rw [BitVec.getLsbD_and]
    rcases Nat.eq_zero_or_pos i with e | e
    · subst e; rw [h]; rfl
    · rw [show (1#32).getLsbD i = false from by rw [BitVec.getLsbD_one]; simp; omega]
      simp
  · left
    rw [← Int32.toBitVec_inj, Int32.toBitVec_and]
    exact lsb1.mpr h
theorem bit_1 {x i : Int32} : (x >>> (i &&& 31)) &&& 1 = 1 ↔ bit x i := by
  unfold bit
  rcases and1_01 (x := x >>> (i &&& 31)) with h | h
  · rw [h]; exact ⟨fun q => absurd q (by decide), fun q => absurd rfl q⟩
  · rw [h]; exact ⟨fun _ => by decide, fun _ => rfl⟩
def szN : Nat → Nat → Nat
  | 0, _ => 0
  | f + 1, m => szN f (m / 2) + m % 2
theorem szN_0 : ∀ f : Nat, szN f 0 = 0 := by
  intro f
  induction f with
  | zero => rfl
  | succ f ih => show szN f (0 / 2) + 0 % 2 = 0; rw [Nat.zero_div, ih]
theorem szN_le : ∀ f m : Nat, szN f m ≤ f := by
  intro f
  induction f with
  | zero => intro m; exact Nat.le_refl _
  | succ f ih => intro m; show szN f (m / 2) + m % 2 ≤ f + 1; have := ih (m / 2); omega
theorem pop_sz {m : Nat} (h : m < 64) : popc (nI m) = nI (szN 6 m) := by
  have hh : ∀ a : Fin 64, popc (nI a.val) = nI (szN 6 a.val) := by decide
  exact hh ⟨m, h⟩
theorem sh1 {m : Nat} (h : m < 64) : nI m >>> (1 &&& 31) = nI (m / 2) := by
  have hh : ∀ a : Fin 64, nI a.val >>> (1 &&& 31) = nI (a.val / 2) := by decide
  exact hh ⟨m, h⟩
