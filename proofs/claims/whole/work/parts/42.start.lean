/-! the state in which both sides begin, and its relation -/
def sI : ST := fun k i => if k = 41 then -9 else if k = 40 then (if i = 31 then -9 else 0) else 0
theorem sI_0 {k i : Nat} (h1 : k ≠ 41) (h2 : k ≠ 40) : sI k i = 0 := by
  unfold sI
  rw [if_neg h1, if_neg h2]
theorem sI_40 {i : Nat} (h : i ≠ 31) : sI 40 i = 0 := by
  show (if i = 31 then (-9 : Int32) else 0) = 0
  rw [if_neg h]
theorem sI_41 {i : Nat} : sI 41 i = -9 := rfl
theorem setB_0 {q : Nat → Prop} [DecidablePred q] {n : Nat} (hn : n ≤ 32) (h : ∀ i, i < n → ¬ q i) : setB q n = 0 := bit_ext fun i hi => ⟨fun z => absurd ((bit_setB n hn i hi).mp z).2 (h i ((bit_setB n hn i hi).mp z).1), fun z => absurd z (bit_0 hi)⟩
theorem sI_rel : RelE sI := by
  refine ⟨0, 0, 0, 0, ⟨by decide, by decide, fun h => h, rfl, rfl, rfl, rfl, ?_, fun t ht => absurd ht (Nat.not_lt_zero _), fun t ht => absurd ht (Nat.not_lt_zero _), fun d hd => ?_⟩, ⟨?_, fun d hd => ⟨rfl, rfl, ⟨0, by decide, rfl⟩, fun h => absurd h (by decide), Or.inl rfl⟩⟩, ⟨by decide, rfl, rfl, fun c hc => absurd hc (Nat.not_lt_zero _)⟩, ⟨by decide, rfl, rfl, fun c hc => absurd hc (Nat.not_lt_zero _)⟩, fun j hj => ?_, rfl, rfl, rfl⟩
  · exact (setB_0 (by decide) (fun i hi => absurd hi (Nat.not_lt_zero _))).symm
  · exact (setB_0 (by decide) (fun i hi => absurd hi (Nat.not_lt_zero _))).symm
  · exact (setB_0 (by decide) (fun i _ h => h rfl)).symm
  · refine ⟨⟨0, by decide, sI_0 (by omega) (by omega), rfl⟩, Or.inl ⟨sI_0 (by omega) (by omega), rfl⟩, fun i _ => ?_⟩
    rw [sI_0 (by omega) (by omega)]
    rfl
