/-! the operations of both sides, one by one: reads, searches -/
abbrev kC_orchard (l : Launch) (D : DD) (ad : Nat → Nat) (a0 a1 a2 a3 : Int32) : KT := fun σ p => Ct l yX8_orchard cX8_orchard 7 (Option.some FieldType.int) 4 87 D ad [.ref (ad 0), .int a0, .int a1, .int a2, .int a3] σ p
abbrev kM_orchard (l : Launch) (D : DD) (ad : Nat → Nat) (a0 a1 a2 a3 : Int32) : KT := fun σ p => Ct l yX9_orchard cX9_orchard 8 (Option.some FieldType.int) 4 89 D ad [.ref (ad 40), .int a0, .int a1, .int a2, .int a3] σ p
abbrev kC_ofTree (l : Launch) (D : DD) (ad : Nat → Nat) (a0 a1 : Int32) : KT := fun σ p => Ct l yX8_ofTree cX8_ofTree 3 (Option.some FieldType.int) 1 22 D ad [.ref (ad 0), .int a0, .int a1] σ p
abbrev kM_ofTree (l : Launch) (D : DD) (ad : Nat → Nat) (a0 a1 : Int32) : KT := fun σ p => Ct l yX9_ofTree cX9_ofTree 3 (Option.some FieldType.int) 1 21 D ad [.ref (ad 40), .int a0, .int a1] σ p
abbrev kC_ofPrisoner (l : Launch) (D : DD) (ad : Nat → Nat) (a0 a1 : Int32) : KT := fun σ p => Ct l yX8_ofPrisoner cX8_ofPrisoner 3 (Option.some FieldType.int) 1 21 D ad [.ref (ad 0), .int a0, .int a1] σ p
abbrev kM_ofPrisoner (l : Launch) (D : DD) (ad : Nat → Nat) (a0 a1 : Int32) : KT := fun σ p => Ct l yX9_ofPrisoner cX9_ofPrisoner 3 (Option.some FieldType.int) 1 21 D ad [.ref (ad 40), .int a0, .int a1] σ p
abbrev kC_rain (l : Launch) (D : DD) (ad : Nat → Nat) (a0 a1 : Int32) : KT := fun σ p => Ct l yX8_rain cX8_rain 4 (Option.some FieldType.int) 1 20 D ad [.ref (ad 0), .int a0, .int a1] σ p
abbrev kM_rain (l : Launch) (D : DD) (ad : Nat → Nat) (a0 a1 : Int32) : KT := fun σ p => Ct l yX9_rain cX9_rain 4 (Option.some FieldType.int) 2 42 D ad [.ref (ad 40), .int a0, .int a1] σ p
abbrev kC_water (l : Launch) (D : DD) (ad : Nat → Nat) (a0 a1 : Int32) : KT := fun σ p => Ct l yX8_water cX8_water 4 (Option.some FieldType.int) 1 21 D ad [.ref (ad 0), .int a0, .int a1] σ p
abbrev kM_water (l : Launch) (D : DD) (ad : Nat → Nat) (a0 a1 : Int32) : KT := fun σ p => Ct l yX9_water cX9_water 4 (Option.some FieldType.int) 2 42 D ad [.ref (ad 40), .int a0, .int a1] σ p
abbrev kC_frost (l : Launch) (D : DD) (ad : Nat → Nat) (a0 a1 : Int32) : KT := fun σ p => Ct l yX8_frost cX8_frost 3 (Option.some FieldType.int) 1 21 D ad [.ref (ad 0), .int a0, .int a1] σ p
abbrev kM_frost (l : Launch) (D : DD) (ad : Nat → Nat) (a0 a1 : Int32) : KT := fun σ p => Ct l yX9_frost cX9_frost 4 (Option.some FieldType.int) 2 42 D ad [.ref (ad 40), .int a0, .int a1] σ p
abbrev kC_crow (l : Launch) (D : DD) (ad : Nat → Nat) (a0 a1 : Int32) : KT := fun σ p => Ct l yX8_crow cX8_crow 3 (Option.some FieldType.int) 1 22 D ad [.ref (ad 0), .int a0, .int a1] σ p
abbrev kM_crow (l : Launch) (D : DD) (ad : Nat → Nat) (a0 a1 : Int32) : KT := fun σ p => Ct l yX9_crow cX9_crow 3 (Option.some FieldType.int) 2 42 D ad [.ref (ad 40), .int a0, .int a1] σ p
abbrev kC_shoo (l : Launch) (D : DD) (ad : Nat → Nat) (a0 : Int32) : KT := fun σ p => Ct l yX8_shoo cX8_shoo 2 (Option.some FieldType.int) 0 0 D ad [.ref (ad 0), .int a0] σ p
abbrev kM_shoo (l : Launch) (D : DD) (ad : Nat → Nat) (a0 : Int32) : KT := fun σ p => Ct l yX9_shoo cX9_shoo 2 (Option.some FieldType.int) 1 22 D ad [.ref (ad 40), .int a0] σ p
abbrev kC_fell (l : Launch) (D : DD) (ad : Nat → Nat) (a0 a1 : Int32) : KT := fun σ p => Ct l yX8_fell cX8_fell 3 (Option.some FieldType.int) 1 21 D ad [.ref (ad 0), .int a0, .int a1] σ p
abbrev kM_fell (l : Launch) (D : DD) (ad : Nat → Nat) (a0 a1 : Int32) : KT := fun σ p => Ct l yX9_fell cX9_fell 4 (Option.some FieldType.int) 1 21 D ad [.ref (ad 40), .int a0, .int a1] σ p
abbrev kC_out (l : Launch) (D : DD) (ad : Nat → Nat) (a0 : Int32) : KT := fun σ p => Ct l yX8_out cX8_out 2 (Option.some FieldType.int) 6 132 D ad [.ref (ad 0), .int a0] σ p
abbrev kM_out (l : Launch) (D : DD) (ad : Nat → Nat) (a0 : Int32) : KT := fun σ p => Ct l yX9_out cX9_out 2 (Option.some FieldType.int) 4 88 D ad [.ref (ad 40), .int a0] σ p
abbrev kC_by (l : Launch) (D : DD) (ad : Nat → Nat) (a0 : Int32) : KT := fun σ p => Ct l yX8_by cX8_by 2 (Option.some FieldType.int) 6 132 D ad [.ref (ad 0), .int a0] σ p
abbrev kM_by (l : Launch) (D : DD) (ad : Nat → Nat) (a0 : Int32) : KT := fun σ p => Ct l yX9_by cX9_by 2 (Option.some FieldType.int) 4 88 D ad [.ref (ad 40), .int a0] σ p
abbrev kC_free (l : Launch) (D : DD) (ad : Nat → Nat) (a0 : Int32) : KT := fun σ p => Ct l yX8_free cX8_free 2 (Option.some FieldType.int) 6 132 D ad [.ref (ad 0), .int a0] σ p
abbrev kM_free (l : Launch) (D : DD) (ad : Nat → Nat) (a0 : Int32) : KT := fun σ p => Ct l yX9_free cX9_free 4 (Option.some FieldType.int) 4 88 D ad [.ref (ad 40), .int a0] σ p
abbrev kC_has (l : Launch) (D : DD) (ad : Nat → Nat) (a0 a1 : Int32) : KT := fun σ p => Ct l yX8_has cX8_has 3 (Option.some FieldType.int) 6 132 D ad [.ref (ad 0), .int a0, .int a1] σ p
abbrev kM_has (l : Launch) (D : DD) (ad : Nat → Nat) (a0 a1 : Int32) : KT := fun σ p => Ct l yX9_has cX9_has 3 (Option.some FieldType.int) 4 88 D ad [.ref (ad 40), .int a0, .int a1] σ p
abbrev kC_least (l : Launch) (D : DD) (ad : Nat → Nat) (a0 a1 a2 : Int32) : KT := fun σ p => Ct l yX8_least cX8_least 5 (Option.some FieldType.int) 6 137 D ad [.ref (ad 0), .int a0, .int a1, .int a2] σ p
abbrev kM_least (l : Launch) (D : DD) (ad : Nat → Nat) (a0 a1 a2 : Int32) : KT := fun σ p => Ct l yX9_least cX9_least 6 (Option.some FieldType.int) 5 113 D ad [.ref (ad 40), .int a0, .int a1, .int a2] σ p
abbrev kC_most (l : Launch) (D : DD) (ad : Nat → Nat) (a0 a1 a2 : Int32) : KT := fun σ p => Ct l yX8_most cX8_most 5 (Option.some FieldType.int) 6 138 D ad [.ref (ad 0), .int a0, .int a1, .int a2] σ p
abbrev kM_most (l : Launch) (D : DD) (ad : Nat → Nat) (a0 a1 a2 : Int32) : KT := fun σ p => Ct l yX9_most cX9_most 8 (Option.some FieldType.int) 4 88 D ad [.ref (ad 40), .int a0, .int a1, .int a2] σ p
abbrev kC_saws (l : Launch) (D : DD) (ad : Nat → Nat) (a0 a1 : Int32) : KT := fun σ p => Ct l yX8_saws cX8_saws 6 (Option.some FieldType.int) 5 112 D ad [.ref (ad 0), .int a0, .int a1] σ p
abbrev kM_saws (l : Launch) (D : DD) (ad : Nat → Nat) (a0 a1 : Int32) : KT := fun σ p => Ct l yX9_saws cX9_saws 6 (Option.some FieldType.int) 4 88 D ad [.ref (ad 40), .int a0, .int a1] σ p
abbrev kC_worth (l : Launch) (D : DD) (ad : Nat → Nat) (a0 : Int32) : KT := fun σ p => Ct l yX8_worth cX8_worth 3 (Option.some FieldType.int) 6 132 D ad [.ref (ad 0), .int a0] σ p
abbrev kM_worth (l : Launch) (D : DD) (ad : Nat → Nat) (a0 : Int32) : KT := fun σ p => Ct l yX9_worth cX9_worth 5 (Option.some FieldType.int) 5 110 D ad [.ref (ad 40), .int a0] σ p
abbrev kC_odds (l : Launch) (D : DD) (ad : Nat → Nat) (a0 a1 a2 : Int32) : KT := fun σ p => Ct l yX8_odds cX8_odds 7 (Option.some FieldType.long) 5 112 D ad [.ref (ad 0), .int a0, .int a1, .int a2] σ p
abbrev kM_odds (l : Launch) (D : DD) (ad : Nat → Nat) (a0 a1 a2 : Int32) : KT := fun σ p => Ct l yX9_odds cX9_odds 7 (Option.some FieldType.long) 4 88 D ad [.ref (ad 40), .int a0, .int a1, .int a2] σ p
abbrev kC_green (l : Launch) (D : DD) (ad : Nat → Nat) (a0 a1 : Int32) : KT := fun σ p => Ct l yX8_green cX8_green 5 (Option.some FieldType.int) 2 45 D ad [.ref (ad 0), .int a0, .int a1] σ p
abbrev kM_green (l : Launch) (D : DD) (ad : Nat → Nat) (a0 a1 : Int32) : KT := fun σ p => Ct l yX9_green cX9_green 5 (Option.some FieldType.int) 2 46 D ad [.ref (ad 40), .int a0, .int a1] σ p
abbrev kC_reading (l : Launch) (D : DD) (ad : Nat → Nat) (a0 a1 a2 : Int32) : KT := fun σ p => Ct l yX8_reading cX8_reading 4 (Option.some FieldType.int) 1 23 D ad [.ref (ad 0), .int a0, .int a1, .int a2] σ p
abbrev kM_reading (l : Launch) (D : DD) (ad : Nat → Nat) (a0 a1 a2 : Int32) : KT := fun σ p => Ct l yX9_reading cX9_reading 4 (Option.some FieldType.int) 2 42 D ad [.ref (ad 40), .int a0, .int a1, .int a2] σ p
abbrev kC_back (l : Launch) (D : DD) (ad : Nat → Nat) (a0 : Int32) : KT := fun σ p => Ct l yX8_back cX8_back 2 (Option.some FieldType.int) 0 0 D ad [.ref (ad 0), .int a0] σ p
abbrev kM_back (l : Launch) (D : DD) (ad : Nat → Nat) (a0 : Int32) : KT := fun σ p => Ct l yX9_back cX9_back 2 (Option.some FieldType.int) 1 22 D ad [.ref (ad 40), .int a0] σ p
abbrev kC_thief (l : Launch) (D : DD) (ad : Nat → Nat) (a0 : Int32) : KT := fun σ p => Ct l yX8_thief cX8_thief 5 (Option.some FieldType.int) 5 111 D ad [.ref (ad 0), .int a0] σ p
abbrev kM_thief (l : Launch) (D : DD) (ad : Nat → Nat) (a0 : Int32) : KT := fun σ p => Ct l yX9_thief cX9_thief 4 (Option.some FieldType.int) 5 110 D ad [.ref (ad 40), .int a0] σ p
abbrev kC_sheet (l : Launch) (D : DD) (ad : Nat → Nat) (a0 a1 a2 : Int32) : KT := fun σ p => Ct l yX8_sheet cX8_sheet 5 (Option.some FieldType.int) 2 45 D ad [.ref (ad 0), .int a0, .int a1, .int a2] σ p
abbrev kM_sheet (l : Launch) (D : DD) (ad : Nat → Nat) (a0 a1 a2 : Int32) : KT := fun σ p => Ct l yX9_sheet cX9_sheet 5 (Option.some FieldType.int) 2 42 D ad [.ref (ad 40), .int a0, .int a1, .int a2] σ p
abbrev kC_lose (l : Launch) (D : DD) (ad : Nat → Nat) (a0 : Int32) : KT := fun σ p => Ct l yX8_lose cX8_lose 3 (Option.some FieldType.int) 1 21 D ad [.ref (ad 0), .int a0] σ p
abbrev kM_lose (l : Launch) (D : DD) (ad : Nat → Nat) (a0 : Int32) : KT := fun σ p => Ct l yX9_lose cX9_lose 3 (Option.some FieldType.int) 2 42 D ad [.ref (ad 40), .int a0] σ p
abbrev kC_put (l : Launch) (D : DD) (ad : Nat → Nat) (a0 a1 a2 : Int32) : KT := fun σ p => Ct l yX8_put cX8_put 5 (Option.some FieldType.int) 1 22 D ad [.ref (ad 0), .int a0, .int a1, .int a2] σ p
abbrev kM_put (l : Launch) (D : DD) (ad : Nat → Nat) (a0 a1 a2 : Int32) : KT := fun σ p => Ct l yX9_put cX9_put 4 (Option.some FieldType.int) 2 42 D ad [.ref (ad 40), .int a0, .int a1, .int a2] σ p
abbrev kC_cell (l : Launch) (D : DD) (ad : Nat → Nat) (a0 a1 a2 : Int32) : KT := fun σ p => Ct l yX8_cell cX8_cell 5 (Option.some FieldType.long) 1 22 D ad [.ref (ad 0), .int a0, .int a1, .int a2] σ p
abbrev kM_cell (l : Launch) (D : DD) (ad : Nat → Nat) (a0 a1 a2 : Int32) : KT := fun σ p => Ct l yX9_cell cX9_cell 4 (Option.some FieldType.long) 2 42 D ad [.ref (ad 40), .int a0, .int a1, .int a2] σ p
abbrev kC_copy (l : Launch) (D : DD) (ad : Nat → Nat) (a0 a1 a2 a3 a4 : Int32) : KT := fun σ p => Ct l yX8_copy cX8_copy 8 (Option.some FieldType.int) 1 48 D ad [.ref (ad 0), .int a0, .int a1, .int a2, .int a3, .int a4] σ p
abbrev kM_copy (l : Launch) (D : DD) (ad : Nat → Nat) (a0 a1 a2 a3 a4 : Int32) : KT := fun σ p => Ct l yX9_copy cX9_copy 10 (Option.some FieldType.int) 2 42 D ad [.ref (ad 40), .int a0, .int a1, .int a2, .int a3, .int a4] σ p
abbrev kC_tell (l : Launch) (D : DD) (ad : Nat → Nat) (a0 : Int32) : KT := fun σ p => Ct l yX8_tell cX8_tell 3 (Option.some FieldType.int) 4 85 D ad [.ref (ad 0), .int a0] σ p
abbrev kM_tell (l : Launch) (D : DD) (ad : Nat → Nat) (a0 : Int32) : KT := fun σ p => Ct l yX9_tell cX9_tell 3 (Option.some FieldType.int) 1 21 D ad [.ref (ad 40), .int a0] σ p
abbrev kC_shake (l : Launch) (D : DD) (ad : Nat → Nat) (a0 : Int32) : KT := fun σ p => Ct l yX8_shake cX8_shake 2 (Option.some FieldType.int) 2 42 D ad [.ref (ad 0), .int a0] σ p
abbrev kM_shake (l : Launch) (D : DD) (ad : Nat → Nat) (a0 : Int32) : KT := fun σ p => Ct l yX9_shake cX9_shake 2 (Option.some FieldType.int) 1 21 D ad [.ref (ad 40), .int a0] σ p
abbrev kC_as (l : Launch) (D : DD) (ad : Nat → Nat) (a0 a1 : Int32) : KT := fun σ p => Ct l yX8_as cX8_as 3 (Option.some FieldType.int) 1 21 D ad [.ref (ad 0), .int a0, .int a1] σ p
abbrev kM_as (l : Launch) (D : DD) (ad : Nat → Nat) (a0 a1 : Int32) : KT := fun σ p => Ct l yX9_as cX9_as 3 (Option.some FieldType.int) 1 22 D ad [.ref (ad 40), .int a0, .int a1] σ p
abbrev kC_trace (l : Launch) (D : DD) (ad : Nat → Nat) : KT := fun σ p => Ct l yX8_trace cX8_trace 1 (Option.some FieldType.int) 0 0 D ad [.ref (ad 0)] σ p
abbrev kM_trace (l : Launch) (D : DD) (ad : Nat → Nat) : KT := fun σ p => Ct l yX9_trace cX9_trace 1 (Option.some FieldType.int) 0 0 D ad [.ref (ad 40)] σ p
abbrev kC_fault (l : Launch) (D : DD) (ad : Nat → Nat) : KT := fun σ p => Ct l yX8_fault cX8_fault 1 (Option.some FieldType.int) 0 0 D ad [.ref (ad 0)] σ p
abbrev kM_fault (l : Launch) (D : DD) (ad : Nat → Nat) : KT := fun σ p => Ct l yX9_fault cX9_fault 1 (Option.some FieldType.int) 0 0 D ad [.ref (ad 40)] σ p
abbrev kC_many (l : Launch) (D : DD) (ad : Nat → Nat) (a0 : Int32) : KT := fun σ p => Ct l yX8_many cX8_many 2 (Option.some FieldType.int) 0 0 D ad [.ref (ad 0), .int a0] σ p
abbrev kM_many (l : Launch) (D : DD) (ad : Nat → Nat) (a0 : Int32) : KT := fun σ p => Ct l yX9_many cX9_many 2 (Option.some FieldType.int) 0 0 D ad [.ref (ad 40), .int a0] σ p
theorem Rel.fel {σ : ST} {T P C R : Nat} (h : Rel σ T P C R) {t : Nat} (ht : t < T) : bit (σ 12 2) (nI t) ↔ ¬ σ 47 t = 0 := by
  have hT6 := h.T6
  rw [h.F, bit_setB T (by omega) t (by omega)]
  exact ⟨fun q => q.2, fun q => ⟨ht, q⟩⟩
theorem ltM_lt {u d w : Nat} (hu : u < 2 ^ 31) (hd : d < 2 ^ 31) : ltM u d w < 2 ^ 31 := by
  unfold ltM
  split
  · exact Nat.lt_of_le_of_lt (Nat.div_le_self _ _) hu
  · exact Nat.lt_of_le_of_lt (Nat.div_le_self _ _) hd
theorem sm40 {σ : ST} : ∀ k, 40 ≤ k → σ k = σ k := fun _ _ => rfl
theorem Rel.pa {σ : ST} {T P C R N : Nat} (h : Rel σ T P C R) : Rel (paT σ T P C N) T P C R := h.kp Kp.pa
theorem op_ofTree {l : Launch} {D : DD} {ad : Nat → Nat} {σ : ST} (t w : Int32) (h0 : RelE σ) : OpI (kC_ofTree l D ad t w) (kM_ofTree l D ad t w) σ := by
  obtain ⟨T, P, C, R, h⟩ := h0
  have hT6 := h.T6
  have hP6 := h.P6
  by_cases ht : isT (nI T) t
  · obtain ⟨j, hj, rfl⟩ := isT_of ht rfl (by omega)
    obtain ⟨e1, e2, e3, e4, -, e6, -, -⟩ := h.tr hj
    refine OpI.ee (c_X8_ofTree_v σ T j w h.T12 hT6 hj) (c_X9_ofTree_v σ T j w h.T40 hT6 hj) ?_ h.E
    rw [e1, e2, e3, e4, opCM e6, pI_congr (h.fel hj)]
  · exact OpI.ee (c_X8_ofTree_u σ T t w h.T12 ht) (c_X9_ofTree_u σ T t w h.T40 ht) rfl h.E
theorem op_ofPrisoner {l : Launch} {D : DD} {ad : Nat → Nat} {σ : ST} (p w : Int32) (h0 : RelE σ) : OpI (kC_ofPrisoner l D ad p w) (kM_ofPrisoner l D ad p w) σ := by
  obtain ⟨T, P, C, R, h⟩ := h0
  have hT6 := h.T6
  have hP6 := h.P6
  by_cases hp : isT (nI P) p
  · obtain ⟨j, hj, rfl⟩ := isT_of hp rfl (by omega)
    obtain ⟨e1, e2⟩ := h.pr hj
    refine OpI.ee (c_X8_ofPrisoner_v σ P j w h.P12 hP6 hj) (c_X9_ofPrisoner_v σ P j w h.P40 hP6 hj) ?_ h.E
    rw [e1, e2]
  · exact OpI.ee (c_X8_ofPrisoner_u σ P p w h.P12 hp) (c_X9_ofPrisoner_u σ P p w h.P40 hp) rfl h.E
theorem op_out {l : Launch} {D : DD} {ad : Nat → Nat} {σ : ST} (p : Int32) (h0 : RelE σ) : OpI (kC_out l D ad p) (kM_out l D ad p) σ := by
  obtain ⟨T, P, C, R, h⟩ := h0
  have hT6 := h.T6
  have hP6 := h.P6
  by_cases hp : isT (nI P) p
  · obtain ⟨j, hj, rfl⟩ := isT_of hp rfl (by omega)
    have hE := told_eq h (kp40 (Kp.pa (σ := σ) (T := T) (P := P) (C := C) (N := 30))) (h.PT (by omega)) (Nat.le_refl 30)
    refine OpI.eq (c_X8_out_v σ T P C j h.T12 hT6 h.P12 hP6 h.C21 h.C6 h.cd hj) (c_X9_out_v (paT σ T P C 30) T P C j (h.pa.MH (h.PT (by omega))) hj) (fun v2 τ2 hq => ?_)
    obtain ⟨rfl, s, rfl⟩ := hq
    exact ⟨((hE.2.1 j hj).1).symm, h.pa.pm.E⟩
  · exact OpI.ee (c_X8_out_u σ P p h.P12 hp) (c_X9_out_u σ P p h.P40 hp) rfl h.E
theorem op_by {l : Launch} {D : DD} {ad : Nat → Nat} {σ : ST} (p : Int32) (h0 : RelE σ) : OpI (kC_by l D ad p) (kM_by l D ad p) σ := by
  obtain ⟨T, P, C, R, h⟩ := h0
  have hT6 := h.T6
  have hP6 := h.P6
  by_cases hp : isT (nI P) p
  · obtain ⟨j, hj, rfl⟩ := isT_of hp rfl (by omega)
    have hE := told_eq h (kp40 (Kp.pa (σ := σ) (T := T) (P := P) (C := C) (N := 30))) (h.PT (by omega)) (Nat.le_refl 30)
    refine OpI.eq (c_X8_by_v σ T P C j h.T12 hT6 h.P12 hP6 h.C21 h.C6 h.cd hj) (c_X9_by_v (paT σ T P C 30) T P C j (h.pa.MH (h.PT (by omega))) hj) (fun v2 τ2 hq => ?_)
    obtain ⟨rfl, s, rfl⟩ := hq
    exact ⟨((hE.2.1 j hj).2.1).symm, h.pa.pm.E⟩
  · exact OpI.ee (c_X8_by_u σ P p h.P12 hp) (c_X9_by_u σ P p h.P40 hp) rfl h.E
theorem op_free {l : Launch} {D : DD} {ad : Nat → Nat} {σ : ST} (d : Int32) (h0 : RelE σ) : OpI (kC_free l D ad d) (kM_free l D ad d) σ := by
  obtain ⟨T, P, C, R, h⟩ := h0
  have hT6 := h.T6
  have hP6 := h.P6
  by_cases hd : isT 30 d
  · obtain ⟨e, he, rfl⟩ := isT_of (N := 30) hd rfl (by decide)
    by_cases hz : T = 0
    · exact OpI.ee (c_X8_free_s σ e T he h.T12 hz) (c_X9_free_s σ e T he h.T40 hz) rfl h.E
    · refine OpI.eq (c_X8_free_v σ T P C e h.T12 hT6 h.P12 hP6 h.C21 h.C6 h.cd he (by omega)) (c_X9_free_v (paT σ T P C (e + 1)) T P C e (h.pa.MH (by omega)) he (by omega)) (fun v2 τ2 hq => ?_)
      obtain ⟨rfl, s, rfl⟩ := hq
      exact ⟨(free_eq h (kp40 Kp.pa) (by omega) (by omega)).symm, h.pa.pm.E⟩
  · exact OpI.ee (c_X8_free_u σ d hd) (c_X9_free_u σ d hd) rfl h.E
theorem op_has {l : Launch} {D : DD} {ad : Nat → Nat} {σ : ST} (t d : Int32) (h0 : RelE σ) : OpI (kC_has l D ad t d) (kM_has l D ad t d) σ := by
  obtain ⟨T, P, C, R, h⟩ := h0
  have hT6 := h.T6
  have hP6 := h.P6
  by_cases hg : isT (nI T) t ∧ isT 30 d
  · obtain ⟨j, hj, rfl⟩ := isT_of hg.1 rfl (by omega)
    obtain ⟨e, he, rfl⟩ := isT_of (N := 30) hg.2 rfl (by decide)
    have hE := told_eq h (kp40 (Kp.pa (σ := σ) (T := T) (P := P) (C := C) (N := e + 1))) (by omega) (show e + 1 ≤ 30 by omega)
    refine OpI.eq (c_X8_has_v σ T P C j e h.T12 hT6 h.P12 hP6 h.C21 h.C6 h.cd hj he) (c_X9_has_v (paT σ T P C (e + 1)) T P C j e (h.pa.MH (by omega)) hj he) (fun v2 τ2 hq => ?_)
    obtain ⟨rfl, s, rfl⟩ := hq
    exact ⟨(hE.1 j hj).symm, h.pa.pm.E⟩
  · exact OpI.ee (c_X8_has_u σ T t d h.T12 hg) (c_X9_has_u σ T t d h.T40 hg) rfl h.E
theorem op_least {l : Launch} {D : DD} {ad : Nat → Nat} {σ : ST} (p d q : Int32) (h0 : RelE σ) : OpI (kC_least l D ad p d q) (kM_least l D ad p d q) σ := by
  obtain ⟨T, P, C, R, h⟩ := h0
  have hT6 := h.T6
  have hP6 := h.P6
  by_cases hg : isT (nI P) p ∧ isT 30 d ∧ ¬ q < -1
  · obtain ⟨j, hj, rfl⟩ := isT_of hg.1 rfl (by omega)
    obtain ⟨e, he, rfl⟩ := isT_of (N := 30) hg.2.1 rfl (by decide)
    have h1 := h.PT (by omega)
    refine OpI.qq (c_X8_least_v σ T P C j e q h.T12 hT6 h.P12 hP6 h.C21 h.C6 h.cd h1 hj he hg.2.2) (fun v τ hq => ?_)
    obtain ⟨rfl, hk⟩ := hq
    refine ⟨_, c_X9_least_v τ T P C j e q ((h.kp hk).MH h1) (h.kp hk).r9 h1 hj he hg.2.2, fun v2 τ2 hq2 => ?_⟩
    obtain ⟨rfl, hk2⟩ := hq2
    exact ⟨by rw [lw_eq h (kp40 hk) h1 (by omega) hj 5 0 (by omega)], ((h.kp hk).km hk2).E⟩
  · exact OpI.ee (c_X8_least_u σ P p d q h.P12 hg) (c_X9_least_u σ P p d q h.P40 hg) rfl h.E
theorem op_most {l : Launch} {D : DD} {ad : Nat → Nat} {σ : ST} (d k q : Int32) (h0 : RelE σ) : OpI (kC_most l D ad d k q) (kM_most l D ad d k q) σ := by
  obtain ⟨T, P, C, R, h⟩ := h0
  have hT6 := h.T6
  have hP6 := h.P6
  by_cases hg : isT 30 d ∧ ¬ q < -1
  · obtain ⟨e, he, rfl⟩ := isT_of (N := 30) hg.1 rfl (by decide)
    by_cases hk : ¬ k < 0 ∧ ¬ 4 < k
    · obtain ⟨x, hx, rfl⟩ := nI_of hk.1
      have hx4 : x ≤ 4 := by
        rcases Nat.lt_or_ge 4 x with q2 | q2
        · exact absurd (nI_lt (a := 4) q2 hx) hk.2
        · exact q2
      by_cases hz : T = 0
      · exact OpI.ee (c_X8_most_s σ T e x q he hg.2 hx4 h.T12 hz) (c_X9_most_s σ T e x q he hg.2 hx4 h.T40 hz) rfl h.E
      · refine OpI.qq (c_X8_most_v σ T P C e x q h.T12 hT6 h.P12 hP6 h.C21 h.C6 h.cd (by omega) he hx4 hg.2) (fun v τ hq => ?_)
        obtain ⟨rfl, hk⟩ := hq
        refine ⟨_, c_X9_most_v τ T P C e x q ((h.kp hk).MH (by omega)) (h.kp hk).r9 (by omega) he hx4 hg.2, fun v2 τ2 hq2 => ?_⟩
        obtain ⟨rfl, hk2⟩ := hq2
        exact ⟨by rw [mo_eq h (kp40 hk) (by omega) hx4 (by omega)], ((h.kp hk).km hk2).E⟩
    · exact OpI.ee (c_X8_most_o σ e k q he hg.2 hk) (c_X9_most_o σ e k q he hg.2 hk) rfl h.E
  · exact OpI.ee (c_X8_most_u σ d k q hg) (c_X9_most_u σ d k q hg) rfl h.E
theorem op_saws {l : Launch} {D : DD} {ad : Nat → Nat} {σ : ST} (p d : Int32) (h0 : RelE σ) : OpI (kC_saws l D ad p d) (kM_saws l D ad p d) σ := by
  obtain ⟨T, P, C, R, h⟩ := h0
  have hT6 := h.T6
  have hP6 := h.P6
  by_cases hg : isT (nI P) p ∧ isT 30 d
  · obtain ⟨j, hj, rfl⟩ := isT_of hg.1 rfl (by omega)
    obtain ⟨e, he, rfl⟩ := isT_of (N := 30) hg.2 rfl (by decide)
    refine OpI.qq (c_X8_saws_v σ T P C j e h.T12 hT6 h.P12 hP6 h.C21 h.C6 h.cd hj he) (fun v τ hq => ?_)
    obtain ⟨rfl, hk⟩ := hq
    refine ⟨_, c_X9_saws_v τ T P C j e ((h.kp hk).MH (h.PT (by omega))) hj he (h.kp hk).nar, fun v2 τ2 hq2 => ?_⟩
    obtain ⟨rfl, s, rfl⟩ := hq2
    exact ⟨(saws_eq h (kp40 hk) (by omega) hj).symm, (h.kp hk).pm.E⟩
  · exact OpI.ee (c_X8_saws_u σ P p d h.P12 hg) (c_X9_saws_u σ P p d h.P40 hg) rfl h.E
theorem op_worth {l : Launch} {D : DD} {ad : Nat → Nat} {σ : ST} (t : Int32) (h0 : RelE σ) : OpI (kC_worth l D ad t) (kM_worth l D ad t) σ := by
  obtain ⟨T, P, C, R, h⟩ := h0
  have hT6 := h.T6
  have hP6 := h.P6
  by_cases ht : isT (nI T) t
  · obtain ⟨j, hj, rfl⟩ := isT_of ht rfl (by omega)
    have hk : Kp σ (putS (felS (prepF σ C) (σ 12 2 ||| own1 (nI j))) (daysC (felS (prepF σ C) (σ 12 2 ||| own1 (nI j))) T P 30 (s0C σ))) := Kp.prep.trans (Kp.fel.trans Kp.put)
    refine OpI.eq (c_X8_worth_v σ T P C j h.T12 hT6 h.P12 hP6 h.C21 h.C6 h.cd hj) (c_X9_worth_v _ T P C j ((h.kp hk).MH (by omega)) hj (h.kp hk).nar) (fun v2 τ2 hq => ?_)
    obtain ⟨rfl, s, rfl⟩ := hq
    exact ⟨by rw [worth_eq h (kp40 hk) hj, sum_eq h (kp40 hk) (by omega)], (h.kp hk).pm.E⟩
  · exact OpI.ee (c_X8_worth_u σ T t h.T12 ht) (c_X9_worth_u σ T t h.T40 ht) rfl h.E
theorem op_odds {l : Launch} {D : DD} {ad : Nat → Nat} {σ : ST} (p n w : Int32) (h0 : RelE σ) : OpL (kC_odds l D ad p n w) (kM_odds l D ad p n w) σ := by
  obtain ⟨T, P, C, R, h⟩ := h0
  have hT6 := h.T6
  have hP6 := h.P6
  by_cases hg : isT (nI P) p ∧ ¬ n < 0 ∧ ¬ 8 < n ∧ ¬ w < 0 ∧ ¬ 1 < w
  · obtain ⟨j, hj, rfl⟩ := isT_of hg.1 rfl (by omega)
    obtain ⟨m, hm, rfl⟩ := nI_of hg.2.1
    obtain ⟨y, hy, rfl⟩ := nI_of hg.2.2.2.1
    have hm8 : m ≤ 8 := by
      rcases Nat.lt_or_ge 8 m with q2 | q2
      · exact absurd (nI_lt (a := 8) q2 hm) hg.2.2.1
      · exact q2
    have hy1 : y ≤ 1 := by
      rcases Nat.lt_or_ge 1 y with q2 | q2
      · exact absurd (nI_lt (a := 1) q2 hy) hg.2.2.2.2
      · exact q2
    refine OpL.qq (c_X8_odds_v σ T P C j m y h.T12 hT6 h.P12 hP6 h.C21 h.C6 h.cd hj hm8 hy1) (fun v τ hq => ?_)
    obtain ⟨rfl, hk⟩ := hq
    refine ⟨_, c_X9_odds_v τ T P C j m y ((h.kp hk).MH (h.PT (by omega))) hj hm8 hy1, fun v2 τ2 hq2 => ?_⟩
    obtain ⟨rfl, hk2⟩ := hq2
    refine ⟨?_, ((h.kp hk).km hk2).E⟩
    have hle := odM_le (σ := τ) (T := T) (P := P) (C := C) (p := j) (m := m) (2 ^ m)
    have hp2 := p2_b8 hm8
    obtain ⟨e1, e2⟩ := hv_eq m (odM τ T P C j m (2 ^ m)) hle
    rw [od_eq h (kp40 hk) hm8 hj]
    rcases (show y = 0 ∨ y = 1 by omega) with rfl | rfl
    · rw [if_pos rfl, ← e1, nI64 (ltM_lt (by omega) (by omega))]
    · rw [if_neg (by decide), ← e2, nI64 (ltM_lt (by omega) (by omega))]
  · exact OpL.ee (c_X8_odds_u σ P p n w h.P12 hg) (c_X9_odds_u σ P p n w h.P40 hg) rfl h.E
theorem op_green {l : Launch} {D : DD} {ad : Nat → Nat} {σ : ST} (x k : Int32) (h0 : RelE σ) : OpI (kC_green l D ad x k) (kM_green l D ad x k) σ := by
  obtain ⟨T, P, C, R, h⟩ := h0
  have hT6 := h.T6
  have hP6 := h.P6
  by_cases hx : isT 6 x
  · by_cases hk : k < -1
    · exact OpI.ee (c_X8_green_u σ x k hx hk) (c_X9_green_u σ x k hx hk) rfl h.E
    · by_cases hz : T = 0
      · exact OpI.ee (c_X8_green_s σ T x k hx hk h.T12 hz) (c_X9_green_s σ T x k hx hk h.T40 hz) rfl h.E
      · exact OpI.ee (c_X8_green_v σ T x k hx hk h.T12 hT6 (by omega)) (c_X9_green_v σ T x k hx hk h.T40 hT6 (by omega)) (green_eq h sm40).symm h.E
  · exact OpI.ee (c_X8_green_o σ x k hx) (c_X9_green_o σ x k hx) rfl h.E
theorem op_thief {l : Launch} {D : DD} {ad : Nat → Nat} {σ : ST} (d : Int32) (h0 : RelE σ) : OpI (kC_thief l D ad d) (kM_thief l D ad d) σ := by
  obtain ⟨T, P, C, R, h⟩ := h0
  have hT6 := h.T6
  have hP6 := h.P6
  by_cases hd : isT 30 d
  · obtain ⟨e, he, rfl⟩ := isT_of (N := 30) hd rfl (by decide)
    by_cases hz : T = 0
    · exact OpI.ee (c_X8_thief_s σ e T he h.T12 hz) (c_X9_thief_s σ e T he h.T40 hz) rfl h.E
    · refine OpI.qq (c_X8_thief_v σ T P C R e h.T12 hT6 h.P12 hP6 h.C21 h.C6 h.cd h.R26 h.R8 h.rp he (by omega)) (fun v τ hq => ?_)
      obtain ⟨rfl, hk⟩ := hq
      refine ⟨_, c_X9_thief_v τ T P C R e ((h.kp hk).MH (by omega)) h.C6 (h.kp hk).r9 (h.kp hk).R40 h.R8 (h.kp hk).rq he (by omega), fun v2 τ2 hq2 => ?_⟩
      obtain ⟨rfl, hk2⟩ := hq2
      exact ⟨(thief_eq h (kp40 hk) he).symm, ((h.kp hk).km hk2).E⟩
  · exact OpI.ee (c_X8_thief_u σ d hd) (c_X9_thief_u σ d hd) rfl h.E
theorem op_trace {l : Launch} {D : DD} {ad : Nat → Nat} {σ : ST} (h0 : RelE σ) : OpI (kC_trace l D ad ) (kM_trace l D ad ) σ := by
  obtain ⟨T, P, C, R, h⟩ := h0
  have hT6 := h.T6
  have hP6 := h.P6
  exact OpI.ee (c_X8_trace_v σ) (c_X9_trace_v σ) h.2.2.2.2.2.1.symm h.E
theorem op_fault {l : Launch} {D : DD} {ad : Nat → Nat} {σ : ST} (h0 : RelE σ) : OpI (kC_fault l D ad ) (kM_fault l D ad ) σ := by
  obtain ⟨T, P, C, R, h⟩ := h0
  have hT6 := h.T6
  have hP6 := h.P6
  exact OpI.ee (c_X8_fault_v σ) (c_X9_fault_v σ) h.2.2.2.2.2.2.1.symm h.E
theorem op_many {l : Launch} {D : DD} {ad : Nat → Nat} {σ : ST} (w : Int32) (h0 : RelE σ) : OpI (kC_many l D ad w) (kM_many l D ad w) σ := by
  obtain ⟨T, P, C, R, h⟩ := h0
  have hT6 := h.T6
  have hP6 := h.P6
  exact OpI.ee (c_X8_many_v σ w) (c_X9_many_v σ w) (by rw [h.T12, h.P12, h.C21, h.R26, h.T40, h.P40, h.C40, h.R40]) h.E
