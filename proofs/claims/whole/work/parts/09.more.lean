/-! more of the layer: a method's entry, rows of arrays that agree, truth as a number, loops -/
theorem Ct.of2 {l : Launch} {y : MethodName} {cc : ByteArray} {n : Nat} {ret : Option FieldType} {fr lo : Nat} {D : DD} {ad : Nat → Nat} {av : List Value} {σ : ST} {post : Option Value → ST → Prop} (lv : List Value) (hy : plainName y.cls = true) (hn : (lg_sl av).length ≤ n) (hlv : al lv = lv_args 0 av)
    (body : ∀ X : CT, Cx X y.cls cc ret fr lo → D = xD X → ad = xad X → l = xl X → n = xn X → Rt X post → V X 0 lv [] σ) : Ct l y cc n ret fr lo D ad av σ post := by
  intro sz
  refine Met.ofW (cc := cc) (maxL := n) (ret := ret) hy rfl ?_
  intro p e s m args below meth c s₁ B hml hv
  obtain ⟨rfl, hsz, hP, hK, hI⟩ := hv
  subst hsz
  have hts := atoms_spec (ws := (.code y cc n ret :: TT)) B.pre
  have hl := lv_entry av (n := n) hn
  rw [lg_entry_eq]
  exact body ((p, l, e, (headSpec (.code y cc n ret :: TT) (rmOf fr lo)).room), (s, m, av.toArray, below), (meth, c, 0, 0, MQ below (Qm D ad (Aof ad s.heap.size) post) av.toArray s 0 0 (Aof ad s.heap.size)), (D, ad, Aof ad s.heap.size, n))
    ⟨B.exec, B.bytes, hml, B.returns, B.notSynchronized, findClass_of_methodNamed B.named, fun w hw => hts w (List.mem_cons_of_mem _ hw), hK, hI, fun q h => Or.inr h, fun k hk => Or.inl ⟨k, hk, rfl⟩, Nat.le_refl _, Nat.le_refl _, Nat.le_refl _, Nat.le_refl _⟩
    rfl rfl rfl rfl rfl s.heap [] _ hP va_S.rf ⟨hl.1, hl.2.1, by rw [hlv]; exact hl.2.2⟩
section VMORE
variable {X : CT} {own : String} {cc : ByteArray} {ret : Option FieldType} {fr lo : Nat} {pc q : Nat} {lv st : List Value} {σ τ : ST}
theorem V_eq (h : σ = τ) (k : V X pc lv st τ) : V X pc lv st σ := h ▸ k
theorem arrV_congr {cA : ClassId} {n : Nat} {f g : Nat → Value} (h : ∀ i, i < n → f i = g i) : arrV cA n f = arrV cA n g := by
  unfold arrV
  congr 2
  funext j
  exact h j.val j.isLt
theorem V_arr_congr {k : Nat} {f g : Nat → Int32} (ha : akind k = 1 ∨ akind k = 2) (h : ∀ i, i < alen k → f i = g i) (kk : V X pc lv st (setc σ k g)) : V X pc lv st (setc σ k f) := by
  intro H locs ls hP hS hl
  refine kk H locs ls ?_ hS hl
  intro i q hq
  have hi : i < 68 := by have := (List.getElem?_eq_some_iff.mp hq).1; rwa [wAll_len] at this
  have h1 := hP i _ (wAll_at hi)
  rw [wAll_at hi] at hq
  rw [← Option.some.inj hq]
  by_cases hik : i = k
  · subst hik
    rw [setc_s] at h1 ⊢
    rcases ha with ha | ha
    · rw [cellF_i ha] at h1 ⊢
      refine Eq.trans h1 (congrArg some ?_)
      show vp_cell _ _ = vp_cell _ _
      rw [vp_cell_i, vp_cell_i]
      exact arrV_congr (fun j hj => by rw [h j hj])
    · rw [cellF_z ha] at h1 ⊢
      refine Eq.trans h1 (congrArg some ?_)
      show vp_cell _ _ = vp_cell _ _
      rw [vp_cell_i, vp_cell_i]
      exact arrV_congr (fun j hj => by rw [h j hj])
  · rw [setc_n hik] at h1 ⊢
    exact h1
end VMORE
def pI (P : Prop) [Decidable P] : Int32 := if P then 1 else 0
theorem pI_t {P : Prop} [Decidable P] (h : P) : pI P = 1 := if_pos h
theorem pI_f {P : Prop} [Decidable P] (h : ¬ P) : pI P = 0 := if_neg h
theorem pI_nar {P : Prop} [Decidable P] : narrow .boolean (.int (pI P)) = .int (pI P) := by
  by_cases h : P
  · rw [pI_t h]; rfl
  · rw [pI_f h]; rfl
theorem pI_vp {P : Prop} [Decidable P] : vp_nar .boolean (pI P) = pI P := by
  by_cases h : P
  · rw [pI_t h]; rfl
  · rw [pI_f h]; rfl
theorem pI_0 {P : Prop} [Decidable P] : pI P = 0 ↔ ¬ P := by
  by_cases h : P
  · rw [pI_t h]; exact ⟨fun q => absurd q (by decide), fun q => absurd h q⟩
  · rw [pI_f h]; exact ⟨fun _ => h, fun _ => rfl⟩
theorem pI_1 {P : Prop} [Decidable P] : pI P = 1 ↔ P := by
  by_cases h : P
  · rw [pI_t h]; exact ⟨fun _ => h, fun _ => rfl⟩
  · rw [pI_f h]; exact ⟨fun q => absurd q (by decide), fun q => absurd q h⟩
theorem pI_congr {P Q : Prop} [Decidable P] [Decidable Q] (h : P ↔ Q) : pI P = pI Q := by
  by_cases hp : P
  · rw [pI_t hp, pI_t (h.mp hp)]
  · rw [pI_f hp, pI_f (fun q => hp (h.mpr q))]
abbrev bit (x i : Int32) : Prop := ¬ ((x >>> (i &&& 31)) &&& 1 = 0)
abbrev isT (n t : Int32) : Prop := ¬ t < 0 ∧ ¬ n ≤ t
section VIFP
variable {X : CT} {own : String} {cc : ByteArray} {ret : Option FieldType} {fr lo : Nat} {pc q : Nat} {lv st : List Value} {σ τ : ST}
theorem V_ifp_eq (C : Cx X own cc ret fr lo) {P : Prop} [Decidable P] {off : Int} {tgt : Nat} (hq : pc + 3 = q) (ht : (pc : Int) + off = (tgt : Int)) (hdg : decode cc pc = .ok (.ifCond .eq off, 3)) (kt : ¬ P → V X tgt lv st σ) (kf : P → V X q lv st σ) : V X pc lv (.int (pI P) :: st) σ := V_if_eq C hq ht hdg (fun h => kt (pI_0.mp h)) (fun h => kf (Decidable.of_not_not (fun n => h (pI_0.mpr n))))
theorem V_ifp_ne (C : Cx X own cc ret fr lo) {P : Prop} [Decidable P] {off : Int} {tgt : Nat} (hq : pc + 3 = q) (ht : (pc : Int) + off = (tgt : Int)) (hdg : decode cc pc = .ok (.ifCond .ne off, 3)) (kt : P → V X tgt lv st σ) (kf : ¬ P → V X q lv st σ) : V X pc lv (.int (pI P) :: st) σ := V_if_ne C hq ht hdg (fun h => kt (Decidable.of_not_not (fun n => h (pI_0.mpr n)))) (fun h => kf (pI_0.mp h))
theorem V_ifp_eq_t (C : Cx X own cc ret fr lo) {P : Prop} [Decidable P] {off : Int} {tgt : Nat} (h : ¬ P) (ht : (pc : Int) + off = (tgt : Int)) (hdg : decode cc pc = .ok (.ifCond .eq off, 3)) (kt : V X tgt lv st σ) : V X pc lv (.int (pI P) :: st) σ := V_ifp_eq C rfl ht hdg (fun _ => kt) (fun n => absurd n h)
theorem V_ifp_eq_f (C : Cx X own cc ret fr lo) {P : Prop} [Decidable P] {off : Int} {tgt : Nat} (h : P) (hq : pc + 3 = q) (ht : (pc : Int) + off = (tgt : Int)) (hdg : decode cc pc = .ok (.ifCond .eq off, 3)) (kf : V X q lv st σ) : V X pc lv (.int (pI P) :: st) σ := V_ifp_eq C hq ht hdg (fun n => absurd h n) (fun _ => kf)
theorem V_ifp_ne_t (C : Cx X own cc ret fr lo) {P : Prop} [Decidable P] {off : Int} {tgt : Nat} (h : P) (ht : (pc : Int) + off = (tgt : Int)) (hdg : decode cc pc = .ok (.ifCond .ne off, 3)) (kt : V X tgt lv st σ) : V X pc lv (.int (pI P) :: st) σ := V_ifp_ne C rfl ht hdg (fun _ => kt) (fun n => absurd h n)
theorem V_ifp_ne_f (C : Cx X own cc ret fr lo) {P : Prop} [Decidable P] {off : Int} {tgt : Nat} (h : ¬ P) (hq : pc + 3 = q) (ht : (pc : Int) + off = (tgt : Int)) (hdg : decode cc pc = .ok (.ifCond .ne off, 3)) (kf : V X q lv st σ) : V X pc lv (.int (pI P) :: st) σ := V_ifp_ne C hq ht hdg (fun n => absurd n h) (fun _ => kf)
end VIFP
/-- a loop that is gone through n times: from its end to its beginning -/
theorem loopN {P : Nat → Prop} (n : Nat) (hx : P n) (hs : ∀ i, i < n → P (i + 1) → P i) : ∀ j, j ≤ n → P j := by
  intro j hj
  obtain ⟨d, rfl⟩ : ∃ d, n = j + d := ⟨n - j, by omega⟩
  clear hj
  induction d generalizing j with
  | zero => exact hx
  | succ d ih =>
    have h1 : P (j + 1) := ih (j + 1) (by rw [show j + 1 + d = j + (d + 1) by omega]; exact hx) (fun i hi => hs i (by omega))
    exact hs j (by omega) h1
theorem nI_inc {a : Nat} : nI a + Int32.ofInt 1 = nI (a + 1) := nI_1 a
theorem isT_of {n t : Int32} {N : Nat} (h : isT n t) (hn : n = nI N) (hN : N < 2 ^ 31) : ∃ j : Nat, j < N ∧ t = nI j := by
  obtain ⟨j, hj, rfl⟩ := nI_of h.1
  refine ⟨j, ?_, rfl⟩
  have := h.2
  rw [hn, nI_leI hN hj] at this
  omega
theorem isT_nI {j N : Nat} (h : j < N) (hN : N < 2 ^ 31) : isT (nI N) (nI j) := ⟨nI_pos (by omega), nI_ge h hN⟩
