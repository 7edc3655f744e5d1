/-! more of the layer: a method's entry, rows of arrays that agree, truth as a number, loops -/
theorem Ct.of2 {l : Launch} {y : MethodName} {cc : ByteArray} {n : Nat} {ret : Option FieldType} {fr lo : Nat} {D : DD} {ad : Nat → Nat} {av : List Value} {σ : ST} {post : Option Value → ST → Prop} (lv : List Value) (hy : plainName y.cls = true) (hn : (lg_sl av).length ≤ n) (hlv : al lv = lv_args 0 av)
    (body : ∀ X : CT, Cx X y.cls cc ret fr lo → D = xD X → ad = xad X → l = xl X → n = xn X → Rt X post → V X 0 lv [] σ) : Ct l y cc n ret fr lo D ad av σ post := by
  intro sz
  refine Met.ofW (cc := cc) (maxL := n) (ret := ret) hy rfl ?_
  intro p e s m args below meth c s₁ B hml hv
  obtain ⟨rfl, hsz, hP, hK, hI, hSS⟩ := hv
  subst hsz
  have hts := atoms_spec (ws := (.code y cc n ret :: TT)) B.pre
  have hl := lv_entry av (n := n) hn
  rw [lg_entry_eq]
  exact body ((p, l, e, (headSpec (.code y cc n ret :: TT) (rmOf fr lo)).room), (s, m, av.toArray, below), (meth, c, 0, 0, MQ below (Qm D ad (Aof D ad s.heap.size) post) av.toArray s 0 0 (Aof D ad s.heap.size)), (D, ad, Aof D ad s.heap.size, n))
    ⟨B.exec, B.bytes, hml, B.returns, B.notSynchronized, findClass_of_methodNamed B.named, fun w hw => hts w (List.mem_cons_of_mem _ hw), hK, ⟨hI, hSS.1, hSS.2.1, hSS.out⟩, fun q h => Or.inr h, fun k hk => Or.inl ⟨k, hk, rfl⟩, Nat.le_refl _, Nat.le_refl _, Nat.le_refl _, Nat.le_refl _⟩
    rfl rfl rfl rfl rfl s.heap [] _ hP va_S.rf ⟨hl.1, hl.2.1, by rw [hlv]; exact hl.2.2⟩
section VMORE
variable {X : CT} {own : String} {cc : ByteArray} {ret : Option FieldType} {fr lo : Nat} {pc q : Nat} {lv st : List Value} {σ τ : ST}
theorem V_eq (h : σ = τ) (k : V X pc lv st τ) : V X pc lv st σ := h ▸ k
theorem arrV_congr {cA : ClassId} {n : Nat} {f g : Nat → Value} (h : ∀ i, i < n → f i = g i) : arrV cA n f = arrV cA n g := by
  unfold arrV
  congr 2
  funext j
  exact h j.val j.isLt
theorem V_arr_congr {k : Nat} {f g : Nat → Int32} (ha : akind k = 1 ∨ akind k = 2) (h : ∀ i, i < alen k → f i = g i) (kk : V X pc lv st (setc σ k g)) : V X pc lv st (setc σ k f) := by
  intro H locs ls hP hS hl
  refine kk H locs ls ?_ hS hl
  intro i q hq
  have hi : i < 44 + fl (xD X) := by have := (List.getElem?_eq_some_iff.mp hq).1; rwa [wAll_len] at this
  have h1 := hP i _ (wAll_at hi)
  rw [wAll_at hi] at hq
  rw [← Option.some.inj hq]
  by_cases hik : i = k
  · subst hik
    rw [setc_s] at h1 ⊢
    rcases ha with ha | ha
    · rw [cellF_i ha] at h1 ⊢
      refine Eq.trans h1 (congrArg some ?_)
      show vp_cell _ _ = vp_cell _ _
      rw [vp_cell_i, vp_cell_i]
      exact arrV_congr (fun j hj => by rw [h j hj])
    · rw [cellF_z ha] at h1 ⊢
      refine Eq.trans h1 (congrArg some ?_)
      show vp_cell _ _ = vp_cell _ _
      rw [vp_cell_i, vp_cell_i]
      exact arrV_congr (fun j hj => by rw [h j hj])
  · rw [setc_n hik] at h1 ⊢
    exact h1
end VMORE
def pI (P : Prop) [Decidable P] : Int32 := if P then 1 else 0
theorem pI_t {P : Prop} [Decidable P] (h : P) : pI P = 1 := if_pos h
theorem pI_f {P : Prop} [Decidable P] (h : ¬ P) : pI P = 0 := if_neg h
theorem pI_nar {P : Prop} [Decidable P] : narrow .boolean (.int (pI P)) = .int (pI P) := by
  by_cases h : P
  · rw [pI_t h]; rfl
  · rw [pI_f h]; rfl
theorem pI_vp {P : Prop} [Decidable P] : vp_nar .boolean (pI P) = pI P := by
  by_cases h : P
  · rw [pI_t h]; rfl
  · rw [pI_f h]; rfl
theorem pI_0 {P : Prop} [Decidable P] : pI P = 0 ↔ ¬ P := by
  by_cases h : P
  · rw [pI_t h]; exact ⟨fun q => absurd q (by decide), fun q => absurd h q⟩
  · rw [pI_f h]; exact ⟨fun _ => h, fun _ => rfl⟩
theorem pI_1 {P : Prop} [Decidable P] : pI P = 1 ↔ P := by
  by_cases h : P
  · rw [pI_t h]; exact ⟨fun _ => h, fun _ => rfl⟩
  · rw [pI_f h]; exact ⟨fun q => absurd q (by decide), fun q => absurd q h⟩
theorem pI_congr {P Q : Prop} [Decidable P] [Decidable Q] (h : P ↔ Q) : pI P = pI Q := by
  by_cases hp : P
  · rw [pI_t hp, pI_t (h.mp hp)]
  · rw [pI_f hp, pI_f (fun q => hp (h.mpr q))]
abbrev bit (x i : Int32) : Prop := ¬ ((x >>> (i &&& 31)) &&& 1 = 0)
abbrev isT (n t : Int32) : Prop := ¬ t < 0 ∧ ¬ n ≤ t
section VIFP
variable {X : CT} {own : String} {cc : ByteArray} {ret : Option FieldType} {fr lo : Nat} {pc q : Nat} {lv st : List Value} {σ τ : ST}
theorem V_ifp_eq (C : Cx X own cc ret fr lo) {P : Prop} [Decidable P] {off : Int} {tgt : Nat} (hq : pc + 3 = q) (ht : (pc : Int) + off = (tgt : Int)) (hdg : decode cc pc = .ok (.ifCond .eq off, 3)) (kt : ¬ P → V X tgt lv st σ) (kf : P → V X q lv st σ) : V X pc lv (.int (pI P) :: st) σ := V_if_eq C hq ht hdg (fun h => kt (pI_0.mp h)) (fun h => kf (Decidable.of_not_not (fun n => h (pI_0.mpr n))))
theorem V_ifp_ne (C : Cx X own cc ret fr lo) {P : Prop} [Decidable P] {off : Int} {tgt : Nat} (hq : pc + 3 = q) (ht : (pc : Int) + off = (tgt : Int)) (hdg : decode cc pc = .ok (.ifCond .ne off, 3)) (kt : P → V X tgt lv st σ) (kf : ¬ P → V X q lv st σ) : V X pc lv (.int (pI P) :: st) σ := V_if_ne C hq ht hdg (fun h => kt (Decidable.of_not_not (fun n => h (pI_0.mpr n)))) (fun h => kf (pI_0.mp h))
theorem V_ifp_eq_t (C : Cx X own cc ret fr lo) {P : Prop} [Decidable P] {off : Int} {tgt : Nat} (h : ¬ P) (ht : (pc : Int) + off = (tgt : Int)) (hdg : decode cc pc = .ok (.ifCond .eq off, 3)) (kt : V X tgt lv st σ) : V X pc lv (.int (pI P) :: st) σ := V_ifp_eq C rfl ht hdg (fun _ => kt) (fun n => absurd n h)
theorem V_ifp_eq_f (C : Cx X own cc ret fr lo) {P : Prop} [Decidable P] {off : Int} {tgt : Nat} (h : P) (hq : pc + 3 = q) (ht : (pc : Int) + off = (tgt : Int)) (hdg : decode cc pc = .ok (.ifCond .eq off, 3)) (kf : V X q lv st σ) : V X pc lv (.int (pI P) :: st) σ := V_ifp_eq C hq ht hdg (fun n => absurd h n) (fun _ => kf)
theorem V_ifp_ne_t (C : Cx X own cc ret fr lo) {P : Prop} [Decidable P] {off : Int} {tgt : Nat} (h : P) (ht : (pc : Int) + off = (tgt : Int)) (hdg : decode cc pc = .ok (.ifCond .ne off, 3)) (kt : V X tgt lv st σ) : V X pc lv (.int (pI P) :: st) σ := V_ifp_ne C rfl ht hdg (fun _ => kt) (fun n => absurd h n)
theorem V_ifp_ne_f (C : Cx X own cc ret fr lo) {P : Prop} [Decidable P] {off : Int} {tgt : Nat} (h : ¬ P) (hq : pc + 3 = q) (ht : (pc : Int) + off = (tgt : Int)) (hdg : decode cc pc = .ok (.ifCond .ne off, 3)) (kf : V X q lv st σ) : V X pc lv (.int (pI P) :: st) σ := V_ifp_ne C hq ht hdg (fun n => absurd n h) (fun _ => kf)
end VIFP
/-- a loop that is gone through n times: from its end to its beginning -/
theorem loopN {P : Nat → Prop} (n : Nat) (hx : P n) (hs : ∀ i, i < n → P (i + 1) → P i) : ∀ j, j ≤ n → P j := by
  intro j hj
  obtain ⟨d, rfl⟩ : ∃ d, n = j + d := ⟨n - j, by omega⟩
  clear hj
  induction d generalizing j with
  | zero => exact hx
  | succ d ih =>
    have h1 : P (j + 1) := ih (j + 1) (by rw [show j + 1 + d = j + (d + 1) by omega]; exact hx) (fun i hi => hs i (by omega))
    exact hs j (by omega) h1
theorem nI_inc {a : Nat} : nI a + Int32.ofInt 1 = nI (a + 1) := nI_1 a
theorem isT_of {n t : Int32} {N : Nat} (h : isT n t) (hn : n = nI N) (hN : N < 2 ^ 31) : ∃ j : Nat, j < N ∧ t = nI j := by
  obtain ⟨j, hj, rfl⟩ := nI_of h.1
  refine ⟨j, ?_, rfl⟩
  have := h.2
  rw [hn, nI_leI hN hj] at this
  omega
theorem isT_nI {j N : Nat} (h : j < N) (hN : N < 2 ^ 31) : isT (nI N) (nI j) := ⟨nI_pos (by omega), nI_ge h hN⟩
theorem V_topi {X : CT} {pc : Nat} {lv st : List Value} {σ : ST} {x : Int32} (k : ∀ y : Int32, y = x → V X pc lv (.int y :: st) σ) : V X pc lv (.int x :: st) σ := k x rfl
def ush (x y : Int32) : Int32 := (x.toUInt32 >>> (y.toUInt32 &&& Int32.toUInt32 31)).toInt32
def pc1 (x : Int32) : Int32 := x - (ush x 1 &&& 1431655765)
def pc2 (x : Int32) : Int32 := (x &&& 858993459) + (ush x 2 &&& 858993459)
def pc3 (x : Int32) : Int32 := (x + ush x 4) &&& 252645135
def pc4 (x : Int32) : Int32 := x + ush x 8
def pc5 (x : Int32) : Int32 := (x + ush x 16) &&& 63
def popc (x : Int32) : Int32 := pc5 (pc4 (pc3 (pc2 (pc1 x))))
theorem setc_id {σ : ST} {k : Nat} : setc σ k (σ k) = σ := funext fun j => by
  by_cases h : j = k
  · rw [h, setc_s]
  · rw [setc_n h]
theorem setc_setc {σ : ST} {k : Nat} {f g : Nat → Int32} : setc (setc σ k f) k g = setc σ k g := funext fun j => by
  by_cases h : j = k
  · rw [h, setc_s, setc_s]
  · rw [setc_n h, setc_n h, setc_n h]
theorem setc_comm {σ : ST} {k j : Nat} {f g : Nat → Int32} (h : k ≠ j) : setc (setc σ k f) j g = setc (setc σ j g) k f := funext fun t => by
  by_cases h1 : t = k
  · subst h1; rw [setc_n h, setc_s, setc_s]
  · by_cases h2 : t = j
    · subst h2; rw [setc_s, setc_n h1, setc_s]
    · rw [setc_n h2, setc_n h1, setc_n h1, setc_n h2]
/-- the first i places by f, the others by g -/
def pre (i : Nat) (f g : Nat → Int32) : Nat → Int32 := fun t => if t < i then f t else g t
theorem pre_lt {i t : Nat} {f g : Nat → Int32} (h : t < i) : pre i f g t = f t := if_pos h
theorem pre_ge {i t : Nat} {f g : Nat → Int32} (h : ¬ t < i) : pre i f g t = g t := if_neg h
theorem pre_0 {f g : Nat → Int32} : pre 0 f g = g := funext fun t => if_neg (Nat.not_lt_zero t)
theorem pre_step {i : Nat} {f g : Nat → Int32} {x : Int32} (h : x = f i) : upd (pre i f g) i x = pre (i + 1) f g := funext fun t => by
  unfold upd
  by_cases h1 : t = i
  · subst h1
    rw [if_pos rfl, pre_lt (Nat.lt_succ_self t), h]
  · rw [if_neg h1]
    by_cases h2 : t < i
    · rw [pre_lt h2, pre_lt (by omega)]
    · rw [pre_ge h2, pre_ge (by omega)]
theorem pre_keep {i : Nat} {f g : Nat → Int32} (h : f i = g i) : pre i f g = pre (i + 1) f g := funext fun t => by
  by_cases h1 : t = i
  · subst h1
    rw [pre_ge (Nat.lt_irrefl t), pre_lt (Nat.lt_succ_self t), h]
  · by_cases h2 : t < i
    · rw [pre_lt h2, pre_lt (by omega)]
    · rw [pre_ge h2, pre_ge (by omega)]
section VSW
variable {X : CT} {own : String} {cc : ByteArray} {ret : Option FieldType} {fr lo : Nat} {pc q : Nat} {lv st : List Value} {σ : ST}
theorem V_look2 (C : Cx X own cc ret fr lo) {dflt a oa b ob : Int} {len ta tb td : Nat} {x va vb : Int32} (hva : va.toInt = a) (hvb : vb.toInt = b) (hp : (([(a, oa), (b, ob)] : List (Int × Int)).zip [(b, ob)]).all (fun (a, next) => a.1 < next.1) = true) (h1 : (pc : Int) + oa = (ta : Int)) (h2 : (pc : Int) + ob = (tb : Int)) (h3 : (pc : Int) + dflt = (td : Int)) (hdg : decode cc pc = .ok (.lookupswitch dflt #[(a, oa), (b, ob)], len)) (k1 : x = va → V X ta lv st σ) (k2 : x = vb → V X tb lv st σ) (k3 : ¬ x = va → ¬ x = vb → V X td lv st σ) : V X pc lv (.int x :: st) σ := by
  by_cases e1 : x = va
  · refine V_lookup C (off := oa) hp ?_ h1 hdg (k1 e1)
    rw [e1, hva]
    simp [Op.lookupswitch.offset]
  · by_cases e2 : x = vb
    · refine V_lookup C (off := ob) hp ?_ h2 hdg (k2 e2)
      show Op.lookupswitch.offset [(a, oa), (b, ob)] dflt x.toInt = ob
      rw [lv_osw e1 hva, e2, hvb]
      simp [Op.lookupswitch.offset]
    · refine V_lookup C (off := dflt) hp ?_ h3 hdg (k3 e1 e2)
      show Op.lookupswitch.offset [(a, oa), (b, ob)] dflt x.toInt = dflt
      rw [lv_osw e1 hva, lv_osw e2 hvb]
      simp [Op.lookupswitch.offset]
theorem V_tab (C : Cx X own cc ret fr lo) {dflt hi : Int} {offs : Array Int} {len n td : Nat} {x : Int32} (tg : Nat → Nat) (hn : hi + 1 = (n : Int)) (hn2 : n < 2 ^ 31) (htg : ∀ j, j < n → ∃ o, offs[j]? = some o ∧ (pc : Int) + o = (tg j : Int)) (h3 : (pc : Int) + dflt = (td : Int)) (hdg : decode cc pc = .ok (.tableswitch dflt 0 hi offs, len)) (k : ∀ j : Nat, j < n → x = nI j → V X (tg j) lv st σ) (kd : (∀ j : Nat, j < n → ¬ x = nI j) → V X td lv st σ) : V X pc lv (.int x :: st) σ := by
  by_cases h : ∃ j : Nat, j < n ∧ x = nI j
  · obtain ⟨j, hj, rfl⟩ := h
    obtain ⟨o, ho, ht⟩ := htg j hj
    have e : (nI j).toInt = (j : Int) := nI_toInt (by omega)
    refine V_tableIn C (off := o) (by rw [e]; omega) (by rw [e]; omega) ?_ ht hdg (k j hj rfl)
    rw [e, show ((j : Int) - 0).toNat = j by omega]
    exact ho
  · refine V_tableOut C ?_ h3 hdg (kd fun j hj e => h ⟨j, hj, e⟩)
    by_cases h0 : x.toInt < 0
    · exact Or.inl h0
    · refine Or.inr ?_
      rcases Int.lt_or_le hi x.toInt with h2 | h2
      · exact h2
      · exfalso
        refine h ⟨x.toInt.toNat, by omega, ?_⟩
        refine Int32.toInt_inj.mp ?_
        rw [nI_toInt (by omega)]
        omega
end VSW
section VSW3
variable {X : CT} {own : String} {cc : ByteArray} {ret : Option FieldType} {fr lo : Nat} {pc q : Nat} {lv st : List Value} {σ : ST}
theorem V_look3 (C : Cx X own cc ret fr lo) {dflt a oa b ob d od : Int} {len ta tb tc td : Nat} {x va vb vd : Int32} (hva : va.toInt = a) (hvb : vb.toInt = b) (hvd : vd.toInt = d) (hp : (([(a, oa), (b, ob), (d, od)] : List (Int × Int)).zip [(b, ob), (d, od)]).all (fun (a, next) => a.1 < next.1) = true) (h1 : (pc : Int) + oa = (ta : Int)) (h2 : (pc : Int) + ob = (tb : Int)) (h4 : (pc : Int) + od = (tc : Int)) (h3 : (pc : Int) + dflt = (td : Int)) (hdg : decode cc pc = .ok (.lookupswitch dflt #[(a, oa), (b, ob), (d, od)], len)) (k1 : x = va → V X ta lv st σ) (k2 : x = vb → V X tb lv st σ) (k4 : x = vd → V X tc lv st σ) (k3 : ¬ x = va → ¬ x = vb → ¬ x = vd → V X td lv st σ) : V X pc lv (.int x :: st) σ := by
  by_cases e1 : x = va
  · refine V_lookup C (off := oa) hp ?_ h1 hdg (k1 e1)
    rw [e1, hva]
    simp [Op.lookupswitch.offset]
  · by_cases e2 : x = vb
    · refine V_lookup C (off := ob) hp ?_ h2 hdg (k2 e2)
      show Op.lookupswitch.offset [(a, oa), (b, ob), (d, od)] dflt x.toInt = ob
      rw [lv_osw e1 hva, e2, hvb]
      simp [Op.lookupswitch.offset]
    · by_cases e4 : x = vd
      · refine V_lookup C (off := od) hp ?_ h4 hdg (k4 e4)
        show Op.lookupswitch.offset [(a, oa), (b, ob), (d, od)] dflt x.toInt = od
        rw [lv_osw e1 hva, lv_osw e2 hvb, e4, hvd]
        simp [Op.lookupswitch.offset]
      · refine V_lookup C (off := dflt) hp ?_ h3 hdg (k3 e1 e2 e4)
        show Op.lookupswitch.offset [(a, oa), (b, ob), (d, od)] dflt x.toInt = dflt
        rw [lv_osw e1 hva, lv_osw e2 hvb, lv_osw e4 hvd]
        simp [Op.lookupswitch.offset]
end VSW3
theorem V_weak4 {X : CT} {pc : Nat} {a0 a1 a2 a3 : Value} {st : List Value} {σ : ST} (k : V X pc [a0, a1, a2, .float 0] st σ) : V X pc [a0, a1, a2, a3] st σ := fun H locs ls hP hS hl => k H locs ls hP hS (LV.of hl fun i v hi hd => mem_al.mpr ⟨by
  have : i < 4 := (List.getElem?_eq_some_iff.mp hi).1
  have h2 : i = 0 ∨ i = 1 ∨ i = 2 ∨ i = 3 := by omega
  rcases h2 with rfl | rfl | rfl | rfl
  · exact hi
  · exact hi
  · exact hi
  · cases hi; exact absurd hd (by decide), hd⟩)
