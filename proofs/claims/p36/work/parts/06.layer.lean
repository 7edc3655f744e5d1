/-! THE LAYER: one world of 44 cells (0 .. 39 the class, 40 .. 43 the arrays of the law), with a flag of one more (44, the row r); the script beside it, read alone; a state says for each cell what stands at each place -/
abbrev ST : Type := Nat → Nat → Int32
abbrev DD : Type := va_G × (ClassId × (ClassId × (ClassId × (Nat × (Nat × (Nat × (Nat → Int32)))))))
/-- is there the row r; the script: its cell, how many, its ints -/
def fl (D : DD) : Nat := D.2.2.2.2.1
def sB (D : DD) : Nat := D.2.2.2.2.2.1
def sN (D : DD) : Nat := D.2.2.2.2.2.2.1
def sV (D : DD) : Nat → Int32 := D.2.2.2.2.2.2.2
theorem lt44 {k n : Nat} (h : k < 44) : k < 44 + n := by omega
def setc (σ : ST) (k : Nat) (f : Nat → Int32) : ST := fun j => if j = k then f else σ j
def setf (σ : ST) (k i : Nat) (v : Int32) : ST := setc σ k (upd (σ k) i v)
theorem setc_s {σ : ST} {k : Nat} {f : Nat → Int32} : setc σ k f k = f := if_pos rfl
theorem setc_n {σ : ST} {k j : Nat} {f : Nat → Int32} (h : j ≠ k) : setc σ k f j = σ j := if_neg h
def akind (k : Nat) : Nat := ([0,0,0,1,0,1,0,1,0,1, 0,1,0,1,1,1,1,1,1,1, 1,0,1,1,1,1,0,1,1,2, 0,1,1,1,1,1,1,0,1,0, 1,1,1,1,1] : List Nat).getD k 0
def alen (k : Nat) : Nat := ([0,0,0,50,0,50,0,50,0,50, 0,50,0,6,6,6,6,6,6,6, 30,0,30,30,6,6,0,8,8,8, 0,30,30,30,6,6,6,0,4,0, 48,30,30,30,18] : List Nat).getD k 0
def shObj (ad : Nat → Nat) (k : Nat) (g : Nat → Int32) : va_E := .inr (5, [.ref (ad (k + 1)), .int (g 1), .int (g 2), .int (g 3)])
def objF (D : DD) (ad : Nat → Nat) (k : Nat) (g : Nat → Int32) : va_E := match k with
  | 0 => .inr (8, [.ref (ad 1), .ref (ad 10), .ref (ad 12), .ref (ad 21), .ref (ad 26), .ref (ad 30), .ref (ad 37), .ref (ad 39), .int (g 8)])
  | 1 => .inl (D.2.2.2.1, 4, .inr (.inr (.inr (.inr (fun i => if i < 4 then some (ad (2 + 2 * i)) else none)))))
  | 10 => .inr (6, [.ref (ad 11), .int (g 1), .int (g 2), .int (g 3)])
  | 12 => .inr (1, [.int (g 0), .int (g 1), .int (g 2), .ref (ad 13), .ref (ad 14), .ref (ad 15), .ref (ad 16), .ref (ad 17), .ref (ad 18), .ref (ad 19), .ref (ad 20)])
  | 21 => .inr (7, [.ref (ad 22), .ref (ad 23), .ref (ad 24), .ref (ad 25), .int (g 4), .int (g 5)])
  | 26 => .inr (2, [.ref (ad 27), .ref (ad 28), .ref (ad 29), .int (g 3)])
  | 30 => .inr (4, [.ref (ad 12), .ref (ad 31), .ref (ad 32), .ref (ad 33), .int (g 4), .int (g 5), .ref (ad 34), .ref (ad 35), .ref (ad 36), .int (g 9)])
  | 37 => .inr (3, [.ref (ad 12), .ref (ad 30), .ref (ad 38)])
  | 39 => .inr (0, [.int (g 0)])
  | _ => shObj ad k g
def cellF (D : DD) (ad : Nat → Nat) (k : Nat) (g : Nat → Int32) : va_E := if akind k = 1 then .inl (D.2.1, alen k, .inl g) else if akind k = 2 then .inl (D.2.2.1, alen k, .inl g) else objF D ad k g
theorem cellF_i {D : DD} {ad : Nat → Nat} {k : Nat} {g : Nat → Int32} (h : akind k = 1) : cellF D ad k g = .inl (D.2.1, alen k, .inl g) := if_pos h
theorem cellF_z {D : DD} {ad : Nat → Nat} {k : Nat} {g : Nat → Int32} (h : akind k = 2) : cellF D ad k g = .inl (D.2.2.1, alen k, .inl g) := by
  unfold cellF
  rw [if_neg (by rw [h]; decide), if_pos h]
theorem cellF_o {D : DD} {ad : Nat → Nat} {k : Nat} {g : Nat → Int32} (h : akind k = 0) : cellF D ad k g = objF D ad k g := by
  unfold cellF
  rw [if_neg (by rw [h]; decide), if_neg (by rw [h]; decide)]
theorem sh_at {D : DD} {ad : Nat → Nat} {j : Nat} {g : Nat → Int32} (h : j < 4) : cellF D ad (2 + 2 * j) g = shObj ad (2 + 2 * j) g := by
  have : j = 0 ∨ j = 1 ∨ j = 2 ∨ j = 3 := by omega
  rcases this with rfl | rfl | rfl | rfl <;> rfl
theorem sh_ak {j : Nat} (h : j < 4) : akind (2 + 2 * j + 1) = 1 := by
  have : j = 0 ∨ j = 1 ∨ j = 2 ∨ j = 3 := by omega
  rcases this with rfl | rfl | rfl | rfl <;> rfl
theorem sh_al {j : Nat} (h : j < 4) : alen (2 + 2 * j + 1) = 50 := by
  have : j = 0 ∨ j = 1 ∨ j = 2 ∨ j = 3 := by omega
  rcases this with rfl | rfl | rfl | rfl <;> rfl
def wAll (D : DD) (ad : Nat → Nat) (σ : ST) : va_W := (List.range (44 + fl D)).map (fun k => (ad k, cellF D ad k (σ k)))
theorem wAll_at {D : DD} {ad : Nat → Nat} {σ : ST} {k : Nat} (h : k < 44 + fl D) : (wAll D ad σ)[k]? = some (ad k, cellF D ad k (σ k)) := by
  unfold wAll
  rw [List.getElem?_map, List.getElem?_range h]
  rfl
theorem wAll_len {D : DD} {ad : Nat → Nat} {σ : ST} : (wAll D ad σ).length = 44 + fl D := by
  unfold wAll
  rw [List.length_map, List.length_range]
theorem wAll_set {D : DD} {ad : Nat → Nat} {σ : ST} {k : Nat} {f : Nat → Int32} (h : k < 44 + fl D) : (wAll D ad σ).set k (ad k, cellF D ad k f) = wAll D ad (setc σ k f) := by
  apply List.ext_getElem?
  intro i
  by_cases hi : i < 44 + fl D
  · by_cases hik : i = k
    · subst hik
      rw [List.getElem?_set_self (by rw [wAll_len]; exact h), wAll_at h, setc_s]
    · rw [List.getElem?_set_ne (Ne.symm hik), wAll_at hi, wAll_at hi, setc_n hik]
  · rw [List.getElem?_eq_none (by rw [List.length_set, wAll_len]; omega), List.getElem?_eq_none (by rw [wAll_len]; omega)]
def Inj (D : DD) (ad : Nat → Nat) : Prop := ∀ i j, i < 44 + fl D → j < 44 + fl D → ad i = ad j → i = j
theorem wAll_D {D : DD} {ad : Nat → Nat} {σ : ST} {A : Nat → Prop} (hI : Inj D ad) (hA : ∀ k, k < 44 + fl D → A (ad k)) : va_D A (wAll D ad σ) := by
  have lt : ∀ {i : Nat} {p : Nat × va_E}, (wAll D ad σ)[i]? = some p → i < 44 + fl D ∧ p.1 = ad i := by
    intro i p h
    have hl : i < 44 + fl D := by have := (List.getElem?_eq_some_iff.mp h).1; rwa [wAll_len] at this
    rw [wAll_at hl] at h
    exact ⟨hl, by rw [← Option.some.inj h]⟩
  refine ⟨fun i j p q hi hj hpq => ?_, fun k q hk => ?_⟩
  · obtain ⟨l1, e1⟩ := lt hi
    obtain ⟨l2, e2⟩ := lt hj
    exact hI i j l1 l2 (by rw [← e1, ← e2, hpq])
  · obtain ⟨l1, e1⟩ := lt hk
    rw [e1]
    exact hA k l1
def Aof (D : DD) (ad : Nat → Nat) (sz : Nat) : Nat → Prop := fun q => (∃ k, k < 44 + fl D ∧ q = ad k) ∨ sz ≤ q
def tysOf (D : DD) : List (ClassId × FieldType) := [(D.2.1, .int), (D.2.2.1, .boolean), (D.2.2.2.1, .object RX5)]
def KK (D : DD) (U : State) : Prop := va_K D.1 vwCl (tysOf D) U ∧ va_Nw (.methodLinkNest RX1 75 yX8_isIn RX8) U ∧ va_Nw (.methodLinkNest RX4 73 yX8_isIn RX8) U ∧ va_Nw (.methodLinkNest RX6 50 yX8_isDay RX8) U
theorem KK.warm {D : DD} {s U : State} (h : KK D s) (hW : s.WarmedH U.vm) : KK D U := ⟨va_K.moved hW.alike h.1, va_Nw.warmM hW h.2.1, va_Nw.warmM hW h.2.2.1, va_Nw.warmM hW h.2.2.2⟩
theorem KK.calling {D : DD} {U : State} (h : KK D U) (g : JFrame) (mk : MethodId) (a : Array Value) : KK D (U.calling g mk a) := ⟨va_K.moved (u := U) (U := U.calling g mk a) (Vm.Alike.refl U.vm) h.1, va_Nw.same rfl (U := U.calling g mk a) rfl h.2.1, va_Nw.same rfl (U := U.calling g mk a) rfl h.2.2.1, va_Nw.same rfl (U := U.calling g mk a) rfl h.2.2.2⟩
/-- the words: those of the tables that stay -/
def TT : List Cond := lw_tbl.filter goodWord
theorem TT_of {w : Cond} (h : w ∈ lw_tbl) (hg : goodWord w = true) : w ∈ TT := List.mem_filter.mpr ⟨h, hg⟩
theorem TT_good {w : Cond} (h : w ∈ TT) : (w.onTables && w.keeps) = true ∨ ∃ ty, w = .arrayClass ty := good_of_word (List.mem_filter.mp h).2
/-! locals: a float stands for 'not known' -/
def isDead (v : Value) : Bool := match v with
  | .float _ => true
  | _ => false
def al (lv : List Value) : List (Nat × Value) := lv.zipIdx.filterMap (fun q => if isDead q.1 then none else some (q.2, q.1))
theorem mem_al {lv : List Value} {i : Nat} {v : Value} : (i, v) ∈ al lv ↔ lv[i]? = some v ∧ isDead v = false := by
  unfold al
  rw [List.mem_filterMap]
  constructor
  · rintro ⟨⟨w, j⟩, h1, h2⟩
    rw [List.mk_mem_zipIdx_iff_getElem?] at h1
    by_cases hd : isDead w = true
    · simp [hd] at h2
    · simp only [hd, if_false, Bool.false_eq_true, Option.some.injEq, Prod.mk.injEq] at h2
      obtain ⟨rfl, rfl⟩ := h2
      exact ⟨h1, by simpa using hd⟩
  · rintro ⟨h1, h2⟩
    exact ⟨(v, i), List.mk_mem_zipIdx_iff_getElem?.mpr h1, by simp [h2]⟩
def LV (ls : Array Slot) (n : Nat) (lv : List Value) : Prop := lv_has ls n (al lv)
theorem LV.at {ls : Array Slot} {n : Nat} {lv : List Value} (h : LV ls n lv) {i : Nat} {v : Value} (hi : lv[i]? = some v) (hd : isDead v = false) : ls[i]? = some (.val v) := h.2.2 (i, v) (mem_al.mpr ⟨hi, hd⟩)
theorem LV.of {ls : Array Slot} {n : Nat} {lv : List Value} {l : List (Nat × Value)} (h : lv_has ls n l) (hs : ∀ i v, lv[i]? = some v → isDead v = false → (i, v) ∈ l) : LV ls n lv := ⟨h.1, h.2.1, fun q hq => h.2.2 q (by obtain ⟨i, v⟩ := q; exact hs i v (mem_al.mp hq).1 (mem_al.mp hq).2)⟩
theorem LV.set1 {ls : Array Slot} {n : Nat} {lv : List Value} {i : Nat} {x : Value} (h : lv_has ls n ((i, x) :: (al lv).filter (fun q => !(q.1 == i) && !(q.1 + 1 == i && q.2.category == 2)))) (hc : lv.all (fun v => v.category == 1) = true) (hx : isDead x = false) : LV ls n (lv.set i x) := by
  refine LV.of h fun j v hj hd => ?_
  by_cases hji : j = i
  · subst hji
    have hl : j < lv.length := by have := (List.getElem?_eq_some_iff.mp hj).1; rwa [List.length_set] at this
    rw [List.getElem?_set_self hl] at hj
    rw [Option.some.inj hj]
    exact List.mem_cons_self
  · rw [List.getElem?_set_ne (Ne.symm hji)] at hj
    have hcat : v.category = 1 := by
      have := List.all_eq_true.mp hc v (List.mem_of_getElem? hj)
      simpa using this
    exact List.mem_cons_of_mem _ (List.mem_filter.mpr ⟨mem_al.mpr ⟨hj, hd⟩, by simp [hji, hcat]⟩)
/-! the walk's own things in one -/
abbrev CT : Type := (Program × Launch × Env × Room) × (State × MethodId × Array Value × List Frame) × (Method × Code × Nat × Nat × (State → Prop)) × (DD × (Nat → Nat) × (Nat → Prop) × Nat)
abbrev xp (X : CT) : Program := X.1.1
def xl (X : CT) : Launch := X.1.2.1
abbrev xR (X : CT) : Room := X.1.2.2.2
abbrev xs (X : CT) : State := X.2.1.1
abbrev xm (X : CT) : MethodId := X.2.1.2.1
abbrev xargs (X : CT) : Array Value := X.2.1.2.2.1
abbrev xbelow (X : CT) : List Frame := X.2.1.2.2.2
abbrev xmeth (X : CT) : Method := X.2.2.1.1
abbrev xc (X : CT) : Code := X.2.2.1.2.1
abbrev xcells (X : CT) : Nat := X.2.2.1.2.2.1
abbrev xslots (X : CT) : Nat := X.2.2.1.2.2.2.1
abbrev xQ (X : CT) : State → Prop := X.2.2.1.2.2.2.2
def xD (X : CT) : DD := X.2.2.2.1
def xad (X : CT) : Nat → Nat := X.2.2.2.2.1
abbrev xA (X : CT) : Nat → Prop := X.2.2.2.2.2.1
abbrev xn (X : CT) : Nat := X.2.2.2.2.2.2
def V (X : CT) (pc : Nat) (lv : List Value) (st : List Value) (σ : ST) : Prop := ∀ (H : Heap) (locs : List Loc) (ls : Array Slot), va_P (xD X).1 vwCl (wAll (xD X) (xad X) σ) H → va_S (xA X) (xs X).heap H locs → LV ls (xn X) lv → W (xp X) (xl X) X.1.2.2.1 (xR X) (xs X) (xm X) (xargs X) (xbelow X) (xmeth X) (xc X) H locs (xcells X) (xslots X) (xQ X) (F0 (xm X) pc ls st)
/-- the script stands, and nothing of it may be written -/
def Sx (X : CT) : Prop := va_X (sB (xD X)) (sN (xD X)) (sV (xD X)) (xs X) (xs X).heap ∧ sB (xD X) < (xs X).heap.size ∧ ¬ xA X (sB (xD X))
def Cx (X : CT) (own : String) (cc : ByteArray) (ret : Option FieldType) (fr lo : Nat) : Prop :=
  (xp X).tables.exec = Jvm.exec ∧ (xc X).code = cc ∧ (xc X).maxLocals = xn X ∧ (xmeth X).sig.returnType = ret ∧ (xmeth X).locks = false ∧ (xs X).vm.findClass own = some (xm X).cls ∧ (∀ w ∈ TT, w.before (xargs X) (xs X) = true) ∧ KK (xD X) (xs X) ∧ (Inj (xD X) (xad X) ∧ Sx X) ∧ (∀ q, (xs X).heap.size ≤ q → xA X q) ∧ (∀ k, k < 44 + fl (xD X) → xA X (xad X k)) ∧ fr ≤ (xR X).frames ∧ lo ≤ (xR X).locals ∧ xcells X ≤ (xR X).cells ∧ xslots X ≤ (xR X).slots
section CXL
variable {X : CT} {own : String} {cc : ByteArray} {ret : Option FieldType} {fr lo : Nat}
theorem Cx.x (C : Cx X own cc ret fr lo) : (xp X).tables.exec = Jvm.exec := C.1
theorem Cx.b (C : Cx X own cc ret fr lo) : (xc X).code = cc := C.2.1
theorem Cx.ml (C : Cx X own cc ret fr lo) : (xc X).maxLocals = xn X := C.2.2.1
theorem Cx.r (C : Cx X own cc ret fr lo) : (xmeth X).sig.returnType = ret := C.2.2.2.1
theorem Cx.locks (C : Cx X own cc ret fr lo) : (xmeth X).locks = false := C.2.2.2.2.1
theorem Cx.ow (C : Cx X own cc ret fr lo) : (xs X).vm.findClass own = some (xm X).cls := C.2.2.2.2.2.1
theorem Cx.ts (C : Cx X own cc ret fr lo) : ∀ w ∈ TT, w.before (xargs X) (xs X) = true := C.2.2.2.2.2.2.1
theorem Cx.K (C : Cx X own cc ret fr lo) : KK (xD X) (xs X) := C.2.2.2.2.2.2.2.1
theorem Cx.I (C : Cx X own cc ret fr lo) : Inj (xD X) (xad X) := C.2.2.2.2.2.2.2.2.1.1
theorem Cx.S (C : Cx X own cc ret fr lo) : Sx X := C.2.2.2.2.2.2.2.2.1.2
theorem Cx.A1 (C : Cx X own cc ret fr lo) : ∀ q, (xs X).heap.size ≤ q → xA X q := C.2.2.2.2.2.2.2.2.2.1
theorem Cx.A2 (C : Cx X own cc ret fr lo) : ∀ k, k < 44 + fl (xD X) → xA X (xad X k) := C.2.2.2.2.2.2.2.2.2.2.1
theorem Cx.hf (C : Cx X own cc ret fr lo) : fr ≤ (xR X).frames := C.2.2.2.2.2.2.2.2.2.2.2.1
theorem Cx.hlo (C : Cx X own cc ret fr lo) : lo ≤ (xR X).locals := C.2.2.2.2.2.2.2.2.2.2.2.2.1
theorem Cx.ce (C : Cx X own cc ret fr lo) : xcells X ≤ (xR X).cells := C.2.2.2.2.2.2.2.2.2.2.2.2.2.1
theorem Cx.sl (C : Cx X own cc ret fr lo) : xslots X ≤ (xR X).slots := C.2.2.2.2.2.2.2.2.2.2.2.2.2.2
theorem Cx.D (C : Cx X own cc ret fr lo) {σ : ST} : va_D (xA X) (wAll (xD X) (xad X) σ) := wAll_D C.I C.A2
end CXL
/-! contracts -/
def SS (D : DD) (ad : Nat → Nat) (U : State) : Prop := va_X (sB D) (sN D) (sV D) U U.heap ∧ sB D < U.heap.size ∧ ∀ k, k < 44 + fl D → ad k ≠ sB D
theorem SS.calling {D : DD} {ad : Nat → Nat} {U : State} (h : SS D ad U) (g : JFrame) (mk : MethodId) (a : Array Value) : SS D ad (U.calling g mk a) := ⟨va_X.moved (u := U) (U := U.calling g mk a) (Vm.Alike.refl U.vm) h.1, h.2⟩
theorem SS.out {D : DD} {ad : Nat → Nat} {U : State} (h : SS D ad U) : ¬ Aof D ad U.heap.size (sB D) := fun q => q.elim (fun ⟨k, hk, e⟩ => h.2.2 k hk e.symm) (fun q => Nat.not_le.mpr h.2.1 q)
theorem Cx.ss {X : CT} {own : String} {cc : ByteArray} {ret : Option FieldType} {fr lo : Nat} (C : Cx X own cc ret fr lo) {H : Heap} {locs : List Loc} {U : State} (hS : va_S (xA X) (xs X).heap H locs) (hU : U.heap = H) (hW : (xs X).WarmedH U.vm) : SS (xD X) (xad X) U := ⟨va_X.moved hW.alike (by rw [hU]; exact va_X.kept C.S.1 (hS.2.1 _ C.S.2.1 C.S.2.2)), by rw [hU]; exact Nat.lt_of_lt_of_le C.S.2.1 hS.1, fun k hk e => C.S.2.2 (e ▸ C.A2 k hk)⟩
def Pm (D : DD) (ad : Nat → Nat) (σ : ST) (sz : Nat) (av : List Value) : Array Value → State → Prop := va_Pc av (fun U => U.heap.size = sz ∧ va_P D.1 vwCl (wAll D ad σ) U.heap ∧ KK D U ∧ Inj D ad ∧ SS D ad U)
def Qm (D : DD) (ad : Nat → Nat) (A : Nat → Prop) (post : Option Value → ST → Prop) : Array Value → State → Outcome → State → Prop := fun _ st oc t => (∃ (v : Option Value) (σ' : ST), oc = .returned v ∧ post v σ' ∧ va_P D.1 vwCl (wAll D ad σ') t.heap) ∧ va_F A st t
def rmOf (fr lo : Nat) : Room := { frames := fr, cells := 0, slots := 0, locals := lo }
def Ct (l : Launch) (y : MethodName) (cc : ByteArray) (n : Nat) (ret : Option FieldType) (fr lo : Nat) (D : DD) (ad : Nat → Nat) (av : List Value) (σ : ST) (post : Option Value → ST → Prop) : Prop := ∀ sz : Nat, Met l y (.code y cc n ret :: TT) (rmOf fr lo) (Pm D ad σ sz av) (Qm D ad (Aof D ad sz) post) 0 0 (Aof D ad sz)
def ex (v : Option Value) (σ : ST) : Option Value → ST → Prop := fun v' σ' => v' = v ∧ σ' = σ
def Rt (X : CT) (post : Option Value → ST → Prop) : Prop := xQ X = MQ (xbelow X) (Qm (xD X) (xad X) (xA X) post) (xargs X) (xs X) (xcells X) (xslots X) (xA X)
theorem Ct.of {l : Launch} {y : MethodName} {cc : ByteArray} {n : Nat} {ret : Option FieldType} {fr lo : Nat} {D : DD} {ad : Nat → Nat} {av : List Value} {σ : ST} {post : Option Value → ST → Prop} (lv : List Value) (hy : plainName y.cls = true) (hn : (lg_sl av).length ≤ n) (hlv : al lv = lv_args 0 av)
    (body : ∀ X : CT, Cx X y.cls cc ret fr lo → D = xD X → ad = xad X → l = xl X → Rt X post → V X 0 lv [] σ) : Ct l y cc n ret fr lo D ad av σ post := by
  intro sz
  refine Met.ofW (cc := cc) (maxL := n) (ret := ret) hy rfl ?_
  intro p e s m args below meth c s₁ B hml hv
  obtain ⟨rfl, hsz, hP, hK, hI, hSS⟩ := hv
  subst hsz
  have hts := atoms_spec (ws := (.code y cc n ret :: TT)) B.pre
  have hl := lv_entry av (n := n) hn
  rw [lg_entry_eq]
  exact body ((p, l, e, (headSpec (.code y cc n ret :: TT) (rmOf fr lo)).room), (s, m, av.toArray, below), (meth, c, 0, 0, MQ below (Qm D ad (Aof D ad s.heap.size) post) av.toArray s 0 0 (Aof D ad s.heap.size)), (D, ad, Aof D ad s.heap.size, n))
    ⟨B.exec, B.bytes, hml, B.returns, B.notSynchronized, findClass_of_methodNamed B.named, fun w hw => hts w (List.mem_cons_of_mem _ hw), hK, ⟨hI, hSS.1, hSS.2.1, hSS.out⟩, fun q h => Or.inr h, fun k hk => Or.inl ⟨k, hk, rfl⟩, Nat.le_refl _, Nat.le_refl _, Nat.le_refl _, Nat.le_refl _⟩
    rfl rfl rfl rfl s.heap [] _ hP va_S.rf ⟨hl.1, hl.2.1, by rw [hlv]; exact hl.2.2⟩
theorem Ct.mono {l : Launch} {y : MethodName} {cc : ByteArray} {n : Nat} {ret : Option FieldType} {fr lo : Nat} {D : DD} {ad : Nat → Nat} {av : List Value} {σ : ST} {v v' : Option Value} {τ τ' : ST} (h : Ct l y cc n ret fr lo D ad av σ (ex v τ)) (e1 : v = v') (e2 : τ = τ') : Ct l y cc n ret fr lo D ad av σ (ex v' τ') := e1 ▸ e2 ▸ h
/-! a call -/
section VCG
variable {p : Program} {l : Launch} {e : Env} {R : Room} {s : State} {m : MethodId} {args : Array Value} {below : List Frame} {meth : Method} {c : Code} {H : Heap} {locs : List Loc} {cells slots : Nat} {Q : State → Prop}
variable {pc : Nat} {ls : Array Slot} {rest st0 : List Value} {a : Array Value} {A0 A1 : Nat → Prop} {H0 : Heap} {free : Addr → Prop} {D : DD} {ad : Nat → Nat} {post : Option Value → ST → Prop}
theorem va_callg (hr : va_Run p l e R s m args below meth c H locs cells slots 0 0 (F0 m pc ls st0) rest (Qm D ad A1 post a) free) (hS : va_S A0 H0 H locs) (hA : ∀ q, q < H.size → A1 q → A0 q) (hf : ∀ q, free q → A0 q)
    (kk : ∀ (v : Option Value) (σ' : ST) (H1 : Heap) (locs1 : List Loc), post v σ' → va_P D.1 vwCl (wAll D ad σ') H1 → va_S A0 H0 H1 locs1 → W p l e R s m args below meth c H1 locs1 cells slots Q (F0 m (pc + 3) ls (v.toList ++ rest))) : W p l e R s m args below meth c H locs cells slots Q (F0 m pc ls st0) := by
  intro T hT X
  obtain ⟨v, st₀, t, T', L, h0, X', hL, e1, e2, ⟨⟨v', σ', hv, hp, hb⟩, hz, hk⟩, st⟩ := hr T hT X
  cases hv
  rw [h0] at hz hk
  obtain ⟨t2, a1, b1⟩ := kk v σ' T'.heap (locs ++ L) hp (by rw [e1]; exact hb)
    ⟨Nat.le_trans hS.1 (by rw [e1]; exact hz), fun q h1 h2 => by rw [e1, hk q (Nat.lt_of_lt_of_le h1 hS.1) (fun z => h2 (hA q (Nat.lt_of_lt_of_le h1 hS.1) z))]; exact hS.2.1 q h1 h2, fun q hq => by
      rcases List.mem_append.mp hq with h | h
      · exact hS.2.2 q h
      · exact hf _ (hL q h)⟩ T' rfl X'
  exact ⟨t2, st t2 a1, b1⟩
end VCG
/-- what the tables say of a method that is called -/
def Cw (y : MethodName) (cc : ByteArray) (n : Nat) (ret : Option FieldType) (na : Nat) : Prop := Cond.initialized y.cls ∈ TT ∧ Cond.code y cc n ret ∈ TT ∧ (y.cls ≠ "java/lang/invoke/MethodHandle" ∧ y.cls ≠ "java/lang/invoke/VarHandle") ∧ (parseMethodDescriptor y.desc).map (fun d => d.parameters.length) = some na
def CwV (y : MethodName) : Prop := Cond.instanceMethod y ∈ TT ∧ Cond.selects y.cls y y ∈ TT
theorem Cw.goodIn {y : MethodName} {cc : ByteArray} {n : Nat} {ret : Option FieldType} {na : Nat} (h : Cw y cc n ret na) : GoodIn TT (.code y cc n ret :: TT) := fun w hw => by
  have : w ∈ TT := by
    rcases List.mem_cons.mp hw with h1 | h1
    · rw [h1]; exact h.2.1
    · exact h1
  exact ⟨this, TT_good this⟩
section VCALL
variable {X : CT} {own : String} {cc : ByteArray} {ret : Option FieldType} {fr lo : Nat} {pc q : Nat} {lv st : List Value} {σ : ST}
theorem V_blind {D : DD} {ad : Nat → Nat} {σ : ST} {sz : Nat} {av : List Value} : FrameBlind (Pm D ad σ sz av) := fun a U g mk h => ⟨h.1, h.2.1, h.2.2.1, h.2.2.2.1.calling g mk a, h.2.2.2.2.1, h.2.2.2.2.2.calling g mk a⟩
theorem V_free (C : Cx X own cc ret fr lo) {H : Heap} {locs : List Loc} (hS : va_S (xA X) (xs X).heap H locs) : ∀ q, Aof (xD X) (xad X) H.size q → xA X q := fun q h => by
  rcases h with ⟨k, hk, rfl⟩ | h
  · exact C.A2 k hk
  · exact C.A1 q (Nat.le_trans hS.1 h)
theorem V_callV (C : Cx X own cc ret fr lo) {y : MethodName} {yc : ByteArray} {n na idx k fr' lo' : Nat} {yret : Option FieldType} {As rest : List Value} {post : Option Value → ST → Prop}
    (hM : Ct (xl X) y yc n yret fr' lo' (xD X) (xad X) (.ref (xad X k) :: As) σ post) (hw : Cw y yc n yret na) (hv : CwV y) (hlink : Cond.methodLink own idx y ∈ TT) (hk : k < 44) (hobj : ∃ (ci : Nat) (fs : List Value) (z : vw_C), cellF (xD X) (xad X) k (σ k) = .inr (ci, fs) ∧ vwCl[ci]? = some z ∧ z.1 = y.cls)
    (hroom : fr' + 1 ≤ fr ∧ 8 + (n + 11) + lo' ≤ lo) (hna : As.length = na) (hst : st = As.reverse ++ .ref (xad X k) :: rest) (hcat : (rest.map fun v => v.category).sum ≤ 8) (hq : pc + 3 = q) (hdg : decode cc pc = .ok (.invokevirtual idx, 3))
    (kk : ∀ (v : Option Value) (σ' : ST), post v σ' → V X q lv (v.toList ++ rest) σ') : V X pc lv st σ := by
  subst hst; subst hq
  intro H locs ls hP hS hl
  obtain ⟨ci, fs, z, h1, h2, h3⟩ := hobj
  have hat : (wAll (xD X) (xad X) σ)[k]? = some (xad X k, .inr (ci, fs)) := by rw [wAll_at (lt44 hk), h1]
  refine va_callg (va_runV (C := y.cls) (Ts := TT) (own := own) (As := As) (rest := rest) (b := xad X k) (mc := 0) (ms := 0) (n := na) ⟨C.x, C.b, C.ml, C.ow, C.ts⟩ (hM H.size) ⟨callB_of na C.ts hw.goodIn rfl rfl rfl (C.ts _ hw.1) (C.ts _ hlink) ⟨hw.2.2.1.1, hw.2.2.1.2, hw.2.2.2⟩ ⟨Nat.le_trans hroom.1 C.hf, Nat.le_trans hroom.2 C.hlo⟩, C.ts _ hv.1, C.ts _ hv.2⟩ ⟨V_blind, ?_, fun U hU hW => ⟨rfl, by rw [hU], by rw [hU]; exact hP, C.K.warm hW, C.I, C.ss hS hU hW⟩⟩ rfl hna hl.1 rfl (lv_room hcat) hdg ⟨C.ce, C.sl⟩) hS (fun q _ h => V_free C hS q h) (V_free C hS) (fun v σ' H1 locs1 hp hP1 hS1 => kk v σ' hp H1 locs1 ls hP1 hS1 hl)
  obtain ⟨cell, e1, e2, e3⟩ := va_recv C.K.1 hP h2 hat
  exact ⟨cell, e1, e2, by rw [← h3]; exact e3⟩
theorem V_callS (C : Cx X own cc ret fr lo) {y : MethodName} {yc : ByteArray} {n na idx fr' lo' : Nat} {yret : Option FieldType} {As rest : List Value} {post : Option Value → ST → Prop}
    (hM : Ct (xl X) y yc n yret fr' lo' (xD X) (xad X) As σ post) (hw : Cw y yc n yret na) (hv : Cond.static y ∈ TT) (hlink : Cond.methodLink own idx y ∈ TT)
    (hroom : fr' + 1 ≤ fr ∧ 8 + (n + 11) + lo' ≤ lo) (hna : As.length = na) (hst : st = As.reverse ++ rest) (hcat : (rest.map fun v => v.category).sum ≤ 8) (hq : pc + 3 = q) (hdg : decode cc pc = .ok (.invokestatic idx, 3))
    (kk : ∀ (v : Option Value) (σ' : ST), post v σ' → V X q lv (v.toList ++ rest) σ') : V X pc lv st σ := by
  subst hst; subst hq
  intro H locs ls hP hS hl
  exact va_callg (va_runS (Ts := TT) (own := own) (As := As) (rest := rest) (mc := 0) (ms := 0) (n := na) ⟨C.x, C.b, C.ml, C.ow, C.ts⟩ (hM H.size) ⟨callB_of na C.ts hw.goodIn rfl rfl rfl (C.ts _ hw.1) (C.ts _ hlink) ⟨hw.2.2.1.1, hw.2.2.1.2, hw.2.2.2⟩ ⟨Nat.le_trans hroom.1 C.hf, Nat.le_trans hroom.2 C.hlo⟩, C.ts _ hv⟩ ⟨V_blind, fun U hU hW => ⟨rfl, by rw [hU], by rw [hU]; exact hP, C.K.warm hW, C.I, C.ss hS hU hW⟩⟩ rfl hna hl.1 rfl (lv_room hcat) hdg ⟨C.ce, C.sl⟩) hS (fun q _ h => V_free C hS q h) (V_free C hS) (fun v σ' H1 locs1 hp hP1 hS1 => kk v σ' hp H1 locs1 ls hP1 hS1 hl)
theorem V_callN (C : Cx X own cc ret fr lo) {y : MethodName} {yc : ByteArray} {n na idx fr' lo' : Nat} {host : String} {yret : Option FieldType} {As rest : List Value} {post : Option Value → ST → Prop}
    (hM : Ct (xl X) y yc n yret fr' lo' (xD X) (xad X) As σ post) (hw : Cw y yc n yret na) (hv : Cond.static y ∈ TT) (hlink : va_Nw (.methodLinkNest own idx y host) (xs X))
    (hroom : fr' + 1 ≤ fr ∧ 8 + (n + 11) + lo' ≤ lo) (hna : As.length = na) (hst : st = As.reverse ++ rest) (hcat : (rest.map fun v => v.category).sum ≤ 8) (hq : pc + 3 = q) (hdg : decode cc pc = .ok (.invokestatic idx, 3))
    (kk : ∀ (v : Option Value) (σ' : ST), post v σ' → V X q lv (v.toList ++ rest) σ') : V X pc lv st σ := by
  subst hst; subst hq
  intro H locs ls hP hS hl
  exact va_callg (va_runSN (Ts := TT) (own := own) (host := host) (As := As) (rest := rest) (mc := 0) (ms := 0) (n := na) ⟨C.x, C.b, C.ml, C.ow, C.ts⟩ (hM H.size) ⟨va_cnB na C.ts hw.goodIn rfl rfl rfl hlink (C.ts _ hw.1) ⟨hw.2.2.1.1, hw.2.2.1.2, hw.2.2.2⟩ ⟨Nat.le_trans hroom.1 C.hf, Nat.le_trans hroom.2 C.hlo⟩, C.ts _ hv, trivial⟩ ⟨V_blind, fun U hU hW => ⟨rfl, by rw [hU], by rw [hU]; exact hP, C.K.warm hW, C.I, C.ss hS hU hW⟩⟩ rfl hna hl.1 rfl (lv_room hcat) hdg ⟨C.ce, C.sl⟩) hS (fun q _ h => V_free C hS q h) (V_free C hS) (fun v σ' H1 locs1 hp hP1 hS1 => kk v σ' hp H1 locs1 ls hP1 hS1 hl)
end VCALL
