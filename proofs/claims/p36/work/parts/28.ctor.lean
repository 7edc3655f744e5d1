/-! one class for the arrays of a type -/
theorem K_int {D : va_G} {cl : List vw_C} {tys : List (ClassId × FieldType)} {s : State} (h : va_K D cl tys s) {i j : Nat} {a b : ClassId} (hi : tys[i]? = some (a, .int)) (hj : tys[j]? = some (b, .int)) : a = b := Option.some.inj ((va_nm_int (h.2 i _ hi).2).symm.trans (va_nm_int (h.2 j _ hj).2))
theorem K_bool {D : va_G} {cl : List vw_C} {tys : List (ClassId × FieldType)} {s : State} (h : va_K D cl tys s) {i j : Nat} {a b : ClassId} (hi : tys[i]? = some (a, .boolean)) (hj : tys[j]? = some (b, .boolean)) : a = b := Option.some.inj ((va_nm_boolean (h.2 i _ hi).2).symm.trans (va_nm_boolean (h.2 j _ hj).2))
/-! THE CONSTRUCTORS: a world as a list; N is the walk's judgement over it; Cn a constructor's contract -/
abbrev z0 : Nat → Int32 := fun _ => 0
abbrev cI (D : DD) (n : Nat) (f : Nat → Int32) : va_E := .inl (D.2.1, n, .inl f)
abbrev cZ (D : DD) (n : Nat) (f : Nat → Int32) : va_E := .inl (D.2.2.1, n, .inl f)
abbrev cQ (D : DD) (n : Nat) (f : Nat → Option Nat) : va_E := .inl (D.2.2.2.1, n, .inr (.inr (.inr (.inr f))))
def N (X : CT) (pc : Nat) (lv : List Value) (st : List Value) (ws : va_W) (k z : Nat) : Prop := ∀ (H : Heap) (locs : List Loc) (ls : Array Slot), va_P (xD X).1 vwCl ws H → va_D (xA X) ws → va_S (xA X) (xs X).heap H locs → LV ls (xn X) lv → W (xp X) (xl X) X.1.2.2.1 (xR X) (xs X) (xm X) (xargs X) (xbelow X) (xmeth X) (xc X) H locs k z (xQ X) (F0 (xm X) pc ls st)
def Nx (X : CT) (own : String) (cc : ByteArray) (fr lo : Nat) : Prop :=
  (xp X).tables.exec = Jvm.exec ∧ (xc X).code = cc ∧ (xc X).maxLocals = xn X ∧ (xmeth X).locks = false ∧ (xs X).vm.findClass own = some (xm X).cls ∧ (∀ w ∈ TT, w.before (xargs X) (xs X) = true) ∧ KK (xD X) (xs X) ∧ (∀ q, (xs X).heap.size ≤ q → xA X q) ∧ fr ≤ (xR X).frames ∧ lo ≤ (xR X).locals ∧ xcells X ≤ (xR X).cells ∧ xslots X ≤ (xR X).slots
section NXL
variable {X : CT} {own : String} {cc : ByteArray} {fr lo : Nat}
theorem Nx.x (C : Nx X own cc fr lo) : (xp X).tables.exec = Jvm.exec := C.1
theorem Nx.b (C : Nx X own cc fr lo) : (xc X).code = cc := C.2.1
theorem Nx.ml (C : Nx X own cc fr lo) : (xc X).maxLocals = xn X := C.2.2.1
theorem Nx.locks (C : Nx X own cc fr lo) : (xmeth X).locks = false := C.2.2.2.1
theorem Nx.ow (C : Nx X own cc fr lo) : (xs X).vm.findClass own = some (xm X).cls := C.2.2.2.2.1
theorem Nx.ts (C : Nx X own cc fr lo) : ∀ w ∈ TT, w.before (xargs X) (xs X) = true := C.2.2.2.2.2.1
theorem Nx.K (C : Nx X own cc fr lo) : KK (xD X) (xs X) := C.2.2.2.2.2.2.1
theorem Nx.A1 (C : Nx X own cc fr lo) : ∀ q, (xs X).heap.size ≤ q → xA X q := C.2.2.2.2.2.2.2.1
theorem Nx.hf (C : Nx X own cc fr lo) : fr ≤ (xR X).frames := C.2.2.2.2.2.2.2.2.1
theorem Nx.hlo (C : Nx X own cc fr lo) : lo ≤ (xR X).locals := C.2.2.2.2.2.2.2.2.2.1
theorem Nx.ce (C : Nx X own cc fr lo) : xcells X ≤ (xR X).cells := C.2.2.2.2.2.2.2.2.2.2.1
theorem Nx.sl (C : Nx X own cc fr lo) : xslots X ≤ (xR X).slots := C.2.2.2.2.2.2.2.2.2.2.2
end NXL
/-- a constructor's start and end -/
def Bp (D : DD) (KX : State → Prop) (a ci : Nat) (fs : List Value) (sz : Nat) (av : List Value) : Array Value → State → Prop := va_Pc av (fun U => U.heap.size = sz ∧ va_P D.1 vwCl [(a, .inr (ci, fs))] U.heap ∧ KX U)
def Bq (D : DD) (A : Nat → Prop) (B : va_W → Prop) : Array Value → State → Outcome → State → Prop := va_Qv (S := va_W) B (fun ws t => va_P D.1 vwCl ws t.heap ∧ va_D A ws) A
def Nq (X : CT) (B : va_W → Prop) : Prop := xQ X = MQ (xbelow X) (Bq (xD X) (xA X) B) (xargs X) (xs X) (xcells X) (xslots X) (xA X)
def rmC (fr lo mc ms : Nat) : Room := { frames := fr, cells := mc, slots := ms, locals := lo }
def Cn (l : Launch) (y : MethodName) (cc : ByteArray) (n fr lo mc ms : Nat) (D : DD) (KX : State → Prop) (a ci : Nat) (fs As : List Value) (B : va_W → Prop) : Prop := ∀ sz : Nat, Met l y (.code y cc n none :: TT) (rmC fr lo mc ms) (Bp D KX a ci fs sz (.ref a :: As)) (Bq D (va_A [(a, .inr (ci, fs))] sz) B) mc ms (va_A [(a, .inr (ci, fs))] sz)
theorem D_one {a : Nat} {e : va_E} {A : Nat → Prop} (h : A a) : va_D A [(a, e)] := by
  refine ⟨fun i j p q hi hj _ => ?_, fun k q hk => ?_⟩
  · have h1 : i < 1 := (List.getElem?_eq_some_iff.mp hi).1
    have h2 : j < 1 := (List.getElem?_eq_some_iff.mp hj).1
    omega
  · have h1 : k < 1 := (List.getElem?_eq_some_iff.mp hk).1
    rw [show k = 0 by omega] at hk
    cases hk
    exact h
theorem Cn.of {l : Launch} {y : MethodName} {cc : ByteArray} {n fr lo mc ms : Nat} {D : DD} {KX : State → Prop} {a ci : Nat} {fs As : List Value} {B : va_W → Prop} (lv : List Value) (hy : plainName y.cls = true) (hn : (lg_sl (.ref a :: As)).length ≤ n) (hlv : al lv = lv_args 0 (.ref a :: As)) (hyn : y.name = "<init>") (hKX : ∀ U, KX U → KK D U)
    (body : ∀ X : CT, Nx X y.cls cc fr lo → D = xD X → l = xl X → n = xn X → mc = xcells X → ms = xslots X → KX (xs X) → (xmeth X).name = "<init>" → (xmeth X).sig.returnType = none → Nq X B → N X 0 lv [] [(a, .inr (ci, fs))] 0 0) : Cn l y cc n fr lo mc ms D KX a ci fs As B := by
  intro sz
  refine Met.ofW (cc := cc) (maxL := n) (ret := none) hy rfl ?_
  intro p e s m args below meth c s₁ Bd hml hv
  obtain ⟨rfl, hsz, hP, hK⟩ := hv
  subst hsz
  have hts := atoms_spec (ws := (.code y cc n none :: TT)) Bd.pre
  have hl := lv_entry (.ref a :: As) (n := n) hn
  have hin : meth.name = y.name := (name_of_methodNamed Bd.named Bd.method).1
  rw [lg_entry_eq]
  exact body ((p, l, e, (headSpec (.code y cc n none :: TT) (rmC fr lo mc ms)).room), (s, m, (.ref a :: As).toArray, below), (meth, c, mc, ms, MQ below (Bq D (va_A [(a, .inr (ci, fs))] s.heap.size) B) (.ref a :: As).toArray s mc ms (va_A [(a, .inr (ci, fs))] s.heap.size)), (D, (fun _ => 0), va_A [(a, .inr (ci, fs))] s.heap.size, n))
    ⟨Bd.exec, Bd.bytes, hml, Bd.notSynchronized, findClass_of_methodNamed Bd.named, fun w hw => hts w (List.mem_cons_of_mem _ hw), hKX _ hK, fun q h => Or.inr h, Nat.le_refl _, Nat.le_refl _, Nat.le_refl _, Nat.le_refl _⟩
    rfl rfl rfl rfl rfl hK (hin.trans hyn) Bd.returns rfl s.heap [] _ hP (D_one (Or.inl ⟨0, _, rfl⟩)) va_S.rf ⟨hl.1, hl.2.1, by rw [hlv]; exact hl.2.2⟩
/-! words -/
theorem wo_inst : Cond.instanceMethod objectInit ∈ TT := TT_of (List.mem_of_getElem? (i := 34) (by decide +kernel)) rfl
theorem wo_code : Cond.code objectInit ⟨#[0xb1]⟩ 1 none ∈ TT := TT_of (List.mem_of_getElem? (i := 35) (by decide +kernel)) rfl
theorem wo_int : Cond.arrayClass .int ∈ TT := TT_of (List.mem_of_getElem? (i := 59) (by decide +kernel)) rfl
theorem wo_bool : Cond.arrayClass .boolean ∈ TT := TT_of (List.mem_of_getElem? (i := 115) (by decide +kernel)) rfl
theorem wl_L_20 : Cond.classLink RL 20 RX8 ∈ TT := TT_of (List.mem_of_getElem? (i := 28) (by decide +kernel)) rfl
theorem wi_X8 : Cond.instantiable RX8 9 ∈ TT := TT_of (List.mem_of_getElem? (i := 29) (by decide +kernel)) rfl
theorem wn_X8 : Cond.initialized RX8 ∈ TT := TT_of (List.mem_of_getElem? (i := 17) (by decide +kernel)) rfl
theorem wm_L_55 : Cond.methodLink RL 55 yX8_init ∈ TT := TT_of (List.mem_of_getElem? (i := 30) (by decide +kernel)) rfl
theorem wb_X8 : Cond.methodLink RX8 3 objectInit ∈ TT := TT_of (List.mem_of_getElem? (i := 33) (by decide +kernel)) rfl
theorem wl_X8_11 : Cond.classLink RX8 11 RX5 ∈ TT := TT_of (List.mem_of_getElem? (i := 36) (by decide +kernel)) rfl
theorem wl_X8_17 : Cond.classLink RX8 17 RX6 ∈ TT := TT_of (List.mem_of_getElem? (i := 38) (by decide +kernel)) rfl
theorem wi_X6 : Cond.instantiable RX6 4 ∈ TT := TT_of (List.mem_of_getElem? (i := 39) (by decide +kernel)) rfl
theorem wn_X6 : Cond.initialized RX6 ∈ TT := TT_of (List.mem_of_getElem? (i := 18) (by decide +kernel)) rfl
theorem wb_X6 : Cond.methodLink RX6 3 objectInit ∈ TT := TT_of (List.mem_of_getElem? (i := 43) (by decide +kernel)) rfl
theorem wl_X8_24 : Cond.classLink RX8 24 RX7 ∈ TT := TT_of (List.mem_of_getElem? (i := 60) (by decide +kernel)) rfl
theorem wi_X7 : Cond.instantiable RX7 6 ∈ TT := TT_of (List.mem_of_getElem? (i := 61) (by decide +kernel)) rfl
theorem wn_X7 : Cond.initialized RX7 ∈ TT := TT_of (List.mem_of_getElem? (i := 19) (by decide +kernel)) rfl
theorem wb_X7 : Cond.methodLink RX7 3 objectInit ∈ TT := TT_of (List.mem_of_getElem? (i := 65) (by decide +kernel)) rfl
theorem wl_X8_31 : Cond.classLink RX8 31 RX2 ∈ TT := TT_of (List.mem_of_getElem? (i := 95) (by decide +kernel)) rfl
theorem wi_X2 : Cond.instantiable RX2 4 ∈ TT := TT_of (List.mem_of_getElem? (i := 96) (by decide +kernel)) rfl
theorem wn_X2 : Cond.initialized RX2 ∈ TT := TT_of (List.mem_of_getElem? (i := 20) (by decide +kernel)) rfl
theorem wb_X2 : Cond.methodLink RX2 3 objectInit ∈ TT := TT_of (List.mem_of_getElem? (i := 100) (by decide +kernel)) rfl
theorem wl_X8_38 : Cond.classLink RX8 38 RX0 ∈ TT := TT_of (List.mem_of_getElem? (i := 116) (by decide +kernel)) rfl
theorem wi_X0 : Cond.instantiable RX0 1 ∈ TT := TT_of (List.mem_of_getElem? (i := 117) (by decide +kernel)) rfl
theorem wn_X0 : Cond.initialized RX0 ∈ TT := TT_of (List.mem_of_getElem? (i := 21) (by decide +kernel)) rfl
theorem wb_X0 : Cond.methodLink RX0 1 objectInit ∈ TT := TT_of (List.mem_of_getElem? (i := 121) (by decide +kernel)) rfl
theorem wl_X8_49 : Cond.classLink RX8 49 RX1 ∈ TT := TT_of (List.mem_of_getElem? (i := 126) (by decide +kernel)) rfl
theorem wi_X1 : Cond.instantiable RX1 11 ∈ TT := TT_of (List.mem_of_getElem? (i := 127) (by decide +kernel)) rfl
theorem wn_X1 : Cond.initialized RX1 ∈ TT := TT_of (List.mem_of_getElem? (i := 22) (by decide +kernel)) rfl
theorem wb_X1 : Cond.methodLink RX1 3 objectInit ∈ TT := TT_of (List.mem_of_getElem? (i := 131) (by decide +kernel)) rfl
theorem wl_X8_52 : Cond.classLink RX8 52 RX4 ∈ TT := TT_of (List.mem_of_getElem? (i := 180) (by decide +kernel)) rfl
theorem wi_X4 : Cond.instantiable RX4 10 ∈ TT := TT_of (List.mem_of_getElem? (i := 181) (by decide +kernel)) rfl
theorem wn_X4 : Cond.initialized RX4 ∈ TT := TT_of (List.mem_of_getElem? (i := 23) (by decide +kernel)) rfl
theorem wm_X8_54 : Cond.methodLink RX8 54 yX4_init ∈ TT := TT_of (List.mem_of_getElem? (i := 182) (by decide +kernel)) rfl
theorem wb_X4 : Cond.methodLink RX4 3 objectInit ∈ TT := TT_of (List.mem_of_getElem? (i := 185) (by decide +kernel)) rfl
theorem wl_X8_65 : Cond.classLink RX8 65 RX3 ∈ TT := TT_of (List.mem_of_getElem? (i := 222) (by decide +kernel)) rfl
theorem wi_X3 : Cond.instantiable RX3 3 ∈ TT := TT_of (List.mem_of_getElem? (i := 223) (by decide +kernel)) rfl
theorem wn_X3 : Cond.initialized RX3 ∈ TT := TT_of (List.mem_of_getElem? (i := 24) (by decide +kernel)) rfl
theorem wm_X8_67 : Cond.methodLink RX8 67 yX3_init ∈ TT := TT_of (List.mem_of_getElem? (i := 224) (by decide +kernel)) rfl
theorem wb_X3 : Cond.methodLink RX3 3 objectInit ∈ TT := TT_of (List.mem_of_getElem? (i := 227) (by decide +kernel)) rfl
theorem wi_X5 : Cond.instantiable RX5 4 ∈ TT := TT_of (List.mem_of_getElem? (i := 238) (by decide +kernel)) rfl
theorem wn_X5 : Cond.initialized RX5 ∈ TT := TT_of (List.mem_of_getElem? (i := 25) (by decide +kernel)) rfl
theorem wb_X5 : Cond.methodLink RX5 3 objectInit ∈ TT := TT_of (List.mem_of_getElem? (i := 242) (by decide +kernel)) rfl
theorem cw_X0_init : Cw yX0_init cX0_init 1 none 0 := ⟨TT_of (List.mem_of_getElem? (i := 21) (by decide +kernel)) rfl, TT_of (List.mem_of_getElem? (i := 120) (by decide +kernel)) rfl, ⟨by decide +kernel, by decide +kernel⟩, by decide +kernel⟩
theorem ci_X0_init : Cond.instanceMethod yX0_init ∈ TT := TT_of (List.mem_of_getElem? (i := 119) (by decide +kernel)) rfl
theorem cw_X1_init : Cw yX1_init cX1_init 1 none 0 := ⟨TT_of (List.mem_of_getElem? (i := 22) (by decide +kernel)) rfl, TT_of (List.mem_of_getElem? (i := 130) (by decide +kernel)) rfl, ⟨by decide +kernel, by decide +kernel⟩, by decide +kernel⟩
theorem ci_X1_init : Cond.instanceMethod yX1_init ∈ TT := TT_of (List.mem_of_getElem? (i := 129) (by decide +kernel)) rfl
theorem cw_X2_init : Cw yX2_init cX2_init 1 none 0 := ⟨TT_of (List.mem_of_getElem? (i := 20) (by decide +kernel)) rfl, TT_of (List.mem_of_getElem? (i := 99) (by decide +kernel)) rfl, ⟨by decide +kernel, by decide +kernel⟩, by decide +kernel⟩
theorem ci_X2_init : Cond.instanceMethod yX2_init ∈ TT := TT_of (List.mem_of_getElem? (i := 98) (by decide +kernel)) rfl
theorem cw_X3_init : Cw yX3_init cX3_init 3 none 2 := ⟨TT_of (List.mem_of_getElem? (i := 24) (by decide +kernel)) rfl, TT_of (List.mem_of_getElem? (i := 226) (by decide +kernel)) rfl, ⟨by decide +kernel, by decide +kernel⟩, by decide +kernel⟩
theorem ci_X3_init : Cond.instanceMethod yX3_init ∈ TT := TT_of (List.mem_of_getElem? (i := 225) (by decide +kernel)) rfl
theorem cw_X4_init : Cw yX4_init cX4_init 2 none 1 := ⟨TT_of (List.mem_of_getElem? (i := 23) (by decide +kernel)) rfl, TT_of (List.mem_of_getElem? (i := 184) (by decide +kernel)) rfl, ⟨by decide +kernel, by decide +kernel⟩, by decide +kernel⟩
theorem ci_X4_init : Cond.instanceMethod yX4_init ∈ TT := TT_of (List.mem_of_getElem? (i := 183) (by decide +kernel)) rfl
theorem cw_X5_init : Cw yX5_init cX5_init 1 none 0 := ⟨TT_of (List.mem_of_getElem? (i := 25) (by decide +kernel)) rfl, TT_of (List.mem_of_getElem? (i := 241) (by decide +kernel)) rfl, ⟨by decide +kernel, by decide +kernel⟩, by decide +kernel⟩
theorem ci_X5_init : Cond.instanceMethod yX5_init ∈ TT := TT_of (List.mem_of_getElem? (i := 240) (by decide +kernel)) rfl
theorem cw_X6_init : Cw yX6_init cX6_init 1 none 0 := ⟨TT_of (List.mem_of_getElem? (i := 18) (by decide +kernel)) rfl, TT_of (List.mem_of_getElem? (i := 42) (by decide +kernel)) rfl, ⟨by decide +kernel, by decide +kernel⟩, by decide +kernel⟩
theorem ci_X6_init : Cond.instanceMethod yX6_init ∈ TT := TT_of (List.mem_of_getElem? (i := 41) (by decide +kernel)) rfl
theorem cw_X7_init : Cw yX7_init cX7_init 1 none 0 := ⟨TT_of (List.mem_of_getElem? (i := 19) (by decide +kernel)) rfl, TT_of (List.mem_of_getElem? (i := 64) (by decide +kernel)) rfl, ⟨by decide +kernel, by decide +kernel⟩, by decide +kernel⟩
theorem ci_X7_init : Cond.instanceMethod yX7_init ∈ TT := TT_of (List.mem_of_getElem? (i := 63) (by decide +kernel)) rfl
theorem cw_X8_init : Cw yX8_init cX8_init 4 none 0 := ⟨TT_of (List.mem_of_getElem? (i := 17) (by decide +kernel)) rfl, TT_of (List.mem_of_getElem? (i := 32) (by decide +kernel)) rfl, ⟨by decide +kernel, by decide +kernel⟩, by decide +kernel⟩
theorem ci_X8_init : Cond.instanceMethod yX8_init ∈ TT := TT_of (List.mem_of_getElem? (i := 31) (by decide +kernel)) rfl
/-! rows -/
section NROWS
variable {X : CT} {own : String} {cc : ByteArray} {fr lo : Nat} {pc q k z : Nat} {lv st : List Value} {ws ws' : va_W}
theorem N_w {k' z' : Nat} (h : ws = ws') (hk : k = k') (hz : z = z') (kk : N X pc lv st ws' k' z') : N X pc lv st ws k z := by subst h; subst hk; subst hz; exact kk
theorem N_iconst (C : Nx X own cc fr lo) {n : Int} {v : Int32} (hv : Int32.ofInt n = v) (hq : pc + 1 = q) (hdg : decode cc pc = .ok (.iconst n, 1)) (kk : N X q lv (.int v :: st) ws k z) : N X pc lv st ws k z := by subst hq; exact fun H locs ls hP hD hS hl => lv_iconst C.x C.b hdg hv (kk H locs ls hP hD hS hl)
theorem N_bipush (C : Nx X own cc fr lo) {n : Int} {v : Int32} (hv : (Int8.ofInt n).toInt32 = v) (hq : pc + 2 = q) (hdg : decode cc pc = .ok (.bipush n, 2)) (kk : N X q lv (.int v :: st) ws k z) : N X pc lv st ws k z := by subst hq; exact fun H locs ls hP hD hS hl => lv_bipush C.x C.b hdg hv (kk H locs ls hP hD hS hl)
theorem N_sipush (C : Nx X own cc fr lo) {n : Int} {v : Int32} (hv : (Int16.ofInt n).toInt32 = v) (hq : pc + 3 = q) (hdg : decode cc pc = .ok (.sipush n, 3)) (kk : N X q lv (.int v :: st) ws k z) : N X pc lv st ws k z := by subst hq; exact fun H locs ls hP hD hS hl => lv_sipush C.x C.b hdg hv (kk H locs ls hP hD hS hl)
theorem N_aload_0 (C : Nx X own cc fr lo) {L : List Value} {x : Nat} (hq : pc + 1 = q) (hdg : decode cc pc = .ok (.aload_n 0, 1)) (kk : N X q (.ref x :: L) (.ref x :: st) ws k z) : N X pc (.ref x :: L) st ws k z := by subst hq; exact fun H locs ls hP hD hS hl => lv_aload_n C.x C.b hdg (rfl : (0 : Nat) = 0) (hl.at (i := 0) rfl rfl) (kk H locs ls hP hD hS hl)
theorem N_aload_1 (C : Nx X own cc fr lo) {a0 : Value} {L : List Value} {x : Nat} (hq : pc + 1 = q) (hdg : decode cc pc = .ok (.aload_n 1, 1)) (kk : N X q (a0 :: .ref x :: L) (.ref x :: st) ws k z) : N X pc (a0 :: .ref x :: L) st ws k z := by subst hq; exact fun H locs ls hP hD hS hl => lv_aload_n C.x C.b hdg (rfl : (1 : Nat) = 1) (hl.at (i := 1) rfl rfl) (kk H locs ls hP hD hS hl)
theorem N_aload_2 (C : Nx X own cc fr lo) {a0 a1 : Value} {L : List Value} {x : Nat} (hq : pc + 1 = q) (hdg : decode cc pc = .ok (.aload_n 2, 1)) (kk : N X q (a0 :: a1 :: .ref x :: L) (.ref x :: st) ws k z) : N X pc (a0 :: a1 :: .ref x :: L) st ws k z := by subst hq; exact fun H locs ls hP hD hS hl => lv_aload_n C.x C.b hdg (rfl : (2 : Nat) = 2) (hl.at (i := 2) rfl rfl) (kk H locs ls hP hD hS hl)
theorem N_iload_3 (C : Nx X own cc fr lo) {a0 a1 a2 : Value} {L : List Value} {x : Int32} (hq : pc + 1 = q) (hdg : decode cc pc = .ok (.iload_n 3, 1)) (kk : N X q (a0 :: a1 :: a2 :: .int x :: L) (.int x :: st) ws k z) : N X pc (a0 :: a1 :: a2 :: .int x :: L) st ws k z := by subst hq; exact fun H locs ls hP hD hS hl => lv_iload_n C.x C.b hdg (rfl : (3 : Nat) = 3) (hl.at (i := 3) rfl rfl) (kk H locs ls hP hD hS hl)
theorem N_astore_1 (C : Nx X own cc fr lo) {a0 u : Value} {L : List Value} {x : Nat} (hn : 1 < xn X) (hc : (a0 :: u :: L).all (fun v => v.category == 1) = true) (hq : pc + 1 = q) (hdg : decode cc pc = .ok (.astore_n 1, 1)) (kk : N X q (a0 :: .ref x :: L) st ws k z) : N X pc (a0 :: u :: L) (.ref x :: st) ws k z := by subst hq; exact fun H locs ls hP hD hS hl => lv_astore_n C.x C.b hdg (rfl : (1 : Nat) = 1) hl hn rfl (fun ls2 h2 => kk H locs ls2 hP hD hS (LV.set1 (lv := a0 :: u :: L) h2 hc rfl))
theorem N_astore_2 (C : Nx X own cc fr lo) {a0 a1 u : Value} {L : List Value} {x : Nat} (hn : 2 < xn X) (hc : (a0 :: a1 :: u :: L).all (fun v => v.category == 1) = true) (hq : pc + 1 = q) (hdg : decode cc pc = .ok (.astore_n 2, 1)) (kk : N X q (a0 :: a1 :: .ref x :: L) st ws k z) : N X pc (a0 :: a1 :: u :: L) (.ref x :: st) ws k z := by subst hq; exact fun H locs ls hP hD hS hl => lv_astore_n C.x C.b hdg (rfl : (2 : Nat) = 2) hl hn rfl (fun ls2 h2 => kk H locs ls2 hP hD hS (LV.set1 (lv := a0 :: a1 :: u :: L) h2 hc rfl))
theorem N_astore_3 (C : Nx X own cc fr lo) {a0 a1 a2 u : Value} {L : List Value} {x : Nat} (hn : 3 < xn X) (hc : (a0 :: a1 :: a2 :: u :: L).all (fun v => v.category == 1) = true) (hq : pc + 1 = q) (hdg : decode cc pc = .ok (.astore_n 3, 1)) (kk : N X q (a0 :: a1 :: a2 :: .ref x :: L) st ws k z) : N X pc (a0 :: a1 :: a2 :: u :: L) (.ref x :: st) ws k z := by subst hq; exact fun H locs ls hP hD hS hl => lv_astore_n C.x C.b hdg (rfl : (3 : Nat) = 3) hl hn rfl (fun ls2 h2 => kk H locs ls2 hP hD hS (LV.set1 (lv := a0 :: a1 :: a2 :: u :: L) h2 hc rfl))
theorem N_astore_4 (C : Nx X own cc fr lo) {a0 a1 a2 a3 u : Value} {L : List Value} {x : Nat} (hn : 4 < xn X) (hc : (a0 :: a1 :: a2 :: a3 :: u :: L).all (fun v => v.category == 1) = true) (hq : pc + 2 = q) (hdg : decode cc pc = .ok (.astore 4, 2)) (kk : N X q (a0 :: a1 :: a2 :: a3 :: .ref x :: L) st ws k z) : N X pc (a0 :: a1 :: a2 :: a3 :: u :: L) (.ref x :: st) ws k z := by subst hq; exact fun H locs ls hP hD hS hl => lv_astore C.x C.b hdg hl hn rfl (fun ls2 h2 => kk H locs ls2 hP hD hS (LV.set1 (lv := a0 :: a1 :: a2 :: a3 :: u :: L) h2 hc rfl))
theorem N_astore_5 (C : Nx X own cc fr lo) {a0 a1 a2 a3 a4 u : Value} {L : List Value} {x : Nat} (hn : 5 < xn X) (hc : (a0 :: a1 :: a2 :: a3 :: a4 :: u :: L).all (fun v => v.category == 1) = true) (hq : pc + 2 = q) (hdg : decode cc pc = .ok (.astore 5, 2)) (kk : N X q (a0 :: a1 :: a2 :: a3 :: a4 :: .ref x :: L) st ws k z) : N X pc (a0 :: a1 :: a2 :: a3 :: a4 :: u :: L) (.ref x :: st) ws k z := by subst hq; exact fun H locs ls hP hD hS hl => lv_astore C.x C.b hdg hl hn rfl (fun ls2 h2 => kk H locs ls2 hP hD hS (LV.set1 (lv := a0 :: a1 :: a2 :: a3 :: a4 :: u :: L) h2 hc rfl))
theorem N_istore_3 (C : Nx X own cc fr lo) {a0 a1 a2 u : Value} {L : List Value} {x : Int32} (hn : 3 < xn X) (hc : (a0 :: a1 :: a2 :: u :: L).all (fun v => v.category == 1) = true) (hq : pc + 1 = q) (hdg : decode cc pc = .ok (.istore_n 3, 1)) (kk : N X q (a0 :: a1 :: a2 :: .int x :: L) st ws k z) : N X pc (a0 :: a1 :: a2 :: u :: L) (.int x :: st) ws k z := by subst hq; exact fun H locs ls hP hD hS hl => lv_istore_n C.x C.b hdg (rfl : (3 : Nat) = 3) hl hn rfl (fun ls2 h2 => kk H locs ls2 hP hD hS (LV.set1 (lv := a0 :: a1 :: a2 :: u :: L) h2 hc rfl))
theorem N_iinc_3 (C : Nx X own cc fr lo) {a0 a1 a2 : Value} {L : List Value} {n : Int} {x v : Int32} (hv : x + Int32.ofInt n = v) (hn : 3 < xn X) (hc : (a0 :: a1 :: a2 :: .int x :: L).all (fun v => v.category == 1) = true) (hq : pc + 3 = q) (hdg : decode cc pc = .ok (.iinc 3 n, 3)) (kk : N X q (a0 :: a1 :: a2 :: .int v :: L) st ws k z) : N X pc (a0 :: a1 :: a2 :: .int x :: L) st ws k z := by
  subst hq
  intro H locs ls hP hD hS hl
  obtain ⟨t, ht⟩ := List.getElem?_of_mem (mem_al.mpr ⟨(rfl : (a0 :: a1 :: a2 :: .int x :: L)[3]? = some (.int x)), rfl⟩)
  exact lv_iinc C.x C.b hdg hl ht hv hn rfl (fun ls2 h2 => kk H locs ls2 hP hD hS (LV.set1 (lv := a0 :: a1 :: a2 :: .int x :: L) h2 hc rfl))
theorem N_dup (C : Nx X own cc fr lo) {v : Value} (hc : v.category = 1) (hq : pc + 1 = q) (hdg : decode cc pc = .ok (.dup, 1)) (kk : N X q lv (v :: v :: st) ws k z) : N X pc lv (v :: st) ws k z := by subst hq; exact fun H locs ls hP hD hS hl => lv_dup C.x C.b hdg hc (kk H locs ls hP hD hS hl)
theorem N_goto (C : Nx X own cc fr lo) {off : Int} {tgt : Nat} (ht : (pc : Int) + off = (tgt : Int)) (hdg : decode cc pc = .ok (.goto off, 3)) (kk : N X tgt lv st ws k z) : N X pc lv st ws k z := fun H locs ls hP hD hS hl => lv_goto C.x C.b hdg ht (kk H locs ls hP hD hS hl)
theorem N_icmp_ge_t (C : Nx X own cc fr lo) {x y : Int32} {off : Int} {tgt : Nat} (h : y ≤ x) (ht : (pc : Int) + off = (tgt : Int)) (hdg : decode cc pc = .ok (.if_icmp .ge off, 3)) (kk : N X tgt lv st ws k z) : N X pc lv (.int y :: .int x :: st) ws k z := fun H locs ls hP hD hS hl => lv_icmp_ge C.x C.b hdg ht (fun _ => kk H locs ls hP hD hS hl) (fun n => absurd h n)
theorem N_icmp_ge_f (C : Nx X own cc fr lo) {x y : Int32} {off : Int} {tgt : Nat} (h : ¬ y ≤ x) (hq : pc + 3 = q) (ht : (pc : Int) + off = (tgt : Int)) (hdg : decode cc pc = .ok (.if_icmp .ge off, 3)) (kk : N X q lv st ws k z) : N X pc lv (.int y :: .int x :: st) ws k z := by subst hq; exact fun H locs ls hP hD hS hl => lv_icmp_ge C.x C.b hdg ht (fun n => absurd n h) (fun _ => kk H locs ls hP hD hS hl)
theorem N_obj (C : Nx X own cc fr lo) {idx a : Nat} (hw : Cond.methodLink own idx objectInit ∈ TT) (hfr : 1 ≤ fr) (hlo : 12 ≤ lo) (hq : pc + 3 = q) (hdg : decode cc pc = .ok (.invokespecial idx, 3)) (kk : N X q lv [] ws k z) : N X pc lv [.ref a] ws k z := by
  subst hq
  intro H locs ls hP hD hS hl
  refine W.objInit C.x C.b C.ow (C.ts _ hw) (C.ts _ wo_inst) (C.ts _ wo_code) rfl (by rw [C.ml]; exact hl.1) rfl hdg (Nat.le_trans hfr C.hf) (Nat.le_trans hlo C.hlo) ?_
  exact W.eq (g2 := F0 (xm X) (pc + 3) ls []) rfl (kk H locs ls hP hD hS hl)
theorem N_newi (C : Nx X own cc fr lo) (n : Nat) {v : Int32} (hv : v = nI n) (hn : n ≤ 1000) (hk : k + 1 ≤ xcells X) (hz : z + n ≤ xslots X) (hq : pc + 2 = q) (hdg : decode cc pc = .ok (.newarray .int, 2)) (kk : ∀ a : Nat, N X q lv (.ref a :: st) (ws ++ [(a, cI (xD X) n z0)]) (k + 1) (z + n)) : N X pc lv (.int v :: st) ws k z := by
  subst hq; subst hv
  intro H locs ls hP hD hS hl
  refine va_newa (atype := .int) C.x C.b (C.ts _ wo_int) (ty := .int) rfl C.K.1 hP hD hS C.A1 (N' := n) (a0 := (n, .inl z0)) (fun _ => rfl) (nI_pos (by omega)) (nI_clamp (by omega)) (by show n * 4 ≤ _; omega) (Nat.le_trans hk C.ce) (Nat.le_trans hz C.sl) hdg (fun a cA H1 hK1 hP1 hD1 hS1 => ?_)
  have e : cA = (xD X).2.1 := (K_int hK1 (i := 0) (j := 3) rfl rfl).symm
  subst e
  exact kk a H1 locs ls hP1 hD1 hS1 hl
theorem N_newz (C : Nx X own cc fr lo) (n : Nat) {v : Int32} (hv : v = nI n) (hn : n ≤ 1000) (hk : k + 1 ≤ xcells X) (hz : z + n ≤ xslots X) (hq : pc + 2 = q) (hdg : decode cc pc = .ok (.newarray .boolean, 2)) (kk : ∀ a : Nat, N X q lv (.ref a :: st) (ws ++ [(a, cZ (xD X) n z0)]) (k + 1) (z + n)) : N X pc lv (.int v :: st) ws k z := by
  subst hq; subst hv
  intro H locs ls hP hD hS hl
  refine va_newa (atype := .boolean) C.x C.b (C.ts _ wo_bool) (ty := .boolean) rfl C.K.1 hP hD hS C.A1 (N' := n) (a0 := (n, .inl z0)) (fun _ => rfl) (nI_pos (by omega)) (nI_clamp (by omega)) (by show n * 1 ≤ _; omega) (Nat.le_trans hk C.ce) (Nat.le_trans hz C.sl) hdg (fun a cA H1 hK1 hP1 hD1 hS1 => ?_)
  have e : cA = (xD X).2.2.1 := (K_bool hK1 (i := 1) (j := 3) rfl rfl).symm
  subst e
  exact kk a H1 locs ls hP1 hD1 hS1 hl
theorem K_obj {D : va_G} {cl : List vw_C} {tys : List (ClassId × FieldType)} {s : State} (h : va_K D cl tys s) {i j : Nat} {a b : ClassId} {n : String} (hi : tys[i]? = some (a, .object n)) (hj : tys[j]? = some (b, .object n)) : a = b := by
  obtain ⟨-, -, -, -, -, e1⟩ := (h.2 i _ hi).2
  obtain ⟨-, -, -, -, -, e2⟩ := (h.2 j _ hj).2
  exact Option.some.inj (e1.symm.trans e2)
theorem N_newq (C : Nx X own cc fr lo) (n : Nat) {idx : Nat} {v : Int32} (hv : v = nI n) (hn : n ≤ 1000) (hcl : Cond.classLink own idx RX5 ∈ TT) (ho : va_AO RX5 (xs X)) (hk : k + 1 ≤ xcells X) (hz : z + n ≤ xslots X) (hq : pc + 3 = q) (hdg : decode cc pc = .ok (.anewarray idx, 3)) (kk : ∀ a : Nat, N X q lv (.ref a :: st) (ws ++ [(a, cQ (xD X) n (fun _ => none))]) (k + 1) (z + n)) : N X pc lv (.int v :: st) ws k z := by
  subst hq; subst hv
  intro H locs ls hP hD hS hl
  refine va_newq C.x C.b C.ow (C.ts _ hcl) ho C.K.1 hP hD hS C.A1 (N' := n) (nI_pos (by omega)) (nI_clamp (by omega)) (by omega) (Nat.le_trans hk C.ce) (Nat.le_trans hz C.sl) hdg (fun a cA H1 hK1 hP1 hD1 hS1 => ?_)
  have e : cA = (xD X).2.2.2.1 := (K_obj hK1 (i := 2) (j := 3) rfl rfl).symm
  subst e
  exact kk a H1 locs ls hP1 hD1 hS1 hl
theorem N_new (C : Nx X own cc fr lo) {ci n idx : Nat} {Cn : String} {T : u_T} {ty : Nat → FieldType} (fs : List Value) (hcl : vwCl[ci]? = some (Cn, T, n)) (hin : ∀ w ∈ u_ws Cn T n, w ∈ TT) (hty : ∀ k, k < n → parseFieldDescriptor (T k).2.2.1 = some (ty k)) (hcll : Cond.classLink own idx Cn ∈ TT) (hinst : Cond.instantiable Cn n ∈ TT) (hini : Cond.initialized Cn ∈ TT) (hfs : ∀ j, j < n → defaultValue (ty j) = vp_V fs j) (hk : k + 1 ≤ xcells X) (hz : z + n ≤ xslots X) (hq : pc + 3 = q) (hdg : decode cc pc = .ok (.new idx, 3)) (kk : ∀ a : Nat, N X q lv (.ref a :: st) (ws ++ [(a, .inr (ci, fs))]) (k + 1) (z + n)) : N X pc lv st ws k z := by
  subst hq
  intro H locs ls hP hD hS hl
  exact va_new C.x C.b C.ts hin ty hty C.ow (C.ts _ hcll) (C.ts _ hinst) (C.ts _ hini) C.K.1 hP hD hS C.A1 hcl hfs (Nat.le_trans hk C.ce) (Nat.le_trans hz C.sl) hdg (fun a H1 hP1 hD1 hS1 => kk a H1 locs ls hP1 hD1 hS1 hl)
theorem N_putF (C : Nx X own cc fr lo) (hin2 : (xmeth X).name = "<init>") (p : Nat) {i ci n idx a : Nat} {Cn : String} {T : u_T} {fs : List Value} {v : Value} {ty0 : Nat → FieldType} {ty : FieldType} (hp : ws[p]? = some (a, .inr (ci, fs))) (hcl : vwCl[ci]? = some (Cn, T, n)) (hin : ∀ w ∈ u_ws Cn T n, w ∈ TT) (hty : ∀ k, k < n → parseFieldDescriptor (T k).2.2.1 = some (ty0 k)) (hnm : ∀ a, a < n → ∀ b, b < n → a ≠ b → (T a).2.1 ≠ (T b).2.1) (hi : i < n) (hlink : Cond.fieldLink own idx (T i).1 (T i).2.1 (T i).2.2.1 ∈ TT) (hfin : (T i).2.2.2 = true) (hdecl : (T i).1 = own) (hd : parseFieldDescriptor (T i).2.2.1 = some ty) (hn : narrow ty v = v) (hfit : fits ty v = true) (hl2 : i < fs.length) (hw : ws.set p (a, .inr (ci, fs.set i v)) = ws') (hq : pc + 3 = q) (hdg : decode cc pc = .ok (.putfield idx, 3)) (kk : N X q lv st ws' k z) : N X pc lv (v :: .ref a :: st) ws k z := by
  subst hq
  intro H locs ls hP hD hS hl
  refine va_putF C.x C.b C.ts hin ty0 hty hnm C.ow C.K.1 hP hD hS p hp hcl i hi (C.ts _ hlink) (fun _ h => h) hfin hin2 hdecl hd hn hfit hl2 hdg (fun H1 locs1 hP1 hD1 hS1 => ?_)
  rw [hw] at hP1 hD1
  exact kk H1 locs1 ls hP1 hD1 hS1 hl
theorem N_put (C : Nx X own cc fr lo) (p : Nat) {i ci n idx a : Nat} {Cn : String} {T : u_T} {fs : List Value} {v : Value} {ty0 : Nat → FieldType} {ty : FieldType} (hp : ws[p]? = some (a, .inr (ci, fs))) (hcl : vwCl[ci]? = some (Cn, T, n)) (hin : ∀ w ∈ u_ws Cn T n, w ∈ TT) (hty : ∀ k, k < n → parseFieldDescriptor (T k).2.2.1 = some (ty0 k)) (hnm : ∀ a, a < n → ∀ b, b < n → a ≠ b → (T a).2.1 ≠ (T b).2.1) (hi : i < n) (hlink : Cond.fieldLink own idx (T i).1 (T i).2.1 (T i).2.2.1 ∈ TT) (hfin : (T i).2.2.2 = false) (hd : parseFieldDescriptor (T i).2.2.1 = some ty) (hn : narrow ty v = v) (hfit : fits ty v = true) (hl2 : i < fs.length) (hw : ws.set p (a, .inr (ci, fs.set i v)) = ws') (hq : pc + 3 = q) (hdg : decode cc pc = .ok (.putfield idx, 3)) (kk : N X q lv st ws' k z) : N X pc lv (v :: .ref a :: st) ws k z := by
  subst hq
  intro H locs ls hP hD hS hl
  refine va_put C.x C.b C.ts hin ty0 hty hnm C.ow C.K.1 hP hD hS p hp hcl i hi (C.ts _ hlink) (fun _ h => h) hfin hd hn hfit hl2 hdg (fun H1 locs1 hP1 hD1 hS1 => ?_)
  rw [hw] at hP1 hD1
  exact kk H1 locs1 ls hP1 hD1 hS1 hl
theorem N_get (C : Nx X own cc fr lo) (p : Nat) {i ci n idx a : Nat} {Cn : String} {T : u_T} {fs : List Value} {v : Value} (hp : ws[p]? = some (a, .inr (ci, fs))) (hcl : vwCl[ci]? = some (Cn, T, n)) (hin : ∀ w ∈ u_ws Cn T n, w ∈ TT) (hi : i < n) (hlink : Cond.fieldLink own idx (T i).1 (T i).2.1 (T i).2.2.1 ∈ TT) (hv : fs[i]? = some v) (hq : pc + 3 = q) (hdg : decode cc pc = .ok (.getfield idx, 3)) (kk : N X q lv (v :: st) ws k z) : N X pc lv (.ref a :: st) ws k z := by
  subst hq
  intro H locs ls hP hD hS hl
  exact va_get C.x C.b C.ts hin C.ow C.K.1 hP p hp hcl i hi (C.ts _ hlink) (fun _ h => h) hv hdg (kk H locs ls hP hD hS hl)
theorem N_iast (C : Nx X own cc fr lo) (p : Nat) {a n : Nat} {f : Nat → Int32} {i x : Int32} (j : Nat) (hj : i = nI j) (hjl : j < n) (hnn : n < 2 ^ 31) (hp : ws[p]? = some (a, cI (xD X) n f)) (hw : ws.set p (a, cI (xD X) n (upd f j x)) = ws') (hq : pc + 1 = q) (hdg : decode cc pc = .ok (.iastore, 1)) (kk : N X q lv st ws' k z) : N X pc lv (.int x :: .int i :: .ref a :: st) ws k z := by
  subst hq; subst hj
  intro H locs ls hP hD hS hl
  refine va_iast C.x C.b C.K.1 hP hD hS p 0 hp rfl (vp_in_nI hjl hnn) hdg (fun H1 locs1 hP1 hD1 hS1 => ?_)
  rw [nI_clamp (by omega), hw] at hP1 hD1
  exact kk H1 locs1 ls hP1 hD1 hS1 hl
theorem N_aast (C : Nx X own cc fr lo) (p r : Nat) {a v n : Nat} {fs : List Value} {f : Nat → Option Nat} {i : Int32} (j : Nat) (hj : i = nI j) (hjl : j < n) (hnn : n < 2 ^ 31) (hp : ws[p]? = some (a, cQ (xD X) n f)) (hr : ws[r]? = some (v, .inr (5, fs))) (hw : ws.set p (a, cQ (xD X) n (va_up f j (some v))) = ws') (hq : pc + 1 = q) (hdg : decode cc pc = .ok (.aastore, 1)) (kk : N X q lv st ws' k z) : N X pc lv (.ref v :: .int i :: .ref a :: st) ws k z := by
  subst hq; subst hj
  intro H locs ls hP hD hS hl
  refine va_astq C.x C.b C.K.1 hP hD hS p 2 r 5 (r := (RX5, TX5, 4)) hp rfl hr rfl (vp_in_nI hjl hnn) hdg (fun H1 locs1 hP1 hD1 hS1 => ?_)
  rw [nI_clamp (by omega), hw] at hP1 hD1
  exact kk H1 locs1 ls hP1 hD1 hS1 hl
theorem N_vret (C : Nx X own cc fr lo) (hr : (xmeth X).sig.returnType = none) {B : va_W → Prop} (hQ : Nq X B) (hk : k ≤ xcells X) (hz : z ≤ xslots X) (hdg : decode cc pc = .ok (.return_, 1)) (hB : B ws) : N X pc lv [] ws k z := by
  intro H locs ls hP hD hS hl
  unfold Nq at hQ
  refine W.widen hk hz ?_
  rw [hQ]
  exact W.vret C.x C.b hr (fun t ht _ => ⟨⟨ws, rfl, hB, by rw [ht]; exact hP, hD⟩, hS.F ht⟩) hS.2.2 hdg C.locks
theorem N_sub (is : List Nat) (hn : va_nd is = true) (hs : is.map (fun i => ws[i]?) = ws'.map some) (kk : N X pc lv st ws' k z) : N X pc lv st ws k z := by
  intro H locs ls hP hD hS hl
  refine kk H locs ls (fun j q hq => ?_) (hD.sub is hn hs) hS hl
  have h1 : (is.map (fun i => ws[i]?))[j]? = some (some q) := by rw [hs, List.getElem?_map, hq]; rfl
  rw [List.getElem?_map] at h1
  cases hi : is[j]? with
  | none => rw [hi] at h1; cases h1
  | some i => rw [hi] at h1; exact hP i q (Option.some.inj h1)
theorem N_cong (p : Nat) {a n : Nat} {cA : ClassId} {f g : Nat → Int32} (hp : ws[p]? = some (a, .inl (cA, n, .inl f))) (h : ∀ i, i < n → f i = g i) (hw : ws.set p (a, .inl (cA, n, .inl g)) = ws') (kk : N X pc lv st ws' k z) : N X pc lv st ws k z := by
  intro H locs ls hP hD hS hl
  have hD1 : va_D (xA X) ws' := by rw [← hw]; exact hD.set hp
  refine kk H locs ls (fun j q hq => ?_) hD1 hS hl
  rw [← hw] at hq
  by_cases hj : j = p
  · subst hj
    rw [List.getElem?_set_self (List.getElem?_eq_some_iff.mp hp).1] at hq
    cases hq
    have h1 := hP j _ hp
    refine Eq.trans h1 (congrArg some ?_)
    show vp_cell _ _ = vp_cell _ _
    rw [vp_cell_i, vp_cell_i]
    exact arrV_congr (fun t ht => by rw [h t ht])
  · rw [List.getElem?_set_ne (Ne.symm hj)] at hq
    exact hP j q hq
theorem join1 {A0 : Nat → Prop} {D : va_G} {cl : List vw_C} {wr w1 : va_W} {x : Nat × va_E} {H H1 : Heap} (hP : va_P D cl (wr ++ [x]) H) (hD : va_D A0 (wr ++ [x])) (hk : ∀ q : Nat, q < H.size → ¬ va_A [x] H.size q → H1[q]? = H[q]?) (hF : ∀ q, va_A [x] H.size q → A0 q) (hP1 : va_P D cl w1 H1) (hD1 : va_D (va_A [x] H.size) w1) : va_P D cl (wr ++ w1) H1 ∧ va_D A0 (wr ++ w1) := by
  have up : ∀ {k : Nat} {q : Nat × va_E}, wr[k]? = some q → (wr ++ [x])[k]? = some q := fun h => by
    rw [List.getElem?_append_left (List.getElem?_eq_some_iff.mp h).1]; exact h
  have hx : (wr ++ [x])[wr.length]? = some x := by rw [List.getElem?_append_right (Nat.le_refl _), Nat.sub_self]; rfl
  have apart : ∀ (k : Nat) (q : Nat × va_E), wr[k]? = some q → q.1 < H.size ∧ ¬ va_A [x] H.size q.1 := by
    intro k q hq
    have hl := (hP k q (up hq)).lt
    refine ⟨hl, fun h => ?_⟩
    rcases h with ⟨k2, e, h⟩ | h
    · have h1 : k2 < 1 := (List.getElem?_eq_some_iff.mp h).1
      rw [show k2 = 0 by omega] at h
      have h2 : x = (q.1, e) := Option.some.inj h
      have := hD.1 k wr.length q x (up hq) hx (by rw [h2])
      have h3 := (List.getElem?_eq_some_iff.mp hq).1
      omega
    · omega
  refine ⟨va_P.app (fun k q hq => ?_) hP1, va_D.app ⟨fun i j p q hi hj e => hD.1 i j p q (up hi) (up hj) e, fun k q hq => hD.2 k q (up hq)⟩ (hD1.weaken (fun k q _ h => hF q.1 h)) (fun i j p q hp hq hpq => ?_)⟩
  · obtain ⟨g1, g2⟩ := apart k q hq
    exact (hP k q (up hq)).kept (hk q.1 g1 g2)
  · exact (apart i p hp).2 (by rw [hpq]; exact hD1.2 j q hq)
theorem N_ret1 (C : Nx X own cc fr lo) {wr : va_W} {a ci mc ms : Nat} {fs rest st0 : List Value} {B : va_W → Prop} {aa : Array Value} {H : Heap} {locs : List Loc} {ls : Array Slot} (hP : va_P (xD X).1 vwCl (wr ++ [(a, .inr (ci, fs))]) H) (hD : va_D (xA X) (wr ++ [(a, .inr (ci, fs))])) (hS : va_S (xA X) (xs X).heap H locs) (hl : LV ls (xn X) lv)
    (hr : va_Run (xp X) (xl X) X.1.2.2.1 (xR X) (xs X) (xm X) (xargs X) (xbelow X) (xmeth X) (xc X) H locs k z mc ms (F0 (xm X) pc ls st0) rest (Bq (xD X) (va_A [(a, .inr (ci, fs))] H.size) B aa) (va_A [(a, .inr (ci, fs))] H.size)) (kk : ∀ w1, B w1 → N X (pc + 3) lv rest (wr ++ w1) (k + mc) (z + ms)) : W (xp X) (xl X) X.1.2.2.1 (xR X) (xs X) (xm X) (xargs X) (xbelow X) (xmeth X) (xc X) H locs k z (xQ X) (F0 (xm X) pc ls st0) := by
  have hF : ∀ q, va_A [(a, .inr (ci, fs))] H.size q → xA X q := by
    intro q h
    rcases h with ⟨k2, e, h⟩ | h
    · have h1 : k2 < 1 := (List.getElem?_eq_some_iff.mp h).1
      rw [show k2 = 0 by omega] at h
      have h2 : (a, (Sum.inr (ci, fs) : va_E)) = (q, e) := Option.some.inj h
      have hx : (wr ++ [(a, (Sum.inr (ci, fs) : va_E))])[wr.length]? = some (a, .inr (ci, fs)) := by rw [List.getElem?_append_right (Nat.le_refl _), Nat.sub_self]; rfl
      have := hD.2 _ _ hx
      rwa [show a = q from congrArg Prod.fst h2] at this
    · exact C.A1 q (Nat.le_trans hS.1 h)
  refine va_callv hr hS (fun q _ h => hF q h) hF (fun u t H1 locs1 ht _ hB hW _ hk1 hS1 => ?_)
  rw [ht] at hW
  obtain ⟨hP2, hD2⟩ := join1 hP hD hk1 hF hW.1 hW.2
  exact kk u hB H1 locs1 ls hP2 hD2 hS1 hl
theorem N_blind {D : DD} {KX : State → Prop} {a ci : Nat} {fs av : List Value} {sz : Nat} (hKc : ∀ (U : State) (g : JFrame) (mk : MethodId) (b : Array Value), KX U → KX (U.calling g mk b)) : FrameBlind (Bp D KX a ci fs sz av) := fun b U g mk h => ⟨h.1, h.2.1, h.2.2.1, hKc U g mk b h.2.2.2⟩
theorem N_callI (C : Nx X own cc fr lo) {y : MethodName} {yc : ByteArray} {n idx na fr2 lo2 mc ms a ci : Nat} {fs As rest : List Value} {B : va_W → Prop} {KX : State → Prop} {wr : va_W} (hM : Cn (xl X) y yc n fr2 lo2 mc ms (xD X) KX a ci fs As B) (hw : Cw y yc n none na) (hyn : y.name = "<init>") (hin : Cond.instanceMethod y ∈ TT) (hlink : Cond.methodLink own idx y ∈ TT)
    (hKX : ∀ U : State, (xs X).WarmedH U.vm → KX U) (hKc : ∀ (U : State) (g : JFrame) (mk : MethodId) (b : Array Value), KX U → KX (U.calling g mk b)) (hroom : fr2 + 1 ≤ fr ∧ 8 + (n + 11) + lo2 ≤ lo) (hna : As.length = na) (hst : st = As.reverse ++ .ref a :: rest) (hcat : (rest.map fun v => v.category).sum ≤ 8) (hcell : k + mc ≤ xcells X ∧ z + ms ≤ xslots X) (hq : pc + 3 = q) (hws : ws = wr ++ [(a, .inr (ci, fs))]) (hdg : decode cc pc = .ok (.invokespecial idx, 3)) (kk : ∀ w1, B w1 → N X q lv rest (wr ++ w1) (k + mc) (z + ms)) : N X pc lv st ws k z := by
  subst hst; subst hq; subst hws
  intro H locs ls hP hD hS hl
  exact N_ret1 C hP hD hS hl (va_runI (Ts := TT) (own := own) (As := As) (rest := rest) (n := na) ⟨C.x, C.b, C.ml, C.ow, C.ts⟩ (hM H.size) ⟨callB_of na C.ts hw.goodIn rfl rfl rfl (C.ts _ hw.1) (C.ts _ hlink) ⟨hw.2.2.1.1, hw.2.2.1.2, hw.2.2.2⟩ ⟨Nat.le_trans hroom.1 C.hf, Nat.le_trans hroom.2 C.hlo⟩, hyn, C.ts _ hin⟩ ⟨N_blind hKc, fun U hU hW => ⟨rfl, by rw [hU], by rw [hU]; exact hP.sub (ws' := [(a, .inr (ci, fs))]) [wr.length] (by simp), hKX U hW⟩⟩ rfl hna hl.1 rfl (lv_room hcat) hdg ⟨Nat.le_trans hcell.1 C.ce, Nat.le_trans hcell.2 C.sl⟩) kk
theorem N_callIN (C : Nx X own cc fr lo) {y : MethodName} {yc : ByteArray} {n idx na fr2 lo2 mc ms a ci : Nat} {host : String} {fs As rest : List Value} {B : va_W → Prop} {KX : State → Prop} {wr : va_W} (hM : Cn (xl X) y yc n fr2 lo2 mc ms (xD X) KX a ci fs As B) (hw : Cw y yc n none na) (hyn : y.name = "<init>") (hin : Cond.instanceMethod y ∈ TT) (hlink : va_Nw (.methodLinkNest own idx y host) (xs X))
    (hKX : ∀ U : State, (xs X).WarmedH U.vm → KX U) (hKc : ∀ (U : State) (g : JFrame) (mk : MethodId) (b : Array Value), KX U → KX (U.calling g mk b)) (hroom : fr2 + 1 ≤ fr ∧ 8 + (n + 11) + lo2 ≤ lo) (hna : As.length = na) (hst : st = As.reverse ++ .ref a :: rest) (hcat : (rest.map fun v => v.category).sum ≤ 8) (hcell : k + mc ≤ xcells X ∧ z + ms ≤ xslots X) (hq : pc + 3 = q) (hws : ws = wr ++ [(a, .inr (ci, fs))]) (hdg : decode cc pc = .ok (.invokespecial idx, 3)) (kk : ∀ w1, B w1 → N X q lv rest (wr ++ w1) (k + mc) (z + ms)) : N X pc lv st ws k z := by
  subst hst; subst hq; subst hws
  intro H locs ls hP hD hS hl
  exact N_ret1 C hP hD hS hl (va_runIN (Ts := TT) (own := own) (host := host) (As := As) (rest := rest) (n := na) ⟨C.x, C.b, C.ml, C.ow, C.ts⟩ (hM H.size) ⟨va_cnB na C.ts hw.goodIn rfl rfl rfl hlink (C.ts _ hw.1) ⟨hw.2.2.1.1, hw.2.2.1.2, hw.2.2.2⟩ ⟨Nat.le_trans hroom.1 C.hf, Nat.le_trans hroom.2 C.hlo⟩, hyn, C.ts _ hin⟩ ⟨N_blind hKc, fun U hU hW => ⟨rfl, by rw [hU], by rw [hU]; exact hP.sub (ws' := [(a, .inr (ci, fs))]) [wr.length] (by simp), hKX U hW⟩⟩ rfl hna hl.1 rfl (lv_room hcat) hdg ⟨Nat.le_trans hcell.1 C.ce, Nat.le_trans hcell.2 C.sl⟩) kk
end NROWS
