/-! THE MODEL OF THE DAYS: what the law's own arrays say, in words of their own -/
theorem upd_eq {k i : Nat} {f g : Nat → Int32} {x y : Int32} (hx : x = y) (h : f i = g i) : upd f k x i = upd g k y i := by
  unfold upd
  by_cases e : i = k
  · rw [if_pos e, if_pos e, hx]
  · rw [if_neg e, if_neg e, h]
theorem upd_at {f : Nat → Int32} {k : Nat} {x : Int32} : upd f k x k = x := if_pos rfl
theorem upd_ne {f : Nat → Int32} {k i : Nat} {x : Int32} (h : i ≠ k) : upd f k x i = f i := if_neg h
theorem setf_n {σ : ST} {k i j : Nat} {x : Int32} (h : j ≠ k) : setf σ k i x j = σ j := setc_n h
theorem nI_ne9 {k : Nat} (h : k < 2 ^ 31) : ¬ nI k = -9 := fun e => by
  have := congrArg Int32.toInt e
  rw [nI_toInt h] at this
  exact absurd this (by show ¬ ((k : Int) = -9); omega)
theorem fst?_congr {q r : Nat → Prop} [DecidablePred q] [DecidablePred r] : ∀ (f i : Nat), (∀ j, i ≤ j → j < i + f → (q j ↔ r j)) → fst? q f i = fst? r f i := by
  intro f
  induction f with
  | zero => intro i _; rfl
  | succ f ih =>
    intro i h
    show (if q i then some i else fst? q f (i + 1)) = (if r i then some i else fst? r f (i + 1))
    rw [ih (i + 1) (fun j h1 h2 => h j (by omega) (by omega))]
    by_cases hq : q i
    · rw [if_pos hq, if_pos ((h i (Nat.le_refl _) (by omega)).mp hq)]
    · rw [if_neg hq, if_neg (fun hr => hq ((h i (Nat.le_refl _) (by omega)).mpr hr))]
theorem fst?_lt {q : Nat → Prop} [DecidablePred q] : ∀ (f i k : Nat), fst? q f i = some k → i ≤ k ∧ k < i + f ∧ q k := by
  intro f
  induction f with
  | zero => intro i k h; cases h
  | succ f ih =>
    intro i k h
    have h2 : (if q i then some i else fst? q f (i + 1)) = some k := h
    by_cases hq : q i
    · rw [if_pos hq] at h2; cases h2; exact ⟨Nat.le_refl _, by omega, hq⟩
    · rw [if_neg hq] at h2
      have := ih (i + 1) k h2
      exact ⟨by omega, by omega, this.2.2⟩
theorem setB_cg {q r : Nat → Prop} [DecidablePred q] [DecidablePred r] {n : Nat} (hn : n ≤ 32) (h : ∀ i, i < n → (q i ↔ r i)) : setB q n = setB r n := bit_ext fun i hi => by
  rw [bit_setB n hn i hi, bit_setB n hn i hi]
  exact and_congr_right fun hin => h i hin
def wantM (k n : Int32) : Int32 := if k = 0 then n else if k = 1 then n + 1 else 2 * n + 2
def opM (k lk : Int32) : Int32 := if k = 2 then 63 else if k = 0 then own1 lk else own1 lk ||| own1 (remI (lk + 1) 6)
abbrev S3 : Type := (Nat → Int32) × (Nat → Int32) × (Nat → Int32)
def woM (σ : ST) (d : Nat) : Int32 := if σ 40 31 = -9 then σ 51 d else if nI d < σ 40 31 then σ 63 d else -9
def gwM (T : Nat) (f a x : Int32) (w : Nat → Int32) : Nat → Int32 := if ¬ f = 0 then w else if x = -9 then pre T (fun t => w t + a) w else upd (pre T (fun t => w t + a) w) x.toNatClampNeg (pre T (fun t => w t + a) w x.toNatClampNeg + 3)
abbrev ukQ (σ : ST) (j : Nat) (on : Nat → Int32) (p : Nat) : Prop := on p = -9 ∧ (opM (σ 44 j) (σ 45 j) >>> (σ 48 p &&& 31)) &&& 1 = 1
def ukM (σ : ST) (P j : Nat) (d : Int32) (s : S3) : S3 := match fst? (ukQ σ j s.2.1) P 0 with
  | some p => (upd s.1 j 0, upd s.2.1 p d, upd s.2.2 p (nI j))
  | none => s
def crM (σ : ST) (d : Nat) : Nat → (Nat → Int32) → Nat → Int32
  | 0, w => w
  | c + 1, w => if σ 58 c = nI d ∧ wantM (σ 44 (σ 59 c).toNatClampNeg) (σ 46 (σ 59 c).toNatClampNeg) ≤ crM σ d c w (σ 59 c).toNatClampNeg then upd (crM σ d c w) (σ 59 c).toNatClampNeg 0 else crM σ d c w
def kyM (σ : ST) (P d : Nat) : Nat → S3 → S3
  | 0, s => s
  | t + 1, s => if σ 47 t = 0 ∧ wantM (σ 44 t) (σ 46 t) ≤ (kyM σ P d t s).1 t then ukM σ P t (nI d) (kyM σ P d t s) else kyM σ P d t s
def tmM (σ : ST) (d : Nat) (o : Nat → Int32) (p : Nat) : Int32 := if o p = -9 ∧ σ 49 p = nI d then nI d else o p
def md1 (σ : ST) (T d : Nat) (s : S3) : S3 := (gwM T (σ 52 d) (σ 50 d) (woM σ d) s.1, s.2)
def md2 (σ : ST) (C d : Nat) (s : S3) : S3 := (crM σ d C s.1, s.2)
def md4 (σ : ST) (P d : Nat) (s : S3) : S3 := (s.1, pre P (tmM σ d s.2.1) s.2.1, s.2.2)
def mDay (σ : ST) (T P C d : Nat) (s : S3) : S3 := md4 σ P d (kyM σ P d T (md2 σ C d (md1 σ T d s)))
def mDays (σ : ST) (T P C : Nat) : Nat → S3 → S3
  | 0, s => s
  | n + 1, s => mDay σ T P C n (mDays σ T P C n s)
theorem crM_s {σ : ST} {d c : Nat} {w : Nat → Int32} : crM σ d (c + 1) w = if σ 58 c = nI d ∧ wantM (σ 44 (σ 59 c).toNatClampNeg) (σ 46 (σ 59 c).toNatClampNeg) ≤ crM σ d c w (σ 59 c).toNatClampNeg then upd (crM σ d c w) (σ 59 c).toNatClampNeg 0 else crM σ d c w := rfl
theorem kyM_s {σ : ST} {P d t : Nat} {s : S3} : kyM σ P d (t + 1) s = if σ 47 t = 0 ∧ wantM (σ 44 t) (σ 46 t) ≤ (kyM σ P d t s).1 t then ukM σ P t (nI d) (kyM σ P d t s) else kyM σ P d t s := rfl
def mc0 : S3 := (fun _ => 0, fun _ => -9, fun _ => -9)
def mDC (σ : ST) (T P C N : Nat) : S3 := mDays σ T P C N mc0
/-! the law's arrays as such a model: g, rain, wet, frost -/
def vL (g rn wt fr : Nat → Int32) : ST := fun k => match k with
  | 40 => fun i => if i = 31 then -9 else 0
  | 44 => fun t => g (3 + t)
  | 45 => fun t => g (9 + t)
  | 46 => fun t => g (15 + t)
  | 47 => fun t => (g 21 >>> (nI t &&& 31)) &&& 1
  | 48 => fun p => g (22 + p)
  | 49 => fun p => g (28 + p)
  | 50 => rn
  | 51 => wt
  | 52 => fr
  | 58 => fun c => g (34 + 2 * c)
  | 59 => fun c => g (35 + 2 * c)
  | _ => fun _ => 0
abbrev vM (σ : ST) : ST := vL (σ 40) (σ 41) (σ 42) (σ 43)
/-- the row r as the law keeps it: water 0 .. 5, the day on which one is out 6 .. 11, by which tree 12 .. 17 -/
def rOf (m : S3) : Nat → Int32 := fun k => if k < 6 then m.1 k else if k < 12 then m.2.1 (k - 6) else m.2.2 (k - 12)
theorem rOf_w {m : S3} {t : Nat} (h : t < 6) : rOf m t = m.1 t := if_pos h
theorem rOf_o {m : S3} {p : Nat} (h : p < 6) : rOf m (6 + p) = m.2.1 p := by
  unfold rOf
  rw [if_neg (by omega), if_pos (by omega), show 6 + p - 6 = p by omega]
theorem rOf_b {m : S3} {p : Nat} : rOf m (12 + p) = m.2.2 p := by
  unfold rOf
  rw [if_neg (by omega), if_neg (by omega), show 12 + p - 12 = p by omega]
theorem rset {σ : ST} {m m2 : S3} {k : Nat} {x : Int32} (h : upd (rOf m) k x = rOf m2) : setf (setc σ 44 (rOf m)) 44 k x = setc σ 44 (rOf m2) := by
  unfold setf
  rw [setc_s, setc_setc, h]
theorem rset_w {σ : ST} {m m2 : S3} {t : Nat} {x : Int32} (ht : t < 6) (h : (upd m.1 t x, m.2) = m2) : setf (setc σ 44 (rOf m)) 44 t x = setc σ 44 (rOf m2) := by
  refine rset (funext fun k => ?_)
  subst h
  unfold rOf upd
  dsimp only
  by_cases e : k = t
  · subst e; rw [if_pos rfl, if_pos ht]; exact (if_pos rfl).symm
  · rw [if_neg e]
    by_cases h6 : k < 6
    · rw [if_pos h6, if_pos h6]; exact (if_neg e).symm
    · rw [if_neg h6, if_neg h6]
theorem rset_o {σ : ST} {m m2 : S3} {p : Nat} {x : Int32} (hp : p < 6) (h : (m.1, upd m.2.1 p x, m.2.2) = m2) : setf (setc σ 44 (rOf m)) 44 (6 + p) x = setc σ 44 (rOf m2) := by
  refine rset (funext fun k => ?_)
  subst h
  unfold rOf upd
  dsimp only
  by_cases e : k = 6 + p
  · subst e; rw [if_pos rfl, if_neg (by omega), if_pos (by omega)]; exact (if_pos (by omega)).symm
  · rw [if_neg e]
    by_cases h6 : k < 6
    · rw [if_pos h6, if_pos h6]
    · rw [if_neg h6, if_neg h6]
      by_cases h12 : k < 12
      · rw [if_pos h12, if_pos h12]; exact (if_neg (by omega)).symm
      · rw [if_neg h12, if_neg h12]
theorem rset_b {σ : ST} {m m2 : S3} {p : Nat} {x : Int32} (h : (m.1, m.2.1, upd m.2.2 p x) = m2) : setf (setc σ 44 (rOf m)) 44 (12 + p) x = setc σ 44 (rOf m2) := by
  refine rset (funext fun k => ?_)
  subst h
  unfold rOf upd
  dsimp only
  by_cases e : k = 12 + p
  · subst e; rw [if_pos rfl, if_neg (by omega), if_neg (by omega)]; exact (if_pos (by omega)).symm
  · rw [if_neg e]
    by_cases h6 : k < 6
    · rw [if_pos h6, if_pos h6]
    · rw [if_neg h6, if_neg h6]
      by_cases h12 : k < 12
      · rw [if_pos h12, if_pos h12]
      · rw [if_neg h12, if_neg h12]; exact (if_neg (by omega)).symm
/-! the water of a day, tree by tree -/
def gwL (μ : ST) (d : Nat) (w : Nat → Int32) (t : Nat) : Int32 := w t + (μ 50 d + if μ 51 d = nI t then 3 else 0)
def gwA (μ : ST) (d i : Nat) (m : S3) : S3 := (if μ 52 d = 0 then pre i (gwL μ d m.1) m.1 else m.1, m.2)
theorem gwA_0 {μ : ST} {d : Nat} {m : S3} : gwA μ d 0 m = m := by
  unfold gwA
  rw [pre_0]
  split <;> rfl
theorem gwA_n {μ : ST} {d i j : Nat} {m : S3} (h : ¬ μ 52 d = 0) : gwA μ d i m = gwA μ d j m := by
  unfold gwA
  rw [if_neg h, if_neg h]
theorem gwA_y {μ : ST} {d t : Nat} {m : S3} {v : Int32} (ht : t < 6) (hf : μ 52 d = 0) (hv : v = if μ 51 d = nI t then 3 else 0) : (upd (gwA μ d t m).1 t (rOf (gwA μ d t m) t + (μ 50 d + v)), (gwA μ d t m).2) = gwA μ d (t + 1) m := by
  subst hv
  rw [rOf_w ht]
  unfold gwA
  rw [if_pos hf, if_pos hf]
  show (upd (pre t (gwL μ d m.1) m.1) t (pre t (gwL μ d m.1) m.1 t + _), m.2) = _
  rw [pre_ge (Nat.lt_irrefl t)]
  exact congrArg (fun z => (z, m.2)) (pre_step rfl)
theorem gwA_T {g rn wt fr : Nat → Int32} {T d : Nat} {m : S3} (hT6 : T ≤ 6) (h : wt d = -9 ∨ ∃ t : Nat, t < T ∧ wt d = nI t) : gwA (vL g rn wt fr) d T m = md1 (vL g rn wt fr) T d m := by
  have ew : woM (vL g rn wt fr) d = wt d := if_pos rfl
  unfold gwA md1 gwM
  rw [ew]
  refine congrArg (fun z => (z, m.2)) ?_
  by_cases hf : vL g rn wt fr 52 d = 0
  · rw [if_pos hf, if_neg (nn hf)]
    rcases h with h | ⟨x, hx, h⟩
    · rw [if_pos h]
      funext t
      by_cases ht : t < T
      · rw [pre_lt ht, pre_lt ht]
        show m.1 t + (rn d + if wt d = nI t then 3 else 0) = m.1 t + rn d
        rw [if_neg (fun e => nI_ne9 (k := t) (by omega) (e.symm.trans h)), Int32.add_zero]
      · rw [pre_ge ht, pre_ge ht]
    · rw [h, if_neg (nI_ne9 (by omega)), nI_clamp (by omega)]
      funext t
      unfold upd
      by_cases ht : t < T
      · rw [pre_lt ht, pre_lt ht]
        show m.1 t + (rn d + if wt d = nI t then 3 else 0) = _
        by_cases e : t = x
        · subst e
          rw [if_pos h, if_pos rfl, pre_lt ht, Int32.add_assoc]
          rfl
        · rw [if_neg e, if_neg (fun z => e ((nI_eq (by omega) (by omega)).mp (h.symm.trans z)).symm), Int32.add_zero]
          rfl
      · rw [pre_ge ht, if_neg (fun e => ht (by omega)), pre_ge ht]
  · rw [if_neg hf, if_pos hf]
/-! who is out has a day on which -/
def OkM (P : Nat) (s : S3) : Prop := ∀ p, p < P → s.2.1 p = -9 ∨ ∃ d : Nat, d < 30 ∧ s.2.1 p = nI d
theorem ukM_ok {μ : ST} {P j d : Nat} {s : S3} (hd : d < 30) (h : OkM P s) : OkM P (ukM μ P j (nI d) s) := by
  unfold ukM
  split
  · next q _ =>
    intro p hp
    show upd s.2.1 q (nI d) p = -9 ∨ ∃ e : Nat, e < 30 ∧ upd s.2.1 q (nI d) p = nI e
    by_cases e : p = q
    · subst e; rw [upd_at]; exact Or.inr ⟨d, hd, rfl⟩
    · rw [upd_ne e]; exact h p hp
  · exact h
theorem kyM_ok {μ : ST} {P d : Nat} {s : S3} (hd : d < 30) (h : OkM P s) : ∀ n, OkM P (kyM μ P d n s) := by
  intro n
  induction n with
  | zero => exact h
  | succ n ih =>
    rw [kyM_s]
    split
    · exact ukM_ok hd ih
    · exact ih
theorem mDay_ok {μ : ST} {T P C d : Nat} {s : S3} (hd : d < 30) (h : OkM P s) : OkM P (mDay μ T P C d s) := by
  have h1 : OkM P (md2 μ C d (md1 μ T d s)) := h
  have h2 := kyM_ok (μ := μ) hd h1 T
  intro p hp
  show pre P (tmM μ d (kyM μ P d T (md2 μ C d (md1 μ T d s))).2.1) (kyM μ P d T (md2 μ C d (md1 μ T d s))).2.1 p = -9 ∨ ∃ e : Nat, e < 30 ∧ pre P (tmM μ d (kyM μ P d T (md2 μ C d (md1 μ T d s))).2.1) (kyM μ P d T (md2 μ C d (md1 μ T d s))).2.1 p = nI e
  rw [pre_lt hp]
  unfold tmM
  split
  · exact Or.inr ⟨d, hd, rfl⟩
  · exact h2 p hp
theorem mDays_ok {μ : ST} {T P C : Nat} : ∀ n, n ≤ 30 → OkM P (mDays μ T P C n mc0) := by
  intro n
  induction n with
  | zero => intro _ p _; exact Or.inl rfl
  | succ n ih => intro hn; exact mDay_ok (by omega) (ih (by omega))
