/-! frames of the relation: what changes, what stays -/
theorem Cr.cg5 {σ τ : ST} {T C : Nat} (h : Cr σ T C) (h1 : τ 21 5 = σ 21 5) (h2 : τ 24 = σ 24) (h3 : τ 25 = σ 25) (h4 : τ 40 24 = σ 40 24) (h5 : τ 58 = σ 58) (h6 : τ 59 = σ 59) : Cr τ T C := by
  unfold Cr
  rw [h1, h2, h3, h4, h5, h6]
  exact h
theorem We.cg4 {σ τ : ST} {T : Nat} (h : We σ T) (h1 : τ 21 4 = σ 21 4) (h2 : τ 22 = σ 22) (h3 : τ 23 = σ 23) (h4 : ∀ k, 50 ≤ k → k ≤ 52 → τ k = σ k) : We τ T := by
  unfold We
  rw [h1, h2, h3, h4 50 (by decide) (by decide), h4 51 (by decide) (by decide), h4 52 (by decide) (by decide)]
  exact h
theorem Rel.we {σ τ : ST} {T P C R : Nat} (h : Rel σ T P C R) (g : ∀ k, ¬ (k = 21 ∨ k = 22 ∨ k = 23 ∨ k = 50 ∨ k = 51 ∨ k = 52) → τ k = σ k) (h5 : τ 21 5 = σ 21 5) (hW : We τ T) : Rel τ T P C R := by
  obtain ⟨a, b, c, d, e, f⟩ := h
  have e40 := g 40 (by decide)
  exact ⟨a.cg (fun k h1 h2 => g k (by omega)) (fun k h1 h2 => g k (by omega)) (by rw [e40]) (by rw [e40]), hW,
    c.cg5 h5 (g 24 (by decide)) (g 25 (by decide)) (by rw [e40]) (g 58 (by decide)) (g 59 (by decide)),
    d.cg (fun k h1 h2 => g k (by omega)) (fun k h1 h2 => g k (by omega)) (by rw [e40]),
    e.cg (fun k h1 h2 => g k (by omega)) (fun k h1 h2 => g k (by omega)),
    f.cg (by rw [g 39 (by decide)]) (by rw [g 0 (by decide)]) (by rw [e40]) (by rw [e40]) (by rw [e40])⟩
theorem Rel.cr {σ τ : ST} {T P C R C2 : Nat} (h : Rel σ T P C R) (g : ∀ k, ¬ (k = 21 ∨ k = 24 ∨ k = 25 ∨ k = 40 ∨ k = 58 ∨ k = 59) → τ k = σ k) (h40 : ∀ i, i ≠ 24 → τ 40 i = σ 40 i) (h4 : τ 21 4 = σ 21 4) (hC : Cr τ T C2) : Rel τ T P C2 R := by
  obtain ⟨a, b, c, d, e, f⟩ := h
  exact ⟨a.cg (fun k h1 h2 => g k (by omega)) (fun k h1 h2 => g k (by omega)) (h40 5 (by decide)) (h40 6 (by decide)),
    b.cg4 h4 (g 22 (by decide)) (g 23 (by decide)) (fun k h1 h2 => g k (by omega)), hC,
    d.cg (fun k h1 h2 => g k (by omega)) (fun k h1 h2 => g k (by omega)) (h40 33 (by decide)),
    e.cg (fun k h1 h2 => g k (by omega)) (fun k h1 h2 => g k (by omega)),
    f.cg (by rw [g 39 (by decide)]) (by rw [g 0 (by decide)]) (h40 1 (by decide)) (h40 0 (by decide)) (h40 31 (by decide))⟩
theorem Rel.re {σ τ : ST} {T P C R R2 : Nat} (h : Rel σ T P C R) (g : ∀ k, ¬ ((26 ≤ k ∧ k ≤ 29) ∨ k = 40 ∨ (65 ≤ k ∧ k ≤ 67)) → τ k = σ k) (h40 : ∀ i, i ≠ 33 → τ 40 i = σ 40 i) (hR : Re τ P R2) : Rel τ T P C R2 := by
  obtain ⟨a, b, c, d, e, f⟩ := h
  exact ⟨a.cg (fun k h1 h2 => g k (by omega)) (fun k h1 h2 => g k (by omega)) (h40 5 (by decide)) (h40 6 (by decide)),
    b.cg (fun k h1 h2 => g k (by omega)) (fun k h1 h2 => g k (by omega)),
    c.cg5 (by rw [g 21 (by decide)]) (g 24 (by decide)) (g 25 (by decide)) (h40 24 (by decide)) (g 58 (by decide)) (g 59 (by decide)), hR,
    e.cg (fun k h1 h2 => g k (by omega)) (fun k h1 h2 => g k (by omega)),
    f.cg (by rw [g 39 (by decide)]) (by rw [g 0 (by decide)]) (h40 1 (by decide)) (h40 0 (by decide)) (h40 31 (by decide))⟩
theorem Rel.shh {σ τ : ST} {T P C R : Nat} (h : Rel σ T P C R) (g : ∀ k, ¬ (k = 0 ∨ (2 ≤ k ∧ k ≤ 9) ∨ (40 ≤ k ∧ k ≤ 43)) → τ k = σ k) (h40 : ∀ i, i ≠ 0 → τ 40 i = σ 40 i) (hf : τ 0 8 = τ 40 0) (hS : Sh τ) : Rel τ T P C R := by
  obtain ⟨a, b, c, d, e, f⟩ := h
  exact ⟨a.cg (fun k h1 h2 => g k (by omega)) (fun k h1 h2 => g k (by omega)) (h40 5 (by decide)) (h40 6 (by decide)),
    b.cg (fun k h1 h2 => g k (by omega)) (fun k h1 h2 => g k (by omega)),
    c.cg5 (by rw [g 21 (by decide)]) (g 24 (by decide)) (g 25 (by decide)) (h40 24 (by decide)) (g 58 (by decide)) (g 59 (by decide)),
    d.cg (fun k h1 h2 => g k (by omega)) (fun k h1 h2 => g k (by omega)) (h40 33 (by decide)), hS,
    by rw [g 39 (by decide), h40 1 (by decide)]; exact f.1, hf, by rw [h40 31 (by decide)]; exact f.2.2⟩
theorem Rel.fe {σ τ : ST} {T P C R : Nat} (h : Rel σ T P C R) (g : ∀ k, ¬ (k = 12 ∨ k = 47) → τ k = σ k) (hG : Gr τ T P) : Rel τ T P C R := by
  obtain ⟨a, b, c, d, e, f⟩ := h
  have e40 := g 40 (by decide)
  exact ⟨hG, b.cg (fun k h1 h2 => g k (by omega)) (fun k h1 h2 => g k (by omega)),
    c.cg5 (by rw [g 21 (by decide)]) (g 24 (by decide)) (g 25 (by decide)) (by rw [e40]) (g 58 (by decide)) (g 59 (by decide)),
    d.cg (fun k h1 h2 => g k (by omega)) (fun k h1 h2 => g k (by omega)) (by rw [e40]),
    e.cg (fun k h1 h2 => g k (by omega)) (fun k h1 h2 => g k (by omega)),
    f.cg (by rw [g 39 (by decide)]) (by rw [g 0 (by decide)]) (by rw [e40]) (by rw [e40]) (by rw [e40])⟩
theorem Rel.mii {σ τ : ST} {T P C R : Nat} (h : Rel σ T P C R) (g : ∀ k, ¬ (k = 39 ∨ k = 40) → τ k = σ k) (h40 : ∀ i, i ≠ 1 → τ 40 i = σ 40 i) (hm : τ 39 0 = τ 40 1) : Rel τ T P C R := by
  obtain ⟨a, b, c, d, e, f⟩ := h
  exact ⟨a.cg (fun k h1 h2 => g k (by omega)) (fun k h1 h2 => g k (by omega)) (h40 5 (by decide)) (h40 6 (by decide)),
    b.cg (fun k h1 h2 => g k (by omega)) (fun k h1 h2 => g k (by omega)),
    c.cg5 (by rw [g 21 (by decide)]) (g 24 (by decide)) (g 25 (by decide)) (h40 24 (by decide)) (g 58 (by decide)) (g 59 (by decide)),
    d.cg (fun k h1 h2 => g k (by omega)) (fun k h1 h2 => g k (by omega)) (h40 33 (by decide)),
    e.cg (fun k h1 h2 => g k (by omega)) (fun k h1 h2 => g k (by omega)),
    hm, by rw [g 0 (by decide), h40 0 (by decide)]; exact f.2.1, by rw [h40 31 (by decide)]; exact f.2.2⟩
theorem Rel.T12 {σ : ST} {T P C R : Nat} (h : Rel σ T P C R) : σ 12 0 = nI T := h.1.2.2.2.1
theorem Rel.T40 {σ : ST} {T P C R : Nat} (h : Rel σ T P C R) : σ 40 5 = nI T := h.1.2.2.2.2.2.1
theorem Rel.P40 {σ : ST} {T P C R : Nat} (h : Rel σ T P C R) : σ 40 6 = nI P := h.1.2.2.2.2.2.2.1
theorem Rel.T6 {σ : ST} {T P C R : Nat} (h : Rel σ T P C R) : T ≤ 6 := h.1.1
theorem Rel.P6 {σ : ST} {T P C R : Nat} (h : Rel σ T P C R) : P ≤ 6 := h.1.2.1
theorem Rel.PT {σ : ST} {T P C R : Nat} (h : Rel σ T P C R) (h0 : 0 < P) : 0 < T := h.1.2.2.1 h0
theorem Rel.F {σ : ST} {T P C R : Nat} (h : Rel σ T P C R) : σ 12 2 = flM σ T := h.1.2.2.2.2.2.2.2.1
theorem Rel.tr {σ : ST} {T P C R : Nat} (h : Rel σ T P C R) {t : Nat} (ht : t < T) : σ 13 t = σ 44 t ∧ σ 14 t = σ 45 t ∧ σ 15 t = σ 46 t ∧ σ 16 t = wantM (σ 44 t) (σ 46 t) ∧ σ 17 t = setB (fun p => bit (opM (σ 44 t) (σ 45 t)) (σ 48 p)) P ∧ (σ 44 t = 0 ∨ σ 44 t = 1 ∨ σ 44 t = 2) ∧ (∃ n : Nat, 1 ≤ n ∧ n ≤ 9 ∧ σ 46 t = nI n) ∧ (σ 47 t = 0 ∨ σ 47 t = 1) := h.1.2.2.2.2.2.2.2.2.1 t ht
theorem Rel.pr {σ : ST} {T P C R : Nat} (h : Rel σ T P C R) {p : Nat} (hp : p < P) : σ 18 p = σ 48 p ∧ σ 19 p = σ 49 p := h.1.2.2.2.2.2.2.2.2.2.1 p hp
theorem Rel.wd {σ : ST} {T P C R : Nat} (h : Rel σ T P C R) {d : Nat} (hd : d < 30) : σ 22 d = σ 50 d ∧ σ 23 d = σ 51 d ∧ (∃ v : Nat, v ≤ 9 ∧ σ 50 d = nI v) ∧ (0 < T → σ 51 d = -9 ∨ ∃ t : Nat, t < T ∧ σ 51 d = nI t) ∧ (σ 52 d = 0 ∨ σ 52 d = 1) := h.2.1.2 d hd
theorem Rel.C6 {σ : ST} {T P C R : Nat} (h : Rel σ T P C R) : C ≤ 6 := h.2.2.1.1
theorem Rel.C21 {σ : ST} {T P C R : Nat} (h : Rel σ T P C R) : σ 21 5 = nI C := h.2.2.1.2.1
theorem Rel.C40 {σ : ST} {T P C R : Nat} (h : Rel σ T P C R) : σ 40 24 = nI C := h.2.2.1.2.2.1
theorem Rel.cc {σ : ST} {T P C R : Nat} (h : Rel σ T P C R) {c : Nat} (hc : c < C) : σ 24 c = σ 58 c ∧ σ 25 c = σ 59 c ∧ (∃ d : Nat, d < 30 ∧ σ 58 c = nI d) ∧ ∃ t : Nat, t < T ∧ σ 59 c = nI t := h.2.2.1.2.2.2 c hc
theorem Rel.cd {σ : ST} {T P C R : Nat} (h : Rel σ T P C R) : ∀ c, c < C → ∃ d : Nat, d < 30 ∧ σ 24 c = nI d := fun c hc => by
  obtain ⟨e, -, ⟨d, hd, e2⟩, -⟩ := h.cc hc
  exact ⟨d, hd, e.trans e2⟩
theorem Rel.R8 {σ : ST} {T P C R : Nat} (h : Rel σ T P C R) : R ≤ 8 := h.2.2.2.1.1
theorem Rel.R26 {σ : ST} {T P C R : Nat} (h : Rel σ T P C R) : σ 26 3 = nI R := h.2.2.2.1.2.1
theorem Rel.R40 {σ : ST} {T P C R : Nat} (h : Rel σ T P C R) : σ 40 33 = nI R := h.2.2.2.1.2.2.1
theorem Rel.rr {σ : ST} {T P C R : Nat} (h : Rel σ T P C R) {r : Nat} (hr : r < R) : σ 27 r = σ 65 r ∧ σ 28 r = σ 66 r ∧ σ 29 r = σ 67 r ∧ ∃ p : Nat, p < P ∧ σ 65 r = nI p := h.2.2.2.1.2.2.2 r hr
theorem Rel.rp {σ : ST} {T P C R : Nat} (h : Rel σ T P C R) : ∀ r, r < R → ∃ p : Nat, p < 6 ∧ σ 27 r = nI p := fun r hr => by
  obtain ⟨e, -, -, p, hp, e2⟩ := h.rr hr
  have := h.P6
  exact ⟨p, by omega, e.trans e2⟩
theorem Rel.rq {σ : ST} {T P C R : Nat} (h : Rel σ T P C R) : ∀ r, r < R → ∃ p : Nat, p < P ∧ σ 65 r = nI p := fun r hr => (h.rr hr).2.2.2
theorem Rel.sh {σ : ST} {T P C R : Nat} (h : Rel σ T P C R) {j : Nat} (hj : j < 4) : (∃ L : Nat, L ≤ 50 ∧ σ (2 + 2 * j) 3 = nI L ∧ σ 42 j = nI L) ∧ ((σ (2 + 2 * j) 1 = 0 ∧ σ 41 j = -9) ∨ (σ (2 + 2 * j) 1 = 1 ∧ σ (2 + 2 * j) 2 = σ 41 j ∧ isT 3 (σ 41 j))) ∧ ∀ i, i < 50 → σ (2 + 2 * j + 1) i = σ 43 (50 * j + i) := h.2.2.2.2.1 j hj
theorem Rel.r9 {σ : ST} {T P C R : Nat} (h : Rel σ T P C R) : σ 40 31 = -9 := h.2.2.2.2.2.2.2
theorem Rel.nar {σ : ST} {T P C R : Nat} (h : Rel σ T P C R) : ∀ t, t < T → vp_nar .boolean (σ 47 t) = σ 47 t := fun t ht => by
  rcases (h.tr ht).2.2.2.2.2.2.2 with e | e
  · rw [e]; rfl
  · rw [e]; rfl
theorem Rel.E {σ : ST} {T P C R : Nat} (h : Rel σ T P C R) : RelE σ := ⟨T, P, C, R, h⟩
abbrev KT : Type := ST → (Option Value → ST → Prop) → Prop
def OpI (K1 K2 : KT) (σ : ST) : Prop := ∃ p1, K1 σ p1 ∧ ∀ ov τ, p1 ov τ → ∃ r : Int32, ov = some (.int r) ∧ ∃ p2, K2 τ p2 ∧ ∀ ov2 τ2, p2 ov2 τ2 → ov2 = some (.int r) ∧ RelE τ2
def OpL (K1 K2 : KT) (σ : ST) : Prop := ∃ p1, K1 σ p1 ∧ ∀ ov τ, p1 ov τ → ∃ r : Int64, ov = some (.long r) ∧ ∃ p2, K2 τ p2 ∧ ∀ ov2 τ2, p2 ov2 τ2 → ov2 = some (.long r) ∧ RelE τ2
theorem OpI.ee {K1 K2 : KT} {σ τ1 τ2 : ST} {v v2 : Int32} (h1 : K1 σ (ex (some (.int v)) τ1)) (h2 : K2 τ1 (ex (some (.int v2)) τ2)) (hv : v2 = v) (hR : RelE τ2) : OpI K1 K2 σ := ⟨_, h1, fun ov τ e => by
  obtain ⟨rfl, rfl⟩ := e
  exact ⟨v, rfl, _, h2, fun ov2 τ3 e2 => by obtain ⟨rfl, rfl⟩ := e2; exact ⟨by rw [hv], hR⟩⟩⟩
theorem OpI.eq {K1 K2 : KT} {σ τ1 : ST} {v : Int32} {Q : Int32 → ST → Prop} (h1 : K1 σ (ex (some (.int v)) τ1)) (h2 : K2 τ1 (pq Q)) (hv : ∀ v2 τ2, Q v2 τ2 → v2 = v ∧ RelE τ2) : OpI K1 K2 σ := ⟨_, h1, fun ov τ e => by
  obtain ⟨rfl, rfl⟩ := e
  exact ⟨v, rfl, _, h2, fun ov2 τ3 e2 => by obtain ⟨r, rfl, hq⟩ := e2; exact ⟨by rw [(hv r τ3 hq).1], (hv r τ3 hq).2⟩⟩⟩
theorem OpI.qq {K1 K2 : KT} {σ : ST} {Q : Int32 → ST → Prop} (h1 : K1 σ (pq Q)) (h2 : ∀ v τ, Q v τ → ∃ Q2 : Int32 → ST → Prop, K2 τ (pq Q2) ∧ ∀ v2 τ2, Q2 v2 τ2 → v2 = v ∧ RelE τ2) : OpI K1 K2 σ := ⟨_, h1, fun ov τ e => by
  obtain ⟨r, rfl, hq⟩ := e
  obtain ⟨Q2, k2, hv⟩ := h2 r τ hq
  exact ⟨r, rfl, _, k2, fun ov2 τ3 e2 => by obtain ⟨r2, rfl, hq2⟩ := e2; exact ⟨by rw [(hv r2 τ3 hq2).1], (hv r2 τ3 hq2).2⟩⟩⟩
theorem OpL.ee {K1 K2 : KT} {σ τ1 τ2 : ST} {v v2 : Int64} (h1 : K1 σ (ex (some (.long v)) τ1)) (h2 : K2 τ1 (ex (some (.long v2)) τ2)) (hv : v2 = v) (hR : RelE τ2) : OpL K1 K2 σ := ⟨_, h1, fun ov τ e => by
  obtain ⟨rfl, rfl⟩ := e
  exact ⟨v, rfl, _, h2, fun ov2 τ3 e2 => by obtain ⟨rfl, rfl⟩ := e2; exact ⟨by rw [hv], hR⟩⟩⟩
theorem OpL.qq {K1 K2 : KT} {σ : ST} {Q : Int64 → ST → Prop} (h1 : K1 σ (pl Q)) (h2 : ∀ v τ, Q v τ → ∃ Q2 : Int64 → ST → Prop, K2 τ (pl Q2) ∧ ∀ v2 τ2, Q2 v2 τ2 → v2 = v ∧ RelE τ2) : OpL K1 K2 σ := ⟨_, h1, fun ov τ e => by
  obtain ⟨r, rfl, hq⟩ := e
  obtain ⟨Q2, k2, hv⟩ := h2 r τ hq
  exact ⟨r, rfl, _, k2, fun ov2 τ3 e2 => by obtain ⟨r2, rfl, hq2⟩ := e2; exact ⟨by rw [(hv r2 τ3 hq2).1], (hv r2 τ3 hq2).2⟩⟩⟩
theorem Rel.pm {σ : ST} {T P C R : Nat} {s : S3} (h : Rel σ T P C R) : Rel (putM σ s) T P C R := h.km KM.put
theorem kp40 {σ τ : ST} (hk : Kp σ τ) : ∀ k, 40 ≤ k → τ k = σ k := fun k hk2 => hk k (by unfold scr; omega)
