/-! ===== congruence, and what elimination does to value vectors ===== -/
def zc (p a b : Int) : Prop := ∃ c, a = b + p * c
theorem zc.rf {p : Int} (a : Int) : zc p a a := ⟨0, by grind⟩
theorem zc.of_eq {p a b : Int} (h : a = b) : zc p a b := ⟨0, by grind⟩
theorem zc.sy {p a b : Int} (h : zc p a b) : zc p b a := by obtain ⟨c, h⟩ := h; exact ⟨-c, by grind⟩
theorem zc.tr {p a b d : Int} (h : zc p a b) (h2 : zc p b d) : zc p a d := by obtain ⟨c, h⟩ := h; obtain ⟨e, h2⟩ := h2; exact ⟨c + e, by grind⟩
theorem zc.add {p a b d e : Int} (h : zc p a b) (h2 : zc p d e) : zc p (a + d) (b + e) := by obtain ⟨c, h⟩ := h; obtain ⟨f, h2⟩ := h2; exact ⟨c + f, by grind⟩
theorem zc.sub {p a b d e : Int} (h : zc p a b) (h2 : zc p d e) : zc p (a - d) (b - e) := by obtain ⟨c, h⟩ := h; obtain ⟨f, h2⟩ := h2; exact ⟨c - f, by grind⟩
theorem zc.mul {p a b d e : Int} (h : zc p a b) (h2 : zc p d e) : zc p (a * d) (b * e) := by obtain ⟨c, h⟩ := h; obtain ⟨f, h2⟩ := h2; exact ⟨c * e + b * f + p * c * f, by grind⟩
theorem zc.md {p : Int} (a : Int) : zc p (a % p) a := ⟨-(a / p), by have := Int.emod_def a p; grind⟩
theorem zc.emod {p a b : Int} (h : zc p a b) : a % p = b % p := by
  obtain ⟨c, h⟩ := h
  rw [h, Int.add_mul_emod_self_left]
theorem zc.eq {p a b : Int} (h : zc p a b) (h1 : 0 ≤ a ∧ a < p) (h2 : 0 ≤ b ∧ b < p) : a = b := by
  have := h.emod
  rwa [Int.emod_eq_of_lt h1.1 h1.2, Int.emod_eq_of_lt h2.1 h2.2] at this
theorem zc.of_emod {p a b : Int} (h : a % p = b % p) : zc p a b := ((zc.md a).sy).tr ((zc.of_eq h).tr (zc.md b))
theorem zsum_add (f e : Nat → Int) : ∀ n, zsum (fun k => f k + e k) n = zsum f n + zsum e n
  | 0 => rfl
  | n + 1 => by unfold zsum; rw [zsum_add f e n]; omega
theorem zsum_mul (c : Int) (f : Nat → Int) : ∀ n, zsum (fun k => c * f k) n = c * zsum f n
  | 0 => by unfold zsum; omega
  | n + 1 => by unfold zsum; rw [zsum_mul c f n, Int.mul_add]
theorem zsum_0 : ∀ n, zsum (fun _ => 0) n = 0
  | 0 => rfl
  | n + 1 => by unfold zsum; rw [zsum_0 n]; rfl
theorem zc.sum {p : Int} {f e : Nat → Int} : ∀ {n : Nat}, (∀ k, k < n → zc p (f k) (e k)) → zc p (zsum f n) (zsum e n)
  | 0, _ => zc.rf _
  | n + 1, h => by unfold zsum; exact (zc.sum fun k hk => h k (by omega)).add (h n (by omega))
theorem zsum_one {p : Int} {f : Nat → Int} {r : Nat} : ∀ {n : Nat}, r < n → (∀ k, k < n → k ≠ r → zc p (f k) 0) → zc p (zsum f n) (f r)
  | 0, h, _ => absurd h (Nat.not_lt_zero r)
  | n + 1, h, h2 => by
    unfold zsum
    by_cases e : r = n
    · subst e
      have a : zc p (zsum f r) (zsum (fun _ => 0) r) := zc.sum fun k hk => h2 k (by omega) (by omega)
      rw [zsum_0] at a
      obtain ⟨c, a⟩ := a
      exact ⟨c, by grind⟩
    · have a := zsum_one (p := p) (f := f) (r := r) (n := n) (by omega) (fun k hk => h2 k (by omega))
      obtain ⟨c, a⟩ := a
      obtain ⟨d, b⟩ := h2 n (by omega) (by omega)
      exact ⟨c + d, by grind⟩
def zvec (p : Int) (xs ys : Nat → Int) (m : Nat) : Nat → Int := fun k => zmon p (xs k) (ys k) m
/-- elimination's state: how many rows; the rows; their combinations; pivots; monomials -/
abbrev eT : Type := Nat × (Nat → Nat → Int) × (Nat → Nat → Int) × (Nat → Nat) × (Nat → Nat)
abbrev eR (E : eT) : Nat → Nat → Int := E.2.1
abbrev eO (E : eT) : Nat → Nat → Int := E.2.2.1
abbrev eP (E : eT) : Nat → Nat := E.2.2.2.1
abbrev eM (E : eT) : Nat → Nat := E.2.2.2.2
abbrev erd (p : Int) (E : eT) (v : Nat → Int) : Nat → Int := zrv p (eR E) (eP E) v E.1
abbrev ecb (p : Int) (E : eT) (v : Nat → Int) : Nat → Int := zrc p (eR E) (eO E) (eP E) v E.1
/-- w is a combination of the rows -/
def eRS (p : Int) (s : Nat) (E : eT) (w : Nat → Int) : Prop := ∃ a : Nat → Int, ∀ k, k < s → zc p (w k) (zsum (fun r => a r * eR E r k) E.1)
def EInv (p : Int) (s : Nat) (xs ys : Nat → Int) (E : eT) : Prop :=
  (∀ r, r < E.1 → eP E r < s) ∧ (∀ r, r < E.1 → ∀ k, k < s → 0 ≤ eR E r k ∧ eR E r k < p) ∧ (∀ r, r < E.1 → ∀ t, 0 ≤ eO E r t ∧ eO E r t < p) ∧
  (∀ r, r < E.1 → eR E r (eP E r) = 1) ∧ (∀ q r, q < r → r < E.1 → eR E r (eP E q) = 0) ∧ (∀ r, r < E.1 → ∀ t, r < t → eO E r t = 0) ∧
  (∀ r, r < E.1 → ∀ k, k < s → zc p (eR E r k) (zsum (fun t => eO E r t * zvec p xs ys (eM E t) k) E.1)) ∧ (∀ t, t < E.1 → eRS p s E (zvec p xs ys (eM E t))) ∧
  (∀ t, t < E.1 → eM E t < 81) ∧ ∀ t u, t < u → u < E.1 → eM E t ≠ eM E u
theorem eRS.congr {p : Int} {s : Nat} {E : eT} {w w' : Nat → Int} (h : eRS p s E w) (e : ∀ k, k < s → zc p (w' k) (w k)) : eRS p s E w' := by
  obtain ⟨a, h⟩ := h
  exact ⟨a, fun k hk => (e k hk).tr (h k hk)⟩
theorem eRS.zero {p : Int} {s : Nat} {E : eT} : eRS p s E (fun _ => 0) := ⟨fun _ => 0, fun k _ => by
  rw [show (fun r => (0 : Int) * eR E r k) = fun _ => 0 by funext r; omega, zsum_0]; exact zc.rf _⟩
theorem eRS.add {p : Int} {s : Nat} {E : eT} {w w' : Nat → Int} (h : eRS p s E w) (h' : eRS p s E w') : eRS p s E (fun k => w k + w' k) := by
  obtain ⟨a, h⟩ := h
  obtain ⟨b, h'⟩ := h'
  refine ⟨fun r => a r + b r, fun k hk => ?_⟩
  have e : (fun r => (a r + b r) * eR E r k) = fun r => a r * eR E r k + b r * eR E r k := by funext r; exact Int.add_mul _ _ _
  rw [e, zsum_add]
  exact (h k hk).add (h' k hk)
theorem eRS.mul {p : Int} {s : Nat} {E : eT} {w : Nat → Int} (c : Int) (h : eRS p s E w) : eRS p s E (fun k => c * w k) := by
  obtain ⟨a, h⟩ := h
  refine ⟨fun r => c * a r, fun k hk => ?_⟩
  have e : (fun r => c * a r * eR E r k) = fun r => c * (a r * eR E r k) := by funext r; exact Int.mul_assoc _ _ _
  rw [e, zsum_mul]
  exact (zc.rf c).mul (h k hk)
theorem eRS.comb {p : Int} {s : Nat} {E : eT} {V : Nat → Nat → Int} {c : Nat → Int} : ∀ {n : Nat}, (∀ t, t < n → eRS p s E (V t)) → eRS p s E (fun k => zsum (fun t => c t * V t k) n)
  | 0, _ => eRS.zero
  | n + 1, h => (eRS.comb fun t ht => h t (by omega)).add ((h n (by omega)).mul (c n))
theorem eRS.row {p : Int} {s : Nat} {E : eT} {r : Nat} (hr : r < E.1) : eRS p s E (eR E r) := by
  refine ⟨fun q => if q = r then 1 else 0, fun k _ => ?_⟩
  have := zsum_one (p := p) (f := fun q => (if q = r then (1 : Int) else 0) * eR E q k) hr (fun q _ hq => by
    show zc p ((if q = r then (1 : Int) else 0) * eR E q k) 0
    rw [if_neg hq]; exact zc.of_eq (by omega))
  simp only [if_true, Int.one_mul] at this
  exact this.sy
section EPURE
variable {p : Int} {s : Nat} {xs ys : Nat → Int} {E : eT} {v : Nat → Int}
/-- the step of a value: f times a row is taken off -/
theorem zstep_c (w f x : Int) : zc p ((w + (p - f) * x) % p) (w - f * x) := (zc.md _).tr ⟨x, by grind⟩
theorem EInv.r1 (h : EInv p s xs ys E) (v : Nat → Int) : ∀ r, r ≤ E.1 → ∀ k, k < s → zc p (v k) (zrv p (eR E) (eP E) v r k + zsum (fun t => zrc p (eR E) (eO E) (eP E) v r t * zvec p xs ys (eM E t) k) E.1)
  | 0, _, k, _ => by
    unfold zrv zrc
    rw [show (fun t => (0 : Int) * zvec p xs ys (eM E t) k) = fun _ => 0 by funext t; omega, zsum_0]
    exact zc.of_eq (by omega)
  | r + 1, hr, k, hk => by
    have ih := EInv.r1 h v r (by omega) k hk
    have ha := h.2.2.2.2.2.2.1 r (by omega) k hk
    unfold zrv zrc
    generalize zrv p (eR E) (eP E) v r (eP E r) = f at *
    generalize zrv p (eR E) (eP E) v r k = w at *
    have e : zc p (zsum (fun t => (zrc p (eR E) (eO E) (eP E) v r t + f * eO E r t) % p * zvec p xs ys (eM E t) k) E.1) (zsum (fun t => zrc p (eR E) (eO E) (eP E) v r t * zvec p xs ys (eM E t) k) E.1 + f * zsum (fun t => eO E r t * zvec p xs ys (eM E t) k) E.1) := by
      rw [← zsum_mul, ← zsum_add]
      exact zc.sum fun t _ => ((zc.md _).mul (zc.rf _)).tr (zc.of_eq (by grind))
    have e2 := (zstep_c (p := p) w f (eR E r k)).add e
    refine ih.tr (zc.sy (e2.tr ?_))
    have e3 := (zc.rf (p := p) f).mul ha
    obtain ⟨c, e3⟩ := e3
    exact ⟨-c, by grind⟩
theorem EInv.r2 (h : EInv p s xs ys E) (v : Nat → Int) : ∀ r, r ≤ E.1 → ∀ q, q < r → zrv p (eR E) (eP E) v r (eP E q) = 0
  | 0, _, q, hq => absurd hq (Nat.not_lt_zero q)
  | r + 1, hr, q, hq => by
    unfold zrv
    by_cases e : q = r
    · subst e
      rw [h.2.2.2.1 q (by omega)]
      rw [show ∀ w : Int, w + (p - w) * 1 = p by intro w; omega]
      exact Int.emod_self
    · rw [EInv.r2 h v r (by omega) q (by omega), h.2.2.2.2.1 q r (by omega) (by omega)]
      simp
theorem EInv.r3 (hv : eRS p s E v) : ∀ r, r ≤ E.1 → eRS p s E (zrv p (eR E) (eP E) v r)
  | 0, _ => hv
  | r + 1, hr => by
    have ih := EInv.r3 hv r (by omega)
    have := ih.add ((eRS.row (p := p) (s := s) (E := E) (r := r) (by omega)).mul (-(zrv p (eR E) (eP E) v r (eP E r))))
    refine this.congr fun k _ => ?_
    show zc p ((zrv p (eR E) (eP E) v r k + (p - zrv p (eR E) (eP E) v r (eP E r)) * eR E r k) % p) _
    exact (zstep_c _ _ _).tr (zc.of_eq (by grind))
theorem EInv.r4 (h : EInv p s xs ys E) {w : Nat → Int} (hw : eRS p s E w) (h0 : ∀ r, r < E.1 → zc p (w (eP E r)) 0) : ∀ k, k < s → zc p (w k) 0 := by
  obtain ⟨a, ha⟩ := hw
  have az : ∀ r, r < E.1 → zc p (a r) 0 := by
    intro r
    induction r using Nat.strongRecOn with | _ r ih => ?_
    intro hr
    have e1 := ha (eP E r) (h.1 r hr)
    have e2 := zsum_one (p := p) (f := fun q => a q * eR E q (eP E r)) hr (fun q hq hne => by
      show zc p (a q * eR E q (eP E r)) 0
      by_cases c : q < r
      · exact ((ih q c hq).mul (zc.rf _)).tr (zc.of_eq (by omega))
      · rw [h.2.2.2.2.1 r q (by omega) hq]; exact zc.of_eq (by omega))
    have e3 := (e1.sy.tr (h0 r hr)).sy.tr e2
    simp only [h.2.2.2.1 r hr, Int.mul_one] at e3
    exact e3.sy
  intro k hk
  refine (ha k hk).tr ?_
  have := zc.sum (p := p) (f := fun r => a r * eR E r k) (e := fun _ => 0) (n := E.1) (fun r hr => ((az r hr).mul (zc.rf _)).tr (zc.of_eq (by omega)))
  rwa [zsum_0] at this
/-- reduced to nothing: just what is a combination of the kept vectors -/
theorem EInv.dep (hp : 1 < p) (h : EInv p s xs ys E) (hv : ∀ k, k < s → 0 ≤ v k ∧ v k < p) : (∀ k, k < s → erd p E v k = 0) ↔ eRS p s E v := by
  constructor
  · intro h0
    have := eRS.comb (c := ecb p E v) (n := E.1) (fun t ht => h.2.2.2.2.2.2.2.1 t ht)
    refine this.congr fun k hk => ?_
    have e := h.r1 v E.1 (Nat.le_refl _) k hk
    rw [show zrv p (eR E) (eP E) v E.1 k = 0 from h0 k hk, Int.zero_add] at e
    exact e
  · intro hr k hk
    exact (h.r4 (EInv.r3 hr E.1 (Nat.le_refl _)) (fun r hr => zc.of_eq (h.r2 v E.1 (Nat.le_refl _) r hr)) k hk).eq (zrv_bd hp (hv k hk) E.1) ⟨by omega, by omega⟩
end EPURE
/-- a list of different numbers below s has at most s of them -/
theorem zphp : ∀ (s z : Nat) (f : Nat → Nat), (∀ r, r < z → f r < s) → (∀ q r, q < r → r < z → f q ≠ f r) → z ≤ s
  | 0, z, f, h1, _ => by
    by_cases e : z = 0
    · omega
    · have := h1 0 (by omega); omega
  | s + 1, z, f, h1, h2 => by
    by_cases hx : ∃ r, r < z ∧ f r = s
    · obtain ⟨r, hr, er⟩ := hx
      have := zphp s (z - 1) (fun q => if q < r then f q else f (q + 1)) (fun q hq => by
        try dsimp only
        split
        · have := h1 q (by omega); have := h2 q r (by omega) hr; omega
        · have := h1 (q + 1) (by omega); have := h2 r (q + 1) (by omega) (by omega); omega) (fun a b hab hb => by
        try dsimp only
        split
        · split
          · exact h2 a b hab (by omega)
          · exact h2 a (b + 1) (by omega) (by omega)
        · rw [if_neg (by omega)]
          exact h2 (a + 1) (b + 1) (by omega) (by omega))
      omega
    · have := zphp s z f (fun r hr => by
        have := h1 r hr
        have : f r ≠ s := fun e => hx ⟨r, hr, e⟩
        omega) h2
      omega
theorem EInv.pivne {p : Int} {s : Nat} {xs ys : Nat → Int} {E : eT} (h : EInv p s xs ys E) : ∀ q r, q < r → r < E.1 → eP E q ≠ eP E r := fun q r hq hr e => by
  have a := h.2.2.2.2.1 q r hq hr
  rw [e, h.2.2.2.1 r hr] at a
  omega
theorem EInv.le {p : Int} {s : Nat} {xs ys : Nat → Int} {E : eT} (h : EInv p s xs ys E) : E.1 ≤ s := zphp s E.1 (eP E) h.1 h.pivne
theorem EInv.lt {p : Int} {s : Nat} {xs ys : Nat → Int} {E : eT} (h : EInv p s xs ys E) {v : Nat → Int} {q : Nat} (hq : q < s) (hn : erd p E v q ≠ 0) : E.1 < s := by
  have := zphp s (E.1 + 1) (fun r => if r < E.1 then eP E r else q) (fun r _ => by
    try dsimp only
    split
    · exact h.1 r (by assumption)
    · exact hq) (fun a b hab hb => by
    try dsimp only
    rw [if_pos (by omega)]
    split
    · exact h.pivne a b hab (by assumption)
    · intro e
      have := h.r2 v E.1 (Nat.le_refl _) a (by omega)
      rw [e] at this
      exact hn this)
  omega
/-- one row more -/
def ekeep (p : Int) (E : eT) (v c : Nat → Int) (q m : Nat) : eT :=
  (E.1 + 1, (fun r => if r = E.1 then (fun k => zinv p (v q) * v k % p) else eR E r), (fun r => if r = E.1 then (fun t => if t < E.1 then (p - zinv p (v q)) * c t % p else if t = E.1 then zinv p (v q) else 0) else eO E r), zfu (eP E) E.1 q, zfu (eM E) E.1 m)
theorem zring1 {p u x A S V d1 d2 : Int} (s1 : A = -u * S + p * d1) (s2 : u * V = u * (x + S) + p * d2) : u * x = A + u * V + p * (-d1 - d2) := by grind
theorem zring2 {p u x y S w d1 d2 : Int} (e1 : y * w = y * (u * x) + p * d1) (e2 : u * y = 1 + p * d2) : x + S = S + y * w + p * (-d1 - x * d2) := by grind
theorem EInv.empty {p : Int} {s : Nat} {xs ys : Nat → Int} (E : eT) (h : E.1 = 0) : EInv p s xs ys E := by
  refine ⟨fun r hr => by omega, fun r hr => by omega, fun r hr => by omega, fun r hr => by omega, fun q r _ hr => by omega, fun r hr => by omega, fun r hr => by omega, fun r hr => by omega, fun r hr => by omega, fun q r _ hr => by omega⟩
theorem EInv.keep {p : Int} {s : Nat} {xs ys : Nat → Int} {E : eT} (hp : zprime p) (h : EInv p s xs ys E) {m q : Nat} (hm : m < 81) (hnew : ∀ t, t < E.1 → eM E t ≠ m) (hq : q < s) (hn : erd p E (zvec p xs ys m) q ≠ 0) :
    EInv p s xs ys (ekeep p E (erd p E (zvec p xs ys m)) (ecb p E (zvec p xs ys m)) q m) := by
  have hpb := hp.bd
  have hvb : ∀ k, k < s → 0 ≤ erd p E (zvec p xs ys m) k ∧ erd p E (zvec p xs ys m) k < p := fun k hk => zrv_bd (v := zvec p xs ys m) hpb.1 (zmon_bd hpb.1 m) E.1
  have hr2 : ∀ r, r < E.1 → erd p E (zvec p xs ys m) (eP E r) = 0 := h.r2 (zvec p xs ys m) E.1 (Nat.le_refl _)
  have hr1 : ∀ k, k < s → zc p (zvec p xs ys m k) (erd p E (zvec p xs ys m) k + zsum (fun t => ecb p E (zvec p xs ys m) t * zvec p xs ys (eM E t) k) E.1) := h.r1 (zvec p xs ys m) E.1 (Nat.le_refl _)
  have hcb : ∀ t, 0 ≤ ecb p E (zvec p xs ys m) t ∧ ecb p E (zvec p xs ys m) t < p := fun t => zrc_bd hpb.1 E.1
  obtain ⟨z1, z2, z3⟩ := zinv_spec hp (show 0 < erd p E (zvec p xs ys m) q by have := hvb q hq; omega) (hvb q hq).2
  obtain ⟨i1, i2, i3, i4, i5, i6, i7, i8, i9, i10⟩ := h
  unfold ekeep
  generalize erd p E (zvec p xs ys m) = v at *
  generalize ecb p E (zvec p xs ys m) = c at *
  generalize zinv p (v q) = u at *
  have oldM : ∀ t, t < E.1 → zfu (eM E) E.1 m t = eM E t := fun t ht => zfu_ne (by omega)
  have oldP : ∀ t, t < E.1 → zfu (eP E) E.1 q t = eP E t := fun t ht => zfu_ne (by omega)
  have grow : ∀ w, eRS p s E w → eRS p s ((E.1 + 1, (fun r => if r = E.1 then (fun k => u * v k % p) else eR E r), (fun r => if r = E.1 then (fun t => if t < E.1 then (p - u) * c t % p else if t = E.1 then u else 0) else eO E r), zfu (eP E) E.1 q, zfu (eM E) E.1 m) : eT) w := by
    rintro w ⟨a, ha⟩
    refine ⟨fun r => if r < E.1 then a r else 0, fun k hk => ?_⟩
    refine (ha k hk).tr (zc.of_eq ?_)
    show _ = zsum _ (E.1 + 1)
    rw [zsum]
    dsimp only
    rw [if_neg (Nat.lt_irrefl _), Int.zero_mul, Int.add_zero]
    refine zsum_ext fun r hr => ?_
    show _ = (if r < E.1 then a r else 0) * (if r = E.1 then (fun k => u * v k % p) else eR E r) k
    rw [if_pos hr, if_neg (by omega)]
  refine ⟨fun r hr => ?_, fun r hr k hk => ?_, fun r hr t => ?_, fun r hr => ?_, fun a r ha hr => ?_, fun r hr t ht => ?_, fun r hr k hk => ?_, fun t ht => ?_, fun t ht => ?_, fun t r htr hr => ?_⟩
  · show zfu (eP E) E.1 q r < s
    by_cases e : r = E.1
    · subst e; rw [zfu_self]; exact hq
    · rw [zfu_ne e]; exact i1 r (by have : r < E.1 + 1 := hr; omega)
  · show 0 ≤ (if r = E.1 then (fun k => u * v k % p) else eR E r) k ∧ (if r = E.1 then (fun k => u * v k % p) else eR E r) k < p
    split
    · exact zmod_bd _ _ (by omega)
    · exact i2 r (by have : r < E.1 + 1 := hr; omega) k hk
  · show 0 ≤ (if r = E.1 then (fun t => if t < E.1 then (p - u) * c t % p else if t = E.1 then u else 0) else eO E r) t ∧ (if r = E.1 then (fun t => if t < E.1 then (p - u) * c t % p else if t = E.1 then u else 0) else eO E r) t < p
    split
    · show 0 ≤ (if t < E.1 then (p - u) * c t % p else if t = E.1 then u else 0) ∧ (if t < E.1 then (p - u) * c t % p else if t = E.1 then u else 0) < p
      split
      · exact zmod_bd _ _ (by omega)
      · split <;> omega
    · exact i3 r (by have : r < E.1 + 1 := hr; omega) t
  · show (if r = E.1 then (fun k => u * v k % p) else eR E r) (zfu (eP E) E.1 q r) = 1
    by_cases e : r = E.1
    · subst e; rw [if_pos rfl, zfu_self]; exact z3
    · rw [if_neg e, zfu_ne e]; exact i4 r (by have : r < E.1 + 1 := hr; omega)
  · show (if r = E.1 then (fun k => u * v k % p) else eR E r) (zfu (eP E) E.1 q a) = 0
    have hr' : r < E.1 + 1 := hr
    rw [oldP a (by omega)]
    by_cases e : r = E.1
    · rw [if_pos e, hr2 a (by omega)]; simp
    · rw [if_neg e]; exact i5 a r ha (by omega)
  · show (if r = E.1 then (fun t => if t < E.1 then (p - u) * c t % p else if t = E.1 then u else 0) else eO E r) t = 0
    by_cases e : r = E.1
    · rw [if_pos e, if_neg (by omega), if_neg (by omega)]
    · rw [if_neg e]; exact i6 r (by have : r < E.1 + 1 := hr; omega) t ht
  · show zc p ((if r = E.1 then (fun k => u * v k % p) else eR E r) k) (zsum (fun t => (if r = E.1 then (fun t => if t < E.1 then (p - u) * c t % p else if t = E.1 then u else 0) else eO E r) t * zvec p xs ys (zfu (eM E) E.1 m t) k) (E.1 + 1))
    rw [zsum]
    by_cases e : r = E.1
    · subst e
      simp only [if_true, Nat.lt_irrefl, if_false, zfu_self]
      have s1 : zc p (zsum (fun t => (if t < E.1 then (p - u) * c t % p else if t = E.1 then u else 0) * zvec p xs ys (zfu (eM E) E.1 m t) k) E.1) (-u * zsum (fun t => c t * zvec p xs ys (eM E t) k) E.1) := by
        rw [← zsum_mul]
        refine zc.sum fun t ht => ?_
        rw [if_pos ht, oldM t ht]
        exact ((zc.md _).mul (zc.rf _)).tr ⟨c t * zvec p xs ys (eM E t) k, by grind⟩
      have s2 := (zc.rf (p := p) u).mul (hr1 k hk)
      refine (zc.md _).tr ?_
      obtain ⟨d1, s1⟩ := s1
      obtain ⟨d2, s2⟩ := s2
      exact ⟨-d1 - d2, zring1 s1 s2⟩
    · simp only [if_neg e]
      have hr' : r < E.1 := by have : r < E.1 + 1 := hr; omega
      rw [i6 r hr' E.1 hr', Int.zero_mul, Int.add_zero]
      refine (i7 r hr' k hk).tr (zc.of_eq (zsum_ext fun t ht => ?_))
      rw [oldM t ht]
  · by_cases e : t = E.1
    · subst e
      have hz : zfu (eM E) E.1 m E.1 = m := zfu_self
      show eRS p s _ (zvec p xs ys (zfu (eM E) E.1 m E.1))
      rw [hz]
      have a1 := grow _ (eRS.comb (c := c) (n := E.1) (fun t ht => i8 t ht))
      have a2 := (eRS.row (p := p) (s := s) (E := ((E.1 + 1, (fun r => if r = E.1 then (fun k => u * v k % p) else eR E r), (fun r => if r = E.1 then (fun t => if t < E.1 then (p - u) * c t % p else if t = E.1 then u else 0) else eO E r), zfu (eP E) E.1 q, zfu (eM E) E.1 m) : eT)) (r := E.1) (Nat.lt_succ_self _)).mul (v q)
      refine (a1.add a2).congr fun k hk => ?_
      refine (hr1 k hk).tr ?_
      show zc p _ (_ + v q * (if E.1 = E.1 then (fun k => u * v k % p) else eR E E.1) k)
      rw [if_pos rfl]
      have e1 := (zc.rf (p := p) (v q)).mul (zc.md (p := p) (u * v k))
      have e2 : zc p (u * v q) 1 := (zc.md (p := p) (u * v q)).sy.tr (zc.of_eq z3)
      obtain ⟨d1, e1⟩ := e1
      obtain ⟨d2, e2⟩ := e2
      exact ⟨-d1 - v k * d2, zring2 e1 e2⟩
    · have ht' : t < E.1 := by have : t < E.1 + 1 := ht; omega
      show eRS p s _ (zvec p xs ys (zfu (eM E) E.1 m t))
      rw [oldM t ht']
      exact grow _ (i8 t ht')
  · show zfu (eM E) E.1 m t < 81
    by_cases e : t = E.1
    · subst e; rw [zfu_self]; exact hm
    · rw [zfu_ne e]; exact i9 t (by have : t < E.1 + 1 := ht; omega)
  · show zfu (eM E) E.1 m t ≠ zfu (eM E) E.1 m r
    have hr' : r < E.1 + 1 := hr
    rw [oldM t (by omega)]
    by_cases e : r = E.1
    · subst e; rw [zfu_self]; exact hnew t (by omega)
    · rw [zfu_ne e]; exact i10 t r htr (by omega)
