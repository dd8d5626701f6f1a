/-! ===== the run over all monomials by rising order: standard monomials and corners ===== -/
def zfst (v : Nat → Int) : Nat → Nat
  | 0 => 0
  | s + 1 => if zfst v s < s then zfst v s else if v s = 0 then s + 1 else s
theorem zfst_le (v : Nat → Int) : ∀ s, zfst v s ≤ s
  | 0 => Nat.le_refl 0
  | s + 1 => by
    unfold zfst
    have := zfst_le v s
    split
    · omega
    · split <;> omega
theorem zfst_below (v : Nat → Int) : ∀ s i, i < zfst v s → v i = 0
  | 0, i, h => absurd h (Nat.not_lt_zero i)
  | s + 1, i, h => by
    unfold zfst at h
    have a := zfst_le v s
    split at h
    · exact zfst_below v s i h
    · have e : zfst v s = s := by omega
      split at h
      · by_cases c : i = s
        · subst c; assumption
        · exact zfst_below v s i (by omega)
      · exact zfst_below v s i (by omega)
theorem zfst_ne (v : Nat → Int) : ∀ s, zfst v s < s → v (zfst v s) ≠ 0
  | 0, h => absurd h (Nat.not_lt_zero _)
  | s + 1, h => by
    unfold zfst at h ⊢
    split
    · rename_i c; exact zfst_ne v s c
    · rename_i c
      rw [if_neg c] at h
      split
      · rename_i c2; rw [if_pos c2] at h; omega
      · assumption
theorem zfst_eq {v : Nat → Int} {s q : Nat} (hq : q < s) (hn : v q ≠ 0) (h0 : ∀ i, i < q → v i = 0) : zfst v s = q := by
  by_cases c : zfst v s < q
  · exact absurd (h0 _ c) (zfst_ne v s (by omega))
  · by_cases c2 : q < zfst v s
    · exact absurd (zfst_below v s q c2) hn
    · omega
theorem zfst_end {v : Nat → Int} {s : Nat} (h0 : ∀ i, i < s → v i = 0) : ¬ zfst v s < s := fun h => zfst_ne v s h (h0 _ h)
theorem zfst_all {v : Nat → Int} {s : Nat} (h : ¬ zfst v s < s) : ∀ i, i < s → v i = 0 := fun i hi => zfst_below v s i (by omega)
theorem zfst_ext {v w : Nat → Int} {s : Nat} (h : ∀ i, i < s → v i = w i) : zfst v s = zfst w s := by
  by_cases c : zfst w s < s
  · exact zfst_eq c (by rw [h _ c]; exact zfst_ne w s c) (fun i hi => by rw [h i (by omega)]; exact zfst_below w s i hi)
  · have := zfst_end (v := v) (s := s) (fun i hi => by rw [h i hi]; exact zfst_all c i hi)
    have := zfst_le v s
    have := zfst_le w s
    omega
def stdB (E : eT) (x : Nat) : Bool := (List.range E.1).any (fun t => eM E t == x)
theorem stdB_iff {E : eT} {x : Nat} : stdB E x = true ↔ ∃ t, t < E.1 ∧ eM E t = x := by
  unfold stdB
  simp [List.any_eq_true]
def corB (E : eT) (m : Nat) : Bool := (m / 9 == 0 || stdB E (m - 9)) && (m % 9 == 0 || stdB E (m - 1))
theorem corB_iff {E : eT} {m : Nat} : corB E m = true ↔ (m / 9 = 0 ∨ stdB E (m - 9) = true) ∧ (m % 9 = 0 ∨ stdB E (m - 1) = true) := by
  unfold corB
  simp [Bool.and_eq_true, Bool.or_eq_true]
def eadd (p : Int) (s : Nat) (xs ys : Nat → Int) (E : eT) (m : Nat) : eT := ekeep p E (erd p E (zvec p xs ys m)) (ecb p E (zvec p xs ys m)) (zfst (erd p E (zvec p xs ys m)) s) m
/-- is its value vector new -/
def enew (p : Int) (s : Nat) (xs ys : Nat → Int) (E : eT) (m : Nat) : Bool := decide (zfst (erd p E (zvec p xs ys m)) s < s)
/-- elimination; how many corners; the corners as they were found; their cells -/
abbrev gS : Type := eT × Nat × (Nat → Nat) × (Nat → Nat → Int)
def rstep (p : Int) (s : Nat) (xs ys : Nat → Int) (S : gS) (m : Nat) : gS :=
  bif enew p s xs ys S.1 m then (eadd p s xs ys S.1 m, S.2) else
  bif corB S.1 m then (S.1, S.2.1 + 1, zfu S.2.2.1 S.2.1 m, zfu S.2.2.2 S.2.1 (zcel p m (ecb p S.1 (zvec p xs ys m)) (eM S.1) S.1.1)) else S
def g0 : gS := ((0, fun _ _ => 0, fun _ _ => 0, fun _ => 0, fun _ => 0), 0, fun _ => 0, fun _ _ => 0)
def rrun (p : Int) (s : Nat) (xs ys : Nat → Int) (o : Nat → Nat) : Nat → gS
  | 0 => g0
  | k + 1 => rstep p s xs ys (rrun p s xs ys o k) (o k)
theorem zcel_at {p : Int} {m : Nat} {cb : Nat → Int} {mon : Nat → Nat} : ∀ {z : Nat} {x : Nat}, (∀ t, t < z → mon t ≠ x) → zcel p m cb mon z x = if x = m then 1 else 0
  | 0, x, _ => rfl
  | z + 1, x, h => by
    unfold zcel
    rw [zfu_ne (fun e => h z (by omega) e.symm)]
    exact zcel_at (fun t ht => h t (by omega))
theorem zcel_bd {p : Int} {m : Nat} {cb : Nat → Int} {mon : Nat → Nat} (hp : 1 < p) : ∀ {z : Nat} {x : Nat}, 0 ≤ zcel p m cb mon z x ∧ zcel p m cb mon z x < p
  | 0, x => by unfold zcel; split <;> omega
  | z + 1, x => by
    unfold zcel
    by_cases e : x = mon z
    · subst e; rw [zfu_self]; exact zmod_bd _ _ (by omega)
    · rw [zfu_ne e]; exact zcel_bd hp
theorem zcel_ext {p : Int} {m : Nat} {cb cb' : Nat → Int} {mon mon' : Nat → Nat} : ∀ {z : Nat}, (∀ t, t < z → mon t = mon' t ∧ cb t = cb' t) → zcel p m cb mon z = zcel p m cb' mon' z
  | 0, _ => rfl
  | z + 1, h => by
    unfold zcel
    rw [zcel_ext (fun t ht => h t (by omega)), (h z (by omega)).1, (h z (by omega)).2]
/-- nothing taken: the cells stay -/
theorem zcel_skip {p : Int} {m : Nat} {cb : Nat → Int} {mon : Nat → Nat} {z : Nat} (h0 : cb z = 0) (hm : mon z ≠ m) (hd : ∀ t, t < z → mon t ≠ mon z) : zcel p m cb mon (z + 1) = zcel p m cb mon z := by
  funext x
  rw [zcel]
  by_cases e : x = mon z
  · subst e
    rw [zfu_self, h0, zcel_at hd, if_neg hm]; simp
  · rw [zfu_ne e]
theorem zmon_x {p x y : Int} (m : Nat) : zc p (zmon p x y (m + 9)) (x * zmon p x y m) := by
  unfold zmon
  rw [show (m + 9) / 9 = m / 9 + 1 by omega, show (m + 9) % 9 = m % 9 by omega, zpow]
  generalize zpow p x (m / 9) = a
  generalize zpow p y (m % 9) = b
  have h1 := (zc.md (p := p) (a * x)).mul (zc.rf b)
  have h2 := (zc.rf (p := p) x).mul (zc.md (p := p) (a * b))
  exact (zc.md _).tr (h1.tr ((zc.of_eq (by grind)).tr h2.sy))
theorem zmon_y {p x y : Int} (m : Nat) (hm : m % 9 < 8) : zc p (zmon p x y (m + 1)) (y * zmon p x y m) := by
  unfold zmon
  rw [show (m + 1) / 9 = m / 9 by omega, show (m + 1) % 9 = m % 9 + 1 by omega, zpow]
  generalize zpow p x (m / 9) = a
  generalize zpow p y (m % 9) = b
  have h1 := (zc.rf (p := p) a).mul (zc.md (p := p) (b * y))
  have h2 := (zc.rf (p := p) y).mul (zc.md (p := p) (a * b))
  exact (zc.md _).tr (h1.tr ((zc.of_eq (by grind)).tr h2.sy))
/-- what holds after k monomials -/
def RI (p : Int) (s : Nat) (xs ys : Nat → Int) (u v tie : Int) (o : Nat → Nat) (k : Nat) (S : gS) : Prop :=
  EInv p s xs ys S.1 ∧
  (∀ x, stdB S.1 x = true → x < 81 ∧ (∃ i, i < k ∧ o i = x) ∧ (x / 9 = 0 ∨ stdB S.1 (x - 9) = true) ∧ (x % 9 = 0 ∨ stdB S.1 (x - 1) = true)) ∧
  (∀ i, i < k → stdB S.1 (o i) = false → ∃ (n : Nat) (c : Nat → Int), n ≤ S.1.1 ∧ (∀ t, t < n → zlt u v tie (eM S.1 t) (o i)) ∧ ∀ q, q < s → zc p (zvec p xs ys (o i) q) (zsum (fun t => c t * zvec p xs ys (eM S.1 t) q) n)) ∧
  (∀ b, b < S.2.1 → S.2.2.1 b < 81 ∧ stdB S.1 (S.2.2.1 b) = false ∧ corB S.1 (S.2.2.1 b) = true ∧ (∃ i, i < k ∧ o i = S.2.2.1 b)) ∧
  (∀ i, i < k → stdB S.1 (o i) = false → ∃ b, b < S.2.1 ∧ zdv (S.2.2.1 b) (o i)) ∧
  (∀ b d, b < d → d < S.2.1 → S.2.2.1 b ≠ S.2.2.1 d) ∧
  (∀ b, b < S.2.1 → S.2.2.2 b (S.2.2.1 b) = 1 ∧ ∀ x, 0 ≤ S.2.2.2 b x ∧ S.2.2.2 b x < p ∧ (S.2.2.2 b x ≠ 0 → x = S.2.2.1 b ∨ (stdB S.1 x = true ∧ zlt u v tie x (S.2.2.1 b))))
section RUN
variable {p : Int} {s : Nat} {xs ys : Nat → Int} {u v tie : Int} {o : Nat → Nat} {k : Nat} {S : gS}
theorem stdB_keep {E : eT} {v c : Nat → Int} {q m x : Nat} : stdB (ekeep p E v c q m) x = true ↔ stdB E x = true ∨ x = m := by
  rw [stdB_iff, stdB_iff]
  constructor
  · rintro ⟨t, ht, e⟩
    have ht' : t < E.1 + 1 := ht
    have e' : zfu (eM E) E.1 m t = x := e
    by_cases c : t = E.1
    · subst c; rw [zfu_self] at e'; exact Or.inr e'.symm
    · rw [zfu_ne c] at e'; exact Or.inl ⟨t, by omega, e'⟩
  · rintro (⟨t, ht, e⟩ | rfl)
    · exact ⟨t, by show t < E.1 + 1; omega, by show zfu (eM E) E.1 m t = x; rw [zfu_ne (by omega)]; exact e⟩
    · exact ⟨E.1, Nat.lt_succ_self _, zfu_self⟩
/-- every divisor of a standard monomial is standard -/
theorem RI.ideal (h : RI p s xs ys u v tie o k S) : ∀ (d x y : Nat), (x / 9 - y / 9) + (x % 9 - y % 9) = d → stdB S.1 x = true → zdv y x → stdB S.1 y = true
  | 0, x, y, hd, hx, hy => by
    obtain ⟨h1, h2⟩ := hy
    rw [show y = x by omega]; exact hx
  | d + 1, x, y, hd, hx, hy => by
    obtain ⟨h1, h2⟩ := hy
    obtain ⟨a1, a2, a3, a4⟩ := h.2.1 x hx
    by_cases c : y / 9 < x / 9
    · exact RI.ideal h d (x - 9) y (by omega) (a3.resolve_left (by omega)) ⟨by omega, by omega⟩
    · exact RI.ideal h d (x - 1) y (by omega) (a4.resolve_left (by omega)) ⟨by omega, by omega⟩
theorem RI.dv (h : RI p s xs ys u v tie o k S) {x y : Nat} (hx : stdB S.1 x = true) (hy : zdv y x) : stdB S.1 y = true := h.ideal _ x y rfl hx hy
/-- different standard monomials: not more than points -/
theorem RI.count (h : RI p s xs ys u v tie o k S) {n : Nat} (f : Nat → Nat) (h1 : ∀ r, r < n → stdB S.1 (f r) = true) (h2 : ∀ q r, q < r → r < n → f q ≠ f r) : n ≤ S.1.1 := by
  have ch : ∀ r, ∃ t, r < n → t < S.1.1 ∧ eM S.1 t = f r := fun r => by
    by_cases c : r < n
    · obtain ⟨t, a, b⟩ := stdB_iff.mp (h1 r c)
      exact ⟨t, fun _ => ⟨a, b⟩⟩
    · exact ⟨0, fun c2 => absurd c2 c⟩
  exact zphp S.1.1 n (fun r => (ch r).choose) (fun r hr => ((ch r).choose_spec hr).1) (fun q r hq hr e => by
    have a := ((ch q).choose_spec (by omega)).2
    have b := ((ch r).choose_spec hr).2
    try dsimp only at e
    rw [e, b] at a
    exact h2 q r hq hr a.symm)
theorem RI.small (h : RI p s xs ys u v tie o k S) (hs : s ≤ 8) {x : Nat} (hx : stdB S.1 x = true) : x / 9 ≤ 7 ∧ x % 9 ≤ 7 := by
  have hle := h.1.le
  constructor
  · have := h.count (n := x / 9 + 1) (fun r => 9 * r + x % 9) (fun r hr => h.dv hx ⟨by omega, by omega⟩) (fun q r hq hr => by omega)
    omega
  · have := h.count (n := x % 9 + 1) (fun r => 9 * (x / 9) + r) (fun r hr => h.dv hx ⟨by omega, by omega⟩) (fun q r hq hr => by omega)
    omega
theorem RI.rs (h : RI p s xs ys u v tie o k S) {i : Nat} (hi : i < k) : eRS p s S.1 (zvec p xs ys (o i)) := by
  by_cases c : stdB S.1 (o i) = true
  · obtain ⟨t, ht, e⟩ := stdB_iff.mp c
    rw [← e]; exact h.1.2.2.2.2.2.2.2.1 t ht
  · obtain ⟨n, cf, h1, h2, h3⟩ := h.2.2.1 i hi (by simpa using c)
    exact (eRS.comb (c := cf) (n := n) (fun t ht => h.1.2.2.2.2.2.2.2.1 t (by omega))).congr h3
/-- a monomial over one that isn't standard isn't new -/
theorem RI.over (hp : 1 < p) (h : RI p s xs ys u v tie o k S) (ho : IsOrd u v tie 81 o) (hs : s ≤ 8) (hu : 0 ≤ u) (hv : 0 ≤ v) (hk : k < 81)
    (hn : enew p s xs ys S.1 (o k) = true) : (o k / 9 = 0 ∨ stdB S.1 (o k - 9) = true) ∧ (o k % 9 = 0 ∨ stdB S.1 (o k - 1) = true) := by
  have hm := ho.1 k hk
  have notRS : ¬ eRS p s S.1 (zvec p xs ys (o k)) := fun hr => by
    have := (h.1.dep hp (fun q _ => zmon_bd hp (o k))).mpr hr
    unfold enew at hn
    exact zfst_end (v := erd p S.1 (zvec p xs ys (o k))) this (of_decide_eq_true hn)
  constructor
  · by_cases c : o k / 9 = 0
    · exact Or.inl c
    · refine Or.inr (Classical.byContradiction fun hns => notRS ?_)
      obtain ⟨i, hi, ei⟩ := ho.2.1 (o k - 9) (by omega)
      have hik : i < k := (ho.lt_iff hi hk).mp (by rw [ei]; exact zlt_dv hu hv ⟨by omega, by omega⟩ (by omega))
      obtain ⟨n, cf, h1, h2, h3⟩ := h.2.2.1 i hik (by rw [ei]; simpa using hns)
      refine (eRS.comb (V := fun t => zvec p xs ys (eM S.1 t + 9)) (c := cf) (n := n) (fun t ht => ?_)).congr fun q hq => ?_
      · have ht9 : stdB S.1 (eM S.1 t) = true := stdB_iff.mpr ⟨t, by omega, rfl⟩
        have := h.small hs ht9
        obtain ⟨j, hj, ej⟩ := ho.2.1 (eM S.1 t + 9) (by omega)
        have hl := zlt_mx (h2 t ht)
        rw [ei, show o k - 9 + 9 = o k by omega, ← ej] at hl
        rw [← ej]
        exact h.rs ((ho.lt_iff hj hk).mp hl)
      · have e1 := h3 q hq
        rw [ei] at e1
        have e2 := zmon_x (p := p) (x := xs q) (y := ys q) (o k - 9)
        rw [show o k - 9 + 9 = o k by omega] at e2
        refine e2.tr (((zc.rf (xs q)).mul e1).tr ?_)
        rw [← zsum_mul]
        refine zc.sum fun t _ => ?_
        have e3 := (zc.rf (p := p) (cf t)).mul (zmon_x (p := p) (x := xs q) (y := ys q) (eM S.1 t))
        exact (zc.of_eq (by show xs q * (cf t * zmon p (xs q) (ys q) (eM S.1 t)) = cf t * (xs q * zmon p (xs q) (ys q) (eM S.1 t)); grind)).tr e3.sy
  · by_cases c : o k % 9 = 0
    · exact Or.inl c
    · refine Or.inr (Classical.byContradiction fun hns => notRS ?_)
      obtain ⟨i, hi, ei⟩ := ho.2.1 (o k - 1) (by omega)
      have hik : i < k := (ho.lt_iff hi hk).mp (by rw [ei]; exact zlt_dv hu hv ⟨by omega, by omega⟩ (by omega))
      obtain ⟨n, cf, h1, h2, h3⟩ := h.2.2.1 i hik (by rw [ei]; simpa using hns)
      refine (eRS.comb (V := fun t => zvec p xs ys (eM S.1 t + 1)) (c := cf) (n := n) (fun t ht => ?_)).congr fun q hq => ?_
      · have ht9 : stdB S.1 (eM S.1 t) = true := stdB_iff.mpr ⟨t, by omega, rfl⟩
        have := h.small hs ht9
        have hb := (h.2.1 _ ht9).1
        obtain ⟨j, hj, ej⟩ := ho.2.1 (eM S.1 t + 1) (by omega)
        have hl := zlt_my (by omega) (by rw [ei]; omega) (h2 t ht)
        rw [ei, show o k - 1 + 1 = o k by omega, ← ej] at hl
        rw [← ej]
        exact h.rs ((ho.lt_iff hj hk).mp hl)
      · have ht8 : (o k - 1) % 9 < 8 := by omega
        have e1 := h3 q hq
        rw [ei] at e1
        have e2 := zmon_y (p := p) (x := xs q) (y := ys q) (o k - 1) ht8
        rw [show o k - 1 + 1 = o k by omega] at e2
        refine e2.tr (((zc.rf (ys q)).mul e1).tr ?_)
        rw [← zsum_mul]
        refine zc.sum fun t ht => ?_
        have ht9 : stdB S.1 (eM S.1 t) = true := stdB_iff.mpr ⟨t, by omega, rfl⟩
        have := h.small hs ht9
        have e3 := (zc.rf (p := p) (cf t)).mul (zmon_y (p := p) (x := xs q) (y := ys q) (eM S.1 t) (by omega))
        exact (zc.of_eq (by show ys q * (cf t * zmon p (xs q) (ys q) (eM S.1 t)) = cf t * (ys q * zmon p (xs q) (ys q) (eM S.1 t)); grind)).tr e3.sy
theorem stdB_false {E : eT} {x : Nat} (h : ∀ t, t < E.1 → eM E t ≠ x) : stdB E x = false := by
  cases hb : stdB E x with
  | false => rfl
  | true =>
    obtain ⟨t, ht, e⟩ := stdB_iff.mp hb
    exact absurd e (h t ht)
theorem RI.fresh (h : RI p s xs ys u v tie o k S) (ho : IsOrd u v tie 81 o) (hk : k < 81) {j : Nat} (hj : k ≤ j) (hj2 : j < 81) : stdB S.1 (o j) = false := by
  cases hb : stdB S.1 (o j) with
  | false => rfl
  | true =>
    obtain ⟨-, ⟨i, hi, e⟩, -⟩ := h.2.1 _ hb
    have := ho.inj (by omega) hj2 e
    omega
theorem RI.mlt (h : RI p s xs ys u v tie o k S) (ho : IsOrd u v tie 81 o) (hk : k < 81) {t : Nat} (ht : t < S.1.1) : zlt u v tie (eM S.1 t) (o k) := by
  obtain ⟨-, ⟨i, hi, e⟩, -⟩ := h.2.1 _ (stdB_iff.mpr ⟨t, ht, rfl⟩)
  rw [← e]
  exact ho.2.2 i k hi hk
theorem RI.depS (h : RI p s xs ys u v tie o k S) (ho : IsOrd u v tie 81 o) (hk : k < 81) (hn : enew p s xs ys S.1 (o k) = false) :
    ∃ (n : Nat) (c : Nat → Int), n ≤ S.1.1 ∧ (∀ t, t < n → zlt u v tie (eM S.1 t) (o k)) ∧ ∀ q, q < s → zc p (zvec p xs ys (o k) q) (zsum (fun t => c t * zvec p xs ys (eM S.1 t) q) n) := by
  refine ⟨S.1.1, ecb p S.1 (zvec p xs ys (o k)), Nat.le_refl _, fun t ht => h.mlt ho hk ht, fun q hq => ?_⟩
  have e := h.1.r1 (zvec p xs ys (o k)) S.1.1 (Nat.le_refl _) q hq
  rw [show zrv p (eR S.1) (eP S.1) (zvec p xs ys (o k)) S.1.1 q = 0 from zfst_all (of_decide_eq_false hn) q hq, Int.zero_add] at e
  exact e
theorem RI.step (hp : zprime p) (h : RI p s xs ys u v tie o k S) (ho : IsOrd u v tie 81 o) (hs : s ≤ 8) (hu : 0 ≤ u) (hv : 0 ≤ v) (hk : k < 81) : RI p s xs ys u v tie o (k + 1) (rstep p s xs ys S (o k)) := by
  have hpb := hp.bd
  have hm := ho.1 k hk
  have hfr := h.fresh ho hk (Nat.le_refl k) hk
  unfold rstep
  cases hn : enew p s xs ys S.1 (o k) with
  | true =>
    rw [cond_true]
    have hover := h.over hpb.1 ho hs hu hv hk hn
    have hq := of_decide_eq_true hn
    have hnewm : ∀ t, t < S.1.1 → eM S.1 t ≠ o k := fun t ht e => by
      rw [stdB_iff.mpr ⟨t, ht, e⟩] at hfr; cases hfr
    have hE := h.1.keep hp hm hnewm hq (zfst_ne _ s hq)
    have hst : ∀ x, stdB (eadd p s xs ys S.1 (o k)) x = true ↔ stdB S.1 x = true ∨ x = o k := fun x => stdB_keep
    have hmo : ∀ t, t < S.1.1 → eM (eadd p s xs ys S.1 (o k)) t = eM S.1 t := fun t ht => zfu_ne (by omega)
    have hz : (eadd p s xs ys S.1 (o k)).1 = S.1.1 + 1 := rfl
    have hstf : ∀ x, x ≠ o k → stdB S.1 x = false → stdB (eadd p s xs ys S.1 (o k)) x = false := fun x hx h0 => by
      cases hb : stdB (eadd p s xs ys S.1 (o k)) x with
      | false => rfl
      | true =>
        rcases (hst x).mp hb with h1 | h1
        · rw [h1] at h0; cases h0
        · exact absurd h1 hx
    have hold : ∀ i, i < k → stdB (eadd p s xs ys S.1 (o k)) (o i) = false → stdB S.1 (o i) = false := fun i _ h0 => by
      cases hb : stdB S.1 (o i) with
      | false => rfl
      | true => rw [(hst _).mpr (Or.inl hb)] at h0; cases h0
    change EInv p s xs ys (eadd p s xs ys S.1 (o k)) at hE
    generalize eadd p s xs ys S.1 (o k) = E' at hE hst hmo hz hstf hold ⊢
    refine ⟨hE, fun x hx => ?_, fun i hi h0 => ?_, fun b hb => ?_, fun i hi h0 => ?_, h.2.2.2.2.2.1, fun b hb => ?_⟩
    · rcases (hst x).mp hx with h1 | rfl
      · obtain ⟨a1, ⟨i, hi, ei⟩, a3, a4⟩ := h.2.1 x h1
        exact ⟨a1, ⟨i, by omega, ei⟩, a3.imp id (fun q => (hst _).mpr (Or.inl q)), a4.imp id (fun q => (hst _).mpr (Or.inl q))⟩
      · exact ⟨hm, ⟨k, by omega, rfl⟩, hover.1.imp id (fun q => (hst _).mpr (Or.inl q)), hover.2.imp id (fun q => (hst _).mpr (Or.inl q))⟩
    · have hik : i ≠ k := fun e => by subst e; rw [(hst _).mpr (Or.inr rfl)] at h0; cases h0
      obtain ⟨n, c, c1, c2, c3⟩ := h.2.2.1 i (by omega) (hold i (by omega) h0)
      refine ⟨n, c, (by show n ≤ E'.1; omega), fun t ht => by show zlt u v tie (eM E' t) (o i); rw [hmo t (by omega)]; exact c2 t ht, fun q hq => (c3 q hq).tr (zc.of_eq (zsum_ext fun t ht => by rw [hmo t (by omega)]))⟩
    · obtain ⟨b1, b2, b3, i, hi, ei⟩ := h.2.2.2.1 b hb
      refine ⟨b1, hstf _ (fun e => ?_) b2, ?_, i, by omega, ei⟩
      · rw [← ei] at e
        have := ho.inj (by omega) hk e
        omega
      · rw [corB_iff] at b3 ⊢
        exact ⟨b3.1.imp id (fun q => (hst _).mpr (Or.inl q)), b3.2.imp id (fun q => (hst _).mpr (Or.inl q))⟩
    · have hik : i ≠ k := fun e => by subst e; rw [(hst _).mpr (Or.inr rfl)] at h0; cases h0
      exact h.2.2.2.2.1 i (by omega) (hold i (by omega) h0)
    · obtain ⟨c1, c2⟩ := h.2.2.2.2.2.2 b hb
      exact ⟨c1, fun x => ⟨(c2 x).1, (c2 x).2.1, fun hx => ((c2 x).2.2 hx).imp id (fun q => ⟨(hst _).mpr (Or.inl q.1), q.2⟩)⟩⟩
  | false =>
    rw [cond_false]
    have hdep := h.depS ho hk hn
    have h2' : ∀ x, stdB S.1 x = true → x < 81 ∧ (∃ i, i < k + 1 ∧ o i = x) ∧ (x / 9 = 0 ∨ stdB S.1 (x - 9) = true) ∧ (x % 9 = 0 ∨ stdB S.1 (x - 1) = true) := fun x hx => by
      obtain ⟨a1, ⟨i, hi, ei⟩, a3⟩ := h.2.1 x hx
      exact ⟨a1, ⟨i, by omega, ei⟩, a3⟩
    have h3' : ∀ i, i < k + 1 → stdB S.1 (o i) = false → ∃ (n : Nat) (c : Nat → Int), n ≤ S.1.1 ∧ (∀ t, t < n → zlt u v tie (eM S.1 t) (o i)) ∧ ∀ q, q < s → zc p (zvec p xs ys (o i) q) (zsum (fun t => c t * zvec p xs ys (eM S.1 t) q) n) := fun i hi h0 => by
      by_cases e : i = k
      · subst e; exact hdep
      · exact h.2.2.1 i (by omega) h0
    cases hc : corB S.1 (o k) with
    | true =>
      rw [cond_true]
      refine ⟨h.1, h2', h3', fun b hb => ?_, fun i hi h0 => ?_, fun b d hbd hd => ?_, fun b hb => ?_⟩
      · show zfu S.2.2.1 S.2.1 (o k) b < 81 ∧ stdB S.1 (zfu S.2.2.1 S.2.1 (o k) b) = false ∧ corB S.1 (zfu S.2.2.1 S.2.1 (o k) b) = true ∧ ∃ i, i < k + 1 ∧ o i = zfu S.2.2.1 S.2.1 (o k) b
        have hb' : b < S.2.1 + 1 := hb
        by_cases e : b = S.2.1
        · subst e; rw [zfu_self]; exact ⟨hm, hfr, hc, k, by omega, rfl⟩
        · rw [zfu_ne e]
          obtain ⟨b1, b2, b3, i, hi, ei⟩ := h.2.2.2.1 b (by omega)
          exact ⟨b1, b2, b3, i, by omega, ei⟩
      · show ∃ b, b < S.2.1 + 1 ∧ zdv (zfu S.2.2.1 S.2.1 (o k) b) (o i)
        by_cases e : i = k
        · subst e; exact ⟨S.2.1, by omega, by rw [zfu_self]; exact ⟨Nat.le_refl _, Nat.le_refl _⟩⟩
        · obtain ⟨b, hb, e2⟩ := h.2.2.2.2.1 i (by omega) h0
          exact ⟨b, by omega, by rw [zfu_ne (by omega)]; exact e2⟩
      · show zfu S.2.2.1 S.2.1 (o k) b ≠ zfu S.2.2.1 S.2.1 (o k) d
        have hd' : d < S.2.1 + 1 := hd
        rw [zfu_ne (by omega)]
        by_cases e : d = S.2.1
        · subst e; rw [zfu_self]
          obtain ⟨-, -, -, i, hi, ei⟩ := h.2.2.2.1 b (by omega)
          intro e2
          rw [← ei] at e2
          have := ho.inj (by omega) hk e2
          omega
        · rw [zfu_ne e]; exact h.2.2.2.2.2.1 b d hbd (by omega)
      · show zfu S.2.2.2 S.2.1 (zcel p (o k) (ecb p S.1 (zvec p xs ys (o k))) (eM S.1) S.1.1) b (zfu S.2.2.1 S.2.1 (o k) b) = 1 ∧ ∀ x, 0 ≤ zfu S.2.2.2 S.2.1 (zcel p (o k) (ecb p S.1 (zvec p xs ys (o k))) (eM S.1) S.1.1) b x ∧ zfu S.2.2.2 S.2.1 (zcel p (o k) (ecb p S.1 (zvec p xs ys (o k))) (eM S.1) S.1.1) b x < p ∧ (zfu S.2.2.2 S.2.1 (zcel p (o k) (ecb p S.1 (zvec p xs ys (o k))) (eM S.1) S.1.1) b x ≠ 0 → x = zfu S.2.2.1 S.2.1 (o k) b ∨ (stdB S.1 x = true ∧ zlt u v tie x (zfu S.2.2.1 S.2.1 (o k) b)))
        have hb' : b < S.2.1 + 1 := hb
        by_cases e : b = S.2.1
        · subst e
          rw [zfu_self, zfu_self]
          have hnm : ∀ t, t < S.1.1 → eM S.1 t ≠ o k := fun t ht e => by
            rw [stdB_iff.mpr ⟨t, ht, e⟩] at hfr; cases hfr
          refine ⟨by rw [zcel_at hnm, if_pos rfl], fun x => ⟨(zcel_bd hpb.1).1, (zcel_bd hpb.1).2, fun hx => ?_⟩⟩
          by_cases c : ∃ t, t < S.1.1 ∧ eM S.1 t = x
          · obtain ⟨t, ht, et⟩ := c
            exact Or.inr ⟨stdB_iff.mpr ⟨t, ht, et⟩, by rw [← et]; exact h.mlt ho hk ht⟩
          · rw [zcel_at (fun t ht et => c ⟨t, ht, et⟩)] at hx
            by_cases c2 : x = o k
            · exact Or.inl c2
            · rw [if_neg c2] at hx; exact absurd rfl hx
        · rw [zfu_ne e, zfu_ne e]; exact h.2.2.2.2.2.2 b (by omega)
    | false =>
      rw [cond_false]
      refine ⟨h.1, h2', h3', fun b hb => ?_, fun i hi h0 => ?_, h.2.2.2.2.2.1, h.2.2.2.2.2.2⟩
      · obtain ⟨b1, b2, b3, i, hi, ei⟩ := h.2.2.2.1 b hb
        exact ⟨b1, b2, b3, i, by omega, ei⟩
      · by_cases e : i = k
        · subst e
          have go : ∀ x, x < 81 → x ≠ o i → zdv x (o i) → stdB S.1 x = false → ∃ b, b < S.2.1 ∧ zdv (S.2.2.1 b) (o i) := fun x hx hne hd h1 => by
            obtain ⟨j, hj, ej⟩ := ho.2.1 x hx
            have hji : j < i := (ho.lt_iff hj hk).mp (by rw [ej]; exact zlt_dv hu hv hd hne)
            obtain ⟨b, hb, hb2⟩ := h.2.2.2.2.1 j hji (by rw [ej]; exact h1)
            rw [ej] at hb2
            exact ⟨b, hb, Nat.le_trans hb2.1 hd.1, Nat.le_trans hb2.2 hd.2⟩
          have hcc : ¬ ((o i / 9 = 0 ∨ stdB S.1 (o i - 9) = true) ∧ (o i % 9 = 0 ∨ stdB S.1 (o i - 1) = true)) := fun q => by rw [corB_iff.mpr q] at hc; cases hc
          by_cases c1 : o i / 9 = 0 ∨ stdB S.1 (o i - 9) = true
          · have c2 : ¬ (o i % 9 = 0 ∨ stdB S.1 (o i - 1) = true) := fun q => hcc ⟨c1, q⟩
            exact go (o i - 1) (by omega) (by omega) ⟨by omega, by omega⟩ (by
              cases hb : stdB S.1 (o i - 1) with
              | false => rfl
              | true => exact absurd (Or.inr hb) c2)
          · have c3 : ¬ o i / 9 = 0 := fun q => c1 (Or.inl q)
            exact go (o i - 9) (by omega) (by omega) ⟨by omega, by omega⟩ (by
              cases hb : stdB S.1 (o i - 9) with
              | false => rfl
              | true => exact absurd (Or.inr hb) c1)
        · exact h.2.2.2.2.1 i (by omega) h0
end RUN
theorem RI.run {p : Int} {s : Nat} {xs ys : Nat → Int} {u v tie : Int} {o : Nat → Nat} (hp : zprime p) (ho : IsOrd u v tie 81 o) (hs : s ≤ 8) (hu : 0 ≤ u) (hv : 0 ≤ v) : ∀ k, k ≤ 81 → RI p s xs ys u v tie o k (rrun p s xs ys o k)
  | 0, _ => by
    refine ⟨EInv.empty _ rfl, fun x hx => ?_, fun i hi => absurd hi (Nat.not_lt_zero i), fun b hb => absurd hb (Nat.not_lt_zero b), fun i hi => absurd hi (Nat.not_lt_zero i), fun b d _ hd => absurd hd (Nat.not_lt_zero d), fun b hb => absurd hb (Nat.not_lt_zero b)⟩
    obtain ⟨t, ht, -⟩ := stdB_iff.mp hx
    exact absurd ht (Nat.not_lt_zero t)
  | k + 1, hk => (RI.run hp ho hs hu hv k (by omega)).step hp ho hs hu hv (by omega)
