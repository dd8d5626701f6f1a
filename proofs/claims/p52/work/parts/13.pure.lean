/-! ===== numbers modulo p: the words of the contracts ===== -/
def zpow (p b : Int) : Nat → Int
  | 0 => 1
  | e + 1 => zpow p b e * b % p
def zmon (p x y : Int) (m : Nat) : Int := zpow p x (m / 9) * zpow p y (m % 9) % p
def zsum (f : Nat → Int) : Nat → Int
  | 0 => 0
  | n + 1 => zsum f n + f n
/-- the value of a polynomial of 81 coefficients -/
def zval (p x y : Int) (c : Nat → Int) : Int := zsum (fun m => c m * zmon p x y m) 81 % p
def zcnt (f : Nat → Bool) : Nat → Nat
  | 0 => 0
  | n + 1 => zcnt f n + (if f n = true then 1 else 0)
/-- how many of the first n numbers are not 0 -/
def znz (c : Nat → Int) (n : Nat) : Nat := zcnt (fun m => decide (c m ≠ 0)) n
theorem zcnt_le (f : Nat → Bool) : ∀ n, zcnt f n ≤ n
  | 0 => Nat.le_refl 0
  | n + 1 => by
    have := zcnt_le f n
    unfold zcnt
    split <;> omega
theorem zcnt_ext {f f' : Nat → Bool} : ∀ {n : Nat}, (∀ j, j < n → f j = f' j) → zcnt f n = zcnt f' n
  | 0, _ => rfl
  | n + 1, h => by
    unfold zcnt
    rw [zcnt_ext (fun j hj => h j (by omega)), h n (by omega)]
theorem znz_ext {c c' : Nat → Int} {n : Nat} (h : ∀ j, j < n → c j = c' j) : znz c n = znz c' n := zcnt_ext fun j hj => by rw [h j hj]
theorem zsum_ext {f f' : Nat → Int} : ∀ {n : Nat}, (∀ j, j < n → f j = f' j) → zsum f n = zsum f' n
  | 0, _ => rfl
  | n + 1, h => by
    unfold zsum
    rw [zsum_ext (fun j hj => h j (by omega)), h n (by omega)]
theorem zpow_bd {p b : Int} (hp : 1 < p) : ∀ e, 0 ≤ zpow p b e ∧ zpow p b e < p
  | 0 => ⟨by unfold zpow; omega, by unfold zpow; omega⟩
  | e + 1 => zmod_bd _ _ (by omega)
theorem zmon_bd {p x y : Int} (hp : 1 < p) (m : Nat) : 0 ≤ zmon p x y m ∧ zmon p x y m < p := zmod_bd _ _ (by omega)
theorem zval_bd {p x y : Int} {c : Nat → Int} (hp : 1 < p) : 0 ≤ zval p x y c ∧ zval p x y c < p := zmod_bd _ _ (by omega)
/-- the least k from a with k * v % p = 1, f steps at most -/
def zinvA (p v : Int) : Nat → Nat → Nat
  | 0, k => k
  | f + 1, k => if (k : Int) * v % p = 1 then k else zinvA p v f (k + 1)
def zinv (p v : Int) : Int := (zinvA p v 40 1 : Nat)
theorem zinvA_stop {p v : Int} {k : Nat} (h : (k : Int) * v % p = 1) : ∀ f, zinvA p v f k = k
  | 0 => rfl
  | f + 1 => by unfold zinvA; rw [if_pos h]
theorem zinvA_skip {p v : Int} : ∀ (f k : Nat), k ≤ f → (∀ j, 1 ≤ j → j ≤ k → ¬ (j : Int) * v % p = 1) → zinvA p v f 1 = zinvA p v (f - k) (k + 1)
  | f, 0, _, _ => rfl
  | f, k + 1, hk, h => by
    rw [zinvA_skip f k (by omega) (fun j h1 h2 => h j h1 (by omega))]
    obtain ⟨d, hd⟩ : ∃ d, f - k = d + 1 := ⟨f - k - 1, by omega⟩
    rw [hd, zinvA, if_neg (h (k + 1) (by omega) (by omega)), show f - (k + 1) = d by omega]
theorem zinv_of {p v : Int} {k : Nat} (h1 : 1 ≤ k) (h2 : k ≤ 40) (h : (k : Int) * v % p = 1) (hn : ∀ j, 1 ≤ j → j < k → ¬ (j : Int) * v % p = 1) : zinv p v = k := by
  unfold zinv
  rw [zinvA_skip 40 (k - 1) (by omega) (fun j a b => hn j a (by omega)), show k - 1 + 1 = k by omega, zinvA_stop h]
def zprime (p : Int) : Prop := p = 2 ∨ p = 3 ∨ p = 5 ∨ p = 7 ∨ p = 11 ∨ p = 13 ∨ p = 17 ∨ p = 19 ∨ p = 23 ∨ p = 29 ∨ p = 31
theorem zprime.bd {p : Int} (h : zprime p) : 1 < p ∧ p < 32 := by unfold zprime at h; omega
theorem zinv_ex {p v : Int} (hp : zprime p) (h0 : 0 < v) (h1 : v < p) : ∃ k : Nat, 1 ≤ k ∧ (k : Int) < p ∧ (k : Int) * v % p = 1 := by
  obtain ⟨v, rfl⟩ := Int.eq_ofNat_of_zero_le (Int.le_of_lt h0)
  have all : ∀ p ∈ [2, 3, 5, 7, 11, 13, 17, 19, 23, 29, 31], ∀ v, v < p → 0 < v → ∃ k, k < p ∧ 1 ≤ k ∧ k * v % p = 1 := by decide +kernel
  have go : ∀ q : Nat, q ∈ [2, 3, 5, 7, 11, 13, 17, 19, 23, 29, 31] → p = (q : Int) → ∃ k : Nat, 1 ≤ k ∧ (k : Int) < p ∧ (k : Int) * (v : Int) % p = 1 := by
    intro q hq e
    subst e
    obtain ⟨k, a, b, c⟩ := all q hq v (by omega) (by omega)
    refine ⟨k, b, by omega, ?_⟩
    have : ((k * v % q : Nat) : Int) = ((1 : Nat) : Int) := by rw [c]
    simpa using this
  rcases hp with rfl | rfl | rfl | rfl | rfl | rfl | rfl | rfl | rfl | rfl | rfl
  · exact go 2 (by decide) rfl
  · exact go 3 (by decide) rfl
  · exact go 5 (by decide) rfl
  · exact go 7 (by decide) rfl
  · exact go 11 (by decide) rfl
  · exact go 13 (by decide) rfl
  · exact go 17 (by decide) rfl
  · exact go 19 (by decide) rfl
  · exact go 23 (by decide) rfl
  · exact go 29 (by decide) rfl
  · exact go 31 (by decide) rfl
theorem zinv_spec {p v : Int} (hp : zprime p) (h0 : 0 < v) (h1 : v < p) : 1 ≤ zinv p v ∧ zinv p v < p ∧ zinv p v * v % p = 1 := by
  obtain ⟨k, a, b, c⟩ := zinv_ex hp h0 h1
  have hb := hp.bd
  -- the least such
  have least : ∀ d k : Nat, k ≤ d → 1 ≤ k → (k : Int) < p → (k : Int) * v % p = 1 → ∃ q : Nat, 1 ≤ q ∧ (q : Int) < p ∧ (q : Int) * v % p = 1 ∧ ∀ j : Nat, 1 ≤ j → j < q → ¬ (j : Int) * v % p = 1 := by
    intro d
    induction d with
    | zero => intro k h1 h2; omega
    | succ d ih =>
      intro k hk h2 h3 h4
      by_cases hx : ∃ j : Nat, 1 ≤ j ∧ j < k ∧ (j : Int) * v % p = 1
      · obtain ⟨j, j1, j2, j3⟩ := hx
        exact ih j (by omega) j1 (by omega) j3
      · exact ⟨k, h2, h3, h4, fun j j1 j2 j3 => hx ⟨j, j1, j2, j3⟩⟩
  obtain ⟨q, q1, q2, q3, q4⟩ := least k k (Nat.le_refl k) a b c
  rw [zinv_of q1 (by omega) q3 q4]
  exact ⟨by omega, q2, q3⟩
/-- Horner's way -/
def hcol (p y : Int) (c : Nat → Int) (i : Nat) : Nat → Int
  | 0 => 0
  | t + 1 => (hcol p y c i t * y + c (9 * i + (8 - t))) % p
def hval (p x y : Int) (c : Nat → Int) : Nat → Int
  | 0 => 0
  | t + 1 => (hval p x y c t * x + hcol p y c (8 - t) 9) % p
theorem hcol_bd {p y : Int} {c : Nat → Int} {i : Nat} (hp : 1 < p) : ∀ t, 0 ≤ hcol p y c i t ∧ hcol p y c i t < p
  | 0 => ⟨by unfold hcol; omega, by unfold hcol; omega⟩
  | t + 1 => zmod_bd _ _ (by omega)
theorem hval_bd {p x y : Int} {c : Nat → Int} (hp : 1 < p) : ∀ t, 0 ≤ hval p x y c t ∧ hval p x y c t < p
  | 0 => ⟨by unfold hval; omega, by unfold hval; omega⟩
  | t + 1 => zmod_bd _ _ (by omega)
/-! ===== elimination: what has become of a vector after r rows, and what of its combination ===== -/
def zrv (p : Int) (R : Nat → Nat → Int) (piv : Nat → Nat) (v : Nat → Int) : Nat → Nat → Int
  | 0 => v
  | r + 1 => fun k => (zrv p R piv v r k + (p - zrv p R piv v r (piv r)) * R r k) % p
def zrc (p : Int) (R O : Nat → Nat → Int) (piv : Nat → Nat) (v : Nat → Int) : Nat → Nat → Int
  | 0 => fun _ => 0
  | r + 1 => fun t => (zrc p R O piv v r t + zrv p R piv v r (piv r) * O r t) % p
theorem zrv_bd {p : Int} {R : Nat → Nat → Int} {piv : Nat → Nat} {v : Nat → Int} {k : Nat} (hp : 1 < p) (hv : 0 ≤ v k ∧ v k < p) : ∀ r, 0 ≤ zrv p R piv v r k ∧ zrv p R piv v r k < p
  | 0 => hv
  | r + 1 => zmod_bd _ _ (by omega)
theorem zrc_bd {p : Int} {R O : Nat → Nat → Int} {piv : Nat → Nat} {v : Nat → Int} {k : Nat} (hp : 1 < p) : ∀ r, 0 ≤ zrc p R O piv v r k ∧ zrc p R O piv v r k < p
  | 0 => ⟨by unfold zrc; omega, by unfold zrc; omega⟩
  | r + 1 => zmod_bd _ _ (by omega)
theorem zrv_ext {p : Int} {R R' : Nat → Nat → Int} {piv piv' : Nat → Nat} {v v' : Nat → Int} {n : Nat} (hv : ∀ k, k < n → v k = v' k) : ∀ (z : Nat), (∀ r, r < z → piv r = piv' r ∧ piv r < n) → (∀ r, r < z → ∀ k, k < n → R r k = R' r k) → ∀ k, k < n → zrv p R piv v z k = zrv p R' piv' v' z k
  | 0, _, _, k, hk => hv k hk
  | z + 1, h1, h2, k, hk => by
    have ih := zrv_ext (p := p) (R := R) (R' := R') (piv := piv) (piv' := piv') hv z (fun r hr => h1 r (by omega)) (fun r hr => h2 r (by omega))
    obtain ⟨a, b⟩ := h1 z (by omega)
    unfold zrv
    rw [ih k hk, ih _ b, h2 z (by omega) k hk, a]
theorem zrc_ext {p : Int} {R R' O O' : Nat → Nat → Int} {piv piv' : Nat → Nat} {v v' : Nat → Int} {n m : Nat} (hv : ∀ k, k < n → v k = v' k) : ∀ (z : Nat), (∀ r, r < z → piv r = piv' r ∧ piv r < n) → (∀ r, r < z → ∀ k, k < n → R r k = R' r k) → (∀ r, r < z → ∀ k, k < m → O r k = O' r k) → ∀ k, k < m → zrc p R O piv v z k = zrc p R' O' piv' v' z k
  | 0, _, _, _, k, hk => rfl
  | z + 1, h1, h2, h3, k, hk => by
    have ih := zrc_ext (p := p) (R := R) (R' := R') (piv := piv) (piv' := piv') (O := O) (O' := O') (m := m) hv z (fun r hr => h1 r (by omega)) (fun r hr => h2 r (by omega)) (fun r hr => h3 r (by omega)) k hk
    have iv := zrv_ext (p := p) (R := R) (R' := R') (piv := piv) (piv' := piv') hv z (fun r hr => h1 r (by omega)) (fun r hr => h2 r (by omega))
    obtain ⟨a, b⟩ := h1 z (by omega)
    unfold zrc
    rw [ih, iv _ b, h3 z (by omega) k hk, a]
/-- the cells of a corner's polynomial -/
def zcel (p : Int) (m : Nat) (cb : Nat → Int) (mon : Nat → Nat) : Nat → Nat → Int
  | 0 => fun x => if x = m then 1 else 0
  | t + 1 => zfu (zcel p m cb mon t) (mon t) (-cb t % p)
/-- a list of t terms, by falling monomials, stands for the cells c -/
def zRep (t : Nat) (mo : Nat → Int) (fa : Nat → Int) (c : Nat → Int) : Prop :=
  (∀ j, j < t → 0 ≤ mo j ∧ mo j < 81 ∧ fa j ≠ 0 ∧ c (mo j).toNat = fa j) ∧ (∀ i j, i < j → j < t → mo j < mo i) ∧ ∀ m, c m ≠ 0 → ∃ j, j < t ∧ mo j = (m : Int)
theorem zRep.nil {c mo fa : Nat → Int} (h : ∀ m, c m = 0) : zRep 0 mo fa c := ⟨fun j hj => by omega, fun i j _ hj => by omega, fun m hm => absurd (h m) hm⟩
theorem zRep.ins {t q m : Nat} {f : Int} {mo fa mo' fa' c : Nat → Int} (h : zRep t mo fa c) (hm : m < 81) (hf : f ≠ 0) (hc : c m = 0) (hq : q ≤ t)
    (h1 : ∀ j, j < q → mo j ≥ m) (h2 : ∀ j, q ≤ j → j < t → mo j < m)
    (e1 : ∀ j, j < t + 1 → mo' j = (if j < q then mo j else if j = q then (m : Int) else mo (j - 1))) (e2 : ∀ j, j < t + 1 → fa' j = (if j < q then fa j else if j = q then f else fa (j - 1))) : zRep (t + 1) mo' fa' (zfu c m f) := by
  obtain ⟨a, b, d⟩ := h
  have hne : ∀ j, j < t → mo j ≠ (m : Int) := fun j hj e => by
    obtain ⟨a1, a2, a3, a4⟩ := a j hj
    rw [e, Int.toNat_natCast, hc] at a4
    exact a3 a4.symm
  have old : ∀ j, j < t → 0 ≤ mo j ∧ mo j < 81 ∧ fa j ≠ 0 ∧ zfu c m f (mo j).toNat = fa j := fun j hj => by
    obtain ⟨a1, a2, a3, a4⟩ := a j hj
    refine ⟨a1, a2, a3, ?_⟩
    rw [zfu_ne (fun e => hne j hj (by omega)), a4]
  refine ⟨fun j hj => ?_, fun i j hij hj => ?_, fun x hx => ?_⟩
  · rw [e1 j hj, e2 j hj]
    by_cases c1 : j < q
    · rw [if_pos c1, if_pos c1]; exact old j (by omega)
    · rw [if_neg c1, if_neg c1]
      by_cases c2 : j = q
      · rw [if_pos c2, if_pos c2]
        exact ⟨by omega, by omega, hf, by rw [Int.toNat_natCast, zfu_self]⟩
      · rw [if_neg c2, if_neg c2]; exact old _ (by omega)
  · rw [e1 i (by omega), e1 j hj]
    by_cases c1 : j < q
    · rw [if_pos c1, if_pos (by omega)]; exact b i j hij (by omega)
    · rw [if_neg c1]
      by_cases c2 : j = q
      · subst c2
        rw [if_pos rfl, if_pos (by omega)]
        have := h1 i (by omega); have := hne i (by omega); omega
      · rw [if_neg c2]
        by_cases c3 : i < q
        · rw [if_pos c3]; exact b i (j - 1) (by omega) (by omega)
        · rw [if_neg c3]
          by_cases c4 : i = q
          · rw [if_pos c4]; exact h2 (j - 1) (by omega) (by omega)
          · rw [if_neg c4]; exact b (i - 1) (j - 1) (by omega) (by omega)
  · by_cases c1 : x = m
    · exact ⟨q, by omega, by rw [e1 q (by omega), if_neg (by omega), if_pos rfl, c1]⟩
    · rw [zfu_ne c1] at hx
      obtain ⟨j, hj, ej⟩ := d x hx
      by_cases c2 : j < q
      · exact ⟨j, by omega, by rw [e1 j (by omega), if_pos c2, ej]⟩
      · exact ⟨j + 1, by omega, by rw [e1 (j + 1) (by omega), if_neg (by omega), if_neg (by omega)]; simpa using ej⟩
