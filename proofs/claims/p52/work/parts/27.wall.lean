/-! ===== walls: the least of some fractions, in lowest terms ===== -/
def zMin (P : Int → Int → Prop) (t b : Int) : Prop := (b = 0 ∧ t = 0 ∧ ∀ x y, ¬ P x y) ∨ (0 < b ∧ P t b ∧ ∀ x y, P x y → t * y ≤ x * b)
theorem zMin.ext {P P' : Int → Int → Prop} {t b : Int} (h : zMin P t b) (e : ∀ x y, P x y ↔ P' x y) : zMin P' t b := by
  rcases h with ⟨h1, h2, h3⟩ | ⟨h1, h2, h3⟩
  · exact Or.inl ⟨h1, h2, fun x y q => h3 x y ((e x y).mpr q)⟩
  · exact Or.inr ⟨h1, (e t b).mp h2, fun x y q => h3 x y ((e x y).mpr q)⟩
theorem zfrac_tr {t b t1 b1 x y : Int} (hb : 0 < b) (hb1 : 0 < b1) (hy : 0 < y) (h1 : t1 * b ≤ t * b1) (h2 : t * y ≤ x * b) : t1 * y ≤ x * b1 := by
  have a : t1 * b * y ≤ t * b1 * y := Int.mul_le_mul_of_nonneg_right h1 (by omega)
  have c : t * y * b1 ≤ x * b * b1 := Int.mul_le_mul_of_nonneg_right h2 (by omega)
  have e1 : t1 * b * y = t1 * y * b := by grind
  have e2 : t * b1 * y = t * y * b1 := by grind
  have e3 : x * b * b1 = x * b1 * b := by grind
  exact Int.le_of_mul_le_mul_right (by omega) hb
theorem zMin.better {P : Int → Int → Prop} {t b t1 b1 : Int} (hP : ∀ x y, P x y → 0 < y) (h : zMin P t b) (hb1 : 0 < b1) (hl : b = 0 ∨ t1 * b < t * b1) : zMin (fun x y => P x y ∨ (x = t1 ∧ y = b1)) t1 b1 := by
  refine Or.inr ⟨hb1, Or.inr ⟨rfl, rfl⟩, fun x y q => ?_⟩
  rcases q with q | ⟨rfl, rfl⟩
  · rcases h with ⟨h1, h2, h3⟩ | ⟨h1, h2, h3⟩
    · exact absurd q (h3 x y)
    · exact zfrac_tr h1 hb1 (hP x y q) (by omega) (h3 x y q)
  · omega
theorem zMin.keep {P : Int → Int → Prop} {t b t1 b1 : Int} (h : zMin P t b) (hb : b ≠ 0) (hl : t * b1 ≤ t1 * b) : zMin (fun x y => P x y ∨ (x = t1 ∧ y = b1)) t b := by
  rcases h with ⟨h1, h2, h3⟩ | ⟨h1, h2, h3⟩
  · exact absurd h1 hb
  · refine Or.inr ⟨h1, Or.inl h2, fun x y q => ?_⟩
    rcases q with q | ⟨rfl, rfl⟩
    · exact h3 x y q
    · exact hl
/-- the pairs of a list of t terms under the corner m -/
def zprT (m : Nat) (mo : Nat → Int) (t : Nat) (x y : Int) : Prop := ∃ i, i < t ∧ 0 < y ∧ y = mo i % 9 - (m : Int) % 9 ∧ x = (m : Int) / 9 - mo i / 9
/-- the pairs of a basis -/
def zPair (c : Nat) (cm : Nat → Nat) (ce : Nat → Nat → Int) (x y : Int) : Prop := ∃ a, a < c ∧ ∃ q : Nat, ce a q ≠ 0 ∧ 0 < y ∧ y = (q : Int) % 9 - (cm a : Int) % 9 ∧ x = (cm a : Int) / 9 - (q : Int) / 9
theorem zprT_cells {m t : Nat} {mo fa c : Nat → Int} (h : zRep t mo fa c) (x y : Int) : zprT m mo t x y ↔ ∃ q : Nat, c q ≠ 0 ∧ 0 < y ∧ y = (q : Int) % 9 - (m : Int) % 9 ∧ x = (m : Int) / 9 - (q : Int) / 9 := by
  constructor
  · rintro ⟨i, hi, h1, h2, h3⟩
    obtain ⟨a1, a2, a3, a4⟩ := h.1 i hi
    refine ⟨(mo i).toNat, by rw [a4]; exact a3, h1, ?_, ?_⟩
    · rw [Int.toNat_of_nonneg a1]; exact h2
    · rw [Int.toNat_of_nonneg a1]; exact h3
  · rintro ⟨q, hq, h1, h2, h3⟩
    obtain ⟨i, hi, ei⟩ := h.2.2 q hq
    exact ⟨i, hi, h1, by rw [ei]; exact h2, by rw [ei]; exact h3⟩
/-- lowest terms, as the class makes them -/
def zlow : Nat → Nat × Nat → Nat × Nat
  | 0, w => w
  | d + 1, w => if d = 0 then w else zlow d (if w.1 % (d + 1) = 0 ∧ w.2 % (d + 1) = 0 then (w.1 / (d + 1), w.2 / (d + 1)) else w)
theorem zlow_gcd : ∀ t, t < 9 → ∀ b, b < 9 → zlow 9 (t, b) = (t / Nat.gcd t b, b / Nat.gcd t b) := by decide +kernel
def zrdc (t b : Nat) : Nat × Nat := (t / Nat.gcd t b, b / Nat.gcd t b)
theorem zrdc_uniq0 : ((List.range 9).all fun t => (List.range 9).all fun b => (List.range 9).all fun x => (List.range 9).all fun y => !(decide (0 < t ∧ 0 < b ∧ 0 < x ∧ 0 < y ∧ t * y = x * b)) || decide (zrdc t b = zrdc x y)) = true := by decide +kernel
theorem zrdc_uniq (t : Nat) (ht : t < 9) (b : Nat) (hb : b < 9) (x : Nat) (hx : x < 9) (y : Nat) (hy : y < 9) (h1 : 0 < t) (h2 : 0 < b) (h3 : 0 < x) (h4 : 0 < y) (e : t * y = x * b) : zrdc t b = zrdc x y := by
  have a := zrdc_uniq0
  rw [List.all_eq_true] at a
  have a := a t (List.mem_range.mpr ht)
  rw [List.all_eq_true] at a
  have a := a b (List.mem_range.mpr hb)
  rw [List.all_eq_true] at a
  have a := a x (List.mem_range.mpr hx)
  rw [List.all_eq_true] at a
  have a := a y (List.mem_range.mpr hy)
  rw [decide_eq_true (show 0 < t ∧ 0 < b ∧ 0 < x ∧ 0 < y ∧ t * y = x * b from ⟨h1, h2, h3, h4, e⟩)] at a
  simpa using a
theorem zrdc_bd : ∀ t, t < 9 → ∀ b, b < 9 → (0 < b → 0 < (zrdc t b).2) ∧ (0 < t → 0 < (zrdc t b).1) ∧ (zrdc t b).1 ≤ t ∧ (zrdc t b).2 ≤ b ∧ (zrdc t b).1 * b = t * (zrdc t b).2 := by decide +kernel
/-- the wall of a basis, in lowest terms; (0, 0): none -/
def IsW (P : Int → Int → Prop) (w : Nat × Nat) : Prop := ∃ t b : Nat, t < 9 ∧ b < 9 ∧ (0 < b → 0 < t) ∧ zMin P t b ∧ w = zrdc t b
theorem IsW.uniq {P : Int → Int → Prop} {w w' : Nat × Nat} (h : IsW P w) (h' : IsW P w') : w = w' := by
  obtain ⟨t, b, t1, b1, p1, m1, rfl⟩ := h
  obtain ⟨x, y, x1, y1, p2, m2, rfl⟩ := h'
  rcases m1 with ⟨a1, a2, a3⟩ | ⟨a1, a2, a3⟩
  · rcases m2 with ⟨c1, c2, c3⟩ | ⟨c1, c2, c3⟩
    · have : t = 0 := by omega
      have : b = 0 := by omega
      have : x = 0 := by omega
      have : y = 0 := by omega
      subst_vars; rfl
    · exact absurd c2 (a3 _ _)
  · rcases m2 with ⟨c1, c2, c3⟩ | ⟨c1, c2, c3⟩
    · exact absurd a2 (c3 _ _)
    · have l1 := a3 _ _ c2
      have l2 := c3 _ _ a2
      have e : (t : Int) * y = x * b := by omega
      exact zrdc_uniq t t1 b b1 x x1 y y1 (p1 (by omega)) (by omega) (p2 (by omega)) (by omega) (by exact_mod_cast e)
