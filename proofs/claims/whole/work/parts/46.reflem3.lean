/-! ===== the reference's cones ===== -/
def zprC (m : Nat) (C : Nat → Int) (n : Nat) (x y : Int) : Prop := ∃ q : Nat, q < n ∧ C q ≠ 0 ∧ 0 < y ∧ y = (q : Int) % 9 - (m : Int) % 9 ∧ x = (m : Int) / 9 - (q : Int) / 9
theorem zPair_succC {j : Nat} {cm : Nat → Nat} {ce : Nat → Nat → Int} (h : ∀ q, ce j q ≠ 0 → q < 81) (x y : Int) : (zPair j cm ce x y ∨ zprC (cm j) (ce j) 81 x y) ↔ zPair (j + 1) cm ce x y := by
  constructor
  · rintro (⟨a, ha, q⟩ | ⟨q, -, r⟩)
    · exact ⟨a, by omega, q⟩
    · exact ⟨j, by omega, q, r⟩
  · rintro ⟨a, ha, q, r⟩
    by_cases e : a = j
    · subst e; exact Or.inr ⟨q, h q r.1, r⟩
    · exact Or.inl ⟨a, by omega, q, r⟩
theorem zprC_suc {P : Int → Int → Prop} {m n : Nat} {C : Nat → Int} (h0 : C n ≠ 0) (h1 : 0 < (n : Int) % 9 - (m : Int) % 9) (x y : Int) : ((P x y ∨ zprC m C n x y) ∨ (x = (m : Int) / 9 - (n : Int) / 9 ∧ y = (n : Int) % 9 - (m : Int) % 9)) ↔ (P x y ∨ zprC m C (n + 1) x y) := by
  constructor
  · rintro ((q | ⟨i, q1, q2⟩) | ⟨q1, q2⟩)
    · exact Or.inl q
    · exact Or.inr ⟨i, by omega, q2⟩
    · exact Or.inr ⟨n, by omega, h0, by omega, q2, q1⟩
  · rintro (q | ⟨i, q1, q2, q3, q4, q5⟩)
    · exact Or.inl (Or.inl q)
    · by_cases e : i = n
      · subst e; exact Or.inr ⟨q5, q4⟩
      · exact Or.inl (Or.inr ⟨i, by omega, q2, q3, q4, q5⟩)
theorem zprC_suc0 {P : Int → Int → Prop} {m n : Nat} {C : Nat → Int} (h : ¬ (C n ≠ 0 ∧ 0 < (n : Int) % 9 - (m : Int) % 9)) (x y : Int) : (P x y ∨ zprC m C n x y) ↔ (P x y ∨ zprC m C (n + 1) x y) := by
  constructor
  · rintro (q | ⟨i, q1, q2⟩)
    · exact Or.inl q
    · exact Or.inr ⟨i, by omega, q2⟩
  · rintro (q | ⟨i, q1, q2, q3, q4, q5⟩)
    · exact Or.inl q
    · by_cases e : i = n
      · subst e; exact absurd ⟨q2, by omega⟩ h
      · exact Or.inr ⟨i, by omega, q2, q3, q4, q5⟩
theorem zgcd_step {x y : Nat} (h : y ≠ 0) : Nat.gcd y (x % y) = Nat.gcd x y := by
  rw [Nat.gcd_comm y (x % y), ← Nat.gcd_rec, Nat.gcd_comm]
/-- what the arrays hold of the first n cones -/
def rfan (n : Nat) (B : Nat → bT) (W : Nat → Nat × Nat) (tp bt sz ch cc cl : Nat → Int) : Prop := ∀ j, j < n → sz j = ((B j).2.1 : Int) ∧ (∀ i, i < 9 → ch (9 * j + i) = ((B j).1 i : Int)) ∧
  (∀ a, a < (B j).2.1 → cc (9 * j + a) = ((B j).2.2.1 a : Int) ∧ ∀ x, x < 81 → cl (81 * (9 * j + a) + x) = (B j).2.2.2 a x) ∧ tp j = ((W j).1 : Int) ∧ bt j = ((W j).2 : Int)
