/-! ===== small facts for the contracts ===== -/
theorem zneg_mod {p x : Int} (h0 : 0 < x) (h1 : x < p) : -x % p = p - x := by
  have : zc p (-x) (p - x) := ⟨-1, by grind⟩
  rw [this.emod]
  exact Int.emod_eq_of_lt (by omega) (by omega)
theorem zRep.le {t : Nat} {mo fa c : Nat → Int} (h : zRep t mo fa c) : ∀ i j, i ≤ j → j < t → mo j ≤ mo i := fun i j hij hj => by
  by_cases e : i = j
  · subst e; omega
  · have := h.2.1 i j (by omega) hj; omega
/-- a term more, as insertTerm lays it -/
theorem zRep.put {t q m : Nat} {f : Int} {mo fa mo' fa' c : Nat → Int} (h : zRep t mo fa c) (hm : m < 81) (hf : f ≠ 0) (hc : c m = 0) (hq : q ≤ t)
    (h1 : ∀ j, j < q → (q ≤ t ∧ (j = q - 1 → mo j ≥ (m : Int)))) (h2 : ∀ j, q ≤ j → j < t → mo j < (m : Int))
    (e1 : ∀ j, j < t + 1 → mo' j = (if j < q then mo j else if j = q then (m : Int) else mo (j - 1))) (e2 : ∀ j, j < t + 1 → fa' j = (if j < q then fa j else if j = q then f else fa (j - 1))) : zRep (t + 1) mo' fa' (zfu c m f) :=
  h.ins hm hf hc hq (fun j hj => by
    have a := (h1 (q - 1) (by omega)).2 rfl
    have := h.le j (q - 1) (by omega) (by omega)
    omega) h2 e1 e2
