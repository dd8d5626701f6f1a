/-! ===== p52, pure: what a wall has, what a weight has, the universal basis ===== -/
theorem s_mn_eq {P : pT} (h : pwf P) {u v : Int} (hw : sWt u v) : s_mn P u v = if zfiw P u v + 1 < pN P ∧ zonw P u v (zfiw P u v) then 2 else 1 := by
  have hz := (zfiw_is h u v).1
  have hl := pW_last h hz
  unfold s_mn
  rw [if_pos hw]
  by_cases c : zfiw P u v + 1 < pN P ∧ zonw P u v (zfiw P u v)
  · rw [if_pos c]
    refine if_pos ⟨fun e => ?_, ?_⟩
    · have := hl.mp e; omega
    · have := c.2
      unfold zonw at this
      rw [← this]; exact Int.mul_comm _ _
  · rw [if_neg c]
    refine if_neg (fun q => c ⟨?_, ?_⟩)
    · refine Nat.lt_of_le_of_ne (by omega) fun e => q.1 (hl.mpr e)
    · unfold zonw
      rw [q.2]; exact Int.mul_comm _ _
theorem pWall {P : pT} (h : pwf P) {c : Nat} (hc : c + 1 < pN P) : (∀ t : Int, t = 0 ∨ t = 1 → sOrd ((pW P c).2 : Int) ((pW P c).1 : Int) t) ∧ zfiw P ((pW P c).2 : Int) ((pW P c).1 : Int) = c ∧ s_mn P ((pW P c).2 : Int) ((pW P c).1 : Int) = 2 ∧
    ((∀ i, i < 9 → (pZ P ((pW P c).2 : Int) ((pW P c).1 : Int) 0).1 i = (pB P c).1 i) ∧ (pZ P ((pW P c).2 : Int) ((pW P c).1 : Int) 0).2.1 = (pB P c).2.1 ∧ ∀ a, a < (pB P c).2.1 → (pZ P ((pW P c).2 : Int) ((pW P c).1 : Int) 0).2.2.1 a = (pB P c).2.2.1 a) ∧
    pZ P ((pW P c).2 : Int) ((pW P c).1 : Int) 1 = pB P (c + 1) ∧ 1 ≤ s_chg P (c : Int) ∧ s_chg P (c : Int) ≤ ((pB P c).2.1 : Int) := by
  obtain ⟨p1, p2, p3⟩ := pW_pos h hc
  have hw : sWt ((pW P c).2 : Int) ((pW P c).1 : Int) := ⟨⟨by omega, by omega, by omega, by omega⟩, Or.inl (by omega)⟩
  have ho : zonw P ((pW P c).2 : Int) ((pW P c).1 : Int) c := Int.mul_comm _ _
  have hf := zfiw_on h hw hc ho
  refine ⟨fun t ht => ⟨hw, ht⟩, hf, ?_, ?_, rfl, ?_⟩
  · rw [s_mn_eq h hw, hf]; exact if_pos ⟨hc, ho⟩
  · refine pZ_same h (by omega) (by omega) (Or.inl ?_) (Or.inr (Or.inr ⟨rfl, by decide⟩))
    exact ((zfl_facts (xs := P.2.2.1) (ys := P.2.2.2.1) h.1 h.2.1 c).2.2.1 p1).2.2
  · have e : s_chg P (c : Int) = ((zcnt (fun a => !(List.range (pB P (c + 1)).2.1).any (fun q => (pB P (c + 1)).2.2.1 q == (pB P c).2.2.1 a)) (pB P c).2.1 : Nat) : Int) := by
      unfold s_chg
      rw [if_pos (by omega), Int.toNat_natCast, if_neg (by omega)]
    rw [e]
    have a := pCh h hc
    have b := zcnt_le (fun a => !(List.range (pB P (c + 1)).2.1).any (fun q => (pB P (c + 1)).2.2.1 q == (pB P c).2.2.1 a)) (pB P c).2.1
    exact ⟨by omega, by omega⟩
theorem pCont {P : pT} (h : pwf P) {u v : Int} (hw : sWt u v) : zfiw P u v < pN P ∧ ((∃ q, q + 1 < pN P ∧ zonw P u v q) → s_mn P u v = 2 ∧ zfiw P u v + 2 ≤ pN P) ∧ (u = 0 → zfiw P u v + 1 = pN P) ∧
    ((∀ q, q + 1 < pN P → ¬ zonw P u v q) → s_mn P u v = 1 ∧ ∀ i, i < 9 → (pZ P u v 1).1 i = (pB P (zfiw P u v)).1 i) := by
  obtain ⟨z1, z2, z3⟩ := zfiw_is h u v
  obtain ⟨⟨u0, u1, v0, v1⟩, une⟩ := id hw
  refine ⟨z1, fun ⟨q, hq, ho⟩ => ?_, fun hu => ?_, fun hoff => ⟨?_, ?_⟩⟩
  · have hf := zfiw_on h hw hq ho
    rw [s_mn_eq h hw, hf]
    exact ⟨if_pos ⟨hq, ho⟩, by omega⟩
  · refine Classical.byContradiction fun q => z2 ⟨by have := (pW_pos h (show zfiw P u v + 1 < pN P by omega)).1; omega, ?_⟩
    have b0 := (pW_pos h (show zfiw P u v + 1 < pN P by omega)).1
    rw [hu, Int.mul_zero]
    exact Int.mul_pos (by omega) (by rw [← hu]; omega)
  · rw [s_mn_eq h hw]
    exact if_neg (fun q => hoff _ q.1 q.2)
  · refine (pZ_same h u0 v0 ?_ ?_).1
    · by_cases c : zfiw P u v = 0
      · by_cases c2 : v = 0
        · exact Or.inr ⟨c2, c, by omega, rfl⟩
        · left
          rw [c]
          show (0 : Int) * u < 1 * v
          omega
      · left
        obtain ⟨z, ez⟩ : ∃ z, zfiw P u v = z + 1 := ⟨zfiw P u v - 1, by omega⟩
        have hz := (z3 z (by omega)).2
        rw [ez, zfw_succ]
        show ((pW P z).1 : Int) * u < ((pW P z).2 : Int) * v
        rw [Int.mul_comm ((pW P z).2 : Int) v]
        exact hz
    · by_cases c : (pW P (zfiw P u v)).2 = 0
      · exact Or.inl c
      · refine Or.inr (Or.inl ?_)
        have hN := (pW_last h z1)
        have hq : zfiw P u v + 1 < pN P := Nat.lt_of_le_of_ne (by omega) fun e => c (hN.mpr e)
        have h1 : ¬ v * ((pW P (zfiw P u v)).2 : Int) > ((pW P (zfiw P u v)).1 : Int) * u := fun q => z2 ⟨c, q⟩
        have h2 := hoff _ hq
        unfold zonw at h2
        rw [Int.mul_comm u] at h2
        omega
/-- the greatest degree of the polynomials that were seen: of the cones before i, of cone i those before j and of the j-th the monomials below m -/
def zdg (P : pT) (i j m : Nat) (d : Int) : Prop := (0 ≤ d ∧ d ≤ 16) ∧ (∀ q a x : Nat, q < pN P → a < (pB P q).2.1 → (pB P q).2.2.2 a x ≠ 0 → (q < i ∨ (q = i ∧ (a < j ∨ (a = j ∧ x < m)))) → (x : Int) / 9 + (x : Int) % 9 ≤ d) ∧ (d = 0 ∨ ∃ q a x : Nat, q < pN P ∧ a < (pB P q).2.1 ∧ (pB P q).2.2.2 a x ≠ 0 ∧ d = (x : Int) / 9 + (x : Int) % 9)
theorem zdg.zero {P : pT} : zdg P 0 0 0 0 := ⟨⟨by decide, by decide⟩, fun q a x _ _ _ h => by omega, Or.inl rfl⟩
theorem zdg.skip {P : pT} {i j m : Nat} {d : Int} (h : zdg P i j m d) (h0 : (pB P i).2.2.2 j m = 0) : zdg P i j (m + 1) d := ⟨h.1, fun q a x hq ha hx hc => by
  by_cases c : q = i ∧ a = j ∧ x = m
  · obtain ⟨rfl, rfl, rfl⟩ := c
    exact absurd h0 hx
  · exact h.2.1 q a x hq ha hx (by omega), h.2.2⟩
theorem zdg.take {P : pT} {i j m : Nat} {d : Int} (h : zdg P i j m d) (hi : i < pN P) (hj : j < (pB P i).2.1) (hm : m < 81) (h0 : (pB P i).2.2.2 j m ≠ 0) : zdg P i j (m + 1) (max d ((m : Int) / 9 + (m : Int) % 9)) := by
  obtain ⟨⟨h1, h2⟩, h3, h4⟩ := h
  refine ⟨⟨by omega, by omega⟩, fun q a x hq ha hx hc => ?_, ?_⟩
  · by_cases c : q = i ∧ a = j ∧ x = m
    · obtain ⟨rfl, rfl, rfl⟩ := c
      omega
    · have := h3 q a x hq ha hx (by omega)
      omega
  · by_cases c : d ≤ (m : Int) / 9 + (m : Int) % 9
    · exact Or.inr ⟨i, j, m, hi, hj, h0, by omega⟩
    · rw [show max d ((m : Int) / 9 + (m : Int) % 9) = d by omega]; exact h4
theorem zdg.poly {P : pT} (hP : pwf P) {i j : Nat} {d : Int} (h : zdg P i j 81 d) : zdg P i (j + 1) 0 d := ⟨h.1, fun q a x hq ha hx hc => by
  refine h.2.1 q a x hq ha hx ?_
  have h81 : x < 81 := by
    rcases (((pB_all hP q).2 a ha).2.2.2 x).2.2 hx with e | e
    · rw [e]; exact ((pB_all hP q).2 a ha).1
    · exact e.1
  omega, h.2.2⟩
theorem zdg.cone {P : pT} {i j : Nat} {d : Int} (h : zdg P i j 0 d) (hj : (pB P i).2.1 ≤ j) : zdg P (i + 1) 0 0 d := ⟨h.1, fun q a x hq ha hx hc => by
  refine h.2.1 q a x hq ha hx ?_
  by_cases c : q = i
  · subst c; omega
  · omega, h.2.2⟩
theorem zdg.ud {P : pT} {i : Nat} {d : Int} (h : zdg P i 0 0 d) (hi : pN P ≤ i) : s_ud P = d := by
  refine (s_ud_eq ⟨h.1.1, h.1.2, fun q hq a ha x hx => h.2.1 q a x hq ha hx (Or.inl (by omega)), ?_⟩).symm
  rcases h.2.2 with e | ⟨q, a, x, hq, ha, hx, e⟩
  · exact Or.inl e
  · exact Or.inr ⟨q, hq, a, ha, x, hx, e⟩
