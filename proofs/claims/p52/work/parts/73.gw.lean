/-! ===== p52, pure: walls, weights, what cones and orders have in common ===== -/
theorem ptOK.of {P : pT} (h : pwf P) : ptOK P.1 P.2.1 P.2.2.1 P.2.2.2.1 := ⟨h.1, h.2.1, h.2.2.1, fun i j hi hj hne => by
  by_cases c : i < j
  · exact h.2.2.2.1 i j c hj
  · exact fun q => h.2.2.2.1 j i (by omega) hi ⟨q.1.symm, q.2.symm⟩⟩
section GW
variable {p : Int} {s : Nat} {xs ys : Nat → Int}
/-- each pair of a cone lies over its wall -/
theorem zfl_min (hp : zprime p) (hs : s ≤ 8) (k : Nat) {a x : Nat} (ha : a < (zfb p s xs ys k).2.1) (hx : (zfb p s xs ys k).2.2.2 a x ≠ 0) (hy : (zfb p s xs ys k).2.2.1 a % 9 < x % 9) :
    0 < (zfl p s xs ys k).2 ∧ ((zfl p s xs ys k).1 : Int) * ((x : Int) % 9 - ((zfb p s xs ys k).2.2.1 a : Int) % 9) ≤ (((zfb p s xs ys k).2.2.1 a : Int) / 9 - (x : Int) / 9) * (zfl p s xs ys k).2 := by
  obtain ⟨h1, -, h3, -⟩ := zfw_bd (xs := xs) (ys := ys) hp hs k
  obtain ⟨t, b, ht, hb, -, hm, e⟩ := zwl_is (xs := xs) (ys := ys) (tie := 1) hp hs h1 h3
  have ew : zfl p s xs ys k = zrdc t b := e
  rw [ew]
  obtain ⟨r1, r2, r3, r4, r5⟩ := zrdc_bd t ht b hb
  have hP : zPair (zfb p s xs ys k).2.1 (zfb p s xs ys k).2.2.1 (zfb p s xs ys k).2.2.2 (((zfb p s xs ys k).2.2.1 a : Int) / 9 - (x : Int) / 9) ((x : Int) % 9 - ((zfb p s xs ys k).2.2.1 a : Int) % 9) := ⟨a, ha, x, hx, by omega, rfl, rfl⟩
  rcases hm with ⟨-, -, h⟩ | ⟨m1, m2, m3⟩
  · exact absurd hP (h _ _)
  · have h9 := m3 _ _ hP
    have hb0 : 0 < b := by omega
    refine ⟨r1 hb0, ?_⟩
    generalize ((x : Int) % 9 - ((zfb p s xs ys k).2.2.1 a : Int) % 9) = Y at h9 ⊢
    generalize (((zfb p s xs ys k).2.2.1 a : Int) / 9 - (x : Int) / 9) = X at h9 ⊢
    have r6 : ((zrdc t b).1 : Int) * b = t * (zrdc t b).2 := by exact_mod_cast r5
    have hz : (0 : Int) ≤ ((zrdc t b).2 : Int) := by omega
    have a1 : ((zrdc t b).2 : Int) * (t * Y) ≤ (zrdc t b).2 * (X * b) := Int.mul_le_mul_of_nonneg_left h9 hz
    have a2 : ((zrdc t b).2 : Int) * (t * Y) = (zrdc t b).1 * Y * b := by grind
    have a3 : ((zrdc t b).2 : Int) * (X * b) = X * (zrdc t b).2 * b := by grind
    rw [a2, a3] at a1
    exact Int.le_of_mul_le_mul_right a1 (by omega)
/-- a wall is that of a pair -/
theorem zfl_pair (hp : zprime p) (hs : s ≤ 8) (k : Nat) (h : 0 < (zfl p s xs ys k).2) :
    ∃ a x : Nat, a < (zfb p s xs ys k).2.1 ∧ (zfb p s xs ys k).2.2.2 a x ≠ 0 ∧ (zfb p s xs ys k).2.2.1 a % 9 < x % 9 ∧ ((zfl p s xs ys k).1 : Int) * ((x : Int) % 9 - ((zfb p s xs ys k).2.2.1 a : Int) % 9) = (((zfb p s xs ys k).2.2.1 a : Int) / 9 - (x : Int) / 9) * (zfl p s xs ys k).2 := by
  obtain ⟨h1, -, h3, -⟩ := zfw_bd (xs := xs) (ys := ys) hp hs k
  obtain ⟨t, b, ht, hb, -, hm, e⟩ := zwl_is (xs := xs) (ys := ys) (tie := 1) hp hs h1 h3
  have ew : zfl p s xs ys k = zrdc t b := e
  rw [ew] at h ⊢
  obtain ⟨r1, r2, r3, r4, r5⟩ := zrdc_bd t ht b hb
  rcases hm with ⟨m1, m2, -⟩ | ⟨m1, m2, -⟩
  · omega
  · obtain ⟨a, ha, q, g1, g2, g3, g4⟩ := m2
    refine ⟨a, q, ha, g1, ?_, ?_⟩
    · have g5 : (b : Int) = (q : Int) % 9 - ((zfb p s xs ys k).2.2.1 a : Int) % 9 := g3
      omega
    · have r6 : ((zrdc t b).1 : Int) * b = t * (zrdc t b).2 := by exact_mod_cast r5
      have g5 : (b : Int) = (q : Int) % 9 - ((zfb p s xs ys k).2.2.1 a : Int) % 9 := g3
      have g6 : (t : Int) = ((zfb p s xs ys k).2.2.1 a : Int) / 9 - (q : Int) / 9 := g4
      rw [← g5, ← g6]; exact r6
/-- walls rise -/
theorem zfl_lt (hp : zprime p) (hs : s ≤ 8) (i : Nat) : ∀ d, (∀ j, j ≤ i + 1 + d → 0 < (zfl p s xs ys j).2) → (zfl p s xs ys i).1 * (zfl p s xs ys (i + 1 + d)).2 < (zfl p s xs ys (i + 1 + d)).1 * (zfl p s xs ys i).2
  | 0, h => zfl_inc hp hs i (h (i + 1) (Nat.le_refl _))
  | d + 1, h => by
    have h1 := zfl_lt hp hs i d (fun j hj => h j (by omega))
    have h2 := zfl_inc (xs := xs) (ys := ys) hp hs (i + 1 + d) (h (i + 1 + d + 1) (Nat.le_refl _))
    have p1 := h i (by omega)
    have p2 := h (i + 1 + d) (by omega)
    have p3 := h (i + 1 + d + 1) (by omega)
    rw [show i + 1 + (d + 1) = i + 1 + d + 1 by omega]
    generalize zfl p s xs ys i = A at *
    generalize zfl p s xs ys (i + 1 + d) = B at *
    generalize zfl p s xs ys (i + 1 + d + 1) = C at *
    have a1 : A.1 * B.2 * C.2 < B.1 * A.2 * C.2 := Nat.mul_lt_mul_of_pos_right h1 p3
    have a2 : B.1 * C.2 * A.2 < C.1 * B.2 * A.2 := Nat.mul_lt_mul_of_pos_right h2 p1
    have e1 : A.1 * B.2 * C.2 = A.1 * C.2 * B.2 := by grind
    have e2 : B.1 * A.2 * C.2 = B.1 * C.2 * A.2 := by grind
    have e3 : C.1 * B.2 * A.2 = C.1 * A.2 * B.2 := by grind
    exact Nat.lt_of_mul_lt_mul_right (a := B.2) (by omega)
end GW
theorem zleast {p : Nat → Prop} : ∀ n, p n → ∃ q, q ≤ n ∧ p q ∧ ∀ i, i < q → ¬ p i := by
  intro n
  induction n using Nat.strongRecOn with | _ n ih => ?_
  intro h
  by_cases c : ∃ i, i < n ∧ p i
  · obtain ⟨i, hi, hpi⟩ := c
    obtain ⟨q, q1, q2, q3⟩ := ih i hi hpi
    exact ⟨q, by omega, q2, q3⟩
  · exact ⟨n, Nat.le_refl n, h, fun i hi hpi => c ⟨i, hi, hpi⟩⟩
theorem pW_pos {P : pT} (h : pwf P) {i : Nat} (hi : i + 1 < pN P) : 0 < (pW P i).2 ∧ 0 < (pW P i).1 ∧ (pW P i).1 + (pW P i).2 ≤ 8 := by
  have a : 0 < (pW P i).2 := (pN_is h).2.2.1 i hi
  obtain ⟨b1, b2, -⟩ := (zfl_facts (xs := P.2.2.1) (ys := P.2.2.2.1) h.1 h.2.1 i).2.2.1 a
  exact ⟨a, b1, b2⟩
theorem pW_lt {P : pT} (h : pwf P) {i j : Nat} (hij : i < j) (hj : j + 1 < pN P) : (pW P i).1 * (pW P j).2 < (pW P j).1 * (pW P i).2 := by
  obtain ⟨d, rfl⟩ : ∃ d, j = i + 1 + d := ⟨j - i - 1, by omega⟩
  exact zfl_lt h.1 h.2.1 i d (fun q hq => (pN_is h).2.2.1 q (by omega))
/-- the first cone that isn't left over its wall -/
theorem zfiw_eq {P : pT} {u v : Int} {q : Nat} (hq : q < pN P) (h1 : ¬ zabv (pW P) u v q) (h2 : ∀ i, i < q → zabv (pW P) u v i) : zfiw P u v = q := zfst_eq hq (by rw [if_neg h1]; decide) (fun i hi => if_pos (h2 i hi))
theorem zfiw_is {P : pT} (h : pwf P) (u v : Int) : zfiw P u v < pN P ∧ ¬ zabv (pW P) u v (zfiw P u v) ∧ ∀ i, i < zfiw P u v → zabv (pW P) u v i := by
  have hN := pN_is h
  have hl : ¬ zabv (pW P) u v (pN P - 1) := fun q => q.1 ((pW_last h (by have := hN.1; omega)).mpr (by have := hN.1; omega))
  obtain ⟨q, q1, q2, q3⟩ := zleast (p := fun i => ¬ zabv (pW P) u v i) (pN P - 1) hl
  have hq : q < pN P := by have := hN.1; omega
  have q3' : ∀ i, i < q → zabv (pW P) u v i := fun i hi => Classical.byContradiction (q3 i hi)
  rw [zfiw_eq hq q2 q3']
  exact ⟨hq, q2, q3'⟩
abbrev zonw (P : pT) (u v : Int) (q : Nat) : Prop := u * ((pW P q).1 : Int) = v * ((pW P q).2 : Int)
/-- a weight on a wall lies in the cone of that wall first -/
theorem zfiw_on {P : pT} (h : pwf P) {u v : Int} (hw : sWt u v) {q : Nat} (hq : q + 1 < pN P) (ho : zonw P u v q) : zfiw P u v = q := by
  obtain ⟨⟨u0, -, v0, -⟩, hne⟩ := hw
  obtain ⟨p1, p2, -⟩ := pW_pos h hq
  have hu : 0 < u := by
    by_cases e : u = 0
    · have e2 : v * ((pW P q).2 : Int) = 0 := by rw [← ho, e, Int.zero_mul]
      rcases Int.mul_eq_zero.mp e2 with e3 | e3
      · omega
      · omega
    · omega
  refine zfiw_eq (by omega) (fun z => ?_) (fun i hi => ⟨by have := (pW_pos h (show i + 1 < pN P by omega)).1; omega, ?_⟩)
  · have z2 := z.2
    have e : u * ((pW P q).1 : Int) = ((pW P q).1 : Int) * u := Int.mul_comm _ _
    unfold zonw at ho
    omega
  · obtain ⟨i1, i2, -⟩ := pW_pos h (show i + 1 < pN P by omega)
    have hl := pW_lt h hi hq
    unfold zonw at ho
    generalize pW P i = A at *
    generalize pW P q = C at *
    have hl2 : (A.1 : Int) * C.2 < C.1 * A.2 := by exact_mod_cast hl
    have a1 : u * ((A.1 : Int) * C.2) < u * (C.1 * A.2) := Int.mul_lt_mul_of_pos_left hl2 hu
    have e1 : u * ((C.1 : Int) * A.2) = v * A.2 * C.2 := by grind
    have e2 : u * ((A.1 : Int) * C.2) = A.1 * u * C.2 := by grind
    rw [e1, e2] at a1
    exact Int.lt_of_mul_lt_mul_right a1 (by omega)
/-- one basis: that of a cone, and that of an order whose weight lies within it -/
theorem pZ_same {P : pT} (h : pwf P) {k : Nat} {u v t : Int} (hu : 0 ≤ u) (hv : 0 ≤ v)
    (hlow : (zfw P.1 P.2.1 P.2.2.1 P.2.2.2.1 k).2 * u < (zfw P.1 P.2.1 P.2.2.1 P.2.2.2.1 k).1 * v ∨ (v = 0 ∧ k = 0 ∧ 0 < u ∧ t = 1))
    (hhigh : (pW P k).2 = 0 ∨ v * ((pW P k).2 : Int) < ((pW P k).1 : Int) * u ∨ (v * ((pW P k).2 : Int) = ((pW P k).1 : Int) * u ∧ t ≠ 1)) :
    (∀ i, i < 9 → (pZ P u v t).1 i = (pB P k).1 i) ∧ (pZ P u v t).2.1 = (pB P k).2.1 ∧ ∀ a, a < (pB P k).2.1 → (pZ P u v t).2.2.1 a = (pB P k).2.2.1 a := by
  obtain ⟨w1, -, w3, -⟩ := zfw_bd (xs := P.2.2.1) (ys := P.2.2.2.1) h.1 h.2.1 k
  refine zbas_same (ptOK.of h) w1 w3 hu hv fun a ha x hx hne => ?_
  have hf := (zbas_facts (xs := P.2.2.1) (ys := P.2.2.2.1) (tie := 1) h.1 h.2.1 w1 w3).2.2.2 a ha
  obtain ⟨-, -, -, -, hc⟩ := hf
  obtain ⟨-, -, hl⟩ := ((hc x).2.2 hx).resolve_left hne
  by_cases hj : x % 9 ≤ (pB P k).2.2.1 a % 9
  · rcases hlow with hst | ⟨rfl, rfl, hu0, rfl⟩
    · exact zkeep_low ⟨w1, w3⟩ hu hv hl hst hj
    · have hl2 : zlt 1 0 1 x ((pB P 0).2.2.1 a) := hl
      show zlt u 0 1 x ((pB P 0).2.2.1 a)
      unfold zlt zwt at hl2 ⊢
      generalize ((x / 9 : Nat) : Int) = X at *
      generalize (((pB P 0).2.2.1 a / 9 : Nat) : Int) = Y at *
      rw [Int.zero_mul, Int.zero_mul, Int.one_mul, Int.one_mul] at hl2
      rw [Int.zero_mul, Int.zero_mul]
      rcases hl2 with q | ⟨q, r⟩
      · have := Int.mul_lt_mul_of_pos_left (show X < Y by omega) hu0
        exact Or.inl (by omega)
      · refine Or.inr ⟨?_, r⟩
        rw [show X = Y by omega]
  · have hy : (pB P k).2.2.1 a % 9 < x % 9 := by omega
    obtain ⟨b0, hm⟩ := zfl_min (xs := P.2.2.1) (ys := P.2.2.2.1) h.1 h.2.1 k ha hx hy
    have t0 := ((zfl_facts (xs := P.2.2.1) (ys := P.2.2.2.1) h.1 h.2.1 k).2.2.1 b0).1
    refine zkeep_high ?_
    show v * ((x : Int) % 9 - ((pB P k).2.2.1 a : Int) % 9) < u * (((pB P k).2.2.1 a : Int) / 9 - (x : Int) / 9) ∨ (v * ((x : Int) % 9 - ((pB P k).2.2.1 a : Int) % 9) = u * (((pB P k).2.2.1 a : Int) / 9 - (x : Int) / 9) ∧ t ≠ 1 ∧ x / 9 < (pB P k).2.2.1 a / 9)
    have hm' : ((pW P k).1 : Int) * ((x : Int) % 9 - ((pB P k).2.2.1 a : Int) % 9) ≤ (((pB P k).2.2.1 a : Int) / 9 - (x : Int) / 9) * ((pW P k).2 : Int) := hm
    have hY : 0 < (x : Int) % 9 - ((pB P k).2.2.1 a : Int) % 9 := by omega
    have hX9 : ((pB P k).2.2.1 a : Int) / 9 - (x : Int) / 9 ≤ 0 → ¬ x / 9 < (pB P k).2.2.1 a / 9 := fun q => by omega
    have hXp : 0 < ((pB P k).2.2.1 a : Int) / 9 - (x : Int) / 9 → x / 9 < (pB P k).2.2.1 a / 9 := fun q => by omega
    have b0' : 0 < ((pW P k).2 : Int) := by have : 0 < (pW P k).2 := b0; omega
    have t0' : 0 < ((pW P k).1 : Int) := by have : 0 < (pW P k).1 := t0; omega
    generalize (x : Int) % 9 - ((pB P k).2.2.1 a : Int) % 9 = Y at *
    generalize ((pB P k).2.2.1 a : Int) / 9 - (x : Int) / 9 = X at *
    generalize ((pW P k).1 : Int) = A at *
    generalize ((pW P k).2 : Int) = C at *
    have hX : 0 < X := by
      have a1 : 0 < A * Y := Int.mul_pos t0' hY
      have a2 : 0 < X * C := by omega
      exact Int.pos_of_mul_pos_left a2 b0'
    have m1 : u * (A * Y) ≤ u * (X * C) := Int.mul_le_mul_of_nonneg_left hm' hu
    rcases hhigh with q | q | ⟨q, ht⟩
    · exact absurd q (by have : 0 < (pW P k).2 := b0; omega)
    · left
      have m2 : v * C * Y < A * u * Y := Int.mul_lt_mul_of_pos_right q hY
      have e1 : v * C * Y = v * Y * C := by grind
      have e2 : A * u * Y = u * (A * Y) := by grind
      have e3 : u * (X * C) = u * X * C := by grind
      exact Int.lt_of_mul_lt_mul_right (a := C) (by omega) (by omega)
    · have e1 : v * C * Y = v * Y * C := by grind
      have e2 : A * u * Y = u * (A * Y) := by grind
      have e3 : u * (X * C) = u * X * C := by grind
      have m2 : v * C * Y = A * u * Y := by rw [q]
      have m3 : v * Y ≤ u * X := Int.le_of_mul_le_mul_right (a := C) (by omega) b0'
      by_cases e : v * Y = u * X
      · exact Or.inr ⟨e, ht, hXp hX⟩
      · exact Or.inl (by omega)
