/-! ===== the fan: from wall to wall; at most 22 cones ===== -/
theorem RI.eight {p : Int} {s : Nat} {xs ys : Nat → Int} {u v tie : Int} {o : Nat → Nat} {k : Nat} {S : gS} (h : RI p s xs ys u v tie o k S) (hs : s ≤ 8) {b q : Nat} (hb : b < S.2.1) (hq : stdB S.1 q = true) (h1 : q / 9 < S.2.2.1 b / 9) (h2 : S.2.2.1 b % 9 < q % 9) :
    (S.2.2.1 b / 9 - q / 9) + (q % 9 - S.2.2.1 b % 9) ≤ 8 := by
  obtain ⟨-, -, b3, -⟩ := h.2.2.2.1 b hb
  rw [corB_iff] at b3
  have hx := b3.1.resolve_left (by omega)
  have hle := h.1.le
  have hn := h.count (n := q % 9 + 1 + (S.2.2.1 b / 9 - 1 - q / 9)) (fun r => if r < q % 9 + 1 then 9 * (q / 9) + r else 9 * (q / 9 + 1 + (r - (q % 9 + 1))) + S.2.2.1 b % 9) (fun r hr => by
    try dsimp only
    split
    · exact h.dv hq ⟨by omega, by omega⟩
    · exact h.dv hx ⟨by omega, by omega⟩) (fun a d had hd => by
    try dsimp only
    split
    · split <;> omega
    · rw [if_neg (by omega)]; omega)
  omega
theorem zMin.ex {X Y : Nat → Int} {good : Nat → Prop} (hY : ∀ i, good i → 0 < Y i) : ∀ n, ∃ t b, zMin (fun x y => ∃ i, i < n ∧ good i ∧ x = X i ∧ y = Y i) t b
  | 0 => ⟨0, 0, Or.inl ⟨rfl, rfl, fun x y q => by obtain ⟨i, hi, -⟩ := q; omega⟩⟩
  | n + 1 => by
    obtain ⟨t, b, hm⟩ := zMin.ex (X := X) (Y := Y) (good := good) hY n
    have hP : ∀ x y, (∃ i, i < n ∧ good i ∧ x = X i ∧ y = Y i) → 0 < y := fun x y ⟨i, _, g, _, e⟩ => by rw [e]; exact hY i g
    by_cases hg : good n
    · have e : ∀ x y, ((∃ i, i < n ∧ good i ∧ x = X i ∧ y = Y i) ∨ (x = X n ∧ y = Y n)) ↔ ∃ i, i < n + 1 ∧ good i ∧ x = X i ∧ y = Y i := fun x y => by
        constructor
        · rintro (⟨i, hi, q⟩ | ⟨q1, q2⟩)
          · exact ⟨i, by omega, q⟩
          · exact ⟨n, by omega, hg, q1, q2⟩
        · rintro ⟨i, hi, q1, q2, q3⟩
          by_cases c : i = n
          · subst c; exact Or.inr ⟨q2, q3⟩
          · exact Or.inl ⟨i, by omega, q1, q2, q3⟩
      by_cases hb : b = 0 ∨ X n * b < t * Y n
      · exact ⟨X n, Y n, (hm.better hP (hY n hg) hb).ext e⟩
      · exact ⟨t, b, (hm.keep (by omega) (by omega)).ext e⟩
    · refine ⟨t, b, hm.ext fun x y => ?_⟩
      constructor
      · rintro ⟨i, hi, q⟩; exact ⟨i, by omega, q⟩
      · rintro ⟨i, hi, q1, q2⟩
        by_cases c : i = n
        · subst c; exact absurd q1 hg
        · exact ⟨i, by omega, q1, q2⟩
noncomputable def zwl (D : bT) : Nat × Nat := Classical.epsilon (IsW (zPair D.2.1 D.2.2.1 D.2.2.2))
theorem zwl_eq {D : bT} {w : Nat × Nat} (h : IsW (zPair D.2.1 D.2.2.1 D.2.2.2) w) : w = zwl D := h.uniq (Classical.epsilon_spec ⟨w, h⟩)
section ZW
variable {p : Int} {s : Nat} {xs ys : Nat → Int} {u v tie : Int}
/-- a pair of a basis: both parts positive, their sum at most 8, above the weight -/
theorem zpair_facts (hp : zprime p) (hs : s ≤ 8) (hu : 0 ≤ u) (hv : 0 ≤ v) {x y : Int} (h : zPair (zbas p s xs ys u v tie).2.1 (zbas p s xs ys u v tie).2.2.1 (zbas p s xs ys u v tie).2.2.2 x y) :
    0 < x ∧ 0 < y ∧ x + y ≤ 8 ∧ (tie = 1 → v * y < u * x) := by
  have h0 := zbas_is (xs := xs) (ys := ys) (tie := tie) hp hs hu hv
  have hR := gfin_RI (xs := xs) (ys := ys) (tie := tie) hp hs hu hv
  generalize zbas p s xs ys u v tie = D at *
  generalize gfin p s xs ys u v tie = S at *
  obtain ⟨hc, he, hso⟩ := h0
  obtain ⟨a, ha, q, q1, q2, q3, q4⟩ := h
  rw [he] at ha
  obtain ⟨b, hb, e1, e2⟩ := hso.1 a ha
  rw [e1] at q3 q4
  rw [e2] at q1
  rcases ((hR.2.2.2.2.2.2 b hb).2 q).2.2 q1 with e | ⟨e, hl⟩
  · rw [e] at q3; omega
  · have hx : q / 9 < S.2.2.1 b / 9 := by
      refine Nat.lt_of_not_le fun hc => ?_
      exact zlt_as hl (zlt_dv hu hv ⟨hc, by omega⟩ (fun e => by rw [e] at q3; omega))
    have h8 := hR.eight hs hb e hx (by omega)
    refine ⟨by omega, q2, by omega, fun ht => ?_⟩
    unfold zlt at hl
    rcases hl with hl | ⟨-, hl⟩
    · have := zwt_diff (u := u) (v := v) (m := S.2.2.1 b) (n := q)
      have e3 : u * x = u * ((S.2.2.1 b : Int) / 9 - (q : Int) / 9) := by rw [q4]
      have e4 : v * y = -(v * ((S.2.2.1 b : Int) % 9 - (q : Int) % 9)) := by rw [q3, ← Int.mul_neg]; congr 1; omega
      omega
    · omega
theorem zwl_is (hp : zprime p) (hs : s ≤ 8) (hu : 0 ≤ u) (hv : 0 ≤ v) : IsW (zPair (zbas p s xs ys u v tie).2.1 (zbas p s xs ys u v tie).2.2.1 (zbas p s xs ys u v tie).2.2.2) (zwl (zbas p s xs ys u v tie)) := by
  apply Classical.epsilon_spec
  have hf := zbas_facts (xs := xs) (ys := ys) (tie := tie) hp hs hu hv
  have hz := fun x y => zpair_facts (xs := xs) (ys := ys) (tie := tie) hp hs hu hv (x := x) (y := y)
  generalize zbas p s xs ys u v tie = D at *
  obtain ⟨t, b, hm⟩ := zMin.ex (X := fun i => (D.2.2.1 (i / 81) : Int) / 9 - ((i % 81 : Nat) : Int) / 9) (Y := fun i => ((i % 81 : Nat) : Int) % 9 - (D.2.2.1 (i / 81) : Int) % 9)
    (good := fun i => D.2.2.2 (i / 81) (i % 81) ≠ 0 ∧ 0 < ((i % 81 : Nat) : Int) % 9 - (D.2.2.1 (i / 81) : Int) % 9) (fun i g => g.2) (81 * D.2.1)
  have e : ∀ x y, (∃ i, i < 81 * D.2.1 ∧ (D.2.2.2 (i / 81) (i % 81) ≠ 0 ∧ 0 < ((i % 81 : Nat) : Int) % 9 - (D.2.2.1 (i / 81) : Int) % 9) ∧ x = (D.2.2.1 (i / 81) : Int) / 9 - ((i % 81 : Nat) : Int) / 9 ∧ y = ((i % 81 : Nat) : Int) % 9 - (D.2.2.1 (i / 81) : Int) % 9) ↔ zPair D.2.1 D.2.2.1 D.2.2.2 x y := by
    intro x y
    constructor
    · rintro ⟨i, hi, ⟨g1, g2⟩, g3, g4⟩
      exact ⟨i / 81, by omega, i % 81, g1, by rw [g4]; exact g2, g4, g3⟩
    · rintro ⟨a, ha, q, g1, g2, g3, g4⟩
      have hq : q < 81 := by
        rcases ((hf.2.2.2 a ha).2.2.2.2 q).2.2 g1 with e | e
        · rw [e]; exact (hf.2.2.2 a ha).1
        · exact e.1
      refine ⟨81 * a + q, by omega, ?_⟩
      rw [show (81 * a + q) / 81 = a by omega, show (81 * a + q) % 81 = q by omega]
      exact ⟨⟨g1, by rw [← g3]; exact g2⟩, g4, g3⟩
  have hm := hm.ext e
  rcases hm with ⟨h1, h2, h3⟩ | ⟨h1, h2, h3⟩
  · exact ⟨zrdc 0 0, 0, 0, by omega, by omega, by omega, Or.inl ⟨rfl, rfl, h3⟩, rfl⟩
  · obtain ⟨z1, z2, z3, -⟩ := hz _ _ h2
    obtain ⟨t, rfl⟩ := Int.eq_ofNat_of_zero_le (show 0 ≤ t by omega)
    obtain ⟨b, rfl⟩ := Int.eq_ofNat_of_zero_le (show 0 ≤ b by omega)
    exact ⟨zrdc t b, t, b, by omega, by omega, by omega, Or.inr ⟨h1, h2, h3⟩, rfl⟩
/-- a wall: parts up to 8 that sum to at most 8, above the weight -/
theorem zwl_facts (hp : zprime p) (hs : s ≤ 8) (hu : 0 ≤ u) (hv : 0 ≤ v) : (zwl (zbas p s xs ys u v tie)).1 ≤ 8 ∧ (zwl (zbas p s xs ys u v tie)).2 ≤ 8 ∧
    (0 < (zwl (zbas p s xs ys u v tie)).2 → 0 < (zwl (zbas p s xs ys u v tie)).1 ∧ (zwl (zbas p s xs ys u v tie)).1 + (zwl (zbas p s xs ys u v tie)).2 ≤ 8 ∧ (tie = 1 → v * (zwl (zbas p s xs ys u v tie)).2 < u * (zwl (zbas p s xs ys u v tie)).1)) ∧
    ((zwl (zbas p s xs ys u v tie)).2 = 0 → (zwl (zbas p s xs ys u v tie)).1 = 0) := by
  obtain ⟨t, b, ht, hb, hpos, hm, e⟩ := zwl_is (xs := xs) (ys := ys) (tie := tie) hp hs hu hv
  have hz := fun x y => zpair_facts (xs := xs) (ys := ys) (tie := tie) hp hs hu hv (x := x) (y := y)
  generalize zwl (zbas p s xs ys u v tie) = w at *
  obtain ⟨r1, r2, r3, r4, r5⟩ := zrdc_bd t ht b hb
  rw [e]
  rcases hm with ⟨h1, h2, h3⟩ | ⟨h1, h2, h3⟩
  · have : t = 0 := by omega
    have : b = 0 := by omega
    subst_vars
    exact ⟨by decide, by decide, fun q => absurd q (by decide), fun _ => by decide⟩
  · obtain ⟨z1, z2, z3, z4⟩ := hz _ _ h2
    have hb0 : 0 < b := by omega
    refine ⟨by omega, by omega, fun _ => ⟨r2 (by omega), by omega, fun htie => ?_⟩, fun q => by have := r1 hb0; omega⟩
    have z5 := z4 htie
    have a1 : v * b * (zrdc t b).2 < u * t * (zrdc t b).2 := Int.mul_lt_mul_of_pos_right z5 (by have := r1 hb0; omega)
    have r6 : ((zrdc t b).1 : Int) * b = t * (zrdc t b).2 := by exact_mod_cast r5
    have a2 : v * b * (zrdc t b).2 = v * (zrdc t b).2 * b := by grind
    have a3 : u * t * (zrdc t b).2 = u * (zrdc t b).1 * b := by grind
    rw [a2, a3] at a1
    exact Int.lt_of_mul_lt_mul_right a1 (by omega)
end ZW
/-- the weights of the cones -/
noncomputable def zfw (p : Int) (s : Nat) (xs ys : Nat → Int) : Nat → Int × Int
  | 0 => (1, 0)
  | k + 1 => (((zwl (zbas p s xs ys (zfw p s xs ys k).1 (zfw p s xs ys k).2 1)).2 : Int), ((zwl (zbas p s xs ys (zfw p s xs ys k).1 (zfw p s xs ys k).2 1)).1 : Int))
noncomputable def zfb (p : Int) (s : Nat) (xs ys : Nat → Int) (k : Nat) : bT := zbas p s xs ys (zfw p s xs ys k).1 (zfw p s xs ys k).2 1
noncomputable def zfl (p : Int) (s : Nat) (xs ys : Nat → Int) (k : Nat) : Nat × Nat := zwl (zfb p s xs ys k)
def zfvals : List Nat := [60, 70, 84, 105, 140, 168, 210, 252, 280, 315, 420, 560, 630, 700, 840, 1050, 1260, 1680, 2100, 2520, 2940]
theorem zfval_mem : ((List.range 8).all fun t => (List.range 8).all fun b => !(decide (0 < t ∧ 0 < b ∧ t + b ≤ 8)) || zfvals.contains (420 * t / b)) = true := by decide +kernel
theorem zfval_lt : ((List.range 8).all fun t => (List.range 8).all fun b => (List.range 8).all fun x => (List.range 8).all fun y => !(decide (0 < t ∧ 0 < b ∧ 0 < x ∧ 0 < y ∧ t * y < x * b)) || decide (420 * t / b < 420 * x / y)) = true := by decide +kernel
def zfrk (v : Nat) : Nat := (zfvals.filter (fun x => decide (x < v))).length
theorem zfrk_lt : ∀ v ∈ zfvals, ∀ w ∈ zfvals, v < w → zfrk v < zfrk w := by decide +kernel
theorem zfrk_le : ∀ v ∈ zfvals, zfrk v ≤ 20 := by decide +kernel
section ZF
variable {p : Int} {s : Nat} {xs ys : Nat → Int}
theorem zfw_bd (hp : zprime p) (hs : s ≤ 8) : ∀ k, 0 ≤ (zfw p s xs ys k).1 ∧ (zfw p s xs ys k).1 ≤ 8 ∧ 0 ≤ (zfw p s xs ys k).2 ∧ (zfw p s xs ys k).2 ≤ 8
  | 0 => by unfold zfw; decide
  | k + 1 => by
    obtain ⟨h1, h2, h3, h4⟩ := zfw_bd hp hs k
    obtain ⟨f1, f2, -⟩ := zwl_facts (xs := xs) (ys := ys) (tie := 1) hp hs h1 h3
    unfold zfw
    exact ⟨by omega, by omega, by omega, by omega⟩
theorem zfw_succ (k : Nat) : zfw p s xs ys (k + 1) = (((zfl p s xs ys k).2 : Int), ((zfl p s xs ys k).1 : Int)) := rfl
theorem zfl_facts (hp : zprime p) (hs : s ≤ 8) (k : Nat) : (zfl p s xs ys k).1 ≤ 8 ∧ (zfl p s xs ys k).2 ≤ 8 ∧ (0 < (zfl p s xs ys k).2 → 0 < (zfl p s xs ys k).1 ∧ (zfl p s xs ys k).1 + (zfl p s xs ys k).2 ≤ 8 ∧ (zfw p s xs ys k).2 * (zfl p s xs ys k).2 < (zfw p s xs ys k).1 * (zfl p s xs ys k).1) ∧ ((zfl p s xs ys k).2 = 0 → (zfl p s xs ys k).1 = 0) := by
  obtain ⟨h1, h2, h3, h4⟩ := zfw_bd (xs := xs) (ys := ys) hp hs k
  obtain ⟨f1, f2, f3, f4⟩ := zwl_facts (xs := xs) (ys := ys) (tie := 1) hp hs h1 h3
  exact ⟨f1, f2, fun h => ⟨(f3 h).1, (f3 h).2.1, (f3 h).2.2 rfl⟩, f4⟩
theorem zfl_inc (hp : zprime p) (hs : s ≤ 8) (k : Nat) (h : 0 < (zfl p s xs ys (k + 1)).2) : (zfl p s xs ys k).1 * (zfl p s xs ys (k + 1)).2 < (zfl p s xs ys (k + 1)).1 * (zfl p s xs ys k).2 := by
  have := ((zfl_facts (xs := xs) (ys := ys) hp hs (k + 1)).2.2.1 h).2.2
  rw [zfw_succ] at this
  have h2 : ((zfl p s xs ys k).1 : Int) * (zfl p s xs ys (k + 1)).2 < (zfl p s xs ys k).2 * (zfl p s xs ys (k + 1)).1 := this
  rw [Nat.mul_comm ((zfl p s xs ys (k + 1)).1)]
  exact_mod_cast h2
theorem zfval_in {t b : Nat} (h1 : 0 < t) (h2 : 0 < b) (h3 : t + b ≤ 8) : 420 * t / b ∈ zfvals := by
  have a := zfval_mem
  rw [List.all_eq_true] at a
  have a := a t (List.mem_range.mpr (by omega))
  rw [List.all_eq_true] at a
  have a := a b (List.mem_range.mpr (by omega))
  rw [decide_eq_true (show 0 < t ∧ 0 < b ∧ t + b ≤ 8 from ⟨h1, h2, h3⟩)] at a
  simpa using a
theorem zfval_mono {t b x y : Nat} (h1 : 0 < t ∧ t < 8) (h2 : 0 < b ∧ b < 8) (h3 : 0 < x ∧ x < 8) (h4 : 0 < y ∧ y < 8) (h : t * y < x * b) : 420 * t / b < 420 * x / y := by
  have a := zfval_lt
  rw [List.all_eq_true] at a
  have a := a t (List.mem_range.mpr h1.2)
  rw [List.all_eq_true] at a
  have a := a b (List.mem_range.mpr h2.2)
  rw [List.all_eq_true] at a
  have a := a x (List.mem_range.mpr h3.2)
  rw [List.all_eq_true] at a
  have a := a y (List.mem_range.mpr h4.2)
  rw [decide_eq_true (show 0 < t ∧ 0 < b ∧ 0 < x ∧ 0 < y ∧ t * y < x * b from ⟨h1.1, h2.1, h3.1, h4.1, h⟩)] at a
  simpa using a
theorem zfl_rank (hp : zprime p) (hs : s ≤ 8) : ∀ k, (∀ j, j ≤ k → 0 < (zfl p s xs ys j).2) → k ≤ zfrk (420 * (zfl p s xs ys k).1 / (zfl p s xs ys k).2)
  | 0, _ => Nat.zero_le _
  | k + 1, h => by
    have ih := zfl_rank hp hs k (fun j hj => h j (by omega))
    have a0 := h k (by omega)
    have a1 := h (k + 1) (by omega)
    obtain ⟨f1, f2, -⟩ := (zfl_facts (xs := xs) (ys := ys) hp hs k).2.2.1 a0
    obtain ⟨g1, g2, -⟩ := (zfl_facts (xs := xs) (ys := ys) hp hs (k + 1)).2.2.1 a1
    have hi := zfl_inc (xs := xs) (ys := ys) hp hs k a1
    have := zfrk_lt _ (zfval_in f1 a0 f2) _ (zfval_in g1 a1 g2) (zfval_mono ⟨f1, by omega⟩ ⟨a0, by omega⟩ ⟨g1, by omega⟩ ⟨a1, by omega⟩ hi)
    omega
/-- N cones: the last is the first without a wall -/
def IsN (p : Int) (s : Nat) (xs ys : Nat → Int) (N : Nat) : Prop := 1 ≤ N ∧ N ≤ 22 ∧ (∀ k, k + 1 < N → 0 < (zfl p s xs ys k).2) ∧ (zfl p s xs ys (N - 1)).2 = 0
theorem IsN.ex (hp : zprime p) (hs : s ≤ 8) : ∃ N, IsN p s xs ys N := by
  have hz : ∃ k, k ≤ 21 ∧ (zfl p s xs ys k).2 = 0 := by
    refine Classical.byContradiction fun hn => ?_
    have hpos : ∀ j, j ≤ 21 → 0 < (zfl p s xs ys j).2 := fun j hj => Nat.pos_of_ne_zero fun e => hn ⟨j, hj, e⟩
    have hr := zfl_rank (xs := xs) (ys := ys) hp hs 21 hpos
    obtain ⟨f1, f2, -⟩ := (zfl_facts (xs := xs) (ys := ys) hp hs 21).2.2.1 (hpos 21 (by omega))
    have := zfrk_le _ (zfval_in f1 (hpos 21 (by omega)) f2)
    omega
  have least : ∀ d k, k ≤ d → k ≤ 21 → (zfl p s xs ys k).2 = 0 → ∃ q, q ≤ 21 ∧ (zfl p s xs ys q).2 = 0 ∧ ∀ j, j < q → 0 < (zfl p s xs ys j).2 := by
    intro d
    induction d with
    | zero => intro k h1 h2 h3; exact ⟨k, h2, h3, fun j hj => by omega⟩
    | succ d ih =>
      intro k h1 h2 h3
      by_cases hx : ∃ j, j < k ∧ (zfl p s xs ys j).2 = 0
      · obtain ⟨j, j1, j2⟩ := hx
        exact ih j (by omega) (by omega) j2
      · exact ⟨k, h2, h3, fun j hj => Nat.pos_of_ne_zero fun e => hx ⟨j, hj, e⟩⟩
  obtain ⟨k, h1, h2⟩ := hz
  obtain ⟨q, q1, q2, q3⟩ := least k k (Nat.le_refl k) h1 h2
  exact ⟨q + 1, by omega, by omega, fun j hj => q3 j (by omega), q2⟩
theorem IsN.uniq {N N' : Nat} (h : IsN p s xs ys N) (h' : IsN p s xs ys N') : N = N' := by
  obtain ⟨a1, a2, a3, a4⟩ := h
  obtain ⟨b1, b2, b3, b4⟩ := h'
  by_cases c : N < N'
  · have := b3 (N - 1) (by omega); omega
  · by_cases c2 : N' < N
    · have := a3 (N' - 1) (by omega); omega
    · omega
noncomputable def zfN (p : Int) (s : Nat) (xs ys : Nat → Int) : Nat := Classical.epsilon (IsN p s xs ys)
theorem zfN_is (hp : zprime p) (hs : s ≤ 8) : IsN p s xs ys (zfN p s xs ys) := Classical.epsilon_spec (IsN.ex hp hs)
end ZF
