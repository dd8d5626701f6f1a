/-! ===== the next event is the least open top of a column; at most four corners; sorted corners ===== -/
/-- the heights of the columns of standard monomials -/
def ColH (E : eT) (H : Nat → Nat) : Prop := (∀ i, i < 9 → H i ≤ 8) ∧ ∀ i j, i < 9 → j < 9 → (stdB E (9 * i + j) = true ↔ j < H i)
def zOpen (S : gS) (H : Nat → Nat) (i : Nat) : Prop := ∀ b, b < S.2.1 → ¬ zdv (S.2.2.1 b) (9 * i + H i)
section STEP
variable {p : Int} {s : Nat} {xs ys : Nat → Int} {u v tie : Int} {o : Nat → Nat} {k : Nat} {S : gS} {H : Nat → Nat}
theorem rstep_none {m : Nat} (h1 : enew p s xs ys S.1 m = false) (h2 : corB S.1 m = false) : rstep p s xs ys S m = S := by
  unfold rstep
  rw [h1, h2]
  rfl
theorem rstep_std {m : Nat} (h1 : enew p s xs ys S.1 m = true) : rstep p s xs ys S m = (eadd p s xs ys S.1 m, S.2) := by
  unfold rstep
  rw [h1]
  rfl
theorem rstep_cor {m : Nat} (h1 : enew p s xs ys S.1 m = false) (h2 : corB S.1 m = true) : rstep p s xs ys S m = (S.1, S.2.1 + 1, zfu S.2.2.1 S.2.1 m, zfu S.2.2.2 S.2.1 (zcel p m (ecb p S.1 (zvec p xs ys m)) (eM S.1) S.1.1)) := by
  unfold rstep
  rw [h1, h2]
  rfl
/-- what happens at a monomial happens at the open top of its column -/
theorem RI.event (hp : 1 < p) (h : RI p s xs ys u v tie o k S) (ho : IsOrd u v tie 81 o) (hs : s ≤ 8) (hu : 0 ≤ u) (hv : 0 ≤ v) (hk : k < 81) (hH : ColH S.1 H)
    (he : enew p s xs ys S.1 (o k) = true ∨ corB S.1 (o k) = true) : H (o k / 9) = o k % 9 ∧ zOpen S H (o k / 9) := by
  have hm := ho.1 k hk
  have hd : (o k / 9 = 0 ∨ stdB S.1 (o k - 9) = true) ∧ (o k % 9 = 0 ∨ stdB S.1 (o k - 1) = true) := by
    rcases he with h1 | h1
    · exact h.over hp ho hs hu hv hk h1
    · exact corB_iff.mp h1
  have hf := h.fresh ho hk (Nat.le_refl k) hk
  have e0 : 9 * (o k / 9) + o k % 9 = o k := by omega
  have eH : H (o k / 9) = o k % 9 := by
    have a1 := hH.2 (o k / 9) (o k % 9) (by omega) (by omega)
    rw [e0, hf] at a1
    by_cases c : o k % 9 = 0
    · have : ¬ (o k % 9 < H (o k / 9)) := fun q => by have := a1.mpr q; cases this
      omega
    · have a2 := hH.2 (o k / 9) (o k % 9 - 1) (by omega) (by omega)
      rw [show 9 * (o k / 9) + (o k % 9 - 1) = o k - 1 by omega] at a2
      have := a2.mp (hd.2.resolve_left c)
      have : ¬ (o k % 9 < H (o k / 9)) := fun q => by have := a1.mpr q; cases this
      omega
  refine ⟨eH, fun b hb hdv => ?_⟩
  rw [eH, e0] at hdv
  obtain ⟨b1, b2, b3, i, hi, ei⟩ := h.2.2.2.1 b hb
  have hne : S.2.2.1 b ≠ o k := fun e => by
    rw [← ei] at e
    have := ho.inj (by omega) hk e
    omega
  obtain ⟨d1, d2⟩ := hdv
  by_cases c : S.2.2.1 b / 9 < o k / 9
  · have := h.dv (hd.1.resolve_left (by omega)) (y := S.2.2.1 b) ⟨by omega, by omega⟩
    rw [b2] at this; cases this
  · have := h.dv (hd.2.resolve_left (by omega)) (y := S.2.2.1 b) ⟨by omega, by omega⟩
    rw [b2] at this; cases this
theorem RI.later (h : RI p s xs ys u v tie o k S) (hH : ColH S.1 H) {i j : Nat} (hi : i < 9) (hop : zOpen S H i) (hj : o j = 9 * i + H i) : k ≤ j := by
  by_cases c : j < k
  · have a1 := hH.2 i (H i) hi (by have := hH.1 i hi; omega)
    have hns : stdB S.1 (o j) = false := by
      rw [hj]
      cases hb : stdB S.1 (9 * i + H i) with
      | false => rfl
      | true => have := a1.mp hb; omega
    obtain ⟨b, hb, hd⟩ := h.2.2.2.2.1 j c hns
    rw [hj] at hd
    exact absurd hd (hop b hb)
  · omega
theorem RI.skip (hp : zprime p) (ho : IsOrd u v tie 81 o) (hs : s ≤ 8) (hu : 0 ≤ u) (hv : 0 ≤ v) (hH : ColH (rrun p s xs ys o k).1 H) : ∀ d, k + d ≤ 81 →
    (∀ j, k ≤ j → j < k + d → zOpen (rrun p s xs ys o k) H (o j / 9) → H (o j / 9) = o j % 9 → False) → rrun p s xs ys o (k + d) = rrun p s xs ys o k
  | 0, _, _ => rfl
  | d + 1, hd, hno => by
    have ih := RI.skip hp ho hs hu hv hH d (by omega) (fun j h1 h2 => hno j h1 (by omega))
    have hR := RI.run (xs := xs) (ys := ys) hp ho hs hu hv (k + d) (by omega)
    rw [ih] at hR
    show rstep p s xs ys (rrun p s xs ys o (k + d)) (o (k + d)) = _
    rw [ih]
    refine rstep_none ?_ ?_
    · cases hb : enew p s xs ys (rrun p s xs ys o k).1 (o (k + d)) with
      | false => rfl
      | true =>
        obtain ⟨e1, e2⟩ := hR.event hp.bd.1 ho hs hu hv (by omega) hH (Or.inl hb)
        exact (hno (k + d) (by omega) (by omega) e2 e1).elim
    · cases hb : corB (rrun p s xs ys o k).1 (o (k + d)) with
      | false => rfl
      | true =>
        obtain ⟨e1, e2⟩ := hR.event hp.bd.1 ho hs hu hv (by omega) hH (Or.inr hb)
        exact (hno (k + d) (by omega) (by omega) e2 e1).elim
/-- no column open: the run is at its end -/
theorem RI.done (hp : zprime p) (ho : IsOrd u v tie 81 o) (hs : s ≤ 8) (hu : 0 ≤ u) (hv : 0 ≤ v) (hk : k ≤ 81) (hH : ColH (rrun p s xs ys o k).1 H) (hno : ∀ i, i < 9 → ¬ zOpen (rrun p s xs ys o k) H i) :
    rrun p s xs ys o 81 = rrun p s xs ys o k := by
  have := RI.skip (k := k) hp ho hs hu hv hH (81 - k) (by omega) (fun j h1 h2 h3 _ => hno (o j / 9) (by have := ho.1 j (by omega); omega) h3)
  rwa [show k + (81 - k) = 81 by omega] at this
/-- the least open top is next -/
theorem RI.next (hp : zprime p) (ho : IsOrd u v tie 81 o) (hs : s ≤ 8) (hu : 0 ≤ u) (hv : 0 ≤ v) (hk : k ≤ 81) (hH : ColH (rrun p s xs ys o k).1 H) {i : Nat} (hi : i < 9) (hop : zOpen (rrun p s xs ys o k) H i)
    (hmin : ∀ j, j < 9 → j ≠ i → zOpen (rrun p s xs ys o k) H j → zlt u v tie (9 * i + H i) (9 * j + H j)) :
    ∃ q, k ≤ q ∧ q < 81 ∧ o q = 9 * i + H i ∧ rrun p s xs ys o q = rrun p s xs ys o k ∧ (enew p s xs ys (rrun p s xs ys o k).1 (9 * i + H i) = false → corB (rrun p s xs ys o k).1 (9 * i + H i) = true) := by
  have hHi := hH.1 i hi
  have hR := RI.run (xs := xs) (ys := ys) hp ho hs hu hv k hk
  obtain ⟨q, hq, eq⟩ := ho.2.1 (9 * i + H i) (by omega)
  have hkq := hR.later hH hi hop eq
  have hrun := RI.skip (k := k) hp ho hs hu hv hH (q - k) (by omega) (fun j h1 h2 h3 h4 => by
    have hj := ho.1 j (by omega)
    have hjq := ho.2.2 j q (by omega) hq
    by_cases e : o j / 9 = i
    · have : o j = o q := by rw [eq, ← e, h4]; omega
      rw [this] at hjq
      exact zlt_irr hjq
    · have := hmin (o j / 9) (by omega) e h3
      rw [h4, show 9 * (o j / 9) + o j % 9 = o j by omega, ← eq] at this
      exact zlt_as this hjq)
  rw [show k + (q - k) = q by omega] at hrun
  refine ⟨q, hkq, hq, eq, hrun, fun hn => corB_iff.mpr ⟨?_, ?_⟩⟩
  · by_cases c : (9 * i + H i) / 9 = 0
    · exact Or.inl c
    · refine Or.inr (Classical.byContradiction fun hns => ?_)
      have hRq := RI.run (xs := xs) (ys := ys) hp ho hs hu hv q (by omega)
      rw [hrun] at hRq
      obtain ⟨j, hj, ej⟩ := ho.2.1 (9 * i + H i - 9) (by omega)
      have hjq : j < q := (ho.lt_iff hj hq).mp (by rw [ej, eq]; exact zlt_dv hu hv ⟨by omega, by omega⟩ (by omega))
      obtain ⟨b, hb, hd⟩ := hRq.2.2.2.2.1 j hjq (by rw [ej]; simpa using hns)
      rw [ej] at hd
      exact hop b hb ⟨by have := hd.1; omega, by have := hd.2; omega⟩
  · by_cases c : (9 * i + H i) % 9 = 0
    · exact Or.inl c
    · refine Or.inr ?_
      have := (hH.2 i (H i - 1) hi (by omega)).mpr (by omega)
      rwa [show 9 * i + (H i - 1) = 9 * i + H i - 1 by omega] at this
theorem ColH.std {i : Nat} (hH : ColH S.1 H) (hi : i < 9) (h7 : H i ≤ 7) : ColH (eadd p s xs ys S.1 (9 * i + H i)) (zfu H i (H i + 1)) := by
  refine ⟨fun a ha => ?_, fun a j ha hj => ?_⟩
  · by_cases e : a = i
    · subst e; rw [zfu_self]; omega
    · rw [zfu_ne e]; exact hH.1 a ha
  · rw [show (stdB (eadd p s xs ys S.1 (9 * i + H i)) (9 * a + j) = true) = (stdB (ekeep p S.1 _ _ _ (9 * i + H i)) (9 * a + j) = true) from rfl, stdB_keep, hH.2 a j ha hj]
    by_cases e : a = i
    · subst e; rw [zfu_self]; omega
    · rw [zfu_ne e]; omega
/-- corners: neither divides another -/
theorem RI.anti (h : RI p s xs ys u v tie o k S) {b d : Nat} (hb : b < S.2.1) (hd : d < S.2.1) (hne : b ≠ d) : ¬ zdv (S.2.2.1 b) (S.2.2.1 d) := fun hdv => by
  obtain ⟨b1, b2, b3, -⟩ := h.2.2.2.1 b hb
  obtain ⟨d1, d2, d3, -⟩ := h.2.2.2.1 d hd
  have hn : S.2.2.1 b ≠ S.2.2.1 d := by
    by_cases c : b < d
    · exact h.2.2.2.2.2.1 b d c hd
    · exact (h.2.2.2.2.2.1 d b (by omega) hb).symm
  rw [corB_iff] at d3
  obtain ⟨v1, v2⟩ := hdv
  by_cases c : S.2.2.1 b / 9 < S.2.2.1 d / 9
  · have := h.dv (d3.1.resolve_left (by omega)) (y := S.2.2.1 b) ⟨by omega, by omega⟩
    rw [b2] at this; cases this
  · have := h.dv (d3.2.resolve_left (by omega)) (y := S.2.2.1 b) ⟨by omega, by omega⟩
    rw [b2] at this; cases this
/-- the greatest common divisor of two corners is standard -/
theorem RI.meet (h : RI p s xs ys u v tie o k S) {b d : Nat} (hb : b < S.2.1) (hd : d < S.2.1) (hne : b ≠ d) : stdB S.1 (9 * min (S.2.2.1 b / 9) (S.2.2.1 d / 9) + min (S.2.2.1 b % 9) (S.2.2.1 d % 9)) = true := by
  have a1 := h.anti hb hd hne
  have a2 := h.anti hd hb hne.symm
  obtain ⟨-, -, b3, -⟩ := h.2.2.2.1 b hb
  rw [corB_iff] at b3
  unfold zdv at a1 a2
  by_cases c : S.2.2.1 d / 9 < S.2.2.1 b / 9
  · exact h.dv (b3.1.resolve_left (by omega)) ⟨by omega, by omega⟩
  · exact h.dv (b3.2.resolve_left (by omega)) ⟨by omega, by omega⟩
def zpi (r : Nat) : Nat := [0, 0, 0, 0, 1, 1, 1, 2, 2, 3].getD r 0
def zpj (r : Nat) : Nat := [1, 2, 3, 4, 2, 3, 4, 3, 4, 4].getD r 0
theorem zpij : ∀ r, r < 10 → zpi r < zpj r ∧ zpj r < 5 ∧ ∀ q, q < 10 → zpi q = zpi r → zpj q = zpj r → q = r := by decide +kernel
theorem RI.four (h : RI p s xs ys u v tie o k S) (hs : s ≤ 8) : S.2.1 ≤ 4 := by
  refine Classical.byContradiction fun h5 => ?_
  have hle := h.1.le
  have hc := h.count (n := 10) (fun r => 9 * min (S.2.2.1 (zpi r) / 9) (S.2.2.1 (zpj r) / 9) + min (S.2.2.1 (zpi r) % 9) (S.2.2.1 (zpj r) % 9)) (fun r hr => by
    obtain ⟨r1, r2, -⟩ := zpij r hr
    exact h.meet (by omega) (by omega) (by omega)) (fun q r hqr hr e => by
    obtain ⟨q1, q2, -⟩ := zpij q (by omega)
    obtain ⟨r1, r2, r3⟩ := zpij r hr
    have an : ∀ b d, b < 5 → d < 5 → b ≠ d → ¬ (S.2.2.1 b / 9 ≤ S.2.2.1 d / 9 ∧ S.2.2.1 b % 9 ≤ S.2.2.1 d % 9) := fun b d hb hd hne => h.anti (by omega) (by omega) hne
    have key : ∀ a b c d, a < 5 → b < 5 → c < 5 → d < 5 → a < b → c < d → min (S.2.2.1 a / 9) (S.2.2.1 b / 9) = min (S.2.2.1 c / 9) (S.2.2.1 d / 9) → min (S.2.2.1 a % 9) (S.2.2.1 b % 9) = min (S.2.2.1 c % 9) (S.2.2.1 d % 9) → a = c ∧ b = d := by
      intro a b c d ha hb hc hd hab hcd e1 e2
      have x1 := an a b ha hb (by omega)
      have x2 := an b a hb ha (by omega)
      have x3 := an c d hc hd (by omega)
      have x4 := an d c hd hc (by omega)
      have ne : ∀ a b, a < 5 → b < 5 → (S.2.2.1 a / 9 = S.2.2.1 b / 9 ∨ S.2.2.1 a % 9 = S.2.2.1 b % 9) → a = b := fun a b ha hb e => by
        refine Classical.byContradiction fun hne => ?_
        have y1 := an a b ha hb hne
        have y2 := an b a hb ha (Ne.symm hne)
        omega
      by_cases c1 : S.2.2.1 a / 9 ≤ S.2.2.1 b / 9
      · by_cases c2 : S.2.2.1 c / 9 ≤ S.2.2.1 d / 9
        · exact ⟨ne a c ha hc (Or.inl (by omega)), ne b d hb hd (Or.inr (by omega))⟩
        · have z1 := ne a d ha hd (Or.inl (by omega))
          have z2 := ne b c hb hc (Or.inr (by omega))
          omega
      · by_cases c2 : S.2.2.1 c / 9 ≤ S.2.2.1 d / 9
        · have z1 := ne b c hb hc (Or.inl (by omega))
          have z2 := ne a d ha hd (Or.inr (by omega))
          omega
        · exact ⟨ne a c ha hc (Or.inr (by omega)), ne b d hb hd (Or.inl (by omega))⟩
    try dsimp only at e
    obtain ⟨k1, k2⟩ := key _ _ _ _ (by omega) (by omega) (by omega) (by omega) q1 r1 (by omega) (by omega)
    have := r3 q (by omega) k1 k2
    omega)
  omega
/-- nothing can follow twelve events -/
theorem RI.full (hp : zprime p) (ho : IsOrd u v tie 81 o) (hs : s ≤ 8) (hu : 0 ≤ u) (hv : 0 ≤ v) (hH : ColH (rrun p s xs ys o k).1 H) (hk : k ≤ 81) (hf : (rrun p s xs ys o k).1.1 + (rrun p s xs ys o k).2.1 = 12) : rrun p s xs ys o 81 = rrun p s xs ys o k := by
  have hR := RI.run (xs := xs) (ys := ys) hp ho hs hu hv k hk
  have a1 := hR.1.le
  have a2 := hR.four hs
  have go : ∀ d, k + d ≤ 81 → rrun p s xs ys o (k + d) = rrun p s xs ys o k := by
    intro d
    induction d with
    | zero => intro _; rfl
    | succ d ih =>
      intro hd
      have ih := ih (by omega)
      have hRd := RI.run (xs := xs) (ys := ys) hp ho hs hu hv (k + d + 1) (by omega)
      have b1 := hRd.1.le
      have b2 := hRd.four hs
      change (rstep p s xs ys (rrun p s xs ys o (k + d)) (o (k + d))).1.1 ≤ s at b1
      change (rstep p s xs ys (rrun p s xs ys o (k + d)) (o (k + d))).2.1 ≤ 4 at b2
      show rstep p s xs ys (rrun p s xs ys o (k + d)) (o (k + d)) = _
      rw [ih] at b1 b2 ⊢
      refine rstep_none ?_ ?_
      · cases hb : enew p s xs ys (rrun p s xs ys o k).1 (o (k + d)) with
        | false => rfl
        | true =>
          rw [rstep_std hb] at b1
          have : (rrun p s xs ys o k).1.1 + 1 ≤ s := b1
          omega
      · cases hn : enew p s xs ys (rrun p s xs ys o k).1 (o (k + d)) with
        | true =>
          rw [rstep_std hn] at b1
          have : (rrun p s xs ys o k).1.1 + 1 ≤ s := b1
          omega
        | false =>
          cases hb : corB (rrun p s xs ys o k).1 (o (k + d)) with
          | false => rfl
          | true =>
            rw [rstep_cor hn hb] at b2
            have : (rrun p s xs ys o k).2.1 + 1 ≤ 4 := b2
            omega
  have := go (81 - k) (by omega)
  rwa [show k + (81 - k) = 81 by omega] at this
end STEP
