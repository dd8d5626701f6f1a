/-! ===== a basis as numbers: heights, corners by rising number, their cells ===== -/
abbrev bT : Type := (Nat → Nat) × Nat × (Nat → Nat) × (Nat → Nat → Int)
/-- a list of c different corners by rising number, each with its cells, onto those of S -/
def zSrt (S : gS) (cm : Nat → Nat) (ce : Nat → Nat → Int) : Prop :=
  (∀ a, a < S.2.1 → ∃ b, b < S.2.1 ∧ cm a = S.2.2.1 b ∧ ce a = S.2.2.2 b) ∧ (∀ b, b < S.2.1 → ∃ a, a < S.2.1 ∧ cm a = S.2.2.1 b) ∧ ∀ a d, a < d → d < S.2.1 → cm a < cm d
def IsB (S : gS) (D : bT) : Prop := ColH S.1 D.1 ∧ D.2.1 = S.2.1 ∧ zSrt S D.2.2.1 D.2.2.2
theorem zsorted_uniq {c : Nat} {a b : Nat → Nat} (ha : ∀ i j, i < j → j < c → a i < a j) (hb : ∀ i j, i < j → j < c → b i < b j) (h1 : ∀ i, i < c → ∃ j, j < c ∧ b j = a i) (h2 : ∀ i, i < c → ∃ j, j < c ∧ a j = b i) : ∀ k, k < c → a k = b k := by
  have inj : ∀ (f : Nat → Nat), (∀ i j, i < j → j < c → f i < f j) → ∀ i j, i < c → j < c → f i = f j → i = j := fun f hf i j hi hj e => by
    by_cases c1 : i < j
    · have := hf i j c1 hj; omega
    · by_cases c2 : j < i
      · have := hf j i c2 hi; omega
      · omega
  intro k
  induction k using Nat.strongRecOn with | _ k ih => ?_
  intro hk
  obtain ⟨j, hj, ej⟩ := h1 k hk
  obtain ⟨i, hi, ei⟩ := h2 k hk
  by_cases c1 : j < k
  · have := ih j c1 hj
    have := inj a ha j k hj hk (by omega); omega
  · by_cases c2 : i < k
    · have := ih i c2 hi
      have := inj b hb i k hi hk (by omega); omega
    · by_cases c3 : j = k
      · rw [← ej, c3]
      · by_cases c4 : i = k
        · rw [← ei, c4]
        · have := ha k i (by omega) hi
          have := hb k j (by omega) hj
          omega
theorem zsort_ex : ∀ (c : Nat) (f : Nat → Nat), (∀ b d, b < d → d < c → f b ≠ f d) → ∃ g : Nat → Nat, (∀ a, a < c → g a < c) ∧ (∀ b, b < c → ∃ a, a < c ∧ g a = b) ∧ ∀ a d, a < d → d < c → f (g a) < f (g d)
  | 0, f, _ => ⟨fun _ => 0, fun a ha => by omega, fun b hb => by omega, fun a d _ hd => by omega⟩
  | c + 1, f, hf => by
    obtain ⟨g, g1, g2, g3⟩ := zsort_ex c f (fun b d h1 h2 => hf b d h1 (by omega))
    have hne : ∀ j, j < c → f (g j) ≠ f c := fun j hj => hf _ _ (g1 j hj) (by omega)
    have find : ∀ e q, c - q = e → q ≤ c → (∀ j, j < q → f (g j) < f c) → ∃ q', q' ≤ c ∧ (∀ j, j < q' → f (g j) < f c) ∧ ∀ j, q' ≤ j → j < c → f c < f (g j) := by
      intro e
      induction e with
      | zero => intro q he hq h1; exact ⟨q, hq, h1, fun j a b => by omega⟩
      | succ e ih =>
        intro q he hq h1
        by_cases c1 : f (g q) < f c
        · exact ih (q + 1) (by omega) (by omega) (fun j hj => by
            by_cases e : j = q
            · subst e; exact c1
            · exact h1 j (by omega))
        · exact ⟨q, hq, h1, fun j a b => by
            have := hne q (by omega)
            by_cases e : j = q
            · subst e; omega
            · have := g3 q j (by omega) b; omega⟩
    obtain ⟨q, hq, h1, h2⟩ := find c 0 (by omega) (Nat.zero_le c) (fun j hj => by omega)
    refine ⟨fun j => if j < q then g j else if j = q then c else g (j - 1), fun a ha => ?_, fun b hb => ?_, fun a d had hd => ?_⟩
    · show (if a < q then g a else if a = q then c else g (a - 1)) < c + 1
      split
      · have := g1 a (by omega); omega
      · split
        · omega
        · have := g1 (a - 1) (by omega); omega
    · by_cases c1 : b = c
      · exact ⟨q, by omega, by show (if q < q then g q else if q = q then c else g (q - 1)) = b; rw [if_neg (by omega), if_pos rfl, c1]⟩
      · obtain ⟨a, ha, ea⟩ := g2 b (by omega)
        by_cases c2 : a < q
        · exact ⟨a, by omega, by show (if a < q then g a else if a = q then c else g (a - 1)) = b; rw [if_pos c2, ea]⟩
        · exact ⟨a + 1, by omega, by show (if a + 1 < q then g (a + 1) else if a + 1 = q then c else g (a + 1 - 1)) = b; rw [if_neg (by omega), if_neg (by omega)]; simpa using ea⟩
    · show f (if a < q then g a else if a = q then c else g (a - 1)) < f (if d < q then g d else if d = q then c else g (d - 1))
      by_cases c1 : d < q
      · rw [if_pos c1, if_pos (show a < q by omega)]; exact g3 a d had (by omega)
      · rw [if_neg c1]
        by_cases c2 : d = q
        · rw [if_pos c2, if_pos (show a < q by omega)]; exact h1 a (by omega)
        · rw [if_neg c2]
          by_cases c3 : a < q
          · rw [if_pos c3]; exact g3 a (d - 1) (by omega) (by omega)
          · rw [if_neg c3]
            by_cases c4 : a = q
            · rw [if_pos c4]; exact h2 (d - 1) (by omega) (by omega)
            · rw [if_neg c4]; exact g3 (a - 1) (d - 1) (by omega) (by omega)
/-- the one list of all monomials by an order; the run's end -/
noncomputable def zord (u v tie : Int) : Nat → Nat := (IsOrd.ex u v tie 81).choose
theorem zord_is (u v tie : Int) : IsOrd u v tie 81 (zord u v tie) := (IsOrd.ex u v tie 81).choose_spec
noncomputable def gfin (p : Int) (s : Nat) (xs ys : Nat → Int) (u v tie : Int) : gS := rrun p s xs ys (zord u v tie) 81
theorem rrun_ext {p : Int} {s : Nat} {xs ys : Nat → Int} {o o' : Nat → Nat} : ∀ k, (∀ j, j < k → o j = o' j) → rrun p s xs ys o k = rrun p s xs ys o' k
  | 0, _ => rfl
  | k + 1, h => by
    unfold rrun
    rw [rrun_ext k (fun j hj => h j (by omega)), h k (by omega)]
theorem gfin_of {p : Int} {s : Nat} {xs ys : Nat → Int} {u v tie : Int} {o : Nat → Nat} (ho : IsOrd u v tie 81 o) : rrun p s xs ys o 81 = gfin p s xs ys u v tie :=
  rrun_ext 81 fun j hj => ho.uniq (zord_is u v tie) j hj
theorem gfin_RI {p : Int} {s : Nat} {xs ys : Nat → Int} {u v tie : Int} (hp : zprime p) (hs : s ≤ 8) (hu : 0 ≤ u) (hv : 0 ≤ v) : RI p s xs ys u v tie (zord u v tie) 81 (gfin p s xs ys u v tie) :=
  RI.run hp (zord_is u v tie) hs hu hv 81 (Nat.le_refl _)
/-- the heights that a standard set has -/
def zhgt (E : eT) (i : Nat) : Nat := zcnt (fun j => stdB E (9 * i + j)) 9
theorem zcnt_dn {f : Nat → Bool} : ∀ n, (∀ j, j + 1 < n → f (j + 1) = true → f j = true) → ∀ j, j < n → (f j = true ↔ j < zcnt f n)
  | 0, _, j, hj => absurd hj (Nat.not_lt_zero j)
  | n + 1, h, j, hj => by
    have ih := zcnt_dn n (fun j hj => h j (by omega))
    have hl := zcnt_le f n
    unfold zcnt
    by_cases c : f n = true
    · rw [if_pos c]
      have all : ∀ d, d ≤ n → f (n - d) = true := by
        intro d
        induction d with
        | zero => intro _; exact c
        | succ d ihd => intro hd; exact h (n - (d + 1)) (by omega) (by rw [show n - (d + 1) + 1 = n - d by omega]; exact ihd (by omega))
      have full : n ≤ zcnt f n := by
        by_cases c2 : n = 0
        · omega
        · have := (ih (n - 1) (by omega)).mp (all 1 (by omega))
          omega
      constructor
      · intro _; omega
      · intro _
        have := all (n - j) (by omega)
        rwa [show n - (n - j) = j by omega] at this
    · rw [if_neg c]
      by_cases e : j = n
      · subst e
        constructor
        · intro q; exact absurd q c
        · intro q; omega
      · exact ih j (by omega)
theorem RI.colH {p : Int} {s : Nat} {xs ys : Nat → Int} {u v tie : Int} {o : Nat → Nat} {k : Nat} {S : gS} (h : RI p s xs ys u v tie o k S) (hs : s ≤ 8) : ColH S.1 (zhgt S.1) := by
  have key : ∀ i, i < 9 → ∀ j, j < 9 → (stdB S.1 (9 * i + j) = true ↔ j < zhgt S.1 i) := fun i hi => zcnt_dn 9 (fun j hj hx => h.dv hx ⟨by omega, by omega⟩)
  refine ⟨fun i hi => ?_, fun i j hi hj => key i hi j hj⟩
  have := zcnt_le (fun j => stdB S.1 (9 * i + j)) 9
  refine Classical.byContradiction fun hc => ?_
  have h8 := (key i hi 8 (by omega)).mpr (by omega)
  have := h.small hs h8
  omega
theorem IsB.ex {p : Int} {s : Nat} {xs ys : Nat → Int} {u v tie : Int} {o : Nat → Nat} {k : Nat} {S : gS} (h : RI p s xs ys u v tie o k S) (hs : s ≤ 8) : ∃ D, IsB S D := by
  obtain ⟨g, g1, g2, g3⟩ := zsort_ex S.2.1 S.2.2.1 h.2.2.2.2.2.1
  exact ⟨(zhgt S.1, S.2.1, fun a => S.2.2.1 (g a), fun a => S.2.2.2 (g a)), h.colH hs, rfl, fun a ha => ⟨g a, g1 a ha, rfl, rfl⟩, fun b hb => by
    obtain ⟨a, ha, e⟩ := g2 b hb
    exact ⟨a, ha, by show S.2.2.1 (g a) = _; rw [e]⟩, g3⟩
theorem ColH.uniq {E : eT} {H H' : Nat → Nat} (h : ColH E H) (h' : ColH E H') : ∀ i, i < 9 → H i = H' i := fun i hi => by
  have a := h.1 i hi
  have b := h'.1 i hi
  by_cases c : H i < H' i
  · have := (h.2 i (H i) hi (by omega)).mp ((h'.2 i (H i) hi (by omega)).mpr c); omega
  · by_cases c2 : H' i < H i
    · have := (h'.2 i (H' i) hi (by omega)).mp ((h.2 i (H' i) hi (by omega)).mpr c2); omega
    · omega
theorem zSrt.uniq {S : gS} {cm cm' : Nat → Nat} {ce ce' : Nat → Nat → Int} (hd : ∀ b d, b < d → d < S.2.1 → S.2.2.1 b ≠ S.2.2.1 d) (h : zSrt S cm ce) (h' : zSrt S cm' ce') : ∀ a, a < S.2.1 → cm a = cm' a ∧ ce a = ce' a := by
  have e := zsorted_uniq h.2.2 h'.2.2 (fun i hi => by
    obtain ⟨b, hb, e, -⟩ := h.1 i hi
    obtain ⟨a, ha, e2⟩ := h'.2.1 b hb
    exact ⟨a, ha, by rw [e, e2]⟩) (fun i hi => by
    obtain ⟨b, hb, e, -⟩ := h'.1 i hi
    obtain ⟨a, ha, e2⟩ := h.2.1 b hb
    exact ⟨a, ha, by rw [e, e2]⟩)
  intro a ha
  refine ⟨e a ha, ?_⟩
  obtain ⟨b, hb, e1, e2⟩ := h.1 a ha
  obtain ⟨d, hd2, e3, e4⟩ := h'.1 a ha
  have : b = d := by
    by_cases c : b < d
    · exact absurd (by rw [← e1, ← e3]; exact e a ha) (hd b d c hd2)
    · by_cases c2 : d < b
      · exact absurd (by rw [← e1, ← e3]; exact (e a ha).symm) (hd d b c2 hb)
      · omega
  rw [e2, e4, this]
noncomputable def zbas (p : Int) (s : Nat) (xs ys : Nat → Int) (u v tie : Int) : bT := Classical.epsilon (fun D => IsB (gfin p s xs ys u v tie) D)
section ZBAS
variable {p : Int} {s : Nat} {xs ys : Nat → Int} {u v tie : Int}
theorem zbas_is (hp : zprime p) (hs : s ≤ 8) (hu : 0 ≤ u) (hv : 0 ≤ v) : IsB (gfin p s xs ys u v tie) (zbas p s xs ys u v tie) := Classical.epsilon_spec (IsB.ex (gfin_RI hp hs hu hv) hs)
theorem zbas_eq (hp : zprime p) (hs : s ≤ 8) (hu : 0 ≤ u) (hv : 0 ≤ v) {D : bT} (h : IsB (gfin p s xs ys u v tie) D) :
    (∀ i, i < 9 → D.1 i = (zbas p s xs ys u v tie).1 i) ∧ D.2.1 = (zbas p s xs ys u v tie).2.1 ∧ ∀ a, a < D.2.1 → D.2.2.1 a = (zbas p s xs ys u v tie).2.2.1 a ∧ D.2.2.2 a = (zbas p s xs ys u v tie).2.2.2 a := by
  have h0 := zbas_is (xs := xs) (ys := ys) (tie := tie) hp hs hu hv
  refine ⟨h.1.uniq h0.1, h.2.1.trans h0.2.1.symm, fun a ha => ?_⟩
  exact h.2.2.uniq (gfin_RI hp hs hu hv).2.2.2.2.2.1 h0.2.2 a (by rw [← h.2.1]; exact ha)
/-- what a basis has: heights fall; cells are 1 at the corner, else at smaller standard monomials -/
theorem zbas_facts (hp : zprime p) (hs : s ≤ 8) (hu : 0 ≤ u) (hv : 0 ≤ v) : (zbas p s xs ys u v tie).2.1 ≤ 4 ∧ (∀ i, i < 9 → (zbas p s xs ys u v tie).1 i ≤ 8) ∧ (∀ i j, i ≤ j → j < 9 → (zbas p s xs ys u v tie).1 j ≤ (zbas p s xs ys u v tie).1 i) ∧
    ∀ a, a < (zbas p s xs ys u v tie).2.1 → (zbas p s xs ys u v tie).2.2.1 a < 81 ∧ (∀ d, a < d → d < (zbas p s xs ys u v tie).2.1 → (zbas p s xs ys u v tie).2.2.1 a < (zbas p s xs ys u v tie).2.2.1 d) ∧ (zbas p s xs ys u v tie).2.2.2 a ((zbas p s xs ys u v tie).2.2.1 a) = 1 ∧
      (zbas p s xs ys u v tie).1 ((zbas p s xs ys u v tie).2.2.1 a / 9) ≤ (zbas p s xs ys u v tie).2.2.1 a % 9 ∧
      ∀ x, 0 ≤ (zbas p s xs ys u v tie).2.2.2 a x ∧ (zbas p s xs ys u v tie).2.2.2 a x < p ∧ ((zbas p s xs ys u v tie).2.2.2 a x ≠ 0 → x = (zbas p s xs ys u v tie).2.2.1 a ∨ (x < 81 ∧ x % 9 < (zbas p s xs ys u v tie).1 (x / 9) ∧ zlt u v tie x ((zbas p s xs ys u v tie).2.2.1 a))) := by
  have h0 := zbas_is (xs := xs) (ys := ys) (tie := tie) hp hs hu hv
  have hR := gfin_RI (xs := xs) (ys := ys) (tie := tie) hp hs hu hv
  generalize zbas p s xs ys u v tie = D at *
  generalize gfin p s xs ys u v tie = S at *
  obtain ⟨hc, he, hso⟩ := h0
  have h4 := hR.four hs
  refine ⟨by omega, hc.1, fun i j hij hj => ?_, fun a ha => ?_⟩
  · by_cases c : D.1 j = 0
    · omega
    · have a1 := hc.1 j hj
      have := (hc.2 j (D.1 j - 1) hj (by omega)).mpr (by omega)
      have := (hc.2 i (D.1 j - 1) (by omega) (by omega)).mp (hR.dv this ⟨by omega, by omega⟩)
      omega
  · rw [he] at ha
    obtain ⟨b, hb, e1, e2⟩ := hso.1 a ha
    obtain ⟨b1, b2, b3, -⟩ := hR.2.2.2.1 b hb
    obtain ⟨c1, c2⟩ := hR.2.2.2.2.2.2 b hb
    rw [e1, e2]
    refine ⟨b1, fun d had hd => by rw [← e1]; exact hso.2.2 a d had (by rw [← he]; exact hd), c1, ?_, fun x => ⟨(c2 x).1, (c2 x).2.1, fun hx => ((c2 x).2.2 hx).imp id (fun q => ?_)⟩⟩
    · have := hc.2 (S.2.2.1 b / 9) (S.2.2.1 b % 9) (by omega) (by omega)
      rw [show 9 * (S.2.2.1 b / 9) + S.2.2.1 b % 9 = S.2.2.1 b by omega, b2] at this
      refine Nat.le_of_not_lt fun q => ?_
      have := this.mpr q
      cases this
    · have hx81 := (hR.2.1 x q.1).1
      refine ⟨hx81, ?_, q.2⟩
      refine (hc.2 (x / 9) (x % 9) (by omega) (by omega)).mp ?_
      rw [show 9 * (x / 9) + x % 9 = x by omega]
      exact q.1
end ZBAS
