/-! ===== p52, pure: counts; corners; what changes at a wall; distinct polynomials ===== -/
theorem zcnt_add (f : Nat → Bool) (a : Nat) : ∀ b, zcnt f (a + b) = zcnt f a + zcnt (fun j => f (a + j)) b
  | 0 => rfl
  | b + 1 => by
    show zcnt f (a + b) + (if f (a + b) = true then 1 else 0) = zcnt f a + (zcnt (fun j => f (a + j)) b + (if f (a + b) = true then 1 else 0))
    rw [zcnt_add f a b, Nat.add_assoc]
theorem zcnt_zero {f : Nat → Bool} : ∀ n, (∀ j, j < n → f j = false) → zcnt f n = 0
  | 0, _ => rfl
  | n + 1, h => by
    unfold zcnt
    rw [zcnt_zero n (fun j hj => h j (by omega)), h n (by omega)]
    rfl
theorem zcnt_none {f : Nat → Bool} : ∀ n, zcnt f n = 0 → ∀ j, j < n → f j = false
  | 0, _, j, hj => absurd hj (Nat.not_lt_zero j)
  | n + 1, h, j, hj => by
    unfold zcnt at h
    by_cases c : f n = true
    · rw [if_pos c] at h; omega
    · rw [if_neg c] at h
      by_cases e : j = n
      · subst e; simpa using c
      · exact zcnt_none n (by omega) j (by omega)
theorem zcnt_all : ∀ n, zcnt (fun _ => true) n = n
  | 0 => rfl
  | n + 1 => by
    unfold zcnt
    rw [zcnt_all n, if_pos rfl]
theorem zcnt_set {f : Nat → Bool} {k : Nat} : ∀ n, k < n → f k = false → zcnt (fun x => f x || k == x) n = zcnt f n + 1
  | 0, h, _ => absurd h (Nat.not_lt_zero k)
  | n + 1, h, hk => by
    unfold zcnt
    by_cases e : k = n
    · subst e
      have e1 : zcnt (fun x => f x || k == x) k = zcnt f k := zcnt_ext fun j hj => by
        have : (k == j) = false := by simp; omega
        simp [this]
      rw [e1, hk]
      simp
    · rw [zcnt_set n (by omega) hk]
      have : (k == n) = false := by simpa using e
      simp only [this, Bool.or_false]
      omega
theorem zcnt_del {f : Nat → Bool} {k : Nat} : ∀ n, k < n → f k = true → zcnt (fun x => f x && !(k == x)) n + 1 = zcnt f n
  | 0, h, _ => absurd h (Nat.not_lt_zero k)
  | n + 1, h, hk => by
    unfold zcnt
    by_cases e : k = n
    · subst e
      have e1 : zcnt (fun x => f x && !(k == x)) k = zcnt f k := zcnt_ext fun j hj => by
        have : (k == j) = false := by simp; omega
        simp [this]
      rw [e1, hk]
      simp
    · have ih := zcnt_del n (by omega) hk
      have : (k == n) = false := by simpa using e
      simp only [this, Bool.not_false, Bool.and_true]
      omega
theorem zcnt_split (f e : Nat → Bool) : ∀ n, zcnt f n = zcnt (fun j => f j && e j) n + zcnt (fun j => f j && !(e j)) n
  | 0 => rfl
  | n + 1 => by
    have ih := zcnt_split f e n
    unfold zcnt
    cases h1 : f n <;> cases h2 : e n <;> simp <;> omega
/-- places that one-to-one go into other places are not more than those -/
theorem zcnt_inj : ∀ (n : Nat) {f e : Nat → Bool} {φ : Nat → Nat} {m : Nat}, (∀ j, j < n → f j = true → φ j < m ∧ e (φ j) = true) → (∀ i j, i < j → j < n → f i = true → f j = true → φ i ≠ φ j) → zcnt f n ≤ zcnt e m
  | 0, f, e, φ, m, _, _ => Nat.zero_le _
  | n + 1, f, e, φ, m, h1, h2 => by
    show zcnt f n + (if f n = true then 1 else 0) ≤ zcnt e m
    by_cases c : f n = true
    · rw [if_pos c]
      obtain ⟨a1, a2⟩ := h1 n (by omega) c
      have ih := zcnt_inj n (f := f) (e := fun x => e x && !(φ n == x)) (φ := φ) (m := m) (fun j hj hf => by
        obtain ⟨b1, b2⟩ := h1 j (by omega) hf
        refine ⟨b1, ?_⟩
        have : (φ n == φ j) = false := by have := h2 j n hj (by omega) hf c; simp; omega
        simp [b2, this]) (fun i j hij hj a b => h2 i j hij (by omega) a b)
      have := zcnt_del (f := e) (k := φ n) m a1 a2
      omega
    · rw [if_neg c]
      exact zcnt_inj n (fun j hj hf => h1 j (by omega) hf) (fun i j hij hj a b => h2 i j hij (by omega) a b)
theorem zcnt_list {e : Nat → Nat} {N : Nat} : ∀ n, (∀ t, t < n → e t < N) → (∀ t u, t < u → u < n → e t ≠ e u) → zcnt (fun x => (List.range n).any (fun t => e t == x)) N = n
  | 0, _, _ => zcnt_zero N (fun j _ => by simp)
  | n + 1, h1, h2 => by
    have ih := zcnt_list n (fun t ht => h1 t (by omega)) (fun t u a b => h2 t u a (by omega))
    have e1 : zcnt (fun x => (List.range (n + 1)).any (fun t => e t == x)) N = zcnt (fun x => (List.range n).any (fun t => e t == x) || e n == x) N := zcnt_ext fun j _ => by
      rw [List.range_succ, List.any_append]; simp
    rw [e1, zcnt_set N (h1 n (by omega)) (by
      rw [List.any_eq_false]
      intro t ht
      have := h2 t n (List.mem_range.mp ht) (by omega)
      simpa using this), ih]
/-- the heights of the first columns, added up -/
def zHs (H : Nat → Nat) : Nat → Nat
  | 0 => 0
  | i + 1 => zHs H i + H i
/-- the sizes of the first bases, added up -/
def zSz (B : Nat → bT) : Nat → Nat
  | 0 => 0
  | k + 1 => zSz B k + (B k).2.1
theorem zuc_sz (B : Nat → bT) : ∀ k, zuc B k ≤ zSz B k
  | 0 => Nat.le_refl 0
  | k + 1 => by
    have a := zuc_sz B k
    have b := zcnt_le (fun a => znew B ((B k).2.2.2 a) k) (B k).2.1
    unfold zuc zSz
    omega
theorem zSz_le {B : Nat → bT} {N : Nat} (h : ∀ i, i < N → (B i).2.1 ≤ 4) : ∀ k, k ≤ N → zSz B k ≤ 4 * k
  | 0, _ => Nat.le_refl 0
  | k + 1, hk => by
    have a := zSz_le h k (by omega)
    have := h k (by omega)
    unfold zSz
    omega
/-- different polynomials out of the first k cones: not more than those that are counted -/
theorem zuc_dist {B : Nat → bT} : ∀ (k : Nat) {n : Nat} {C : Nat → Nat → Int} {sel : Nat → Bool}, (∀ j, j < n → sel j = true → ∃ i, i < k ∧ ∃ a, a < (B i).2.1 ∧ ∀ x, x < 81 → C j x = (B i).2.2.2 a x) → (∀ i j, i < j → j < n → sel i = true → sel j = true → ¬ ∀ x, x < 81 → C i x = C j x) → zcnt sel n ≤ zuc B k
  | 0, n, C, sel, h1, _ => by
    rw [zcnt_zero n (fun j hj => by
      cases hb : sel j with
      | false => rfl
      | true => obtain ⟨i, hi, -⟩ := h1 j hj hb; omega)]
    exact Nat.zero_le _
  | k + 1, n, C, sel, h1, h2 => by
    rw [zcnt_split sel (fun j => znew B (C j) k) n]
    have ih := zuc_dist k (n := n) (C := C) (sel := fun j => sel j && !(znew B (C j) k)) (fun j hj hs => by
      rw [Bool.and_eq_true] at hs
      have hn : ¬ znew B (C j) k = true := by have := hs.2; simpa using this
      rw [znew_iff] at hn
      refine Classical.byContradiction fun q => hn fun i hi a ha hx => q ⟨i, hi, a, ha, hx⟩) (fun i j hij hj a b => by
      rw [Bool.and_eq_true] at a b
      exact h2 i j hij hj a.1 b.1)
    have ch : ∀ j, ∃ a, (j < n → (sel j && znew B (C j) k) = true → a < (B k).2.1 ∧ ∀ x, x < 81 → C j x = (B k).2.2.2 a x) := fun j => by
      by_cases c : j < n ∧ (sel j && znew B (C j) k) = true
      · obtain ⟨c1, c2⟩ := c
        rw [Bool.and_eq_true] at c2
        obtain ⟨i, hi, a, ha, hx⟩ := h1 j c1 c2.1
        have hz := znew_iff.mp c2.2
        by_cases e : i < k
        · exact absurd hx (hz i e a ha)
        · have : i = k := by omega
          subst this
          exact ⟨a, fun _ _ => ⟨ha, hx⟩⟩
      · exact ⟨0, fun a b => absurd ⟨a, b⟩ c⟩
    have hj := zcnt_inj n (f := fun j => sel j && znew B (C j) k) (e := fun a => znew B ((B k).2.2.2 a) k) (φ := fun j => (ch j).choose) (m := (B k).2.1) (fun j hj hs => by
      obtain ⟨a1, a2⟩ := (ch j).choose_spec hj hs
      refine ⟨a1, znew_iff.mpr fun i hi a ha hx => ?_⟩
      rw [Bool.and_eq_true] at hs
      exact znew_iff.mp hs.2 i hi a ha (fun x hx2 => (a2 x hx2).trans (hx x hx2))) (fun i j hij hj a b e => by
      have a2 := ((ch i).choose_spec (by omega) a).2
      have b2 := ((ch j).choose_spec hj b).2
      try dsimp only at e
      rw [e] at a2
      rw [Bool.and_eq_true] at a b
      exact h2 i j hij hj a.1 b.1 (fun x hx => (a2 x hx).trans (b2 x hx).symm))
    unfold zuc
    omega
section GC
variable {P : pT}
theorem pB_is (h : pwf P) (i : Nat) : IsB (gfin P.1 P.2.1 P.2.2.1 P.2.2.2.1 (zfw P.1 P.2.1 P.2.2.1 P.2.2.2.1 i).1 (zfw P.1 P.2.1 P.2.2.1 P.2.2.2.1 i).2 1) (pB P i) ∧ RI P.1 P.2.1 P.2.2.1 P.2.2.2.1 (zfw P.1 P.2.1 P.2.2.1 P.2.2.2.1 i).1 (zfw P.1 P.2.1 P.2.2.1 P.2.2.2.1 i).2 1 (zord (zfw P.1 P.2.1 P.2.2.1 P.2.2.2.1 i).1 (zfw P.1 P.2.1 P.2.2.1 P.2.2.2.1 i).2 1) 81 (gfin P.1 P.2.1 P.2.2.1 P.2.2.2.1 (zfw P.1 P.2.1 P.2.2.1 P.2.2.2.1 i).1 (zfw P.1 P.2.1 P.2.2.1 P.2.2.2.1 i).2 1) := by
  obtain ⟨w1, -, w3, -⟩ := zfw_bd (xs := P.2.2.1) (ys := P.2.2.2.1) h.1 h.2.1 i
  exact ⟨zbas_is h.1 h.2.1 w1 w3, gfin_RI h.1 h.2.1 w1 w3⟩
/-- heights fall; cells, corners -/
theorem pB_all (h : pwf P) (i : Nat) : (∀ a b, a ≤ b → b < 9 → (pB P i).1 b ≤ (pB P i).1 a) ∧ ∀ a, a < (pB P i).2.1 → (pB P i).2.2.1 a < 81 ∧ (pB P i).2.2.2 a ((pB P i).2.2.1 a) = 1 ∧ (pB P i).1 ((pB P i).2.2.1 a / 9) ≤ (pB P i).2.2.1 a % 9 ∧ ∀ x, 0 ≤ (pB P i).2.2.2 a x ∧ (pB P i).2.2.2 a x < P.1 ∧ ((pB P i).2.2.2 a x ≠ 0 → x = (pB P i).2.2.1 a ∨ (x < 81 ∧ x % 9 < (pB P i).1 (x / 9))) := by
  obtain ⟨w1, -, w3, -⟩ := zfw_bd (xs := P.2.2.1) (ys := P.2.2.2.1) h.1 h.2.1 i
  obtain ⟨-, -, f3, f4⟩ := zbas_facts (xs := P.2.2.1) (ys := P.2.2.2.1) (tie := 1) h.1 h.2.1 w1 w3
  exact ⟨f3, fun a ha => ⟨(f4 a ha).1, (f4 a ha).2.2.1, (f4 a ha).2.2.2.1, fun x => ⟨((f4 a ha).2.2.2.2 x).1, ((f4 a ha).2.2.2.2 x).2.1, fun hx => (((f4 a ha).2.2.2.2 x).2.2 hx).imp id (fun q => ⟨q.1, q.2.1⟩)⟩⟩⟩
theorem pB_sum (h : pwf P) (i : Nat) : zHs (pB P i).1 9 = P.2.1 := by
  obtain ⟨⟨hc, -, -⟩, hR⟩ := pB_is h i
  have hf := zfull h.1 h.2.1 h.2.2.1 (ptOK.of h).2.2.2 hR (zord_is _ _ _)
  generalize pB P i = D at *
  generalize gfin P.1 P.2.1 P.2.2.1 P.2.2.2.1 (zfw P.1 P.2.1 P.2.2.1 P.2.2.2.1 i).1 (zfw P.1 P.2.1 P.2.2.1 P.2.2.2.1 i).2 1 = S at *
  have hu := hc.uniq (hR.colH h.2.1)
  have key : ∀ n, n ≤ 9 → zHs D.1 n = zcnt (stdB S.1) (9 * n) := by
    intro n
    induction n with
    | zero => intro _; rfl
    | succ n ih =>
      intro hn
      show zHs D.1 n + D.1 n = _
      rw [ih (by omega), hu n (by omega), show 9 * (n + 1) = 9 * n + 9 by omega, zcnt_add]
      rfl
  rw [key 9 (Nat.le_refl 9)]
  obtain ⟨-, -, -, -, -, -, -, -, h81, hin⟩ := id hR.1
  rw [← hf]
  exact zcnt_list S.1.1 h81 hin
theorem pB_one (h : pwf P) (i : Nat) : 1 ≤ (pB P i).2.1 := by
  obtain ⟨⟨-, he, -⟩, hR⟩ := pB_is h i
  rw [he]
  obtain ⟨j, hj, ej⟩ := (zord_is (zfw P.1 P.2.1 P.2.2.1 P.2.2.2.1 i).1 (zfw P.1 P.2.1 P.2.2.1 P.2.2.2.1 i).2 1).2.1 80 (by decide)
  have h0 : stdB (gfin P.1 P.2.1 P.2.2.1 P.2.2.2.1 (zfw P.1 P.2.1 P.2.2.1 P.2.2.2.1 i).1 (zfw P.1 P.2.1 P.2.2.1 P.2.2.2.1 i).2 1).1 80 = false := by
    cases hb : stdB (gfin P.1 P.2.1 P.2.2.1 P.2.2.2.1 (zfw P.1 P.2.1 P.2.2.1 P.2.2.2.1 i).1 (zfw P.1 P.2.1 P.2.2.1 P.2.2.2.1 i).2 1).1 80 with
    | false => rfl
    | true => have := hR.small h.2.1 hb; omega
  obtain ⟨b, hb, -⟩ := hR.2.2.2.2.1 j hj (by rw [ej]; exact h0)
  omega
/-- what lies left of a corner and below it is standard -/
theorem pB_cor (h : pwf P) {i a : Nat} (ha : a < (pB P i).2.1) : ((pB P i).2.2.1 a / 9 = 0 ∨ (pB P i).2.2.1 a % 9 < (pB P i).1 ((pB P i).2.2.1 a / 9 - 1)) ∧ ((pB P i).2.2.1 a % 9 = 0 ∨ (pB P i).2.2.1 a % 9 - 1 < (pB P i).1 ((pB P i).2.2.1 a / 9)) := by
  obtain ⟨⟨hc, he, hso⟩, hR⟩ := pB_is h i
  generalize pB P i = D at *
  generalize gfin P.1 P.2.1 P.2.2.1 P.2.2.2.1 (zfw P.1 P.2.1 P.2.2.1 P.2.2.2.1 i).1 (zfw P.1 P.2.1 P.2.2.1 P.2.2.2.1 i).2 1 = S at *
  obtain ⟨b, hb, e1, -⟩ := hso.1 a (by omega)
  obtain ⟨b1, -, b3, -⟩ := hR.2.2.2.1 b hb
  rw [corB_iff] at b3
  rw [e1]
  generalize S.2.2.1 b = m at *
  refine ⟨?_, ?_⟩
  · by_cases c : m / 9 = 0
    · exact Or.inl c
    · exact Or.inr ((hc.2 (m / 9 - 1) (m % 9) (by omega) (by omega)).mp (by rw [show 9 * (m / 9 - 1) + m % 9 = m - 9 by omega]; exact b3.1.resolve_left c))
  · by_cases c : m % 9 = 0
    · exact Or.inl c
    · exact Or.inr ((hc.2 (m / 9) (m % 9 - 1) (by omega) (by omega)).mp (by rw [show 9 * (m / 9) + (m % 9 - 1) = m - 1 by omega]; exact b3.2.resolve_left c))
/-- corners lie in rising columns -/
theorem pB_x (h : pwf P) {i a d : Nat} (had : a < d) (hd : d < (pB P i).2.1) : (pB P i).2.2.1 a / 9 < (pB P i).2.2.1 d / 9 := by
  obtain ⟨⟨hc, he, hso⟩, hR⟩ := pB_is h i
  generalize pB P i = D at *
  generalize gfin P.1 P.2.1 P.2.2.1 P.2.2.2.1 (zfw P.1 P.2.1 P.2.2.1 P.2.2.2.1 i).1 (zfw P.1 P.2.1 P.2.2.1 P.2.2.2.1 i).2 1 = S at *
  have hlt := hso.2.2 a d had (by omega)
  obtain ⟨b, hb, e1, -⟩ := hso.1 a (by omega)
  obtain ⟨b', hb', e2, -⟩ := hso.1 d (by omega)
  obtain ⟨-, b2, -, -⟩ := hR.2.2.2.1 b hb
  obtain ⟨-, -, d3, -⟩ := hR.2.2.2.1 b' hb'
  rw [corB_iff] at d3
  rw [← e1] at b2
  rw [← e2] at d3
  refine Nat.lt_of_not_le fun hx => ?_
  have := hR.dv (d3.2.resolve_left (by omega)) (y := D.2.2.1 a) ⟨by omega, by omega⟩
  rw [this] at b2; cases b2
theorem pB_vanish (h : pwf P) {i a : Nat} (ha : a < (pB P i).2.1) : zvan (pC P ((pB P i).2.2.2 a)) = true := by
  obtain ⟨w1, -, w3, -⟩ := zfw_bd (xs := P.2.2.1) (ys := P.2.2.2.1) h.1 h.2.1 i
  refine zvan_iff.mpr fun k hk => ?_
  have hz := zbas_van (xs := P.2.2.1) (ys := P.2.2.2.1) (tie := 1) h.1 h.2.1 w1 w3 ha hk
  have e := hz.emod
  rw [Int.zero_emod] at e
  exact e
/-- a cell at another one's corner is 0 -/
theorem pB_off (h : pwf P) {i a d : Nat} (ha : a < (pB P i).2.1) (hd : d < (pB P i).2.1) (hne : a ≠ d) : (pB P i).2.2.2 a ((pB P i).2.2.1 d) = 0 := by
  have fa := (pB_all h i).2 a ha
  have fd := (pB_all h i).2 d hd
  refine Classical.byContradiction fun q => ?_
  rcases (fa.2.2.2 _).2.2 q with e | ⟨-, e⟩
  · by_cases c : a < d
    · have := pB_x h c hd; omega
    · have := pB_x h (show d < a by omega) ha; omega
  · have := fd.2.2.1; omega
theorem pU_ge (h : pwf P) {k : Nat} (hk : k < pN P) : (pB P k).2.1 ≤ zuc (pB P) (pN P) := by
  have := zuc_dist (B := pB P) (pN P) (n := (pB P k).2.1) (C := (pB P k).2.2.2) (sel := fun _ => true) (fun j hj _ => ⟨k, hk, j, hj, fun x _ => rfl⟩) (fun i j hij hj _ _ hx => by
    have fj := (pB_all h k).2 j hj
    have e := hx ((pB P k).2.2.1 j) fj.1
    rw [fj.2.1, pB_off h (show i < (pB P k).2.1 by omega) hj (by omega)] at e
    exact absurd e (by decide))
  rwa [zcnt_all] at this
/-- some corner changes at a wall -/
theorem pCh (h : pwf P) {i : Nat} (hi : i + 1 < pN P) : 1 ≤ zcnt (fun a => !(List.range (pB P (i + 1)).2.1).any (fun q => (pB P (i + 1)).2.2.1 q == (pB P i).2.2.1 a)) (pB P i).2.1 := by
  refine Nat.pos_of_ne_zero fun h0 => ?_
  have hall : ∀ a, a < (pB P i).2.1 → ∃ q, q < (pB P (i + 1)).2.1 ∧ (pB P (i + 1)).2.2.1 q = (pB P i).2.2.1 a := fun a ha => by
    have := zcnt_none _ h0 a ha
    have h1 : (List.range (pB P (i + 1)).2.1).any (fun q => (pB P (i + 1)).2.2.1 q == (pB P i).2.2.1 a) = true := by simpa using this
    obtain ⟨q, hq, e⟩ := List.any_eq_true.mp h1
    exact ⟨q, List.mem_range.mp hq, by simpa using e⟩
  obtain ⟨w0, -, -⟩ := pW_pos h hi
  obtain ⟨a, x, ha, hx, hy, hw⟩ := zfl_pair (xs := P.2.2.1) (ys := P.2.2.2.1) h.1 h.2.1 i w0
  obtain ⟨a', ha', ea⟩ := hall a ha
  have v1 := pB_is h i
  have v2 := pB_is h (i + 1)
  obtain ⟨u1, -, u3, -⟩ := zfw_bd (xs := P.2.2.1) (ys := P.2.2.2.1) h.1 h.2.1 i
  obtain ⟨t1, -, t3, -⟩ := zfw_bd (xs := P.2.2.1) (ys := P.2.2.2.1) h.1 h.2.1 (i + 1)
  have z1 : ∀ q, q < P.2.1 → _ := fun q hq => zbas_van (xs := P.2.2.1) (ys := P.2.2.2.1) (tie := 1) h.1 h.2.1 u1 u3 ha hq
  have z2 : ∀ q, q < P.2.1 → _ := fun q hq => zbas_van (xs := P.2.2.1) (ys := P.2.2.2.1) (tie := 1) h.1 h.2.1 t1 t3 ha' hq
  have f1 := (pB_all h i).2 a ha
  have f2 := (pB_all h (i + 1)).2 a' ha'
  have f3 := (zbas_facts (xs := P.2.2.1) (ys := P.2.2.2.1) (tie := 1) h.1 h.2.1 t1 t3).2.2.2 a' ha'
  have hst : ∀ y, stdB (gfin P.1 P.2.1 P.2.2.1 P.2.2.2.1 (zfw P.1 P.2.1 P.2.2.1 P.2.2.2.1 (i + 1)).1 (zfw P.1 P.2.1 P.2.2.1 P.2.2.2.1 (i + 1)).2 1).1 y = stdB (gfin P.1 P.2.1 P.2.2.1 P.2.2.2.1 (zfw P.1 P.2.1 P.2.2.1 P.2.2.2.1 i).1 (zfw P.1 P.2.1 P.2.2.1 P.2.2.2.1 i).2 1).1 y := zsame2 (ptOK.of h) v1.2 (zord_is _ _ _) v2.2 (zord_is _ _ _) fun y hy9 => by
    cases hb : stdB (gfin P.1 P.2.1 P.2.2.1 P.2.2.2.1 (zfw P.1 P.2.1 P.2.2.1 P.2.2.2.1 i).1 (zfw P.1 P.2.1 P.2.2.1 P.2.2.2.1 i).2 1).1 y with
    | true => rfl
    | false =>
      exfalso
      obtain ⟨j, hj, ej⟩ := (zord_is (zfw P.1 P.2.1 P.2.2.1 P.2.2.2.1 i).1 (zfw P.1 P.2.1 P.2.2.1 P.2.2.2.1 i).2 1).2.1 y (v2.2.2.1 y hy9).1
      obtain ⟨b, hb2, hdv⟩ := v1.2.2.2.2.2.1 j hj (by rw [ej]; exact hb)
      rw [ej] at hdv
      obtain ⟨d, hd, ed⟩ := v1.1.2.2.2.1 b hb2
      rw [← ed] at hdv
      obtain ⟨q, hq, eq⟩ := hall d (by rw [v1.1.2.1]; exact hd)
      rw [← eq] at hdv
      obtain ⟨b', hb', e1, -⟩ := v2.1.2.2.1 q (by rw [← v2.1.2.1]; exact hq)
      obtain ⟨-, n2, -, -⟩ := v2.2.2.2.2.1 b' hb'
      rw [← e1, v2.2.dv hy9 hdv] at n2
      cases n2
  have hs1 : ∀ y, y < 81 → y % 9 < (pB P i).1 (y / 9) → stdB (gfin P.1 P.2.1 P.2.2.1 P.2.2.2.1 (zfw P.1 P.2.1 P.2.2.1 P.2.2.2.1 i).1 (zfw P.1 P.2.1 P.2.2.1 P.2.2.2.1 i).2 1).1 y = true := fun y y1 y2 => by
    have := (v1.1.1.2 (y / 9) (y % 9) (by omega) (by omega)).mpr y2
    rwa [show 9 * (y / 9) + y % 9 = y by omega] at this
  have hs2 : ∀ y, y < 81 → y % 9 < (pB P (i + 1)).1 (y / 9) → stdB (gfin P.1 P.2.1 P.2.2.1 P.2.2.2.1 (zfw P.1 P.2.1 P.2.2.1 P.2.2.2.1 i).1 (zfw P.1 P.2.1 P.2.2.1 P.2.2.2.1 i).2 1).1 y = true := fun y y1 y2 => by
    have := (v2.1.1.2 (y / 9) (y % 9) (by omega) (by omega)).mpr y2
    rw [show 9 * (y / 9) + y % 9 = y by omega] at this
    rwa [hst] at this
  have he := zuni (ptOK.of h) v1.2 (zord_is _ _ _) (C := (pB P i).2.2.2 a) (D := (pB P (i + 1)).2.2.2 a') (fun y => ⟨(f1.2.2.2 y).1, (f1.2.2.2 y).2.1⟩) (fun y => ⟨(f2.2.2.2 y).1, (f2.2.2.2 y).2.1⟩) (fun y hne => by
    by_cases c : y = (pB P i).2.2.1 a
    · exfalso
      apply hne
      rw [c, f1.2.1, ← ea, f2.2.1]
    · by_cases c2 : (pB P i).2.2.2 a y = 0
      · obtain ⟨y1, y2⟩ := ((f2.2.2.2 y).2.2 (fun q => hne (c2.trans q.symm))).resolve_left (fun q => c (q.trans ea))
        exact hs2 y y1 y2
      · obtain ⟨y1, y2⟩ := ((f1.2.2.2 y).2.2 c2).resolve_left c
        exact hs1 y y1 y2) (fun q hq => (z1 q hq).tr (z2 q hq).sy)
  have hx2 : (pB P (i + 1)).2.2.2 a' x ≠ 0 := by rw [← he x]; exact hx
  have hl := (((f3.2.2.2.2 x).2.2 hx2).resolve_left (fun q => by
    have q' : x = (pB P (i + 1)).2.2.1 a' := q
    rw [ea] at q'
    have hy' : (pB P i).2.2.1 a % 9 < x % 9 := hy
    omega)).2.2
  have hl2 : zlt ((pW P i).2 : Int) ((pW P i).1 : Int) 1 x ((pB P (i + 1)).2.2.1 a') := hl
  rw [ea] at hl2
  have hw2 : ((pW P i).1 : Int) * ((x : Int) % 9 - ((pB P i).2.2.1 a : Int) % 9) = (((pB P i).2.2.1 a : Int) / 9 - (x : Int) / 9) * ((pW P i).2 : Int) := hw
  have hy2 : (pB P i).2.2.1 a % 9 < x % 9 := hy
  have key : ∀ A B X Y X' Y' : Int, B * (Y - Y') = (X' - X) * A → A * X + B * Y = A * X' + B * Y' := fun A B X Y X' Y' e => by grind
  have hz : zwt ((pW P i).2 : Int) ((pW P i).1 : Int) x = zwt ((pW P i).2 : Int) ((pW P i).1 : Int) ((pB P i).2.2.1 a) := by
    unfold zwt
    refine key _ _ _ _ _ _ ?_
    push_cast
    exact hw2
  unfold zlt at hl2
  rw [hz] at hl2
  omega
/-- without points: one cone, one corner 0, no wall -/
theorem pE (h : pwf P) (h0 : P.2.1 = 0) : pN P = 1 ∧ (pB P 0).2.1 = 1 ∧ (pB P 0).2.2.1 0 = 0 ∧ (pW P 0).2 = 0 := by
  have hH : ∀ i, i < 9 → (pB P 0).1 i = 0 := fun i hi => by
    have hs := pB_sum h 0
    rw [h0] at hs
    have le : ∀ n, i < n → (pB P 0).1 i ≤ zHs (pB P 0).1 n := by
      intro n
      induction n with
      | zero => intro q; omega
      | succ n ih =>
        intro q
        unfold zHs
        by_cases e : i = n
        · subst e; omega
        · have := ih (by omega); omega
    have := le 9 hi
    omega
  have hz : ∀ a, a < (pB P 0).2.1 → (pB P 0).2.2.1 a = 0 := fun a ha => by
    obtain ⟨c1, c2⟩ := pB_cor h ha
    have c3 := ((pB_all h 0).2 a ha).1
    have d1 : (pB P 0).2.2.1 a / 9 = 0 := by
      rcases c1 with q | q
      · exact q
      · have := hH ((pB P 0).2.2.1 a / 9 - 1) (by omega); omega
    have d2 : (pB P 0).2.2.1 a % 9 = 0 := by
      rcases c2 with q | q
      · exact q
      · have := hH ((pB P 0).2.2.1 a / 9) (by omega); omega
    omega
  have h1 := pB_one h 0
  have h2 : (pB P 0).2.1 = 1 := by
    refine Nat.le_antisymm (Nat.le_of_not_lt fun q => ?_) h1
    have := pB_x h (i := 0) (a := 0) (d := 1) (by omega) q
    rw [hz 0 h1, hz 1 q] at this
    omega
  have h3 : (pW P 0).2 = 0 := Nat.eq_zero_of_not_pos fun q => by
    obtain ⟨a, x, ha, hx, hy, -⟩ := zfl_pair (xs := P.2.2.1) (ys := P.2.2.2.1) h.1 h.2.1 0 q
    have ha' : a < (pB P 0).2.1 := ha
    have hy' : (pB P 0).2.2.1 a % 9 < x % 9 := hy
    rw [hz a ha'] at hy'
    rcases ((((pB_all h 0).2 a ha').2.2.2 x).2.2 hx) with e | ⟨e1, e2⟩
    · rw [hz a ha'] at e; omega
    · rw [hH (x / 9) (by omega)] at e2; omega
  refine ⟨?_, h2, hz 0 h1, h3⟩
  exact (pN_is h).uniq ⟨Nat.le_refl 1, by decide, fun k hk => by omega, h3⟩
end GC
