/-! ===== monomials (9 i + j), their orders, and lists of all of them by an order ===== -/
def zwt (u v : Int) (m : Nat) : Int := u * ((m / 9 : Nat) : Int) + v * ((m % 9 : Nat) : Int)
def zlt (u v tie : Int) (a b : Nat) : Prop := zwt u v a < zwt u v b ∨ (zwt u v a = zwt u v b ∧ ((tie = 1 ∧ (a % 9 < b % 9 ∨ (a % 9 = b % 9 ∧ a / 9 < b / 9))) ∨ (tie ≠ 1 ∧ a < b)))
theorem zlt_irr {u v tie : Int} {a : Nat} : ¬ zlt u v tie a a := by unfold zlt; omega
theorem zlt_tr {u v tie : Int} {a b c : Nat} (h1 : zlt u v tie a b) (h2 : zlt u v tie b c) : zlt u v tie a c := by
  unfold zlt at *
  generalize zwt u v a = x at *
  generalize zwt u v b = y at *
  generalize zwt u v c = z at *
  omega
theorem zlt_tot {u v tie : Int} {a b : Nat} (h : a ≠ b) : zlt u v tie a b ∨ zlt u v tie b a := by
  unfold zlt
  generalize zwt u v a = x at *
  generalize zwt u v b = y at *
  omega
theorem zlt_as {u v tie : Int} {a b : Nat} (h1 : zlt u v tie a b) : ¬ zlt u v tie b a := fun h2 => zlt_irr (zlt_tr h1 h2)
theorem zwt_x (u v : Int) (a : Nat) : zwt u v (a + 9) = zwt u v a + u := by
  unfold zwt
  rw [show (a + 9) / 9 = a / 9 + 1 by omega, show (a + 9) % 9 = a % 9 by omega, Int.natCast_add, Int.mul_add]
  omega
theorem zwt_y (u v : Int) (a : Nat) (h : a % 9 < 8) : zwt u v (a + 1) = zwt u v a + v := by
  unfold zwt
  rw [show (a + 1) / 9 = a / 9 by omega, show (a + 1) % 9 = a % 9 + 1 by omega, Int.natCast_add, Int.mul_add]
  omega
theorem zlt_mx {u v tie : Int} {a b : Nat} (h : zlt u v tie a b) : zlt u v tie (a + 9) (b + 9) := by
  unfold zlt at *
  rw [zwt_x, zwt_x]
  generalize zwt u v a = x at *
  generalize zwt u v b = y at *
  omega
theorem zlt_my {u v tie : Int} {a b : Nat} (ha : a % 9 < 8) (hb : b % 9 < 8) (h : zlt u v tie a b) : zlt u v tie (a + 1) (b + 1) := by
  unfold zlt at *
  rw [zwt_y _ _ _ ha, zwt_y _ _ _ hb]
  generalize zwt u v a = x at *
  generalize zwt u v b = y at *
  omega
/-- a divides b -/
def zdv (a b : Nat) : Prop := a / 9 ≤ b / 9 ∧ a % 9 ≤ b % 9
theorem zlt_dv {u v tie : Int} {a b : Nat} (hu : 0 ≤ u) (hv : 0 ≤ v) (h : zdv a b) (hne : a ≠ b) : zlt u v tie a b := by
  obtain ⟨h1, h2⟩ := h
  have e : zwt u v a ≤ zwt u v b := by
    unfold zwt
    have := Int.mul_le_mul_of_nonneg_left (show ((a / 9 : Nat) : Int) ≤ ((b / 9 : Nat) : Int) by omega) hu
    have := Int.mul_le_mul_of_nonneg_left (show ((a % 9 : Nat) : Int) ≤ ((b % 9 : Nat) : Int) by omega) hv
    omega
  unfold zlt
  generalize zwt u v a = x at *
  generalize zwt u v b = y at *
  omega
/-- the numbers below N by rising order -/
def IsOrd (u v tie : Int) (N : Nat) (o : Nat → Nat) : Prop := (∀ k, k < N → o k < N) ∧ (∀ m, m < N → ∃ k, k < N ∧ o k = m) ∧ ∀ i j, i < j → j < N → zlt u v tie (o i) (o j)
theorem IsOrd.inj {u v tie : Int} {N : Nat} {o : Nat → Nat} (h : IsOrd u v tie N o) {i j : Nat} (hi : i < N) (hj : j < N) (e : o i = o j) : i = j := by
  by_cases h1 : i < j
  · have := h.2.2 i j h1 hj; rw [e] at this; exact absurd this zlt_irr
  · by_cases h2 : j < i
    · have := h.2.2 j i h2 hi; rw [e] at this; exact absurd this zlt_irr
    · omega
theorem IsOrd.lt_iff {u v tie : Int} {N : Nat} {o : Nat → Nat} (h : IsOrd u v tie N o) {i j : Nat} (hi : i < N) (hj : j < N) : zlt u v tie (o i) (o j) ↔ i < j := by
  constructor
  · intro hl
    by_cases h1 : i < j
    · exact h1
    · by_cases e : i = j
      · subst e; exact absurd hl zlt_irr
      · exact absurd (h.2.2 j i (by omega) hi) (zlt_as hl)
  · intro hl; exact h.2.2 i j hl hj
theorem IsOrd.uniq {u v tie : Int} {N : Nat} {a b : Nat → Nat} (ha : IsOrd u v tie N a) (hb : IsOrd u v tie N b) : ∀ k, k < N → a k = b k := by
  intro k
  induction k using Nat.strongRecOn with | _ k ih => ?_
  intro hk
  obtain ⟨j, hj, ej⟩ := hb.2.1 (a k) (ha.1 k hk)
  obtain ⟨i, hi, ei⟩ := ha.2.1 (b k) (hb.1 k hk)
  by_cases h1 : j < k
  · have := ih j h1 hj
    have := ha.inj hj hk (by rw [this, ej]); omega
  · by_cases h2 : i < k
    · have := ih i h2 hi
      have := hb.inj hi hk (by rw [← this, ei]); omega
    · by_cases h3 : j = k
      · rw [← ej, h3]
      · have x1 := hb.2.2 k j (by omega) hj
        rw [ej] at x1
        by_cases h4 : i = k
        · rw [← ei, h4]
        · have x2 := ha.2.2 k i (by omega) hi
          rw [ei] at x2
          exact absurd x1 (zlt_as x2)
theorem IsOrd.ins {u v tie : Int} {m q : Nat} {o o' : Nat → Nat} (h : IsOrd u v tie m o) (hq : q ≤ m) (h1 : ∀ j, j < q → zlt u v tie (o j) m) (h2 : ∀ j, q ≤ j → j < m → zlt u v tie m (o j))
    (e : ∀ j, j < m + 1 → o' j = (if j < q then o j else if j = q then m else o (j - 1))) : IsOrd u v tie (m + 1) o' := by
  refine ⟨fun k hk => ?_, fun x hx => ?_, fun i j hij hj => ?_⟩
  · rw [e k hk]
    split
    · have := h.1 k (by omega); omega
    · split
      · omega
      · have := h.1 (k - 1) (by omega); omega
  · by_cases c1 : x = m
    · exact ⟨q, by omega, by rw [e q (by omega), if_neg (by omega), if_pos rfl, c1]⟩
    · obtain ⟨k, hk, ek⟩ := h.2.1 x (by omega)
      by_cases c2 : k < q
      · exact ⟨k, by omega, by rw [e k (by omega), if_pos c2, ek]⟩
      · exact ⟨k + 1, by omega, by rw [e (k + 1) (by omega), if_neg (by omega), if_neg (by omega)]; simpa using ek⟩
  · rw [e i (by omega), e j hj]
    by_cases c1 : j < q
    · rw [if_pos c1, if_pos (show i < q by omega)]; exact h.2.2 i j hij (by omega)
    · rw [if_neg c1]
      by_cases c2 : j = q
      · rw [if_pos c2, if_pos (show i < q by omega)]; exact h1 i (by omega)
      · rw [if_neg c2]
        by_cases c3 : i < q
        · rw [if_pos c3]; exact h.2.2 i (j - 1) (by omega) (by omega)
        · rw [if_neg c3]
          by_cases c4 : i = q
          · rw [if_pos c4]; exact h2 (j - 1) (by omega) (by omega)
          · rw [if_neg c4]; exact h.2.2 (i - 1) (j - 1) (by omega) (by omega)
theorem IsOrd.ex (u v tie : Int) : ∀ m, ∃ o, IsOrd u v tie m o
  | 0 => ⟨fun _ => 0, fun k hk => by omega, fun k hk => by omega, fun i j _ hj => by omega⟩
  | m + 1 => by
    obtain ⟨o, ho⟩ := IsOrd.ex u v tie m
    have hne : ∀ j, j < m → o j ≠ m := fun j hj e => by have := ho.1 j hj; omega
    have find : ∀ q, q ≤ m → ((∀ j, j < q → zlt u v tie (o j) m) → ∃ q', q' ≤ m ∧ (∀ j, j < q' → zlt u v tie (o j) m) ∧ ∀ j, q' ≤ j → j < m → zlt u v tie m (o j)) := by
      intro q
      induction hd : m - q generalizing q with
      | zero => intro hq h1; exact ⟨q, hq, h1, fun j a b => by omega⟩
      | succ d ih =>
        intro hq h1
        by_cases c : zlt u v tie (o q) m
        · exact ih (q + 1) (by omega) (by omega) (fun j hj => by
            by_cases e : j = q
            · subst e; exact c
            · exact h1 j (by omega))
        · have c2 : zlt u v tie m (o q) := (zlt_tot (hne q (by omega))).resolve_left c
          exact ⟨q, hq, h1, fun j a b => by
            by_cases e : j = q
            · subst e; exact c2
            · exact zlt_tr c2 (ho.2.2 q j (by omega) b)⟩
    obtain ⟨q, hq, h1, h2⟩ := find 0 (Nat.zero_le m) (fun j hj => by omega)
    exact ⟨fun j => if j < q then o j else if j = q then m else o (j - 1), ho.ins hq h1 h2 (fun j _ => rfl)⟩
