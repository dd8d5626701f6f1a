/-! ===== for the fan's questions ===== -/
theorem zRep_same {t t2 : Nat} {mo fa mo2 fa2 c c2 : Nat → Int} (h : zRep t mo fa c) (h2 : zRep t2 mo2 fa2 c2) : (t = t2 ∧ ∀ j, j < t → mo j = mo2 j ∧ fa j = fa2 j) ↔ ∀ x, c x = c2 x := by
  constructor
  · rintro ⟨rfl, e⟩ x
    by_cases c0 : c x = 0
    · by_cases c1 : c2 x = 0
      · rw [c0, c1]
      · obtain ⟨j, hj, ej⟩ := h2.2.2 x c1
        have a := (h.1 j hj).2.2.2
        have b := (h.1 j hj).2.2.1
        rw [(e j hj).1, ej, Int.toNat_natCast, c0] at a
        exact absurd a.symm b
    · obtain ⟨j, hj, ej⟩ := h.2.2 x c0
      have a := (h.1 j hj).2.2.2
      have b := (h2.1 j hj).2.2.2
      rw [ej, Int.toNat_natCast] at a
      rw [← (e j hj).1, ej, Int.toNat_natCast] at b
      rw [a, b, (e j hj).2]
  · intro e
    -- the j-th monomials agree, one after another
    have key : ∀ (t t2 : Nat) (mo fa mo2 fa2 c c2 : Nat → Int), zRep t mo fa c → zRep t2 mo2 fa2 c2 → (∀ x, c x = c2 x) → ∀ j, j < t → j < t2 → (∀ i, i < j → mo i = mo2 i) → mo2 j ≤ mo j := by
      intro t t2 mo fa mo2 fa2 c c2 h h2 e j hj hj2 hi
      obtain ⟨b1, b2, b3, b4⟩ := h2.1 j hj2
      obtain ⟨i, hi2, ei⟩ := h.2.2 (mo2 j).toNat (by rw [e, b4]; exact b3)
      rw [Int.toNat_of_nonneg b1] at ei
      by_cases c1 : i < j
      · have := hi i c1
        have := h2.2.1 i j c1 hj2
        omega
      · have := h.le j i (by omega) hi2
        omega
    have same : ∀ j, j < t → j < t2 → mo j = mo2 j := by
      intro j
      induction j using Nat.strongRecOn with | _ j ih => ?_
      intro hj hj2
      have a := key t t2 mo fa mo2 fa2 c c2 h h2 e j hj hj2 (fun i hi => ih i hi (by omega) (by omega))
      have b := key t2 t mo2 fa2 mo fa c2 c h2 h (fun x => (e x).symm) j hj2 hj (fun i hi => (ih i hi (by omega) (by omega)).symm)
      omega
    have le : ∀ (t t2 : Nat) (mo fa mo2 fa2 c c2 : Nat → Int), zRep t mo fa c → zRep t2 mo2 fa2 c2 → (∀ x, c x = c2 x) → (∀ j, j < t → j < t2 → mo j = mo2 j) → t ≤ t2 := by
      intro t t2 mo fa mo2 fa2 c c2 h h2 e hs
      refine Nat.le_of_not_lt fun hlt => ?_
      obtain ⟨b1, b2, b3, b4⟩ := h.1 t2 hlt
      obtain ⟨i, hi, ei⟩ := h2.2.2 (mo t2).toNat (by rw [← e, b4]; exact b3)
      rw [Int.toNat_of_nonneg b1, ← hs i (by omega) hi] at ei
      have := h.2.1 i t2 hi hlt
      omega
    have ht : t = t2 := Nat.le_antisymm (le t t2 mo fa mo2 fa2 c c2 h h2 e same) (le t2 t mo2 fa2 mo fa c2 c h2 h (fun x => (e x).symm) (fun j a b => (same j b a).symm))
    refine ⟨ht, fun j hj => ⟨same j hj (by omega), ?_⟩⟩
    have a := (h.1 j hj).2.2.2
    have b := (h2.1 j (by omega)).2.2.2
    rw [← same j hj (by omega), ← e] at b
    rw [← a, ← b]
/-- a polynomial that no basis of a cone before k has -/
def znew (B : Nat → bT) (C : Nat → Int) (k : Nat) : Bool := (List.range k).all fun i => (List.range (B i).2.1).all fun a => !((List.range 81).all fun x => C x == (B i).2.2.2 a x)
theorem znew_iff {B : Nat → bT} {C : Nat → Int} {k : Nat} : znew B C k = true ↔ ∀ i, i < k → ∀ a, a < (B i).2.1 → ¬ ∀ x, x < 81 → C x = (B i).2.2.2 a x := by
  unfold znew
  rw [List.all_eq_true]
  constructor
  · intro h i hi a ha hx
    have h1 := h i (List.mem_range.mpr hi)
    rw [List.all_eq_true] at h1
    have h2 := h1 a (List.mem_range.mpr ha)
    have h3 : ((List.range 81).all fun x => C x == (B i).2.2.2 a x) = true := by
      rw [List.all_eq_true]
      intro x hx2
      rw [beq_iff_eq]
      exact hx x (List.mem_range.mp hx2)
    rw [h3] at h2
    cases h2
  · intro h i hi
    rw [List.all_eq_true]
    intro a ha
    cases hb : ((List.range 81).all fun x => C x == (B i).2.2.2 a x) with
    | false => rfl
    | true =>
      rw [List.all_eq_true] at hb
      exact absurd (fun x hx => by have := hb x (List.mem_range.mpr hx); rwa [beq_iff_eq] at this) (h i (List.mem_range.mp hi) a (List.mem_range.mp ha))
/-- how many polynomials of the first k cones are new -/
def zuc (B : Nat → bT) : Nat → Nat
  | 0 => 0
  | k + 1 => zuc B k + zcnt (fun a => znew B ((B k).2.2.2 a) k) (B k).2.1
theorem zuc_le {B : Nat → bT} {N : Nat} (h : ∀ i, i < N → (B i).2.1 ≤ 4) : ∀ k, k ≤ N → zuc B k ≤ 4 * k
  | 0, _ => Nat.le_refl 0
  | k + 1, hk => by
    have a := zuc_le h k (by omega)
    have b := zcnt_le (fun a => znew B ((B k).2.2.2 a) k) (B k).2.1
    have := h k (by omega)
    unfold zuc
    omega
/-- the greatest degree of the first k cones' first polynomials -/
def zgd (B : Nat → bT) (k : Nat) (g : Int) : Prop := 0 ≤ g ∧ g ≤ 16 ∧ (∀ i, i < k → ∀ a, a < (B i).2.1 → ∀ x : Nat, (B i).2.2.2 a x ≠ 0 → (x : Int) / 9 + (x : Int) % 9 ≤ g) ∧ (g = 0 ∨ ∃ i, i < k ∧ ∃ a, a < (B i).2.1 ∧ ∃ x : Nat, (B i).2.2.2 a x ≠ 0 ∧ g = (x : Int) / 9 + (x : Int) % 9)
theorem zgd.uniq {B : Nat → bT} {k : Nat} {g g' : Int} (h : zgd B k g) (h' : zgd B k g') : g = g' := by
  have le : ∀ g g', zgd B k g → zgd B k g' → g ≤ g' := fun g g' h h' => by
    rcases h.2.2.2 with e | ⟨i, hi, a, ha, x, hx, e⟩
    · rw [e]; exact h'.1
    · rw [e]; exact h'.2.2.1 i hi a ha x hx
  have := le g g' h h'
  have := le g' g h' h
  omega
/-- the greatest degree of a standard monomial, -1 if there is none -/
def zsd (H : Nat → Nat) : Nat → Int
  | 0 => -1
  | i + 1 => if 0 < H i then max (zsd H i) ((i : Int) + H i - 1) else zsd H i
theorem zsd_props (H : Nat → Nat) (hH : ∀ i, i < 9 → H i ≤ 8) : ∀ n, n ≤ 9 → (-1 ≤ zsd H n ∧ zsd H n ≤ 16) ∧ (∀ i, i < n → 0 < H i → (i : Int) + H i - 1 ≤ zsd H n) ∧ (zsd H n = -1 ∨ ∃ i, i < n ∧ 0 < H i ∧ zsd H n = (i : Int) + H i - 1)
  | 0, _ => ⟨⟨by unfold zsd; omega, by unfold zsd; omega⟩, fun i hi => by omega, Or.inl rfl⟩
  | n + 1, hn => by
    obtain ⟨a, b, c⟩ := zsd_props H hH n (by omega)
    have h8 := hH n (by omega)
    unfold zsd
    by_cases h0 : 0 < H n
    · rw [if_pos h0]
      refine ⟨by omega, fun i hi hp => ?_, ?_⟩
      · by_cases e : i = n
        · subst e; omega
        · have := b i (by omega) hp; omega
      · by_cases e : zsd H n ≤ (n : Int) + H n - 1
        · exact Or.inr ⟨n, by omega, h0, by omega⟩
        · rcases c with c | ⟨i, hi, hp, c⟩
          · omega
          · exact Or.inr ⟨i, by omega, hp, by omega⟩
    · rw [if_neg h0]
      refine ⟨a, fun i hi hp => ?_, c.imp id fun ⟨i, hi, q⟩ => ⟨i, by omega, q⟩⟩
      by_cases e : i = n
      · subst e; omega
      · exact b i (by omega) hp
theorem zsd_eq {H : Nat → Nat} {g : Int} (hH : ∀ i, i < 9 → H i ≤ 8) (h1 : -1 ≤ g) (h2 : ∀ i, i < 9 → 0 < H i → (i : Int) + H i - 1 ≤ g) (h3 : g = -1 ∨ ∃ i, i < 9 ∧ 0 < H i ∧ g = (i : Int) + H i - 1) : g = zsd H 9 := by
  obtain ⟨a, b, c⟩ := zsd_props H hH 9 (Nat.le_refl 9)
  have l1 : g ≤ zsd H 9 := by
    rcases h3 with e | ⟨i, hi, hp, e⟩
    · omega
    · have := b i hi hp; omega
  have l2 : zsd H 9 ≤ g := by
    rcases c with e | ⟨i, hi, hp, e⟩
    · omega
    · have := h2 i hi hp; omega
  omega
/-- the first place of the least of d 0 .. d k -/
def zfm (d : Nat → Int) : Nat → Nat
  | 0 => 0
  | k + 1 => if d (k + 1) < d (zfm d k) then k + 1 else zfm d k
theorem zfm_le (d : Nat → Int) : ∀ k, zfm d k ≤ k
  | 0 => Nat.le_refl 0
  | k + 1 => by
    have := zfm_le d k
    unfold zfm
    split <;> omega
theorem zRep.off {t : Nat} {mo fa c : Nat → Int} (h : zRep t mo fa c) {x : Nat} (hx : 81 ≤ x) : c x = 0 := by
  refine Classical.byContradiction fun h0 => ?_
  obtain ⟨j, hj, e⟩ := h.2.2 x h0
  have := (h.1 j hj).2.1
  omega
theorem zRep_81 {t t2 : Nat} {mo fa mo2 fa2 c c2 : Nat → Int} (h : zRep t mo fa c) (h2 : zRep t2 mo2 fa2 c2) : (∀ x, x < 81 → c x = c2 x) ↔ ∀ x, c x = c2 x :=
  ⟨fun e x => by
    by_cases hx : x < 81
    · exact e x hx
    · rw [h.off (by omega), h2.off (by omega)], fun e x _ => e x⟩
/-- a basis's picture, with functions for its polynomials -/
theorem baAt.open4 {h : zHp} {b c : Nat} {H cm : Nat → Nat} {ce : Nat → Nat → Int} {wt wb : Int} (hb : baAt h b H c cm ce wt wb) : ∃ (hf : Nat → Int) (rf : Nat → Option Nat) (pi t : Nat → Nat) (mo fa : Nat → Nat → Int),
    h b = some (.inl (8, [.inr (some (b + 1)), .inl (c : Int), .inr (some (b + 2)), .inl wt, .inl wb])) ∧ zar h (b + 1) 9 hf ∧ h (b + 2) = some (.inr (.inr (1, 4, rf))) ∧ (∀ i, i < 9 → hf i = (H i : Int)) ∧ (∀ i, i < 4 → rf i = some (b + 3 * pi i + 3)) ∧
    (∀ a, a < c → h (b + 3 * pi a + 3) = some (.inl (1, [.inl (cm a : Int), .inl (t a : Int), .inr (some (b + 3 * pi a + 4)), .inr (some (b + 3 * pi a + 5))]))) ∧ (∀ a, a < c → h (b + 3 * pi a + 4) = some (.inr (.inl (0, 9, mo a))) ∧ h (b + 3 * pi a + 5) = some (.inr (.inl (0, 9, fa a))) ∧ t a ≤ 9) ∧ ∀ a, a < c → zRep (t a) (mo a) (fa a) (ce a) := by
  obtain ⟨hf, rf, pi, h1, h2, h3, h4, h5, h6, h7, h8⟩ := hb
  obtain ⟨t, mo, fa, hp⟩ := baAt.polys h7
  exact ⟨hf, rf, pi, t, mo, fa, h1, h2, h3, h4, h5, fun a ha => (hp a ha).1.1, fun a ha => ⟨(hp a ha).1.2.1, (hp a ha).1.2.2.1, (hp a ha).1.2.2.2⟩, fun a ha => (hp a ha).2⟩
