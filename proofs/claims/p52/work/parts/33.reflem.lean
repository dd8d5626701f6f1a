/-! ===== the reference's object; facts for its methods ===== -/
abbrev mOb (m : Nat) (p s fk z c cn ln en ax nu wr sv sp ss : Int) : List zV := [.inl p, .inl s, .inr (some (m + 1)), .inr (some (m + 2)), .inr (some (m + 3)), .inl fk, .inr (some (m + 4)), .inr (some (m + 5)), .inl z, .inr (some (m + 6)), .inr (some (m + 7)), .inr (some (m + 8)), .inr (some (m + 9)), .inr (some (m + 10)), .inr (some (m + 11)), .inr (some (m + 12)), .inl c, .inr (some (m + 13)), .inr (some (m + 14)), .inl cn, .inr (some (m + 15)), .inr (some (m + 16)), .inr (some (m + 17)), .inr (some (m + 18)), .inr (some (m + 19)), .inr (some (m + 20)), .inr (some (m + 21)), .inr (some (m + 22)), .inr (some (m + 23)), .inr (some (m + 24)), .inl ln, .inl en, .inl ax, .inl nu, .inr (some (m + 25)), .inl wr, .inr (some (m + 26)), .inr (some (m + 27)), .inr (some (m + 28)), .inr (some (m + 29)), .inl sv, .inl sp, .inl ss, .inr (some (m + 30)), .inr (some (m + 31)), .inr (some (m + 32))]
theorem zmulS {u d : Int} (h1 : 0 ≤ u ∧ u ≤ 99) (h2 : -8 ≤ d ∧ d ≤ 8) : -792 ≤ u * d ∧ u * d ≤ 792 := by
  by_cases c : 0 ≤ d
  · have := zmul_le h1.1 h1.2 c h2.2; omega
  · have := zmul_le h1.1 h1.2 (show 0 ≤ -d by omega) (show -d ≤ 8 by omega)
    rw [Int.mul_neg] at this; omega
theorem zwt_diff {u v : Int} {m n : Nat} : u * ((m : Int) / 9 - (n : Int) / 9) + v * ((m : Int) % 9 - (n : Int) % 9) = zwt u v m - zwt u v n := by
  unfold zwt
  push_cast
  rw [Int.mul_sub, Int.mul_sub]
  omega
theorem zone_mod {p : Int} (hp : 1 < p) : 1 % p = 1 := Int.emod_eq_of_lt (by omega) hp
theorem zsub_mod {p w f x : Int} : (w - f * x) % p = (w + (p - f) * x) % p := ((zc.md (p := p) _).sy.tr (zstep_c (p := p) w f x)).sy.emod
theorem zneg_unit {p c u : Int} : (-c * u) % p = ((p - u) * c) % p := by
  have : zc p (-c * u) ((p - u) * c) := ⟨-c, by grind⟩
  exact this.emod
def rfOK (s : Nat) (S : gS) (iS sd re cb pv co po : Nat → Int) : Prop := (∀ x, x < 81 → iS x = (if stdB S.1 x = true then 1 else 0)) ∧
  (∀ r, r < S.1.1 → sd r = (eM S.1 r : Int) ∧ pv r = (eP S.1 r : Int) ∧ (∀ k, k < s → re (8 * r + k) = eR S.1 r k) ∧ ∀ t, t < S.1.1 → cb (8 * r + t) = eO S.1 r t) ∧
  ∀ b, b < S.2.1 → co b = (S.2.2.1 b : Int) ∧ ∀ x, x < 81 → po (81 * b + x) = S.2.2.2 b x
/-- what a new row of combinations holds -/
def zrow (p u : Int) (z : Nat) (fa : Nat → Int) (t : Nat) : Int := if t < z then (p - u) * fa t % p else if t = z then u else 0
/-- onto, so different -/
theorem zinj {c : Nat} {pi : Nat → Nat} (h1 : ∀ a, a < c → pi a < c) (h2 : ∀ d, d < c → ∃ a, a < c ∧ pi a = d) : ∀ a d, a < c → d < c → a ≠ d → pi a ≠ pi d := by
  intro a d ha hd hne he
  -- an inverse that misses a would be into fewer
  have ch : ∀ x, ∃ y, x < c → y < c ∧ pi y = x ∧ y ≠ a := fun x => by
    by_cases hx : x < c
    · obtain ⟨y, hy, e⟩ := h2 x hx
      by_cases c1 : y = a
      · exact ⟨d, fun _ => ⟨hd, by rw [← he, ← c1, e], fun q => hne q.symm⟩⟩
      · exact ⟨y, fun _ => ⟨hy, e, c1⟩⟩
    · exact ⟨0, fun q => absurd q hx⟩
  have := zphp (c - 1) c (fun x => if (ch x).choose < a then (ch x).choose else (ch x).choose - 1) (fun x hx => by
    obtain ⟨q1, q2, q3⟩ := (ch x).choose_spec hx
    try dsimp only
    split <;> omega) (fun x y hxy hy => by
    obtain ⟨q1, q2, q3⟩ := (ch x).choose_spec (by omega)
    obtain ⟨r1, r2, r3⟩ := (ch y).choose_spec hy
    have hn : (ch x).choose ≠ (ch y).choose := fun e => by rw [e, r2] at q2; omega
    try dsimp only
    split
    · split <;> omega
    · split <;> omega)
  omega
theorem zswap_per {c l : Nat} {pi : Nat → Nat} (h1 : 1 ≤ l) (h2 : l < c) (h : (∀ a, a < c → pi a < c) ∧ ∀ d, d < c → ∃ a, a < c ∧ pi a = d) :
    (∀ a, a < c → (fun a => if a = l then pi (l - 1) else if a = l - 1 then pi l else pi a) a < c) ∧ ∀ d, d < c → ∃ a, a < c ∧ (fun a => if a = l then pi (l - 1) else if a = l - 1 then pi l else pi a) a = d := by
  refine ⟨fun a ha => ?_, fun d hd => ?_⟩
  · show (if a = l then pi (l - 1) else if a = l - 1 then pi l else pi a) < c
    split
    · exact h.1 _ (by omega)
    · split
      · exact h.1 _ h2
      · exact h.1 a ha
  · obtain ⟨a, ha, e⟩ := h.2 d hd
    by_cases c1 : a = l
    · exact ⟨l - 1, by omega, by show (if l - 1 = l then pi (l - 1) else if l - 1 = l - 1 then pi l else pi (l - 1)) = d; rw [if_neg (by omega), if_pos rfl, ← c1, e]⟩
    · by_cases c2 : a = l - 1
      · exact ⟨l, h2, by show (if l = l then pi (l - 1) else if l = l - 1 then pi l else pi l) = d; rw [if_pos rfl, ← c2, e]⟩
      · exact ⟨a, ha, by show (if a = l then pi (l - 1) else if a = l - 1 then pi l else pi a) = d; rw [if_neg c1, if_neg c2, e]⟩
theorem zswap_so {l k : Nat} {pi cm : Nat → Nat} (h1 : 1 ≤ l ∧ l ≤ k) (h : ∀ a d, a < d → d ≤ k → d ≠ l → cm (pi a) < cm (pi d)) (hl : cm (pi l) < cm (pi (l - 1))) :
    ∀ a d, a < d → d ≤ k → d ≠ l - 1 → cm ((fun a => if a = l then pi (l - 1) else if a = l - 1 then pi l else pi a) a) < cm ((fun a => if a = l then pi (l - 1) else if a = l - 1 then pi l else pi a) d) := by
  intro a d had hd hne
  show cm (if a = l then pi (l - 1) else if a = l - 1 then pi l else pi a) < cm (if d = l then pi (l - 1) else if d = l - 1 then pi l else pi d)
  by_cases c1 : d = l
  · subst c1
    rw [if_pos rfl, if_neg (show ¬ a = d by omega)]
    by_cases c2 : a = d - 1
    · rw [if_pos c2]; exact hl
    · rw [if_neg c2]; exact h a (d - 1) (by omega) (by omega) (by omega)
  · rw [if_neg c1, if_neg hne]
    by_cases c2 : a = l
    · rw [if_pos c2]; exact h (l - 1) d (by omega) hd c1
    · rw [if_neg c2]
      by_cases c3 : a = l - 1
      · rw [if_pos c3]; exact h l d (by omega) hd c1
      · rw [if_neg c3]; exact h a d had hd c1
