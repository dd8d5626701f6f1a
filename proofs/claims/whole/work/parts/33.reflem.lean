/-! ===== the reference's object; facts for its methods ===== -/
abbrev mOb (m : Nat) (p s fk z c cn ln en ax nu wr sv sp ss : Int) : List zV := [.inl p, .inl s, .inr (some (m + 1)), .inr (some (m + 2)), .inr (some (m + 3)), .inl fk, .inr (some (m + 4)), .inr (some (m + 5)), .inl z, .inr (some (m + 6)), .inr (some (m + 7)), .inr (some (m + 8)), .inr (some (m + 9)), .inr (some (m + 10)), .inr (some (m + 11)), .inr (some (m + 12)), .inl c, .inr (some (m + 13)), .inr (some (m + 14)), .inl cn, .inr (some (m + 15)), .inr (some (m + 16)), .inr (some (m + 17)), .inr (some (m + 18)), .inr (some (m + 19)), .inr (some (m + 20)), .inr (some (m + 21)), .inr (some (m + 22)), .inr (some (m + 23)), .inr (some (m + 24)), .inl ln, .inl en, .inl ax, .inl nu, .inr (some (m + 25)), .inl wr, .inr (some (m + 26)), .inr (some (m + 27)), .inr (some (m + 28)), .inr (some (m + 29)), .inl sv, .inl sp, .inl ss, .inr (some (m + 30)), .inr (some (m + 31)), .inr (some (m + 32))]
theorem zmulS {u d : Int} (h1 : 0 ≤ u ∧ u ≤ 99) (h2 : -8 ≤ d ∧ d ≤ 8) : -792 ≤ u * d ∧ u * d ≤ 792 := by
  by_cases c : 0 ≤ d
  · have := zmul_le h1.1 h1.2 c h2.2; omega
  · have := zmul_le h1.1 h1.2 (show 0 ≤ -d by omega) (show -d ≤ 8 by omega)
    rw [Int.mul_neg] at this; omega
theorem zwt_diff {u v : Int} {m n : Nat} : u * ((m : Int) / 9 - (n : Int) / 9) + v * ((m : Int) % 9 - (n : Int) % 9) = zwt u v m - zwt u v n := by
  unfold zwt
  push_cast
  rw [Int.mul_sub, Int.mul_sub]
  omega
theorem zone_mod {p : Int} (hp : 1 < p) : 1 % p = 1 := Int.emod_eq_of_lt (by omega) hp
theorem zsub_mod {p w f x : Int} : (w - f * x) % p = (w + (p - f) * x) % p := ((zc.md (p := p) _).sy.tr (zstep_c (p := p) w f x)).sy.emod
theorem zneg_unit {p c u : Int} : (-c * u) % p = ((p - u) * c) % p := by
  have : zc p (-c * u) ((p - u) * c) := ⟨-c, by grind⟩
  exact this.emod
