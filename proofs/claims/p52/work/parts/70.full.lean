/-! ===== the standard monomials' values: as many as points, independent ===== -/
theorem zsum_swap (F : Nat → Nat → Int) (n : Nat) : ∀ m, zsum (fun k => zsum (fun t => F t k) n) m = zsum (fun t => zsum (fun k => F t k) m) n
  | 0 => by
    show 0 = zsum (fun t => 0) n
    rw [zsum_0]
  | m + 1 => by
    rw [zsum, zsum_swap F n m, ← zsum_add]
    exact zsum_ext fun t _ => by rw [zsum]
section FULL
variable {p : Int} {s : Nat} {xs ys : Nat → Int} {u v tie : Int} {o : Nat → Nat} {S : gS}
theorem zstd_dual (hR : RI p s xs ys u v tie o 81 S) (ho : IsOrd u v tie 81 o) {f : Nat → Int} (hf : ∀ t, t < S.1.1 → zc p (zsum (fun k => f k * zvec p xs ys (eM S.1 t) k) s) 0) : ∀ m, m < 81 → zc p (zsum (fun k => f k * zvec p xs ys m k) s) 0 := by
  intro m hm
  cases hb : stdB S.1 m with
  | true =>
    obtain ⟨t, ht, e⟩ := stdB_iff.mp hb
    rw [← e]; exact hf t ht
  | false =>
    obtain ⟨i, hi, e⟩ := ho.2.1 m hm
    obtain ⟨n, c, hn, _, hz⟩ := hR.2.2.1 i hi (by rw [e]; exact hb)
    rw [e] at hz
    have h1 : zc p (zsum (fun k => f k * zvec p xs ys m k) s) (zsum (fun k => zsum (fun t => c t * (f k * zvec p xs ys (eM S.1 t) k)) n) s) := zc.sum fun k hk => by
      refine ((zc.rf (f k)).mul (hz k hk)).tr (zc.of_eq ?_)
      rw [← zsum_mul]; exact zsum_ext fun t _ => by grind
    refine h1.tr ?_
    rw [zsum_swap]
    have h2 : zc p (zsum (fun t => zsum (fun k => c t * (f k * zvec p xs ys (eM S.1 t) k)) s) n) (zsum (fun _ => 0) n) := zc.sum fun t ht => by
      rw [zsum_mul]
      exact ((zc.rf _).mul (hf t (by omega))).tr (zc.of_eq (Int.mul_zero _))
    rwa [zsum_0] at h2
theorem zfull (hp : zprime p) (hs : s ≤ 8) (hb : ∀ k, k < s → (0 ≤ xs k ∧ xs k < p) ∧ (0 ≤ ys k ∧ ys k < p)) (hd : ∀ i j, i < s → j < s → i ≠ j → ¬ (xs i = xs j ∧ ys i = ys j)) (hR : RI p s xs ys u v tie o 81 S) (ho : IsOrd u v tie 81 o) : S.1.1 = s := by
  have h1 := hR.1.le
  refine Classical.byContradiction fun hn => ?_
  obtain ⟨f, ⟨k, hk, hf⟩, he⟩ := zhom hp s S.1.1 (fun t k => zvec p xs ys (eM S.1 t) k) (by omega)
  exact hf (zdual hp hs hb hd (zstd_dual hR ho he) hk)
theorem zindep (hp : zprime p) (hs : s ≤ 8) (hb : ∀ k, k < s → (0 ≤ xs k ∧ xs k < p) ∧ (0 ≤ ys k ∧ ys k < p)) (hd : ∀ i j, i < s → j < s → i ≠ j → ¬ (xs i = xs j ∧ ys i = ys j)) (hR : RI p s xs ys u v tie o 81 S) (ho : IsOrd u v tie 81 o)
    {c : Nat → Int} (hc : ∀ k, k < s → zc p (zsum (fun t => c t * zvec p xs ys (eM S.1 t) k) s) 0) {T : Nat} (hT : T < s) : zc p (c T) 0 := by
  have hE := zfull hp hs hb hd hR ho
  refine Classical.byContradiction fun hn => ?_
  obtain ⟨f, ⟨k, hk, hf⟩, he⟩ := zhom hp s (s - 1) (fun i k => zvec p xs ys (eM S.1 (if i = T then s - 1 else i)) k) (by omega)
  have h1 : ∀ t, t < s → t ≠ T → zc p (zsum (fun k => f k * zvec p xs ys (eM S.1 t) k) s) 0 := fun t ht hne => by
    by_cases e : t = s - 1
    · have := he T (by omega)
      rw [if_pos rfl, ← e] at this; exact this
    · have := he t (by omega)
      rw [if_neg hne] at this; exact this
  have h2 : zc p (zsum (fun k => f k * zsum (fun t => c t * zvec p xs ys (eM S.1 t) k) s) s) (zsum (fun _ => 0) s) := zc.sum fun k hk => ((zc.rf _).mul (hc k hk)).tr (zc.of_eq (Int.mul_zero _))
  rw [zsum_0] at h2
  have h3 : zsum (fun k => f k * zsum (fun t => c t * zvec p xs ys (eM S.1 t) k) s) s = zsum (fun t => c t * zsum (fun k => f k * zvec p xs ys (eM S.1 t) k) s) s := by
    rw [zsum_ext (f' := fun k => zsum (fun t => c t * (f k * zvec p xs ys (eM S.1 t) k)) s) fun k _ => by rw [← zsum_mul]; exact zsum_ext fun t _ => by grind]
    rw [zsum_swap]
    exact zsum_ext fun t _ => by rw [zsum_mul]
  rw [h3] at h2
  have h4 := (zsum_one (p := p) (f := fun t => c t * zsum (fun k => f k * zvec p xs ys (eM S.1 t) k) s) hT (fun t ht hne => ((zc.rf _).mul (h1 t ht hne)).tr (zc.of_eq (Int.mul_zero _)))).sy.tr h2
  have h5 : zc p (zsum (fun k => f k * zvec p xs ys (eM S.1 T) k) s) 0 := Classical.byContradiction fun q => zno_zero hp hn q h4
  exact hf (zdual hp hs hb hd (zstd_dual hR ho fun t ht => by
    by_cases e : t = T
    · rw [e]; exact h5
    · exact h1 t (by omega) e) hk)
end FULL
