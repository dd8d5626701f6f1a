/-! ===== the reference's state after a step ===== -/
section RFOK
variable {p : Int} {s : Nat} {S : gS} {iS sd re cb pv co po : Nat → Int}
theorem rfOK.start (h : ∀ x, x < 81 → iS x = 0) : rfOK s g0 iS sd re cb pv co po := by
  refine ⟨fun x hx => ?_, fun r hr => absurd hr (Nat.not_lt_zero r), fun b hb => absurd hb (Nat.not_lt_zero b)⟩
  rw [h x hx, if_neg]
  intro q
  obtain ⟨t, ht, -⟩ := stdB_iff.mp q
  exact absurd ht (Nat.not_lt_zero t)
theorem rfOK.cor {m : Nat} {C po' : Nat → Int} (h : rfOK s S iS sd re cb pv co po) (h1 : ∀ x, x < 81 → po' (81 * S.2.1 + x) = C x) (h2 : ∀ i, i < 81 * S.2.1 → po' i = po i) :
    rfOK s (S.1, S.2.1 + 1, zfu S.2.2.1 S.2.1 m, zfu S.2.2.2 S.2.1 C) iS sd re cb pv (zfu co S.2.1 (m : Int)) po' := by
  refine ⟨h.1, h.2.1, fun b hb => ?_⟩
  have hb' : b < S.2.1 + 1 := hb
  show zfu co S.2.1 (m : Int) b = ((zfu S.2.2.1 S.2.1 m b : Nat) : Int) ∧ ∀ x, x < 81 → po' (81 * b + x) = zfu S.2.2.2 S.2.1 C b x
  by_cases c : b = S.2.1
  · subst c; rw [zfu_self, zfu_self, zfu_self]; exact ⟨rfl, h1⟩
  · rw [zfu_ne c, zfu_ne c, zfu_ne c]
    obtain ⟨a1, a2⟩ := h.2.2 b (by omega)
    exact ⟨a1, fun x hx => by rw [h2 _ (by omega)]; exact a2 x hx⟩
theorem rfOK.std {xs ys X Y re' cb' : Nat → Int} {m q : Nat} {ve fa : Nat → Int} (h : rfOK s S iS sd re cb pv co po) (hI : EInv p s X Y S.1) (hs : s ≤ 8) (hz : S.1.1 < s) (hm : m < 81)
    (kq : q < s ∧ erd p S.1 (zvec p X Y m) q ≠ 0 ∧ ∀ i, i < q → erd p S.1 (zvec p X Y m) i = 0) (hv : ∀ k, k < s → ve k = erd p S.1 (zvec p X Y m) k) (hf : ∀ t, t < S.1.1 → fa t = ecb p S.1 (zvec p X Y m) t)
    (k1 : ∀ k, k < s → re' (8 * S.1.1 + k) = zinv p (ve q) * ve k % p) (k2 : ∀ i, i < 8 * S.1.1 → re' i = re i) (k3 : ∀ t, t < s → cb' (8 * S.1.1 + t) = zrow p (zinv p (ve q)) S.1.1 fa t) (k4 : ∀ r, r < S.1.1 → cb' (8 * r + S.1.1) = 0)
    (k5 : ∀ r t, r < S.1.1 → t < S.1.1 → cb' (8 * r + t) = cb (8 * r + t)) : rfOK s (eadd p s X Y S.1 m, S.2) (zfu iS m 1) (zfu sd S.1.1 (m : Int)) re' cb' (zfu pv S.1.1 (q : Int)) co po := by
  have hq : zfst (erd p S.1 (zvec p X Y m)) s = q := zfst_eq kq.1 kq.2.1 kq.2.2
  refine ⟨fun x hx => ?_, fun r hr => ?_, h.2.2⟩
  · have st : stdB (eadd p s X Y S.1 m) x = true ↔ stdB S.1 x = true ∨ x = m := stdB_keep
    show zfu iS m 1 x = (if stdB (eadd p s X Y S.1 m) x = true then 1 else 0)
    by_cases c : x = m
    · rw [if_pos (st.mpr (Or.inr c)), c, zfu_self]
    · rw [zfu_ne c, h.1 x hx]
      by_cases c2 : stdB S.1 x = true
      · rw [if_pos c2, if_pos (st.mpr (Or.inl c2))]
      · rw [if_neg c2, if_neg (fun y => (st.mp y).elim c2 c)]
  · have hr' : r < S.1.1 + 1 := hr
    show zfu sd S.1.1 (m : Int) r = ((zfu (eM S.1) S.1.1 m r : Nat) : Int) ∧ zfu pv S.1.1 (q : Int) r = ((zfu (eP S.1) S.1.1 (zfst (erd p S.1 (zvec p X Y m)) s) r : Nat) : Int) ∧ (∀ k, k < s → re' (8 * r + k) = (if r = S.1.1 then (fun k => zinv p (erd p S.1 (zvec p X Y m) (zfst (erd p S.1 (zvec p X Y m)) s)) * erd p S.1 (zvec p X Y m) k % p) else eR S.1 r) k) ∧
      ∀ t, t < S.1.1 + 1 → cb' (8 * r + t) = (if r = S.1.1 then (fun t => if t < S.1.1 then (p - zinv p (erd p S.1 (zvec p X Y m) (zfst (erd p S.1 (zvec p X Y m)) s))) * ecb p S.1 (zvec p X Y m) t % p else if t = S.1.1 then zinv p (erd p S.1 (zvec p X Y m) (zfst (erd p S.1 (zvec p X Y m)) s)) else 0) else eO S.1 r) t
    rw [hq]
    by_cases c : r = S.1.1
    · subst c
      simp only [zfu_self, if_true]
      refine ⟨trivial, trivial, fun k hk => by rw [k1 k hk, hv _ kq.1, hv k hk], fun t ht => ?_⟩
      rw [k3 t (by omega), zrow, hv _ kq.1]
      by_cases c1 : t < S.1.1
      · rw [if_pos c1, if_pos c1, hf t c1]
      · rw [if_neg c1, if_neg c1]
    · obtain ⟨a1, a2, a3, a4⟩ := h.2.1 r (by omega)
      rw [zfu_ne c, zfu_ne c, zfu_ne c, zfu_ne c, if_neg c, if_neg c]
      refine ⟨a1, a2, fun k hk => by rw [k2 _ (by omega)]; exact a3 k hk, fun t ht => ?_⟩
      by_cases c1 : t = S.1.1
      · subst c1; rw [k4 r (by omega), hI.2.2.2.2.2.1 r (by omega) _ (by omega)]
      · rw [k5 r t (by omega) (by omega)]; exact a4 t (by omega)
end RFOK
