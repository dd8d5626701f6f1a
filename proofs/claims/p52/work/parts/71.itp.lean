/-! ===== interpolation has one answer ===== -/
theorem zsum_pick {f : Nat → Int} {r n : Nat} (hr : r < n) (h : ∀ k, k < n → k ≠ r → f k = 0) : zsum f n = f r := by
  obtain ⟨c, hc⟩ := zsum_one (p := 0) (f := f) hr (fun k hk hne => zc.of_eq (h k hk hne))
  rw [hc]; omega
theorem zsum_supp {c g : Nat → Int} {e : Nat → Nat} {n N : Nat} (he : ∀ t, t < n → e t < N) (hi : ∀ t t', t < t' → t' < n → e t ≠ e t') (hc : ∀ m, m < N → c m ≠ 0 → ∃ t, t < n ∧ e t = m) :
    zsum (fun m => c m * g m) N = zsum (fun t => c (e t) * g (e t)) n := by
  have h1 : zsum (fun m => c m * g m) N = zsum (fun m => zsum (fun t => if e t = m then c m * g m else 0) n) N := zsum_ext fun m hm => by
    by_cases h0 : c m = 0
    · rw [h0, Int.zero_mul]
      rw [zsum_ext (f' := fun _ => 0) fun t _ => by split <;> rfl, zsum_0]
    · obtain ⟨t, ht, et⟩ := hc m hm h0
      rw [zsum_pick (f := fun t => if e t = m then c m * g m else 0) ht (fun t' ht' hne => if_neg fun q => by
        by_cases a : t < t'
        · exact hi t t' a ht' (et.trans q.symm)
        · exact hi t' t (by omega) ht (q.trans et.symm))]
      rw [if_pos et]
  rw [h1, zsum_swap]
  refine zsum_ext fun t ht => ?_
  rw [zsum_pick (f := fun m => if e t = m then c m * g m else 0) (he t ht) (fun m _ hne => if_neg fun q => hne q.symm)]
  rw [if_pos rfl]
/-- the polynomial with residues as coefficients, on the standard monomials, with these values -/
def zint (P : pT) (H : Nat → Nat) (w C : Nat → Int) : Prop := (∀ m, 0 ≤ C m ∧ C m < P.1) ∧ (∀ m, C m ≠ 0 → m < 81 ∧ m % 9 < H (m / 9)) ∧ ∀ k, k < P.2.1 → zval P.1 (P.2.2.1 k) (P.2.2.2.1 k) C = w k
theorem pwf.dist {P : pT} (hP : pwf P) : ∀ i j, i < P.2.1 → j < P.2.1 → i ≠ j → ¬ (P.2.2.1 i = P.2.2.1 j ∧ P.2.2.2.1 i = P.2.2.2.1 j) := fun i j hi hj hne q => by
  by_cases a : i < j
  · exact hP.2.2.2.1 i j a hj q
  · exact hP.2.2.2.1 j i (by omega) hi ⟨q.1.symm, q.2.symm⟩
/-- cone k's standard set -/
noncomputable def pS (P : pT) (k : Nat) : gS := gfin P.1 P.2.1 P.2.2.1 P.2.2.2.1 (zfw P.1 P.2.1 P.2.2.1 P.2.2.2.1 k).1 (zfw P.1 P.2.1 P.2.2.1 P.2.2.2.1 k).2 1
theorem pS_RI {P : pT} (hP : pwf P) (k : Nat) : ∃ (u v : Int) (o : Nat → Nat), IsOrd u v 1 81 o ∧ RI P.1 P.2.1 P.2.2.1 P.2.2.2.1 u v 1 o 81 (pS P k) ∧ ColH (pS P k).1 (pB P k).1 := by
  have hw := zfw_bd (xs := P.2.2.1) (ys := P.2.2.2.1) hP.1 hP.2.1 k
  exact ⟨_, _, _, zord_is _ _ 1, gfin_RI hP.1 hP.2.1 hw.1 hw.2.2.1, (zbas_is hP.1 hP.2.1 hw.1 hw.2.2.1).1⟩
theorem pS_n {P : pT} (hP : pwf P) (k : Nat) : (pS P k).1.1 = P.2.1 := by
  obtain ⟨u, v, o, ho, hR, _⟩ := pS_RI hP k
  exact zfull hP.1 hP.2.1 hP.2.2.1 hP.dist hR ho
theorem zint.uniq {P : pT} (hP : pwf P) {k : Nat} {w C D : Nat → Int} (h : zint P (pB P k).1 w C) (h' : zint P (pB P k).1 w D) : ∀ m, C m = D m := by
  obtain ⟨u, v, o, ho, hR, hH⟩ := pS_RI hP k
  have hn := pS_n hP k
  obtain ⟨_, _, _, _, _, _, _, _, hm81, hinj⟩ := id hR.1
  have hstd : ∀ {C : Nat → Int}, zint P (pB P k).1 w C → ∀ m, m < 81 → C m ≠ 0 → ∃ t, t < P.2.1 ∧ eM (pS P k).1 t = m := fun {C} hC m hm hne => by
    have h1 := (hC.2.1 m hne).2
    have h2 := (hH.2 (m / 9) (m % 9) (by omega) (by omega)).mpr h1
    rw [show 9 * (m / 9) + m % 9 = m by omega] at h2
    obtain ⟨t, ht, e⟩ := stdB_iff.mp h2
    exact ⟨t, by omega, e⟩
  have hval : ∀ {C : Nat → Int}, zint P (pB P k).1 w C → ∀ q, q < P.2.1 → zc P.1 (zsum (fun t => C (eM (pS P k).1 t) * zvec P.1 P.2.2.1 P.2.2.2.1 (eM (pS P k).1 t) q) P.2.1) (w q) := fun {C} hC q hq => by
    rw [← hC.2.2 q hq]
    unfold zval
    refine zc.tr (zc.of_eq ?_) (zc.md _).sy
    exact (zsum_supp (g := fun m => zvec P.1 P.2.2.1 P.2.2.2.1 m q) (fun t ht => hm81 t (by omega)) (fun t t' a b => hinj t t' a (by omega)) (hstd hC)).symm
  have hz : ∀ t, t < P.2.1 → zc P.1 (C (eM (pS P k).1 t) - D (eM (pS P k).1 t)) 0 := fun t ht =>
    zindep hP.1 hP.2.1 hP.2.2.1 hP.dist hR ho (c := fun t => C (eM (pS P k).1 t) - D (eM (pS P k).1 t)) (fun q hq => by
      have h1 := (hval h q hq).sub (hval h' q hq)
      refine zc.tr (zc.of_eq ?_) (h1.tr (zc.of_eq (Int.sub_self _)))
      rw [show ∀ a b : Int, a - b = a + (-1) * b from fun a b => by omega, ← zsum_mul, ← zsum_add]
      exact zsum_ext fun t _ => by grind) ht
  intro m
  by_cases h0 : C m = 0 ∧ D m = 0
  · rw [h0.1, h0.2]
  · have hx : ∃ t, t < P.2.1 ∧ eM (pS P k).1 t = m := by
      by_cases h1 : C m = 0
      · have h2 : D m ≠ 0 := fun q => h0 ⟨h1, q⟩
        exact hstd h' m (h'.2.1 m h2).1 h2
      · exact hstd h m (h.2.1 m h1).1 h1
    obtain ⟨t, ht, e⟩ := hx
    have h3 := hz t ht
    rw [e] at h3
    exact zc.eq (by obtain ⟨c, hc⟩ := h3; exact ⟨c, by omega⟩) (h.1 m) (h'.1 m)
