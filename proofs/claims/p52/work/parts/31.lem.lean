/-! ===== for compute ===== -/
theorem zSrt.opn {S : gS} {cm : Nat → Nat} {ce : Nat → Nat → Int} {x : Nat} (h : zSrt S cm ce) : (∀ a, a < S.2.1 → ¬ zdv (cm a) x) ↔ ∀ b, b < S.2.1 → ¬ zdv (S.2.2.1 b) x := by
  constructor
  · intro q b hb
    obtain ⟨a, ha, e⟩ := h.2.1 b hb
    rw [← e]; exact q a ha
  · intro q a ha
    obtain ⟨b, hb, e, -⟩ := h.1 a ha
    rw [e]; exact q b hb
theorem baAt.congr {h : zHp} {b c c' : Nat} {H H' cm cm' : Nat → Nat} {ce ce' : Nat → Nat → Int} {wt wb : Int} (hb : baAt h b H c cm ce wt wb) (e1 : ∀ i, i < 9 → H i = H' i) (e2 : c = c') (e3 : ∀ a, a < c → cm a = cm' a ∧ ce a = ce' a) : baAt h b H' c' cm' ce' wt wb := by
  subst e2
  obtain ⟨hf, rf, pi, b0, b1, b2, b3, b4, b5, b6, b7⟩ := hb
  exact ⟨hf, rf, pi, b0, b1, b2, fun i hi => by rw [← e1 i hi]; exact b3 i hi, b4, b5, fun a ha => by rw [← (e3 a ha).1, ← (e3 a ha).2]; exact b6 a ha, b7⟩
theorem zPair.congr {c : Nat} {cm cm' : Nat → Nat} {ce ce' : Nat → Nat → Int} (e : ∀ a, a < c → cm a = cm' a ∧ ce a = ce' a) {w : Nat × Nat} (h : IsW (zPair c cm ce) w) : IsW (zPair c cm' ce') w := by
  obtain ⟨t, b, h1, h2, h3, h4, h5⟩ := h
  refine ⟨t, b, h1, h2, h3, h4.ext fun x y => ?_, h5⟩
  constructor
  · rintro ⟨a, ha, q, q1, q2⟩
    exact ⟨a, ha, q, by rw [← (e a ha).2]; exact q1, by rw [← (e a ha).1]; exact q2⟩
  · rintro ⟨a, ha, q, q1, q2⟩
    exact ⟨a, ha, q, by rw [(e a ha).2]; exact q1, by rw [(e a ha).1]; exact q2⟩
/-- a term with a greater y exponent than the corner's has a smaller x exponent -/
theorem RI.pos {p : Int} {s : Nat} {xs ys : Nat → Int} {u v tie : Int} {o : Nat → Nat} {k : Nat} {S : gS} {cm : Nat → Nat} {ce : Nat → Nat → Int} (h : RI p s xs ys u v tie o k S) (hu : 0 ≤ u) (hv : 0 ≤ v) (hso : zSrt S cm ce) : ∀ a, a < S.2.1 → ∀ q : Nat, ce a q ≠ 0 → cm a % 9 < q % 9 → q / 9 < cm a / 9 := by
  intro a ha q hq h1
  obtain ⟨b, hb, e1, e2⟩ := hso.1 a ha
  rw [e2] at hq
  rcases ((h.2.2.2.2.2.2 b hb).2 q).2.2 hq with e | ⟨-, hl⟩
  · rw [e1, e] at h1; omega
  · refine Nat.lt_of_not_le fun hc => ?_
    rw [e1] at h1 hc
    exact zlt_as hl (zlt_dv hu hv ⟨hc, by omega⟩ (fun e => by rw [e] at h1; omega))
theorem enew_false {p : Int} {s : Nat} {xs ys : Nat → Int} {E : eT} {m : Nat} (h : ∀ k, k < s → erd p E (zvec p xs ys m) k = 0) : enew p s xs ys E m = false := decide_eq_false (zfst_end h)
theorem enew_true {p : Int} {s : Nat} {xs ys : Nat → Int} {E : eT} {m q : Nat} (h : q < s ∧ erd p E (zvec p xs ys m) q ≠ 0 ∧ ∀ i, i < q → erd p E (zvec p xs ys m) i = 0) : enew p s xs ys E m = true := decide_eq_true (by rw [zfst_eq h.1 h.2.1 h.2.2]; exact h.1)
theorem baAt.setw {h h' : zHp} {b c : Nat} {H cm : Nat → Nat} {ce : Nat → Nat → Int} {wt wb wt' wb' : Int} (hc : c ≤ 4) (hb : baAt h b H c cm ce wt wb) (f0 : h' b = some (.inl (8, [.inr (some (b + 1)), .inl (c : Int), .inr (some (b + 2)), .inl wt', .inl wb']))) (hf : ∀ q, b ≤ q → q < b + 15 → q ≠ b → h' q = h q) : baAt h' b H c cm ce wt' wb' := by
  obtain ⟨hh, rf, pi, h1, h2, h3, h4, h5, h6, h7, h8⟩ := hb
  refine ⟨hh, rf, pi, f0, (hf _ (by omega) (by omega) (by omega)).trans h2, (hf _ (by omega) (by omega) (by omega)).trans h3, h4, h5, h6, fun a ha => ?_, fun i hi => (h8 i hi).frame (fun q a1 a2 => hf q (by omega) (by omega) (by omega))⟩
  obtain ⟨t, mo, fa, q1, q2⟩ := h7 a ha
  have := h6.1 a (by omega)
  exact ⟨t, mo, fa, q1.frame (fun q a1 a2 => hf q (by omega) (by omega) (by omega)), q2⟩
theorem baAt.seth {h h' : zHp} {b c : Nat} {H H' cm : Nat → Nat} {ce : Nat → Nat → Int} {wt wb : Int} {hf' : Nat → Int} (hc : c ≤ 4) (hb : baAt h b H c cm ce wt wb) (f1 : zar h' (b + 1) 9 hf') (e : ∀ i, i < 9 → hf' i = (H' i : Int)) (hf : ∀ q, b ≤ q → q < b + 15 → q ≠ b + 1 → h' q = h q) : baAt h' b H' c cm ce wt wb := by
  obtain ⟨hh, rf, pi, h1, h2, h3, h4, h5, h6, h7, h8⟩ := hb
  refine ⟨hf', rf, pi, (hf _ (by omega) (by omega) (by omega)).trans h1, f1, (hf _ (by omega) (by omega) (by omega)).trans h3, e, h5, h6, fun a ha => ?_, fun i hi => (h8 i hi).frame (fun q a1 a2 => hf q (by omega) (by omega) (by omega))⟩
  obtain ⟨t, mo, fa, q1, q2⟩ := h7 a ha
  have := h6.1 a (by omega)
  exact ⟨t, mo, fa, q1.frame (fun q a1 a2 => hf q (by omega) (by omega) (by omega)), q2⟩
