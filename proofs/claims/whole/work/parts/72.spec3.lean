/-! ===== what the two interpolating calls answer ===== -/
noncomputable def pItp (P : pT) (k : Nat) (w : Nat → Int) : Nat → Int := Classical.epsilon (zint P (pB P k).1 w)
theorem pItp_eq {P : pT} (hP : pwf P) {k : Nat} {w C : Nat → Int} (h : zint P (pB P k).1 w C) : C = pItp P k w := by
  have h2 : zint P (pB P k).1 w (pItp P k w) := Classical.epsilon_spec ⟨C, h⟩
  exact funext (h.uniq hP h2)
noncomputable def s_it (P : pT) (k : Nat) (w : Nat → Int) : Int × pT := ((znz (pItp P k w) 81 : Int), pC P (pItp P k w))
theorem s_it_eq {P : pT} (hP : pwf P) {k : Nat} {w C : Nat → Int} (h : zint P (pB P k).1 w C) : s_it P k w = ((znz C 81 : Int), pC P C) := by
  unfold s_it
  rw [← pItp_eq hP h]
noncomputable def s_nf (P : pT) (i : Int) : Int × pT := if 0 ≤ i ∧ i < (pN P : Int) then s_it P i.toNat (fun q => zval P.1 (P.2.2.1 q) (P.2.2.2.1 q) P.2.2.2.2) else (-1, P)
noncomputable def s_ip (P : pT) (L : lT) (i k : Int) : Int × pT := if (0 ≤ i ∧ i < (pN P : Int)) ∧ sSl k then (if zami L k.toNat 1 = 0 then (if L.2.1 k.toNat = P.2.1 then s_it P i.toNat (fun q => L.2.2.1 k.toNat q % P.1) else (-9, P)) else (zami L k.toNat 1, P)) else (-1, P)
