/-! ===== GroebnerFan: interpolation: printed by wip/whole/gen/s_cl5.py ===== -/
theorem elAt.setv {h h' : zHp} {e pb s : Nat} {E : eT} {v : Nat → Int} (he : elAt h e pb s E) (hv : zar h' (e + 21) 8 v) (hf : ∀ q, e ≤ q → q < e + 23 → q ≠ e + 21 → h' q = h q) : elAt h' e pb s E := by
  obtain ⟨pv, em, va, cb, RR, OO, e0, e1, e2, e3, e4, e5, e6, e7, e8, e9⟩ := he
  exact ⟨pv, em, v, cb, RR, OO, (hf _ (by omega) (by omega) (by omega)).trans e0, (hf _ (by omega) (by omega) (by omega)).trans e1, (hf _ (by omega) (by omega) (by omega)).trans e2, (hf _ (by omega) (by omega) (by omega)).trans e3, (hf _ (by omega) (by omega) (by omega)).trans e4, hv, (hf _ (by omega) (by omega) (by omega)).trans e6, fun r hr => (hf _ (by omega) (by omega) (by omega)).trans (e7 r hr), fun r hr => (hf _ (by omega) (by omega) (by omega)).trans (e8 r hr), e9⟩
theorem gWrk.setE {h h' : zHp} {B s : Nat} {E : eT} (g : gWrk h B) (he : elAt h' (B + 11) (B + 1) s E) (hf : ∀ q, B + 34 ≤ q → q < B + 50 → h' q = h q) : gWrk h' B := by
  obtain ⟨-, ⟨u, v, t, w2⟩, H, c, cm, ce, wt, wb, w3, w4⟩ := g
  exact ⟨⟨s, E, he⟩, ⟨u, v, t, (hf _ (by omega) (by omega)).trans w2⟩, H, c, cm, ce, wt, wb, w3, w4.frame w3 (fun q a1 a2 => hf q (by omega) (by omega))⟩
set_option maxHeartbeats 4000000 in
set_option maxRecDepth 100000 in
theorem m_X1_keepStandardMonomials_14 {n0 n k : Nat} {g : Nat → zV} {h : zHp} {Q : Option zV → Nat → Nat → zHp → Prop} {ca e pb s0 kx c : Nat} {P : pT} {wt wb : Int} {xs ys hf : Nat → Int} {E0 : eT} (hP0 : h pb = some (.inl (6, [.inl P.1, .inl (P.2.1 : Int), .inr (some (pb + 1)), .inr (some (pb + 2))]))) (hP1 : h (pb + 1) = some (.inr (.inl (0, 8, xs)))) (hP2 : h (pb + 2) = some (.inr (.inl (0, 8, ys)))) (c0 : h ca = some (.inl (8, [.inr (some (ca + 1)), .inl (c : Int), .inr (some (ca + 2)), .inl wt, .inl wb]))) (c1 : h (ca + 1) = some (.inr (.inl (0, 9, hf)))) (hP : pwf P) (hX : ∀ k, k < P.2.1 → xs k = P.2.2.1 k ∧ ys k = P.2.2.2.1 k) (hH : ∀ i, i < 9 → hf i = ((pB P kx).1 i : Int) ∧ (pB P kx).1 i ≤ 8) (hel : elAt h e pb s0 E0) (hw : n0 ≤ e) (hd : (pb + 3 ≤ e ∨ e + 23 ≤ pb) ∧ (ca + 2 ≤ e ∨ e + 23 ≤ ca)) (hQ : ∀ (E' : eT) (h' : zHp), (EInv P.1 P.2.1 P.2.2.1 P.2.2.2.1 E') → (E'.1 = P.2.1) → (∀ t, t < E'.1 → eM E' t % 9 < (pB P kx).1 (eM E' t / 9)) → (elAt h' e pb P.2.1 E') → (∀ q : Nat, (q < e ∨ e + 23 ≤ q) → h' q = h q) → Q none n k h') : ∀ (d : Nat) (i : Nat) (j : Nat) (E : eT), 100 - (10 * i + j) = d → ∀ h1 : zHp, (elAt h1 e pb P.2.1 E) → (∀ q : Nat, (q < e ∨ e + 23 ≤ q) → h1 q = h q) → (i < 9 ∧ j ≤ (pB P kx).1 i) → (EInv P.1 P.2.1 P.2.2.1 P.2.2.2.1 E) → (∀ m, stdB E m = true ↔ (m < 9 * i + j ∧ m % 9 < (pB P kx).1 (m / 9))) → ZT n0 g mX1_keepStandardMonomials 14 [some (.inr (some e)), some (.inr (some ca)), some (.inl (i : Int)), some (.inl (j : Int))] [] n k h1 Q := by
  intro d
  induction d using Nat.strongRecOn with | _ d ih => ?_
  intro i j E hd0 h1 gel gfr hi hE hst
  subst hd0
  have hpb := hP.bd
  have hs := hP.2.1
  have hhi := hH i hi.1
  have gelo := gel
  obtain ⟨pv, em, va, cb, RR, OO, e0, e1, e2, e3, e4, e5, e6, e7, e8, e9⟩ := gel
  have hEle := hE.le
  have hstd : ∀ t, t < E.1 → eM E t % 9 < (pB P kx).1 (eM E t / 9) := fun t ht => ((hst _).mp (stdB_iff.mpr ⟨t, ht, rfl⟩)).2
  have red := elAt.red (p := P.1) (m := 9 * i + j) (xs := xs) (ys := ys) (RR := RR) (OO := OO) hX hE.1 (fun r hr => (e9 r hr).2.2)
  refine T_iload_n dX1_keepStandardMonomials_14 rfl ?_
  refine T_aload_n dX1_keepStandardMonomials_15 rfl ?_
  refine T_getfield dX1_keepStandardMonomials_16 zkf_2_43 ((gfr _ (by omega)).trans c0) rfl ?_
  refine T_iload_n dX1_keepStandardMonomials_19 rfl ?_
  refine T_ialoadN (m := i) dX1_keepStandardMonomials_20 ((gfr _ (by omega)).trans c1) rfl (by omega) ?_
  rw [hhi.1]
  refine T_icmp_ge dX1_keepStandardMonomials_21 (t := 41) rfl (fun c21 => ?_) (fun c21 => ?_)
  · refine T_iinc dX1_keepStandardMonomials_41 rfl ⟨by omega, by omega⟩ ?_
    refine T_goto dX1_keepStandardMonomials_44 (t := 6) rfl ?_
    refine T_iload_n dX1_keepStandardMonomials_6 rfl ?_
    refine T_bipush dX1_keepStandardMonomials_7 (by decide) ?_
    refine T_icmp_ge dX1_keepStandardMonomials_9 (t := 47) rfl (fun c9 => ?_) (fun c9 => ?_)
    · refine T_vret dX1_keepStandardMonomials_47 rfl ?_
      exact hQ E h1 hE (zkept_n hP (k := kx) hE (fun m hm hs2 => (hst m).mpr ⟨by
        by_cases e : m / 9 = i
        · rw [e] at hs2; omega
        · omega, hs2⟩)) hstd gelo gfr
    · refine T_iconst dX1_keepStandardMonomials_12 (by decide) ?_
      refine T_istore_n dX1_keepStandardMonomials_13 (Nat.le_of_ble_eq_true rfl) ?_
      exact ih _ (by omega) (i + 1) 0 E rfl _ gelo gfr (by omega) hE (fun m => (hst m).trans ⟨fun q => ⟨by omega, q.2⟩, fun q => ⟨by
            by_cases e : m / 9 = i
            · have := q.2; rw [e] at this; omega
            · omega, q.2⟩⟩) 
  · refine T_aload_n dX1_keepStandardMonomials_24 rfl ?_
    refine T_bipush dX1_keepStandardMonomials_25 (by decide) ?_
    refine T_iload_n dX1_keepStandardMonomials_27 rfl ?_
    refine T_imul dX1_keepStandardMonomials_28 ⟨by omega, by omega⟩ ?_
    refine T_iload_n dX1_keepStandardMonomials_29 rfl ?_
    refine T_iadd dX1_keepStandardMonomials_30 ⟨by omega, by omega⟩ ?_
    have hmd : (9 * i + j) % 9 = j ∧ (9 * i + j) / 9 = i := by omega
    have hnst : ∀ t, t < E.1 → eM E t ≠ 9 * i + j := fun t ht q => by have := ((hst _).mp (stdB_iff.mpr ⟨t, ht, rfl⟩)).1; omega
    refine T_callV dX1_keepStandardMonomials_31 zkm_2_48 (Or.inl rfl) rfl e0 ⟨Nat.le_of_ble_eq_true rfl, rfl⟩ rfl (Nat.le_of_ble_eq_true rfl) ?_
    refine m_X1_keepIfIndependent (m := ((9 * i) + j)) (piv := eP E) (RR := RR) (OO := OO) e0 ((gfr _ (by omega)).trans hP0) ((gfr _ (by omega)).trans hP1) ((gfr _ (by omega)).trans hP2) e1 e2 e3 e4 e5 e6 (by omega) hP.1 (fun k hk => by rw [(hX k hk).1]; exact (hP.2.2.1 k hk).1) (fun k hk => by rw [(hX k hk).2]; exact (hP.2.2.1 k hk).2) (by omega) (by omega) (by omega) (by omega) e7 e8 (fun r hr k hk => by rw [((e9 r hr).2.2 k hk).1]; exact hE.2.1 r hr k hk) (fun r hr k hk => by rw [((e9 r hr).2.2 k hk).2]; exact hE.2.2.1 r hr k) (fun r hr => ⟨(e9 r hr).1, hE.1 r hr⟩) (fun q hq hn => by rw [(red q hq).1] at hn; have := hE.lt hq hn; omega) (fun v'31 cb'31 hh31 k31a k31b f31a f31b fr31 => absurd (fun k hk => by rw [← (red k hk).1]; exact k31a k hk) (fun q => zkeep_new hP (k := kx) hE hstd (by omega) (by rw [hmd.1, hmd.2]; omega) hnst q)) (fun q31 v'31_2 cb'31_2 R'31 O'31 hh31 k31a_2 k31b_2 k31c k31d f31a_2 f31b_2 f31c f31d f31e f31f f31g fr31_2 => ?_)
    have kq : q31 < P.2.1 ∧ erd P.1 E (zvec P.1 P.2.2.1 P.2.2.2.1 (9 * i + j)) q31 ≠ 0 ∧ ∀ y, y < q31 → erd P.1 E (zvec P.1 P.2.2.1 P.2.2.2.1 (9 * i + j)) y = 0 := ⟨k31a_2.1, by rw [← (red _ k31a_2.1).1]; exact k31a_2.2.1, fun y hy => by rw [← (red y (by omega)).1]; exact k31a_2.2.2 y hy⟩
    have hz8 := hE.lt kq.1 kq.2.1
    refine T_pop dX1_keepStandardMonomials_34 ?_
    refine T_iinc dX1_keepStandardMonomials_35 rfl ⟨by omega, by omega⟩ ?_
    refine T_goto dX1_keepStandardMonomials_38 (t := 14) rfl ?_
    exact ih _ (by omega) i (j + 1) (eadd P.1 P.2.1 P.2.2.1 P.2.2.2.1 E (9 * i + j)) rfl _ (elAt.keep (h := h1) hs (by omega) hE e1 e2 e7 e8 e9 kq (fun k hk => by rw [k31b_2 k hk, (red _ kq.1).1, (red k hk).1]) (fun k hk hne => by rw [k31c k hk hne, (red _ kq.1).1, (red k hk).2]) (by rw [k31d, (red _ kq.1).1]) f31a_2 f31b_2 f31c f31d f31e f31f f31g fr31_2) (fun q q1 => ((fr31_2 _ (by omega) (by omega) (by omega) (by omega) (by omega) (by omega) (by omega)).trans (gfr q q1))) (by omega) (by
          have e := EInv.keep hP.1 hE (m := 9 * i + j) (by omega) hnst kq.1 kq.2.1
          rw [← zfst_eq kq.1 kq.2.1 kq.2.2] at e
          exact e) (fun m => by
          refine stdB_keep.trans ?_
          rw [hst m]
          constructor
          · rintro (q | q)
            · exact ⟨by omega, q.2⟩
            · rw [q, hmd.1, hmd.2]; omega
          · intro q
            by_cases e : m = 9 * i + j
            · exact Or.inr e
            · exact Or.inl ⟨by omega, q.2⟩) 
set_option maxHeartbeats 4000000 in
set_option maxRecDepth 100000 in
theorem m_X1_keepStandardMonomials {n0 n k : Nat} {g : Nat → zV} {h : zHp} {Q : Option zV → Nat → Nat → zHp → Prop} {ca e pb s0 kx c : Nat} {P : pT} {wt wb : Int} {xs ys hf : Nat → Int} {E0 : eT} (hP0 : h pb = some (.inl (6, [.inl P.1, .inl (P.2.1 : Int), .inr (some (pb + 1)), .inr (some (pb + 2))]))) (hP1 : h (pb + 1) = some (.inr (.inl (0, 8, xs)))) (hP2 : h (pb + 2) = some (.inr (.inl (0, 8, ys)))) (c0 : h ca = some (.inl (8, [.inr (some (ca + 1)), .inl (c : Int), .inr (some (ca + 2)), .inl wt, .inl wb]))) (c1 : h (ca + 1) = some (.inr (.inl (0, 9, hf)))) (hP : pwf P) (hX : ∀ k, k < P.2.1 → xs k = P.2.2.1 k ∧ ys k = P.2.2.2.1 k) (hH : ∀ i, i < 9 → hf i = ((pB P kx).1 i : Int) ∧ (pB P kx).1 i ≤ 8) (hel : elAt h e pb s0 E0) (hw : n0 ≤ e) (hd : (pb + 3 ≤ e ∨ e + 23 ≤ pb) ∧ (ca + 2 ≤ e ∨ e + 23 ≤ ca)) (hQ : ∀ (E' : eT) (h' : zHp), (EInv P.1 P.2.1 P.2.2.1 P.2.2.2.1 E') → (E'.1 = P.2.1) → (∀ t, t < E'.1 → eM E' t % 9 < (pB P kx).1 (eM E' t / 9)) → (elAt h' e pb P.2.1 E') → (∀ q : Nat, (q < e ∨ e + 23 ≤ q) → h' q = h q) → Q none n k h') : ZT n0 g mX1_keepStandardMonomials 0 (zloc mX1_keepStandardMonomials [.inr (some e), .inr (some ca)]) [] n k h Q := by
  show ZT n0 g mX1_keepStandardMonomials 0 [some (.inr (some e)), some (.inr (some ca)), none, none] [] n k h Q
  obtain ⟨pv, em, va, cb, RR, OO, e0, e1, e2, e3, e4, e5, e6, e7, e8, e9⟩ := (id hel)
  refine T_aload_n dX1_keepStandardMonomials_0 rfl ?_
  refine T_callV dX1_keepStandardMonomials_1 zkm_2_40 (Or.inl rfl) rfl e0 ⟨Nat.le_of_ble_eq_true rfl, rfl⟩ rfl (Nat.le_of_ble_eq_true rfl) ?_
  refine m_X1_restart e0 (by omega) (fun hh1 f1a fr1 => ?_)
  refine T_iconst dX1_keepStandardMonomials_4 (by decide) ?_
  refine T_istore_n dX1_keepStandardMonomials_5 (Nat.le_of_ble_eq_true rfl) ?_
  refine T_iload_n dX1_keepStandardMonomials_6 rfl ?_
  refine T_bipush dX1_keepStandardMonomials_7 (by decide) ?_
  refine T_icmp_ge dX1_keepStandardMonomials_9 (t := 47) rfl (fun hc => absurd hc (by decide)) (fun _ => ?_)
  refine T_iconst dX1_keepStandardMonomials_12 (by decide) ?_
  refine T_istore_n dX1_keepStandardMonomials_13 (Nat.le_of_ble_eq_true rfl) ?_
  exact m_X1_keepStandardMonomials_14 hP0 hP1 hP2 c0 c1 hP hX hH hel hw hd hQ _ 0 0 g0.1 rfl _ ⟨pv, em, va, cb, RR, OO, f1a, ((fr1 _ (by omega)).trans e1), ((fr1 _ (by omega)).trans e2), ((fr1 _ (by omega)).trans e3), ((fr1 _ (by omega)).trans e4), ((fr1 _ (by omega)).trans e5), ((fr1 _ (by omega)).trans e6), fun r hr => ((fr1 _ (by omega)).trans (e7 r hr)), fun r hr => ((fr1 _ (by omega)).trans (e8 r hr)), fun r hr => absurd hr (Nat.not_lt_zero r)⟩ (fun q q1 => ((fr1 _ (by omega)).trans (rfl))) ⟨by omega, Nat.zero_le _⟩ (EInv.empty _ rfl) (fun m => ⟨fun q => by obtain ⟨t, ht, -⟩ := stdB_iff.mp q; exact absurd ht (Nat.not_lt_zero t), fun q => absurd q.1 (Nat.not_lt_zero m)⟩) 
set_option maxHeartbeats 4000000 in
set_option maxRecDepth 100000 in
theorem m_X9_replaceByInterpolation_16 {n0 n k : Nat} {g : Nat → zV} {h : zHp} {Q : Option zV → Nat → Nat → zHp → Prop} {B : Nat} {P : pT} {V : Int × pT} {E : eT} {cu w : Nat → Int} (o0 : h B = some (.inl (10, [.inr (some (B + 1)), .inr (some (B + 4)), .inr (some (B + 6)), .inr (some (B + 9)), .inl V.1, .inr (some (B + 11)), .inr (some (B + 34)), .inr (some (B + 35)), .inr (some (B + 50)), .inr (some (B + 382)), .inr (some (B + 385)), .inr (some (B + 387))]))) (p0 : h (B + 1) = some (.inl (6, [.inl P.1, .inl (P.2.1 : Int), .inr (some (B + 2)), .inr (some (B + 3))]))) (c0 : h (B + 4) = some (.inl (7, [.inr (some (B + 5))]))) (c1 : h (B + 5) = some (.inr (.inl (0, 81, cu)))) (v0 : h (B + 32) = some (.inr (.inl (0, 8, w)))) (hP : pwf P) (hB : n0 ≤ B) (hE : EInv P.1 P.2.1 P.2.2.1 P.2.2.2.1 E) (hE2 : E.1 = P.2.1) (hel : elAt h (B + 11) (B + 1) P.2.1 E) (hw : ∀ q, q < P.2.1 → 0 ≤ w q ∧ w q < P.1) (hQ : ∀ (cu' : Nat → Int) (h' : zHp), (∀ x, x < 81 → cu' x = zsc (eM E) (ecb P.1 E w) P.2.1 x) → (zar h' (B + 5) 81 cu') → (elAt h' (B + 11) (B + 1) P.2.1 E) → (∀ q : Nat, q ≠ B + 5 → (q < B + 11 ∨ B + 34 ≤ q) → h' q = h q) → Q (some (.inl (znz (zsc (eM E) (ecb P.1 E w) P.2.1) 81 : Int))) n k h') : ∀ (d : Nat) (j : Nat) (u : Nat → Int) (v9 : Nat → Int) (cb9 : Nat → Int), P.2.1 - j = d → ∀ h1 : zHp, h1 (B + 5) = some (.inr (.inl (0, 81, u))) → h1 (B + 32) = some (.inr (.inl (0, 8, v9))) → h1 (B + 33) = some (.inr (.inl (0, 8, cb9))) → (∀ q : Nat, q ≠ (B + 5) → q ≠ (B + 32) → q ≠ (B + 33) → h1 q = h q) → (j ≤ P.2.1) → (∀ x, x < 81 → u x = zsc (eM E) (ecb P.1 E w) j x) → (∀ r, r < P.2.1 → cb9 r = ecb P.1 E w r) → ZT n0 g mX9_replaceByInterpolation 16 [some (.inr (some B)), some (.inl (j : Int))] [] n k h1 Q := by
  intro d
  induction d using Nat.strongRecOn with | _ d ih => ?_
  intro j u v9 cb9 hd0 h1 m1 m2 m3 hfr hj hu hcb
  subst hd0
  have hpb := hP.bd
  have hs := hP.2.1
  have hee := hel
  obtain ⟨pv, em, va, cb, RR, OO, e0, e1, e2, e3, e4, e5, e6, e7, e8, e9⟩ := id hel
  rw [hE2] at e0
  refine T_iload_n dX9_replaceByInterpolation_16 rfl ?_
  refine T_aload_n dX9_replaceByInterpolation_17 rfl ?_
  refine T_getfield dX9_replaceByInterpolation_18 zkf_10_38 ((hfr _ (by omega) (by omega) (by omega)).trans o0) rfl ?_
  refine T_getfield dX9_replaceByInterpolation_21 zkf_10_318 ((hfr _ (by omega) (by omega) (by omega)).trans e0) rfl ?_
  refine T_icmp_ge dX9_replaceByInterpolation_24 (t := 59) rfl (fun c24 => ?_) (fun c24 => ?_)
  · refine T_aload_n dX9_replaceByInterpolation_59 rfl ?_
    refine T_getfield dX9_replaceByInterpolation_60 zkf_10_19 ((hfr _ (by omega) (by omega) (by omega)).trans o0) rfl ?_
    refine T_callV dX9_replaceByInterpolation_63 zkm_10_228 (Or.inl rfl) rfl ((hfr _ (by omega) (by omega) (by omega)).trans c0) ⟨Nat.le_of_ble_eq_true rfl, rfl⟩ rfl (Nat.le_of_ble_eq_true rfl) ?_
    refine m_X6_countTerms ((hfr _ (by omega) (by omega) (by omega)).trans c0) m1  ?_
    refine T_iret dX9_replaceByInterpolation_66 rfl ?_
    have ej : j = P.2.1 := by omega
    subst ej
    have ez : (znz u 81 : Int) = znz (zsc (eM E) (ecb P.1 E w) P.2.1) 81 := by rw [znz_ext hu]
    rw [ez]
    exact hQ u h1 hu m1 ⟨pv, em, v9, cb9, RR, OO, by rw [hE2]; exact ((hfr _ (by omega) (by omega) (by omega)).trans e0), ((hfr _ (by omega) (by omega) (by omega)).trans e1), ((hfr _ (by omega) (by omega) (by omega)).trans e2), ((hfr _ (by omega) (by omega) (by omega)).trans e3), ((hfr _ (by omega) (by omega) (by omega)).trans e4), m2, m3, fun r hr => ((hfr _ (by omega) (by omega) (by omega)).trans (e7 r hr)), fun r hr => ((hfr _ (by omega) (by omega) (by omega)).trans (e8 r hr)), e9⟩ (fun q a1 a2 => ((hfr _ (by omega) (by omega) (by omega)).trans (rfl)))
  · refine T_aload_n dX9_replaceByInterpolation_27 rfl ?_
    refine T_getfield dX9_replaceByInterpolation_28 zkf_10_19 ((hfr _ (by omega) (by omega) (by omega)).trans o0) rfl ?_
    refine T_getfield dX9_replaceByInterpolation_31 zkf_10_222 ((hfr _ (by omega) (by omega) (by omega)).trans c0) rfl ?_
    refine T_aload_n dX9_replaceByInterpolation_34 rfl ?_
    refine T_getfield dX9_replaceByInterpolation_35 zkf_10_38 ((hfr _ (by omega) (by omega) (by omega)).trans o0) rfl ?_
    refine T_getfield dX9_replaceByInterpolation_38 zkf_10_319 ((hfr _ (by omega) (by omega) (by omega)).trans e0) rfl ?_
    refine T_iload_n dX9_replaceByInterpolation_41 rfl ?_
    refine T_ialoadN (m := j) dX9_replaceByInterpolation_42 ((hfr _ (by omega) (by omega) (by omega)).trans e4) rfl (by omega) ?_
    refine T_aload_n dX9_replaceByInterpolation_43 rfl ?_
    refine T_getfield dX9_replaceByInterpolation_44 zkf_10_38 ((hfr _ (by omega) (by omega) (by omega)).trans o0) rfl ?_
    refine T_getfield dX9_replaceByInterpolation_47 zkf_10_320 ((hfr _ (by omega) (by omega) (by omega)).trans e0) rfl ?_
    refine T_iload_n dX9_replaceByInterpolation_50 rfl ?_
    refine T_ialoadN (m := j) dX9_replaceByInterpolation_51 m3 rfl (by omega) ?_
    have hmj := hE.2.2.2.2.2.2.2.2.1 j (by omega)
    refine T_iastoreN (m := (eM E j)) dX9_replaceByInterpolation_52 m1 (e9 j (by omega)).2.1 (by omega) (by omega) ?_
    refine T_iinc dX9_replaceByInterpolation_53 rfl ⟨by omega, by omega⟩ ?_
    refine T_goto dX9_replaceByInterpolation_56 (t := 16) rfl ?_
    exact ih _ (by omega) (j + 1) _ _ _ rfl _ zup_self (zup_ne (by omega) m2) (zup_ne (by omega) m3) (fun q q0 q1 q2 => ((zup_nf q0).trans ((hfr _ q0 q1 q2).trans rfl))) (by omega) (fun x hx => by
          unfold zsc
          by_cases e : x = eM E j
          · rw [e, zfu_self, zfu_self]; exact hcb j (by omega)
          · rw [zfu_ne e, zfu_ne e]; exact hu x hx) hcb 
set_option maxHeartbeats 4000000 in
set_option maxRecDepth 100000 in
theorem m_X9_replaceByInterpolation {n0 n k : Nat} {g : Nat → zV} {h : zHp} {Q : Option zV → Nat → Nat → zHp → Prop} {B : Nat} {P : pT} {V : Int × pT} {E : eT} {cu w : Nat → Int} (o0 : h B = some (.inl (10, [.inr (some (B + 1)), .inr (some (B + 4)), .inr (some (B + 6)), .inr (some (B + 9)), .inl V.1, .inr (some (B + 11)), .inr (some (B + 34)), .inr (some (B + 35)), .inr (some (B + 50)), .inr (some (B + 382)), .inr (some (B + 385)), .inr (some (B + 387))]))) (p0 : h (B + 1) = some (.inl (6, [.inl P.1, .inl (P.2.1 : Int), .inr (some (B + 2)), .inr (some (B + 3))]))) (c0 : h (B + 4) = some (.inl (7, [.inr (some (B + 5))]))) (c1 : h (B + 5) = some (.inr (.inl (0, 81, cu)))) (v0 : h (B + 32) = some (.inr (.inl (0, 8, w)))) (hP : pwf P) (hB : n0 ≤ B) (hE : EInv P.1 P.2.1 P.2.2.1 P.2.2.2.1 E) (hE2 : E.1 = P.2.1) (hel : elAt h (B + 11) (B + 1) P.2.1 E) (hw : ∀ q, q < P.2.1 → 0 ≤ w q ∧ w q < P.1) (hQ : ∀ (cu' : Nat → Int) (h' : zHp), (∀ x, x < 81 → cu' x = zsc (eM E) (ecb P.1 E w) P.2.1 x) → (zar h' (B + 5) 81 cu') → (elAt h' (B + 11) (B + 1) P.2.1 E) → (∀ q : Nat, q ≠ B + 5 → (q < B + 11 ∨ B + 34 ≤ q) → h' q = h q) → Q (some (.inl (znz (zsc (eM E) (ecb P.1 E w) P.2.1) 81 : Int))) n k h') : ZT n0 g mX9_replaceByInterpolation 0 (zloc mX9_replaceByInterpolation [.inr (some B)]) [] n k h Q := by
  show ZT n0 g mX9_replaceByInterpolation 0 [some (.inr (some B)), none] [] n k h Q
  have hpb := hP.bd
  have hs := hP.2.1
  have hee := hel
  obtain ⟨pv, em, va, cb, RR, OO, e0, e1, e2, e3, e4, e5, e6, e7, e8, e9⟩ := id hel
  rw [hE2] at e0
  refine T_aload_n dX9_replaceByInterpolation_0 rfl ?_
  refine T_getfield dX9_replaceByInterpolation_1 zkf_10_38 o0 rfl ?_
  refine T_callV dX9_replaceByInterpolation_4 zkm_10_315 (Or.inl rfl) rfl e0 ⟨Nat.le_of_ble_eq_true rfl, rfl⟩ rfl (Nat.le_of_ble_eq_true rfl) ?_
  refine m_X1_reduceValues (piv := eP E) (RR := RR) (OO := OO) (s := P.2.1) (p := P.1) e0 p0 e1 e2 e3 v0 e6 hs hpb (by omega) (by omega) (by omega) e7 e8 (fun r hr k hk => by rw [((e9 r (by omega)).2.2 k hk).1]; exact hE.2.1 r (by omega) k hk) (fun r hr k hk => by rw [((e9 r (by omega)).2.2 k hk).2]; exact hE.2.2.1 r (by omega) k) (fun r hr => ⟨(e9 r (by omega)).1, hE.1 r (by omega)⟩) hw (fun v'4 cb'4 hh4 k4a k4b k4c f4a f4b fr4 => ?_)
  refine T_aload_n dX9_replaceByInterpolation_7 rfl ?_
  refine T_getfield dX9_replaceByInterpolation_8 zkf_10_19 ((fr4 _ (by omega) (by omega)).trans o0) rfl ?_
  refine T_callV dX9_replaceByInterpolation_11 zkm_10_96 (Or.inl rfl) rfl ((fr4 _ (by omega) (by omega)).trans c0) ⟨Nat.le_of_ble_eq_true rfl, rfl⟩ rfl (Nat.le_of_ble_eq_true rfl) ?_
  refine m_X6_clear ((fr4 _ (by omega) (by omega)).trans c0) ((fr4 _ (by omega) (by omega)).trans c1) (by omega) (fun f'11 hh11 k11a f11a fr11 => ?_)
  refine T_iconst dX9_replaceByInterpolation_14 (by decide) ?_
  refine T_istore_n dX9_replaceByInterpolation_15 (Nat.le_of_ble_eq_true rfl) ?_
  exact m_X9_replaceByInterpolation_16 o0 p0 c0 c1 v0 hP hB hE hE2 hel hw hQ _ 0 _ _ _ rfl _ f11a ((fr11 _ (by omega)).trans f4a) ((fr11 _ (by omega)).trans f4b) (fun q q0 q1 q2 => ((fr11 _ q0).trans ((fr4 _ q1 q2).trans rfl))) (by omega) (fun x hx => k11a x hx) (fun r hr => by
        rw [k4b r hr]
        unfold ecb
        rw [hE2]
        exact zrc_ext (fun _ _ => rfl) P.2.1 (fun r hr => ⟨rfl, hE.1 r (by omega)⟩) (fun r hr k hk => ((e9 r (by omega)).2.2 k hk).1) (fun r hr k hk => ((e9 r (by omega)).2.2 k hk).2) r hr) 
set_option maxHeartbeats 4000000 in
set_option maxRecDepth 100000 in
theorem m_X9_reduceToNormalForm_22 {n0 n k : Nat} {g : Nat → zV} {h : zHp} {Q : Option zV → Nat → Nat → zHp → Prop} {B lo : Nat} {P : pT} {L : lT} {I O : tT} {V : Int × pT} {nb vb N : Nat} {cb : Nat → Nat} {i : Int} (hP : pwf P) (hL : lwf L) (hI : iwf I) (hO : owf O) (hV : vwf V) (hB : n0 ≤ B) (hcl : clAt h B lo n P L I O V nb cb vb N) (hQ : ∀ (nb' : Nat) (cb' : Nat → Nat) (n' k' : Nat) (h' : zHp), (pwf (s_nf P i).2) → (nb ≤ nb') → (n ≤ n' ∧ n' ≤ n + 15 * (nb' - nb)) → (k' ≤ k + 110 * (nb' - nb)) → (∀ i, i < nb → cb' i = cb i) → (clAt h' B lo n' (s_nf P i).2 L I O V nb' cb' vb N) → (∀ q : Nat, (q < B ∨ (B + 396 ≤ q ∧ q < lo)) → h' q = h q) → Q (some (.inl ((s_nf P i).1))) n' k' h') : ∀ (d : Nat) (h9 : zHp) (n9 : Nat) (k9 : Nat) (nb9 : Nat) (cb9 : Nat → Nat) (E : eT) (kx : Nat) (q : Nat) (u : Nat → Int) (L2 : Option zV), P.2.1 - q = d → ∀ h1 : zHp, (elAt h1 (B + 11) (B + 1) P.2.1 E) → (zar h1 (B + 32) 8 u) → (∀ y : Nat, (y < B + 11 ∨ B + 34 ≤ y) → h1 y = h9 y) → (clAt h9 B lo n9 P L I O V nb9 cb9 vb N) → (∀ q : Nat, (q < B ∨ (B + 396 ≤ q ∧ q < lo)) → h9 q = h q) → (nb ≤ nb9) → (n ≤ n9 ∧ n9 ≤ n + 15 * (nb9 - nb)) → (k9 ≤ k + 110 * (nb9 - nb)) → (∀ i, i < nb → cb9 i = cb i) → (EInv P.1 P.2.1 P.2.2.1 P.2.2.2.1 E) → (E.1 = P.2.1) → (∀ t, t < E.1 → eM E t % 9 < (pB P kx).1 (eM E t / 9)) → (q ≤ P.2.1) → (s_nf P i = s_it P kx (fun x => zval P.1 (P.2.2.1 x) (P.2.2.2.1 x) P.2.2.2.2)) → (∀ x, x < q → u x = zval P.1 (P.2.2.1 x) (P.2.2.2.1 x) P.2.2.2.2) → ZT n0 g mX9_reduceToNormalForm 22 [some (.inr (some B)), some (.inl i), L2, some (.inl (q : Int))] [] n9 k9 h1 Q := by
  intro d
  induction d using Nat.strongRecOn with | _ d ih => ?_
  intro h9 n9 k9 nb9 cb9 E kx q u L2 hd0 h1 j0 j1 jfr cl9 hfr9 hc1 hc2 hc3 hc4 hE hE2 hE3 hq hfn hu
  subst hd0
  obtain ⟨o0, gp, gc, gsp, gsc, gw, gf, gi, go, gl, gsep, hlo⟩ := id cl9
  have hpb := hP.bd
  have gvb := go.vb
  have gcb := gf.co.2.2.1
  obtain ⟨xs, ys, p0, p1, p2, p3⟩ := id gp
  obtain ⟨cu, c0, c1, c2⟩ := id gc
  have hs8 := hP.2.1
  obtain ⟨pv0, em0, va0, cv0, RR0, OO0, y0, -⟩ := id j0
  have hfn9 := hfn
  refine T_iload_n dX9_reduceToNormalForm_22 rfl ?_
  refine T_aload_n dX9_reduceToNormalForm_23 rfl ?_
  refine T_getfield dX9_reduceToNormalForm_24 zkf_10_12 ((jfr _ (by omega)).trans o0) rfl ?_
  refine T_getfield dX9_reduceToNormalForm_27 zkf_10_109 ((jfr _ (by omega)).trans p0) rfl ?_
  refine T_icmp_ge dX9_reduceToNormalForm_30 (t := 60) rfl (fun c30 => ?_) (fun c30 => ?_)
  · refine T_aload_n dX9_reduceToNormalForm_60 rfl ?_
    refine T_callV dX9_reduceToNormalForm_61 zkm_10_242 (Or.inl rfl) rfl ((jfr _ (by omega)).trans o0) ⟨Nat.le_of_ble_eq_true rfl, rfl⟩ rfl (Nat.le_of_ble_eq_true rfl) ?_
    refine m_X9_replaceByInterpolation (E := E) (w := u) ((jfr _ (by omega)).trans o0) ((jfr _ (by omega)).trans p0) ((jfr _ (by omega)).trans c0) ((jfr _ (by omega)).trans c1) j1 hP hB hE hE2 j0 (fun x hx => by rw [hu x (by omega)]; exact zmod_bd _ _ (by omega)) (fun cu'61 hh61 k61a jc_61 je_61 jf_61 => ?_)
    refine T_iret dX9_reduceToNormalForm_64 rfl ?_
    have hz := zint_E hP (k := kx) hE hE2 hE3 (w := u) (fun x hx => by rw [hu x (by omega)]; exact zmod_bd _ _ (by omega))
    have hz2 : zint P (pB P kx).1 (fun x => zval P.1 (P.2.2.1 x) (P.2.2.2.1 x) P.2.2.2.2) (zsc (eM E) (ecb P.1 E u) P.2.1) := ⟨hz.1, hz.2.1, fun x hx => (hz.2.2 x hx).trans (hu x (by omega))⟩
    rw [hfn, s_it_eq hP hz2] at hQ
    exact hQ nb9 cb9 n9 k9 _ ⟨hP.1, hP.2.1, hP.2.2.1, hP.2.2.2.1, fun x _ => hz.1 x⟩ hc1 hc2 hc3 hc4 ⟨((jf_61 _ (by omega) (by omega)).trans ((jfr _ (by omega)).trans o0)), (gp.frame (fun y a1 a2 => (jf_61 y (by omega) (by omega)).trans (jfr y (by omega)))), ⟨cu'61, (jf_61 _ (by omega) (by omega)).trans ((jfr _ (by omega)).trans c0), jc_61, fun x hx => k61a x hx⟩, (gsp.frame (fun y a1 a2 => (jf_61 y (by omega) (by omega)).trans (jfr y (by omega)))), (gsc.frame (fun y a1 a2 => (jf_61 y (by omega) (by omega)).trans (jfr y (by omega)))), (gw.setE je_61 (fun y a1 a2 => (jf_61 y (by omega) (by omega)).trans (jfr y (by omega)))), (gFan.cur _ (gf.frame hP (Nat.le_refl _) (fun y a1 a2 => (jf_61 y (by omega) (by omega)).trans (jfr y (by omega))) (fun i hi y a1 a2 => by have := gcb i hi; exact (jf_61 y (by omega) (by omega)).trans (jfr y (by omega))))), (gi.frame (fun y a1 a2 => (jf_61 y (by omega) (by omega)).trans (jfr y (by omega)))), (go.frame (Nat.le_refl _) ((jf_61 _ (by omega) (by omega)).trans (jfr _ (by omega))) ((jf_61 _ (by omega) (by omega)).trans (jfr _ (by omega)))), (gl.frame (fun y a1 a2 => (jf_61 y (by omega) (by omega)).trans (jfr y (by omega)))), gsep, hlo⟩ (fun y hy => (jf_61 y (by omega) (by omega)).trans ((jfr y (by omega)).trans (hfr9 y hy)))
  · refine T_aload_n dX9_reduceToNormalForm_33 rfl ?_
    refine T_getfield dX9_reduceToNormalForm_34 zkf_10_38 ((jfr _ (by omega)).trans o0) rfl ?_
    refine T_getfield dX9_reduceToNormalForm_37 zkf_10_239 y0 rfl ?_
    refine T_iload_n dX9_reduceToNormalForm_40 rfl ?_
    refine T_aload_n dX9_reduceToNormalForm_41 rfl ?_
    refine T_getfield dX9_reduceToNormalForm_42 zkf_10_19 ((jfr _ (by omega)).trans o0) rfl ?_
    refine T_aload_n dX9_reduceToNormalForm_45 rfl ?_
    refine T_getfield dX9_reduceToNormalForm_46 zkf_10_12 ((jfr _ (by omega)).trans o0) rfl ?_
    refine T_iload_n dX9_reduceToNormalForm_49 rfl ?_
    have pj := p3 q (by omega)
    have wj := hP.2.2.1 q (by omega)
    refine T_callV dX9_reduceToNormalForm_50 zkm_10_231 (Or.inl rfl) rfl ((jfr _ (by omega)).trans c0) ⟨Nat.le_of_ble_eq_true rfl, rfl⟩ rfl (Nat.le_of_ble_eq_true rfl) ?_
    refine m_X6_valueAt ((jfr _ (by omega)).trans c0) ((jfr _ (by omega)).trans c1) ((jfr _ (by omega)).trans p0) ((jfr _ (by omega)).trans p1) ((jfr _ (by omega)).trans p2) hpb (by rw [pj.1]; exact wj.1) (by rw [pj.2]; exact wj.2) (fun m hm => by rw [c2 m hm]; have := hP.2.2.2.2 m hm; omega) (by omega) ?_
    refine T_iastoreN (m := q) dX9_reduceToNormalForm_53 j1 rfl (by omega) (by omega) ?_
    refine T_iinc dX9_reduceToNormalForm_54 rfl ⟨by omega, by omega⟩ ?_
    refine T_goto dX9_reduceToNormalForm_57 (t := 22) rfl ?_
    exact ih _ (by omega) h9 _ _ nb9 cb9 E kx (q + 1) _ _ rfl _ (j0.setv zup_self (fun y a1 a2 a3 => ((zup_nf (by omega)).trans (rfl)))) zup_self (fun y a1 => ((zup_nf (by omega)).trans (jfr y a1))) cl9 hfr9 hc1 hc2 hc3 hc4 hE hE2 hE3 (by omega) hfn (fun x hx => by
          by_cases e9 : x = q
          · rw [e9, zfu_self]
            rw [hval_eq hpb.1, pj.1, pj.2]; exact zval_ext c2
          · rw [zfu_ne e9]; exact hu x (by omega)) 
set_option maxHeartbeats 4000000 in
set_option maxRecDepth 100000 in
theorem m_X9_reduceToNormalForm {n0 n k : Nat} {g : Nat → zV} {h : zHp} {Q : Option zV → Nat → Nat → zHp → Prop} {B lo : Nat} {P : pT} {L : lT} {I O : tT} {V : Int × pT} {nb vb N : Nat} {cb : Nat → Nat} {i : Int} (hP : pwf P) (hL : lwf L) (hI : iwf I) (hO : owf O) (hV : vwf V) (hB : n0 ≤ B) (hcl : clAt h B lo n P L I O V nb cb vb N) (hQ : ∀ (nb' : Nat) (cb' : Nat → Nat) (n' k' : Nat) (h' : zHp), (pwf (s_nf P i).2) → (nb ≤ nb') → (n ≤ n' ∧ n' ≤ n + 15 * (nb' - nb)) → (k' ≤ k + 110 * (nb' - nb)) → (∀ i, i < nb → cb' i = cb i) → (clAt h' B lo n' (s_nf P i).2 L I O V nb' cb' vb N) → (∀ q : Nat, (q < B ∨ (B + 396 ≤ q ∧ q < lo)) → h' q = h q) → Q (some (.inl ((s_nf P i).1))) n' k' h') : ZT n0 g mX9_reduceToNormalForm 0 (zloc mX9_reduceToNormalForm [.inr (some B), .inl i]) [] n k h Q := by
  show ZT n0 g mX9_reduceToNormalForm 0 [some (.inr (some B)), some (.inl i), none, none] [] n k h Q
  obtain ⟨o0, gp, gc, gsp, gsc, gw, gf, gi, go, gl, gsep, hlo⟩ := id hcl
  have hpb := hP.bd
  have gvb := go.vb
  have gcb := gf.co.2.2.1
  refine T_aload_n dX9_reduceToNormalForm_0 rfl ?_
  refine T_iload_n dX9_reduceToNormalForm_1 rfl ?_
  refine T_callV dX9_reduceToNormalForm_2 zkm_10_173 (Or.inl rfl) rfl o0 ⟨Nat.le_of_ble_eq_true rfl, rfl⟩ rfl (Nat.le_of_ble_eq_true rfl) ?_
  refine m_X9_findCone  hP hL hI hO hV hB hcl (fun j2 nb'2 cb'2 n'2 k'2 hh2 k2a k2b k2c k2d k2e k2f pc_2 kn_2 pf_2 => ?_) (fun nb'2_2 cb'2_2 n'2_2 k'2_2 hh2 k2a_2 k2b_2 k2c_2 k2d_2 k2e_2 pc_2_2 kn_2_2 pf_2_2 => ?_)
  · obtain ⟨ke1, ke2, ke3⟩ := id kn_2
    obtain ⟨o0, -, -, -, -, -, gf9, -⟩ := id pc_2
    obtain ⟨cN44, ⟨cf, cf1, cf2⟩, -⟩ := gf9.co
    have hcf : ∀ i, i < pN P → cf i = some (cb'2 i) := fun i hi => cf2 i (by omega)
    have hNi := pN_is hP
    have hN1 := hNi.1
    have hN23 := hNi.2.1
    obtain ⟨hf, rf, pi, t, mo, fa, d0, d1, d2, d3, d4, d5, d6, d7⟩ := (ke3 j2 k2a).open4
    have dB := pB_facts hP j2
    obtain ⟨-, gp, gc, -, -, gw, -, -, -, gl, -, hlo⟩ := id pc_2
    obtain ⟨xs, ys, p0, p1, p2, p3⟩ := id gp
    obtain ⟨⟨s0, E0, w1⟩, -⟩ := id gw
    obtain ⟨pv9, em9, va9, cv9, RR9, OO9, yy0, -⟩ := id w1
    have hcd := (gf9.co.2.2.1 j2 (by omega)).1
    refine T_astore_n dX9_reduceToNormalForm_5 (Nat.le_of_ble_eq_true rfl) ?_
    refine T_aload_n dX9_reduceToNormalForm_6 rfl ?_
    refine T_ifnonnull dX9_reduceToNormalForm_7 (t := 12) rfl (fun _ _ => ?_) (fun hc => by cases hc)
    refine T_aload_n dX9_reduceToNormalForm_12 rfl ?_
    refine T_getfield dX9_reduceToNormalForm_13 zkf_10_38 o0 rfl ?_
    refine T_aload_n dX9_reduceToNormalForm_16 rfl ?_
    refine T_callV dX9_reduceToNormalForm_17 zkm_10_235 (Or.inl rfl) rfl yy0 ⟨Nat.le_of_ble_eq_true rfl, rfl⟩ rfl (Nat.le_of_ble_eq_true rfl) ?_
    refine m_X1_keepStandardMonomials (kx := j2) p0 p1 p2 d0 d1 hP p3 (fun x hx => ⟨d3 x hx, dB.2.1 x hx⟩) w1 (by omega) (by omega) (fun E'17 hh17 k17a k17b k17c pe_17 pf_17 => ?_)
    obtain ⟨o0, gp, gc, -⟩ := id pc_2
    obtain ⟨xs, ys, p0, p1, p2, p3⟩ := id gp
    obtain ⟨cu, c0, c1, c2⟩ := id gc
    obtain ⟨pv0, em0, va0, cv0, RR0, OO0, y0, y1, y2, y3, y4, y5, y6, y7⟩ := id pe_17
    refine T_iconst dX9_reduceToNormalForm_20 (by decide) ?_
    refine T_istore_n dX9_reduceToNormalForm_21 (Nat.le_of_ble_eq_true rfl) ?_
    exact m_X9_reduceToNormalForm_22 hP hL hI hO hV hB hcl hQ _ hh2 n'2 k'2 nb'2 cb'2 E'17 j2 0 va0 _ rfl _ pe_17 y5 (fun y a1 => pf_17 y (by omega)) pc_2 pf_2 k2c k2d k2e k2f k17a k17b k17c (by omega) (by unfold s_nf; rw [if_pos (by omega), show i.toNat = j2 by omega]) (fun i hi => absurd hi (Nat.not_lt_zero i)) 
  · refine T_astore_n dX9_reduceToNormalForm_5 (Nat.le_of_ble_eq_true rfl) ?_
    refine T_aload_n dX9_reduceToNormalForm_6 rfl ?_
    refine T_ifnonnull dX9_reduceToNormalForm_7 (t := 12) rfl (fun _ hc => by cases hc) (fun _ => ?_)
    refine T_iconst dX9_reduceToNormalForm_10 (by decide) ?_
    refine T_iret dX9_reduceToNormalForm_11 rfl ?_
    have e : s_nf P i = (-1, P) := if_neg k2a_2
    rw [e] at hQ
    exact hQ nb'2_2 cb'2_2 n'2_2 k'2_2 hh2 hP k2b_2 k2c_2 k2d_2 k2e_2 pc_2_2 pf_2_2
set_option maxHeartbeats 4000000 in
set_option maxRecDepth 100000 in
theorem m_X9_interpolate_68 {n0 n k : Nat} {g : Nat → zV} {h : zHp} {Q : Option zV → Nat → Nat → zHp → Prop} {B lo : Nat} {P : pT} {L : lT} {I O : tT} {V : Int × pT} {nb vb N : Nat} {cb : Nat → Nat} {i c : Int} (hP : pwf P) (hL : lwf L) (hI : iwf I) (hO : owf O) (hV : vwf V) (hB : n0 ≤ B) (hcl : clAt h B lo n P L I O V nb cb vb N) (hQ : ∀ (nb' : Nat) (cb' : Nat → Nat) (n' k' : Nat) (h' : zHp), (pwf (s_ip P L i c).2) → (nb ≤ nb') → (n ≤ n' ∧ n' ≤ n + 15 * (nb' - nb)) → (k' ≤ k + 110 * (nb' - nb)) → (∀ i, i < nb → cb' i = cb i) → (clAt h' B lo n' (s_ip P L i c).2 L I O V nb' cb' vb N) → (∀ q : Nat, (q < B ∨ (B + 396 ≤ q ∧ q < lo)) → h' q = h q) → Q (some (.inl ((s_ip P L i c).1))) n' k' h') : ∀ (d : Nat) (h9 : zHp) (n9 : Nat) (k9 : Nat) (nb9 : Nat) (cb9 : Nat → Nat) (E : eT) (kx : Nat) (q : Nat) (u : Nat → Int) (L3 : Option zV) (jx : Nat), P.2.1 - q = d → ∀ h1 : zHp, (elAt h1 (B + 11) (B + 1) P.2.1 E) → (zar h1 (B + 32) 8 u) → (∀ y : Nat, (y < B + 11 ∨ B + 34 ≤ y) → h1 y = h9 y) → (clAt h9 B lo n9 P L I O V nb9 cb9 vb N) → (∀ q : Nat, (q < B ∨ (B + 396 ≤ q ∧ q < lo)) → h9 q = h q) → (nb ≤ nb9) → (n ≤ n9 ∧ n9 ≤ n + 15 * (nb9 - nb)) → (k9 ≤ k + 110 * (nb9 - nb)) → (∀ i, i < nb → cb9 i = cb i) → (EInv P.1 P.2.1 P.2.2.1 P.2.2.2.1 E) → (E.1 = P.2.1) → (∀ t, t < E.1 → eM E t % 9 < (pB P kx).1 (eM E t / 9)) → (q ≤ P.2.1) → (s_ip P L i c = s_it P kx (fun x => L.2.2.1 jx x % P.1)) → (∀ x, x < q → u x = L.2.2.1 jx x % P.1) → (jx < 4 ∧ c = (jx : Int) ∧ L.1 jx = 1 ∧ L.2.1 jx = P.2.1) → ZT n0 g mX9_interpolate 68 [some (.inr (some B)), some (.inl i), some (.inl c), L3, some (.inr (some (B + 2 * jx + 388))), some (.inl (q : Int))] [] n9 k9 h1 Q := by
  intro d
  induction d using Nat.strongRecOn with | _ d ih => ?_
  intro h9 n9 k9 nb9 cb9 E kx q u L3 jx hd0 h1 j0 j1 jfr cl9 hfr9 hc1 hc2 hc3 hc4 hE hE2 hE3 hq hfn hu hjx
  subst hd0
  obtain ⟨o0, gp, gc, gsp, gsc, gw, gf, gi, go, gl, gsep, hlo⟩ := id cl9
  have hpb := hP.bd
  have gvb := go.vb
  have gcb := gf.co.2.2.1
  obtain ⟨xs, ys, p0, p1, p2, p3⟩ := id gp
  obtain ⟨cu, c0, c1, c2⟩ := id gc
  have hs8 := hP.2.1
  obtain ⟨pv0, em0, va0, cv0, RR0, OO0, y0, -⟩ := id j0
  have hfn9 := hfn
  obtain ⟨⟨rf, l0, l1⟩, l2⟩ := id gl
  obtain ⟨le, nu, sl0, sl1, sl2, sl3⟩ := l2 jx hjx.1
  obtain ⟨lw1, lw2, lw3⟩ := hL jx hjx.1
  obtain ⟨t1, t2⟩ := sl2 hjx.2.2.1
  refine T_iload dX9_interpolate_68 rfl ?_
  refine T_aload_n dX9_interpolate_70 rfl ?_
  refine T_getfield dX9_interpolate_71 zkf_10_12 ((jfr _ (by omega)).trans o0) rfl ?_
  refine T_getfield dX9_interpolate_74 zkf_10_109 ((jfr _ (by omega)).trans p0) rfl ?_
  refine T_icmp_ge dX9_interpolate_77 (t := 111) rfl (fun c77 => ?_) (fun c77 => ?_)
  · refine T_aload_n dX9_interpolate_111 rfl ?_
    refine T_callV dX9_interpolate_112 zkm_10_242 (Or.inl rfl) rfl ((jfr _ (by omega)).trans o0) ⟨Nat.le_of_ble_eq_true rfl, rfl⟩ rfl (Nat.le_of_ble_eq_true rfl) ?_
    refine m_X9_replaceByInterpolation (E := E) (w := u) ((jfr _ (by omega)).trans o0) ((jfr _ (by omega)).trans p0) ((jfr _ (by omega)).trans c0) ((jfr _ (by omega)).trans c1) j1 hP hB hE hE2 j0 (fun x hx => by rw [hu x (by omega)]; exact zmod_bd _ _ (by omega)) (fun cu'112 hh112 k112a jc_112 je_112 jf_112 => ?_)
    refine T_iret dX9_interpolate_115 rfl ?_
    have hz := zint_E hP (k := kx) hE hE2 hE3 (w := u) (fun x hx => by rw [hu x (by omega)]; exact zmod_bd _ _ (by omega))
    have hz2 : zint P (pB P kx).1 (fun x => L.2.2.1 jx x % P.1) (zsc (eM E) (ecb P.1 E u) P.2.1) := ⟨hz.1, hz.2.1, fun x hx => (hz.2.2 x hx).trans (hu x (by omega))⟩
    rw [hfn, s_it_eq hP hz2] at hQ
    exact hQ nb9 cb9 n9 k9 _ ⟨hP.1, hP.2.1, hP.2.2.1, hP.2.2.2.1, fun x _ => hz.1 x⟩ hc1 hc2 hc3 hc4 ⟨((jf_112 _ (by omega) (by omega)).trans ((jfr _ (by omega)).trans o0)), (gp.frame (fun y a1 a2 => (jf_112 y (by omega) (by omega)).trans (jfr y (by omega)))), ⟨cu'112, (jf_112 _ (by omega) (by omega)).trans ((jfr _ (by omega)).trans c0), jc_112, fun x hx => k112a x hx⟩, (gsp.frame (fun y a1 a2 => (jf_112 y (by omega) (by omega)).trans (jfr y (by omega)))), (gsc.frame (fun y a1 a2 => (jf_112 y (by omega) (by omega)).trans (jfr y (by omega)))), (gw.setE je_112 (fun y a1 a2 => (jf_112 y (by omega) (by omega)).trans (jfr y (by omega)))), (gFan.cur _ (gf.frame hP (Nat.le_refl _) (fun y a1 a2 => (jf_112 y (by omega) (by omega)).trans (jfr y (by omega))) (fun i hi y a1 a2 => by have := gcb i hi; exact (jf_112 y (by omega) (by omega)).trans (jfr y (by omega))))), (gi.frame (fun y a1 a2 => (jf_112 y (by omega) (by omega)).trans (jfr y (by omega)))), (go.frame (Nat.le_refl _) ((jf_112 _ (by omega) (by omega)).trans (jfr _ (by omega))) ((jf_112 _ (by omega) (by omega)).trans (jfr _ (by omega)))), (gl.frame (fun y a1 a2 => (jf_112 y (by omega) (by omega)).trans (jfr y (by omega)))), gsep, hlo⟩ (fun y hy => (jf_112 y (by omega) (by omega)).trans ((jfr y (by omega)).trans (hfr9 y hy)))
  · refine T_aload_n dX9_interpolate_80 rfl ?_
    refine T_getfield dX9_interpolate_81 zkf_10_38 ((jfr _ (by omega)).trans o0) rfl ?_
    refine T_getfield dX9_interpolate_84 zkf_10_239 y0 rfl ?_
    refine T_iload dX9_interpolate_87 rfl ?_
    refine T_aload_n dX9_interpolate_89 rfl ?_
    refine T_getfield dX9_interpolate_90 zkf_10_12 ((jfr _ (by omega)).trans o0) rfl ?_
    refine T_aload dX9_interpolate_93 rfl ?_
    refine T_getfield dX9_interpolate_95 zkf_10_258 ((jfr _ (by omega)).trans sl0) rfl ?_
    refine T_iload dX9_interpolate_98 rfl ?_
    refine T_ialoadN (m := q) dX9_interpolate_100 ((jfr _ (by omega)).trans sl1) rfl (by omega) ?_
    have t2q := t2 q (by omega)
    have w2q := (lw2 hjx.2.2.1).2 q (by omega)
    refine T_callV dX9_interpolate_101 zkm_10_225 (Or.inl rfl) rfl ((jfr _ (by omega)).trans p0) ⟨Nat.le_of_ble_eq_true rfl, rfl⟩ rfl (Nat.le_of_ble_eq_true rfl) ?_
    refine m_X5_residue ((jfr _ (by omega)).trans p0) hpb ⟨by omega, by omega⟩ ?_
    refine T_iastoreN (m := q) dX9_interpolate_104 j1 rfl (by omega) (by omega) ?_
    refine T_iinc dX9_interpolate_105 rfl ⟨by omega, by omega⟩ ?_
    refine T_goto dX9_interpolate_108 (t := 68) rfl ?_
    exact ih _ (by omega) h9 _ _ nb9 cb9 E kx (q + 1) _ _ jx rfl _ (j0.setv zup_self (fun y a1 a2 a3 => ((zup_nf (by omega)).trans (rfl)))) zup_self (fun y a1 => ((zup_nf (by omega)).trans (jfr y a1))) cl9 hfr9 hc1 hc2 hc3 hc4 hE hE2 hE3 (by omega) hfn (fun x hx => by
          by_cases e9 : x = q
          · rw [e9, zfu_self]
            rw [t2q]
          · rw [zfu_ne e9]; exact hu x (by omega)) hjx 
set_option maxHeartbeats 4000000 in
set_option maxRecDepth 100000 in
theorem m_X9_interpolate {n0 n k : Nat} {g : Nat → zV} {h : zHp} {Q : Option zV → Nat → Nat → zHp → Prop} {B lo : Nat} {P : pT} {L : lT} {I O : tT} {V : Int × pT} {nb vb N : Nat} {cb : Nat → Nat} {i c : Int} (hP : pwf P) (hL : lwf L) (hI : iwf I) (hO : owf O) (hV : vwf V) (hB : n0 ≤ B) (hcl : clAt h B lo n P L I O V nb cb vb N) (hQ : ∀ (nb' : Nat) (cb' : Nat → Nat) (n' k' : Nat) (h' : zHp), (pwf (s_ip P L i c).2) → (nb ≤ nb') → (n ≤ n' ∧ n' ≤ n + 15 * (nb' - nb)) → (k' ≤ k + 110 * (nb' - nb)) → (∀ i, i < nb → cb' i = cb i) → (clAt h' B lo n' (s_ip P L i c).2 L I O V nb' cb' vb N) → (∀ q : Nat, (q < B ∨ (B + 396 ≤ q ∧ q < lo)) → h' q = h q) → Q (some (.inl ((s_ip P L i c).1))) n' k' h') : ZT n0 g mX9_interpolate 0 (zloc mX9_interpolate [.inr (some B), .inl i, .inl c]) [] n k h Q := by
  show ZT n0 g mX9_interpolate 0 [some (.inr (some B)), some (.inl i), some (.inl c), none, none, none] [] n k h Q
  obtain ⟨o0, gp, gc, gsp, gsc, gw, gf, gi, go, gl, gsep, hlo⟩ := id hcl
  have hpb := hP.bd
  have gvb := go.vb
  have gcb := gf.co.2.2.1
  refine T_aload_n dX9_interpolate_0 rfl ?_
  refine T_iload_n dX9_interpolate_1 rfl ?_
  refine T_callV dX9_interpolate_2 zkm_10_173 (Or.inl rfl) rfl o0 ⟨Nat.le_of_ble_eq_true rfl, rfl⟩ rfl (Nat.le_of_ble_eq_true rfl) ?_
  refine m_X9_findCone  hP hL hI hO hV hB hcl (fun j2 nb'2 cb'2 n'2 k'2 hh2 k2a k2b k2c k2d k2e k2f pc_2 kn_2 pf_2 => ?_) (fun nb'2_2 cb'2_2 n'2_2 k'2_2 hh2 k2a_2 k2b_2 k2c_2 k2d_2 k2e_2 pc_2_2 kn_2_2 pf_2_2 => ?_)
  · obtain ⟨ke1, ke2, ke3⟩ := id kn_2
    obtain ⟨o0, -, -, -, -, -, gf9, -⟩ := id pc_2
    obtain ⟨cN44, ⟨cf, cf1, cf2⟩, -⟩ := gf9.co
    have hcf : ∀ i, i < pN P → cf i = some (cb'2 i) := fun i hi => cf2 i (by omega)
    have hNi := pN_is hP
    have hN1 := hNi.1
    have hN23 := hNi.2.1
    obtain ⟨hf, rf, pi, t, mo, fa, d0, d1, d2, d3, d4, d5, d6, d7⟩ := (ke3 j2 k2a).open4
    have dB := pB_facts hP j2
    obtain ⟨-, gp, gc, -, -, gw, -, -, -, gl, -, hlo⟩ := id pc_2
    obtain ⟨⟨rf, l0, l1⟩, l2⟩ := id gl
    obtain ⟨xs, ys, p0, p1, p2, p3⟩ := id gp
    obtain ⟨⟨s0, E0, w1⟩, -⟩ := id gw
    obtain ⟨pv9, em9, va9, cv9, RR9, OO9, yy0, -⟩ := id w1
    have hcd := (gf9.co.2.2.1 j2 (by omega)).1
    refine T_astore_n dX9_interpolate_5 (Nat.le_of_ble_eq_true rfl) ?_
    refine T_aload_n dX9_interpolate_6 rfl ?_
    refine T_iload_n dX9_interpolate_7 rfl ?_
    refine T_callV dX9_interpolate_8 zkm_10_245 (Or.inl rfl) rfl o0 ⟨Nat.le_of_ble_eq_true rfl, rfl⟩ rfl (Nat.le_of_ble_eq_true rfl) ?_
    refine m_X9_findSlot o0 l0 l1 (fun j8 k8a k8b => ?_) (fun k8a_2 => ?_)
    · obtain ⟨le, nu, sl0, sl1, sl2, sl3⟩ := l2 j8 k8a
      obtain ⟨lw1, lw2, lw3⟩ := hL j8 k8a
      subst k8b
      have hsl : sSl (j8 : Int) := ⟨by omega, by omega⟩
      refine T_astore dX9_interpolate_11 (Nat.le_of_ble_eq_true rfl) ?_
      refine T_aload_n dX9_interpolate_13 rfl ?_
      refine T_ifnull dX9_interpolate_14 (t := 22) rfl (fun hc => by cases hc) (fun _ _ => ?_)
      refine T_aload dX9_interpolate_17 rfl ?_
      refine T_ifnonnull dX9_interpolate_19 (t := 24) rfl (fun _ _ => ?_) (fun hc => by cases hc)
      refine T_aload dX9_interpolate_24 rfl ?_
      refine T_getfield dX9_interpolate_26 zkf_10_249 sl0 rfl ?_
      refine T_iconst dX9_interpolate_29 (by decide) ?_
      refine T_icmp_eq dX9_interpolate_30 (t := 39) rfl (fun c30 => ?_) (fun c30 => ?_)
      · obtain ⟨t1, t2⟩ := sl2 (by omega)
        have hz : zami L j8 1 = 0 := by unfold zami; rw [if_neg (by omega), if_pos (by omega)]
        refine T_aload dX9_interpolate_39 rfl ?_
        refine T_getfield dX9_interpolate_41 zkf_10_255 sl0 rfl ?_
        refine T_aload_n dX9_interpolate_44 rfl ?_
        refine T_getfield dX9_interpolate_45 zkf_10_12 o0 rfl ?_
        refine T_getfield dX9_interpolate_48 zkf_10_109 p0 rfl ?_
        refine T_icmp_eq dX9_interpolate_51 (t := 57) rfl (fun c51 => ?_) (fun c51 => ?_)
        · refine T_aload_n dX9_interpolate_57 rfl ?_
          refine T_getfield dX9_interpolate_58 zkf_10_38 o0 rfl ?_
          refine T_aload_n dX9_interpolate_61 rfl ?_
          refine T_callV dX9_interpolate_62 zkm_10_235 (Or.inl rfl) rfl yy0 ⟨Nat.le_of_ble_eq_true rfl, rfl⟩ rfl (Nat.le_of_ble_eq_true rfl) ?_
          refine m_X1_keepStandardMonomials (kx := j2) p0 p1 p2 d0 d1 hP p3 (fun x hx => ⟨d3 x hx, dB.2.1 x hx⟩) w1 (by omega) (by omega) (fun E'62 hh62 k62a k62b k62c pe_62 pf_62 => ?_)
          obtain ⟨o0, gp, gc, -⟩ := id pc_2
          obtain ⟨xs, ys, p0, p1, p2, p3⟩ := id gp
          obtain ⟨cu, c0, c1, c2⟩ := id gc
          obtain ⟨pv0, em0, va0, cv0, RR0, OO0, y0, y1, y2, y3, y4, y5, y6, y7⟩ := id pe_62
          refine T_iconst dX9_interpolate_65 (by decide) ?_
          refine T_istore dX9_interpolate_66 (Nat.le_of_ble_eq_true rfl) ?_
          exact m_X9_interpolate_68 hP hL hI hO hV hB hcl hQ _ hh2 n'2 k'2 nb'2 cb'2 E'62 j2 0 va0 _ j8 rfl _ pe_62 y5 (fun y a1 => pf_62 y (by omega)) pc_2 pf_2 k2c k2d k2e k2f k62a k62b k62c (by omega) (by unfold s_ip; rw [if_pos ⟨⟨by omega, by omega⟩, hsl⟩, Int.toNat_natCast, if_pos hz, if_pos (by omega), show i.toNat = j2 by omega]) (fun i hi => absurd hi (Nat.not_lt_zero i)) ⟨k8a, rfl, by omega, by omega⟩ 
        · refine T_bipush dX9_interpolate_54 (by decide) ?_
          refine T_iret dX9_interpolate_56 rfl ?_
          have e : s_ip P L i (j8 : Int) = (-9, P) := by unfold s_ip; rw [if_pos ⟨⟨by omega, by omega⟩, hsl⟩, Int.toNat_natCast, if_pos hz, if_neg (by omega)]
          rw [e] at hQ
          exact hQ nb'2 cb'2 n'2 k'2 hh2 hP k2c k2d k2e k2f pc_2 pf_2
      · refine T_aload dX9_interpolate_33 rfl ?_
        refine T_callV dX9_interpolate_35 zkm_10_252 (Or.inl rfl) rfl sl0 ⟨Nat.le_of_ble_eq_true rfl, rfl⟩ rfl (Nat.le_of_ble_eq_true rfl) ?_
        refine m_X8_errorForArrays sl0  (fun k35a => ?_) (fun k35a_2 => ?_)
        · refine T_iret dX9_interpolate_38 rfl ?_
          have hz : zami L j8 1 = -6 := if_pos (by omega)
          have e : s_ip P L i (j8 : Int) = (-6, P) := by unfold s_ip; rw [if_pos ⟨⟨by omega, by omega⟩, hsl⟩, Int.toNat_natCast, if_neg (by rw [hz]; decide), hz]
          rw [e] at hQ
          exact hQ nb'2 cb'2 n'2 k'2 hh2 hP k2c k2d k2e k2f pc_2 pf_2
        · refine T_iret dX9_interpolate_38 rfl ?_
          have hz : zami L j8 1 = -7 := by unfold zami; rw [if_neg (by omega), if_neg (by omega)]
          have e : s_ip P L i (j8 : Int) = (-7, P) := by unfold s_ip; rw [if_pos ⟨⟨by omega, by omega⟩, hsl⟩, Int.toNat_natCast, if_neg (by rw [hz]; decide), hz]
          rw [e] at hQ
          exact hQ nb'2 cb'2 n'2 k'2 hh2 hP k2c k2d k2e k2f pc_2 pf_2
    · refine T_astore dX9_interpolate_11 (Nat.le_of_ble_eq_true rfl) ?_
      refine T_aload_n dX9_interpolate_13 rfl ?_
      refine T_ifnull dX9_interpolate_14 (t := 22) rfl (fun hc => by cases hc) (fun _ _ => ?_)
      refine T_aload dX9_interpolate_17 rfl ?_
      refine T_ifnonnull dX9_interpolate_19 (t := 24) rfl (fun _ hc => by cases hc) (fun _ => ?_)
      refine T_iconst dX9_interpolate_22 (by decide) ?_
      refine T_iret dX9_interpolate_23 rfl ?_
      have e : s_ip P L i c = (-1, P) := by exact if_neg (fun q => k8a_2 q.2)
      rw [e] at hQ
      exact hQ nb'2 cb'2 n'2 k'2 hh2 hP k2c k2d k2e k2f pc_2 pf_2
  · obtain ⟨ke1, ke2, ke3⟩ := id kn_2_2
    obtain ⟨o0, -, -, -, -, -, gf9, -⟩ := id pc_2_2
    obtain ⟨cN44, ⟨cf, cf1, cf2⟩, -⟩ := gf9.co
    have hcf : ∀ i, i < pN P → cf i = some (cb'2_2 i) := fun i hi => cf2 i (by omega)
    have hNi := pN_is hP
    have hN1 := hNi.1
    have hN23 := hNi.2.1
    obtain ⟨-, -, -, -, -, -, -, -, -, gl, -, -⟩ := id pc_2_2
    obtain ⟨⟨rf, l0, l1⟩, l2⟩ := id gl
    refine T_astore_n dX9_interpolate_5 (Nat.le_of_ble_eq_true rfl) ?_
    refine T_aload_n dX9_interpolate_6 rfl ?_
    refine T_iload_n dX9_interpolate_7 rfl ?_
    refine T_callV dX9_interpolate_8 zkm_10_245 (Or.inl rfl) rfl o0 ⟨Nat.le_of_ble_eq_true rfl, rfl⟩ rfl (Nat.le_of_ble_eq_true rfl) ?_
    refine m_X9_findSlot o0 l0 l1 (fun j8 k8a k8b => ?_) (fun k8a_2 => ?_)
    · obtain ⟨le, nu, sl0, sl1, sl2, sl3⟩ := l2 j8 k8a
      obtain ⟨lw1, lw2, lw3⟩ := hL j8 k8a
      subst k8b
      have hsl : sSl (j8 : Int) := ⟨by omega, by omega⟩
      refine T_astore dX9_interpolate_11 (Nat.le_of_ble_eq_true rfl) ?_
      refine T_aload_n dX9_interpolate_13 rfl ?_
      refine T_ifnull dX9_interpolate_14 (t := 22) rfl (fun _ => ?_) (fun _ hc => by cases hc)
      refine T_iconst dX9_interpolate_22 (by decide) ?_
      refine T_iret dX9_interpolate_23 rfl ?_
      have e : s_ip P L i (j8 : Int) = (-1, P) := by exact if_neg (fun q => k2a_2 q.1)
      rw [e] at hQ
      exact hQ nb'2_2 cb'2_2 n'2_2 k'2_2 hh2 hP k2b_2 k2c_2 k2d_2 k2e_2 pc_2_2 pf_2_2
    · refine T_astore dX9_interpolate_11 (Nat.le_of_ble_eq_true rfl) ?_
      refine T_aload_n dX9_interpolate_13 rfl ?_
      refine T_ifnull dX9_interpolate_14 (t := 22) rfl (fun _ => ?_) (fun _ hc => by cases hc)
      refine T_iconst dX9_interpolate_22 (by decide) ?_
      refine T_iret dX9_interpolate_23 rfl ?_
      have e : s_ip P L i c = (-1, P) := by exact if_neg (fun q => k2a_2 q.1)
      rw [e] at hQ
      exact hQ nb'2_2 cb'2_2 n'2_2 k'2_2 hh2 hP k2b_2 k2c_2 k2d_2 k2e_2 pc_2_2 pf_2_2
