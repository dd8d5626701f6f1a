/-! ===== the reference: cones that contain a weight: printed by wip/whole/gen/s_ref14.py ===== -/
def zct (P : pT) (u v : Int) (j : Nat) : Prop := (j = 0 ∨ u = 0 ∨ v * (((pW P (j - 1)).2 : Nat) : Int) ≥ (((pW P (j - 1)).1 : Nat) : Int) * u) ∧ ((((pW P j).2 : Nat) : Int) = 0 ∨ (u > 0 ∧ v * (((pW P j).2 : Nat) : Int) ≤ (((pW P j).1 : Nat) : Int) * u))
set_option maxHeartbeats 4000000 in
set_option maxRecDepth 100000 in
theorem cc_cell {n0 n k : Nat} {g : Nat → zV} {h : zHp} {Q : Option zV → Nat → Nat → zHp → Prop} {m s z c : Nat} {p fk cn ln en ax nu wr sv sp ss : Int} {cl : Nat → Int} {j b x : Nat} (hM : h m = some (.inl (11, mOb m p (s : Int) fk (z : Int) (c : Int) cn ln en ax nu wr sv sp ss))) (gl : h (m + 20) = some (.inr (.inl (0, 23328, cl)))) (hb : j < 32 ∧ b < 9 ∧ x < 81) (hQ : Q (some (.inl (cl (81 * (9 * j + b) + x)))) n k h) : ZT n0 g mX10_cell 0 (zloc mX10_cell [.inr (some m), .inl (j : Int), .inl (b : Int), .inl (x : Int)]) [] n k h Q := by
  show ZT n0 g mX10_cell 0 [some (.inr (some m)), some (.inl (j : Int)), some (.inl (b : Int)), some (.inl (x : Int))] [] n k h Q
  refine T_aload_n dX10_cell_0 rfl ?_
  refine T_getfield dX10_cell_1 zkf_11_72 hM rfl ?_
  refine T_bipush dX10_cell_4 (by decide) ?_
  refine T_bipush dX10_cell_6 (by decide) ?_
  refine T_iload_n dX10_cell_8 rfl ?_
  refine T_imul dX10_cell_9 ⟨by omega, by omega⟩ ?_
  refine T_iload_n dX10_cell_10 rfl ?_
  refine T_iadd dX10_cell_11 ⟨by omega, by omega⟩ ?_
  refine T_imul dX10_cell_12 ⟨by omega, by omega⟩ ?_
  refine T_iload_n dX10_cell_13 rfl ?_
  refine T_iadd dX10_cell_14 ⟨by omega, by omega⟩ ?_
  refine T_ialoadN (m := (81 * (9 * j + b) + x)) dX10_cell_15 gl (by omega) (by omega) ?_
  refine T_iret dX10_cell_16 rfl ?_
  exact hQ
set_option maxHeartbeats 4000000 in
set_option maxRecDepth 100000 in
theorem m_X10_loadBasisPolynomial_13 {n0 n k : Nat} {g : Nat → zV} {h : zHp} {Q : Option zV → Nat → Nat → zHp → Prop} {m : Nat} {P : pT} {L : lT} {I O : tT} {V : Int × pT} {i x : Int} (hP : pwf P) (hL : lwf L) (hI : iwf I) (hO : owf O) (hV : vwf V) (hB : n0 ≤ m) (hrf : rfAt h m P L I O V) (hQ : ∀  (h' : zHp), (rfAt h' m (s_lb P i x).2 L I O V) → (∀ q : Nat, (q < m ∨ m + 33 ≤ q) → h' q = h q) → Q (some (.inl ((s_lb P i x).1))) n k h') : ∀ (d : Nat) (h9 : zHp) (j : Nat) (b : Nat) (q : Nat) (u : Nat → Int), 81 - q = d → ∀ h1 : zHp, (zar h1 (m + 3) 81 u) → (∀ q : Nat, q ≠ m + 3 → h1 q = h9 q) → (rfF 1 h9 m P L I O V) → (∀ q : Nat, (q < m ∨ m + 33 ≤ q) → h9 q = h q) → (i = (j : Int) ∧ x = (b : Int) ∧ j < pN P ∧ b < (pB P j).2.1) → (q ≤ 81) → (∀ a, a < q → u a = (pB P j).2.2.2 b a) → ZT n0 g mX10_loadBasisPolynomial 13 [some (.inr (some m)), some (.inl (j : Int)), some (.inl (b : Int)), some (.inl (q : Int))] [] n k h1 Q := by
  intro d
  induction d using Nat.strongRecOn with | _ d ih => ?_
  intro h9 j b q u hd0 h1 mu jfr pr9 pf9 hi hq hu
  subst hd0
  obtain ⟨z, c, cn, en, ax, nu, sp, ss, hM, rp, rc, rk, rf, ry, ri, ro, rl, rv⟩ := id pr9
  have hpb := hP.bd
  have hs8 := hP.2.1
  obtain ⟨tp, bt, sz, ch, cc, cl, ftp, fbt, fsz, fch, fcc, fcl, fkn⟩ := id rf
  obtain ⟨-, rfl, krf⟩ := fkn.resolve_left (by decide)
  have hNi := pN_is hP
  have hN1 := hNi.1
  have hN23 := hNi.2.1
  obtain ⟨cu, c0, c1⟩ := id rc
  obtain ⟨hi1, hi2, hj, hd⟩ := id hi
  have dB := pB_facts hP j
  obtain ⟨r0, r1, r2, r3, r4⟩ := krf j hj
  refine T_iload_n dX10_loadBasisPolynomial_13 rfl ?_
  refine T_bipush dX10_loadBasisPolynomial_14 (by decide) ?_
  refine T_icmp_ge dX10_loadBasisPolynomial_16 (t := 38) rfl (fun c16 => ?_) (fun c16 => ?_)
  · refine T_aload_n dX10_loadBasisPolynomial_38 rfl ?_
    refine T_callV dX10_loadBasisPolynomial_39 zkm_11_242 (Or.inl rfl) rfl ((jfr _ (by omega)).trans hM) ⟨Nat.le_of_ble_eq_true rfl, rfl⟩ rfl (Nat.le_of_ble_eq_true rfl) ?_
    refine cc_termCount ((jfr _ (by omega)).trans hM) mu  ?_
    refine T_iret dX10_loadBasisPolynomial_42 rfl ?_
    obtain ⟨rfl, rfl, hj, hd⟩ := id hi
    have hu9 : ∀ a, a < 81 → u a = (pB P j).2.2.2 b a := fun a ha => hu a (by omega)
    have e : s_lb P (j : Int) (b : Int) = ((znz u 81 : Int), pC P ((pB P j).2.2.2 b)) := by unfold s_lb; rw [if_pos ⟨by omega, by rw [Int.toNat_natCast]; omega⟩, Int.toNat_natCast, Int.toNat_natCast, znz_ext hu9]
    rw [e] at hQ
    exact hQ _ ⟨1, z, c, _, en, ax, nu, sp, ss, ((jfr _ (by omega)).trans hM), (rp.frame (fun q a1 a2 => ((jfr _ (by omega)).trans (rfl)))), ⟨_, mu, hu9⟩, (rk.frame (fun q a1 a2 => ((jfr _ (by omega)).trans (rfl)))), ((rf.frame (fun q a1 a2 => ((jfr _ (by omega)).trans (rfl)))).cur _), (ry.frame (fun q a1 a2 => ((jfr _ (by omega)).trans (rfl)))), (ri.frame (fun q a1 a2 => ((jfr _ (by omega)).trans (rfl)))), (ro.frame (fun q a1 a2 => ((jfr _ (by omega)).trans (rfl)))), (rl.frame (fun q a1 a2 => ((jfr _ (by omega)).trans (rfl)))), (rv.frame (fun q a1 a2 => ((jfr _ (by omega)).trans (rfl))))⟩ (fun q a1 => (jfr q (by omega)).trans (pf9 q a1))
  · refine T_aload_n dX10_loadBasisPolynomial_19 rfl ?_
    refine T_getfield dX10_loadBasisPolynomial_20 zkf_11_20 ((jfr _ (by omega)).trans hM) rfl ?_
    refine T_iload_n dX10_loadBasisPolynomial_23 rfl ?_
    refine T_aload_n dX10_loadBasisPolynomial_24 rfl ?_
    refine T_iload_n dX10_loadBasisPolynomial_25 rfl ?_
    refine T_iload_n dX10_loadBasisPolynomial_26 rfl ?_
    refine T_iload_n dX10_loadBasisPolynomial_27 rfl ?_
    refine T_callV dX10_loadBasisPolynomial_28 zkm_11_213 (Or.inl rfl) rfl ((jfr _ (by omega)).trans hM) ⟨Nat.le_of_ble_eq_true rfl, rfl⟩ rfl (Nat.le_of_ble_eq_true rfl) ?_
    refine cc_cell ((jfr _ (by omega)).trans hM) ((jfr _ (by omega)).trans fcl) (by omega) ?_
    refine T_iastoreN (m := q) dX10_loadBasisPolynomial_31 mu rfl (by omega) (by omega) ?_
    refine T_iinc dX10_loadBasisPolynomial_32 rfl ⟨by omega, by omega⟩ ?_
    refine T_goto dX10_loadBasisPolynomial_35 (t := 13) rfl ?_
    exact ih _ (by omega) h9 j b (q + 1) _ rfl _ zup_self (fun q q1 => ((zup_nf (by omega)).trans (((jfr _ (by omega)).trans (rfl))))) pr9 pf9 hi (by omega) (fun a ha => by
          by_cases e9 : a = q
          · rw [e9, zfu_self]; exact (r2 b hd).2 q (by omega)
          · rw [zfu_ne e9]; exact hu a (by omega)) 
set_option maxHeartbeats 4000000 in
set_option maxRecDepth 100000 in
theorem m_X10_loadBasisPolynomial {n0 n k : Nat} {g : Nat → zV} {h : zHp} {Q : Option zV → Nat → Nat → zHp → Prop} {m : Nat} {P : pT} {L : lT} {I O : tT} {V : Int × pT} {i x : Int} (hP : pwf P) (hL : lwf L) (hI : iwf I) (hO : owf O) (hV : vwf V) (hB : n0 ≤ m) (hrf : rfAt h m P L I O V) (hQ : ∀  (h' : zHp), (rfAt h' m (s_lb P i x).2 L I O V) → (∀ q : Nat, (q < m ∨ m + 33 ≤ q) → h' q = h q) → Q (some (.inl ((s_lb P i x).1))) n k h') : ZT n0 g mX10_loadBasisPolynomial 0 (zloc mX10_loadBasisPolynomial [.inr (some m), .inl i, .inl x]) [] n k h Q := by
  show ZT n0 g mX10_loadBasisPolynomial 0 [some (.inr (some m)), some (.inl i), some (.inl x), none] [] n k h Q
  obtain ⟨fk, z, c, cn, en, ax, nu, sp, ss, hM, rp, rc, rk, rf, ry, ri, ro, rl, rv⟩ := id hrf
  have hpb := hP.bd
  have hs8 := hP.2.1
  refine T_aload_n dX10_loadBasisPolynomial_0 rfl ?_
  refine T_iload_n dX10_loadBasisPolynomial_1 rfl ?_
  refine T_iload_n dX10_loadBasisPolynomial_2 rfl ?_
  refine T_callV dX10_loadBasisPolynomial_3 zkm_11_210 (Or.inl rfl) rfl hM ⟨Nat.le_of_ble_eq_true rfl, rfl⟩ rfl (Nat.le_of_ble_eq_true rfl) ?_
  refine m_X10_isBasis  hP hL hI hO hV hB hrf (fun hh3 k3a pr_3 pf_3 => ?_) (fun hh3 k3a_2 pr_3_2 pf_3_2 => ?_)
  · obtain ⟨z, c, cn, en, ax, nu, sp, ss, hM, rp, rc, rk, rf, ry, ri, ro, rl, rv⟩ := id pr_3
    have hpb := hP.bd
    have hs8 := hP.2.1
    obtain ⟨tp, bt, sz, ch, cc, cl, ftp, fbt, fsz, fch, fcc, fcl, fkn⟩ := id rf
    obtain ⟨-, rfl, krf⟩ := fkn.resolve_left (by decide)
    have hNi := pN_is hP
    have hN1 := hNi.1
    have hN23 := hNi.2.1
    obtain ⟨cu, c0, c1⟩ := id rc
    obtain ⟨d, rfl⟩ := Int.eq_ofNat_of_zero_le k3a.2.1
    obtain ⟨j, rfl⟩ := Int.eq_ofNat_of_zero_le k3a.1.1
    have hj : j < pN P := by have := k3a.1.2; omega
    have hd : d < (pB P j).2.1 := by have q := k3a.2.2; rw [Int.toNat_natCast] at q; omega
    obtain ⟨r0, r1, r2, r3, r4⟩ := krf j hj
    have dB := pB_facts hP j
    refine T_if_ne dX10_loadBasisPolynomial_6 (t := 11) rfl (fun _ => ?_) (fun hc => absurd hc (by decide))
    refine T_iconst dX10_loadBasisPolynomial_11 (by decide) ?_
    refine T_istore_n dX10_loadBasisPolynomial_12 (Nat.le_of_ble_eq_true rfl) ?_
    exact m_X10_loadBasisPolynomial_13 hP hL hI hO hV hB hrf hQ _ hh3 j d 0 cu rfl _ c0 (fun q q1 => rfl) pr_3 pf_3 ⟨rfl, rfl, hj, hd⟩ (by omega) (fun i hi => absurd hi (Nat.not_lt_zero i)) 
  · obtain ⟨z, c, cn, en, ax, nu, sp, ss, hM, rp, rc, rk, rf, ry, ri, ro, rl, rv⟩ := id pr_3_2
    have hpb := hP.bd
    have hs8 := hP.2.1
    obtain ⟨tp, bt, sz, ch, cc, cl, ftp, fbt, fsz, fch, fcc, fcl, fkn⟩ := id rf
    obtain ⟨-, rfl, krf⟩ := fkn.resolve_left (by decide)
    have hNi := pN_is hP
    have hN1 := hNi.1
    have hN23 := hNi.2.1
    obtain ⟨cu, c0, c1⟩ := id rc
    refine T_if_ne dX10_loadBasisPolynomial_6 (t := 11) rfl (fun hc => absurd hc (by decide)) (fun _ => ?_)
    refine T_iconst dX10_loadBasisPolynomial_9 (by decide) ?_
    refine T_iret dX10_loadBasisPolynomial_10 rfl ?_
    have e : s_lb P i x = (-1, P) := if_neg k3a_2
    rw [e] at hQ
    exact hQ _ pr_3_2.at pf_3_2
set_option maxHeartbeats 4000000 in
set_option maxRecDepth 100000 in
theorem m_X10_contains {n0 n k : Nat} {g : Nat → zV} {h : zHp} {Q : Option zV → Nat → Nat → zHp → Prop} {m : Nat} {P : pT} {L : lT} {I O : tT} {V : Int × pT} {j : Nat} {u v : Int} (hP : pwf P) (hL : lwf L) (hI : iwf I) (hO : owf O) (hV : vwf V) (hB : n0 ≤ m) (hrf : rfF 1 h m P L I O V) (hj : j < pN P) (hw : sWt u v) (hT : (zct P u v j) → Q (some (.inl 1)) n k h) (hF : (¬ zct P u v j) → Q (some (.inl 0)) n k h) : ZT n0 g mX10_contains 0 (zloc mX10_contains [.inr (some m), .inl (j : Int), .inl u, .inl v]) [] n k h Q := by
  show ZT n0 g mX10_contains 0 [some (.inr (some m)), some (.inl (j : Int)), some (.inl u), some (.inl v), none, none] [] n k h Q
  obtain ⟨z, c, cn, en, ax, nu, sp, ss, hM, rp, rc, rk, rf, ry, ri, ro, rl, rv⟩ := id hrf
  have hpb := hP.bd
  have hs8 := hP.2.1
  obtain ⟨tp, bt, sz, ch, cc, cl, ftp, fbt, fsz, fch, fcc, fcl, fkn⟩ := id rf
  obtain ⟨-, rfl, krf⟩ := fkn.resolve_left (by decide)
  have hNi := pN_is hP
  have hN1 := hNi.1
  have hN23 := hNi.2.1
  obtain ⟨hw1, hw2⟩ := id hw
  obtain ⟨r0, r1, r2, r3, r4⟩ := krf j hj
  have dW := pW_facts hP j
  have dV := pW_facts hP (j - 1)
  refine T_iload_n dX10_contains_0 rfl ?_
  refine T_if_eq dX10_contains_1 (t := 31) rfl (fun c1 => ?_) (fun c1 => ?_)
  · refine T_iconst dX10_contains_31 (by decide) ?_
    refine T_goto dX10_contains_32 (t := 36) rfl ?_
    refine T_istore dX10_contains_36 (Nat.le_of_ble_eq_true rfl) ?_
    refine T_aload_n dX10_contains_38 rfl ?_
    refine T_getfield dX10_contains_39 zkf_11_60 hM rfl ?_
    refine T_iload_n dX10_contains_42 rfl ?_
    refine T_ialoadN (m := j) dX10_contains_43 fbt rfl (by omega) ?_
    rw [r4]
    refine T_if_eq dX10_contains_44 (t := 70) rfl (fun c44 => ?_) (fun c44 => ?_)
    · refine T_iconst dX10_contains_70 (by decide) ?_
      refine T_goto dX10_contains_71 (t := 75) rfl ?_
      refine T_istore dX10_contains_75 (Nat.le_of_ble_eq_true rfl) ?_
      refine T_iload dX10_contains_77 rfl ?_
      refine T_if_eq dX10_contains_79 (t := 91) rfl (fun hc => absurd hc (by decide)) (fun _ => ?_)
      refine T_iload dX10_contains_82 rfl ?_
      refine T_if_eq dX10_contains_84 (t := 91) rfl (fun hc => absurd hc (by decide)) (fun _ => ?_)
      refine T_iconst dX10_contains_87 (by decide) ?_
      refine T_goto dX10_contains_88 (t := 92) rfl ?_
      refine T_iret dX10_contains_92 rfl ?_
      first | exact hT (by unfold zct; omega) | exact hF (by unfold zct; omega)
    · refine T_iload_n dX10_contains_47 rfl ?_
      refine T_if_le dX10_contains_48 (t := 74) rfl (fun c48 => ?_) (fun c48 => ?_)
      · refine T_iconst dX10_contains_74 (by decide) ?_
        refine T_istore dX10_contains_75 (Nat.le_of_ble_eq_true rfl) ?_
        refine T_iload dX10_contains_77 rfl ?_
        refine T_if_eq dX10_contains_79 (t := 91) rfl (fun hc => absurd hc (by decide)) (fun _ => ?_)
        refine T_iload dX10_contains_82 rfl ?_
        refine T_if_eq dX10_contains_84 (t := 91) rfl (fun _ => ?_) (fun hc => absurd hc (by decide))
        refine T_iconst dX10_contains_91 (by decide) ?_
        refine T_iret dX10_contains_92 rfl ?_
        first | exact hT (by unfold zct; omega) | exact hF (by unfold zct; omega)
      · refine T_iload_n dX10_contains_51 rfl ?_
        refine T_aload_n dX10_contains_52 rfl ?_
        refine T_getfield dX10_contains_53 zkf_11_60 hM rfl ?_
        refine T_iload_n dX10_contains_56 rfl ?_
        refine T_ialoadN (m := j) dX10_contains_57 fbt rfl (by omega) ?_
        rw [r4]
        have m3 := zmul_le (show 0 ≤ v by omega) (show v ≤ 99 by omega) (show 0 ≤ (((pW P j).2 : Nat) : Int) by omega) (show (((pW P j).2 : Nat) : Int) ≤ 8 by omega)
        refine T_imul dX10_contains_58 ⟨by omega, by omega⟩ ?_
        refine T_aload_n dX10_contains_59 rfl ?_
        refine T_getfield dX10_contains_60 zkf_11_57 hM rfl ?_
        refine T_iload_n dX10_contains_63 rfl ?_
        refine T_ialoadN (m := j) dX10_contains_64 ftp rfl (by omega) ?_
        rw [r3]
        have m4 := zmul_le (show 0 ≤ (((pW P j).1 : Nat) : Int) by omega) (show (((pW P j).1 : Nat) : Int) ≤ 8 by omega) (show 0 ≤ u by omega) (show u ≤ 99 by omega)
        refine T_iload_n dX10_contains_65 rfl ?_
        refine T_imul dX10_contains_66 ⟨by omega, by omega⟩ ?_
        refine T_icmp_gt dX10_contains_67 (t := 74) rfl (fun c67 => ?_) (fun c67 => ?_)
        · refine T_iconst dX10_contains_74 (by decide) ?_
          refine T_istore dX10_contains_75 (Nat.le_of_ble_eq_true rfl) ?_
          refine T_iload dX10_contains_77 rfl ?_
          refine T_if_eq dX10_contains_79 (t := 91) rfl (fun hc => absurd hc (by decide)) (fun _ => ?_)
          refine T_iload dX10_contains_82 rfl ?_
          refine T_if_eq dX10_contains_84 (t := 91) rfl (fun _ => ?_) (fun hc => absurd hc (by decide))
          refine T_iconst dX10_contains_91 (by decide) ?_
          refine T_iret dX10_contains_92 rfl ?_
          first | exact hT (by unfold zct; omega) | exact hF (by unfold zct; omega)
        · refine T_iconst dX10_contains_70 (by decide) ?_
          refine T_goto dX10_contains_71 (t := 75) rfl ?_
          refine T_istore dX10_contains_75 (Nat.le_of_ble_eq_true rfl) ?_
          refine T_iload dX10_contains_77 rfl ?_
          refine T_if_eq dX10_contains_79 (t := 91) rfl (fun hc => absurd hc (by decide)) (fun _ => ?_)
          refine T_iload dX10_contains_82 rfl ?_
          refine T_if_eq dX10_contains_84 (t := 91) rfl (fun hc => absurd hc (by decide)) (fun _ => ?_)
          refine T_iconst dX10_contains_87 (by decide) ?_
          refine T_goto dX10_contains_88 (t := 92) rfl ?_
          refine T_iret dX10_contains_92 rfl ?_
          first | exact hT (by unfold zct; omega) | exact hF (by unfold zct; omega)
  · refine T_iload_n dX10_contains_4 rfl ?_
    refine T_if_eq dX10_contains_5 (t := 31) rfl (fun c5 => ?_) (fun c5 => ?_)
    · refine T_iconst dX10_contains_31 (by decide) ?_
      refine T_goto dX10_contains_32 (t := 36) rfl ?_
      refine T_istore dX10_contains_36 (Nat.le_of_ble_eq_true rfl) ?_
      refine T_aload_n dX10_contains_38 rfl ?_
      refine T_getfield dX10_contains_39 zkf_11_60 hM rfl ?_
      refine T_iload_n dX10_contains_42 rfl ?_
      refine T_ialoadN (m := j) dX10_contains_43 fbt rfl (by omega) ?_
      rw [r4]
      refine T_if_eq dX10_contains_44 (t := 70) rfl (fun c44 => ?_) (fun c44 => ?_)
      · refine T_iconst dX10_contains_70 (by decide) ?_
        refine T_goto dX10_contains_71 (t := 75) rfl ?_
        refine T_istore dX10_contains_75 (Nat.le_of_ble_eq_true rfl) ?_
        refine T_iload dX10_contains_77 rfl ?_
        refine T_if_eq dX10_contains_79 (t := 91) rfl (fun hc => absurd hc (by decide)) (fun _ => ?_)
        refine T_iload dX10_contains_82 rfl ?_
        refine T_if_eq dX10_contains_84 (t := 91) rfl (fun hc => absurd hc (by decide)) (fun _ => ?_)
        refine T_iconst dX10_contains_87 (by decide) ?_
        refine T_goto dX10_contains_88 (t := 92) rfl ?_
        refine T_iret dX10_contains_92 rfl ?_
        first | exact hT (by unfold zct; omega) | exact hF (by unfold zct; omega)
      · refine T_iload_n dX10_contains_47 rfl ?_
        refine T_if_le dX10_contains_48 (t := 74) rfl (fun c48 => ?_) (fun c48 => ?_)
        · refine T_iconst dX10_contains_74 (by decide) ?_
          refine T_istore dX10_contains_75 (Nat.le_of_ble_eq_true rfl) ?_
          refine T_iload dX10_contains_77 rfl ?_
          refine T_if_eq dX10_contains_79 (t := 91) rfl (fun hc => absurd hc (by decide)) (fun _ => ?_)
          refine T_iload dX10_contains_82 rfl ?_
          refine T_if_eq dX10_contains_84 (t := 91) rfl (fun _ => ?_) (fun hc => absurd hc (by decide))
          refine T_iconst dX10_contains_91 (by decide) ?_
          refine T_iret dX10_contains_92 rfl ?_
          first | exact hT (by unfold zct; omega) | exact hF (by unfold zct; omega)
        · refine T_iload_n dX10_contains_51 rfl ?_
          refine T_aload_n dX10_contains_52 rfl ?_
          refine T_getfield dX10_contains_53 zkf_11_60 hM rfl ?_
          refine T_iload_n dX10_contains_56 rfl ?_
          refine T_ialoadN (m := j) dX10_contains_57 fbt rfl (by omega) ?_
          rw [r4]
          have m3 := zmul_le (show 0 ≤ v by omega) (show v ≤ 99 by omega) (show 0 ≤ (((pW P j).2 : Nat) : Int) by omega) (show (((pW P j).2 : Nat) : Int) ≤ 8 by omega)
          refine T_imul dX10_contains_58 ⟨by omega, by omega⟩ ?_
          refine T_aload_n dX10_contains_59 rfl ?_
          refine T_getfield dX10_contains_60 zkf_11_57 hM rfl ?_
          refine T_iload_n dX10_contains_63 rfl ?_
          refine T_ialoadN (m := j) dX10_contains_64 ftp rfl (by omega) ?_
          rw [r3]
          have m4 := zmul_le (show 0 ≤ (((pW P j).1 : Nat) : Int) by omega) (show (((pW P j).1 : Nat) : Int) ≤ 8 by omega) (show 0 ≤ u by omega) (show u ≤ 99 by omega)
          refine T_iload_n dX10_contains_65 rfl ?_
          refine T_imul dX10_contains_66 ⟨by omega, by omega⟩ ?_
          refine T_icmp_gt dX10_contains_67 (t := 74) rfl (fun c67 => ?_) (fun c67 => ?_)
          · refine T_iconst dX10_contains_74 (by decide) ?_
            refine T_istore dX10_contains_75 (Nat.le_of_ble_eq_true rfl) ?_
            refine T_iload dX10_contains_77 rfl ?_
            refine T_if_eq dX10_contains_79 (t := 91) rfl (fun hc => absurd hc (by decide)) (fun _ => ?_)
            refine T_iload dX10_contains_82 rfl ?_
            refine T_if_eq dX10_contains_84 (t := 91) rfl (fun _ => ?_) (fun hc => absurd hc (by decide))
            refine T_iconst dX10_contains_91 (by decide) ?_
            refine T_iret dX10_contains_92 rfl ?_
            first | exact hT (by unfold zct; omega) | exact hF (by unfold zct; omega)
          · refine T_iconst dX10_contains_70 (by decide) ?_
            refine T_goto dX10_contains_71 (t := 75) rfl ?_
            refine T_istore dX10_contains_75 (Nat.le_of_ble_eq_true rfl) ?_
            refine T_iload dX10_contains_77 rfl ?_
            refine T_if_eq dX10_contains_79 (t := 91) rfl (fun hc => absurd hc (by decide)) (fun _ => ?_)
            refine T_iload dX10_contains_82 rfl ?_
            refine T_if_eq dX10_contains_84 (t := 91) rfl (fun hc => absurd hc (by decide)) (fun _ => ?_)
            refine T_iconst dX10_contains_87 (by decide) ?_
            refine T_goto dX10_contains_88 (t := 92) rfl ?_
            refine T_iret dX10_contains_92 rfl ?_
            first | exact hT (by unfold zct; omega) | exact hF (by unfold zct; omega)
    · obtain ⟨-, -, -, s3, s4⟩ := krf (j - 1) (by omega)
      refine T_iload_n dX10_contains_8 rfl ?_
      refine T_aload_n dX10_contains_9 rfl ?_
      refine T_getfield dX10_contains_10 zkf_11_60 hM rfl ?_
      refine T_iload_n dX10_contains_13 rfl ?_
      refine T_iconst dX10_contains_14 (by decide) ?_
      refine T_isub dX10_contains_15 ⟨by omega, by omega⟩ ?_
      refine T_ialoadN (m := (j - 1)) dX10_contains_16 fbt (by omega) (by omega) ?_
      rw [s4]
      have m1 := zmul_le (show 0 ≤ v by omega) (show v ≤ 99 by omega) (show 0 ≤ (((pW P (j - 1)).2 : Nat) : Int) by omega) (show (((pW P (j - 1)).2 : Nat) : Int) ≤ 8 by omega)
      refine T_imul dX10_contains_17 ⟨by omega, by omega⟩ ?_
      refine T_aload_n dX10_contains_18 rfl ?_
      refine T_getfield dX10_contains_19 zkf_11_57 hM rfl ?_
      refine T_iload_n dX10_contains_22 rfl ?_
      refine T_iconst dX10_contains_23 (by decide) ?_
      refine T_isub dX10_contains_24 ⟨by omega, by omega⟩ ?_
      refine T_ialoadN (m := (j - 1)) dX10_contains_25 ftp (by omega) (by omega) ?_
      rw [s3]
      have m2 := zmul_le (show 0 ≤ (((pW P (j - 1)).1 : Nat) : Int) by omega) (show (((pW P (j - 1)).1 : Nat) : Int) ≤ 8 by omega) (show 0 ≤ u by omega) (show u ≤ 99 by omega)
      refine T_iload_n dX10_contains_26 rfl ?_
      refine T_imul dX10_contains_27 ⟨by omega, by omega⟩ ?_
      refine T_icmp_lt dX10_contains_28 (t := 35) rfl (fun c28 => ?_) (fun c28 => ?_)
      · refine T_iconst dX10_contains_35 (by decide) ?_
        refine T_istore dX10_contains_36 (Nat.le_of_ble_eq_true rfl) ?_
        refine T_aload_n dX10_contains_38 rfl ?_
        refine T_getfield dX10_contains_39 zkf_11_60 hM rfl ?_
        refine T_iload_n dX10_contains_42 rfl ?_
        refine T_ialoadN (m := j) dX10_contains_43 fbt rfl (by omega) ?_
        rw [r4]
        refine T_if_eq dX10_contains_44 (t := 70) rfl (fun c44 => ?_) (fun c44 => ?_)
        · refine T_iconst dX10_contains_70 (by decide) ?_
          refine T_goto dX10_contains_71 (t := 75) rfl ?_
          refine T_istore dX10_contains_75 (Nat.le_of_ble_eq_true rfl) ?_
          refine T_iload dX10_contains_77 rfl ?_
          refine T_if_eq dX10_contains_79 (t := 91) rfl (fun _ => ?_) (fun hc => absurd hc (by decide))
          refine T_iconst dX10_contains_91 (by decide) ?_
          refine T_iret dX10_contains_92 rfl ?_
          first | exact hT (by unfold zct; omega) | exact hF (by unfold zct; omega)
        · refine T_iload_n dX10_contains_47 rfl ?_
          refine T_if_le dX10_contains_48 (t := 74) rfl (fun c48 => ?_) (fun c48 => ?_)
          · refine T_iconst dX10_contains_74 (by decide) ?_
            refine T_istore dX10_contains_75 (Nat.le_of_ble_eq_true rfl) ?_
            refine T_iload dX10_contains_77 rfl ?_
            refine T_if_eq dX10_contains_79 (t := 91) rfl (fun _ => ?_) (fun hc => absurd hc (by decide))
            refine T_iconst dX10_contains_91 (by decide) ?_
            refine T_iret dX10_contains_92 rfl ?_
            first | exact hT (by unfold zct; omega) | exact hF (by unfold zct; omega)
          · refine T_iload_n dX10_contains_51 rfl ?_
            refine T_aload_n dX10_contains_52 rfl ?_
            refine T_getfield dX10_contains_53 zkf_11_60 hM rfl ?_
            refine T_iload_n dX10_contains_56 rfl ?_
            refine T_ialoadN (m := j) dX10_contains_57 fbt rfl (by omega) ?_
            rw [r4]
            have m3 := zmul_le (show 0 ≤ v by omega) (show v ≤ 99 by omega) (show 0 ≤ (((pW P j).2 : Nat) : Int) by omega) (show (((pW P j).2 : Nat) : Int) ≤ 8 by omega)
            refine T_imul dX10_contains_58 ⟨by omega, by omega⟩ ?_
            refine T_aload_n dX10_contains_59 rfl ?_
            refine T_getfield dX10_contains_60 zkf_11_57 hM rfl ?_
            refine T_iload_n dX10_contains_63 rfl ?_
            refine T_ialoadN (m := j) dX10_contains_64 ftp rfl (by omega) ?_
            rw [r3]
            have m4 := zmul_le (show 0 ≤ (((pW P j).1 : Nat) : Int) by omega) (show (((pW P j).1 : Nat) : Int) ≤ 8 by omega) (show 0 ≤ u by omega) (show u ≤ 99 by omega)
            refine T_iload_n dX10_contains_65 rfl ?_
            refine T_imul dX10_contains_66 ⟨by omega, by omega⟩ ?_
            refine T_icmp_gt dX10_contains_67 (t := 74) rfl (fun c67 => ?_) (fun c67 => ?_)
            · refine T_iconst dX10_contains_74 (by decide) ?_
              refine T_istore dX10_contains_75 (Nat.le_of_ble_eq_true rfl) ?_
              refine T_iload dX10_contains_77 rfl ?_
              refine T_if_eq dX10_contains_79 (t := 91) rfl (fun _ => ?_) (fun hc => absurd hc (by decide))
              refine T_iconst dX10_contains_91 (by decide) ?_
              refine T_iret dX10_contains_92 rfl ?_
              first | exact hT (by unfold zct; omega) | exact hF (by unfold zct; omega)
            · refine T_iconst dX10_contains_70 (by decide) ?_
              refine T_goto dX10_contains_71 (t := 75) rfl ?_
              refine T_istore dX10_contains_75 (Nat.le_of_ble_eq_true rfl) ?_
              refine T_iload dX10_contains_77 rfl ?_
              refine T_if_eq dX10_contains_79 (t := 91) rfl (fun _ => ?_) (fun hc => absurd hc (by decide))
              refine T_iconst dX10_contains_91 (by decide) ?_
              refine T_iret dX10_contains_92 rfl ?_
              first | exact hT (by unfold zct; omega) | exact hF (by unfold zct; omega)
      · refine T_iconst dX10_contains_31 (by decide) ?_
        refine T_goto dX10_contains_32 (t := 36) rfl ?_
        refine T_istore dX10_contains_36 (Nat.le_of_ble_eq_true rfl) ?_
        refine T_aload_n dX10_contains_38 rfl ?_
        refine T_getfield dX10_contains_39 zkf_11_60 hM rfl ?_
        refine T_iload_n dX10_contains_42 rfl ?_
        refine T_ialoadN (m := j) dX10_contains_43 fbt rfl (by omega) ?_
        rw [r4]
        refine T_if_eq dX10_contains_44 (t := 70) rfl (fun c44 => ?_) (fun c44 => ?_)
        · refine T_iconst dX10_contains_70 (by decide) ?_
          refine T_goto dX10_contains_71 (t := 75) rfl ?_
          refine T_istore dX10_contains_75 (Nat.le_of_ble_eq_true rfl) ?_
          refine T_iload dX10_contains_77 rfl ?_
          refine T_if_eq dX10_contains_79 (t := 91) rfl (fun hc => absurd hc (by decide)) (fun _ => ?_)
          refine T_iload dX10_contains_82 rfl ?_
          refine T_if_eq dX10_contains_84 (t := 91) rfl (fun hc => absurd hc (by decide)) (fun _ => ?_)
          refine T_iconst dX10_contains_87 (by decide) ?_
          refine T_goto dX10_contains_88 (t := 92) rfl ?_
          refine T_iret dX10_contains_92 rfl ?_
          first | exact hT (by unfold zct; omega) | exact hF (by unfold zct; omega)
        · refine T_iload_n dX10_contains_47 rfl ?_
          refine T_if_le dX10_contains_48 (t := 74) rfl (fun c48 => ?_) (fun c48 => ?_)
          · refine T_iconst dX10_contains_74 (by decide) ?_
            refine T_istore dX10_contains_75 (Nat.le_of_ble_eq_true rfl) ?_
            refine T_iload dX10_contains_77 rfl ?_
            refine T_if_eq dX10_contains_79 (t := 91) rfl (fun hc => absurd hc (by decide)) (fun _ => ?_)
            refine T_iload dX10_contains_82 rfl ?_
            refine T_if_eq dX10_contains_84 (t := 91) rfl (fun _ => ?_) (fun hc => absurd hc (by decide))
            refine T_iconst dX10_contains_91 (by decide) ?_
            refine T_iret dX10_contains_92 rfl ?_
            first | exact hT (by unfold zct; omega) | exact hF (by unfold zct; omega)
          · refine T_iload_n dX10_contains_51 rfl ?_
            refine T_aload_n dX10_contains_52 rfl ?_
            refine T_getfield dX10_contains_53 zkf_11_60 hM rfl ?_
            refine T_iload_n dX10_contains_56 rfl ?_
            refine T_ialoadN (m := j) dX10_contains_57 fbt rfl (by omega) ?_
            rw [r4]
            have m3 := zmul_le (show 0 ≤ v by omega) (show v ≤ 99 by omega) (show 0 ≤ (((pW P j).2 : Nat) : Int) by omega) (show (((pW P j).2 : Nat) : Int) ≤ 8 by omega)
            refine T_imul dX10_contains_58 ⟨by omega, by omega⟩ ?_
            refine T_aload_n dX10_contains_59 rfl ?_
            refine T_getfield dX10_contains_60 zkf_11_57 hM rfl ?_
            refine T_iload_n dX10_contains_63 rfl ?_
            refine T_ialoadN (m := j) dX10_contains_64 ftp rfl (by omega) ?_
            rw [r3]
            have m4 := zmul_le (show 0 ≤ (((pW P j).1 : Nat) : Int) by omega) (show (((pW P j).1 : Nat) : Int) ≤ 8 by omega) (show 0 ≤ u by omega) (show u ≤ 99 by omega)
            refine T_iload_n dX10_contains_65 rfl ?_
            refine T_imul dX10_contains_66 ⟨by omega, by omega⟩ ?_
            refine T_icmp_gt dX10_contains_67 (t := 74) rfl (fun c67 => ?_) (fun c67 => ?_)
            · refine T_iconst dX10_contains_74 (by decide) ?_
              refine T_istore dX10_contains_75 (Nat.le_of_ble_eq_true rfl) ?_
              refine T_iload dX10_contains_77 rfl ?_
              refine T_if_eq dX10_contains_79 (t := 91) rfl (fun hc => absurd hc (by decide)) (fun _ => ?_)
              refine T_iload dX10_contains_82 rfl ?_
              refine T_if_eq dX10_contains_84 (t := 91) rfl (fun _ => ?_) (fun hc => absurd hc (by decide))
              refine T_iconst dX10_contains_91 (by decide) ?_
              refine T_iret dX10_contains_92 rfl ?_
              first | exact hT (by unfold zct; omega) | exact hF (by unfold zct; omega)
            · refine T_iconst dX10_contains_70 (by decide) ?_
              refine T_goto dX10_contains_71 (t := 75) rfl ?_
              refine T_istore dX10_contains_75 (Nat.le_of_ble_eq_true rfl) ?_
              refine T_iload dX10_contains_77 rfl ?_
              refine T_if_eq dX10_contains_79 (t := 91) rfl (fun hc => absurd hc (by decide)) (fun _ => ?_)
              refine T_iload dX10_contains_82 rfl ?_
              refine T_if_eq dX10_contains_84 (t := 91) rfl (fun hc => absurd hc (by decide)) (fun _ => ?_)
              refine T_iconst dX10_contains_87 (by decide) ?_
              refine T_goto dX10_contains_88 (t := 92) rfl ?_
              refine T_iret dX10_contains_92 rfl ?_
              first | exact hT (by unfold zct; omega) | exact hF (by unfold zct; omega)
