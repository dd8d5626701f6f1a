/-! ===== the reference: reads of the fan: printed by wip/whole/gen/s_ref13.py ===== -/
set_option maxHeartbeats 4000000 in
set_option maxRecDepth 100000 in
theorem m_X10_isCone {n0 n k : Nat} {g : Nat → zV} {h : zHp} {Q : Option zV → Nat → Nat → zHp → Prop} {m : Nat} {P : pT} {L : lT} {I O : tT} {V : Int × pT} {i : Int} (hP : pwf P) (hL : lwf L) (hI : iwf I) (hO : owf O) (hV : vwf V) (hB : n0 ≤ m) (hrf : rfAt h m P L I O V) (hT : ∀  (h' : zHp), (0 ≤ i ∧ i < (pN P : Int)) → (rfF 1 h' m P L I O V) → (∀ q : Nat, (q < m ∨ m + 33 ≤ q) → h' q = h q) → Q (some (.inl 1)) n k h') (hF : ∀  (h' : zHp), (¬ (0 ≤ i ∧ i < (pN P : Int))) → (rfF 1 h' m P L I O V) → (∀ q : Nat, (q < m ∨ m + 33 ≤ q) → h' q = h q) → Q (some (.inl 0)) n k h') : ZT n0 g mX10_isCone 0 (zloc mX10_isCone [.inr (some m), .inl i]) [] n k h Q := by
  show ZT n0 g mX10_isCone 0 [some (.inr (some m)), some (.inl i)] [] n k h Q
  obtain ⟨fk, z, c, cn, en, ax, nu, sp, ss, hM, rp, rc, rk, rf, ry, ri, ro, rl, rv⟩ := id hrf
  have hpb := hP.bd
  have hs8 := hP.2.1
  refine T_aload_n dX10_isCone_0 rfl ?_
  refine T_callV dX10_isCone_1 zkm_11_201 (Or.inl rfl) rfl hM ⟨Nat.le_of_ble_eq_true rfl, rfl⟩ rfl (Nat.le_of_ble_eq_true rfl) ?_
  refine r_fan  hP hL hI hO hV hB hrf (fun hh1 pr_1 pf_1 => ?_)
  obtain ⟨z, c, cn, en, ax, nu, sp, ss, hM, rp, rc, rk, rf, ry, ri, ro, rl, rv⟩ := id pr_1
  have hpb := hP.bd
  have hs8 := hP.2.1
  obtain ⟨tp, bt, sz, ch, cc, cl, ftp, fbt, fsz, fch, fcc, fcl, fkn⟩ := id rf
  obtain ⟨-, rfl, krf⟩ := fkn.resolve_left (by decide)
  have hNi := pN_is hP
  have hN1 := hNi.1
  have hN23 := hNi.2.1
  refine T_iload_n dX10_isCone_4 rfl ?_
  refine T_iconst dX10_isCone_5 (by decide) ?_
  refine T_aload_n dX10_isCone_6 rfl ?_
  refine T_getfield dX10_isCone_7 zkf_11_195 hM rfl ?_
  refine T_iconst dX10_isCone_10 (by decide) ?_
  refine T_isub dX10_isCone_11 ⟨by omega, by omega⟩ ?_
  refine T_callS dX10_isCone_12 zkm_11_114 ⟨Nat.le_of_ble_eq_true rfl, Nat.le_of_ble_eq_true rfl, rfl⟩ rfl (Nat.le_of_ble_eq_true rfl) ?_
  refine m_X10_isIn   (fun k12a => ?_) (fun k12a_2 => ?_)
  · refine T_iret dX10_isCone_15 rfl ?_
    exact hT _ ⟨by omega, by omega⟩ pr_1 pf_1
  · refine T_iret dX10_isCone_15 rfl ?_
    exact hF _ (by omega) pr_1 pf_1
set_option maxHeartbeats 4000000 in
set_option maxRecDepth 100000 in
theorem m_X10_isBasis {n0 n k : Nat} {g : Nat → zV} {h : zHp} {Q : Option zV → Nat → Nat → zHp → Prop} {m : Nat} {P : pT} {L : lT} {I O : tT} {V : Int × pT} {i x : Int} (hP : pwf P) (hL : lwf L) (hI : iwf I) (hO : owf O) (hV : vwf V) (hB : n0 ≤ m) (hrf : rfAt h m P L I O V) (hT : ∀  (h' : zHp), (sBas P i x) → (rfF 1 h' m P L I O V) → (∀ q : Nat, (q < m ∨ m + 33 ≤ q) → h' q = h q) → Q (some (.inl 1)) n k h') (hF : ∀  (h' : zHp), (¬ sBas P i x) → (rfF 1 h' m P L I O V) → (∀ q : Nat, (q < m ∨ m + 33 ≤ q) → h' q = h q) → Q (some (.inl 0)) n k h') : ZT n0 g mX10_isBasis 0 (zloc mX10_isBasis [.inr (some m), .inl i, .inl x]) [] n k h Q := by
  show ZT n0 g mX10_isBasis 0 [some (.inr (some m)), some (.inl i), some (.inl x)] [] n k h Q
  obtain ⟨fk, z, c, cn, en, ax, nu, sp, ss, hM, rp, rc, rk, rf, ry, ri, ro, rl, rv⟩ := id hrf
  have hpb := hP.bd
  have hs8 := hP.2.1
  refine T_aload_n dX10_isBasis_0 rfl ?_
  refine T_iload_n dX10_isBasis_1 rfl ?_
  refine T_callV dX10_isBasis_2 zkm_11_204 (Or.inl rfl) rfl hM ⟨Nat.le_of_ble_eq_true rfl, rfl⟩ rfl (Nat.le_of_ble_eq_true rfl) ?_
  refine m_X10_isCone  hP hL hI hO hV hB hrf (fun hh2 k2a pr_2 pf_2 => ?_) (fun hh2 k2a_2 pr_2_2 pf_2_2 => ?_)
  · obtain ⟨z, c, cn, en, ax, nu, sp, ss, hM, rp, rc, rk, rf, ry, ri, ro, rl, rv⟩ := id pr_2
    have hpb := hP.bd
    have hs8 := hP.2.1
    obtain ⟨tp, bt, sz, ch, cc, cl, ftp, fbt, fsz, fch, fcc, fcl, fkn⟩ := id rf
    obtain ⟨-, rfl, krf⟩ := fkn.resolve_left (by decide)
    have hNi := pN_is hP
    have hN1 := hNi.1
    have hN23 := hNi.2.1
    obtain ⟨j, rfl⟩ := Int.eq_ofNat_of_zero_le k2a.1
    have hj : j < pN P := by omega
    obtain ⟨r0, r1, r2, r3, r4⟩ := krf j hj
    have dB := pB_facts hP j
    have dW := pW_facts hP j
    refine T_if_eq dX10_isBasis_5 (t := 28) rfl (fun hc => absurd hc (by decide)) (fun _ => ?_)
    refine T_iload_n dX10_isBasis_8 rfl ?_
    refine T_iconst dX10_isBasis_9 (by decide) ?_
    refine T_aload_n dX10_isBasis_10 rfl ?_
    refine T_getfield dX10_isBasis_11 zkf_11_63 hM rfl ?_
    refine T_iload_n dX10_isBasis_14 rfl ?_
    refine T_ialoadN (m := j) dX10_isBasis_15 fsz rfl (by omega) ?_
    refine T_iconst dX10_isBasis_16 (by decide) ?_
    refine T_isub dX10_isBasis_17 ⟨by omega, by omega⟩ ?_
    refine T_callS dX10_isBasis_18 zkm_11_114 ⟨Nat.le_of_ble_eq_true rfl, Nat.le_of_ble_eq_true rfl, rfl⟩ rfl (Nat.le_of_ble_eq_true rfl) ?_
    refine m_X10_isIn   (fun k18a => ?_) (fun k18a_2 => ?_)
    · refine T_if_eq dX10_isBasis_21 (t := 28) rfl (fun hc => absurd hc (by decide)) (fun _ => ?_)
      refine T_iconst dX10_isBasis_24 (by decide) ?_
      refine T_goto dX10_isBasis_25 (t := 29) rfl ?_
      refine T_iret dX10_isBasis_29 rfl ?_
      exact hT _ ⟨by omega, by rw [Int.toNat_natCast]; omega⟩ pr_2 pf_2
    · refine T_if_eq dX10_isBasis_21 (t := 28) rfl (fun _ => ?_) (fun hc => absurd hc (by decide))
      refine T_iconst dX10_isBasis_28 (by decide) ?_
      refine T_iret dX10_isBasis_29 rfl ?_
      exact hF _ (fun q => by
        obtain ⟨q1, q2⟩ := q
        rw [Int.toNat_natCast] at q2; omega) pr_2 pf_2
  · obtain ⟨z, c, cn, en, ax, nu, sp, ss, hM, rp, rc, rk, rf, ry, ri, ro, rl, rv⟩ := id pr_2_2
    have hpb := hP.bd
    have hs8 := hP.2.1
    obtain ⟨tp, bt, sz, ch, cc, cl, ftp, fbt, fsz, fch, fcc, fcl, fkn⟩ := id rf
    obtain ⟨-, rfl, krf⟩ := fkn.resolve_left (by decide)
    have hNi := pN_is hP
    have hN1 := hNi.1
    have hN23 := hNi.2.1
    refine T_if_eq dX10_isBasis_5 (t := 28) rfl (fun _ => ?_) (fun hc => absurd hc (by decide))
    refine T_iconst dX10_isBasis_28 (by decide) ?_
    refine T_iret dX10_isBasis_29 rfl ?_
    exact hF _ (fun q => k2a_2 q.1) pr_2_2 pf_2_2
set_option maxHeartbeats 4000000 in
set_option maxRecDepth 100000 in
theorem m_X10_cell {n0 n k : Nat} {g : Nat → zV} {h : zHp} {Q : Option zV → Nat → Nat → zHp → Prop} {m : Nat} {P : pT} {L : lT} {I O : tT} {V : Int × pT} {j d x : Nat} (hP : pwf P) (hL : lwf L) (hI : iwf I) (hO : owf O) (hV : vwf V) (hB : n0 ≤ m) (hrf : rfF 1 h m P L I O V) (hj : j < pN P) (hd : d < (pB P j).2.1) (hx : x < 81) (hQ : Q (some (.inl ((pB P j).2.2.2 d x))) n k h) : ZT n0 g mX10_cell 0 (zloc mX10_cell [.inr (some m), .inl (j : Int), .inl (d : Int), .inl (x : Int)]) [] n k h Q := by
  show ZT n0 g mX10_cell 0 [some (.inr (some m)), some (.inl (j : Int)), some (.inl (d : Int)), some (.inl (x : Int))] [] n k h Q
  obtain ⟨z, c, cn, en, ax, nu, sp, ss, hM, rp, rc, rk, rf, ry, ri, ro, rl, rv⟩ := id hrf
  have hpb := hP.bd
  have hs8 := hP.2.1
  obtain ⟨tp, bt, sz, ch, cc, cl, ftp, fbt, fsz, fch, fcc, fcl, fkn⟩ := id rf
  obtain ⟨-, rfl, krf⟩ := fkn.resolve_left (by decide)
  have hNi := pN_is hP
  have hN1 := hNi.1
  have hN23 := hNi.2.1
  have dB := pB_facts hP j
  refine T_aload_n dX10_cell_0 rfl ?_
  refine T_getfield dX10_cell_1 zkf_11_72 hM rfl ?_
  refine T_bipush dX10_cell_4 (by decide) ?_
  refine T_bipush dX10_cell_6 (by decide) ?_
  refine T_iload_n dX10_cell_8 rfl ?_
  refine T_imul dX10_cell_9 ⟨by omega, by omega⟩ ?_
  refine T_iload_n dX10_cell_10 rfl ?_
  refine T_iadd dX10_cell_11 ⟨by omega, by omega⟩ ?_
  refine T_imul dX10_cell_12 ⟨by omega, by omega⟩ ?_
  refine T_iload_n dX10_cell_13 rfl ?_
  refine T_iadd dX10_cell_14 ⟨by omega, by omega⟩ ?_
  refine T_ialoadN (m := (81 * (9 * j + d) + x)) dX10_cell_15 fcl (by omega) (by omega) ?_
  refine T_iret dX10_cell_16 rfl ?_
  rw [← ((krf j hj).2.2.1 d hd).2 x hx] at hQ
  exact hQ
set_option maxHeartbeats 4000000 in
set_option maxRecDepth 100000 in
theorem m_X10_coneCount {n0 n k : Nat} {g : Nat → zV} {h : zHp} {Q : Option zV → Nat → Nat → zHp → Prop} {m : Nat} {P : pT} {L : lT} {I O : tT} {V : Int × pT} (hP : pwf P) (hL : lwf L) (hI : iwf I) (hO : owf O) (hV : vwf V) (hB : n0 ≤ m) (hrf : rfAt h m P L I O V) (hQ : ∀  (h' : zHp), (rfF 1 h' m P L I O V) → (∀ q : Nat, (q < m ∨ m + 33 ≤ q) → h' q = h q) → Q (some (.inl (pN P : Int))) n k h') : ZT n0 g mX10_coneCount 0 (zloc mX10_coneCount [.inr (some m)]) [] n k h Q := by
  show ZT n0 g mX10_coneCount 0 [some (.inr (some m))] [] n k h Q
  obtain ⟨fk, z, c, cn, en, ax, nu, sp, ss, hM, rp, rc, rk, rf, ry, ri, ro, rl, rv⟩ := id hrf
  have hpb := hP.bd
  have hs8 := hP.2.1
  refine T_aload_n dX10_coneCount_0 rfl ?_
  refine T_callV dX10_coneCount_1 zkm_11_201 (Or.inl rfl) rfl hM ⟨Nat.le_of_ble_eq_true rfl, rfl⟩ rfl (Nat.le_of_ble_eq_true rfl) ?_
  refine r_fan  hP hL hI hO hV hB hrf (fun hh1 pr_1 pf_1 => ?_)
  obtain ⟨z, c, cn, en, ax, nu, sp, ss, hM, rp, rc, rk, rf, ry, ri, ro, rl, rv⟩ := id pr_1
  have hpb := hP.bd
  have hs8 := hP.2.1
  obtain ⟨tp, bt, sz, ch, cc, cl, ftp, fbt, fsz, fch, fcc, fcl, fkn⟩ := id rf
  obtain ⟨-, rfl, krf⟩ := fkn.resolve_left (by decide)
  have hNi := pN_is hP
  have hN1 := hNi.1
  have hN23 := hNi.2.1
  refine T_aload_n dX10_coneCount_4 rfl ?_
  refine T_getfield dX10_coneCount_5 zkf_11_195 hM rfl ?_
  refine T_iret dX10_coneCount_8 rfl ?_
  exact hQ  _  pr_1 pf_1
set_option maxHeartbeats 4000000 in
set_option maxRecDepth 100000 in
theorem m_X10_wallNumerator {n0 n k : Nat} {g : Nat → zV} {h : zHp} {Q : Option zV → Nat → Nat → zHp → Prop} {m : Nat} {P : pT} {L : lT} {I O : tT} {V : Int × pT} {i : Int} (hP : pwf P) (hL : lwf L) (hI : iwf I) (hO : owf O) (hV : vwf V) (hB : n0 ≤ m) (hrf : rfAt h m P L I O V) (hQ : ∀  (h' : zHp), (rfF 1 h' m P L I O V) → (∀ q : Nat, (q < m ∨ m + 33 ≤ q) → h' q = h q) → Q (some (.inl (s_w P Prod.fst i))) n k h') : ZT n0 g mX10_wallNumerator 0 (zloc mX10_wallNumerator [.inr (some m), .inl i]) [] n k h Q := by
  show ZT n0 g mX10_wallNumerator 0 [some (.inr (some m)), some (.inl i)] [] n k h Q
  obtain ⟨fk, z, c, cn, en, ax, nu, sp, ss, hM, rp, rc, rk, rf, ry, ri, ro, rl, rv⟩ := id hrf
  have hpb := hP.bd
  have hs8 := hP.2.1
  refine T_aload_n dX10_wallNumerator_0 rfl ?_
  refine T_iload_n dX10_wallNumerator_1 rfl ?_
  refine T_callV dX10_wallNumerator_2 zkm_11_204 (Or.inl rfl) rfl hM ⟨Nat.le_of_ble_eq_true rfl, rfl⟩ rfl (Nat.le_of_ble_eq_true rfl) ?_
  refine m_X10_isCone  hP hL hI hO hV hB hrf (fun hh2 k2a pr_2 pf_2 => ?_) (fun hh2 k2a_2 pr_2_2 pf_2_2 => ?_)
  · obtain ⟨z, c, cn, en, ax, nu, sp, ss, hM, rp, rc, rk, rf, ry, ri, ro, rl, rv⟩ := id pr_2
    have hpb := hP.bd
    have hs8 := hP.2.1
    obtain ⟨tp, bt, sz, ch, cc, cl, ftp, fbt, fsz, fch, fcc, fcl, fkn⟩ := id rf
    obtain ⟨-, rfl, krf⟩ := fkn.resolve_left (by decide)
    have hNi := pN_is hP
    have hN1 := hNi.1
    have hN23 := hNi.2.1
    obtain ⟨j, rfl⟩ := Int.eq_ofNat_of_zero_le k2a.1
    have hj : j < pN P := by omega
    obtain ⟨r0, r1, r2, r3, r4⟩ := krf j hj
    have dB := pB_facts hP j
    have dW := pW_facts hP j
    refine T_if_ne dX10_wallNumerator_5 (t := 10) rfl (fun _ => ?_) (fun hc => absurd hc (by decide))
    refine T_aload_n dX10_wallNumerator_10 rfl ?_
    refine T_getfield dX10_wallNumerator_11 zkf_11_60 hM rfl ?_
    refine T_iload_n dX10_wallNumerator_14 rfl ?_
    refine T_ialoadN (m := j) dX10_wallNumerator_15 fbt rfl (by omega) ?_
    refine T_if_ne dX10_wallNumerator_16 (t := 24) rfl (fun c16 => ?_) (fun c16 => ?_)
    · refine T_aload_n dX10_wallNumerator_24 rfl ?_
      refine T_getfield dX10_wallNumerator_25 zkf_11_57 hM rfl ?_
      refine T_iload_n dX10_wallNumerator_28 rfl ?_
      refine T_ialoadN (m := j) dX10_wallNumerator_29 ftp rfl (by omega) ?_
      refine T_iret dX10_wallNumerator_30 rfl ?_
      have e : s_w P Prod.fst (j : Int) = (((pW P j).1 : Nat) : Int) := by unfold s_w; rw [if_pos (by omega), Int.toNat_natCast, if_neg (by omega)]
      rw [e, ← r3] at hQ
      exact hQ  _  pr_2 pf_2
    · refine T_bipush dX10_wallNumerator_19 (by decide) ?_
      refine T_goto dX10_wallNumerator_21 (t := 30) rfl ?_
      refine T_iret dX10_wallNumerator_30 rfl ?_
      have e : s_w P Prod.fst (j : Int) = -5 := by unfold s_w; rw [if_pos (by omega), Int.toNat_natCast, if_pos (by omega)]
      rw [e] at hQ
      exact hQ  _  pr_2 pf_2
  · obtain ⟨z, c, cn, en, ax, nu, sp, ss, hM, rp, rc, rk, rf, ry, ri, ro, rl, rv⟩ := id pr_2_2
    have hpb := hP.bd
    have hs8 := hP.2.1
    obtain ⟨tp, bt, sz, ch, cc, cl, ftp, fbt, fsz, fch, fcc, fcl, fkn⟩ := id rf
    obtain ⟨-, rfl, krf⟩ := fkn.resolve_left (by decide)
    have hNi := pN_is hP
    have hN1 := hNi.1
    have hN23 := hNi.2.1
    refine T_if_ne dX10_wallNumerator_5 (t := 10) rfl (fun hc => absurd hc (by decide)) (fun _ => ?_)
    refine T_iconst dX10_wallNumerator_8 (by decide) ?_
    refine T_iret dX10_wallNumerator_9 rfl ?_
    have e : s_w P Prod.fst i = -1 := if_neg (by exact k2a_2)
    rw [e] at hQ
    exact hQ  _  pr_2_2 pf_2_2
set_option maxHeartbeats 4000000 in
set_option maxRecDepth 100000 in
theorem m_X10_wallDenominator {n0 n k : Nat} {g : Nat → zV} {h : zHp} {Q : Option zV → Nat → Nat → zHp → Prop} {m : Nat} {P : pT} {L : lT} {I O : tT} {V : Int × pT} {i : Int} (hP : pwf P) (hL : lwf L) (hI : iwf I) (hO : owf O) (hV : vwf V) (hB : n0 ≤ m) (hrf : rfAt h m P L I O V) (hQ : ∀  (h' : zHp), (rfF 1 h' m P L I O V) → (∀ q : Nat, (q < m ∨ m + 33 ≤ q) → h' q = h q) → Q (some (.inl (s_w P Prod.snd i))) n k h') : ZT n0 g mX10_wallDenominator 0 (zloc mX10_wallDenominator [.inr (some m), .inl i]) [] n k h Q := by
  show ZT n0 g mX10_wallDenominator 0 [some (.inr (some m)), some (.inl i)] [] n k h Q
  obtain ⟨fk, z, c, cn, en, ax, nu, sp, ss, hM, rp, rc, rk, rf, ry, ri, ro, rl, rv⟩ := id hrf
  have hpb := hP.bd
  have hs8 := hP.2.1
  refine T_aload_n dX10_wallDenominator_0 rfl ?_
  refine T_iload_n dX10_wallDenominator_1 rfl ?_
  refine T_callV dX10_wallDenominator_2 zkm_11_204 (Or.inl rfl) rfl hM ⟨Nat.le_of_ble_eq_true rfl, rfl⟩ rfl (Nat.le_of_ble_eq_true rfl) ?_
  refine m_X10_isCone  hP hL hI hO hV hB hrf (fun hh2 k2a pr_2 pf_2 => ?_) (fun hh2 k2a_2 pr_2_2 pf_2_2 => ?_)
  · obtain ⟨z, c, cn, en, ax, nu, sp, ss, hM, rp, rc, rk, rf, ry, ri, ro, rl, rv⟩ := id pr_2
    have hpb := hP.bd
    have hs8 := hP.2.1
    obtain ⟨tp, bt, sz, ch, cc, cl, ftp, fbt, fsz, fch, fcc, fcl, fkn⟩ := id rf
    obtain ⟨-, rfl, krf⟩ := fkn.resolve_left (by decide)
    have hNi := pN_is hP
    have hN1 := hNi.1
    have hN23 := hNi.2.1
    obtain ⟨j, rfl⟩ := Int.eq_ofNat_of_zero_le k2a.1
    have hj : j < pN P := by omega
    obtain ⟨r0, r1, r2, r3, r4⟩ := krf j hj
    have dB := pB_facts hP j
    have dW := pW_facts hP j
    refine T_if_ne dX10_wallDenominator_5 (t := 10) rfl (fun _ => ?_) (fun hc => absurd hc (by decide))
    refine T_aload_n dX10_wallDenominator_10 rfl ?_
    refine T_getfield dX10_wallDenominator_11 zkf_11_60 hM rfl ?_
    refine T_iload_n dX10_wallDenominator_14 rfl ?_
    refine T_ialoadN (m := j) dX10_wallDenominator_15 fbt rfl (by omega) ?_
    refine T_if_ne dX10_wallDenominator_16 (t := 24) rfl (fun c16 => ?_) (fun c16 => ?_)
    · refine T_aload_n dX10_wallDenominator_24 rfl ?_
      refine T_getfield dX10_wallDenominator_25 zkf_11_60 hM rfl ?_
      refine T_iload_n dX10_wallDenominator_28 rfl ?_
      refine T_ialoadN (m := j) dX10_wallDenominator_29 fbt rfl (by omega) ?_
      refine T_iret dX10_wallDenominator_30 rfl ?_
      have e : s_w P Prod.snd (j : Int) = (((pW P j).2 : Nat) : Int) := by unfold s_w; rw [if_pos (by omega), Int.toNat_natCast, if_neg (by omega)]
      rw [e, ← r4] at hQ
      exact hQ  _  pr_2 pf_2
    · refine T_bipush dX10_wallDenominator_19 (by decide) ?_
      refine T_goto dX10_wallDenominator_21 (t := 30) rfl ?_
      refine T_iret dX10_wallDenominator_30 rfl ?_
      have e : s_w P Prod.snd (j : Int) = -5 := by unfold s_w; rw [if_pos (by omega), Int.toNat_natCast, if_pos (by omega)]
      rw [e] at hQ
      exact hQ  _  pr_2 pf_2
  · obtain ⟨z, c, cn, en, ax, nu, sp, ss, hM, rp, rc, rk, rf, ry, ri, ro, rl, rv⟩ := id pr_2_2
    have hpb := hP.bd
    have hs8 := hP.2.1
    obtain ⟨tp, bt, sz, ch, cc, cl, ftp, fbt, fsz, fch, fcc, fcl, fkn⟩ := id rf
    obtain ⟨-, rfl, krf⟩ := fkn.resolve_left (by decide)
    have hNi := pN_is hP
    have hN1 := hNi.1
    have hN23 := hNi.2.1
    refine T_if_ne dX10_wallDenominator_5 (t := 10) rfl (fun hc => absurd hc (by decide)) (fun _ => ?_)
    refine T_iconst dX10_wallDenominator_8 (by decide) ?_
    refine T_iret dX10_wallDenominator_9 rfl ?_
    have e : s_w P Prod.snd i = -1 := if_neg (by exact k2a_2)
    rw [e] at hQ
    exact hQ  _  pr_2_2 pf_2_2
set_option maxHeartbeats 4000000 in
set_option maxRecDepth 100000 in
theorem m_X10_coneHeight {n0 n k : Nat} {g : Nat → zV} {h : zHp} {Q : Option zV → Nat → Nat → zHp → Prop} {m : Nat} {P : pT} {L : lT} {I O : tT} {V : Int × pT} {i x : Int} (hP : pwf P) (hL : lwf L) (hI : iwf I) (hO : owf O) (hV : vwf V) (hB : n0 ≤ m) (hrf : rfAt h m P L I O V) (hQ : ∀  (h' : zHp), (rfF 1 h' m P L I O V) → (∀ q : Nat, (q < m ∨ m + 33 ≤ q) → h' q = h q) → Q (some (.inl (s_ht P i x))) n k h') : ZT n0 g mX10_coneHeight 0 (zloc mX10_coneHeight [.inr (some m), .inl i, .inl x]) [] n k h Q := by
  show ZT n0 g mX10_coneHeight 0 [some (.inr (some m)), some (.inl i), some (.inl x)] [] n k h Q
  obtain ⟨fk, z, c, cn, en, ax, nu, sp, ss, hM, rp, rc, rk, rf, ry, ri, ro, rl, rv⟩ := id hrf
  have hpb := hP.bd
  have hs8 := hP.2.1
  refine T_aload_n dX10_coneHeight_0 rfl ?_
  refine T_iload_n dX10_coneHeight_1 rfl ?_
  refine T_callV dX10_coneHeight_2 zkm_11_204 (Or.inl rfl) rfl hM ⟨Nat.le_of_ble_eq_true rfl, rfl⟩ rfl (Nat.le_of_ble_eq_true rfl) ?_
  refine m_X10_isCone  hP hL hI hO hV hB hrf (fun hh2 k2a pr_2 pf_2 => ?_) (fun hh2 k2a_2 pr_2_2 pf_2_2 => ?_)
  · obtain ⟨z, c, cn, en, ax, nu, sp, ss, hM, rp, rc, rk, rf, ry, ri, ro, rl, rv⟩ := id pr_2
    have hpb := hP.bd
    have hs8 := hP.2.1
    obtain ⟨tp, bt, sz, ch, cc, cl, ftp, fbt, fsz, fch, fcc, fcl, fkn⟩ := id rf
    obtain ⟨-, rfl, krf⟩ := fkn.resolve_left (by decide)
    have hNi := pN_is hP
    have hN1 := hNi.1
    have hN23 := hNi.2.1
    obtain ⟨j, rfl⟩ := Int.eq_ofNat_of_zero_le k2a.1
    have hj : j < pN P := by omega
    obtain ⟨r0, r1, r2, r3, r4⟩ := krf j hj
    have dB := pB_facts hP j
    have dW := pW_facts hP j
    refine T_if_eq dX10_coneHeight_5 (t := 29) rfl (fun hc => absurd hc (by decide)) (fun _ => ?_)
    refine T_iload_n dX10_coneHeight_8 rfl ?_
    refine T_callS dX10_coneHeight_9 zkm_11_176 ⟨Nat.le_of_ble_eq_true rfl, Nat.le_of_ble_eq_true rfl, rfl⟩ rfl (Nat.le_of_ble_eq_true rfl) ?_
    refine m_X10_isExponent   (fun k9a => ?_) (fun k9a_2 => ?_)
    · refine T_if_eq dX10_coneHeight_12 (t := 29) rfl (fun hc => absurd hc (by decide)) (fun _ => ?_)
      obtain ⟨d, rfl⟩ := Int.eq_ofNat_of_zero_le k9a.1
      refine T_aload_n dX10_coneHeight_15 rfl ?_
      refine T_getfield dX10_coneHeight_16 zkf_11_66 hM rfl ?_
      refine T_bipush dX10_coneHeight_19 (by decide) ?_
      refine T_iload_n dX10_coneHeight_21 rfl ?_
      refine T_imul dX10_coneHeight_22 ⟨by omega, by omega⟩ ?_
      refine T_iload_n dX10_coneHeight_23 rfl ?_
      refine T_iadd dX10_coneHeight_24 ⟨by omega, by omega⟩ ?_
      refine T_ialoadN (m := ((9 * j) + d)) dX10_coneHeight_25 fch rfl (by omega) ?_
      refine T_goto dX10_coneHeight_26 (t := 30) rfl ?_
      refine T_iret dX10_coneHeight_30 rfl ?_
      have e : s_ht P (j : Int) (d : Int) = (((pB P j).1 d : Nat) : Int) := by unfold s_ht; rw [if_pos ⟨by omega, k9a⟩, Int.toNat_natCast, Int.toNat_natCast]
      rw [e, ← r1 d (by omega)] at hQ
      exact hQ  _  pr_2 pf_2
    · refine T_if_eq dX10_coneHeight_12 (t := 29) rfl (fun _ => ?_) (fun hc => absurd hc (by decide))
      refine T_iconst dX10_coneHeight_29 (by decide) ?_
      refine T_iret dX10_coneHeight_30 rfl ?_
      have e : s_ht P (j : Int) x = -1 := if_neg (fun q => k9a_2 q.2)
      rw [e] at hQ
      exact hQ  _  pr_2 pf_2
  · obtain ⟨z, c, cn, en, ax, nu, sp, ss, hM, rp, rc, rk, rf, ry, ri, ro, rl, rv⟩ := id pr_2_2
    have hpb := hP.bd
    have hs8 := hP.2.1
    obtain ⟨tp, bt, sz, ch, cc, cl, ftp, fbt, fsz, fch, fcc, fcl, fkn⟩ := id rf
    obtain ⟨-, rfl, krf⟩ := fkn.resolve_left (by decide)
    have hNi := pN_is hP
    have hN1 := hNi.1
    have hN23 := hNi.2.1
    refine T_if_eq dX10_coneHeight_5 (t := 29) rfl (fun _ => ?_) (fun hc => absurd hc (by decide))
    refine T_iconst dX10_coneHeight_29 (by decide) ?_
    refine T_iret dX10_coneHeight_30 rfl ?_
    have e : s_ht P i x = -1 := if_neg (fun q => k2a_2 q.1)
    rw [e] at hQ
    exact hQ  _  pr_2_2 pf_2_2
set_option maxHeartbeats 4000000 in
set_option maxRecDepth 100000 in
theorem m_X10_basisSize {n0 n k : Nat} {g : Nat → zV} {h : zHp} {Q : Option zV → Nat → Nat → zHp → Prop} {m : Nat} {P : pT} {L : lT} {I O : tT} {V : Int × pT} {i : Int} (hP : pwf P) (hL : lwf L) (hI : iwf I) (hO : owf O) (hV : vwf V) (hB : n0 ≤ m) (hrf : rfAt h m P L I O V) (hQ : ∀  (h' : zHp), (rfF 1 h' m P L I O V) → (∀ q : Nat, (q < m ∨ m + 33 ≤ q) → h' q = h q) → Q (some (.inl (s_bs P i))) n k h') : ZT n0 g mX10_basisSize 0 (zloc mX10_basisSize [.inr (some m), .inl i]) [] n k h Q := by
  show ZT n0 g mX10_basisSize 0 [some (.inr (some m)), some (.inl i)] [] n k h Q
  obtain ⟨fk, z, c, cn, en, ax, nu, sp, ss, hM, rp, rc, rk, rf, ry, ri, ro, rl, rv⟩ := id hrf
  have hpb := hP.bd
  have hs8 := hP.2.1
  refine T_aload_n dX10_basisSize_0 rfl ?_
  refine T_iload_n dX10_basisSize_1 rfl ?_
  refine T_callV dX10_basisSize_2 zkm_11_204 (Or.inl rfl) rfl hM ⟨Nat.le_of_ble_eq_true rfl, rfl⟩ rfl (Nat.le_of_ble_eq_true rfl) ?_
  refine m_X10_isCone  hP hL hI hO hV hB hrf (fun hh2 k2a pr_2 pf_2 => ?_) (fun hh2 k2a_2 pr_2_2 pf_2_2 => ?_)
  · obtain ⟨z, c, cn, en, ax, nu, sp, ss, hM, rp, rc, rk, rf, ry, ri, ro, rl, rv⟩ := id pr_2
    have hpb := hP.bd
    have hs8 := hP.2.1
    obtain ⟨tp, bt, sz, ch, cc, cl, ftp, fbt, fsz, fch, fcc, fcl, fkn⟩ := id rf
    obtain ⟨-, rfl, krf⟩ := fkn.resolve_left (by decide)
    have hNi := pN_is hP
    have hN1 := hNi.1
    have hN23 := hNi.2.1
    obtain ⟨j, rfl⟩ := Int.eq_ofNat_of_zero_le k2a.1
    have hj : j < pN P := by omega
    obtain ⟨r0, r1, r2, r3, r4⟩ := krf j hj
    have dB := pB_facts hP j
    have dW := pW_facts hP j
    refine T_if_eq dX10_basisSize_5 (t := 17) rfl (fun hc => absurd hc (by decide)) (fun _ => ?_)
    refine T_aload_n dX10_basisSize_8 rfl ?_
    refine T_getfield dX10_basisSize_9 zkf_11_63 hM rfl ?_
    refine T_iload_n dX10_basisSize_12 rfl ?_
    refine T_ialoadN (m := j) dX10_basisSize_13 fsz rfl (by omega) ?_
    refine T_goto dX10_basisSize_14 (t := 18) rfl ?_
    refine T_iret dX10_basisSize_18 rfl ?_
    have e : s_bs P (j : Int) = (((pB P j).2.1 : Nat) : Int) := by unfold s_bs; rw [if_pos (by omega), Int.toNat_natCast]
    rw [e, ← r0] at hQ
    exact hQ  _  pr_2 pf_2
  · obtain ⟨z, c, cn, en, ax, nu, sp, ss, hM, rp, rc, rk, rf, ry, ri, ro, rl, rv⟩ := id pr_2_2
    have hpb := hP.bd
    have hs8 := hP.2.1
    obtain ⟨tp, bt, sz, ch, cc, cl, ftp, fbt, fsz, fch, fcc, fcl, fkn⟩ := id rf
    obtain ⟨-, rfl, krf⟩ := fkn.resolve_left (by decide)
    have hNi := pN_is hP
    have hN1 := hNi.1
    have hN23 := hNi.2.1
    refine T_if_eq dX10_basisSize_5 (t := 17) rfl (fun _ => ?_) (fun hc => absurd hc (by decide))
    refine T_iconst dX10_basisSize_17 (by decide) ?_
    refine T_iret dX10_basisSize_18 rfl ?_
    have e : s_bs P i = -1 := if_neg (by exact k2a_2)
    rw [e] at hQ
    exact hQ  _  pr_2_2 pf_2_2
set_option maxHeartbeats 4000000 in
set_option maxRecDepth 100000 in
theorem m_X10_basisCorner {n0 n k : Nat} {g : Nat → zV} {h : zHp} {Q : Option zV → Nat → Nat → zHp → Prop} {m : Nat} {P : pT} {L : lT} {I O : tT} {V : Int × pT} {i x : Int} (hP : pwf P) (hL : lwf L) (hI : iwf I) (hO : owf O) (hV : vwf V) (hB : n0 ≤ m) (hrf : rfAt h m P L I O V) (hQ : ∀  (h' : zHp), (rfF 1 h' m P L I O V) → (∀ q : Nat, (q < m ∨ m + 33 ≤ q) → h' q = h q) → Q (some (.inl (s_bc P i x))) n k h') : ZT n0 g mX10_basisCorner 0 (zloc mX10_basisCorner [.inr (some m), .inl i, .inl x]) [] n k h Q := by
  show ZT n0 g mX10_basisCorner 0 [some (.inr (some m)), some (.inl i), some (.inl x)] [] n k h Q
  obtain ⟨fk, z, c, cn, en, ax, nu, sp, ss, hM, rp, rc, rk, rf, ry, ri, ro, rl, rv⟩ := id hrf
  have hpb := hP.bd
  have hs8 := hP.2.1
  refine T_aload_n dX10_basisCorner_0 rfl ?_
  refine T_iload_n dX10_basisCorner_1 rfl ?_
  refine T_iload_n dX10_basisCorner_2 rfl ?_
  refine T_callV dX10_basisCorner_3 zkm_11_210 (Or.inl rfl) rfl hM ⟨Nat.le_of_ble_eq_true rfl, rfl⟩ rfl (Nat.le_of_ble_eq_true rfl) ?_
  refine m_X10_isBasis  hP hL hI hO hV hB hrf (fun hh3 k3a pr_3 pf_3 => ?_) (fun hh3 k3a_2 pr_3_2 pf_3_2 => ?_)
  · obtain ⟨z, c, cn, en, ax, nu, sp, ss, hM, rp, rc, rk, rf, ry, ri, ro, rl, rv⟩ := id pr_3
    have hpb := hP.bd
    have hs8 := hP.2.1
    obtain ⟨tp, bt, sz, ch, cc, cl, ftp, fbt, fsz, fch, fcc, fcl, fkn⟩ := id rf
    obtain ⟨-, rfl, krf⟩ := fkn.resolve_left (by decide)
    have hNi := pN_is hP
    have hN1 := hNi.1
    have hN23 := hNi.2.1
    obtain ⟨d, rfl⟩ := Int.eq_ofNat_of_zero_le k3a.2.1
    obtain ⟨j, rfl⟩ := Int.eq_ofNat_of_zero_le k3a.1.1
    have hj : j < pN P := by have := k3a.1.2; omega
    have hd : d < (pB P j).2.1 := by have q := k3a.2.2; rw [Int.toNat_natCast] at q; omega
    obtain ⟨r0, r1, r2, r3, r4⟩ := krf j hj
    have dB := pB_facts hP j
    refine T_if_eq dX10_basisCorner_6 (t := 26) rfl (fun hc => absurd hc (by decide)) (fun _ => ?_)
    refine T_aload_n dX10_basisCorner_9 rfl ?_
    refine T_getfield dX10_basisCorner_10 zkf_11_69 hM rfl ?_
    refine T_bipush dX10_basisCorner_13 (by decide) ?_
    refine T_iload_n dX10_basisCorner_15 rfl ?_
    refine T_imul dX10_basisCorner_16 ⟨by omega, by omega⟩ ?_
    refine T_iload_n dX10_basisCorner_17 rfl ?_
    refine T_iadd dX10_basisCorner_18 ⟨by omega, by omega⟩ ?_
    refine T_ialoadN (m := ((9 * j) + d)) dX10_basisCorner_19 fcc rfl (by omega) ?_
    rw [(r2 d hd).1]
    refine T_callS dX10_basisCorner_20 zkm_11_186 ⟨Nat.le_of_ble_eq_true rfl, Nat.le_of_ble_eq_true rfl, rfl⟩ rfl (Nat.le_of_ble_eq_true rfl) ?_
    refine m_X10_exponents (a := ((pB P j).2.2.1 d))  (dB.2.2 d hd) ?_
    refine T_goto dX10_basisCorner_23 (t := 27) rfl ?_
    refine T_iret dX10_basisCorner_27 rfl ?_
    have e : s_bc P (j : Int) (d : Int) = zdec ((pB P j).2.2.1 d) := by unfold s_bc; rw [if_pos k3a, Int.toNat_natCast, Int.toNat_natCast]
    rw [e] at hQ
    exact hQ  _  pr_3 pf_3
  · obtain ⟨z, c, cn, en, ax, nu, sp, ss, hM, rp, rc, rk, rf, ry, ri, ro, rl, rv⟩ := id pr_3_2
    have hpb := hP.bd
    have hs8 := hP.2.1
    obtain ⟨tp, bt, sz, ch, cc, cl, ftp, fbt, fsz, fch, fcc, fcl, fkn⟩ := id rf
    obtain ⟨-, rfl, krf⟩ := fkn.resolve_left (by decide)
    have hNi := pN_is hP
    have hN1 := hNi.1
    have hN23 := hNi.2.1
    refine T_if_eq dX10_basisCorner_6 (t := 26) rfl (fun _ => ?_) (fun hc => absurd hc (by decide))
    refine T_iconst dX10_basisCorner_26 (by decide) ?_
    refine T_iret dX10_basisCorner_27 rfl ?_
    have e : s_bc P i x = -1 := if_neg k3a_2
    rw [e] at hQ
    exact hQ  _  pr_3_2 pf_3_2
set_option maxHeartbeats 4000000 in
set_option maxRecDepth 100000 in
theorem m_X10_basisCoefficient {n0 n k : Nat} {g : Nat → zV} {h : zHp} {Q : Option zV → Nat → Nat → zHp → Prop} {m : Nat} {P : pT} {L : lT} {I O : tT} {V : Int × pT} {i x y w : Int} (hP : pwf P) (hL : lwf L) (hI : iwf I) (hO : owf O) (hV : vwf V) (hB : n0 ≤ m) (hrf : rfAt h m P L I O V) (hQ : ∀  (h' : zHp), (rfF 1 h' m P L I O V) → (∀ q : Nat, (q < m ∨ m + 33 ≤ q) → h' q = h q) → Q (some (.inl (s_bf P i x y w))) n k h') : ZT n0 g mX10_basisCoefficient 0 (zloc mX10_basisCoefficient [.inr (some m), .inl i, .inl x, .inl y, .inl w]) [] n k h Q := by
  show ZT n0 g mX10_basisCoefficient 0 [some (.inr (some m)), some (.inl i), some (.inl x), some (.inl y), some (.inl w), none] [] n k h Q
  obtain ⟨fk, z, c, cn, en, ax, nu, sp, ss, hM, rp, rc, rk, rf, ry, ri, ro, rl, rv⟩ := id hrf
  have hpb := hP.bd
  have hs8 := hP.2.1
  refine T_aload_n dX10_basisCoefficient_0 rfl ?_
  refine T_iload_n dX10_basisCoefficient_1 rfl ?_
  refine T_iload_n dX10_basisCoefficient_2 rfl ?_
  refine T_callV dX10_basisCoefficient_3 zkm_11_210 (Or.inl rfl) rfl hM ⟨Nat.le_of_ble_eq_true rfl, rfl⟩ rfl (Nat.le_of_ble_eq_true rfl) ?_
  refine m_X10_isBasis  hP hL hI hO hV hB hrf (fun hh3 k3a pr_3 pf_3 => ?_) (fun hh3 k3a_2 pr_3_2 pf_3_2 => ?_)
  · obtain ⟨z, c, cn, en, ax, nu, sp, ss, hM, rp, rc, rk, rf, ry, ri, ro, rl, rv⟩ := id pr_3
    have hpb := hP.bd
    have hs8 := hP.2.1
    obtain ⟨tp, bt, sz, ch, cc, cl, ftp, fbt, fsz, fch, fcc, fcl, fkn⟩ := id rf
    obtain ⟨-, rfl, krf⟩ := fkn.resolve_left (by decide)
    have hNi := pN_is hP
    have hN1 := hNi.1
    have hN23 := hNi.2.1
    obtain ⟨d, rfl⟩ := Int.eq_ofNat_of_zero_le k3a.2.1
    obtain ⟨j, rfl⟩ := Int.eq_ofNat_of_zero_le k3a.1.1
    have hj : j < pN P := by have := k3a.1.2; omega
    have hd : d < (pB P j).2.1 := by have q := k3a.2.2; rw [Int.toNat_natCast] at q; omega
    obtain ⟨r0, r1, r2, r3, r4⟩ := krf j hj
    have dB := pB_facts hP j
    refine T_if_eq dX10_basisCoefficient_6 (t := 28) rfl (fun hc => absurd hc (by decide)) (fun _ => ?_)
    refine T_iload_n dX10_basisCoefficient_9 rfl ?_
    refine T_callS dX10_basisCoefficient_10 zkm_11_176 ⟨Nat.le_of_ble_eq_true rfl, Nat.le_of_ble_eq_true rfl, rfl⟩ rfl (Nat.le_of_ble_eq_true rfl) ?_
    refine m_X10_isExponent   (fun k10a => ?_) (fun k10a_2 => ?_)
    · refine T_if_eq dX10_basisCoefficient_13 (t := 28) rfl (fun hc => absurd hc (by decide)) (fun _ => ?_)
      refine T_iload dX10_basisCoefficient_16 rfl ?_
      refine T_callS dX10_basisCoefficient_18 zkm_11_176 ⟨Nat.le_of_ble_eq_true rfl, Nat.le_of_ble_eq_true rfl, rfl⟩ rfl (Nat.le_of_ble_eq_true rfl) ?_
      refine m_X10_isExponent   (fun k18a => ?_) (fun k18a_2 => ?_)
      · refine T_if_eq dX10_basisCoefficient_21 (t := 28) rfl (fun hc => absurd hc (by decide)) (fun _ => ?_)
        refine T_iconst dX10_basisCoefficient_24 (by decide) ?_
        refine T_goto dX10_basisCoefficient_25 (t := 29) rfl ?_
        refine T_istore dX10_basisCoefficient_29 (Nat.le_of_ble_eq_true rfl) ?_
        refine T_iload dX10_basisCoefficient_31 rfl ?_
        refine T_if_eq dX10_basisCoefficient_33 (t := 52) rfl (fun hc => absurd hc (by decide)) (fun _ => ?_)
        obtain ⟨a, rfl⟩ := Int.eq_ofNat_of_zero_le k10a.1
        obtain ⟨b, rfl⟩ := Int.eq_ofNat_of_zero_le k18a.1
        refine T_aload_n dX10_basisCoefficient_36 rfl ?_
        refine T_iload_n dX10_basisCoefficient_37 rfl ?_
        refine T_iload_n dX10_basisCoefficient_38 rfl ?_
        refine T_bipush dX10_basisCoefficient_39 (by decide) ?_
        refine T_iload_n dX10_basisCoefficient_41 rfl ?_
        refine T_imul dX10_basisCoefficient_42 ⟨by omega, by omega⟩ ?_
        refine T_iload dX10_basisCoefficient_43 rfl ?_
        refine T_iadd dX10_basisCoefficient_45 ⟨by omega, by omega⟩ ?_
        refine T_callV dX10_basisCoefficient_46 zkm_11_213 (Or.inl rfl) rfl hM ⟨Nat.le_of_ble_eq_true rfl, rfl⟩ rfl (Nat.le_of_ble_eq_true rfl) ?_
        refine m_X10_cell (x := ((9 * a) + b))  hP hL hI hO hV hB pr_3 hj hd (by omega) ?_
        refine T_goto dX10_basisCoefficient_49 (t := 53) rfl ?_
        refine T_iret dX10_basisCoefficient_53 rfl ?_
        have e : s_bf P (j : Int) (d : Int) (a : Int) (b : Int) = (pB P j).2.2.2 d (9 * a + b) := by unfold s_bf; rw [if_pos ⟨k3a, k10a, k18a⟩, Int.toNat_natCast, Int.toNat_natCast, Int.toNat_natCast, Int.toNat_natCast]
        rw [e] at hQ
        exact hQ  _  pr_3 pf_3
      · refine T_if_eq dX10_basisCoefficient_21 (t := 28) rfl (fun _ => ?_) (fun hc => absurd hc (by decide))
        refine T_iconst dX10_basisCoefficient_28 (by decide) ?_
        refine T_istore dX10_basisCoefficient_29 (Nat.le_of_ble_eq_true rfl) ?_
        refine T_iload dX10_basisCoefficient_31 rfl ?_
        refine T_if_eq dX10_basisCoefficient_33 (t := 52) rfl (fun _ => ?_) (fun hc => absurd hc (by decide))
        refine T_iconst dX10_basisCoefficient_52 (by decide) ?_
        refine T_iret dX10_basisCoefficient_53 rfl ?_
        have e : s_bf P (j : Int) (d : Int) y w = -1 := if_neg (fun q => k18a_2 q.2.2)
        rw [e] at hQ
        exact hQ  _  pr_3 pf_3
    · refine T_if_eq dX10_basisCoefficient_13 (t := 28) rfl (fun _ => ?_) (fun hc => absurd hc (by decide))
      refine T_iconst dX10_basisCoefficient_28 (by decide) ?_
      refine T_istore dX10_basisCoefficient_29 (Nat.le_of_ble_eq_true rfl) ?_
      refine T_iload dX10_basisCoefficient_31 rfl ?_
      refine T_if_eq dX10_basisCoefficient_33 (t := 52) rfl (fun _ => ?_) (fun hc => absurd hc (by decide))
      refine T_iconst dX10_basisCoefficient_52 (by decide) ?_
      refine T_iret dX10_basisCoefficient_53 rfl ?_
      have e : s_bf P (j : Int) (d : Int) y w = -1 := if_neg (fun q => k10a_2 q.2.1)
      rw [e] at hQ
      exact hQ  _  pr_3 pf_3
  · obtain ⟨z, c, cn, en, ax, nu, sp, ss, hM, rp, rc, rk, rf, ry, ri, ro, rl, rv⟩ := id pr_3_2
    have hpb := hP.bd
    have hs8 := hP.2.1
    obtain ⟨tp, bt, sz, ch, cc, cl, ftp, fbt, fsz, fch, fcc, fcl, fkn⟩ := id rf
    obtain ⟨-, rfl, krf⟩ := fkn.resolve_left (by decide)
    have hNi := pN_is hP
    have hN1 := hNi.1
    have hN23 := hNi.2.1
    refine T_if_eq dX10_basisCoefficient_6 (t := 28) rfl (fun _ => ?_) (fun hc => absurd hc (by decide))
    refine T_iconst dX10_basisCoefficient_28 (by decide) ?_
    refine T_istore dX10_basisCoefficient_29 (Nat.le_of_ble_eq_true rfl) ?_
    refine T_iload dX10_basisCoefficient_31 rfl ?_
    refine T_if_eq dX10_basisCoefficient_33 (t := 52) rfl (fun _ => ?_) (fun hc => absurd hc (by decide))
    refine T_iconst dX10_basisCoefficient_52 (by decide) ?_
    refine T_iret dX10_basisCoefficient_53 rfl ?_
    have e : s_bf P i x y w = -1 := if_neg (fun q => k3a_2 q.1)
    rw [e] at hQ
    exact hQ  _  pr_3_2 pf_3_2
