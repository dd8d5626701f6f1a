/-! ===== the reference: polynomials, slots, snapshots, orders: printed by wip/whole/gen/s_ref9.py ===== -/
theorem val_step {p w c a b S : Int} (hp : 0 < p) (hw : w = S % p) : (w + c * a % p * b) % p = (S + c * (a * b % p)) % p := by
  subst hw
  refine zc.eq ((zc.md _).tr (zc.tr ?_ (zc.md _).sy)) (zmod_bd _ _ hp) (zmod_bd _ _ hp)
  exact (((zc.md S).add ((zc.md (c * a)).mul (zc.rf b))).tr (zc.of_eq (by rw [Int.mul_assoc]))).tr ((zc.rf S).add ((zc.rf c).mul (zc.md (a * b)))).sy
set_option maxHeartbeats 4000000 in
set_option maxRecDepth 100000 in
theorem m_X10_setCoefficient {n0 n k : Nat} {g : Nat → zV} {h : zHp} {Q : Option zV → Nat → Nat → zHp → Prop} {m : Nat} {P : pT} {L : lT} {I O : tT} {V : Int × pT} {i j v : Int} (hP : pwf P) (hL : lwf L) (hI : iwf I) (hO : owf O) (hV : vwf V) (hB : n0 ≤ m) (hrf : rfAt h m P L I O V) (hv : zR v) (hQ : ∀  (h' : zHp), (rfAt h' m (s_set P i j v).2 L I O V) → (∀ q : Nat, (q < m ∨ m + 33 ≤ q) → h' q = h q) → Q (some (.inl ((s_set P i j v).1))) n k h') : ZT n0 g mX10_setCoefficient 0 (zloc mX10_setCoefficient [.inr (some m), .inl i, .inl j, .inl v]) [] n k h Q := by
  show ZT n0 g mX10_setCoefficient 0 [some (.inr (some m)), some (.inl i), some (.inl j), some (.inl v), none] [] n k h Q
  obtain ⟨fk, z, c, cn, en, ax, nu, sp, ss, hM, rp, rc, rk, rf, ry, ri, ro, rl, rv⟩ := id hrf
  have hpb := hP.bd
  have hs8 := hP.2.1
  obtain ⟨cu, c0, c1⟩ := id rc
  refine T_iload_n dX10_setCoefficient_0 rfl ?_
  refine T_callS dX10_setCoefficient_1 zkm_11_176 ⟨Nat.le_of_ble_eq_true rfl, Nat.le_of_ble_eq_true rfl, rfl⟩ rfl (Nat.le_of_ble_eq_true rfl) ?_
  refine m_X10_isExponent   (fun k1a => ?_) (fun k1a_2 => ?_)
  · refine T_if_eq dX10_setCoefficient_4 (t := 14) rfl (fun hc => absurd hc (by decide)) (fun _ => ?_)
    refine T_iload_n dX10_setCoefficient_7 rfl ?_
    refine T_callS dX10_setCoefficient_8 zkm_11_176 ⟨Nat.le_of_ble_eq_true rfl, Nat.le_of_ble_eq_true rfl, rfl⟩ rfl (Nat.le_of_ble_eq_true rfl) ?_
    refine m_X10_isExponent   (fun k8a => ?_) (fun k8a_2 => ?_)
    · refine T_if_ne dX10_setCoefficient_11 (t := 16) rfl (fun _ => ?_) (fun hc => absurd hc (by decide))
      obtain ⟨a, rfl⟩ := Int.eq_ofNat_of_zero_le k1a.1
      obtain ⟨d, rfl⟩ := Int.eq_ofNat_of_zero_le k8a.1
      refine T_aload_n dX10_setCoefficient_16 rfl ?_
      refine T_getfield dX10_setCoefficient_17 zkf_11_20 hM rfl ?_
      refine T_bipush dX10_setCoefficient_20 (by decide) ?_
      refine T_iload_n dX10_setCoefficient_22 rfl ?_
      refine T_imul dX10_setCoefficient_23 ⟨by omega, by omega⟩ ?_
      refine T_iload_n dX10_setCoefficient_24 rfl ?_
      refine T_iadd dX10_setCoefficient_25 ⟨by omega, by omega⟩ ?_
      refine T_ialoadN (m := ((9 * a) + d)) dX10_setCoefficient_26 c0 rfl (by omega) ?_
      refine T_istore dX10_setCoefficient_27 (Nat.le_of_ble_eq_true rfl) ?_
      refine T_aload_n dX10_setCoefficient_29 rfl ?_
      refine T_getfield dX10_setCoefficient_30 zkf_11_20 hM rfl ?_
      refine T_bipush dX10_setCoefficient_33 (by decide) ?_
      refine T_iload_n dX10_setCoefficient_35 rfl ?_
      refine T_imul dX10_setCoefficient_36 ⟨by omega, by omega⟩ ?_
      refine T_iload_n dX10_setCoefficient_37 rfl ?_
      refine T_iadd dX10_setCoefficient_38 ⟨by omega, by omega⟩ ?_
      refine T_iload_n dX10_setCoefficient_39 rfl ?_
      refine T_aload_n dX10_setCoefficient_40 rfl ?_
      refine T_getfield dX10_setCoefficient_41 zkf_11_7 hM rfl ?_
      refine T_callS dX10_setCoefficient_44 zkm_11_143 ⟨Nat.le_of_ble_eq_true rfl, Nat.le_of_ble_eq_true rfl, rfl⟩ rfl (Nat.le_of_ble_eq_true rfl) ?_
      refine m_J9_floorMod_7cf53  hv ⟨by omega, by omega⟩ ?_
      refine T_iastoreN (m := ((9 * a) + d)) dX10_setCoefficient_47 c0 rfl (by omega) (by omega) ?_
      refine T_iload dX10_setCoefficient_48 rfl ?_
      refine T_iret dX10_setCoefficient_50 rfl ?_
      have e : s_set P (a : Int) (d : Int) v = (cu (9 * a + d), pC P (zfu P.2.2.2.2 (9 * a + d) (v % P.1))) := by unfold s_set; rw [if_pos ⟨k1a, k8a⟩, Int.toNat_natCast, Int.toNat_natCast, c1 (9 * a + d) (by omega)]
      rw [e] at hQ
      exact hQ _ ⟨fk, z, c, cn, en, ax, nu, sp, ss, (zup_ne (by omega) hM), (rp.frame (fun q a1 a2 => ((zup_nf (by omega)).trans (rfl)))), ⟨_, zup_self, fun i hi => by
        by_cases e9 : i = 9 * a + d
        · rw [e9, zfu_self]; exact zfu_self.symm
        · rw [zfu_ne e9]; exact (c1 i hi).trans (zfu_ne e9).symm⟩, (rk.frame (fun q a1 a2 => ((zup_nf (by omega)).trans (rfl)))), ((rf.frame (fun q a1 a2 => ((zup_nf (by omega)).trans (rfl)))).cur _), (ry.frame (fun q a1 a2 => ((zup_nf (by omega)).trans (rfl)))), (ri.frame (fun q a1 a2 => ((zup_nf (by omega)).trans (rfl)))), (ro.frame (fun q a1 a2 => ((zup_nf (by omega)).trans (rfl)))), (rl.frame (fun q a1 a2 => ((zup_nf (by omega)).trans (rfl)))), (rv.frame (fun q a1 a2 => ((zup_nf (by omega)).trans (rfl))))⟩ (fun q a1 => ((zup_nf (by omega)).trans (rfl)))
    · refine T_if_ne dX10_setCoefficient_11 (t := 16) rfl (fun hc => absurd hc (by decide)) (fun _ => ?_)
      refine T_iconst dX10_setCoefficient_14 (by decide) ?_
      refine T_iret dX10_setCoefficient_15 rfl ?_
      have e : s_set P i j v = (-1, P) := if_neg (by first | exact fun q => k8a_2 q.2 | exact fun q => k1a_2 q.1)
      rw [e] at hQ
      exact hQ h hrf (fun _ _ => rfl)
  · refine T_if_eq dX10_setCoefficient_4 (t := 14) rfl (fun _ => ?_) (fun hc => absurd hc (by decide))
    refine T_iconst dX10_setCoefficient_14 (by decide) ?_
    refine T_iret dX10_setCoefficient_15 rfl ?_
    have e : s_set P i j v = (-1, P) := if_neg (by first | exact fun q => k8a_2 q.2 | exact fun q => k1a_2 q.1)
    rw [e] at hQ
    exact hQ h hrf (fun _ _ => rfl)
set_option maxHeartbeats 4000000 in
set_option maxRecDepth 100000 in
theorem m_X10_coefficient {n0 n k : Nat} {g : Nat → zV} {h : zHp} {Q : Option zV → Nat → Nat → zHp → Prop} {m : Nat} {P : pT} {L : lT} {I O : tT} {V : Int × pT} {i j : Int} (hP : pwf P) (hL : lwf L) (hI : iwf I) (hO : owf O) (hV : vwf V) (hB : n0 ≤ m) (hrf : rfAt h m P L I O V) (hQ : Q (some (.inl (s_get P i j))) n k h) : ZT n0 g mX10_coefficient 0 (zloc mX10_coefficient [.inr (some m), .inl i, .inl j]) [] n k h Q := by
  show ZT n0 g mX10_coefficient 0 [some (.inr (some m)), some (.inl i), some (.inl j)] [] n k h Q
  obtain ⟨fk, z, c, cn, en, ax, nu, sp, ss, hM, rp, rc, rk, rf, ry, ri, ro, rl, rv⟩ := id hrf
  have hpb := hP.bd
  have hs8 := hP.2.1
  obtain ⟨cu, c0, c1⟩ := id rc
  refine T_iload_n dX10_coefficient_0 rfl ?_
  refine T_callS dX10_coefficient_1 zkm_11_176 ⟨Nat.le_of_ble_eq_true rfl, Nat.le_of_ble_eq_true rfl, rfl⟩ rfl (Nat.le_of_ble_eq_true rfl) ?_
  refine m_X10_isExponent   (fun k1a => ?_) (fun k1a_2 => ?_)
  · refine T_if_eq dX10_coefficient_4 (t := 28) rfl (fun hc => absurd hc (by decide)) (fun _ => ?_)
    refine T_iload_n dX10_coefficient_7 rfl ?_
    refine T_callS dX10_coefficient_8 zkm_11_176 ⟨Nat.le_of_ble_eq_true rfl, Nat.le_of_ble_eq_true rfl, rfl⟩ rfl (Nat.le_of_ble_eq_true rfl) ?_
    refine m_X10_isExponent   (fun k8a => ?_) (fun k8a_2 => ?_)
    · refine T_if_eq dX10_coefficient_11 (t := 28) rfl (fun hc => absurd hc (by decide)) (fun _ => ?_)
      obtain ⟨a, rfl⟩ := Int.eq_ofNat_of_zero_le k1a.1
      obtain ⟨d, rfl⟩ := Int.eq_ofNat_of_zero_le k8a.1
      refine T_aload_n dX10_coefficient_14 rfl ?_
      refine T_getfield dX10_coefficient_15 zkf_11_20 hM rfl ?_
      refine T_bipush dX10_coefficient_18 (by decide) ?_
      refine T_iload_n dX10_coefficient_20 rfl ?_
      refine T_imul dX10_coefficient_21 ⟨by omega, by omega⟩ ?_
      refine T_iload_n dX10_coefficient_22 rfl ?_
      refine T_iadd dX10_coefficient_23 ⟨by omega, by omega⟩ ?_
      refine T_ialoadN (m := ((9 * a) + d)) dX10_coefficient_24 c0 rfl (by omega) ?_
      refine T_goto dX10_coefficient_25 (t := 29) rfl ?_
      refine T_iret dX10_coefficient_29 rfl ?_
      have e : s_get P (a : Int) (d : Int) = cu (9 * a + d) := by unfold s_get; rw [if_pos ⟨k1a, k8a⟩, Int.toNat_natCast, Int.toNat_natCast, c1 (9 * a + d) (by omega)]
      rw [e] at hQ
      exact hQ
    · refine T_if_eq dX10_coefficient_11 (t := 28) rfl (fun _ => ?_) (fun hc => absurd hc (by decide))
      refine T_iconst dX10_coefficient_28 (by decide) ?_
      refine T_iret dX10_coefficient_29 rfl ?_
      have e : s_get P i j = -1 := by exact if_neg (by first | exact fun q => k8a_2 q.2 | exact fun q => k1a_2 q.1)
      rw [e] at hQ
      exact hQ
  · refine T_if_eq dX10_coefficient_4 (t := 28) rfl (fun _ => ?_) (fun hc => absurd hc (by decide))
    refine T_iconst dX10_coefficient_28 (by decide) ?_
    refine T_iret dX10_coefficient_29 rfl ?_
    have e : s_get P i j = -1 := by exact if_neg (by first | exact fun q => k8a_2 q.2 | exact fun q => k1a_2 q.1)
    rw [e] at hQ
    exact hQ
set_option maxHeartbeats 4000000 in
set_option maxRecDepth 100000 in
theorem m_X10_termCount_4 {n0 n k : Nat} {g : Nat → zV} {h : zHp} {Q : Option zV → Nat → Nat → zHp → Prop} {m : Nat} {P : pT} {L : lT} {I O : tT} {V : Int × pT} (hP : pwf P) (hL : lwf L) (hI : iwf I) (hO : owf O) (hV : vwf V) (hB : n0 ≤ m) (hrf : rfAt h m P L I O V) (hQ : Q (some (.inl (s_tc P))) n k h) : ∀ (d : Nat) (j : Nat) (w : Nat), 81 - j = d → (j ≤ 81) → (w = znz P.2.2.2.2 j) → ZT n0 g mX10_termCount 4 [some (.inr (some m)), some (.inl (w : Int)), some (.inl (j : Int))] [] n k h Q := by
  intro d
  induction d using Nat.strongRecOn with | _ d ih => ?_
  intro j w hd0 hj hw
  subst hd0
  obtain ⟨fk, z, c, cn, en, ax, nu, sp, ss, hM, rp, rc, rk, rf, ry, ri, ro, rl, rv⟩ := id hrf
  have hpb := hP.bd
  have hs8 := hP.2.1
  obtain ⟨cu, c0, c1⟩ := id rc
  have hb9 : znz P.2.2.2.2 j ≤ j := zcnt_le (fun m => decide (P.2.2.2.2 m ≠ 0)) j
  refine T_iload_n dX10_termCount_4 rfl ?_
  refine T_bipush dX10_termCount_5 (by decide) ?_
  refine T_icmp_ge dX10_termCount_7 (t := 33) rfl (fun c7 => ?_) (fun c7 => ?_)
  · refine T_iload_n dX10_termCount_33 rfl ?_
    refine T_iret dX10_termCount_34 rfl ?_
    rw [show (w : Int) = s_tc P by rw [hw, show j = 81 by omega]; rfl]
    exact hQ
  · refine T_iload_n dX10_termCount_10 rfl ?_
    refine T_aload_n dX10_termCount_11 rfl ?_
    refine T_getfield dX10_termCount_12 zkf_11_20 hM rfl ?_
    refine T_iload_n dX10_termCount_15 rfl ?_
    refine T_ialoadN (m := j) dX10_termCount_16 c0 rfl (by omega) ?_
    rw [c1 j (by omega)]
    refine T_if_ne dX10_termCount_17 (t := 24) rfl (fun c17 => ?_) (fun c17 => ?_)
    · refine T_iconst dX10_termCount_24 (by decide) ?_
      refine T_iadd dX10_termCount_25 ⟨by omega, by omega⟩ ?_
      refine T_istore_n dX10_termCount_26 (Nat.le_of_ble_eq_true rfl) ?_
      refine T_iinc dX10_termCount_27 rfl ⟨by omega, by omega⟩ ?_
      refine T_goto dX10_termCount_30 (t := 4) rfl ?_
      exact ih _ (by omega) (j + 1) (w + 1) rfl  (by omega) (by simp only [hw, znz, zcnt] at *; simp [*]) 
    · refine T_iconst dX10_termCount_20 (by decide) ?_
      refine T_goto dX10_termCount_21 (t := 25) rfl ?_
      refine T_iadd dX10_termCount_25 ⟨by omega, by omega⟩ ?_
      refine T_istore_n dX10_termCount_26 (Nat.le_of_ble_eq_true rfl) ?_
      refine T_iinc dX10_termCount_27 rfl ⟨by omega, by omega⟩ ?_
      refine T_goto dX10_termCount_30 (t := 4) rfl ?_
      exact ih _ (by omega) (j + 1) (w + 0) rfl  (by omega) (by simp only [hw, znz, zcnt] at *; simp [*]) 
set_option maxHeartbeats 4000000 in
set_option maxRecDepth 100000 in
theorem m_X10_termCount {n0 n k : Nat} {g : Nat → zV} {h : zHp} {Q : Option zV → Nat → Nat → zHp → Prop} {m : Nat} {P : pT} {L : lT} {I O : tT} {V : Int × pT} (hP : pwf P) (hL : lwf L) (hI : iwf I) (hO : owf O) (hV : vwf V) (hB : n0 ≤ m) (hrf : rfAt h m P L I O V) (hQ : Q (some (.inl (s_tc P))) n k h) : ZT n0 g mX10_termCount 0 (zloc mX10_termCount [.inr (some m)]) [] n k h Q := by
  show ZT n0 g mX10_termCount 0 [some (.inr (some m)), none, none] [] n k h Q
  obtain ⟨fk, z, c, cn, en, ax, nu, sp, ss, hM, rp, rc, rk, rf, ry, ri, ro, rl, rv⟩ := id hrf
  have hpb := hP.bd
  have hs8 := hP.2.1
  obtain ⟨cu, c0, c1⟩ := id rc
  refine T_iconst dX10_termCount_0 (by decide) ?_
  refine T_istore_n dX10_termCount_1 (Nat.le_of_ble_eq_true rfl) ?_
  refine T_iconst dX10_termCount_2 (by decide) ?_
  refine T_istore_n dX10_termCount_3 (Nat.le_of_ble_eq_true rfl) ?_
  exact m_X10_termCount_4 hP hL hI hO hV hB hrf hQ _ 0 0 rfl  (by omega) rfl 
set_option maxHeartbeats 4000000 in
set_option maxRecDepth 100000 in
theorem m_X10_valueAt_4 {n0 n k : Nat} {g : Nat → zV} {h : zHp} {Q : Option zV → Nat → Nat → zHp → Prop} {m : Nat} {P : pT} {L : lT} {I O : tT} {V : Int × pT} {i : Nat} (hP : pwf P) (hL : lwf L) (hI : iwf I) (hO : owf O) (hV : vwf V) (hB : n0 ≤ m) (hrf : rfAt h m P L I O V) (hi : i < P.2.1) (hQ : Q (some (.inl (zval P.1 (P.2.2.1 i) (P.2.2.2.1 i) P.2.2.2.2))) n k h) : ∀ (d : Nat) (j : Nat) (w : Int), 81 - j = d → (j ≤ 81) → (w = zsum (fun q => P.2.2.2.2 q * zmon P.1 (P.2.2.1 i) (P.2.2.2.1 i) q) j % P.1) → ZT n0 g mX10_valueAt 4 [some (.inr (some m)), some (.inl (i : Int)), some (.inl w), some (.inl (j : Int))] [] n k h Q := by
  intro d
  induction d using Nat.strongRecOn with | _ d ih => ?_
  intro j w hd0 hj hw
  subst hd0
  obtain ⟨fk, z, c, cn, en, ax, nu, sp, ss, hM, rp, rc, rk, rf, ry, ri, ro, rl, rv⟩ := id hrf
  have hpb := hP.bd
  have hs8 := hP.2.1
  obtain ⟨xs, ys, p0, p1, p2⟩ := id rp
  obtain ⟨cu, c0, c1⟩ := id rc
  have hwb := zmod_bd (zsum (fun q => P.2.2.2.2 q * zmon P.1 (P.2.2.1 i) (P.2.2.2.1 i) q) j) P.1 (by omega)
  rw [← hw] at hwb
  refine T_iload_n dX10_valueAt_4 rfl ?_
  refine T_bipush dX10_valueAt_5 (by decide) ?_
  refine T_icmp_ge dX10_valueAt_7 (t := 65) rfl (fun c7 => ?_) (fun c7 => ?_)
  · refine T_iload_n dX10_valueAt_65 rfl ?_
    refine T_iret dX10_valueAt_66 rfl ?_
    rw [show w = zval P.1 (P.2.2.1 i) (P.2.2.2.1 i) P.2.2.2.2 by rw [hw, show j = 81 by omega]; rfl]
    exact hQ
  · have pj := p2 i hi
    have bj := hP.2.2.1 i hi
    have cj := c1 j (by omega)
    have fj := hP.2.2.2.2 j (by omega)
    have w1 := zpow_bd (b := xs i) hpb.1 (j / 9)
    have w2 := zpow_bd (b := ys i) hpb.1 (j % 9)
    refine T_iload_n dX10_valueAt_10 rfl ?_
    refine T_aload_n dX10_valueAt_11 rfl ?_
    refine T_getfield dX10_valueAt_12 zkf_11_20 hM rfl ?_
    refine T_iload_n dX10_valueAt_15 rfl ?_
    refine T_ialoadN (m := j) dX10_valueAt_16 c0 rfl (by omega) ?_
    refine T_aload_n dX10_valueAt_17 rfl ?_
    refine T_aload_n dX10_valueAt_18 rfl ?_
    refine T_getfield dX10_valueAt_19 zkf_11_13 hM rfl ?_
    refine T_iload_n dX10_valueAt_22 rfl ?_
    refine T_ialoadN (m := i) dX10_valueAt_23 p0 rfl (by omega) ?_
    refine T_iload_n dX10_valueAt_24 rfl ?_
    refine T_bipush dX10_valueAt_25 (by decide) ?_
    refine T_idivN dX10_valueAt_27 ⟨by omega, by omega⟩ (by omega) ?_
    refine T_callV dX10_valueAt_28 zkm_11_136 (Or.inl rfl) rfl hM ⟨Nat.le_of_ble_eq_true rfl, rfl⟩ rfl (Nat.le_of_ble_eq_true rfl) ?_
    refine m_X10_power (e := (j / 9)) hM hpb (by omega) (by omega) ?_
    have m31 := zmul_le (show 0 ≤ cu j by omega) (show cu j ≤ 32 by omega) w1.1 (show _ ≤ (32 : Int) by omega)
    refine T_imul dX10_valueAt_31 (zmulR (by omega) (by omega) (by omega) (by omega)) ?_
    refine T_aload_n dX10_valueAt_32 rfl ?_
    refine T_getfield dX10_valueAt_33 zkf_11_7 hM rfl ?_
    refine T_iremN dX10_valueAt_36 ⟨by omega, by omega⟩ (by omega) ?_
    have r36 := zmod_bd ((cu j) * (zpow P.1 (xs i) (j / 9))) P.1 (by omega)
    refine T_aload_n dX10_valueAt_37 rfl ?_
    refine T_aload_n dX10_valueAt_38 rfl ?_
    refine T_getfield dX10_valueAt_39 zkf_11_17 hM rfl ?_
    refine T_iload_n dX10_valueAt_42 rfl ?_
    refine T_ialoadN (m := i) dX10_valueAt_43 p1 rfl (by omega) ?_
    refine T_iload_n dX10_valueAt_44 rfl ?_
    refine T_bipush dX10_valueAt_45 (by decide) ?_
    refine T_iremN dX10_valueAt_47 ⟨by omega, by omega⟩ (by omega) ?_
    refine T_callV dX10_valueAt_48 zkm_11_136 (Or.inl rfl) rfl hM ⟨Nat.le_of_ble_eq_true rfl, rfl⟩ rfl (Nat.le_of_ble_eq_true rfl) ?_
    refine m_X10_power (e := (j % 9)) hM hpb (by omega) (by omega) ?_
    have m51 := zmul_le r36.1 (show _ ≤ (32 : Int) by omega) w2.1 (show _ ≤ (32 : Int) by omega)
    refine T_imul dX10_valueAt_51 (zmulR (by omega) (by omega) (by omega) (by omega)) ?_
    refine T_iadd dX10_valueAt_52 ⟨by omega, by omega⟩ ?_
    refine T_aload_n dX10_valueAt_53 rfl ?_
    refine T_getfield dX10_valueAt_54 zkf_11_7 hM rfl ?_
    refine T_iremN dX10_valueAt_57 ⟨by omega, by omega⟩ (by omega) ?_
    have r57 := zmod_bd (w + ((((cu j) * (zpow P.1 (xs i) (j / 9))) % P.1) * (zpow P.1 (ys i) (j % 9)))) P.1 (by omega)
    refine T_istore_n dX10_valueAt_58 (Nat.le_of_ble_eq_true rfl) ?_
    refine T_iinc dX10_valueAt_59 rfl ⟨by omega, by omega⟩ ?_
    refine T_goto dX10_valueAt_62 (t := 4) rfl ?_
    exact ih _ (by omega) (j + 1) ((w + ((((cu j) * (zpow P.1 (xs i) (j / 9))) % P.1) * (zpow P.1 (ys i) (j % 9)))) % P.1) rfl  (by omega) (by
          rw [cj, pj.1, pj.2]
          exact val_step (by omega) hw) 
set_option maxHeartbeats 4000000 in
set_option maxRecDepth 100000 in
theorem m_X10_valueAt {n0 n k : Nat} {g : Nat → zV} {h : zHp} {Q : Option zV → Nat → Nat → zHp → Prop} {m : Nat} {P : pT} {L : lT} {I O : tT} {V : Int × pT} {i : Nat} (hP : pwf P) (hL : lwf L) (hI : iwf I) (hO : owf O) (hV : vwf V) (hB : n0 ≤ m) (hrf : rfAt h m P L I O V) (hi : i < P.2.1) (hQ : Q (some (.inl (zval P.1 (P.2.2.1 i) (P.2.2.2.1 i) P.2.2.2.2))) n k h) : ZT n0 g mX10_valueAt 0 (zloc mX10_valueAt [.inr (some m), .inl (i : Int)]) [] n k h Q := by
  show ZT n0 g mX10_valueAt 0 [some (.inr (some m)), some (.inl (i : Int)), none, none] [] n k h Q
  obtain ⟨fk, z, c, cn, en, ax, nu, sp, ss, hM, rp, rc, rk, rf, ry, ri, ro, rl, rv⟩ := id hrf
  have hpb := hP.bd
  have hs8 := hP.2.1
  obtain ⟨xs, ys, p0, p1, p2⟩ := id rp
  obtain ⟨cu, c0, c1⟩ := id rc
  refine T_iconst dX10_valueAt_0 (by decide) ?_
  refine T_istore_n dX10_valueAt_1 (Nat.le_of_ble_eq_true rfl) ?_
  refine T_iconst dX10_valueAt_2 (by decide) ?_
  refine T_istore_n dX10_valueAt_3 (Nat.le_of_ble_eq_true rfl) ?_
  exact m_X10_valueAt_4 hP hL hI hO hV hB hrf hi hQ _ 0 0 rfl  (by omega) (by simp [zsum]) 
set_option maxHeartbeats 4000000 in
set_option maxRecDepth 100000 in
theorem m_X10_evaluate {n0 n k : Nat} {g : Nat → zV} {h : zHp} {Q : Option zV → Nat → Nat → zHp → Prop} {m : Nat} {P : pT} {L : lT} {I O : tT} {V : Int × pT} {i : Int} (hP : pwf P) (hL : lwf L) (hI : iwf I) (hO : owf O) (hV : vwf V) (hB : n0 ≤ m) (hrf : rfAt h m P L I O V) (hQ : Q (some (.inl (s_ev P i))) n k h) : ZT n0 g mX10_evaluate 0 (zloc mX10_evaluate [.inr (some m), .inl i]) [] n k h Q := by
  show ZT n0 g mX10_evaluate 0 [some (.inr (some m)), some (.inl i)] [] n k h Q
  obtain ⟨fk, z, c, cn, en, ax, nu, sp, ss, hM, rp, rc, rk, rf, ry, ri, ro, rl, rv⟩ := id hrf
  have hpb := hP.bd
  have hs8 := hP.2.1
  refine T_aload_n dX10_evaluate_0 rfl ?_
  refine T_iload_n dX10_evaluate_1 rfl ?_
  refine T_callV dX10_evaluate_2 zkm_11_129 (Or.inl rfl) rfl hM ⟨Nat.le_of_ble_eq_true rfl, rfl⟩ rfl (Nat.le_of_ble_eq_true rfl) ?_
  refine m_X10_isPoint hM (by omega) (fun k2a => ?_) (fun k2a_2 => ?_)
  · refine T_if_eq dX10_evaluate_5 (t := 16) rfl (fun hc => absurd hc (by decide)) (fun _ => ?_)
    obtain ⟨j, rfl⟩ := Int.eq_ofNat_of_zero_le k2a.1
    refine T_aload_n dX10_evaluate_8 rfl ?_
    refine T_iload_n dX10_evaluate_9 rfl ?_
    refine T_callV dX10_evaluate_10 zkm_11_233 (Or.inl rfl) rfl hM ⟨Nat.le_of_ble_eq_true rfl, rfl⟩ rfl (Nat.le_of_ble_eq_true rfl) ?_
    refine m_X10_valueAt  hP hL hI hO hV hB hrf (by omega) ?_
    refine T_goto dX10_evaluate_13 (t := 17) rfl ?_
    refine T_iret dX10_evaluate_17 rfl ?_
    have e : s_ev P (j : Int) = zval P.1 (P.2.2.1 j) (P.2.2.2.1 j) P.2.2.2.2 := by unfold s_ev; rw [if_pos k2a, Int.toNat_natCast]
    rw [e] at hQ
    exact hQ
  · refine T_if_eq dX10_evaluate_5 (t := 16) rfl (fun _ => ?_) (fun hc => absurd hc (by decide))
    refine T_iconst dX10_evaluate_16 (by decide) ?_
    refine T_iret dX10_evaluate_17 rfl ?_
    have e : s_ev P i = -1 := by exact if_neg k2a_2
    rw [e] at hQ
    exact hQ
set_option maxHeartbeats 4000000 in
set_option maxRecDepth 100000 in
theorem m_X10_isVanishing_4 {n0 n k : Nat} {g : Nat → zV} {h : zHp} {Q : Option zV → Nat → Nat → zHp → Prop} {m : Nat} {P : pT} {L : lT} {I O : tT} {V : Int × pT} (hP : pwf P) (hL : lwf L) (hI : iwf I) (hO : owf O) (hV : vwf V) (hB : n0 ≤ m) (hrf : rfAt h m P L I O V) (hQ : Q (some (.inl (s_van P))) n k h) : ∀ (d : Nat) (j : Nat) (w : Int), P.2.1 - j = d → (j ≤ P.2.1) → ((w = 1 ∧ ∀ i, i < j → zval P.1 (P.2.2.1 i) (P.2.2.2.1 i) P.2.2.2.2 = 0) ∨ (w = 0 ∧ ∃ i, i < j ∧ ¬ zval P.1 (P.2.2.1 i) (P.2.2.2.1 i) P.2.2.2.2 = 0)) → ZT n0 g mX10_isVanishing 4 [some (.inr (some m)), some (.inl w), some (.inl (j : Int))] [] n k h Q := by
  intro d
  induction d using Nat.strongRecOn with | _ d ih => ?_
  intro j w hd0 hj hw
  subst hd0
  obtain ⟨fk, z, c, cn, en, ax, nu, sp, ss, hM, rp, rc, rk, rf, ry, ri, ro, rl, rv⟩ := id hrf
  have hpb := hP.bd
  have hs8 := hP.2.1
  refine T_iload_n dX10_isVanishing_4 rfl ?_
  refine T_aload_n dX10_isVanishing_5 rfl ?_
  refine T_getfield dX10_isVanishing_6 zkf_11_111 hM rfl ?_
  refine T_icmp_ge dX10_isVanishing_9 (t := 36) rfl (fun c9 => ?_) (fun c9 => ?_)
  · refine T_iload_n dX10_isVanishing_36 rfl ?_
    refine T_if_eq dX10_isVanishing_37 (t := 44) rfl (fun c37 => ?_) (fun c37 => ?_)
    · refine T_iconst dX10_isVanishing_44 (by decide) ?_
      refine T_iret dX10_isVanishing_45 rfl ?_
      obtain ⟨i, a, b⟩ := (hw.resolve_left (fun x => by omega)).2
      have e : s_van P = 0 := by exact if_neg (fun x => b (zvan_iff.mp x i (by omega)))
      rw [e] at hQ
      exact hQ
    · refine T_iconst dX10_isVanishing_40 (by decide) ?_
      refine T_goto dX10_isVanishing_41 (t := 45) rfl ?_
      refine T_iret dX10_isVanishing_45 rfl ?_
      have e : s_van P = 1 := by exact if_pos (zvan_iff.mpr (fun i hi => (hw.resolve_right (fun x => by omega)).2 i (by omega)))
      rw [e] at hQ
      exact hQ
  · refine T_iload_n dX10_isVanishing_12 rfl ?_
    refine T_if_eq dX10_isVanishing_13 (t := 28) rfl (fun c13 => ?_) (fun c13 => ?_)
    · refine T_iconst dX10_isVanishing_28 (by decide) ?_
      refine T_istore_n dX10_isVanishing_29 (Nat.le_of_ble_eq_true rfl) ?_
      refine T_iinc dX10_isVanishing_30 rfl ⟨by omega, by omega⟩ ?_
      refine T_goto dX10_isVanishing_33 (t := 4) rfl ?_
      exact ih _ (by omega) (j + 1) 0 rfl  (by omega) (Or.inr ⟨rfl, by
            obtain ⟨i, a, b⟩ := (hw.resolve_left (fun x => by omega)).2
            exact ⟨i, by omega, b⟩⟩) 
    · refine T_aload_n dX10_isVanishing_16 rfl ?_
      refine T_iload_n dX10_isVanishing_17 rfl ?_
      refine T_callV dX10_isVanishing_18 zkm_11_233 (Or.inl rfl) rfl hM ⟨Nat.le_of_ble_eq_true rfl, rfl⟩ rfl (Nat.le_of_ble_eq_true rfl) ?_
      refine m_X10_valueAt  hP hL hI hO hV hB hrf (by omega) ?_
      refine T_if_ne dX10_isVanishing_21 (t := 28) rfl (fun c21 => ?_) (fun c21 => ?_)
      · refine T_iconst dX10_isVanishing_28 (by decide) ?_
        refine T_istore_n dX10_isVanishing_29 (Nat.le_of_ble_eq_true rfl) ?_
        refine T_iinc dX10_isVanishing_30 rfl ⟨by omega, by omega⟩ ?_
        refine T_goto dX10_isVanishing_33 (t := 4) rfl ?_
        exact ih _ (by omega) (j + 1) 0 rfl  (by omega) (Or.inr ⟨rfl, j, by omega, c21⟩) 
      · refine T_iconst dX10_isVanishing_24 (by decide) ?_
        refine T_goto dX10_isVanishing_25 (t := 29) rfl ?_
        refine T_istore_n dX10_isVanishing_29 (Nat.le_of_ble_eq_true rfl) ?_
        refine T_iinc dX10_isVanishing_30 rfl ⟨by omega, by omega⟩ ?_
        refine T_goto dX10_isVanishing_33 (t := 4) rfl ?_
        exact ih _ (by omega) (j + 1) 1 rfl  (by omega) (Or.inl ⟨rfl, fun i hi => by
              by_cases e : i = j
              · rw [e]; omega
              · exact (hw.resolve_right (fun x => by omega)).2 i (by omega)⟩) 
set_option maxHeartbeats 4000000 in
set_option maxRecDepth 100000 in
theorem m_X10_isVanishing {n0 n k : Nat} {g : Nat → zV} {h : zHp} {Q : Option zV → Nat → Nat → zHp → Prop} {m : Nat} {P : pT} {L : lT} {I O : tT} {V : Int × pT} (hP : pwf P) (hL : lwf L) (hI : iwf I) (hO : owf O) (hV : vwf V) (hB : n0 ≤ m) (hrf : rfAt h m P L I O V) (hQ : Q (some (.inl (s_van P))) n k h) : ZT n0 g mX10_isVanishing 0 (zloc mX10_isVanishing [.inr (some m)]) [] n k h Q := by
  show ZT n0 g mX10_isVanishing 0 [some (.inr (some m)), none, none] [] n k h Q
  obtain ⟨fk, z, c, cn, en, ax, nu, sp, ss, hM, rp, rc, rk, rf, ry, ri, ro, rl, rv⟩ := id hrf
  have hpb := hP.bd
  have hs8 := hP.2.1
  refine T_iconst dX10_isVanishing_0 (by decide) ?_
  refine T_istore_n dX10_isVanishing_1 (Nat.le_of_ble_eq_true rfl) ?_
  refine T_iconst dX10_isVanishing_2 (by decide) ?_
  refine T_istore_n dX10_isVanishing_3 (Nat.le_of_ble_eq_true rfl) ?_
  exact m_X10_isVanishing_4 hP hL hI hO hV hB hrf hQ _ 0 1 rfl  (by omega) (Or.inl ⟨rfl, fun i hi => absurd hi (Nat.not_lt_zero i)⟩) 
