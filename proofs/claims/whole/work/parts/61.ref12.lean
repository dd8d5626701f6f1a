/-! ===== the reference: orders; its fan at the picture: printed by wip/whole/gen/s_ref12.py ===== -/
set_option maxHeartbeats 4000000 in
set_option maxRecDepth 100000 in
theorem m_X10_isWeight {n0 n k : Nat} {g : Nat → zV} {h : zHp} {Q : Option zV → Nat → Nat → zHp → Prop} {u v : Int}  (hT : (sWt u v) → Q (some (.inl 1)) n k h) (hF : (¬ sWt u v) → Q (some (.inl 0)) n k h) : ZT n0 g mX10_isWeight 0 (zloc mX10_isWeight [.inl u, .inl v]) [] n k h Q := by
  show ZT n0 g mX10_isWeight 0 [some (.inl u), some (.inl v)] [] n k h Q
  refine T_iload_n dX10_isWeight_0 rfl ?_
  refine T_iconst dX10_isWeight_1 (by decide) ?_
  refine T_bipush dX10_isWeight_2 (by decide) ?_
  refine T_callS dX10_isWeight_4 zkm_11_114 ⟨Nat.le_of_ble_eq_true rfl, Nat.le_of_ble_eq_true rfl, rfl⟩ rfl (Nat.le_of_ble_eq_true rfl) ?_
  refine m_X10_isIn   (fun k4a => ?_) (fun k4a_2 => ?_)
  · refine T_if_eq dX10_isWeight_7 (t := 30) rfl (fun hc => absurd hc (by decide)) (fun _ => ?_)
    refine T_iload_n dX10_isWeight_10 rfl ?_
    refine T_iconst dX10_isWeight_11 (by decide) ?_
    refine T_bipush dX10_isWeight_12 (by decide) ?_
    refine T_callS dX10_isWeight_14 zkm_11_114 ⟨Nat.le_of_ble_eq_true rfl, Nat.le_of_ble_eq_true rfl, rfl⟩ rfl (Nat.le_of_ble_eq_true rfl) ?_
    refine m_X10_isIn   (fun k14a => ?_) (fun k14a_2 => ?_)
    · refine T_if_eq dX10_isWeight_17 (t := 30) rfl (fun hc => absurd hc (by decide)) (fun _ => ?_)
      refine T_iload_n dX10_isWeight_20 rfl ?_
      refine T_iload_n dX10_isWeight_21 rfl ?_
      refine T_iadd dX10_isWeight_22 ⟨by omega, by omega⟩ ?_
      refine T_if_le dX10_isWeight_23 (t := 30) rfl (fun c23 => ?_) (fun c23 => ?_)
      · refine T_iconst dX10_isWeight_30 (by decide) ?_
        refine T_iret dX10_isWeight_31 rfl ?_
        first | exact hT ⟨by omega, by omega⟩ | exact hF (fun q => by omega)
      · refine T_iconst dX10_isWeight_26 (by decide) ?_
        refine T_goto dX10_isWeight_27 (t := 31) rfl ?_
        refine T_iret dX10_isWeight_31 rfl ?_
        first | exact hT ⟨by omega, by omega⟩ | exact hF (fun q => by omega)
    · refine T_if_eq dX10_isWeight_17 (t := 30) rfl (fun _ => ?_) (fun hc => absurd hc (by decide))
      refine T_iconst dX10_isWeight_30 (by decide) ?_
      refine T_iret dX10_isWeight_31 rfl ?_
      first | exact hT ⟨by omega, by omega⟩ | exact hF (fun q => by omega)
  · refine T_if_eq dX10_isWeight_7 (t := 30) rfl (fun _ => ?_) (fun hc => absurd hc (by decide))
    refine T_iconst dX10_isWeight_30 (by decide) ?_
    refine T_iret dX10_isWeight_31 rfl ?_
    first | exact hT ⟨by omega, by omega⟩ | exact hF (fun q => by omega)
set_option maxHeartbeats 4000000 in
set_option maxRecDepth 100000 in
theorem m_X10_exponents {n0 n k : Nat} {g : Nat → zV} {h : zHp} {Q : Option zV → Nat → Nat → zHp → Prop} {a : Nat} (ha : a < 81) (hQ : Q (some (.inl ((10 * (a / 9) + a % 9) : Int))) n k h) : ZT n0 g mX10_exponents 0 (zloc mX10_exponents [.inl (a : Int)]) [] n k h Q := by
  show ZT n0 g mX10_exponents 0 [some (.inl (a : Int))] [] n k h Q
  refine T_bipush dX10_exponents_0 (by decide) ?_
  refine T_iload_n dX10_exponents_2 rfl ?_
  refine T_bipush dX10_exponents_3 (by decide) ?_
  refine T_idivN dX10_exponents_5 ⟨by omega, by omega⟩ (by omega) ?_
  refine T_imul dX10_exponents_6 ⟨by omega, by omega⟩ ?_
  refine T_iload_n dX10_exponents_7 rfl ?_
  refine T_bipush dX10_exponents_8 (by decide) ?_
  refine T_iremN dX10_exponents_10 ⟨by omega, by omega⟩ (by omega) ?_
  refine T_iadd dX10_exponents_11 ⟨by omega, by omega⟩ ?_
  refine T_iret dX10_exponents_12 rfl ?_
  exact hQ
set_option maxHeartbeats 4000000 in
set_option maxRecDepth 100000 in
theorem m_X10_columnHeight {n0 n k : Nat} {g : Nat → zV} {h : zHp} {Q : Option zV → Nat → Nat → zHp → Prop} {m : Nat} {P : pT} {L : lT} {I O : tT} {V : Int × pT} {u v t x : Int} (hP : pwf P) (hL : lwf L) (hI : iwf I) (hO : owf O) (hV : vwf V) (hB : n0 ≤ m) (hrf : rfAt h m P L I O V) (hQ : ∀  (h' : zHp), (rfAt h' m P L I O V) → (∀ q : Nat, (q < m ∨ m + 33 ≤ q) → h' q = h q) → Q (some (.inl (s_ch P u v t x))) n k h') : ZT n0 g mX10_columnHeight 0 (zloc mX10_columnHeight [.inr (some m), .inl u, .inl v, .inl t, .inl x]) [] n k h Q := by
  show ZT n0 g mX10_columnHeight 0 [some (.inr (some m)), some (.inl u), some (.inl v), some (.inl t), some (.inl x)] [] n k h Q
  obtain ⟨fk, z, c, cn, en, ax, nu, sp, ss, hM, rp, rc, rk, rf, ry, ri, ro, rl, rv⟩ := id hrf
  have hpb := hP.bd
  have hs8 := hP.2.1
  obtain ⟨xs, ys, p0, p1, p2⟩ := id rp
  obtain ⟨od0, iS0, sd0, re0, cb0, pv0, ve0, fa0, hh0, co0, po0, kod, kiS, ksd, kre, kcb, kpv, kve, kfa, khh, kco, kpo⟩ := id rk
  refine T_iload dX10_columnHeight_0 rfl ?_
  refine T_callS dX10_columnHeight_2 zkm_11_176 ⟨Nat.le_of_ble_eq_true rfl, Nat.le_of_ble_eq_true rfl, rfl⟩ rfl (Nat.le_of_ble_eq_true rfl) ?_
  refine m_X10_isExponent   (fun k2a => ?_) (fun k2a_2 => ?_)
  · refine T_if_ne dX10_columnHeight_5 (t := 10) rfl (fun _ => ?_) (fun hc => absurd hc (by decide))
    refine T_iload_n dX10_columnHeight_10 rfl ?_
    refine T_iload_n dX10_columnHeight_11 rfl ?_
    refine T_callS dX10_columnHeight_12 zkm_11_179 ⟨Nat.le_of_ble_eq_true rfl, Nat.le_of_ble_eq_true rfl, rfl⟩ rfl (Nat.le_of_ble_eq_true rfl) ?_
    refine m_X10_isWeight   (fun k12a => ?_) (fun k12a_2 => ?_)
    · refine T_if_eq dX10_columnHeight_15 (t := 27) rfl (fun hc => absurd hc (by decide)) (fun _ => ?_)
      refine T_iload_n dX10_columnHeight_18 rfl ?_
      refine T_iconst dX10_columnHeight_19 (by decide) ?_
      refine T_iconst dX10_columnHeight_20 (by decide) ?_
      refine T_callS dX10_columnHeight_21 zkm_11_114 ⟨Nat.le_of_ble_eq_true rfl, Nat.le_of_ble_eq_true rfl, rfl⟩ rfl (Nat.le_of_ble_eq_true rfl) ?_
      refine m_X10_isIn   (fun k21a => ?_) (fun k21a_2 => ?_)
      · refine T_if_ne dX10_columnHeight_24 (t := 30) rfl (fun _ => ?_) (fun hc => absurd hc (by decide))
        have hor : sOrd u v t := ⟨k12a, by omega⟩
        obtain ⟨j, rfl⟩ := Int.eq_ofNat_of_zero_le k2a.1
        refine T_aload_n dX10_columnHeight_30 rfl ?_
        refine T_iload_n dX10_columnHeight_31 rfl ?_
        refine T_iload_n dX10_columnHeight_32 rfl ?_
        refine T_iload_n dX10_columnHeight_33 rfl ?_
        refine T_callV dX10_columnHeight_34 zkm_11_183 (Or.inl rfl) rfl hM ⟨Nat.le_of_ble_eq_true rfl, rfl⟩ rfl (Nat.le_of_ble_eq_true rfl) ?_
        refine m_X10_compute (X := P.2.2.1) (Y := P.2.2.2.1) hM p0 p1 kod kiS ksd kre kcb kpv kve kfa khh kco kpo (by omega) hP.1 p2 (fun k hk => hP.2.2.1 k hk) hor.1.1 hor.2 (by omega) (fun z134 c134 od134 iS134 sd134 re134 cb134 pv134 ve134 fa134 hh134 co134 po134 hh34 k34a k34b k34c f34a f34b f34c f34d f34e f34f f34g f34h f34i f34j f34k f34l fr34 => ?_)
        refine T_aload_n dX10_columnHeight_37 rfl ?_
        refine T_getfield dX10_columnHeight_38 zkf_11_48 f34a rfl ?_
        refine T_iload dX10_columnHeight_41 rfl ?_
        refine T_ialoadN (m := j) dX10_columnHeight_43 f34j rfl (by omega) ?_
        refine T_iret dX10_columnHeight_44 rfl ?_
        have e : s_ch P u v t (j : Int) = hh134 j := by unfold s_ch; rw [if_pos (by exact k2a), if_pos hor, Int.toNat_natCast]; exact (k34b j (by omega)).symm
        rw [e] at hQ
        exact hQ _ ⟨fk, z134, c134, cn, en, ax, nu, sp, ss, f34a, (rp.frame (fun q a1 a2 => ((fr34 _ (by omega) (by omega) (by omega) (by omega) (by omega) (by omega) (by omega) (by omega) (by omega) (by omega) (by omega) (by omega)).trans (rfl)))), (rc.frame (fun q a1 a2 => ((fr34 _ (by omega) (by omega) (by omega) (by omega) (by omega) (by omega) (by omega) (by omega) (by omega) (by omega) (by omega) (by omega)).trans (rfl)))), ⟨_, _, _, _, _, _, _, _, _, _, _, f34b, f34c, f34d, f34e, f34f, f34g, f34h, f34i, f34j, f34k, f34l⟩, (rf.frame (fun q a1 a2 => ((fr34 _ (by omega) (by omega) (by omega) (by omega) (by omega) (by omega) (by omega) (by omega) (by omega) (by omega) (by omega) (by omega)).trans (rfl)))), (ry.frame (fun q a1 a2 => ((fr34 _ (by omega) (by omega) (by omega) (by omega) (by omega) (by omega) (by omega) (by omega) (by omega) (by omega) (by omega) (by omega)).trans (rfl)))), (ri.frame (fun q a1 a2 => ((fr34 _ (by omega) (by omega) (by omega) (by omega) (by omega) (by omega) (by omega) (by omega) (by omega) (by omega) (by omega) (by omega)).trans (rfl)))), (ro.frame (fun q a1 a2 => ((fr34 _ (by omega) (by omega) (by omega) (by omega) (by omega) (by omega) (by omega) (by omega) (by omega) (by omega) (by omega) (by omega)).trans (rfl)))), (rl.frame (fun q a1 a2 => ((fr34 _ (by omega) (by omega) (by omega) (by omega) (by omega) (by omega) (by omega) (by omega) (by omega) (by omega) (by omega) (by omega)).trans (rfl)))), (rv.frame (fun q a1 a2 => ((fr34 _ (by omega) (by omega) (by omega) (by omega) (by omega) (by omega) (by omega) (by omega) (by omega) (by omega) (by omega) (by omega)).trans (rfl))))⟩ (fun q a1 => ((fr34 _ (by omega) (by omega) (by omega) (by omega) (by omega) (by omega) (by omega) (by omega) (by omega) (by omega) (by omega) (by omega)).trans (rfl)))
      · refine T_if_ne dX10_columnHeight_24 (t := 30) rfl (fun hc => absurd hc (by decide)) (fun _ => ?_)
        refine T_bipush dX10_columnHeight_27 (by decide) ?_
        refine T_iret dX10_columnHeight_29 rfl ?_
        have e : s_ch P u v t x = -2 := by unfold s_ch; rw [if_pos (by exact k2a), if_neg (by first | exact fun q => k12a_2 q.1 | exact fun q => k21a_2 (by omega))]
        rw [e] at hQ
        exact hQ h hrf (fun _ _ => rfl)
    · refine T_if_eq dX10_columnHeight_15 (t := 27) rfl (fun _ => ?_) (fun hc => absurd hc (by decide))
      refine T_bipush dX10_columnHeight_27 (by decide) ?_
      refine T_iret dX10_columnHeight_29 rfl ?_
      have e : s_ch P u v t x = -2 := by unfold s_ch; rw [if_pos (by exact k2a), if_neg (by first | exact fun q => k12a_2 q.1 | exact fun q => k21a_2 (by omega))]
      rw [e] at hQ
      exact hQ h hrf (fun _ _ => rfl)
  · refine T_if_ne dX10_columnHeight_5 (t := 10) rfl (fun hc => absurd hc (by decide)) (fun _ => ?_)
    refine T_iconst dX10_columnHeight_8 (by decide) ?_
    refine T_iret dX10_columnHeight_9 rfl ?_
    have e : s_ch P u v t x = -1 := by exact if_neg (by exact k2a_2)
    rw [e] at hQ
    exact hQ h hrf (fun _ _ => rfl)
set_option maxHeartbeats 4000000 in
set_option maxRecDepth 100000 in
theorem m_X10_cornerCount {n0 n k : Nat} {g : Nat → zV} {h : zHp} {Q : Option zV → Nat → Nat → zHp → Prop} {m : Nat} {P : pT} {L : lT} {I O : tT} {V : Int × pT} {u v t : Int} (hP : pwf P) (hL : lwf L) (hI : iwf I) (hO : owf O) (hV : vwf V) (hB : n0 ≤ m) (hrf : rfAt h m P L I O V) (hQ : ∀  (h' : zHp), (rfAt h' m P L I O V) → (∀ q : Nat, (q < m ∨ m + 33 ≤ q) → h' q = h q) → Q (some (.inl (s_cc P u v t))) n k h') : ZT n0 g mX10_cornerCount 0 (zloc mX10_cornerCount [.inr (some m), .inl u, .inl v, .inl t]) [] n k h Q := by
  show ZT n0 g mX10_cornerCount 0 [some (.inr (some m)), some (.inl u), some (.inl v), some (.inl t)] [] n k h Q
  obtain ⟨fk, z, c, cn, en, ax, nu, sp, ss, hM, rp, rc, rk, rf, ry, ri, ro, rl, rv⟩ := id hrf
  have hpb := hP.bd
  have hs8 := hP.2.1
  obtain ⟨xs, ys, p0, p1, p2⟩ := id rp
  obtain ⟨od0, iS0, sd0, re0, cb0, pv0, ve0, fa0, hh0, co0, po0, kod, kiS, ksd, kre, kcb, kpv, kve, kfa, khh, kco, kpo⟩ := id rk
  refine T_iload_n dX10_cornerCount_0 rfl ?_
  refine T_iload_n dX10_cornerCount_1 rfl ?_
  refine T_callS dX10_cornerCount_2 zkm_11_179 ⟨Nat.le_of_ble_eq_true rfl, Nat.le_of_ble_eq_true rfl, rfl⟩ rfl (Nat.le_of_ble_eq_true rfl) ?_
  refine m_X10_isWeight   (fun k2a => ?_) (fun k2a_2 => ?_)
  · refine T_if_eq dX10_cornerCount_5 (t := 17) rfl (fun hc => absurd hc (by decide)) (fun _ => ?_)
    refine T_iload_n dX10_cornerCount_8 rfl ?_
    refine T_iconst dX10_cornerCount_9 (by decide) ?_
    refine T_iconst dX10_cornerCount_10 (by decide) ?_
    refine T_callS dX10_cornerCount_11 zkm_11_114 ⟨Nat.le_of_ble_eq_true rfl, Nat.le_of_ble_eq_true rfl, rfl⟩ rfl (Nat.le_of_ble_eq_true rfl) ?_
    refine m_X10_isIn   (fun k11a => ?_) (fun k11a_2 => ?_)
    · refine T_if_ne dX10_cornerCount_14 (t := 20) rfl (fun _ => ?_) (fun hc => absurd hc (by decide))
      have hor : sOrd u v t := ⟨k2a, by omega⟩
      refine T_aload_n dX10_cornerCount_20 rfl ?_
      refine T_iload_n dX10_cornerCount_21 rfl ?_
      refine T_iload_n dX10_cornerCount_22 rfl ?_
      refine T_iload_n dX10_cornerCount_23 rfl ?_
      refine T_callV dX10_cornerCount_24 zkm_11_183 (Or.inl rfl) rfl hM ⟨Nat.le_of_ble_eq_true rfl, rfl⟩ rfl (Nat.le_of_ble_eq_true rfl) ?_
      refine m_X10_compute (X := P.2.2.1) (Y := P.2.2.2.1) hM p0 p1 kod kiS ksd kre kcb kpv kve kfa khh kco kpo (by omega) hP.1 p2 (fun k hk => hP.2.2.1 k hk) hor.1.1 hor.2 (by omega) (fun z124 c124 od124 iS124 sd124 re124 cb124 pv124 ve124 fa124 hh124 co124 po124 hh24 k24a k24b k24c f24a f24b f24c f24d f24e f24f f24g f24h f24i f24j f24k f24l fr24 => ?_)
      refine T_aload_n dX10_cornerCount_27 rfl ?_
      refine T_getfield dX10_cornerCount_28 zkf_11_152 f24a rfl ?_
      refine T_iret dX10_cornerCount_31 rfl ?_
      have e : s_cc P u v t = (c124 : Int) := by rw [s_cc, if_pos hor, k24a]
      rw [e] at hQ
      exact hQ _ ⟨fk, z124, c124, cn, en, ax, nu, sp, ss, f24a, (rp.frame (fun q a1 a2 => ((fr24 _ (by omega) (by omega) (by omega) (by omega) (by omega) (by omega) (by omega) (by omega) (by omega) (by omega) (by omega) (by omega)).trans (rfl)))), (rc.frame (fun q a1 a2 => ((fr24 _ (by omega) (by omega) (by omega) (by omega) (by omega) (by omega) (by omega) (by omega) (by omega) (by omega) (by omega) (by omega)).trans (rfl)))), ⟨_, _, _, _, _, _, _, _, _, _, _, f24b, f24c, f24d, f24e, f24f, f24g, f24h, f24i, f24j, f24k, f24l⟩, (rf.frame (fun q a1 a2 => ((fr24 _ (by omega) (by omega) (by omega) (by omega) (by omega) (by omega) (by omega) (by omega) (by omega) (by omega) (by omega) (by omega)).trans (rfl)))), (ry.frame (fun q a1 a2 => ((fr24 _ (by omega) (by omega) (by omega) (by omega) (by omega) (by omega) (by omega) (by omega) (by omega) (by omega) (by omega) (by omega)).trans (rfl)))), (ri.frame (fun q a1 a2 => ((fr24 _ (by omega) (by omega) (by omega) (by omega) (by omega) (by omega) (by omega) (by omega) (by omega) (by omega) (by omega) (by omega)).trans (rfl)))), (ro.frame (fun q a1 a2 => ((fr24 _ (by omega) (by omega) (by omega) (by omega) (by omega) (by omega) (by omega) (by omega) (by omega) (by omega) (by omega) (by omega)).trans (rfl)))), (rl.frame (fun q a1 a2 => ((fr24 _ (by omega) (by omega) (by omega) (by omega) (by omega) (by omega) (by omega) (by omega) (by omega) (by omega) (by omega) (by omega)).trans (rfl)))), (rv.frame (fun q a1 a2 => ((fr24 _ (by omega) (by omega) (by omega) (by omega) (by omega) (by omega) (by omega) (by omega) (by omega) (by omega) (by omega) (by omega)).trans (rfl))))⟩ (fun q a1 => ((fr24 _ (by omega) (by omega) (by omega) (by omega) (by omega) (by omega) (by omega) (by omega) (by omega) (by omega) (by omega) (by omega)).trans (rfl)))
    · refine T_if_ne dX10_cornerCount_14 (t := 20) rfl (fun hc => absurd hc (by decide)) (fun _ => ?_)
      refine T_bipush dX10_cornerCount_17 (by decide) ?_
      refine T_iret dX10_cornerCount_19 rfl ?_
      have e : s_cc P u v t = -2 := by exact if_neg (by first | exact fun q => k2a_2 q.1 | exact fun q => k11a_2 (by omega))
      rw [e] at hQ
      exact hQ h hrf (fun _ _ => rfl)
  · refine T_if_eq dX10_cornerCount_5 (t := 17) rfl (fun _ => ?_) (fun hc => absurd hc (by decide))
    refine T_bipush dX10_cornerCount_17 (by decide) ?_
    refine T_iret dX10_cornerCount_19 rfl ?_
    have e : s_cc P u v t = -2 := by exact if_neg (by first | exact fun q => k2a_2 q.1 | exact fun q => k11a_2 (by omega))
    rw [e] at hQ
    exact hQ h hrf (fun _ _ => rfl)
set_option maxHeartbeats 4000000 in
set_option maxRecDepth 100000 in
theorem m_X10_corner {n0 n k : Nat} {g : Nat → zV} {h : zHp} {Q : Option zV → Nat → Nat → zHp → Prop} {m : Nat} {P : pT} {L : lT} {I O : tT} {V : Int × pT} {u v t x : Int} (hP : pwf P) (hL : lwf L) (hI : iwf I) (hO : owf O) (hV : vwf V) (hB : n0 ≤ m) (hrf : rfAt h m P L I O V) (hQ : ∀  (h' : zHp), (rfAt h' m P L I O V) → (∀ q : Nat, (q < m ∨ m + 33 ≤ q) → h' q = h q) → Q (some (.inl (s_co P u v t x))) n k h') : ZT n0 g mX10_corner 0 (zloc mX10_corner [.inr (some m), .inl u, .inl v, .inl t, .inl x]) [] n k h Q := by
  show ZT n0 g mX10_corner 0 [some (.inr (some m)), some (.inl u), some (.inl v), some (.inl t), some (.inl x)] [] n k h Q
  obtain ⟨fk, z, c, cn, en, ax, nu, sp, ss, hM, rp, rc, rk, rf, ry, ri, ro, rl, rv⟩ := id hrf
  have hpb := hP.bd
  have hs8 := hP.2.1
  obtain ⟨xs, ys, p0, p1, p2⟩ := id rp
  obtain ⟨od0, iS0, sd0, re0, cb0, pv0, ve0, fa0, hh0, co0, po0, kod, kiS, ksd, kre, kcb, kpv, kve, kfa, khh, kco, kpo⟩ := id rk
  refine T_iload_n dX10_corner_0 rfl ?_
  refine T_iload_n dX10_corner_1 rfl ?_
  refine T_callS dX10_corner_2 zkm_11_179 ⟨Nat.le_of_ble_eq_true rfl, Nat.le_of_ble_eq_true rfl, rfl⟩ rfl (Nat.le_of_ble_eq_true rfl) ?_
  refine m_X10_isWeight   (fun k2a => ?_) (fun k2a_2 => ?_)
  · refine T_if_eq dX10_corner_5 (t := 17) rfl (fun hc => absurd hc (by decide)) (fun _ => ?_)
    refine T_iload_n dX10_corner_8 rfl ?_
    refine T_iconst dX10_corner_9 (by decide) ?_
    refine T_iconst dX10_corner_10 (by decide) ?_
    refine T_callS dX10_corner_11 zkm_11_114 ⟨Nat.le_of_ble_eq_true rfl, Nat.le_of_ble_eq_true rfl, rfl⟩ rfl (Nat.le_of_ble_eq_true rfl) ?_
    refine m_X10_isIn   (fun k11a => ?_) (fun k11a_2 => ?_)
    · refine T_if_ne dX10_corner_14 (t := 20) rfl (fun _ => ?_) (fun hc => absurd hc (by decide))
      have hor : sOrd u v t := ⟨k2a, by omega⟩
      have zf := zbas_facts (xs := P.2.2.1) (ys := P.2.2.2.1) (tie := t) hP.1 hP.2.1 hor.1.1.1 hor.1.1.2.2.1
      refine T_aload_n dX10_corner_20 rfl ?_
      refine T_iload_n dX10_corner_21 rfl ?_
      refine T_iload_n dX10_corner_22 rfl ?_
      refine T_iload_n dX10_corner_23 rfl ?_
      refine T_callV dX10_corner_24 zkm_11_183 (Or.inl rfl) rfl hM ⟨Nat.le_of_ble_eq_true rfl, rfl⟩ rfl (Nat.le_of_ble_eq_true rfl) ?_
      refine m_X10_compute (X := P.2.2.1) (Y := P.2.2.2.1) hM p0 p1 kod kiS ksd kre kcb kpv kve kfa khh kco kpo (by omega) hP.1 p2 (fun k hk => hP.2.2.1 k hk) hor.1.1 hor.2 (by omega) (fun z124 c124 od124 iS124 sd124 re124 cb124 pv124 ve124 fa124 hh124 co124 po124 hh24 k24a k24b k24c f24a f24b f24c f24d f24e f24f f24g f24h f24i f24j f24k f24l fr24 => ?_)
      refine T_iload dX10_corner_27 rfl ?_
      have k24d : c124 = (pZ P u v t).2.1 := k24a
      have hc4 : c124 ≤ 4 := by rw [k24a]; exact zf.1
      refine T_iconst dX10_corner_29 (by decide) ?_
      refine T_aload_n dX10_corner_30 rfl ?_
      refine T_getfield dX10_corner_31 zkf_11_152 f24a rfl ?_
      refine T_iconst dX10_corner_34 (by decide) ?_
      refine T_isub dX10_corner_35 ⟨by omega, by omega⟩ ?_
      refine T_callS dX10_corner_36 zkm_11_114 ⟨Nat.le_of_ble_eq_true rfl, Nat.le_of_ble_eq_true rfl, rfl⟩ rfl (Nat.le_of_ble_eq_true rfl) ?_
      refine m_X10_isIn   (fun k36a => ?_) (fun k36a_2 => ?_)
      · refine T_if_eq dX10_corner_39 (t := 55) rfl (fun hc => absurd hc (by decide)) (fun _ => ?_)
        obtain ⟨j, rfl⟩ := Int.eq_ofNat_of_zero_le k36a.1
        refine T_aload_n dX10_corner_42 rfl ?_
        refine T_getfield dX10_corner_43 zkf_11_51 f24a rfl ?_
        refine T_iload dX10_corner_46 rfl ?_
        refine T_ialoadN (m := j) dX10_corner_48 f24k rfl (by omega) ?_
        have kk := (k24c j (by omega)).1
        rw [kk]
        refine T_callS dX10_corner_49 zkm_11_186 ⟨Nat.le_of_ble_eq_true rfl, Nat.le_of_ble_eq_true rfl, rfl⟩ rfl (Nat.le_of_ble_eq_true rfl) ?_
        refine m_X10_exponents (a := ((pZ P u v t).2.2.1 j))  (zf.2.2.2 j (by rw [k24a] at k36a; omega)).1 ?_
        refine T_goto dX10_corner_52 (t := 56) rfl ?_
        refine T_iret dX10_corner_56 rfl ?_
        have e : s_co P u v t (j : Int) = zdec ((pZ P u v t).2.2.1 j) := by unfold s_co; rw [if_pos hor, if_pos (by rw [k24a] at k36a; omega), Int.toNat_natCast]
        rw [e] at hQ
        exact hQ _ ⟨fk, z124, c124, cn, en, ax, nu, sp, ss, f24a, (rp.frame (fun q a1 a2 => ((fr24 _ (by omega) (by omega) (by omega) (by omega) (by omega) (by omega) (by omega) (by omega) (by omega) (by omega) (by omega) (by omega)).trans (rfl)))), (rc.frame (fun q a1 a2 => ((fr24 _ (by omega) (by omega) (by omega) (by omega) (by omega) (by omega) (by omega) (by omega) (by omega) (by omega) (by omega) (by omega)).trans (rfl)))), ⟨_, _, _, _, _, _, _, _, _, _, _, f24b, f24c, f24d, f24e, f24f, f24g, f24h, f24i, f24j, f24k, f24l⟩, (rf.frame (fun q a1 a2 => ((fr24 _ (by omega) (by omega) (by omega) (by omega) (by omega) (by omega) (by omega) (by omega) (by omega) (by omega) (by omega) (by omega)).trans (rfl)))), (ry.frame (fun q a1 a2 => ((fr24 _ (by omega) (by omega) (by omega) (by omega) (by omega) (by omega) (by omega) (by omega) (by omega) (by omega) (by omega) (by omega)).trans (rfl)))), (ri.frame (fun q a1 a2 => ((fr24 _ (by omega) (by omega) (by omega) (by omega) (by omega) (by omega) (by omega) (by omega) (by omega) (by omega) (by omega) (by omega)).trans (rfl)))), (ro.frame (fun q a1 a2 => ((fr24 _ (by omega) (by omega) (by omega) (by omega) (by omega) (by omega) (by omega) (by omega) (by omega) (by omega) (by omega) (by omega)).trans (rfl)))), (rl.frame (fun q a1 a2 => ((fr24 _ (by omega) (by omega) (by omega) (by omega) (by omega) (by omega) (by omega) (by omega) (by omega) (by omega) (by omega) (by omega)).trans (rfl)))), (rv.frame (fun q a1 a2 => ((fr24 _ (by omega) (by omega) (by omega) (by omega) (by omega) (by omega) (by omega) (by omega) (by omega) (by omega) (by omega) (by omega)).trans (rfl))))⟩ (fun q a1 => ((fr24 _ (by omega) (by omega) (by omega) (by omega) (by omega) (by omega) (by omega) (by omega) (by omega) (by omega) (by omega) (by omega)).trans (rfl)))
      · refine T_if_eq dX10_corner_39 (t := 55) rfl (fun _ => ?_) (fun hc => absurd hc (by decide))
        refine T_iconst dX10_corner_55 (by decide) ?_
        refine T_iret dX10_corner_56 rfl ?_
        have e : s_co P u v t x = -1 := by unfold s_co; rw [if_pos hor, if_neg (by rw [k24d] at k36a_2; omega)]
        rw [e] at hQ
        exact hQ _ ⟨fk, z124, c124, cn, en, ax, nu, sp, ss, f24a, (rp.frame (fun q a1 a2 => ((fr24 _ (by omega) (by omega) (by omega) (by omega) (by omega) (by omega) (by omega) (by omega) (by omega) (by omega) (by omega) (by omega)).trans (rfl)))), (rc.frame (fun q a1 a2 => ((fr24 _ (by omega) (by omega) (by omega) (by omega) (by omega) (by omega) (by omega) (by omega) (by omega) (by omega) (by omega) (by omega)).trans (rfl)))), ⟨_, _, _, _, _, _, _, _, _, _, _, f24b, f24c, f24d, f24e, f24f, f24g, f24h, f24i, f24j, f24k, f24l⟩, (rf.frame (fun q a1 a2 => ((fr24 _ (by omega) (by omega) (by omega) (by omega) (by omega) (by omega) (by omega) (by omega) (by omega) (by omega) (by omega) (by omega)).trans (rfl)))), (ry.frame (fun q a1 a2 => ((fr24 _ (by omega) (by omega) (by omega) (by omega) (by omega) (by omega) (by omega) (by omega) (by omega) (by omega) (by omega) (by omega)).trans (rfl)))), (ri.frame (fun q a1 a2 => ((fr24 _ (by omega) (by omega) (by omega) (by omega) (by omega) (by omega) (by omega) (by omega) (by omega) (by omega) (by omega) (by omega)).trans (rfl)))), (ro.frame (fun q a1 a2 => ((fr24 _ (by omega) (by omega) (by omega) (by omega) (by omega) (by omega) (by omega) (by omega) (by omega) (by omega) (by omega) (by omega)).trans (rfl)))), (rl.frame (fun q a1 a2 => ((fr24 _ (by omega) (by omega) (by omega) (by omega) (by omega) (by omega) (by omega) (by omega) (by omega) (by omega) (by omega) (by omega)).trans (rfl)))), (rv.frame (fun q a1 a2 => ((fr24 _ (by omega) (by omega) (by omega) (by omega) (by omega) (by omega) (by omega) (by omega) (by omega) (by omega) (by omega) (by omega)).trans (rfl))))⟩ (fun q a1 => ((fr24 _ (by omega) (by omega) (by omega) (by omega) (by omega) (by omega) (by omega) (by omega) (by omega) (by omega) (by omega) (by omega)).trans (rfl)))
    · refine T_if_ne dX10_corner_14 (t := 20) rfl (fun hc => absurd hc (by decide)) (fun _ => ?_)
      refine T_bipush dX10_corner_17 (by decide) ?_
      refine T_iret dX10_corner_19 rfl ?_
      have e : s_co P u v t x = -2 := by exact if_neg (by first | exact fun q => k2a_2 q.1 | exact fun q => k11a_2 (by omega))
      rw [e] at hQ
      exact hQ h hrf (fun _ _ => rfl)
  · refine T_if_eq dX10_corner_5 (t := 17) rfl (fun _ => ?_) (fun hc => absurd hc (by decide))
    refine T_bipush dX10_corner_17 (by decide) ?_
    refine T_iret dX10_corner_19 rfl ?_
    have e : s_co P u v t x = -2 := by exact if_neg (by first | exact fun q => k2a_2 q.1 | exact fun q => k11a_2 (by omega))
    rw [e] at hQ
    exact hQ h hrf (fun _ _ => rfl)
set_option maxHeartbeats 4000000 in
set_option maxRecDepth 100000 in
theorem r_fan {n0 n k : Nat} {g : Nat → zV} {h : zHp} {Q : Option zV → Nat → Nat → zHp → Prop} {m : Nat} {P : pT} {L : lT} {I O : tT} {V : Int × pT} (hP : pwf P) (hL : lwf L) (hI : iwf I) (hO : owf O) (hV : vwf V) (hB : n0 ≤ m) (hrf : rfAt h m P L I O V) (hQ : ∀  (h' : zHp), (rfF 1 h' m P L I O V) → (∀ q : Nat, (q < m ∨ m + 33 ≤ q) → h' q = h q) → Q none n k h') : ZT n0 g mX10_fan 0 (zloc mX10_fan [.inr (some m)]) [] n k h Q := by
  obtain ⟨fk, z, c, cn, en, ax, nu, sp, ss, hM, rp, rc, rk, rf, ry, ri, ro, rl, rv⟩ := id hrf
  have hpb := hP.bd
  have hs8 := hP.2.1
  obtain ⟨xs, ys, p0, p1, p2⟩ := id rp
  obtain ⟨od0, iS0, sd0, re0, cb0, pv0, ve0, fa0, hh0, co0, po0, kod, kiS, ksd, kre, kcb, kpv, kve, kfa, khh, kco, kpo⟩ := id rk
  obtain ⟨tp, bt, sz, ch, cc, cl, ftp, fbt, fsz, fch, fcc, fcl, fkn⟩ := id rf
  refine m_X10_fan hM p0 p1 kod kiS ksd kre kcb kpv kve kfa khh kco kpo ftp fbt fsz fch fcc fcl hs8 hP.1 p2 (fun k hk => hP.2.2.1 k hk) hB fkn ?_
  intro z1 c1 v4 v5 v6 v7 v8 v9 v10 v11 v12 v13 v14 v15 v16 v17 v18 v19 v20 h1 k0 bo b4 b5 b6 b7 b8 b9 b10 b11 b12 b13 b14 b15 b16 b17 b18 b19 b20 bfr
  exact hQ h1 ⟨z1, c1, _, en, ax, nu, sp, ss, bo, (rp.frame (fun q a1 a2 => bfr q (by omega) (by omega) (by omega) (by omega) (by omega) (by omega) (by omega) (by omega) (by omega) (by omega) (by omega) (by omega) (by omega) (by omega) (by omega) (by omega) (by omega) (by omega))), (rc.frame (fun q a1 a2 => bfr q (by omega) (by omega) (by omega) (by omega) (by omega) (by omega) (by omega) (by omega) (by omega) (by omega) (by omega) (by omega) (by omega) (by omega) (by omega) (by omega) (by omega) (by omega))), ⟨_, _, _, _, _, _, _, _, _, _, _, b4, b5, b6, b7, b8, b9, b10, b11, b12, b13, b14⟩, ⟨_, _, _, _, _, _, b15, b16, b17, b18, b19, b20, Or.inr ⟨rfl, rfl, k0⟩⟩, (ry.frame (fun q a1 a2 => bfr q (by omega) (by omega) (by omega) (by omega) (by omega) (by omega) (by omega) (by omega) (by omega) (by omega) (by omega) (by omega) (by omega) (by omega) (by omega) (by omega) (by omega) (by omega))), (ri.frame (fun q a1 a2 => bfr q (by omega) (by omega) (by omega) (by omega) (by omega) (by omega) (by omega) (by omega) (by omega) (by omega) (by omega) (by omega) (by omega) (by omega) (by omega) (by omega) (by omega) (by omega))), (ro.frame (fun q a1 a2 => bfr q (by omega) (by omega) (by omega) (by omega) (by omega) (by omega) (by omega) (by omega) (by omega) (by omega) (by omega) (by omega) (by omega) (by omega) (by omega) (by omega) (by omega) (by omega))), (rl.frame (fun q a1 a2 => bfr q (by omega) (by omega) (by omega) (by omega) (by omega) (by omega) (by omega) (by omega) (by omega) (by omega) (by omega) (by omega) (by omega) (by omega) (by omega) (by omega) (by omega) (by omega))), (rv.frame (fun q a1 a2 => bfr q (by omega) (by omega) (by omega) (by omega) (by omega) (by omega) (by omega) (by omega) (by omega) (by omega) (by omega) (by omega) (by omega) (by omega) (by omega) (by omega) (by omega) (by omega)))⟩ (fun q a1 => bfr q (by omega) (by omega) (by omega) (by omega) (by omega) (by omega) (by omega) (by omega) (by omega) (by omega) (by omega) (by omega) (by omega) (by omega) (by omega) (by omega) (by omega) (by omega))
