/-! ===== the reference: slots and polynomials, snapshots: printed by wip/whole/gen/s_ref11.py ===== -/
set_option maxHeartbeats 4000000 in
set_option maxRecDepth 100000 in
theorem cc_termCount_4 {n0 n k : Nat} {g : Nat → zV} {h : zHp} {Q : Option zV → Nat → Nat → zHp → Prop} {m s z c : Nat} {p fk cn ln en ax nu wr sv sp ss : Int} {cu : Nat → Int} (hM : h m = some (.inl (11, mOb m p (s : Int) fk (z : Int) (c : Int) cn ln en ax nu wr sv sp ss))) (c0 : h (m + 3) = some (.inr (.inl (0, 81, cu)))) (hQ : Q (some (.inl ((znz cu 81) : Int))) n k h) : ∀ (d : Nat) (j : Nat) (w : Nat), 81 - j = d → (j ≤ 81) → (w = znz cu j) → ZT n0 g mX10_termCount 4 [some (.inr (some m)), some (.inl (w : Int)), some (.inl (j : Int))] [] n k h Q := by
  intro d
  induction d using Nat.strongRecOn with | _ d ih => ?_
  intro j w hd0 hj hw
  subst hd0
  have hb9 : znz cu j ≤ j := zcnt_le (fun m => decide (cu m ≠ 0)) j
  refine T_iload_n dX10_termCount_4 rfl ?_
  refine T_bipush dX10_termCount_5 (by decide) ?_
  refine T_icmp_ge dX10_termCount_7 (t := 33) rfl (fun c7 => ?_) (fun c7 => ?_)
  · refine T_iload_n dX10_termCount_33 rfl ?_
    refine T_iret dX10_termCount_34 rfl ?_
    rw [show w = znz cu 81 by rw [hw, show j = 81 by omega]]
    exact hQ
  · refine T_iload_n dX10_termCount_10 rfl ?_
    refine T_aload_n dX10_termCount_11 rfl ?_
    refine T_getfield dX10_termCount_12 zkf_11_20 hM rfl ?_
    refine T_iload_n dX10_termCount_15 rfl ?_
    refine T_ialoadN (m := j) dX10_termCount_16 c0 rfl (by omega) ?_
    refine T_if_ne dX10_termCount_17 (t := 24) rfl (fun c17 => ?_) (fun c17 => ?_)
    · refine T_iconst dX10_termCount_24 (by decide) ?_
      refine T_iadd dX10_termCount_25 ⟨by omega, by omega⟩ ?_
      refine T_istore_n dX10_termCount_26 (Nat.le_of_ble_eq_true rfl) ?_
      refine T_iinc dX10_termCount_27 rfl ⟨by omega, by omega⟩ ?_
      refine T_goto dX10_termCount_30 (t := 4) rfl ?_
      exact ih _ (by omega) (j + 1) (w + 1) rfl  (by omega) (by simp only [hw, znz, zcnt] at *; simp [*]) 
    · refine T_iconst dX10_termCount_20 (by decide) ?_
      refine T_goto dX10_termCount_21 (t := 25) rfl ?_
      refine T_iadd dX10_termCount_25 ⟨by omega, by omega⟩ ?_
      refine T_istore_n dX10_termCount_26 (Nat.le_of_ble_eq_true rfl) ?_
      refine T_iinc dX10_termCount_27 rfl ⟨by omega, by omega⟩ ?_
      refine T_goto dX10_termCount_30 (t := 4) rfl ?_
      exact ih _ (by omega) (j + 1) (w + 0) rfl  (by omega) (by simp only [hw, znz, zcnt] at *; simp [*]) 
set_option maxHeartbeats 4000000 in
set_option maxRecDepth 100000 in
theorem cc_termCount {n0 n k : Nat} {g : Nat → zV} {h : zHp} {Q : Option zV → Nat → Nat → zHp → Prop} {m s z c : Nat} {p fk cn ln en ax nu wr sv sp ss : Int} {cu : Nat → Int} (hM : h m = some (.inl (11, mOb m p (s : Int) fk (z : Int) (c : Int) cn ln en ax nu wr sv sp ss))) (c0 : h (m + 3) = some (.inr (.inl (0, 81, cu)))) (hQ : Q (some (.inl ((znz cu 81) : Int))) n k h) : ZT n0 g mX10_termCount 0 (zloc mX10_termCount [.inr (some m)]) [] n k h Q := by
  show ZT n0 g mX10_termCount 0 [some (.inr (some m)), none, none] [] n k h Q
  refine T_iconst dX10_termCount_0 (by decide) ?_
  refine T_istore_n dX10_termCount_1 (Nat.le_of_ble_eq_true rfl) ?_
  refine T_iconst dX10_termCount_2 (by decide) ?_
  refine T_istore_n dX10_termCount_3 (Nat.le_of_ble_eq_true rfl) ?_
  exact cc_termCount_4 hM c0 hQ _ 0 0 rfl  (by omega) rfl 
set_option maxHeartbeats 4000000 in
set_option maxRecDepth 100000 in
theorem m_X10_storePolynomial_18 {n0 n k : Nat} {g : Nat → zV} {h : zHp} {Q : Option zV → Nat → Nat → zHp → Prop} {m : Nat} {P : pT} {L : lT} {I O : tT} {V : Int × pT} {i : Int} (hP : pwf P) (hL : lwf L) (hI : iwf I) (hO : owf O) (hV : vwf V) (hB : n0 ≤ m) (hrf : rfAt h m P L I O V) (hQ : ∀  (h' : zHp), (rfAt h' m P (s_sp P L i).2 I O V) → (∀ q : Nat, (q < m ∨ m + 33 ≤ q) → h' q = h q) → Q (some (.inl ((s_sp P L i).1))) n k h') : ∀ (d : Nat) (j : Nat) (q : Nat) (ki9 : Nat → Int) (st9 : Nat → Int), 81 - q = d → ∀ h1 : zHp, h1 (m + 26) = some (.inr (.inl (0, 4, ki9))) → h1 (m + 29) = some (.inr (.inl (0, 324, st9))) → (∀ q : Nat, q ≠ (m + 26) → q ≠ (m + 29) → h1 q = h q) → (i = (j : Int) ∧ j < 4) → (q ≤ 81) → (∀ a, a < q → st9 (81 * j + a) = P.2.2.2.2 a) → (∀ b x, b < 4 → b ≠ j → L.1 b = 2 → x < 81 → st9 (81 * b + x) = L.2.2.2 b x) → (∀ b, b < 4 → ki9 b = ((zfu L.1 j 2 b : Nat) : Int)) → ZT n0 g mX10_storePolynomial 18 [some (.inr (some m)), some (.inl i), some (.inl (q : Int))] [] n k h1 Q := by
  intro d
  induction d using Nat.strongRecOn with | _ d ih => ?_
  intro j q ki9 st9 hd0 h1 mk ms hfr hi hq hu hv hk
  subst hd0
  obtain ⟨fk, z, c, cn, en, ax, nu, sp, ss, hM, rp, rc, rk, rf, ry, ri, ro, rl, rv⟩ := id hrf
  have hpb := hP.bd
  have hs8 := hP.2.1
  obtain ⟨cu, c0, c1⟩ := id rc
  obtain ⟨ki, le, el, sto, l0, l1, l2, l3, l4⟩ := id rl
  refine T_iload_n dX10_storePolynomial_18 rfl ?_
  refine T_bipush dX10_storePolynomial_19 (by decide) ?_
  refine T_icmp_ge dX10_storePolynomial_21 (t := 47) rfl (fun c21 => ?_) (fun c21 => ?_)
  · refine T_aload_n dX10_storePolynomial_47 rfl ?_
    refine T_callV dX10_storePolynomial_48 zkm_11_242 (Or.inl rfl) rfl ((hfr _ (by omega) (by omega)).trans hM) ⟨Nat.le_of_ble_eq_true rfl, rfl⟩ rfl (Nat.le_of_ble_eq_true rfl) ?_
    refine cc_termCount ((hfr _ (by omega) (by omega)).trans hM) ((hfr _ (by omega) (by omega)).trans c0)  ?_
    refine T_iret dX10_storePolynomial_51 rfl ?_
    obtain ⟨rfl, hj⟩ := id hi
    have hsl : sSl (j : Int) := ⟨by omega, by omega⟩
    have e : s_sp P L (j : Int) = ((znz cu 81 : Int), (zfu L.1 j 2, L.2.1, L.2.2.1, zfu L.2.2.2 j P.2.2.2.2)) := by unfold s_sp; rw [if_pos hsl, Int.toNat_natCast, znz_ext c1]
    rw [e] at hQ
    exact hQ _ ⟨fk, z, c, cn, en, ax, nu, sp, ss, ((hfr _ (by omega) (by omega)).trans hM), (rp.frame (fun q a1 a2 => ((hfr _ (by omega) (by omega)).trans (rfl)))), (rc.frame (fun q a1 a2 => ((hfr _ (by omega) (by omega)).trans (rfl)))), (rk.frame (fun q a1 a2 => ((hfr _ (by omega) (by omega)).trans (rfl)))), (rf.frame (fun q a1 a2 => ((hfr _ (by omega) (by omega)).trans (rfl)))), (ry.frame (fun q a1 a2 => ((hfr _ (by omega) (by omega)).trans (rfl)))), (ri.frame (fun q a1 a2 => ((hfr _ (by omega) (by omega)).trans (rfl)))), (ro.frame (fun q a1 a2 => ((hfr _ (by omega) (by omega)).trans (rfl)))), ⟨_, _, _, _, mk, ((hfr _ (by omega) (by omega)).trans (l1)), ((hfr _ (by omega) (by omega)).trans (l2)), ms, fun a ha => by
      refine ⟨hk a ha, fun x => ?_, fun x => ?_⟩
      · have y : zfu L.1 j 2 a = 1 := x
        by_cases e9 : a = j
        · rw [e9, zfu_self] at y; omega
        · rw [zfu_ne e9] at y; exact (l4 a ha).2.1 y
      · have y : zfu L.1 j 2 a = 2 := x
        show ∀ x, x < 81 → _ = zfu L.2.2.2 j P.2.2.2.2 a x
        by_cases e9 : a = j
        · subst e9; rw [zfu_self]; exact fun x hx => hu x (by omega)
        · rw [zfu_ne e9] at y; rw [zfu_ne e9]; exact fun x hx => hv a x ha e9 y hx⟩, (rv.frame (fun q a1 a2 => ((hfr _ (by omega) (by omega)).trans (rfl))))⟩ (fun q a1 => ((hfr _ (by omega) (by omega)).trans (rfl)))
  · refine T_aload_n dX10_storePolynomial_24 rfl ?_
    refine T_getfield dX10_storePolynomial_25 zkf_11_99 ((hfr _ (by omega) (by omega)).trans hM) rfl ?_
    refine T_bipush dX10_storePolynomial_28 (by decide) ?_
    refine T_iload_n dX10_storePolynomial_30 rfl ?_
    refine T_imul dX10_storePolynomial_31 ⟨by omega, by omega⟩ ?_
    refine T_iload_n dX10_storePolynomial_32 rfl ?_
    refine T_iadd dX10_storePolynomial_33 ⟨by omega, by omega⟩ ?_
    refine T_aload_n dX10_storePolynomial_34 rfl ?_
    refine T_getfield dX10_storePolynomial_35 zkf_11_20 ((hfr _ (by omega) (by omega)).trans hM) rfl ?_
    refine T_iload_n dX10_storePolynomial_38 rfl ?_
    refine T_ialoadN (m := q) dX10_storePolynomial_39 ((hfr _ (by omega) (by omega)).trans c0) rfl (by omega) ?_
    refine T_iastoreN (m := (81 * j + q)) dX10_storePolynomial_40 ms (by omega) (by omega) (by omega) ?_
    refine T_iinc dX10_storePolynomial_41 rfl ⟨by omega, by omega⟩ ?_
    refine T_goto dX10_storePolynomial_44 (t := 18) rfl ?_
    exact ih _ (by omega) j (q + 1) _ _ rfl _ (zup_ne (by omega) mk) zup_self (fun q q0 q1 => ((zup_nf q1).trans ((hfr _ q0 q1).trans rfl))) hi (by omega) (fun a ha => by
          by_cases e : a = q
          · rw [e, zfu_self]; exact c1 q (by omega)
          · rw [zfu_ne (by omega)]; exact hu a (by omega)) (fun b x hb hne h2 hx => by rw [zfu_ne (by omega)]; exact hv b x hb hne h2 hx) hk 
set_option maxHeartbeats 4000000 in
set_option maxRecDepth 100000 in
theorem m_X10_storePolynomial {n0 n k : Nat} {g : Nat → zV} {h : zHp} {Q : Option zV → Nat → Nat → zHp → Prop} {m : Nat} {P : pT} {L : lT} {I O : tT} {V : Int × pT} {i : Int} (hP : pwf P) (hL : lwf L) (hI : iwf I) (hO : owf O) (hV : vwf V) (hB : n0 ≤ m) (hrf : rfAt h m P L I O V) (hQ : ∀  (h' : zHp), (rfAt h' m P (s_sp P L i).2 I O V) → (∀ q : Nat, (q < m ∨ m + 33 ≤ q) → h' q = h q) → Q (some (.inl ((s_sp P L i).1))) n k h') : ZT n0 g mX10_storePolynomial 0 (zloc mX10_storePolynomial [.inr (some m), .inl i]) [] n k h Q := by
  show ZT n0 g mX10_storePolynomial 0 [some (.inr (some m)), some (.inl i), none] [] n k h Q
  obtain ⟨fk, z, c, cn, en, ax, nu, sp, ss, hM, rp, rc, rk, rf, ry, ri, ro, rl, rv⟩ := id hrf
  have hpb := hP.bd
  have hs8 := hP.2.1
  obtain ⟨cu, c0, c1⟩ := id rc
  obtain ⟨ki, le, el, sto, l0, l1, l2, l3, l4⟩ := id rl
  refine T_iload_n dX10_storePolynomial_0 rfl ?_
  refine T_callS dX10_storePolynomial_1 zkm_11_249 ⟨Nat.le_of_ble_eq_true rfl, Nat.le_of_ble_eq_true rfl, rfl⟩ rfl (Nat.le_of_ble_eq_true rfl) ?_
  refine m_X10_isSlot   (fun k1a => ?_) (fun k1a_2 => ?_)
  · refine T_if_ne dX10_storePolynomial_4 (t := 9) rfl (fun _ => ?_) (fun hc => absurd hc (by decide))
    obtain ⟨j, rfl⟩ := Int.eq_ofNat_of_zero_le k1a.1
    have hj : j < 4 := by omega
    have hsl : sSl (j : Int) := ⟨by omega, by omega⟩
    obtain ⟨lj, lj1, lj2⟩ := l4 j hj
    obtain ⟨w1, w2, w3⟩ := hL j hj
    refine T_aload_n dX10_storePolynomial_9 rfl ?_
    refine T_getfield dX10_storePolynomial_10 zkf_11_90 hM rfl ?_
    refine T_iload_n dX10_storePolynomial_13 rfl ?_
    refine T_iconst dX10_storePolynomial_14 (by decide) ?_
    refine T_iastoreN (m := j) dX10_storePolynomial_15 l0 rfl (by omega) (by omega) ?_
    refine T_iconst dX10_storePolynomial_16 (by decide) ?_
    refine T_istore_n dX10_storePolynomial_17 (Nat.le_of_ble_eq_true rfl) ?_
    exact m_X10_storePolynomial_18 hP hL hI hO hV hB hrf hQ _ j 0 _ _ rfl _ zup_self (zup_ne (by omega) l3) (fun q q0 q1 => ((zup_nf q0).trans rfl)) ⟨rfl, hj⟩ (by omega) (fun i hi => absurd hi (Nat.not_lt_zero i)) (fun b x hb hne h2 hx => (l4 b hb).2.2 h2 x hx) (fun b hb => by
          by_cases e : b = j
          · rw [e, zfu_self, zfu_self]; rfl
          · rw [zfu_ne e, zfu_ne e]; exact (l4 b hb).1) 
  · refine T_if_ne dX10_storePolynomial_4 (t := 9) rfl (fun hc => absurd hc (by decide)) (fun _ => ?_)
    refine T_iconst dX10_storePolynomial_7 (by decide) ?_
    refine T_iret dX10_storePolynomial_8 rfl ?_
    have e : s_sp P L i = (-1, L) := by exact if_neg (by exact k1a_2)
    rw [e] at hQ
    exact hQ h hrf (fun _ _ => rfl)
set_option maxHeartbeats 4000000 in
set_option maxRecDepth 100000 in
theorem m_X10_loadPolynomial_24 {n0 n k : Nat} {g : Nat → zV} {h : zHp} {Q : Option zV → Nat → Nat → zHp → Prop} {m : Nat} {P : pT} {L : lT} {I O : tT} {V : Int × pT} {i : Int} (hP : pwf P) (hL : lwf L) (hI : iwf I) (hO : owf O) (hV : vwf V) (hB : n0 ≤ m) (hrf : rfAt h m P L I O V) (hQ : ∀  (h' : zHp), (rfAt h' m (s_lp P L i).2 L I O V) → (∀ q : Nat, (q < m ∨ m + 33 ≤ q) → h' q = h q) → Q (some (.inl ((s_lp P L i).1))) n k h') : ∀ (d : Nat) (j : Nat) (q : Nat) (u : Nat → Int) (L2 : Option zV), 81 - q = d → ∀ h1 : zHp, h1 (m + 3) = some (.inr (.inl (0, 81, u))) → (∀ q : Nat, q ≠ (m + 3) → h1 q = h q) → (i = (j : Int) ∧ j < 4 ∧ L.1 j = 2) → (q ≤ 81) → (∀ a, a < q → u a = L.2.2.2 j a % P.1) → ZT n0 g mX10_loadPolynomial 24 [some (.inr (some m)), some (.inl i), L2, some (.inl (q : Int))] [] n k h1 Q := by
  intro d
  induction d using Nat.strongRecOn with | _ d ih => ?_
  intro j q u L2 hd0 h1 mu hfr hi hq hu
  subst hd0
  obtain ⟨fk, z, c, cn, en, ax, nu, sp, ss, hM, rp, rc, rk, rf, ry, ri, ro, rl, rv⟩ := id hrf
  have hpb := hP.bd
  have hs8 := hP.2.1
  obtain ⟨cu, c0, c1⟩ := id rc
  obtain ⟨ki, le, el, sto, l0, l1, l2, l3, l4⟩ := id rl
  have l49 := (l4 j hi.2.1).2.2 hi.2.2
  have w39 := (hL j hi.2.1).2.2 hi.2.2
  refine T_iload_n dX10_loadPolynomial_24 rfl ?_
  refine T_bipush dX10_loadPolynomial_25 (by decide) ?_
  refine T_icmp_ge dX10_loadPolynomial_27 (t := 58) rfl (fun c27 => ?_) (fun c27 => ?_)
  · refine T_aload_n dX10_loadPolynomial_58 rfl ?_
    refine T_callV dX10_loadPolynomial_59 zkm_11_242 (Or.inl rfl) rfl ((hfr _ (by omega)).trans hM) ⟨Nat.le_of_ble_eq_true rfl, rfl⟩ rfl (Nat.le_of_ble_eq_true rfl) ?_
    refine cc_termCount ((hfr _ (by omega)).trans hM) mu  ?_
    refine T_iret dX10_loadPolynomial_62 rfl ?_
    obtain ⟨rfl, hj, h2⟩ := id hi
    have hsl : sSl (j : Int) := ⟨by omega, by omega⟩
    have hz : zami L j 2 = 0 := by unfold zami; rw [if_neg (by omega), if_pos (by omega)]
    have hu9 : ∀ a, a < 81 → u a = L.2.2.2 j a % P.1 := fun a ha => hu a (by omega)
    have e : s_lp P L (j : Int) = ((znz u 81 : Int), pC P (fun a => L.2.2.2 j a % P.1)) := by unfold s_lp; rw [if_pos hsl, Int.toNat_natCast, if_pos hz, znz_ext hu9]
    rw [e] at hQ
    exact hQ _ ⟨fk, z, c, cn, en, ax, nu, sp, ss, ((hfr _ (by omega)).trans hM), (rp.frame (fun q a1 a2 => ((hfr _ (by omega)).trans (rfl)))), ⟨_, mu, hu9⟩, (rk.frame (fun q a1 a2 => ((hfr _ (by omega)).trans (rfl)))), ((rf.frame (fun q a1 a2 => ((hfr _ (by omega)).trans (rfl)))).cur _), (ry.frame (fun q a1 a2 => ((hfr _ (by omega)).trans (rfl)))), (ri.frame (fun q a1 a2 => ((hfr _ (by omega)).trans (rfl)))), (ro.frame (fun q a1 a2 => ((hfr _ (by omega)).trans (rfl)))), (rl.frame (fun q a1 a2 => ((hfr _ (by omega)).trans (rfl)))), (rv.frame (fun q a1 a2 => ((hfr _ (by omega)).trans (rfl))))⟩ (fun q a1 => ((hfr _ (by omega)).trans (rfl)))
  · refine T_aload_n dX10_loadPolynomial_30 rfl ?_
    refine T_getfield dX10_loadPolynomial_31 zkf_11_20 ((hfr _ (by omega)).trans hM) rfl ?_
    refine T_iload_n dX10_loadPolynomial_34 rfl ?_
    refine T_aload_n dX10_loadPolynomial_35 rfl ?_
    refine T_getfield dX10_loadPolynomial_36 zkf_11_99 ((hfr _ (by omega)).trans hM) rfl ?_
    refine T_bipush dX10_loadPolynomial_39 (by decide) ?_
    refine T_iload_n dX10_loadPolynomial_41 rfl ?_
    refine T_imul dX10_loadPolynomial_42 ⟨by omega, by omega⟩ ?_
    refine T_iload_n dX10_loadPolynomial_43 rfl ?_
    refine T_iadd dX10_loadPolynomial_44 ⟨by omega, by omega⟩ ?_
    refine T_ialoadN (m := (81 * j + q)) dX10_loadPolynomial_45 ((hfr _ (by omega)).trans l3) (by have := hi.1; omega) (by omega) ?_
    have l48 := l49 q (by omega)
    have w38 := w39 q (by omega)
    refine T_aload_n dX10_loadPolynomial_46 rfl ?_
    refine T_getfield dX10_loadPolynomial_47 zkf_11_7 ((hfr _ (by omega)).trans hM) rfl ?_
    refine T_iremN dX10_loadPolynomial_50 ⟨by omega, by omega⟩ (by omega) ?_
    have r50 := zmod_bd (sto (81 * j + q)) P.1 (by omega)
    refine T_iastoreN (m := q) dX10_loadPolynomial_51 mu rfl (by omega) (by omega) ?_
    refine T_iinc dX10_loadPolynomial_52 rfl ⟨by omega, by omega⟩ ?_
    refine T_goto dX10_loadPolynomial_55 (t := 24) rfl ?_
    exact ih _ (by omega) j (q + 1) _ _ rfl _ zup_self (fun q q0 => ((zup_nf q0).trans ((hfr _ q0).trans rfl))) hi (by omega) (fun a ha => by
          by_cases e9 : a = q
          · rw [e9, zfu_self, l49 q (by omega)]
          · rw [zfu_ne e9]; exact hu a (by omega)) 
set_option maxHeartbeats 4000000 in
set_option maxRecDepth 100000 in
theorem m_X10_loadPolynomial {n0 n k : Nat} {g : Nat → zV} {h : zHp} {Q : Option zV → Nat → Nat → zHp → Prop} {m : Nat} {P : pT} {L : lT} {I O : tT} {V : Int × pT} {i : Int} (hP : pwf P) (hL : lwf L) (hI : iwf I) (hO : owf O) (hV : vwf V) (hB : n0 ≤ m) (hrf : rfAt h m P L I O V) (hQ : ∀  (h' : zHp), (rfAt h' m (s_lp P L i).2 L I O V) → (∀ q : Nat, (q < m ∨ m + 33 ≤ q) → h' q = h q) → Q (some (.inl ((s_lp P L i).1))) n k h') : ZT n0 g mX10_loadPolynomial 0 (zloc mX10_loadPolynomial [.inr (some m), .inl i]) [] n k h Q := by
  show ZT n0 g mX10_loadPolynomial 0 [some (.inr (some m)), some (.inl i), none, none] [] n k h Q
  obtain ⟨fk, z, c, cn, en, ax, nu, sp, ss, hM, rp, rc, rk, rf, ry, ri, ro, rl, rv⟩ := id hrf
  have hpb := hP.bd
  have hs8 := hP.2.1
  obtain ⟨cu, c0, c1⟩ := id rc
  obtain ⟨ki, le, el, sto, l0, l1, l2, l3, l4⟩ := id rl
  refine T_iload_n dX10_loadPolynomial_0 rfl ?_
  refine T_callS dX10_loadPolynomial_1 zkm_11_249 ⟨Nat.le_of_ble_eq_true rfl, Nat.le_of_ble_eq_true rfl, rfl⟩ rfl (Nat.le_of_ble_eq_true rfl) ?_
  refine m_X10_isSlot   (fun k1a => ?_) (fun k1a_2 => ?_)
  · refine T_if_ne dX10_loadPolynomial_4 (t := 9) rfl (fun _ => ?_) (fun hc => absurd hc (by decide))
    obtain ⟨j, rfl⟩ := Int.eq_ofNat_of_zero_le k1a.1
    have hj : j < 4 := by omega
    have hsl : sSl (j : Int) := ⟨by omega, by omega⟩
    obtain ⟨lj, lj1, lj2⟩ := l4 j hj
    obtain ⟨w1, w2, w3⟩ := hL j hj
    refine T_aload_n dX10_loadPolynomial_9 rfl ?_
    refine T_iload_n dX10_loadPolynomial_10 rfl ?_
    refine T_iconst dX10_loadPolynomial_11 (by decide) ?_
    refine T_callV dX10_loadPolynomial_12 zkm_11_293 (Or.inl rfl) rfl hM ⟨Nat.le_of_ble_eq_true rfl, rfl⟩ rfl (Nat.le_of_ble_eq_true rfl) ?_
    refine m_X10_amiss  hP hL hI hO hV hB hrf hj ?_
    refine T_istore_n dX10_loadPolynomial_15 (Nat.le_of_ble_eq_true rfl) ?_
    refine T_iload_n dX10_loadPolynomial_16 rfl ?_
    refine T_if_eq dX10_loadPolynomial_17 (t := 22) rfl (fun c17 => ?_) (fun c17 => ?_)
    · refine T_iconst dX10_loadPolynomial_22 (by decide) ?_
      refine T_istore_n dX10_loadPolynomial_23 (Nat.le_of_ble_eq_true rfl) ?_
      exact m_X10_loadPolynomial_24 hP hL hI hO hV hB hrf hQ _ j 0 cu _ rfl _ c0 (fun q q0 => rfl) ⟨rfl, hj, zami_is (by omega)⟩ (by omega) (fun i hi => absurd hi (Nat.not_lt_zero i)) 
    · refine T_iload_n dX10_loadPolynomial_20 rfl ?_
      refine T_iret dX10_loadPolynomial_21 rfl ?_
      have e : s_lp P L (j : Int) = (zami L j 2, P) := by unfold s_lp; rw [if_pos hsl, Int.toNat_natCast, if_neg (by omega)]
      rw [e] at hQ
      exact hQ h hrf (fun _ _ => rfl)
  · refine T_if_ne dX10_loadPolynomial_4 (t := 9) rfl (fun hc => absurd hc (by decide)) (fun _ => ?_)
    refine T_iconst dX10_loadPolynomial_7 (by decide) ?_
    refine T_iret dX10_loadPolynomial_8 rfl ?_
    have e : s_lp P L i = (-1, P) := by exact if_neg (by exact k1a_2)
    rw [e] at hQ
    exact hQ h hrf (fun _ _ => rfl)
set_option maxHeartbeats 4000000 in
set_option maxRecDepth 100000 in
theorem m_X10_saveSnapshot_61 {n0 n k : Nat} {g : Nat → zV} {h : zHp} {Q : Option zV → Nat → Nat → zHp → Prop} {m : Nat} {P : pT} {L : lT} {I O : tT} {V : Int × pT} (hP : pwf P) (hL : lwf L) (hI : iwf I) (hO : owf O) (hV : vwf V) (hB : n0 ≤ m) (hrf : rfAt h m P L I O V) (hQ : ∀  (h' : zHp), (rfAt h' m P L I O (1, P)) → (∀ q : Nat, (q < m ∨ m + 33 ≤ q) → h' q = h q) → Q (some (.inl (P.2.1 : Int))) n k h') : ∀ (d : Nat) (q : Nat) (us : Nat → Int) (vs : Nat → Int) (ws : Nat → Int) (fk : Int) (z : Nat) (c : Nat) (cn : Int) (en : Int) (ax : Int) (nu : Int) (sp : Int) (ss : Int), 81 - q = d → ∀ h1 : zHp, h1 m = some (.inl (11, mOb m P.1 (P.2.1 : Int) fk (z : Int) (c : Int) cn (I.1 : Int) en ax nu (O.1 : Int) 1 P.1 (P.2.1 : Int))) → h1 (m + 30) = some (.inr (.inl (0, 8, us))) → h1 (m + 31) = some (.inr (.inl (0, 8, vs))) → h1 (m + 32) = some (.inr (.inl (0, 81, ws))) → (∀ q : Nat, q ≠ m → q ≠ (m + 30) → q ≠ (m + 31) → q ≠ (m + 32) → h1 q = h q) → (rfO fk z c cn en ax nu sp ss h m P L I O V) → (q ≤ 81) → (∀ a, a < P.2.1 → us a = P.2.2.1 a ∧ vs a = P.2.2.2.1 a) → (∀ a, a < q → ws a = P.2.2.2.2 a) → ZT n0 g mX10_saveSnapshot 61 [some (.inr (some m)), some (.inl (q : Int))] [] n k h1 Q := by
  intro d
  induction d using Nat.strongRecOn with | _ d ih => ?_
  intro q us vs ws fk z c cn en ax nu sp ss hd0 h1 go mx my mz hfr hop hq hu hw
  subst hd0
  obtain ⟨hM, rp, rc, rk, rf, ry, ri, ro, rl, rv⟩ := id hop
  have hpb := hP.bd
  have hs8 := hP.2.1
  obtain ⟨xs, ys, p0, p1, p2⟩ := id rp
  obtain ⟨cu, c0, c1⟩ := id rc
  obtain ⟨vx, vy, vc, v0, v1, v2, v3⟩ := id rv
  refine T_iload_n dX10_saveSnapshot_61 rfl ?_
  refine T_bipush dX10_saveSnapshot_62 (by decide) ?_
  refine T_icmp_ge dX10_saveSnapshot_64 (t := 85) rfl (fun c64 => ?_) (fun c64 => ?_)
  · refine T_aload_n dX10_saveSnapshot_85 rfl ?_
    refine T_getfield dX10_saveSnapshot_86 zkf_11_111 go rfl ?_
    refine T_iret dX10_saveSnapshot_89 rfl ?_
    exact hQ _ ⟨fk, z, c, cn, en, ax, nu, P.1, (P.2.1 : Int), go, (rp.frame (fun q a1 a2 => ((hfr _ (by omega) (by omega) (by omega) (by omega)).trans (rfl)))), (rc.frame (fun q a1 a2 => ((hfr _ (by omega) (by omega) (by omega) (by omega)).trans (rfl)))), (rk.frame (fun q a1 a2 => ((hfr _ (by omega) (by omega) (by omega) (by omega)).trans (rfl)))), (rf.frame (fun q a1 a2 => ((hfr _ (by omega) (by omega) (by omega) (by omega)).trans (rfl)))), (ry.frame (fun q a1 a2 => ((hfr _ (by omega) (by omega) (by omega) (by omega)).trans (rfl)))), (ri.frame (fun q a1 a2 => ((hfr _ (by omega) (by omega) (by omega) (by omega)).trans (rfl)))), (ro.frame (fun q a1 a2 => ((hfr _ (by omega) (by omega) (by omega) (by omega)).trans (rfl)))), (rl.frame (fun q a1 a2 => ((hfr _ (by omega) (by omega) (by omega) (by omega)).trans (rfl)))), ⟨_, _, _, mx, my, mz, Or.inr ⟨rfl, rfl, hu, fun i hi => hw i (by omega)⟩⟩⟩ (fun q a1 => ((hfr _ (by omega) (by omega) (by omega) (by omega)).trans (rfl)))
  · refine T_aload_n dX10_saveSnapshot_67 rfl ?_
    refine T_getfield dX10_saveSnapshot_68 zkf_11_108 go rfl ?_
    refine T_iload_n dX10_saveSnapshot_71 rfl ?_
    refine T_aload_n dX10_saveSnapshot_72 rfl ?_
    refine T_getfield dX10_saveSnapshot_73 zkf_11_20 go rfl ?_
    refine T_iload_n dX10_saveSnapshot_76 rfl ?_
    refine T_ialoadN (m := q) dX10_saveSnapshot_77 ((hfr _ (by omega) (by omega) (by omega) (by omega)).trans c0) rfl (by omega) ?_
    refine T_iastoreN (m := q) dX10_saveSnapshot_78 mz rfl (by omega) (by omega) ?_
    refine T_iinc dX10_saveSnapshot_79 rfl ⟨by omega, by omega⟩ ?_
    refine T_goto dX10_saveSnapshot_82 (t := 61) rfl ?_
    exact ih _ (by omega) (q + 1) _ _ _ _ _ _ _ _ _ _ _ _ rfl _ (zup_ne (by omega) go) (zup_ne (by omega) mx) (zup_ne (by omega) my) zup_self (fun q q0 q1 q2 q3 => ((zup_nf q3).trans ((hfr _ q0 q1 q2 q3).trans rfl))) hop (by omega) hu (fun a ha => by
          by_cases e9 : a = q
          · rw [e9, zfu_self]; exact c1 q (by omega)
          · rw [zfu_ne e9]; exact hw a (by omega)) 
set_option maxHeartbeats 4000000 in
set_option maxRecDepth 100000 in
theorem m_X10_saveSnapshot_23 {n0 n k : Nat} {g : Nat → zV} {h : zHp} {Q : Option zV → Nat → Nat → zHp → Prop} {m : Nat} {P : pT} {L : lT} {I O : tT} {V : Int × pT} (hP : pwf P) (hL : lwf L) (hI : iwf I) (hO : owf O) (hV : vwf V) (hB : n0 ≤ m) (hrf : rfAt h m P L I O V) (hQ : ∀  (h' : zHp), (rfAt h' m P L I O (1, P)) → (∀ q : Nat, (q < m ∨ m + 33 ≤ q) → h' q = h q) → Q (some (.inl (P.2.1 : Int))) n k h') : ∀ (d : Nat) (q : Nat) (us : Nat → Int) (vs : Nat → Int) (fk : Int) (z : Nat) (c : Nat) (cn : Int) (en : Int) (ax : Int) (nu : Int) (sp : Int) (ss : Int), 8 - q = d → ∀ h1 : zHp, h1 m = some (.inl (11, mOb m P.1 (P.2.1 : Int) fk (z : Int) (c : Int) cn (I.1 : Int) en ax nu (O.1 : Int) 1 P.1 (P.2.1 : Int))) → h1 (m + 30) = some (.inr (.inl (0, 8, us))) → h1 (m + 31) = some (.inr (.inl (0, 8, vs))) → (∀ q : Nat, q ≠ m → q ≠ (m + 30) → q ≠ (m + 31) → h1 q = h q) → (rfO fk z c cn en ax nu sp ss h m P L I O V) → (q ≤ 8) → (∀ a, a < q → a < P.2.1 → us a = P.2.2.1 a ∧ vs a = P.2.2.2.1 a) → ZT n0 g mX10_saveSnapshot 23 [some (.inr (some m)), some (.inl (q : Int))] [] n k h1 Q := by
  intro d
  induction d using Nat.strongRecOn with | _ d ih => ?_
  intro q us vs fk z c cn en ax nu sp ss hd0 h1 go mx my hfr hop hq hu
  subst hd0
  obtain ⟨hM, rp, rc, rk, rf, ry, ri, ro, rl, rv⟩ := id hop
  have hpb := hP.bd
  have hs8 := hP.2.1
  obtain ⟨xs, ys, p0, p1, p2⟩ := id rp
  obtain ⟨cu, c0, c1⟩ := id rc
  obtain ⟨vx, vy, vc, v0, v1, v2, v3⟩ := id rv
  refine T_iload_n dX10_saveSnapshot_23 rfl ?_
  refine T_bipush dX10_saveSnapshot_24 (by decide) ?_
  refine T_icmp_ge dX10_saveSnapshot_26 (t := 59) rfl (fun c26 => ?_) (fun c26 => ?_)
  · refine T_iconst dX10_saveSnapshot_59 (by decide) ?_
    refine T_istore_n dX10_saveSnapshot_60 (Nat.le_of_ble_eq_true rfl) ?_
    exact m_X10_saveSnapshot_61 hP hL hI hO hV hB hrf hQ _ 0 us vs vc _ _ _ _ _ _ _ _ _ rfl _ go mx my ((hfr _ (by omega) (by omega) (by omega)).trans v2) (fun q q0 q1 q2 q3 => ((hfr _ q0 q1 q2).trans rfl)) hop (by omega) (fun a ha => hu a (by omega) ha) (fun i hi => absurd hi (Nat.not_lt_zero i)) 
  · refine T_aload_n dX10_saveSnapshot_29 rfl ?_
    refine T_getfield dX10_saveSnapshot_30 zkf_11_102 go rfl ?_
    refine T_iload_n dX10_saveSnapshot_33 rfl ?_
    refine T_aload_n dX10_saveSnapshot_34 rfl ?_
    refine T_getfield dX10_saveSnapshot_35 zkf_11_13 go rfl ?_
    refine T_iload_n dX10_saveSnapshot_38 rfl ?_
    refine T_ialoadN (m := q) dX10_saveSnapshot_39 ((hfr _ (by omega) (by omega) (by omega)).trans p0) rfl (by omega) ?_
    refine T_iastoreN (m := q) dX10_saveSnapshot_40 mx rfl (by omega) (by omega) ?_
    refine T_aload_n dX10_saveSnapshot_41 rfl ?_
    refine T_getfield dX10_saveSnapshot_42 zkf_11_105 (zup_ne (by omega) go) rfl ?_
    refine T_iload_n dX10_saveSnapshot_45 rfl ?_
    refine T_aload_n dX10_saveSnapshot_46 rfl ?_
    refine T_getfield dX10_saveSnapshot_47 zkf_11_17 (zup_ne (by omega) go) rfl ?_
    refine T_iload_n dX10_saveSnapshot_50 rfl ?_
    refine T_ialoadN (m := q) dX10_saveSnapshot_51 (zup_ne (by omega) ((hfr _ (by omega) (by omega) (by omega)).trans p1)) rfl (by omega) ?_
    refine T_iastoreN (m := q) dX10_saveSnapshot_52 (zup_ne (by omega) my) rfl (by omega) (by omega) ?_
    refine T_iinc dX10_saveSnapshot_53 rfl ⟨by omega, by omega⟩ ?_
    refine T_goto dX10_saveSnapshot_56 (t := 23) rfl ?_
    exact ih _ (by omega) (q + 1) _ _ _ _ _ _ _ _ _ _ _ rfl _ (zup_ne (by omega) (zup_ne (by omega) go)) (zup_ne (by omega) zup_self) zup_self (fun q q0 q1 q2 => ((zup_nf q2).trans ((zup_nf q1).trans ((hfr _ q0 q1 q2).trans rfl)))) hop (by omega) (fun a ha hs => by
          by_cases e9 : a = q
          · subst e9; rw [zfu_self, zfu_self]; exact p2 a hs
          · rw [zfu_ne e9, zfu_ne e9]; exact hu a (by omega) hs) 
set_option maxHeartbeats 4000000 in
set_option maxRecDepth 100000 in
theorem m_X10_saveSnapshot {n0 n k : Nat} {g : Nat → zV} {h : zHp} {Q : Option zV → Nat → Nat → zHp → Prop} {m : Nat} {P : pT} {L : lT} {I O : tT} {V : Int × pT} (hP : pwf P) (hL : lwf L) (hI : iwf I) (hO : owf O) (hV : vwf V) (hB : n0 ≤ m) (hrf : rfAt h m P L I O V) (hQ : ∀  (h' : zHp), (rfAt h' m P L I O (1, P)) → (∀ q : Nat, (q < m ∨ m + 33 ≤ q) → h' q = h q) → Q (some (.inl (P.2.1 : Int))) n k h') : ZT n0 g mX10_saveSnapshot 0 (zloc mX10_saveSnapshot [.inr (some m)]) [] n k h Q := by
  show ZT n0 g mX10_saveSnapshot 0 [some (.inr (some m)), none] [] n k h Q
  obtain ⟨fk, z, c, cn, en, ax, nu, sp, ss, hM, rp, rc, rk, rf, ry, ri, ro, rl, rv⟩ := id hrf
  have hpb := hP.bd
  have hs8 := hP.2.1
  obtain ⟨xs, ys, p0, p1, p2⟩ := id rp
  obtain ⟨cu, c0, c1⟩ := id rc
  obtain ⟨vx, vy, vc, v0, v1, v2, v3⟩ := id rv
  refine T_aload_n dX10_saveSnapshot_0 rfl ?_
  refine T_iconst dX10_saveSnapshot_1 (by decide) ?_
  refine T_putfield dX10_saveSnapshot_2 zkf_11_296 hM (Nat.le_of_ble_eq_true rfl) (by omega) rfl (fun hf => absurd hf (by decide)) rfl ?_
  refine T_aload_n dX10_saveSnapshot_5 rfl ?_
  refine T_aload_n dX10_saveSnapshot_6 rfl ?_
  refine T_getfield dX10_saveSnapshot_7 zkf_11_7 zup_self rfl ?_
  refine T_putfield dX10_saveSnapshot_10 zkf_11_299 zup_self (Nat.le_of_ble_eq_true rfl) (by omega) rfl (fun hf => absurd hf (by decide)) rfl ?_
  refine T_aload_n dX10_saveSnapshot_13 rfl ?_
  refine T_aload_n dX10_saveSnapshot_14 rfl ?_
  refine T_getfield dX10_saveSnapshot_15 zkf_11_111 zup_self rfl ?_
  refine T_putfield dX10_saveSnapshot_18 zkf_11_302 zup_self (Nat.le_of_ble_eq_true rfl) (by omega) rfl (fun hf => absurd hf (by decide)) rfl ?_
  refine T_iconst dX10_saveSnapshot_21 (by decide) ?_
  refine T_istore_n dX10_saveSnapshot_22 (Nat.le_of_ble_eq_true rfl) ?_
  exact m_X10_saveSnapshot_23 hP hL hI hO hV hB hrf hQ _ 0 vx vy _ _ _ _ _ _ _ _ _ rfl _ zup_self (zup_ne (by omega) (zup_ne (by omega) (zup_ne (by omega) v0))) (zup_ne (by omega) (zup_ne (by omega) (zup_ne (by omega) v1))) (fun q q0 q1 q2 => ((zup_nf q0).trans ((zup_nf q0).trans ((zup_nf q0).trans rfl)))) ⟨hM, rp, rc, rk, rf, ry, ri, ro, rl, rv⟩ (by omega) (fun i hi => absurd hi (Nat.not_lt_zero i)) 
set_option maxHeartbeats 4000000 in
set_option maxRecDepth 100000 in
theorem m_X10_restoreSnapshot_66 {n0 n k : Nat} {g : Nat → zV} {h : zHp} {Q : Option zV → Nat → Nat → zHp → Prop} {m : Nat} {P : pT} {L : lT} {I O : tT} {V : Int × pT} (hP : pwf P) (hL : lwf L) (hI : iwf I) (hO : owf O) (hV : vwf V) (hB : n0 ≤ m) (hrf : rfAt h m P L I O V) (hQ : ∀  (h' : zHp), (rfAt h' m (s_rs P V).2 L I O V) → (∀ q : Nat, (q < m ∨ m + 33 ≤ q) → h' q = h q) → Q (some (.inl ((s_rs P V).1))) n k h') : ∀ (d : Nat) (q : Nat) (us : Nat → Int) (vs : Nat → Int) (ws : Nat → Int) (fk : Int) (z : Nat) (c : Nat) (cn : Int) (en : Int) (ax : Int) (nu : Int) (sp : Int) (ss : Int), 81 - q = d → ∀ h1 : zHp, h1 m = some (.inl (11, mOb m V.2.1 (V.2.2.1 : Int) fk (z : Int) (c : Int) cn (I.1 : Int) en ax nu (O.1 : Int) V.1 V.2.1 (V.2.2.1 : Int))) → h1 (m + 1) = some (.inr (.inl (0, 8, us))) → h1 (m + 2) = some (.inr (.inl (0, 8, vs))) → h1 (m + 3) = some (.inr (.inl (0, 81, ws))) → (∀ q : Nat, q ≠ m → q ≠ (m + 1) → q ≠ (m + 2) → q ≠ (m + 3) → h1 q = h q) → (rfO fk z c cn en ax nu sp ss h m P L I O V) → (q ≤ 81) → (V.1 = 1) → (∀ a, a < V.2.2.1 → us a = V.2.2.2.1 a ∧ vs a = V.2.2.2.2.1 a) → (∀ a, a < q → ws a = V.2.2.2.2.2 a) → ZT n0 g mX10_restoreSnapshot 66 [some (.inr (some m)), some (.inl (q : Int))] [] n k h1 Q := by
  intro d
  induction d using Nat.strongRecOn with | _ d ih => ?_
  intro q us vs ws fk z c cn en ax nu sp ss hd0 h1 go mx my mz hfr hop hq hv hu hw
  subst hd0
  obtain ⟨hM, rp, rc, rk, rf, ry, ri, ro, rl, rv⟩ := id hop
  have hpb := hP.bd
  have hs8 := hP.2.1
  obtain ⟨xs, ys, p0, p1, p2⟩ := id rp
  obtain ⟨cu, c0, c1⟩ := id rc
  obtain ⟨vx, vy, vc, v0, v1, v2, v3⟩ := id rv
  obtain ⟨rfl, rfl, v4, v5⟩ := v3.resolve_left (by omega)
  have hV2 := (hV.2 hv).2.1
  refine T_iload_n dX10_restoreSnapshot_66 rfl ?_
  refine T_bipush dX10_restoreSnapshot_67 (by decide) ?_
  refine T_icmp_ge dX10_restoreSnapshot_69 (t := 90) rfl (fun c69 => ?_) (fun c69 => ?_)
  · refine T_aload_n dX10_restoreSnapshot_90 rfl ?_
    refine T_iconst dX10_restoreSnapshot_91 (by decide) ?_
    refine T_putfield dX10_restoreSnapshot_92 zkf_11_122 go (Nat.le_of_ble_eq_true rfl) (by omega) rfl (fun hf => absurd hf (by decide)) rfl ?_
    refine T_aload_n dX10_restoreSnapshot_95 rfl ?_
    refine T_getfield dX10_restoreSnapshot_96 zkf_11_111 zup_self rfl ?_
    refine T_iret dX10_restoreSnapshot_99 rfl ?_
    have e : s_rs P V = ((V.2.2.1 : Int), V.2) := by exact if_neg (by omega)
    rw [e] at hQ
    exact hQ _ ⟨0, z, c, cn, en, ax, nu, V.2.1, (V.2.2.1 : Int), zup_self, ⟨_, _, (zup_ne (by omega) mx), (zup_ne (by omega) my), hu⟩, ⟨_, (zup_ne (by omega) mz), fun i hi => hw i (by omega)⟩, (rk.frame (fun q a1 a2 => ((zup_nf (by omega)).trans (((hfr _ (by omega) (by omega) (by omega) (by omega)).trans (rfl)))))), (rf.frame (fun q a1 a2 => ((zup_nf (by omega)).trans (((hfr _ (by omega) (by omega) (by omega) (by omega)).trans (rfl)))))).forget, (ry.frame (fun q a1 a2 => ((zup_nf (by omega)).trans (((hfr _ (by omega) (by omega) (by omega) (by omega)).trans (rfl)))))), (ri.frame (fun q a1 a2 => ((zup_nf (by omega)).trans (((hfr _ (by omega) (by omega) (by omega) (by omega)).trans (rfl)))))), (ro.frame (fun q a1 a2 => ((zup_nf (by omega)).trans (((hfr _ (by omega) (by omega) (by omega) (by omega)).trans (rfl)))))), (rl.frame (fun q a1 a2 => ((zup_nf (by omega)).trans (((hfr _ (by omega) (by omega) (by omega) (by omega)).trans (rfl)))))), (rv.frame (fun q a1 a2 => ((zup_nf (by omega)).trans (((hfr _ (by omega) (by omega) (by omega) (by omega)).trans (rfl))))))⟩ (fun q a1 => ((zup_nf (by omega)).trans (((hfr _ (by omega) (by omega) (by omega) (by omega)).trans (rfl)))))
  · refine T_aload_n dX10_restoreSnapshot_72 rfl ?_
    refine T_getfield dX10_restoreSnapshot_73 zkf_11_20 go rfl ?_
    refine T_iload_n dX10_restoreSnapshot_76 rfl ?_
    refine T_aload_n dX10_restoreSnapshot_77 rfl ?_
    refine T_getfield dX10_restoreSnapshot_78 zkf_11_108 go rfl ?_
    refine T_iload_n dX10_restoreSnapshot_81 rfl ?_
    refine T_ialoadN (m := q) dX10_restoreSnapshot_82 ((hfr _ (by omega) (by omega) (by omega) (by omega)).trans v2) rfl (by omega) ?_
    refine T_iastoreN (m := q) dX10_restoreSnapshot_83 mz rfl (by omega) (by omega) ?_
    refine T_iinc dX10_restoreSnapshot_84 rfl ⟨by omega, by omega⟩ ?_
    refine T_goto dX10_restoreSnapshot_87 (t := 66) rfl ?_
    exact ih _ (by omega) (q + 1) _ _ _ _ _ _ _ _ _ _ _ _ rfl _ (zup_ne (by omega) go) (zup_ne (by omega) mx) (zup_ne (by omega) my) zup_self (fun q q0 q1 q2 q3 => ((zup_nf q3).trans ((hfr _ q0 q1 q2 q3).trans rfl))) hop (by omega) hv hu (fun a ha => by
          by_cases e9 : a = q
          · rw [e9, zfu_self]; exact v5 q (by omega)
          · rw [zfu_ne e9]; exact hw a (by omega)) 
set_option maxHeartbeats 4000000 in
set_option maxRecDepth 100000 in
theorem m_X10_restoreSnapshot_28 {n0 n k : Nat} {g : Nat → zV} {h : zHp} {Q : Option zV → Nat → Nat → zHp → Prop} {m : Nat} {P : pT} {L : lT} {I O : tT} {V : Int × pT} (hP : pwf P) (hL : lwf L) (hI : iwf I) (hO : owf O) (hV : vwf V) (hB : n0 ≤ m) (hrf : rfAt h m P L I O V) (hQ : ∀  (h' : zHp), (rfAt h' m (s_rs P V).2 L I O V) → (∀ q : Nat, (q < m ∨ m + 33 ≤ q) → h' q = h q) → Q (some (.inl ((s_rs P V).1))) n k h') : ∀ (d : Nat) (q : Nat) (us : Nat → Int) (vs : Nat → Int) (fk : Int) (z : Nat) (c : Nat) (cn : Int) (en : Int) (ax : Int) (nu : Int) (sp : Int) (ss : Int), 8 - q = d → ∀ h1 : zHp, h1 m = some (.inl (11, mOb m V.2.1 (V.2.2.1 : Int) fk (z : Int) (c : Int) cn (I.1 : Int) en ax nu (O.1 : Int) V.1 V.2.1 (V.2.2.1 : Int))) → h1 (m + 1) = some (.inr (.inl (0, 8, us))) → h1 (m + 2) = some (.inr (.inl (0, 8, vs))) → (∀ q : Nat, q ≠ m → q ≠ (m + 1) → q ≠ (m + 2) → h1 q = h q) → (rfO fk z c cn en ax nu sp ss h m P L I O V) → (q ≤ 8) → (V.1 = 1) → (∀ a, a < q → a < V.2.2.1 → us a = V.2.2.2.1 a ∧ vs a = V.2.2.2.2.1 a) → ZT n0 g mX10_restoreSnapshot 28 [some (.inr (some m)), some (.inl (q : Int))] [] n k h1 Q := by
  intro d
  induction d using Nat.strongRecOn with | _ d ih => ?_
  intro q us vs fk z c cn en ax nu sp ss hd0 h1 go mx my hfr hop hq hv hu
  subst hd0
  obtain ⟨hM, rp, rc, rk, rf, ry, ri, ro, rl, rv⟩ := id hop
  have hpb := hP.bd
  have hs8 := hP.2.1
  obtain ⟨xs, ys, p0, p1, p2⟩ := id rp
  obtain ⟨cu, c0, c1⟩ := id rc
  obtain ⟨vx, vy, vc, v0, v1, v2, v3⟩ := id rv
  obtain ⟨rfl, rfl, v4, v5⟩ := v3.resolve_left (by omega)
  have hV2 := (hV.2 hv).2.1
  refine T_iload_n dX10_restoreSnapshot_28 rfl ?_
  refine T_bipush dX10_restoreSnapshot_29 (by decide) ?_
  refine T_icmp_ge dX10_restoreSnapshot_31 (t := 64) rfl (fun c31 => ?_) (fun c31 => ?_)
  · refine T_iconst dX10_restoreSnapshot_64 (by decide) ?_
    refine T_istore_n dX10_restoreSnapshot_65 (Nat.le_of_ble_eq_true rfl) ?_
    exact m_X10_restoreSnapshot_66 hP hL hI hO hV hB hrf hQ _ 0 us vs cu _ _ _ _ _ _ _ _ _ rfl _ go mx my ((hfr _ (by omega) (by omega) (by omega)).trans c0) (fun q q0 q1 q2 q3 => ((hfr _ q0 q1 q2).trans rfl)) hop (by omega) hv (fun a ha => hu a (by omega) ha) (fun i hi => absurd hi (Nat.not_lt_zero i)) 
  · refine T_aload_n dX10_restoreSnapshot_34 rfl ?_
    refine T_getfield dX10_restoreSnapshot_35 zkf_11_13 go rfl ?_
    refine T_iload_n dX10_restoreSnapshot_38 rfl ?_
    refine T_aload_n dX10_restoreSnapshot_39 rfl ?_
    refine T_getfield dX10_restoreSnapshot_40 zkf_11_102 go rfl ?_
    refine T_iload_n dX10_restoreSnapshot_43 rfl ?_
    refine T_ialoadN (m := q) dX10_restoreSnapshot_44 ((hfr _ (by omega) (by omega) (by omega)).trans v0) rfl (by omega) ?_
    refine T_iastoreN (m := q) dX10_restoreSnapshot_45 mx rfl (by omega) (by omega) ?_
    refine T_aload_n dX10_restoreSnapshot_46 rfl ?_
    refine T_getfield dX10_restoreSnapshot_47 zkf_11_17 (zup_ne (by omega) go) rfl ?_
    refine T_iload_n dX10_restoreSnapshot_50 rfl ?_
    refine T_aload_n dX10_restoreSnapshot_51 rfl ?_
    refine T_getfield dX10_restoreSnapshot_52 zkf_11_105 (zup_ne (by omega) go) rfl ?_
    refine T_iload_n dX10_restoreSnapshot_55 rfl ?_
    refine T_ialoadN (m := q) dX10_restoreSnapshot_56 (zup_ne (by omega) ((hfr _ (by omega) (by omega) (by omega)).trans v1)) rfl (by omega) ?_
    refine T_iastoreN (m := q) dX10_restoreSnapshot_57 (zup_ne (by omega) my) rfl (by omega) (by omega) ?_
    refine T_iinc dX10_restoreSnapshot_58 rfl ⟨by omega, by omega⟩ ?_
    refine T_goto dX10_restoreSnapshot_61 (t := 28) rfl ?_
    exact ih _ (by omega) (q + 1) _ _ _ _ _ _ _ _ _ _ _ rfl _ (zup_ne (by omega) (zup_ne (by omega) go)) (zup_ne (by omega) zup_self) zup_self (fun q q0 q1 q2 => ((zup_nf q2).trans ((zup_nf q1).trans ((hfr _ q0 q1 q2).trans rfl)))) hop (by omega) hv (fun a ha hs => by
          by_cases e9 : a = q
          · subst e9; rw [zfu_self, zfu_self]; exact v4 a hs
          · rw [zfu_ne e9, zfu_ne e9]; exact hu a (by omega) hs) 
set_option maxHeartbeats 4000000 in
set_option maxRecDepth 100000 in
theorem m_X10_restoreSnapshot {n0 n k : Nat} {g : Nat → zV} {h : zHp} {Q : Option zV → Nat → Nat → zHp → Prop} {m : Nat} {P : pT} {L : lT} {I O : tT} {V : Int × pT} (hP : pwf P) (hL : lwf L) (hI : iwf I) (hO : owf O) (hV : vwf V) (hB : n0 ≤ m) (hrf : rfAt h m P L I O V) (hQ : ∀  (h' : zHp), (rfAt h' m (s_rs P V).2 L I O V) → (∀ q : Nat, (q < m ∨ m + 33 ≤ q) → h' q = h q) → Q (some (.inl ((s_rs P V).1))) n k h') : ZT n0 g mX10_restoreSnapshot 0 (zloc mX10_restoreSnapshot [.inr (some m)]) [] n k h Q := by
  show ZT n0 g mX10_restoreSnapshot 0 [some (.inr (some m)), none] [] n k h Q
  obtain ⟨fk, z, c, cn, en, ax, nu, sp, ss, hM, rp, rc, rk, rf, ry, ri, ro, rl, rv⟩ := id hrf
  have hpb := hP.bd
  have hs8 := hP.2.1
  obtain ⟨xs, ys, p0, p1, p2⟩ := id rp
  obtain ⟨cu, c0, c1⟩ := id rc
  obtain ⟨vx, vy, vc, v0, v1, v2, v3⟩ := id rv
  refine T_aload_n dX10_restoreSnapshot_0 rfl ?_
  refine T_getfield dX10_restoreSnapshot_1 zkf_11_296 hM rfl ?_
  refine T_if_ne dX10_restoreSnapshot_4 (t := 10) rfl (fun c4 => ?_) (fun c4 => ?_)
  · have hv : V.1 = 1 := by rcases hV.1 with x | x; exact absurd x (by omega); exact x
    obtain ⟨rfl, rfl, v4, v5⟩ := v3.resolve_left (by omega)
    have hV2 := (hV.2 hv).2.1
    refine T_aload_n dX10_restoreSnapshot_10 rfl ?_
    refine T_aload_n dX10_restoreSnapshot_11 rfl ?_
    refine T_getfield dX10_restoreSnapshot_12 zkf_11_299 hM rfl ?_
    refine T_putfield dX10_restoreSnapshot_15 zkf_11_7 hM (Nat.le_of_ble_eq_true rfl) (by omega) rfl (fun hf => absurd hf (by decide)) rfl ?_
    refine T_aload_n dX10_restoreSnapshot_18 rfl ?_
    refine T_aload_n dX10_restoreSnapshot_19 rfl ?_
    refine T_getfield dX10_restoreSnapshot_20 zkf_11_302 zup_self rfl ?_
    refine T_putfield dX10_restoreSnapshot_23 zkf_11_111 zup_self (Nat.le_of_ble_eq_true rfl) (by omega) rfl (fun hf => absurd hf (by decide)) rfl ?_
    refine T_iconst dX10_restoreSnapshot_26 (by decide) ?_
    refine T_istore_n dX10_restoreSnapshot_27 (Nat.le_of_ble_eq_true rfl) ?_
    exact m_X10_restoreSnapshot_28 hP hL hI hO hV hB hrf hQ _ 0 xs ys _ _ _ _ _ _ _ _ _ rfl _ zup_self (zup_ne (by omega) (zup_ne (by omega) p0)) (zup_ne (by omega) (zup_ne (by omega) p1)) (fun q q0 q1 q2 => ((zup_nf q0).trans ((zup_nf q0).trans rfl))) ⟨hM, rp, rc, rk, rf, ry, ri, ro, rl, rv⟩ (by omega) hv (fun i hi => absurd hi (Nat.not_lt_zero i)) 
  · refine T_bipush dX10_restoreSnapshot_7 (by decide) ?_
    refine T_iret dX10_restoreSnapshot_9 rfl ?_
    have e : s_rs P V = (-5, P) := by exact if_pos (by omega)
    rw [e] at hQ
    exact hQ h hrf (fun _ _ => rfl)
