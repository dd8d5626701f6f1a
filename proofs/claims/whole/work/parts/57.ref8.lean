/-! ===== the reference: calls on points: printed by wip/whole/gen/s_ref8.py ===== -/
set_option maxHeartbeats 4000000 in
set_option maxRecDepth 100000 in
theorem m_X10_setPrime {n0 n k : Nat} {g : Nat → zV} {h : zHp} {Q : Option zV → Nat → Nat → zHp → Prop} {m : Nat} {P : pT} {L : lT} {I O : tT} {V : Int × pT} {q : Int} (hP : pwf P) (hL : lwf L) (hI : iwf I) (hO : owf O) (hV : vwf V) (hB : n0 ≤ m) (hrf : rfAt h m P L I O V) (hQ : ∀  (h' : zHp), (rfAt h' m (s_prime P q).2 L I O V) → (∀ q : Nat, (q < m ∨ m + 33 ≤ q) → h' q = h q) → Q (some (.inl ((s_prime P q).1))) n k h') : ZT n0 g mX10_setPrime 0 (zloc mX10_setPrime [.inr (some m), .inl q]) [] n k h Q := by
  show ZT n0 g mX10_setPrime 0 [some (.inr (some m)), some (.inl q), none] [] n k h Q
  obtain ⟨fk, z, c, cn, en, ax, nu, sp, ss, hM, rp, rc, rk, rf, ry, ri, ro, rl, rv⟩ := id hrf
  have hpb := hP.bd
  have hs8 := hP.2.1
  obtain ⟨xs, ys, p0, p1, p2⟩ := id rp
  obtain ⟨cu, c0, c1⟩ := id rc
  refine T_iload_n dX10_setPrime_0 rfl ?_
  refine T_iconst dX10_setPrime_1 (by decide) ?_
  refine T_bipush dX10_setPrime_2 (by decide) ?_
  refine T_callS dX10_setPrime_4 zkm_11_114 ⟨Nat.le_of_ble_eq_true rfl, Nat.le_of_ble_eq_true rfl, rfl⟩ rfl (Nat.le_of_ble_eq_true rfl) ?_
  refine m_X10_isIn   (fun k4a => ?_) (fun k4a_2 => ?_)
  · refine T_if_eq dX10_setPrime_7 (t := 17) rfl (fun hc => absurd hc (by decide)) (fun _ => ?_)
    refine T_iload_n dX10_setPrime_10 rfl ?_
    refine T_callS dX10_setPrime_11 zkm_11_118 ⟨Nat.le_of_ble_eq_true rfl, Nat.le_of_ble_eq_true rfl, rfl⟩ rfl (Nat.le_of_ble_eq_true rfl) ?_
    refine m_X10_isPrime  k4a (fun k11a => ?_) (fun k11a_2 => ?_)
    · refine T_if_ne dX10_setPrime_14 (t := 20) rfl (fun _ => ?_) (fun hc => absurd hc (by decide))
      refine T_aload_n dX10_setPrime_20 rfl ?_
      refine T_getfield dX10_setPrime_21 zkf_11_7 hM rfl ?_
      refine T_istore_n dX10_setPrime_24 (Nat.le_of_ble_eq_true rfl) ?_
      refine T_aload_n dX10_setPrime_25 rfl ?_
      refine T_iload_n dX10_setPrime_26 rfl ?_
      refine T_putfield dX10_setPrime_27 zkf_11_7 hM (Nat.le_of_ble_eq_true rfl) (by omega) rfl (fun hf => absurd hf (by decide)) rfl ?_
      refine T_aload_n dX10_setPrime_30 rfl ?_
      refine T_iconst dX10_setPrime_31 (by decide) ?_
      refine T_putfield dX10_setPrime_32 zkf_11_111 zup_self (Nat.le_of_ble_eq_true rfl) (by omega) rfl (fun hf => absurd hf (by decide)) rfl ?_
      refine T_aload_n dX10_setPrime_35 rfl ?_
      refine T_iconst dX10_setPrime_36 (by decide) ?_
      refine T_putfield dX10_setPrime_37 zkf_11_122 zup_self (Nat.le_of_ble_eq_true rfl) (by omega) rfl (fun hf => absurd hf (by decide)) rfl ?_
      refine T_aload_n dX10_setPrime_40 rfl ?_
      refine T_callV dX10_setPrime_41 zkm_11_126 (Or.inl rfl) rfl zup_self ⟨Nat.le_of_ble_eq_true rfl, rfl⟩ rfl (Nat.le_of_ble_eq_true rfl) ?_
      refine m_X10_clearCurrent zup_self (zup_ne (by omega) (zup_ne (by omega) (zup_ne (by omega) c0))) (by omega) (fun cu'41 hh41 k41a f41a fr41 => ?_)
      refine T_iload_n dX10_setPrime_44 rfl ?_
      refine T_iret dX10_setPrime_45 rfl ?_
      have e : s_prime P q = (P.1, (q, 0, P.2.2.1, P.2.2.2.1, fun _ => 0)) := by unfold s_prime; rw [k11a]; rfl
      rw [e] at hQ
      exact hQ _ ⟨0, z, c, cn, en, ax, nu, sp, ss, ((fr41 _ (by omega)).trans zup_self), ⟨xs, ys, ((fr41 _ (by omega)).trans (zup_ne (by omega) (zup_ne (by omega) (zup_ne (by omega) p0)))), ((fr41 _ (by omega)).trans (zup_ne (by omega) (zup_ne (by omega) (zup_ne (by omega) p1)))), fun k hk => absurd hk (Nat.not_lt_zero k)⟩, ⟨_, f41a, fun i hi => k41a i hi⟩, (rk.frame (fun q a1 a2 => ((fr41 _ (by omega)).trans (((zup_nf (by omega)).trans (((zup_nf (by omega)).trans (((zup_nf (by omega)).trans (rfl)))))))))), (rf.frame (fun q a1 a2 => ((fr41 _ (by omega)).trans (((zup_nf (by omega)).trans (((zup_nf (by omega)).trans (((zup_nf (by omega)).trans (rfl)))))))))).forget, (ry.frame (fun q a1 a2 => ((fr41 _ (by omega)).trans (((zup_nf (by omega)).trans (((zup_nf (by omega)).trans (((zup_nf (by omega)).trans (rfl)))))))))), (ri.frame (fun q a1 a2 => ((fr41 _ (by omega)).trans (((zup_nf (by omega)).trans (((zup_nf (by omega)).trans (((zup_nf (by omega)).trans (rfl)))))))))), (ro.frame (fun q a1 a2 => ((fr41 _ (by omega)).trans (((zup_nf (by omega)).trans (((zup_nf (by omega)).trans (((zup_nf (by omega)).trans (rfl)))))))))), (rl.frame (fun q a1 a2 => ((fr41 _ (by omega)).trans (((zup_nf (by omega)).trans (((zup_nf (by omega)).trans (((zup_nf (by omega)).trans (rfl)))))))))), (rv.frame (fun q a1 a2 => ((fr41 _ (by omega)).trans (((zup_nf (by omega)).trans (((zup_nf (by omega)).trans (((zup_nf (by omega)).trans (rfl))))))))))⟩ (fun q a1 => ((fr41 _ (by omega)).trans (((zup_nf (by omega)).trans (((zup_nf (by omega)).trans (((zup_nf (by omega)).trans (rfl)))))))))
    · refine T_if_ne dX10_setPrime_14 (t := 20) rfl (fun hc => absurd hc (by decide)) (fun _ => ?_)
      refine T_bipush dX10_setPrime_17 (by decide) ?_
      refine T_iret dX10_setPrime_19 rfl ?_
      have e : s_prime P q = (-2, P) := by unfold s_prime; rw [k11a_2]; rfl
      rw [e] at hQ
      exact hQ h hrf (fun _ _ => rfl)
  · refine T_if_eq dX10_setPrime_7 (t := 17) rfl (fun _ => ?_) (fun hc => absurd hc (by decide))
    refine T_bipush dX10_setPrime_17 (by decide) ?_
    refine T_iret dX10_setPrime_19 rfl ?_
    have hb : zprB q = false := Bool.eq_false_iff.mpr (fun x => by have := (zprB_iff.mp x).bd; exact k4a_2 ⟨by omega, by omega⟩)
    have e : s_prime P q = (-2, P) := by unfold s_prime; rw [hb]; rfl
    rw [e] at hQ
    exact hQ h hrf (fun _ _ => rfl)
set_option maxHeartbeats 4000000 in
set_option maxRecDepth 100000 in
theorem m_X10_addPoint_33 {n0 n k : Nat} {g : Nat → zV} {h : zHp} {Q : Option zV → Nat → Nat → zHp → Prop} {m : Nat} {P : pT} {L : lT} {I O : tT} {V : Int × pT} {x y : Int} (hP : pwf P) (hL : lwf L) (hI : iwf I) (hO : owf O) (hV : vwf V) (hB : n0 ≤ m) (hrf : rfAt h m P L I O V) (hQ : ∀  (h' : zHp), (rfAt h' m (s_add P x y).2 L I O V) → (∀ q : Nat, (q < m ∨ m + 33 ≤ q) → h' q = h q) → Q (some (.inl ((s_add P x y).1))) n k h') : ∀ (d : Nat) (j : Nat), P.2.1 - j = d → (j ≤ P.2.1) → ((0 ≤ x ∧ x < P.1) ∧ (0 ≤ y ∧ y < P.1)) → (∀ i, i < j → ¬ (P.2.2.1 i = x ∧ P.2.2.2.1 i = y)) → ZT n0 g mX10_addPoint 33 [some (.inr (some m)), some (.inl x), some (.inl y), some (.inl (j : Int))] [] n k h Q := by
  intro d
  induction d using Nat.strongRecOn with | _ d ih => ?_
  intro j hd0 hj hb hn
  subst hd0
  obtain ⟨fk, z, c, cn, en, ax, nu, sp, ss, hM, rp, rc, rk, rf, ry, ri, ro, rl, rv⟩ := id hrf
  have hpb := hP.bd
  have hs8 := hP.2.1
  obtain ⟨xs, ys, p0, p1, p2⟩ := id rp
  refine T_iload_n dX10_addPoint_33 rfl ?_
  refine T_aload_n dX10_addPoint_34 rfl ?_
  refine T_getfield dX10_addPoint_35 zkf_11_111 hM rfl ?_
  refine T_icmp_ge dX10_addPoint_38 (t := 70) rfl (fun c38 => ?_) (fun c38 => ?_)
  · refine T_aload_n dX10_addPoint_70 rfl ?_
    refine T_getfield dX10_addPoint_71 zkf_11_111 hM rfl ?_
    refine T_bipush dX10_addPoint_74 (by decide) ?_
    refine T_icmp_ne dX10_addPoint_76 (t := 82) rfl (fun c76 => ?_) (fun c76 => ?_)
    · refine T_aload_n dX10_addPoint_82 rfl ?_
      refine T_getfield dX10_addPoint_83 zkf_11_13 hM rfl ?_
      refine T_aload_n dX10_addPoint_86 rfl ?_
      refine T_getfield dX10_addPoint_87 zkf_11_111 hM rfl ?_
      refine T_iload_n dX10_addPoint_90 rfl ?_
      refine T_iastoreN (m := P.2.1) dX10_addPoint_91 p0 rfl (by omega) (by omega) ?_
      refine T_aload_n dX10_addPoint_92 rfl ?_
      refine T_getfield dX10_addPoint_93 zkf_11_17 (zup_ne (by omega) hM) rfl ?_
      refine T_aload_n dX10_addPoint_96 rfl ?_
      refine T_getfield dX10_addPoint_97 zkf_11_111 (zup_ne (by omega) hM) rfl ?_
      refine T_iload_n dX10_addPoint_100 rfl ?_
      refine T_iastoreN (m := P.2.1) dX10_addPoint_101 (zup_ne (by omega) p1) rfl (by omega) (by omega) ?_
      refine T_aload_n dX10_addPoint_102 rfl ?_
      refine T_dup dX10_addPoint_103 ?_
      refine T_getfield dX10_addPoint_104 zkf_11_111 (zup_ne (by omega) (zup_ne (by omega) hM)) rfl ?_
      refine T_iconst dX10_addPoint_107 (by decide) ?_
      refine T_iadd dX10_addPoint_108 ⟨by omega, by omega⟩ ?_
      refine T_putfield dX10_addPoint_109 zkf_11_111 (zup_ne (by omega) (zup_ne (by omega) hM)) (Nat.le_of_ble_eq_true rfl) (by omega) rfl (fun hf => absurd hf (by decide)) rfl ?_
      refine T_aload_n dX10_addPoint_112 rfl ?_
      refine T_iconst dX10_addPoint_113 (by decide) ?_
      refine T_putfield dX10_addPoint_114 zkf_11_122 zup_self (Nat.le_of_ble_eq_true rfl) (by omega) rfl (fun hf => absurd hf (by decide)) rfl ?_
      refine T_aload_n dX10_addPoint_117 rfl ?_
      refine T_getfield dX10_addPoint_118 zkf_11_111 zup_self rfl ?_
      refine T_iret dX10_addPoint_121 rfl ?_
      have hh : zhas P x y = false := zhas_f (fun i hi => hn i (by omega))
      have e : s_add P x y = ((P.2.1 : Int) + 1, (P.1, P.2.1 + 1, zfu P.2.2.1 P.2.1 x, zfu P.2.2.2.1 P.2.1 y, P.2.2.2.2)) := by unfold s_add; rw [if_pos hb, hh, cond_false, if_neg (by omega)]
      rw [e] at hQ
      exact hQ _ ⟨0, z, c, cn, en, ax, nu, sp, ss, zup_self, ⟨_, _, (zup_ne (by omega) (zup_ne (by omega) (zup_ne (by omega) zup_self))), (zup_ne (by omega) (zup_ne (by omega) zup_self)), fun k hk => ⟨by
        by_cases e9 : k = P.2.1
        · rw [e9, zfu_self]; exact zfu_self.symm
        · rw [zfu_ne e9]; exact (p2 k (by have : k < P.2.1 + 1 := hk; omega)).1.trans (zfu_ne e9).symm, by
        by_cases e9 : k = P.2.1
        · rw [e9, zfu_self]; exact zfu_self.symm
        · rw [zfu_ne e9]; exact (p2 k (by have : k < P.2.1 + 1 := hk; omega)).2.trans (zfu_ne e9).symm⟩⟩, (rc.frame (fun q a1 a2 => ((zup_nf (by omega)).trans (((zup_nf (by omega)).trans (((zup_nf (by omega)).trans (((zup_nf (by omega)).trans (rfl)))))))))), (rk.frame (fun q a1 a2 => ((zup_nf (by omega)).trans (((zup_nf (by omega)).trans (((zup_nf (by omega)).trans (((zup_nf (by omega)).trans (rfl)))))))))), (rf.frame (fun q a1 a2 => ((zup_nf (by omega)).trans (((zup_nf (by omega)).trans (((zup_nf (by omega)).trans (((zup_nf (by omega)).trans (rfl)))))))))).forget, (ry.frame (fun q a1 a2 => ((zup_nf (by omega)).trans (((zup_nf (by omega)).trans (((zup_nf (by omega)).trans (((zup_nf (by omega)).trans (rfl)))))))))), (ri.frame (fun q a1 a2 => ((zup_nf (by omega)).trans (((zup_nf (by omega)).trans (((zup_nf (by omega)).trans (((zup_nf (by omega)).trans (rfl)))))))))), (ro.frame (fun q a1 a2 => ((zup_nf (by omega)).trans (((zup_nf (by omega)).trans (((zup_nf (by omega)).trans (((zup_nf (by omega)).trans (rfl)))))))))), (rl.frame (fun q a1 a2 => ((zup_nf (by omega)).trans (((zup_nf (by omega)).trans (((zup_nf (by omega)).trans (((zup_nf (by omega)).trans (rfl)))))))))), (rv.frame (fun q a1 a2 => ((zup_nf (by omega)).trans (((zup_nf (by omega)).trans (((zup_nf (by omega)).trans (((zup_nf (by omega)).trans (rfl))))))))))⟩ (fun q a1 => ((zup_nf (by omega)).trans (((zup_nf (by omega)).trans (((zup_nf (by omega)).trans (((zup_nf (by omega)).trans (rfl)))))))))
    · refine T_bipush dX10_addPoint_79 (by decide) ?_
      refine T_iret dX10_addPoint_81 rfl ?_
      have hh : zhas P x y = false := zhas_f (fun i hi => hn i (by omega))
      have e : s_add P x y = (-4, P) := by unfold s_add; rw [if_pos hb, hh, cond_false, if_pos (by omega)]
      rw [e] at hQ
      exact hQ h hrf (fun _ _ => rfl)
  · have pj := p2 j (by omega)
    refine T_aload_n dX10_addPoint_41 rfl ?_
    refine T_getfield dX10_addPoint_42 zkf_11_13 hM rfl ?_
    refine T_iload_n dX10_addPoint_45 rfl ?_
    refine T_ialoadN (m := j) dX10_addPoint_46 p0 rfl (by omega) ?_
    refine T_iload_n dX10_addPoint_47 rfl ?_
    refine T_icmp_ne dX10_addPoint_48 (t := 64) rfl (fun c48 => ?_) (fun c48 => ?_)
    · refine T_iinc dX10_addPoint_64 rfl ⟨by omega, by omega⟩ ?_
      refine T_goto dX10_addPoint_67 (t := 33) rfl ?_
      exact ih _ (by omega) (j + 1) rfl  (by omega) (by omega) (fun i hi => by
            by_cases e : i = j
            · subst e; omega
            · exact hn i (by omega)) 
    · refine T_aload_n dX10_addPoint_51 rfl ?_
      refine T_getfield dX10_addPoint_52 zkf_11_17 hM rfl ?_
      refine T_iload_n dX10_addPoint_55 rfl ?_
      refine T_ialoadN (m := j) dX10_addPoint_56 p1 rfl (by omega) ?_
      refine T_iload_n dX10_addPoint_57 rfl ?_
      refine T_icmp_ne dX10_addPoint_58 (t := 64) rfl (fun c58 => ?_) (fun c58 => ?_)
      · refine T_iinc dX10_addPoint_64 rfl ⟨by omega, by omega⟩ ?_
        refine T_goto dX10_addPoint_67 (t := 33) rfl ?_
        exact ih _ (by omega) (j + 1) rfl  (by omega) (by omega) (fun i hi => by
              by_cases e : i = j
              · subst e; omega
              · exact hn i (by omega)) 
      · refine T_bipush dX10_addPoint_61 (by decide) ?_
        refine T_iret dX10_addPoint_63 rfl ?_
        have hh : zhas P x y = true := zhas_iff.mpr ⟨j, by omega, by rw [← (p2 j (by omega)).1]; omega, by rw [← (p2 j (by omega)).2]; omega⟩
        have e : s_add P x y = (-3, P) := by unfold s_add; rw [if_pos hb, hh]; rfl
        rw [e] at hQ
        exact hQ h hrf (fun _ _ => rfl)
set_option maxHeartbeats 4000000 in
set_option maxRecDepth 100000 in
theorem m_X10_addPoint {n0 n k : Nat} {g : Nat → zV} {h : zHp} {Q : Option zV → Nat → Nat → zHp → Prop} {m : Nat} {P : pT} {L : lT} {I O : tT} {V : Int × pT} {x y : Int} (hP : pwf P) (hL : lwf L) (hI : iwf I) (hO : owf O) (hV : vwf V) (hB : n0 ≤ m) (hrf : rfAt h m P L I O V) (hQ : ∀  (h' : zHp), (rfAt h' m (s_add P x y).2 L I O V) → (∀ q : Nat, (q < m ∨ m + 33 ≤ q) → h' q = h q) → Q (some (.inl ((s_add P x y).1))) n k h') : ZT n0 g mX10_addPoint 0 (zloc mX10_addPoint [.inr (some m), .inl x, .inl y]) [] n k h Q := by
  show ZT n0 g mX10_addPoint 0 [some (.inr (some m)), some (.inl x), some (.inl y), none] [] n k h Q
  obtain ⟨fk, z, c, cn, en, ax, nu, sp, ss, hM, rp, rc, rk, rf, ry, ri, ro, rl, rv⟩ := id hrf
  have hpb := hP.bd
  have hs8 := hP.2.1
  obtain ⟨xs, ys, p0, p1, p2⟩ := id rp
  refine T_iload_n dX10_addPoint_0 rfl ?_
  refine T_iconst dX10_addPoint_1 (by decide) ?_
  refine T_aload_n dX10_addPoint_2 rfl ?_
  refine T_getfield dX10_addPoint_3 zkf_11_7 hM rfl ?_
  refine T_iconst dX10_addPoint_6 (by decide) ?_
  refine T_isub dX10_addPoint_7 ⟨by omega, by omega⟩ ?_
  refine T_callS dX10_addPoint_8 zkm_11_114 ⟨Nat.le_of_ble_eq_true rfl, Nat.le_of_ble_eq_true rfl, rfl⟩ rfl (Nat.le_of_ble_eq_true rfl) ?_
  refine m_X10_isIn   (fun k8a => ?_) (fun k8a_2 => ?_)
  · refine T_if_eq dX10_addPoint_11 (t := 28) rfl (fun hc => absurd hc (by decide)) (fun _ => ?_)
    refine T_iload_n dX10_addPoint_14 rfl ?_
    refine T_iconst dX10_addPoint_15 (by decide) ?_
    refine T_aload_n dX10_addPoint_16 rfl ?_
    refine T_getfield dX10_addPoint_17 zkf_11_7 hM rfl ?_
    refine T_iconst dX10_addPoint_20 (by decide) ?_
    refine T_isub dX10_addPoint_21 ⟨by omega, by omega⟩ ?_
    refine T_callS dX10_addPoint_22 zkm_11_114 ⟨Nat.le_of_ble_eq_true rfl, Nat.le_of_ble_eq_true rfl, rfl⟩ rfl (Nat.le_of_ble_eq_true rfl) ?_
    refine m_X10_isIn   (fun k22a => ?_) (fun k22a_2 => ?_)
    · refine T_if_ne dX10_addPoint_25 (t := 31) rfl (fun _ => ?_) (fun hc => absurd hc (by decide))
      refine T_iconst dX10_addPoint_31 (by decide) ?_
      refine T_istore_n dX10_addPoint_32 (Nat.le_of_ble_eq_true rfl) ?_
      exact m_X10_addPoint_33 hP hL hI hO hV hB hrf hQ _ 0 rfl  (by omega) (by omega) (fun i hi => absurd hi (Nat.not_lt_zero i)) 
    · refine T_if_ne dX10_addPoint_25 (t := 31) rfl (fun hc => absurd hc (by decide)) (fun _ => ?_)
      refine T_bipush dX10_addPoint_28 (by decide) ?_
      refine T_iret dX10_addPoint_30 rfl ?_
      have e : s_add P x y = (-2, P) := by unfold s_add; rw [if_neg (by omega)]
      rw [e] at hQ
      exact hQ h hrf (fun _ _ => rfl)
  · refine T_if_eq dX10_addPoint_11 (t := 28) rfl (fun _ => ?_) (fun hc => absurd hc (by decide))
    refine T_bipush dX10_addPoint_28 (by decide) ?_
    refine T_iret dX10_addPoint_30 rfl ?_
    have e : s_add P x y = (-2, P) := by unfold s_add; rw [if_neg (by omega)]
    rw [e] at hQ
    exact hQ h hrf (fun _ _ => rfl)
set_option maxHeartbeats 4000000 in
set_option maxRecDepth 100000 in
theorem m_X10_removePoint_12 {n0 n k : Nat} {g : Nat → zV} {h : zHp} {Q : Option zV → Nat → Nat → zHp → Prop} {m : Nat} {P : pT} {L : lT} {I O : tT} {V : Int × pT} {i : Int} (hP : pwf P) (hL : lwf L) (hI : iwf I) (hO : owf O) (hV : vwf V) (hB : n0 ≤ m) (hrf : rfAt h m P L I O V) (hQ : ∀  (h' : zHp), (rfAt h' m (s_rem P i).2 L I O V) → (∀ q : Nat, (q < m ∨ m + 33 ≤ q) → h' q = h q) → Q (some (.inl ((s_rem P i).1))) n k h') : ∀ (d : Nat) (j : Nat) (q : Nat) (us : Nat → Int) (vs : Nat → Int), P.2.1 - q = d → ∀ h1 : zHp, h1 (m + 1) = some (.inr (.inl (0, 8, us))) → h1 (m + 2) = some (.inr (.inl (0, 8, vs))) → (∀ q : Nat, q ≠ (m + 1) → q ≠ (m + 2) → h1 q = h q) → (i = (j : Int) ∧ j < P.2.1) → (j ≤ q ∧ q < P.2.1) → (∀ a, a < P.2.1 → us a = if a < j then P.2.2.1 a else if a < q then P.2.2.1 (a + 1) else P.2.2.1 a) → (∀ a, a < P.2.1 → vs a = if a < j then P.2.2.2.1 a else if a < q then P.2.2.2.1 (a + 1) else P.2.2.2.1 a) → ZT n0 g mX10_removePoint 12 [some (.inr (some m)), some (.inl i), some (.inl (q : Int))] [] n k h1 Q := by
  intro d
  induction d using Nat.strongRecOn with | _ d ih => ?_
  intro j q us vs hd0 h1 xs1 ys1 hfr hi hq hu hv
  subst hd0
  obtain ⟨fk, z, c, cn, en, ax, nu, sp, ss, hM, rp, rc, rk, rf, ry, ri, ro, rl, rv⟩ := id hrf
  have hpb := hP.bd
  have hs8 := hP.2.1
  obtain ⟨xs, ys, p0, p1, p2⟩ := id rp
  refine T_iload_n dX10_removePoint_12 rfl ?_
  refine T_aload_n dX10_removePoint_13 rfl ?_
  refine T_getfield dX10_removePoint_14 zkf_11_111 ((hfr _ (by omega) (by omega)).trans hM) rfl ?_
  refine T_iconst dX10_removePoint_17 (by decide) ?_
  refine T_isub dX10_removePoint_18 ⟨by omega, by omega⟩ ?_
  refine T_icmp_ge dX10_removePoint_19 (t := 56) rfl (fun c19 => ?_) (fun c19 => ?_)
  · refine T_aload_n dX10_removePoint_56 rfl ?_
    refine T_dup dX10_removePoint_57 ?_
    refine T_getfield dX10_removePoint_58 zkf_11_111 ((hfr _ (by omega) (by omega)).trans hM) rfl ?_
    refine T_iconst dX10_removePoint_61 (by decide) ?_
    refine T_isub dX10_removePoint_62 ⟨by omega, by omega⟩ ?_
    refine T_putfield dX10_removePoint_63 zkf_11_111 ((hfr _ (by omega) (by omega)).trans hM) (Nat.le_of_ble_eq_true rfl) (by omega) rfl (fun hf => absurd hf (by decide)) rfl ?_
    refine T_aload_n dX10_removePoint_66 rfl ?_
    refine T_iconst dX10_removePoint_67 (by decide) ?_
    refine T_putfield dX10_removePoint_68 zkf_11_122 zup_self (Nat.le_of_ble_eq_true rfl) (by omega) rfl (fun hf => absurd hf (by decide)) rfl ?_
    refine T_aload_n dX10_removePoint_71 rfl ?_
    refine T_getfield dX10_removePoint_72 zkf_11_111 zup_self rfl ?_
    refine T_iret dX10_removePoint_75 rfl ?_
    obtain ⟨rfl, hj⟩ := hi
    have e : s_rem P (j : Int) = ((P.2.1 : Int) - 1, (P.1, P.2.1 - 1, (fun k => if k < j then P.2.2.1 k else P.2.2.1 (k + 1)), (fun k => if k < j then P.2.2.2.1 k else P.2.2.2.1 (k + 1)), P.2.2.2.2)) := by unfold s_rem; rw [if_pos ⟨by omega, by omega⟩, Int.toNat_natCast]
    rw [e] at hQ
    exact hQ _ ⟨0, z, c, cn, en, ax, nu, sp, ss, (by
      have e9 : ((P.2.1 - 1 : Nat) : Int) = (P.2.1 : Int) - 1 := by omega
      show _ = (some (.inl (11, mOb m P.1 ((P.2.1 - 1 : Nat) : Int) 0 (z : Int) (c : Int) cn (I.1 : Int) en ax nu (O.1 : Int) V.1 sp ss)) : Option zC)
      rw [e9]; exact zup_self), ⟨_, _, (zup_ne (by omega) (zup_ne (by omega) xs1)), (zup_ne (by omega) (zup_ne (by omega) ys1)), fun k hk => ⟨by
      have hk2 : k < P.2.1 - 1 := hk
      rw [hu k (by omega)]
      show _ = if k < j then P.2.2.1 k else P.2.2.1 (k + 1)
      by_cases c9 : k < j
      · rw [if_pos c9, if_pos c9]
      · rw [if_neg c9, if_neg c9, if_pos (by omega)], by
      have hk2 : k < P.2.1 - 1 := hk
      rw [hv k (by omega)]
      show _ = if k < j then P.2.2.2.1 k else P.2.2.2.1 (k + 1)
      by_cases c9 : k < j
      · rw [if_pos c9, if_pos c9]
      · rw [if_neg c9, if_neg c9, if_pos (by omega)]⟩⟩, (rc.frame (fun q a1 a2 => ((zup_nf (by omega)).trans (((zup_nf (by omega)).trans (((hfr _ (by omega) (by omega)).trans (rfl)))))))), (rk.frame (fun q a1 a2 => ((zup_nf (by omega)).trans (((zup_nf (by omega)).trans (((hfr _ (by omega) (by omega)).trans (rfl)))))))), (rf.frame (fun q a1 a2 => ((zup_nf (by omega)).trans (((zup_nf (by omega)).trans (((hfr _ (by omega) (by omega)).trans (rfl)))))))).forget, (ry.frame (fun q a1 a2 => ((zup_nf (by omega)).trans (((zup_nf (by omega)).trans (((hfr _ (by omega) (by omega)).trans (rfl)))))))), (ri.frame (fun q a1 a2 => ((zup_nf (by omega)).trans (((zup_nf (by omega)).trans (((hfr _ (by omega) (by omega)).trans (rfl)))))))), (ro.frame (fun q a1 a2 => ((zup_nf (by omega)).trans (((zup_nf (by omega)).trans (((hfr _ (by omega) (by omega)).trans (rfl)))))))), (rl.frame (fun q a1 a2 => ((zup_nf (by omega)).trans (((zup_nf (by omega)).trans (((hfr _ (by omega) (by omega)).trans (rfl)))))))), (rv.frame (fun q a1 a2 => ((zup_nf (by omega)).trans (((zup_nf (by omega)).trans (((hfr _ (by omega) (by omega)).trans (rfl))))))))⟩ (fun q a1 => ((zup_nf (by omega)).trans (((zup_nf (by omega)).trans (((hfr _ (by omega) (by omega)).trans (rfl)))))))
  · refine T_aload_n dX10_removePoint_22 rfl ?_
    refine T_getfield dX10_removePoint_23 zkf_11_13 ((hfr _ (by omega) (by omega)).trans hM) rfl ?_
    refine T_iload_n dX10_removePoint_26 rfl ?_
    refine T_aload_n dX10_removePoint_27 rfl ?_
    refine T_getfield dX10_removePoint_28 zkf_11_13 ((hfr _ (by omega) (by omega)).trans hM) rfl ?_
    refine T_iload_n dX10_removePoint_31 rfl ?_
    refine T_iconst dX10_removePoint_32 (by decide) ?_
    refine T_iadd dX10_removePoint_33 ⟨by omega, by omega⟩ ?_
    refine T_ialoadN (m := (q + 1)) dX10_removePoint_34 xs1 rfl (by omega) ?_
    refine T_iastoreN (m := q) dX10_removePoint_35 xs1 rfl (by omega) (by omega) ?_
    refine T_aload_n dX10_removePoint_36 rfl ?_
    refine T_getfield dX10_removePoint_37 zkf_11_17 (zup_ne (by omega) ((hfr _ (by omega) (by omega)).trans hM)) rfl ?_
    refine T_iload_n dX10_removePoint_40 rfl ?_
    refine T_aload_n dX10_removePoint_41 rfl ?_
    refine T_getfield dX10_removePoint_42 zkf_11_17 (zup_ne (by omega) ((hfr _ (by omega) (by omega)).trans hM)) rfl ?_
    refine T_iload_n dX10_removePoint_45 rfl ?_
    refine T_iconst dX10_removePoint_46 (by decide) ?_
    refine T_iadd dX10_removePoint_47 ⟨by omega, by omega⟩ ?_
    refine T_ialoadN (m := (q + 1)) dX10_removePoint_48 (zup_ne (by omega) ys1) rfl (by omega) ?_
    refine T_iastoreN (m := q) dX10_removePoint_49 (zup_ne (by omega) ys1) rfl (by omega) (by omega) ?_
    refine T_iinc dX10_removePoint_50 rfl ⟨by omega, by omega⟩ ?_
    refine T_goto dX10_removePoint_53 (t := 12) rfl ?_
    exact ih _ (by omega) j (q + 1) _ _ rfl _ (zup_ne (by omega) zup_self) zup_self (fun q q0 q1 => ((zup_nf q1).trans ((zup_nf q0).trans ((hfr _ q0 q1).trans rfl)))) hi (by omega) (fun a ha => by
          by_cases e : a = q
          · rw [e, zfu_self, hu (q + 1) (by omega), if_neg (by omega), if_neg (by omega), if_neg (by omega), if_pos (by omega)]
          · rw [zfu_ne e, hu a ha]
            split
            · rfl
            · split
              · rw [if_pos (by omega)]
              · rw [if_neg (by omega)]) (fun a ha => by
          by_cases e : a = q
          · rw [e, zfu_self, hv (q + 1) (by omega), if_neg (by omega), if_neg (by omega), if_neg (by omega), if_pos (by omega)]
          · rw [zfu_ne e, hv a ha]
            split
            · rfl
            · split
              · rw [if_pos (by omega)]
              · rw [if_neg (by omega)]) 
set_option maxHeartbeats 4000000 in
set_option maxRecDepth 100000 in
theorem m_X10_removePoint {n0 n k : Nat} {g : Nat → zV} {h : zHp} {Q : Option zV → Nat → Nat → zHp → Prop} {m : Nat} {P : pT} {L : lT} {I O : tT} {V : Int × pT} {i : Int} (hP : pwf P) (hL : lwf L) (hI : iwf I) (hO : owf O) (hV : vwf V) (hB : n0 ≤ m) (hrf : rfAt h m P L I O V) (hQ : ∀  (h' : zHp), (rfAt h' m (s_rem P i).2 L I O V) → (∀ q : Nat, (q < m ∨ m + 33 ≤ q) → h' q = h q) → Q (some (.inl ((s_rem P i).1))) n k h') : ZT n0 g mX10_removePoint 0 (zloc mX10_removePoint [.inr (some m), .inl i]) [] n k h Q := by
  show ZT n0 g mX10_removePoint 0 [some (.inr (some m)), some (.inl i), none] [] n k h Q
  obtain ⟨fk, z, c, cn, en, ax, nu, sp, ss, hM, rp, rc, rk, rf, ry, ri, ro, rl, rv⟩ := id hrf
  have hpb := hP.bd
  have hs8 := hP.2.1
  obtain ⟨xs, ys, p0, p1, p2⟩ := id rp
  refine T_aload_n dX10_removePoint_0 rfl ?_
  refine T_iload_n dX10_removePoint_1 rfl ?_
  refine T_callV dX10_removePoint_2 zkm_11_129 (Or.inl rfl) rfl hM ⟨Nat.le_of_ble_eq_true rfl, rfl⟩ rfl (Nat.le_of_ble_eq_true rfl) ?_
  refine m_X10_isPoint hM (by omega) (fun k2a => ?_) (fun k2a_2 => ?_)
  · refine T_if_ne dX10_removePoint_5 (t := 10) rfl (fun _ => ?_) (fun hc => absurd hc (by decide))
    obtain ⟨j, rfl⟩ := Int.eq_ofNat_of_zero_le k2a.1
    refine T_iload_n dX10_removePoint_10 rfl ?_
    refine T_istore_n dX10_removePoint_11 (Nat.le_of_ble_eq_true rfl) ?_
    exact m_X10_removePoint_12 hP hL hI hO hV hB hrf hQ _ j j xs ys rfl _ p0 p1 (fun q q0 q1 => rfl) ⟨rfl, by omega⟩ (by omega) (fun a ha => by
          rw [(p2 a ha).1]
          by_cases c9 : a < j
          · rw [if_pos c9]
          · rw [if_neg c9, if_neg c9]) (fun a ha => by
          rw [(p2 a ha).2]
          by_cases c9 : a < j
          · rw [if_pos c9]
          · rw [if_neg c9, if_neg c9]) 
  · refine T_if_ne dX10_removePoint_5 (t := 10) rfl (fun hc => absurd hc (by decide)) (fun _ => ?_)
    refine T_iconst dX10_removePoint_8 (by decide) ?_
    refine T_iret dX10_removePoint_9 rfl ?_
    have e : s_rem P i = (-1, P) := by unfold s_rem; rw [if_neg (by exact k2a_2)]
    rw [e] at hQ
    exact hQ h hrf (fun _ _ => rfl)
set_option maxHeartbeats 4000000 in
set_option maxRecDepth 100000 in
theorem m_X10_swapCoordinates_96 {n0 n k : Nat} {g : Nat → zV} {h : zHp} {Q : Option zV → Nat → Nat → zHp → Prop} {m : Nat} {P : pT} {L : lT} {I O : tT} {V : Int × pT} (hP : pwf P) (hL : lwf L) (hI : iwf I) (hO : owf O) (hV : vwf V) (hB : n0 ≤ m) (hrf : rfAt h m P L I O V) (hQ : ∀  (h' : zHp), (rfAt h' m (s_swap P).2 L I O V) → (∀ q : Nat, (q < m ∨ m + 33 ≤ q) → h' q = h q) → Q (some (.inl ((s_swap P).1))) n k h') : ∀ (d : Nat) (w : Int) (j : Nat) (us : Nat → Int) (vs : Nat → Int) (L3 : Option zV) (L4 : Option zV), P.2.1 - j = d → ∀ h1 : zHp, h1 (m + 1) = some (.inr (.inl (0, 8, us))) → h1 (m + 2) = some (.inr (.inl (0, 8, vs))) → (∀ q : Nat, q ≠ (m + 1) → q ≠ (m + 2) → h1 q = h q) → (j ≤ P.2.1) → ((w = 1 ∧ zsym P = true) ∨ (w = 0 ∧ ¬ zsym P = true)) → (∀ a, a < P.2.1 → us a = if a < j then P.2.2.2.1 a else P.2.2.1 a) → (∀ a, a < P.2.1 → vs a = if a < j then P.2.2.1 a else P.2.2.2.1 a) → ZT n0 g mX10_swapCoordinates 96 [some (.inr (some m)), some (.inl w), some (.inl (j : Int)), L3, L4] [] n k h1 Q := by
  intro d
  induction d using Nat.strongRecOn with | _ d ih => ?_
  intro w j us vs L3 L4 hd0 h1 xs1 ys1 hfr hj hw hu hv
  subst hd0
  obtain ⟨fk, z, c, cn, en, ax, nu, sp, ss, hM, rp, rc, rk, rf, ry, ri, ro, rl, rv⟩ := id hrf
  have hpb := hP.bd
  have hs8 := hP.2.1
  obtain ⟨xs, ys, p0, p1, p2⟩ := id rp
  refine T_iload_n dX10_swapCoordinates_96 rfl ?_
  refine T_aload_n dX10_swapCoordinates_97 rfl ?_
  refine T_getfield dX10_swapCoordinates_98 zkf_11_111 ((hfr _ (by omega) (by omega)).trans hM) rfl ?_
  refine T_icmp_ge dX10_swapCoordinates_101 (t := 136) rfl (fun c101 => ?_) (fun c101 => ?_)
  · refine T_aload_n dX10_swapCoordinates_136 rfl ?_
    refine T_iconst dX10_swapCoordinates_137 (by decide) ?_
    refine T_putfield dX10_swapCoordinates_138 zkf_11_122 ((hfr _ (by omega) (by omega)).trans hM) (Nat.le_of_ble_eq_true rfl) (by omega) rfl (fun hf => absurd hf (by decide)) rfl ?_
    refine T_iload_n dX10_swapCoordinates_141 rfl ?_
    refine T_if_eq dX10_swapCoordinates_142 (t := 149) rfl (fun c142 => ?_) (fun c142 => ?_)
    · refine T_iconst dX10_swapCoordinates_149 (by decide) ?_
      refine T_iret dX10_swapCoordinates_150 rfl ?_
      have q9 : ¬ zsym P = true := (hw.resolve_left (fun x => by omega)).2
      have e : (s_swap P).1 = 0 := by exact if_neg q9
      rw [e] at hQ
      exact hQ _ ⟨0, z, c, cn, en, ax, nu, sp, ss, zup_self, ⟨_, _, (zup_ne (by omega) xs1), (zup_ne (by omega) ys1), fun k hk => ⟨(hu k hk).trans (if_pos (by have : k < P.2.1 := hk; omega)), (hv k hk).trans (if_pos (by have : k < P.2.1 := hk; omega))⟩⟩, (rc.frame (fun q a1 a2 => ((zup_nf (by omega)).trans (((hfr _ (by omega) (by omega)).trans (rfl)))))), (rk.frame (fun q a1 a2 => ((zup_nf (by omega)).trans (((hfr _ (by omega) (by omega)).trans (rfl)))))), (rf.frame (fun q a1 a2 => ((zup_nf (by omega)).trans (((hfr _ (by omega) (by omega)).trans (rfl)))))).forget, (ry.frame (fun q a1 a2 => ((zup_nf (by omega)).trans (((hfr _ (by omega) (by omega)).trans (rfl)))))), (ri.frame (fun q a1 a2 => ((zup_nf (by omega)).trans (((hfr _ (by omega) (by omega)).trans (rfl)))))), (ro.frame (fun q a1 a2 => ((zup_nf (by omega)).trans (((hfr _ (by omega) (by omega)).trans (rfl)))))), (rl.frame (fun q a1 a2 => ((zup_nf (by omega)).trans (((hfr _ (by omega) (by omega)).trans (rfl)))))), (rv.frame (fun q a1 a2 => ((zup_nf (by omega)).trans (((hfr _ (by omega) (by omega)).trans (rfl))))))⟩ (fun q a1 => ((zup_nf (by omega)).trans (((hfr _ (by omega) (by omega)).trans (rfl)))))
    · refine T_iconst dX10_swapCoordinates_145 (by decide) ?_
      refine T_goto dX10_swapCoordinates_146 (t := 150) rfl ?_
      refine T_iret dX10_swapCoordinates_150 rfl ?_
      have q9 : zsym P = true := (hw.resolve_right (fun x => by omega)).2
      have e : (s_swap P).1 = 1 := by exact if_pos q9
      rw [e] at hQ
      exact hQ _ ⟨0, z, c, cn, en, ax, nu, sp, ss, zup_self, ⟨_, _, (zup_ne (by omega) xs1), (zup_ne (by omega) ys1), fun k hk => ⟨(hu k hk).trans (if_pos (by have : k < P.2.1 := hk; omega)), (hv k hk).trans (if_pos (by have : k < P.2.1 := hk; omega))⟩⟩, (rc.frame (fun q a1 a2 => ((zup_nf (by omega)).trans (((hfr _ (by omega) (by omega)).trans (rfl)))))), (rk.frame (fun q a1 a2 => ((zup_nf (by omega)).trans (((hfr _ (by omega) (by omega)).trans (rfl)))))), (rf.frame (fun q a1 a2 => ((zup_nf (by omega)).trans (((hfr _ (by omega) (by omega)).trans (rfl)))))).forget, (ry.frame (fun q a1 a2 => ((zup_nf (by omega)).trans (((hfr _ (by omega) (by omega)).trans (rfl)))))), (ri.frame (fun q a1 a2 => ((zup_nf (by omega)).trans (((hfr _ (by omega) (by omega)).trans (rfl)))))), (ro.frame (fun q a1 a2 => ((zup_nf (by omega)).trans (((hfr _ (by omega) (by omega)).trans (rfl)))))), (rl.frame (fun q a1 a2 => ((zup_nf (by omega)).trans (((hfr _ (by omega) (by omega)).trans (rfl)))))), (rv.frame (fun q a1 a2 => ((zup_nf (by omega)).trans (((hfr _ (by omega) (by omega)).trans (rfl))))))⟩ (fun q a1 => ((zup_nf (by omega)).trans (((hfr _ (by omega) (by omega)).trans (rfl)))))
  · refine T_aload_n dX10_swapCoordinates_104 rfl ?_
    refine T_getfield dX10_swapCoordinates_105 zkf_11_13 ((hfr _ (by omega) (by omega)).trans hM) rfl ?_
    refine T_iload_n dX10_swapCoordinates_108 rfl ?_
    refine T_ialoadN (m := j) dX10_swapCoordinates_109 xs1 rfl (by omega) ?_
    refine T_istore_n dX10_swapCoordinates_110 (Nat.le_of_ble_eq_true rfl) ?_
    refine T_aload_n dX10_swapCoordinates_111 rfl ?_
    refine T_getfield dX10_swapCoordinates_112 zkf_11_13 ((hfr _ (by omega) (by omega)).trans hM) rfl ?_
    refine T_iload_n dX10_swapCoordinates_115 rfl ?_
    refine T_aload_n dX10_swapCoordinates_116 rfl ?_
    refine T_getfield dX10_swapCoordinates_117 zkf_11_17 ((hfr _ (by omega) (by omega)).trans hM) rfl ?_
    refine T_iload_n dX10_swapCoordinates_120 rfl ?_
    refine T_ialoadN (m := j) dX10_swapCoordinates_121 ys1 rfl (by omega) ?_
    refine T_iastoreN (m := j) dX10_swapCoordinates_122 xs1 rfl (by omega) (by omega) ?_
    refine T_aload_n dX10_swapCoordinates_123 rfl ?_
    refine T_getfield dX10_swapCoordinates_124 zkf_11_17 (zup_ne (by omega) ((hfr _ (by omega) (by omega)).trans hM)) rfl ?_
    refine T_iload_n dX10_swapCoordinates_127 rfl ?_
    refine T_iload_n dX10_swapCoordinates_128 rfl ?_
    refine T_iastoreN (m := j) dX10_swapCoordinates_129 (zup_ne (by omega) ys1) rfl (by omega) (by omega) ?_
    refine T_iinc dX10_swapCoordinates_130 rfl ⟨by omega, by omega⟩ ?_
    refine T_goto dX10_swapCoordinates_133 (t := 96) rfl ?_
    exact ih _ (by omega) w (j + 1) _ _ _ _ rfl _ (zup_ne (by omega) zup_self) zup_self (fun q q0 q1 => ((zup_nf q1).trans ((zup_nf q0).trans ((hfr _ q0 q1).trans rfl)))) (by omega) (by omega) (fun a ha => by
          by_cases e : a = j
          · rw [e, zfu_self, if_pos (by omega), hv j (by omega), if_neg (by omega)]
          · rw [zfu_ne e, hu a ha]
            split
            · rw [if_pos (by omega)]
            · rw [if_neg (by omega)]) (fun a ha => by
          by_cases e : a = j
          · rw [e, zfu_self, if_pos (by omega), hu j (by omega), if_neg (by omega)]
          · rw [zfu_ne e, hv a ha]
            split
            · rw [if_pos (by omega)]
            · rw [if_neg (by omega)]) 
set_option maxHeartbeats 4000000 in
set_option maxRecDepth 100000 in
theorem m_X10_swapCoordinates_17 {n0 n k : Nat} {g : Nat → zV} {h : zHp} {Q : Option zV → Nat → Nat → zHp → Prop} {m : Nat} {P : pT} {L : lT} {I O : tT} {V : Int × pT} (hP : pwf P) (hL : lwf L) (hI : iwf I) (hO : owf O) (hV : vwf V) (hB : n0 ≤ m) (hrf : rfAt h m P L I O V)  : ∀ (d : Nat) (w : Int) (j : Nat) (t : Int) (q : Nat), P.2.1 - q = d → (j < P.2.1) → (q ≤ P.2.1) → ((t = 1 ∧ ∃ l, l < q ∧ P.2.2.1 l = P.2.2.2.1 j ∧ P.2.2.2.1 l = P.2.2.1 j) ∨ (t = 0 ∧ ∀ l, l < q → ¬ (P.2.2.1 l = P.2.2.2.1 j ∧ P.2.2.2.1 l = P.2.2.1 j))) → (∀ (t : Int) (q : Nat) , ((t = 1 ∧ zhas P (P.2.2.2.1 j) (P.2.2.1 j) = true) ∨ (t = 0 ∧ ¬ zhas P (P.2.2.2.1 j) (P.2.2.1 j) = true)) → ZT n0 g mX10_swapCoordinates 74 [some (.inr (some m)), some (.inl w), some (.inl (j : Int)), some (.inl t), some (.inl (q : Int))] [] n k h Q) → ZT n0 g mX10_swapCoordinates 17 [some (.inr (some m)), some (.inl w), some (.inl (j : Int)), some (.inl t), some (.inl (q : Int))] [] n k h Q := by
  intro d
  induction d using Nat.strongRecOn with | _ d ih => ?_
  intro w j t q hd0 hj hq ht kk74
  subst hd0
  obtain ⟨fk, z, c, cn, en, ax, nu, sp, ss, hM, rp, rc, rk, rf, ry, ri, ro, rl, rv⟩ := id hrf
  have hpb := hP.bd
  have hs8 := hP.2.1
  obtain ⟨xs, ys, p0, p1, p2⟩ := id rp
  refine T_iload dX10_swapCoordinates_17 rfl ?_
  refine T_aload_n dX10_swapCoordinates_19 rfl ?_
  refine T_getfield dX10_swapCoordinates_20 zkf_11_111 hM rfl ?_
  refine T_icmp_ge dX10_swapCoordinates_23 (t := 74) rfl (fun c23 => ?_) (fun c23 => ?_)
  · exact kk74 t q (ht.imp (fun x => ⟨x.1, by obtain ⟨l, a, b⟩ := x.2; exact zhas_iff.mpr ⟨l, by omega, b⟩⟩) (fun x => ⟨x.1, fun y => by obtain ⟨l, a, b⟩ := zhas_iff.mp y; exact x.2 l (by omega) b⟩))
  · refine T_iload_n dX10_swapCoordinates_26 rfl ?_
    refine T_if_ne dX10_swapCoordinates_27 (t := 62) rfl (fun c27 => ?_) (fun c27 => ?_)
    · refine T_iconst dX10_swapCoordinates_62 (by decide) ?_
      refine T_goto dX10_swapCoordinates_63 (t := 67) rfl ?_
      refine T_istore_n dX10_swapCoordinates_67 (Nat.le_of_ble_eq_true rfl) ?_
      refine T_iinc dX10_swapCoordinates_68 rfl ⟨by omega, by omega⟩ ?_
      refine T_goto dX10_swapCoordinates_71 (t := 17) rfl ?_
      exact ih _ (by omega) w j 1 (q + 1) rfl  (by omega) (by omega) (Or.inl ⟨rfl, by
            obtain ⟨l, a, b⟩ := (ht.resolve_right (fun x => c27 x.1)).2
            exact ⟨l, by omega, b⟩⟩) kk74
    · have pj := p2 j hj
      have pq := p2 q (by omega)
      refine T_aload_n dX10_swapCoordinates_30 rfl ?_
      refine T_getfield dX10_swapCoordinates_31 zkf_11_13 hM rfl ?_
      refine T_iload dX10_swapCoordinates_34 rfl ?_
      refine T_ialoadN (m := q) dX10_swapCoordinates_36 p0 rfl (by omega) ?_
      refine T_aload_n dX10_swapCoordinates_37 rfl ?_
      refine T_getfield dX10_swapCoordinates_38 zkf_11_17 hM rfl ?_
      refine T_iload_n dX10_swapCoordinates_41 rfl ?_
      
      refine T_ialoadN (m := j) dX10_swapCoordinates_42 p1 rfl (by omega) ?_
      refine T_icmp_ne dX10_swapCoordinates_43 (t := 66) rfl (fun c43 => ?_) (fun c43 => ?_)
      · refine T_iconst dX10_swapCoordinates_66 (by decide) ?_
        refine T_istore_n dX10_swapCoordinates_67 (Nat.le_of_ble_eq_true rfl) ?_
        refine T_iinc dX10_swapCoordinates_68 rfl ⟨by omega, by omega⟩ ?_
        refine T_goto dX10_swapCoordinates_71 (t := 17) rfl ?_
        exact ih _ (by omega) w j 0 (q + 1) rfl  (by omega) (by omega) (Or.inr ⟨rfl, fun l hl x => by
              by_cases e : l = q
              · rw [e] at x; omega
              · exact (ht.resolve_left (fun y => by omega)).2 l (by omega) x⟩) kk74
      · refine T_aload_n dX10_swapCoordinates_46 rfl ?_
        refine T_getfield dX10_swapCoordinates_47 zkf_11_17 hM rfl ?_
        refine T_iload dX10_swapCoordinates_50 rfl ?_
        refine T_ialoadN (m := q) dX10_swapCoordinates_52 p1 rfl (by omega) ?_
        refine T_aload_n dX10_swapCoordinates_53 rfl ?_
        refine T_getfield dX10_swapCoordinates_54 zkf_11_13 hM rfl ?_
        refine T_iload_n dX10_swapCoordinates_57 rfl ?_
        refine T_ialoadN (m := j) dX10_swapCoordinates_58 p0 rfl (by omega) ?_
        refine T_icmp_ne dX10_swapCoordinates_59 (t := 66) rfl (fun c59 => ?_) (fun c59 => ?_)
        · refine T_iconst dX10_swapCoordinates_66 (by decide) ?_
          refine T_istore_n dX10_swapCoordinates_67 (Nat.le_of_ble_eq_true rfl) ?_
          refine T_iinc dX10_swapCoordinates_68 rfl ⟨by omega, by omega⟩ ?_
          refine T_goto dX10_swapCoordinates_71 (t := 17) rfl ?_
          exact ih _ (by omega) w j 0 (q + 1) rfl  (by omega) (by omega) (Or.inr ⟨rfl, fun l hl x => by
                by_cases e : l = q
                · rw [e] at x; omega
                · exact (ht.resolve_left (fun y => by omega)).2 l (by omega) x⟩) kk74
        · refine T_iconst dX10_swapCoordinates_62 (by decide) ?_
          refine T_goto dX10_swapCoordinates_63 (t := 67) rfl ?_
          refine T_istore_n dX10_swapCoordinates_67 (Nat.le_of_ble_eq_true rfl) ?_
          refine T_iinc dX10_swapCoordinates_68 rfl ⟨by omega, by omega⟩ ?_
          refine T_goto dX10_swapCoordinates_71 (t := 17) rfl ?_
          exact ih _ (by omega) w j 1 (q + 1) rfl  (by omega) (by omega) (Or.inl ⟨rfl, q, by omega, by omega, by omega⟩) kk74
set_option maxHeartbeats 4000000 in
set_option maxRecDepth 100000 in
theorem m_X10_swapCoordinates_4 {n0 n k : Nat} {g : Nat → zV} {h : zHp} {Q : Option zV → Nat → Nat → zHp → Prop} {m : Nat} {P : pT} {L : lT} {I O : tT} {V : Int × pT} (hP : pwf P) (hL : lwf L) (hI : iwf I) (hO : owf O) (hV : vwf V) (hB : n0 ≤ m) (hrf : rfAt h m P L I O V) (hQ : ∀  (h' : zHp), (rfAt h' m (s_swap P).2 L I O V) → (∀ q : Nat, (q < m ∨ m + 33 ≤ q) → h' q = h q) → Q (some (.inl ((s_swap P).1))) n k h') : ∀ (d : Nat) (w : Int) (j : Nat) (L3 : Option zV) (L4 : Option zV), P.2.1 - j = d → (j ≤ P.2.1) → ((w = 1 ∧ ∀ i, i < j → zhas P (P.2.2.2.1 i) (P.2.2.1 i) = true) ∨ (w = 0 ∧ ∃ i, i < j ∧ ¬ zhas P (P.2.2.2.1 i) (P.2.2.1 i) = true)) → ZT n0 g mX10_swapCoordinates 4 [some (.inr (some m)), some (.inl w), some (.inl (j : Int)), L3, L4] [] n k h Q := by
  intro d
  induction d using Nat.strongRecOn with | _ d ih => ?_
  intro w j L3 L4 hd0 hj hw
  subst hd0
  obtain ⟨fk, z, c, cn, en, ax, nu, sp, ss, hM, rp, rc, rk, rf, ry, ri, ro, rl, rv⟩ := id hrf
  have hpb := hP.bd
  have hs8 := hP.2.1
  obtain ⟨xs, ys, p0, p1, p2⟩ := id rp
  refine T_iload_n dX10_swapCoordinates_4 rfl ?_
  refine T_aload_n dX10_swapCoordinates_5 rfl ?_
  refine T_getfield dX10_swapCoordinates_6 zkf_11_111 hM rfl ?_
  refine T_icmp_ge dX10_swapCoordinates_9 (t := 94) rfl (fun c9 => ?_) (fun c9 => ?_)
  · refine T_iconst dX10_swapCoordinates_94 (by decide) ?_
    refine T_istore_n dX10_swapCoordinates_95 (Nat.le_of_ble_eq_true rfl) ?_
    exact m_X10_swapCoordinates_96 hP hL hI hO hV hB hrf hQ _ w 0 xs ys _ _ rfl _ p0 p1 (fun q q0 q1 => rfl) (by omega) (hw.imp (fun x => ⟨x.1, zsym_iff.mpr (fun i hi => x.2 i (by omega))⟩) (fun x => ⟨x.1, fun y => by obtain ⟨i, hi, hn⟩ := x.2; exact hn (zsym_iff.mp y i (by omega))⟩)) (fun a ha => (p2 a ha).1.trans (if_neg (by omega)).symm) (fun a ha => (p2 a ha).2.trans (if_neg (by omega)).symm) 
  · refine T_iconst dX10_swapCoordinates_12 (by decide) ?_
    refine T_istore_n dX10_swapCoordinates_13 (Nat.le_of_ble_eq_true rfl) ?_
    refine T_iconst dX10_swapCoordinates_14 (by decide) ?_
    refine T_istore dX10_swapCoordinates_15 (Nat.le_of_ble_eq_true rfl) ?_
    refine m_X10_swapCoordinates_17 hP hL hI hO hV hB hrf _ w j 0 0 rfl  (by omega) (by omega) (Or.inr ⟨rfl, fun i hi => absurd hi (Nat.not_lt_zero i)⟩) (fun t74 q74 xt_74 => ?_)
    refine T_iload_n dX10_swapCoordinates_74 rfl ?_
    refine T_if_eq dX10_swapCoordinates_75 (t := 86) rfl (fun c75 => ?_) (fun c75 => ?_)
    · refine T_iconst dX10_swapCoordinates_86 (by decide) ?_
      refine T_istore_n dX10_swapCoordinates_87 (Nat.le_of_ble_eq_true rfl) ?_
      refine T_iinc dX10_swapCoordinates_88 rfl ⟨by omega, by omega⟩ ?_
      refine T_goto dX10_swapCoordinates_91 (t := 4) rfl ?_
      exact ih _ (by omega) 0 (j + 1) _ _ rfl  (by omega) (Or.inr ⟨rfl, by
            obtain ⟨i, a, b⟩ := (hw.resolve_left (fun x => by omega)).2
            exact ⟨i, by omega, b⟩⟩) 
    · refine T_iload_n dX10_swapCoordinates_78 rfl ?_
      refine T_if_eq dX10_swapCoordinates_79 (t := 86) rfl (fun c79 => ?_) (fun c79 => ?_)
      · refine T_iconst dX10_swapCoordinates_86 (by decide) ?_
        refine T_istore_n dX10_swapCoordinates_87 (Nat.le_of_ble_eq_true rfl) ?_
        refine T_iinc dX10_swapCoordinates_88 rfl ⟨by omega, by omega⟩ ?_
        refine T_goto dX10_swapCoordinates_91 (t := 4) rfl ?_
        exact ih _ (by omega) 0 (j + 1) _ _ rfl  (by omega) (Or.inr ⟨rfl, j, by omega, (xt_74.resolve_left (fun x => by omega)).2⟩) 
      · refine T_iconst dX10_swapCoordinates_82 (by decide) ?_
        refine T_goto dX10_swapCoordinates_83 (t := 87) rfl ?_
        refine T_istore_n dX10_swapCoordinates_87 (Nat.le_of_ble_eq_true rfl) ?_
        refine T_iinc dX10_swapCoordinates_88 rfl ⟨by omega, by omega⟩ ?_
        refine T_goto dX10_swapCoordinates_91 (t := 4) rfl ?_
        exact ih _ (by omega) 1 (j + 1) _ _ rfl  (by omega) (Or.inl ⟨rfl, fun i hi => by
              by_cases e : i = j
              · rw [e]; exact (xt_74.resolve_right (fun x => by omega)).2
              · exact (hw.resolve_right (fun x => by omega)).2 i (by omega)⟩) 
set_option maxHeartbeats 4000000 in
set_option maxRecDepth 100000 in
theorem m_X10_swapCoordinates {n0 n k : Nat} {g : Nat → zV} {h : zHp} {Q : Option zV → Nat → Nat → zHp → Prop} {m : Nat} {P : pT} {L : lT} {I O : tT} {V : Int × pT} (hP : pwf P) (hL : lwf L) (hI : iwf I) (hO : owf O) (hV : vwf V) (hB : n0 ≤ m) (hrf : rfAt h m P L I O V) (hQ : ∀  (h' : zHp), (rfAt h' m (s_swap P).2 L I O V) → (∀ q : Nat, (q < m ∨ m + 33 ≤ q) → h' q = h q) → Q (some (.inl ((s_swap P).1))) n k h') : ZT n0 g mX10_swapCoordinates 0 (zloc mX10_swapCoordinates [.inr (some m)]) [] n k h Q := by
  show ZT n0 g mX10_swapCoordinates 0 [some (.inr (some m)), none, none, none, none] [] n k h Q
  obtain ⟨fk, z, c, cn, en, ax, nu, sp, ss, hM, rp, rc, rk, rf, ry, ri, ro, rl, rv⟩ := id hrf
  have hpb := hP.bd
  have hs8 := hP.2.1
  obtain ⟨xs, ys, p0, p1, p2⟩ := id rp
  refine T_iconst dX10_swapCoordinates_0 (by decide) ?_
  refine T_istore_n dX10_swapCoordinates_1 (Nat.le_of_ble_eq_true rfl) ?_
  refine T_iconst dX10_swapCoordinates_2 (by decide) ?_
  refine T_istore_n dX10_swapCoordinates_3 (Nat.le_of_ble_eq_true rfl) ?_
  exact m_X10_swapCoordinates_4 hP hL hI hO hV hB hrf hQ _ 1 0 _ _ rfl  (by omega) (Or.inl ⟨rfl, fun i hi => absurd hi (Nat.not_lt_zero i)⟩) 
set_option maxHeartbeats 4000000 in
set_option maxRecDepth 100000 in
theorem m_X10_translate_33 {n0 n k : Nat} {g : Nat → zV} {h : zHp} {Q : Option zV → Nat → Nat → zHp → Prop} {m : Nat} {P : pT} {L : lT} {I O : tT} {V : Int × pT} {x y : Int} (hP : pwf P) (hL : lwf L) (hI : iwf I) (hO : owf O) (hV : vwf V) (hB : n0 ≤ m) (hrf : rfAt h m P L I O V) (hQ : ∀  (h' : zHp), (rfAt h' m (s_tr P x y).2 L I O V) → (∀ q : Nat, (q < m ∨ m + 33 ≤ q) → h' q = h q) → Q (some (.inl ((s_tr P x y).1))) n k h') : ∀ (d : Nat) (j : Nat) (us : Nat → Int) (vs : Nat → Int), P.2.1 - j = d → ∀ h1 : zHp, h1 (m + 1) = some (.inr (.inl (0, 8, us))) → h1 (m + 2) = some (.inr (.inl (0, 8, vs))) → (∀ q : Nat, q ≠ (m + 1) → q ≠ (m + 2) → h1 q = h q) → (j ≤ P.2.1) → ((0 ≤ x ∧ x < P.1) ∧ (0 ≤ y ∧ y < P.1)) → (∀ a, a < P.2.1 → us a = if a < j then (1 * P.2.2.1 a + x) % P.1 else P.2.2.1 a) → (∀ a, a < P.2.1 → vs a = if a < j then (1 * P.2.2.2.1 a + y) % P.1 else P.2.2.2.1 a) → ZT n0 g mX10_translate 33 [some (.inr (some m)), some (.inl x), some (.inl y), some (.inl (j : Int))] [] n k h1 Q := by
  intro d
  induction d using Nat.strongRecOn with | _ d ih => ?_
  intro j us vs hd0 h1 xs1 ys1 hfr hj hb hu hv
  subst hd0
  obtain ⟨fk, z, c, cn, en, ax, nu, sp, ss, hM, rp, rc, rk, rf, ry, ri, ro, rl, rv⟩ := id hrf
  have hpb := hP.bd
  have hs8 := hP.2.1
  obtain ⟨xs, ys, p0, p1, p2⟩ := id rp
  refine T_iload_n dX10_translate_33 rfl ?_
  refine T_aload_n dX10_translate_34 rfl ?_
  refine T_getfield dX10_translate_35 zkf_11_111 ((hfr _ (by omega) (by omega)).trans hM) rfl ?_
  refine T_icmp_ge dX10_translate_38 (t := 85) rfl (fun c38 => ?_) (fun c38 => ?_)
  · refine T_aload_n dX10_translate_85 rfl ?_
    refine T_iconst dX10_translate_86 (by decide) ?_
    refine T_putfield dX10_translate_87 zkf_11_122 ((hfr _ (by omega) (by omega)).trans hM) (Nat.le_of_ble_eq_true rfl) (by omega) rfl (fun hf => absurd hf (by decide)) rfl ?_
    refine T_aload_n dX10_translate_90 rfl ?_
    refine T_getfield dX10_translate_91 zkf_11_111 zup_self rfl ?_
    refine T_iret dX10_translate_94 rfl ?_
    have e : s_tr P x y = ((P.2.1 : Int), s_map P 1 x 1 y) := by unfold s_tr; rw [if_pos hb]
    rw [e] at hQ
    exact hQ _ ⟨0, z, c, cn, en, ax, nu, sp, ss, zup_self, ⟨_, _, (zup_ne (by omega) xs1), (zup_ne (by omega) ys1), fun k hk => ⟨(hu k hk).trans (if_pos (by have : k < P.2.1 := hk; omega)), (hv k hk).trans (if_pos (by have : k < P.2.1 := hk; omega))⟩⟩, (rc.frame (fun q a1 a2 => ((zup_nf (by omega)).trans (((hfr _ (by omega) (by omega)).trans (rfl)))))), (rk.frame (fun q a1 a2 => ((zup_nf (by omega)).trans (((hfr _ (by omega) (by omega)).trans (rfl)))))), (rf.frame (fun q a1 a2 => ((zup_nf (by omega)).trans (((hfr _ (by omega) (by omega)).trans (rfl)))))).forget, (ry.frame (fun q a1 a2 => ((zup_nf (by omega)).trans (((hfr _ (by omega) (by omega)).trans (rfl)))))), (ri.frame (fun q a1 a2 => ((zup_nf (by omega)).trans (((hfr _ (by omega) (by omega)).trans (rfl)))))), (ro.frame (fun q a1 a2 => ((zup_nf (by omega)).trans (((hfr _ (by omega) (by omega)).trans (rfl)))))), (rl.frame (fun q a1 a2 => ((zup_nf (by omega)).trans (((hfr _ (by omega) (by omega)).trans (rfl)))))), (rv.frame (fun q a1 a2 => ((zup_nf (by omega)).trans (((hfr _ (by omega) (by omega)).trans (rfl))))))⟩ (fun q a1 => ((zup_nf (by omega)).trans (((hfr _ (by omega) (by omega)).trans (rfl)))))
  · have uj := (hu j (by omega)).trans (if_neg (by omega))
    have vj := (hv j (by omega)).trans (if_neg (by omega))
    have pj := hP.2.2.1 j (by omega)
    refine T_aload_n dX10_translate_41 rfl ?_
    refine T_getfield dX10_translate_42 zkf_11_13 ((hfr _ (by omega) (by omega)).trans hM) rfl ?_
    refine T_iload_n dX10_translate_45 rfl ?_
    refine T_aload_n dX10_translate_46 rfl ?_
    refine T_getfield dX10_translate_47 zkf_11_13 ((hfr _ (by omega) (by omega)).trans hM) rfl ?_
    refine T_iload_n dX10_translate_50 rfl ?_
    refine T_ialoadN (m := j) dX10_translate_51 xs1 rfl (by omega) ?_
    refine T_iload_n dX10_translate_52 rfl ?_
    refine T_iadd dX10_translate_53 ⟨by omega, by omega⟩ ?_
    refine T_aload_n dX10_translate_54 rfl ?_
    refine T_getfield dX10_translate_55 zkf_11_7 ((hfr _ (by omega) (by omega)).trans hM) rfl ?_
    refine T_iremN dX10_translate_58 ⟨by omega, by omega⟩ (by omega) ?_
    have r58 := zmod_bd ((us j) + x) P.1 (by omega)
    refine T_iastoreN (m := j) dX10_translate_59 xs1 rfl (by omega) (by omega) ?_
    refine T_aload_n dX10_translate_60 rfl ?_
    refine T_getfield dX10_translate_61 zkf_11_17 (zup_ne (by omega) ((hfr _ (by omega) (by omega)).trans hM)) rfl ?_
    refine T_iload_n dX10_translate_64 rfl ?_
    refine T_aload_n dX10_translate_65 rfl ?_
    refine T_getfield dX10_translate_66 zkf_11_17 (zup_ne (by omega) ((hfr _ (by omega) (by omega)).trans hM)) rfl ?_
    refine T_iload_n dX10_translate_69 rfl ?_
    refine T_ialoadN (m := j) dX10_translate_70 (zup_ne (by omega) ys1) rfl (by omega) ?_
    refine T_iload_n dX10_translate_71 rfl ?_
    refine T_iadd dX10_translate_72 ⟨by omega, by omega⟩ ?_
    refine T_aload_n dX10_translate_73 rfl ?_
    refine T_getfield dX10_translate_74 zkf_11_7 (zup_ne (by omega) ((hfr _ (by omega) (by omega)).trans hM)) rfl ?_
    refine T_iremN dX10_translate_77 ⟨by omega, by omega⟩ (by omega) ?_
    have r77 := zmod_bd ((vs j) + y) P.1 (by omega)
    refine T_iastoreN (m := j) dX10_translate_78 (zup_ne (by omega) ys1) rfl (by omega) (by omega) ?_
    refine T_iinc dX10_translate_79 rfl ⟨by omega, by omega⟩ ?_
    refine T_goto dX10_translate_82 (t := 33) rfl ?_
    exact ih _ (by omega) (j + 1) _ _ rfl _ (zup_ne (by omega) zup_self) zup_self (fun q q0 q1 => ((zup_nf q1).trans ((zup_nf q0).trans ((hfr _ q0 q1).trans rfl)))) (by omega) (by omega) (fun a ha => by
          by_cases e : a = j
          · rw [e, zfu_self, if_pos (by omega), hu j (by omega), if_neg (by omega)]; rw [Int.one_mul]
          · rw [zfu_ne e, hu a ha]
            split
            · rw [if_pos (by omega)]
            · rw [if_neg (by omega)]) (fun a ha => by
          by_cases e : a = j
          · rw [e, zfu_self, if_pos (by omega), hv j (by omega), if_neg (by omega)]; rw [Int.one_mul]
          · rw [zfu_ne e, hv a ha]
            split
            · rw [if_pos (by omega)]
            · rw [if_neg (by omega)]) 
set_option maxHeartbeats 4000000 in
set_option maxRecDepth 100000 in
theorem m_X10_translate {n0 n k : Nat} {g : Nat → zV} {h : zHp} {Q : Option zV → Nat → Nat → zHp → Prop} {m : Nat} {P : pT} {L : lT} {I O : tT} {V : Int × pT} {x y : Int} (hP : pwf P) (hL : lwf L) (hI : iwf I) (hO : owf O) (hV : vwf V) (hB : n0 ≤ m) (hrf : rfAt h m P L I O V) (hQ : ∀  (h' : zHp), (rfAt h' m (s_tr P x y).2 L I O V) → (∀ q : Nat, (q < m ∨ m + 33 ≤ q) → h' q = h q) → Q (some (.inl ((s_tr P x y).1))) n k h') : ZT n0 g mX10_translate 0 (zloc mX10_translate [.inr (some m), .inl x, .inl y]) [] n k h Q := by
  show ZT n0 g mX10_translate 0 [some (.inr (some m)), some (.inl x), some (.inl y), none] [] n k h Q
  obtain ⟨fk, z, c, cn, en, ax, nu, sp, ss, hM, rp, rc, rk, rf, ry, ri, ro, rl, rv⟩ := id hrf
  have hpb := hP.bd
  have hs8 := hP.2.1
  obtain ⟨xs, ys, p0, p1, p2⟩ := id rp
  refine T_iload_n dX10_translate_0 rfl ?_
  refine T_iconst dX10_translate_1 (by decide) ?_
  refine T_aload_n dX10_translate_2 rfl ?_
  refine T_getfield dX10_translate_3 zkf_11_7 hM rfl ?_
  refine T_iconst dX10_translate_6 (by decide) ?_
  refine T_isub dX10_translate_7 ⟨by omega, by omega⟩ ?_
  refine T_callS dX10_translate_8 zkm_11_114 ⟨Nat.le_of_ble_eq_true rfl, Nat.le_of_ble_eq_true rfl, rfl⟩ rfl (Nat.le_of_ble_eq_true rfl) ?_
  refine m_X10_isIn   (fun k8a => ?_) (fun k8a_2 => ?_)
  · refine T_if_eq dX10_translate_11 (t := 28) rfl (fun hc => absurd hc (by decide)) (fun _ => ?_)
    refine T_iload_n dX10_translate_14 rfl ?_
    refine T_iconst dX10_translate_15 (by decide) ?_
    refine T_aload_n dX10_translate_16 rfl ?_
    refine T_getfield dX10_translate_17 zkf_11_7 hM rfl ?_
    refine T_iconst dX10_translate_20 (by decide) ?_
    refine T_isub dX10_translate_21 ⟨by omega, by omega⟩ ?_
    refine T_callS dX10_translate_22 zkm_11_114 ⟨Nat.le_of_ble_eq_true rfl, Nat.le_of_ble_eq_true rfl, rfl⟩ rfl (Nat.le_of_ble_eq_true rfl) ?_
    refine m_X10_isIn   (fun k22a => ?_) (fun k22a_2 => ?_)
    · refine T_if_ne dX10_translate_25 (t := 31) rfl (fun _ => ?_) (fun hc => absurd hc (by decide))
      refine T_iconst dX10_translate_31 (by decide) ?_
      refine T_istore_n dX10_translate_32 (Nat.le_of_ble_eq_true rfl) ?_
      exact m_X10_translate_33 hP hL hI hO hV hB hrf hQ _ 0 xs ys rfl _ p0 p1 (fun q q0 q1 => rfl) (by omega) (by omega) (fun a ha => (p2 a ha).1.trans (if_neg (by omega)).symm) (fun a ha => (p2 a ha).2.trans (if_neg (by omega)).symm) 
    · refine T_if_ne dX10_translate_25 (t := 31) rfl (fun hc => absurd hc (by decide)) (fun _ => ?_)
      refine T_bipush dX10_translate_28 (by decide) ?_
      refine T_iret dX10_translate_30 rfl ?_
      have e : s_tr P x y = (-2, P) := by unfold s_tr; rw [if_neg (by omega)]
      rw [e] at hQ
      exact hQ h hrf (fun _ _ => rfl)
  · refine T_if_eq dX10_translate_11 (t := 28) rfl (fun _ => ?_) (fun hc => absurd hc (by decide))
    refine T_bipush dX10_translate_28 (by decide) ?_
    refine T_iret dX10_translate_30 rfl ?_
    have e : s_tr P x y = (-2, P) := by unfold s_tr; rw [if_neg (by omega)]
    rw [e] at hQ
    exact hQ h hrf (fun _ _ => rfl)
set_option maxHeartbeats 4000000 in
set_option maxRecDepth 100000 in
theorem m_X10_scale_33 {n0 n k : Nat} {g : Nat → zV} {h : zHp} {Q : Option zV → Nat → Nat → zHp → Prop} {m : Nat} {P : pT} {L : lT} {I O : tT} {V : Int × pT} {x y : Int} (hP : pwf P) (hL : lwf L) (hI : iwf I) (hO : owf O) (hV : vwf V) (hB : n0 ≤ m) (hrf : rfAt h m P L I O V) (hQ : ∀  (h' : zHp), (rfAt h' m (s_sc P x y).2 L I O V) → (∀ q : Nat, (q < m ∨ m + 33 ≤ q) → h' q = h q) → Q (some (.inl ((s_sc P x y).1))) n k h') : ∀ (d : Nat) (j : Nat) (us : Nat → Int) (vs : Nat → Int), P.2.1 - j = d → ∀ h1 : zHp, h1 (m + 1) = some (.inr (.inl (0, 8, us))) → h1 (m + 2) = some (.inr (.inl (0, 8, vs))) → (∀ q : Nat, q ≠ (m + 1) → q ≠ (m + 2) → h1 q = h q) → (j ≤ P.2.1) → ((1 ≤ x ∧ x < P.1) ∧ (1 ≤ y ∧ y < P.1)) → (∀ a, a < P.2.1 → us a = if a < j then (x * P.2.2.1 a + 0) % P.1 else P.2.2.1 a) → (∀ a, a < P.2.1 → vs a = if a < j then (y * P.2.2.2.1 a + 0) % P.1 else P.2.2.2.1 a) → ZT n0 g mX10_scale 33 [some (.inr (some m)), some (.inl x), some (.inl y), some (.inl (j : Int))] [] n k h1 Q := by
  intro d
  induction d using Nat.strongRecOn with | _ d ih => ?_
  intro j us vs hd0 h1 xs1 ys1 hfr hj hb hu hv
  subst hd0
  obtain ⟨fk, z, c, cn, en, ax, nu, sp, ss, hM, rp, rc, rk, rf, ry, ri, ro, rl, rv⟩ := id hrf
  have hpb := hP.bd
  have hs8 := hP.2.1
  obtain ⟨xs, ys, p0, p1, p2⟩ := id rp
  refine T_iload_n dX10_scale_33 rfl ?_
  refine T_aload_n dX10_scale_34 rfl ?_
  refine T_getfield dX10_scale_35 zkf_11_111 ((hfr _ (by omega) (by omega)).trans hM) rfl ?_
  refine T_icmp_ge dX10_scale_38 (t := 85) rfl (fun c38 => ?_) (fun c38 => ?_)
  · refine T_aload_n dX10_scale_85 rfl ?_
    refine T_iconst dX10_scale_86 (by decide) ?_
    refine T_putfield dX10_scale_87 zkf_11_122 ((hfr _ (by omega) (by omega)).trans hM) (Nat.le_of_ble_eq_true rfl) (by omega) rfl (fun hf => absurd hf (by decide)) rfl ?_
    refine T_aload_n dX10_scale_90 rfl ?_
    refine T_getfield dX10_scale_91 zkf_11_111 zup_self rfl ?_
    refine T_iret dX10_scale_94 rfl ?_
    have e : s_sc P x y = ((P.2.1 : Int), s_map P x 0 y 0) := by unfold s_sc; rw [if_pos hb]
    rw [e] at hQ
    exact hQ _ ⟨0, z, c, cn, en, ax, nu, sp, ss, zup_self, ⟨_, _, (zup_ne (by omega) xs1), (zup_ne (by omega) ys1), fun k hk => ⟨(hu k hk).trans (if_pos (by have : k < P.2.1 := hk; omega)), (hv k hk).trans (if_pos (by have : k < P.2.1 := hk; omega))⟩⟩, (rc.frame (fun q a1 a2 => ((zup_nf (by omega)).trans (((hfr _ (by omega) (by omega)).trans (rfl)))))), (rk.frame (fun q a1 a2 => ((zup_nf (by omega)).trans (((hfr _ (by omega) (by omega)).trans (rfl)))))), (rf.frame (fun q a1 a2 => ((zup_nf (by omega)).trans (((hfr _ (by omega) (by omega)).trans (rfl)))))).forget, (ry.frame (fun q a1 a2 => ((zup_nf (by omega)).trans (((hfr _ (by omega) (by omega)).trans (rfl)))))), (ri.frame (fun q a1 a2 => ((zup_nf (by omega)).trans (((hfr _ (by omega) (by omega)).trans (rfl)))))), (ro.frame (fun q a1 a2 => ((zup_nf (by omega)).trans (((hfr _ (by omega) (by omega)).trans (rfl)))))), (rl.frame (fun q a1 a2 => ((zup_nf (by omega)).trans (((hfr _ (by omega) (by omega)).trans (rfl)))))), (rv.frame (fun q a1 a2 => ((zup_nf (by omega)).trans (((hfr _ (by omega) (by omega)).trans (rfl))))))⟩ (fun q a1 => ((zup_nf (by omega)).trans (((hfr _ (by omega) (by omega)).trans (rfl)))))
  · have uj := (hu j (by omega)).trans (if_neg (by omega))
    have vj := (hv j (by omega)).trans (if_neg (by omega))
    have pj := hP.2.2.1 j (by omega)
    have mu := zmul_le (show 0 ≤ us j by omega) (show us j ≤ 32 by omega) (show 0 ≤ x by omega) (show x ≤ 32 by omega)
    have mv := zmul_le (show 0 ≤ vs j by omega) (show vs j ≤ 32 by omega) (show 0 ≤ y by omega) (show y ≤ 32 by omega)
    refine T_aload_n dX10_scale_41 rfl ?_
    refine T_getfield dX10_scale_42 zkf_11_13 ((hfr _ (by omega) (by omega)).trans hM) rfl ?_
    refine T_iload_n dX10_scale_45 rfl ?_
    refine T_aload_n dX10_scale_46 rfl ?_
    refine T_getfield dX10_scale_47 zkf_11_13 ((hfr _ (by omega) (by omega)).trans hM) rfl ?_
    refine T_iload_n dX10_scale_50 rfl ?_
    refine T_ialoadN (m := j) dX10_scale_51 xs1 rfl (by omega) ?_
    refine T_iload_n dX10_scale_52 rfl ?_
    refine T_imul dX10_scale_53 (zmulR (by omega) (by omega) (by omega) (by omega)) ?_
    refine T_aload_n dX10_scale_54 rfl ?_
    refine T_getfield dX10_scale_55 zkf_11_7 ((hfr _ (by omega) (by omega)).trans hM) rfl ?_
    refine T_iremN dX10_scale_58 ⟨by omega, by omega⟩ (by omega) ?_
    have r58 := zmod_bd ((us j) * x) P.1 (by omega)
    refine T_iastoreN (m := j) dX10_scale_59 xs1 rfl (by omega) (by omega) ?_
    refine T_aload_n dX10_scale_60 rfl ?_
    refine T_getfield dX10_scale_61 zkf_11_17 (zup_ne (by omega) ((hfr _ (by omega) (by omega)).trans hM)) rfl ?_
    refine T_iload_n dX10_scale_64 rfl ?_
    refine T_aload_n dX10_scale_65 rfl ?_
    refine T_getfield dX10_scale_66 zkf_11_17 (zup_ne (by omega) ((hfr _ (by omega) (by omega)).trans hM)) rfl ?_
    refine T_iload_n dX10_scale_69 rfl ?_
    refine T_ialoadN (m := j) dX10_scale_70 (zup_ne (by omega) ys1) rfl (by omega) ?_
    refine T_iload_n dX10_scale_71 rfl ?_
    refine T_imul dX10_scale_72 (zmulR (by omega) (by omega) (by omega) (by omega)) ?_
    refine T_aload_n dX10_scale_73 rfl ?_
    refine T_getfield dX10_scale_74 zkf_11_7 (zup_ne (by omega) ((hfr _ (by omega) (by omega)).trans hM)) rfl ?_
    refine T_iremN dX10_scale_77 ⟨by omega, by omega⟩ (by omega) ?_
    have r77 := zmod_bd ((vs j) * y) P.1 (by omega)
    refine T_iastoreN (m := j) dX10_scale_78 (zup_ne (by omega) ys1) rfl (by omega) (by omega) ?_
    refine T_iinc dX10_scale_79 rfl ⟨by omega, by omega⟩ ?_
    refine T_goto dX10_scale_82 (t := 33) rfl ?_
    exact ih _ (by omega) (j + 1) _ _ rfl _ (zup_ne (by omega) zup_self) zup_self (fun q q0 q1 => ((zup_nf q1).trans ((zup_nf q0).trans ((hfr _ q0 q1).trans rfl)))) (by omega) (by omega) (fun a ha => by
          by_cases e : a = j
          · rw [e, zfu_self, if_pos (by omega), hu j (by omega), if_neg (by omega)]; rw [Int.mul_comm, Int.add_zero]
          · rw [zfu_ne e, hu a ha]
            split
            · rw [if_pos (by omega)]
            · rw [if_neg (by omega)]) (fun a ha => by
          by_cases e : a = j
          · rw [e, zfu_self, if_pos (by omega), hv j (by omega), if_neg (by omega)]; rw [Int.mul_comm, Int.add_zero]
          · rw [zfu_ne e, hv a ha]
            split
            · rw [if_pos (by omega)]
            · rw [if_neg (by omega)]) 
set_option maxHeartbeats 4000000 in
set_option maxRecDepth 100000 in
theorem m_X10_scale {n0 n k : Nat} {g : Nat → zV} {h : zHp} {Q : Option zV → Nat → Nat → zHp → Prop} {m : Nat} {P : pT} {L : lT} {I O : tT} {V : Int × pT} {x y : Int} (hP : pwf P) (hL : lwf L) (hI : iwf I) (hO : owf O) (hV : vwf V) (hB : n0 ≤ m) (hrf : rfAt h m P L I O V) (hQ : ∀  (h' : zHp), (rfAt h' m (s_sc P x y).2 L I O V) → (∀ q : Nat, (q < m ∨ m + 33 ≤ q) → h' q = h q) → Q (some (.inl ((s_sc P x y).1))) n k h') : ZT n0 g mX10_scale 0 (zloc mX10_scale [.inr (some m), .inl x, .inl y]) [] n k h Q := by
  show ZT n0 g mX10_scale 0 [some (.inr (some m)), some (.inl x), some (.inl y), none] [] n k h Q
  obtain ⟨fk, z, c, cn, en, ax, nu, sp, ss, hM, rp, rc, rk, rf, ry, ri, ro, rl, rv⟩ := id hrf
  have hpb := hP.bd
  have hs8 := hP.2.1
  obtain ⟨xs, ys, p0, p1, p2⟩ := id rp
  refine T_iload_n dX10_scale_0 rfl ?_
  refine T_iconst dX10_scale_1 (by decide) ?_
  refine T_aload_n dX10_scale_2 rfl ?_
  refine T_getfield dX10_scale_3 zkf_11_7 hM rfl ?_
  refine T_iconst dX10_scale_6 (by decide) ?_
  refine T_isub dX10_scale_7 ⟨by omega, by omega⟩ ?_
  refine T_callS dX10_scale_8 zkm_11_114 ⟨Nat.le_of_ble_eq_true rfl, Nat.le_of_ble_eq_true rfl, rfl⟩ rfl (Nat.le_of_ble_eq_true rfl) ?_
  refine m_X10_isIn   (fun k8a => ?_) (fun k8a_2 => ?_)
  · refine T_if_eq dX10_scale_11 (t := 28) rfl (fun hc => absurd hc (by decide)) (fun _ => ?_)
    refine T_iload_n dX10_scale_14 rfl ?_
    refine T_iconst dX10_scale_15 (by decide) ?_
    refine T_aload_n dX10_scale_16 rfl ?_
    refine T_getfield dX10_scale_17 zkf_11_7 hM rfl ?_
    refine T_iconst dX10_scale_20 (by decide) ?_
    refine T_isub dX10_scale_21 ⟨by omega, by omega⟩ ?_
    refine T_callS dX10_scale_22 zkm_11_114 ⟨Nat.le_of_ble_eq_true rfl, Nat.le_of_ble_eq_true rfl, rfl⟩ rfl (Nat.le_of_ble_eq_true rfl) ?_
    refine m_X10_isIn   (fun k22a => ?_) (fun k22a_2 => ?_)
    · refine T_if_ne dX10_scale_25 (t := 31) rfl (fun _ => ?_) (fun hc => absurd hc (by decide))
      refine T_iconst dX10_scale_31 (by decide) ?_
      refine T_istore_n dX10_scale_32 (Nat.le_of_ble_eq_true rfl) ?_
      exact m_X10_scale_33 hP hL hI hO hV hB hrf hQ _ 0 xs ys rfl _ p0 p1 (fun q q0 q1 => rfl) (by omega) (by omega) (fun a ha => (p2 a ha).1.trans (if_neg (by omega)).symm) (fun a ha => (p2 a ha).2.trans (if_neg (by omega)).symm) 
    · refine T_if_ne dX10_scale_25 (t := 31) rfl (fun hc => absurd hc (by decide)) (fun _ => ?_)
      refine T_bipush dX10_scale_28 (by decide) ?_
      refine T_iret dX10_scale_30 rfl ?_
      have e : s_sc P x y = (-2, P) := by unfold s_sc; rw [if_neg (by omega)]
      rw [e] at hQ
      exact hQ h hrf (fun _ _ => rfl)
  · refine T_if_eq dX10_scale_11 (t := 28) rfl (fun _ => ?_) (fun hc => absurd hc (by decide))
    refine T_bipush dX10_scale_28 (by decide) ?_
    refine T_iret dX10_scale_30 rfl ?_
    have e : s_sc P x y = (-2, P) := by unfold s_sc; rw [if_neg (by omega)]
    rw [e] at hQ
    exact hQ h hrf (fun _ _ => rfl)
