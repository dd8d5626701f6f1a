/-! ===== GroebnerFan: arguments; calls on points: printed by wip/whole/gen/s_cl.py ===== -/
def prOk (g : Nat → zV) (h : zHp) (B : Nat) : Prop := ∃ (pa : Nat) (pf : Nat → Int), g 1 = .inr (some pa) ∧ pa < B ∧ zar h pa 11 pf ∧ ∀ i, i < 11 → pf i = ([2, 3, 5, 7, 11, 13, 17, 19, 23, 29, 31] : List Int).getD i 0
set_option maxHeartbeats 4000000 in
set_option maxRecDepth 100000 in
theorem m_X9_isExponent {n0 n k : Nat} {g : Nat → zV} {h : zHp} {Q : Option zV → Nat → Nat → zHp → Prop} {v : Int}  (hT : (0 ≤ v ∧ v < 9) → Q (some (.inl 1)) n k h) (hF : (¬ (0 ≤ v ∧ v < 9)) → Q (some (.inl 0)) n k h) : ZT n0 g mX9_isExponent 0 (zloc mX9_isExponent [.inl v]) [] n k h Q := by
  show ZT n0 g mX9_isExponent 0 [some (.inl v)] [] n k h Q
  refine T_iload_n dX9_isExponent_0 rfl ?_
  refine T_if_lt dX9_isExponent_1 (t := 14) rfl (fun c1 => ?_) (fun c1 => ?_)
  · refine T_iconst dX9_isExponent_14 (by decide) ?_
    refine T_iret dX9_isExponent_15 rfl ?_
    exact hF (by omega)
  · refine T_iload_n dX9_isExponent_4 rfl ?_
    refine T_bipush dX9_isExponent_5 (by decide) ?_
    refine T_icmp_ge dX9_isExponent_7 (t := 14) rfl (fun c7 => ?_) (fun c7 => ?_)
    · refine T_iconst dX9_isExponent_14 (by decide) ?_
      refine T_iret dX9_isExponent_15 rfl ?_
      exact hF (by omega)
    · refine T_iconst dX9_isExponent_10 (by decide) ?_
      refine T_goto dX9_isExponent_11 (t := 15) rfl ?_
      refine T_iret dX9_isExponent_15 rfl ?_
      exact hT (by omega)
set_option maxHeartbeats 4000000 in
set_option maxRecDepth 100000 in
theorem m_X9_isWeight {n0 n k : Nat} {g : Nat → zV} {h : zHp} {Q : Option zV → Nat → Nat → zHp → Prop} {u v : Int}  (hT : ((0 ≤ u ∧ u ≤ 99 ∧ 0 ≤ v ∧ v ≤ 99) ∧ (u ≠ 0 ∨ v ≠ 0)) → Q (some (.inl 1)) n k h) (hF : (¬ ((0 ≤ u ∧ u ≤ 99 ∧ 0 ≤ v ∧ v ≤ 99) ∧ (u ≠ 0 ∨ v ≠ 0))) → Q (some (.inl 0)) n k h) : ZT n0 g mX9_isWeight 0 (zloc mX9_isWeight [.inl u, .inl v]) [] n k h Q := by
  show ZT n0 g mX9_isWeight 0 [some (.inl u), some (.inl v)] [] n k h Q
  refine T_iload_n dX9_isWeight_0 rfl ?_
  refine T_if_lt dX9_isWeight_1 (t := 32) rfl (fun c1 => ?_) (fun c1 => ?_)
  · refine T_iconst dX9_isWeight_32 (by decide) ?_
    refine T_iret dX9_isWeight_33 rfl ?_
    exact hF (by omega)
  · refine T_iload_n dX9_isWeight_4 rfl ?_
    refine T_bipush dX9_isWeight_5 (by decide) ?_
    refine T_icmp_gt dX9_isWeight_7 (t := 32) rfl (fun c7 => ?_) (fun c7 => ?_)
    · refine T_iconst dX9_isWeight_32 (by decide) ?_
      refine T_iret dX9_isWeight_33 rfl ?_
      exact hF (by omega)
    · refine T_iload_n dX9_isWeight_10 rfl ?_
      refine T_if_lt dX9_isWeight_11 (t := 32) rfl (fun c11 => ?_) (fun c11 => ?_)
      · refine T_iconst dX9_isWeight_32 (by decide) ?_
        refine T_iret dX9_isWeight_33 rfl ?_
        exact hF (by omega)
      · refine T_iload_n dX9_isWeight_14 rfl ?_
        refine T_bipush dX9_isWeight_15 (by decide) ?_
        refine T_icmp_gt dX9_isWeight_17 (t := 32) rfl (fun c17 => ?_) (fun c17 => ?_)
        · refine T_iconst dX9_isWeight_32 (by decide) ?_
          refine T_iret dX9_isWeight_33 rfl ?_
          exact hF (by omega)
        · refine T_iload_n dX9_isWeight_20 rfl ?_
          refine T_if_ne dX9_isWeight_21 (t := 28) rfl (fun c21 => ?_) (fun c21 => ?_)
          · refine T_iconst dX9_isWeight_28 (by decide) ?_
            refine T_goto dX9_isWeight_29 (t := 33) rfl ?_
            refine T_iret dX9_isWeight_33 rfl ?_
            exact hT (by omega)
          · refine T_iload_n dX9_isWeight_24 rfl ?_
            refine T_if_eq dX9_isWeight_25 (t := 32) rfl (fun c25 => ?_) (fun c25 => ?_)
            · refine T_iconst dX9_isWeight_32 (by decide) ?_
              refine T_iret dX9_isWeight_33 rfl ?_
              exact hF (by omega)
            · refine T_iconst dX9_isWeight_28 (by decide) ?_
              refine T_goto dX9_isWeight_29 (t := 33) rfl ?_
              refine T_iret dX9_isWeight_33 rfl ?_
              exact hT (by omega)
set_option maxHeartbeats 4000000 in
set_option maxRecDepth 100000 in
theorem m_X9_isOrder {n0 n k : Nat} {g : Nat → zV} {h : zHp} {Q : Option zV → Nat → Nat → zHp → Prop} {u v t : Int}  (hT : (((0 ≤ u ∧ u ≤ 99 ∧ 0 ≤ v ∧ v ≤ 99) ∧ (u ≠ 0 ∨ v ≠ 0)) ∧ (t = 0 ∨ t = 1)) → Q (some (.inl 1)) n k h) (hF : (¬ (((0 ≤ u ∧ u ≤ 99 ∧ 0 ≤ v ∧ v ≤ 99) ∧ (u ≠ 0 ∨ v ≠ 0)) ∧ (t = 0 ∨ t = 1))) → Q (some (.inl 0)) n k h) : ZT n0 g mX9_isOrder 0 (zloc mX9_isOrder [.inl u, .inl v, .inl t]) [] n k h Q := by
  show ZT n0 g mX9_isOrder 0 [some (.inl u), some (.inl v), some (.inl t)] [] n k h Q
  refine T_iload_n dX9_isOrder_0 rfl ?_
  refine T_iload_n dX9_isOrder_1 rfl ?_
  refine T_callS dX9_isOrder_2 zkm_10_186 ⟨Nat.le_of_ble_eq_true rfl, Nat.le_of_ble_eq_true rfl, rfl⟩ rfl (Nat.le_of_ble_eq_true rfl) ?_
  refine m_X9_isWeight   (fun k2a => ?_) (fun k2a_2 => ?_)
  · refine T_if_eq dX9_isOrder_5 (t := 21) rfl (fun hc => absurd hc (by decide)) (fun _ => ?_)
    refine T_iload_n dX9_isOrder_8 rfl ?_
    refine T_if_eq dX9_isOrder_9 (t := 17) rfl (fun c9 => ?_) (fun c9 => ?_)
    · refine T_iconst dX9_isOrder_17 (by decide) ?_
      refine T_goto dX9_isOrder_18 (t := 22) rfl ?_
      refine T_iret dX9_isOrder_22 rfl ?_
      exact hT (by omega)
    · refine T_iload_n dX9_isOrder_12 rfl ?_
      refine T_iconst dX9_isOrder_13 (by decide) ?_
      refine T_icmp_ne dX9_isOrder_14 (t := 21) rfl (fun c14 => ?_) (fun c14 => ?_)
      · refine T_iconst dX9_isOrder_21 (by decide) ?_
        refine T_iret dX9_isOrder_22 rfl ?_
        exact hF (by omega)
      · refine T_iconst dX9_isOrder_17 (by decide) ?_
        refine T_goto dX9_isOrder_18 (t := 22) rfl ?_
        refine T_iret dX9_isOrder_22 rfl ?_
        exact hT (by omega)
  · refine T_if_eq dX9_isOrder_5 (t := 21) rfl (fun _ => ?_) (fun hc => absurd hc (by decide))
    refine T_iconst dX9_isOrder_21 (by decide) ?_
    refine T_iret dX9_isOrder_22 rfl ?_
    exact hF (by omega)
set_option maxHeartbeats 4000000 in
set_option maxRecDepth 100000 in
theorem m_X9_decimalExponents {n0 n k : Nat} {g : Nat → zV} {h : zHp} {Q : Option zV → Nat → Nat → zHp → Prop} {m : Nat} (hm : m < 81) (hQ : Q (some (.inl ((10 * (m / 9) + m % 9) : Int))) n k h) : ZT n0 g mX9_decimalExponents 0 (zloc mX9_decimalExponents [.inl (m : Int)]) [] n k h Q := by
  show ZT n0 g mX9_decimalExponents 0 [some (.inl (m : Int))] [] n k h Q
  refine T_bipush dX9_decimalExponents_0 (by decide) ?_
  refine T_iload_n dX9_decimalExponents_2 rfl ?_
  refine T_bipush dX9_decimalExponents_3 (by decide) ?_
  refine T_idivN dX9_decimalExponents_5 ⟨by omega, by omega⟩ (by omega) ?_
  refine T_imul dX9_decimalExponents_6 ⟨by omega, by omega⟩ ?_
  refine T_iload_n dX9_decimalExponents_7 rfl ?_
  refine T_bipush dX9_decimalExponents_8 (by decide) ?_
  refine T_iremN dX9_decimalExponents_10 ⟨by omega, by omega⟩ (by omega) ?_
  refine T_iadd dX9_decimalExponents_11 ⟨by omega, by omega⟩ ?_
  refine T_iret dX9_decimalExponents_12 rfl ?_
  exact hQ
set_option maxHeartbeats 4000000 in
set_option maxRecDepth 100000 in
theorem m_X9_isAllowedPrime_9 {n0 n k : Nat} {g : Nat → zV} {h : zHp} {Q : Option zV → Nat → Nat → zHp → Prop} {q : Int} {pa : Nat} {pf : Nat → Int} (hpa : h pa = some (.inr (.inl (0, 11, pf)))) (hg1 : g 1 = .inr (some pa)) (hpf : ∀ i, i < 11 → pf i = ([2, 3, 5, 7, 11, 13, 17, 19, 23, 29, 31] : List Int).getD i 0) (hT : (zprB q = true) → Q (some (.inl 1)) n k h) (hF : (zprB q = false) → Q (some (.inl 0)) n k h) : ∀ (d : Nat) (j : Nat) (L4 : Option zV), 11 - j = d → (j ≤ 11) → (∀ i, i < j → ([2, 3, 5, 7, 11, 13, 17, 19, 23, 29, 31] : List Int).getD i 0 ≠ q) → ZT n0 g mX9_isAllowedPrime 9 [some (.inl q), some (.inr (some pa)), some (.inl 11), some (.inl (j : Int)), L4] [] n k h Q := by
  intro d
  induction d using Nat.strongRecOn with | _ d ih => ?_
  intro j L4 hd0 hj hn
  subst hd0
  refine T_iload_n dX9_isAllowedPrime_9 rfl ?_
  refine T_iload_n dX9_isAllowedPrime_10 rfl ?_
  refine T_icmp_ge dX9_isAllowedPrime_11 (t := 33) rfl (fun c11 => ?_) (fun c11 => ?_)
  · refine T_iconst dX9_isAllowedPrime_33 (by decide) ?_
    refine T_iret dX9_isAllowedPrime_34 rfl ?_
    exact hF (by
          refine Bool.eq_false_iff.mpr fun hq => ?_
          have h9 : ∀ i, i < 11 → ([2, 3, 5, 7, 11, 13, 17, 19, 23, 29, 31] : List Int).getD i 0 ≠ q := fun i hi => hn i (by omega)
          have a0 := h9 0 (by omega); have a1 := h9 1 (by omega); have a2 := h9 2 (by omega); have a3 := h9 3 (by omega); have a4 := h9 4 (by omega); have a5 := h9 5 (by omega); have a6 := h9 6 (by omega); have a7 := h9 7 (by omega); have a8 := h9 8 (by omega); have a9 := h9 9 (by omega); have a10 := h9 10 (by omega)
          simp only [List.getD_cons_zero, List.getD_cons_succ] at a0 a1 a2 a3 a4 a5 a6 a7 a8 a9 a10
          have := zprB_iff.mp hq
          unfold zprime at this
          omega)
  · refine T_aload_n dX9_isAllowedPrime_14 rfl ?_
    refine T_iload_n dX9_isAllowedPrime_15 rfl ?_
    refine T_ialoadN (m := j) dX9_isAllowedPrime_16 hpa rfl (by omega) ?_
    have e17 := hpf j (by omega)
    refine T_istore dX9_isAllowedPrime_17 (Nat.le_of_ble_eq_true rfl) ?_
    refine T_iload dX9_isAllowedPrime_19 rfl ?_
    refine T_iload_n dX9_isAllowedPrime_21 rfl ?_
    refine T_icmp_ne dX9_isAllowedPrime_22 (t := 27) rfl (fun c22 => ?_) (fun c22 => ?_)
    · refine T_iinc dX9_isAllowedPrime_27 rfl ⟨by omega, by omega⟩ ?_
      refine T_goto dX9_isAllowedPrime_30 (t := 9) rfl ?_
      exact ih _ (by omega) (j + 1) _ rfl  (by omega) (fun i hi => by
            by_cases e : i = j
            · subst e; omega
            · exact hn i (by omega)) 
    · refine T_iconst dX9_isAllowedPrime_25 (by decide) ?_
      refine T_iret dX9_isAllowedPrime_26 rfl ?_
      exact hT (by
            have e3 : ([2, 3, 5, 7, 11, 13, 17, 19, 23, 29, 31] : List Int).getD j 0 = q := by omega
            rw [← e3]
            have all : ∀ i, i < 11 → zprB (([2, 3, 5, 7, 11, 13, 17, 19, 23, 29, 31] : List Int).getD i 0) = true := by decide
            exact all j (by omega))
set_option maxHeartbeats 4000000 in
set_option maxRecDepth 100000 in
theorem m_X9_isAllowedPrime {n0 n k : Nat} {g : Nat → zV} {h : zHp} {Q : Option zV → Nat → Nat → zHp → Prop} {q : Int} {pa : Nat} {pf : Nat → Int} (hpa : h pa = some (.inr (.inl (0, 11, pf)))) (hg1 : g 1 = .inr (some pa)) (hpf : ∀ i, i < 11 → pf i = ([2, 3, 5, 7, 11, 13, 17, 19, 23, 29, 31] : List Int).getD i 0) (hT : (zprB q = true) → Q (some (.inl 1)) n k h) (hF : (zprB q = false) → Q (some (.inl 0)) n k h) : ZT n0 g mX9_isAllowedPrime 0 (zloc mX9_isAllowedPrime [.inl q]) [] n k h Q := by
  show ZT n0 g mX9_isAllowedPrime 0 [some (.inl q), none, none, none, none] [] n k h Q
  refine T_getstatic dX9_isAllowedPrime_0 zks_10_306 ?_
  rw [hg1]
  refine T_astore_n dX9_isAllowedPrime_3 (Nat.le_of_ble_eq_true rfl) ?_
  refine T_aload_n dX9_isAllowedPrime_4 rfl ?_
  refine T_arraylength dX9_isAllowedPrime_5 hpa ?_
  refine T_istore_n dX9_isAllowedPrime_6 (Nat.le_of_ble_eq_true rfl) ?_
  refine T_iconst dX9_isAllowedPrime_7 (by decide) ?_
  refine T_istore_n dX9_isAllowedPrime_8 (Nat.le_of_ble_eq_true rfl) ?_
  exact m_X9_isAllowedPrime_9 hpa hg1 hpf hT hF _ 0 _ rfl  (by omega) (fun i hi => absurd hi (Nat.not_lt_zero i)) 
set_option maxHeartbeats 4000000 in
set_option maxRecDepth 100000 in
theorem m_X9_setPrime {n0 n k : Nat} {g : Nat → zV} {h : zHp} {Q : Option zV → Nat → Nat → zHp → Prop} {B lo : Nat} {P : pT} {L : lT} {I O : tT} {V : Int × pT} {nb vb N : Nat} {cb : Nat → Nat} {q : Int} (hP : pwf P) (hL : lwf L) (hI : iwf I) (hO : owf O) (hV : vwf V) (hB : n0 ≤ B) (hcl : clAt h B lo n P L I O V nb cb vb N) (hpr : prOk g h B) (hQ : ∀  (h' : zHp), (clAt h' B lo n (s_prime P q).2 L I O V nb cb vb N) → (∀ q : Nat, (q < B ∨ (B + 396 ≤ q ∧ q < lo)) → h' q = h q) → Q (some (.inl ((s_prime P q).1))) n k h') : ZT n0 g mX9_setPrime 0 (zloc mX9_setPrime [.inr (some B), .inl q]) [] n k h Q := by
  show ZT n0 g mX9_setPrime 0 [some (.inr (some B)), some (.inl q), none] [] n k h Q
  obtain ⟨pa, pf, hg1, hpa1, hpa2, hpa3⟩ := id hpr
  obtain ⟨o0, gp, gc, gsp, gsc, gw, gf, gi, go, gl, gsep, hlo⟩ := id hcl
  have hpb := hP.bd
  have gvb := go.vb
  have gcb := gf.co.2.2.1
  obtain ⟨xs, ys, p0, p1, p2, p3⟩ := id gp
  obtain ⟨cu, c0, c1, c2⟩ := id gc
  obtain ⟨sz, f0, f1, f2⟩ := id gf
  refine T_iload_n dX9_setPrime_0 rfl ?_
  refine T_callS dX9_setPrime_1 zkm_10_84 ⟨Nat.le_of_ble_eq_true rfl, Nat.le_of_ble_eq_true rfl, rfl⟩ rfl (Nat.le_of_ble_eq_true rfl) ?_
  refine m_X9_isAllowedPrime hpa2 hg1 hpa3 (fun k1a => ?_) (fun k1a_2 => ?_)
  · refine T_if_ne dX9_setPrime_4 (t := 10) rfl (fun _ => ?_) (fun hc => absurd hc (by decide))
    refine T_aload_n dX9_setPrime_10 rfl ?_
    refine T_getfield dX9_setPrime_11 zkf_10_12 o0 rfl ?_
    refine T_getfield dX9_setPrime_14 zkf_10_88 p0 rfl ?_
    refine T_istore_n dX9_setPrime_17 (Nat.le_of_ble_eq_true rfl) ?_
    refine T_aload_n dX9_setPrime_18 rfl ?_
    refine T_getfield dX9_setPrime_19 zkf_10_12 o0 rfl ?_
    refine T_iload_n dX9_setPrime_22 rfl ?_
    refine T_callV dX9_setPrime_23 zkm_10_92 (Or.inl rfl) rfl p0 ⟨Nat.le_of_ble_eq_true rfl, rfl⟩ rfl (Nat.le_of_ble_eq_true rfl) ?_
    refine m_X5_restart p0 (by omega) (fun hh23 f23a fr23 => ?_)
    refine T_aload_n dX9_setPrime_26 rfl ?_
    refine T_getfield dX9_setPrime_27 zkf_10_19 ((fr23 _ (by omega)).trans o0) rfl ?_
    refine T_callV dX9_setPrime_30 zkm_10_96 (Or.inl rfl) rfl ((fr23 _ (by omega)).trans c0) ⟨Nat.le_of_ble_eq_true rfl, rfl⟩ rfl (Nat.le_of_ble_eq_true rfl) ?_
    refine m_X6_clear ((fr23 _ (by omega)).trans c0) ((fr23 _ (by omega)).trans c1) (by omega) (fun f'30 hh30 k30a f30a fr30 => ?_)
    refine T_aload_n dX9_setPrime_33 rfl ?_
    refine T_getfield dX9_setPrime_34 zkf_10_59 ((fr30 _ (by omega)).trans ((fr23 _ (by omega)).trans o0)) rfl ?_
    refine T_callV dX9_setPrime_37 zkm_10_99 (Or.inl rfl) rfl ((fr30 _ (by omega)).trans ((fr23 _ (by omega)).trans f0)) ⟨Nat.le_of_ble_eq_true rfl, rfl⟩ rfl (Nat.le_of_ble_eq_true rfl) ?_
    refine m_X2_forget ((fr30 _ (by omega)).trans ((fr23 _ (by omega)).trans f0)) (by omega) (fun hh37 f37a fr37 => ?_)
    refine T_iload_n dX9_setPrime_40 rfl ?_
    refine T_iret dX9_setPrime_41 rfl ?_
    have e : s_prime P q = (P.1, (q, 0, P.2.2.1, P.2.2.2.1, fun _ => 0)) := by unfold s_prime; rw [k1a]; rfl
    rw [e] at hQ
    exact hQ _ ⟨((fr37 _ (by omega)).trans ((fr30 _ (by omega)).trans ((fr23 _ (by omega)).trans o0))), ⟨xs, ys, ((fr37 _ (by omega)).trans ((fr30 _ (by omega)).trans f23a)), ((fr37 _ (by omega)).trans ((fr30 _ (by omega)).trans ((fr23 _ (by omega)).trans p1))), ((fr37 _ (by omega)).trans ((fr30 _ (by omega)).trans ((fr23 _ (by omega)).trans p2))), fun k hk => absurd hk (Nat.not_lt_zero k)⟩, ⟨_, ((fr37 _ (by omega)).trans ((fr30 _ (by omega)).trans ((fr23 _ (by omega)).trans c0))), ((fr37 _ (by omega)).trans f30a), fun m hm => k30a m hm⟩, (gsp.frame (fun q a1 a2 => ((fr37 _ (by omega)).trans (((fr30 _ (by omega)).trans (((fr23 _ (by omega)).trans (rfl)))))))), (gsc.frame (fun q a1 a2 => ((fr37 _ (by omega)).trans (((fr30 _ (by omega)).trans (((fr23 _ (by omega)).trans (rfl)))))))), (gw.frame (fun q a1 a2 => ((fr37 _ (by omega)).trans (((fr30 _ (by omega)).trans (((fr23 _ (by omega)).trans (rfl)))))))), (gFan.fresh f37a (gf.co.frame (Nat.le_refl _) (by exact ((fr37 _ (by omega)).trans (((fr30 _ (by omega)).trans (((fr23 _ (by omega)).trans (rfl))))))) (fun i hi q a1 a2 => by have := gcb i hi; exact ((fr37 _ (by omega)).trans (((fr30 _ (by omega)).trans (((fr23 _ (by omega)).trans (rfl))))))))), (gi.frame (fun q a1 a2 => ((fr37 _ (by omega)).trans (((fr30 _ (by omega)).trans (((fr23 _ (by omega)).trans (rfl)))))))), (go.frame (Nat.le_refl _) (by exact ((fr37 _ (by omega)).trans (((fr30 _ (by omega)).trans (((fr23 _ (by omega)).trans (rfl))))))) (by exact ((fr37 _ (by omega)).trans (((fr30 _ (by omega)).trans (((fr23 _ (by omega)).trans (rfl)))))))), (gl.frame (fun q a1 a2 => ((fr37 _ (by omega)).trans (((fr30 _ (by omega)).trans (((fr23 _ (by omega)).trans (rfl)))))))), gsep, hlo⟩ (fun q a1 => ((fr37 _ (by omega)).trans (((fr30 _ (by omega)).trans (((fr23 _ (by omega)).trans (rfl)))))))
  · refine T_if_ne dX9_setPrime_4 (t := 10) rfl (fun hc => absurd hc (by decide)) (fun _ => ?_)
    refine T_bipush dX9_setPrime_7 (by decide) ?_
    refine T_iret dX9_setPrime_9 rfl ?_
    have e : s_prime P q = (-2, P) := by unfold s_prime; rw [k1a_2]; rfl
    rw [e] at hQ
    exact hQ h hcl (fun _ _ => rfl)
set_option maxHeartbeats 4000000 in
set_option maxRecDepth 100000 in
theorem m_X9_prime {n0 n k : Nat} {g : Nat → zV} {h : zHp} {Q : Option zV → Nat → Nat → zHp → Prop} {B lo : Nat} {P : pT} {L : lT} {I O : tT} {V : Int × pT} {nb vb N : Nat} {cb : Nat → Nat} (hP : pwf P) (hL : lwf L) (hI : iwf I) (hO : owf O) (hV : vwf V) (hB : n0 ≤ B) (hcl : clAt h B lo n P L I O V nb cb vb N) (hQ : Q (some (.inl P.1)) n k h) : ZT n0 g mX9_prime 0 (zloc mX9_prime [.inr (some B)]) [] n k h Q := by
  show ZT n0 g mX9_prime 0 [some (.inr (some B))] [] n k h Q
  obtain ⟨o0, gp, gc, gsp, gsc, gw, gf, gi, go, gl, gsep, hlo⟩ := id hcl
  have hpb := hP.bd
  have gvb := go.vb
  have gcb := gf.co.2.2.1
  obtain ⟨xs, ys, p0, p1, p2, p3⟩ := id gp
  refine T_aload_n dX9_prime_0 rfl ?_
  refine T_getfield dX9_prime_1 zkf_10_12 o0 rfl ?_
  refine T_getfield dX9_prime_4 zkf_10_88 p0 rfl ?_
  refine T_iret dX9_prime_7 rfl ?_
  exact hQ
set_option maxHeartbeats 4000000 in
set_option maxRecDepth 100000 in
theorem m_X9_addPoint {n0 n k : Nat} {g : Nat → zV} {h : zHp} {Q : Option zV → Nat → Nat → zHp → Prop} {B lo : Nat} {P : pT} {L : lT} {I O : tT} {V : Int × pT} {nb vb N : Nat} {cb : Nat → Nat} {x y : Int} (hP : pwf P) (hL : lwf L) (hI : iwf I) (hO : owf O) (hV : vwf V) (hB : n0 ≤ B) (hcl : clAt h B lo n P L I O V nb cb vb N) (hQ : ∀  (h' : zHp), (clAt h' B lo n (s_add P x y).2 L I O V nb cb vb N) → (∀ q : Nat, (q < B ∨ (B + 396 ≤ q ∧ q < lo)) → h' q = h q) → Q (some (.inl ((s_add P x y).1))) n k h') : ZT n0 g mX9_addPoint 0 (zloc mX9_addPoint [.inr (some B), .inl x, .inl y]) [] n k h Q := by
  show ZT n0 g mX9_addPoint 0 [some (.inr (some B)), some (.inl x), some (.inl y)] [] n k h Q
  obtain ⟨o0, gp, gc, gsp, gsc, gw, gf, gi, go, gl, gsep, hlo⟩ := id hcl
  have hpb := hP.bd
  have gvb := go.vb
  have gcb := gf.co.2.2.1
  obtain ⟨xs, ys, p0, p1, p2, p3⟩ := id gp
  obtain ⟨sz, f0, f1, f2⟩ := id gf
  refine T_aload_n dX9_addPoint_0 rfl ?_
  refine T_getfield dX9_addPoint_1 zkf_10_12 o0 rfl ?_
  refine T_iload_n dX9_addPoint_4 rfl ?_
  refine T_callV dX9_addPoint_5 zkm_10_102 (Or.inl rfl) rfl p0 ⟨Nat.le_of_ble_eq_true rfl, rfl⟩ rfl (Nat.le_of_ble_eq_true rfl) ?_
  refine m_X5_isResidue p0  (fun k5a => ?_) (fun k5a_2 => ?_)
  · refine T_if_eq dX9_addPoint_8 (t := 22) rfl (fun hc => absurd hc (by decide)) (fun _ => ?_)
    refine T_aload_n dX9_addPoint_11 rfl ?_
    refine T_getfield dX9_addPoint_12 zkf_10_12 o0 rfl ?_
    refine T_iload_n dX9_addPoint_15 rfl ?_
    refine T_callV dX9_addPoint_16 zkm_10_102 (Or.inl rfl) rfl p0 ⟨Nat.le_of_ble_eq_true rfl, rfl⟩ rfl (Nat.le_of_ble_eq_true rfl) ?_
    refine m_X5_isResidue p0  (fun k16a => ?_) (fun k16a_2 => ?_)
    · refine T_if_ne dX9_addPoint_19 (t := 25) rfl (fun _ => ?_) (fun hc => absurd hc (by decide))
      refine T_aload_n dX9_addPoint_25 rfl ?_
      refine T_getfield dX9_addPoint_26 zkf_10_12 o0 rfl ?_
      refine T_iload_n dX9_addPoint_29 rfl ?_
      refine T_iload_n dX9_addPoint_30 rfl ?_
      refine T_callV dX9_addPoint_31 zkm_10_105 (Or.inl rfl) rfl p0 ⟨Nat.le_of_ble_eq_true rfl, rfl⟩ rfl (Nat.le_of_ble_eq_true rfl) ?_
      refine m_X5_holds p0 p1 p2 hP.2.1 (fun k31a => ?_) (fun k31a_2 => ?_)
      · refine T_if_eq dX9_addPoint_34 (t := 40) rfl (fun hc => absurd hc (by decide)) (fun _ => ?_)
        refine T_bipush dX9_addPoint_37 (by decide) ?_
        refine T_iret dX9_addPoint_39 rfl ?_
        have hh : zhas P x y = true := by
          obtain ⟨j, hj, e1, e2⟩ := k31a
          exact zhas_iff.mpr ⟨j, hj, by rw [← (p3 j hj).1]; exact e1, by rw [← (p3 j hj).2]; exact e2⟩
        have e : s_add P x y = (-3, P) := by unfold s_add; rw [if_pos ⟨k5a, k16a⟩, hh]; rfl
        rw [e] at hQ
        exact hQ h hcl (fun _ _ => rfl)
      · refine T_if_eq dX9_addPoint_34 (t := 40) rfl (fun _ => ?_) (fun hc => absurd hc (by decide))
        refine T_aload_n dX9_addPoint_40 rfl ?_
        refine T_getfield dX9_addPoint_41 zkf_10_12 o0 rfl ?_
        have hs8 := hP.2.1
        refine T_getfield dX9_addPoint_44 zkf_10_109 p0 rfl ?_
        refine T_bipush dX9_addPoint_47 (by decide) ?_
        refine T_icmp_lt dX9_addPoint_49 (t := 55) rfl (fun c49 => ?_) (fun c49 => ?_)
        · refine T_aload_n dX9_addPoint_55 rfl ?_
          refine T_getfield dX9_addPoint_56 zkf_10_12 o0 rfl ?_
          refine T_iload_n dX9_addPoint_59 rfl ?_
          refine T_iload_n dX9_addPoint_60 rfl ?_
          refine T_callV dX9_addPoint_61 zkm_10_112 (Or.inl rfl) rfl p0 ⟨Nat.le_of_ble_eq_true rfl, rfl⟩ rfl (Nat.le_of_ble_eq_true rfl) ?_
          refine m_X5_append p0 p1 p2 (by omega) (by omega) (fun hh61 f61a f61b f61c fr61 => ?_)
          refine T_aload_n dX9_addPoint_64 rfl ?_
          refine T_getfield dX9_addPoint_65 zkf_10_59 ((fr61 _ (by omega) (by omega) (by omega)).trans o0) rfl ?_
          refine T_callV dX9_addPoint_68 zkm_10_99 (Or.inl rfl) rfl ((fr61 _ (by omega) (by omega) (by omega)).trans f0) ⟨Nat.le_of_ble_eq_true rfl, rfl⟩ rfl (Nat.le_of_ble_eq_true rfl) ?_
          refine m_X2_forget ((fr61 _ (by omega) (by omega) (by omega)).trans f0) (by omega) (fun hh68 f68a fr68 => ?_)
          refine T_aload_n dX9_addPoint_71 rfl ?_
          refine T_getfield dX9_addPoint_72 zkf_10_12 ((fr68 _ (by omega)).trans ((fr61 _ (by omega) (by omega) (by omega)).trans o0)) rfl ?_
          refine T_getfield dX9_addPoint_75 zkf_10_109 ((fr68 _ (by omega)).trans f61a) rfl ?_
          refine T_iret dX9_addPoint_78 rfl ?_
          have hh : zhas P x y = false := zhas_f (fun j hj q => k31a_2 j hj ⟨by rw [(p3 j hj).1]; exact q.1, by rw [(p3 j hj).2]; exact q.2⟩)
          have e : s_add P x y = ((P.2.1 : Int) + 1, (P.1, P.2.1 + 1, zfu P.2.2.1 P.2.1 x, zfu P.2.2.2.1 P.2.1 y, P.2.2.2.2)) := by unfold s_add; rw [if_pos ⟨k5a, k16a⟩, hh, cond_false, if_neg (by omega)]
          rw [e] at hQ
          exact hQ _ ⟨((fr68 _ (by omega)).trans ((fr61 _ (by omega) (by omega) (by omega)).trans o0)), ⟨_, _, ((fr68 _ (by omega)).trans f61a), ((fr68 _ (by omega)).trans f61b), ((fr68 _ (by omega)).trans f61c), fun k hk => ⟨by
            by_cases e9 : k = P.2.1
            · rw [e9, zfu_self]; exact zfu_self.symm
            · rw [zfu_ne e9]; exact (p3 k (by have : k < P.2.1 + 1 := hk; omega)).1.trans (zfu_ne e9).symm, by
            by_cases e9 : k = P.2.1
            · rw [e9, zfu_self]; exact zfu_self.symm
            · rw [zfu_ne e9]; exact (p3 k (by have : k < P.2.1 + 1 := hk; omega)).2.trans (zfu_ne e9).symm⟩⟩, (gc.frame (fun q a1 a2 => ((fr68 _ (by omega)).trans (((fr61 _ (by omega) (by omega) (by omega)).trans (rfl)))))), (gsp.frame (fun q a1 a2 => ((fr68 _ (by omega)).trans (((fr61 _ (by omega) (by omega) (by omega)).trans (rfl)))))), (gsc.frame (fun q a1 a2 => ((fr68 _ (by omega)).trans (((fr61 _ (by omega) (by omega) (by omega)).trans (rfl)))))), (gw.frame (fun q a1 a2 => ((fr68 _ (by omega)).trans (((fr61 _ (by omega) (by omega) (by omega)).trans (rfl)))))), (gFan.fresh f68a (gf.co.frame (Nat.le_refl _) (by exact ((fr68 _ (by omega)).trans (((fr61 _ (by omega) (by omega) (by omega)).trans (rfl))))) (fun i hi q a1 a2 => by have := gcb i hi; exact ((fr68 _ (by omega)).trans (((fr61 _ (by omega) (by omega) (by omega)).trans (rfl))))))), (gi.frame (fun q a1 a2 => ((fr68 _ (by omega)).trans (((fr61 _ (by omega) (by omega) (by omega)).trans (rfl)))))), (go.frame (Nat.le_refl _) (by exact ((fr68 _ (by omega)).trans (((fr61 _ (by omega) (by omega) (by omega)).trans (rfl))))) (by exact ((fr68 _ (by omega)).trans (((fr61 _ (by omega) (by omega) (by omega)).trans (rfl)))))), (gl.frame (fun q a1 a2 => ((fr68 _ (by omega)).trans (((fr61 _ (by omega) (by omega) (by omega)).trans (rfl)))))), gsep, hlo⟩ (fun q a1 => ((fr68 _ (by omega)).trans (((fr61 _ (by omega) (by omega) (by omega)).trans (rfl)))))
        · refine T_bipush dX9_addPoint_52 (by decide) ?_
          refine T_iret dX9_addPoint_54 rfl ?_
          have hh : zhas P x y = false := zhas_f (fun j hj q => k31a_2 j hj ⟨by rw [(p3 j hj).1]; exact q.1, by rw [(p3 j hj).2]; exact q.2⟩)
          have e : s_add P x y = (-4, P) := by unfold s_add; rw [if_pos ⟨k5a, k16a⟩, hh, cond_false, if_pos (by omega)]
          rw [e] at hQ
          exact hQ h hcl (fun _ _ => rfl)
    · refine T_if_ne dX9_addPoint_19 (t := 25) rfl (fun hc => absurd hc (by decide)) (fun _ => ?_)
      refine T_bipush dX9_addPoint_22 (by decide) ?_
      refine T_iret dX9_addPoint_24 rfl ?_
      have e : s_add P x y = (-2, P) := by unfold s_add; rw [if_neg (by omega)]
      rw [e] at hQ
      exact hQ h hcl (fun _ _ => rfl)
  · refine T_if_eq dX9_addPoint_8 (t := 22) rfl (fun _ => ?_) (fun hc => absurd hc (by decide))
    refine T_bipush dX9_addPoint_22 (by decide) ?_
    refine T_iret dX9_addPoint_24 rfl ?_
    have e : s_add P x y = (-2, P) := by unfold s_add; rw [if_neg (by omega)]
    rw [e] at hQ
    exact hQ h hcl (fun _ _ => rfl)
set_option maxHeartbeats 4000000 in
set_option maxRecDepth 100000 in
theorem m_X9_pointCount {n0 n k : Nat} {g : Nat → zV} {h : zHp} {Q : Option zV → Nat → Nat → zHp → Prop} {B lo : Nat} {P : pT} {L : lT} {I O : tT} {V : Int × pT} {nb vb N : Nat} {cb : Nat → Nat} (hP : pwf P) (hL : lwf L) (hI : iwf I) (hO : owf O) (hV : vwf V) (hB : n0 ≤ B) (hcl : clAt h B lo n P L I O V nb cb vb N) (hQ : Q (some (.inl (P.2.1 : Int))) n k h) : ZT n0 g mX9_pointCount 0 (zloc mX9_pointCount [.inr (some B)]) [] n k h Q := by
  show ZT n0 g mX9_pointCount 0 [some (.inr (some B))] [] n k h Q
  obtain ⟨o0, gp, gc, gsp, gsc, gw, gf, gi, go, gl, gsep, hlo⟩ := id hcl
  have hpb := hP.bd
  have gvb := go.vb
  have gcb := gf.co.2.2.1
  obtain ⟨xs, ys, p0, p1, p2, p3⟩ := id gp
  refine T_aload_n dX9_pointCount_0 rfl ?_
  refine T_getfield dX9_pointCount_1 zkf_10_12 o0 rfl ?_
  refine T_getfield dX9_pointCount_4 zkf_10_109 p0 rfl ?_
  refine T_iret dX9_pointCount_7 rfl ?_
  exact hQ
