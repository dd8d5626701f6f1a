/-! ===== GroebnerFan$Points: printed by wip/whole/gen/s_points.py ===== -/
set_option maxHeartbeats 4000000 in
set_option maxRecDepth 100000 in
theorem m_X5_isResidue {n0 n k : Nat} {g : Nat → zV} {h : zHp} {Q : Option zV → Nat → Nat → zHp → Prop} {b s : Nat} {p : Int} {x : Int} (hP0 : h b = some (.inl (6, [.inl p, .inl (s : Int), .inr (some (b + 1)), .inr (some (b + 2))]))) (hT : (0 ≤ x ∧ x < p) → Q (some (.inl 1)) n k h) (hF : (¬ (0 ≤ x ∧ x < p)) → Q (some (.inl 0)) n k h) : ZT n0 g mX5_isResidue 0 (zloc mX5_isResidue [.inr (some b), .inl x]) [] n k h Q := by
  show ZT n0 g mX5_isResidue 0 [some (.inr (some b)), some (.inl x)] [] n k h Q
  refine T_iload_n dX5_isResidue_0 rfl ?_
  refine T_if_lt dX5_isResidue_1 (t := 16) rfl (fun c1 => ?_) (fun c1 => ?_)
  · refine T_iconst dX5_isResidue_16 (by decide) ?_
    refine T_iret dX5_isResidue_17 rfl ?_
    exact hF (by omega)
  · refine T_iload_n dX5_isResidue_4 rfl ?_
    refine T_aload_n dX5_isResidue_5 rfl ?_
    refine T_getfield dX5_isResidue_6 zkf_6_9 hP0 rfl ?_
    refine T_icmp_ge dX5_isResidue_9 (t := 16) rfl (fun c9 => ?_) (fun c9 => ?_)
    · refine T_iconst dX5_isResidue_16 (by decide) ?_
      refine T_iret dX5_isResidue_17 rfl ?_
      exact hF (by omega)
    · refine T_iconst dX5_isResidue_12 (by decide) ?_
      refine T_goto dX5_isResidue_13 (t := 17) rfl ?_
      refine T_iret dX5_isResidue_17 rfl ?_
      exact hT (by omega)
set_option maxHeartbeats 4000000 in
set_option maxRecDepth 100000 in
theorem m_X5_holds_2 {n0 n k : Nat} {g : Nat → zV} {h : zHp} {Q : Option zV → Nat → Nat → zHp → Prop} {b s : Nat} {p : Int} {xs ys : Nat → Int} {x y : Int} (hP0 : h b = some (.inl (6, [.inl p, .inl (s : Int), .inr (some (b + 1)), .inr (some (b + 2))]))) (hP1 : h (b + 1) = some (.inr (.inl (0, 8, xs)))) (hP2 : h (b + 2) = some (.inr (.inl (0, 8, ys)))) (hs : s ≤ 8) (hT : (∃ j, j < s ∧ xs j = x ∧ ys j = y) → Q (some (.inl 1)) n k h) (hF : (∀ j, j < s → ¬ (xs j = x ∧ ys j = y)) → Q (some (.inl 0)) n k h) : ∀ (d : Nat) (j : Nat), s - j = d → (j ≤ s) → (∀ i, i < j → ¬ (xs i = x ∧ ys i = y)) → ZT n0 g mX5_holds 2 [some (.inr (some b)), some (.inl x), some (.inl y), some (.inl (j : Int))] [] n k h Q := by
  intro d
  induction d using Nat.strongRecOn with | _ d ih => ?_
  intro j hd0 hj hn
  subst hd0
  refine T_iload_n dX5_holds_2 rfl ?_
  refine T_aload_n dX5_holds_3 rfl ?_
  refine T_getfield dX5_holds_4 zkf_6_15 hP0 rfl ?_
  refine T_icmp_ge dX5_holds_7 (t := 38) rfl (fun c7 => ?_) (fun c7 => ?_)
  · refine T_iconst dX5_holds_38 (by decide) ?_
    refine T_iret dX5_holds_39 rfl ?_
    exact hF (fun i hi => hn i (by omega))
  · refine T_aload_n dX5_holds_10 rfl ?_
    refine T_getfield dX5_holds_11 zkf_6_18 hP0 rfl ?_
    refine T_iload_n dX5_holds_14 rfl ?_
    refine T_ialoadN (m := j) dX5_holds_15 hP1 rfl (by omega) ?_
    refine T_iload_n dX5_holds_16 rfl ?_
    refine T_icmp_ne dX5_holds_17 (t := 32) rfl (fun c17 => ?_) (fun c17 => ?_)
    · refine T_iinc dX5_holds_32 rfl ⟨by omega, by omega⟩ ?_
      refine T_goto dX5_holds_35 (t := 2) rfl ?_
      exact ih _ (by omega) (j + 1) rfl  (by omega) (fun i hi => by
            by_cases e : i = j
            · subst e; omega
            · exact hn i (by omega)) 
    · refine T_aload_n dX5_holds_20 rfl ?_
      refine T_getfield dX5_holds_21 zkf_6_22 hP0 rfl ?_
      refine T_iload_n dX5_holds_24 rfl ?_
      refine T_ialoadN (m := j) dX5_holds_25 hP2 rfl (by omega) ?_
      refine T_iload_n dX5_holds_26 rfl ?_
      refine T_icmp_ne dX5_holds_27 (t := 32) rfl (fun c27 => ?_) (fun c27 => ?_)
      · refine T_iinc dX5_holds_32 rfl ⟨by omega, by omega⟩ ?_
        refine T_goto dX5_holds_35 (t := 2) rfl ?_
        exact ih _ (by omega) (j + 1) rfl  (by omega) (fun i hi => by
              by_cases e : i = j
              · subst e; omega
              · exact hn i (by omega)) 
      · refine T_iconst dX5_holds_30 (by decide) ?_
        refine T_iret dX5_holds_31 rfl ?_
        exact hT ⟨j, by omega, by omega, by omega⟩
set_option maxHeartbeats 4000000 in
set_option maxRecDepth 100000 in
theorem m_X5_holds {n0 n k : Nat} {g : Nat → zV} {h : zHp} {Q : Option zV → Nat → Nat → zHp → Prop} {b s : Nat} {p : Int} {xs ys : Nat → Int} {x y : Int} (hP0 : h b = some (.inl (6, [.inl p, .inl (s : Int), .inr (some (b + 1)), .inr (some (b + 2))]))) (hP1 : h (b + 1) = some (.inr (.inl (0, 8, xs)))) (hP2 : h (b + 2) = some (.inr (.inl (0, 8, ys)))) (hs : s ≤ 8) (hT : (∃ j, j < s ∧ xs j = x ∧ ys j = y) → Q (some (.inl 1)) n k h) (hF : (∀ j, j < s → ¬ (xs j = x ∧ ys j = y)) → Q (some (.inl 0)) n k h) : ZT n0 g mX5_holds 0 (zloc mX5_holds [.inr (some b), .inl x, .inl y]) [] n k h Q := by
  show ZT n0 g mX5_holds 0 [some (.inr (some b)), some (.inl x), some (.inl y), none] [] n k h Q
  refine T_iconst dX5_holds_0 (by decide) ?_
  refine T_istore_n dX5_holds_1 (Nat.le_of_ble_eq_true rfl) ?_
  exact m_X5_holds_2 hP0 hP1 hP2 hs hT hF _ 0 rfl  (by omega) (fun i hi => absurd hi (Nat.not_lt_zero i)) 
set_option maxHeartbeats 4000000 in
set_option maxRecDepth 100000 in
theorem m_X5_append {n0 n k : Nat} {g : Nat → zV} {h : zHp} {Q : Option zV → Nat → Nat → zHp → Prop} {b s : Nat} {p : Int} {xs ys : Nat → Int} {x y : Int} (hP0 : h b = some (.inl (6, [.inl p, .inl (s : Int), .inr (some (b + 1)), .inr (some (b + 2))]))) (hP1 : h (b + 1) = some (.inr (.inl (0, 8, xs)))) (hP2 : h (b + 2) = some (.inr (.inl (0, 8, ys)))) (hs : s < 8) (hw : n0 ≤ b) (hQ : ∀  (h' : zHp), h' b = some (.inl (6, [.inl p, .inl ((s : Int) + 1), .inr (some (b + 1)), .inr (some (b + 2))])) → h' (b + 1) = some (.inr (.inl (0, 8, (zfu xs s x)))) → h' (b + 2) = some (.inr (.inl (0, 8, (zfu ys s y)))) → (∀ q : Nat, q ≠ b → q ≠ (b + 1) → q ≠ (b + 2) → h' q = h q) → Q none n k h') : ZT n0 g mX5_append 0 (zloc mX5_append [.inr (some b), .inl x, .inl y]) [] n k h Q := by
  show ZT n0 g mX5_append 0 [some (.inr (some b)), some (.inl x), some (.inl y)] [] n k h Q
  refine T_aload_n dX5_append_0 rfl ?_
  refine T_getfield dX5_append_1 zkf_6_15 hP0 rfl ?_
  refine T_bipush dX5_append_4 (by decide) ?_
  refine T_icmp_ge dX5_append_6 (t := 39) rfl (fun hc => absurd hc (by omega)) (fun _ => ?_)
  refine T_aload_n dX5_append_9 rfl ?_
  refine T_getfield dX5_append_10 zkf_6_18 hP0 rfl ?_
  refine T_aload_n dX5_append_13 rfl ?_
  refine T_getfield dX5_append_14 zkf_6_15 hP0 rfl ?_
  refine T_iload_n dX5_append_17 rfl ?_
  refine T_iastoreN (m := s) dX5_append_18 hP1 rfl (by omega) (by omega) ?_
  refine T_aload_n dX5_append_19 rfl ?_
  refine T_getfield dX5_append_20 zkf_6_22 (zup_ne (by omega) hP0) rfl ?_
  refine T_aload_n dX5_append_23 rfl ?_
  refine T_getfield dX5_append_24 zkf_6_15 (zup_ne (by omega) hP0) rfl ?_
  refine T_iload_n dX5_append_27 rfl ?_
  refine T_iastoreN (m := s) dX5_append_28 (zup_ne (by omega) hP2) rfl (by omega) (by omega) ?_
  refine T_aload_n dX5_append_29 rfl ?_
  refine T_dup dX5_append_30 ?_
  refine T_getfield dX5_append_31 zkf_6_15 (zup_ne (by omega) (zup_ne (by omega) hP0)) rfl ?_
  refine T_iconst dX5_append_34 (by decide) ?_
  refine T_iadd dX5_append_35 ⟨by omega, by omega⟩ ?_
  refine T_putfield dX5_append_36 zkf_6_15 (zup_ne (by omega) (zup_ne (by omega) hP0)) (Nat.le_of_ble_eq_true rfl) (by omega) rfl (fun hf => absurd hf (by decide)) rfl ?_
  refine T_vret dX5_append_39 rfl ?_
  exact hQ _ zup_self (zup_ne (by omega) (zup_ne (by omega) zup_self)) (zup_ne (by omega) zup_self) (fun q q0 q1 q2 => ((zup_nf q0).trans ((zup_nf q2).trans ((zup_nf q1).trans rfl))))
set_option maxHeartbeats 4000000 in
set_option maxRecDepth 100000 in
theorem m_X5_power_5 {n0 n k : Nat} {g : Nat → zV} {h : zHp} {Q : Option zV → Nat → Nat → zHp → Prop} {b s : Nat} {p x : Int} {e : Nat} (hP0 : h b = some (.inl (6, [.inl p, .inl (s : Int), .inr (some (b + 1)), .inr (some (b + 2))]))) (hp : 1 < p ∧ p < 32) (hx : 0 ≤ x ∧ x < p) (he : e ≤ 8) (hQ : Q (some (.inl (zpow p x e))) n k h) : ∀ (d : Nat) (j : Nat) (w : Int), e - j = d → (j ≤ e) → (w = zpow p x j) → ZT n0 g mX5_power 5 [some (.inr (some b)), some (.inl x), some (.inl (e : Int)), some (.inl w), some (.inl (j : Int))] [] n k h Q := by
  intro d
  induction d using Nat.strongRecOn with | _ d ih => ?_
  intro j w hd0 hj hw
  subst hd0
  have hb := zpow_bd (b := x) hp.1 j
  rw [← hw] at hb
  refine T_iload dX5_power_5 rfl ?_
  refine T_iload_n dX5_power_7 rfl ?_
  refine T_icmp_ge dX5_power_8 (t := 26) rfl (fun c8 => ?_) (fun c8 => ?_)
  · refine T_iload_n dX5_power_26 rfl ?_
    refine T_iret dX5_power_27 rfl ?_
    rw [hw, show j = e by omega]
    exact hQ
  · refine T_iload_n dX5_power_11 rfl ?_
    refine T_iload_n dX5_power_12 rfl ?_
    have mw := zmul_le hb.1 (show w ≤ 32 by omega) hx.1 (show x ≤ 32 by omega)
    refine T_imul dX5_power_13 (zmulR (by omega) (by omega) (by omega) (by omega)) ?_
    refine T_aload_n dX5_power_14 rfl ?_
    refine T_getfield dX5_power_15 zkf_6_9 hP0 rfl ?_
    refine T_iremN dX5_power_18 ⟨by omega, by omega⟩ (by omega) ?_
    have r18 := zmod_bd (w * x) p (by omega)
    refine T_istore_n dX5_power_19 (Nat.le_of_ble_eq_true rfl) ?_
    refine T_iinc dX5_power_20 rfl ⟨by omega, by omega⟩ ?_
    refine T_goto dX5_power_23 (t := 5) rfl ?_
    exact ih _ (by omega) (j + 1) ((w * x) % p) rfl  (by omega) (by rw [hw]; rfl) 
set_option maxHeartbeats 4000000 in
set_option maxRecDepth 100000 in
theorem m_X5_power {n0 n k : Nat} {g : Nat → zV} {h : zHp} {Q : Option zV → Nat → Nat → zHp → Prop} {b s : Nat} {p x : Int} {e : Nat} (hP0 : h b = some (.inl (6, [.inl p, .inl (s : Int), .inr (some (b + 1)), .inr (some (b + 2))]))) (hp : 1 < p ∧ p < 32) (hx : 0 ≤ x ∧ x < p) (he : e ≤ 8) (hQ : Q (some (.inl (zpow p x e))) n k h) : ZT n0 g mX5_power 0 (zloc mX5_power [.inr (some b), .inl x, .inl (e : Int)]) [] n k h Q := by
  show ZT n0 g mX5_power 0 [some (.inr (some b)), some (.inl x), some (.inl (e : Int)), none, none] [] n k h Q
  refine T_iconst dX5_power_0 (by decide) ?_
  refine T_istore_n dX5_power_1 (Nat.le_of_ble_eq_true rfl) ?_
  refine T_iconst dX5_power_2 (by decide) ?_
  refine T_istore dX5_power_3 (Nat.le_of_ble_eq_true rfl) ?_
  exact m_X5_power_5 hP0 hp hx he hQ _ 0 1 rfl  (by omega) rfl 
set_option maxHeartbeats 4000000 in
set_option maxRecDepth 100000 in
theorem m_X5_inverse_2 {n0 n k : Nat} {g : Nat → zV} {h : zHp} {Q : Option zV → Nat → Nat → zHp → Prop} {b s : Nat} {p v : Int} (hP0 : h b = some (.inl (6, [.inl p, .inl (s : Int), .inr (some (b + 1)), .inr (some (b + 2))]))) (hp : zprime p) (hv : 0 < v ∧ v < p) (hQ : Q (some (.inl (zinv p v))) n k h) : ∀ (d : Nat) (j : Nat), 40 - j = d → (1 ≤ j ∧ (j : Int) ≤ zinv p v) → (∀ i : Nat, 1 ≤ i → i < j → ¬ (i : Int) * v % p = 1) → ZT n0 g mX5_inverse 2 [some (.inr (some b)), some (.inl v), some (.inl (j : Int))] [] n k h Q := by
  intro d
  induction d using Nat.strongRecOn with | _ d ih => ?_
  intro j hd0 hj hn
  subst hd0
  have hpb := hp.bd
  have hz := zinv_spec hp hv.1 hv.2
  refine T_iload_n dX5_inverse_2 rfl ?_
  refine T_aload_n dX5_inverse_3 rfl ?_
  refine T_getfield dX5_inverse_4 zkf_6_9 hP0 rfl ?_
  refine T_icmp_ge dX5_inverse_7 (t := 30) rfl (fun hc => absurd hc (by omega)) (fun _ => ?_)
  refine T_iload_n dX5_inverse_10 rfl ?_
  refine T_iload_n dX5_inverse_11 rfl ?_
  have mw := zmul_le (show (0 : Int) ≤ j by omega) (show (j : Int) ≤ 32 by omega) (show 0 ≤ v by omega) (show v ≤ 32 by omega)
  refine T_imul dX5_inverse_12 (zmulR (by omega) (by omega) (by omega) (by omega)) ?_
  refine T_aload_n dX5_inverse_13 rfl ?_
  refine T_getfield dX5_inverse_14 zkf_6_9 hP0 rfl ?_
  refine T_iremN dX5_inverse_17 ⟨by omega, by omega⟩ (by omega) ?_
  have r17 := zmod_bd ((j : Int) * v) p (by omega)
  refine T_iconst dX5_inverse_18 (by decide) ?_
  refine T_icmp_ne dX5_inverse_19 (t := 24) rfl (fun c19 => ?_) (fun c19 => ?_)
  · refine T_iinc dX5_inverse_24 rfl ⟨by omega, by omega⟩ ?_
    refine T_goto dX5_inverse_27 (t := 2) rfl ?_
    exact ih _ (by omega) (j + 1) rfl  ⟨by omega, by
          by_cases e : (j : Int) = zinv p v
          · rw [e] at c19; exact absurd hz.2.2 c19
          · omega⟩ (fun i a b => by
          by_cases e : i = j
          · subst e; omega
          · exact hn i a (by omega)) 
  · have c19n : (j : Int) * v % p = 1 := Classical.not_not.mp c19
    refine T_iload_n dX5_inverse_22 rfl ?_
    refine T_iret dX5_inverse_23 rfl ?_
    rw [← zinv_of hj.1 (by omega) c19n hn]
    exact hQ
set_option maxHeartbeats 4000000 in
set_option maxRecDepth 100000 in
theorem m_X5_inverse {n0 n k : Nat} {g : Nat → zV} {h : zHp} {Q : Option zV → Nat → Nat → zHp → Prop} {b s : Nat} {p v : Int} (hP0 : h b = some (.inl (6, [.inl p, .inl (s : Int), .inr (some (b + 1)), .inr (some (b + 2))]))) (hp : zprime p) (hv : 0 < v ∧ v < p) (hQ : Q (some (.inl (zinv p v))) n k h) : ZT n0 g mX5_inverse 0 (zloc mX5_inverse [.inr (some b), .inl v]) [] n k h Q := by
  show ZT n0 g mX5_inverse 0 [some (.inr (some b)), some (.inl v), none] [] n k h Q
  have hpb := hp.bd
  refine T_iconst dX5_inverse_0 (by decide) ?_
  refine T_istore_n dX5_inverse_1 (Nat.le_of_ble_eq_true rfl) ?_
  have hz := zinv_spec hp hv.1 hv.2
  exact m_X5_inverse_2 hP0 hp hv hQ _ 1 rfl  (by omega) (fun i a b => by omega) 
set_option maxHeartbeats 4000000 in
set_option maxRecDepth 100000 in
theorem m_X5_monomialAt {n0 n k : Nat} {g : Nat → zV} {h : zHp} {Q : Option zV → Nat → Nat → zHp → Prop} {b s : Nat} {p : Int} {xs ys : Nat → Int} {m i : Nat} (hP0 : h b = some (.inl (6, [.inl p, .inl (s : Int), .inr (some (b + 1)), .inr (some (b + 2))]))) (hP1 : h (b + 1) = some (.inr (.inl (0, 8, xs)))) (hP2 : h (b + 2) = some (.inr (.inl (0, 8, ys)))) (hs : s ≤ 8) (hp : 1 < p ∧ p < 32) (hxs : ∀ j, j < s → 0 ≤ xs j ∧ xs j < p) (hys : ∀ j, j < s → 0 ≤ ys j ∧ ys j < p) (hi : i < s) (hm : m < 81) (hQ : Q (some (.inl (zmon p (xs i) (ys i) m))) n k h) : ZT n0 g mX5_monomialAt 0 (zloc mX5_monomialAt [.inr (some b), .inl (m : Int), .inl (i : Int)]) [] n k h Q := by
  show ZT n0 g mX5_monomialAt 0 [some (.inr (some b)), some (.inl (m : Int)), some (.inl (i : Int))] [] n k h Q
  refine T_aload_n dX5_monomialAt_0 rfl ?_
  refine T_aload_n dX5_monomialAt_1 rfl ?_
  refine T_getfield dX5_monomialAt_2 zkf_6_18 hP0 rfl ?_
  refine T_iload_n dX5_monomialAt_5 rfl ?_
  refine T_ialoadN (m := i) dX5_monomialAt_6 hP1 rfl (by omega) ?_
  have e6 := hxs i (by omega)
  refine T_iload_n dX5_monomialAt_7 rfl ?_
  refine T_bipush dX5_monomialAt_8 (by decide) ?_
  refine T_idivN dX5_monomialAt_10 ⟨by omega, by omega⟩ (by omega) ?_
  refine T_callV dX5_monomialAt_11 zkm_6_41 (Or.inl rfl) rfl hP0 ⟨Nat.le_of_ble_eq_true rfl, rfl⟩ rfl (Nat.le_of_ble_eq_true rfl) ?_
  refine m_X5_power (e := (m / 9)) hP0 (by omega) e6 (by omega) ?_
  refine T_aload_n dX5_monomialAt_14 rfl ?_
  refine T_aload_n dX5_monomialAt_15 rfl ?_
  refine T_getfield dX5_monomialAt_16 zkf_6_22 hP0 rfl ?_
  refine T_iload_n dX5_monomialAt_19 rfl ?_
  refine T_ialoadN (m := i) dX5_monomialAt_20 hP2 rfl (by omega) ?_
  have e20 := hys i (by omega)
  refine T_iload_n dX5_monomialAt_21 rfl ?_
  refine T_bipush dX5_monomialAt_22 (by decide) ?_
  refine T_iremN dX5_monomialAt_24 ⟨by omega, by omega⟩ (by omega) ?_
  refine T_callV dX5_monomialAt_25 zkm_6_41 (Or.inl rfl) rfl hP0 ⟨Nat.le_of_ble_eq_true rfl, rfl⟩ rfl (Nat.le_of_ble_eq_true rfl) ?_
  refine m_X5_power (e := (m % 9)) hP0 (by omega) e20 (by omega) ?_
  have w1 := zpow_bd (b := xs i) hp.1 (m / 9)
  have w2 := zpow_bd (b := ys i) hp.1 (m % 9)
  have w3 := zmul_le w1.1 (show _ ≤ (32 : Int) by omega) w2.1 (show _ ≤ (32 : Int) by omega)
  refine T_imul dX5_monomialAt_28 (zmulR (by omega) (by omega) (by omega) (by omega)) ?_
  refine T_aload_n dX5_monomialAt_29 rfl ?_
  refine T_getfield dX5_monomialAt_30 zkf_6_9 hP0 rfl ?_
  refine T_iremN dX5_monomialAt_33 ⟨by omega, by omega⟩ (by omega) ?_
  have r33 := zmod_bd ((zpow p (xs i) (m / 9)) * (zpow p (ys i) (m % 9))) p (by omega)
  refine T_iret dX5_monomialAt_34 rfl ?_
  exact hQ
set_option maxHeartbeats 4000000 in
set_option maxRecDepth 100000 in
theorem m_X5_restart {n0 n k : Nat} {g : Nat → zV} {h : zHp} {Q : Option zV → Nat → Nat → zHp → Prop} {b s : Nat} {p q : Int} (hP0 : h b = some (.inl (6, [.inl p, .inl (s : Int), .inr (some (b + 1)), .inr (some (b + 2))]))) (hw : n0 ≤ b) (hQ : ∀  (h' : zHp), h' b = some (.inl (6, [.inl q, .inl 0, .inr (some (b + 1)), .inr (some (b + 2))])) → (∀ q : Nat, q ≠ b → h' q = h q) → Q none n k h') : ZT n0 g mX5_restart 0 (zloc mX5_restart [.inr (some b), .inl q]) [] n k h Q := by
  show ZT n0 g mX5_restart 0 [some (.inr (some b)), some (.inl q)] [] n k h Q
  refine T_aload_n dX5_restart_0 rfl ?_
  refine T_iload_n dX5_restart_1 rfl ?_
  refine T_putfield dX5_restart_2 zkf_6_9 hP0 (Nat.le_of_ble_eq_true rfl) (by omega) rfl (fun hf => absurd hf (by decide)) rfl ?_
  refine T_aload_n dX5_restart_5 rfl ?_
  refine T_iconst dX5_restart_6 (by decide) ?_
  refine T_putfield dX5_restart_7 zkf_6_15 zup_self (Nat.le_of_ble_eq_true rfl) (by omega) rfl (fun hf => absurd hf (by decide)) rfl ?_
  refine T_vret dX5_restart_10 rfl ?_
  exact hQ _ zup_self (fun q q0 => ((zup_nf q0).trans ((zup_nf q0).trans rfl)))
