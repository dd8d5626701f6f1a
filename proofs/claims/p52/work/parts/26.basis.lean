/-! ===== Order, ReducedBasis (reads): printed by wip/whole/gen/s_basis.py ===== -/
set_option maxHeartbeats 4000000 in
set_option maxRecDepth 100000 in
theorem m_X4_choose {n0 n k : Nat} {g : Nat → zV} {h : zHp} {Q : Option zV → Nat → Nat → zHp → Prop} {r : Nat} {u v tie u2 v2 t2 : Int} (hOd : h r = some (.inl (5, [.inl u, .inl v, .inl tie]))) (hw : n0 ≤ r) (hQ : ∀  (h' : zHp), h' r = some (.inl (5, [.inl u2, .inl v2, .inl t2])) → (∀ q : Nat, q ≠ r → h' q = h q) → Q none n k h') : ZT n0 g mX4_choose 0 (zloc mX4_choose [.inr (some r), .inl u2, .inl v2, .inl t2]) [] n k h Q := by
  show ZT n0 g mX4_choose 0 [some (.inr (some r)), some (.inl u2), some (.inl v2), some (.inl t2)] [] n k h Q
  refine T_aload_n dX4_choose_0 rfl ?_
  refine T_iload_n dX4_choose_1 rfl ?_
  refine T_putfield dX4_choose_2 zkf_5_9 hOd (Nat.le_of_ble_eq_true rfl) (by omega) rfl (fun hf => absurd hf (by decide)) rfl ?_
  refine T_aload_n dX4_choose_5 rfl ?_
  refine T_iload_n dX4_choose_6 rfl ?_
  refine T_putfield dX4_choose_7 zkf_5_15 zup_self (Nat.le_of_ble_eq_true rfl) (by omega) rfl (fun hf => absurd hf (by decide)) rfl ?_
  refine T_aload_n dX4_choose_10 rfl ?_
  refine T_iload_n dX4_choose_11 rfl ?_
  refine T_putfield dX4_choose_12 zkf_5_18 zup_self (Nat.le_of_ble_eq_true rfl) (by omega) rfl (fun hf => absurd hf (by decide)) rfl ?_
  refine T_vret dX4_choose_15 rfl ?_
  exact hQ _ zup_self (fun q q0 => ((zup_nf q0).trans ((zup_nf q0).trans ((zup_nf q0).trans rfl))))
set_option maxHeartbeats 4000000 in
set_option maxRecDepth 100000 in
theorem m_X4_weightOf {n0 n k : Nat} {g : Nat → zV} {h : zHp} {Q : Option zV → Nat → Nat → zHp → Prop} {r : Nat} {u v tie : Int} {m : Nat} (hOd : h r = some (.inl (5, [.inl u, .inl v, .inl tie]))) (huv : 0 ≤ u ∧ u ≤ 99 ∧ 0 ≤ v ∧ v ≤ 99) (hm : m < 81) (hQ : Q (some (.inl (zwt u v m))) n k h) : ZT n0 g mX4_weightOf 0 (zloc mX4_weightOf [.inr (some r), .inl (m : Int)]) [] n k h Q := by
  show ZT n0 g mX4_weightOf 0 [some (.inr (some r)), some (.inl (m : Int))] [] n k h Q
  refine T_aload_n dX4_weightOf_0 rfl ?_
  refine T_getfield dX4_weightOf_1 zkf_5_9 hOd rfl ?_
  refine T_iload_n dX4_weightOf_4 rfl ?_
  refine T_bipush dX4_weightOf_5 (by decide) ?_
  refine T_idivN dX4_weightOf_7 ⟨by omega, by omega⟩ (by omega) ?_
  have m1 := zmul_le huv.1 huv.2.1 (show (0 : Int) ≤ (m : Int) / 9 by omega) (show (m : Int) / 9 ≤ 8 by omega)
  refine T_imul dX4_weightOf_8 (zmulR (by omega) (by omega) (by omega) (by omega)) ?_
  refine T_aload_n dX4_weightOf_9 rfl ?_
  refine T_getfield dX4_weightOf_10 zkf_5_15 hOd rfl ?_
  refine T_iload_n dX4_weightOf_13 rfl ?_
  refine T_bipush dX4_weightOf_14 (by decide) ?_
  refine T_iremN dX4_weightOf_16 ⟨by omega, by omega⟩ (by omega) ?_
  have m2 := zmul_le huv.2.2.1 huv.2.2.2 (show (0 : Int) ≤ (m : Int) % 9 by omega) (show (m : Int) % 9 ≤ 8 by omega)
  refine T_imul dX4_weightOf_17 (zmulR (by omega) (by omega) (by omega) (by omega)) ?_
  refine T_iadd dX4_weightOf_18 ⟨by omega, by omega⟩ ?_
  refine T_iret dX4_weightOf_19 rfl ?_
  exact hQ
set_option maxHeartbeats 4000000 in
set_option maxRecDepth 100000 in
theorem m_X4_isSmaller {n0 n k : Nat} {g : Nat → zV} {h : zHp} {Q : Option zV → Nat → Nat → zHp → Prop} {r : Nat} {u v tie : Int} {a c : Nat} (hOd : h r = some (.inl (5, [.inl u, .inl v, .inl tie]))) (huv : 0 ≤ u ∧ u ≤ 99 ∧ 0 ≤ v ∧ v ≤ 99) (ha : a < 81 ∧ c < 81) (hT : (zlt u v tie a c) → Q (some (.inl 1)) n k h) (hF : (¬ zlt u v tie a c) → Q (some (.inl 0)) n k h) : ZT n0 g mX4_isSmaller 0 (zloc mX4_isSmaller [.inr (some r), .inl (a : Int), .inl (c : Int)]) [] n k h Q := by
  show ZT n0 g mX4_isSmaller 0 [some (.inr (some r)), some (.inl (a : Int)), some (.inl (c : Int)), none, none] [] n k h Q
  have wb : ∀ m : Nat, m < 81 → 0 ≤ zwt u v m ∧ zwt u v m ≤ 2000 := fun m hm => by
    have m1 := zmul_le huv.1 huv.2.1 (show (0 : Int) ≤ ((m / 9 : Nat) : Int) by omega) (show ((m / 9 : Nat) : Int) ≤ 8 by omega)
    have m2 := zmul_le huv.2.2.1 huv.2.2.2 (show (0 : Int) ≤ ((m % 9 : Nat) : Int) by omega) (show ((m % 9 : Nat) : Int) ≤ 8 by omega)
    unfold zwt
    omega
  have wa := wb a ha.1
  have wc := wb c ha.2
  refine T_aload_n dX4_isSmaller_0 rfl ?_
  refine T_iload_n dX4_isSmaller_1 rfl ?_
  refine T_callV dX4_isSmaller_2 zkm_5_21 (Or.inl rfl) rfl hOd ⟨Nat.le_of_ble_eq_true rfl, rfl⟩ rfl (Nat.le_of_ble_eq_true rfl) ?_
  refine m_X4_weightOf hOd (by omega) (by omega) ?_
  refine T_aload_n dX4_isSmaller_5 rfl ?_
  refine T_iload_n dX4_isSmaller_6 rfl ?_
  refine T_callV dX4_isSmaller_7 zkm_5_21 (Or.inl rfl) rfl hOd ⟨Nat.le_of_ble_eq_true rfl, rfl⟩ rfl (Nat.le_of_ble_eq_true rfl) ?_
  refine m_X4_weightOf hOd (by omega) (by omega) ?_
  refine T_isub dX4_isSmaller_10 ⟨by omega, by omega⟩ ?_
  refine T_istore_n dX4_isSmaller_11 (Nat.le_of_ble_eq_true rfl) ?_
  refine T_iload_n dX4_isSmaller_12 rfl ?_
  refine T_if_eq dX4_isSmaller_13 (t := 26) rfl (fun c13 => ?_) (fun c13 => ?_)
  · refine T_iload_n dX4_isSmaller_26 rfl ?_
    refine T_bipush dX4_isSmaller_27 (by decide) ?_
    refine T_iremN dX4_isSmaller_29 ⟨by omega, by omega⟩ (by omega) ?_
    refine T_iload_n dX4_isSmaller_30 rfl ?_
    refine T_bipush dX4_isSmaller_31 (by decide) ?_
    refine T_iremN dX4_isSmaller_33 ⟨by omega, by omega⟩ (by omega) ?_
    refine T_isub dX4_isSmaller_34 ⟨by omega, by omega⟩ ?_
    refine T_istore dX4_isSmaller_35 (Nat.le_of_ble_eq_true rfl) ?_
    refine T_aload_n dX4_isSmaller_37 rfl ?_
    refine T_getfield dX4_isSmaller_38 zkf_5_18 hOd rfl ?_
    refine T_iconst dX4_isSmaller_41 (by decide) ?_
    refine T_icmp_ne dX4_isSmaller_42 (t := 61) rfl (fun c42 => ?_) (fun c42 => ?_)
    · refine T_iload_n dX4_isSmaller_61 rfl ?_
      refine T_iload_n dX4_isSmaller_62 rfl ?_
      refine T_icmp_ge dX4_isSmaller_63 (t := 70) rfl (fun c63 => ?_) (fun c63 => ?_)
      · refine T_iconst dX4_isSmaller_70 (by decide) ?_
        refine T_iret dX4_isSmaller_71 rfl ?_
        exact hF (by unfold zlt; omega)
      · refine T_iconst dX4_isSmaller_66 (by decide) ?_
        refine T_goto dX4_isSmaller_67 (t := 71) rfl ?_
        refine T_iret dX4_isSmaller_71 rfl ?_
        exact hT (by unfold zlt; omega)
    · refine T_iload dX4_isSmaller_45 rfl ?_
      refine T_if_eq dX4_isSmaller_47 (t := 61) rfl (fun c47 => ?_) (fun c47 => ?_)
      · refine T_iload_n dX4_isSmaller_61 rfl ?_
        refine T_iload_n dX4_isSmaller_62 rfl ?_
        refine T_icmp_ge dX4_isSmaller_63 (t := 70) rfl (fun c63 => ?_) (fun c63 => ?_)
        · refine T_iconst dX4_isSmaller_70 (by decide) ?_
          refine T_iret dX4_isSmaller_71 rfl ?_
          exact hF (by unfold zlt; omega)
        · refine T_iconst dX4_isSmaller_66 (by decide) ?_
          refine T_goto dX4_isSmaller_67 (t := 71) rfl ?_
          refine T_iret dX4_isSmaller_71 rfl ?_
          exact hT (by unfold zlt; omega)
      · refine T_iload dX4_isSmaller_50 rfl ?_
        refine T_if_ge dX4_isSmaller_52 (t := 59) rfl (fun c52 => ?_) (fun c52 => ?_)
        · refine T_iconst dX4_isSmaller_59 (by decide) ?_
          refine T_iret dX4_isSmaller_60 rfl ?_
          exact hF (by unfold zlt; omega)
        · refine T_iconst dX4_isSmaller_55 (by decide) ?_
          refine T_goto dX4_isSmaller_56 (t := 60) rfl ?_
          refine T_iret dX4_isSmaller_60 rfl ?_
          exact hT (by unfold zlt; omega)
  · refine T_iload_n dX4_isSmaller_16 rfl ?_
    refine T_if_ge dX4_isSmaller_17 (t := 24) rfl (fun c17 => ?_) (fun c17 => ?_)
    · refine T_iconst dX4_isSmaller_24 (by decide) ?_
      refine T_iret dX4_isSmaller_25 rfl ?_
      exact hF (by unfold zlt; omega)
    · refine T_iconst dX4_isSmaller_20 (by decide) ?_
      refine T_goto dX4_isSmaller_21 (t := 25) rfl ?_
      refine T_iret dX4_isSmaller_25 rfl ?_
      exact hT (by unfold zlt; omega)
set_option maxHeartbeats 4000000 in
set_option maxRecDepth 100000 in
theorem m_X7_topOf {n0 n k : Nat} {g : Nat → zV} {h : zHp} {Q : Option zV → Nat → Nat → zHp → Prop} {b c : Nat} {wt wb : Int} {hf : Nat → Int} {H : Nat → Nat} {i : Nat} (h0 : h b = some (.inl (8, [.inr (some (b + 1)), .inl (c : Int), .inr (some (b + 2)), .inl wt, .inl wb]))) (h1 : h (b + 1) = some (.inr (.inl (0, 9, hf)))) (hhf : ∀ i, i < 9 → hf i = (H i : Int) ∧ H i ≤ 8) (hi : i < 9) (hQ : Q (some (.inl ((9 * i + H i) : Int))) n k h) : ZT n0 g mX7_topOf 0 (zloc mX7_topOf [.inr (some b), .inl (i : Int)]) [] n k h Q := by
  show ZT n0 g mX7_topOf 0 [some (.inr (some b)), some (.inl (i : Int))] [] n k h Q
  refine T_bipush dX7_topOf_0 (by decide) ?_
  refine T_iload_n dX7_topOf_2 rfl ?_
  refine T_imul dX7_topOf_3 ⟨by omega, by omega⟩ ?_
  refine T_aload_n dX7_topOf_4 rfl ?_
  refine T_getfield dX7_topOf_5 zkf_8_9 h0 rfl ?_
  refine T_iload_n dX7_topOf_8 rfl ?_
  refine T_ialoadN (m := i) dX7_topOf_9 h1 rfl (by omega) ?_
  rw [(hhf i hi).1]
  have hb8 := (hhf i hi).2
  refine T_iadd dX7_topOf_10 ⟨by omega, by omega⟩ ?_
  refine T_iret dX7_topOf_11 rfl ?_
  exact hQ
set_option maxHeartbeats 4000000 in
set_option maxRecDepth 100000 in
theorem m_X7_isClosed_2 {n0 n k : Nat} {g : Nat → zV} {h : zHp} {Q : Option zV → Nat → Nat → zHp → Prop} {b c : Nat} {wt wb : Int} {hf : Nat → Int} {rf : Nat → Option Nat} {pi cm t H : Nat → Nat} {i : Nat} (h0 : h b = some (.inl (8, [.inr (some (b + 1)), .inl (c : Int), .inr (some (b + 2)), .inl wt, .inl wb]))) (h1 : h (b + 1) = some (.inr (.inl (0, 9, hf)))) (h2 : h (b + 2) = some (.inr (.inr (1, 4, rf)))) (hc : c ≤ 4) (hhf : ∀ i, i < 9 → hf i = (H i : Int) ∧ H i ≤ 8) (hrf : ∀ i, i < 4 → rf i = some (b + 3 * pi i + 3)) (hpo : ∀ a, a < c → h (b + 3 * pi a + 3) = some (.inl (1, [.inl (cm a : Int), .inl (t a : Int), .inr (some (b + 3 * pi a + 4)), .inr (some (b + 3 * pi a + 5))]))) (hcm : ∀ a, a < c → cm a < 81) (hi : i < 9) (hT : (∃ a, a < c ∧ zdv (cm a) (9 * i + H i)) → Q (some (.inl 1)) n k h) (hF : (∀ a, a < c → ¬ zdv (cm a) (9 * i + H i)) → Q (some (.inl 0)) n k h) : ∀ (d : Nat) (j : Nat) (L3 : Option zV), c - j = d → (j ≤ c) → (∀ a, a < j → ¬ zdv (cm a) (9 * i + H i)) → ZT n0 g mX7_isClosed 2 [some (.inr (some b)), some (.inl (i : Int)), some (.inl (j : Int)), L3] [] n k h Q := by
  intro d
  induction d using Nat.strongRecOn with | _ d ih => ?_
  intro j L3 hd0 hj hn
  subst hd0
  have hb8 := hhf i hi
  refine T_iload_n dX7_isClosed_2 rfl ?_
  refine T_aload_n dX7_isClosed_3 rfl ?_
  refine T_getfield dX7_isClosed_4 zkf_8_15 h0 rfl ?_
  refine T_icmp_ge dX7_isClosed_7 (t := 49) rfl (fun c7 => ?_) (fun c7 => ?_)
  · refine T_iconst dX7_isClosed_49 (by decide) ?_
    refine T_iret dX7_isClosed_50 rfl ?_
    exact hF (fun a ha => hn a (by omega))
  · refine T_aload_n dX7_isClosed_10 rfl ?_
    refine T_getfield dX7_isClosed_11 zkf_8_21 h0 rfl ?_
    refine T_iload_n dX7_isClosed_14 rfl ?_
    refine T_aaloadN (m := j) (r := some (b + 3 * pi j + 3)) dX7_isClosed_15 h2 rfl (by omega) (hrf j (by omega)) ?_
    have hcj := hcm j (by omega)
    refine T_getfield dX7_isClosed_16 zkf_8_71 (hpo j (by omega)) rfl ?_
    refine T_istore_n dX7_isClosed_19 (Nat.le_of_ble_eq_true rfl) ?_
    refine T_iload_n dX7_isClosed_20 rfl ?_
    refine T_bipush dX7_isClosed_21 (by decide) ?_
    refine T_idivN dX7_isClosed_23 ⟨by omega, by omega⟩ (by omega) ?_
    refine T_iload_n dX7_isClosed_24 rfl ?_
    refine T_icmp_gt dX7_isClosed_25 (t := 43) rfl (fun c25 => ?_) (fun c25 => ?_)
    · refine T_iinc dX7_isClosed_43 rfl ⟨by omega, by omega⟩ ?_
      refine T_goto dX7_isClosed_46 (t := 2) rfl ?_
      exact ih _ (by omega) (j + 1) _ rfl  (by omega) (fun i hi => by
            by_cases e : i = j
            · subst e; unfold zdv; omega
            · exact hn i (by omega)) 
    · refine T_iload_n dX7_isClosed_28 rfl ?_
      refine T_bipush dX7_isClosed_29 (by decide) ?_
      refine T_iremN dX7_isClosed_31 ⟨by omega, by omega⟩ (by omega) ?_
      refine T_aload_n dX7_isClosed_32 rfl ?_
      refine T_getfield dX7_isClosed_33 zkf_8_9 h0 rfl ?_
      refine T_iload_n dX7_isClosed_36 rfl ?_
      refine T_ialoadN (m := i) dX7_isClosed_37 h1 rfl (by omega) ?_
      refine T_icmp_gt dX7_isClosed_38 (t := 43) rfl (fun c38 => ?_) (fun c38 => ?_)
      · refine T_iinc dX7_isClosed_43 rfl ⟨by omega, by omega⟩ ?_
        refine T_goto dX7_isClosed_46 (t := 2) rfl ?_
        exact ih _ (by omega) (j + 1) _ rfl  (by omega) (fun i hi => by
              by_cases e : i = j
              · subst e; unfold zdv; omega
              · exact hn i (by omega)) 
      · refine T_iconst dX7_isClosed_41 (by decide) ?_
        refine T_iret dX7_isClosed_42 rfl ?_
        exact hT ⟨j, by omega, by unfold zdv; omega⟩
set_option maxHeartbeats 4000000 in
set_option maxRecDepth 100000 in
theorem m_X7_isClosed {n0 n k : Nat} {g : Nat → zV} {h : zHp} {Q : Option zV → Nat → Nat → zHp → Prop} {b c : Nat} {wt wb : Int} {hf : Nat → Int} {rf : Nat → Option Nat} {pi cm t H : Nat → Nat} {i : Nat} (h0 : h b = some (.inl (8, [.inr (some (b + 1)), .inl (c : Int), .inr (some (b + 2)), .inl wt, .inl wb]))) (h1 : h (b + 1) = some (.inr (.inl (0, 9, hf)))) (h2 : h (b + 2) = some (.inr (.inr (1, 4, rf)))) (hc : c ≤ 4) (hhf : ∀ i, i < 9 → hf i = (H i : Int) ∧ H i ≤ 8) (hrf : ∀ i, i < 4 → rf i = some (b + 3 * pi i + 3)) (hpo : ∀ a, a < c → h (b + 3 * pi a + 3) = some (.inl (1, [.inl (cm a : Int), .inl (t a : Int), .inr (some (b + 3 * pi a + 4)), .inr (some (b + 3 * pi a + 5))]))) (hcm : ∀ a, a < c → cm a < 81) (hi : i < 9) (hT : (∃ a, a < c ∧ zdv (cm a) (9 * i + H i)) → Q (some (.inl 1)) n k h) (hF : (∀ a, a < c → ¬ zdv (cm a) (9 * i + H i)) → Q (some (.inl 0)) n k h) : ZT n0 g mX7_isClosed 0 (zloc mX7_isClosed [.inr (some b), .inl (i : Int)]) [] n k h Q := by
  show ZT n0 g mX7_isClosed 0 [some (.inr (some b)), some (.inl (i : Int)), none, none] [] n k h Q
  have hb8 := hhf i hi
  refine T_iconst dX7_isClosed_0 (by decide) ?_
  refine T_istore_n dX7_isClosed_1 (Nat.le_of_ble_eq_true rfl) ?_
  exact m_X7_isClosed_2 h0 h1 h2 hc hhf hrf hpo hcm hi hT hF _ 0 _ rfl  (by omega) (fun i hi => absurd hi (Nat.not_lt_zero i)) 
set_option maxHeartbeats 4000000 in
set_option maxRecDepth 100000 in
theorem m_X7_nextColumn_4 {n0 n k : Nat} {g : Nat → zV} {h : zHp} {Q : Option zV → Nat → Nat → zHp → Prop} {b c : Nat} {wt wb : Int} {hf : Nat → Int} {rf : Nat → Option Nat} {pi cm t H : Nat → Nat} {r : Nat} {u v tie : Int} (h0 : h b = some (.inl (8, [.inr (some (b + 1)), .inl (c : Int), .inr (some (b + 2)), .inl wt, .inl wb]))) (h1 : h (b + 1) = some (.inr (.inl (0, 9, hf)))) (h2 : h (b + 2) = some (.inr (.inr (1, 4, rf)))) (hOd : h r = some (.inl (5, [.inl u, .inl v, .inl tie]))) (hc : c ≤ 4) (hhf : ∀ i, i < 9 → hf i = (H i : Int) ∧ H i ≤ 8) (hrf : ∀ i, i < 4 → rf i = some (b + 3 * pi i + 3)) (hpo : ∀ a, a < c → h (b + 3 * pi a + 3) = some (.inl (1, [.inl (cm a : Int), .inl (t a : Int), .inr (some (b + 3 * pi a + 4)), .inr (some (b + 3 * pi a + 5))]))) (hcm : ∀ a, a < c → cm a < 81) (huv : 0 ≤ u ∧ u ≤ 99 ∧ 0 ≤ v ∧ v ≤ 99) (hF : (∀ i, i < 9 → ¬ (∀ a, a < c → ¬ zdv (cm a) (9 * i + H i))) → Q (some (.inl (-1))) n k h) (hT : ∀ (i : Nat), (i < 9) → (∀ a, a < c → ¬ zdv (cm a) (9 * i + H i)) → (∀ j, j < 9 → j ≠ i → (∀ a, a < c → ¬ zdv (cm a) (9 * j + H j)) → zlt u v tie (9 * i + H i) (9 * j + H j)) → Q (some (.inl (i : Int))) n k h) : ∀ (d : Nat) (j : Nat) (w : Int), 9 - j = d → (j ≤ 9) → ((w = -1 ∧ ∀ i, i < j → ¬ (∀ a, a < c → ¬ zdv (cm a) (9 * i + H i))) ∨ ∃ i : Nat, w = (i : Int) ∧ i < j ∧ (∀ a, a < c → ¬ zdv (cm a) (9 * i + H i)) ∧ ∀ q, q < j → q ≠ i → (∀ a, a < c → ¬ zdv (cm a) (9 * q + H q)) → zlt u v tie (9 * i + H i) (9 * q + H q)) → ZT n0 g mX7_nextColumn 4 [some (.inr (some b)), some (.inr (some r)), some (.inl w), some (.inl (j : Int))] [] n k h Q := by
  intro d
  induction d using Nat.strongRecOn with | _ d ih => ?_
  intro j w hd0 hj hb
  subst hd0
  refine T_iload_n dX7_nextColumn_4 rfl ?_
  refine T_bipush dX7_nextColumn_5 (by decide) ?_
  refine T_icmp_ge dX7_nextColumn_7 (t := 48) rfl (fun c7 => ?_) (fun c7 => ?_)
  · refine T_iload_n dX7_nextColumn_48 rfl ?_
    refine T_iret dX7_nextColumn_49 rfl ?_
    rcases hb with ⟨q1, q2⟩ | ⟨i, q1, q2, q3, q4⟩
    · rw [q1]; exact hF (fun i hi => q2 i (by omega))
    · rw [q1]; exact hT i (by omega) q3 (fun q hq hne hop => q4 q (by omega) hne hop)
  · refine T_aload_n dX7_nextColumn_10 rfl ?_
    refine T_iload_n dX7_nextColumn_11 rfl ?_
    refine T_callV dX7_nextColumn_12 zkm_8_62 (Or.inl rfl) rfl h0 ⟨Nat.le_of_ble_eq_true rfl, rfl⟩ rfl (Nat.le_of_ble_eq_true rfl) ?_
    refine m_X7_isClosed h0 h1 h2 (by omega) hhf hrf hpo hcm (by omega) (fun k12a => ?_) (fun k12a_2 => ?_)
    · refine T_if_ne dX7_nextColumn_15 (t := 42) rfl (fun _ => ?_) (fun hc => absurd hc (by decide))
      refine T_iinc dX7_nextColumn_42 rfl ⟨by omega, by omega⟩ ?_
      refine T_goto dX7_nextColumn_45 (t := 4) rfl ?_
      exact ih _ (by omega) (j + 1) w rfl  (by omega) (hb.imp (fun q => ⟨q.1, fun i hi => by
            by_cases e : i = j
            · subst e
              obtain ⟨a, ha, hd⟩ := k12a
              exact fun hop => hop a ha hd
            · exact q.2 i (by omega)⟩) (fun ⟨i, q1, q2, q3, q4⟩ => ⟨i, q1, by omega, q3, fun q hq hne hop => by
            by_cases e : q = j
            · subst e
              obtain ⟨a, ha, hd⟩ := k12a
              exact absurd hd (hop a ha)
            · exact q4 q (by omega) hne hop⟩)) 
    · refine T_if_ne dX7_nextColumn_15 (t := 42) rfl (fun hc => absurd hc (by decide)) (fun _ => ?_)
      have hopj : (∀ a, a < c → ¬ zdv (cm a) (9 * j + H j)) := k12a_2
      refine T_iload_n dX7_nextColumn_18 rfl ?_
      refine T_iconst dX7_nextColumn_19 (by decide) ?_
      refine T_icmp_eq dX7_nextColumn_20 (t := 40) rfl (fun c20 => ?_) (fun c20 => ?_)
      · refine T_iload_n dX7_nextColumn_40 rfl ?_
        refine T_istore_n dX7_nextColumn_41 (Nat.le_of_ble_eq_true rfl) ?_
        refine T_iinc dX7_nextColumn_42 rfl ⟨by omega, by omega⟩ ?_
        refine T_goto dX7_nextColumn_45 (t := 4) rfl ?_
        exact ih _ (by omega) (j + 1) j rfl  (by omega) (Or.inr ⟨j, rfl, by omega, hopj, fun q hq hne hop => by
              rcases hb with q0 | ⟨i, q1, q2, -⟩
              · exact absurd hop (q0.2 q (by omega))
              · omega⟩) 
      · obtain ⟨i, rfl, hi1, hi2, hi3⟩ := hb.resolve_left (fun q => c20 q.1)
        have hbj := hhf j (by omega)
        have hbi := hhf i (by omega)
        refine T_aload_n dX7_nextColumn_23 rfl ?_
        refine T_aload_n dX7_nextColumn_24 rfl ?_
        refine T_iload_n dX7_nextColumn_25 rfl ?_
        refine T_callV dX7_nextColumn_26 zkm_8_47 (Or.inl rfl) rfl h0 ⟨Nat.le_of_ble_eq_true rfl, rfl⟩ rfl (Nat.le_of_ble_eq_true rfl) ?_
        refine m_X7_topOf h0 h1 hhf (by omega) ?_
        refine T_aload_n dX7_nextColumn_29 rfl ?_
        refine T_iload_n dX7_nextColumn_30 rfl ?_
        refine T_callV dX7_nextColumn_31 zkm_8_47 (Or.inl rfl) rfl h0 ⟨Nat.le_of_ble_eq_true rfl, rfl⟩ rfl (Nat.le_of_ble_eq_true rfl) ?_
        refine m_X7_topOf h0 h1 hhf (by omega) ?_
        refine T_callV dX7_nextColumn_34 zkm_8_65 (Or.inl rfl) rfl hOd ⟨Nat.le_of_ble_eq_true rfl, rfl⟩ rfl (Nat.le_of_ble_eq_true rfl) ?_
        refine m_X4_isSmaller (a := (9 * j + H j)) (c := (9 * i + H i)) hOd (by omega) (by omega) (fun k34a => ?_) (fun k34a_2 => ?_)
        · refine T_if_eq dX7_nextColumn_37 (t := 42) rfl (fun hc => absurd hc (by decide)) (fun _ => ?_)
          refine T_iload_n dX7_nextColumn_40 rfl ?_
          refine T_istore_n dX7_nextColumn_41 (Nat.le_of_ble_eq_true rfl) ?_
          refine T_iinc dX7_nextColumn_42 rfl ⟨by omega, by omega⟩ ?_
          refine T_goto dX7_nextColumn_45 (t := 4) rfl ?_
          exact ih _ (by omega) (j + 1) j rfl  (by omega) (Or.inr ⟨j, rfl, by omega, hopj, fun q hq hne hop => by
                by_cases e : q = i
                · subst e; exact k34a
                · exact zlt_tr k34a (hi3 q (by omega) e hop)⟩) 
        · refine T_if_eq dX7_nextColumn_37 (t := 42) rfl (fun _ => ?_) (fun hc => absurd hc (by decide))
          refine T_iinc dX7_nextColumn_42 rfl ⟨by omega, by omega⟩ ?_
          refine T_goto dX7_nextColumn_45 (t := 4) rfl ?_
          exact ih _ (by omega) (j + 1) i rfl  (by omega) (Or.inr ⟨i, rfl, by omega, hi2, fun q hq hne hop => by
                by_cases e : q = j
                · subst e; exact (zlt_tot (by omega)).resolve_left k34a_2
                · exact hi3 q (by omega) hne hop⟩) 
set_option maxHeartbeats 4000000 in
set_option maxRecDepth 100000 in
theorem m_X7_nextColumn {n0 n k : Nat} {g : Nat → zV} {h : zHp} {Q : Option zV → Nat → Nat → zHp → Prop} {b c : Nat} {wt wb : Int} {hf : Nat → Int} {rf : Nat → Option Nat} {pi cm t H : Nat → Nat} {r : Nat} {u v tie : Int} (h0 : h b = some (.inl (8, [.inr (some (b + 1)), .inl (c : Int), .inr (some (b + 2)), .inl wt, .inl wb]))) (h1 : h (b + 1) = some (.inr (.inl (0, 9, hf)))) (h2 : h (b + 2) = some (.inr (.inr (1, 4, rf)))) (hOd : h r = some (.inl (5, [.inl u, .inl v, .inl tie]))) (hc : c ≤ 4) (hhf : ∀ i, i < 9 → hf i = (H i : Int) ∧ H i ≤ 8) (hrf : ∀ i, i < 4 → rf i = some (b + 3 * pi i + 3)) (hpo : ∀ a, a < c → h (b + 3 * pi a + 3) = some (.inl (1, [.inl (cm a : Int), .inl (t a : Int), .inr (some (b + 3 * pi a + 4)), .inr (some (b + 3 * pi a + 5))]))) (hcm : ∀ a, a < c → cm a < 81) (huv : 0 ≤ u ∧ u ≤ 99 ∧ 0 ≤ v ∧ v ≤ 99) (hF : (∀ i, i < 9 → ¬ (∀ a, a < c → ¬ zdv (cm a) (9 * i + H i))) → Q (some (.inl (-1))) n k h) (hT : ∀ (i : Nat), (i < 9) → (∀ a, a < c → ¬ zdv (cm a) (9 * i + H i)) → (∀ j, j < 9 → j ≠ i → (∀ a, a < c → ¬ zdv (cm a) (9 * j + H j)) → zlt u v tie (9 * i + H i) (9 * j + H j)) → Q (some (.inl (i : Int))) n k h) : ZT n0 g mX7_nextColumn 0 (zloc mX7_nextColumn [.inr (some b), .inr (some r)]) [] n k h Q := by
  show ZT n0 g mX7_nextColumn 0 [some (.inr (some b)), some (.inr (some r)), none, none] [] n k h Q
  refine T_iconst dX7_nextColumn_0 (by decide) ?_
  refine T_istore_n dX7_nextColumn_1 (Nat.le_of_ble_eq_true rfl) ?_
  refine T_iconst dX7_nextColumn_2 (by decide) ?_
  refine T_istore_n dX7_nextColumn_3 (Nat.le_of_ble_eq_true rfl) ?_
  exact m_X7_nextColumn_4 h0 h1 h2 hOd hc hhf hrf hpo hcm huv hF hT _ 0 (-1) rfl  (by omega) (Or.inl ⟨rfl, fun i hi => absurd hi (Nat.not_lt_zero i)⟩) 
set_option maxHeartbeats 4000000 in
set_option maxRecDepth 100000 in
theorem m_X7_find {n0 n k : Nat} {g : Nat → zV} {h : zHp} {Q : Option zV → Nat → Nat → zHp → Prop} {b c : Nat} {wt wb : Int} {rf : Nat → Option Nat} {pi : Nat → Nat} {i : Int} (h0 : h b = some (.inl (8, [.inr (some (b + 1)), .inl (c : Int), .inr (some (b + 2)), .inl wt, .inl wb]))) (h2 : h (b + 2) = some (.inr (.inr (1, 4, rf)))) (hc : c ≤ 4) (hrf : ∀ i, i < 4 → rf i = some (b + 3 * pi i + 3)) (hT : ∀ (j : Nat), (j < c) → (i = (j : Int)) → Q (some (.inr (some (b + 3 * pi j + 3)))) n k h) (hF : (¬ (0 ≤ i ∧ i < (c : Int))) → Q (some (.inr none)) n k h) : ZT n0 g mX7_find 0 (zloc mX7_find [.inr (some b), .inl i]) [] n k h Q := by
  show ZT n0 g mX7_find 0 [some (.inr (some b)), some (.inl i)] [] n k h Q
  refine T_iload_n dX7_find_0 rfl ?_
  refine T_if_lt dX7_find_1 (t := 21) rfl (fun c1 => ?_) (fun c1 => ?_)
  · refine T_null dX7_find_21 ?_
    refine T_aret dX7_find_22 rfl ?_
    first | exact hF (by omega) | exact hT j (by omega) rfl
  · refine T_iload_n dX7_find_4 rfl ?_
    refine T_aload_n dX7_find_5 rfl ?_
    refine T_getfield dX7_find_6 zkf_8_15 h0 rfl ?_
    refine T_icmp_ge dX7_find_9 (t := 21) rfl (fun c9 => ?_) (fun c9 => ?_)
    · refine T_null dX7_find_21 ?_
      refine T_aret dX7_find_22 rfl ?_
      first | exact hF (by omega) | exact hT j (by omega) rfl
    · obtain ⟨j, rfl⟩ := Int.eq_ofNat_of_zero_le (show 0 ≤ i by omega)
      refine T_aload_n dX7_find_12 rfl ?_
      refine T_getfield dX7_find_13 zkf_8_21 h0 rfl ?_
      refine T_iload_n dX7_find_16 rfl ?_
      refine T_aaloadN (m := j) (r := some (b + 3 * pi j + 3)) dX7_find_17 h2 rfl (by omega) (hrf j (by omega)) ?_
      refine T_goto dX7_find_18 (t := 22) rfl ?_
      refine T_aret dX7_find_22 rfl ?_
      first | exact hF (by omega) | exact hT j (by omega) rfl
set_option maxHeartbeats 4000000 in
set_option maxRecDepth 100000 in
theorem m_X7_hasWall {n0 n k : Nat} {g : Nat → zV} {h : zHp} {Q : Option zV → Nat → Nat → zHp → Prop} {b c : Nat} {wt wb : Int} (h0 : h b = some (.inl (8, [.inr (some (b + 1)), .inl (c : Int), .inr (some (b + 2)), .inl wt, .inl wb]))) (hT : (wb ≠ 0) → Q (some (.inl 1)) n k h) (hF : (wb = 0) → Q (some (.inl 0)) n k h) : ZT n0 g mX7_hasWall 0 (zloc mX7_hasWall [.inr (some b)]) [] n k h Q := by
  show ZT n0 g mX7_hasWall 0 [some (.inr (some b))] [] n k h Q
  refine T_aload_n dX7_hasWall_0 rfl ?_
  refine T_getfield dX7_hasWall_1 zkf_8_28 h0 rfl ?_
  refine T_if_eq dX7_hasWall_4 (t := 11) rfl (fun c4 => ?_) (fun c4 => ?_)
  · refine T_iconst dX7_hasWall_11 (by decide) ?_
    refine T_iret dX7_hasWall_12 rfl ?_
    exact hF (by omega)
  · refine T_iconst dX7_hasWall_7 (by decide) ?_
    refine T_goto dX7_hasWall_8 (t := 12) rfl ?_
    refine T_iret dX7_hasWall_12 rfl ?_
    exact hT (by omega)
set_option maxHeartbeats 4000000 in
set_option maxRecDepth 100000 in
theorem m_X7_hasAboveWall {n0 n k : Nat} {g : Nat → zV} {h : zHp} {Q : Option zV → Nat → Nat → zHp → Prop} {b c : Nat} {wt wb u v : Int} (h0 : h b = some (.inl (8, [.inr (some (b + 1)), .inl (c : Int), .inr (some (b + 2)), .inl wt, .inl wb]))) (hwb : 0 ≤ wb ∧ wb ≤ 8 ∧ 0 ≤ wt ∧ wt ≤ 8) (huv : 0 ≤ u ∧ u ≤ 99 ∧ 0 ≤ v ∧ v ≤ 99) (hT : (wb ≠ 0 ∧ v * wb > wt * u) → Q (some (.inl 1)) n k h) (hF : (¬ (wb ≠ 0 ∧ v * wb > wt * u)) → Q (some (.inl 0)) n k h) : ZT n0 g mX7_hasAboveWall 0 (zloc mX7_hasAboveWall [.inr (some b), .inl u, .inl v]) [] n k h Q := by
  show ZT n0 g mX7_hasAboveWall 0 [some (.inr (some b)), some (.inl u), some (.inl v)] [] n k h Q
  refine T_aload_n dX7_hasAboveWall_0 rfl ?_
  refine T_callV dX7_hasAboveWall_1 zkm_8_85 (Or.inl rfl) rfl h0 ⟨Nat.le_of_ble_eq_true rfl, rfl⟩ rfl (Nat.le_of_ble_eq_true rfl) ?_
  refine m_X7_hasWall h0  (fun k1a => ?_) (fun k1a_2 => ?_)
  · refine T_if_eq dX7_hasAboveWall_4 (t := 26) rfl (fun hc => absurd hc (by decide)) (fun _ => ?_)
    refine T_iload_n dX7_hasAboveWall_7 rfl ?_
    refine T_aload_n dX7_hasAboveWall_8 rfl ?_
    refine T_getfield dX7_hasAboveWall_9 zkf_8_28 h0 rfl ?_
    refine T_imul dX7_hasAboveWall_12 (zmulR (by omega) (by omega) (by omega) (by omega)) ?_
    refine T_aload_n dX7_hasAboveWall_13 rfl ?_
    refine T_getfield dX7_hasAboveWall_14 zkf_8_25 h0 rfl ?_
    refine T_iload_n dX7_hasAboveWall_17 rfl ?_
    refine T_imul dX7_hasAboveWall_18 (zmulR (by omega) (by omega) (by omega) (by omega)) ?_
    refine T_icmp_le dX7_hasAboveWall_19 (t := 26) rfl (fun c19 => ?_) (fun c19 => ?_)
    · refine T_iconst dX7_hasAboveWall_26 (by decide) ?_
      refine T_iret dX7_hasAboveWall_27 rfl ?_
      exact hF (fun q => absurd q.2 (by omega))
    · refine T_iconst dX7_hasAboveWall_22 (by decide) ?_
      refine T_goto dX7_hasAboveWall_23 (t := 27) rfl ?_
      refine T_iret dX7_hasAboveWall_27 rfl ?_
      exact hT ⟨k1a, by omega⟩
  · refine T_if_eq dX7_hasAboveWall_4 (t := 26) rfl (fun _ => ?_) (fun hc => absurd hc (by decide))
    refine T_iconst dX7_hasAboveWall_26 (by decide) ?_
    refine T_iret dX7_hasAboveWall_27 rfl ?_
    exact hF (fun q => q.1 k1a_2)
set_option maxHeartbeats 4000000 in
set_option maxRecDepth 100000 in
theorem m_X7_hasOnWall {n0 n k : Nat} {g : Nat → zV} {h : zHp} {Q : Option zV → Nat → Nat → zHp → Prop} {b c : Nat} {wt wb u v : Int} (h0 : h b = some (.inl (8, [.inr (some (b + 1)), .inl (c : Int), .inr (some (b + 2)), .inl wt, .inl wb]))) (hwb : 0 ≤ wb ∧ wb ≤ 8 ∧ 0 ≤ wt ∧ wt ≤ 8) (huv : 0 ≤ u ∧ u ≤ 99 ∧ 0 ≤ v ∧ v ≤ 99) (hT : (wb ≠ 0 ∧ v * wb = wt * u) → Q (some (.inl 1)) n k h) (hF : (¬ (wb ≠ 0 ∧ v * wb = wt * u)) → Q (some (.inl 0)) n k h) : ZT n0 g mX7_hasOnWall 0 (zloc mX7_hasOnWall [.inr (some b), .inl u, .inl v]) [] n k h Q := by
  show ZT n0 g mX7_hasOnWall 0 [some (.inr (some b)), some (.inl u), some (.inl v)] [] n k h Q
  refine T_aload_n dX7_hasOnWall_0 rfl ?_
  refine T_callV dX7_hasOnWall_1 zkm_8_85 (Or.inl rfl) rfl h0 ⟨Nat.le_of_ble_eq_true rfl, rfl⟩ rfl (Nat.le_of_ble_eq_true rfl) ?_
  refine m_X7_hasWall h0  (fun k1a => ?_) (fun k1a_2 => ?_)
  · refine T_if_eq dX7_hasOnWall_4 (t := 26) rfl (fun hc => absurd hc (by decide)) (fun _ => ?_)
    refine T_iload_n dX7_hasOnWall_7 rfl ?_
    refine T_aload_n dX7_hasOnWall_8 rfl ?_
    refine T_getfield dX7_hasOnWall_9 zkf_8_28 h0 rfl ?_
    refine T_imul dX7_hasOnWall_12 (zmulR (by omega) (by omega) (by omega) (by omega)) ?_
    refine T_aload_n dX7_hasOnWall_13 rfl ?_
    refine T_getfield dX7_hasOnWall_14 zkf_8_25 h0 rfl ?_
    refine T_iload_n dX7_hasOnWall_17 rfl ?_
    refine T_imul dX7_hasOnWall_18 (zmulR (by omega) (by omega) (by omega) (by omega)) ?_
    refine T_icmp_ne dX7_hasOnWall_19 (t := 26) rfl (fun c19 => ?_) (fun c19 => ?_)
    · refine T_iconst dX7_hasOnWall_26 (by decide) ?_
      refine T_iret dX7_hasOnWall_27 rfl ?_
      exact hF (fun q => absurd q.2 (by omega))
    · refine T_iconst dX7_hasOnWall_22 (by decide) ?_
      refine T_goto dX7_hasOnWall_23 (t := 27) rfl ?_
      refine T_iret dX7_hasOnWall_27 rfl ?_
      exact hT ⟨k1a, by omega⟩
  · refine T_if_eq dX7_hasOnWall_4 (t := 26) rfl (fun _ => ?_) (fun hc => absurd hc (by decide))
    refine T_iconst dX7_hasOnWall_26 (by decide) ?_
    refine T_iret dX7_hasOnWall_27 rfl ?_
    exact hF (fun q => q.1 k1a_2)
set_option maxHeartbeats 4000000 in
set_option maxRecDepth 100000 in
theorem m_X7_hasCorner_2 {n0 n k : Nat} {g : Nat → zV} {h : zHp} {Q : Option zV → Nat → Nat → zHp → Prop} {b c : Nat} {wt wb : Int} {rf : Nat → Option Nat} {pi cm t : Nat → Nat} {m : Nat} (h0 : h b = some (.inl (8, [.inr (some (b + 1)), .inl (c : Int), .inr (some (b + 2)), .inl wt, .inl wb]))) (h2 : h (b + 2) = some (.inr (.inr (1, 4, rf)))) (hc : c ≤ 4) (hrf : ∀ i, i < 4 → rf i = some (b + 3 * pi i + 3)) (hpo : ∀ a, a < c → h (b + 3 * pi a + 3) = some (.inl (1, [.inl (cm a : Int), .inl (t a : Int), .inr (some (b + 3 * pi a + 4)), .inr (some (b + 3 * pi a + 5))]))) (hcm : ∀ a, a < c → cm a < 81) (hT : (∃ a, a < c ∧ cm a = m) → Q (some (.inl 1)) n k h) (hF : (∀ a, a < c → cm a ≠ m) → Q (some (.inl 0)) n k h) : ∀ (d : Nat) (j : Nat), c - j = d → (j ≤ c) → (∀ a, a < j → cm a ≠ m) → ZT n0 g mX7_hasCorner 2 [some (.inr (some b)), some (.inl (m : Int)), some (.inl (j : Int))] [] n k h Q := by
  intro d
  induction d using Nat.strongRecOn with | _ d ih => ?_
  intro j hd0 hj hn
  subst hd0
  refine T_iload_n dX7_hasCorner_2 rfl ?_
  refine T_aload_n dX7_hasCorner_3 rfl ?_
  refine T_getfield dX7_hasCorner_4 zkf_8_15 h0 rfl ?_
  refine T_icmp_ge dX7_hasCorner_7 (t := 31) rfl (fun c7 => ?_) (fun c7 => ?_)
  · refine T_iconst dX7_hasCorner_31 (by decide) ?_
    refine T_iret dX7_hasCorner_32 rfl ?_
    exact hF (fun a ha => hn a (by omega))
  · refine T_aload_n dX7_hasCorner_10 rfl ?_
    refine T_getfield dX7_hasCorner_11 zkf_8_21 h0 rfl ?_
    refine T_iload_n dX7_hasCorner_14 rfl ?_
    refine T_aaloadN (m := j) (r := some (b + 3 * pi j + 3)) dX7_hasCorner_15 h2 rfl (by omega) (hrf j (by omega)) ?_
    refine T_getfield dX7_hasCorner_16 zkf_8_71 (hpo j (by omega)) rfl ?_
    refine T_iload_n dX7_hasCorner_19 rfl ?_
    refine T_icmp_ne dX7_hasCorner_20 (t := 25) rfl (fun c20 => ?_) (fun c20 => ?_)
    · refine T_iinc dX7_hasCorner_25 rfl ⟨by omega, by omega⟩ ?_
      refine T_goto dX7_hasCorner_28 (t := 2) rfl ?_
      exact ih _ (by omega) (j + 1) rfl  (by omega) (fun i hi => by
            by_cases e : i = j
            · subst e; omega
            · exact hn i (by omega)) 
    · refine T_iconst dX7_hasCorner_23 (by decide) ?_
      refine T_iret dX7_hasCorner_24 rfl ?_
      exact hT ⟨j, by omega, by omega⟩
set_option maxHeartbeats 4000000 in
set_option maxRecDepth 100000 in
theorem m_X7_hasCorner {n0 n k : Nat} {g : Nat → zV} {h : zHp} {Q : Option zV → Nat → Nat → zHp → Prop} {b c : Nat} {wt wb : Int} {rf : Nat → Option Nat} {pi cm t : Nat → Nat} {m : Nat} (h0 : h b = some (.inl (8, [.inr (some (b + 1)), .inl (c : Int), .inr (some (b + 2)), .inl wt, .inl wb]))) (h2 : h (b + 2) = some (.inr (.inr (1, 4, rf)))) (hc : c ≤ 4) (hrf : ∀ i, i < 4 → rf i = some (b + 3 * pi i + 3)) (hpo : ∀ a, a < c → h (b + 3 * pi a + 3) = some (.inl (1, [.inl (cm a : Int), .inl (t a : Int), .inr (some (b + 3 * pi a + 4)), .inr (some (b + 3 * pi a + 5))]))) (hcm : ∀ a, a < c → cm a < 81) (hT : (∃ a, a < c ∧ cm a = m) → Q (some (.inl 1)) n k h) (hF : (∀ a, a < c → cm a ≠ m) → Q (some (.inl 0)) n k h) : ZT n0 g mX7_hasCorner 0 (zloc mX7_hasCorner [.inr (some b), .inl (m : Int)]) [] n k h Q := by
  show ZT n0 g mX7_hasCorner 0 [some (.inr (some b)), some (.inl (m : Int)), none] [] n k h Q
  refine T_iconst dX7_hasCorner_0 (by decide) ?_
  refine T_istore_n dX7_hasCorner_1 (Nat.le_of_ble_eq_true rfl) ?_
  exact m_X7_hasCorner_2 h0 h2 hc hrf hpo hcm hT hF _ 0 rfl  (by omega) (fun i hi => absurd hi (Nat.not_lt_zero i)) 
set_option maxHeartbeats 4000000 in
set_option maxRecDepth 100000 in
theorem m_X7_countCornersOutside_4 {n0 n k : Nat} {g : Nat → zV} {h : zHp} {Q : Option zV → Nat → Nat → zHp → Prop} {b c : Nat} {wt wb : Int} {rf : Nat → Option Nat} {pi cm t : Nat → Nat} {b2 c2 : Nat} {wt2 wb2 : Int} {rf2 : Nat → Option Nat} {pi2 cm2 t2 : Nat → Nat} (h0 : h b = some (.inl (8, [.inr (some (b + 1)), .inl (c : Int), .inr (some (b + 2)), .inl wt, .inl wb]))) (h2 : h (b + 2) = some (.inr (.inr (1, 4, rf)))) (h02 : h b2 = some (.inl (8, [.inr (some (b2 + 1)), .inl (c2 : Int), .inr (some (b2 + 2)), .inl wt2, .inl wb2]))) (h22 : h (b2 + 2) = some (.inr (.inr (1, 4, rf2)))) (hc : c ≤ 4) (hrf : ∀ i, i < 4 → rf i = some (b + 3 * pi i + 3)) (hpo : ∀ a, a < c → h (b + 3 * pi a + 3) = some (.inl (1, [.inl (cm a : Int), .inl (t a : Int), .inr (some (b + 3 * pi a + 4)), .inr (some (b + 3 * pi a + 5))]))) (hcm : ∀ a, a < c → cm a < 81) (hc2 : c2 ≤ 4) (hrf2 : ∀ i, i < 4 → rf2 i = some (b2 + 3 * pi2 i + 3)) (hpo2 : ∀ a, a < c2 → h (b2 + 3 * pi2 a + 3) = some (.inl (1, [.inl (cm2 a : Int), .inl (t2 a : Int), .inr (some (b2 + 3 * pi2 a + 4)), .inr (some (b2 + 3 * pi2 a + 5))]))) (hcm2 : ∀ a, a < c2 → cm2 a < 81) (hQ : Q (some (.inl ((zcnt (fun a => !(List.range c2).any (fun q => cm2 q == cm a)) c) : Int))) n k h) : ∀ (d : Nat) (j : Nat) (w : Nat), c - j = d → (j ≤ c) → (w = zcnt (fun a => !(List.range c2).any (fun q => cm2 q == cm a)) j) → ZT n0 g mX7_countCornersOutside 4 [some (.inr (some b)), some (.inr (some b2)), some (.inl (w : Int)), some (.inl (j : Int))] [] n k h Q := by
  intro d
  induction d using Nat.strongRecOn with | _ d ih => ?_
  intro j w hd0 hj hw
  subst hd0
  have hb := zcnt_le (fun a => !(List.range c2).any (fun q => cm2 q == cm a)) j
  refine T_iload_n dX7_countCornersOutside_4 rfl ?_
  refine T_aload_n dX7_countCornersOutside_5 rfl ?_
  refine T_getfield dX7_countCornersOutside_6 zkf_8_15 h0 rfl ?_
  refine T_icmp_ge dX7_countCornersOutside_9 (t := 37) rfl (fun c9 => ?_) (fun c9 => ?_)
  · refine T_iload_n dX7_countCornersOutside_37 rfl ?_
    refine T_iret dX7_countCornersOutside_38 rfl ?_
    rw [show w = zcnt (fun a => !(List.range c2).any (fun q => cm2 q == cm a)) c by rw [hw, show j = c by omega]]
    exact hQ
  · refine T_aload_n dX7_countCornersOutside_12 rfl ?_
    refine T_aload_n dX7_countCornersOutside_13 rfl ?_
    refine T_getfield dX7_countCornersOutside_14 zkf_8_21 h0 rfl ?_
    refine T_iload_n dX7_countCornersOutside_17 rfl ?_
    refine T_aaloadN (m := j) (r := some (b + 3 * pi j + 3)) dX7_countCornersOutside_18 h2 rfl (by omega) (hrf j (by omega)) ?_
    refine T_getfield dX7_countCornersOutside_19 zkf_8_71 (hpo j (by omega)) rfl ?_
    refine T_callV dX7_countCornersOutside_22 zkm_8_89 (Or.inl rfl) rfl h02 ⟨Nat.le_of_ble_eq_true rfl, rfl⟩ rfl (Nat.le_of_ble_eq_true rfl) ?_
    refine m_X7_hasCorner (m := (cm j)) (rf := rf2) (pi := pi2) (cm := cm2) (t := t2) h02 h22 hc2 hrf2 hpo2 hcm2 (fun k22a => ?_) (fun k22a_2 => ?_)
    · refine T_if_ne dX7_countCornersOutside_25 (t := 31) rfl (fun _ => ?_) (fun hc => absurd hc (by decide))
      refine T_iinc dX7_countCornersOutside_31 rfl ⟨by omega, by omega⟩ ?_
      refine T_goto dX7_countCornersOutside_34 (t := 4) rfl ?_
      exact ih _ (by omega) (j + 1) w rfl  (by omega) (by
            obtain ⟨q, hq, e⟩ := k22a
            rw [hw, zcnt, if_neg (by simp; exact ⟨q, hq, e⟩)]; rfl) 
    · refine T_if_ne dX7_countCornersOutside_25 (t := 31) rfl (fun hc => absurd hc (by decide)) (fun _ => ?_)
      refine T_iinc dX7_countCornersOutside_28 rfl ⟨by omega, by omega⟩ ?_
      refine T_iinc dX7_countCornersOutside_31 rfl ⟨by omega, by omega⟩ ?_
      refine T_goto dX7_countCornersOutside_34 (t := 4) rfl ?_
      exact ih _ (by omega) (j + 1) (w + 1) rfl  (by omega) (by rw [hw, zcnt, if_pos (by simp; exact k22a_2)]) 
set_option maxHeartbeats 4000000 in
set_option maxRecDepth 100000 in
theorem m_X7_countCornersOutside {n0 n k : Nat} {g : Nat → zV} {h : zHp} {Q : Option zV → Nat → Nat → zHp → Prop} {b c : Nat} {wt wb : Int} {rf : Nat → Option Nat} {pi cm t : Nat → Nat} {b2 c2 : Nat} {wt2 wb2 : Int} {rf2 : Nat → Option Nat} {pi2 cm2 t2 : Nat → Nat} (h0 : h b = some (.inl (8, [.inr (some (b + 1)), .inl (c : Int), .inr (some (b + 2)), .inl wt, .inl wb]))) (h2 : h (b + 2) = some (.inr (.inr (1, 4, rf)))) (h02 : h b2 = some (.inl (8, [.inr (some (b2 + 1)), .inl (c2 : Int), .inr (some (b2 + 2)), .inl wt2, .inl wb2]))) (h22 : h (b2 + 2) = some (.inr (.inr (1, 4, rf2)))) (hc : c ≤ 4) (hrf : ∀ i, i < 4 → rf i = some (b + 3 * pi i + 3)) (hpo : ∀ a, a < c → h (b + 3 * pi a + 3) = some (.inl (1, [.inl (cm a : Int), .inl (t a : Int), .inr (some (b + 3 * pi a + 4)), .inr (some (b + 3 * pi a + 5))]))) (hcm : ∀ a, a < c → cm a < 81) (hc2 : c2 ≤ 4) (hrf2 : ∀ i, i < 4 → rf2 i = some (b2 + 3 * pi2 i + 3)) (hpo2 : ∀ a, a < c2 → h (b2 + 3 * pi2 a + 3) = some (.inl (1, [.inl (cm2 a : Int), .inl (t2 a : Int), .inr (some (b2 + 3 * pi2 a + 4)), .inr (some (b2 + 3 * pi2 a + 5))]))) (hcm2 : ∀ a, a < c2 → cm2 a < 81) (hQ : Q (some (.inl ((zcnt (fun a => !(List.range c2).any (fun q => cm2 q == cm a)) c) : Int))) n k h) : ZT n0 g mX7_countCornersOutside 0 (zloc mX7_countCornersOutside [.inr (some b), .inr (some b2)]) [] n k h Q := by
  show ZT n0 g mX7_countCornersOutside 0 [some (.inr (some b)), some (.inr (some b2)), none, none] [] n k h Q
  refine T_iconst dX7_countCornersOutside_0 (by decide) ?_
  refine T_istore_n dX7_countCornersOutside_1 (Nat.le_of_ble_eq_true rfl) ?_
  refine T_iconst dX7_countCornersOutside_2 (by decide) ?_
  refine T_istore_n dX7_countCornersOutside_3 (Nat.le_of_ble_eq_true rfl) ?_
  exact m_X7_countCornersOutside_4 h0 h2 h02 h22 hc hrf hpo hcm hc2 hrf2 hpo2 hcm2 hQ _ 0 0 rfl  (by omega) rfl 
