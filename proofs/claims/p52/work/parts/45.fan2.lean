/-! ===== Fan (questions): printed by wip/whole/gen/s_fan2.py ===== -/
set_option maxHeartbeats 4000000 in
set_option maxRecDepth 100000 in
theorem m_X7_holdsTermsOf_2 {n0 n k : Nat} {g : Nat → zV} {h : zHp} {Q : Option zV → Nat → Nat → zHp → Prop} {b c : Nat} {wt wb : Int} {rf : Nat → Option Nat} {pi cm t : Nat → Nat} {mo fa : Nat → Nat → Int} {ce : Nat → Nat → Int} {a m2 t2 : Nat} {mo2 fa2 C : Nat → Int} (h0 : h b = some (.inl (8, [.inr (some (b + 1)), .inl (c : Int), .inr (some (b + 2)), .inl wt, .inl wb]))) (h2 : h (b + 2) = some (.inr (.inr (1, 4, rf)))) (hA0 : h a = some (.inl (1, [.inl (m2 : Int), .inl (t2 : Int), .inr (some (a + 1)), .inr (some (a + 2))]))) (hA1 : h (a + 1) = some (.inr (.inl (0, 9, mo2)))) (hA2 : h (a + 2) = some (.inr (.inl (0, 9, fa2)))) (hc : c ≤ 4) (hrf : ∀ i, i < 4 → rf i = some (b + 3 * pi i + 3)) (hpo : ∀ a, a < c → h (b + 3 * pi a + 3) = some (.inl (1, [.inl (cm a : Int), .inl (t a : Int), .inr (some (b + 3 * pi a + 4)), .inr (some (b + 3 * pi a + 5))]))) (hcm : ∀ a, a < c → cm a < 81) (hmo : ∀ a, a < c → h (b + 3 * pi a + 4) = some (.inr (.inl (0, 9, mo a))) ∧ h (b + 3 * pi a + 5) = some (.inr (.inl (0, 9, fa a))) ∧ t a ≤ 9) (hre : ∀ a, a < c → zRep (t a) (mo a) (fa a) (ce a)) (ht2 : t2 ≤ 9) (hC : zRep t2 mo2 fa2 C) (hT : (∃ q, q < c ∧ ∀ x, ce q x = C x) → Q (some (.inl 1)) n k h) (hF : (∀ q, q < c → ¬ ∀ x, ce q x = C x) → Q (some (.inl 0)) n k h) : ∀ (d : Nat) (j : Nat), c - j = d → (j ≤ c) → (∀ q, q < j → ¬ ∀ x, ce q x = C x) → ZT n0 g mX7_holdsTermsOf 2 [some (.inr (some b)), some (.inr (some a)), some (.inl (j : Int))] [] n k h Q := by
  intro d
  induction d using Nat.strongRecOn with | _ d ih => ?_
  intro j hd0 hj hn
  subst hd0
  refine T_iload_n dX7_holdsTermsOf_2 rfl ?_
  refine T_aload_n dX7_holdsTermsOf_3 rfl ?_
  refine T_getfield dX7_holdsTermsOf_4 zkf_8_15 h0 rfl ?_
  refine T_icmp_ge dX7_holdsTermsOf_7 (t := 31) rfl (fun c7 => ?_) (fun c7 => ?_)
  · refine T_iconst dX7_holdsTermsOf_31 (by decide) ?_
    refine T_iret dX7_holdsTermsOf_32 rfl ?_
    exact hF (fun q hq => hn q (by omega))
  · refine T_aload_n dX7_holdsTermsOf_10 rfl ?_
    refine T_getfield dX7_holdsTermsOf_11 zkf_8_21 h0 rfl ?_
    refine T_iload_n dX7_holdsTermsOf_14 rfl ?_
    refine T_aaloadN (m := j) (r := some (b + 3 * pi j + 3)) dX7_holdsTermsOf_15 h2 rfl (by omega) (hrf j (by omega)) ?_
    refine T_aload_n dX7_holdsTermsOf_16 rfl ?_
    refine T_callV dX7_holdsTermsOf_17 zkm_8_92 (Or.inl rfl) rfl (hpo j (by omega)) ⟨Nat.le_of_ble_eq_true rfl, rfl⟩ rfl (Nat.le_of_ble_eq_true rfl) ?_
    refine m_X0_hasTermsOf (hpo j (by omega)) (hmo j (by omega)).1 (hmo j (by omega)).2.1 hA0 hA1 hA2 ⟨(hmo j (by omega)).2.2, ht2⟩ (fun k17a => ?_) (fun k17a_2 => ?_)
    · refine T_if_eq dX7_holdsTermsOf_20 (t := 25) rfl (fun hc => absurd hc (by decide)) (fun _ => ?_)
      refine T_iconst dX7_holdsTermsOf_23 (by decide) ?_
      refine T_iret dX7_holdsTermsOf_24 rfl ?_
      exact hT ⟨j, by omega, (zRep_same (hre j (by omega)) hC).mp k17a⟩
    · refine T_if_eq dX7_holdsTermsOf_20 (t := 25) rfl (fun _ => ?_) (fun hc => absurd hc (by decide))
      refine T_iinc dX7_holdsTermsOf_25 rfl ⟨by omega, by omega⟩ ?_
      refine T_goto dX7_holdsTermsOf_28 (t := 2) rfl ?_
      exact ih _ (by omega) (j + 1) rfl  (by omega) (fun i hi => by
            by_cases e : i = j
            · subst e; exact fun e => k17a_2 ((zRep_same (hre i (by omega)) hC).mpr e)
            · exact hn i (by omega)) 
set_option maxHeartbeats 4000000 in
set_option maxRecDepth 100000 in
theorem m_X7_holdsTermsOf {n0 n k : Nat} {g : Nat → zV} {h : zHp} {Q : Option zV → Nat → Nat → zHp → Prop} {b c : Nat} {wt wb : Int} {rf : Nat → Option Nat} {pi cm t : Nat → Nat} {mo fa : Nat → Nat → Int} {ce : Nat → Nat → Int} {a m2 t2 : Nat} {mo2 fa2 C : Nat → Int} (h0 : h b = some (.inl (8, [.inr (some (b + 1)), .inl (c : Int), .inr (some (b + 2)), .inl wt, .inl wb]))) (h2 : h (b + 2) = some (.inr (.inr (1, 4, rf)))) (hA0 : h a = some (.inl (1, [.inl (m2 : Int), .inl (t2 : Int), .inr (some (a + 1)), .inr (some (a + 2))]))) (hA1 : h (a + 1) = some (.inr (.inl (0, 9, mo2)))) (hA2 : h (a + 2) = some (.inr (.inl (0, 9, fa2)))) (hc : c ≤ 4) (hrf : ∀ i, i < 4 → rf i = some (b + 3 * pi i + 3)) (hpo : ∀ a, a < c → h (b + 3 * pi a + 3) = some (.inl (1, [.inl (cm a : Int), .inl (t a : Int), .inr (some (b + 3 * pi a + 4)), .inr (some (b + 3 * pi a + 5))]))) (hcm : ∀ a, a < c → cm a < 81) (hmo : ∀ a, a < c → h (b + 3 * pi a + 4) = some (.inr (.inl (0, 9, mo a))) ∧ h (b + 3 * pi a + 5) = some (.inr (.inl (0, 9, fa a))) ∧ t a ≤ 9) (hre : ∀ a, a < c → zRep (t a) (mo a) (fa a) (ce a)) (ht2 : t2 ≤ 9) (hC : zRep t2 mo2 fa2 C) (hT : (∃ q, q < c ∧ ∀ x, ce q x = C x) → Q (some (.inl 1)) n k h) (hF : (∀ q, q < c → ¬ ∀ x, ce q x = C x) → Q (some (.inl 0)) n k h) : ZT n0 g mX7_holdsTermsOf 0 (zloc mX7_holdsTermsOf [.inr (some b), .inr (some a)]) [] n k h Q := by
  show ZT n0 g mX7_holdsTermsOf 0 [some (.inr (some b)), some (.inr (some a)), none] [] n k h Q
  refine T_iconst dX7_holdsTermsOf_0 (by decide) ?_
  refine T_istore_n dX7_holdsTermsOf_1 (Nat.le_of_ble_eq_true rfl) ?_
  exact m_X7_holdsTermsOf_2 h0 h2 hA0 hA1 hA2 hc hrf hpo hcm hmo hre ht2 hC hT hF _ 0 rfl  (by omega) (fun i hi => absurd hi (Nat.not_lt_zero i)) 
set_option maxHeartbeats 4000000 in
set_option maxRecDepth 100000 in
theorem m_X2_find {n0 n k : Nat} {g : Nat → zV} {h : zHp} {Q : Option zV → Nat → Nat → zHp → Prop} {f N : Nat} {cf : Nat → Option Nat} {cb : Nat → Nat} {i : Int} (hF0 : h f = some (.inl (3, [.inl (N : Int), .inr (some (f + 1))]))) (hF1 : h (f + 1) = some (.inr (.inr (8, 22, cf)))) (hN : N ≤ 22) (hcf : ∀ i, i < N → cf i = some (cb i)) (hT : ∀ (j : Nat), (j < N) → (i = (j : Int)) → Q (some (.inr (some (cb j)))) n k h) (hF : (¬ (0 ≤ i ∧ i < (N : Int))) → Q (some (.inr none)) n k h) : ZT n0 g mX2_find 0 (zloc mX2_find [.inr (some f), .inl i]) [] n k h Q := by
  show ZT n0 g mX2_find 0 [some (.inr (some f)), some (.inl i)] [] n k h Q
  refine T_iload_n dX2_find_0 rfl ?_
  refine T_if_lt dX2_find_1 (t := 21) rfl (fun c1 => ?_) (fun c1 => ?_)
  · refine T_null dX2_find_21 ?_
    refine T_aret dX2_find_22 rfl ?_
    first | exact hF (by omega) | exact hT j (by omega) rfl
  · refine T_iload_n dX2_find_4 rfl ?_
    refine T_aload_n dX2_find_5 rfl ?_
    refine T_getfield dX2_find_6 zkf_3_9 hF0 rfl ?_
    refine T_icmp_ge dX2_find_9 (t := 21) rfl (fun c9 => ?_) (fun c9 => ?_)
    · refine T_null dX2_find_21 ?_
      refine T_aret dX2_find_22 rfl ?_
      first | exact hF (by omega) | exact hT j (by omega) rfl
    · obtain ⟨j, rfl⟩ := Int.eq_ofNat_of_zero_le (show 0 ≤ i by omega)
      refine T_aload_n dX2_find_12 rfl ?_
      refine T_getfield dX2_find_13 zkf_3_17 hF0 rfl ?_
      refine T_iload_n dX2_find_16 rfl ?_
      refine T_aaloadN (m := j) (r := some (cb j)) dX2_find_17 hF1 rfl (by omega) (hcf j (by omega)) ?_
      refine T_goto dX2_find_18 (t := 22) rfl ?_
      refine T_aret dX2_find_22 rfl ?_
      first | exact hF (by omega) | exact hT j (by omega) rfl
set_option maxHeartbeats 4000000 in
set_option maxRecDepth 100000 in
theorem m_X2_firstWithin_2 {n0 n k : Nat} {g : Nat → zV} {h : zHp} {Q : Option zV → Nat → Nat → zHp → Prop} {f N : Nat} {cf : Nat → Option Nat} {cb : Nat → Nat} {B : Nat → bT} {W : Nat → Nat × Nat} {u v : Int} (hF0 : h f = some (.inl (3, [.inl (N : Int), .inr (some (f + 1))]))) (hF1 : h (f + 1) = some (.inr (.inr (8, 22, cf)))) (hN : N ≤ 22) (hcf : ∀ i, i < N → cf i = some (cb i)) (hkn : ∀ i, i < N → bsAt h (cb i) (B i) (W i)) (hB : ∀ i, i < N → (B i).2.1 ≤ 4 ∧ (∀ j, j < 9 → (B i).1 j ≤ 8) ∧ ∀ a, a < (B i).2.1 → (B i).2.2.1 a < 81) (hW : ∀ i, i < N → (W i).1 ≤ 8 ∧ (W i).2 ≤ 8) (huv : 0 ≤ u ∧ u ≤ 99 ∧ 0 ≤ v ∧ v ≤ 99) (hl : 1 ≤ N ∧ (W (N - 1)).2 = 0) (hQ : ∀ (q : Nat), (q < N) → (¬ ((W q).2 ≠ 0 ∧ v * ((W q).2 : Int) > ((W q).1 : Int) * u)) → (∀ i, i < q → ((W i).2 ≠ 0 ∧ v * ((W i).2 : Int) > ((W i).1 : Int) * u)) → Q (some (.inl (q : Int))) n k h) : ∀ (d : Nat) (j : Nat), N - j = d → (j < N) → (∀ i, i < j → ((W i).2 ≠ 0 ∧ v * ((W i).2 : Int) > ((W i).1 : Int) * u)) → ZT n0 g mX2_firstWithin 2 [some (.inr (some f)), some (.inl u), some (.inl v), some (.inl (j : Int))] [] n k h Q := by
  intro d
  induction d using Nat.strongRecOn with | _ d ih => ?_
  intro j hd0 hj hn
  subst hd0
  refine T_iload_n dX2_firstWithin_2 rfl ?_
  refine T_aload_n dX2_firstWithin_3 rfl ?_
  refine T_getfield dX2_firstWithin_4 zkf_3_9 hF0 rfl ?_
  refine T_icmp_ge dX2_firstWithin_7 (t := 32) rfl (fun hc => absurd hc (by omega)) (fun _ => ?_)
  refine T_aload_n dX2_firstWithin_10 rfl ?_
  refine T_getfield dX2_firstWithin_11 zkf_3_17 hF0 rfl ?_
  refine T_iload_n dX2_firstWithin_14 rfl ?_
  refine T_aaloadN (m := j) (r := some (cb j)) dX2_firstWithin_15 hF1 rfl (by omega) (hcf j (by omega)) ?_
  obtain ⟨hf, rf, pi, t, mo, fa, d0, d1, d2, d3, d4, d5, d6, d7⟩ := (hkn j (by omega)).open4
  have dB := hB j (by omega)
  refine T_iload_n dX2_firstWithin_16 rfl ?_
  refine T_iload_n dX2_firstWithin_17 rfl ?_
  refine T_callV dX2_firstWithin_18 zkm_3_42 (Or.inl rfl) rfl d0 ⟨Nat.le_of_ble_eq_true rfl, rfl⟩ rfl (Nat.le_of_ble_eq_true rfl) ?_
  refine m_X7_hasAboveWall d0 (by have := hW j (by omega); omega) huv (fun k18a => ?_) (fun k18a_2 => ?_)
  · refine T_if_ne dX2_firstWithin_21 (t := 26) rfl (fun _ => ?_) (fun hc => absurd hc (by decide))
    refine T_iinc dX2_firstWithin_26 rfl ⟨by omega, by omega⟩ ?_
    refine T_goto dX2_firstWithin_29 (t := 2) rfl ?_
    exact ih _ (by omega) (j + 1) rfl  (by
          refine Nat.lt_of_not_le fun hx => ?_
          have ej : N - 1 = j := by omega
          rw [ej] at hl
          exact k18a.1 (by rw [hl.2]; rfl)) (fun i hi => by
          by_cases e : i = j
          · subst e; exact ⟨fun q => k18a.1 (by rw [q]; rfl), k18a.2⟩
          · exact hn i (by omega)) 
  · refine T_if_ne dX2_firstWithin_21 (t := 26) rfl (fun hc => absurd hc (by decide)) (fun _ => ?_)
    refine T_iload_n dX2_firstWithin_24 rfl ?_
    refine T_iret dX2_firstWithin_25 rfl ?_
    exact hQ j hj (fun q => k18a_2 ⟨fun e => q.1 (by omega), q.2⟩) hn
set_option maxHeartbeats 4000000 in
set_option maxRecDepth 100000 in
theorem m_X2_firstWithin {n0 n k : Nat} {g : Nat → zV} {h : zHp} {Q : Option zV → Nat → Nat → zHp → Prop} {f N : Nat} {cf : Nat → Option Nat} {cb : Nat → Nat} {B : Nat → bT} {W : Nat → Nat × Nat} {u v : Int} (hF0 : h f = some (.inl (3, [.inl (N : Int), .inr (some (f + 1))]))) (hF1 : h (f + 1) = some (.inr (.inr (8, 22, cf)))) (hN : N ≤ 22) (hcf : ∀ i, i < N → cf i = some (cb i)) (hkn : ∀ i, i < N → bsAt h (cb i) (B i) (W i)) (hB : ∀ i, i < N → (B i).2.1 ≤ 4 ∧ (∀ j, j < 9 → (B i).1 j ≤ 8) ∧ ∀ a, a < (B i).2.1 → (B i).2.2.1 a < 81) (hW : ∀ i, i < N → (W i).1 ≤ 8 ∧ (W i).2 ≤ 8) (huv : 0 ≤ u ∧ u ≤ 99 ∧ 0 ≤ v ∧ v ≤ 99) (hl : 1 ≤ N ∧ (W (N - 1)).2 = 0) (hQ : ∀ (q : Nat), (q < N) → (¬ ((W q).2 ≠ 0 ∧ v * ((W q).2 : Int) > ((W q).1 : Int) * u)) → (∀ i, i < q → ((W i).2 ≠ 0 ∧ v * ((W i).2 : Int) > ((W i).1 : Int) * u)) → Q (some (.inl (q : Int))) n k h) : ZT n0 g mX2_firstWithin 0 (zloc mX2_firstWithin [.inr (some f), .inl u, .inl v]) [] n k h Q := by
  show ZT n0 g mX2_firstWithin 0 [some (.inr (some f)), some (.inl u), some (.inl v), none] [] n k h Q
  refine T_iconst dX2_firstWithin_0 (by decide) ?_
  refine T_istore_n dX2_firstWithin_1 (Nat.le_of_ble_eq_true rfl) ?_
  exact m_X2_firstWithin_2 hF0 hF1 hN hcf hkn hB hW huv hl hQ _ 0 rfl  (by omega) (fun i hi => absurd hi (Nat.not_lt_zero i)) 
set_option maxHeartbeats 4000000 in
set_option maxRecDepth 100000 in
theorem m_X2_isBefore_2 {n0 n k : Nat} {g : Nat → zV} {h : zHp} {Q : Option zV → Nat → Nat → zHp → Prop} {f N : Nat} {cf : Nat → Option Nat} {cb : Nat → Nat} {B : Nat → bT} {W : Nat → Nat × Nat} {k1 a m2 t2 : Nat} {mo2 fa2 C : Nat → Int} (hF0 : h f = some (.inl (3, [.inl (N : Int), .inr (some (f + 1))]))) (hF1 : h (f + 1) = some (.inr (.inr (8, 22, cf)))) (hA0 : h a = some (.inl (1, [.inl (m2 : Int), .inl (t2 : Int), .inr (some (a + 1)), .inr (some (a + 2))]))) (hA1 : h (a + 1) = some (.inr (.inl (0, 9, mo2)))) (hA2 : h (a + 2) = some (.inr (.inl (0, 9, fa2)))) (hN : N ≤ 22) (hcf : ∀ i, i < N → cf i = some (cb i)) (hkn : ∀ i, i < N → bsAt h (cb i) (B i) (W i)) (hB : ∀ i, i < N → (B i).2.1 ≤ 4 ∧ (∀ j, j < 9 → (B i).1 j ≤ 8) ∧ ∀ a, a < (B i).2.1 → (B i).2.2.1 a < 81) (ht2 : t2 ≤ 9) (hC : zRep t2 mo2 fa2 C) (hk1 : k1 < N) (hT : (znew B C k1 = false) → Q (some (.inl 1)) n k h) (hF : (znew B C k1 = true) → Q (some (.inl 0)) n k h) : ∀ (d : Nat) (j : Nat), k1 - j = d → (j ≤ k1) → (∀ i, i < j → ∀ a, a < (B i).2.1 → ¬ ∀ x, x < 81 → C x = (B i).2.2.2 a x) → ZT n0 g mX2_isBefore 2 [some (.inr (some f)), some (.inl (k1 : Int)), some (.inr (some a)), some (.inl (j : Int))] [] n k h Q := by
  intro d
  induction d using Nat.strongRecOn with | _ d ih => ?_
  intro j hd0 hj hn
  subst hd0
  refine T_iload_n dX2_isBefore_2 rfl ?_
  refine T_iload_n dX2_isBefore_3 rfl ?_
  refine T_icmp_ge dX2_isBefore_4 (t := 28) rfl (fun c4 => ?_) (fun c4 => ?_)
  · refine T_iconst dX2_isBefore_28 (by decide) ?_
    refine T_iret dX2_isBefore_29 rfl ?_
    exact hF (znew_iff.mpr (fun i hi => hn i (by omega)))
  · refine T_aload_n dX2_isBefore_7 rfl ?_
    refine T_getfield dX2_isBefore_8 zkf_3_17 hF0 rfl ?_
    refine T_iload_n dX2_isBefore_11 rfl ?_
    refine T_aaloadN (m := j) (r := some (cb j)) dX2_isBefore_12 hF1 rfl (by omega) (hcf j (by omega)) ?_
    obtain ⟨hf, rf, pi, t, mo, fa, d0, d1, d2, d3, d4, d5, d6, d7⟩ := (hkn j (by omega)).open4
    have dB := hB j (by omega)
    refine T_aload_n dX2_isBefore_13 rfl ?_
    refine T_callV dX2_isBefore_14 zkm_3_55 (Or.inl rfl) rfl d0 ⟨Nat.le_of_ble_eq_true rfl, rfl⟩ rfl (Nat.le_of_ble_eq_true rfl) ?_
    refine m_X7_holdsTermsOf (cm := (B j).2.2.1) (ce := (B j).2.2.2) d0 d2 hA0 hA1 hA2 dB.1 d4 d5 dB.2.2 d6 d7 ht2 hC (fun k14a => ?_) (fun k14a_2 => ?_)
    · refine T_if_eq dX2_isBefore_17 (t := 22) rfl (fun hc => absurd hc (by decide)) (fun _ => ?_)
      refine T_iconst dX2_isBefore_20 (by decide) ?_
      refine T_iret dX2_isBefore_21 rfl ?_
      exact hT (Bool.eq_false_iff.mpr (fun q => by
            obtain ⟨a1, ha, hx⟩ := k14a
            exact znew_iff.mp q j (by omega) a1 ha (fun x _ => (hx x).symm)))
    · refine T_if_eq dX2_isBefore_17 (t := 22) rfl (fun _ => ?_) (fun hc => absurd hc (by decide))
      refine T_iinc dX2_isBefore_22 rfl ⟨by omega, by omega⟩ ?_
      refine T_goto dX2_isBefore_25 (t := 2) rfl ?_
      exact ih _ (by omega) (j + 1) rfl  (by omega) (fun i hi a1 ha hx => by
            by_cases e : i = j
            · subst e; exact k14a_2 a1 ha (fun x => ((zRep_81 hC (d7 a1 ha)).mp hx x).symm)
            · exact hn i (by omega) a1 ha hx) 
set_option maxHeartbeats 4000000 in
set_option maxRecDepth 100000 in
theorem m_X2_isBefore {n0 n k : Nat} {g : Nat → zV} {h : zHp} {Q : Option zV → Nat → Nat → zHp → Prop} {f N : Nat} {cf : Nat → Option Nat} {cb : Nat → Nat} {B : Nat → bT} {W : Nat → Nat × Nat} {k1 a m2 t2 : Nat} {mo2 fa2 C : Nat → Int} (hF0 : h f = some (.inl (3, [.inl (N : Int), .inr (some (f + 1))]))) (hF1 : h (f + 1) = some (.inr (.inr (8, 22, cf)))) (hA0 : h a = some (.inl (1, [.inl (m2 : Int), .inl (t2 : Int), .inr (some (a + 1)), .inr (some (a + 2))]))) (hA1 : h (a + 1) = some (.inr (.inl (0, 9, mo2)))) (hA2 : h (a + 2) = some (.inr (.inl (0, 9, fa2)))) (hN : N ≤ 22) (hcf : ∀ i, i < N → cf i = some (cb i)) (hkn : ∀ i, i < N → bsAt h (cb i) (B i) (W i)) (hB : ∀ i, i < N → (B i).2.1 ≤ 4 ∧ (∀ j, j < 9 → (B i).1 j ≤ 8) ∧ ∀ a, a < (B i).2.1 → (B i).2.2.1 a < 81) (ht2 : t2 ≤ 9) (hC : zRep t2 mo2 fa2 C) (hk1 : k1 < N) (hT : (znew B C k1 = false) → Q (some (.inl 1)) n k h) (hF : (znew B C k1 = true) → Q (some (.inl 0)) n k h) : ZT n0 g mX2_isBefore 0 (zloc mX2_isBefore [.inr (some f), .inl (k1 : Int), .inr (some a)]) [] n k h Q := by
  show ZT n0 g mX2_isBefore 0 [some (.inr (some f)), some (.inl (k1 : Int)), some (.inr (some a)), none] [] n k h Q
  refine T_iconst dX2_isBefore_0 (by decide) ?_
  refine T_istore_n dX2_isBefore_1 (Nat.le_of_ble_eq_true rfl) ?_
  exact m_X2_isBefore_2 hF0 hF1 hA0 hA1 hA2 hN hcf hkn hB ht2 hC hk1 hT hF _ 0 rfl  (by omega) (fun i hi => absurd hi (Nat.not_lt_zero i)) 
set_option maxHeartbeats 4000000 in
set_option maxRecDepth 100000 in
theorem m_X2_countDistinctPolynomials_22 {n0 n k : Nat} {g : Nat → zV} {h : zHp} {Q : Option zV → Nat → Nat → zHp → Prop} {f N : Nat} {cf : Nat → Option Nat} {cb : Nat → Nat} {B : Nat → bT} {W : Nat → Nat × Nat} (hF0 : h f = some (.inl (3, [.inl (N : Int), .inr (some (f + 1))]))) (hF1 : h (f + 1) = some (.inr (.inr (8, 22, cf)))) (hN : N ≤ 22) (hcf : ∀ i, i < N → cf i = some (cb i)) (hkn : ∀ i, i < N → bsAt h (cb i) (B i) (W i)) (hB : ∀ i, i < N → (B i).2.1 ≤ 4 ∧ (∀ j, j < 9 → (B i).1 j ≤ 8) ∧ ∀ a, a < (B i).2.1 → (B i).2.2.1 a < 81)  : ∀ (d : Nat) (j : Nat) (w : Nat) (q : Nat), (B j).2.1 - q = d → (j < N) → (q ≤ (B j).2.1) → (w = zuc B j + zcnt (fun a => znew B ((B j).2.2.2 a) j) q) → (∀ (w : Nat) (q : Nat) , (w = zuc B (j + 1)) → ZT n0 g mX2_countDistinctPolynomials 55 [some (.inr (some f)), some (.inl (w : Int)), some (.inl (j : Int)), some (.inr (some (cb j))), some (.inl (q : Int))] [] n k h Q) → ZT n0 g mX2_countDistinctPolynomials 22 [some (.inr (some f)), some (.inl (w : Int)), some (.inl (j : Int)), some (.inr (some (cb j))), some (.inl (q : Int))] [] n k h Q := by
  intro d
  induction d using Nat.strongRecOn with | _ d ih => ?_
  intro j w q hd0 hj hq hw kk55
  subst hd0
  have hub := zuc_le (N := N) (fun i hi => (hB i hi).1) j (by omega)
  have hzb := zcnt_le (fun a => znew B ((B j).2.2.2 a) j) q
  obtain ⟨hf, rf, pi, t, mo, fa, d0, d1, d2, d3, d4, d5, d6, d7⟩ := (hkn j (by omega)).open4
  have dB := hB j (by omega)
  refine T_iload dX2_countDistinctPolynomials_22 rfl ?_
  refine T_aload_n dX2_countDistinctPolynomials_24 rfl ?_
  refine T_getfield dX2_countDistinctPolynomials_25 zkf_3_46 d0 rfl ?_
  refine T_icmp_ge dX2_countDistinctPolynomials_28 (t := 55) rfl (fun c28 => ?_) (fun c28 => ?_)
  · exact kk55 w q (by rw [hw, zuc, show q = (B j).2.1 by omega])
  · refine T_aload_n dX2_countDistinctPolynomials_31 rfl ?_
    refine T_iload_n dX2_countDistinctPolynomials_32 rfl ?_
    refine T_aload_n dX2_countDistinctPolynomials_33 rfl ?_
    refine T_getfield dX2_countDistinctPolynomials_34 zkf_3_47 d0 rfl ?_
    refine T_iload dX2_countDistinctPolynomials_37 rfl ?_
    refine T_aaloadN (m := q) (r := some (cb j + 3 * pi q + 3)) dX2_countDistinctPolynomials_39 d2 rfl (by omega) (d4 q (by omega)) ?_
    refine T_callV dX2_countDistinctPolynomials_40 zkm_3_51 (Or.inl rfl) rfl hF0 ⟨Nat.le_of_ble_eq_true rfl, rfl⟩ rfl (Nat.le_of_ble_eq_true rfl) ?_
    refine m_X2_isBefore (B := B) (W := W) (C := (B j).2.2.2 q) hF0 hF1 (d5 q (by omega)) (d6 q (by omega)).1 (d6 q (by omega)).2.1 (by omega) hcf hkn hB (d6 q (by omega)).2.2 (d7 q (by omega)) (by omega) (fun k40a => ?_) (fun k40a_2 => ?_)
    · refine T_if_ne dX2_countDistinctPolynomials_43 (t := 49) rfl (fun _ => ?_) (fun hc => absurd hc (by decide))
      refine T_iinc dX2_countDistinctPolynomials_49 rfl ⟨by omega, by omega⟩ ?_
      refine T_goto dX2_countDistinctPolynomials_52 (t := 22) rfl ?_
      exact ih _ (by omega) j w (q + 1) rfl  (by omega) (by omega) (by rw [hw, zcnt, if_neg (by rw [k40a]; decide)]; rfl) kk55
    · refine T_if_ne dX2_countDistinctPolynomials_43 (t := 49) rfl (fun hc => absurd hc (by decide)) (fun _ => ?_)
      refine T_iinc dX2_countDistinctPolynomials_46 rfl ⟨by omega, by omega⟩ ?_
      refine T_iinc dX2_countDistinctPolynomials_49 rfl ⟨by omega, by omega⟩ ?_
      refine T_goto dX2_countDistinctPolynomials_52 (t := 22) rfl ?_
      exact ih _ (by omega) j (w + 1) (q + 1) rfl  (by omega) (by omega) (by rw [hw, zcnt, if_pos k40a_2]; omega) kk55
set_option maxHeartbeats 4000000 in
set_option maxRecDepth 100000 in
theorem m_X2_countDistinctPolynomials_4 {n0 n k : Nat} {g : Nat → zV} {h : zHp} {Q : Option zV → Nat → Nat → zHp → Prop} {f N : Nat} {cf : Nat → Option Nat} {cb : Nat → Nat} {B : Nat → bT} {W : Nat → Nat × Nat} (hF0 : h f = some (.inl (3, [.inl (N : Int), .inr (some (f + 1))]))) (hF1 : h (f + 1) = some (.inr (.inr (8, 22, cf)))) (hN : N ≤ 22) (hcf : ∀ i, i < N → cf i = some (cb i)) (hkn : ∀ i, i < N → bsAt h (cb i) (B i) (W i)) (hB : ∀ i, i < N → (B i).2.1 ≤ 4 ∧ (∀ j, j < 9 → (B i).1 j ≤ 8) ∧ ∀ a, a < (B i).2.1 → (B i).2.2.1 a < 81) (hQ : Q (some (.inl ((zuc B N) : Int))) n k h) : ∀ (d : Nat) (j : Nat) (w : Nat) (L3 : Option zV) (L4 : Option zV), N - j = d → (j ≤ N) → (w = zuc B j) → ZT n0 g mX2_countDistinctPolynomials 4 [some (.inr (some f)), some (.inl (w : Int)), some (.inl (j : Int)), L3, L4] [] n k h Q := by
  intro d
  induction d using Nat.strongRecOn with | _ d ih => ?_
  intro j w L3 L4 hd0 hj hw
  subst hd0
  refine T_iload_n dX2_countDistinctPolynomials_4 rfl ?_
  refine T_aload_n dX2_countDistinctPolynomials_5 rfl ?_
  refine T_getfield dX2_countDistinctPolynomials_6 zkf_3_9 hF0 rfl ?_
  refine T_icmp_ge dX2_countDistinctPolynomials_9 (t := 61) rfl (fun c9 => ?_) (fun c9 => ?_)
  · refine T_iload_n dX2_countDistinctPolynomials_61 rfl ?_
    refine T_iret dX2_countDistinctPolynomials_62 rfl ?_
    rw [hw, show j = N by omega]
    exact hQ
  · refine T_aload_n dX2_countDistinctPolynomials_12 rfl ?_
    refine T_getfield dX2_countDistinctPolynomials_13 zkf_3_17 hF0 rfl ?_
    refine T_iload_n dX2_countDistinctPolynomials_16 rfl ?_
    
    refine T_aaloadN (m := j) (r := some (cb j)) dX2_countDistinctPolynomials_17 hF1 rfl (by omega) (hcf j (by omega)) ?_
    refine T_astore_n dX2_countDistinctPolynomials_18 (Nat.le_of_ble_eq_true rfl) ?_
    refine T_iconst dX2_countDistinctPolynomials_19 (by decide) ?_
    refine T_istore dX2_countDistinctPolynomials_20 (Nat.le_of_ble_eq_true rfl) ?_
    refine m_X2_countDistinctPolynomials_22 hF0 hF1 hN hcf hkn hB _ j w 0 rfl  (by omega) (by omega) hw (fun w55 q55 xw_55 => ?_)
    refine T_iinc dX2_countDistinctPolynomials_55 rfl ⟨by omega, by omega⟩ ?_
    refine T_goto dX2_countDistinctPolynomials_58 (t := 4) rfl ?_
    exact ih _ (by omega) (j + 1) w55 _ _ rfl  (by omega) xw_55 
set_option maxHeartbeats 4000000 in
set_option maxRecDepth 100000 in
theorem m_X2_countDistinctPolynomials {n0 n k : Nat} {g : Nat → zV} {h : zHp} {Q : Option zV → Nat → Nat → zHp → Prop} {f N : Nat} {cf : Nat → Option Nat} {cb : Nat → Nat} {B : Nat → bT} {W : Nat → Nat × Nat} (hF0 : h f = some (.inl (3, [.inl (N : Int), .inr (some (f + 1))]))) (hF1 : h (f + 1) = some (.inr (.inr (8, 22, cf)))) (hN : N ≤ 22) (hcf : ∀ i, i < N → cf i = some (cb i)) (hkn : ∀ i, i < N → bsAt h (cb i) (B i) (W i)) (hB : ∀ i, i < N → (B i).2.1 ≤ 4 ∧ (∀ j, j < 9 → (B i).1 j ≤ 8) ∧ ∀ a, a < (B i).2.1 → (B i).2.2.1 a < 81) (hQ : Q (some (.inl ((zuc B N) : Int))) n k h) : ZT n0 g mX2_countDistinctPolynomials 0 (zloc mX2_countDistinctPolynomials [.inr (some f)]) [] n k h Q := by
  show ZT n0 g mX2_countDistinctPolynomials 0 [some (.inr (some f)), none, none, none, none] [] n k h Q
  refine T_iconst dX2_countDistinctPolynomials_0 (by decide) ?_
  refine T_istore_n dX2_countDistinctPolynomials_1 (Nat.le_of_ble_eq_true rfl) ?_
  refine T_iconst dX2_countDistinctPolynomials_2 (by decide) ?_
  refine T_istore_n dX2_countDistinctPolynomials_3 (Nat.le_of_ble_eq_true rfl) ?_
  exact m_X2_countDistinctPolynomials_4 hF0 hF1 hN hcf hkn hB hQ _ 0 0 _ _ rfl  (by omega) rfl 
set_option maxHeartbeats 4000000 in
set_option maxRecDepth 100000 in
theorem m_X2_greatestDegree_22 {n0 n k : Nat} {g : Nat → zV} {h : zHp} {Q : Option zV → Nat → Nat → zHp → Prop} {f N : Nat} {cf : Nat → Option Nat} {cb : Nat → Nat} {B : Nat → bT} {W : Nat → Nat × Nat} (hF0 : h f = some (.inl (3, [.inl (N : Int), .inr (some (f + 1))]))) (hF1 : h (f + 1) = some (.inr (.inr (8, 22, cf)))) (hN : N ≤ 22) (hcf : ∀ i, i < N → cf i = some (cb i)) (hkn : ∀ i, i < N → bsAt h (cb i) (B i) (W i)) (hB : ∀ i, i < N → (B i).2.1 ≤ 4 ∧ (∀ j, j < 9 → (B i).1 j ≤ 8) ∧ ∀ a, a < (B i).2.1 → (B i).2.2.1 a < 81)  : ∀ (d : Nat) (j : Nat) (w : Int) (q : Nat), (B j).2.1 - q = d → (j < N) → (q ≤ (B j).2.1) → (0 ≤ w ∧ w ≤ 16) → (∀ i, i < j + 1 → ∀ a, a < (B i).2.1 → (i = j → a < q) → ∀ x : Nat, (B i).2.2.2 a x ≠ 0 → (x : Int) / 9 + (x : Int) % 9 ≤ w) → (w = 0 ∨ ∃ i, i < j + 1 ∧ ∃ a, a < (B i).2.1 ∧ ∃ x : Nat, (B i).2.2.2 a x ≠ 0 ∧ w = (x : Int) / 9 + (x : Int) % 9) → (∀ (w : Int) (q : Nat) , (zgd B (j + 1) w) → ZT n0 g mX2_greatestDegree 52 [some (.inr (some f)), some (.inl w), some (.inl (j : Int)), some (.inr (some (cb j))), some (.inl (q : Int))] [] n k h Q) → ZT n0 g mX2_greatestDegree 22 [some (.inr (some f)), some (.inl w), some (.inl (j : Int)), some (.inr (some (cb j))), some (.inl (q : Int))] [] n k h Q := by
  intro d
  induction d using Nat.strongRecOn with | _ d ih => ?_
  intro j w q hd0 hj hq h0 h1 h2 kk52
  subst hd0
  obtain ⟨hf, rf, pi, t, mo, fa, d0, d1, d2, d3, d4, d5, d6, d7⟩ := (hkn j (by omega)).open4
  have dB := hB j (by omega)
  refine T_iload dX2_greatestDegree_22 rfl ?_
  refine T_aload_n dX2_greatestDegree_24 rfl ?_
  refine T_getfield dX2_greatestDegree_25 zkf_3_46 d0 rfl ?_
  refine T_icmp_ge dX2_greatestDegree_28 (t := 52) rfl (fun c28 => ?_) (fun c28 => ?_)
  · exact kk52 w q ⟨h0.1, h0.2, fun i hi a ha x hx => h1 i hi a ha (fun e => by subst e; omega) x hx, h2⟩
  · refine T_iload_n dX2_greatestDegree_31 rfl ?_
    refine T_aload_n dX2_greatestDegree_32 rfl ?_
    refine T_getfield dX2_greatestDegree_33 zkf_3_47 d0 rfl ?_
    refine T_iload dX2_greatestDegree_36 rfl ?_
    refine T_aaloadN (m := q) (r := some (cb j + 3 * pi q + 3)) dX2_greatestDegree_38 d2 rfl (by omega) (d4 q (by omega)) ?_
    refine T_callV dX2_greatestDegree_39 zkm_3_59 (Or.inl rfl) rfl (d5 q (by omega)) ⟨Nat.le_of_ble_eq_true rfl, rfl⟩ rfl (Nat.le_of_ble_eq_true rfl) ?_
    refine m_X0_degree (fa := fa q) (d5 q (by omega)) (d6 q (by omega)).1 (d6 q (by omega)).2.1 (d6 q (by omega)).2.2 (fun i hi => ⟨((d7 q (by omega)).1 i hi).1, ((d7 q (by omega)).1 i hi).2.1⟩) (fun g39 k39a k39b k39c => ?_)
    refine T_callS dX2_greatestDegree_42 zkm_3_65 ⟨Nat.le_of_ble_eq_true rfl, Nat.le_of_ble_eq_true rfl, rfl⟩ rfl (Nat.le_of_ble_eq_true rfl) ?_
    refine m_Jmax   ?_
    refine T_istore_n dX2_greatestDegree_45 (Nat.le_of_ble_eq_true rfl) ?_
    refine T_iinc dX2_greatestDegree_46 rfl ⟨by omega, by omega⟩ ?_
    refine T_goto dX2_greatestDegree_49 (t := 22) rfl ?_
    exact ih _ (by omega) j (max w g39) (q + 1) rfl  (by omega) (by omega) (by omega) (fun i hi a ha hq2 x hx => by
          by_cases e : i = j ∧ a = q
          · obtain ⟨rfl, rfl⟩ := e
            obtain ⟨r, hr, er⟩ := (d7 a ha).2.2 x hx
            have := k39b r hr
            rw [er] at this; omega
          · have := h1 i hi a ha (fun e2 => by have := hq2 e2; omega) x hx; omega) (by
          by_cases c : w ≤ g39
          · rcases k39c with e | ⟨r, hr, er⟩
            · exact Or.inl (by omega)
            · obtain ⟨r1, r2, r3, r4⟩ := (d7 q (by omega)).1 r hr
              exact Or.inr ⟨j, by omega, q, by omega, (mo q r).toNat, by rw [r4]; exact r3, by rw [Int.toNat_of_nonneg r1]; omega⟩
          · rcases h2 with e | ⟨i, hi, a, ha, x, hx, e⟩
            · exact Or.inl (by omega)
            · exact Or.inr ⟨i, hi, a, ha, x, hx, by omega⟩) kk52
set_option maxHeartbeats 4000000 in
set_option maxRecDepth 100000 in
theorem m_X2_greatestDegree_4 {n0 n k : Nat} {g : Nat → zV} {h : zHp} {Q : Option zV → Nat → Nat → zHp → Prop} {f N : Nat} {cf : Nat → Option Nat} {cb : Nat → Nat} {B : Nat → bT} {W : Nat → Nat × Nat} (hF0 : h f = some (.inl (3, [.inl (N : Int), .inr (some (f + 1))]))) (hF1 : h (f + 1) = some (.inr (.inr (8, 22, cf)))) (hN : N ≤ 22) (hcf : ∀ i, i < N → cf i = some (cb i)) (hkn : ∀ i, i < N → bsAt h (cb i) (B i) (W i)) (hB : ∀ i, i < N → (B i).2.1 ≤ 4 ∧ (∀ j, j < 9 → (B i).1 j ≤ 8) ∧ ∀ a, a < (B i).2.1 → (B i).2.2.1 a < 81) (hQ : ∀ (g : Int), (zgd B N g) → Q (some (.inl g)) n k h) : ∀ (d : Nat) (j : Nat) (w : Int) (L3 : Option zV) (L4 : Option zV), N - j = d → (j ≤ N) → (zgd B j w) → ZT n0 g mX2_greatestDegree 4 [some (.inr (some f)), some (.inl w), some (.inl (j : Int)), L3, L4] [] n k h Q := by
  intro d
  induction d using Nat.strongRecOn with | _ d ih => ?_
  intro j w L3 L4 hd0 hj hw
  subst hd0
  refine T_iload_n dX2_greatestDegree_4 rfl ?_
  refine T_aload_n dX2_greatestDegree_5 rfl ?_
  refine T_getfield dX2_greatestDegree_6 zkf_3_9 hF0 rfl ?_
  refine T_icmp_ge dX2_greatestDegree_9 (t := 58) rfl (fun c9 => ?_) (fun c9 => ?_)
  · refine T_iload_n dX2_greatestDegree_58 rfl ?_
    refine T_iret dX2_greatestDegree_59 rfl ?_
    exact hQ _ (by rw [show N = j by omega]; exact hw)
  · refine T_aload_n dX2_greatestDegree_12 rfl ?_
    refine T_getfield dX2_greatestDegree_13 zkf_3_17 hF0 rfl ?_
    refine T_iload_n dX2_greatestDegree_16 rfl ?_
    refine T_aaloadN (m := j) (r := some (cb j)) dX2_greatestDegree_17 hF1 rfl (by omega) (hcf j (by omega)) ?_
    refine T_astore_n dX2_greatestDegree_18 (Nat.le_of_ble_eq_true rfl) ?_
    refine T_iconst dX2_greatestDegree_19 (by decide) ?_
    refine T_istore dX2_greatestDegree_20 (Nat.le_of_ble_eq_true rfl) ?_
    refine m_X2_greatestDegree_22 hF0 hF1 hN hcf hkn hB _ j w 0 rfl  (by omega) (by omega) ⟨hw.1, hw.2.1⟩ (fun i hi a ha hq x hx => hw.2.2.1 i (by
          by_cases e : i = j
          · exact absurd (hq e) (Nat.not_lt_zero a)
          · omega) a ha x hx) (hw.2.2.2.imp id (fun ⟨i, hi, r⟩ => ⟨i, by omega, r⟩)) (fun w52 q52 xw_52 => ?_)
    refine T_iinc dX2_greatestDegree_52 rfl ⟨by omega, by omega⟩ ?_
    refine T_goto dX2_greatestDegree_55 (t := 4) rfl ?_
    exact ih _ (by omega) (j + 1) w52 _ _ rfl  (by omega) xw_52 
set_option maxHeartbeats 4000000 in
set_option maxRecDepth 100000 in
theorem m_X2_greatestDegree {n0 n k : Nat} {g : Nat → zV} {h : zHp} {Q : Option zV → Nat → Nat → zHp → Prop} {f N : Nat} {cf : Nat → Option Nat} {cb : Nat → Nat} {B : Nat → bT} {W : Nat → Nat × Nat} (hF0 : h f = some (.inl (3, [.inl (N : Int), .inr (some (f + 1))]))) (hF1 : h (f + 1) = some (.inr (.inr (8, 22, cf)))) (hN : N ≤ 22) (hcf : ∀ i, i < N → cf i = some (cb i)) (hkn : ∀ i, i < N → bsAt h (cb i) (B i) (W i)) (hB : ∀ i, i < N → (B i).2.1 ≤ 4 ∧ (∀ j, j < 9 → (B i).1 j ≤ 8) ∧ ∀ a, a < (B i).2.1 → (B i).2.2.1 a < 81) (hQ : ∀ (g : Int), (zgd B N g) → Q (some (.inl g)) n k h) : ZT n0 g mX2_greatestDegree 0 (zloc mX2_greatestDegree [.inr (some f)]) [] n k h Q := by
  show ZT n0 g mX2_greatestDegree 0 [some (.inr (some f)), none, none, none, none] [] n k h Q
  refine T_iconst dX2_greatestDegree_0 (by decide) ?_
  refine T_istore_n dX2_greatestDegree_1 (Nat.le_of_ble_eq_true rfl) ?_
  refine T_iconst dX2_greatestDegree_2 (by decide) ?_
  refine T_istore_n dX2_greatestDegree_3 (Nat.le_of_ble_eq_true rfl) ?_
  exact m_X2_greatestDegree_4 hF0 hF1 hN hcf hkn hB hQ _ 0 0 _ _ rfl  (by omega) ⟨by omega, by omega, fun i hi => absurd hi (Nat.not_lt_zero i), Or.inl rfl⟩ 
