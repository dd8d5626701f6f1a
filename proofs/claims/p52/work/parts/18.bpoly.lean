/-! ===== GroebnerFan$BasisPolynomial: printed by wip/whole/gen/s_bpoly.py ===== -/
set_option maxHeartbeats 4000000 in
set_option maxRecDepth 100000 in
theorem m_X0_insertTerm_23 {n0 n k : Nat} {g : Nat → zV} {h : zHp} {Q : Option zV → Nat → Nat → zHp → Prop} {a c t : Nat} {mo fa : Nat → Int} {m : Nat} {f : Int} (hA0 : h a = some (.inl (1, [.inl (c : Int), .inl (t : Int), .inr (some (a + 1)), .inr (some (a + 2))]))) (hA1 : h (a + 1) = some (.inr (.inl (0, 9, mo)))) (hA2 : h (a + 2) = some (.inr (.inl (0, 9, fa)))) (ht : t < 9) (hw : n0 ≤ a) (hQ : ∀ (q : Nat) (mo' fa' : Nat → Int) (h' : zHp), (q ≤ t) → (∀ j, j < q → (q ≤ t ∧ (j = q - 1 → mo j ≥ (m : Int)))) → (∀ j, q ≤ j → j < t → mo j < (m : Int)) → (∀ j, j < t + 1 → mo' j = (if j < q then mo j else if j = q then (m : Int) else mo (j - 1))) → (∀ j, j < t + 1 → fa' j = (if j < q then fa j else if j = q then f else fa (j - 1))) → h' a = some (.inl (1, [.inl (c : Int), .inl ((t : Int) + 1), .inr (some (a + 1)), .inr (some (a + 2))])) → h' (a + 1) = some (.inr (.inl (0, 9, mo'))) → h' (a + 2) = some (.inr (.inl (0, 9, fa'))) → (∀ q : Nat, q ≠ a → q ≠ (a + 1) → q ≠ (a + 2) → h' q = h q) → Q none n k h') : ∀ (d : Nat) (q : Nat) (u1 : Nat → Int) (u2 : Nat → Int), q = d → ∀ h1 : zHp, h1 (a + 1) = some (.inr (.inl (0, 9, u1))) → h1 (a + 2) = some (.inr (.inl (0, 9, u2))) → (∀ q : Nat, q ≠ (a + 1) → q ≠ (a + 2) → h1 q = h q) → (q ≤ t) → (∀ j, q ≤ j → j < t → mo j < (m : Int)) → (∀ j, (j ≤ q → u1 j = mo j) ∧ (q < j → j < t + 1 → u1 j = mo (j - 1))) → (∀ j, (j ≤ q → u2 j = fa j) ∧ (q < j → j < t + 1 → u2 j = fa (j - 1))) → ZT n0 g mX0_insertTerm 23 [some (.inr (some a)), some (.inl (m : Int)), some (.inl f), some (.inl (q : Int)), some (.inl ((q : Int) - 1))] [] n k h1 Q := by
  intro d
  induction d using Nat.strongRecOn with | _ d ih => ?_
  intro q u1 u2 hd0 h1 g1 g2 hfr hq hlt hu1 hu2
  subst hd0
  refine T_iload dX0_insertTerm_23 rfl ?_
  refine T_if_lt dX0_insertTerm_25 (t := 80) rfl (fun c25 => ?_) (fun c25 => ?_)
  · refine T_aload_n dX0_insertTerm_80 rfl ?_
    refine T_getfield dX0_insertTerm_81 zkf_1_18 ((hfr _ (by omega) (by omega)).trans hA0) rfl ?_
    refine T_iload_n dX0_insertTerm_84 rfl ?_
    refine T_iload_n dX0_insertTerm_85 rfl ?_
    refine T_iastoreN (m := q) dX0_insertTerm_86 g1 rfl (by omega) (by omega) ?_
    refine T_aload_n dX0_insertTerm_87 rfl ?_
    refine T_getfield dX0_insertTerm_88 zkf_1_22 (zup_ne (by omega) ((hfr _ (by omega) (by omega)).trans hA0)) rfl ?_
    refine T_iload_n dX0_insertTerm_91 rfl ?_
    refine T_iload_n dX0_insertTerm_92 rfl ?_
    refine T_iastoreN (m := q) dX0_insertTerm_93 (zup_ne (by omega) g2) rfl (by omega) (by omega) ?_
    refine T_aload_n dX0_insertTerm_94 rfl ?_
    refine T_dup dX0_insertTerm_95 ?_
    refine T_getfield dX0_insertTerm_96 zkf_1_15 (zup_ne (by omega) (zup_ne (by omega) ((hfr _ (by omega) (by omega)).trans hA0))) rfl ?_
    refine T_iconst dX0_insertTerm_99 (by decide) ?_
    refine T_iadd dX0_insertTerm_100 ⟨by omega, by omega⟩ ?_
    refine T_putfield dX0_insertTerm_101 zkf_1_15 (zup_ne (by omega) (zup_ne (by omega) ((hfr _ (by omega) (by omega)).trans hA0))) (Nat.le_of_ble_eq_true rfl) (by omega) rfl (fun hf => absurd hf (by decide)) rfl ?_
    refine T_vret dX0_insertTerm_104 rfl ?_
    exact hQ q _ _ _ hq (fun j hj => by omega) hlt (fun j hj => by
          by_cases e : j = q
          · subst e; rw [zfu_self, if_neg (by omega), if_pos rfl]
          · rw [zfu_ne e]
            by_cases e2 : j < q
            · rw [if_pos e2]; exact (hu1 j).1 (by omega)
            · rw [if_neg e2, if_neg e]; exact (hu1 j).2 (by omega) hj) (fun j hj => by
          by_cases e : j = q
          · subst e; rw [zfu_self, if_neg (by omega), if_pos rfl]
          · rw [zfu_ne e]
            by_cases e2 : j < q
            · rw [if_pos e2]; exact (hu2 j).1 (by omega)
            · rw [if_neg e2, if_neg e]; exact (hu2 j).2 (by omega) hj) zup_self (zup_ne (by omega) (zup_ne (by omega) zup_self)) (zup_ne (by omega) zup_self) (fun q q0 q1 q2 => ((zup_nf q0).trans ((zup_nf q2).trans ((zup_nf q1).trans ((hfr _ q1 q2).trans rfl)))))
  · obtain ⟨r, hr⟩ : ∃ r, q = r + 1 := ⟨q - 1, by omega⟩
    refine T_aload_n dX0_insertTerm_28 rfl ?_
    refine T_getfield dX0_insertTerm_29 zkf_1_18 ((hfr _ (by omega) (by omega)).trans hA0) rfl ?_
    refine T_iload dX0_insertTerm_32 rfl ?_
    refine T_ialoadN (m := r) dX0_insertTerm_34 g1 (by omega) (by omega) ?_
    refine T_iload_n dX0_insertTerm_35 rfl ?_
    have em : u1 r = mo r := (hu1 r).1 (by omega)
    refine T_icmp_ge dX0_insertTerm_36 (t := 80) rfl (fun c36 => ?_) (fun c36 => ?_)
    · refine T_aload_n dX0_insertTerm_80 rfl ?_
      refine T_getfield dX0_insertTerm_81 zkf_1_18 ((hfr _ (by omega) (by omega)).trans hA0) rfl ?_
      refine T_iload_n dX0_insertTerm_84 rfl ?_
      refine T_iload_n dX0_insertTerm_85 rfl ?_
      refine T_iastoreN (m := q) dX0_insertTerm_86 g1 rfl (by omega) (by omega) ?_
      refine T_aload_n dX0_insertTerm_87 rfl ?_
      refine T_getfield dX0_insertTerm_88 zkf_1_22 (zup_ne (by omega) ((hfr _ (by omega) (by omega)).trans hA0)) rfl ?_
      refine T_iload_n dX0_insertTerm_91 rfl ?_
      refine T_iload_n dX0_insertTerm_92 rfl ?_
      refine T_iastoreN (m := q) dX0_insertTerm_93 (zup_ne (by omega) g2) rfl (by omega) (by omega) ?_
      refine T_aload_n dX0_insertTerm_94 rfl ?_
      refine T_dup dX0_insertTerm_95 ?_
      refine T_getfield dX0_insertTerm_96 zkf_1_15 (zup_ne (by omega) (zup_ne (by omega) ((hfr _ (by omega) (by omega)).trans hA0))) rfl ?_
      refine T_iconst dX0_insertTerm_99 (by decide) ?_
      refine T_iadd dX0_insertTerm_100 ⟨by omega, by omega⟩ ?_
      refine T_putfield dX0_insertTerm_101 zkf_1_15 (zup_ne (by omega) (zup_ne (by omega) ((hfr _ (by omega) (by omega)).trans hA0))) (Nat.le_of_ble_eq_true rfl) (by omega) rfl (fun hf => absurd hf (by decide)) rfl ?_
      refine T_vret dX0_insertTerm_104 rfl ?_
      exact hQ q _ _ _ hq (fun j hj => ⟨hq, fun e => by rw [e, show q - 1 = r by omega]; omega⟩) hlt (fun j hj => by
            by_cases e : j = q
            · subst e; rw [zfu_self, if_neg (by omega), if_pos rfl]
            · rw [zfu_ne e]
              by_cases e2 : j < q
              · rw [if_pos e2]; exact (hu1 j).1 (by omega)
              · rw [if_neg e2, if_neg e]; exact (hu1 j).2 (by omega) hj) (fun j hj => by
            by_cases e : j = q
            · subst e; rw [zfu_self, if_neg (by omega), if_pos rfl]
            · rw [zfu_ne e]
              by_cases e2 : j < q
              · rw [if_pos e2]; exact (hu2 j).1 (by omega)
              · rw [if_neg e2, if_neg e]; exact (hu2 j).2 (by omega) hj) zup_self (zup_ne (by omega) (zup_ne (by omega) zup_self)) (zup_ne (by omega) zup_self) (fun q q0 q1 q2 => ((zup_nf q0).trans ((zup_nf q2).trans ((zup_nf q1).trans ((hfr _ q1 q2).trans rfl)))))
    · refine T_aload_n dX0_insertTerm_39 rfl ?_
      refine T_getfield dX0_insertTerm_40 zkf_1_18 ((hfr _ (by omega) (by omega)).trans hA0) rfl ?_
      refine T_iload dX0_insertTerm_43 rfl ?_
      refine T_iconst dX0_insertTerm_45 (by decide) ?_
      refine T_iadd dX0_insertTerm_46 ⟨by omega, by omega⟩ ?_
      refine T_aload_n dX0_insertTerm_47 rfl ?_
      refine T_getfield dX0_insertTerm_48 zkf_1_18 ((hfr _ (by omega) (by omega)).trans hA0) rfl ?_
      refine T_iload dX0_insertTerm_51 rfl ?_
      refine T_ialoadN (m := r) dX0_insertTerm_53 g1 (by omega) (by omega) ?_
      refine T_iastoreN (m := q) dX0_insertTerm_54 g1 (by omega) (by omega) (by omega) ?_
      refine T_aload_n dX0_insertTerm_55 rfl ?_
      refine T_getfield dX0_insertTerm_56 zkf_1_22 (zup_ne (by omega) ((hfr _ (by omega) (by omega)).trans hA0)) rfl ?_
      refine T_iload dX0_insertTerm_59 rfl ?_
      refine T_iconst dX0_insertTerm_61 (by decide) ?_
      refine T_iadd dX0_insertTerm_62 ⟨by omega, by omega⟩ ?_
      refine T_aload_n dX0_insertTerm_63 rfl ?_
      refine T_getfield dX0_insertTerm_64 zkf_1_22 (zup_ne (by omega) ((hfr _ (by omega) (by omega)).trans hA0)) rfl ?_
      refine T_iload dX0_insertTerm_67 rfl ?_
      refine T_ialoadN (m := r) dX0_insertTerm_69 (zup_ne (by omega) g2) (by omega) (by omega) ?_
      refine T_iastoreN (m := q) dX0_insertTerm_70 (zup_ne (by omega) g2) (by omega) (by omega) (by omega) ?_
      refine T_iload dX0_insertTerm_71 rfl ?_
      refine T_istore_n dX0_insertTerm_73 (Nat.le_of_ble_eq_true rfl) ?_
      refine T_iinc dX0_insertTerm_74 rfl ⟨by omega, by omega⟩ ?_
      refine T_goto dX0_insertTerm_77 (t := 23) rfl ?_
      rw [show (q : Int) - 1 + -1 = (r : Int) - 1 by omega, show (q : Int) - 1 = (r : Int) by omega]
      exact ih _ (by omega) r _ _ rfl _ (zup_ne (by omega) zup_self) zup_self (fun q q0 q1 => ((zup_nf q1).trans ((zup_nf q0).trans ((hfr _ q0 q1).trans rfl)))) (by omega) (fun j a b => by
            by_cases e : j = r
            · subst e; omega
            · exact hlt j (by omega) b) (fun j => ⟨fun a => by rw [zfu_ne (by omega)]; exact (hu1 j).1 (by omega), fun a b => by
            by_cases e : j = q
            · rw [e, zfu_self, show q - 1 = r by omega]; exact (hu1 r).1 (by omega)
            · rw [zfu_ne e]; exact (hu1 j).2 (by omega) b⟩) (fun j => ⟨fun a => by rw [zfu_ne (by omega)]; exact (hu2 j).1 (by omega), fun a b => by
            by_cases e : j = q
            · rw [e, zfu_self, show q - 1 = r by omega]; exact (hu2 r).1 (by omega)
            · rw [zfu_ne e]; exact (hu2 j).2 (by omega) b⟩) 
set_option maxHeartbeats 4000000 in
set_option maxRecDepth 100000 in
theorem m_X0_insertTerm {n0 n k : Nat} {g : Nat → zV} {h : zHp} {Q : Option zV → Nat → Nat → zHp → Prop} {a c t : Nat} {mo fa : Nat → Int} {m : Nat} {f : Int} (hA0 : h a = some (.inl (1, [.inl (c : Int), .inl (t : Int), .inr (some (a + 1)), .inr (some (a + 2))]))) (hA1 : h (a + 1) = some (.inr (.inl (0, 9, mo)))) (hA2 : h (a + 2) = some (.inr (.inl (0, 9, fa)))) (ht : t < 9) (hw : n0 ≤ a) (hQ : ∀ (q : Nat) (mo' fa' : Nat → Int) (h' : zHp), (q ≤ t) → (∀ j, j < q → (q ≤ t ∧ (j = q - 1 → mo j ≥ (m : Int)))) → (∀ j, q ≤ j → j < t → mo j < (m : Int)) → (∀ j, j < t + 1 → mo' j = (if j < q then mo j else if j = q then (m : Int) else mo (j - 1))) → (∀ j, j < t + 1 → fa' j = (if j < q then fa j else if j = q then f else fa (j - 1))) → h' a = some (.inl (1, [.inl (c : Int), .inl ((t : Int) + 1), .inr (some (a + 1)), .inr (some (a + 2))])) → h' (a + 1) = some (.inr (.inl (0, 9, mo'))) → h' (a + 2) = some (.inr (.inl (0, 9, fa'))) → (∀ q : Nat, q ≠ a → q ≠ (a + 1) → q ≠ (a + 2) → h' q = h q) → Q none n k h') : ZT n0 g mX0_insertTerm 0 (zloc mX0_insertTerm [.inr (some a), .inl (m : Int), .inl f]) [] n k h Q := by
  show ZT n0 g mX0_insertTerm 0 [some (.inr (some a)), some (.inl (m : Int)), some (.inl f), none, none] [] n k h Q
  refine T_aload_n dX0_insertTerm_0 rfl ?_
  refine T_getfield dX0_insertTerm_1 zkf_1_15 hA0 rfl ?_
  refine T_bipush dX0_insertTerm_4 (by decide) ?_
  refine T_icmp_lt dX0_insertTerm_6 (t := 10) rfl (fun _ => ?_) (fun hc => absurd hc (by omega))
  refine T_aload_n dX0_insertTerm_10 rfl ?_
  refine T_getfield dX0_insertTerm_11 zkf_1_15 hA0 rfl ?_
  refine T_istore_n dX0_insertTerm_14 (Nat.le_of_ble_eq_true rfl) ?_
  refine T_aload_n dX0_insertTerm_15 rfl ?_
  refine T_getfield dX0_insertTerm_16 zkf_1_15 hA0 rfl ?_
  refine T_iconst dX0_insertTerm_19 (by decide) ?_
  refine T_isub dX0_insertTerm_20 ⟨by omega, by omega⟩ ?_
  refine T_istore dX0_insertTerm_21 (Nat.le_of_ble_eq_true rfl) ?_
  exact m_X0_insertTerm_23 hA0 hA1 hA2 ht hw hQ _ t mo fa rfl _ hA1 hA2 (fun q q0 q1 => rfl) (by omega) (fun j a b => by omega) (fun j => ⟨fun _ => rfl, fun a b => by omega⟩) (fun j => ⟨fun _ => rfl, fun a b => by omega⟩) 
set_option maxHeartbeats 4000000 in
set_option maxRecDepth 100000 in
theorem m_X0_factorOf_2 {n0 n k : Nat} {g : Nat → zV} {h : zHp} {Q : Option zV → Nat → Nat → zHp → Prop} {a c t : Nat} {mo fa : Nat → Int} {m : Nat} (hA0 : h a = some (.inl (1, [.inl (c : Int), .inl (t : Int), .inr (some (a + 1)), .inr (some (a + 2))]))) (hA1 : h (a + 1) = some (.inr (.inl (0, 9, mo)))) (hA2 : h (a + 2) = some (.inr (.inl (0, 9, fa)))) (ht : t ≤ 9) (hT : ∀ (j : Nat), (j < t ∧ mo j = (m : Int)) → Q (some (.inl (fa j))) n k h) (hF : (∀ j, j < t → mo j ≠ (m : Int)) → Q (some (.inl 0)) n k h) : ∀ (d : Nat) (j : Nat), t - j = d → (j ≤ t) → (∀ i, i < j → mo i ≠ (m : Int)) → ZT n0 g mX0_factorOf 2 [some (.inr (some a)), some (.inl (m : Int)), some (.inl (j : Int))] [] n k h Q := by
  intro d
  induction d using Nat.strongRecOn with | _ d ih => ?_
  intro j hd0 hj hn
  subst hd0
  refine T_iload_n dX0_factorOf_2 rfl ?_
  refine T_aload_n dX0_factorOf_3 rfl ?_
  refine T_getfield dX0_factorOf_4 zkf_1_15 hA0 rfl ?_
  refine T_icmp_ge dX0_factorOf_7 (t := 33) rfl (fun c7 => ?_) (fun c7 => ?_)
  · refine T_iconst dX0_factorOf_33 (by decide) ?_
    refine T_iret dX0_factorOf_34 rfl ?_
    exact hF (fun i hi => hn i (by omega))
  · refine T_aload_n dX0_factorOf_10 rfl ?_
    refine T_getfield dX0_factorOf_11 zkf_1_18 hA0 rfl ?_
    refine T_iload_n dX0_factorOf_14 rfl ?_
    refine T_ialoadN (m := j) dX0_factorOf_15 hA1 rfl (by omega) ?_
    refine T_iload_n dX0_factorOf_16 rfl ?_
    refine T_icmp_ne dX0_factorOf_17 (t := 27) rfl (fun c17 => ?_) (fun c17 => ?_)
    · refine T_iinc dX0_factorOf_27 rfl ⟨by omega, by omega⟩ ?_
      refine T_goto dX0_factorOf_30 (t := 2) rfl ?_
      exact ih _ (by omega) (j + 1) rfl  (by omega) (fun i hi => by
            by_cases e : i = j
            · subst e; omega
            · exact hn i (by omega)) 
    · refine T_aload_n dX0_factorOf_20 rfl ?_
      refine T_getfield dX0_factorOf_21 zkf_1_22 hA0 rfl ?_
      refine T_iload_n dX0_factorOf_24 rfl ?_
      refine T_ialoadN (m := j) dX0_factorOf_25 hA2 rfl (by omega) ?_
      refine T_iret dX0_factorOf_26 rfl ?_
      exact hT j ⟨by omega, by omega⟩
set_option maxHeartbeats 4000000 in
set_option maxRecDepth 100000 in
theorem m_X0_factorOf {n0 n k : Nat} {g : Nat → zV} {h : zHp} {Q : Option zV → Nat → Nat → zHp → Prop} {a c t : Nat} {mo fa : Nat → Int} {m : Nat} (hA0 : h a = some (.inl (1, [.inl (c : Int), .inl (t : Int), .inr (some (a + 1)), .inr (some (a + 2))]))) (hA1 : h (a + 1) = some (.inr (.inl (0, 9, mo)))) (hA2 : h (a + 2) = some (.inr (.inl (0, 9, fa)))) (ht : t ≤ 9) (hT : ∀ (j : Nat), (j < t ∧ mo j = (m : Int)) → Q (some (.inl (fa j))) n k h) (hF : (∀ j, j < t → mo j ≠ (m : Int)) → Q (some (.inl 0)) n k h) : ZT n0 g mX0_factorOf 0 (zloc mX0_factorOf [.inr (some a), .inl (m : Int)]) [] n k h Q := by
  show ZT n0 g mX0_factorOf 0 [some (.inr (some a)), some (.inl (m : Int)), none] [] n k h Q
  refine T_iconst dX0_factorOf_0 (by decide) ?_
  refine T_istore_n dX0_factorOf_1 (Nat.le_of_ble_eq_true rfl) ?_
  exact m_X0_factorOf_2 hA0 hA1 hA2 ht hT hF _ 0 rfl  (by omega) (fun i hi => absurd hi (Nat.not_lt_zero i)) 
set_option maxHeartbeats 4000000 in
set_option maxRecDepth 100000 in
theorem m_X0_hasTermsOf_15 {n0 n k : Nat} {g : Nat → zV} {h : zHp} {Q : Option zV → Nat → Nat → zHp → Prop} {a c t : Nat} {mo fa : Nat → Int} {b c2 t2 : Nat} {mo2 fa2 : Nat → Int} (hA0 : h a = some (.inl (1, [.inl (c : Int), .inl (t : Int), .inr (some (a + 1)), .inr (some (a + 2))]))) (hA1 : h (a + 1) = some (.inr (.inl (0, 9, mo)))) (hA2 : h (a + 2) = some (.inr (.inl (0, 9, fa)))) (hB0 : h b = some (.inl (1, [.inl (c2 : Int), .inl (t2 : Int), .inr (some (b + 1)), .inr (some (b + 2))]))) (hB1 : h (b + 1) = some (.inr (.inl (0, 9, mo2)))) (hB2 : h (b + 2) = some (.inr (.inl (0, 9, fa2)))) (ht : t ≤ 9 ∧ t2 ≤ 9) (hT : (t = t2 ∧ ∀ j, j < t → mo j = mo2 j ∧ fa j = fa2 j) → Q (some (.inl 1)) n k h) (hF : (¬ (t = t2 ∧ ∀ j, j < t → mo j = mo2 j ∧ fa j = fa2 j)) → Q (some (.inl 0)) n k h) : ∀ (d : Nat) (j : Nat), t - j = d → (j ≤ t ∧ t = t2) → (∀ i, i < j → mo i = mo2 i ∧ fa i = fa2 i) → ZT n0 g mX0_hasTermsOf 15 [some (.inr (some a)), some (.inr (some b)), some (.inl (j : Int))] [] n k h Q := by
  intro d
  induction d using Nat.strongRecOn with | _ d ih => ?_
  intro j hd0 hj hn
  subst hd0
  refine T_iload_n dX0_hasTermsOf_15 rfl ?_
  refine T_aload_n dX0_hasTermsOf_16 rfl ?_
  refine T_getfield dX0_hasTermsOf_17 zkf_1_15 hA0 rfl ?_
  refine T_icmp_ge dX0_hasTermsOf_20 (t := 61) rfl (fun c20 => ?_) (fun c20 => ?_)
  · refine T_iconst dX0_hasTermsOf_61 (by decide) ?_
    refine T_iret dX0_hasTermsOf_62 rfl ?_
    exact hT ⟨hj.2, fun i hi => hn i (by omega)⟩
  · refine T_aload_n dX0_hasTermsOf_23 rfl ?_
    refine T_getfield dX0_hasTermsOf_24 zkf_1_18 hA0 rfl ?_
    refine T_iload_n dX0_hasTermsOf_27 rfl ?_
    refine T_ialoadN (m := j) dX0_hasTermsOf_28 hA1 rfl (by omega) ?_
    refine T_aload_n dX0_hasTermsOf_29 rfl ?_
    refine T_getfield dX0_hasTermsOf_30 zkf_1_18 hB0 rfl ?_
    refine T_iload_n dX0_hasTermsOf_33 rfl ?_
    refine T_ialoadN (m := j) dX0_hasTermsOf_34 hB1 rfl (by omega) ?_
    refine T_icmp_ne dX0_hasTermsOf_35 (t := 53) rfl (fun c35 => ?_) (fun c35 => ?_)
    · refine T_iconst dX0_hasTermsOf_53 (by decide) ?_
      refine T_iret dX0_hasTermsOf_54 rfl ?_
      exact hF (fun hx => by have := hx.2 j (by omega); omega)
    · refine T_aload_n dX0_hasTermsOf_38 rfl ?_
      refine T_getfield dX0_hasTermsOf_39 zkf_1_22 hA0 rfl ?_
      refine T_iload_n dX0_hasTermsOf_42 rfl ?_
      refine T_ialoadN (m := j) dX0_hasTermsOf_43 hA2 rfl (by omega) ?_
      refine T_aload_n dX0_hasTermsOf_44 rfl ?_
      refine T_getfield dX0_hasTermsOf_45 zkf_1_22 hB0 rfl ?_
      refine T_iload_n dX0_hasTermsOf_48 rfl ?_
      refine T_ialoadN (m := j) dX0_hasTermsOf_49 hB2 rfl (by omega) ?_
      refine T_icmp_eq dX0_hasTermsOf_50 (t := 55) rfl (fun c50 => ?_) (fun c50 => ?_)
      · refine T_iinc dX0_hasTermsOf_55 rfl ⟨by omega, by omega⟩ ?_
        refine T_goto dX0_hasTermsOf_58 (t := 15) rfl ?_
        exact ih _ (by omega) (j + 1) rfl  (by omega) (fun i hi => by
              by_cases e : i = j
              · subst e; omega
              · exact hn i (by omega)) 
      · refine T_iconst dX0_hasTermsOf_53 (by decide) ?_
        refine T_iret dX0_hasTermsOf_54 rfl ?_
        exact hF (fun hx => by have := hx.2 j (by omega); omega)
set_option maxHeartbeats 4000000 in
set_option maxRecDepth 100000 in
theorem m_X0_hasTermsOf {n0 n k : Nat} {g : Nat → zV} {h : zHp} {Q : Option zV → Nat → Nat → zHp → Prop} {a c t : Nat} {mo fa : Nat → Int} {b c2 t2 : Nat} {mo2 fa2 : Nat → Int} (hA0 : h a = some (.inl (1, [.inl (c : Int), .inl (t : Int), .inr (some (a + 1)), .inr (some (a + 2))]))) (hA1 : h (a + 1) = some (.inr (.inl (0, 9, mo)))) (hA2 : h (a + 2) = some (.inr (.inl (0, 9, fa)))) (hB0 : h b = some (.inl (1, [.inl (c2 : Int), .inl (t2 : Int), .inr (some (b + 1)), .inr (some (b + 2))]))) (hB1 : h (b + 1) = some (.inr (.inl (0, 9, mo2)))) (hB2 : h (b + 2) = some (.inr (.inl (0, 9, fa2)))) (ht : t ≤ 9 ∧ t2 ≤ 9) (hT : (t = t2 ∧ ∀ j, j < t → mo j = mo2 j ∧ fa j = fa2 j) → Q (some (.inl 1)) n k h) (hF : (¬ (t = t2 ∧ ∀ j, j < t → mo j = mo2 j ∧ fa j = fa2 j)) → Q (some (.inl 0)) n k h) : ZT n0 g mX0_hasTermsOf 0 (zloc mX0_hasTermsOf [.inr (some a), .inr (some b)]) [] n k h Q := by
  show ZT n0 g mX0_hasTermsOf 0 [some (.inr (some a)), some (.inr (some b)), none] [] n k h Q
  refine T_aload_n dX0_hasTermsOf_0 rfl ?_
  refine T_getfield dX0_hasTermsOf_1 zkf_1_15 hA0 rfl ?_
  refine T_aload_n dX0_hasTermsOf_4 rfl ?_
  refine T_getfield dX0_hasTermsOf_5 zkf_1_15 hB0 rfl ?_
  refine T_icmp_eq dX0_hasTermsOf_8 (t := 13) rfl (fun c8 => ?_) (fun c8 => ?_)
  · refine T_iconst dX0_hasTermsOf_13 (by decide) ?_
    refine T_istore_n dX0_hasTermsOf_14 (Nat.le_of_ble_eq_true rfl) ?_
    exact m_X0_hasTermsOf_15 hA0 hA1 hA2 hB0 hB1 hB2 ht hT hF _ 0 rfl  (by omega) (fun i hi => absurd hi (Nat.not_lt_zero i)) 
  · refine T_iconst dX0_hasTermsOf_11 (by decide) ?_
    refine T_iret dX0_hasTermsOf_12 rfl ?_
    exact hF (fun hx => by omega)
set_option maxHeartbeats 4000000 in
set_option maxRecDepth 100000 in
theorem m_X0_degree_4 {n0 n k : Nat} {g : Nat → zV} {h : zHp} {Q : Option zV → Nat → Nat → zHp → Prop} {a c t : Nat} {mo fa : Nat → Int} (hA0 : h a = some (.inl (1, [.inl (c : Int), .inl (t : Int), .inr (some (a + 1)), .inr (some (a + 2))]))) (hA1 : h (a + 1) = some (.inr (.inl (0, 9, mo)))) (hA2 : h (a + 2) = some (.inr (.inl (0, 9, fa)))) (ht : t ≤ 9) (hmo : ∀ j, j < t → 0 ≤ mo j ∧ mo j < 81) (hQ : ∀ (g : Int), (0 ≤ g ∧ g ≤ 16) → (∀ j, j < t → mo j / 9 + mo j % 9 ≤ g) → (g = 0 ∨ ∃ j, j < t ∧ g = mo j / 9 + mo j % 9) → Q (some (.inl g)) n k h) : ∀ (d : Nat) (j : Nat) (g9 : Int), t - j = d → (j ≤ t) → (0 ≤ g9 ∧ g9 ≤ 16) → (∀ i, i < j → mo i / 9 + mo i % 9 ≤ g9) → (g9 = 0 ∨ ∃ i, i < j ∧ g9 = mo i / 9 + mo i % 9) → ZT n0 g mX0_degree 4 [some (.inr (some a)), some (.inl g9), some (.inl (j : Int))] [] n k h Q := by
  intro d
  induction d using Nat.strongRecOn with | _ d ih => ?_
  intro j g9 hd0 hj hg hn hx
  subst hd0
  refine T_iload_n dX0_degree_4 rfl ?_
  refine T_aload_n dX0_degree_5 rfl ?_
  refine T_getfield dX0_degree_6 zkf_1_15 hA0 rfl ?_
  refine T_icmp_ge dX0_degree_9 (t := 42) rfl (fun c9 => ?_) (fun c9 => ?_)
  · refine T_iload_n dX0_degree_42 rfl ?_
    refine T_iret dX0_degree_43 rfl ?_
    exact hQ _ hg (fun i hi => hn i (by omega)) (hx.imp id (fun ⟨i, hi, e⟩ => ⟨i, by omega, e⟩))
  · refine T_iload_n dX0_degree_12 rfl ?_
    refine T_aload_n dX0_degree_13 rfl ?_
    refine T_getfield dX0_degree_14 zkf_1_18 hA0 rfl ?_
    refine T_iload_n dX0_degree_17 rfl ?_
    refine T_ialoadN (m := j) dX0_degree_18 hA1 rfl (by omega) ?_
    refine T_bipush dX0_degree_19 (by decide) ?_
    have mb := hmo j (by omega)
    refine T_idivN dX0_degree_21 ⟨by omega, by omega⟩ (by omega) ?_
    refine T_aload_n dX0_degree_22 rfl ?_
    refine T_getfield dX0_degree_23 zkf_1_18 hA0 rfl ?_
    refine T_iload_n dX0_degree_26 rfl ?_
    refine T_ialoadN (m := j) dX0_degree_27 hA1 rfl (by omega) ?_
    refine T_bipush dX0_degree_28 (by decide) ?_
    refine T_iremN dX0_degree_30 ⟨by omega, by omega⟩ (by omega) ?_
    refine T_iadd dX0_degree_31 ⟨by omega, by omega⟩ ?_
    refine T_callS dX0_degree_32 zkm_1_45 ⟨Nat.le_of_ble_eq_true rfl, Nat.le_of_ble_eq_true rfl, rfl⟩ rfl (Nat.le_of_ble_eq_true rfl) ?_
    refine m_Jmax   ?_
    refine T_istore_n dX0_degree_35 (Nat.le_of_ble_eq_true rfl) ?_
    refine T_iinc dX0_degree_36 rfl ⟨by omega, by omega⟩ ?_
    refine T_goto dX0_degree_39 (t := 4) rfl ?_
    exact ih _ (by omega) (j + 1) (max g9 (((mo j) / 9) + ((mo j) % 9))) rfl  (by omega) (by omega) (fun i hi => by
          by_cases e : i = j
          · subst e; omega
          · have := hn i (by omega); omega) (by
          by_cases e : g9 ≤ mo j / 9 + mo j % 9
          · exact Or.inr ⟨j, by omega, by omega⟩
          · rcases hx with h0 | ⟨i, hi, e2⟩
            · exact absurd e (by omega)
            · exact Or.inr ⟨i, by omega, by omega⟩) 
set_option maxHeartbeats 4000000 in
set_option maxRecDepth 100000 in
theorem m_X0_degree {n0 n k : Nat} {g : Nat → zV} {h : zHp} {Q : Option zV → Nat → Nat → zHp → Prop} {a c t : Nat} {mo fa : Nat → Int} (hA0 : h a = some (.inl (1, [.inl (c : Int), .inl (t : Int), .inr (some (a + 1)), .inr (some (a + 2))]))) (hA1 : h (a + 1) = some (.inr (.inl (0, 9, mo)))) (hA2 : h (a + 2) = some (.inr (.inl (0, 9, fa)))) (ht : t ≤ 9) (hmo : ∀ j, j < t → 0 ≤ mo j ∧ mo j < 81) (hQ : ∀ (g : Int), (0 ≤ g ∧ g ≤ 16) → (∀ j, j < t → mo j / 9 + mo j % 9 ≤ g) → (g = 0 ∨ ∃ j, j < t ∧ g = mo j / 9 + mo j % 9) → Q (some (.inl g)) n k h) : ZT n0 g mX0_degree 0 (zloc mX0_degree [.inr (some a)]) [] n k h Q := by
  show ZT n0 g mX0_degree 0 [some (.inr (some a)), none, none] [] n k h Q
  refine T_iconst dX0_degree_0 (by decide) ?_
  refine T_istore_n dX0_degree_1 (Nat.le_of_ble_eq_true rfl) ?_
  refine T_iconst dX0_degree_2 (by decide) ?_
  refine T_istore_n dX0_degree_3 (Nat.le_of_ble_eq_true rfl) ?_
  exact m_X0_degree_4 hA0 hA1 hA2 ht hmo hQ _ 0 0 rfl  (by omega) (by omega) (fun i hi => absurd hi (Nat.not_lt_zero i)) (Or.inl rfl) 
