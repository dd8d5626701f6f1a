/-! ===== GroebnerFan$Points: printed by wip/whole/gen/s_points.py ===== -/
set_option maxHeartbeats 4000000 in
set_option maxRecDepth 100000 in
theorem m_X5_holds_2 {n0 n k : Nat} {g : Nat → zV} {h : zHp} {Q : Option zV → Nat → Nat → zHp → Prop} {b s : Nat} {p : Int} {xs ys : Nat → Int} {x y : Int} (hP0 : h b = some (.inl (6, [.inl p, .inl (s : Int), .inr (some (b + 1)), .inr (some (b + 2))]))) (hP1 : h (b + 1) = some (.inr (.inl (0, 8, xs)))) (hP2 : h (b + 2) = some (.inr (.inl (0, 8, ys)))) (hs : s ≤ 8) (hT : (∃ j, j < s ∧ xs j = x ∧ ys j = y) → Q (some (.inl 1)) n k h) (hF : (∀ j, j < s → ¬ (xs j = x ∧ ys j = y)) → Q (some (.inl 0)) n k h) : ∀ (d : Nat) (j : Nat), s - j = d → (j ≤ s) → (∀ i, i < j → ¬ (xs i = x ∧ ys i = y)) → ZT n0 g mX5_holds 2 [some (.inr (some b)), some (.inl x), some (.inl y), some (.inl (j : Int))] [] n k h Q := by
  intro d
  induction d using Nat.strongRecOn with | _ d ih => ?_
  intro j hd0 hj hn
  subst hd0
  refine T_iload_n dX5_holds_2 rfl ?_
  refine T_aload_n dX5_holds_3 rfl ?_
  refine T_getfield dX5_holds_4 zkf_6_15 hP0 rfl ?_
  refine T_icmp_ge dX5_holds_7 (t := 38) rfl (fun c7 => ?_) (fun c7 => ?_)
  · refine T_iconst dX5_holds_38 (by decide) ?_
    refine T_iret dX5_holds_39 rfl ?_
    exact hF (fun i hi => hn i (by omega))
  · refine T_aload_n dX5_holds_10 rfl ?_
    refine T_getfield dX5_holds_11 zkf_6_18 hP0 rfl ?_
    refine T_iload_n dX5_holds_14 rfl ?_
    refine T_ialoadN (m := j) dX5_holds_15 hP1 rfl (by omega) ?_
    refine T_iload_n dX5_holds_16 rfl ?_
    refine T_icmp_ne dX5_holds_17 (t := 32) rfl (fun c17 => ?_) (fun c17 => ?_)
    · refine T_iinc dX5_holds_32 rfl ⟨by omega, by omega⟩ ?_
      refine T_goto dX5_holds_35 (t := 2) rfl ?_
      exact ih _ (by omega) (j + 1) rfl  (by omega) (fun i hi => by
            by_cases e : i = j
            · subst e; omega
            · exact hn i (by omega))
    · refine T_aload_n dX5_holds_20 rfl ?_
      refine T_getfield dX5_holds_21 zkf_6_22 hP0 rfl ?_
      refine T_iload_n dX5_holds_24 rfl ?_
      refine T_ialoadN (m := j) dX5_holds_25 hP2 rfl (by omega) ?_
      refine T_iload_n dX5_holds_26 rfl ?_
      refine T_icmp_ne dX5_holds_27 (t := 32) rfl (fun c27 => ?_) (fun c27 => ?_)
      · refine T_iinc dX5_holds_32 rfl ⟨by omega, by omega⟩ ?_
        refine T_goto dX5_holds_35 (t := 2) rfl ?_
        exact ih _ (by omega) (j + 1) rfl  (by omega) (fun i hi => by
              by_cases e : i = j
              · subst e; omega
              · exact hn i (by omega))
      · refine T_iconst dX5_holds_30 (by decide) ?_
        refine T_iret dX5_holds_31 rfl ?_
        exact hT ⟨j, by omega, by omega, by omega⟩
set_option maxHeartbeats 4000000 in
set_option maxRecDepth 100000 in
theorem m_X5_holds {n0 n k : Nat} {g : Nat → zV} {h : zHp} {Q : Option zV → Nat → Nat → zHp → Prop} {b s : Nat} {p : Int} {xs ys : Nat → Int} {x y : Int} (hP0 : h b = some (.inl (6, [.inl p, .inl (s : Int), .inr (some (b + 1)), .inr (some (b + 2))]))) (hP1 : h (b + 1) = some (.inr (.inl (0, 8, xs)))) (hP2 : h (b + 2) = some (.inr (.inl (0, 8, ys)))) (hs : s ≤ 8) (hT : (∃ j, j < s ∧ xs j = x ∧ ys j = y) → Q (some (.inl 1)) n k h) (hF : (∀ j, j < s → ¬ (xs j = x ∧ ys j = y)) → Q (some (.inl 0)) n k h) : ZT n0 g mX5_holds 0 (zloc mX5_holds [.inr (some b), .inl x, .inl y]) [] n k h Q := by
  show ZT n0 g mX5_holds 0 [some (.inr (some b)), some (.inl x), some (.inl y), none] [] n k h Q
  refine T_iconst dX5_holds_0 (by decide) ?_
  refine T_istore_n dX5_holds_1 (Nat.le_of_ble_eq_true rfl) ?_
  exact m_X5_holds_2 hP0 hP1 hP2 hs hT hF _ 0 rfl  (by omega) (fun i hi => absurd hi (Nat.not_lt_zero i))
set_option maxHeartbeats 4000000 in
set_option maxRecDepth 100000 in
theorem m_X5_append {n0 n k : Nat} {g : Nat → zV} {h : zHp} {Q : Option zV → Nat → Nat → zHp → Prop} {b s : Nat} {p : Int} {xs ys : Nat → Int} {x y : Int} (hP0 : h b = some (.inl (6, [.inl p, .inl (s : Int), .inr (some (b + 1)), .inr (some (b + 2))]))) (hP1 : h (b + 1) = some (.inr (.inl (0, 8, xs)))) (hP2 : h (b + 2) = some (.inr (.inl (0, 8, ys)))) (hs : s < 8) (hw : n0 ≤ b) (hQ : ∀  (h' : zHp), h' b = some (.inl (6, [.inl p, .inl ((s : Int) + 1), .inr (some (b + 1)), .inr (some (b + 2))])) → h' (b + 1) = some (.inr (.inl (0, 8, (zfu xs s x)))) → h' (b + 2) = some (.inr (.inl (0, 8, (zfu ys s y)))) → (∀ q : Nat, q ≠ b → q ≠ (b + 1) → q ≠ (b + 2) → h' q = h q) → Q none n k h') : ZT n0 g mX5_append 0 (zloc mX5_append [.inr (some b), .inl x, .inl y]) [] n k h Q := by
  show ZT n0 g mX5_append 0 [some (.inr (some b)), some (.inl x), some (.inl y)] [] n k h Q
  refine T_aload_n dX5_append_0 rfl ?_
  refine T_getfield dX5_append_1 zkf_6_15 hP0 rfl ?_
  refine T_bipush dX5_append_4 (by decide) ?_
  refine T_icmp_ge dX5_append_6 (t := 39) rfl (fun hc => absurd hc (by omega)) (fun _ => ?_)
  refine T_aload_n dX5_append_9 rfl ?_
  refine T_getfield dX5_append_10 zkf_6_18 hP0 rfl ?_
  refine T_aload_n dX5_append_13 rfl ?_
  refine T_getfield dX5_append_14 zkf_6_15 hP0 rfl ?_
  refine T_iload_n dX5_append_17 rfl ?_
  refine T_iastoreN (m := s) dX5_append_18 hP1 rfl (by omega) (by omega) ?_
  refine T_aload_n dX5_append_19 rfl ?_
  refine T_getfield dX5_append_20 zkf_6_22 (zup_ne (by omega) hP0) rfl ?_
  refine T_aload_n dX5_append_23 rfl ?_
  refine T_getfield dX5_append_24 zkf_6_15 (zup_ne (by omega) hP0) rfl ?_
  refine T_iload_n dX5_append_27 rfl ?_
  refine T_iastoreN (m := s) dX5_append_28 (zup_ne (by omega) hP2) rfl (by omega) (by omega) ?_
  refine T_aload_n dX5_append_29 rfl ?_
  refine T_dup dX5_append_30 ?_
  refine T_getfield dX5_append_31 zkf_6_15 (zup_ne (by omega) (zup_ne (by omega) hP0)) rfl ?_
  refine T_iconst dX5_append_34 (by decide) ?_
  refine T_iadd dX5_append_35 ⟨by omega, by omega⟩ ?_
  refine T_putfield dX5_append_36 zkf_6_15 (zup_ne (by omega) (zup_ne (by omega) hP0)) (Nat.le_of_ble_eq_true rfl) (by omega) rfl (fun hf => absurd hf (by decide)) rfl ?_
  refine T_vret dX5_append_39 rfl ?_
  exact hQ _ zup_self (zup_ne (by omega) (zup_ne (by omega) zup_self)) (zup_ne (by omega) zup_self) (fun q q0 q1 q2 => ((zup_nf q0).trans ((zup_nf q2).trans ((zup_nf q1).trans rfl))))
