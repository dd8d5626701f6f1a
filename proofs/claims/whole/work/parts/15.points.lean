/-! ===== GroebnerFan$Points: printed by wip/whole/gen/s_points.py ===== -/
set_option maxHeartbeats 4000000 in
set_option maxRecDepth 100000 in
theorem m_X5_residue {n0 n k : Nat} {g : Nat → zV} {h : zHp} {Q : Option zV → Nat → Nat → zHp → Prop} {b s : Nat} {p : Int} {x : Int} (hP0 : h b = some (.inl (6, [.inl p, .inl (s : Int), .inr (some (b + 1)), .inr (some (b + 2))]))) (hp : 1 < p ∧ p < 32) (hx : zR x) (hQ : Q (some (.inl (x % p))) n k h) : ZT n0 g mX5_residue 0 (zloc mX5_residue [.inr (some b), .inl x]) [] n k h Q := by
  show ZT n0 g mX5_residue 0 [some (.inr (some b)), some (.inl x)] [] n k h Q
  refine T_iload_n dX5_residue_0 rfl ?_
  refine T_aload_n dX5_residue_1 rfl ?_
  refine T_getfield dX5_residue_2 zkf_6_9 hP0 rfl ?_
  refine T_callS dX5_residue_5 zkm_6_31 ⟨Nat.le_of_ble_eq_true rfl, Nat.le_of_ble_eq_true rfl, rfl⟩ rfl (Nat.le_of_ble_eq_true rfl) ?_
  refine m_J9_floorMod_7cf53  hx (by omega) ?_
  refine T_iret dX5_residue_8 rfl ?_
  exact hQ
set_option maxHeartbeats 4000000 in
set_option maxRecDepth 100000 in
theorem m_X5_isResidue {n0 n k : Nat} {g : Nat → zV} {h : zHp} {Q : Option zV → Nat → Nat → zHp → Prop} {b s : Nat} {p : Int} {x : Int} (hP0 : h b = some (.inl (6, [.inl p, .inl (s : Int), .inr (some (b + 1)), .inr (some (b + 2))]))) (hT : (0 ≤ x ∧ x < p) → Q (some (.inl 1)) n k h) (hF : (¬ (0 ≤ x ∧ x < p)) → Q (some (.inl 0)) n k h) : ZT n0 g mX5_isResidue 0 (zloc mX5_isResidue [.inr (some b), .inl x]) [] n k h Q := by
  show ZT n0 g mX5_isResidue 0 [some (.inr (some b)), some (.inl x)] [] n k h Q
  refine T_iload_n dX5_isResidue_0 rfl ?_
  refine T_if_lt dX5_isResidue_1 (t := 16) rfl (fun c1 => ?_) (fun c1 => ?_)
  · refine T_iconst dX5_isResidue_16 (by decide) ?_
    refine T_iret dX5_isResidue_17 rfl ?_
    exact hF (by omega)
  · refine T_iload_n dX5_isResidue_4 rfl ?_
    refine T_aload_n dX5_isResidue_5 rfl ?_
    refine T_getfield dX5_isResidue_6 zkf_6_9 hP0 rfl ?_
    refine T_icmp_ge dX5_isResidue_9 (t := 16) rfl (fun c9 => ?_) (fun c9 => ?_)
    · refine T_iconst dX5_isResidue_16 (by decide) ?_
      refine T_iret dX5_isResidue_17 rfl ?_
      exact hF (by omega)
    · refine T_iconst dX5_isResidue_12 (by decide) ?_
      refine T_goto dX5_isResidue_13 (t := 17) rfl ?_
      refine T_iret dX5_isResidue_17 rfl ?_
      exact hT (by omega)
set_option maxHeartbeats 4000000 in
set_option maxRecDepth 100000 in
theorem m_X5_hasIndex {n0 n k : Nat} {g : Nat → zV} {h : zHp} {Q : Option zV → Nat → Nat → zHp → Prop} {b s : Nat} {p : Int} {x : Int} (hP0 : h b = some (.inl (6, [.inl p, .inl (s : Int), .inr (some (b + 1)), .inr (some (b + 2))]))) (hT : (0 ≤ x ∧ x < (s : Int)) → Q (some (.inl 1)) n k h) (hF : (¬ (0 ≤ x ∧ x < (s : Int))) → Q (some (.inl 0)) n k h) : ZT n0 g mX5_hasIndex 0 (zloc mX5_hasIndex [.inr (some b), .inl x]) [] n k h Q := by
  show ZT n0 g mX5_hasIndex 0 [some (.inr (some b)), some (.inl x)] [] n k h Q
  refine T_iload_n dX5_hasIndex_0 rfl ?_
  refine T_if_lt dX5_hasIndex_1 (t := 16) rfl (fun c1 => ?_) (fun c1 => ?_)
  · refine T_iconst dX5_hasIndex_16 (by decide) ?_
    refine T_iret dX5_hasIndex_17 rfl ?_
    exact hF (by omega)
  · refine T_iload_n dX5_hasIndex_4 rfl ?_
    refine T_aload_n dX5_hasIndex_5 rfl ?_
    refine T_getfield dX5_hasIndex_6 zkf_6_15 hP0 rfl ?_
    refine T_icmp_ge dX5_hasIndex_9 (t := 16) rfl (fun c9 => ?_) (fun c9 => ?_)
    · refine T_iconst dX5_hasIndex_16 (by decide) ?_
      refine T_iret dX5_hasIndex_17 rfl ?_
      exact hF (by omega)
    · refine T_iconst dX5_hasIndex_12 (by decide) ?_
      refine T_goto dX5_hasIndex_13 (t := 17) rfl ?_
      refine T_iret dX5_hasIndex_17 rfl ?_
      exact hT (by omega)
set_option maxHeartbeats 4000000 in
set_option maxRecDepth 100000 in
theorem m_X5_holds_2 {n0 n k : Nat} {g : Nat → zV} {h : zHp} {Q : Option zV → Nat → Nat → zHp → Prop} {b s : Nat} {p : Int} {xs ys : Nat → Int} {x y : Int} (hP0 : h b = some (.inl (6, [.inl p, .inl (s : Int), .inr (some (b + 1)), .inr (some (b + 2))]))) (hP1 : h (b + 1) = some (.inr (.inl (0, 8, xs)))) (hP2 : h (b + 2) = some (.inr (.inl (0, 8, ys)))) (hs : s ≤ 8) (hT : (∃ j, j < s ∧ xs j = x ∧ ys j = y) → Q (some (.inl 1)) n k h) (hF : (∀ j, j < s → ¬ (xs j = x ∧ ys j = y)) → Q (some (.inl 0)) n k h) : ∀ (d : Nat) (j : Nat), s - j = d → (j ≤ s) → (∀ i, i < j → ¬ (xs i = x ∧ ys i = y)) → ZT n0 g mX5_holds 2 [some (.inr (some b)), some (.inl x), some (.inl y), some (.inl (j : Int))] [] n k h Q := by
  intro d
  induction d using Nat.strongRecOn with | _ d ih => ?_
  intro j hd0 hj hn
  subst hd0
  refine T_iload_n dX5_holds_2 rfl ?_
  refine T_aload_n dX5_holds_3 rfl ?_
  refine T_getfield dX5_holds_4 zkf_6_15 hP0 rfl ?_
  refine T_icmp_ge dX5_holds_7 (t := 38) rfl (fun c7 => ?_) (fun c7 => ?_)
  · refine T_iconst dX5_holds_38 (by decide) ?_
    refine T_iret dX5_holds_39 rfl ?_
    exact hF (fun i hi => hn i (by omega))
  · refine T_aload_n dX5_holds_10 rfl ?_
    refine T_getfield dX5_holds_11 zkf_6_18 hP0 rfl ?_
    refine T_iload_n dX5_holds_14 rfl ?_
    refine T_ialoadN (m := j) dX5_holds_15 hP1 rfl (by omega) ?_
    refine T_iload_n dX5_holds_16 rfl ?_
    refine T_icmp_ne dX5_holds_17 (t := 32) rfl (fun c17 => ?_) (fun c17 => ?_)
    · refine T_iinc dX5_holds_32 rfl ⟨by omega, by omega⟩ ?_
      refine T_goto dX5_holds_35 (t := 2) rfl ?_
      exact ih _ (by omega) (j + 1) rfl  (by omega) (fun i hi => by
            by_cases e : i = j
            · subst e; omega
            · exact hn i (by omega)) 
    · refine T_aload_n dX5_holds_20 rfl ?_
      refine T_getfield dX5_holds_21 zkf_6_22 hP0 rfl ?_
      refine T_iload_n dX5_holds_24 rfl ?_
      refine T_ialoadN (m := j) dX5_holds_25 hP2 rfl (by omega) ?_
      refine T_iload_n dX5_holds_26 rfl ?_
      refine T_icmp_ne dX5_holds_27 (t := 32) rfl (fun c27 => ?_) (fun c27 => ?_)
      · refine T_iinc dX5_holds_32 rfl ⟨by omega, by omega⟩ ?_
        refine T_goto dX5_holds_35 (t := 2) rfl ?_
        exact ih _ (by omega) (j + 1) rfl  (by omega) (fun i hi => by
              by_cases e : i = j
              · subst e; omega
              · exact hn i (by omega)) 
      · refine T_iconst dX5_holds_30 (by decide) ?_
        refine T_iret dX5_holds_31 rfl ?_
        exact hT ⟨j, by omega, by omega, by omega⟩
set_option maxHeartbeats 4000000 in
set_option maxRecDepth 100000 in
theorem m_X5_holds {n0 n k : Nat} {g : Nat → zV} {h : zHp} {Q : Option zV → Nat → Nat → zHp → Prop} {b s : Nat} {p : Int} {xs ys : Nat → Int} {x y : Int} (hP0 : h b = some (.inl (6, [.inl p, .inl (s : Int), .inr (some (b + 1)), .inr (some (b + 2))]))) (hP1 : h (b + 1) = some (.inr (.inl (0, 8, xs)))) (hP2 : h (b + 2) = some (.inr (.inl (0, 8, ys)))) (hs : s ≤ 8) (hT : (∃ j, j < s ∧ xs j = x ∧ ys j = y) → Q (some (.inl 1)) n k h) (hF : (∀ j, j < s → ¬ (xs j = x ∧ ys j = y)) → Q (some (.inl 0)) n k h) : ZT n0 g mX5_holds 0 (zloc mX5_holds [.inr (some b), .inl x, .inl y]) [] n k h Q := by
  show ZT n0 g mX5_holds 0 [some (.inr (some b)), some (.inl x), some (.inl y), none] [] n k h Q
  refine T_iconst dX5_holds_0 (by decide) ?_
  refine T_istore_n dX5_holds_1 (Nat.le_of_ble_eq_true rfl) ?_
  exact m_X5_holds_2 hP0 hP1 hP2 hs hT hF _ 0 rfl  (by omega) (fun i hi => absurd hi (Nat.not_lt_zero i)) 
set_option maxHeartbeats 4000000 in
set_option maxRecDepth 100000 in
theorem m_X5_append {n0 n k : Nat} {g : Nat → zV} {h : zHp} {Q : Option zV → Nat → Nat → zHp → Prop} {b s : Nat} {p : Int} {xs ys : Nat → Int} {x y : Int} (hP0 : h b = some (.inl (6, [.inl p, .inl (s : Int), .inr (some (b + 1)), .inr (some (b + 2))]))) (hP1 : h (b + 1) = some (.inr (.inl (0, 8, xs)))) (hP2 : h (b + 2) = some (.inr (.inl (0, 8, ys)))) (hs : s < 8) (hw : n0 ≤ b) (hQ : ∀  (h' : zHp), h' b = some (.inl (6, [.inl p, .inl ((s : Int) + 1), .inr (some (b + 1)), .inr (some (b + 2))])) → h' (b + 1) = some (.inr (.inl (0, 8, (zfu xs s x)))) → h' (b + 2) = some (.inr (.inl (0, 8, (zfu ys s y)))) → (∀ q : Nat, q ≠ b → q ≠ (b + 1) → q ≠ (b + 2) → h' q = h q) → Q none n k h') : ZT n0 g mX5_append 0 (zloc mX5_append [.inr (some b), .inl x, .inl y]) [] n k h Q := by
  show ZT n0 g mX5_append 0 [some (.inr (some b)), some (.inl x), some (.inl y)] [] n k h Q
  refine T_aload_n dX5_append_0 rfl ?_
  refine T_getfield dX5_append_1 zkf_6_15 hP0 rfl ?_
  refine T_bipush dX5_append_4 (by decide) ?_
  refine T_icmp_ge dX5_append_6 (t := 39) rfl (fun hc => absurd hc (by omega)) (fun _ => ?_)
  refine T_aload_n dX5_append_9 rfl ?_
  refine T_getfield dX5_append_10 zkf_6_18 hP0 rfl ?_
  refine T_aload_n dX5_append_13 rfl ?_
  refine T_getfield dX5_append_14 zkf_6_15 hP0 rfl ?_
  refine T_iload_n dX5_append_17 rfl ?_
  refine T_iastoreN (m := s) dX5_append_18 hP1 rfl (by omega) (by omega) ?_
  refine T_aload_n dX5_append_19 rfl ?_
  refine T_getfield dX5_append_20 zkf_6_22 (zup_ne (by omega) hP0) rfl ?_
  refine T_aload_n dX5_append_23 rfl ?_
  refine T_getfield dX5_append_24 zkf_6_15 (zup_ne (by omega) hP0) rfl ?_
  refine T_iload_n dX5_append_27 rfl ?_
  refine T_iastoreN (m := s) dX5_append_28 (zup_ne (by omega) hP2) rfl (by omega) (by omega) ?_
  refine T_aload_n dX5_append_29 rfl ?_
  refine T_dup dX5_append_30 ?_
  refine T_getfield dX5_append_31 zkf_6_15 (zup_ne (by omega) (zup_ne (by omega) hP0)) rfl ?_
  refine T_iconst dX5_append_34 (by decide) ?_
  refine T_iadd dX5_append_35 ⟨by omega, by omega⟩ ?_
  refine T_putfield dX5_append_36 zkf_6_15 (zup_ne (by omega) (zup_ne (by omega) hP0)) (Nat.le_of_ble_eq_true rfl) (by omega) rfl (fun hf => absurd hf (by decide)) rfl ?_
  refine T_vret dX5_append_39 rfl ?_
  exact hQ _ zup_self (zup_ne (by omega) (zup_ne (by omega) zup_self)) (zup_ne (by omega) zup_self) (fun q q0 q1 q2 => ((zup_nf q0).trans ((zup_nf q2).trans ((zup_nf q1).trans rfl))))
set_option maxHeartbeats 4000000 in
set_option maxRecDepth 100000 in
theorem m_X5_remove_12 {n0 n k : Nat} {g : Nat → zV} {h : zHp} {Q : Option zV → Nat → Nat → zHp → Prop} {b s : Nat} {p : Int} {xs ys : Nat → Int} {i : Nat} (hP0 : h b = some (.inl (6, [.inl p, .inl ((s + 1) : Int), .inr (some (b + 1)), .inr (some (b + 2))]))) (hP1 : h (b + 1) = some (.inr (.inl (0, 8, xs)))) (hP2 : h (b + 2) = some (.inr (.inl (0, 8, ys)))) (hs : s < 8) (hi : i ≤ s) (hw : n0 ≤ b) (hQ : ∀ (xs' ys' : Nat → Int) (h' : zHp), (∀ j, j < s → xs' j = (if j < i then xs j else xs (j + 1))) → (∀ j, j < s → ys' j = (if j < i then ys j else ys (j + 1))) → h' b = some (.inl (6, [.inl p, .inl (s : Int), .inr (some (b + 1)), .inr (some (b + 2))])) → h' (b + 1) = some (.inr (.inl (0, 8, xs'))) → h' (b + 2) = some (.inr (.inl (0, 8, ys'))) → (∀ q : Nat, q ≠ b → q ≠ (b + 1) → q ≠ (b + 2) → h' q = h q) → Q none n k h') : ∀ (d : Nat) (j : Nat) (us : Nat → Int) (vs : Nat → Int), s - j = d → ∀ h1 : zHp, h1 b = some (.inl (6, [.inl p, .inl (s : Int), .inr (some (b + 1)), .inr (some (b + 2))])) → h1 (b + 1) = some (.inr (.inl (0, 8, us))) → h1 (b + 2) = some (.inr (.inl (0, 8, vs))) → (∀ q : Nat, q ≠ b → q ≠ (b + 1) → q ≠ (b + 2) → h1 q = h q) → (i ≤ j ∧ j ≤ s) → (∀ q, us q = (if q < i then xs q else if q < j then xs (q + 1) else xs q)) → (∀ q, vs q = (if q < i then ys q else if q < j then ys (q + 1) else ys q)) → ZT n0 g mX5_remove 12 [some (.inr (some b)), some (.inl (i : Int)), some (.inl (j : Int))] [] n k h1 Q := by
  intro d
  induction d using Nat.strongRecOn with | _ d ih => ?_
  intro j us vs hd0 h1 h10 h11 h12 hfr hj hu hv
  subst hd0
  refine T_iload_n dX5_remove_12 rfl ?_
  refine T_aload_n dX5_remove_13 rfl ?_
  refine T_getfield dX5_remove_14 zkf_6_15 h10 rfl ?_
  refine T_icmp_ge dX5_remove_17 (t := 54) rfl (fun c17 => ?_) (fun c17 => ?_)
  · refine T_vret dX5_remove_54 rfl ?_
    exact hQ _ _ _ (fun q hq => by rw [hu, if_pos (show q < j by omega)]) (fun q hq => by rw [hv, if_pos (show q < j by omega)]) h10 h11 h12 (fun q q0 q1 q2 => ((hfr _ q0 q1 q2).trans rfl))
  · refine T_aload_n dX5_remove_20 rfl ?_
    refine T_getfield dX5_remove_21 zkf_6_18 h10 rfl ?_
    refine T_iload_n dX5_remove_24 rfl ?_
    refine T_aload_n dX5_remove_25 rfl ?_
    refine T_getfield dX5_remove_26 zkf_6_18 h10 rfl ?_
    refine T_iload_n dX5_remove_29 rfl ?_
    refine T_iconst dX5_remove_30 (by decide) ?_
    refine T_iadd dX5_remove_31 ⟨by omega, by omega⟩ ?_
    refine T_ialoadN (m := (j + 1)) dX5_remove_32 h11 rfl (by omega) ?_
    refine T_iastoreN (m := j) dX5_remove_33 h11 rfl (by omega) (by omega) ?_
    refine T_aload_n dX5_remove_34 rfl ?_
    refine T_getfield dX5_remove_35 zkf_6_22 (zup_ne (by omega) h10) rfl ?_
    refine T_iload_n dX5_remove_38 rfl ?_
    refine T_aload_n dX5_remove_39 rfl ?_
    refine T_getfield dX5_remove_40 zkf_6_22 (zup_ne (by omega) h10) rfl ?_
    refine T_iload_n dX5_remove_43 rfl ?_
    refine T_iconst dX5_remove_44 (by decide) ?_
    refine T_iadd dX5_remove_45 ⟨by omega, by omega⟩ ?_
    refine T_ialoadN (m := (j + 1)) dX5_remove_46 (zup_ne (by omega) h12) rfl (by omega) ?_
    refine T_iastoreN (m := j) dX5_remove_47 (zup_ne (by omega) h12) rfl (by omega) (by omega) ?_
    refine T_iinc dX5_remove_48 rfl ⟨by omega, by omega⟩ ?_
    refine T_goto dX5_remove_51 (t := 12) rfl ?_
    exact ih _ (by omega) (j + 1) _ _ rfl _ (zup_ne (by omega) (zup_ne (by omega) h10)) (zup_ne (by omega) zup_self) zup_self (fun q q0 q1 q2 => ((zup_nf q2).trans ((zup_nf q1).trans ((hfr _ q0 q1 q2).trans rfl)))) (by omega) (fun q => by
          by_cases e : q = j
          · subst e; rw [zfu_self, hu, if_neg (by omega), if_neg (by omega), if_neg (by omega), if_pos (by omega)]
          · rw [zfu_ne e, hu]
            split
            · rfl
            · split <;> split <;> first | rfl | omega) (fun q => by
          by_cases e : q = j
          · subst e; rw [zfu_self, hv, if_neg (by omega), if_neg (by omega), if_neg (by omega), if_pos (by omega)]
          · rw [zfu_ne e, hv]
            split
            · rfl
            · split <;> split <;> first | rfl | omega) 
set_option maxHeartbeats 4000000 in
set_option maxRecDepth 100000 in
theorem m_X5_remove {n0 n k : Nat} {g : Nat → zV} {h : zHp} {Q : Option zV → Nat → Nat → zHp → Prop} {b s : Nat} {p : Int} {xs ys : Nat → Int} {i : Nat} (hP0 : h b = some (.inl (6, [.inl p, .inl ((s + 1) : Int), .inr (some (b + 1)), .inr (some (b + 2))]))) (hP1 : h (b + 1) = some (.inr (.inl (0, 8, xs)))) (hP2 : h (b + 2) = some (.inr (.inl (0, 8, ys)))) (hs : s < 8) (hi : i ≤ s) (hw : n0 ≤ b) (hQ : ∀ (xs' ys' : Nat → Int) (h' : zHp), (∀ j, j < s → xs' j = (if j < i then xs j else xs (j + 1))) → (∀ j, j < s → ys' j = (if j < i then ys j else ys (j + 1))) → h' b = some (.inl (6, [.inl p, .inl (s : Int), .inr (some (b + 1)), .inr (some (b + 2))])) → h' (b + 1) = some (.inr (.inl (0, 8, xs'))) → h' (b + 2) = some (.inr (.inl (0, 8, ys'))) → (∀ q : Nat, q ≠ b → q ≠ (b + 1) → q ≠ (b + 2) → h' q = h q) → Q none n k h') : ZT n0 g mX5_remove 0 (zloc mX5_remove [.inr (some b), .inl (i : Int)]) [] n k h Q := by
  show ZT n0 g mX5_remove 0 [some (.inr (some b)), some (.inl (i : Int)), none] [] n k h Q
  refine T_aload_n dX5_remove_0 rfl ?_
  refine T_dup dX5_remove_1 ?_
  refine T_getfield dX5_remove_2 zkf_6_15 hP0 rfl ?_
  refine T_iconst dX5_remove_5 (by decide) ?_
  refine T_isub dX5_remove_6 ⟨by omega, by omega⟩ ?_
  refine T_putfield dX5_remove_7 zkf_6_15 hP0 (Nat.le_of_ble_eq_true rfl) (by omega) rfl (fun hf => absurd hf (by decide)) rfl ?_
  refine T_iload_n dX5_remove_10 rfl ?_
  refine T_istore_n dX5_remove_11 (Nat.le_of_ble_eq_true rfl) ?_
  rw [show (s : Int) + 1 - 1 = (s : Int) by omega]
  exact m_X5_remove_12 hP0 hP1 hP2 hs hi hw hQ _ i xs ys rfl _ zup_self (zup_ne (by omega) hP1) (zup_ne (by omega) hP2) (fun q q0 q1 q2 => ((zup_nf q0).trans rfl)) (by omega) (fun q => by split <;> simp_all) (fun q => by split <;> simp_all) 
set_option maxHeartbeats 4000000 in
set_option maxRecDepth 100000 in
theorem m_X5_isSymmetric_2 {n0 n k : Nat} {g : Nat → zV} {h : zHp} {Q : Option zV → Nat → Nat → zHp → Prop} {b s : Nat} {p : Int} {xs ys : Nat → Int} (hP0 : h b = some (.inl (6, [.inl p, .inl (s : Int), .inr (some (b + 1)), .inr (some (b + 2))]))) (hP1 : h (b + 1) = some (.inr (.inl (0, 8, xs)))) (hP2 : h (b + 2) = some (.inr (.inl (0, 8, ys)))) (hs : s ≤ 8) (hT : (∀ i, i < s → ∃ j, j < s ∧ xs j = ys i ∧ ys j = xs i) → Q (some (.inl 1)) n k h) (hF : (∃ i, i < s ∧ ∀ j, j < s → ¬ (xs j = ys i ∧ ys j = xs i)) → Q (some (.inl 0)) n k h) : ∀ (d : Nat) (j : Nat), s - j = d → (j ≤ s) → (∀ i, i < j → ∃ q, q < s ∧ xs q = ys i ∧ ys q = xs i) → ZT n0 g mX5_isSymmetric 2 [some (.inr (some b)), some (.inl (j : Int))] [] n k h Q := by
  intro d
  induction d using Nat.strongRecOn with | _ d ih => ?_
  intro j hd0 hj hn
  subst hd0
  refine T_iload_n dX5_isSymmetric_2 rfl ?_
  refine T_aload_n dX5_isSymmetric_3 rfl ?_
  refine T_getfield dX5_isSymmetric_4 zkf_6_15 hP0 rfl ?_
  refine T_icmp_ge dX5_isSymmetric_7 (t := 37) rfl (fun c7 => ?_) (fun c7 => ?_)
  · refine T_iconst dX5_isSymmetric_37 (by decide) ?_
    refine T_iret dX5_isSymmetric_38 rfl ?_
    exact hT (fun i hi => hn i (by omega))
  · refine T_aload_n dX5_isSymmetric_10 rfl ?_
    refine T_aload_n dX5_isSymmetric_11 rfl ?_
    refine T_getfield dX5_isSymmetric_12 zkf_6_22 hP0 rfl ?_
    refine T_iload_n dX5_isSymmetric_15 rfl ?_
    refine T_ialoadN (m := j) dX5_isSymmetric_16 hP2 rfl (by omega) ?_
    refine T_aload_n dX5_isSymmetric_17 rfl ?_
    refine T_getfield dX5_isSymmetric_18 zkf_6_18 hP0 rfl ?_
    refine T_iload_n dX5_isSymmetric_21 rfl ?_
    refine T_ialoadN (m := j) dX5_isSymmetric_22 hP1 rfl (by omega) ?_
    refine T_callV dX5_isSymmetric_23 zkm_6_37 (Or.inl rfl) rfl hP0 ⟨Nat.le_of_ble_eq_true rfl, rfl⟩ rfl (Nat.le_of_ble_eq_true rfl) ?_
    refine m_X5_holds hP0 hP1 hP2 (by omega) (fun k23a => ?_) (fun k23a_2 => ?_)
    · refine T_if_ne dX5_isSymmetric_26 (t := 31) rfl (fun _ => ?_) (fun hc => absurd hc (by decide))
      refine T_iinc dX5_isSymmetric_31 rfl ⟨by omega, by omega⟩ ?_
      refine T_goto dX5_isSymmetric_34 (t := 2) rfl ?_
      exact ih _ (by omega) (j + 1) rfl  (by omega) (fun i hi => by
            by_cases e : i = j
            · subst e; exact k23a
            · exact hn i (by omega)) 
    · refine T_if_ne dX5_isSymmetric_26 (t := 31) rfl (fun hc => absurd hc (by decide)) (fun _ => ?_)
      refine T_iconst dX5_isSymmetric_29 (by decide) ?_
      refine T_iret dX5_isSymmetric_30 rfl ?_
      exact hF ⟨j, by omega, k23a_2⟩
set_option maxHeartbeats 4000000 in
set_option maxRecDepth 100000 in
theorem m_X5_isSymmetric {n0 n k : Nat} {g : Nat → zV} {h : zHp} {Q : Option zV → Nat → Nat → zHp → Prop} {b s : Nat} {p : Int} {xs ys : Nat → Int} (hP0 : h b = some (.inl (6, [.inl p, .inl (s : Int), .inr (some (b + 1)), .inr (some (b + 2))]))) (hP1 : h (b + 1) = some (.inr (.inl (0, 8, xs)))) (hP2 : h (b + 2) = some (.inr (.inl (0, 8, ys)))) (hs : s ≤ 8) (hT : (∀ i, i < s → ∃ j, j < s ∧ xs j = ys i ∧ ys j = xs i) → Q (some (.inl 1)) n k h) (hF : (∃ i, i < s ∧ ∀ j, j < s → ¬ (xs j = ys i ∧ ys j = xs i)) → Q (some (.inl 0)) n k h) : ZT n0 g mX5_isSymmetric 0 (zloc mX5_isSymmetric [.inr (some b)]) [] n k h Q := by
  show ZT n0 g mX5_isSymmetric 0 [some (.inr (some b)), none] [] n k h Q
  refine T_iconst dX5_isSymmetric_0 (by decide) ?_
  refine T_istore_n dX5_isSymmetric_1 (Nat.le_of_ble_eq_true rfl) ?_
  exact m_X5_isSymmetric_2 hP0 hP1 hP2 hs hT hF _ 0 rfl  (by omega) (fun i hi => absurd hi (Nat.not_lt_zero i)) 
set_option maxHeartbeats 4000000 in
set_option maxRecDepth 100000 in
theorem m_X5_mirror_2 {n0 n k : Nat} {g : Nat → zV} {h : zHp} {Q : Option zV → Nat → Nat → zHp → Prop} {b s : Nat} {p : Int} {xs ys : Nat → Int} (hP0 : h b = some (.inl (6, [.inl p, .inl (s : Int), .inr (some (b + 1)), .inr (some (b + 2))]))) (hP1 : h (b + 1) = some (.inr (.inl (0, 8, xs)))) (hP2 : h (b + 2) = some (.inr (.inl (0, 8, ys)))) (hs : s ≤ 8) (hw : n0 ≤ b) (hQ : ∀ (xs' ys' : Nat → Int) (h' : zHp), (∀ j, j < s → xs' j = ys j) → (∀ j, j < s → ys' j = xs j) → h' (b + 1) = some (.inr (.inl (0, 8, xs'))) → h' (b + 2) = some (.inr (.inl (0, 8, ys'))) → (∀ q : Nat, q ≠ (b + 1) → q ≠ (b + 2) → h' q = h q) → Q none n k h') : ∀ (d : Nat) (j : Nat) (us : Nat → Int) (vs : Nat → Int) (L2 : Option zV), s - j = d → ∀ h1 : zHp, h1 (b + 1) = some (.inr (.inl (0, 8, us))) → h1 (b + 2) = some (.inr (.inl (0, 8, vs))) → (∀ q : Nat, q ≠ (b + 1) → q ≠ (b + 2) → h1 q = h q) → (j ≤ s) → (∀ q, us q = (if q < j then ys q else xs q)) → (∀ q, vs q = (if q < j then xs q else ys q)) → ZT n0 g mX5_mirror 2 [some (.inr (some b)), some (.inl (j : Int)), L2] [] n k h1 Q := by
  intro d
  induction d using Nat.strongRecOn with | _ d ih => ?_
  intro j us vs L2 hd0 h1 h11 h12 hfr hj hu hv
  subst hd0
  refine T_iload_n dX5_mirror_2 rfl ?_
  refine T_aload_n dX5_mirror_3 rfl ?_
  refine T_getfield dX5_mirror_4 zkf_6_15 ((hfr _ (by omega) (by omega)).trans hP0) rfl ?_
  refine T_icmp_ge dX5_mirror_7 (t := 42) rfl (fun c7 => ?_) (fun c7 => ?_)
  · refine T_vret dX5_mirror_42 rfl ?_
    exact hQ _ _ _ (fun q hq => by rw [hu, if_pos (show q < j by omega)]) (fun q hq => by rw [hv, if_pos (show q < j by omega)]) h11 h12 (fun q q0 q1 => ((hfr _ q0 q1).trans rfl))
  · refine T_aload_n dX5_mirror_10 rfl ?_
    refine T_getfield dX5_mirror_11 zkf_6_18 ((hfr _ (by omega) (by omega)).trans hP0) rfl ?_
    refine T_iload_n dX5_mirror_14 rfl ?_
    refine T_ialoadN (m := j) dX5_mirror_15 h11 rfl (by omega) ?_
    refine T_istore_n dX5_mirror_16 (Nat.le_of_ble_eq_true rfl) ?_
    refine T_aload_n dX5_mirror_17 rfl ?_
    refine T_getfield dX5_mirror_18 zkf_6_18 ((hfr _ (by omega) (by omega)).trans hP0) rfl ?_
    refine T_iload_n dX5_mirror_21 rfl ?_
    refine T_aload_n dX5_mirror_22 rfl ?_
    refine T_getfield dX5_mirror_23 zkf_6_22 ((hfr _ (by omega) (by omega)).trans hP0) rfl ?_
    refine T_iload_n dX5_mirror_26 rfl ?_
    refine T_ialoadN (m := j) dX5_mirror_27 h12 rfl (by omega) ?_
    refine T_iastoreN (m := j) dX5_mirror_28 h11 rfl (by omega) (by omega) ?_
    refine T_aload_n dX5_mirror_29 rfl ?_
    refine T_getfield dX5_mirror_30 zkf_6_22 (zup_ne (by omega) ((hfr _ (by omega) (by omega)).trans hP0)) rfl ?_
    refine T_iload_n dX5_mirror_33 rfl ?_
    refine T_iload_n dX5_mirror_34 rfl ?_
    refine T_iastoreN (m := j) dX5_mirror_35 (zup_ne (by omega) h12) rfl (by omega) (by omega) ?_
    refine T_iinc dX5_mirror_36 rfl ⟨by omega, by omega⟩ ?_
    refine T_goto dX5_mirror_39 (t := 2) rfl ?_
    exact ih _ (by omega) (j + 1) _ _ _ rfl _ (zup_ne (by omega) zup_self) zup_self (fun q q0 q1 => ((zup_nf q1).trans ((zup_nf q0).trans ((hfr _ q0 q1).trans rfl)))) (by omega) (fun q => by
          by_cases e : q = j
          · subst e; rw [zfu_self, hv, if_neg (by omega), if_pos (by omega)]
          · rw [zfu_ne e, hu]; split <;> split <;> first | rfl | omega) (fun q => by
          by_cases e : q = j
          · subst e; rw [zfu_self, hu, if_neg (by omega), if_pos (by omega)]
          · rw [zfu_ne e, hv]; split <;> split <;> first | rfl | omega) 
set_option maxHeartbeats 4000000 in
set_option maxRecDepth 100000 in
theorem m_X5_mirror {n0 n k : Nat} {g : Nat → zV} {h : zHp} {Q : Option zV → Nat → Nat → zHp → Prop} {b s : Nat} {p : Int} {xs ys : Nat → Int} (hP0 : h b = some (.inl (6, [.inl p, .inl (s : Int), .inr (some (b + 1)), .inr (some (b + 2))]))) (hP1 : h (b + 1) = some (.inr (.inl (0, 8, xs)))) (hP2 : h (b + 2) = some (.inr (.inl (0, 8, ys)))) (hs : s ≤ 8) (hw : n0 ≤ b) (hQ : ∀ (xs' ys' : Nat → Int) (h' : zHp), (∀ j, j < s → xs' j = ys j) → (∀ j, j < s → ys' j = xs j) → h' (b + 1) = some (.inr (.inl (0, 8, xs'))) → h' (b + 2) = some (.inr (.inl (0, 8, ys'))) → (∀ q : Nat, q ≠ (b + 1) → q ≠ (b + 2) → h' q = h q) → Q none n k h') : ZT n0 g mX5_mirror 0 (zloc mX5_mirror [.inr (some b)]) [] n k h Q := by
  show ZT n0 g mX5_mirror 0 [some (.inr (some b)), none, none] [] n k h Q
  refine T_iconst dX5_mirror_0 (by decide) ?_
  refine T_istore_n dX5_mirror_1 (Nat.le_of_ble_eq_true rfl) ?_
  exact m_X5_mirror_2 hP0 hP1 hP2 hs hw hQ _ 0 xs ys _ rfl _ hP1 hP2 (fun q q0 q1 => rfl) (by omega) (fun q => by simp) (fun q => by simp) 
set_option maxHeartbeats 4000000 in
set_option maxRecDepth 100000 in
theorem m_X5_transform_3 {n0 n k : Nat} {g : Nat → zV} {h : zHp} {Q : Option zV → Nat → Nat → zHp → Prop} {b s : Nat} {p : Int} {xs ys : Nat → Int} {fx dx fy dy : Int} (hP0 : h b = some (.inl (6, [.inl p, .inl (s : Int), .inr (some (b + 1)), .inr (some (b + 2))]))) (hP1 : h (b + 1) = some (.inr (.inl (0, 8, xs)))) (hP2 : h (b + 2) = some (.inr (.inl (0, 8, ys)))) (hs : s ≤ 8) (hp : 1 < p ∧ p < 32) (hxs : ∀ j, j < s → 0 ≤ xs j ∧ xs j < p) (hys : ∀ j, j < s → 0 ≤ ys j ∧ ys j < p) (hw : n0 ≤ b) (hf : 0 ≤ fx ∧ fx < p ∧ 0 ≤ dx ∧ dx < p ∧ 0 ≤ fy ∧ fy < p ∧ 0 ≤ dy ∧ dy < p) (hQ : ∀ (xs' ys' : Nat → Int) (h' : zHp), (∀ j, j < s → xs' j = (fx * xs j + dx) % p) → (∀ j, j < s → ys' j = (fy * ys j + dy) % p) → h' (b + 1) = some (.inr (.inl (0, 8, xs'))) → h' (b + 2) = some (.inr (.inl (0, 8, ys'))) → (∀ q : Nat, q ≠ (b + 1) → q ≠ (b + 2) → h' q = h q) → Q none n k h') : ∀ (d : Nat) (j : Nat) (us : Nat → Int) (vs : Nat → Int), s - j = d → ∀ h1 : zHp, h1 (b + 1) = some (.inr (.inl (0, 8, us))) → h1 (b + 2) = some (.inr (.inl (0, 8, vs))) → (∀ q : Nat, q ≠ (b + 1) → q ≠ (b + 2) → h1 q = h q) → (j ≤ s) → (∀ q, us q = (if q < j then (fx * xs q + dx) % p else xs q)) → (∀ q, vs q = (if q < j then (fy * ys q + dy) % p else ys q)) → ZT n0 g mX5_transform 3 [some (.inr (some b)), some (.inl fx), some (.inl dx), some (.inl fy), some (.inl dy), some (.inl (j : Int))] [] n k h1 Q := by
  intro d
  induction d using Nat.strongRecOn with | _ d ih => ?_
  intro j us vs hd0 h1 h11 h12 hfr hj hu hv
  subst hd0
  refine T_iload dX5_transform_3 rfl ?_
  refine T_aload_n dX5_transform_5 rfl ?_
  refine T_getfield dX5_transform_6 zkf_6_15 ((hfr _ (by omega) (by omega)).trans hP0) rfl ?_
  refine T_icmp_ge dX5_transform_9 (t := 65) rfl (fun c9 => ?_) (fun c9 => ?_)
  · refine T_vret dX5_transform_65 rfl ?_
    exact hQ _ _ _ (fun q hq => by rw [hu, if_pos (show q < j by omega)]) (fun q hq => by rw [hv, if_pos (show q < j by omega)]) h11 h12 (fun q q0 q1 => ((hfr _ q0 q1).trans rfl))
  · refine T_aload_n dX5_transform_12 rfl ?_
    refine T_getfield dX5_transform_13 zkf_6_18 ((hfr _ (by omega) (by omega)).trans hP0) rfl ?_
    refine T_iload dX5_transform_16 rfl ?_
    refine T_iload_n dX5_transform_18 rfl ?_
    refine T_aload_n dX5_transform_19 rfl ?_
    refine T_getfield dX5_transform_20 zkf_6_18 ((hfr _ (by omega) (by omega)).trans hP0) rfl ?_
    refine T_iload dX5_transform_23 rfl ?_
    refine T_ialoadN (m := j) dX5_transform_25 h11 rfl (by omega) ?_
    have eu : us j = xs j := by rw [hu, if_neg (by omega)]
    have bu := hxs j (by omega)
    have mu := zmul_le hf.1 (Int.le_of_lt hf.2.1) (show 0 ≤ us j by omega) (show us j ≤ 32 by omega)
    refine T_imul dX5_transform_26 (zmulR (by omega) (by omega) (by omega) (by omega)) ?_
    refine T_iload_n dX5_transform_27 rfl ?_
    refine T_iadd dX5_transform_28 ⟨by omega, by omega⟩ ?_
    refine T_aload_n dX5_transform_29 rfl ?_
    refine T_getfield dX5_transform_30 zkf_6_9 ((hfr _ (by omega) (by omega)).trans hP0) rfl ?_
    refine T_iremN dX5_transform_33 ⟨by omega, by omega⟩ (by omega) ?_
    have r33 := zmod_bd ((fx * (us j)) + dx) p (by omega)
    refine T_iastoreN (m := j) dX5_transform_34 h11 rfl (by omega) (by omega) ?_
    refine T_aload_n dX5_transform_35 rfl ?_
    refine T_getfield dX5_transform_36 zkf_6_22 (zup_ne (by omega) ((hfr _ (by omega) (by omega)).trans hP0)) rfl ?_
    refine T_iload dX5_transform_39 rfl ?_
    refine T_iload_n dX5_transform_41 rfl ?_
    refine T_aload_n dX5_transform_42 rfl ?_
    refine T_getfield dX5_transform_43 zkf_6_22 (zup_ne (by omega) ((hfr _ (by omega) (by omega)).trans hP0)) rfl ?_
    refine T_iload dX5_transform_46 rfl ?_
    refine T_ialoadN (m := j) dX5_transform_48 (zup_ne (by omega) h12) rfl (by omega) ?_
    have ev : vs j = ys j := by rw [hv, if_neg (by omega)]
    have bv := hys j (by omega)
    have mv := zmul_le hf.2.2.2.2.1 (Int.le_of_lt hf.2.2.2.2.2.1) (show 0 ≤ vs j by omega) (show vs j ≤ 32 by omega)
    refine T_imul dX5_transform_49 (zmulR (by omega) (by omega) (by omega) (by omega)) ?_
    refine T_iload dX5_transform_50 rfl ?_
    refine T_iadd dX5_transform_52 ⟨by omega, by omega⟩ ?_
    refine T_aload_n dX5_transform_53 rfl ?_
    refine T_getfield dX5_transform_54 zkf_6_9 (zup_ne (by omega) ((hfr _ (by omega) (by omega)).trans hP0)) rfl ?_
    refine T_iremN dX5_transform_57 ⟨by omega, by omega⟩ (by omega) ?_
    have r57 := zmod_bd ((fy * (vs j)) + dy) p (by omega)
    refine T_iastoreN (m := j) dX5_transform_58 (zup_ne (by omega) h12) rfl (by omega) (by omega) ?_
    refine T_iinc dX5_transform_59 rfl ⟨by omega, by omega⟩ ?_
    refine T_goto dX5_transform_62 (t := 3) rfl ?_
    exact ih _ (by omega) (j + 1) _ _ rfl _ (zup_ne (by omega) zup_self) zup_self (fun q q0 q1 => ((zup_nf q1).trans ((zup_nf q0).trans ((hfr _ q0 q1).trans rfl)))) (by omega) (fun q => by
          by_cases e : q = j
          · subst e; rw [zfu_self, if_pos (by omega), hu, if_neg (by omega)]
          · rw [zfu_ne e, hu]; split <;> split <;> first | rfl | omega) (fun q => by
          by_cases e : q = j
          · subst e; rw [zfu_self, if_pos (by omega), hv, if_neg (by omega)]
          · rw [zfu_ne e, hv]; split <;> split <;> first | rfl | omega) 
set_option maxHeartbeats 4000000 in
set_option maxRecDepth 100000 in
theorem m_X5_transform {n0 n k : Nat} {g : Nat → zV} {h : zHp} {Q : Option zV → Nat → Nat → zHp → Prop} {b s : Nat} {p : Int} {xs ys : Nat → Int} {fx dx fy dy : Int} (hP0 : h b = some (.inl (6, [.inl p, .inl (s : Int), .inr (some (b + 1)), .inr (some (b + 2))]))) (hP1 : h (b + 1) = some (.inr (.inl (0, 8, xs)))) (hP2 : h (b + 2) = some (.inr (.inl (0, 8, ys)))) (hs : s ≤ 8) (hp : 1 < p ∧ p < 32) (hxs : ∀ j, j < s → 0 ≤ xs j ∧ xs j < p) (hys : ∀ j, j < s → 0 ≤ ys j ∧ ys j < p) (hw : n0 ≤ b) (hf : 0 ≤ fx ∧ fx < p ∧ 0 ≤ dx ∧ dx < p ∧ 0 ≤ fy ∧ fy < p ∧ 0 ≤ dy ∧ dy < p) (hQ : ∀ (xs' ys' : Nat → Int) (h' : zHp), (∀ j, j < s → xs' j = (fx * xs j + dx) % p) → (∀ j, j < s → ys' j = (fy * ys j + dy) % p) → h' (b + 1) = some (.inr (.inl (0, 8, xs'))) → h' (b + 2) = some (.inr (.inl (0, 8, ys'))) → (∀ q : Nat, q ≠ (b + 1) → q ≠ (b + 2) → h' q = h q) → Q none n k h') : ZT n0 g mX5_transform 0 (zloc mX5_transform [.inr (some b), .inl fx, .inl dx, .inl fy, .inl dy]) [] n k h Q := by
  show ZT n0 g mX5_transform 0 [some (.inr (some b)), some (.inl fx), some (.inl dx), some (.inl fy), some (.inl dy), none] [] n k h Q
  refine T_iconst dX5_transform_0 (by decide) ?_
  refine T_istore dX5_transform_1 (Nat.le_of_ble_eq_true rfl) ?_
  exact m_X5_transform_3 hP0 hP1 hP2 hs hp hxs hys hw hf hQ _ 0 xs ys rfl _ hP1 hP2 (fun q q0 q1 => rfl) (by omega) (fun q => by simp) (fun q => by simp) 
set_option maxHeartbeats 4000000 in
set_option maxRecDepth 100000 in
theorem m_X5_power_5 {n0 n k : Nat} {g : Nat → zV} {h : zHp} {Q : Option zV → Nat → Nat → zHp → Prop} {b s : Nat} {p x : Int} {e : Nat} (hP0 : h b = some (.inl (6, [.inl p, .inl (s : Int), .inr (some (b + 1)), .inr (some (b + 2))]))) (hp : 1 < p ∧ p < 32) (hx : 0 ≤ x ∧ x < p) (he : e ≤ 8) (hQ : Q (some (.inl (zpow p x e))) n k h) : ∀ (d : Nat) (j : Nat) (w : Int), e - j = d → (j ≤ e) → (w = zpow p x j) → ZT n0 g mX5_power 5 [some (.inr (some b)), some (.inl x), some (.inl (e : Int)), some (.inl w), some (.inl (j : Int))] [] n k h Q := by
  intro d
  induction d using Nat.strongRecOn with | _ d ih => ?_
  intro j w hd0 hj hw
  subst hd0
  have hb := zpow_bd (b := x) hp.1 j
  rw [← hw] at hb
  refine T_iload dX5_power_5 rfl ?_
  refine T_iload_n dX5_power_7 rfl ?_
  refine T_icmp_ge dX5_power_8 (t := 26) rfl (fun c8 => ?_) (fun c8 => ?_)
  · refine T_iload_n dX5_power_26 rfl ?_
    refine T_iret dX5_power_27 rfl ?_
    rw [hw, show j = e by omega]
    exact hQ
  · refine T_iload_n dX5_power_11 rfl ?_
    refine T_iload_n dX5_power_12 rfl ?_
    have mw := zmul_le hb.1 (show w ≤ 32 by omega) hx.1 (show x ≤ 32 by omega)
    refine T_imul dX5_power_13 (zmulR (by omega) (by omega) (by omega) (by omega)) ?_
    refine T_aload_n dX5_power_14 rfl ?_
    refine T_getfield dX5_power_15 zkf_6_9 hP0 rfl ?_
    refine T_iremN dX5_power_18 ⟨by omega, by omega⟩ (by omega) ?_
    have r18 := zmod_bd (w * x) p (by omega)
    refine T_istore_n dX5_power_19 (Nat.le_of_ble_eq_true rfl) ?_
    refine T_iinc dX5_power_20 rfl ⟨by omega, by omega⟩ ?_
    refine T_goto dX5_power_23 (t := 5) rfl ?_
    exact ih _ (by omega) (j + 1) ((w * x) % p) rfl  (by omega) (by rw [hw]; rfl) 
set_option maxHeartbeats 4000000 in
set_option maxRecDepth 100000 in
theorem m_X5_power {n0 n k : Nat} {g : Nat → zV} {h : zHp} {Q : Option zV → Nat → Nat → zHp → Prop} {b s : Nat} {p x : Int} {e : Nat} (hP0 : h b = some (.inl (6, [.inl p, .inl (s : Int), .inr (some (b + 1)), .inr (some (b + 2))]))) (hp : 1 < p ∧ p < 32) (hx : 0 ≤ x ∧ x < p) (he : e ≤ 8) (hQ : Q (some (.inl (zpow p x e))) n k h) : ZT n0 g mX5_power 0 (zloc mX5_power [.inr (some b), .inl x, .inl (e : Int)]) [] n k h Q := by
  show ZT n0 g mX5_power 0 [some (.inr (some b)), some (.inl x), some (.inl (e : Int)), none, none] [] n k h Q
  refine T_iconst dX5_power_0 (by decide) ?_
  refine T_istore_n dX5_power_1 (Nat.le_of_ble_eq_true rfl) ?_
  refine T_iconst dX5_power_2 (by decide) ?_
  refine T_istore dX5_power_3 (Nat.le_of_ble_eq_true rfl) ?_
  exact m_X5_power_5 hP0 hp hx he hQ _ 0 1 rfl  (by omega) rfl 
set_option maxHeartbeats 4000000 in
set_option maxRecDepth 100000 in
theorem m_X5_inverse_2 {n0 n k : Nat} {g : Nat → zV} {h : zHp} {Q : Option zV → Nat → Nat → zHp → Prop} {b s : Nat} {p v : Int} (hP0 : h b = some (.inl (6, [.inl p, .inl (s : Int), .inr (some (b + 1)), .inr (some (b + 2))]))) (hp : zprime p) (hv : 0 < v ∧ v < p) (hQ : Q (some (.inl (zinv p v))) n k h) : ∀ (d : Nat) (j : Nat), 40 - j = d → (1 ≤ j ∧ (j : Int) ≤ zinv p v) → (∀ i : Nat, 1 ≤ i → i < j → ¬ (i : Int) * v % p = 1) → ZT n0 g mX5_inverse 2 [some (.inr (some b)), some (.inl v), some (.inl (j : Int))] [] n k h Q := by
  intro d
  induction d using Nat.strongRecOn with | _ d ih => ?_
  intro j hd0 hj hn
  subst hd0
  have hpb := hp.bd
  have hz := zinv_spec hp hv.1 hv.2
  refine T_iload_n dX5_inverse_2 rfl ?_
  refine T_aload_n dX5_inverse_3 rfl ?_
  refine T_getfield dX5_inverse_4 zkf_6_9 hP0 rfl ?_
  refine T_icmp_ge dX5_inverse_7 (t := 30) rfl (fun hc => absurd hc (by omega)) (fun _ => ?_)
  refine T_iload_n dX5_inverse_10 rfl ?_
  refine T_iload_n dX5_inverse_11 rfl ?_
  have mw := zmul_le (show (0 : Int) ≤ j by omega) (show (j : Int) ≤ 32 by omega) (show 0 ≤ v by omega) (show v ≤ 32 by omega)
  refine T_imul dX5_inverse_12 (zmulR (by omega) (by omega) (by omega) (by omega)) ?_
  refine T_aload_n dX5_inverse_13 rfl ?_
  refine T_getfield dX5_inverse_14 zkf_6_9 hP0 rfl ?_
  refine T_iremN dX5_inverse_17 ⟨by omega, by omega⟩ (by omega) ?_
  have r17 := zmod_bd ((j : Int) * v) p (by omega)
  refine T_iconst dX5_inverse_18 (by decide) ?_
  refine T_icmp_ne dX5_inverse_19 (t := 24) rfl (fun c19 => ?_) (fun c19 => ?_)
  · refine T_iinc dX5_inverse_24 rfl ⟨by omega, by omega⟩ ?_
    refine T_goto dX5_inverse_27 (t := 2) rfl ?_
    exact ih _ (by omega) (j + 1) rfl  ⟨by omega, by
          by_cases e : (j : Int) = zinv p v
          · rw [e] at c19; exact absurd hz.2.2 c19
          · omega⟩ (fun i a b => by
          by_cases e : i = j
          · subst e; omega
          · exact hn i a (by omega)) 
  · have c19n : (j : Int) * v % p = 1 := Classical.not_not.mp c19
    refine T_iload_n dX5_inverse_22 rfl ?_
    refine T_iret dX5_inverse_23 rfl ?_
    rw [← zinv_of hj.1 (by omega) c19n hn]
    exact hQ
set_option maxHeartbeats 4000000 in
set_option maxRecDepth 100000 in
theorem m_X5_inverse {n0 n k : Nat} {g : Nat → zV} {h : zHp} {Q : Option zV → Nat → Nat → zHp → Prop} {b s : Nat} {p v : Int} (hP0 : h b = some (.inl (6, [.inl p, .inl (s : Int), .inr (some (b + 1)), .inr (some (b + 2))]))) (hp : zprime p) (hv : 0 < v ∧ v < p) (hQ : Q (some (.inl (zinv p v))) n k h) : ZT n0 g mX5_inverse 0 (zloc mX5_inverse [.inr (some b), .inl v]) [] n k h Q := by
  show ZT n0 g mX5_inverse 0 [some (.inr (some b)), some (.inl v), none] [] n k h Q
  have hpb := hp.bd
  refine T_iconst dX5_inverse_0 (by decide) ?_
  refine T_istore_n dX5_inverse_1 (Nat.le_of_ble_eq_true rfl) ?_
  have hz := zinv_spec hp hv.1 hv.2
  exact m_X5_inverse_2 hP0 hp hv hQ _ 1 rfl  (by omega) (fun i a b => by omega) 
set_option maxHeartbeats 4000000 in
set_option maxRecDepth 100000 in
theorem m_X5_monomialAt {n0 n k : Nat} {g : Nat → zV} {h : zHp} {Q : Option zV → Nat → Nat → zHp → Prop} {b s : Nat} {p : Int} {xs ys : Nat → Int} {m i : Nat} (hP0 : h b = some (.inl (6, [.inl p, .inl (s : Int), .inr (some (b + 1)), .inr (some (b + 2))]))) (hP1 : h (b + 1) = some (.inr (.inl (0, 8, xs)))) (hP2 : h (b + 2) = some (.inr (.inl (0, 8, ys)))) (hs : s ≤ 8) (hp : 1 < p ∧ p < 32) (hxs : ∀ j, j < s → 0 ≤ xs j ∧ xs j < p) (hys : ∀ j, j < s → 0 ≤ ys j ∧ ys j < p) (hi : i < s) (hm : m < 81) (hQ : Q (some (.inl (zmon p (xs i) (ys i) m))) n k h) : ZT n0 g mX5_monomialAt 0 (zloc mX5_monomialAt [.inr (some b), .inl (m : Int), .inl (i : Int)]) [] n k h Q := by
  show ZT n0 g mX5_monomialAt 0 [some (.inr (some b)), some (.inl (m : Int)), some (.inl (i : Int))] [] n k h Q
  refine T_aload_n dX5_monomialAt_0 rfl ?_
  refine T_aload_n dX5_monomialAt_1 rfl ?_
  refine T_getfield dX5_monomialAt_2 zkf_6_18 hP0 rfl ?_
  refine T_iload_n dX5_monomialAt_5 rfl ?_
  refine T_ialoadN (m := i) dX5_monomialAt_6 hP1 rfl (by omega) ?_
  have e6 := hxs i (by omega)
  refine T_iload_n dX5_monomialAt_7 rfl ?_
  refine T_bipush dX5_monomialAt_8 (by decide) ?_
  refine T_idivN dX5_monomialAt_10 ⟨by omega, by omega⟩ (by omega) ?_
  refine T_callV dX5_monomialAt_11 zkm_6_41 (Or.inl rfl) rfl hP0 ⟨Nat.le_of_ble_eq_true rfl, rfl⟩ rfl (Nat.le_of_ble_eq_true rfl) ?_
  refine m_X5_power (e := (m / 9)) hP0 (by omega) e6 (by omega) ?_
  refine T_aload_n dX5_monomialAt_14 rfl ?_
  refine T_aload_n dX5_monomialAt_15 rfl ?_
  refine T_getfield dX5_monomialAt_16 zkf_6_22 hP0 rfl ?_
  refine T_iload_n dX5_monomialAt_19 rfl ?_
  refine T_ialoadN (m := i) dX5_monomialAt_20 hP2 rfl (by omega) ?_
  have e20 := hys i (by omega)
  refine T_iload_n dX5_monomialAt_21 rfl ?_
  refine T_bipush dX5_monomialAt_22 (by decide) ?_
  refine T_iremN dX5_monomialAt_24 ⟨by omega, by omega⟩ (by omega) ?_
  refine T_callV dX5_monomialAt_25 zkm_6_41 (Or.inl rfl) rfl hP0 ⟨Nat.le_of_ble_eq_true rfl, rfl⟩ rfl (Nat.le_of_ble_eq_true rfl) ?_
  refine m_X5_power (e := (m % 9)) hP0 (by omega) e20 (by omega) ?_
  have w1 := zpow_bd (b := xs i) hp.1 (m / 9)
  have w2 := zpow_bd (b := ys i) hp.1 (m % 9)
  have w3 := zmul_le w1.1 (show _ ≤ (32 : Int) by omega) w2.1 (show _ ≤ (32 : Int) by omega)
  refine T_imul dX5_monomialAt_28 (zmulR (by omega) (by omega) (by omega) (by omega)) ?_
  refine T_aload_n dX5_monomialAt_29 rfl ?_
  refine T_getfield dX5_monomialAt_30 zkf_6_9 hP0 rfl ?_
  refine T_iremN dX5_monomialAt_33 ⟨by omega, by omega⟩ (by omega) ?_
  have r33 := zmod_bd ((zpow p (xs i) (m / 9)) * (zpow p (ys i) (m % 9))) p (by omega)
  refine T_iret dX5_monomialAt_34 rfl ?_
  exact hQ
set_option maxHeartbeats 4000000 in
set_option maxRecDepth 100000 in
theorem m_X5_copyFrom {n0 n k : Nat} {g : Nat → zV} {h : zHp} {Q : Option zV → Nat → Nat → zHp → Prop} {b s : Nat} {p : Int} {xs ys : Nat → Int} {c s2 : Nat} {p2 : Int} {us vs : Nat → Int} (hP0 : h b = some (.inl (6, [.inl p, .inl (s : Int), .inr (some (b + 1)), .inr (some (b + 2))]))) (hP1 : h (b + 1) = some (.inr (.inl (0, 8, xs)))) (hP2 : h (b + 2) = some (.inr (.inl (0, 8, ys)))) (hC0 : h c = some (.inl (6, [.inl p2, .inl (s2 : Int), .inr (some (c + 1)), .inr (some (c + 2))]))) (hC1 : h (c + 1) = some (.inr (.inl (0, 8, us)))) (hC2 : h (c + 2) = some (.inr (.inl (0, 8, vs)))) (hw : n0 ≤ b ∧ n0 ≤ c) (hd : b + 3 ≤ c ∨ c + 3 ≤ b) (hQ : ∀  (h' : zHp), h' b = some (.inl (6, [.inl p2, .inl (s2 : Int), .inr (some (b + 1)), .inr (some (b + 2))])) → h' (b + 1) = some (.inr (.inl (0, 8, (zcp us xs 0 0 8)))) → h' (b + 2) = some (.inr (.inl (0, 8, (zcp vs ys 0 0 8)))) → (∀ q : Nat, q ≠ b → q ≠ (b + 1) → q ≠ (b + 2) → h' q = h q) → Q none n k h') : ZT n0 g mX5_copyFrom 0 (zloc mX5_copyFrom [.inr (some b), .inr (some c)]) [] n k h Q := by
  show ZT n0 g mX5_copyFrom 0 [some (.inr (some b)), some (.inr (some c))] [] n k h Q
  refine T_aload_n dX5_copyFrom_0 rfl ?_
  refine T_aload_n dX5_copyFrom_1 rfl ?_
  refine T_getfield dX5_copyFrom_2 zkf_6_9 hC0 rfl ?_
  refine T_putfield dX5_copyFrom_5 zkf_6_9 hP0 (Nat.le_of_ble_eq_true rfl) (by omega) rfl (fun hf => absurd hf (by decide)) rfl ?_
  refine T_aload_n dX5_copyFrom_8 rfl ?_
  refine T_aload_n dX5_copyFrom_9 rfl ?_
  refine T_getfield dX5_copyFrom_10 zkf_6_15 (zup_ne (by omega) hC0) rfl ?_
  refine T_putfield dX5_copyFrom_13 zkf_6_15 zup_self (Nat.le_of_ble_eq_true rfl) (by omega) rfl (fun hf => absurd hf (by decide)) rfl ?_
  refine T_aload_n dX5_copyFrom_16 rfl ?_
  refine T_getfield dX5_copyFrom_17 zkf_6_18 (zup_ne (by omega) (zup_ne (by omega) hC0)) rfl ?_
  refine T_iconst dX5_copyFrom_20 (by decide) ?_
  refine T_aload_n dX5_copyFrom_21 rfl ?_
  refine T_getfield dX5_copyFrom_22 zkf_6_18 zup_self rfl ?_
  refine T_iconst dX5_copyFrom_25 (by decide) ?_
  refine T_bipush dX5_copyFrom_26 (by decide) ?_
  refine T_copy dX5_copyFrom_28 zkm_6_25 (zup_ne (by omega) (zup_ne (by omega) hC1)) (zup_ne (by omega) (zup_ne (by omega) hP1)) ⟨by omega, by omega, by omega, by omega, by omega⟩ ⟨(by omega), (by omega)⟩ ⟨Nat.le_of_ble_eq_true rfl, Nat.le_of_ble_eq_true rfl, Nat.le_of_ble_eq_true rfl⟩ ?_
  refine T_aload_n dX5_copyFrom_31 rfl ?_
  refine T_getfield dX5_copyFrom_32 zkf_6_22 (zup_ne (by omega) (zup_ne (by omega) (zup_ne (by omega) hC0))) rfl ?_
  refine T_iconst dX5_copyFrom_35 (by decide) ?_
  refine T_aload_n dX5_copyFrom_36 rfl ?_
  refine T_getfield dX5_copyFrom_37 zkf_6_22 (zup_ne (by omega) zup_self) rfl ?_
  refine T_iconst dX5_copyFrom_40 (by decide) ?_
  refine T_bipush dX5_copyFrom_41 (by decide) ?_
  refine T_copy dX5_copyFrom_43 zkm_6_25 (zup_ne (by omega) (zup_ne (by omega) (zup_ne (by omega) hC2))) (zup_ne (by omega) (zup_ne (by omega) (zup_ne (by omega) hP2))) ⟨by omega, by omega, by omega, by omega, by omega⟩ ⟨(by omega), (by omega)⟩ ⟨Nat.le_of_ble_eq_true rfl, Nat.le_of_ble_eq_true rfl, Nat.le_of_ble_eq_true rfl⟩ ?_
  refine T_vret dX5_copyFrom_46 rfl ?_
  exact hQ _ (zup_ne (by omega) (zup_ne (by omega) zup_self)) (zup_ne (by omega) zup_self) zup_self (fun q q0 q1 q2 => ((zup_nf q2).trans ((zup_nf q1).trans ((zup_nf q0).trans ((zup_nf q0).trans rfl)))))
set_option maxHeartbeats 4000000 in
set_option maxRecDepth 100000 in
theorem m_X5_restart {n0 n k : Nat} {g : Nat → zV} {h : zHp} {Q : Option zV → Nat → Nat → zHp → Prop} {b s : Nat} {p q : Int} (hP0 : h b = some (.inl (6, [.inl p, .inl (s : Int), .inr (some (b + 1)), .inr (some (b + 2))]))) (hw : n0 ≤ b) (hQ : ∀  (h' : zHp), h' b = some (.inl (6, [.inl q, .inl 0, .inr (some (b + 1)), .inr (some (b + 2))])) → (∀ q : Nat, q ≠ b → h' q = h q) → Q none n k h') : ZT n0 g mX5_restart 0 (zloc mX5_restart [.inr (some b), .inl q]) [] n k h Q := by
  show ZT n0 g mX5_restart 0 [some (.inr (some b)), some (.inl q)] [] n k h Q
  refine T_aload_n dX5_restart_0 rfl ?_
  refine T_iload_n dX5_restart_1 rfl ?_
  refine T_putfield dX5_restart_2 zkf_6_9 hP0 (Nat.le_of_ble_eq_true rfl) (by omega) rfl (fun hf => absurd hf (by decide)) rfl ?_
  refine T_aload_n dX5_restart_5 rfl ?_
  refine T_iconst dX5_restart_6 (by decide) ?_
  refine T_putfield dX5_restart_7 zkf_6_15 zup_self (Nat.le_of_ble_eq_true rfl) (by omega) rfl (fun hf => absurd hf (by decide)) rfl ?_
  refine T_vret dX5_restart_10 rfl ?_
  exact hQ _ zup_self (fun q q0 => ((zup_nf q0).trans ((zup_nf q0).trans rfl)))
