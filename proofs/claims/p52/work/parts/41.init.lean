/-! ===== constructors of the class: printed by wip/whole/gen/s_init.py ===== -/
set_option maxHeartbeats 4000000 in
set_option maxRecDepth 100000 in
theorem m_X0_init {n0 k : Nat} {g : Nat → zV} {h : zHp} {Q : Option zV → Nat → Nat → zHp → Prop} {b : Nat} (h0 : h b = some (.inl (1, [.inl 0, .inl 0, .inr none, .inr none]))) (hw : n0 ≤ b) (hQ : ∀  (h' : zHp), h' b = some (.inl (1, [.inl 0, .inl 0, .inr (some (b + 1)), .inr (some (b + 2))])) → h' (b + 1) = some (.inr (.inl (0, 9, (fun _ => 0)))) → h' (b + 2) = some (.inr (.inl (0, 9, (fun _ => 0)))) → (∀ q : Nat, q ≠ b → q ≠ (b + 1) → q ≠ (b + 2) → h' q = h q) → Q none (b + 3) (k + 18) h') : ZT n0 g mX0_init 0 (zloc mX0_init [.inr (some b)]) [] (b + 1) k h Q := by
  show ZT n0 g mX0_init 0 [some (.inr (some b))] [] (b + 1) k h Q
  refine T_aload_n dX0_init_0 rfl ?_
  refine T_objinit dX0_init_1 zkm_1_3 ⟨Nat.le_of_ble_eq_true rfl, Nat.le_of_ble_eq_true rfl, Nat.le_of_ble_eq_true rfl⟩ ?_
  refine T_aload_n dX0_init_4 rfl ?_
  refine T_iconst dX0_init_5 (by decide) ?_
  refine T_putfield dX0_init_6 zkf_1_9 h0 (Nat.le_of_ble_eq_true rfl) (by omega) rfl (fun _ => ⟨rfl, rfl⟩) rfl ?_
  refine T_aload_n dX0_init_9 rfl ?_
  refine T_iconst dX0_init_10 (by decide) ?_
  refine T_putfield dX0_init_11 zkf_1_15 zup_self (Nat.le_of_ble_eq_true rfl) (by omega) rfl (fun _ => ⟨rfl, rfl⟩) rfl ?_
  refine T_aload_n dX0_init_14 rfl ?_
  refine T_bipush dX0_init_15 (by decide) ?_
  refine T_newarrayN (m := 9) dX0_init_17 rfl rfl (Nat.le_of_ble_eq_true rfl) ?_
  refine T_putfield dX0_init_19 zkf_1_18 (zup_ne (by omega) zup_self) (Nat.le_of_ble_eq_true rfl) (by omega) rfl (fun _ => ⟨rfl, rfl⟩) rfl ?_
  refine T_aload_n dX0_init_22 rfl ?_
  refine T_bipush dX0_init_23 (by decide) ?_
  refine T_newarrayN (m := 9) dX0_init_25 rfl rfl (Nat.le_of_ble_eq_true rfl) ?_
  refine T_putfield dX0_init_27 zkf_1_22 (zup_ne (by omega) zup_self) (Nat.le_of_ble_eq_true rfl) (by omega) rfl (fun _ => ⟨rfl, rfl⟩) rfl ?_
  refine T_vret dX0_init_30 rfl ?_
  exact hQ _ zup_self (zup_ne (by omega) (zup_ne (by omega) (zup_ne (by omega) zup_self))) (zup_ne (by omega) zup_self) (fun q q0 q1 q2 => ((zup_nf q0).trans ((zup_nf q2).trans ((zup_nf q0).trans ((zup_nf q1).trans ((zup_nf q0).trans ((zup_nf q0).trans rfl)))))))
set_option maxHeartbeats 4000000 in
set_option maxRecDepth 100000 in
theorem m_X5_init {n0 k : Nat} {g : Nat → zV} {h : zHp} {Q : Option zV → Nat → Nat → zHp → Prop} {b : Nat} (h0 : h b = some (.inl (6, [.inl 0, .inl 0, .inr none, .inr none]))) (hw : n0 ≤ b) (hQ : ∀  (h' : zHp), h' b = some (.inl (6, [.inl 7, .inl 0, .inr (some (b + 1)), .inr (some (b + 2))])) → h' (b + 1) = some (.inr (.inl (0, 8, (fun _ => 0)))) → h' (b + 2) = some (.inr (.inl (0, 8, (fun _ => 0)))) → (∀ q : Nat, q ≠ b → q ≠ (b + 1) → q ≠ (b + 2) → h' q = h q) → Q none (b + 3) (k + 16) h') : ZT n0 g mX5_init 0 (zloc mX5_init [.inr (some b)]) [] (b + 1) k h Q := by
  show ZT n0 g mX5_init 0 [some (.inr (some b))] [] (b + 1) k h Q
  refine T_aload_n dX5_init_0 rfl ?_
  refine T_objinit dX5_init_1 zkm_6_3 ⟨Nat.le_of_ble_eq_true rfl, Nat.le_of_ble_eq_true rfl, Nat.le_of_ble_eq_true rfl⟩ ?_
  refine T_aload_n dX5_init_4 rfl ?_
  refine T_bipush dX5_init_5 (by decide) ?_
  refine T_putfield dX5_init_7 zkf_6_9 h0 (Nat.le_of_ble_eq_true rfl) (by omega) rfl (fun _ => ⟨rfl, rfl⟩) rfl ?_
  refine T_aload_n dX5_init_10 rfl ?_
  refine T_iconst dX5_init_11 (by decide) ?_
  refine T_putfield dX5_init_12 zkf_6_15 zup_self (Nat.le_of_ble_eq_true rfl) (by omega) rfl (fun _ => ⟨rfl, rfl⟩) rfl ?_
  refine T_aload_n dX5_init_15 rfl ?_
  refine T_bipush dX5_init_16 (by decide) ?_
  refine T_newarrayN (m := 8) dX5_init_18 rfl rfl (Nat.le_of_ble_eq_true rfl) ?_
  refine T_putfield dX5_init_20 zkf_6_18 (zup_ne (by omega) zup_self) (Nat.le_of_ble_eq_true rfl) (by omega) rfl (fun _ => ⟨rfl, rfl⟩) rfl ?_
  refine T_aload_n dX5_init_23 rfl ?_
  refine T_bipush dX5_init_24 (by decide) ?_
  refine T_newarrayN (m := 8) dX5_init_26 rfl rfl (Nat.le_of_ble_eq_true rfl) ?_
  refine T_putfield dX5_init_28 zkf_6_22 (zup_ne (by omega) zup_self) (Nat.le_of_ble_eq_true rfl) (by omega) rfl (fun _ => ⟨rfl, rfl⟩) rfl ?_
  refine T_vret dX5_init_31 rfl ?_
  exact hQ _ zup_self (zup_ne (by omega) (zup_ne (by omega) (zup_ne (by omega) zup_self))) (zup_ne (by omega) zup_self) (fun q q0 q1 q2 => ((zup_nf q0).trans ((zup_nf q2).trans ((zup_nf q0).trans ((zup_nf q1).trans ((zup_nf q0).trans ((zup_nf q0).trans rfl)))))))
set_option maxHeartbeats 4000000 in
set_option maxRecDepth 100000 in
theorem m_X6_init {n0 k : Nat} {g : Nat → zV} {h : zHp} {Q : Option zV → Nat → Nat → zHp → Prop} {b : Nat} (h0 : h b = some (.inl (7, [.inr none]))) (hw : n0 ≤ b) (hQ : ∀  (h' : zHp), h' b = some (.inl (7, [.inr (some (b + 1))])) → h' (b + 1) = some (.inr (.inl (0, 81, (fun _ => 0)))) → (∀ q : Nat, q ≠ b → q ≠ (b + 1) → h' q = h q) → Q none (b + 2) (k + 81) h') : ZT n0 g mX6_init 0 (zloc mX6_init [.inr (some b)]) [] (b + 1) k h Q := by
  show ZT n0 g mX6_init 0 [some (.inr (some b))] [] (b + 1) k h Q
  refine T_aload_n dX6_init_0 rfl ?_
  refine T_objinit dX6_init_1 zkm_7_3 ⟨Nat.le_of_ble_eq_true rfl, Nat.le_of_ble_eq_true rfl, Nat.le_of_ble_eq_true rfl⟩ ?_
  refine T_aload_n dX6_init_4 rfl ?_
  refine T_bipush dX6_init_5 (by decide) ?_
  refine T_newarrayN (m := 81) dX6_init_7 rfl rfl (Nat.le_of_ble_eq_true rfl) ?_
  refine T_putfield dX6_init_9 zkf_7_9 (zup_ne (by omega) h0) (Nat.le_of_ble_eq_true rfl) (by omega) rfl (fun _ => ⟨rfl, rfl⟩) rfl ?_
  refine T_vret dX6_init_12 rfl ?_
  exact hQ _ zup_self (zup_ne (by omega) zup_self) (fun q q0 q1 => ((zup_nf q0).trans ((zup_nf q1).trans rfl)))
set_option maxHeartbeats 4000000 in
set_option maxRecDepth 100000 in
theorem m_X4_init {n0 k : Nat} {g : Nat → zV} {h : zHp} {Q : Option zV → Nat → Nat → zHp → Prop} {b : Nat} (h0 : h b = some (.inl (5, [.inl 0, .inl 0, .inl 0]))) (hw : n0 ≤ b) (hQ : ∀  (h' : zHp), h' b = some (.inl (5, [.inl 1, .inl 0, .inl 1])) → (∀ q : Nat, q ≠ b → h' q = h q) → Q none (b + 1) k h') : ZT n0 g mX4_init 0 (zloc mX4_init [.inr (some b)]) [] (b + 1) k h Q := by
  show ZT n0 g mX4_init 0 [some (.inr (some b))] [] (b + 1) k h Q
  refine T_aload_n dX4_init_0 rfl ?_
  refine T_objinit dX4_init_1 zkm_5_3 ⟨Nat.le_of_ble_eq_true rfl, Nat.le_of_ble_eq_true rfl, Nat.le_of_ble_eq_true rfl⟩ ?_
  refine T_aload_n dX4_init_4 rfl ?_
  refine T_iconst dX4_init_5 (by decide) ?_
  refine T_putfield dX4_init_6 zkf_5_9 h0 (Nat.le_of_ble_eq_true rfl) (by omega) rfl (fun _ => ⟨rfl, rfl⟩) rfl ?_
  refine T_aload_n dX4_init_9 rfl ?_
  refine T_iconst dX4_init_10 (by decide) ?_
  refine T_putfield dX4_init_11 zkf_5_15 zup_self (Nat.le_of_ble_eq_true rfl) (by omega) rfl (fun _ => ⟨rfl, rfl⟩) rfl ?_
  refine T_aload_n dX4_init_14 rfl ?_
  refine T_iconst dX4_init_15 (by decide) ?_
  refine T_putfield dX4_init_16 zkf_5_18 zup_self (Nat.le_of_ble_eq_true rfl) (by omega) rfl (fun _ => ⟨rfl, rfl⟩) rfl ?_
  refine T_vret dX4_init_19 rfl ?_
  exact hQ _ zup_self (fun q q0 => ((zup_nf q0).trans ((zup_nf q0).trans ((zup_nf q0).trans rfl))))
set_option maxHeartbeats 4000000 in
set_option maxRecDepth 100000 in
theorem m_X3_init {n0 k : Nat} {g : Nat → zV} {h : zHp} {Q : Option zV → Nat → Nat → zHp → Prop} {b : Nat} (h0 : h b = some (.inl (4, [.inl 0, .inr none, .inl 0, .inr none]))) (hw : n0 ≤ b) (hQ : ∀  (h' : zHp), h' b = some (.inl (4, [.inl 0, .inr (some (b + 1)), .inl 0, .inr (some (b + 2))])) → h' (b + 1) = some (.inr (.inl (1, 60, (fun _ => 0)))) → h' (b + 2) = some (.inr (.inl (0, 30, (fun _ => 0)))) → (∀ q : Nat, q ≠ b → q ≠ (b + 1) → q ≠ (b + 2) → h' q = h q) → Q none (b + 3) (k + 90) h') : ZT n0 g mX3_init 0 (zloc mX3_init [.inr (some b)]) [] (b + 1) k h Q := by
  show ZT n0 g mX3_init 0 [some (.inr (some b))] [] (b + 1) k h Q
  refine T_aload_n dX3_init_0 rfl ?_
  refine T_objinit dX3_init_1 zkm_4_3 ⟨Nat.le_of_ble_eq_true rfl, Nat.le_of_ble_eq_true rfl, Nat.le_of_ble_eq_true rfl⟩ ?_
  refine T_aload_n dX3_init_4 rfl ?_
  refine T_iconst dX3_init_5 (by decide) ?_
  refine T_putfield dX3_init_6 zkf_4_9 h0 (Nat.le_of_ble_eq_true rfl) (by omega) rfl (fun _ => ⟨rfl, rfl⟩) rfl ?_
  refine T_aload_n dX3_init_9 rfl ?_
  refine T_bipush dX3_init_10 (by decide) ?_
  refine T_newarrayN (m := 60) dX3_init_12 rfl rfl (Nat.le_of_ble_eq_true rfl) ?_
  refine T_putfield dX3_init_14 zkf_4_15 (zup_ne (by omega) zup_self) (Nat.le_of_ble_eq_true rfl) (by omega) rfl (fun _ => ⟨rfl, rfl⟩) rfl ?_
  refine T_aload_n dX3_init_17 rfl ?_
  refine T_iconst dX3_init_18 (by decide) ?_
  refine T_putfield dX3_init_19 zkf_4_19 zup_self (Nat.le_of_ble_eq_true rfl) (by omega) rfl (fun _ => ⟨rfl, rfl⟩) rfl ?_
  refine T_aload_n dX3_init_22 rfl ?_
  refine T_bipush dX3_init_23 (by decide) ?_
  refine T_newarrayN (m := 30) dX3_init_25 rfl rfl (Nat.le_of_ble_eq_true rfl) ?_
  refine T_putfield dX3_init_27 zkf_4_22 (zup_ne (by omega) zup_self) (Nat.le_of_ble_eq_true rfl) (by omega) rfl (fun _ => ⟨rfl, rfl⟩) rfl ?_
  refine T_vret dX3_init_30 rfl ?_
  exact hQ _ zup_self (zup_ne (by omega) (zup_ne (by omega) (zup_ne (by omega) (zup_ne (by omega) zup_self)))) (zup_ne (by omega) zup_self) (fun q q0 q1 q2 => ((zup_nf q0).trans ((zup_nf q2).trans ((zup_nf q0).trans ((zup_nf q0).trans ((zup_nf q1).trans ((zup_nf q0).trans rfl)))))))
set_option maxHeartbeats 4000000 in
set_option maxRecDepth 100000 in
theorem m_X8_init {n0 k : Nat} {g : Nat → zV} {h : zHp} {Q : Option zV → Nat → Nat → zHp → Prop} {b : Nat} (h0 : h b = some (.inl (9, [.inl 0, .inl 0, .inr none]))) (hw : n0 ≤ b) (hQ : ∀  (h' : zHp), h' b = some (.inl (9, [.inl 0, .inl 0, .inr (some (b + 1))])) → h' (b + 1) = some (.inr (.inl (0, 81, (fun _ => 0)))) → (∀ q : Nat, q ≠ b → q ≠ (b + 1) → h' q = h q) → Q none (b + 2) (k + 81) h') : ZT n0 g mX8_init 0 (zloc mX8_init [.inr (some b)]) [] (b + 1) k h Q := by
  show ZT n0 g mX8_init 0 [some (.inr (some b))] [] (b + 1) k h Q
  refine T_aload_n dX8_init_0 rfl ?_
  refine T_objinit dX8_init_1 zkm_9_3 ⟨Nat.le_of_ble_eq_true rfl, Nat.le_of_ble_eq_true rfl, Nat.le_of_ble_eq_true rfl⟩ ?_
  refine T_aload_n dX8_init_4 rfl ?_
  refine T_iconst dX8_init_5 (by decide) ?_
  refine T_putfield dX8_init_6 zkf_9_11 h0 (Nat.le_of_ble_eq_true rfl) (by omega) rfl (fun _ => ⟨rfl, rfl⟩) rfl ?_
  refine T_aload_n dX8_init_9 rfl ?_
  refine T_iconst dX8_init_10 (by decide) ?_
  refine T_putfield dX8_init_11 zkf_9_15 zup_self (Nat.le_of_ble_eq_true rfl) (by omega) rfl (fun _ => ⟨rfl, rfl⟩) rfl ?_
  refine T_aload_n dX8_init_14 rfl ?_
  refine T_bipush dX8_init_15 (by decide) ?_
  refine T_newarrayN (m := 81) dX8_init_17 rfl rfl (Nat.le_of_ble_eq_true rfl) ?_
  refine T_putfield dX8_init_19 zkf_9_18 (zup_ne (by omega) zup_self) (Nat.le_of_ble_eq_true rfl) (by omega) rfl (fun _ => ⟨rfl, rfl⟩) rfl ?_
  refine T_vret dX8_init_22 rfl ?_
  exact hQ _ zup_self (zup_ne (by omega) zup_self) (fun q q0 q1 => ((zup_nf q0).trans ((zup_nf q1).trans ((zup_nf q0).trans ((zup_nf q0).trans rfl)))))
set_option maxHeartbeats 4000000 in
set_option maxRecDepth 100000 in
theorem m_X7_init {n0 k : Nat} {g : Nat → zV} {h : zHp} {Q : Option zV → Nat → Nat → zHp → Prop} {b : Nat} (h0 : h b = some (.inl (8, [.inr none, .inl 0, .inr none, .inl 0, .inl 0]))) (hw : n0 ≤ b) (hQ : ∀  (h' : zHp), h' b = some (.inl (8, [.inr (some (b + 1)), .inl 0, .inr (some (b + 2)), .inl 0, .inl 0])) → h' (b + 1) = some (.inr (.inl (0, 9, (fun _ => 0)))) → h' (b + 2) = some (.inr (.inr (1, 4, (zfu (zfu (zfu (zfu (fun _ => none) 0 (some (b + 3))) 1 (some (b + 6))) 2 (some (b + 9))) 3 (some (b + 12)))))) → h' (b + 3) = some (.inl (1, [.inl 0, .inl 0, .inr (some (b + 4)), .inr (some (b + 5))])) → h' (b + 4) = some (.inr (.inl (0, 9, (fun _ => 0)))) → h' (b + 5) = some (.inr (.inl (0, 9, (fun _ => 0)))) → h' (b + 6) = some (.inl (1, [.inl 0, .inl 0, .inr (some (b + 7)), .inr (some (b + 8))])) → h' (b + 7) = some (.inr (.inl (0, 9, (fun _ => 0)))) → h' (b + 8) = some (.inr (.inl (0, 9, (fun _ => 0)))) → h' (b + 9) = some (.inl (1, [.inl 0, .inl 0, .inr (some (b + 10)), .inr (some (b + 11))])) → h' (b + 10) = some (.inr (.inl (0, 9, (fun _ => 0)))) → h' (b + 11) = some (.inr (.inl (0, 9, (fun _ => 0)))) → h' (b + 12) = some (.inl (1, [.inl 0, .inl 0, .inr (some (b + 13)), .inr (some (b + 14))])) → h' (b + 13) = some (.inr (.inl (0, 9, (fun _ => 0)))) → h' (b + 14) = some (.inr (.inl (0, 9, (fun _ => 0)))) → (∀ q : Nat, q ≠ b → q ≠ (b + 1) → q ≠ (b + 2) → q ≠ (b + 3) → q ≠ (b + 4) → q ≠ (b + 5) → q ≠ (b + 6) → q ≠ (b + 7) → q ≠ (b + 8) → q ≠ (b + 9) → q ≠ (b + 10) → q ≠ (b + 11) → q ≠ (b + 12) → q ≠ (b + 13) → q ≠ (b + 14) → h' q = h q) → Q none (b + 15) (k + 101) h') : ZT n0 g mX7_init 0 (zloc mX7_init [.inr (some b)]) [] (b + 1) k h Q := by
  show ZT n0 g mX7_init 0 [some (.inr (some b)), none] [] (b + 1) k h Q
  refine T_aload_n dX7_init_0 rfl ?_
  refine T_objinit dX7_init_1 zkm_8_3 ⟨Nat.le_of_ble_eq_true rfl, Nat.le_of_ble_eq_true rfl, Nat.le_of_ble_eq_true rfl⟩ ?_
  refine T_aload_n dX7_init_4 rfl ?_
  refine T_bipush dX7_init_5 (by decide) ?_
  refine T_newarrayN (m := 9) dX7_init_7 rfl rfl (Nat.le_of_ble_eq_true rfl) ?_
  refine T_putfield dX7_init_9 zkf_8_9 (zup_ne (by omega) h0) (Nat.le_of_ble_eq_true rfl) (by omega) rfl (fun _ => ⟨rfl, rfl⟩) rfl ?_
  refine T_aload_n dX7_init_12 rfl ?_
  refine T_iconst dX7_init_13 (by decide) ?_
  refine T_putfield dX7_init_14 zkf_8_15 zup_self (Nat.le_of_ble_eq_true rfl) (by omega) rfl (fun _ => ⟨rfl, rfl⟩) rfl ?_
  refine T_aload_n dX7_init_17 rfl ?_
  refine T_iconst dX7_init_18 (by decide) ?_
  refine T_anewarrayN (m := 4) dX7_init_19 zkk_8_19 (by decide) rfl (Nat.le_of_ble_eq_true rfl) ?_
  refine T_putfield dX7_init_22 zkf_8_21 (zup_ne (by omega) zup_self) (Nat.le_of_ble_eq_true rfl) (by omega) rfl (fun _ => ⟨rfl, rfl⟩) rfl ?_
  refine T_aload_n dX7_init_25 rfl ?_
  refine T_iconst dX7_init_26 (by decide) ?_
  refine T_putfield dX7_init_27 zkf_8_25 zup_self (Nat.le_of_ble_eq_true rfl) (by omega) rfl (fun _ => ⟨rfl, rfl⟩) rfl ?_
  refine T_aload_n dX7_init_30 rfl ?_
  refine T_iconst dX7_init_31 (by decide) ?_
  refine T_putfield dX7_init_32 zkf_8_28 zup_self (Nat.le_of_ble_eq_true rfl) (by omega) rfl (fun _ => ⟨rfl, rfl⟩) rfl ?_
  refine T_iconst dX7_init_35 (by decide) ?_
  refine T_istore_n dX7_init_36 (Nat.le_of_ble_eq_true rfl) ?_
  refine T_iload_n dX7_init_37 rfl ?_
  refine T_iconst dX7_init_38 (by decide) ?_
  refine T_icmp_ge dX7_init_39 (t := 61) rfl (fun hc => absurd hc (by decide)) (fun _ => ?_)
  refine T_aload_n dX7_init_42 rfl ?_
  refine T_getfield dX7_init_43 zkf_8_21 zup_self rfl ?_
  refine T_iload_n dX7_init_46 rfl ?_
  refine T_new (sz := 4) (fs := [.inl 0, .inl 0, .inr none, .inr none]) dX7_init_47 zkk_8_19 (Nat.le_of_ble_eq_true rfl) rfl rfl ?_
  refine T_dup dX7_init_50 ?_
  refine T_callI dX7_init_51 zkm_8_31 (Or.inr rfl) rfl ⟨Nat.le_of_ble_eq_true rfl, rfl⟩ rfl (Nat.le_of_ble_eq_true rfl) ?_
  refine m_X0_init zup_self (by omega) (fun hh51 f51a f51b f51c fr51 => ?_)
  refine T_aastoreN (m := 0) dX7_init_54 ((fr51 _ (by omega) (by omega) (by omega)).trans (zup_ne (by omega) (zup_ne (by omega) (zup_ne (by omega) (zup_ne (by omega) zup_self))))) f51a (Nat.le_of_ble_eq_true rfl) rfl (by omega) (by omega) ?_
  refine T_iinc dX7_init_55 rfl ⟨by omega, by omega⟩ ?_
  refine T_goto dX7_init_58 (t := 37) rfl ?_
  refine T_iload_n dX7_init_37 rfl ?_
  refine T_iconst dX7_init_38 (by decide) ?_
  refine T_icmp_ge dX7_init_39 (t := 61) rfl (fun hc => absurd hc (by decide)) (fun _ => ?_)
  refine T_aload_n dX7_init_42 rfl ?_
  refine T_getfield dX7_init_43 zkf_8_21 (zup_ne (by omega) ((fr51 _ (by omega) (by omega) (by omega)).trans (zup_ne (by omega) zup_self))) rfl ?_
  refine T_iload_n dX7_init_46 rfl ?_
  refine T_new (sz := 4) (fs := [.inl 0, .inl 0, .inr none, .inr none]) dX7_init_47 zkk_8_19 (Nat.le_of_ble_eq_true rfl) rfl rfl ?_
  refine T_dup dX7_init_50 ?_
  refine T_callI dX7_init_51 zkm_8_31 (Or.inr rfl) rfl ⟨Nat.le_of_ble_eq_true rfl, rfl⟩ rfl (Nat.le_of_ble_eq_true rfl) ?_
  refine m_X0_init zup_self (by omega) (fun hh51 f51a_2 f51b_2 f51c_2 fr51_2 => ?_)
  refine T_aastoreN (m := 1) dX7_init_54 ((fr51_2 _ (by omega) (by omega) (by omega)).trans (zup_ne (by omega) zup_self)) f51a_2 (Nat.le_of_ble_eq_true rfl) rfl (by omega) (by omega) ?_
  refine T_iinc dX7_init_55 rfl ⟨by omega, by omega⟩ ?_
  refine T_goto dX7_init_58 (t := 37) rfl ?_
  refine T_iload_n dX7_init_37 rfl ?_
  refine T_iconst dX7_init_38 (by decide) ?_
  refine T_icmp_ge dX7_init_39 (t := 61) rfl (fun hc => absurd hc (by decide)) (fun _ => ?_)
  refine T_aload_n dX7_init_42 rfl ?_
  refine T_getfield dX7_init_43 zkf_8_21 (zup_ne (by omega) ((fr51_2 _ (by omega) (by omega) (by omega)).trans (zup_ne (by omega) (zup_ne (by omega) ((fr51 _ (by omega) (by omega) (by omega)).trans (zup_ne (by omega) zup_self)))))) rfl ?_
  refine T_iload_n dX7_init_46 rfl ?_
  refine T_new (sz := 4) (fs := [.inl 0, .inl 0, .inr none, .inr none]) dX7_init_47 zkk_8_19 (Nat.le_of_ble_eq_true rfl) rfl rfl ?_
  refine T_dup dX7_init_50 ?_
  refine T_callI dX7_init_51 zkm_8_31 (Or.inr rfl) rfl ⟨Nat.le_of_ble_eq_true rfl, rfl⟩ rfl (Nat.le_of_ble_eq_true rfl) ?_
  refine m_X0_init zup_self (by omega) (fun hh51 f51a_3 f51b_3 f51c_3 fr51_3 => ?_)
  refine T_aastoreN (m := 2) dX7_init_54 ((fr51_3 _ (by omega) (by omega) (by omega)).trans (zup_ne (by omega) zup_self)) f51a_3 (Nat.le_of_ble_eq_true rfl) rfl (by omega) (by omega) ?_
  refine T_iinc dX7_init_55 rfl ⟨by omega, by omega⟩ ?_
  refine T_goto dX7_init_58 (t := 37) rfl ?_
  refine T_iload_n dX7_init_37 rfl ?_
  refine T_iconst dX7_init_38 (by decide) ?_
  refine T_icmp_ge dX7_init_39 (t := 61) rfl (fun hc => absurd hc (by decide)) (fun _ => ?_)
  refine T_aload_n dX7_init_42 rfl ?_
  refine T_getfield dX7_init_43 zkf_8_21 (zup_ne (by omega) ((fr51_3 _ (by omega) (by omega) (by omega)).trans (zup_ne (by omega) (zup_ne (by omega) ((fr51_2 _ (by omega) (by omega) (by omega)).trans (zup_ne (by omega) (zup_ne (by omega) ((fr51 _ (by omega) (by omega) (by omega)).trans (zup_ne (by omega) zup_self))))))))) rfl ?_
  refine T_iload_n dX7_init_46 rfl ?_
  refine T_new (sz := 4) (fs := [.inl 0, .inl 0, .inr none, .inr none]) dX7_init_47 zkk_8_19 (Nat.le_of_ble_eq_true rfl) rfl rfl ?_
  refine T_dup dX7_init_50 ?_
  refine T_callI dX7_init_51 zkm_8_31 (Or.inr rfl) rfl ⟨Nat.le_of_ble_eq_true rfl, rfl⟩ rfl (Nat.le_of_ble_eq_true rfl) ?_
  refine m_X0_init zup_self (by omega) (fun hh51 f51a_4 f51b_4 f51c_4 fr51_4 => ?_)
  refine T_aastoreN (m := 3) dX7_init_54 ((fr51_4 _ (by omega) (by omega) (by omega)).trans (zup_ne (by omega) zup_self)) f51a_4 (Nat.le_of_ble_eq_true rfl) rfl (by omega) (by omega) ?_
  refine T_iinc dX7_init_55 rfl ⟨by omega, by omega⟩ ?_
  refine T_goto dX7_init_58 (t := 37) rfl ?_
  refine T_iload_n dX7_init_37 rfl ?_
  refine T_iconst dX7_init_38 (by decide) ?_
  refine T_icmp_ge dX7_init_39 (t := 61) rfl (fun _ => ?_) (fun hc => absurd hc (by decide))
  refine T_vret dX7_init_61 rfl ?_
  exact hQ _ (zup_ne (by omega) ((fr51_4 _ (by omega) (by omega) (by omega)).trans (zup_ne (by omega) (zup_ne (by omega) ((fr51_3 _ (by omega) (by omega) (by omega)).trans (zup_ne (by omega) (zup_ne (by omega) ((fr51_2 _ (by omega) (by omega) (by omega)).trans (zup_ne (by omega) (zup_ne (by omega) ((fr51 _ (by omega) (by omega) (by omega)).trans (zup_ne (by omega) zup_self)))))))))))) (zup_ne (by omega) ((fr51_4 _ (by omega) (by omega) (by omega)).trans (zup_ne (by omega) (zup_ne (by omega) ((fr51_3 _ (by omega) (by omega) (by omega)).trans (zup_ne (by omega) (zup_ne (by omega) ((fr51_2 _ (by omega) (by omega) (by omega)).trans (zup_ne (by omega) (zup_ne (by omega) ((fr51 _ (by omega) (by omega) (by omega)).trans (zup_ne (by omega) (zup_ne (by omega) (zup_ne (by omega) (zup_ne (by omega) (zup_ne (by omega) (zup_ne (by omega) (zup_ne (by omega) zup_self)))))))))))))))))) zup_self (zup_ne (by omega) ((fr51_4 _ (by omega) (by omega) (by omega)).trans (zup_ne (by omega) (zup_ne (by omega) ((fr51_3 _ (by omega) (by omega) (by omega)).trans (zup_ne (by omega) (zup_ne (by omega) ((fr51_2 _ (by omega) (by omega) (by omega)).trans (zup_ne (by omega) (zup_ne (by omega) f51a)))))))))) (zup_ne (by omega) ((fr51_4 _ (by omega) (by omega) (by omega)).trans (zup_ne (by omega) (zup_ne (by omega) ((fr51_3 _ (by omega) (by omega) (by omega)).trans (zup_ne (by omega) (zup_ne (by omega) ((fr51_2 _ (by omega) (by omega) (by omega)).trans (zup_ne (by omega) (zup_ne (by omega) f51b)))))))))) (zup_ne (by omega) ((fr51_4 _ (by omega) (by omega) (by omega)).trans (zup_ne (by omega) (zup_ne (by omega) ((fr51_3 _ (by omega) (by omega) (by omega)).trans (zup_ne (by omega) (zup_ne (by omega) ((fr51_2 _ (by omega) (by omega) (by omega)).trans (zup_ne (by omega) (zup_ne (by omega) f51c)))))))))) (zup_ne (by omega) ((fr51_4 _ (by omega) (by omega) (by omega)).trans (zup_ne (by omega) (zup_ne (by omega) ((fr51_3 _ (by omega) (by omega) (by omega)).trans (zup_ne (by omega) (zup_ne (by omega) f51a_2))))))) (zup_ne (by omega) ((fr51_4 _ (by omega) (by omega) (by omega)).trans (zup_ne (by omega) (zup_ne (by omega) ((fr51_3 _ (by omega) (by omega) (by omega)).trans (zup_ne (by omega) (zup_ne (by omega) f51b_2))))))) (zup_ne (by omega) ((fr51_4 _ (by omega) (by omega) (by omega)).trans (zup_ne (by omega) (zup_ne (by omega) ((fr51_3 _ (by omega) (by omega) (by omega)).trans (zup_ne (by omega) (zup_ne (by omega) f51c_2))))))) (zup_ne (by omega) ((fr51_4 _ (by omega) (by omega) (by omega)).trans (zup_ne (by omega) (zup_ne (by omega) f51a_3)))) (zup_ne (by omega) ((fr51_4 _ (by omega) (by omega) (by omega)).trans (zup_ne (by omega) (zup_ne (by omega) f51b_3)))) (zup_ne (by omega) ((fr51_4 _ (by omega) (by omega) (by omega)).trans (zup_ne (by omega) (zup_ne (by omega) f51c_3)))) (zup_ne (by omega) f51a_4) (zup_ne (by omega) f51b_4) (zup_ne (by omega) f51c_4) (fun q q0 q1 q2 q3 q4 q5 q6 q7 q8 q9 q10 q11 q12 q13 q14 => ((zup_nf q2).trans ((fr51_4 _ q12 q13 q14).trans ((zup_nf q12).trans ((zup_nf q2).trans ((fr51_3 _ q9 q10 q11).trans ((zup_nf q9).trans ((zup_nf q2).trans ((fr51_2 _ q6 q7 q8).trans ((zup_nf q6).trans ((zup_nf q2).trans ((fr51 _ q3 q4 q5).trans ((zup_nf q3).trans ((zup_nf q0).trans ((zup_nf q0).trans ((zup_nf q0).trans ((zup_nf q2).trans ((zup_nf q0).trans ((zup_nf q0).trans ((zup_nf q1).trans rfl))))))))))))))))))))
