/-! ===== p52: the law's picks, its points, what is standard: printed by wip/p52/gen/l52a.py ===== -/
set_option maxHeartbeats 4000000 in
set_option maxRecDepth 100000 in
theorem m_L_cell {n0 n k : Nat} {g : Nat → zV} {h : zHp} {Q : Option zV → Nat → Nat → zHp → Prop} {sA len i : Nat} {f : Nat → Int} (hs : h sA = some (.inr (.inl (0, len, f)))) (hi : i ≤ 300) (hQ : ∀ (z : Int), (zR z) → Q (some (.inl z)) n k h) : ZT n0 g mL_cell 0 (zloc mL_cell [.inr (some sA), .inl (i : Int)]) [] n k h Q := by
  show ZT n0 g mL_cell 0 [some (.inr (some sA)), some (.inl (i : Int)), none] [] n k h Q
  refine T_ldc dL_cell_0 zkc_20_7 (by decide) ?_
  refine T_iload_n dL_cell_2 rfl ?_
  refine T_aload_n dL_cell_3 rfl ?_
  refine T_arraylength dL_cell_4 hs ?_
  refine T_icmp_ge dL_cell_5 (t := 14) rfl (fun c5 => ?_) (fun c5 => ?_)
  · refine T_iconst dL_cell_14 (by decide) ?_
    refine T_sipush dL_cell_15 (by decide) ?_
    refine T_iload_n dL_cell_18 rfl ?_
    refine T_imul dL_cell_19 ⟨by omega, by omega⟩ ?_
    refine T_iaddW dL_cell_20 (fun z20 hz20 => ?_)
    refine T_imulW dL_cell_21 (fun z21 hz21 => ?_)
    refine T_sipush dL_cell_22 (by decide) ?_
    refine T_iaddW dL_cell_25 (fun z25 hz25 => ?_)
    refine T_istore_n dL_cell_26 (Nat.le_of_ble_eq_true rfl) ?_
    refine T_iload_n dL_cell_27 rfl ?_
    refine T_iload_n dL_cell_28 rfl ?_
    refine T_bipush dL_cell_29 (by decide) ?_
    refine T_iushrW dL_cell_31 (fun z31 hz31 => ?_)
    refine T_ixorW dL_cell_32 (fun z32 hz32 => ?_)
    refine T_ldc dL_cell_33 zkc_20_8 (by decide) ?_
    refine T_imulW dL_cell_35 (fun z35 hz35 => ?_)
    refine T_istore_n dL_cell_36 (Nat.le_of_ble_eq_true rfl) ?_
    refine T_iload_n dL_cell_37 rfl ?_
    refine T_iload_n dL_cell_38 rfl ?_
    refine T_bipush dL_cell_39 (by decide) ?_
    refine T_iushrW dL_cell_41 (fun z41 hz41 => ?_)
    refine T_ixorW dL_cell_42 (fun z42 hz42 => ?_)
    refine T_iret dL_cell_43 rfl ?_
    exact hQ _ hz42
  · refine T_aload_n dL_cell_8 rfl ?_
    refine T_iload_n dL_cell_9 rfl ?_
    refine T_ialoadN (m := i) dL_cell_10 hs rfl (by omega) ?_
    refine T_goto dL_cell_11 (t := 15) rfl ?_
    refine T_sipush dL_cell_15 (by decide) ?_
    refine T_iload_n dL_cell_18 rfl ?_
    refine T_imul dL_cell_19 ⟨by omega, by omega⟩ ?_
    refine T_iaddW dL_cell_20 (fun z20 hz20 => ?_)
    refine T_imulW dL_cell_21 (fun z21 hz21 => ?_)
    refine T_sipush dL_cell_22 (by decide) ?_
    refine T_iaddW dL_cell_25 (fun z25 hz25 => ?_)
    refine T_istore_n dL_cell_26 (Nat.le_of_ble_eq_true rfl) ?_
    refine T_iload_n dL_cell_27 rfl ?_
    refine T_iload_n dL_cell_28 rfl ?_
    refine T_bipush dL_cell_29 (by decide) ?_
    refine T_iushrW dL_cell_31 (fun z31 hz31 => ?_)
    refine T_ixorW dL_cell_32 (fun z32 hz32 => ?_)
    refine T_ldc dL_cell_33 zkc_20_8 (by decide) ?_
    refine T_imulW dL_cell_35 (fun z35 hz35 => ?_)
    refine T_istore_n dL_cell_36 (Nat.le_of_ble_eq_true rfl) ?_
    refine T_iload_n dL_cell_37 rfl ?_
    refine T_iload_n dL_cell_38 rfl ?_
    refine T_bipush dL_cell_39 (by decide) ?_
    refine T_iushrW dL_cell_41 (fun z41 hz41 => ?_)
    refine T_ixorW dL_cell_42 (fun z42 hz42 => ?_)
    refine T_iret dL_cell_43 rfl ?_
    exact hQ _ hz42
set_option maxHeartbeats 4000000 in
set_option maxRecDepth 100000 in
theorem m_L_pick {n0 n k : Nat} {g : Nat → zV} {h : zHp} {Q : Option zV → Nat → Nat → zHp → Prop} {sA len i : Nat} {m : Int} {f : Nat → Int} (hs : h sA = some (.inr (.inl (0, len, f)))) (hi : i ≤ 300) (hm : 0 < m ∧ m ≤ 1000) (hQ : ∀ (z : Int), (0 ≤ z ∧ z < m) → Q (some (.inl z)) n k h) : ZT n0 g mL_pick 0 (zloc mL_pick [.inr (some sA), .inl (i : Int), .inl m]) [] n k h Q := by
  show ZT n0 g mL_pick 0 [some (.inr (some sA)), some (.inl (i : Int)), some (.inl m)] [] n k h Q
  refine T_aload_n dL_pick_0 rfl ?_
  refine T_iload_n dL_pick_1 rfl ?_
  refine T_callS dL_pick_2 zkm_20_9 ⟨Nat.le_of_ble_eq_true rfl, Nat.le_of_ble_eq_true rfl, rfl⟩ rfl (Nat.le_of_ble_eq_true rfl) ?_
  refine m_L_cell hs (by omega) (fun z2 k2a => ?_)
  refine T_bipush dL_pick_5 (by decide) ?_
  refine T_iushr8 dL_pick_7 (fun w7 hw7 => ?_)
  refine T_iload_n dL_pick_8 rfl ?_
  refine T_iremN dL_pick_9 ⟨by omega, by omega⟩ (by omega) ?_
  have r9 := zmod_bd (w7 : Int) m (by omega)
  refine T_iret dL_pick_10 rfl ?_
  exact hQ _ r9
set_option maxHeartbeats 4000000 in
set_option maxRecDepth 100000 in
theorem m_L_prime {n0 n k : Nat} {g : Nat → zV} {h : zHp} {Q : Option zV → Nat → Nat → zHp → Prop} {x : Int}  (hQ : ∀ (z : Int), Q (some (.inl z)) n k h) : ZT n0 g mL_prime 0 (zloc mL_prime [.inl x]) [] n k h Q := by
  show ZT n0 g mL_prime 0 [some (.inl x)] [] n k h Q
  refine T_iload_n dL_prime_0 rfl ?_
  by_cases e0 : x = 0
  · subst e0
    refine T_tableIn (off := 39) (t := 40) dL_prime_1 (by decide) rfl rfl ?_
    refine T_iconst dL_prime_40 (by decide) ?_
    refine T_iret dL_prime_41 rfl ?_
    exact hQ 2
  by_cases e1 : x = 1
  · subst e1
    refine T_tableIn (off := 41) (t := 42) dL_prime_1 (by decide) rfl rfl ?_
    refine T_iconst dL_prime_42 (by decide) ?_
    refine T_iret dL_prime_43 rfl ?_
    exact hQ 3
  by_cases e2 : x = 2
  · subst e2
    refine T_tableIn (off := 43) (t := 44) dL_prime_1 (by decide) rfl rfl ?_
    refine T_iconst dL_prime_44 (by decide) ?_
    refine T_iret dL_prime_45 rfl ?_
    exact hQ 5
  by_cases e3 : x = 3
  · subst e3
    refine T_tableIn (off := 45) (t := 46) dL_prime_1 (by decide) rfl rfl ?_
    refine T_bipush dL_prime_46 (by decide) ?_
    refine T_iret dL_prime_48 rfl ?_
    exact hQ 7
  by_cases e4 : x = 4
  · subst e4
    refine T_tableIn (off := 48) (t := 49) dL_prime_1 (by decide) rfl rfl ?_
    refine T_bipush dL_prime_49 (by decide) ?_
    refine T_iret dL_prime_51 rfl ?_
    exact hQ 11
  by_cases e5 : x = 5
  · subst e5
    refine T_tableIn (off := 51) (t := 52) dL_prime_1 (by decide) rfl rfl ?_
    refine T_bipush dL_prime_52 (by decide) ?_
    refine T_iret dL_prime_54 rfl ?_
    exact hQ 23
  refine T_tableOut (t := 55) dL_prime_1 (by omega) rfl ?_
  refine T_bipush dL_prime_55 (by decide) ?_
  refine T_iret dL_prime_57 rfl ?_
  exact hQ 31
set_option maxHeartbeats 4000000 in
set_option maxRecDepth 100000 in
theorem m_L_addPoints_28 {n0 n k : Nat} {g : Nat → zV} {h : zHp} {Q : Option zV → Nat → Nat → zHp → Prop} {B sA len a0 : Nat} {P : pT} {C f : Nat → Int} (hP : pwf P) (hB : n0 ≤ B) (hW : wAt g h B n P C sA len f) (ha : a0 ≤ 200) (hQ : ∀ (P' : pT) (k' : Nat) (h' : zHp), (k' ≤ k) → (pwf P') → (wAt g h' B n P' P'.2.2.2.2 sA len f) → Q none n k' h') : ∀ (d : Nat) (j : Nat) (y : Int) (P1 : pT) (kk1 : Nat), 10 - j = d → ∀ h1 : zHp, (wAt g h1 B n P1 P1.2.2.2.2 sA len f) → (j ≤ 10) → (y < 10) → (pwf P1) → (kk1 ≤ k) → ZT n0 g mL_addPoints 28 [some (.inr (some B)), some (.inr (some sA)), some (.inl (a0 : Int)), some (.inl y), some (.inl (j : Int))] [] n kk1 h1 Q := by
  intro d
  induction d using Nat.strongRecOn with | _ d ih => ?_
  intro j y P1 kk1 hd0 h1 hW1 hj hy hP1 hk
  subst hd0
  have hb := hP1.bd
  refine T_iload dL_addPoints_28 rfl ?_
  refine T_iload_n dL_addPoints_30 rfl ?_
  refine T_icmp_ge dL_addPoints_31 (t := 77) rfl (fun c31 => ?_) (fun c31 => ?_)
  · refine T_vret dL_addPoints_77 rfl ?_
    exact hQ P1 kk1 h1 hk hP1 hW1
  · refine T_aload_n dL_addPoints_34 rfl ?_
    refine T_aload_n dL_addPoints_35 rfl ?_
    refine T_iload_n dL_addPoints_36 rfl ?_
    refine T_iconst dL_addPoints_37 (by decide) ?_
    refine T_iadd dL_addPoints_38 ⟨by omega, by omega⟩ ?_
    refine T_iconst dL_addPoints_39 (by decide) ?_
    refine T_iload dL_addPoints_40 rfl ?_
    refine T_imul dL_addPoints_42 ⟨by omega, by omega⟩ ?_
    refine T_iadd dL_addPoints_43 ⟨by omega, by omega⟩ ?_
    refine T_aload_n dL_addPoints_44 rfl ?_
    refine T_callV dL_addPoints_45 zkm_20_28 (Or.inl rfl) rfl (wAt.ob hW1) ⟨Nat.le_of_ble_eq_true rfl, rfl⟩ rfl (Nat.le_of_ble_eq_true rfl) ?_
    refine w_X9_prime  hP1 hB hW1 (fun k'45 hh45 k45a pw_45 => ?_)
    refine T_callS dL_addPoints_48 zkm_20_15 ⟨Nat.le_of_ble_eq_true rfl, Nat.le_of_ble_eq_true rfl, rfl⟩ rfl (Nat.le_of_ble_eq_true rfl) ?_
    refine m_L_pick (i := ((a0 + 2) + (2 * j))) (wAt.sc pw_45) (by omega) (by omega) (fun z48 k48a => ?_)
    refine T_aload_n dL_addPoints_51 rfl ?_
    refine T_iload_n dL_addPoints_52 rfl ?_
    refine T_iconst dL_addPoints_53 (by decide) ?_
    refine T_iadd dL_addPoints_54 ⟨by omega, by omega⟩ ?_
    refine T_iconst dL_addPoints_55 (by decide) ?_
    refine T_iload dL_addPoints_56 rfl ?_
    refine T_imul dL_addPoints_58 ⟨by omega, by omega⟩ ?_
    refine T_iadd dL_addPoints_59 ⟨by omega, by omega⟩ ?_
    refine T_aload_n dL_addPoints_60 rfl ?_
    refine T_callV dL_addPoints_61 zkm_20_28 (Or.inl rfl) rfl (wAt.ob pw_45) ⟨Nat.le_of_ble_eq_true rfl, rfl⟩ rfl (Nat.le_of_ble_eq_true rfl) ?_
    refine w_X9_prime  hP1 hB pw_45 (fun k'61 hh61 k61a pw_61 => ?_)
    refine T_callS dL_addPoints_64 zkm_20_15 ⟨Nat.le_of_ble_eq_true rfl, Nat.le_of_ble_eq_true rfl, rfl⟩ rfl (Nat.le_of_ble_eq_true rfl) ?_
    refine m_L_pick (i := ((a0 + 3) + (2 * j))) (wAt.sc pw_61) (by omega) (by omega) (fun z64 k64a => ?_)
    refine T_callV dL_addPoints_67 zkm_20_31 (Or.inl rfl) rfl (wAt.ob pw_61) ⟨Nat.le_of_ble_eq_true rfl, rfl⟩ rfl (Nat.le_of_ble_eq_true rfl) ?_
    refine w_X9_addPoint  hP1 hB pw_61 (fun P'67 z67 k'67 hh67 k67a k67b pw_67 => ?_)
    have hdum : True := trivial
    refine T_pop dL_addPoints_70 ?_
    refine T_iinc dL_addPoints_71 rfl ⟨by omega, by omega⟩ ?_
    refine T_goto dL_addPoints_74 (t := 28) rfl ?_
    exact ih _ (by omega) (j + 1) y P'67 k'67 rfl _ pw_67 (by omega) (by omega) k67b (by omega) 
set_option maxHeartbeats 4000000 in
set_option maxRecDepth 100000 in
theorem m_L_addPoints {n0 n k : Nat} {g : Nat → zV} {h : zHp} {Q : Option zV → Nat → Nat → zHp → Prop} {B sA len a0 : Nat} {P : pT} {C f : Nat → Int} (hP : pwf P) (hB : n0 ≤ B) (hW : wAt g h B n P C sA len f) (ha : a0 ≤ 200) (hQ : ∀ (P' : pT) (k' : Nat) (h' : zHp), (k' ≤ k) → (pwf P') → (wAt g h' B n P' P'.2.2.2.2 sA len f) → Q none n k' h') : ZT n0 g mL_addPoints 0 (zloc mL_addPoints [.inr (some B), .inr (some sA), .inl (a0 : Int)]) [] n k h Q := by
  show ZT n0 g mL_addPoints 0 [some (.inr (some B)), some (.inr (some sA)), some (.inl (a0 : Int)), none, none] [] n k h Q
  refine T_aload_n dL_addPoints_0 rfl ?_
  refine T_aload_n dL_addPoints_1 rfl ?_
  refine T_iload_n dL_addPoints_2 rfl ?_
  refine T_bipush dL_addPoints_3 (by decide) ?_
  refine T_callS dL_addPoints_5 zkm_20_15 ⟨Nat.le_of_ble_eq_true rfl, Nat.le_of_ble_eq_true rfl, rfl⟩ rfl (Nat.le_of_ble_eq_true rfl) ?_
  refine m_L_pick (wAt.sc hW) (by omega) (by omega) (fun z5 k5a => ?_)
  refine T_callS dL_addPoints_8 zkm_20_19 ⟨Nat.le_of_ble_eq_true rfl, Nat.le_of_ble_eq_true rfl, rfl⟩ rfl (Nat.le_of_ble_eq_true rfl) ?_
  refine m_L_prime   (fun z8 => ?_)
  refine T_callV dL_addPoints_11 zkm_20_23 (Or.inl rfl) rfl (wAt.ob hW) ⟨Nat.le_of_ble_eq_true rfl, rfl⟩ rfl (Nat.le_of_ble_eq_true rfl) ?_
  refine w_X9_setPrime  hP hB hW (fun P'11 z11 k'11 hh11 k11a k11b pw_11 => ?_)
  have hdum : True := trivial
  refine T_pop dL_addPoints_14 ?_
  refine T_aload_n dL_addPoints_15 rfl ?_
  refine T_iload_n dL_addPoints_16 rfl ?_
  refine T_iconst dL_addPoints_17 (by decide) ?_
  refine T_iadd dL_addPoints_18 ⟨by omega, by omega⟩ ?_
  refine T_bipush dL_addPoints_19 (by decide) ?_
  refine T_callS dL_addPoints_21 zkm_20_15 ⟨Nat.le_of_ble_eq_true rfl, Nat.le_of_ble_eq_true rfl, rfl⟩ rfl (Nat.le_of_ble_eq_true rfl) ?_
  refine m_L_pick (i := (a0 + 1)) (wAt.sc pw_11) (by omega) (by omega) (fun z21 k21a => ?_)
  refine T_istore_n dL_addPoints_24 (Nat.le_of_ble_eq_true rfl) ?_
  refine T_iconst dL_addPoints_25 (by decide) ?_
  refine T_istore dL_addPoints_26 (Nat.le_of_ble_eq_true rfl) ?_
  exact m_L_addPoints_28 hP hB hW ha hQ _ 0 z21 P'11 k'11 rfl _ pw_11 (by omega) (by omega) k11b (by omega) 
set_option maxHeartbeats 4000000 in
set_option maxRecDepth 100000 in
theorem m_L_isStandard {n0 n k : Nat} {g : Nat → zV} {h : zHp} {Q : Option zV → Nat → Nat → zHp → Prop} {B sA len c i j : Nat} {P : pT} {C f : Nat → Int} (hP : pwf P) (hB : n0 ≤ B) (hW : wAt g h B n P C sA len f) (hc : c < pN P) (hi : i < 9) (hT : ∀ (k' : Nat) (h' : zHp), (k' ≤ k) → (j < (pB P c).1 i) → (wAt g h' B n P C sA len f) → Q (some (.inl 1)) n k' h') (hF : ∀ (k' : Nat) (h' : zHp), (k' ≤ k) → (¬ j < (pB P c).1 i) → (wAt g h' B n P C sA len f) → Q (some (.inl 0)) n k' h') : ZT n0 g mL_isStandard 0 (zloc mL_isStandard [.inr (some B), .inl (c : Int), .inl (i : Int), .inl (j : Int)]) [] n k h Q := by
  show ZT n0 g mL_isStandard 0 [some (.inr (some B)), some (.inl (c : Int)), some (.inl (i : Int)), some (.inl (j : Int))] [] n k h Q
  refine T_iload_n dL_isStandard_0 rfl ?_
  refine T_aload_n dL_isStandard_1 rfl ?_
  refine T_iload_n dL_isStandard_2 rfl ?_
  refine T_iload_n dL_isStandard_3 rfl ?_
  refine T_callV dL_isStandard_4 zkm_20_53 (Or.inl rfl) rfl (wAt.ob hW) ⟨Nat.le_of_ble_eq_true rfl, rfl⟩ rfl (Nat.le_of_ble_eq_true rfl) ?_
  refine w_X9_coneHeight  hP hB hW (by omega) (by omega) (fun k'4 hh4 k4a pw_4 => ?_)
  refine T_icmp_ge dL_isStandard_7 (t := 14) rfl (fun c7 => ?_) (fun c7 => ?_)
  · refine T_iconst dL_isStandard_14 (by decide) ?_
    refine T_iret dL_isStandard_15 rfl ?_
    exact hF _ _ (by omega) (by omega) pw_4
  · refine T_iconst dL_isStandard_10 (by decide) ?_
    refine T_goto dL_isStandard_11 (t := 15) rfl ?_
    refine T_iret dL_isStandard_15 rfl ?_
    exact hT _ _ (by omega) (by omega) pw_4
