/-! ===== ReducedBasis.findWall: printed by wip/whole/gen/s_comp2.py ===== -/
set_option maxHeartbeats 4000000 in
set_option maxRecDepth 100000 in
theorem m_X7_findWall_39 {n0 n k : Nat} {g : Nat → zV} {h : zHp} {Q : Option zV → Nat → Nat → zHp → Prop} {b c : Nat} {wt wb : Int} {rf : Nat → Option Nat} {pi cm t : Nat → Nat} {mo fa : Nat → Nat → Int} {ce : Nat → Nat → Int} (h0 : h b = some (.inl (8, [.inr (some (b + 1)), .inl (c : Int), .inr (some (b + 2)), .inl wt, .inl wb]))) (h2 : h (b + 2) = some (.inr (.inr (1, 4, rf)))) (hc : c ≤ 4) (hrf : ∀ i, i < 4 → rf i = some (b + 3 * pi i + 3)) (hpo : ∀ a, a < c → h (b + 3 * pi a + 3) = some (.inl (1, [.inl (cm a : Int), .inl (t a : Int), .inr (some (b + 3 * pi a + 4)), .inr (some (b + 3 * pi a + 5))]))) (hcm : ∀ a, a < c → cm a < 81) (hmo : ∀ a, a < c → h (b + 3 * pi a + 4) = some (.inr (.inl (0, 9, mo a))) ∧ h (b + 3 * pi a + 5) = some (.inr (.inl (0, 9, fa a))) ∧ t a ≤ 9) (hre : ∀ a, a < c → zRep (t a) (mo a) (fa a) (ce a)) (hpos : ∀ a, a < c → ∀ q : Nat, ce a q ≠ 0 → cm a % 9 < q % 9 → q / 9 < cm a / 9) (hpi : (∀ i, i < 4 → pi i < 4) ∧ ∀ i j, i < j → j < 4 → pi i ≠ pi j) (hw : n0 ≤ b) (hQ : ∀ (w : Nat × Nat) (h' : zHp), (IsW (zPair c cm ce) w) → h' b = some (.inl (8, [.inr (some (b + 1)), .inl (c : Int), .inr (some (b + 2)), .inl ((w.1) : Int), .inl ((w.2) : Int)])) → (∀ q : Nat, q ≠ b → h' q = h q) → Q none n k h') : ∀ (d : Nat) (dv : Nat) (x : Nat) (y : Nat) (t0 : Nat) (b0 : Nat), dv = d → ∀ h1 : zHp, h1 b = some (.inl (8, [.inr (some (b + 1)), .inl (c : Int), .inr (some (b + 2)), .inl (x : Int), .inl (y : Int)])) → (∀ q : Nat, q ≠ b → h1 q = h q) → (1 ≤ dv ∧ dv ≤ 9 ∧ x ≤ 8 ∧ y ≤ 8) → (zlow 9 (t0, b0) = zlow dv (x, y)) → (t0 < 9 ∧ b0 < 9 ∧ (0 < b0 → 0 < t0) ∧ zMin (zPair c cm ce) t0 b0) → ZT n0 g mX7_findWall 39 [some (.inr (some b)), some (.inl (dv : Int))] [] n k h1 Q := by
  intro d
  induction d using Nat.strongRecOn with | _ d ih => ?_
  intro dv x y t0 b0 hd0 h1 g0 hfr hd hz h0
  subst hd0
  refine T_iload_n dX7_findWall_39 rfl ?_
  refine T_iconst dX7_findWall_40 (by decide) ?_
  refine T_icmp_le dX7_findWall_41 (t := 88) rfl (fun c41 => ?_) (fun c41 => ?_)
  · refine T_vret dX7_findWall_88 rfl ?_
    have ed : dv = 1 := by omega
    subst ed
    have ez : zlow 9 (t0, b0) = (x, y) := hz
    rw [zlow_gcd t0 h0.1 b0 h0.2.1] at ez
    exact hQ (x, y) _ ⟨t0, b0, h0.1, h0.2.1, h0.2.2.1, h0.2.2.2, ez.symm⟩ g0 hfr
  · refine T_aload_n dX7_findWall_44 rfl ?_
    refine T_getfield dX7_findWall_45 zkf_8_25 g0 rfl ?_
    refine T_iload_n dX7_findWall_48 rfl ?_
    refine T_iremN dX7_findWall_49 ⟨by omega, by omega⟩ (by omega) ?_
    have r49 := zmod_bd (x : Int) (dv : Int) (by omega)
    refine T_if_ne dX7_findWall_50 (t := 82) rfl (fun c50 => ?_) (fun c50 => ?_)
    · refine T_iinc dX7_findWall_82 rfl ⟨by omega, by omega⟩ ?_
      refine T_goto dX7_findWall_85 (t := 39) rfl ?_
      rw [show ((dv : Int) + -1) = ((dv - 1 : Nat) : Int) by omega]
      exact ih _ (by omega) (dv - 1) x y t0 b0 rfl _ g0 (fun q q0 => ((hfr _ q0).trans rfl)) (by omega) (by rw [hz, zlow_st (by omega) (fun q => c50 (zcmod.mpr q.1))]) h0 
    · refine T_aload_n dX7_findWall_53 rfl ?_
      refine T_getfield dX7_findWall_54 zkf_8_28 g0 rfl ?_
      refine T_iload_n dX7_findWall_57 rfl ?_
      refine T_iremN dX7_findWall_58 ⟨by omega, by omega⟩ (by omega) ?_
      have r58 := zmod_bd (y : Int) (dv : Int) (by omega)
      refine T_if_ne dX7_findWall_59 (t := 82) rfl (fun c59 => ?_) (fun c59 => ?_)
      · refine T_iinc dX7_findWall_82 rfl ⟨by omega, by omega⟩ ?_
        refine T_goto dX7_findWall_85 (t := 39) rfl ?_
        rw [show ((dv : Int) + -1) = ((dv - 1 : Nat) : Int) by omega]
        exact ih _ (by omega) (dv - 1) x y t0 b0 rfl _ g0 (fun q q0 => ((hfr _ q0).trans rfl)) (by omega) (by rw [hz, zlow_st (by omega) (fun q => c59 (zcmod.mpr q.2))]) h0 
      · refine T_aload_n dX7_findWall_62 rfl ?_
        refine T_dup dX7_findWall_63 ?_
        refine T_getfield dX7_findWall_64 zkf_8_25 g0 rfl ?_
        refine T_iload_n dX7_findWall_67 rfl ?_
        refine T_idivN dX7_findWall_68 ⟨by omega, by omega⟩ (by omega) ?_
        refine T_putfield dX7_findWall_69 zkf_8_25 g0 (Nat.le_of_ble_eq_true rfl) (by omega) rfl (fun hf => absurd hf (by decide)) rfl ?_
        refine T_aload_n dX7_findWall_72 rfl ?_
        refine T_dup dX7_findWall_73 ?_
        refine T_getfield dX7_findWall_74 zkf_8_28 zup_self rfl ?_
        refine T_iload_n dX7_findWall_77 rfl ?_
        refine T_idivN dX7_findWall_78 ⟨by omega, by omega⟩ (by omega) ?_
        refine T_putfield dX7_findWall_79 zkf_8_28 zup_self (Nat.le_of_ble_eq_true rfl) (by omega) rfl (fun hf => absurd hf (by decide)) rfl ?_
        refine T_iinc dX7_findWall_82 rfl ⟨by omega, by omega⟩ ?_
        refine T_goto dX7_findWall_85 (t := 39) rfl ?_
        rw [show ((dv : Int) + -1) = ((dv - 1 : Nat) : Int) by omega]
        exact ih _ (by omega) (dv - 1) (x / dv) (y / dv) t0 b0 rfl _ zup_self (fun q q0 => ((zup_nf q0).trans ((zup_nf q0).trans ((hfr _ q0).trans rfl)))) (by
              have d1 := Nat.div_le_self x dv
              have d2 := Nat.div_le_self y dv
              omega) (by rw [hz, zlow_go (by omega) ⟨zcmod.mp (by omega), zcmod.mp (by omega)⟩]) h0 
set_option maxHeartbeats 4000000 in
set_option maxRecDepth 100000 in
theorem m_X7_findWall_12 {n0 n k : Nat} {g : Nat → zV} {h : zHp} {Q : Option zV → Nat → Nat → zHp → Prop} {b c : Nat} {wt wb : Int} {rf : Nat → Option Nat} {pi cm t : Nat → Nat} {mo fa : Nat → Nat → Int} {ce : Nat → Nat → Int} (h0 : h b = some (.inl (8, [.inr (some (b + 1)), .inl (c : Int), .inr (some (b + 2)), .inl wt, .inl wb]))) (h2 : h (b + 2) = some (.inr (.inr (1, 4, rf)))) (hc : c ≤ 4) (hrf : ∀ i, i < 4 → rf i = some (b + 3 * pi i + 3)) (hpo : ∀ a, a < c → h (b + 3 * pi a + 3) = some (.inl (1, [.inl (cm a : Int), .inl (t a : Int), .inr (some (b + 3 * pi a + 4)), .inr (some (b + 3 * pi a + 5))]))) (hcm : ∀ a, a < c → cm a < 81) (hmo : ∀ a, a < c → h (b + 3 * pi a + 4) = some (.inr (.inl (0, 9, mo a))) ∧ h (b + 3 * pi a + 5) = some (.inr (.inl (0, 9, fa a))) ∧ t a ≤ 9) (hre : ∀ a, a < c → zRep (t a) (mo a) (fa a) (ce a)) (hpos : ∀ a, a < c → ∀ q : Nat, ce a q ≠ 0 → cm a % 9 < q % 9 → q / 9 < cm a / 9) (hpi : (∀ i, i < 4 → pi i < 4) ∧ ∀ i j, i < j → j < 4 → pi i ≠ pi j) (hw : n0 ≤ b) (hQ : ∀ (w : Nat × Nat) (h' : zHp), (IsW (zPair c cm ce) w) → h' b = some (.inl (8, [.inr (some (b + 1)), .inl (c : Int), .inr (some (b + 2)), .inl ((w.1) : Int), .inl ((w.2) : Int)])) → (∀ q : Nat, q ≠ b → h' q = h q) → Q none n k h') : ∀ (d : Nat) (j : Nat) (w1 : Int) (w2 : Int), c - j = d → ∀ h1 : zHp, h1 b = some (.inl (8, [.inr (some (b + 1)), .inl (c : Int), .inr (some (b + 2)), .inl w1, .inl w2])) → (∀ q : Nat, q ≠ b → h1 q = h q) → (j ≤ c) → (zMin (zPair j cm ce) w1 w2) → (0 ≤ w2 ∧ w2 ≤ 8 ∧ 0 ≤ w1 ∧ w1 ≤ 8 ∧ (0 < w2 → 0 < w1)) → ZT n0 g mX7_findWall 12 [some (.inr (some b)), some (.inl (j : Int))] [] n k h1 Q := by
  intro d
  induction d using Nat.strongRecOn with | _ d ih => ?_
  intro j w1 w2 hd0 h1 g0 hfr hj hmj hwj
  subst hd0
  refine T_iload_n dX7_findWall_12 rfl ?_
  refine T_aload_n dX7_findWall_13 rfl ?_
  refine T_getfield dX7_findWall_14 zkf_8_15 g0 rfl ?_
  refine T_icmp_ge dX7_findWall_17 (t := 36) rfl (fun c17 => ?_) (fun c17 => ?_)
  · obtain ⟨x, rfl⟩ := Int.eq_ofNat_of_zero_le hwj.2.2.1
    obtain ⟨y, rfl⟩ := Int.eq_ofNat_of_zero_le hwj.1
    have ej : j = c := by omega
    refine T_bipush dX7_findWall_36 (by decide) ?_
    refine T_istore_n dX7_findWall_38 (Nat.le_of_ble_eq_true rfl) ?_
    exact m_X7_findWall_39 h0 h2 hc hrf hpo hcm hmo hre hpos hpi hw hQ _ 9 x y x y rfl _ g0 (fun q q0 => ((hfr _ q0).trans rfl)) (by omega) rfl ⟨by omega, by omega, by omega, by rw [← ej]; exact hmj⟩ 
  · refine T_aload_n dX7_findWall_20 rfl ?_
    refine T_aload_n dX7_findWall_21 rfl ?_
    refine T_getfield dX7_findWall_22 zkf_8_21 g0 rfl ?_
    refine T_iload_n dX7_findWall_25 rfl ?_
    refine T_aaloadN (m := j) (r := some (b + 3 * pi j + 3)) dX7_findWall_26 ((hfr _ (by omega)).trans h2) rfl (by omega) (hrf j (by omega)) ?_
    have hpj := hpi.1 j (by omega)
    refine T_callV dX7_findWall_27 zkm_8_77 (Or.inl rfl) rfl g0 ⟨Nat.le_of_ble_eq_true rfl, rfl⟩ rfl (Nat.le_of_ble_eq_true rfl) ?_
    refine m_X7_lowerWall (P := zPair j cm ce) g0 ((hfr _ (by omega)).trans (hpo j (by omega))) ((hfr _ (by omega)).trans (hmo j (by omega)).1) (hmo j (by omega)).2.2 (hcm j (by omega)) (fun i hi => by
          obtain ⟨r1, r2, r3, r4⟩ := (hre j (by omega)).1 i hi
          have r5 := hpos j (by omega) _ (by rw [r4]; exact r3)
          exact ⟨r1, r2, fun q => by omega⟩) (fun x y q => by obtain ⟨a, ha, r, q1, q2, -⟩ := q; exact q2) hmj hwj (by omega) (by omega) (fun wt'27 wb'27 hh27 k27a k27b f27a fr27 => ?_)
    refine T_iinc dX7_findWall_30 rfl ⟨by omega, by omega⟩ ?_
    refine T_goto dX7_findWall_33 (t := 12) rfl ?_
    exact ih _ (by omega) (j + 1) _ _ rfl _ f27a (fun q q0 => ((fr27 _ q0).trans ((hfr _ q0).trans rfl))) (by omega) (k27a.ext (zPair_succ (hre j (by omega)))) k27b 
set_option maxHeartbeats 4000000 in
set_option maxRecDepth 100000 in
theorem m_X7_findWall {n0 n k : Nat} {g : Nat → zV} {h : zHp} {Q : Option zV → Nat → Nat → zHp → Prop} {b c : Nat} {wt wb : Int} {rf : Nat → Option Nat} {pi cm t : Nat → Nat} {mo fa : Nat → Nat → Int} {ce : Nat → Nat → Int} (h0 : h b = some (.inl (8, [.inr (some (b + 1)), .inl (c : Int), .inr (some (b + 2)), .inl wt, .inl wb]))) (h2 : h (b + 2) = some (.inr (.inr (1, 4, rf)))) (hc : c ≤ 4) (hrf : ∀ i, i < 4 → rf i = some (b + 3 * pi i + 3)) (hpo : ∀ a, a < c → h (b + 3 * pi a + 3) = some (.inl (1, [.inl (cm a : Int), .inl (t a : Int), .inr (some (b + 3 * pi a + 4)), .inr (some (b + 3 * pi a + 5))]))) (hcm : ∀ a, a < c → cm a < 81) (hmo : ∀ a, a < c → h (b + 3 * pi a + 4) = some (.inr (.inl (0, 9, mo a))) ∧ h (b + 3 * pi a + 5) = some (.inr (.inl (0, 9, fa a))) ∧ t a ≤ 9) (hre : ∀ a, a < c → zRep (t a) (mo a) (fa a) (ce a)) (hpos : ∀ a, a < c → ∀ q : Nat, ce a q ≠ 0 → cm a % 9 < q % 9 → q / 9 < cm a / 9) (hpi : (∀ i, i < 4 → pi i < 4) ∧ ∀ i j, i < j → j < 4 → pi i ≠ pi j) (hw : n0 ≤ b) (hQ : ∀ (w : Nat × Nat) (h' : zHp), (IsW (zPair c cm ce) w) → h' b = some (.inl (8, [.inr (some (b + 1)), .inl (c : Int), .inr (some (b + 2)), .inl ((w.1) : Int), .inl ((w.2) : Int)])) → (∀ q : Nat, q ≠ b → h' q = h q) → Q none n k h') : ZT n0 g mX7_findWall 0 (zloc mX7_findWall [.inr (some b)]) [] n k h Q := by
  show ZT n0 g mX7_findWall 0 [some (.inr (some b)), none] [] n k h Q
  refine T_aload_n dX7_findWall_0 rfl ?_
  refine T_iconst dX7_findWall_1 (by decide) ?_
  refine T_putfield dX7_findWall_2 zkf_8_25 h0 (Nat.le_of_ble_eq_true rfl) (by omega) rfl (fun hf => absurd hf (by decide)) rfl ?_
  refine T_aload_n dX7_findWall_5 rfl ?_
  refine T_iconst dX7_findWall_6 (by decide) ?_
  refine T_putfield dX7_findWall_7 zkf_8_28 zup_self (Nat.le_of_ble_eq_true rfl) (by omega) rfl (fun hf => absurd hf (by decide)) rfl ?_
  refine T_iconst dX7_findWall_10 (by decide) ?_
  refine T_istore_n dX7_findWall_11 (Nat.le_of_ble_eq_true rfl) ?_
  exact m_X7_findWall_12 h0 h2 hc hrf hpo hcm hmo hre hpos hpi hw hQ _ 0 0 0 rfl _ zup_self (fun q q0 => ((zup_nf q0).trans ((zup_nf q0).trans rfl))) (by omega) (Or.inl ⟨rfl, rfl, fun x y q => by obtain ⟨a, ha, -⟩ := q; omega⟩) (by omega) 
