/-! ===== GroebnerFan: the reading of points: printed by wip/whole/gen/s_cl7.py ===== -/
set_option maxHeartbeats 4000000 in
set_option maxRecDepth 100000 in
theorem m_X3_isDigit {n0 n k : Nat} {g : Nat → zV} {h : zHp} {Q : Option zV → Nat → Nat → zHp → Prop} {x : Int}  (hT : (48 ≤ x ∧ x ≤ 57) → Q (some (.inl 1)) n k h) (hF : (¬ (48 ≤ x ∧ x ≤ 57)) → Q (some (.inl 0)) n k h) : ZT n0 g mX3_isDigit 0 (zloc mX3_isDigit [.inl x]) [] n k h Q := by
  show ZT n0 g mX3_isDigit 0 [some (.inl x)] [] n k h Q
  refine T_iload_n dX3_isDigit_0 rfl ?_
  refine T_bipush dX3_isDigit_1 (by decide) ?_
  refine T_icmp_lt dX3_isDigit_3 (t := 16) rfl (fun c3 => ?_) (fun c3 => ?_)
  · refine T_iconst dX3_isDigit_16 (by decide) ?_
    refine T_iret dX3_isDigit_17 rfl ?_
    exact hF (by omega)
  · refine T_iload_n dX3_isDigit_6 rfl ?_
    refine T_bipush dX3_isDigit_7 (by decide) ?_
    refine T_icmp_gt dX3_isDigit_9 (t := 16) rfl (fun c9 => ?_) (fun c9 => ?_)
    · refine T_iconst dX3_isDigit_16 (by decide) ?_
      refine T_iret dX3_isDigit_17 rfl ?_
      exact hF (by omega)
    · refine T_iconst dX3_isDigit_12 (by decide) ?_
      refine T_goto dX3_isDigit_13 (t := 17) rfl ?_
      refine T_iret dX3_isDigit_17 rfl ?_
      exact hT (by omega)
set_option maxHeartbeats 4000000 in
set_option maxRecDepth 100000 in
theorem m_X3_signBehindNumber {n0 n k : Nat} {g : Nat → zV} {h : zHp} {Q : Option zV → Nat → Nat → zHp → Prop} {e l : Nat} {c : Nat} (i0 : h e = some (.inl (4, [.inl (l : Int), .inr (some (e + 1)), .inl (c : Int), .inr (some (e + 2))]))) (hc : c ≤ 60) (hQ : Q (some (.inl (zsig c))) n k h) : ZT n0 g mX3_signBehindNumber 0 (zloc mX3_signBehindNumber [.inr (some e)]) [] n k h Q := by
  show ZT n0 g mX3_signBehindNumber 0 [some (.inr (some e))] [] n k h Q
  refine T_aload_n dX3_signBehindNumber_0 rfl ?_
  refine T_getfield dX3_signBehindNumber_1 zkf_4_19 i0 rfl ?_
  refine T_iconst dX3_signBehindNumber_4 (by decide) ?_
  refine T_iremN dX3_signBehindNumber_5 ⟨by omega, by omega⟩ (by omega) ?_
  refine T_if_ne dX3_signBehindNumber_6 (t := 14) rfl (fun c6 => ?_) (fun c6 => ?_)
  · refine T_bipush dX3_signBehindNumber_14 (by decide) ?_
    refine T_iret dX3_signBehindNumber_16 rfl ?_
    rw [show zsig c = 59 from if_neg (by omega)] at hQ
    exact hQ
  · refine T_bipush dX3_signBehindNumber_9 (by decide) ?_
    refine T_goto dX3_signBehindNumber_11 (t := 16) rfl ?_
    refine T_iret dX3_signBehindNumber_16 rfl ?_
    rw [show zsig c = 44 from if_pos (by omega)] at hQ
    exact hQ
set_option maxHeartbeats 4000000 in
set_option maxRecDepth 100000 in
theorem m_X3_appendNumber {n0 n k : Nat} {g : Nat → zV} {h : zHp} {Q : Option zV → Nat → Nat → zHp → Prop} {e l : Nat} {inu : Nat → Int} {c : Nat} {x : Int} (i0 : h e = some (.inl (4, [.inl (l : Int), .inr (some (e + 1)), .inl (c : Int), .inr (some (e + 2))]))) (i2 : h (e + 2) = some (.inr (.inl (0, 30, inu)))) (hc : c < 30) (hw : n0 ≤ e) (hQ : ∀  (h' : zHp), h' e = some (.inl (4, [.inl (l : Int), .inr (some (e + 1)), .inl ((c : Int) + 1), .inr (some (e + 2))])) → h' (e + 2) = some (.inr (.inl (0, 30, (zfu inu c x)))) → (∀ q : Nat, q ≠ e → q ≠ (e + 2) → h' q = h q) → Q none n k h') : ZT n0 g mX3_appendNumber 0 (zloc mX3_appendNumber [.inr (some e), .inl x]) [] n k h Q := by
  show ZT n0 g mX3_appendNumber 0 [some (.inr (some e)), some (.inl x)] [] n k h Q
  refine T_aload_n dX3_appendNumber_0 rfl ?_
  refine T_getfield dX3_appendNumber_1 zkf_4_19 i0 rfl ?_
  refine T_bipush dX3_appendNumber_4 (by decide) ?_
  refine T_icmp_ge dX3_appendNumber_6 (t := 29) rfl (fun hc => absurd hc (by omega)) (fun _ => ?_)
  refine T_aload_n dX3_appendNumber_9 rfl ?_
  refine T_getfield dX3_appendNumber_10 zkf_4_22 i0 rfl ?_
  refine T_aload_n dX3_appendNumber_13 rfl ?_
  refine T_getfield dX3_appendNumber_14 zkf_4_19 i0 rfl ?_
  refine T_iload_n dX3_appendNumber_17 rfl ?_
  refine T_iastoreN (m := c) dX3_appendNumber_18 i2 rfl (by omega) (by omega) ?_
  refine T_aload_n dX3_appendNumber_19 rfl ?_
  refine T_dup dX3_appendNumber_20 ?_
  refine T_getfield dX3_appendNumber_21 zkf_4_19 (zup_ne (by omega) i0) rfl ?_
  refine T_iconst dX3_appendNumber_24 (by decide) ?_
  refine T_iadd dX3_appendNumber_25 ⟨by omega, by omega⟩ ?_
  refine T_putfield dX3_appendNumber_26 zkf_4_19 (zup_ne (by omega) i0) (Nat.le_of_ble_eq_true rfl) (by omega) rfl (fun hf => absurd hf (by decide)) rfl ?_
  refine T_vret dX3_appendNumber_29 rfl ?_
  exact hQ _ zup_self (zup_ne (by omega) zup_self) (fun q q0 q1 => ((zup_nf q0).trans ((zup_nf q1).trans rfl)))
set_option maxHeartbeats 4000000 in
set_option maxRecDepth 100000 in
theorem m_X3_readNumbers_11 {n0 n k : Nat} {g : Nat → zV} {h : zHp} {Q : Option zV → Nat → Nat → zHp → Prop} {e l : Nat} {nc : Int} {iby inu : Nat → Int} {I : tT} (i0 : h e = some (.inl (4, [.inl (l : Int), .inr (some (e + 1)), .inl nc, .inr (some (e + 2))]))) (i1 : h (e + 1) = some (.inr (.inl (1, 60, iby)))) (i2 : h (e + 2) = some (.inr (.inl (0, 30, inu)))) (hI : iwf I) (hl : l = I.1) (hib : ∀ i, i < l → iby i = I.2 i) (hw : n0 ≤ e) (hT : ∀ (S : rdT) (nu' : Nat → Int) (h' : zHp), (zrd I.2 l = some S) → (zdone S = true) → (∀ i, i < S.1 + 1 → nu' i = zfu S.2.2.2 S.1 S.2.1 i) → h' e = some (.inl (4, [.inl (l : Int), .inr (some (e + 1)), .inl ((S.1 : Int) + 1), .inr (some (e + 2))])) → h' (e + 2) = some (.inr (.inl (0, 30, nu'))) → (∀ q : Nat, q ≠ e → q ≠ (e + 2) → h' q = h q) → Q (some (.inl (-1))) n k h') (hF : ∀ (w : Nat) (nc' : Int) (nu' : Nat → Int) (h' : zHp), ((zrd I.2 l = none ∧ zfst (zbad I.2) l = w) ∨ (w = l ∧ ∃ S, zrd I.2 l = some S ∧ zdone S = false)) → h' e = some (.inl (4, [.inl (l : Int), .inr (some (e + 1)), .inl nc', .inr (some (e + 2))])) → h' (e + 2) = some (.inr (.inl (0, 30, nu'))) → (∀ q : Nat, q ≠ e → q ≠ (e + 2) → h' q = h q) → Q (some (.inl (w : Int))) n k h') : ∀ (d : Nat) (j : Nat) (S : rdT) (u : Nat → Int) (L4 : Option zV), l - j = d → ∀ h1 : zHp, h1 e = some (.inl (4, [.inl (l : Int), .inr (some (e + 1)), .inl (S.1 : Int), .inr (some (e + 2))])) → h1 (e + 2) = some (.inr (.inl (0, 30, u))) → (∀ q : Nat, q ≠ e → q ≠ (e + 2) → h1 q = h q) → (j ≤ l) → (zrd I.2 j = some S) → (∀ i, i < S.1 → u i = S.2.2.2 i) → ZT n0 g mX3_readNumbers 11 [some (.inr (some e)), some (.inl S.2.1), some (.inl (S.2.2.1 : Int)), some (.inl (j : Int)), L4] [] n k h1 Q := by
  intro d
  induction d using Nat.strongRecOn with | _ d ih => ?_
  intro j S u L4 hd0 h1 m1 m2 hfr hj hS hu
  subst hd0
  obtain ⟨v1, v2, v3, v4, v5, v6, v7⟩ := zrd_inv hS
  have hl6 := hI.1
  refine T_iload_n dX3_readNumbers_11 rfl ?_
  refine T_aload_n dX3_readNumbers_12 rfl ?_
  refine T_getfield dX3_readNumbers_13 zkf_4_9 m1 rfl ?_
  refine T_icmp_ge dX3_readNumbers_16 (t := 90) rfl (fun c16 => ?_) (fun c16 => ?_)
  · refine T_iload_n dX3_readNumbers_90 rfl ?_
    refine T_if_eq dX3_readNumbers_91 (t := 103) rfl (fun c91 => ?_) (fun c91 => ?_)
    · refine T_aload_n dX3_readNumbers_103 rfl ?_
      refine T_getfield dX3_readNumbers_104 zkf_4_9 m1 rfl ?_
      refine T_iret dX3_readNumbers_107 rfl ?_
      have ej : j = l := by omega
      subst ej
      exact hF j _ _ h1 (Or.inr ⟨rfl, S, hS, decide_eq_false (by omega)⟩) m1 m2 hfr
    · refine T_aload_n dX3_readNumbers_94 rfl ?_
      refine T_callV dX3_readNumbers_95 zkm_4_30 (Or.inl rfl) rfl m1 ⟨Nat.le_of_ble_eq_true rfl, rfl⟩ rfl (Nat.le_of_ble_eq_true rfl) ?_
      refine m_X3_signBehindNumber m1 (by omega) ?_
      refine T_bipush dX3_readNumbers_98 (by decide) ?_
      refine T_icmp_ne dX3_readNumbers_100 (t := 108) rfl (fun c100 => ?_) (fun c100 => ?_)
      · refine T_aload_n dX3_readNumbers_108 rfl ?_
        refine T_iload_n dX3_readNumbers_109 rfl ?_
        refine T_callV dX3_readNumbers_110 zkm_4_34 (Or.inl rfl) rfl m1 ⟨Nat.le_of_ble_eq_true rfl, rfl⟩ rfl (Nat.le_of_ble_eq_true rfl) ?_
        refine m_X3_appendNumber m1 m2 (by omega) (by omega) (fun hh110 f110a f110b fr110 => ?_)
        refine T_iconst dX3_readNumbers_113 (by decide) ?_
        refine T_iret dX3_readNumbers_114 rfl ?_
        have ej : j = l := by omega
        have e : S.1 % 2 = 1 := by
          refine Classical.byContradiction fun h0 => ?_
          have e : zsig S.1 = 44 := if_pos (by omega)
          omega
        subst ej
        exact hT S _ _ hS (decide_eq_true ⟨by omega, e⟩) (fun i hi => by
          by_cases e9 : i = S.1
          · rw [e9, zfu_self, zfu_self]
          · rw [zfu_ne e9, zfu_ne e9]; exact hu i (by omega)) f110a f110b (fun q q1 q2 => ((fr110 _ (by omega) (by omega)).trans (((hfr _ (by omega) (by omega)).trans (rfl)))))
      · refine T_aload_n dX3_readNumbers_103 rfl ?_
        refine T_getfield dX3_readNumbers_104 zkf_4_9 m1 rfl ?_
        refine T_iret dX3_readNumbers_107 rfl ?_
        have ej : j = l := by omega
        subst ej
        exact hF j _ _ h1 (Or.inr ⟨rfl, S, hS, decide_eq_false (fun q => by have e : zsig S.1 = 59 := if_neg (by omega); omega)⟩) m1 m2 hfr
  · refine T_aload_n dX3_readNumbers_19 rfl ?_
    refine T_getfield dX3_readNumbers_20 zkf_4_15 m1 rfl ?_
    refine T_iload_n dX3_readNumbers_23 rfl ?_
    refine T_baloadN (m := j) dX3_readNumbers_24 ((hfr _ (by omega) (by omega)).trans i1) (by decide) rfl (by omega) ?_
    rw [hib j (by omega)]
    have hb := hI.2 j (by omega)
    refine T_istore dX3_readNumbers_25 (Nat.le_of_ble_eq_true rfl) ?_
    refine T_iload dX3_readNumbers_27 rfl ?_
    refine T_callS dX3_readNumbers_29 zkm_4_26 ⟨Nat.le_of_ble_eq_true rfl, Nat.le_of_ble_eq_true rfl, rfl⟩ rfl (Nat.le_of_ble_eq_true rfl) ?_
    refine m_X3_isDigit   (fun k29a => ?_) (fun k29a_2 => ?_)
    · refine T_if_eq dX3_readNumbers_32 (t := 57) rfl (fun hc => absurd hc (by decide)) (fun _ => ?_)
      refine T_iload_n dX3_readNumbers_35 rfl ?_
      refine T_iconst dX3_readNumbers_36 (by decide) ?_
      refine T_icmp_ge dX3_readNumbers_37 (t := 57) rfl (fun c37 => ?_) (fun c37 => ?_)
      · refine T_iload_n dX3_readNumbers_57 rfl ?_
        refine T_if_le dX3_readNumbers_58 (t := 82) rfl (fun c58 => ?_) (fun c58 => ?_)
        · refine T_iload_n dX3_readNumbers_82 rfl ?_
          refine T_iret dX3_readNumbers_83 rfl ?_
          obtain ⟨z1, z2⟩ := zbad_eq hS (by unfold zstp; rw [if_neg (by omega), if_neg (by omega)]) (show j < l by omega)
          exact hF j _ _ h1 (Or.inl ⟨z1, z2⟩) m1 m2 hfr
        · refine T_iload dX3_readNumbers_61 rfl ?_
          refine T_aload_n dX3_readNumbers_63 rfl ?_
          refine T_callV dX3_readNumbers_64 zkm_4_30 (Or.inl rfl) rfl m1 ⟨Nat.le_of_ble_eq_true rfl, rfl⟩ rfl (Nat.le_of_ble_eq_true rfl) ?_
          refine m_X3_signBehindNumber m1 (by omega) ?_
          refine T_icmp_ne dX3_readNumbers_67 (t := 82) rfl (fun c67 => ?_) (fun c67 => ?_)
          · refine T_iload_n dX3_readNumbers_82 rfl ?_
            refine T_iret dX3_readNumbers_83 rfl ?_
            obtain ⟨z1, z2⟩ := zbad_eq hS (by unfold zstp; rw [if_neg (by omega), if_neg (by omega)]) (show j < l by omega)
            exact hF j _ _ h1 (Or.inl ⟨z1, z2⟩) m1 m2 hfr
          · refine T_aload_n dX3_readNumbers_70 rfl ?_
            refine T_iload_n dX3_readNumbers_71 rfl ?_
            refine T_callV dX3_readNumbers_72 zkm_4_34 (Or.inl rfl) rfl m1 ⟨Nat.le_of_ble_eq_true rfl, rfl⟩ rfl (Nat.le_of_ble_eq_true rfl) ?_
            refine m_X3_appendNumber m1 m2 (by omega) (by omega) (fun hh72 f72a f72b fr72 => ?_)
            refine T_iconst dX3_readNumbers_75 (by decide) ?_
            refine T_istore_n dX3_readNumbers_76 (Nat.le_of_ble_eq_true rfl) ?_
            refine T_iconst dX3_readNumbers_77 (by decide) ?_
            refine T_istore_n dX3_readNumbers_78 (Nat.le_of_ble_eq_true rfl) ?_
            refine T_goto dX3_readNumbers_79 (t := 84) rfl ?_
            refine T_iinc dX3_readNumbers_84 rfl ⟨by omega, by omega⟩ ?_
            refine T_goto dX3_readNumbers_87 (t := 11) rfl ?_
            exact ih _ (by omega) (j + 1) (S.1 + 1, 0, 0, zfu S.2.2.2 S.1 S.2.1) _ _ rfl _ f72a f72b (fun q q0 q1 => ((fr72 _ q0 q1).trans ((hfr _ q0 q1).trans rfl))) (by omega) (by
                  show (zrd I.2 j).bind _ = _
                  rw [hS]
                  show zstp S (I.2 j) = _
                  unfold zstp
                  rw [if_neg (by omega), if_pos ⟨by omega, by omega⟩]) (fun i hi => by
                  have hi : i < S.1 + 1 := hi
                  show zfu u S.1 S.2.1 i = zfu S.2.2.2 S.1 S.2.1 i
                  by_cases e9 : i = S.1
                  · rw [e9, zfu_self, zfu_self]
                  · rw [zfu_ne e9, zfu_ne e9]; exact hu i (by omega)) 
      · refine T_bipush dX3_readNumbers_40 (by decide) ?_
        refine T_iload_n dX3_readNumbers_42 rfl ?_
        refine T_imul dX3_readNumbers_43 ⟨by omega, by omega⟩ ?_
        refine T_iload dX3_readNumbers_44 rfl ?_
        refine T_iadd dX3_readNumbers_46 ⟨by omega, by omega⟩ ?_
        refine T_bipush dX3_readNumbers_47 (by decide) ?_
        refine T_isub dX3_readNumbers_49 ⟨by omega, by omega⟩ ?_
        refine T_istore_n dX3_readNumbers_50 (Nat.le_of_ble_eq_true rfl) ?_
        refine T_iinc dX3_readNumbers_51 rfl ⟨by omega, by omega⟩ ?_
        refine T_goto dX3_readNumbers_54 (t := 84) rfl ?_
        refine T_iinc dX3_readNumbers_84 rfl ⟨by omega, by omega⟩ ?_
        refine T_goto dX3_readNumbers_87 (t := 11) rfl ?_
        exact ih _ (by omega) (j + 1) (S.1, 10 * S.2.1 + I.2 j - 48, S.2.2.1 + 1, S.2.2.2) _ _ rfl _ m1 m2 (fun q q0 q1 => ((hfr _ q0 q1).trans rfl)) (by omega) (by
              show (zrd I.2 j).bind _ = _
              rw [hS]
              show zstp S (I.2 j) = _
              unfold zstp
              rw [if_pos ⟨by omega, by omega⟩]) hu 
    · refine T_if_eq dX3_readNumbers_32 (t := 57) rfl (fun _ => ?_) (fun hc => absurd hc (by decide))
      refine T_iload_n dX3_readNumbers_57 rfl ?_
      refine T_if_le dX3_readNumbers_58 (t := 82) rfl (fun c58 => ?_) (fun c58 => ?_)
      · refine T_iload_n dX3_readNumbers_82 rfl ?_
        refine T_iret dX3_readNumbers_83 rfl ?_
        obtain ⟨z1, z2⟩ := zbad_eq hS (by unfold zstp; rw [if_neg (by omega), if_neg (by omega)]) (show j < l by omega)
        exact hF j _ _ h1 (Or.inl ⟨z1, z2⟩) m1 m2 hfr
      · refine T_iload dX3_readNumbers_61 rfl ?_
        refine T_aload_n dX3_readNumbers_63 rfl ?_
        refine T_callV dX3_readNumbers_64 zkm_4_30 (Or.inl rfl) rfl m1 ⟨Nat.le_of_ble_eq_true rfl, rfl⟩ rfl (Nat.le_of_ble_eq_true rfl) ?_
        refine m_X3_signBehindNumber m1 (by omega) ?_
        refine T_icmp_ne dX3_readNumbers_67 (t := 82) rfl (fun c67 => ?_) (fun c67 => ?_)
        · refine T_iload_n dX3_readNumbers_82 rfl ?_
          refine T_iret dX3_readNumbers_83 rfl ?_
          obtain ⟨z1, z2⟩ := zbad_eq hS (by unfold zstp; rw [if_neg (by omega), if_neg (by omega)]) (show j < l by omega)
          exact hF j _ _ h1 (Or.inl ⟨z1, z2⟩) m1 m2 hfr
        · refine T_aload_n dX3_readNumbers_70 rfl ?_
          refine T_iload_n dX3_readNumbers_71 rfl ?_
          refine T_callV dX3_readNumbers_72 zkm_4_34 (Or.inl rfl) rfl m1 ⟨Nat.le_of_ble_eq_true rfl, rfl⟩ rfl (Nat.le_of_ble_eq_true rfl) ?_
          refine m_X3_appendNumber m1 m2 (by omega) (by omega) (fun hh72 f72a f72b fr72 => ?_)
          refine T_iconst dX3_readNumbers_75 (by decide) ?_
          refine T_istore_n dX3_readNumbers_76 (Nat.le_of_ble_eq_true rfl) ?_
          refine T_iconst dX3_readNumbers_77 (by decide) ?_
          refine T_istore_n dX3_readNumbers_78 (Nat.le_of_ble_eq_true rfl) ?_
          refine T_goto dX3_readNumbers_79 (t := 84) rfl ?_
          refine T_iinc dX3_readNumbers_84 rfl ⟨by omega, by omega⟩ ?_
          refine T_goto dX3_readNumbers_87 (t := 11) rfl ?_
          exact ih _ (by omega) (j + 1) (S.1 + 1, 0, 0, zfu S.2.2.2 S.1 S.2.1) _ _ rfl _ f72a f72b (fun q q0 q1 => ((fr72 _ q0 q1).trans ((hfr _ q0 q1).trans rfl))) (by omega) (by
                show (zrd I.2 j).bind _ = _
                rw [hS]
                show zstp S (I.2 j) = _
                unfold zstp
                rw [if_neg (by omega), if_pos ⟨by omega, by omega⟩]) (fun i hi => by
                have hi : i < S.1 + 1 := hi
                show zfu u S.1 S.2.1 i = zfu S.2.2.2 S.1 S.2.1 i
                by_cases e9 : i = S.1
                · rw [e9, zfu_self, zfu_self]
                · rw [zfu_ne e9, zfu_ne e9]; exact hu i (by omega)) 
set_option maxHeartbeats 4000000 in
set_option maxRecDepth 100000 in
theorem m_X3_readNumbers {n0 n k : Nat} {g : Nat → zV} {h : zHp} {Q : Option zV → Nat → Nat → zHp → Prop} {e l : Nat} {nc : Int} {iby inu : Nat → Int} {I : tT} (i0 : h e = some (.inl (4, [.inl (l : Int), .inr (some (e + 1)), .inl nc, .inr (some (e + 2))]))) (i1 : h (e + 1) = some (.inr (.inl (1, 60, iby)))) (i2 : h (e + 2) = some (.inr (.inl (0, 30, inu)))) (hI : iwf I) (hl : l = I.1) (hib : ∀ i, i < l → iby i = I.2 i) (hw : n0 ≤ e) (hT : ∀ (S : rdT) (nu' : Nat → Int) (h' : zHp), (zrd I.2 l = some S) → (zdone S = true) → (∀ i, i < S.1 + 1 → nu' i = zfu S.2.2.2 S.1 S.2.1 i) → h' e = some (.inl (4, [.inl (l : Int), .inr (some (e + 1)), .inl ((S.1 : Int) + 1), .inr (some (e + 2))])) → h' (e + 2) = some (.inr (.inl (0, 30, nu'))) → (∀ q : Nat, q ≠ e → q ≠ (e + 2) → h' q = h q) → Q (some (.inl (-1))) n k h') (hF : ∀ (w : Nat) (nc' : Int) (nu' : Nat → Int) (h' : zHp), ((zrd I.2 l = none ∧ zfst (zbad I.2) l = w) ∨ (w = l ∧ ∃ S, zrd I.2 l = some S ∧ zdone S = false)) → h' e = some (.inl (4, [.inl (l : Int), .inr (some (e + 1)), .inl nc', .inr (some (e + 2))])) → h' (e + 2) = some (.inr (.inl (0, 30, nu'))) → (∀ q : Nat, q ≠ e → q ≠ (e + 2) → h' q = h q) → Q (some (.inl (w : Int))) n k h') : ZT n0 g mX3_readNumbers 0 (zloc mX3_readNumbers [.inr (some e)]) [] n k h Q := by
  show ZT n0 g mX3_readNumbers 0 [some (.inr (some e)), none, none, none, none] [] n k h Q
  refine T_aload_n dX3_readNumbers_0 rfl ?_
  refine T_iconst dX3_readNumbers_1 (by decide) ?_
  refine T_putfield dX3_readNumbers_2 zkf_4_19 i0 (Nat.le_of_ble_eq_true rfl) (by omega) rfl (fun hf => absurd hf (by decide)) rfl ?_
  refine T_iconst dX3_readNumbers_5 (by decide) ?_
  refine T_istore_n dX3_readNumbers_6 (Nat.le_of_ble_eq_true rfl) ?_
  refine T_iconst dX3_readNumbers_7 (by decide) ?_
  refine T_istore_n dX3_readNumbers_8 (Nat.le_of_ble_eq_true rfl) ?_
  refine T_iconst dX3_readNumbers_9 (by decide) ?_
  refine T_istore_n dX3_readNumbers_10 (Nat.le_of_ble_eq_true rfl) ?_
  exact m_X3_readNumbers_11 i0 i1 i2 hI hl hib hw hT hF _ 0 (0, 0, 0, fun _ => 0) inu _ rfl _ zup_self (zup_ne (by omega) i2) (fun q q0 q1 => ((zup_nf q0).trans rfl)) (by omega) rfl (fun i hi => absurd hi (Nat.not_lt_zero i)) 
set_option maxHeartbeats 4000000 in
set_option maxRecDepth 100000 in
theorem f2_addPoint {n0 n k : Nat} {g : Nat → zV} {h : zHp} {Q : Option zV → Nat → Nat → zHp → Prop} {B lo : Nat} {P : pT} {L : lT} {I O : tT} {V : Int × pT} {nb vb N : Nat} {cb : Nat → Nat} {x y : Int} (hP : pwf P) (hL : lwf L) (hI : iwf I) (hO : owf O) (hV : vwf V) (hB : n0 ≤ B) (hcl : clAt h B lo n P L I O V nb cb vb N) (hQ : ∀  (h' : zHp), (clAt h' B lo n (s_add P x y).2 L I O V nb cb vb N) → (∀ q : Nat, (q < B ∨ (B + 396 ≤ q ∧ q < lo)) → h' q = h q) → (h' (B + 382) = h (B + 382) ∧ h' (B + 384) = h (B + 384)) → Q (some (.inl ((s_add P x y).1))) n k h') : ZT n0 g mX9_addPoint 0 (zloc mX9_addPoint [.inr (some B), .inl x, .inl y]) [] n k h Q := by
  show ZT n0 g mX9_addPoint 0 [some (.inr (some B)), some (.inl x), some (.inl y)] [] n k h Q
  obtain ⟨o0, gp, gc, gsp, gsc, gw, gf, gi, go, gl, gsep, hlo⟩ := id hcl
  have hpb := hP.bd
  have gvb := go.vb
  have gcb := gf.co.2.2.1
  obtain ⟨xs, ys, p0, p1, p2, p3⟩ := id gp
  obtain ⟨sz, f0, f1, f2⟩ := id gf
  refine T_aload_n dX9_addPoint_0 rfl ?_
  refine T_getfield dX9_addPoint_1 zkf_10_12 o0 rfl ?_
  refine T_iload_n dX9_addPoint_4 rfl ?_
  refine T_callV dX9_addPoint_5 zkm_10_102 (Or.inl rfl) rfl p0 ⟨Nat.le_of_ble_eq_true rfl, rfl⟩ rfl (Nat.le_of_ble_eq_true rfl) ?_
  refine m_X5_isResidue p0  (fun k5a => ?_) (fun k5a_2 => ?_)
  · refine T_if_eq dX9_addPoint_8 (t := 22) rfl (fun hc => absurd hc (by decide)) (fun _ => ?_)
    refine T_aload_n dX9_addPoint_11 rfl ?_
    refine T_getfield dX9_addPoint_12 zkf_10_12 o0 rfl ?_
    refine T_iload_n dX9_addPoint_15 rfl ?_
    refine T_callV dX9_addPoint_16 zkm_10_102 (Or.inl rfl) rfl p0 ⟨Nat.le_of_ble_eq_true rfl, rfl⟩ rfl (Nat.le_of_ble_eq_true rfl) ?_
    refine m_X5_isResidue p0  (fun k16a => ?_) (fun k16a_2 => ?_)
    · refine T_if_ne dX9_addPoint_19 (t := 25) rfl (fun _ => ?_) (fun hc => absurd hc (by decide))
      refine T_aload_n dX9_addPoint_25 rfl ?_
      refine T_getfield dX9_addPoint_26 zkf_10_12 o0 rfl ?_
      refine T_iload_n dX9_addPoint_29 rfl ?_
      refine T_iload_n dX9_addPoint_30 rfl ?_
      refine T_callV dX9_addPoint_31 zkm_10_105 (Or.inl rfl) rfl p0 ⟨Nat.le_of_ble_eq_true rfl, rfl⟩ rfl (Nat.le_of_ble_eq_true rfl) ?_
      refine m_X5_holds p0 p1 p2 hP.2.1 (fun k31a => ?_) (fun k31a_2 => ?_)
      · refine T_if_eq dX9_addPoint_34 (t := 40) rfl (fun hc => absurd hc (by decide)) (fun _ => ?_)
        refine T_bipush dX9_addPoint_37 (by decide) ?_
        refine T_iret dX9_addPoint_39 rfl ?_
        have hh : zhas P x y = true := by
          obtain ⟨j, hj, e1, e2⟩ := k31a
          exact zhas_iff.mpr ⟨j, hj, by rw [← (p3 j hj).1]; exact e1, by rw [← (p3 j hj).2]; exact e2⟩
        have e : s_add P x y = (-3, P) := by unfold s_add; rw [if_pos ⟨k5a, k16a⟩, hh]; rfl
        rw [e] at hQ
        exact hQ h hcl (fun _ _ => rfl) ⟨rfl, rfl⟩
      · refine T_if_eq dX9_addPoint_34 (t := 40) rfl (fun _ => ?_) (fun hc => absurd hc (by decide))
        refine T_aload_n dX9_addPoint_40 rfl ?_
        refine T_getfield dX9_addPoint_41 zkf_10_12 o0 rfl ?_
        have hs8 := hP.2.1
        refine T_getfield dX9_addPoint_44 zkf_10_109 p0 rfl ?_
        refine T_bipush dX9_addPoint_47 (by decide) ?_
        refine T_icmp_lt dX9_addPoint_49 (t := 55) rfl (fun c49 => ?_) (fun c49 => ?_)
        · refine T_aload_n dX9_addPoint_55 rfl ?_
          refine T_getfield dX9_addPoint_56 zkf_10_12 o0 rfl ?_
          refine T_iload_n dX9_addPoint_59 rfl ?_
          refine T_iload_n dX9_addPoint_60 rfl ?_
          refine T_callV dX9_addPoint_61 zkm_10_112 (Or.inl rfl) rfl p0 ⟨Nat.le_of_ble_eq_true rfl, rfl⟩ rfl (Nat.le_of_ble_eq_true rfl) ?_
          refine m_X5_append p0 p1 p2 (by omega) (by omega) (fun hh61 f61a f61b f61c fr61 => ?_)
          refine T_aload_n dX9_addPoint_64 rfl ?_
          refine T_getfield dX9_addPoint_65 zkf_10_59 ((fr61 _ (by omega) (by omega) (by omega)).trans o0) rfl ?_
          refine T_callV dX9_addPoint_68 zkm_10_99 (Or.inl rfl) rfl ((fr61 _ (by omega) (by omega) (by omega)).trans f0) ⟨Nat.le_of_ble_eq_true rfl, rfl⟩ rfl (Nat.le_of_ble_eq_true rfl) ?_
          refine m_X2_forget ((fr61 _ (by omega) (by omega) (by omega)).trans f0) (by omega) (fun hh68 f68a fr68 => ?_)
          refine T_aload_n dX9_addPoint_71 rfl ?_
          refine T_getfield dX9_addPoint_72 zkf_10_12 ((fr68 _ (by omega)).trans ((fr61 _ (by omega) (by omega) (by omega)).trans o0)) rfl ?_
          refine T_getfield dX9_addPoint_75 zkf_10_109 ((fr68 _ (by omega)).trans f61a) rfl ?_
          refine T_iret dX9_addPoint_78 rfl ?_
          have hh : zhas P x y = false := zhas_f (fun j hj q => k31a_2 j hj ⟨by rw [(p3 j hj).1]; exact q.1, by rw [(p3 j hj).2]; exact q.2⟩)
          have e : s_add P x y = ((P.2.1 : Int) + 1, (P.1, P.2.1 + 1, zfu P.2.2.1 P.2.1 x, zfu P.2.2.2.1 P.2.1 y, P.2.2.2.2)) := by unfold s_add; rw [if_pos ⟨k5a, k16a⟩, hh, cond_false, if_neg (by omega)]
          rw [e] at hQ
          exact hQ _ ⟨((fr68 _ (by omega)).trans ((fr61 _ (by omega) (by omega) (by omega)).trans o0)), ⟨_, _, ((fr68 _ (by omega)).trans f61a), ((fr68 _ (by omega)).trans f61b), ((fr68 _ (by omega)).trans f61c), fun k hk => ⟨by
            by_cases e9 : k = P.2.1
            · rw [e9, zfu_self]; exact zfu_self.symm
            · rw [zfu_ne e9]; exact (p3 k (by have : k < P.2.1 + 1 := hk; omega)).1.trans (zfu_ne e9).symm, by
            by_cases e9 : k = P.2.1
            · rw [e9, zfu_self]; exact zfu_self.symm
            · rw [zfu_ne e9]; exact (p3 k (by have : k < P.2.1 + 1 := hk; omega)).2.trans (zfu_ne e9).symm⟩⟩, (gc.frame (fun q a1 a2 => ((fr68 _ (by omega)).trans (((fr61 _ (by omega) (by omega) (by omega)).trans (rfl)))))), (gsp.frame (fun q a1 a2 => ((fr68 _ (by omega)).trans (((fr61 _ (by omega) (by omega) (by omega)).trans (rfl)))))), (gsc.frame (fun q a1 a2 => ((fr68 _ (by omega)).trans (((fr61 _ (by omega) (by omega) (by omega)).trans (rfl)))))), (gw.frame (fun q a1 a2 => ((fr68 _ (by omega)).trans (((fr61 _ (by omega) (by omega) (by omega)).trans (rfl)))))), (gFan.fresh f68a (gf.co.frame (Nat.le_refl _) (by exact ((fr68 _ (by omega)).trans (((fr61 _ (by omega) (by omega) (by omega)).trans (rfl))))) (fun i hi q a1 a2 => by have := gcb i hi; exact ((fr68 _ (by omega)).trans (((fr61 _ (by omega) (by omega) (by omega)).trans (rfl))))))), (gi.frame (fun q a1 a2 => ((fr68 _ (by omega)).trans (((fr61 _ (by omega) (by omega) (by omega)).trans (rfl)))))), (go.frame (Nat.le_refl _) (by exact ((fr68 _ (by omega)).trans (((fr61 _ (by omega) (by omega) (by omega)).trans (rfl))))) (by exact ((fr68 _ (by omega)).trans (((fr61 _ (by omega) (by omega) (by omega)).trans (rfl)))))), (gl.frame (fun q a1 a2 => ((fr68 _ (by omega)).trans (((fr61 _ (by omega) (by omega) (by omega)).trans (rfl)))))), gsep, hlo⟩ (fun q a1 => ((fr68 _ (by omega)).trans (((fr61 _ (by omega) (by omega) (by omega)).trans (rfl))))) ⟨((fr68 _ (by omega)).trans (((fr61 _ (by omega) (by omega) (by omega)).trans (rfl)))), ((fr68 _ (by omega)).trans (((fr61 _ (by omega) (by omega) (by omega)).trans (rfl))))⟩
        · refine T_bipush dX9_addPoint_52 (by decide) ?_
          refine T_iret dX9_addPoint_54 rfl ?_
          have hh : zhas P x y = false := zhas_f (fun j hj q => k31a_2 j hj ⟨by rw [(p3 j hj).1]; exact q.1, by rw [(p3 j hj).2]; exact q.2⟩)
          have e : s_add P x y = (-4, P) := by unfold s_add; rw [if_pos ⟨k5a, k16a⟩, hh, cond_false, if_pos (by omega)]
          rw [e] at hQ
          exact hQ h hcl (fun _ _ => rfl) ⟨rfl, rfl⟩
    · refine T_if_ne dX9_addPoint_19 (t := 25) rfl (fun hc => absurd hc (by decide)) (fun _ => ?_)
      refine T_bipush dX9_addPoint_22 (by decide) ?_
      refine T_iret dX9_addPoint_24 rfl ?_
      have e : s_add P x y = (-2, P) := by unfold s_add; rw [if_neg (by omega)]
      rw [e] at hQ
      exact hQ h hcl (fun _ _ => rfl) ⟨rfl, rfl⟩
  · refine T_if_eq dX9_addPoint_8 (t := 22) rfl (fun _ => ?_) (fun hc => absurd hc (by decide))
    refine T_bipush dX9_addPoint_22 (by decide) ?_
    refine T_iret dX9_addPoint_24 rfl ?_
    have e : s_add P x y = (-2, P) := by unfold s_add; rw [if_neg (by omega)]
    rw [e] at hQ
    exact hQ h hcl (fun _ _ => rfl) ⟨rfl, rfl⟩
set_option maxHeartbeats 4000000 in
set_option maxRecDepth 100000 in
theorem m_X9_parsePoints_36 {n0 n k : Nat} {g : Nat → zV} {h : zHp} {Q : Option zV → Nat → Nat → zHp → Prop} {B lo : Nat} {P : pT} {L : lT} {I O : tT} {V : Int × pT} {nb vb N : Nat} {cb : Nat → Nat} (hP : pwf P) (hL : lwf L) (hI : iwf I) (hO : owf O) (hV : vwf V) (hB : n0 ≤ B) (hcl : clAt h B lo n P L I O V nb cb vb N) (hQ : ∀  (h' : zHp), (clAt h' B lo n (s_pp P I).2 L (0, I.2) O V nb cb vb N) → (∀ q : Nat, (q < B ∨ (B + 396 ≤ q ∧ q < lo)) → h' q = h q) → Q (some (.inl ((s_pp P I).1))) n k h') : ∀ (d : Nat) (L1 : Option zV) (t : Nat) (m9 : Nat) (c : Nat) (nu : Nat → Int) (u : Nat → Int), m9 - t = d → ∀ h1 : zHp, (clAt h1 B lo n (zadds P nu t) L (0, I.2) O V nb cb vb N) → (h1 (B + 382) = some (.inl (4, [.inl 0, .inr (some (B + 383)), .inl (c : Int), .inr (some (B + 384))]))) → (zar h1 (B + 384) 30 u) → (∀ q : Nat, (q < B ∨ (B + 396 ≤ q ∧ q < lo)) → h1 q = h q) → (t ≤ m9) → (c = 2 * m9 ∧ c ≤ 30) → (∀ i, i < c → u i = nu i) → (s_pp P I = (((zadds P nu m9).2.1 : Int) - (P.2.1 : Int), zadds P nu m9)) → ZT n0 g mX9_parsePoints 36 [some (.inr (some B)), L1, some (.inl (P.2.1 : Int)), some (.inl ((2 * t) : Int))] [] n k h1 Q := by
  intro d
  induction d using Nat.strongRecOn with | _ d ih => ?_
  intro L1 t m9 c nu u hd0 h1 cl1 j1 j2 jfr ht hc hnu hpp
  subst hd0
  obtain ⟨o0, gp, gc, gsp, gsc, gw, gf, gi, go, gl, gsep, hlo⟩ := id cl1
  have hpb := (wf_adds hP nu t).bd
  have gvb := go.vb
  have gcb := gf.co.2.2.1
  obtain ⟨xs, ys, p0, p1, p2, p3⟩ := id gp
  have hs9 := (wf_adds hP nu t).2.1
  have hs8 := hP.2.1
  refine T_iload_n dX9_parsePoints_36 rfl ?_
  refine T_iconst dX9_parsePoints_37 (by decide) ?_
  refine T_iadd dX9_parsePoints_38 ⟨by omega, by omega⟩ ?_
  refine T_aload_n dX9_parsePoints_39 rfl ?_
  refine T_getfield dX9_parsePoints_40 zkf_10_66 o0 rfl ?_
  refine T_getfield dX9_parsePoints_43 zkf_10_272 j1 rfl ?_
  refine T_icmp_ge dX9_parsePoints_46 (t := 80) rfl (fun c46 => ?_) (fun c46 => ?_)
  · refine T_aload_n dX9_parsePoints_80 rfl ?_
    refine T_getfield dX9_parsePoints_81 zkf_10_12 o0 rfl ?_
    refine T_getfield dX9_parsePoints_84 zkf_10_109 p0 rfl ?_
    refine T_iload_n dX9_parsePoints_87 rfl ?_
    refine T_isub dX9_parsePoints_88 ⟨by omega, by omega⟩ ?_
    refine T_iret dX9_parsePoints_89 rfl ?_
    have et : t = m9 := by omega
    subst et
    rw [hpp] at hQ
    exact hQ _ cl1 jfr
  · refine T_aload_n dX9_parsePoints_49 rfl ?_
    refine T_aload_n dX9_parsePoints_50 rfl ?_
    refine T_getfield dX9_parsePoints_51 zkf_10_66 o0 rfl ?_
    refine T_getfield dX9_parsePoints_54 zkf_10_275 j1 rfl ?_
    refine T_iload_n dX9_parsePoints_57 rfl ?_
    refine T_ialoadN (m := (2 * t)) dX9_parsePoints_58 j2 (by omega) (by omega) ?_
    refine T_aload_n dX9_parsePoints_59 rfl ?_
    refine T_getfield dX9_parsePoints_60 zkf_10_66 o0 rfl ?_
    refine T_getfield dX9_parsePoints_63 zkf_10_275 j1 rfl ?_
    refine T_iload_n dX9_parsePoints_66 rfl ?_
    refine T_iconst dX9_parsePoints_67 (by decide) ?_
    refine T_iadd dX9_parsePoints_68 ⟨by omega, by omega⟩ ?_
    refine T_ialoadN (m := (2 * t + 1)) dX9_parsePoints_69 j2 (by omega) (by omega) ?_
    rw [hnu (2 * t) (by omega), hnu (2 * t + 1) (by omega)]
    refine T_callV dX9_parsePoints_70 zkm_10_276 (Or.inl rfl) rfl o0 ⟨Nat.le_of_ble_eq_true rfl, rfl⟩ rfl (Nat.le_of_ble_eq_true rfl) ?_
    refine f2_addPoint  (wf_adds hP nu t) hL ⟨Nat.zero_le _, fun i hi => absurd hi (Nat.not_lt_zero i)⟩ hO hV hB cl1 (fun hh70 pc_70 pf_70 pi_70 => ?_)
    refine T_pop dX9_parsePoints_73 ?_
    refine T_iinc dX9_parsePoints_74 rfl ⟨by omega, by omega⟩ ?_
    refine T_goto dX9_parsePoints_77 (t := 36) rfl ?_
    exact ih _ (by omega) _ (t + 1) m9 c nu u rfl _ pc_70 (pi_70.1.trans j1) (pi_70.2.trans j2) (fun q hq => (pf_70 q hq).trans (jfr q hq)) (by omega) hc hnu hpp 
set_option maxHeartbeats 4000000 in
set_option maxRecDepth 100000 in
theorem m_X9_parsePoints {n0 n k : Nat} {g : Nat → zV} {h : zHp} {Q : Option zV → Nat → Nat → zHp → Prop} {B lo : Nat} {P : pT} {L : lT} {I O : tT} {V : Int × pT} {nb vb N : Nat} {cb : Nat → Nat} (hP : pwf P) (hL : lwf L) (hI : iwf I) (hO : owf O) (hV : vwf V) (hB : n0 ≤ B) (hcl : clAt h B lo n P L I O V nb cb vb N) (hQ : ∀  (h' : zHp), (clAt h' B lo n (s_pp P I).2 L (0, I.2) O V nb cb vb N) → (∀ q : Nat, (q < B ∨ (B + 396 ≤ q ∧ q < lo)) → h' q = h q) → Q (some (.inl ((s_pp P I).1))) n k h') : ZT n0 g mX9_parsePoints 0 (zloc mX9_parsePoints [.inr (some B)]) [] n k h Q := by
  show ZT n0 g mX9_parsePoints 0 [some (.inr (some B)), none, none, none] [] n k h Q
  obtain ⟨o0, gp, gc, gsp, gsc, gw, gf, gi, go, gl, gsep, hlo⟩ := id hcl
  have hpb := hP.bd
  have gvb := go.vb
  have gcb := gf.co.2.2.1
  obtain ⟨iby, inu, inc, i0, i1, i2, i3⟩ := id gi
  obtain ⟨xs, ys, p0, p1, p2, p3⟩ := id gp
  refine T_aload_n dX9_parsePoints_0 rfl ?_
  refine T_getfield dX9_parsePoints_1 zkf_10_66 o0 rfl ?_
  refine T_callV dX9_parsePoints_4 zkm_10_269 (Or.inl rfl) rfl i0 ⟨Nat.le_of_ble_eq_true rfl, rfl⟩ rfl (Nat.le_of_ble_eq_true rfl) ?_
  refine m_X3_readNumbers (I := I) i0 i1 i2 hI rfl i3 (by omega) (fun S4 nu'4 hh4 k4a k4b k4c f4a f4b fr4 => ?_) (fun w4 nc'4 nu'4_2 hh4 k4a_2 f4a_2 f4b_2 fr4_2 => ?_)
  · refine T_istore_n dX9_parsePoints_7 (Nat.le_of_ble_eq_true rfl) ?_
    refine T_aload_n dX9_parsePoints_8 rfl ?_
    refine T_getfield dX9_parsePoints_9 zkf_10_66 ((fr4 _ (by omega) (by omega)).trans o0) rfl ?_
    refine T_iconst dX9_parsePoints_12 (by decide) ?_
    refine T_putfield dX9_parsePoints_13 zkf_10_266 f4a (Nat.le_of_ble_eq_true rfl) (by omega) rfl (fun hf => absurd hf (by decide)) rfl ?_
    refine T_iload_n dX9_parsePoints_16 rfl ?_
    refine T_iconst dX9_parsePoints_17 (by decide) ?_
    refine T_icmp_eq dX9_parsePoints_18 (t := 26) rfl (fun _ => ?_) (fun hc => absurd hc (by decide))
    refine T_aload_n dX9_parsePoints_26 rfl ?_
    refine T_getfield dX9_parsePoints_27 zkf_10_12 (zup_ne (by omega) ((fr4 _ (by omega) (by omega)).trans o0)) rfl ?_
    refine T_getfield dX9_parsePoints_30 zkf_10_109 (zup_ne (by omega) ((fr4 _ (by omega) (by omega)).trans p0)) rfl ?_
    refine T_istore_n dX9_parsePoints_33 (Nat.le_of_ble_eq_true rfl) ?_
    have k4b' : 0 < S4.2.2.1 ∧ S4.1 % 2 = 1 := of_decide_eq_true k4b
    obtain ⟨v1, v2, v3, v4, v5, v6, v7⟩ := zrd_inv k4a
    have hI6 := hI.1
    refine T_iconst dX9_parsePoints_34 (by decide) ?_
    refine T_istore_n dX9_parsePoints_35 (Nat.le_of_ble_eq_true rfl) ?_
    exact m_X9_parsePoints_36 hP hL hI hO hV hB hcl hQ _ _ 0 ((S4.1 + 1) / 2) (S4.1 + 1) (zfu S4.2.2.2 S4.1 S4.2.1) nu'4 rfl _ ⟨(zup_ne (by omega) ((fr4 _ (by omega) (by omega)).trans o0)), (gp.frame (fun q a1 a2 => ((zup_nf (by omega)).trans (((fr4 _ (by omega) (by omega)).trans (rfl)))))), (gc.frame (fun q a1 a2 => ((zup_nf (by omega)).trans (((fr4 _ (by omega) (by omega)).trans (rfl)))))), (gsp.frame (fun q a1 a2 => ((zup_nf (by omega)).trans (((fr4 _ (by omega) (by omega)).trans (rfl)))))), (gsc.frame (fun q a1 a2 => ((zup_nf (by omega)).trans (((fr4 _ (by omega) (by omega)).trans (rfl)))))), (gw.frame (fun q a1 a2 => ((zup_nf (by omega)).trans (((fr4 _ (by omega) (by omega)).trans (rfl)))))), (gf.frame hP (Nat.le_refl _) (fun q a1 a2 => ((zup_nf (by omega)).trans (((fr4 _ (by omega) (by omega)).trans (rfl))))) (fun i hi q a1 a2 => by have := gcb i hi; exact ((zup_nf (by omega)).trans (((fr4 _ (by omega) (by omega)).trans (rfl)))))), ⟨iby, _, _, zup_self, (zup_ne (by omega) ((fr4 _ (by omega) (by omega)).trans i1)), (zup_ne (by omega) f4b), fun i hi => absurd hi (Nat.not_lt_zero i)⟩, (go.frame (Nat.le_refl _) (by exact ((zup_nf (by omega)).trans (((fr4 _ (by omega) (by omega)).trans (rfl))))) (by exact ((zup_nf (by omega)).trans (((fr4 _ (by omega) (by omega)).trans (rfl)))))), (gl.frame (fun q a1 a2 => ((zup_nf (by omega)).trans (((fr4 _ (by omega) (by omega)).trans (rfl)))))), gsep, hlo⟩ zup_self (zup_ne (by omega) f4b) (fun q a1 => ((zup_nf (by omega)).trans (((fr4 _ (by omega) (by omega)).trans (rfl))))) (Nat.zero_le _) (by omega) k4c (by unfold s_pp; rw [k4a]; dsimp only; rw [k4b]; rfl) 
  · refine T_istore_n dX9_parsePoints_7 (Nat.le_of_ble_eq_true rfl) ?_
    refine T_aload_n dX9_parsePoints_8 rfl ?_
    refine T_getfield dX9_parsePoints_9 zkf_10_66 ((fr4_2 _ (by omega) (by omega)).trans o0) rfl ?_
    refine T_iconst dX9_parsePoints_12 (by decide) ?_
    refine T_putfield dX9_parsePoints_13 zkf_10_266 f4a_2 (Nat.le_of_ble_eq_true rfl) (by omega) rfl (fun hf => absurd hf (by decide)) rfl ?_
    refine T_iload_n dX9_parsePoints_16 rfl ?_
    refine T_iconst dX9_parsePoints_17 (by decide) ?_
    refine T_icmp_eq dX9_parsePoints_18 (t := 26) rfl (fun hc => absurd hc (by omega)) (fun _ => ?_)
    have hI6 := hI.1
    have hw4 : w4 ≤ I.1 := by
      rcases k4a_2 with ⟨_, e⟩ | ⟨e, _⟩
      · rw [← e]; exact zfst_le _ _
      · omega
    refine T_bipush dX9_parsePoints_21 (by decide) ?_
    refine T_iload_n dX9_parsePoints_23 rfl ?_
    refine T_isub dX9_parsePoints_24 ⟨by omega, by omega⟩ ?_
    refine T_iret dX9_parsePoints_25 rfl ?_
    have e : s_pp P I = (-100 - (w4 : Int), P) := by
      unfold s_pp
      rcases k4a_2 with ⟨e1, e2⟩ | ⟨e1, S, e2, e3⟩
      · rw [e1, e2]
      · rw [e2]
        dsimp only
        rw [e3, e1]; rfl
    rw [e] at hQ
    exact hQ _ ⟨(zup_ne (by omega) ((fr4_2 _ (by omega) (by omega)).trans o0)), (gp.frame (fun q a1 a2 => ((zup_nf (by omega)).trans (((fr4_2 _ (by omega) (by omega)).trans (rfl)))))), (gc.frame (fun q a1 a2 => ((zup_nf (by omega)).trans (((fr4_2 _ (by omega) (by omega)).trans (rfl)))))), (gsp.frame (fun q a1 a2 => ((zup_nf (by omega)).trans (((fr4_2 _ (by omega) (by omega)).trans (rfl)))))), (gsc.frame (fun q a1 a2 => ((zup_nf (by omega)).trans (((fr4_2 _ (by omega) (by omega)).trans (rfl)))))), (gw.frame (fun q a1 a2 => ((zup_nf (by omega)).trans (((fr4_2 _ (by omega) (by omega)).trans (rfl)))))), (gf.frame hP (Nat.le_refl _) (fun q a1 a2 => ((zup_nf (by omega)).trans (((fr4_2 _ (by omega) (by omega)).trans (rfl))))) (fun i hi q a1 a2 => by have := gcb i hi; exact ((zup_nf (by omega)).trans (((fr4_2 _ (by omega) (by omega)).trans (rfl)))))), ⟨iby, _, _, zup_self, (zup_ne (by omega) ((fr4_2 _ (by omega) (by omega)).trans i1)), (zup_ne (by omega) f4b_2), fun i hi => absurd hi (Nat.not_lt_zero i)⟩, (go.frame (Nat.le_refl _) (by exact ((zup_nf (by omega)).trans (((fr4_2 _ (by omega) (by omega)).trans (rfl))))) (by exact ((zup_nf (by omega)).trans (((fr4_2 _ (by omega) (by omega)).trans (rfl)))))), (gl.frame (fun q a1 a2 => ((zup_nf (by omega)).trans (((fr4_2 _ (by omega) (by omega)).trans (rfl)))))), gsep, hlo⟩ (fun q a1 => ((zup_nf (by omega)).trans (((fr4_2 _ (by omega) (by omega)).trans (rfl)))))
