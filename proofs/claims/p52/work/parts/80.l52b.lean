/-! ===== p52: a basis polynomial is good, a cone is good: printed by wip/p52/gen/l52b.py ===== -/
theorem znz_s0 {c : Nat → Int} {t m : Nat} (h : t = znz c m) (h0 : c m = 0) : t + 0 = znz c (m + 1) := by
  unfold znz at *
  unfold zcnt
  rw [if_neg (by simp [h0]), h]
theorem znz_s1 {c : Nat → Int} {t m : Nat} (h : t = znz c m) (h0 : c m ≠ 0) : t + 1 = znz c (m + 1) := by
  unfold znz at *
  unfold zcnt
  rw [if_pos (by simp [h0]), h]
theorem zdec_eq (m : Nat) : zdec m = 10 * ((m : Int) / 9) + (m : Int) % 9 := by unfold zdec; omega
set_option maxHeartbeats 4000000 in
set_option maxRecDepth 100000 in
theorem m_L_isBasisGood_116 {n0 n k : Nat} {g : Nat → zV} {h : zHp} {Q : Option zV → Nat → Nat → zHp → Prop} {B sA len c q : Nat} {P : pT} {C f : Nat → Int} (hP : pwf P) (hB : n0 ≤ B) (hW : wAt g h B n P C sA len f) (hc : c < pN P) (hq : q < (pB P c).2.1) (hQ : ∀ (k' : Nat) (h' : zHp), (k' ≤ k) → (wAt g h' B n P ((pB P c).2.2.2 q) sA len f) → Q (some (.inl 1)) n k' h') : ∀ (d : Nat) (t : Nat) (m : Nat) (kk1 : Nat) (L7 : Option zV), 81 - m = d → ∀ h1 : zHp, (wAt g h1 B n P C sA len f) → (m ≤ 81 ∧ t ≤ m) → (t = znz ((pB P c).2.2.2 q) m) → (kk1 ≤ k) → ZT n0 g mL_isBasisGood 116 [some (.inr (some B)), some (.inl (c : Int)), some (.inl (q : Int)), some (.inl (zdec ((pB P c).2.2.1 q))), some (.inl 1), some (.inl (t : Int)), some (.inl (m : Int)), L7] [] n kk1 h1 Q := by
  intro d
  induction d using Nat.strongRecOn with | _ d ih => ?_
  intro t m kk1 L7 hd0 h1 hW1 hm9 ht hk
  subst hd0
  have hA := pB_all hP c
  have hm := hA.2 q hq
  have hcor := pB_cor hP hq
  obtain ⟨i9, hi9⟩ : ∃ i, (pB P c).2.2.1 q / 9 = i := ⟨_, rfl⟩
  obtain ⟨j9, hj9⟩ : ∃ j, (pB P c).2.2.1 q % 9 = j := ⟨_, rfl⟩
  have em : (pB P c).2.2.1 q = 9 * i9 + j9 := by omega
  have ez : zdec ((pB P c).2.2.1 q) = 10 * (i9 : Int) + (j9 : Int) := by unfold zdec; omega
  have h81 := hm.1
  have hone : (pB P c).2.2.2 q (9 * i9 + j9) = 1 := by rw [← em]; exact hm.2.1
  have hns := hm.2.2.1
  rw [hi9, hj9] at hcor hns
  refine T_iload dL_isBasisGood_116 rfl ?_
  refine T_bipush dL_isBasisGood_118 (by decide) ?_
  refine T_icmp_ge dL_isBasisGood_120 (t := 229) rfl (fun c120 => ?_) (fun c120 => ?_)
  · refine T_iload dL_isBasisGood_229 rfl ?_
    refine T_if_eq dL_isBasisGood_231 (t := 266) rfl (fun hc => absurd hc (by decide)) (fun _ => ?_)
    refine T_aload_n dL_isBasisGood_234 rfl ?_
    refine T_iload_n dL_isBasisGood_235 rfl ?_
    refine T_iload_n dL_isBasisGood_236 rfl ?_
    have em81 : m = 81 := by omega
    subst em81
    refine T_callV dL_isBasisGood_237 zkm_20_67 (Or.inl rfl) rfl (wAt.ob hW1) ⟨Nat.le_of_ble_eq_true rfl, rfl⟩ rfl (Nat.le_of_ble_eq_true rfl) ?_
    refine w_X9_loadBasisPolynomial  hP hB hW1 (by omega) (by omega) (fun k'237 hh237 k237a pw_237 => ?_)
    refine T_iload dL_isBasisGood_240 rfl ?_
    refine T_icmp_ne dL_isBasisGood_242 (t := 266) rfl (fun hc => absurd hc (by omega)) (fun _ => ?_)
    refine T_aload_n dL_isBasisGood_245 rfl ?_
    refine T_callV dL_isBasisGood_246 zkm_20_70 (Or.inl rfl) rfl (wAt.ob pw_237) ⟨Nat.le_of_ble_eq_true rfl, rfl⟩ rfl (Nat.le_of_ble_eq_true rfl) ?_
    refine w_X9_isVanishing  hP hB pw_237 (fun k'246 hh246 k246a pw_246 => ?_)
    rw [show s_van (pC P ((pB P c).2.2.2 q)) = 1 from if_pos (pB_vanish hP hq)]
    refine T_iconst dL_isBasisGood_249 (by decide) ?_
    refine T_icmp_ne dL_isBasisGood_250 (t := 266) rfl (fun hc => absurd hc (by decide)) (fun _ => ?_)
    refine T_aload_n dL_isBasisGood_253 rfl ?_
    refine T_callV dL_isBasisGood_254 zkm_20_73 (Or.inl rfl) rfl (wAt.ob pw_246) ⟨Nat.le_of_ble_eq_true rfl, rfl⟩ rfl (Nat.le_of_ble_eq_true rfl) ?_
    refine w_X9_termCount  hP hB pw_246 (fun k'254 hh254 k254a pw_254 => ?_)
    refine T_iload dL_isBasisGood_257 rfl ?_
    refine T_icmp_ne dL_isBasisGood_259 (t := 266) rfl (fun hc => absurd hc (by omega)) (fun _ => ?_)
    refine T_iconst dL_isBasisGood_262 (by decide) ?_
    refine T_goto dL_isBasisGood_263 (t := 267) rfl ?_
    refine T_iret dL_isBasisGood_267 rfl ?_
    exact hQ k'254 hh254 (by omega) pw_254
  · refine T_aload_n dL_isBasisGood_123 rfl ?_
    refine T_iload_n dL_isBasisGood_124 rfl ?_
    refine T_iload_n dL_isBasisGood_125 rfl ?_
    refine T_iload dL_isBasisGood_126 rfl ?_
    refine T_bipush dL_isBasisGood_128 (by decide) ?_
    refine T_idivN dL_isBasisGood_130 ⟨by omega, by omega⟩ (by omega) ?_
    refine T_iload dL_isBasisGood_131 rfl ?_
    refine T_bipush dL_isBasisGood_133 (by decide) ?_
    refine T_iremN dL_isBasisGood_135 ⟨by omega, by omega⟩ (by omega) ?_
    refine T_callV dL_isBasisGood_136 zkm_20_59 (Or.inl rfl) rfl (wAt.ob hW1) ⟨Nat.le_of_ble_eq_true rfl, rfl⟩ rfl (Nat.le_of_ble_eq_true rfl) ?_
    refine w_X9_basisCoefficient (a := (m / 9)) (b := (m % 9))  hP hB hW1 (by omega) (by omega) (by omega) (fun k'136 hh136 k136a pw_136 => ?_)
    rw [show 9 * (m / 9) + m % 9 = m by omega]
    have hcl := hm.2.2.2 m
    refine T_istore dL_isBasisGood_139 (Nat.le_of_ble_eq_true rfl) ?_
    refine T_iload dL_isBasisGood_141 rfl ?_
    refine T_iload dL_isBasisGood_143 rfl ?_
    refine T_if_eq dL_isBasisGood_145 (t := 152) rfl (fun c145 => ?_) (fun c145 => ?_)
    · refine T_iconst dL_isBasisGood_152 (by decide) ?_
      refine T_iadd dL_isBasisGood_153 ⟨by omega, by omega⟩ ?_
      refine T_istore dL_isBasisGood_154 (Nat.le_of_ble_eq_true rfl) ?_
      refine T_iload dL_isBasisGood_156 rfl ?_
      refine T_if_eq dL_isBasisGood_158 (t := 220) rfl (fun hc => absurd hc (by decide)) (fun _ => ?_)
      refine T_iload dL_isBasisGood_161 rfl ?_
      refine T_if_lt dL_isBasisGood_163 (t := 220) rfl (fun hc => absurd hc (by omega)) (fun _ => ?_)
      refine T_iload dL_isBasisGood_166 rfl ?_
      refine T_aload_n dL_isBasisGood_168 rfl ?_
      refine T_callV dL_isBasisGood_169 zkm_20_28 (Or.inl rfl) rfl (wAt.ob pw_136) ⟨Nat.le_of_ble_eq_true rfl, rfl⟩ rfl (Nat.le_of_ble_eq_true rfl) ?_
      refine w_X9_prime  hP hB pw_136 (fun k'169 hh169 k169a pw_169 => ?_)
      refine T_icmp_ge dL_isBasisGood_172 (t := 220) rfl (fun hc => absurd hc (by omega)) (fun _ => ?_)
      refine T_iload dL_isBasisGood_175 rfl ?_
      refine T_if_eq dL_isBasisGood_177 (t := 216) rfl (fun _ => ?_) (fun hc => absurd hc (by omega))
      refine T_iconst dL_isBasisGood_216 (by decide) ?_
      refine T_goto dL_isBasisGood_217 (t := 221) rfl ?_
      refine T_istore dL_isBasisGood_221 (Nat.le_of_ble_eq_true rfl) ?_
      refine T_iinc dL_isBasisGood_223 rfl ⟨by omega, by omega⟩ ?_
      refine T_goto dL_isBasisGood_226 (t := 116) rfl ?_
      exact ih _ (by omega) (t + 0) (m + 1) _ _ rfl _ pw_169 (by omega) (znz_s0 ht (by omega)) (by omega) 
    · refine T_iconst dL_isBasisGood_148 (by decide) ?_
      refine T_goto dL_isBasisGood_149 (t := 153) rfl ?_
      refine T_iadd dL_isBasisGood_153 ⟨by omega, by omega⟩ ?_
      refine T_istore dL_isBasisGood_154 (Nat.le_of_ble_eq_true rfl) ?_
      refine T_iload dL_isBasisGood_156 rfl ?_
      refine T_if_eq dL_isBasisGood_158 (t := 220) rfl (fun hc => absurd hc (by decide)) (fun _ => ?_)
      refine T_iload dL_isBasisGood_161 rfl ?_
      refine T_if_lt dL_isBasisGood_163 (t := 220) rfl (fun hc => absurd hc (by omega)) (fun _ => ?_)
      refine T_iload dL_isBasisGood_166 rfl ?_
      refine T_aload_n dL_isBasisGood_168 rfl ?_
      refine T_callV dL_isBasisGood_169 zkm_20_28 (Or.inl rfl) rfl (wAt.ob pw_136) ⟨Nat.le_of_ble_eq_true rfl, rfl⟩ rfl (Nat.le_of_ble_eq_true rfl) ?_
      refine w_X9_prime  hP hB pw_136 (fun k'169 hh169 k169a pw_169 => ?_)
      refine T_icmp_ge dL_isBasisGood_172 (t := 220) rfl (fun hc => absurd hc (by omega)) (fun _ => ?_)
      refine T_iload dL_isBasisGood_175 rfl ?_
      refine T_if_eq dL_isBasisGood_177 (t := 216) rfl (fun hc => absurd hc (by omega)) (fun _ => ?_)
      refine T_bipush dL_isBasisGood_180 (by decide) ?_
      refine T_iload dL_isBasisGood_182 rfl ?_
      refine T_bipush dL_isBasisGood_184 (by decide) ?_
      refine T_idivN dL_isBasisGood_186 ⟨by omega, by omega⟩ (by omega) ?_
      refine T_imul dL_isBasisGood_187 ⟨by omega, by omega⟩ ?_
      refine T_iload dL_isBasisGood_188 rfl ?_
      refine T_bipush dL_isBasisGood_190 (by decide) ?_
      refine T_iremN dL_isBasisGood_192 ⟨by omega, by omega⟩ (by omega) ?_
      refine T_iadd dL_isBasisGood_193 ⟨by omega, by omega⟩ ?_
      refine T_iload_n dL_isBasisGood_194 rfl ?_
      refine T_icmp_eq dL_isBasisGood_195 (t := 216) rfl (fun c195 => ?_) (fun c195 => ?_)
      · refine T_iconst dL_isBasisGood_216 (by decide) ?_
        refine T_goto dL_isBasisGood_217 (t := 221) rfl ?_
        refine T_istore dL_isBasisGood_221 (Nat.le_of_ble_eq_true rfl) ?_
        refine T_iinc dL_isBasisGood_223 rfl ⟨by omega, by omega⟩ ?_
        refine T_goto dL_isBasisGood_226 (t := 116) rfl ?_
        exact ih _ (by omega) (t + 1) (m + 1) _ _ rfl _ pw_169 (by omega) (znz_s1 ht (by omega)) (by omega) 
      · refine T_aload_n dL_isBasisGood_198 rfl ?_
        refine T_iload_n dL_isBasisGood_199 rfl ?_
        refine T_iload dL_isBasisGood_200 rfl ?_
        refine T_bipush dL_isBasisGood_202 (by decide) ?_
        refine T_idivN dL_isBasisGood_204 ⟨by omega, by omega⟩ (by omega) ?_
        refine T_iload dL_isBasisGood_205 rfl ?_
        refine T_bipush dL_isBasisGood_207 (by decide) ?_
        refine T_iremN dL_isBasisGood_209 ⟨by omega, by omega⟩ (by omega) ?_
        refine T_callS dL_isBasisGood_210 zkm_20_63 ⟨Nat.le_of_ble_eq_true rfl, Nat.le_of_ble_eq_true rfl, rfl⟩ rfl (Nat.le_of_ble_eq_true rfl) ?_
        refine m_L_isStandard (i := (m / 9)) (j := (m % 9))  hP hB pw_169 (by omega) (by omega) (fun k'210 hh210 k210a k210b pw_210 => ?_) (fun k'210_2 hh210 k210a_2 k210b_2 pw_210_2 => absurd ((hcl.2.2 (by omega)).resolve_left (by omega)).2 k210b_2)
        refine T_if_eq dL_isBasisGood_213 (t := 220) rfl (fun hc => absurd hc (by decide)) (fun _ => ?_)
        refine T_iconst dL_isBasisGood_216 (by decide) ?_
        refine T_goto dL_isBasisGood_217 (t := 221) rfl ?_
        refine T_istore dL_isBasisGood_221 (Nat.le_of_ble_eq_true rfl) ?_
        refine T_iinc dL_isBasisGood_223 rfl ⟨by omega, by omega⟩ ?_
        refine T_goto dL_isBasisGood_226 (t := 116) rfl ?_
        exact ih _ (by omega) (t + 1) (m + 1) _ _ rfl _ pw_210 (by omega) (znz_s1 ht (by omega)) (by omega) 
set_option maxHeartbeats 4000000 in
set_option maxRecDepth 100000 in
theorem m_L_isBasisGood {n0 n k : Nat} {g : Nat → zV} {h : zHp} {Q : Option zV → Nat → Nat → zHp → Prop} {B sA len c q : Nat} {P : pT} {C f : Nat → Int} (hP : pwf P) (hB : n0 ≤ B) (hW : wAt g h B n P C sA len f) (hc : c < pN P) (hq : q < (pB P c).2.1) (hQ : ∀ (k' : Nat) (h' : zHp), (k' ≤ k) → (wAt g h' B n P ((pB P c).2.2.2 q) sA len f) → Q (some (.inl 1)) n k' h') : ZT n0 g mL_isBasisGood 0 (zloc mL_isBasisGood [.inr (some B), .inl (c : Int), .inl (q : Int)]) [] n k h Q := by
  show ZT n0 g mL_isBasisGood 0 [some (.inr (some B)), some (.inl (c : Int)), some (.inl (q : Int)), none, none, none, none, none] [] n k h Q
  have hA := pB_all hP c
  have hm := hA.2 q hq
  have hcor := pB_cor hP hq
  obtain ⟨i9, hi9⟩ : ∃ i, (pB P c).2.2.1 q / 9 = i := ⟨_, rfl⟩
  obtain ⟨j9, hj9⟩ : ∃ j, (pB P c).2.2.1 q % 9 = j := ⟨_, rfl⟩
  have em : (pB P c).2.2.1 q = 9 * i9 + j9 := by omega
  have ez : zdec ((pB P c).2.2.1 q) = 10 * (i9 : Int) + (j9 : Int) := by unfold zdec; omega
  have h81 := hm.1
  have hone : (pB P c).2.2.2 q (9 * i9 + j9) = 1 := by rw [← em]; exact hm.2.1
  have hns := hm.2.2.1
  rw [hi9, hj9] at hcor hns
  refine T_aload_n dL_isBasisGood_0 rfl ?_
  refine T_iload_n dL_isBasisGood_1 rfl ?_
  refine T_iload_n dL_isBasisGood_2 rfl ?_
  refine T_callV dL_isBasisGood_3 zkm_20_56 (Or.inl rfl) rfl (wAt.ob hW) ⟨Nat.le_of_ble_eq_true rfl, rfl⟩ rfl (Nat.le_of_ble_eq_true rfl) ?_
  refine w_X9_basisCorner  hP hB hW (by omega) (by omega) (fun k'3 hh3 k3a pw_3 => ?_)
  refine T_istore_n dL_isBasisGood_6 (Nat.le_of_ble_eq_true rfl) ?_
  refine T_aload_n dL_isBasisGood_7 rfl ?_
  refine T_iload_n dL_isBasisGood_8 rfl ?_
  refine T_iload_n dL_isBasisGood_9 rfl ?_
  refine T_iload_n dL_isBasisGood_10 rfl ?_
  refine T_bipush dL_isBasisGood_11 (by decide) ?_
  refine T_idivN dL_isBasisGood_13 ⟨by omega, by omega⟩ (by omega) ?_
  rw [show (zdec ((pB P c).2.2.1 q)) / 10 = (i9 : Int) from by rw [ez]; omega]
  refine T_iload_n dL_isBasisGood_14 rfl ?_
  refine T_bipush dL_isBasisGood_15 (by decide) ?_
  refine T_iremN dL_isBasisGood_17 ⟨by omega, by omega⟩ (by omega) ?_
  rw [show (zdec ((pB P c).2.2.1 q)) % 10 = (j9 : Int) from by rw [ez]; omega]
  refine T_callV dL_isBasisGood_18 zkm_20_59 (Or.inl rfl) rfl (wAt.ob pw_3) ⟨Nat.le_of_ble_eq_true rfl, rfl⟩ rfl (Nat.le_of_ble_eq_true rfl) ?_
  refine w_X9_basisCoefficient  hP hB pw_3 (by omega) (by omega) (by omega) (fun k'18 hh18 k18a pw_18 => ?_)
  refine T_iconst dL_isBasisGood_21 (by decide) ?_
  refine T_icmp_ne dL_isBasisGood_22 (t := 45) rfl (fun hc => absurd hc (by omega)) (fun _ => ?_)
  refine T_aload_n dL_isBasisGood_25 rfl ?_
  refine T_iload_n dL_isBasisGood_26 rfl ?_
  refine T_iload_n dL_isBasisGood_27 rfl ?_
  refine T_bipush dL_isBasisGood_28 (by decide) ?_
  refine T_idivN dL_isBasisGood_30 ⟨by omega, by omega⟩ (by omega) ?_
  rw [show (zdec ((pB P c).2.2.1 q)) / 10 = (i9 : Int) from by rw [ez]; omega]
  refine T_iload_n dL_isBasisGood_31 rfl ?_
  refine T_bipush dL_isBasisGood_32 (by decide) ?_
  refine T_iremN dL_isBasisGood_34 ⟨by omega, by omega⟩ (by omega) ?_
  rw [show (zdec ((pB P c).2.2.1 q)) % 10 = (j9 : Int) from by rw [ez]; omega]
  refine T_callS dL_isBasisGood_35 zkm_20_63 ⟨Nat.le_of_ble_eq_true rfl, Nat.le_of_ble_eq_true rfl, rfl⟩ rfl (Nat.le_of_ble_eq_true rfl) ?_
  refine m_L_isStandard  hP hB pw_18 (by omega) (by omega) (fun k'35 hh35 k35a k35b pw_35 => absurd hns (by omega)) (fun k'35_2 hh35 k35a_2 k35b_2 pw_35_2 => ?_)
  refine T_if_ne dL_isBasisGood_38 (t := 45) rfl (fun hc => absurd hc (by decide)) (fun _ => ?_)
  refine T_iconst dL_isBasisGood_41 (by decide) ?_
  refine T_goto dL_isBasisGood_42 (t := 46) rfl ?_
  refine T_istore dL_isBasisGood_46 (Nat.le_of_ble_eq_true rfl) ?_
  refine T_iload dL_isBasisGood_48 rfl ?_
  refine T_if_eq dL_isBasisGood_50 (t := 107) rfl (fun hc => absurd hc (by decide)) (fun _ => ?_)
  refine T_iload_n dL_isBasisGood_53 rfl ?_
  refine T_bipush dL_isBasisGood_54 (by decide) ?_
  refine T_idivN dL_isBasisGood_56 ⟨by omega, by omega⟩ (by omega) ?_
  rw [show (zdec ((pB P c).2.2.1 q)) / 10 = (i9 : Int) from by rw [ez]; omega]
  refine T_if_eq dL_isBasisGood_57 (t := 78) rfl (fun c57 => ?_) (fun c57 => ?_)
  · refine T_iload_n dL_isBasisGood_78 rfl ?_
    refine T_bipush dL_isBasisGood_79 (by decide) ?_
    refine T_iremN dL_isBasisGood_81 ⟨by omega, by omega⟩ (by omega) ?_
    rw [show (zdec ((pB P c).2.2.1 q)) % 10 = (j9 : Int) from by rw [ez]; omega]
    refine T_if_eq dL_isBasisGood_82 (t := 103) rfl (fun c82 => ?_) (fun c82 => ?_)
    · refine T_iconst dL_isBasisGood_103 (by decide) ?_
      refine T_goto dL_isBasisGood_104 (t := 108) rfl ?_
      refine T_istore dL_isBasisGood_108 (Nat.le_of_ble_eq_true rfl) ?_
      refine T_iconst dL_isBasisGood_110 (by decide) ?_
      refine T_istore dL_isBasisGood_111 (Nat.le_of_ble_eq_true rfl) ?_
      refine T_iconst dL_isBasisGood_113 (by decide) ?_
      refine T_istore dL_isBasisGood_114 (Nat.le_of_ble_eq_true rfl) ?_
      exact m_L_isBasisGood_116 hP hB hW hc hq hQ _ 0 0 _ _ rfl _ pw_35_2 (by omega) rfl (by omega) 
    · refine T_aload_n dL_isBasisGood_85 rfl ?_
      refine T_iload_n dL_isBasisGood_86 rfl ?_
      refine T_iload_n dL_isBasisGood_87 rfl ?_
      refine T_bipush dL_isBasisGood_88 (by decide) ?_
      refine T_idivN dL_isBasisGood_90 ⟨by omega, by omega⟩ (by omega) ?_
      rw [show (zdec ((pB P c).2.2.1 q)) / 10 = (i9 : Int) from by rw [ez]; omega]
      refine T_iload_n dL_isBasisGood_91 rfl ?_
      refine T_bipush dL_isBasisGood_92 (by decide) ?_
      refine T_iremN dL_isBasisGood_94 ⟨by omega, by omega⟩ (by omega) ?_
      rw [show (zdec ((pB P c).2.2.1 q)) % 10 = (j9 : Int) from by rw [ez]; omega]
      refine T_iconst dL_isBasisGood_95 (by decide) ?_
      refine T_isub dL_isBasisGood_96 ⟨by omega, by omega⟩ ?_
      obtain ⟨j8, hj8⟩ : ∃ i : Nat, (j9 : Int) - 1 = (i : Int) := ⟨j9 - 1, by omega⟩
      rw [hj8]
      have hj7 : j8 < (pB P c).1 i9 := by
        have e8 : j9 - 1 = j8 := by omega
        have e7 := hcor.2.resolve_left (by omega)
        rwa [e8] at e7
      refine T_callS dL_isBasisGood_97 zkm_20_63 ⟨Nat.le_of_ble_eq_true rfl, Nat.le_of_ble_eq_true rfl, rfl⟩ rfl (Nat.le_of_ble_eq_true rfl) ?_
      refine m_L_isStandard  hP hB pw_35_2 (by omega) (by omega) (fun k'97 hh97 k97a k97b pw_97 => ?_) (fun k'97_2 hh97 k97a_2 k97b_2 pw_97_2 => absurd hj7 k97b_2)
      refine T_if_eq dL_isBasisGood_100 (t := 107) rfl (fun hc => absurd hc (by decide)) (fun _ => ?_)
      refine T_iconst dL_isBasisGood_103 (by decide) ?_
      refine T_goto dL_isBasisGood_104 (t := 108) rfl ?_
      refine T_istore dL_isBasisGood_108 (Nat.le_of_ble_eq_true rfl) ?_
      refine T_iconst dL_isBasisGood_110 (by decide) ?_
      refine T_istore dL_isBasisGood_111 (Nat.le_of_ble_eq_true rfl) ?_
      refine T_iconst dL_isBasisGood_113 (by decide) ?_
      refine T_istore dL_isBasisGood_114 (Nat.le_of_ble_eq_true rfl) ?_
      exact m_L_isBasisGood_116 hP hB hW hc hq hQ _ 0 0 _ _ rfl _ pw_97 (by omega) rfl (by omega) 
  · refine T_aload_n dL_isBasisGood_60 rfl ?_
    refine T_iload_n dL_isBasisGood_61 rfl ?_
    refine T_iload_n dL_isBasisGood_62 rfl ?_
    refine T_bipush dL_isBasisGood_63 (by decide) ?_
    refine T_idivN dL_isBasisGood_65 ⟨by omega, by omega⟩ (by omega) ?_
    rw [show (zdec ((pB P c).2.2.1 q)) / 10 = (i9 : Int) from by rw [ez]; omega]
    refine T_iconst dL_isBasisGood_66 (by decide) ?_
    refine T_isub dL_isBasisGood_67 ⟨by omega, by omega⟩ ?_
    obtain ⟨i8, hi8⟩ : ∃ i : Nat, (i9 : Int) - 1 = (i : Int) := ⟨i9 - 1, by omega⟩
    rw [hi8]
    have hi7 : j9 < (pB P c).1 i8 := by
      have e8 : i9 - 1 = i8 := by omega
      have e7 := hcor.1.resolve_left (by omega)
      rwa [e8] at e7
    refine T_iload_n dL_isBasisGood_68 rfl ?_
    refine T_bipush dL_isBasisGood_69 (by decide) ?_
    refine T_iremN dL_isBasisGood_71 ⟨by omega, by omega⟩ (by omega) ?_
    rw [show (zdec ((pB P c).2.2.1 q)) % 10 = (j9 : Int) from by rw [ez]; omega]
    refine T_callS dL_isBasisGood_72 zkm_20_63 ⟨Nat.le_of_ble_eq_true rfl, Nat.le_of_ble_eq_true rfl, rfl⟩ rfl (Nat.le_of_ble_eq_true rfl) ?_
    refine m_L_isStandard  hP hB pw_35_2 (by omega) (by omega) (fun k'72 hh72 k72a k72b pw_72 => ?_) (fun k'72_2 hh72 k72a_2 k72b_2 pw_72_2 => absurd hi7 k72b_2)
    refine T_if_eq dL_isBasisGood_75 (t := 107) rfl (fun hc => absurd hc (by decide)) (fun _ => ?_)
    refine T_iload_n dL_isBasisGood_78 rfl ?_
    refine T_bipush dL_isBasisGood_79 (by decide) ?_
    refine T_iremN dL_isBasisGood_81 ⟨by omega, by omega⟩ (by omega) ?_
    rw [show (zdec ((pB P c).2.2.1 q)) % 10 = (j9 : Int) from by rw [ez]; omega]
    refine T_if_eq dL_isBasisGood_82 (t := 103) rfl (fun c82 => ?_) (fun c82 => ?_)
    · refine T_iconst dL_isBasisGood_103 (by decide) ?_
      refine T_goto dL_isBasisGood_104 (t := 108) rfl ?_
      refine T_istore dL_isBasisGood_108 (Nat.le_of_ble_eq_true rfl) ?_
      refine T_iconst dL_isBasisGood_110 (by decide) ?_
      refine T_istore dL_isBasisGood_111 (Nat.le_of_ble_eq_true rfl) ?_
      refine T_iconst dL_isBasisGood_113 (by decide) ?_
      refine T_istore dL_isBasisGood_114 (Nat.le_of_ble_eq_true rfl) ?_
      exact m_L_isBasisGood_116 hP hB hW hc hq hQ _ 0 0 _ _ rfl _ pw_72 (by omega) rfl (by omega) 
    · refine T_aload_n dL_isBasisGood_85 rfl ?_
      refine T_iload_n dL_isBasisGood_86 rfl ?_
      refine T_iload_n dL_isBasisGood_87 rfl ?_
      refine T_bipush dL_isBasisGood_88 (by decide) ?_
      refine T_idivN dL_isBasisGood_90 ⟨by omega, by omega⟩ (by omega) ?_
      rw [show (zdec ((pB P c).2.2.1 q)) / 10 = (i9 : Int) from by rw [ez]; omega]
      refine T_iload_n dL_isBasisGood_91 rfl ?_
      refine T_bipush dL_isBasisGood_92 (by decide) ?_
      refine T_iremN dL_isBasisGood_94 ⟨by omega, by omega⟩ (by omega) ?_
      rw [show (zdec ((pB P c).2.2.1 q)) % 10 = (j9 : Int) from by rw [ez]; omega]
      refine T_iconst dL_isBasisGood_95 (by decide) ?_
      refine T_isub dL_isBasisGood_96 ⟨by omega, by omega⟩ ?_
      obtain ⟨j8, hj8⟩ : ∃ i : Nat, (j9 : Int) - 1 = (i : Int) := ⟨j9 - 1, by omega⟩
      rw [hj8]
      have hj7 : j8 < (pB P c).1 i9 := by
        have e8 : j9 - 1 = j8 := by omega
        have e7 := hcor.2.resolve_left (by omega)
        rwa [e8] at e7
      refine T_callS dL_isBasisGood_97 zkm_20_63 ⟨Nat.le_of_ble_eq_true rfl, Nat.le_of_ble_eq_true rfl, rfl⟩ rfl (Nat.le_of_ble_eq_true rfl) ?_
      refine m_L_isStandard  hP hB pw_72 (by omega) (by omega) (fun k'97 hh97 k97a k97b pw_97 => ?_) (fun k'97_2 hh97 k97a_2 k97b_2 pw_97_2 => absurd hj7 k97b_2)
      refine T_if_eq dL_isBasisGood_100 (t := 107) rfl (fun hc => absurd hc (by decide)) (fun _ => ?_)
      refine T_iconst dL_isBasisGood_103 (by decide) ?_
      refine T_goto dL_isBasisGood_104 (t := 108) rfl ?_
      refine T_istore dL_isBasisGood_108 (Nat.le_of_ble_eq_true rfl) ?_
      refine T_iconst dL_isBasisGood_110 (by decide) ?_
      refine T_istore dL_isBasisGood_111 (Nat.le_of_ble_eq_true rfl) ?_
      refine T_iconst dL_isBasisGood_113 (by decide) ?_
      refine T_istore dL_isBasisGood_114 (Nat.le_of_ble_eq_true rfl) ?_
      exact m_L_isBasisGood_116 hP hB hW hc hq hQ _ 0 0 _ _ rfl _ pw_97 (by omega) rfl (by omega) 
set_option maxHeartbeats 4000000 in
set_option maxRecDepth 100000 in
theorem m_L_isConeGood_104 {n0 n k : Nat} {g : Nat → zV} {h : zHp} {Q : Option zV → Nat → Nat → zHp → Prop} {B sA len c : Nat} {P : pT} {C f : Nat → Int} (hP : pwf P) (hB : n0 ≤ B) (hW : wAt g h B n P C sA len f) (hc : c < pN P) (hQ : ∀ (C' : Nat → Int) (k' : Nat) (h' : zHp), (k' ≤ k) → (wAt g h' B n P C' sA len f) → Q (some (.inl 1)) n k' h') : ∀ (d : Nat) (q : Nat) (C1 : Nat → Int) (kk1 : Nat), 4 - q = d → ∀ h1 : zHp, (wAt g h1 B n P C1 sA len f) → (q ≤ (pB P c).2.1) → (kk1 ≤ k) → ZT n0 g mL_isConeGood 104 [some (.inr (some B)), some (.inl (c : Int)), some (.inl (((pB P c).2.1) : Int)), some (.inl (P.2.1 : Int)), some (.inl 1), some (.inl (q : Int))] [] n kk1 h1 Q := by
  intro d
  induction d using Nat.strongRecOn with | _ d ih => ?_
  intro q C1 kk1 hd0 h1 hW1 hq hk
  subst hd0
  have hA := pB_all hP c
  have hsum := pB_sum hP c
  have hone := pB_one hP c
  have hf4 := pB_facts hP c
  refine T_iload dL_isConeGood_104 rfl ?_
  refine T_iload_n dL_isConeGood_106 rfl ?_
  refine T_icmp_ge dL_isConeGood_107 (t := 168) rfl (fun c107 => ?_) (fun c107 => ?_)
  · refine T_iload dL_isConeGood_168 rfl ?_
    refine T_iret dL_isConeGood_170 rfl ?_
    exact hQ C1 kk1 h1 hk hW1
  · refine T_iload dL_isConeGood_110 rfl ?_
    refine T_if_eq dL_isConeGood_112 (t := 159) rfl (fun hc => absurd hc (by decide)) (fun _ => ?_)
    refine T_aload_n dL_isConeGood_115 rfl ?_
    refine T_iload_n dL_isConeGood_116 rfl ?_
    refine T_iload dL_isConeGood_117 rfl ?_
    refine T_callS dL_isConeGood_119 zkm_20_79 ⟨Nat.le_of_ble_eq_true rfl, Nat.le_of_ble_eq_true rfl, rfl⟩ rfl (Nat.le_of_ble_eq_true rfl) ?_
    refine m_L_isBasisGood  hP hB hW1 (by omega) (by omega) (fun k'119 hh119 k119a pw_119 => ?_)
    refine T_if_eq dL_isConeGood_122 (t := 159) rfl (fun hc => absurd hc (by decide)) (fun _ => ?_)
    refine T_iload dL_isConeGood_125 rfl ?_
    refine T_if_eq dL_isConeGood_127 (t := 155) rfl (fun c127 => ?_) (fun c127 => ?_)
    · refine T_iconst dL_isConeGood_155 (by decide) ?_
      refine T_goto dL_isConeGood_156 (t := 160) rfl ?_
      refine T_istore dL_isConeGood_160 (Nat.le_of_ble_eq_true rfl) ?_
      refine T_iinc dL_isConeGood_162 rfl ⟨by omega, by omega⟩ ?_
      refine T_goto dL_isConeGood_165 (t := 104) rfl ?_
      exact ih _ (by omega) (q + 1) _ _ rfl _ pw_119 (by omega) (by omega) 
    · refine T_aload_n dL_isConeGood_130 rfl ?_
      refine T_iload_n dL_isConeGood_131 rfl ?_
      refine T_iload dL_isConeGood_132 rfl ?_
      refine T_callV dL_isConeGood_134 zkm_20_56 (Or.inl rfl) rfl (wAt.ob pw_119) ⟨Nat.le_of_ble_eq_true rfl, rfl⟩ rfl (Nat.le_of_ble_eq_true rfl) ?_
      refine w_X9_basisCorner  hP hB pw_119 (by omega) (by omega) (fun k'134 hh134 k134a pw_134 => ?_)
      rw [zdec_eq]
      have h81 := (hA.2 q (by omega)).1
      refine T_bipush dL_isConeGood_137 (by decide) ?_
      refine T_idivN dL_isConeGood_139 ⟨by omega, by omega⟩ (by omega) ?_
      refine T_aload_n dL_isConeGood_140 rfl ?_
      refine T_iload_n dL_isConeGood_141 rfl ?_
      refine T_iload dL_isConeGood_142 rfl ?_
      refine T_iconst dL_isConeGood_144 (by decide) ?_
      refine T_isub dL_isConeGood_145 ⟨by omega, by omega⟩ ?_
      obtain ⟨q8, hq8⟩ : ∃ q8 : Nat, (q : Int) - 1 = (q8 : Int) := ⟨q - 1, by omega⟩
      rw [hq8]
      have hxx := pB_x hP (i := c) (a := q8) (d := q) (by omega) (by omega)
      have h82 := (hA.2 q8 (by omega)).1
      refine T_callV dL_isConeGood_146 zkm_20_56 (Or.inl rfl) rfl (wAt.ob pw_134) ⟨Nat.le_of_ble_eq_true rfl, rfl⟩ rfl (Nat.le_of_ble_eq_true rfl) ?_
      refine w_X9_basisCorner  hP hB pw_134 (by omega) (by omega) (fun k'146 hh146 k146a pw_146 => ?_)
      rw [zdec_eq]
      refine T_bipush dL_isConeGood_149 (by decide) ?_
      refine T_idivN dL_isConeGood_151 ⟨by omega, by omega⟩ (by omega) ?_
      refine T_icmp_le dL_isConeGood_152 (t := 159) rfl (fun hc => absurd hc (by omega)) (fun _ => ?_)
      refine T_iconst dL_isConeGood_155 (by decide) ?_
      refine T_goto dL_isConeGood_156 (t := 160) rfl ?_
      refine T_istore dL_isConeGood_160 (Nat.le_of_ble_eq_true rfl) ?_
      refine T_iinc dL_isConeGood_162 rfl ⟨by omega, by omega⟩ ?_
      refine T_goto dL_isConeGood_165 (t := 104) rfl ?_
      exact ih _ (by omega) (q + 1) _ _ rfl _ pw_146 (by omega) (by omega) 
set_option maxHeartbeats 4000000 in
set_option maxRecDepth 100000 in
theorem m_L_isConeGood_11 {n0 n k : Nat} {g : Nat → zV} {h : zHp} {Q : Option zV → Nat → Nat → zHp → Prop} {B sA len c : Nat} {P : pT} {C f : Nat → Int} (hP : pwf P) (hB : n0 ≤ B) (hW : wAt g h B n P C sA len f) (hc : c < pN P) (hQ : ∀ (C' : Nat → Int) (k' : Nat) (h' : zHp), (k' ≤ k) → (wAt g h' B n P C' sA len f) → Q (some (.inl 1)) n k' h') : ∀ (d : Nat) (t : Nat) (i : Nat) (kk1 : Nat) (L5 : Option zV), 9 - i = d → ∀ h1 : zHp, (wAt g h1 B n P C sA len f) → (i ≤ 9) → (t = zHs (pB P c).1 i ∧ t ≤ 8 * i) → (kk1 ≤ k) → ZT n0 g mL_isConeGood 11 [some (.inr (some B)), some (.inl (c : Int)), some (.inl (((pB P c).2.1) : Int)), some (.inl (t : Int)), some (.inl (i : Int)), L5] [] n kk1 h1 Q := by
  intro d
  induction d using Nat.strongRecOn with | _ d ih => ?_
  intro t i kk1 L5 hd0 h1 hW1 hi ht hk
  subst hd0
  have hA := pB_all hP c
  have hsum := pB_sum hP c
  have hone := pB_one hP c
  have hf4 := pB_facts hP c
  refine T_iload dL_isConeGood_11 rfl ?_
  refine T_bipush dL_isConeGood_13 (by decide) ?_
  refine T_icmp_ge dL_isConeGood_15 (t := 60) rfl (fun c15 => ?_) (fun c15 => ?_)
  · have ei : i = 9 := by omega
    subst ei
    have et : t = P.2.1 := by rw [ht.1]; exact hsum
    subst et
    refine T_iload_n dL_isConeGood_60 rfl ?_
    refine T_iconst dL_isConeGood_61 (by decide) ?_
    refine T_icmp_lt dL_isConeGood_62 (t := 98) rfl (fun hc => absurd hc (by omega)) (fun _ => ?_)
    refine T_iload_n dL_isConeGood_65 rfl ?_
    refine T_aload_n dL_isConeGood_66 rfl ?_
    refine T_callV dL_isConeGood_67 zkm_20_39 (Or.inl rfl) rfl (wAt.ob hW1) ⟨Nat.le_of_ble_eq_true rfl, rfl⟩ rfl (Nat.le_of_ble_eq_true rfl) ?_
    refine w_X9_pointCount  hP hB hW1 (fun k'67 hh67 k67a pw_67 => ?_)
    refine T_icmp_ne dL_isConeGood_70 (t := 98) rfl (fun hc => absurd hc (by omega)) (fun _ => ?_)
    refine T_aload_n dL_isConeGood_73 rfl ?_
    refine T_iload_n dL_isConeGood_74 rfl ?_
    refine T_iload_n dL_isConeGood_75 rfl ?_
    refine T_callV dL_isConeGood_76 zkm_20_56 (Or.inl rfl) rfl (wAt.ob pw_67) ⟨Nat.le_of_ble_eq_true rfl, rfl⟩ rfl (Nat.le_of_ble_eq_true rfl) ?_
    refine x_X9_basisCorner  hP hB pw_67 (fun k'76 hh76 k76a pw_76 => ?_)
    rw [show s_bc P (c : Int) ((pB P c).2.1 : Int) = -1 from if_neg (fun z => by rw [sBas, Int.toNat_natCast] at z; omega)]
    refine T_iconst dL_isConeGood_79 (by decide) ?_
    refine T_icmp_ne dL_isConeGood_80 (t := 98) rfl (fun hc => absurd hc (by decide)) (fun _ => ?_)
    refine T_aload_n dL_isConeGood_83 rfl ?_
    refine T_iload_n dL_isConeGood_84 rfl ?_
    refine T_bipush dL_isConeGood_85 (by decide) ?_
    refine T_callV dL_isConeGood_87 zkm_20_53 (Or.inl rfl) rfl (wAt.ob pw_76) ⟨Nat.le_of_ble_eq_true rfl, rfl⟩ rfl (Nat.le_of_ble_eq_true rfl) ?_
    refine x_X9_coneHeight  hP hB pw_76 (fun k'87 hh87 k87a pw_87 => ?_)
    rw [show s_ht P (c : Int) 9 = -1 from if_neg (fun z => by omega)]
    refine T_iconst dL_isConeGood_90 (by decide) ?_
    refine T_icmp_ne dL_isConeGood_91 (t := 98) rfl (fun hc => absurd hc (by decide)) (fun _ => ?_)
    refine T_iconst dL_isConeGood_94 (by decide) ?_
    refine T_goto dL_isConeGood_95 (t := 99) rfl ?_
    refine T_istore dL_isConeGood_99 (Nat.le_of_ble_eq_true rfl) ?_
    refine T_iconst dL_isConeGood_101 (by decide) ?_
    refine T_istore dL_isConeGood_102 (Nat.le_of_ble_eq_true rfl) ?_
    exact m_L_isConeGood_104 hP hB hW hc hQ _ 0 _ _ rfl _ pw_87 (by omega) (by omega) 
  · refine T_iload_n dL_isConeGood_18 rfl ?_
    refine T_aload_n dL_isConeGood_19 rfl ?_
    refine T_iload_n dL_isConeGood_20 rfl ?_
    refine T_iload dL_isConeGood_21 rfl ?_
    refine T_callV dL_isConeGood_23 zkm_20_53 (Or.inl rfl) rfl (wAt.ob hW1) ⟨Nat.le_of_ble_eq_true rfl, rfl⟩ rfl (Nat.le_of_ble_eq_true rfl) ?_
    refine w_X9_coneHeight  hP hB hW1 (by omega) (by omega) (fun k'23 hh23 k23a pw_23 => ?_)
    have hb8 := hf4.2.1 i (by omega)
    refine T_iadd dL_isConeGood_26 ⟨by omega, by omega⟩ ?_
    refine T_istore_n dL_isConeGood_27 (Nat.le_of_ble_eq_true rfl) ?_
    refine T_iload dL_isConeGood_28 rfl ?_
    refine T_if_le dL_isConeGood_30 (t := 54) rfl (fun c30 => ?_) (fun c30 => ?_)
    · refine T_iinc dL_isConeGood_54 rfl ⟨by omega, by omega⟩ ?_
      refine T_goto dL_isConeGood_57 (t := 11) rfl ?_
      exact ih _ (by omega) (t + ((pB P c).1 i)) (i + 1) _ _ rfl _ pw_23 (by omega) ⟨by rw [ht.1]; rfl, by have := hf4.2.1 i (by omega); omega⟩ (by omega) 
    · refine T_aload_n dL_isConeGood_33 rfl ?_
      refine T_iload_n dL_isConeGood_34 rfl ?_
      refine T_iload dL_isConeGood_35 rfl ?_
      refine T_callV dL_isConeGood_37 zkm_20_53 (Or.inl rfl) rfl (wAt.ob pw_23) ⟨Nat.le_of_ble_eq_true rfl, rfl⟩ rfl (Nat.le_of_ble_eq_true rfl) ?_
      refine w_X9_coneHeight  hP hB pw_23 (by omega) (by omega) (fun k'37 hh37 k37a pw_37 => ?_)
      refine T_aload_n dL_isConeGood_40 rfl ?_
      refine T_iload_n dL_isConeGood_41 rfl ?_
      refine T_iload dL_isConeGood_42 rfl ?_
      obtain ⟨i8, hi8⟩ : ∃ i8 : Nat, (i : Int) - 1 = (i8 : Int) := ⟨i - 1, by omega⟩
      refine T_iconst dL_isConeGood_44 (by decide) ?_
      refine T_isub dL_isConeGood_45 ⟨by omega, by omega⟩ ?_
      rw [hi8]
      refine T_callV dL_isConeGood_46 zkm_20_53 (Or.inl rfl) rfl (wAt.ob pw_37) ⟨Nat.le_of_ble_eq_true rfl, rfl⟩ rfl (Nat.le_of_ble_eq_true rfl) ?_
      refine w_X9_coneHeight  hP hB pw_37 (by omega) (by omega) (fun k'46 hh46 k46a pw_46 => ?_)
      have hmono := hA.1 i8 i (by omega) (by omega)
      refine T_icmp_le dL_isConeGood_49 (t := 54) rfl (fun _ => ?_) (fun hc => absurd hc (by omega))
      refine T_iinc dL_isConeGood_54 rfl ⟨by omega, by omega⟩ ?_
      refine T_goto dL_isConeGood_57 (t := 11) rfl ?_
      exact ih _ (by omega) (t + ((pB P c).1 i)) (i + 1) _ _ rfl _ pw_46 (by omega) ⟨by rw [ht.1]; rfl, by have := hf4.2.1 i (by omega); omega⟩ (by omega) 
set_option maxHeartbeats 4000000 in
set_option maxRecDepth 100000 in
theorem m_L_isConeGood {n0 n k : Nat} {g : Nat → zV} {h : zHp} {Q : Option zV → Nat → Nat → zHp → Prop} {B sA len c : Nat} {P : pT} {C f : Nat → Int} (hP : pwf P) (hB : n0 ≤ B) (hW : wAt g h B n P C sA len f) (hc : c < pN P) (hQ : ∀ (C' : Nat → Int) (k' : Nat) (h' : zHp), (k' ≤ k) → (wAt g h' B n P C' sA len f) → Q (some (.inl 1)) n k' h') : ZT n0 g mL_isConeGood 0 (zloc mL_isConeGood [.inr (some B), .inl (c : Int)]) [] n k h Q := by
  show ZT n0 g mL_isConeGood 0 [some (.inr (some B)), some (.inl (c : Int)), none, none, none, none] [] n k h Q
  have hA := pB_all hP c
  have hsum := pB_sum hP c
  have hone := pB_one hP c
  have hf4 := pB_facts hP c
  refine T_aload_n dL_isConeGood_0 rfl ?_
  refine T_iload_n dL_isConeGood_1 rfl ?_
  refine T_callV dL_isConeGood_2 zkm_20_76 (Or.inl rfl) rfl (wAt.ob hW) ⟨Nat.le_of_ble_eq_true rfl, rfl⟩ rfl (Nat.le_of_ble_eq_true rfl) ?_
  refine w_X9_basisSize  hP hB hW (by omega) (fun k'2 hh2 k2a k2b pw_2 => ?_)
  refine T_istore_n dL_isConeGood_5 (Nat.le_of_ble_eq_true rfl) ?_
  refine T_iconst dL_isConeGood_6 (by decide) ?_
  refine T_istore_n dL_isConeGood_7 (Nat.le_of_ble_eq_true rfl) ?_
  refine T_iconst dL_isConeGood_8 (by decide) ?_
  refine T_istore dL_isConeGood_9 (Nat.le_of_ble_eq_true rfl) ?_
  exact m_L_isConeGood_11 hP hB hW hc hQ _ 0 0 _ _ rfl _ pw_2 (by omega) ⟨rfl, by omega⟩ (by omega) 
