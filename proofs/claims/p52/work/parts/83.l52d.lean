/-! ===== p52: the law: printed by wip/p52/gen/l52d.py ===== -/
set_option maxHeartbeats 4000000 in
set_option maxRecDepth 100000 in
theorem m_L_law_127 {n0 k : Nat} {g : Nat → zV} {h : zHp} {Q : Option zV → Nat → Nat → zHp → Prop} {B sA len : Nat} {f : Nat → Int} (hB : n0 ≤ B) (hs1 : sA < B) (hs2 : h sA = some (.inr (.inl (0, len, f)))) (hpr : prOk g h B) (hg0 : g 0 = .inl 1) (hQ : ∀ (k' : Nat) (h' : zHp), (k' ≤ k + 4000) → Q (some (.inl 1)) (B + 396) k' h') : ∀ (d : Nat) (P : pT) (C : Nat → Int) (r : Nat) (i : Nat) (kk1 : Nat) (L6 : Option zV), (3 - r) * 100 + (pN P - i) = d → ∀ h1 : zHp, (wAt g h1 B (B + 396) P C sA len f) → (pwf P) → (r < 3) → (i ≤ pN P) → (kk1 ≤ k + 4000) → ZT n0 g mL_law 127 [some (.inr (some sA)), some (.inr (some B)), some (.inl (r : Int)), some (.inl ((10 + (60 * r)) : Int)), some (.inl ((pN P) : Int)), some (.inl (i : Int)), L6] [] (B + 396) kk1 h1 Q := by
  intro d
  induction d using Nat.strongRecOn with | _ d ih => ?_
  intro P C r i kk1 L6 hd0 h1 hW1 hP hr hi hk
  subst hd0
  have hN23 := (pN_is hP).2.1
  have hN1 := (pN_is hP).1
  refine T_iload dL_law_127 rfl ?_
  refine T_iload dL_law_129 rfl ?_
  refine T_icmp_ge dL_law_131 (t := 202) rfl (fun c131 => ?_) (fun c131 => ?_)
  · refine T_aload_n dL_law_202 rfl ?_
    refine T_callS dL_law_203 zkm_20_133 ⟨Nat.le_of_ble_eq_true rfl, Nat.le_of_ble_eq_true rfl, rfl⟩ rfl (Nat.le_of_ble_eq_true rfl) ?_
    refine m_L_isUniversal  hP hB hW1 (fun k'203 hh203 k203a pw_203 => ?_)
    refine T_if_eq dL_law_206 (t := 283) rfl (fun hc => absurd hc (by decide)) (fun _ => ?_)
    refine T_aload_n dL_law_209 rfl ?_
    refine T_iconst dL_law_210 (by decide) ?_
    refine T_aload_n dL_law_211 rfl ?_
    refine T_iload_n dL_law_212 rfl ?_
    refine T_bipush dL_law_213 (by decide) ?_
    refine T_iadd dL_law_215 ⟨by omega, by omega⟩ ?_
    refine T_bipush dL_law_216 (by decide) ?_
    refine T_callS dL_law_218 zkm_20_15 ⟨Nat.le_of_ble_eq_true rfl, Nat.le_of_ble_eq_true rfl, rfl⟩ rfl (Nat.le_of_ble_eq_true rfl) ?_
    refine m_L_pick (i := ((10 + (60 * r)) + 30)) (wAt.sc pw_203) (by omega) (by omega) (fun z218 k218a => ?_)
    refine T_iadd dL_law_221 ⟨by omega, by omega⟩ ?_
    refine T_aload_n dL_law_222 rfl ?_
    refine T_iload_n dL_law_223 rfl ?_
    refine T_bipush dL_law_224 (by decide) ?_
    refine T_iadd dL_law_226 ⟨by omega, by omega⟩ ?_
    refine T_bipush dL_law_227 (by decide) ?_
    refine T_callS dL_law_229 zkm_20_15 ⟨Nat.le_of_ble_eq_true rfl, Nat.le_of_ble_eq_true rfl, rfl⟩ rfl (Nat.le_of_ble_eq_true rfl) ?_
    refine m_L_pick (i := ((10 + (60 * r)) + 31)) (wAt.sc pw_203) (by omega) (by omega) (fun z229 k229a => ?_)
    refine T_callS dL_law_232 zkm_20_137 ⟨Nat.le_of_ble_eq_true rfl, Nat.le_of_ble_eq_true rfl, rfl⟩ rfl (Nat.le_of_ble_eq_true rfl) ?_
    refine m_L_isContained  hP hB pw_203 ⟨⟨by omega, by omega, by omega, by omega⟩, Or.inl (by omega)⟩ (fun k'232 hh232 k232a pw_232 => ?_)
    refine T_if_eq dL_law_235 (t := 283) rfl (fun hc => absurd hc (by decide)) (fun _ => ?_)
    refine T_aload_n dL_law_238 rfl ?_
    refine T_aload_n dL_law_239 rfl ?_
    refine T_iload_n dL_law_240 rfl ?_
    refine T_bipush dL_law_241 (by decide) ?_
    refine T_iadd dL_law_243 ⟨by omega, by omega⟩ ?_
    refine T_iconst dL_law_244 (by decide) ?_
    refine T_callS dL_law_245 zkm_20_15 ⟨Nat.le_of_ble_eq_true rfl, Nat.le_of_ble_eq_true rfl, rfl⟩ rfl (Nat.le_of_ble_eq_true rfl) ?_
    refine m_L_pick (i := ((10 + (60 * r)) + 32)) (wAt.sc pw_232) (by omega) (by omega) (fun z245 k245a => ?_)
    refine T_iconst dL_law_248 (by decide) ?_
    refine T_aload_n dL_law_249 rfl ?_
    refine T_iload_n dL_law_250 rfl ?_
    refine T_bipush dL_law_251 (by decide) ?_
    refine T_iadd dL_law_253 ⟨by omega, by omega⟩ ?_
    refine T_iconst dL_law_254 (by decide) ?_
    refine T_callS dL_law_255 zkm_20_15 ⟨Nat.le_of_ble_eq_true rfl, Nat.le_of_ble_eq_true rfl, rfl⟩ rfl (Nat.le_of_ble_eq_true rfl) ?_
    refine m_L_pick (i := ((10 + (60 * r)) + 33)) (wAt.sc pw_232) (by omega) (by omega) (fun z255 k255a => ?_)
    refine T_iadd dL_law_258 ⟨by omega, by omega⟩ ?_
    refine T_callS dL_law_259 zkm_20_137 ⟨Nat.le_of_ble_eq_true rfl, Nat.le_of_ble_eq_true rfl, rfl⟩ rfl (Nat.le_of_ble_eq_true rfl) ?_
    refine m_L_isContained  hP hB pw_232 ⟨⟨by omega, by omega, by omega, by omega⟩, Or.inr (by omega)⟩ (fun k'259 hh259 k259a pw_259 => ?_)
    refine T_if_eq dL_law_262 (t := 283) rfl (fun hc => absurd hc (by decide)) (fun _ => ?_)
    refine T_aload_n dL_law_265 rfl ?_
    refine T_iconst dL_law_266 (by decide) ?_
    refine T_iconst dL_law_267 (by decide) ?_
    refine T_callS dL_law_268 zkm_20_137 ⟨Nat.le_of_ble_eq_true rfl, Nat.le_of_ble_eq_true rfl, rfl⟩ rfl (Nat.le_of_ble_eq_true rfl) ?_
    refine m_L_isContained  hP hB pw_259 (by decide) (fun k'268 hh268 k268a pw_268 => ?_)
    refine T_if_eq dL_law_271 (t := 283) rfl (fun hc => absurd hc (by decide)) (fun _ => ?_)
    refine T_aload_n dL_law_274 rfl ?_
    refine T_iconst dL_law_275 (by decide) ?_
    refine T_iconst dL_law_276 (by decide) ?_
    refine T_callS dL_law_277 zkm_20_137 ⟨Nat.le_of_ble_eq_true rfl, Nat.le_of_ble_eq_true rfl, rfl⟩ rfl (Nat.le_of_ble_eq_true rfl) ?_
    refine m_L_isContained  hP hB pw_268 (by decide) (fun k'277 hh277 k277a pw_277 => ?_)
    refine T_if_ne dL_law_280 (t := 285) rfl (fun _ => ?_) (fun hc => absurd hc (by decide))
    refine T_iinc dL_law_285 rfl ⟨by omega, by omega⟩ ?_
    refine T_goto dL_law_288 (t := 99) rfl ?_
    refine T_iload_n dL_law_99 rfl ?_
    refine T_iconst dL_law_100 (by decide) ?_
    refine T_icmp_ge dL_law_101 (t := 291) rfl (fun c101 => ?_) (fun c101 => ?_)
    · refine T_iconst dL_law_291 (by decide) ?_
      refine T_iret dL_law_292 rfl ?_
      exact hQ _ _ (by omega)
    · refine T_bipush dL_law_104 (by decide) ?_
      refine T_bipush dL_law_106 (by decide) ?_
      refine T_iload_n dL_law_108 rfl ?_
      refine T_imul dL_law_109 ⟨by omega, by omega⟩ ?_
      refine T_iadd dL_law_110 ⟨by omega, by omega⟩ ?_
      refine T_istore_n dL_law_111 (Nat.le_of_ble_eq_true rfl) ?_
      refine T_aload_n dL_law_112 rfl ?_
      refine T_aload_n dL_law_113 rfl ?_
      refine T_iload_n dL_law_114 rfl ?_
      refine T_callS dL_law_115 zkm_20_122 ⟨Nat.le_of_ble_eq_true rfl, Nat.le_of_ble_eq_true rfl, rfl⟩ rfl (Nat.le_of_ble_eq_true rfl) ?_
      refine m_L_addPoints (a0 := (10 + (60 * (r + 1))))  hP hB pw_277 (by omega) (fun P'115 k'115 hh115 k115a k115b pw_115 => ?_)
      have hN24 := (pN_is k115b).2.1
      have hN2 := (pN_is k115b).1
      refine T_aload_n dL_law_118 rfl ?_
      refine T_callV dL_law_119 zkm_20_107 (Or.inl rfl) rfl (wAt.ob pw_115) ⟨Nat.le_of_ble_eq_true rfl, rfl⟩ rfl (Nat.le_of_ble_eq_true rfl) ?_
      refine w_X9_coneCount  k115b hB pw_115 (fun k'119 hh119 k119a pw_119 => ?_)
      refine T_istore dL_law_122 (Nat.le_of_ble_eq_true rfl) ?_
      refine T_iconst dL_law_124 (by decide) ?_
      refine T_istore dL_law_125 (Nat.le_of_ble_eq_true rfl) ?_
      exact ih _ (by omega) P'115 _ (r + 1) 0 _ _ rfl _ pw_119 k115b (by omega) (by omega) (by omega) 
  · refine T_iload dL_law_134 rfl ?_
    refine T_iload dL_law_136 rfl ?_
    refine T_iconst dL_law_138 (by decide) ?_
    refine T_isub dL_law_139 ⟨by omega, by omega⟩ ?_
    refine T_icmp_ne dL_law_140 (t := 147) rfl (fun c140 => ?_) (fun c140 => ?_)
    · refine T_iconst dL_law_147 (by decide) ?_
      refine T_istore dL_law_148 (Nat.le_of_ble_eq_true rfl) ?_
      refine T_aload_n dL_law_150 rfl ?_
      refine T_iload dL_law_151 rfl ?_
      refine T_callS dL_law_153 zkm_20_126 ⟨Nat.le_of_ble_eq_true rfl, Nat.le_of_ble_eq_true rfl, rfl⟩ rfl (Nat.le_of_ble_eq_true rfl) ?_
      refine m_L_isConeGood  hP hB hW1 (by omega) (fun C'153 k'153 hh153 k153a pw_153 => ?_)
      refine T_if_eq dL_law_156 (t := 194) rfl (fun hc => absurd hc (by decide)) (fun _ => ?_)
      refine T_iload dL_law_159 rfl ?_
      refine T_aload_n dL_law_161 rfl ?_
      refine T_iload dL_law_162 rfl ?_
      have hsw1 : i + 1 < pN P → 1 ≤ s_w P Prod.fst (i : Int) := fun e => by rw [s_w_eq hP e]; have := (pW_pos hP e).2.1; omega
      have hsw2 : i + 1 = pN P → s_w P Prod.fst (i : Int) = -5 := fun e => by
        unfold s_w
        rw [if_pos (by omega), Int.toNat_natCast]
        exact if_pos ((pW_last hP (by omega)).mpr e)
      refine T_callV dL_law_164 zkm_20_86 (Or.inl rfl) rfl (wAt.ob pw_153) ⟨Nat.le_of_ble_eq_true rfl, rfl⟩ rfl (Nat.le_of_ble_eq_true rfl) ?_
      refine x_X9_wallNumerator  hP hB pw_153 (fun k'164 hh164 k164a pw_164 => ?_)
      refine T_bipush dL_law_167 (by decide) ?_
      refine T_icmp_ne dL_law_169 (t := 176) rfl (fun _ => ?_) (fun hc => absurd hc (by omega))
      refine T_iconst dL_law_176 (by decide) ?_
      refine T_icmp_ne dL_law_177 (t := 194) rfl (fun hc => absurd hc (by decide)) (fun _ => ?_)
      refine T_iload dL_law_180 rfl ?_
      refine T_if_ne dL_law_182 (t := 196) rfl (fun hc => absurd hc (by decide)) (fun _ => ?_)
      refine T_aload_n dL_law_185 rfl ?_
      refine T_iload dL_law_186 rfl ?_
      refine T_callS dL_law_188 zkm_20_130 ⟨Nat.le_of_ble_eq_true rfl, Nat.le_of_ble_eq_true rfl, rfl⟩ rfl (Nat.le_of_ble_eq_true rfl) ?_
      refine m_L_isWallGood  hP hB pw_164 (by omega) (fun k'188 hh188 k188a pw_188 => ?_)
      refine T_if_ne dL_law_191 (t := 196) rfl (fun _ => ?_) (fun hc => absurd hc (by decide))
      refine T_iinc dL_law_196 rfl ⟨by omega, by omega⟩ ?_
      refine T_goto dL_law_199 (t := 127) rfl ?_
      exact ih _ (by omega) P _ r (i + 1) _ _ rfl _ pw_188 hP (by omega) (by omega) (by omega) 
    · refine T_iconst dL_law_143 (by decide) ?_
      refine T_goto dL_law_144 (t := 148) rfl ?_
      refine T_istore dL_law_148 (Nat.le_of_ble_eq_true rfl) ?_
      refine T_aload_n dL_law_150 rfl ?_
      refine T_iload dL_law_151 rfl ?_
      refine T_callS dL_law_153 zkm_20_126 ⟨Nat.le_of_ble_eq_true rfl, Nat.le_of_ble_eq_true rfl, rfl⟩ rfl (Nat.le_of_ble_eq_true rfl) ?_
      refine m_L_isConeGood  hP hB hW1 (by omega) (fun C'153 k'153 hh153 k153a pw_153 => ?_)
      refine T_if_eq dL_law_156 (t := 194) rfl (fun hc => absurd hc (by decide)) (fun _ => ?_)
      refine T_iload dL_law_159 rfl ?_
      refine T_aload_n dL_law_161 rfl ?_
      refine T_iload dL_law_162 rfl ?_
      have hsw1 : i + 1 < pN P → 1 ≤ s_w P Prod.fst (i : Int) := fun e => by rw [s_w_eq hP e]; have := (pW_pos hP e).2.1; omega
      have hsw2 : i + 1 = pN P → s_w P Prod.fst (i : Int) = -5 := fun e => by
        unfold s_w
        rw [if_pos (by omega), Int.toNat_natCast]
        exact if_pos ((pW_last hP (by omega)).mpr e)
      refine T_callV dL_law_164 zkm_20_86 (Or.inl rfl) rfl (wAt.ob pw_153) ⟨Nat.le_of_ble_eq_true rfl, rfl⟩ rfl (Nat.le_of_ble_eq_true rfl) ?_
      refine x_X9_wallNumerator  hP hB pw_153 (fun k'164 hh164 k164a pw_164 => ?_)
      refine T_bipush dL_law_167 (by decide) ?_
      refine T_icmp_ne dL_law_169 (t := 176) rfl (fun hc => absurd hc (by omega)) (fun _ => ?_)
      refine T_iconst dL_law_172 (by decide) ?_
      refine T_goto dL_law_173 (t := 177) rfl ?_
      refine T_icmp_ne dL_law_177 (t := 194) rfl (fun hc => absurd hc (by decide)) (fun _ => ?_)
      refine T_iload dL_law_180 rfl ?_
      refine T_if_ne dL_law_182 (t := 196) rfl (fun _ => ?_) (fun hc => absurd hc (by decide))
      refine T_iinc dL_law_196 rfl ⟨by omega, by omega⟩ ?_
      refine T_goto dL_law_199 (t := 127) rfl ?_
      exact ih _ (by omega) P _ r (i + 1) _ _ rfl _ pw_164 hP (by omega) (by omega) (by omega) 
set_option maxHeartbeats 4000000 in
set_option maxRecDepth 100000 in
theorem m_L_law {n0 k : Nat} {g : Nat → zV} {h : zHp} {Q : Option zV → Nat → Nat → zHp → Prop} {B sA len : Nat} {f : Nat → Int} (hB : n0 ≤ B) (hs1 : sA < B) (hs2 : h sA = some (.inr (.inl (0, len, f)))) (hpr : prOk g h B) (hg0 : g 0 = .inl 1) (hQ : ∀ (k' : Nat) (h' : zHp), (k' ≤ k + 4000) → Q (some (.inl 1)) (B + 396) k' h') : ZT n0 g mL_law 0 (zloc mL_law [.inr (some sA)]) [] B k h Q := by
  show ZT n0 g mL_law 0 [some (.inr (some sA)), none, none, none, none, none, none] [] B k h Q
  refine T_new (sz := 12) (fs := [.inr none, .inr none, .inr none, .inr none, .inl 0, .inr none, .inr none, .inr none, .inr none, .inr none, .inr none, .inr none]) dL_law_0 zkk_20_24 (Nat.le_of_ble_eq_true rfl) rfl rfl ?_
  refine T_dup dL_law_3 ?_
  refine T_callI dL_law_4 zkm_20_121 (Or.inl rfl) rfl ⟨Nat.le_of_ble_eq_true rfl, rfl⟩ rfl (Nat.le_of_ble_eq_true rfl) ?_
  refine m_X9_init zup_self (by omega) hg0 (fun hh4 pc_4 pf_4 => ?_)
  have hW0 : wAt g hh4 B (B + 396) pZero (fun _ => 0) sA len f := ⟨⟨22, fun i => B + 50 + 2 + 15 * i, pc_4 (B + 396) (B + 396) (Nat.le_refl _) (Nat.le_refl _)⟩, wf_zero, hpr.frame (fun q hq => ((pf_4 q (by omega)).trans (zup_nf (by omega)))), hs1, ((pf_4 _ (by omega)).trans (zup_nf (by omega))).trans hs2⟩
  obtain ⟨eN, eS, eC, eW⟩ := pE wf_zero rfl
  have ez0 : zdec ((pB pZero 0).2.2.1 0) = 0 := by rw [eC]; rfl
  have eo : (pB pZero 0).2.2.2 0 (9 * 0 + 0) = 1 := by
    have z := ((pB_all wf_zero 0).2 0 (by omega)).2.1
    rw [eC] at z
    exact z
  have ew1 : s_w pZero Prod.fst 0 = -5 := by
    unfold s_w
    rw [if_pos (by omega)]
    exact if_pos eW
  have ew2 : s_w pZero Prod.snd 1 = -1 := if_neg (by omega)
  have ec1 : s_chg pZero 0 = -5 := by
    unfold s_chg
    rw [if_pos (by omega)]
    exact if_pos eW
  have em1 : s_mn pZero 0 0 = -2 := if_neg (by decide)
  refine T_astore_n dL_law_7 (Nat.le_of_ble_eq_true rfl) ?_
  refine T_aload_n dL_law_8 rfl ?_
  refine T_callV dL_law_9 zkm_20_28 (Or.inl rfl) rfl (wAt.ob hW0) ⟨Nat.le_of_ble_eq_true rfl, rfl⟩ rfl (Nat.le_of_ble_eq_true rfl) ?_
  refine w_X9_prime  wf_zero hB hW0 (fun k'9 hh9 k9a pw_9 => ?_)
  refine T_bipush dL_law_12 (by decide) ?_
  refine T_icmp_ne dL_law_14 (t := 95) rfl (fun hc => absurd hc (by decide)) (fun _ => ?_)
  refine T_aload_n dL_law_17 rfl ?_
  refine T_callV dL_law_18 zkm_20_107 (Or.inl rfl) rfl (wAt.ob pw_9) ⟨Nat.le_of_ble_eq_true rfl, rfl⟩ rfl (Nat.le_of_ble_eq_true rfl) ?_
  refine w_X9_coneCount  wf_zero hB pw_9 (fun k'18 hh18 k18a pw_18 => ?_)
  refine T_iconst dL_law_21 (by decide) ?_
  refine T_icmp_ne dL_law_22 (t := 95) rfl (fun hc => absurd hc (by omega)) (fun _ => ?_)
  refine T_aload_n dL_law_25 rfl ?_
  refine T_iconst dL_law_26 (by decide) ?_
  refine T_callV dL_law_27 zkm_20_76 (Or.inl rfl) rfl (wAt.ob pw_18) ⟨Nat.le_of_ble_eq_true rfl, rfl⟩ rfl (Nat.le_of_ble_eq_true rfl) ?_
  refine w_X9_basisSize (c := 0)  wf_zero hB pw_18 (by omega) (fun k'27 hh27 k27a k27b pw_27 => ?_)
  refine T_iconst dL_law_30 (by decide) ?_
  refine T_icmp_ne dL_law_31 (t := 95) rfl (fun hc => absurd hc (by omega)) (fun _ => ?_)
  refine T_aload_n dL_law_34 rfl ?_
  refine T_iconst dL_law_35 (by decide) ?_
  refine T_iconst dL_law_36 (by decide) ?_
  refine T_callV dL_law_37 zkm_20_56 (Or.inl rfl) rfl (wAt.ob pw_27) ⟨Nat.le_of_ble_eq_true rfl, rfl⟩ rfl (Nat.le_of_ble_eq_true rfl) ?_
  refine w_X9_basisCorner (c := 0) (q := 0)  wf_zero hB pw_27 (by omega) (by omega) (fun k'37 hh37 k37a pw_37 => ?_)
  refine T_if_ne dL_law_40 (t := 95) rfl (fun hc => absurd hc (by omega)) (fun _ => ?_)
  refine T_aload_n dL_law_43 rfl ?_
  refine T_iconst dL_law_44 (by decide) ?_
  refine T_iconst dL_law_45 (by decide) ?_
  refine T_iconst dL_law_46 (by decide) ?_
  refine T_iconst dL_law_47 (by decide) ?_
  refine T_callV dL_law_48 zkm_20_59 (Or.inl rfl) rfl (wAt.ob pw_37) ⟨Nat.le_of_ble_eq_true rfl, rfl⟩ rfl (Nat.le_of_ble_eq_true rfl) ?_
  refine w_X9_basisCoefficient (c := 0) (q := 0) (a := 0) (b := 0)  wf_zero hB pw_37 (by omega) (by omega) (by omega) (fun k'48 hh48 k48a pw_48 => ?_)
  refine T_iconst dL_law_51 (by decide) ?_
  refine T_icmp_ne dL_law_52 (t := 95) rfl (fun hc => absurd hc (by omega)) (fun _ => ?_)
  refine T_aload_n dL_law_55 rfl ?_
  refine T_iconst dL_law_56 (by decide) ?_
  refine T_callV dL_law_57 zkm_20_86 (Or.inl rfl) rfl (wAt.ob pw_48) ⟨Nat.le_of_ble_eq_true rfl, rfl⟩ rfl (Nat.le_of_ble_eq_true rfl) ?_
  refine x_X9_wallNumerator  wf_zero hB pw_48 (fun k'57 hh57 k57a pw_57 => ?_)
  rw [ew1]
  refine T_bipush dL_law_60 (by decide) ?_
  refine T_icmp_ne dL_law_62 (t := 95) rfl (fun hc => absurd hc (by decide)) (fun _ => ?_)
  refine T_aload_n dL_law_65 rfl ?_
  refine T_iconst dL_law_66 (by decide) ?_
  refine T_callV dL_law_67 zkm_20_83 (Or.inl rfl) rfl (wAt.ob pw_57) ⟨Nat.le_of_ble_eq_true rfl, rfl⟩ rfl (Nat.le_of_ble_eq_true rfl) ?_
  refine x_X9_wallDenominator  wf_zero hB pw_57 (fun k'67 hh67 k67a pw_67 => ?_)
  rw [ew2]
  refine T_iconst dL_law_70 (by decide) ?_
  refine T_icmp_ne dL_law_71 (t := 95) rfl (fun hc => absurd hc (by decide)) (fun _ => ?_)
  refine T_aload_n dL_law_74 rfl ?_
  refine T_iconst dL_law_75 (by decide) ?_
  refine T_callV dL_law_76 zkm_20_104 (Or.inl rfl) rfl (wAt.ob pw_67) ⟨Nat.le_of_ble_eq_true rfl, rfl⟩ rfl (Nat.le_of_ble_eq_true rfl) ?_
  refine w_X9_changedCorners  wf_zero hB pw_67 (fun k'76 hh76 k76a pw_76 => ?_)
  rw [ec1]
  refine T_bipush dL_law_79 (by decide) ?_
  refine T_icmp_ne dL_law_81 (t := 95) rfl (fun hc => absurd hc (by decide)) (fun _ => ?_)
  refine T_aload_n dL_law_84 rfl ?_
  refine T_iconst dL_law_85 (by decide) ?_
  refine T_iconst dL_law_86 (by decide) ?_
  refine T_callV dL_law_87 zkm_20_89 (Or.inl rfl) rfl (wAt.ob pw_76) ⟨Nat.le_of_ble_eq_true rfl, rfl⟩ rfl (Nat.le_of_ble_eq_true rfl) ?_
  refine w_X9_conesContaining  wf_zero hB pw_76 (fun k'87 hh87 k87a pw_87 => ?_)
  rw [em1]
  refine T_bipush dL_law_90 (by decide) ?_
  refine T_icmp_eq dL_law_92 (t := 97) rfl (fun _ => ?_) (fun hc => absurd hc (by decide))
  refine T_iconst dL_law_97 (by decide) ?_
  refine T_istore_n dL_law_98 (Nat.le_of_ble_eq_true rfl) ?_
  refine T_iload_n dL_law_99 rfl ?_
  refine T_iconst dL_law_100 (by decide) ?_
  refine T_icmp_ge dL_law_101 (t := 291) rfl (fun hc => absurd hc (by decide)) (fun _ => ?_)
  refine T_bipush dL_law_104 (by decide) ?_
  refine T_bipush dL_law_106 (by decide) ?_
  refine T_iload_n dL_law_108 rfl ?_
  refine T_imul dL_law_109 ⟨by omega, by omega⟩ ?_
  refine T_iadd dL_law_110 ⟨by omega, by omega⟩ ?_
  refine T_istore_n dL_law_111 (Nat.le_of_ble_eq_true rfl) ?_
  refine T_aload_n dL_law_112 rfl ?_
  refine T_aload_n dL_law_113 rfl ?_
  refine T_iload_n dL_law_114 rfl ?_
  refine T_callS dL_law_115 zkm_20_122 ⟨Nat.le_of_ble_eq_true rfl, Nat.le_of_ble_eq_true rfl, rfl⟩ rfl (Nat.le_of_ble_eq_true rfl) ?_
  refine m_L_addPoints (a0 := (10 + (60 * 0)))  wf_zero hB pw_87 (by omega) (fun P'115 k'115 hh115 k115a k115b pw_115 => ?_)
  have hN24 := (pN_is k115b).2.1
  have hN2 := (pN_is k115b).1
  refine T_aload_n dL_law_118 rfl ?_
  refine T_callV dL_law_119 zkm_20_107 (Or.inl rfl) rfl (wAt.ob pw_115) ⟨Nat.le_of_ble_eq_true rfl, rfl⟩ rfl (Nat.le_of_ble_eq_true rfl) ?_
  refine w_X9_coneCount  k115b hB pw_115 (fun k'119 hh119 k119a pw_119 => ?_)
  refine T_istore dL_law_122 (Nat.le_of_ble_eq_true rfl) ?_
  refine T_iconst dL_law_124 (by decide) ?_
  refine T_istore dL_law_125 (Nat.le_of_ble_eq_true rfl) ?_
  exact m_L_law_127 hB hs1 hs2 hpr hg0 hQ _ P'115 _ 0 0 _ _ rfl _ pw_119 k115b (by omega) (by omega) (by omega) 
