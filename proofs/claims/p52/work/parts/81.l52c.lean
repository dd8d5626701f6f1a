/-! ===== p52: a wall is good, a weight is contained, the bases make the universal one: printed by wip/p52/gen/l52c.py ===== -/
set_option maxHeartbeats 4000000 in
set_option maxRecDepth 100000 in
theorem m_L_isWallGood_198 {n0 n k : Nat} {g : Nat → zV} {h : zHp} {Q : Option zV → Nat → Nat → zHp → Prop} {B sA len c : Nat} {P : pT} {C f : Nat → Int} (hP : pwf P) (hB : n0 ≤ B) (hW : wAt g h B n P C sA len f) (hc : c + 1 < pN P) (hQ : ∀ (k' : Nat) (h' : zHp), (k' ≤ k) → (wAt g h' B n P C sA len f) → Q (some (.inl 1)) n k' h') : ∀ (d : Nat) (i : Nat) (kk1 : Nat), 9 - i = d → ∀ h1 : zHp, (wAt g h1 B n P C sA len f) → (i ≤ 9) → (kk1 ≤ k) → ZT n0 g mL_isWallGood 198 [some (.inr (some B)), some (.inl (c : Int)), some (.inl (((pW P c).2) : Int)), some (.inl (((pW P c).1) : Int)), some (.inl 1), some (.inl (i : Int))] [] n kk1 h1 Q := by
  intro d
  induction d using Nat.strongRecOn with | _ d ih => ?_
  intro i kk1 hd0 h1 hW1 hi hk
  subst hd0
  obtain ⟨ho, hfi, hmn, hE0, hE1, hch1, hch2⟩ := pWall hP hc
  obtain ⟨hp1, hp2, hp3⟩ := pW_pos hP hc
  have hf4 := pB_facts hP c
  have hf5 := pB_facts hP (c + 1)
  have hN23 := (pN_is hP).2.1
  refine T_iload dL_isWallGood_198 rfl ?_
  refine T_bipush dL_isWallGood_200 (by decide) ?_
  refine T_icmp_ge dL_isWallGood_202 (t := 263) rfl (fun c202 => ?_) (fun c202 => ?_)
  · refine T_iload_n dL_isWallGood_263 rfl ?_
    refine T_if_le dL_isWallGood_264 (t := 300) rfl (fun c264 => ?_) (fun c264 => ?_)
    · refine T_iload dL_isWallGood_300 rfl ?_
      refine T_if_eq dL_isWallGood_302 (t := 331) rfl (fun hc => absurd hc (by decide)) (fun _ => ?_)
      refine T_aload_n dL_isWallGood_305 rfl ?_
      refine T_iload_n dL_isWallGood_306 rfl ?_
      refine T_callV dL_isWallGood_307 zkm_20_104 (Or.inl rfl) rfl (wAt.ob hW1) ⟨Nat.le_of_ble_eq_true rfl, rfl⟩ rfl (Nat.le_of_ble_eq_true rfl) ?_
      refine w_X9_changedCorners  hP hB hW1 (fun k'307 hh307 k307a pw_307 => ?_)
      refine T_iconst dL_isWallGood_310 (by decide) ?_
      refine T_icmp_lt dL_isWallGood_311 (t := 331) rfl (fun hc => absurd hc (by omega)) (fun _ => ?_)
      refine T_aload_n dL_isWallGood_314 rfl ?_
      refine T_iload_n dL_isWallGood_315 rfl ?_
      refine T_callV dL_isWallGood_316 zkm_20_104 (Or.inl rfl) rfl (wAt.ob pw_307) ⟨Nat.le_of_ble_eq_true rfl, rfl⟩ rfl (Nat.le_of_ble_eq_true rfl) ?_
      refine w_X9_changedCorners  hP hB pw_307 (fun k'316 hh316 k316a pw_316 => ?_)
      refine T_aload_n dL_isWallGood_319 rfl ?_
      refine T_iload_n dL_isWallGood_320 rfl ?_
      refine T_callV dL_isWallGood_321 zkm_20_76 (Or.inl rfl) rfl (wAt.ob pw_316) ⟨Nat.le_of_ble_eq_true rfl, rfl⟩ rfl (Nat.le_of_ble_eq_true rfl) ?_
      refine w_X9_basisSize  hP hB pw_316 (by omega) (fun k'321 hh321 k321a k321b pw_321 => ?_)
      refine T_icmp_gt dL_isWallGood_324 (t := 331) rfl (fun hc => absurd hc (by omega)) (fun _ => ?_)
      refine T_iconst dL_isWallGood_327 (by decide) ?_
      refine T_goto dL_isWallGood_328 (t := 332) rfl ?_
      refine T_iret dL_isWallGood_332 rfl ?_
      exact hQ _ _ (by omega) pw_321
    · refine T_iload dL_isWallGood_267 rfl ?_
      refine T_if_eq dL_isWallGood_269 (t := 297) rfl (fun hc => absurd hc (by decide)) (fun _ => ?_)
      refine T_aload_n dL_isWallGood_272 rfl ?_
      refine T_iload_n dL_isWallGood_273 rfl ?_
      refine T_iconst dL_isWallGood_274 (by decide) ?_
      refine T_isub dL_isWallGood_275 ⟨by omega, by omega⟩ ?_
      obtain ⟨c8, hc8⟩ : ∃ c8 : Nat, (c : Int) - 1 = (c8 : Int) := ⟨c - 1, by omega⟩
      rw [hc8]
      have hc9 : c8 + 1 < pN P := by omega
      obtain ⟨hr1, hr2, hr3⟩ := pW_pos hP hc9
      have hlt := pW_lt hP (i := c8) (j := c) (by omega) hc
      have hlt2 : ((pW P c8).1 : Int) * ((pW P c).2 : Int) < ((pW P c).1 : Int) * ((pW P c8).2 : Int) := by exact_mod_cast hlt
      refine T_callV dL_isWallGood_276 zkm_20_86 (Or.inl rfl) rfl (wAt.ob hW1) ⟨Nat.le_of_ble_eq_true rfl, rfl⟩ rfl (Nat.le_of_ble_eq_true rfl) ?_
      refine w_X9_wallNumerator  hP hB hW1 hc9 (fun k'276 hh276 k276a pw_276 => ?_)
      refine T_iload_n dL_isWallGood_279 rfl ?_
      refine T_imul dL_isWallGood_280 (zmulR (by omega) (by omega) (by omega) (by omega)) ?_
      refine T_iload_n dL_isWallGood_281 rfl ?_
      refine T_aload_n dL_isWallGood_282 rfl ?_
      refine T_iload_n dL_isWallGood_283 rfl ?_
      refine T_iconst dL_isWallGood_284 (by decide) ?_
      refine T_isub dL_isWallGood_285 ⟨by omega, by omega⟩ ?_
      rw [hc8]
      refine T_callV dL_isWallGood_286 zkm_20_83 (Or.inl rfl) rfl (wAt.ob pw_276) ⟨Nat.le_of_ble_eq_true rfl, rfl⟩ rfl (Nat.le_of_ble_eq_true rfl) ?_
      refine w_X9_wallDenominator  hP hB pw_276 hc9 (fun k'286 hh286 k286a pw_286 => ?_)
      refine T_imul dL_isWallGood_289 (zmulR (by omega) (by omega) (by omega) (by omega)) ?_
      refine T_icmp_ge dL_isWallGood_290 (t := 297) rfl (fun hc => absurd hc (by omega)) (fun _ => ?_)
      refine T_iconst dL_isWallGood_293 (by decide) ?_
      refine T_goto dL_isWallGood_294 (t := 298) rfl ?_
      refine T_istore dL_isWallGood_298 (Nat.le_of_ble_eq_true rfl) ?_
      refine T_iload dL_isWallGood_300 rfl ?_
      refine T_if_eq dL_isWallGood_302 (t := 331) rfl (fun hc => absurd hc (by decide)) (fun _ => ?_)
      refine T_aload_n dL_isWallGood_305 rfl ?_
      refine T_iload_n dL_isWallGood_306 rfl ?_
      refine T_callV dL_isWallGood_307 zkm_20_104 (Or.inl rfl) rfl (wAt.ob pw_286) ⟨Nat.le_of_ble_eq_true rfl, rfl⟩ rfl (Nat.le_of_ble_eq_true rfl) ?_
      refine w_X9_changedCorners  hP hB pw_286 (fun k'307 hh307 k307a pw_307 => ?_)
      refine T_iconst dL_isWallGood_310 (by decide) ?_
      refine T_icmp_lt dL_isWallGood_311 (t := 331) rfl (fun hc => absurd hc (by omega)) (fun _ => ?_)
      refine T_aload_n dL_isWallGood_314 rfl ?_
      refine T_iload_n dL_isWallGood_315 rfl ?_
      refine T_callV dL_isWallGood_316 zkm_20_104 (Or.inl rfl) rfl (wAt.ob pw_307) ⟨Nat.le_of_ble_eq_true rfl, rfl⟩ rfl (Nat.le_of_ble_eq_true rfl) ?_
      refine w_X9_changedCorners  hP hB pw_307 (fun k'316 hh316 k316a pw_316 => ?_)
      refine T_aload_n dL_isWallGood_319 rfl ?_
      refine T_iload_n dL_isWallGood_320 rfl ?_
      refine T_callV dL_isWallGood_321 zkm_20_76 (Or.inl rfl) rfl (wAt.ob pw_316) ⟨Nat.le_of_ble_eq_true rfl, rfl⟩ rfl (Nat.le_of_ble_eq_true rfl) ?_
      refine w_X9_basisSize  hP hB pw_316 (by omega) (fun k'321 hh321 k321a k321b pw_321 => ?_)
      refine T_icmp_gt dL_isWallGood_324 (t := 331) rfl (fun hc => absurd hc (by omega)) (fun _ => ?_)
      refine T_iconst dL_isWallGood_327 (by decide) ?_
      refine T_goto dL_isWallGood_328 (t := 332) rfl ?_
      refine T_iret dL_isWallGood_332 rfl ?_
      exact hQ _ _ (by omega) pw_321
  · refine T_iload dL_isWallGood_205 rfl ?_
    refine T_if_eq dL_isWallGood_207 (t := 254) rfl (fun hc => absurd hc (by decide)) (fun _ => ?_)
    refine T_aload_n dL_isWallGood_210 rfl ?_
    refine T_iload_n dL_isWallGood_211 rfl ?_
    refine T_iload_n dL_isWallGood_212 rfl ?_
    refine T_iconst dL_isWallGood_213 (by decide) ?_
    refine T_iload dL_isWallGood_214 rfl ?_
    refine T_callV dL_isWallGood_216 zkm_20_101 (Or.inl rfl) rfl (wAt.ob hW1) ⟨Nat.le_of_ble_eq_true rfl, rfl⟩ rfl (Nat.le_of_ble_eq_true rfl) ?_
    refine w_X9_columnHeight  hP hB hW1 (ho 0 (Or.inl rfl)) (by omega) (fun k'216 hh216 k216a pw_216 => ?_)
    rw [hE0.1 i (by omega)]
    refine T_aload_n dL_isWallGood_219 rfl ?_
    refine T_iload_n dL_isWallGood_220 rfl ?_
    refine T_iload dL_isWallGood_221 rfl ?_
    refine T_callV dL_isWallGood_223 zkm_20_53 (Or.inl rfl) rfl (wAt.ob pw_216) ⟨Nat.le_of_ble_eq_true rfl, rfl⟩ rfl (Nat.le_of_ble_eq_true rfl) ?_
    refine w_X9_coneHeight  hP hB pw_216 (by omega) (by omega) (fun k'223 hh223 k223a pw_223 => ?_)
    refine T_icmp_ne dL_isWallGood_226 (t := 254) rfl (fun hc => absurd hc (by omega)) (fun _ => ?_)
    refine T_aload_n dL_isWallGood_229 rfl ?_
    refine T_iload_n dL_isWallGood_230 rfl ?_
    refine T_iload_n dL_isWallGood_231 rfl ?_
    refine T_iconst dL_isWallGood_232 (by decide) ?_
    refine T_iload dL_isWallGood_233 rfl ?_
    refine T_callV dL_isWallGood_235 zkm_20_101 (Or.inl rfl) rfl (wAt.ob pw_223) ⟨Nat.le_of_ble_eq_true rfl, rfl⟩ rfl (Nat.le_of_ble_eq_true rfl) ?_
    refine w_X9_columnHeight  hP hB pw_223 (ho 1 (Or.inr rfl)) (by omega) (fun k'235 hh235 k235a pw_235 => ?_)
    rw [hE1]
    refine T_aload_n dL_isWallGood_238 rfl ?_
    refine T_iload_n dL_isWallGood_239 rfl ?_
    refine T_iconst dL_isWallGood_240 (by decide) ?_
    refine T_iadd dL_isWallGood_241 ⟨by omega, by omega⟩ ?_
    refine T_iload dL_isWallGood_242 rfl ?_
    refine T_callV dL_isWallGood_244 zkm_20_53 (Or.inl rfl) rfl (wAt.ob pw_235) ⟨Nat.le_of_ble_eq_true rfl, rfl⟩ rfl (Nat.le_of_ble_eq_true rfl) ?_
    refine w_X9_coneHeight (c := (c + 1))  hP hB pw_235 (by omega) (by omega) (fun k'244 hh244 k244a pw_244 => ?_)
    refine T_icmp_ne dL_isWallGood_247 (t := 254) rfl (fun hc => absurd hc (by omega)) (fun _ => ?_)
    refine T_iconst dL_isWallGood_250 (by decide) ?_
    refine T_goto dL_isWallGood_251 (t := 255) rfl ?_
    refine T_istore dL_isWallGood_255 (Nat.le_of_ble_eq_true rfl) ?_
    refine T_iinc dL_isWallGood_257 rfl ⟨by omega, by omega⟩ ?_
    refine T_goto dL_isWallGood_260 (t := 198) rfl ?_
    exact ih _ (by omega) (i + 1) _ rfl _ pw_244 (by omega) (by omega) 
set_option maxHeartbeats 4000000 in
set_option maxRecDepth 100000 in
theorem m_L_isWallGood_144 {n0 n k : Nat} {g : Nat → zV} {h : zHp} {Q : Option zV → Nat → Nat → zHp → Prop} {B sA len c : Nat} {P : pT} {C f : Nat → Int} (hP : pwf P) (hB : n0 ≤ B) (hW : wAt g h B n P C sA len f) (hc : c + 1 < pN P) (hQ : ∀ (k' : Nat) (h' : zHp), (k' ≤ k) → (wAt g h' B n P C sA len f) → Q (some (.inl 1)) n k' h') : ∀ (d : Nat) (i : Nat) (kk1 : Nat), ((pB P (c + 1)).2.1) - i = d → ∀ h1 : zHp, (wAt g h1 B n P C sA len f) → (i ≤ ((pB P (c + 1)).2.1)) → (kk1 ≤ k) → ZT n0 g mL_isWallGood 144 [some (.inr (some B)), some (.inl (c : Int)), some (.inl (((pW P c).2) : Int)), some (.inl (((pW P c).1) : Int)), some (.inl 1), some (.inl (i : Int))] [] n kk1 h1 Q := by
  intro d
  induction d using Nat.strongRecOn with | _ d ih => ?_
  intro i kk1 hd0 h1 hW1 hi hk
  subst hd0
  obtain ⟨ho, hfi, hmn, hE0, hE1, hch1, hch2⟩ := pWall hP hc
  obtain ⟨hp1, hp2, hp3⟩ := pW_pos hP hc
  have hf4 := pB_facts hP c
  have hf5 := pB_facts hP (c + 1)
  have hN23 := (pN_is hP).2.1
  refine T_iload dL_isWallGood_144 rfl ?_
  refine T_aload_n dL_isWallGood_146 rfl ?_
  refine T_iload_n dL_isWallGood_147 rfl ?_
  refine T_iconst dL_isWallGood_148 (by decide) ?_
  refine T_iadd dL_isWallGood_149 ⟨by omega, by omega⟩ ?_
  refine T_callV dL_isWallGood_150 zkm_20_76 (Or.inl rfl) rfl (wAt.ob hW1) ⟨Nat.le_of_ble_eq_true rfl, rfl⟩ rfl (Nat.le_of_ble_eq_true rfl) ?_
  refine w_X9_basisSize (c := (c + 1))  hP hB hW1 (by omega) (fun k'150 hh150 k150a k150b pw_150 => ?_)
  refine T_icmp_ge dL_isWallGood_153 (t := 195) rfl (fun c153 => ?_) (fun c153 => ?_)
  · refine T_iconst dL_isWallGood_195 (by decide) ?_
    refine T_istore dL_isWallGood_196 (Nat.le_of_ble_eq_true rfl) ?_
    exact m_L_isWallGood_198 hP hB hW hc hQ _ 0 _ rfl _ pw_150 (by omega) (by omega) 
  · refine T_iload dL_isWallGood_156 rfl ?_
    refine T_if_eq dL_isWallGood_158 (t := 186) rfl (fun hc => absurd hc (by decide)) (fun _ => ?_)
    refine T_aload_n dL_isWallGood_161 rfl ?_
    refine T_iload_n dL_isWallGood_162 rfl ?_
    refine T_iload_n dL_isWallGood_163 rfl ?_
    refine T_iconst dL_isWallGood_164 (by decide) ?_
    refine T_iload dL_isWallGood_165 rfl ?_
    refine T_callV dL_isWallGood_167 zkm_20_98 (Or.inl rfl) rfl (wAt.ob pw_150) ⟨Nat.le_of_ble_eq_true rfl, rfl⟩ rfl (Nat.le_of_ble_eq_true rfl) ?_
    refine w_X9_corner  hP hB pw_150 (ho 1 (Or.inr rfl)) (by rw [hE1]; omega) (fun k'167 hh167 k167a pw_167 => ?_)
    rw [hE1]
    refine T_aload_n dL_isWallGood_170 rfl ?_
    refine T_iload_n dL_isWallGood_171 rfl ?_
    refine T_iconst dL_isWallGood_172 (by decide) ?_
    refine T_iadd dL_isWallGood_173 ⟨by omega, by omega⟩ ?_
    refine T_iload dL_isWallGood_174 rfl ?_
    refine T_callV dL_isWallGood_176 zkm_20_56 (Or.inl rfl) rfl (wAt.ob pw_167) ⟨Nat.le_of_ble_eq_true rfl, rfl⟩ rfl (Nat.le_of_ble_eq_true rfl) ?_
    refine w_X9_basisCorner (c := (c + 1))  hP hB pw_167 (by omega) (by omega) (fun k'176 hh176 k176a pw_176 => ?_)
    refine T_icmp_ne dL_isWallGood_179 (t := 186) rfl (fun hc => absurd hc (by omega)) (fun _ => ?_)
    refine T_iconst dL_isWallGood_182 (by decide) ?_
    refine T_goto dL_isWallGood_183 (t := 187) rfl ?_
    refine T_istore dL_isWallGood_187 (Nat.le_of_ble_eq_true rfl) ?_
    refine T_iinc dL_isWallGood_189 rfl ⟨by omega, by omega⟩ ?_
    refine T_goto dL_isWallGood_192 (t := 144) rfl ?_
    exact ih _ (by omega) (i + 1) _ rfl _ pw_176 (by omega) (by omega) 
set_option maxHeartbeats 4000000 in
set_option maxRecDepth 100000 in
theorem m_L_isWallGood_94 {n0 n k : Nat} {g : Nat → zV} {h : zHp} {Q : Option zV → Nat → Nat → zHp → Prop} {B sA len c : Nat} {P : pT} {C f : Nat → Int} (hP : pwf P) (hB : n0 ≤ B) (hW : wAt g h B n P C sA len f) (hc : c + 1 < pN P) (hQ : ∀ (k' : Nat) (h' : zHp), (k' ≤ k) → (wAt g h' B n P C sA len f) → Q (some (.inl 1)) n k' h') : ∀ (d : Nat) (i : Nat) (kk1 : Nat), ((pB P c).2.1) - i = d → ∀ h1 : zHp, (wAt g h1 B n P C sA len f) → (i ≤ ((pB P c).2.1)) → (kk1 ≤ k) → ZT n0 g mL_isWallGood 94 [some (.inr (some B)), some (.inl (c : Int)), some (.inl (((pW P c).2) : Int)), some (.inl (((pW P c).1) : Int)), some (.inl 1), some (.inl (i : Int))] [] n kk1 h1 Q := by
  intro d
  induction d using Nat.strongRecOn with | _ d ih => ?_
  intro i kk1 hd0 h1 hW1 hi hk
  subst hd0
  obtain ⟨ho, hfi, hmn, hE0, hE1, hch1, hch2⟩ := pWall hP hc
  obtain ⟨hp1, hp2, hp3⟩ := pW_pos hP hc
  have hf4 := pB_facts hP c
  have hf5 := pB_facts hP (c + 1)
  have hN23 := (pN_is hP).2.1
  refine T_iload dL_isWallGood_94 rfl ?_
  refine T_aload_n dL_isWallGood_96 rfl ?_
  refine T_iload_n dL_isWallGood_97 rfl ?_
  refine T_callV dL_isWallGood_98 zkm_20_76 (Or.inl rfl) rfl (wAt.ob hW1) ⟨Nat.le_of_ble_eq_true rfl, rfl⟩ rfl (Nat.le_of_ble_eq_true rfl) ?_
  refine w_X9_basisSize  hP hB hW1 (by omega) (fun k'98 hh98 k98a k98b pw_98 => ?_)
  refine T_icmp_ge dL_isWallGood_101 (t := 141) rfl (fun c101 => ?_) (fun c101 => ?_)
  · refine T_iconst dL_isWallGood_141 (by decide) ?_
    refine T_istore dL_isWallGood_142 (Nat.le_of_ble_eq_true rfl) ?_
    exact m_L_isWallGood_144 hP hB hW hc hQ _ 0 _ rfl _ pw_98 (by omega) (by omega) 
  · refine T_iload dL_isWallGood_104 rfl ?_
    refine T_if_eq dL_isWallGood_106 (t := 132) rfl (fun hc => absurd hc (by decide)) (fun _ => ?_)
    refine T_aload_n dL_isWallGood_109 rfl ?_
    refine T_iload_n dL_isWallGood_110 rfl ?_
    refine T_iload_n dL_isWallGood_111 rfl ?_
    refine T_iconst dL_isWallGood_112 (by decide) ?_
    refine T_iload dL_isWallGood_113 rfl ?_
    refine T_callV dL_isWallGood_115 zkm_20_98 (Or.inl rfl) rfl (wAt.ob pw_98) ⟨Nat.le_of_ble_eq_true rfl, rfl⟩ rfl (Nat.le_of_ble_eq_true rfl) ?_
    refine w_X9_corner  hP hB pw_98 (ho 0 (Or.inl rfl)) (by rw [hE0.2.1]; omega) (fun k'115 hh115 k115a pw_115 => ?_)
    rw [hE0.2.2 i (by omega)]
    refine T_aload_n dL_isWallGood_118 rfl ?_
    refine T_iload_n dL_isWallGood_119 rfl ?_
    refine T_iload dL_isWallGood_120 rfl ?_
    refine T_callV dL_isWallGood_122 zkm_20_56 (Or.inl rfl) rfl (wAt.ob pw_115) ⟨Nat.le_of_ble_eq_true rfl, rfl⟩ rfl (Nat.le_of_ble_eq_true rfl) ?_
    refine w_X9_basisCorner  hP hB pw_115 (by omega) (by omega) (fun k'122 hh122 k122a pw_122 => ?_)
    refine T_icmp_ne dL_isWallGood_125 (t := 132) rfl (fun hc => absurd hc (by omega)) (fun _ => ?_)
    refine T_iconst dL_isWallGood_128 (by decide) ?_
    refine T_goto dL_isWallGood_129 (t := 133) rfl ?_
    refine T_istore dL_isWallGood_133 (Nat.le_of_ble_eq_true rfl) ?_
    refine T_iinc dL_isWallGood_135 rfl ⟨by omega, by omega⟩ ?_
    refine T_goto dL_isWallGood_138 (t := 94) rfl ?_
    exact ih _ (by omega) (i + 1) _ rfl _ pw_122 (by omega) (by omega) 
set_option maxHeartbeats 4000000 in
set_option maxRecDepth 100000 in
theorem m_L_isWallGood {n0 n k : Nat} {g : Nat → zV} {h : zHp} {Q : Option zV → Nat → Nat → zHp → Prop} {B sA len c : Nat} {P : pT} {C f : Nat → Int} (hP : pwf P) (hB : n0 ≤ B) (hW : wAt g h B n P C sA len f) (hc : c + 1 < pN P) (hQ : ∀ (k' : Nat) (h' : zHp), (k' ≤ k) → (wAt g h' B n P C sA len f) → Q (some (.inl 1)) n k' h') : ZT n0 g mL_isWallGood 0 (zloc mL_isWallGood [.inr (some B), .inl (c : Int)]) [] n k h Q := by
  show ZT n0 g mL_isWallGood 0 [some (.inr (some B)), some (.inl (c : Int)), none, none, none, none] [] n k h Q
  obtain ⟨ho, hfi, hmn, hE0, hE1, hch1, hch2⟩ := pWall hP hc
  obtain ⟨hp1, hp2, hp3⟩ := pW_pos hP hc
  have hf4 := pB_facts hP c
  have hf5 := pB_facts hP (c + 1)
  have hN23 := (pN_is hP).2.1
  refine T_aload_n dL_isWallGood_0 rfl ?_
  refine T_iload_n dL_isWallGood_1 rfl ?_
  refine T_callV dL_isWallGood_2 zkm_20_83 (Or.inl rfl) rfl (wAt.ob hW) ⟨Nat.le_of_ble_eq_true rfl, rfl⟩ rfl (Nat.le_of_ble_eq_true rfl) ?_
  refine w_X9_wallDenominator  hP hB hW hc (fun k'2 hh2 k2a pw_2 => ?_)
  refine T_istore_n dL_isWallGood_5 (Nat.le_of_ble_eq_true rfl) ?_
  refine T_aload_n dL_isWallGood_6 rfl ?_
  refine T_iload_n dL_isWallGood_7 rfl ?_
  refine T_callV dL_isWallGood_8 zkm_20_86 (Or.inl rfl) rfl (wAt.ob pw_2) ⟨Nat.le_of_ble_eq_true rfl, rfl⟩ rfl (Nat.le_of_ble_eq_true rfl) ?_
  refine w_X9_wallNumerator  hP hB pw_2 hc (fun k'8 hh8 k8a pw_8 => ?_)
  refine T_istore_n dL_isWallGood_11 (Nat.le_of_ble_eq_true rfl) ?_
  refine T_iload_n dL_isWallGood_12 rfl ?_
  refine T_if_le dL_isWallGood_13 (t := 44) rfl (fun hc => absurd hc (by omega)) (fun _ => ?_)
  refine T_iload_n dL_isWallGood_16 rfl ?_
  refine T_if_le dL_isWallGood_17 (t := 44) rfl (fun hc => absurd hc (by omega)) (fun _ => ?_)
  refine T_aload_n dL_isWallGood_20 rfl ?_
  refine T_iload_n dL_isWallGood_21 rfl ?_
  refine T_iload_n dL_isWallGood_22 rfl ?_
  refine T_callV dL_isWallGood_23 zkm_20_89 (Or.inl rfl) rfl (wAt.ob pw_8) ⟨Nat.le_of_ble_eq_true rfl, rfl⟩ rfl (Nat.le_of_ble_eq_true rfl) ?_
  refine w_X9_conesContaining  hP hB pw_8 (fun k'23 hh23 k23a pw_23 => ?_)
  rw [hmn]
  refine T_iconst dL_isWallGood_26 (by decide) ?_
  refine T_icmp_ne dL_isWallGood_27 (t := 44) rfl (fun hc => absurd hc (by decide)) (fun _ => ?_)
  refine T_aload_n dL_isWallGood_30 rfl ?_
  refine T_iload_n dL_isWallGood_31 rfl ?_
  refine T_iload_n dL_isWallGood_32 rfl ?_
  refine T_callV dL_isWallGood_33 zkm_20_92 (Or.inl rfl) rfl (wAt.ob pw_23) ⟨Nat.le_of_ble_eq_true rfl, rfl⟩ rfl (Nat.le_of_ble_eq_true rfl) ?_
  refine w_X9_firstConeContaining  hP hB pw_23 (ho 0 (Or.inl rfl)).1 (fun k'33 hh33 k33a pw_33 => ?_)
  rw [hfi]
  refine T_iload_n dL_isWallGood_36 rfl ?_
  refine T_icmp_ne dL_isWallGood_37 (t := 44) rfl (fun hc => absurd hc (by omega)) (fun _ => ?_)
  refine T_iconst dL_isWallGood_40 (by decide) ?_
  refine T_goto dL_isWallGood_41 (t := 45) rfl ?_
  refine T_istore dL_isWallGood_45 (Nat.le_of_ble_eq_true rfl) ?_
  refine T_iload dL_isWallGood_47 rfl ?_
  refine T_if_eq dL_isWallGood_49 (t := 88) rfl (fun hc => absurd hc (by decide)) (fun _ => ?_)
  refine T_aload_n dL_isWallGood_52 rfl ?_
  refine T_iload_n dL_isWallGood_53 rfl ?_
  refine T_iload_n dL_isWallGood_54 rfl ?_
  refine T_iconst dL_isWallGood_55 (by decide) ?_
  refine T_callV dL_isWallGood_56 zkm_20_95 (Or.inl rfl) rfl (wAt.ob pw_33) ⟨Nat.le_of_ble_eq_true rfl, rfl⟩ rfl (Nat.le_of_ble_eq_true rfl) ?_
  refine w_X9_cornerCount  hP hB pw_33 (ho 0 (Or.inl rfl)) (fun k'56 hh56 k56a pw_56 => ?_)
  rw [hE0.2.1]
  refine T_aload_n dL_isWallGood_59 rfl ?_
  refine T_iload_n dL_isWallGood_60 rfl ?_
  refine T_callV dL_isWallGood_61 zkm_20_76 (Or.inl rfl) rfl (wAt.ob pw_56) ⟨Nat.le_of_ble_eq_true rfl, rfl⟩ rfl (Nat.le_of_ble_eq_true rfl) ?_
  refine w_X9_basisSize  hP hB pw_56 (by omega) (fun k'61 hh61 k61a k61b pw_61 => ?_)
  refine T_icmp_ne dL_isWallGood_64 (t := 88) rfl (fun hc => absurd hc (by omega)) (fun _ => ?_)
  refine T_aload_n dL_isWallGood_67 rfl ?_
  refine T_iload_n dL_isWallGood_68 rfl ?_
  refine T_iload_n dL_isWallGood_69 rfl ?_
  refine T_iconst dL_isWallGood_70 (by decide) ?_
  refine T_callV dL_isWallGood_71 zkm_20_95 (Or.inl rfl) rfl (wAt.ob pw_61) ⟨Nat.le_of_ble_eq_true rfl, rfl⟩ rfl (Nat.le_of_ble_eq_true rfl) ?_
  refine w_X9_cornerCount  hP hB pw_61 (ho 1 (Or.inr rfl)) (fun k'71 hh71 k71a pw_71 => ?_)
  rw [hE1]
  refine T_aload_n dL_isWallGood_74 rfl ?_
  refine T_iload_n dL_isWallGood_75 rfl ?_
  refine T_iconst dL_isWallGood_76 (by decide) ?_
  refine T_iadd dL_isWallGood_77 ⟨by omega, by omega⟩ ?_
  refine T_callV dL_isWallGood_78 zkm_20_76 (Or.inl rfl) rfl (wAt.ob pw_71) ⟨Nat.le_of_ble_eq_true rfl, rfl⟩ rfl (Nat.le_of_ble_eq_true rfl) ?_
  refine w_X9_basisSize (c := (c + 1))  hP hB pw_71 (by omega) (fun k'78 hh78 k78a k78b pw_78 => ?_)
  refine T_icmp_ne dL_isWallGood_81 (t := 88) rfl (fun hc => absurd hc (by omega)) (fun _ => ?_)
  refine T_iconst dL_isWallGood_84 (by decide) ?_
  refine T_goto dL_isWallGood_85 (t := 89) rfl ?_
  refine T_istore dL_isWallGood_89 (Nat.le_of_ble_eq_true rfl) ?_
  refine T_iconst dL_isWallGood_91 (by decide) ?_
  refine T_istore dL_isWallGood_92 (Nat.le_of_ble_eq_true rfl) ?_
  exact m_L_isWallGood_94 hP hB hW hc hQ _ 0 _ rfl _ pw_78 (by omega) (by omega) 
set_option maxHeartbeats 4000000 in
set_option maxRecDepth 100000 in
theorem m_L_isContained_128 {n0 n k : Nat} {g : Nat → zV} {h : zHp} {Q : Option zV → Nat → Nat → zHp → Prop} {B sA len : Nat} {u v : Int} {P : pT} {C f : Nat → Int} (hP : pwf P) (hB : n0 ≤ B) (hW : wAt g h B n P C sA len f) (huv : sWt u v) (hQ : ∀ (k' : Nat) (h' : zHp), (k' ≤ k) → (wAt g h' B n P C sA len f) → Q (some (.inl 1)) n k' h') : ∀ (d : Nat) (w : Nat) (i : Nat) (kk1 : Nat), 9 - i = d → ∀ h1 : zHp, (wAt g h1 B n P C sA len f) → (i ≤ 9) → (∀ i, i < 9 → (pZ P u v 1).1 i = (pB P (zfiw P u v)).1 i) → (kk1 ≤ k) → ZT n0 g mL_isContained 128 [some (.inr (some B)), some (.inl u), some (.inl v), some (.inl ((zfiw P u v) : Int)), some (.inl (s_mn P u v)), some (.inl (w : Int)), some (.inl 1), some (.inl (i : Int))] [] n kk1 h1 Q := by
  intro d
  induction d using Nat.strongRecOn with | _ d ih => ?_
  intro w i kk1 hd0 h1 hW1 hi hE hk
  subst hd0
  obtain ⟨⟨u0, u1, v0, v1⟩, une⟩ := id huv
  obtain ⟨hz, hon, hu9, hoff⟩ := pCont hP huv
  have hN23 := (pN_is hP).2.1
  have hN1 := (pN_is hP).1
  refine T_iload dL_isContained_128 rfl ?_
  refine T_bipush dL_isContained_130 (by decide) ?_
  refine T_icmp_ge dL_isContained_132 (t := 172) rfl (fun c132 => ?_) (fun c132 => ?_)
  · refine T_iload dL_isContained_172 rfl ?_
    refine T_iret dL_isContained_174 rfl ?_
    exact hQ _ _ (by omega) hW1
  · refine T_iload dL_isContained_135 rfl ?_
    refine T_if_eq dL_isContained_137 (t := 163) rfl (fun hc => absurd hc (by decide)) (fun _ => ?_)
    refine T_aload_n dL_isContained_140 rfl ?_
    refine T_iload_n dL_isContained_141 rfl ?_
    refine T_iload_n dL_isContained_142 rfl ?_
    refine T_iconst dL_isContained_143 (by decide) ?_
    refine T_iload dL_isContained_144 rfl ?_
    refine T_callV dL_isContained_146 zkm_20_101 (Or.inl rfl) rfl (wAt.ob hW1) ⟨Nat.le_of_ble_eq_true rfl, rfl⟩ rfl (Nat.le_of_ble_eq_true rfl) ?_
    refine w_X9_columnHeight  hP hB hW1 ⟨huv, Or.inr rfl⟩ (by omega) (fun k'146 hh146 k146a pw_146 => ?_)
    rw [hE i (by omega)]
    refine T_aload_n dL_isContained_149 rfl ?_
    refine T_iload_n dL_isContained_150 rfl ?_
    refine T_iload dL_isContained_151 rfl ?_
    refine T_callV dL_isContained_153 zkm_20_53 (Or.inl rfl) rfl (wAt.ob pw_146) ⟨Nat.le_of_ble_eq_true rfl, rfl⟩ rfl (Nat.le_of_ble_eq_true rfl) ?_
    refine w_X9_coneHeight (c := (zfiw P u v))  hP hB pw_146 (by omega) (by omega) (fun k'153 hh153 k153a pw_153 => ?_)
    refine T_icmp_ne dL_isContained_156 (t := 163) rfl (fun hc => absurd hc (by omega)) (fun _ => ?_)
    refine T_iconst dL_isContained_159 (by decide) ?_
    refine T_goto dL_isContained_160 (t := 164) rfl ?_
    refine T_istore dL_isContained_164 (Nat.le_of_ble_eq_true rfl) ?_
    refine T_iinc dL_isContained_166 rfl ⟨by omega, by omega⟩ ?_
    refine T_goto dL_isContained_169 (t := 128) rfl ?_
    exact ih _ (by omega) w (i + 1) _ rfl _ pw_153 (by omega) hE (by omega) 
set_option maxHeartbeats 4000000 in
set_option maxRecDepth 100000 in
theorem m_L_isContained_21 {n0 n k : Nat} {g : Nat → zV} {h : zHp} {Q : Option zV → Nat → Nat → zHp → Prop} {B sA len : Nat} {u v : Int} {P : pT} {C f : Nat → Int} (hP : pwf P) (hB : n0 ≤ B) (hW : wAt g h B n P C sA len f) (huv : sWt u v) (hQ : ∀ (k' : Nat) (h' : zHp), (k' ≤ k) → (wAt g h' B n P C sA len f) → Q (some (.inl 1)) n k' h') : ∀ (d : Nat) (w : Nat) (i : Nat) (kk1 : Nat) (L7 : Option zV), pN P - i = d → ∀ h1 : zHp, (wAt g h1 B n P C sA len f) → (i + 1 ≤ pN P) → ((w = 0 ∧ ∀ q, q < i → q + 1 < pN P → ¬ zonw P u v q) ∨ (w = 1 ∧ ∃ q, q + 1 < pN P ∧ zonw P u v q)) → (kk1 ≤ k) → ZT n0 g mL_isContained 21 [some (.inr (some B)), some (.inl u), some (.inl v), some (.inl ((zfiw P u v) : Int)), some (.inl (s_mn P u v)), some (.inl (w : Int)), some (.inl (i : Int)), L7] [] n kk1 h1 Q := by
  intro d
  induction d using Nat.strongRecOn with | _ d ih => ?_
  intro w i kk1 L7 hd0 h1 hW1 hi hw hk
  subst hd0
  obtain ⟨⟨u0, u1, v0, v1⟩, une⟩ := id huv
  obtain ⟨hz, hon, hu9, hoff⟩ := pCont hP huv
  have hN23 := (pN_is hP).2.1
  have hN1 := (pN_is hP).1
  refine T_iload dL_isContained_21 rfl ?_
  refine T_iconst dL_isContained_23 (by decide) ?_
  refine T_iadd dL_isContained_24 ⟨by omega, by omega⟩ ?_
  refine T_aload_n dL_isContained_25 rfl ?_
  refine T_callV dL_isContained_26 zkm_20_107 (Or.inl rfl) rfl (wAt.ob hW1) ⟨Nat.le_of_ble_eq_true rfl, rfl⟩ rfl (Nat.le_of_ble_eq_true rfl) ?_
  refine w_X9_coneCount  hP hB hW1 (fun k'26 hh26 k26a pw_26 => ?_)
  refine T_icmp_ge dL_isContained_29 (t := 69) rfl (fun c29 => ?_) (fun c29 => ?_)
  · have hoff2 : w = 0 → ∀ q, q + 1 < pN P → ¬ zonw P u v q := fun e q hq => by
      rcases hw with z | z
      · exact z.2 q (by omega) hq
      · exfalso; have := z.1; omega
    have hc0 : w = 0 → s_mn P u v = 1 := fun e => (hoff (hoff2 e)).1
    have hc1 : ¬ w = 0 → s_mn P u v = 2 ∧ zfiw P u v + 2 ≤ pN P := fun e => hon (hw.resolve_left (fun z => e z.1)).2
    have hcE : w = 0 → ∀ i, i < 9 → (pZ P u v 1).1 i = (pB P (zfiw P u v)).1 i := fun e => (hoff (hoff2 e)).2
    refine T_iload dL_isContained_69 rfl ?_
    refine T_iload dL_isContained_71 rfl ?_
    refine T_if_eq dL_isContained_73 (t := 80) rfl (fun c73 => ?_) (fun c73 => ?_)
    · refine T_iconst dL_isContained_80 (by decide) ?_
      refine T_icmp_ne dL_isContained_81 (t := 117) rfl (fun hc => absurd hc (by omega)) (fun _ => ?_)
      refine T_iload_n dL_isContained_84 rfl ?_
      refine T_if_lt dL_isContained_85 (t := 117) rfl (fun hc => absurd hc (by omega)) (fun _ => ?_)
      refine T_iload_n dL_isContained_88 rfl ?_
      refine T_iload dL_isContained_89 rfl ?_
      refine T_iadd dL_isContained_91 ⟨by omega, by omega⟩ ?_
      refine T_aload_n dL_isContained_92 rfl ?_
      refine T_callV dL_isContained_93 zkm_20_107 (Or.inl rfl) rfl (wAt.ob pw_26) ⟨Nat.le_of_ble_eq_true rfl, rfl⟩ rfl (Nat.le_of_ble_eq_true rfl) ?_
      refine w_X9_coneCount  hP hB pw_26 (fun k'93 hh93 k93a pw_93 => ?_)
      refine T_icmp_gt dL_isContained_96 (t := 117) rfl (fun hc => absurd hc (by omega)) (fun _ => ?_)
      refine T_iload_n dL_isContained_99 rfl ?_
      refine T_if_gt dL_isContained_100 (t := 113) rfl (fun c100 => ?_) (fun c100 => ?_)
      · refine T_iconst dL_isContained_113 (by decide) ?_
        refine T_goto dL_isContained_114 (t := 118) rfl ?_
        refine T_istore dL_isContained_118 (Nat.le_of_ble_eq_true rfl) ?_
        refine T_iload dL_isContained_120 rfl ?_
        refine T_if_ne dL_isContained_122 (t := 172) rfl (fun hc => absurd hc (by omega)) (fun _ => ?_)
        refine T_iconst dL_isContained_125 (by decide) ?_
        refine T_istore dL_isContained_126 (Nat.le_of_ble_eq_true rfl) ?_
        exact m_L_isContained_128 hP hB hW huv hQ _ w 0 _ rfl _ pw_93 (by omega) (hcE (by omega)) (by omega) 
      · refine T_iload_n dL_isContained_103 rfl ?_
        refine T_aload_n dL_isContained_104 rfl ?_
        refine T_callV dL_isContained_105 zkm_20_107 (Or.inl rfl) rfl (wAt.ob pw_93) ⟨Nat.le_of_ble_eq_true rfl, rfl⟩ rfl (Nat.le_of_ble_eq_true rfl) ?_
        refine w_X9_coneCount  hP hB pw_93 (fun k'105 hh105 k105a pw_105 => ?_)
        refine T_iconst dL_isContained_108 (by decide) ?_
        refine T_isub dL_isContained_109 ⟨by omega, by omega⟩ ?_
        refine T_icmp_ne dL_isContained_110 (t := 117) rfl (fun hc => absurd hc (by omega)) (fun _ => ?_)
        refine T_iconst dL_isContained_113 (by decide) ?_
        refine T_goto dL_isContained_114 (t := 118) rfl ?_
        refine T_istore dL_isContained_118 (Nat.le_of_ble_eq_true rfl) ?_
        refine T_iload dL_isContained_120 rfl ?_
        refine T_if_ne dL_isContained_122 (t := 172) rfl (fun hc => absurd hc (by omega)) (fun _ => ?_)
        refine T_iconst dL_isContained_125 (by decide) ?_
        refine T_istore dL_isContained_126 (Nat.le_of_ble_eq_true rfl) ?_
        exact m_L_isContained_128 hP hB hW huv hQ _ w 0 _ rfl _ pw_105 (by omega) (hcE (by omega)) (by omega) 
    · refine T_iconst dL_isContained_76 (by decide) ?_
      refine T_goto dL_isContained_77 (t := 81) rfl ?_
      refine T_icmp_ne dL_isContained_81 (t := 117) rfl (fun hc => absurd hc (by omega)) (fun _ => ?_)
      refine T_iload_n dL_isContained_84 rfl ?_
      refine T_if_lt dL_isContained_85 (t := 117) rfl (fun hc => absurd hc (by omega)) (fun _ => ?_)
      refine T_iload_n dL_isContained_88 rfl ?_
      refine T_iload dL_isContained_89 rfl ?_
      refine T_iadd dL_isContained_91 ⟨by omega, by omega⟩ ?_
      refine T_aload_n dL_isContained_92 rfl ?_
      refine T_callV dL_isContained_93 zkm_20_107 (Or.inl rfl) rfl (wAt.ob pw_26) ⟨Nat.le_of_ble_eq_true rfl, rfl⟩ rfl (Nat.le_of_ble_eq_true rfl) ?_
      refine w_X9_coneCount  hP hB pw_26 (fun k'93 hh93 k93a pw_93 => ?_)
      refine T_icmp_gt dL_isContained_96 (t := 117) rfl (fun hc => absurd hc (by omega)) (fun _ => ?_)
      refine T_iload_n dL_isContained_99 rfl ?_
      refine T_if_gt dL_isContained_100 (t := 113) rfl (fun c100 => ?_) (fun c100 => ?_)
      · refine T_iconst dL_isContained_113 (by decide) ?_
        refine T_goto dL_isContained_114 (t := 118) rfl ?_
        refine T_istore dL_isContained_118 (Nat.le_of_ble_eq_true rfl) ?_
        refine T_iload dL_isContained_120 rfl ?_
        refine T_if_ne dL_isContained_122 (t := 172) rfl (fun _ => ?_) (fun hc => absurd hc (by omega))
        refine T_iload dL_isContained_172 rfl ?_
        refine T_iret dL_isContained_174 rfl ?_
        exact hQ _ _ (by omega) pw_93
      · refine T_iload_n dL_isContained_103 rfl ?_
        refine T_aload_n dL_isContained_104 rfl ?_
        refine T_callV dL_isContained_105 zkm_20_107 (Or.inl rfl) rfl (wAt.ob pw_93) ⟨Nat.le_of_ble_eq_true rfl, rfl⟩ rfl (Nat.le_of_ble_eq_true rfl) ?_
        refine w_X9_coneCount  hP hB pw_93 (fun k'105 hh105 k105a pw_105 => ?_)
        refine T_iconst dL_isContained_108 (by decide) ?_
        refine T_isub dL_isContained_109 ⟨by omega, by omega⟩ ?_
        refine T_icmp_ne dL_isContained_110 (t := 117) rfl (fun hc => absurd hc (by omega)) (fun _ => ?_)
        refine T_iconst dL_isContained_113 (by decide) ?_
        refine T_goto dL_isContained_114 (t := 118) rfl ?_
        refine T_istore dL_isContained_118 (Nat.le_of_ble_eq_true rfl) ?_
        refine T_iload dL_isContained_120 rfl ?_
        refine T_if_ne dL_isContained_122 (t := 172) rfl (fun _ => ?_) (fun hc => absurd hc (by omega))
        refine T_iload dL_isContained_172 rfl ?_
        refine T_iret dL_isContained_174 rfl ?_
        exact hQ _ _ (by omega) pw_105
  · refine T_iload dL_isContained_32 rfl ?_
    refine T_if_ne dL_isContained_34 (t := 56) rfl (fun c34 => ?_) (fun c34 => ?_)
    · refine T_iconst dL_isContained_56 (by decide) ?_
      refine T_goto dL_isContained_57 (t := 61) rfl ?_
      refine T_istore dL_isContained_61 (Nat.le_of_ble_eq_true rfl) ?_
      refine T_iinc dL_isContained_63 rfl ⟨by omega, by omega⟩ ?_
      refine T_goto dL_isContained_66 (t := 21) rfl ?_
      exact ih _ (by omega) 1 (i + 1) _ _ rfl _ pw_26 (by omega) (Or.inr ⟨rfl, (hw.resolve_left (fun z => c34 (by have := z.1; omega))).2⟩) (by omega) 
    · obtain ⟨hq1, hq2, hq3⟩ := pW_pos hP (show i + 1 < pN P by omega)
      refine T_iload_n dL_isContained_37 rfl ?_
      refine T_aload_n dL_isContained_38 rfl ?_
      refine T_iload dL_isContained_39 rfl ?_
      refine T_callV dL_isContained_41 zkm_20_86 (Or.inl rfl) rfl (wAt.ob pw_26) ⟨Nat.le_of_ble_eq_true rfl, rfl⟩ rfl (Nat.le_of_ble_eq_true rfl) ?_
      refine w_X9_wallNumerator  hP hB pw_26 (by omega) (fun k'41 hh41 k41a pw_41 => ?_)
      refine T_imul dL_isContained_44 (zmulR (by omega) (by omega) (by omega) (by omega)) ?_
      refine T_iload_n dL_isContained_45 rfl ?_
      refine T_aload_n dL_isContained_46 rfl ?_
      refine T_iload dL_isContained_47 rfl ?_
      refine T_callV dL_isContained_49 zkm_20_83 (Or.inl rfl) rfl (wAt.ob pw_41) ⟨Nat.le_of_ble_eq_true rfl, rfl⟩ rfl (Nat.le_of_ble_eq_true rfl) ?_
      refine w_X9_wallDenominator  hP hB pw_41 (by omega) (fun k'49 hh49 k49a pw_49 => ?_)
      refine T_imul dL_isContained_52 (zmulR (by omega) (by omega) (by omega) (by omega)) ?_
      refine T_icmp_ne dL_isContained_53 (t := 60) rfl (fun c53 => ?_) (fun c53 => ?_)
      · refine T_iconst dL_isContained_60 (by decide) ?_
        refine T_istore dL_isContained_61 (Nat.le_of_ble_eq_true rfl) ?_
        refine T_iinc dL_isContained_63 rfl ⟨by omega, by omega⟩ ?_
        refine T_goto dL_isContained_66 (t := 21) rfl ?_
        exact ih _ (by omega) 0 (i + 1) _ _ rfl _ pw_49 (by omega) (Or.inl ⟨rfl, fun q hq hq2 => by
              by_cases e : q = i
              · rw [e]; exact c53
              · rcases hw with z | z
                · exact z.2 q (by omega) hq2
                · exfalso; have := z.1; omega⟩) (by omega) 
      · refine T_iconst dL_isContained_56 (by decide) ?_
        refine T_goto dL_isContained_57 (t := 61) rfl ?_
        refine T_istore dL_isContained_61 (Nat.le_of_ble_eq_true rfl) ?_
        refine T_iinc dL_isContained_63 rfl ⟨by omega, by omega⟩ ?_
        refine T_goto dL_isContained_66 (t := 21) rfl ?_
        exact ih _ (by omega) 1 (i + 1) _ _ rfl _ pw_49 (by omega) (Or.inr ⟨rfl, i, by omega, by
              refine Classical.byContradiction fun e => ?_
              exact c53 e⟩) (by omega) 
set_option maxHeartbeats 4000000 in
set_option maxRecDepth 100000 in
theorem m_L_isContained {n0 n k : Nat} {g : Nat → zV} {h : zHp} {Q : Option zV → Nat → Nat → zHp → Prop} {B sA len : Nat} {u v : Int} {P : pT} {C f : Nat → Int} (hP : pwf P) (hB : n0 ≤ B) (hW : wAt g h B n P C sA len f) (huv : sWt u v) (hQ : ∀ (k' : Nat) (h' : zHp), (k' ≤ k) → (wAt g h' B n P C sA len f) → Q (some (.inl 1)) n k' h') : ZT n0 g mL_isContained 0 (zloc mL_isContained [.inr (some B), .inl u, .inl v]) [] n k h Q := by
  show ZT n0 g mL_isContained 0 [some (.inr (some B)), some (.inl u), some (.inl v), none, none, none, none, none] [] n k h Q
  obtain ⟨⟨u0, u1, v0, v1⟩, une⟩ := id huv
  obtain ⟨hz, hon, hu9, hoff⟩ := pCont hP huv
  have hN23 := (pN_is hP).2.1
  have hN1 := (pN_is hP).1
  refine T_aload_n dL_isContained_0 rfl ?_
  refine T_iload_n dL_isContained_1 rfl ?_
  refine T_iload_n dL_isContained_2 rfl ?_
  refine T_callV dL_isContained_3 zkm_20_92 (Or.inl rfl) rfl (wAt.ob hW) ⟨Nat.le_of_ble_eq_true rfl, rfl⟩ rfl (Nat.le_of_ble_eq_true rfl) ?_
  refine w_X9_firstConeContaining  hP hB hW huv (fun k'3 hh3 k3a pw_3 => ?_)
  refine T_istore_n dL_isContained_6 (Nat.le_of_ble_eq_true rfl) ?_
  refine T_aload_n dL_isContained_7 rfl ?_
  refine T_iload_n dL_isContained_8 rfl ?_
  refine T_iload_n dL_isContained_9 rfl ?_
  refine T_callV dL_isContained_10 zkm_20_89 (Or.inl rfl) rfl (wAt.ob pw_3) ⟨Nat.le_of_ble_eq_true rfl, rfl⟩ rfl (Nat.le_of_ble_eq_true rfl) ?_
  refine w_X9_conesContaining  hP hB pw_3 (fun k'10 hh10 k10a pw_10 => ?_)
  refine T_istore dL_isContained_13 (Nat.le_of_ble_eq_true rfl) ?_
  refine T_iconst dL_isContained_15 (by decide) ?_
  refine T_istore dL_isContained_16 (Nat.le_of_ble_eq_true rfl) ?_
  refine T_iconst dL_isContained_18 (by decide) ?_
  refine T_istore dL_isContained_19 (Nat.le_of_ble_eq_true rfl) ?_
  exact m_L_isContained_21 hP hB hW huv hQ _ 0 0 _ _ rfl _ pw_10 (by omega) (Or.inl ⟨rfl, fun q hq => absurd hq (Nat.not_lt_zero q)⟩) (by omega) 
set_option maxHeartbeats 4000000 in
set_option maxRecDepth 100000 in
theorem m_L_isUniversal_55 {n0 n k : Nat} {g : Nat → zV} {h : zHp} {Q : Option zV → Nat → Nat → zHp → Prop} {B sA len : Nat} {P : pT} {C f : Nat → Int} (hP : pwf P) (hB : n0 ≤ B) (hW : wAt g h B n P C sA len f) (hQ : ∀ (k' : Nat) (h' : zHp), (k' ≤ k) → (wAt g h' B n P C sA len f) → Q (some (.inl 1)) n k' h') : ∀ (d : Nat) (a : Int) (dg : Int) (mo : Int) (i : Nat) (j : Nat) (m : Nat) (kk1 : Nat), ((pN P - i) * 5 + (4 - j)) * 82 + (81 - m) = d → ∀ h1 : zHp, (wAt g h1 B n P C sA len f) → (i < pN P) → (j < (pB P i).2.1) → (m ≤ 81) → ((a = (zSz (pB P) (i + 1) : Int)) ∧ (0 ≤ mo ∧ mo ≤ (zuc (pB P) (pN P) : Int))) → (zdg P i j m dg) → (kk1 ≤ k) → ZT n0 g mL_isUniversal 55 [some (.inr (some B)), some (.inl a), some (.inl dg), some (.inl mo), some (.inl (i : Int)), some (.inl (j : Int)), some (.inl (m : Int))] [] n kk1 h1 Q := by
  intro d
  induction d using Nat.strongRecOn with | _ d ih => ?_
  intro a dg mo i j m kk1 hd0 h1 hW1 hi hj hm ha hd hk
  subst hd0
  have hN23 := (pN_is hP).2.1
  have hN1 := (pN_is hP).1
  have hzs := zuc_sz (pB P) (pN P)
  have hz4 := zSz_le (B := pB P) (N := pN P) (fun i _ => (pB_facts hP i).1)
  have hz88 := hz4 (pN P) (Nat.le_refl _)
  have hb4 := (pB_facts hP i).1
  have hd16 := hd.1
  have hzi := hz4 (i + 1) (by omega)
  refine T_iload dL_isUniversal_55 rfl ?_
  refine T_bipush dL_isUniversal_57 (by decide) ?_
  refine T_icmp_ge dL_isUniversal_59 (t := 109) rfl (fun c59 => ?_) (fun c59 => ?_)
  · have em : m = 81 := by omega
    have hd9 : zdg P i j 81 dg := by rw [← em]; exact hd
    refine T_iinc dL_isUniversal_109 rfl ⟨by omega, by omega⟩ ?_
    refine T_goto dL_isUniversal_112 (t := 41) rfl ?_
    refine T_iload dL_isUniversal_41 rfl ?_
    refine T_aload_n dL_isUniversal_43 rfl ?_
    refine T_iload dL_isUniversal_44 rfl ?_
    refine T_callV dL_isUniversal_46 zkm_20_76 (Or.inl rfl) rfl (wAt.ob hW1) ⟨Nat.le_of_ble_eq_true rfl, rfl⟩ rfl (Nat.le_of_ble_eq_true rfl) ?_
    refine w_X9_basisSize  hP hB hW1 (by omega) (fun k'46 hh46 k46a k46b pw_46 => ?_)
    refine T_icmp_ge dL_isUniversal_49 (t := 115) rfl (fun c49 => ?_) (fun c49 => ?_)
    · refine T_iinc dL_isUniversal_115 rfl ⟨by omega, by omega⟩ ?_
      refine T_goto dL_isUniversal_118 (t := 9) rfl ?_
      refine T_iload dL_isUniversal_9 rfl ?_
      refine T_aload_n dL_isUniversal_11 rfl ?_
      refine T_callV dL_isUniversal_12 zkm_20_107 (Or.inl rfl) rfl (wAt.ob pw_46) ⟨Nat.le_of_ble_eq_true rfl, rfl⟩ rfl (Nat.le_of_ble_eq_true rfl) ?_
      refine w_X9_coneCount  hP hB pw_46 (fun k'12 hh12 k12a pw_12 => ?_)
      refine T_icmp_ge dL_isUniversal_15 (t := 121) rfl (fun c15 => ?_) (fun c15 => ?_)
      · have hud : s_ud P = dg := ((hd9.poly hP).cone (by omega)).ud (by omega)
        have hN9 : pN P = i + 1 := by omega
        have hzs9 : zuc (pB P) (pN P) ≤ zSz (pB P) (i + 1) := by
          have z := hzs
          rw [hN9] at z ⊢
          exact z
        refine T_aload_n dL_isUniversal_121 rfl ?_
        refine T_callV dL_isUniversal_122 zkm_20_115 (Or.inl rfl) rfl (wAt.ob pw_12) ⟨Nat.le_of_ble_eq_true rfl, rfl⟩ rfl (Nat.le_of_ble_eq_true rfl) ?_
        refine w_X9_universalDegree  hP hB pw_12 (fun k'122 hh122 k122a pw_122 => ?_)
        rw [hud]
        refine T_iload_n dL_isUniversal_125 rfl ?_
        refine T_icmp_ne dL_isUniversal_126 (t := 149) rfl (fun hc => absurd hc (by omega)) (fun _ => ?_)
        refine T_aload_n dL_isUniversal_129 rfl ?_
        refine T_callV dL_isUniversal_130 zkm_20_118 (Or.inl rfl) rfl (wAt.ob pw_122) ⟨Nat.le_of_ble_eq_true rfl, rfl⟩ rfl (Nat.le_of_ble_eq_true rfl) ?_
        refine w_X9_universalSize  hP hB pw_122 (fun k'130 hh130 k130a pw_130 => ?_)
        refine T_iload_n dL_isUniversal_133 rfl ?_
        refine T_icmp_gt dL_isUniversal_134 (t := 149) rfl (fun hc => absurd hc (by omega)) (fun _ => ?_)
        refine T_aload_n dL_isUniversal_137 rfl ?_
        refine T_callV dL_isUniversal_138 zkm_20_118 (Or.inl rfl) rfl (wAt.ob pw_130) ⟨Nat.le_of_ble_eq_true rfl, rfl⟩ rfl (Nat.le_of_ble_eq_true rfl) ?_
        refine w_X9_universalSize  hP hB pw_130 (fun k'138 hh138 k138a pw_138 => ?_)
        refine T_iload_n dL_isUniversal_141 rfl ?_
        refine T_icmp_lt dL_isUniversal_142 (t := 149) rfl (fun hc => absurd hc (by omega)) (fun _ => ?_)
        refine T_iconst dL_isUniversal_145 (by decide) ?_
        refine T_goto dL_isUniversal_146 (t := 150) rfl ?_
        refine T_iret dL_isUniversal_150 rfl ?_
        exact hQ _ _ (by omega) pw_138
      · refine T_iload_n dL_isUniversal_18 rfl ?_
        refine T_aload_n dL_isUniversal_19 rfl ?_
        refine T_iload dL_isUniversal_20 rfl ?_
        refine T_callV dL_isUniversal_22 zkm_20_76 (Or.inl rfl) rfl (wAt.ob pw_12) ⟨Nat.le_of_ble_eq_true rfl, rfl⟩ rfl (Nat.le_of_ble_eq_true rfl) ?_
        refine w_X9_basisSize (c := (i + 1))  hP hB pw_12 (by omega) (fun k'22 hh22 k22a k22b pw_22 => ?_)
        refine T_iadd dL_isUniversal_25 ⟨by omega, by omega⟩ ?_
        refine T_istore_n dL_isUniversal_26 (Nat.le_of_ble_eq_true rfl) ?_
        refine T_iload_n dL_isUniversal_27 rfl ?_
        refine T_aload_n dL_isUniversal_28 rfl ?_
        refine T_iload dL_isUniversal_29 rfl ?_
        refine T_callV dL_isUniversal_31 zkm_20_76 (Or.inl rfl) rfl (wAt.ob pw_22) ⟨Nat.le_of_ble_eq_true rfl, rfl⟩ rfl (Nat.le_of_ble_eq_true rfl) ?_
        refine w_X9_basisSize (c := (i + 1))  hP hB pw_22 (by omega) (fun k'31 hh31 k31a k31b pw_31 => ?_)
        refine T_callS dL_isUniversal_34 zkm_20_110 ⟨Nat.le_of_ble_eq_true rfl, Nat.le_of_ble_eq_true rfl, rfl⟩ rfl (Nat.le_of_ble_eq_true rfl) ?_
        refine m_Jmax   ?_
        refine T_istore_n dL_isUniversal_37 (Nat.le_of_ble_eq_true rfl) ?_
        refine T_iconst dL_isUniversal_38 (by decide) ?_
        refine T_istore dL_isUniversal_39 (Nat.le_of_ble_eq_true rfl) ?_
        refine T_iload dL_isUniversal_41 rfl ?_
        refine T_aload_n dL_isUniversal_43 rfl ?_
        refine T_iload dL_isUniversal_44 rfl ?_
        refine T_callV dL_isUniversal_46 zkm_20_76 (Or.inl rfl) rfl (wAt.ob pw_31) ⟨Nat.le_of_ble_eq_true rfl, rfl⟩ rfl (Nat.le_of_ble_eq_true rfl) ?_
        refine w_X9_basisSize (c := (i + 1))  hP hB pw_31 (by omega) (fun k'46_2 hh46 k46a_2 k46b_2 pw_46_2 => ?_)
        refine T_icmp_ge dL_isUniversal_49 (t := 115) rfl (fun hc => absurd hc (by omega)) (fun _ => ?_)
        refine T_iconst dL_isUniversal_52 (by decide) ?_
        refine T_istore dL_isUniversal_53 (Nat.le_of_ble_eq_true rfl) ?_
        exact ih _ (by omega) (a + ((pB P (i + 1)).2.1 : Int)) dg (max mo ((pB P (i + 1)).2.1 : Int)) (i + 1) 0 0 _ rfl _ pw_46_2 (by omega) (by omega) (by omega) ⟨by show _ = ((zSz (pB P) (i + 1) + (pB P (i + 1)).2.1 : Nat) : Int); omega, by omega⟩ ((hd9.poly hP).cone (by omega)) (by omega) 
    · refine T_iconst dL_isUniversal_52 (by decide) ?_
      refine T_istore dL_isUniversal_53 (Nat.le_of_ble_eq_true rfl) ?_
      exact ih _ (by omega) a dg mo i (j + 1) 0 _ rfl _ pw_46 (by omega) (by omega) (by omega) ha (hd9.poly hP) (by omega) 
  · refine T_aload_n dL_isUniversal_62 rfl ?_
    refine T_iload dL_isUniversal_63 rfl ?_
    refine T_iload dL_isUniversal_65 rfl ?_
    refine T_iload dL_isUniversal_67 rfl ?_
    refine T_bipush dL_isUniversal_69 (by decide) ?_
    refine T_idivN dL_isUniversal_71 ⟨by omega, by omega⟩ (by omega) ?_
    refine T_iload dL_isUniversal_72 rfl ?_
    refine T_bipush dL_isUniversal_74 (by decide) ?_
    refine T_iremN dL_isUniversal_76 ⟨by omega, by omega⟩ (by omega) ?_
    refine T_callV dL_isUniversal_77 zkm_20_59 (Or.inl rfl) rfl (wAt.ob hW1) ⟨Nat.le_of_ble_eq_true rfl, rfl⟩ rfl (Nat.le_of_ble_eq_true rfl) ?_
    refine w_X9_basisCoefficient (a := (m / 9)) (b := (m % 9))  hP hB hW1 (by omega) (by omega) (by omega) (fun k'77 hh77 k77a pw_77 => ?_)
    rw [show 9 * (m / 9) + m % 9 = m by omega]
    refine T_if_eq dL_isUniversal_80 (t := 101) rfl (fun c80 => ?_) (fun c80 => ?_)
    · refine T_iload_n dL_isUniversal_101 rfl ?_
      refine T_istore_n dL_isUniversal_102 (Nat.le_of_ble_eq_true rfl) ?_
      refine T_iinc dL_isUniversal_103 rfl ⟨by omega, by omega⟩ ?_
      refine T_goto dL_isUniversal_106 (t := 55) rfl ?_
      exact ih _ (by omega) a dg mo i j (m + 1) _ rfl _ pw_77 (by omega) (by omega) (by omega) ha (hd.skip c80) (by omega) 
    · refine T_iload_n dL_isUniversal_83 rfl ?_
      refine T_iload dL_isUniversal_84 rfl ?_
      refine T_bipush dL_isUniversal_86 (by decide) ?_
      refine T_idivN dL_isUniversal_88 ⟨by omega, by omega⟩ (by omega) ?_
      refine T_iload dL_isUniversal_89 rfl ?_
      refine T_bipush dL_isUniversal_91 (by decide) ?_
      refine T_iremN dL_isUniversal_93 ⟨by omega, by omega⟩ (by omega) ?_
      refine T_iadd dL_isUniversal_94 ⟨by omega, by omega⟩ ?_
      refine T_callS dL_isUniversal_95 zkm_20_110 ⟨Nat.le_of_ble_eq_true rfl, Nat.le_of_ble_eq_true rfl, rfl⟩ rfl (Nat.le_of_ble_eq_true rfl) ?_
      refine m_Jmax   ?_
      refine T_goto dL_isUniversal_98 (t := 102) rfl ?_
      refine T_istore_n dL_isUniversal_102 (Nat.le_of_ble_eq_true rfl) ?_
      refine T_iinc dL_isUniversal_103 rfl ⟨by omega, by omega⟩ ?_
      refine T_goto dL_isUniversal_106 (t := 55) rfl ?_
      exact ih _ (by omega) a (max dg ((m : Int) / 9 + (m : Int) % 9)) mo i j (m + 1) _ rfl _ pw_77 (by omega) (by omega) (by omega) ha (hd.take hi hj (by omega) c80) (by omega) 
set_option maxHeartbeats 4000000 in
set_option maxRecDepth 100000 in
theorem m_L_isUniversal {n0 n k : Nat} {g : Nat → zV} {h : zHp} {Q : Option zV → Nat → Nat → zHp → Prop} {B sA len : Nat} {P : pT} {C f : Nat → Int} (hP : pwf P) (hB : n0 ≤ B) (hW : wAt g h B n P C sA len f) (hQ : ∀ (k' : Nat) (h' : zHp), (k' ≤ k) → (wAt g h' B n P C sA len f) → Q (some (.inl 1)) n k' h') : ZT n0 g mL_isUniversal 0 (zloc mL_isUniversal [.inr (some B)]) [] n k h Q := by
  show ZT n0 g mL_isUniversal 0 [some (.inr (some B)), none, none, none, none, none, none] [] n k h Q
  have hN23 := (pN_is hP).2.1
  have hN1 := (pN_is hP).1
  have hzs := zuc_sz (pB P) (pN P)
  have hz4 := zSz_le (B := pB P) (N := pN P) (fun i _ => (pB_facts hP i).1)
  have hz88 := hz4 (pN P) (Nat.le_refl _)
  refine T_iconst dL_isUniversal_0 (by decide) ?_
  refine T_istore_n dL_isUniversal_1 (Nat.le_of_ble_eq_true rfl) ?_
  refine T_iconst dL_isUniversal_2 (by decide) ?_
  refine T_istore_n dL_isUniversal_3 (Nat.le_of_ble_eq_true rfl) ?_
  refine T_iconst dL_isUniversal_4 (by decide) ?_
  refine T_istore_n dL_isUniversal_5 (Nat.le_of_ble_eq_true rfl) ?_
  refine T_iconst dL_isUniversal_6 (by decide) ?_
  refine T_istore dL_isUniversal_7 (Nat.le_of_ble_eq_true rfl) ?_
  refine T_iload dL_isUniversal_9 rfl ?_
  refine T_aload_n dL_isUniversal_11 rfl ?_
  refine T_callV dL_isUniversal_12 zkm_20_107 (Or.inl rfl) rfl (wAt.ob hW) ⟨Nat.le_of_ble_eq_true rfl, rfl⟩ rfl (Nat.le_of_ble_eq_true rfl) ?_
  refine w_X9_coneCount  hP hB hW (fun k'12 hh12 k12a pw_12 => ?_)
  refine T_icmp_ge dL_isUniversal_15 (t := 121) rfl (fun hc => absurd hc (by omega)) (fun _ => ?_)
  refine T_iload_n dL_isUniversal_18 rfl ?_
  refine T_aload_n dL_isUniversal_19 rfl ?_
  refine T_iload dL_isUniversal_20 rfl ?_
  refine T_callV dL_isUniversal_22 zkm_20_76 (Or.inl rfl) rfl (wAt.ob pw_12) ⟨Nat.le_of_ble_eq_true rfl, rfl⟩ rfl (Nat.le_of_ble_eq_true rfl) ?_
  refine w_X9_basisSize (c := 0)  hP hB pw_12 (by omega) (fun k'22 hh22 k22a k22b pw_22 => ?_)
  refine T_iadd dL_isUniversal_25 ⟨by omega, by omega⟩ ?_
  refine T_istore_n dL_isUniversal_26 (Nat.le_of_ble_eq_true rfl) ?_
  refine T_iload_n dL_isUniversal_27 rfl ?_
  refine T_aload_n dL_isUniversal_28 rfl ?_
  refine T_iload dL_isUniversal_29 rfl ?_
  refine T_callV dL_isUniversal_31 zkm_20_76 (Or.inl rfl) rfl (wAt.ob pw_22) ⟨Nat.le_of_ble_eq_true rfl, rfl⟩ rfl (Nat.le_of_ble_eq_true rfl) ?_
  refine w_X9_basisSize (c := 0)  hP hB pw_22 (by omega) (fun k'31 hh31 k31a k31b pw_31 => ?_)
  refine T_callS dL_isUniversal_34 zkm_20_110 ⟨Nat.le_of_ble_eq_true rfl, Nat.le_of_ble_eq_true rfl, rfl⟩ rfl (Nat.le_of_ble_eq_true rfl) ?_
  refine m_Jmax   ?_
  refine T_istore_n dL_isUniversal_37 (Nat.le_of_ble_eq_true rfl) ?_
  refine T_iconst dL_isUniversal_38 (by decide) ?_
  refine T_istore dL_isUniversal_39 (Nat.le_of_ble_eq_true rfl) ?_
  refine T_iload dL_isUniversal_41 rfl ?_
  refine T_aload_n dL_isUniversal_43 rfl ?_
  refine T_iload dL_isUniversal_44 rfl ?_
  refine T_callV dL_isUniversal_46 zkm_20_76 (Or.inl rfl) rfl (wAt.ob pw_31) ⟨Nat.le_of_ble_eq_true rfl, rfl⟩ rfl (Nat.le_of_ble_eq_true rfl) ?_
  refine w_X9_basisSize (c := 0)  hP hB pw_31 (by omega) (fun k'46 hh46 k46a k46b pw_46 => ?_)
  refine T_icmp_ge dL_isUniversal_49 (t := 115) rfl (fun hc => absurd hc (by omega)) (fun _ => ?_)
  refine T_iconst dL_isUniversal_52 (by decide) ?_
  refine T_istore dL_isUniversal_53 (Nat.le_of_ble_eq_true rfl) ?_
  exact m_L_isUniversal_55 hP hB hW hQ _ (0 + ((pB P 0).2.1 : Int)) 0 (max 0 ((pB P 0).2.1 : Int)) 0 0 0 _ rfl _ pw_46 (by omega) (by omega) (by omega) ⟨by show (0 + ((pB P 0).2.1 : Int)) = ((0 + (pB P 0).2.1 : Nat) : Int); omega, by omega⟩ zdg.zero (by omega) 
