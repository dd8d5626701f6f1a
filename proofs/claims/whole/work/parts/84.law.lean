/-! ===== the law: one call on each side, the same answer: printed by wip/whole/gen/s_law.py ===== -/
theorem rfAt.frame {h h' : zHp} {m : Nat} {P : pT} {L : lT} {I O : tT} {V : Int × pT} (g : rfAt h m P L I O V) (f : ∀ q, m ≤ q → q < m + 33 → h' q = h q) : rfAt h' m P L I O V := by
  obtain ⟨fk, z, c, cn, en, ax, nu, sp, ss, hM, rp, rc, rk, rf, ry, ri, ro, rl, rv⟩ := g
  exact ⟨fk, z, c, cn, en, ax, nu, sp, ss, (f _ (by omega) (by omega)).trans hM, rp.frame (fun q a b => f q (by omega) (by omega)), rc.frame (fun q a b => f q (by omega) (by omega)), rk.frame (fun q a b => f q (by omega) (by omega)), rf.frame (fun q a b => f q (by omega) (by omega)), ry.frame (fun q a b => f q (by omega) (by omega)), ri.frame (fun q a b => f q (by omega) (by omega)), ro.frame (fun q a b => f q (by omega) (by omega)), rl.frame (fun q a b => f q (by omega) (by omega)), rv.frame (fun q a b => f q (by omega) (by omega))⟩
theorem clAt.frame {h h' : zHp} {B lo n n' : Nat} {P : pT} {L : lT} {I O : tT} {V : Int × pT} {nb vb N : Nat} {cb : Nat → Nat} (g : clAt h B lo n P L I O V nb cb vb N) (hP : pwf P) (hn : n ≤ n') (f : ∀ q, (B ≤ q ∧ q < B + 396) ∨ lo ≤ q → h' q = h q) : clAt h' B lo n' P L I O V nb cb vb N := by
  obtain ⟨o0, gp, gc, gsp, gsc, gw, gf, gi, go, gl, gsep, hlo⟩ := g
  have gvb := go.vb
  have gcb := gf.co.2.2.1
  exact ⟨(f _ (by omega)).trans o0, gp.frame (fun q a b => f q (by omega)), gc.frame (fun q a b => f q (by omega)), gsp.frame (fun q a b => f q (by omega)), gsc.frame (fun q a b => f q (by omega)), gw.frame (fun q a b => f q (by omega)), gf.frame hP hn (fun q a b => f q (by omega)) (fun i hi q a b => by have := gcb i hi; exact f q (by omega)), gi.frame (fun q a b => f q (by omega)), go.frame hn (f _ (by omega)) (f _ (by omega)), gl.frame (fun q a b => f q (by omega)), gsep, ⟨hlo.1, by omega⟩⟩
theorem prOk.frame {g : Nat → zV} {h h' : zHp} {B : Nat} (d : prOk g h B) (f : ∀ q, q < B → h' q = h q) : prOk g h' B := by
  obtain ⟨pa, pf, a1, a2, a3, a4⟩ := d
  exact ⟨pa, pf, a1, a2, (f _ a2).trans a3, a4⟩
/-- what holds between two calls: one state, two pictures -/
def lawI (g : Nat → zV) (h : zHp) (B sA len : Nat) (f : Nat → Int) (n k K0 : Nat) : Prop := ∃ (P : pT) (L : lT) (I O : tT) (V : Int × pT) (nb : Nat) (cb : Nat → Nat) (vb N : Nat), clAt h B (B + 429) n P L I O V nb cb vb N ∧ rfAt h (B + 396) P L I O V ∧ (pwf P ∧ lwf L ∧ iwf I ∧ owf O ∧ vwf V) ∧ (n ≤ B + 429 + 15 * nb + N ∧ k ≤ K0 + 110 * nb + 3 * N) ∧ prOk g h B ∧ dgOk g h B ∧ sA < B ∧ h sA = some (.inr (.inl (0, len, f)))
set_option maxHeartbeats 4000000 in
set_option maxRecDepth 100000 in
theorem law_0 {n0 n k : Nat} {g : Nat → zV} {h : zHp} {Q : Option zV → Nat → Nat → zHp → Prop} {B nb vb N i sA len K0 : Nat} {cb : Nat → Nat} {P : pT} {L : lT} {I O : tT} {V : Int × pT} {f : Nat → Int} {r4 : Option Nat} (hg0 : g 0 = .inl 1) (hg4 : g 4 = .inr r4) (hB : n0 ≤ B) (hP : pwf P) (hL : lwf L) (hI : iwf I) (hO : owf O) (hV : vwf V) (hcl : clAt h B (B + 429) n P L I O V nb cb vb N) (hrf : rfAt h (B + 396) P L I O V) (hcn : n ≤ B + 429 + 15 * nb + N ∧ k ≤ K0 + 110 * nb + 3 * N) (hpr : prOk g h B) (hdg : dgOk g h B) (hs1 : sA < B) (hs2 : h sA = some (.inr (.inl (0, len, f)))) (hf : ∀ j, j < len → zR (f j)) (hi : i + 5 ≤ len ∧ len ≤ 2560) (J1531 : ∀ (n' k' : Nat) (h' : zHp), lawI g h' B sA len f n' k' K0 → ZT n0 g mL_law 1531 [some (.inr (some sA)), some (.inr (some B)), some (.inr (some (B + 396))), some (.inl (i : Int))] [] n' k' h' Q) : ZT n0 g mL_law 244 [some (.inr (some sA)), some (.inr (some B)), some (.inr (some (B + 396))), some (.inl (i : Int))] [] n k h Q := by
  have o0 := hcl.1
  obtain ⟨_, _, _, _, _, _, _, _, _, hM9, -⟩ := id hrf
  refine T_aload_n dL_law_244 rfl ?_
  refine T_aload_n dL_law_245 rfl ?_
  refine T_iload_n dL_law_246 rfl ?_
  refine T_iconst dL_law_247 (by decide) ?_
  refine T_iadd dL_law_248 ⟨by omega, by omega⟩ ?_
  refine T_ialoadN (m := (i + 1)) dL_law_249 hs2 rfl (by omega) ?_
  refine T_callV dL_law_250 zkm_20_13 (Or.inl rfl) rfl o0 ⟨Nat.le_of_ble_eq_true rfl, rfl⟩ rfl (Nat.le_of_ble_eq_true rfl) ?_
  refine m_X9_setPrime  hP hL hI hO hV hB hcl hpr (fun hh250 pc_250 pf_250 => ?_)
  have hrf2 := hrf.frame (fun q a1 a2 => pf_250 q (by omega))
  obtain ⟨_, _, _, _, _, _, _, _, _, hM9, -⟩ := id hrf2
  refine T_aload_n dL_law_253 rfl ?_
  refine T_aload_n dL_law_254 rfl ?_
  refine T_iload_n dL_law_255 rfl ?_
  refine T_iconst dL_law_256 (by decide) ?_
  refine T_iadd dL_law_257 ⟨by omega, by omega⟩ ?_
  refine T_ialoadN (m := (i + 1)) dL_law_258 ((pf_250 _ (by omega)).trans hs2) rfl (by omega) ?_
  refine T_callV dL_law_259 zkm_20_17 (Or.inl rfl) rfl hM9 ⟨Nat.le_of_ble_eq_true rfl, rfl⟩ rfl (Nat.le_of_ble_eq_true rfl) ?_
  refine m_X10_setPrime  hP hL hI hO hV (by omega) hrf2 (fun hh259 pr_259 pf_259 => ?_)
  refine T_icmp_eq dL_law_262 (t := 1531) rfl (fun _ => ?_) (fun hc => absurd rfl hc)
  exact J1531 _ _ _   ⟨_, _, _, _, _, _, _, _, _, (pc_250.frame (wf_prime hP _) (Nat.le_refl _) (fun q hq => pf_259 q (by omega))), pr_259, ⟨(wf_prime hP _), hL, hI, hO, hV⟩, (by omega), (hpr.frame (fun q hq => ((pf_259 q (by omega)).trans ((pf_250 q (by omega)).trans rfl)))), (hdg.frame (fun q hq => ((pf_259 q (by omega)).trans ((pf_250 q (by omega)).trans rfl)))), hs1, ((pf_259 _ (by omega)).trans ((pf_250 _ (by omega)).trans hs2))⟩
set_option maxHeartbeats 4000000 in
set_option maxRecDepth 100000 in
theorem law_1 {n0 n k : Nat} {g : Nat → zV} {h : zHp} {Q : Option zV → Nat → Nat → zHp → Prop} {B nb vb N i sA len K0 : Nat} {cb : Nat → Nat} {P : pT} {L : lT} {I O : tT} {V : Int × pT} {f : Nat → Int} {r4 : Option Nat} (hg0 : g 0 = .inl 1) (hg4 : g 4 = .inr r4) (hB : n0 ≤ B) (hP : pwf P) (hL : lwf L) (hI : iwf I) (hO : owf O) (hV : vwf V) (hcl : clAt h B (B + 429) n P L I O V nb cb vb N) (hrf : rfAt h (B + 396) P L I O V) (hcn : n ≤ B + 429 + 15 * nb + N ∧ k ≤ K0 + 110 * nb + 3 * N) (hpr : prOk g h B) (hdg : dgOk g h B) (hs1 : sA < B) (hs2 : h sA = some (.inr (.inl (0, len, f)))) (hf : ∀ j, j < len → zR (f j)) (hi : i + 5 ≤ len ∧ len ≤ 2560) (J1531 : ∀ (n' k' : Nat) (h' : zHp), lawI g h' B sA len f n' k' K0 → ZT n0 g mL_law 1531 [some (.inr (some sA)), some (.inr (some B)), some (.inr (some (B + 396))), some (.inl (i : Int))] [] n' k' h' Q) : ZT n0 g mL_law 267 [some (.inr (some sA)), some (.inr (some B)), some (.inr (some (B + 396))), some (.inl (i : Int))] [] n k h Q := by
  have o0 := hcl.1
  obtain ⟨_, _, _, _, _, _, _, _, _, hM9, -⟩ := id hrf
  refine T_aload_n dL_law_267 rfl ?_
  refine T_callV dL_law_268 zkm_20_18 (Or.inl rfl) rfl o0 ⟨Nat.le_of_ble_eq_true rfl, rfl⟩ rfl (Nat.le_of_ble_eq_true rfl) ?_
  refine m_X9_prime  hP hL hI hO hV hB hcl ?_
  refine T_aload_n dL_law_271 rfl ?_
  refine T_callV dL_law_272 zkm_20_22 (Or.inl rfl) rfl hM9 ⟨Nat.le_of_ble_eq_true rfl, rfl⟩ rfl (Nat.le_of_ble_eq_true rfl) ?_
  refine m_X10_prime  hP hL hI hO hV (by omega) hrf ?_
  refine T_icmp_eq dL_law_275 (t := 1531) rfl (fun _ => ?_) (fun hc => absurd rfl hc)
  exact J1531 _ _ _   ⟨_, _, _, _, _, _, _, _, _, hcl, hrf, ⟨hP, hL, hI, hO, hV⟩, (by omega), hpr, hdg, hs1, hs2⟩
set_option maxHeartbeats 4000000 in
set_option maxRecDepth 100000 in
theorem law_2 {n0 n k : Nat} {g : Nat → zV} {h : zHp} {Q : Option zV → Nat → Nat → zHp → Prop} {B nb vb N i sA len K0 : Nat} {cb : Nat → Nat} {P : pT} {L : lT} {I O : tT} {V : Int × pT} {f : Nat → Int} {r4 : Option Nat} (hg0 : g 0 = .inl 1) (hg4 : g 4 = .inr r4) (hB : n0 ≤ B) (hP : pwf P) (hL : lwf L) (hI : iwf I) (hO : owf O) (hV : vwf V) (hcl : clAt h B (B + 429) n P L I O V nb cb vb N) (hrf : rfAt h (B + 396) P L I O V) (hcn : n ≤ B + 429 + 15 * nb + N ∧ k ≤ K0 + 110 * nb + 3 * N) (hpr : prOk g h B) (hdg : dgOk g h B) (hs1 : sA < B) (hs2 : h sA = some (.inr (.inl (0, len, f)))) (hf : ∀ j, j < len → zR (f j)) (hi : i + 5 ≤ len ∧ len ≤ 2560) (J1531 : ∀ (n' k' : Nat) (h' : zHp), lawI g h' B sA len f n' k' K0 → ZT n0 g mL_law 1531 [some (.inr (some sA)), some (.inr (some B)), some (.inr (some (B + 396))), some (.inl (i : Int))] [] n' k' h' Q) : ZT n0 g mL_law 280 [some (.inr (some sA)), some (.inr (some B)), some (.inr (some (B + 396))), some (.inl (i : Int))] [] n k h Q := by
  have o0 := hcl.1
  obtain ⟨_, _, _, _, _, _, _, _, _, hM9, -⟩ := id hrf
  refine T_aload_n dL_law_280 rfl ?_
  refine T_aload_n dL_law_281 rfl ?_
  refine T_iload_n dL_law_282 rfl ?_
  refine T_iconst dL_law_283 (by decide) ?_
  refine T_iadd dL_law_284 ⟨by omega, by omega⟩ ?_
  refine T_ialoadN (m := (i + 1)) dL_law_285 hs2 rfl (by omega) ?_
  refine T_aload_n dL_law_286 rfl ?_
  refine T_iload_n dL_law_287 rfl ?_
  refine T_iconst dL_law_288 (by decide) ?_
  refine T_iadd dL_law_289 ⟨by omega, by omega⟩ ?_
  refine T_ialoadN (m := (i + 2)) dL_law_290 hs2 rfl (by omega) ?_
  refine T_callV dL_law_291 zkm_20_23 (Or.inl rfl) rfl o0 ⟨Nat.le_of_ble_eq_true rfl, rfl⟩ rfl (Nat.le_of_ble_eq_true rfl) ?_
  refine m_X9_addPoint  hP hL hI hO hV hB hcl (fun hh291 pc_291 pf_291 => ?_)
  have hrf2 := hrf.frame (fun q a1 a2 => pf_291 q (by omega))
  obtain ⟨_, _, _, _, _, _, _, _, _, hM9, -⟩ := id hrf2
  refine T_aload_n dL_law_294 rfl ?_
  refine T_aload_n dL_law_295 rfl ?_
  refine T_iload_n dL_law_296 rfl ?_
  refine T_iconst dL_law_297 (by decide) ?_
  refine T_iadd dL_law_298 ⟨by omega, by omega⟩ ?_
  refine T_ialoadN (m := (i + 1)) dL_law_299 ((pf_291 _ (by omega)).trans hs2) rfl (by omega) ?_
  refine T_aload_n dL_law_300 rfl ?_
  refine T_iload_n dL_law_301 rfl ?_
  refine T_iconst dL_law_302 (by decide) ?_
  refine T_iadd dL_law_303 ⟨by omega, by omega⟩ ?_
  refine T_ialoadN (m := (i + 2)) dL_law_304 ((pf_291 _ (by omega)).trans hs2) rfl (by omega) ?_
  refine T_callV dL_law_305 zkm_20_27 (Or.inl rfl) rfl hM9 ⟨Nat.le_of_ble_eq_true rfl, rfl⟩ rfl (Nat.le_of_ble_eq_true rfl) ?_
  refine m_X10_addPoint  hP hL hI hO hV (by omega) hrf2 (fun hh305 pr_305 pf_305 => ?_)
  refine T_icmp_eq dL_law_308 (t := 1531) rfl (fun _ => ?_) (fun hc => absurd rfl hc)
  exact J1531 _ _ _   ⟨_, _, _, _, _, _, _, _, _, (pc_291.frame (wf_add hP _ _) (Nat.le_refl _) (fun q hq => pf_305 q (by omega))), pr_305, ⟨(wf_add hP _ _), hL, hI, hO, hV⟩, (by omega), (hpr.frame (fun q hq => ((pf_305 q (by omega)).trans ((pf_291 q (by omega)).trans rfl)))), (hdg.frame (fun q hq => ((pf_305 q (by omega)).trans ((pf_291 q (by omega)).trans rfl)))), hs1, ((pf_305 _ (by omega)).trans ((pf_291 _ (by omega)).trans hs2))⟩
set_option maxHeartbeats 4000000 in
set_option maxRecDepth 100000 in
theorem law_3 {n0 n k : Nat} {g : Nat → zV} {h : zHp} {Q : Option zV → Nat → Nat → zHp → Prop} {B nb vb N i sA len K0 : Nat} {cb : Nat → Nat} {P : pT} {L : lT} {I O : tT} {V : Int × pT} {f : Nat → Int} {r4 : Option Nat} (hg0 : g 0 = .inl 1) (hg4 : g 4 = .inr r4) (hB : n0 ≤ B) (hP : pwf P) (hL : lwf L) (hI : iwf I) (hO : owf O) (hV : vwf V) (hcl : clAt h B (B + 429) n P L I O V nb cb vb N) (hrf : rfAt h (B + 396) P L I O V) (hcn : n ≤ B + 429 + 15 * nb + N ∧ k ≤ K0 + 110 * nb + 3 * N) (hpr : prOk g h B) (hdg : dgOk g h B) (hs1 : sA < B) (hs2 : h sA = some (.inr (.inl (0, len, f)))) (hf : ∀ j, j < len → zR (f j)) (hi : i + 5 ≤ len ∧ len ≤ 2560) (J1531 : ∀ (n' k' : Nat) (h' : zHp), lawI g h' B sA len f n' k' K0 → ZT n0 g mL_law 1531 [some (.inr (some sA)), some (.inr (some B)), some (.inr (some (B + 396))), some (.inl (i : Int))] [] n' k' h' Q) : ZT n0 g mL_law 313 [some (.inr (some sA)), some (.inr (some B)), some (.inr (some (B + 396))), some (.inl (i : Int))] [] n k h Q := by
  have o0 := hcl.1
  obtain ⟨_, _, _, _, _, _, _, _, _, hM9, -⟩ := id hrf
  refine T_aload_n dL_law_313 rfl ?_
  refine T_aload_n dL_law_314 rfl ?_
  refine T_iload_n dL_law_315 rfl ?_
  refine T_iconst dL_law_316 (by decide) ?_
  refine T_iadd dL_law_317 ⟨by omega, by omega⟩ ?_
  refine T_ialoadN (m := (i + 1)) dL_law_318 hs2 rfl (by omega) ?_
  refine T_callV dL_law_319 zkm_20_28 (Or.inl rfl) rfl o0 ⟨Nat.le_of_ble_eq_true rfl, rfl⟩ rfl (Nat.le_of_ble_eq_true rfl) ?_
  refine m_X9_removePoint  hP hL hI hO hV hB hcl (fun hh319 pc_319 pf_319 => ?_)
  have hrf2 := hrf.frame (fun q a1 a2 => pf_319 q (by omega))
  obtain ⟨_, _, _, _, _, _, _, _, _, hM9, -⟩ := id hrf2
  refine T_aload_n dL_law_322 rfl ?_
  refine T_aload_n dL_law_323 rfl ?_
  refine T_iload_n dL_law_324 rfl ?_
  refine T_iconst dL_law_325 (by decide) ?_
  refine T_iadd dL_law_326 ⟨by omega, by omega⟩ ?_
  refine T_ialoadN (m := (i + 1)) dL_law_327 ((pf_319 _ (by omega)).trans hs2) rfl (by omega) ?_
  refine T_callV dL_law_328 zkm_20_31 (Or.inl rfl) rfl hM9 ⟨Nat.le_of_ble_eq_true rfl, rfl⟩ rfl (Nat.le_of_ble_eq_true rfl) ?_
  refine m_X10_removePoint  hP hL hI hO hV (by omega) hrf2 (fun hh328 pr_328 pf_328 => ?_)
  refine T_icmp_eq dL_law_331 (t := 1531) rfl (fun _ => ?_) (fun hc => absurd rfl hc)
  exact J1531 _ _ _   ⟨_, _, _, _, _, _, _, _, _, (pc_319.frame (wf_rem hP _) (Nat.le_refl _) (fun q hq => pf_328 q (by omega))), pr_328, ⟨(wf_rem hP _), hL, hI, hO, hV⟩, (by omega), (hpr.frame (fun q hq => ((pf_328 q (by omega)).trans ((pf_319 q (by omega)).trans rfl)))), (hdg.frame (fun q hq => ((pf_328 q (by omega)).trans ((pf_319 q (by omega)).trans rfl)))), hs1, ((pf_328 _ (by omega)).trans ((pf_319 _ (by omega)).trans hs2))⟩
set_option maxHeartbeats 4000000 in
set_option maxRecDepth 100000 in
theorem law_4 {n0 n k : Nat} {g : Nat → zV} {h : zHp} {Q : Option zV → Nat → Nat → zHp → Prop} {B nb vb N i sA len K0 : Nat} {cb : Nat → Nat} {P : pT} {L : lT} {I O : tT} {V : Int × pT} {f : Nat → Int} {r4 : Option Nat} (hg0 : g 0 = .inl 1) (hg4 : g 4 = .inr r4) (hB : n0 ≤ B) (hP : pwf P) (hL : lwf L) (hI : iwf I) (hO : owf O) (hV : vwf V) (hcl : clAt h B (B + 429) n P L I O V nb cb vb N) (hrf : rfAt h (B + 396) P L I O V) (hcn : n ≤ B + 429 + 15 * nb + N ∧ k ≤ K0 + 110 * nb + 3 * N) (hpr : prOk g h B) (hdg : dgOk g h B) (hs1 : sA < B) (hs2 : h sA = some (.inr (.inl (0, len, f)))) (hf : ∀ j, j < len → zR (f j)) (hi : i + 5 ≤ len ∧ len ≤ 2560) (J1531 : ∀ (n' k' : Nat) (h' : zHp), lawI g h' B sA len f n' k' K0 → ZT n0 g mL_law 1531 [some (.inr (some sA)), some (.inr (some B)), some (.inr (some (B + 396))), some (.inl (i : Int))] [] n' k' h' Q) : ZT n0 g mL_law 336 [some (.inr (some sA)), some (.inr (some B)), some (.inr (some (B + 396))), some (.inl (i : Int))] [] n k h Q := by
  have o0 := hcl.1
  obtain ⟨_, _, _, _, _, _, _, _, _, hM9, -⟩ := id hrf
  refine T_aload_n dL_law_336 rfl ?_
  refine T_callV dL_law_337 zkm_20_32 (Or.inl rfl) rfl o0 ⟨Nat.le_of_ble_eq_true rfl, rfl⟩ rfl (Nat.le_of_ble_eq_true rfl) ?_
  refine m_X9_pointCount  hP hL hI hO hV hB hcl ?_
  refine T_aload_n dL_law_340 rfl ?_
  refine T_callV dL_law_341 zkm_20_35 (Or.inl rfl) rfl hM9 ⟨Nat.le_of_ble_eq_true rfl, rfl⟩ rfl (Nat.le_of_ble_eq_true rfl) ?_
  refine m_X10_pointCount  hP hL hI hO hV (by omega) hrf ?_
  refine T_icmp_eq dL_law_344 (t := 1531) rfl (fun _ => ?_) (fun hc => absurd rfl hc)
  exact J1531 _ _ _   ⟨_, _, _, _, _, _, _, _, _, hcl, hrf, ⟨hP, hL, hI, hO, hV⟩, (by omega), hpr, hdg, hs1, hs2⟩
set_option maxHeartbeats 4000000 in
set_option maxRecDepth 100000 in
theorem law_5 {n0 n k : Nat} {g : Nat → zV} {h : zHp} {Q : Option zV → Nat → Nat → zHp → Prop} {B nb vb N i sA len K0 : Nat} {cb : Nat → Nat} {P : pT} {L : lT} {I O : tT} {V : Int × pT} {f : Nat → Int} {r4 : Option Nat} (hg0 : g 0 = .inl 1) (hg4 : g 4 = .inr r4) (hB : n0 ≤ B) (hP : pwf P) (hL : lwf L) (hI : iwf I) (hO : owf O) (hV : vwf V) (hcl : clAt h B (B + 429) n P L I O V nb cb vb N) (hrf : rfAt h (B + 396) P L I O V) (hcn : n ≤ B + 429 + 15 * nb + N ∧ k ≤ K0 + 110 * nb + 3 * N) (hpr : prOk g h B) (hdg : dgOk g h B) (hs1 : sA < B) (hs2 : h sA = some (.inr (.inl (0, len, f)))) (hf : ∀ j, j < len → zR (f j)) (hi : i + 5 ≤ len ∧ len ≤ 2560) (J1531 : ∀ (n' k' : Nat) (h' : zHp), lawI g h' B sA len f n' k' K0 → ZT n0 g mL_law 1531 [some (.inr (some sA)), some (.inr (some B)), some (.inr (some (B + 396))), some (.inl (i : Int))] [] n' k' h' Q) : ZT n0 g mL_law 349 [some (.inr (some sA)), some (.inr (some B)), some (.inr (some (B + 396))), some (.inl (i : Int))] [] n k h Q := by
  have o0 := hcl.1
  obtain ⟨_, _, _, _, _, _, _, _, _, hM9, -⟩ := id hrf
  refine T_aload_n dL_law_349 rfl ?_
  refine T_aload_n dL_law_350 rfl ?_
  refine T_iload_n dL_law_351 rfl ?_
  refine T_iconst dL_law_352 (by decide) ?_
  refine T_iadd dL_law_353 ⟨by omega, by omega⟩ ?_
  refine T_ialoadN (m := (i + 1)) dL_law_354 hs2 rfl (by omega) ?_
  refine T_callV dL_law_355 zkm_20_36 (Or.inl rfl) rfl o0 ⟨Nat.le_of_ble_eq_true rfl, rfl⟩ rfl (Nat.le_of_ble_eq_true rfl) ?_
  refine m_X9_pointX  hP hL hI hO hV hB hcl ?_
  refine T_aload_n dL_law_358 rfl ?_
  refine T_aload_n dL_law_359 rfl ?_
  refine T_iload_n dL_law_360 rfl ?_
  refine T_iconst dL_law_361 (by decide) ?_
  refine T_iadd dL_law_362 ⟨by omega, by omega⟩ ?_
  refine T_ialoadN (m := (i + 1)) dL_law_363 hs2 rfl (by omega) ?_
  refine T_callV dL_law_364 zkm_20_39 (Or.inl rfl) rfl hM9 ⟨Nat.le_of_ble_eq_true rfl, rfl⟩ rfl (Nat.le_of_ble_eq_true rfl) ?_
  refine m_X10_pointX  hP hL hI hO hV (by omega) hrf ?_
  refine T_icmp_eq dL_law_367 (t := 1531) rfl (fun _ => ?_) (fun hc => absurd rfl hc)
  exact J1531 _ _ _   ⟨_, _, _, _, _, _, _, _, _, hcl, hrf, ⟨hP, hL, hI, hO, hV⟩, (by omega), hpr, hdg, hs1, hs2⟩
set_option maxHeartbeats 4000000 in
set_option maxRecDepth 100000 in
theorem law_6 {n0 n k : Nat} {g : Nat → zV} {h : zHp} {Q : Option zV → Nat → Nat → zHp → Prop} {B nb vb N i sA len K0 : Nat} {cb : Nat → Nat} {P : pT} {L : lT} {I O : tT} {V : Int × pT} {f : Nat → Int} {r4 : Option Nat} (hg0 : g 0 = .inl 1) (hg4 : g 4 = .inr r4) (hB : n0 ≤ B) (hP : pwf P) (hL : lwf L) (hI : iwf I) (hO : owf O) (hV : vwf V) (hcl : clAt h B (B + 429) n P L I O V nb cb vb N) (hrf : rfAt h (B + 396) P L I O V) (hcn : n ≤ B + 429 + 15 * nb + N ∧ k ≤ K0 + 110 * nb + 3 * N) (hpr : prOk g h B) (hdg : dgOk g h B) (hs1 : sA < B) (hs2 : h sA = some (.inr (.inl (0, len, f)))) (hf : ∀ j, j < len → zR (f j)) (hi : i + 5 ≤ len ∧ len ≤ 2560) (J1531 : ∀ (n' k' : Nat) (h' : zHp), lawI g h' B sA len f n' k' K0 → ZT n0 g mL_law 1531 [some (.inr (some sA)), some (.inr (some B)), some (.inr (some (B + 396))), some (.inl (i : Int))] [] n' k' h' Q) : ZT n0 g mL_law 372 [some (.inr (some sA)), some (.inr (some B)), some (.inr (some (B + 396))), some (.inl (i : Int))] [] n k h Q := by
  have o0 := hcl.1
  obtain ⟨_, _, _, _, _, _, _, _, _, hM9, -⟩ := id hrf
  refine T_aload_n dL_law_372 rfl ?_
  refine T_aload_n dL_law_373 rfl ?_
  refine T_iload_n dL_law_374 rfl ?_
  refine T_iconst dL_law_375 (by decide) ?_
  refine T_iadd dL_law_376 ⟨by omega, by omega⟩ ?_
  refine T_ialoadN (m := (i + 1)) dL_law_377 hs2 rfl (by omega) ?_
  refine T_callV dL_law_378 zkm_20_40 (Or.inl rfl) rfl o0 ⟨Nat.le_of_ble_eq_true rfl, rfl⟩ rfl (Nat.le_of_ble_eq_true rfl) ?_
  refine m_X9_pointY  hP hL hI hO hV hB hcl ?_
  refine T_aload_n dL_law_381 rfl ?_
  refine T_aload_n dL_law_382 rfl ?_
  refine T_iload_n dL_law_383 rfl ?_
  refine T_iconst dL_law_384 (by decide) ?_
  refine T_iadd dL_law_385 ⟨by omega, by omega⟩ ?_
  refine T_ialoadN (m := (i + 1)) dL_law_386 hs2 rfl (by omega) ?_
  refine T_callV dL_law_387 zkm_20_43 (Or.inl rfl) rfl hM9 ⟨Nat.le_of_ble_eq_true rfl, rfl⟩ rfl (Nat.le_of_ble_eq_true rfl) ?_
  refine m_X10_pointY  hP hL hI hO hV (by omega) hrf ?_
  refine T_icmp_eq dL_law_390 (t := 1531) rfl (fun _ => ?_) (fun hc => absurd rfl hc)
  exact J1531 _ _ _   ⟨_, _, _, _, _, _, _, _, _, hcl, hrf, ⟨hP, hL, hI, hO, hV⟩, (by omega), hpr, hdg, hs1, hs2⟩
set_option maxHeartbeats 4000000 in
set_option maxRecDepth 100000 in
theorem law_7 {n0 n k : Nat} {g : Nat → zV} {h : zHp} {Q : Option zV → Nat → Nat → zHp → Prop} {B nb vb N i sA len K0 : Nat} {cb : Nat → Nat} {P : pT} {L : lT} {I O : tT} {V : Int × pT} {f : Nat → Int} {r4 : Option Nat} (hg0 : g 0 = .inl 1) (hg4 : g 4 = .inr r4) (hB : n0 ≤ B) (hP : pwf P) (hL : lwf L) (hI : iwf I) (hO : owf O) (hV : vwf V) (hcl : clAt h B (B + 429) n P L I O V nb cb vb N) (hrf : rfAt h (B + 396) P L I O V) (hcn : n ≤ B + 429 + 15 * nb + N ∧ k ≤ K0 + 110 * nb + 3 * N) (hpr : prOk g h B) (hdg : dgOk g h B) (hs1 : sA < B) (hs2 : h sA = some (.inr (.inl (0, len, f)))) (hf : ∀ j, j < len → zR (f j)) (hi : i + 5 ≤ len ∧ len ≤ 2560) (J1531 : ∀ (n' k' : Nat) (h' : zHp), lawI g h' B sA len f n' k' K0 → ZT n0 g mL_law 1531 [some (.inr (some sA)), some (.inr (some B)), some (.inr (some (B + 396))), some (.inl (i : Int))] [] n' k' h' Q) : ZT n0 g mL_law 395 [some (.inr (some sA)), some (.inr (some B)), some (.inr (some (B + 396))), some (.inl (i : Int))] [] n k h Q := by
  have o0 := hcl.1
  obtain ⟨_, _, _, _, _, _, _, _, _, hM9, -⟩ := id hrf
  refine T_aload_n dL_law_395 rfl ?_
  refine T_callV dL_law_396 zkm_20_44 (Or.inl rfl) rfl o0 ⟨Nat.le_of_ble_eq_true rfl, rfl⟩ rfl (Nat.le_of_ble_eq_true rfl) ?_
  refine m_X9_swapCoordinates  hP hL hI hO hV hB hcl (fun hh396 pc_396 pf_396 => ?_)
  have hrf2 := hrf.frame (fun q a1 a2 => pf_396 q (by omega))
  obtain ⟨_, _, _, _, _, _, _, _, _, hM9, -⟩ := id hrf2
  refine T_aload_n dL_law_399 rfl ?_
  refine T_callV dL_law_400 zkm_20_47 (Or.inl rfl) rfl hM9 ⟨Nat.le_of_ble_eq_true rfl, rfl⟩ rfl (Nat.le_of_ble_eq_true rfl) ?_
  refine m_X10_swapCoordinates  hP hL hI hO hV (by omega) hrf2 (fun hh400 pr_400 pf_400 => ?_)
  refine T_icmp_eq dL_law_403 (t := 1531) rfl (fun _ => ?_) (fun hc => absurd rfl hc)
  exact J1531 _ _ _   ⟨_, _, _, _, _, _, _, _, _, (pc_396.frame (wf_swap hP) (Nat.le_refl _) (fun q hq => pf_400 q (by omega))), pr_400, ⟨(wf_swap hP), hL, hI, hO, hV⟩, (by omega), (hpr.frame (fun q hq => ((pf_400 q (by omega)).trans ((pf_396 q (by omega)).trans rfl)))), (hdg.frame (fun q hq => ((pf_400 q (by omega)).trans ((pf_396 q (by omega)).trans rfl)))), hs1, ((pf_400 _ (by omega)).trans ((pf_396 _ (by omega)).trans hs2))⟩
set_option maxHeartbeats 4000000 in
set_option maxRecDepth 100000 in
theorem law_8 {n0 n k : Nat} {g : Nat → zV} {h : zHp} {Q : Option zV → Nat → Nat → zHp → Prop} {B nb vb N i sA len K0 : Nat} {cb : Nat → Nat} {P : pT} {L : lT} {I O : tT} {V : Int × pT} {f : Nat → Int} {r4 : Option Nat} (hg0 : g 0 = .inl 1) (hg4 : g 4 = .inr r4) (hB : n0 ≤ B) (hP : pwf P) (hL : lwf L) (hI : iwf I) (hO : owf O) (hV : vwf V) (hcl : clAt h B (B + 429) n P L I O V nb cb vb N) (hrf : rfAt h (B + 396) P L I O V) (hcn : n ≤ B + 429 + 15 * nb + N ∧ k ≤ K0 + 110 * nb + 3 * N) (hpr : prOk g h B) (hdg : dgOk g h B) (hs1 : sA < B) (hs2 : h sA = some (.inr (.inl (0, len, f)))) (hf : ∀ j, j < len → zR (f j)) (hi : i + 5 ≤ len ∧ len ≤ 2560) (J1531 : ∀ (n' k' : Nat) (h' : zHp), lawI g h' B sA len f n' k' K0 → ZT n0 g mL_law 1531 [some (.inr (some sA)), some (.inr (some B)), some (.inr (some (B + 396))), some (.inl (i : Int))] [] n' k' h' Q) : ZT n0 g mL_law 408 [some (.inr (some sA)), some (.inr (some B)), some (.inr (some (B + 396))), some (.inl (i : Int))] [] n k h Q := by
  have o0 := hcl.1
  obtain ⟨_, _, _, _, _, _, _, _, _, hM9, -⟩ := id hrf
  refine T_aload_n dL_law_408 rfl ?_
  refine T_aload_n dL_law_409 rfl ?_
  refine T_iload_n dL_law_410 rfl ?_
  refine T_iconst dL_law_411 (by decide) ?_
  refine T_iadd dL_law_412 ⟨by omega, by omega⟩ ?_
  refine T_ialoadN (m := (i + 1)) dL_law_413 hs2 rfl (by omega) ?_
  refine T_aload_n dL_law_414 rfl ?_
  refine T_iload_n dL_law_415 rfl ?_
  refine T_iconst dL_law_416 (by decide) ?_
  refine T_iadd dL_law_417 ⟨by omega, by omega⟩ ?_
  refine T_ialoadN (m := (i + 2)) dL_law_418 hs2 rfl (by omega) ?_
  refine T_callV dL_law_419 zkm_20_48 (Or.inl rfl) rfl o0 ⟨Nat.le_of_ble_eq_true rfl, rfl⟩ rfl (Nat.le_of_ble_eq_true rfl) ?_
  refine m_X9_translate  hP hL hI hO hV hB hcl (fun hh419 pc_419 pf_419 => ?_)
  have hrf2 := hrf.frame (fun q a1 a2 => pf_419 q (by omega))
  obtain ⟨_, _, _, _, _, _, _, _, _, hM9, -⟩ := id hrf2
  refine T_aload_n dL_law_422 rfl ?_
  refine T_aload_n dL_law_423 rfl ?_
  refine T_iload_n dL_law_424 rfl ?_
  refine T_iconst dL_law_425 (by decide) ?_
  refine T_iadd dL_law_426 ⟨by omega, by omega⟩ ?_
  refine T_ialoadN (m := (i + 1)) dL_law_427 ((pf_419 _ (by omega)).trans hs2) rfl (by omega) ?_
  refine T_aload_n dL_law_428 rfl ?_
  refine T_iload_n dL_law_429 rfl ?_
  refine T_iconst dL_law_430 (by decide) ?_
  refine T_iadd dL_law_431 ⟨by omega, by omega⟩ ?_
  refine T_ialoadN (m := (i + 2)) dL_law_432 ((pf_419 _ (by omega)).trans hs2) rfl (by omega) ?_
  refine T_callV dL_law_433 zkm_20_51 (Or.inl rfl) rfl hM9 ⟨Nat.le_of_ble_eq_true rfl, rfl⟩ rfl (Nat.le_of_ble_eq_true rfl) ?_
  refine m_X10_translate  hP hL hI hO hV (by omega) hrf2 (fun hh433 pr_433 pf_433 => ?_)
  refine T_icmp_eq dL_law_436 (t := 1531) rfl (fun _ => ?_) (fun hc => absurd rfl hc)
  exact J1531 _ _ _   ⟨_, _, _, _, _, _, _, _, _, (pc_419.frame (wf_tr hP _ _) (Nat.le_refl _) (fun q hq => pf_433 q (by omega))), pr_433, ⟨(wf_tr hP _ _), hL, hI, hO, hV⟩, (by omega), (hpr.frame (fun q hq => ((pf_433 q (by omega)).trans ((pf_419 q (by omega)).trans rfl)))), (hdg.frame (fun q hq => ((pf_433 q (by omega)).trans ((pf_419 q (by omega)).trans rfl)))), hs1, ((pf_433 _ (by omega)).trans ((pf_419 _ (by omega)).trans hs2))⟩
set_option maxHeartbeats 4000000 in
set_option maxRecDepth 100000 in
theorem law_9 {n0 n k : Nat} {g : Nat → zV} {h : zHp} {Q : Option zV → Nat → Nat → zHp → Prop} {B nb vb N i sA len K0 : Nat} {cb : Nat → Nat} {P : pT} {L : lT} {I O : tT} {V : Int × pT} {f : Nat → Int} {r4 : Option Nat} (hg0 : g 0 = .inl 1) (hg4 : g 4 = .inr r4) (hB : n0 ≤ B) (hP : pwf P) (hL : lwf L) (hI : iwf I) (hO : owf O) (hV : vwf V) (hcl : clAt h B (B + 429) n P L I O V nb cb vb N) (hrf : rfAt h (B + 396) P L I O V) (hcn : n ≤ B + 429 + 15 * nb + N ∧ k ≤ K0 + 110 * nb + 3 * N) (hpr : prOk g h B) (hdg : dgOk g h B) (hs1 : sA < B) (hs2 : h sA = some (.inr (.inl (0, len, f)))) (hf : ∀ j, j < len → zR (f j)) (hi : i + 5 ≤ len ∧ len ≤ 2560) (J1531 : ∀ (n' k' : Nat) (h' : zHp), lawI g h' B sA len f n' k' K0 → ZT n0 g mL_law 1531 [some (.inr (some sA)), some (.inr (some B)), some (.inr (some (B + 396))), some (.inl (i : Int))] [] n' k' h' Q) : ZT n0 g mL_law 441 [some (.inr (some sA)), some (.inr (some B)), some (.inr (some (B + 396))), some (.inl (i : Int))] [] n k h Q := by
  have o0 := hcl.1
  obtain ⟨_, _, _, _, _, _, _, _, _, hM9, -⟩ := id hrf
  refine T_aload_n dL_law_441 rfl ?_
  refine T_aload_n dL_law_442 rfl ?_
  refine T_iload_n dL_law_443 rfl ?_
  refine T_iconst dL_law_444 (by decide) ?_
  refine T_iadd dL_law_445 ⟨by omega, by omega⟩ ?_
  refine T_ialoadN (m := (i + 1)) dL_law_446 hs2 rfl (by omega) ?_
  refine T_aload_n dL_law_447 rfl ?_
  refine T_iload_n dL_law_448 rfl ?_
  refine T_iconst dL_law_449 (by decide) ?_
  refine T_iadd dL_law_450 ⟨by omega, by omega⟩ ?_
  refine T_ialoadN (m := (i + 2)) dL_law_451 hs2 rfl (by omega) ?_
  refine T_callV dL_law_452 zkm_20_52 (Or.inl rfl) rfl o0 ⟨Nat.le_of_ble_eq_true rfl, rfl⟩ rfl (Nat.le_of_ble_eq_true rfl) ?_
  refine m_X9_scale  hP hL hI hO hV hB hcl (fun hh452 pc_452 pf_452 => ?_)
  have hrf2 := hrf.frame (fun q a1 a2 => pf_452 q (by omega))
  obtain ⟨_, _, _, _, _, _, _, _, _, hM9, -⟩ := id hrf2
  refine T_aload_n dL_law_455 rfl ?_
  refine T_aload_n dL_law_456 rfl ?_
  refine T_iload_n dL_law_457 rfl ?_
  refine T_iconst dL_law_458 (by decide) ?_
  refine T_iadd dL_law_459 ⟨by omega, by omega⟩ ?_
  refine T_ialoadN (m := (i + 1)) dL_law_460 ((pf_452 _ (by omega)).trans hs2) rfl (by omega) ?_
  refine T_aload_n dL_law_461 rfl ?_
  refine T_iload_n dL_law_462 rfl ?_
  refine T_iconst dL_law_463 (by decide) ?_
  refine T_iadd dL_law_464 ⟨by omega, by omega⟩ ?_
  refine T_ialoadN (m := (i + 2)) dL_law_465 ((pf_452 _ (by omega)).trans hs2) rfl (by omega) ?_
  refine T_callV dL_law_466 zkm_20_55 (Or.inl rfl) rfl hM9 ⟨Nat.le_of_ble_eq_true rfl, rfl⟩ rfl (Nat.le_of_ble_eq_true rfl) ?_
  refine m_X10_scale  hP hL hI hO hV (by omega) hrf2 (fun hh466 pr_466 pf_466 => ?_)
  refine T_icmp_eq dL_law_469 (t := 1531) rfl (fun _ => ?_) (fun hc => absurd rfl hc)
  exact J1531 _ _ _   ⟨_, _, _, _, _, _, _, _, _, (pc_452.frame (wf_sc hP _ _) (Nat.le_refl _) (fun q hq => pf_466 q (by omega))), pr_466, ⟨(wf_sc hP _ _), hL, hI, hO, hV⟩, (by omega), (hpr.frame (fun q hq => ((pf_466 q (by omega)).trans ((pf_452 q (by omega)).trans rfl)))), (hdg.frame (fun q hq => ((pf_466 q (by omega)).trans ((pf_452 q (by omega)).trans rfl)))), hs1, ((pf_466 _ (by omega)).trans ((pf_452 _ (by omega)).trans hs2))⟩
set_option maxHeartbeats 4000000 in
set_option maxRecDepth 100000 in
theorem law_10 {n0 n k : Nat} {g : Nat → zV} {h : zHp} {Q : Option zV → Nat → Nat → zHp → Prop} {B nb vb N i sA len K0 : Nat} {cb : Nat → Nat} {P : pT} {L : lT} {I O : tT} {V : Int × pT} {f : Nat → Int} {r4 : Option Nat} (hg0 : g 0 = .inl 1) (hg4 : g 4 = .inr r4) (hB : n0 ≤ B) (hP : pwf P) (hL : lwf L) (hI : iwf I) (hO : owf O) (hV : vwf V) (hcl : clAt h B (B + 429) n P L I O V nb cb vb N) (hrf : rfAt h (B + 396) P L I O V) (hcn : n ≤ B + 429 + 15 * nb + N ∧ k ≤ K0 + 110 * nb + 3 * N) (hpr : prOk g h B) (hdg : dgOk g h B) (hs1 : sA < B) (hs2 : h sA = some (.inr (.inl (0, len, f)))) (hf : ∀ j, j < len → zR (f j)) (hi : i + 5 ≤ len ∧ len ≤ 2560) (J1531 : ∀ (n' k' : Nat) (h' : zHp), lawI g h' B sA len f n' k' K0 → ZT n0 g mL_law 1531 [some (.inr (some sA)), some (.inr (some B)), some (.inr (some (B + 396))), some (.inl (i : Int))] [] n' k' h' Q) : ZT n0 g mL_law 474 [some (.inr (some sA)), some (.inr (some B)), some (.inr (some (B + 396))), some (.inl (i : Int))] [] n k h Q := by
  have o0 := hcl.1
  obtain ⟨_, _, _, _, _, _, _, _, _, hM9, -⟩ := id hrf
  refine T_aload_n dL_law_474 rfl ?_
  refine T_aload_n dL_law_475 rfl ?_
  refine T_iload_n dL_law_476 rfl ?_
  refine T_iconst dL_law_477 (by decide) ?_
  refine T_iadd dL_law_478 ⟨by omega, by omega⟩ ?_
  refine T_ialoadN (m := (i + 1)) dL_law_479 hs2 rfl (by omega) ?_
  refine T_aload_n dL_law_480 rfl ?_
  refine T_iload_n dL_law_481 rfl ?_
  refine T_iconst dL_law_482 (by decide) ?_
  refine T_iadd dL_law_483 ⟨by omega, by omega⟩ ?_
  refine T_ialoadN (m := (i + 2)) dL_law_484 hs2 rfl (by omega) ?_
  refine T_aload_n dL_law_485 rfl ?_
  refine T_iload_n dL_law_486 rfl ?_
  refine T_iconst dL_law_487 (by decide) ?_
  refine T_iadd dL_law_488 ⟨by omega, by omega⟩ ?_
  refine T_ialoadN (m := (i + 3)) dL_law_489 hs2 rfl (by omega) ?_
  refine T_aload_n dL_law_490 rfl ?_
  refine T_iload_n dL_law_491 rfl ?_
  refine T_iconst dL_law_492 (by decide) ?_
  refine T_iadd dL_law_493 ⟨by omega, by omega⟩ ?_
  refine T_ialoadN (m := (i + 4)) dL_law_494 hs2 rfl (by omega) ?_
  refine T_callV dL_law_495 zkm_20_56 (Or.inl rfl) rfl o0 ⟨Nat.le_of_ble_eq_true rfl, rfl⟩ rfl (Nat.le_of_ble_eq_true rfl) ?_
  refine m_X9_columnHeight  hP hL hI hO hV hB hcl (fun hh495 pc_495 pf_495 => ?_)
  have hrf2 := hrf.frame (fun q a1 a2 => pf_495 q (by omega))
  obtain ⟨_, _, _, _, _, _, _, _, _, hM9, -⟩ := id hrf2
  refine T_aload_n dL_law_498 rfl ?_
  refine T_aload_n dL_law_499 rfl ?_
  refine T_iload_n dL_law_500 rfl ?_
  refine T_iconst dL_law_501 (by decide) ?_
  refine T_iadd dL_law_502 ⟨by omega, by omega⟩ ?_
  refine T_ialoadN (m := (i + 1)) dL_law_503 ((pf_495 _ (by omega)).trans hs2) rfl (by omega) ?_
  refine T_aload_n dL_law_504 rfl ?_
  refine T_iload_n dL_law_505 rfl ?_
  refine T_iconst dL_law_506 (by decide) ?_
  refine T_iadd dL_law_507 ⟨by omega, by omega⟩ ?_
  refine T_ialoadN (m := (i + 2)) dL_law_508 ((pf_495 _ (by omega)).trans hs2) rfl (by omega) ?_
  refine T_aload_n dL_law_509 rfl ?_
  refine T_iload_n dL_law_510 rfl ?_
  refine T_iconst dL_law_511 (by decide) ?_
  refine T_iadd dL_law_512 ⟨by omega, by omega⟩ ?_
  refine T_ialoadN (m := (i + 3)) dL_law_513 ((pf_495 _ (by omega)).trans hs2) rfl (by omega) ?_
  refine T_aload_n dL_law_514 rfl ?_
  refine T_iload_n dL_law_515 rfl ?_
  refine T_iconst dL_law_516 (by decide) ?_
  refine T_iadd dL_law_517 ⟨by omega, by omega⟩ ?_
  refine T_ialoadN (m := (i + 4)) dL_law_518 ((pf_495 _ (by omega)).trans hs2) rfl (by omega) ?_
  refine T_callV dL_law_519 zkm_20_60 (Or.inl rfl) rfl hM9 ⟨Nat.le_of_ble_eq_true rfl, rfl⟩ rfl (Nat.le_of_ble_eq_true rfl) ?_
  refine m_X10_columnHeight  hP hL hI hO hV (by omega) hrf2 (fun hh519 pr_519 pf_519 => ?_)
  refine T_icmp_eq dL_law_522 (t := 1531) rfl (fun _ => ?_) (fun hc => absurd rfl hc)
  exact J1531 _ _ _   ⟨_, _, _, _, _, _, _, _, _, (pc_495.frame hP (Nat.le_refl _) (fun q hq => pf_519 q (by omega))), pr_519, ⟨hP, hL, hI, hO, hV⟩, (by omega), (hpr.frame (fun q hq => ((pf_519 q (by omega)).trans ((pf_495 q (by omega)).trans rfl)))), (hdg.frame (fun q hq => ((pf_519 q (by omega)).trans ((pf_495 q (by omega)).trans rfl)))), hs1, ((pf_519 _ (by omega)).trans ((pf_495 _ (by omega)).trans hs2))⟩
set_option maxHeartbeats 4000000 in
set_option maxRecDepth 100000 in
theorem law_11 {n0 n k : Nat} {g : Nat → zV} {h : zHp} {Q : Option zV → Nat → Nat → zHp → Prop} {B nb vb N i sA len K0 : Nat} {cb : Nat → Nat} {P : pT} {L : lT} {I O : tT} {V : Int × pT} {f : Nat → Int} {r4 : Option Nat} (hg0 : g 0 = .inl 1) (hg4 : g 4 = .inr r4) (hB : n0 ≤ B) (hP : pwf P) (hL : lwf L) (hI : iwf I) (hO : owf O) (hV : vwf V) (hcl : clAt h B (B + 429) n P L I O V nb cb vb N) (hrf : rfAt h (B + 396) P L I O V) (hcn : n ≤ B + 429 + 15 * nb + N ∧ k ≤ K0 + 110 * nb + 3 * N) (hpr : prOk g h B) (hdg : dgOk g h B) (hs1 : sA < B) (hs2 : h sA = some (.inr (.inl (0, len, f)))) (hf : ∀ j, j < len → zR (f j)) (hi : i + 5 ≤ len ∧ len ≤ 2560) (J1531 : ∀ (n' k' : Nat) (h' : zHp), lawI g h' B sA len f n' k' K0 → ZT n0 g mL_law 1531 [some (.inr (some sA)), some (.inr (some B)), some (.inr (some (B + 396))), some (.inl (i : Int))] [] n' k' h' Q) : ZT n0 g mL_law 527 [some (.inr (some sA)), some (.inr (some B)), some (.inr (some (B + 396))), some (.inl (i : Int))] [] n k h Q := by
  have o0 := hcl.1
  obtain ⟨_, _, _, _, _, _, _, _, _, hM9, -⟩ := id hrf
  refine T_aload_n dL_law_527 rfl ?_
  refine T_aload_n dL_law_528 rfl ?_
  refine T_iload_n dL_law_529 rfl ?_
  refine T_iconst dL_law_530 (by decide) ?_
  refine T_iadd dL_law_531 ⟨by omega, by omega⟩ ?_
  refine T_ialoadN (m := (i + 1)) dL_law_532 hs2 rfl (by omega) ?_
  refine T_aload_n dL_law_533 rfl ?_
  refine T_iload_n dL_law_534 rfl ?_
  refine T_iconst dL_law_535 (by decide) ?_
  refine T_iadd dL_law_536 ⟨by omega, by omega⟩ ?_
  refine T_ialoadN (m := (i + 2)) dL_law_537 hs2 rfl (by omega) ?_
  refine T_aload_n dL_law_538 rfl ?_
  refine T_iload_n dL_law_539 rfl ?_
  refine T_iconst dL_law_540 (by decide) ?_
  refine T_iadd dL_law_541 ⟨by omega, by omega⟩ ?_
  refine T_ialoadN (m := (i + 3)) dL_law_542 hs2 rfl (by omega) ?_
  refine T_callV dL_law_543 zkm_20_61 (Or.inl rfl) rfl o0 ⟨Nat.le_of_ble_eq_true rfl, rfl⟩ rfl (Nat.le_of_ble_eq_true rfl) ?_
  refine m_X9_cornerCount  hP hL hI hO hV hB hcl (fun hh543 pc_543 pf_543 => ?_)
  have hrf2 := hrf.frame (fun q a1 a2 => pf_543 q (by omega))
  obtain ⟨_, _, _, _, _, _, _, _, _, hM9, -⟩ := id hrf2
  refine T_aload_n dL_law_546 rfl ?_
  refine T_aload_n dL_law_547 rfl ?_
  refine T_iload_n dL_law_548 rfl ?_
  refine T_iconst dL_law_549 (by decide) ?_
  refine T_iadd dL_law_550 ⟨by omega, by omega⟩ ?_
  refine T_ialoadN (m := (i + 1)) dL_law_551 ((pf_543 _ (by omega)).trans hs2) rfl (by omega) ?_
  refine T_aload_n dL_law_552 rfl ?_
  refine T_iload_n dL_law_553 rfl ?_
  refine T_iconst dL_law_554 (by decide) ?_
  refine T_iadd dL_law_555 ⟨by omega, by omega⟩ ?_
  refine T_ialoadN (m := (i + 2)) dL_law_556 ((pf_543 _ (by omega)).trans hs2) rfl (by omega) ?_
  refine T_aload_n dL_law_557 rfl ?_
  refine T_iload_n dL_law_558 rfl ?_
  refine T_iconst dL_law_559 (by decide) ?_
  refine T_iadd dL_law_560 ⟨by omega, by omega⟩ ?_
  refine T_ialoadN (m := (i + 3)) dL_law_561 ((pf_543 _ (by omega)).trans hs2) rfl (by omega) ?_
  refine T_callV dL_law_562 zkm_20_65 (Or.inl rfl) rfl hM9 ⟨Nat.le_of_ble_eq_true rfl, rfl⟩ rfl (Nat.le_of_ble_eq_true rfl) ?_
  refine m_X10_cornerCount  hP hL hI hO hV (by omega) hrf2 (fun hh562 pr_562 pf_562 => ?_)
  refine T_icmp_eq dL_law_565 (t := 1531) rfl (fun _ => ?_) (fun hc => absurd rfl hc)
  exact J1531 _ _ _   ⟨_, _, _, _, _, _, _, _, _, (pc_543.frame hP (Nat.le_refl _) (fun q hq => pf_562 q (by omega))), pr_562, ⟨hP, hL, hI, hO, hV⟩, (by omega), (hpr.frame (fun q hq => ((pf_562 q (by omega)).trans ((pf_543 q (by omega)).trans rfl)))), (hdg.frame (fun q hq => ((pf_562 q (by omega)).trans ((pf_543 q (by omega)).trans rfl)))), hs1, ((pf_562 _ (by omega)).trans ((pf_543 _ (by omega)).trans hs2))⟩
set_option maxHeartbeats 4000000 in
set_option maxRecDepth 100000 in
theorem law_12 {n0 n k : Nat} {g : Nat → zV} {h : zHp} {Q : Option zV → Nat → Nat → zHp → Prop} {B nb vb N i sA len K0 : Nat} {cb : Nat → Nat} {P : pT} {L : lT} {I O : tT} {V : Int × pT} {f : Nat → Int} {r4 : Option Nat} (hg0 : g 0 = .inl 1) (hg4 : g 4 = .inr r4) (hB : n0 ≤ B) (hP : pwf P) (hL : lwf L) (hI : iwf I) (hO : owf O) (hV : vwf V) (hcl : clAt h B (B + 429) n P L I O V nb cb vb N) (hrf : rfAt h (B + 396) P L I O V) (hcn : n ≤ B + 429 + 15 * nb + N ∧ k ≤ K0 + 110 * nb + 3 * N) (hpr : prOk g h B) (hdg : dgOk g h B) (hs1 : sA < B) (hs2 : h sA = some (.inr (.inl (0, len, f)))) (hf : ∀ j, j < len → zR (f j)) (hi : i + 5 ≤ len ∧ len ≤ 2560) (J1531 : ∀ (n' k' : Nat) (h' : zHp), lawI g h' B sA len f n' k' K0 → ZT n0 g mL_law 1531 [some (.inr (some sA)), some (.inr (some B)), some (.inr (some (B + 396))), some (.inl (i : Int))] [] n' k' h' Q) : ZT n0 g mL_law 570 [some (.inr (some sA)), some (.inr (some B)), some (.inr (some (B + 396))), some (.inl (i : Int))] [] n k h Q := by
  have o0 := hcl.1
  obtain ⟨_, _, _, _, _, _, _, _, _, hM9, -⟩ := id hrf
  refine T_aload_n dL_law_570 rfl ?_
  refine T_aload_n dL_law_571 rfl ?_
  refine T_iload_n dL_law_572 rfl ?_
  refine T_iconst dL_law_573 (by decide) ?_
  refine T_iadd dL_law_574 ⟨by omega, by omega⟩ ?_
  refine T_ialoadN (m := (i + 1)) dL_law_575 hs2 rfl (by omega) ?_
  refine T_aload_n dL_law_576 rfl ?_
  refine T_iload_n dL_law_577 rfl ?_
  refine T_iconst dL_law_578 (by decide) ?_
  refine T_iadd dL_law_579 ⟨by omega, by omega⟩ ?_
  refine T_ialoadN (m := (i + 2)) dL_law_580 hs2 rfl (by omega) ?_
  refine T_aload_n dL_law_581 rfl ?_
  refine T_iload_n dL_law_582 rfl ?_
  refine T_iconst dL_law_583 (by decide) ?_
  refine T_iadd dL_law_584 ⟨by omega, by omega⟩ ?_
  refine T_ialoadN (m := (i + 3)) dL_law_585 hs2 rfl (by omega) ?_
  refine T_aload_n dL_law_586 rfl ?_
  refine T_iload_n dL_law_587 rfl ?_
  refine T_iconst dL_law_588 (by decide) ?_
  refine T_iadd dL_law_589 ⟨by omega, by omega⟩ ?_
  refine T_ialoadN (m := (i + 4)) dL_law_590 hs2 rfl (by omega) ?_
  refine T_callV dL_law_591 zkm_20_66 (Or.inl rfl) rfl o0 ⟨Nat.le_of_ble_eq_true rfl, rfl⟩ rfl (Nat.le_of_ble_eq_true rfl) ?_
  refine m_X9_corner  hP hL hI hO hV hB hcl (fun hh591 pc_591 pf_591 => ?_)
  have hrf2 := hrf.frame (fun q a1 a2 => pf_591 q (by omega))
  obtain ⟨_, _, _, _, _, _, _, _, _, hM9, -⟩ := id hrf2
  refine T_aload_n dL_law_594 rfl ?_
  refine T_aload_n dL_law_595 rfl ?_
  refine T_iload_n dL_law_596 rfl ?_
  refine T_iconst dL_law_597 (by decide) ?_
  refine T_iadd dL_law_598 ⟨by omega, by omega⟩ ?_
  refine T_ialoadN (m := (i + 1)) dL_law_599 ((pf_591 _ (by omega)).trans hs2) rfl (by omega) ?_
  refine T_aload_n dL_law_600 rfl ?_
  refine T_iload_n dL_law_601 rfl ?_
  refine T_iconst dL_law_602 (by decide) ?_
  refine T_iadd dL_law_603 ⟨by omega, by omega⟩ ?_
  refine T_ialoadN (m := (i + 2)) dL_law_604 ((pf_591 _ (by omega)).trans hs2) rfl (by omega) ?_
  refine T_aload_n dL_law_605 rfl ?_
  refine T_iload_n dL_law_606 rfl ?_
  refine T_iconst dL_law_607 (by decide) ?_
  refine T_iadd dL_law_608 ⟨by omega, by omega⟩ ?_
  refine T_ialoadN (m := (i + 3)) dL_law_609 ((pf_591 _ (by omega)).trans hs2) rfl (by omega) ?_
  refine T_aload_n dL_law_610 rfl ?_
  refine T_iload_n dL_law_611 rfl ?_
  refine T_iconst dL_law_612 (by decide) ?_
  refine T_iadd dL_law_613 ⟨by omega, by omega⟩ ?_
  refine T_ialoadN (m := (i + 4)) dL_law_614 ((pf_591 _ (by omega)).trans hs2) rfl (by omega) ?_
  refine T_callV dL_law_615 zkm_20_69 (Or.inl rfl) rfl hM9 ⟨Nat.le_of_ble_eq_true rfl, rfl⟩ rfl (Nat.le_of_ble_eq_true rfl) ?_
  refine m_X10_corner  hP hL hI hO hV (by omega) hrf2 (fun hh615 pr_615 pf_615 => ?_)
  refine T_icmp_eq dL_law_618 (t := 1531) rfl (fun _ => ?_) (fun hc => absurd rfl hc)
  exact J1531 _ _ _   ⟨_, _, _, _, _, _, _, _, _, (pc_591.frame hP (Nat.le_refl _) (fun q hq => pf_615 q (by omega))), pr_615, ⟨hP, hL, hI, hO, hV⟩, (by omega), (hpr.frame (fun q hq => ((pf_615 q (by omega)).trans ((pf_591 q (by omega)).trans rfl)))), (hdg.frame (fun q hq => ((pf_615 q (by omega)).trans ((pf_591 q (by omega)).trans rfl)))), hs1, ((pf_615 _ (by omega)).trans ((pf_591 _ (by omega)).trans hs2))⟩
set_option maxHeartbeats 4000000 in
set_option maxRecDepth 100000 in
theorem law_13 {n0 n k : Nat} {g : Nat → zV} {h : zHp} {Q : Option zV → Nat → Nat → zHp → Prop} {B nb vb N i sA len K0 : Nat} {cb : Nat → Nat} {P : pT} {L : lT} {I O : tT} {V : Int × pT} {f : Nat → Int} {r4 : Option Nat} (hg0 : g 0 = .inl 1) (hg4 : g 4 = .inr r4) (hB : n0 ≤ B) (hP : pwf P) (hL : lwf L) (hI : iwf I) (hO : owf O) (hV : vwf V) (hcl : clAt h B (B + 429) n P L I O V nb cb vb N) (hrf : rfAt h (B + 396) P L I O V) (hcn : n ≤ B + 429 + 15 * nb + N ∧ k ≤ K0 + 110 * nb + 3 * N) (hpr : prOk g h B) (hdg : dgOk g h B) (hs1 : sA < B) (hs2 : h sA = some (.inr (.inl (0, len, f)))) (hf : ∀ j, j < len → zR (f j)) (hi : i + 5 ≤ len ∧ len ≤ 2560) (J1531 : ∀ (n' k' : Nat) (h' : zHp), lawI g h' B sA len f n' k' K0 → ZT n0 g mL_law 1531 [some (.inr (some sA)), some (.inr (some B)), some (.inr (some (B + 396))), some (.inl (i : Int))] [] n' k' h' Q) : ZT n0 g mL_law 623 [some (.inr (some sA)), some (.inr (some B)), some (.inr (some (B + 396))), some (.inl (i : Int))] [] n k h Q := by
  have o0 := hcl.1
  obtain ⟨_, _, _, _, _, _, _, _, _, hM9, -⟩ := id hrf
  refine T_aload_n dL_law_623 rfl ?_
  refine T_callV dL_law_624 zkm_20_70 (Or.inl rfl) rfl o0 ⟨Nat.le_of_ble_eq_true rfl, rfl⟩ rfl (Nat.le_of_ble_eq_true rfl) ?_
  refine m_X9_coneCount  hP hL hI hO hV hB hcl (fun nb'624 cb'624 n'624 k'624 hh624 k624a k624b k624c k624d pc_624 pf_624 => ?_)
  have hrf2 := hrf.frame (fun q a1 a2 => pf_624 q (by omega))
  obtain ⟨_, _, _, _, _, _, _, _, _, hM9, -⟩ := id hrf2
  refine T_aload_n dL_law_627 rfl ?_
  refine T_callV dL_law_628 zkm_20_73 (Or.inl rfl) rfl hM9 ⟨Nat.le_of_ble_eq_true rfl, rfl⟩ rfl (Nat.le_of_ble_eq_true rfl) ?_
  refine m_X10_coneCount  hP hL hI hO hV (by omega) hrf2 (fun hh628 pr_628 pf_628 => ?_)
  refine T_icmp_eq dL_law_631 (t := 1531) rfl (fun _ => ?_) (fun hc => absurd rfl hc)
  exact J1531 _ _ _   ⟨_, _, _, _, _, _, _, _, _, (pc_624.frame hP (Nat.le_refl _) (fun q hq => pf_628 q (by omega))), pr_628.at, ⟨hP, hL, hI, hO, hV⟩, (by omega), (hpr.frame (fun q hq => ((pf_628 q (by omega)).trans ((pf_624 q (by omega)).trans rfl)))), (hdg.frame (fun q hq => ((pf_628 q (by omega)).trans ((pf_624 q (by omega)).trans rfl)))), hs1, ((pf_628 _ (by omega)).trans ((pf_624 _ (by omega)).trans hs2))⟩
set_option maxHeartbeats 4000000 in
set_option maxRecDepth 100000 in
theorem law_14 {n0 n k : Nat} {g : Nat → zV} {h : zHp} {Q : Option zV → Nat → Nat → zHp → Prop} {B nb vb N i sA len K0 : Nat} {cb : Nat → Nat} {P : pT} {L : lT} {I O : tT} {V : Int × pT} {f : Nat → Int} {r4 : Option Nat} (hg0 : g 0 = .inl 1) (hg4 : g 4 = .inr r4) (hB : n0 ≤ B) (hP : pwf P) (hL : lwf L) (hI : iwf I) (hO : owf O) (hV : vwf V) (hcl : clAt h B (B + 429) n P L I O V nb cb vb N) (hrf : rfAt h (B + 396) P L I O V) (hcn : n ≤ B + 429 + 15 * nb + N ∧ k ≤ K0 + 110 * nb + 3 * N) (hpr : prOk g h B) (hdg : dgOk g h B) (hs1 : sA < B) (hs2 : h sA = some (.inr (.inl (0, len, f)))) (hf : ∀ j, j < len → zR (f j)) (hi : i + 5 ≤ len ∧ len ≤ 2560) (J1531 : ∀ (n' k' : Nat) (h' : zHp), lawI g h' B sA len f n' k' K0 → ZT n0 g mL_law 1531 [some (.inr (some sA)), some (.inr (some B)), some (.inr (some (B + 396))), some (.inl (i : Int))] [] n' k' h' Q) : ZT n0 g mL_law 636 [some (.inr (some sA)), some (.inr (some B)), some (.inr (some (B + 396))), some (.inl (i : Int))] [] n k h Q := by
  have o0 := hcl.1
  obtain ⟨_, _, _, _, _, _, _, _, _, hM9, -⟩ := id hrf
  refine T_aload_n dL_law_636 rfl ?_
  refine T_aload_n dL_law_637 rfl ?_
  refine T_iload_n dL_law_638 rfl ?_
  refine T_iconst dL_law_639 (by decide) ?_
  refine T_iadd dL_law_640 ⟨by omega, by omega⟩ ?_
  refine T_ialoadN (m := (i + 1)) dL_law_641 hs2 rfl (by omega) ?_
  refine T_callV dL_law_642 zkm_20_74 (Or.inl rfl) rfl o0 ⟨Nat.le_of_ble_eq_true rfl, rfl⟩ rfl (Nat.le_of_ble_eq_true rfl) ?_
  refine m_X9_wallNumerator  hP hL hI hO hV hB hcl (fun nb'642 cb'642 n'642 k'642 hh642 k642a k642b k642c k642d pc_642 pf_642 => ?_)
  have hrf2 := hrf.frame (fun q a1 a2 => pf_642 q (by omega))
  obtain ⟨_, _, _, _, _, _, _, _, _, hM9, -⟩ := id hrf2
  refine T_aload_n dL_law_645 rfl ?_
  refine T_aload_n dL_law_646 rfl ?_
  refine T_iload_n dL_law_647 rfl ?_
  refine T_iconst dL_law_648 (by decide) ?_
  refine T_iadd dL_law_649 ⟨by omega, by omega⟩ ?_
  refine T_ialoadN (m := (i + 1)) dL_law_650 ((pf_642 _ (by omega)).trans hs2) rfl (by omega) ?_
  refine T_callV dL_law_651 zkm_20_77 (Or.inl rfl) rfl hM9 ⟨Nat.le_of_ble_eq_true rfl, rfl⟩ rfl (Nat.le_of_ble_eq_true rfl) ?_
  refine m_X10_wallNumerator  hP hL hI hO hV (by omega) hrf2 (fun hh651 pr_651 pf_651 => ?_)
  refine T_icmp_eq dL_law_654 (t := 1531) rfl (fun _ => ?_) (fun hc => absurd rfl hc)
  exact J1531 _ _ _   ⟨_, _, _, _, _, _, _, _, _, (pc_642.frame hP (Nat.le_refl _) (fun q hq => pf_651 q (by omega))), pr_651.at, ⟨hP, hL, hI, hO, hV⟩, (by omega), (hpr.frame (fun q hq => ((pf_651 q (by omega)).trans ((pf_642 q (by omega)).trans rfl)))), (hdg.frame (fun q hq => ((pf_651 q (by omega)).trans ((pf_642 q (by omega)).trans rfl)))), hs1, ((pf_651 _ (by omega)).trans ((pf_642 _ (by omega)).trans hs2))⟩
set_option maxHeartbeats 4000000 in
set_option maxRecDepth 100000 in
theorem law_15 {n0 n k : Nat} {g : Nat → zV} {h : zHp} {Q : Option zV → Nat → Nat → zHp → Prop} {B nb vb N i sA len K0 : Nat} {cb : Nat → Nat} {P : pT} {L : lT} {I O : tT} {V : Int × pT} {f : Nat → Int} {r4 : Option Nat} (hg0 : g 0 = .inl 1) (hg4 : g 4 = .inr r4) (hB : n0 ≤ B) (hP : pwf P) (hL : lwf L) (hI : iwf I) (hO : owf O) (hV : vwf V) (hcl : clAt h B (B + 429) n P L I O V nb cb vb N) (hrf : rfAt h (B + 396) P L I O V) (hcn : n ≤ B + 429 + 15 * nb + N ∧ k ≤ K0 + 110 * nb + 3 * N) (hpr : prOk g h B) (hdg : dgOk g h B) (hs1 : sA < B) (hs2 : h sA = some (.inr (.inl (0, len, f)))) (hf : ∀ j, j < len → zR (f j)) (hi : i + 5 ≤ len ∧ len ≤ 2560) (J1531 : ∀ (n' k' : Nat) (h' : zHp), lawI g h' B sA len f n' k' K0 → ZT n0 g mL_law 1531 [some (.inr (some sA)), some (.inr (some B)), some (.inr (some (B + 396))), some (.inl (i : Int))] [] n' k' h' Q) : ZT n0 g mL_law 659 [some (.inr (some sA)), some (.inr (some B)), some (.inr (some (B + 396))), some (.inl (i : Int))] [] n k h Q := by
  have o0 := hcl.1
  obtain ⟨_, _, _, _, _, _, _, _, _, hM9, -⟩ := id hrf
  refine T_aload_n dL_law_659 rfl ?_
  refine T_aload_n dL_law_660 rfl ?_
  refine T_iload_n dL_law_661 rfl ?_
  refine T_iconst dL_law_662 (by decide) ?_
  refine T_iadd dL_law_663 ⟨by omega, by omega⟩ ?_
  refine T_ialoadN (m := (i + 1)) dL_law_664 hs2 rfl (by omega) ?_
  refine T_callV dL_law_665 zkm_20_78 (Or.inl rfl) rfl o0 ⟨Nat.le_of_ble_eq_true rfl, rfl⟩ rfl (Nat.le_of_ble_eq_true rfl) ?_
  refine m_X9_wallDenominator  hP hL hI hO hV hB hcl (fun nb'665 cb'665 n'665 k'665 hh665 k665a k665b k665c k665d pc_665 pf_665 => ?_)
  have hrf2 := hrf.frame (fun q a1 a2 => pf_665 q (by omega))
  obtain ⟨_, _, _, _, _, _, _, _, _, hM9, -⟩ := id hrf2
  refine T_aload_n dL_law_668 rfl ?_
  refine T_aload_n dL_law_669 rfl ?_
  refine T_iload_n dL_law_670 rfl ?_
  refine T_iconst dL_law_671 (by decide) ?_
  refine T_iadd dL_law_672 ⟨by omega, by omega⟩ ?_
  refine T_ialoadN (m := (i + 1)) dL_law_673 ((pf_665 _ (by omega)).trans hs2) rfl (by omega) ?_
  refine T_callV dL_law_674 zkm_20_81 (Or.inl rfl) rfl hM9 ⟨Nat.le_of_ble_eq_true rfl, rfl⟩ rfl (Nat.le_of_ble_eq_true rfl) ?_
  refine m_X10_wallDenominator  hP hL hI hO hV (by omega) hrf2 (fun hh674 pr_674 pf_674 => ?_)
  refine T_icmp_eq dL_law_677 (t := 1531) rfl (fun _ => ?_) (fun hc => absurd rfl hc)
  exact J1531 _ _ _   ⟨_, _, _, _, _, _, _, _, _, (pc_665.frame hP (Nat.le_refl _) (fun q hq => pf_674 q (by omega))), pr_674.at, ⟨hP, hL, hI, hO, hV⟩, (by omega), (hpr.frame (fun q hq => ((pf_674 q (by omega)).trans ((pf_665 q (by omega)).trans rfl)))), (hdg.frame (fun q hq => ((pf_674 q (by omega)).trans ((pf_665 q (by omega)).trans rfl)))), hs1, ((pf_674 _ (by omega)).trans ((pf_665 _ (by omega)).trans hs2))⟩
set_option maxHeartbeats 4000000 in
set_option maxRecDepth 100000 in
theorem law_16 {n0 n k : Nat} {g : Nat → zV} {h : zHp} {Q : Option zV → Nat → Nat → zHp → Prop} {B nb vb N i sA len K0 : Nat} {cb : Nat → Nat} {P : pT} {L : lT} {I O : tT} {V : Int × pT} {f : Nat → Int} {r4 : Option Nat} (hg0 : g 0 = .inl 1) (hg4 : g 4 = .inr r4) (hB : n0 ≤ B) (hP : pwf P) (hL : lwf L) (hI : iwf I) (hO : owf O) (hV : vwf V) (hcl : clAt h B (B + 429) n P L I O V nb cb vb N) (hrf : rfAt h (B + 396) P L I O V) (hcn : n ≤ B + 429 + 15 * nb + N ∧ k ≤ K0 + 110 * nb + 3 * N) (hpr : prOk g h B) (hdg : dgOk g h B) (hs1 : sA < B) (hs2 : h sA = some (.inr (.inl (0, len, f)))) (hf : ∀ j, j < len → zR (f j)) (hi : i + 5 ≤ len ∧ len ≤ 2560) (J1531 : ∀ (n' k' : Nat) (h' : zHp), lawI g h' B sA len f n' k' K0 → ZT n0 g mL_law 1531 [some (.inr (some sA)), some (.inr (some B)), some (.inr (some (B + 396))), some (.inl (i : Int))] [] n' k' h' Q) : ZT n0 g mL_law 682 [some (.inr (some sA)), some (.inr (some B)), some (.inr (some (B + 396))), some (.inl (i : Int))] [] n k h Q := by
  have o0 := hcl.1
  obtain ⟨_, _, _, _, _, _, _, _, _, hM9, -⟩ := id hrf
  refine T_aload_n dL_law_682 rfl ?_
  refine T_aload_n dL_law_683 rfl ?_
  refine T_iload_n dL_law_684 rfl ?_
  refine T_iconst dL_law_685 (by decide) ?_
  refine T_iadd dL_law_686 ⟨by omega, by omega⟩ ?_
  refine T_ialoadN (m := (i + 1)) dL_law_687 hs2 rfl (by omega) ?_
  refine T_aload_n dL_law_688 rfl ?_
  refine T_iload_n dL_law_689 rfl ?_
  refine T_iconst dL_law_690 (by decide) ?_
  refine T_iadd dL_law_691 ⟨by omega, by omega⟩ ?_
  refine T_ialoadN (m := (i + 2)) dL_law_692 hs2 rfl (by omega) ?_
  refine T_callV dL_law_693 zkm_20_82 (Or.inl rfl) rfl o0 ⟨Nat.le_of_ble_eq_true rfl, rfl⟩ rfl (Nat.le_of_ble_eq_true rfl) ?_
  refine m_X9_firstConeContaining  hP hL hI hO hV hB hcl (fun nb'693 cb'693 n'693 k'693 hh693 k693a k693b k693c k693d pc_693 pf_693 => ?_)
  have hrf2 := hrf.frame (fun q a1 a2 => pf_693 q (by omega))
  obtain ⟨_, _, _, _, _, _, _, _, _, hM9, -⟩ := id hrf2
  refine T_aload_n dL_law_696 rfl ?_
  refine T_aload_n dL_law_697 rfl ?_
  refine T_iload_n dL_law_698 rfl ?_
  refine T_iconst dL_law_699 (by decide) ?_
  refine T_iadd dL_law_700 ⟨by omega, by omega⟩ ?_
  refine T_ialoadN (m := (i + 1)) dL_law_701 ((pf_693 _ (by omega)).trans hs2) rfl (by omega) ?_
  refine T_aload_n dL_law_702 rfl ?_
  refine T_iload_n dL_law_703 rfl ?_
  refine T_iconst dL_law_704 (by decide) ?_
  refine T_iadd dL_law_705 ⟨by omega, by omega⟩ ?_
  refine T_ialoadN (m := (i + 2)) dL_law_706 ((pf_693 _ (by omega)).trans hs2) rfl (by omega) ?_
  refine T_callV dL_law_707 zkm_20_85 (Or.inl rfl) rfl hM9 ⟨Nat.le_of_ble_eq_true rfl, rfl⟩ rfl (Nat.le_of_ble_eq_true rfl) ?_
  refine m_X10_firstConeContaining  hP hL hI hO hV (by omega) hrf2 (fun hh707 pr_707 pf_707 => ?_)
  refine T_icmp_eq dL_law_710 (t := 1531) rfl (fun _ => ?_) (fun hc => absurd rfl hc)
  exact J1531 _ _ _   ⟨_, _, _, _, _, _, _, _, _, (pc_693.frame hP (Nat.le_refl _) (fun q hq => pf_707 q (by omega))), pr_707, ⟨hP, hL, hI, hO, hV⟩, (by omega), (hpr.frame (fun q hq => ((pf_707 q (by omega)).trans ((pf_693 q (by omega)).trans rfl)))), (hdg.frame (fun q hq => ((pf_707 q (by omega)).trans ((pf_693 q (by omega)).trans rfl)))), hs1, ((pf_707 _ (by omega)).trans ((pf_693 _ (by omega)).trans hs2))⟩
set_option maxHeartbeats 4000000 in
set_option maxRecDepth 100000 in
theorem law_17 {n0 n k : Nat} {g : Nat → zV} {h : zHp} {Q : Option zV → Nat → Nat → zHp → Prop} {B nb vb N i sA len K0 : Nat} {cb : Nat → Nat} {P : pT} {L : lT} {I O : tT} {V : Int × pT} {f : Nat → Int} {r4 : Option Nat} (hg0 : g 0 = .inl 1) (hg4 : g 4 = .inr r4) (hB : n0 ≤ B) (hP : pwf P) (hL : lwf L) (hI : iwf I) (hO : owf O) (hV : vwf V) (hcl : clAt h B (B + 429) n P L I O V nb cb vb N) (hrf : rfAt h (B + 396) P L I O V) (hcn : n ≤ B + 429 + 15 * nb + N ∧ k ≤ K0 + 110 * nb + 3 * N) (hpr : prOk g h B) (hdg : dgOk g h B) (hs1 : sA < B) (hs2 : h sA = some (.inr (.inl (0, len, f)))) (hf : ∀ j, j < len → zR (f j)) (hi : i + 5 ≤ len ∧ len ≤ 2560) (J1531 : ∀ (n' k' : Nat) (h' : zHp), lawI g h' B sA len f n' k' K0 → ZT n0 g mL_law 1531 [some (.inr (some sA)), some (.inr (some B)), some (.inr (some (B + 396))), some (.inl (i : Int))] [] n' k' h' Q) : ZT n0 g mL_law 715 [some (.inr (some sA)), some (.inr (some B)), some (.inr (some (B + 396))), some (.inl (i : Int))] [] n k h Q := by
  have o0 := hcl.1
  obtain ⟨_, _, _, _, _, _, _, _, _, hM9, -⟩ := id hrf
  refine T_aload_n dL_law_715 rfl ?_
  refine T_aload_n dL_law_716 rfl ?_
  refine T_iload_n dL_law_717 rfl ?_
  refine T_iconst dL_law_718 (by decide) ?_
  refine T_iadd dL_law_719 ⟨by omega, by omega⟩ ?_
  refine T_ialoadN (m := (i + 1)) dL_law_720 hs2 rfl (by omega) ?_
  refine T_aload_n dL_law_721 rfl ?_
  refine T_iload_n dL_law_722 rfl ?_
  refine T_iconst dL_law_723 (by decide) ?_
  refine T_iadd dL_law_724 ⟨by omega, by omega⟩ ?_
  refine T_ialoadN (m := (i + 2)) dL_law_725 hs2 rfl (by omega) ?_
  refine T_callV dL_law_726 zkm_20_86 (Or.inl rfl) rfl o0 ⟨Nat.le_of_ble_eq_true rfl, rfl⟩ rfl (Nat.le_of_ble_eq_true rfl) ?_
  refine m_X9_conesContaining  hP hL hI hO hV hB hcl (fun nb'726 cb'726 n'726 k'726 hh726 k726a k726b k726c k726d pc_726 pf_726 => ?_)
  have hrf2 := hrf.frame (fun q a1 a2 => pf_726 q (by omega))
  obtain ⟨_, _, _, _, _, _, _, _, _, hM9, -⟩ := id hrf2
  refine T_aload_n dL_law_729 rfl ?_
  refine T_aload_n dL_law_730 rfl ?_
  refine T_iload_n dL_law_731 rfl ?_
  refine T_iconst dL_law_732 (by decide) ?_
  refine T_iadd dL_law_733 ⟨by omega, by omega⟩ ?_
  refine T_ialoadN (m := (i + 1)) dL_law_734 ((pf_726 _ (by omega)).trans hs2) rfl (by omega) ?_
  refine T_aload_n dL_law_735 rfl ?_
  refine T_iload_n dL_law_736 rfl ?_
  refine T_iconst dL_law_737 (by decide) ?_
  refine T_iadd dL_law_738 ⟨by omega, by omega⟩ ?_
  refine T_ialoadN (m := (i + 2)) dL_law_739 ((pf_726 _ (by omega)).trans hs2) rfl (by omega) ?_
  refine T_callV dL_law_740 zkm_20_89 (Or.inl rfl) rfl hM9 ⟨Nat.le_of_ble_eq_true rfl, rfl⟩ rfl (Nat.le_of_ble_eq_true rfl) ?_
  refine m_X10_conesContaining  hP hL hI hO hV (by omega) hrf2 (fun hh740 pr_740 pf_740 => ?_)
  refine T_icmp_eq dL_law_743 (t := 1531) rfl (fun _ => ?_) (fun hc => absurd rfl hc)
  exact J1531 _ _ _   ⟨_, _, _, _, _, _, _, _, _, (pc_726.frame hP (Nat.le_refl _) (fun q hq => pf_740 q (by omega))), pr_740, ⟨hP, hL, hI, hO, hV⟩, (by omega), (hpr.frame (fun q hq => ((pf_740 q (by omega)).trans ((pf_726 q (by omega)).trans rfl)))), (hdg.frame (fun q hq => ((pf_740 q (by omega)).trans ((pf_726 q (by omega)).trans rfl)))), hs1, ((pf_740 _ (by omega)).trans ((pf_726 _ (by omega)).trans hs2))⟩
set_option maxHeartbeats 4000000 in
set_option maxRecDepth 100000 in
theorem law_18 {n0 n k : Nat} {g : Nat → zV} {h : zHp} {Q : Option zV → Nat → Nat → zHp → Prop} {B nb vb N i sA len K0 : Nat} {cb : Nat → Nat} {P : pT} {L : lT} {I O : tT} {V : Int × pT} {f : Nat → Int} {r4 : Option Nat} (hg0 : g 0 = .inl 1) (hg4 : g 4 = .inr r4) (hB : n0 ≤ B) (hP : pwf P) (hL : lwf L) (hI : iwf I) (hO : owf O) (hV : vwf V) (hcl : clAt h B (B + 429) n P L I O V nb cb vb N) (hrf : rfAt h (B + 396) P L I O V) (hcn : n ≤ B + 429 + 15 * nb + N ∧ k ≤ K0 + 110 * nb + 3 * N) (hpr : prOk g h B) (hdg : dgOk g h B) (hs1 : sA < B) (hs2 : h sA = some (.inr (.inl (0, len, f)))) (hf : ∀ j, j < len → zR (f j)) (hi : i + 5 ≤ len ∧ len ≤ 2560) (J1531 : ∀ (n' k' : Nat) (h' : zHp), lawI g h' B sA len f n' k' K0 → ZT n0 g mL_law 1531 [some (.inr (some sA)), some (.inr (some B)), some (.inr (some (B + 396))), some (.inl (i : Int))] [] n' k' h' Q) : ZT n0 g mL_law 748 [some (.inr (some sA)), some (.inr (some B)), some (.inr (some (B + 396))), some (.inl (i : Int))] [] n k h Q := by
  have o0 := hcl.1
  obtain ⟨_, _, _, _, _, _, _, _, _, hM9, -⟩ := id hrf
  refine T_aload_n dL_law_748 rfl ?_
  refine T_aload_n dL_law_749 rfl ?_
  refine T_iload_n dL_law_750 rfl ?_
  refine T_iconst dL_law_751 (by decide) ?_
  refine T_iadd dL_law_752 ⟨by omega, by omega⟩ ?_
  refine T_ialoadN (m := (i + 1)) dL_law_753 hs2 rfl (by omega) ?_
  refine T_aload_n dL_law_754 rfl ?_
  refine T_iload_n dL_law_755 rfl ?_
  refine T_iconst dL_law_756 (by decide) ?_
  refine T_iadd dL_law_757 ⟨by omega, by omega⟩ ?_
  refine T_ialoadN (m := (i + 2)) dL_law_758 hs2 rfl (by omega) ?_
  refine T_callV dL_law_759 zkm_20_90 (Or.inl rfl) rfl o0 ⟨Nat.le_of_ble_eq_true rfl, rfl⟩ rfl (Nat.le_of_ble_eq_true rfl) ?_
  refine m_X9_coneHeight  hP hL hI hO hV hB hcl (fun nb'759 cb'759 n'759 k'759 hh759 k759a k759b k759c k759d pc_759 pf_759 => ?_)
  have hrf2 := hrf.frame (fun q a1 a2 => pf_759 q (by omega))
  obtain ⟨_, _, _, _, _, _, _, _, _, hM9, -⟩ := id hrf2
  refine T_aload_n dL_law_762 rfl ?_
  refine T_aload_n dL_law_763 rfl ?_
  refine T_iload_n dL_law_764 rfl ?_
  refine T_iconst dL_law_765 (by decide) ?_
  refine T_iadd dL_law_766 ⟨by omega, by omega⟩ ?_
  refine T_ialoadN (m := (i + 1)) dL_law_767 ((pf_759 _ (by omega)).trans hs2) rfl (by omega) ?_
  refine T_aload_n dL_law_768 rfl ?_
  refine T_iload_n dL_law_769 rfl ?_
  refine T_iconst dL_law_770 (by decide) ?_
  refine T_iadd dL_law_771 ⟨by omega, by omega⟩ ?_
  refine T_ialoadN (m := (i + 2)) dL_law_772 ((pf_759 _ (by omega)).trans hs2) rfl (by omega) ?_
  refine T_callV dL_law_773 zkm_20_93 (Or.inl rfl) rfl hM9 ⟨Nat.le_of_ble_eq_true rfl, rfl⟩ rfl (Nat.le_of_ble_eq_true rfl) ?_
  refine m_X10_coneHeight  hP hL hI hO hV (by omega) hrf2 (fun hh773 pr_773 pf_773 => ?_)
  refine T_icmp_eq dL_law_776 (t := 1531) rfl (fun _ => ?_) (fun hc => absurd rfl hc)
  exact J1531 _ _ _   ⟨_, _, _, _, _, _, _, _, _, (pc_759.frame hP (Nat.le_refl _) (fun q hq => pf_773 q (by omega))), pr_773.at, ⟨hP, hL, hI, hO, hV⟩, (by omega), (hpr.frame (fun q hq => ((pf_773 q (by omega)).trans ((pf_759 q (by omega)).trans rfl)))), (hdg.frame (fun q hq => ((pf_773 q (by omega)).trans ((pf_759 q (by omega)).trans rfl)))), hs1, ((pf_773 _ (by omega)).trans ((pf_759 _ (by omega)).trans hs2))⟩
set_option maxHeartbeats 4000000 in
set_option maxRecDepth 100000 in
theorem law_19 {n0 n k : Nat} {g : Nat → zV} {h : zHp} {Q : Option zV → Nat → Nat → zHp → Prop} {B nb vb N i sA len K0 : Nat} {cb : Nat → Nat} {P : pT} {L : lT} {I O : tT} {V : Int × pT} {f : Nat → Int} {r4 : Option Nat} (hg0 : g 0 = .inl 1) (hg4 : g 4 = .inr r4) (hB : n0 ≤ B) (hP : pwf P) (hL : lwf L) (hI : iwf I) (hO : owf O) (hV : vwf V) (hcl : clAt h B (B + 429) n P L I O V nb cb vb N) (hrf : rfAt h (B + 396) P L I O V) (hcn : n ≤ B + 429 + 15 * nb + N ∧ k ≤ K0 + 110 * nb + 3 * N) (hpr : prOk g h B) (hdg : dgOk g h B) (hs1 : sA < B) (hs2 : h sA = some (.inr (.inl (0, len, f)))) (hf : ∀ j, j < len → zR (f j)) (hi : i + 5 ≤ len ∧ len ≤ 2560) (J1531 : ∀ (n' k' : Nat) (h' : zHp), lawI g h' B sA len f n' k' K0 → ZT n0 g mL_law 1531 [some (.inr (some sA)), some (.inr (some B)), some (.inr (some (B + 396))), some (.inl (i : Int))] [] n' k' h' Q) : ZT n0 g mL_law 781 [some (.inr (some sA)), some (.inr (some B)), some (.inr (some (B + 396))), some (.inl (i : Int))] [] n k h Q := by
  have o0 := hcl.1
  obtain ⟨_, _, _, _, _, _, _, _, _, hM9, -⟩ := id hrf
  refine T_aload_n dL_law_781 rfl ?_
  refine T_aload_n dL_law_782 rfl ?_
  refine T_iload_n dL_law_783 rfl ?_
  refine T_iconst dL_law_784 (by decide) ?_
  refine T_iadd dL_law_785 ⟨by omega, by omega⟩ ?_
  refine T_ialoadN (m := (i + 1)) dL_law_786 hs2 rfl (by omega) ?_
  refine T_callV dL_law_787 zkm_20_94 (Or.inl rfl) rfl o0 ⟨Nat.le_of_ble_eq_true rfl, rfl⟩ rfl (Nat.le_of_ble_eq_true rfl) ?_
  refine m_X9_basisSize  hP hL hI hO hV hB hcl (fun nb'787 cb'787 n'787 k'787 hh787 k787a k787b k787c k787d pc_787 pf_787 => ?_)
  have hrf2 := hrf.frame (fun q a1 a2 => pf_787 q (by omega))
  obtain ⟨_, _, _, _, _, _, _, _, _, hM9, -⟩ := id hrf2
  refine T_aload_n dL_law_790 rfl ?_
  refine T_aload_n dL_law_791 rfl ?_
  refine T_iload_n dL_law_792 rfl ?_
  refine T_iconst dL_law_793 (by decide) ?_
  refine T_iadd dL_law_794 ⟨by omega, by omega⟩ ?_
  refine T_ialoadN (m := (i + 1)) dL_law_795 ((pf_787 _ (by omega)).trans hs2) rfl (by omega) ?_
  refine T_callV dL_law_796 zkm_20_97 (Or.inl rfl) rfl hM9 ⟨Nat.le_of_ble_eq_true rfl, rfl⟩ rfl (Nat.le_of_ble_eq_true rfl) ?_
  refine m_X10_basisSize  hP hL hI hO hV (by omega) hrf2 (fun hh796 pr_796 pf_796 => ?_)
  refine T_icmp_eq dL_law_799 (t := 1531) rfl (fun _ => ?_) (fun hc => absurd rfl hc)
  exact J1531 _ _ _   ⟨_, _, _, _, _, _, _, _, _, (pc_787.frame hP (Nat.le_refl _) (fun q hq => pf_796 q (by omega))), pr_796.at, ⟨hP, hL, hI, hO, hV⟩, (by omega), (hpr.frame (fun q hq => ((pf_796 q (by omega)).trans ((pf_787 q (by omega)).trans rfl)))), (hdg.frame (fun q hq => ((pf_796 q (by omega)).trans ((pf_787 q (by omega)).trans rfl)))), hs1, ((pf_796 _ (by omega)).trans ((pf_787 _ (by omega)).trans hs2))⟩
set_option maxHeartbeats 4000000 in
set_option maxRecDepth 100000 in
theorem law_20 {n0 n k : Nat} {g : Nat → zV} {h : zHp} {Q : Option zV → Nat → Nat → zHp → Prop} {B nb vb N i sA len K0 : Nat} {cb : Nat → Nat} {P : pT} {L : lT} {I O : tT} {V : Int × pT} {f : Nat → Int} {r4 : Option Nat} (hg0 : g 0 = .inl 1) (hg4 : g 4 = .inr r4) (hB : n0 ≤ B) (hP : pwf P) (hL : lwf L) (hI : iwf I) (hO : owf O) (hV : vwf V) (hcl : clAt h B (B + 429) n P L I O V nb cb vb N) (hrf : rfAt h (B + 396) P L I O V) (hcn : n ≤ B + 429 + 15 * nb + N ∧ k ≤ K0 + 110 * nb + 3 * N) (hpr : prOk g h B) (hdg : dgOk g h B) (hs1 : sA < B) (hs2 : h sA = some (.inr (.inl (0, len, f)))) (hf : ∀ j, j < len → zR (f j)) (hi : i + 5 ≤ len ∧ len ≤ 2560) (J1531 : ∀ (n' k' : Nat) (h' : zHp), lawI g h' B sA len f n' k' K0 → ZT n0 g mL_law 1531 [some (.inr (some sA)), some (.inr (some B)), some (.inr (some (B + 396))), some (.inl (i : Int))] [] n' k' h' Q) : ZT n0 g mL_law 804 [some (.inr (some sA)), some (.inr (some B)), some (.inr (some (B + 396))), some (.inl (i : Int))] [] n k h Q := by
  have o0 := hcl.1
  obtain ⟨_, _, _, _, _, _, _, _, _, hM9, -⟩ := id hrf
  refine T_aload_n dL_law_804 rfl ?_
  refine T_aload_n dL_law_805 rfl ?_
  refine T_iload_n dL_law_806 rfl ?_
  refine T_iconst dL_law_807 (by decide) ?_
  refine T_iadd dL_law_808 ⟨by omega, by omega⟩ ?_
  refine T_ialoadN (m := (i + 1)) dL_law_809 hs2 rfl (by omega) ?_
  refine T_aload_n dL_law_810 rfl ?_
  refine T_iload_n dL_law_811 rfl ?_
  refine T_iconst dL_law_812 (by decide) ?_
  refine T_iadd dL_law_813 ⟨by omega, by omega⟩ ?_
  refine T_ialoadN (m := (i + 2)) dL_law_814 hs2 rfl (by omega) ?_
  refine T_callV dL_law_815 zkm_20_98 (Or.inl rfl) rfl o0 ⟨Nat.le_of_ble_eq_true rfl, rfl⟩ rfl (Nat.le_of_ble_eq_true rfl) ?_
  refine m_X9_basisCorner  hP hL hI hO hV hB hcl (fun nb'815 cb'815 n'815 k'815 hh815 k815a k815b k815c k815d pc_815 pf_815 => ?_)
  have hrf2 := hrf.frame (fun q a1 a2 => pf_815 q (by omega))
  obtain ⟨_, _, _, _, _, _, _, _, _, hM9, -⟩ := id hrf2
  refine T_aload_n dL_law_818 rfl ?_
  refine T_aload_n dL_law_819 rfl ?_
  refine T_iload_n dL_law_820 rfl ?_
  refine T_iconst dL_law_821 (by decide) ?_
  refine T_iadd dL_law_822 ⟨by omega, by omega⟩ ?_
  refine T_ialoadN (m := (i + 1)) dL_law_823 ((pf_815 _ (by omega)).trans hs2) rfl (by omega) ?_
  refine T_aload_n dL_law_824 rfl ?_
  refine T_iload_n dL_law_825 rfl ?_
  refine T_iconst dL_law_826 (by decide) ?_
  refine T_iadd dL_law_827 ⟨by omega, by omega⟩ ?_
  refine T_ialoadN (m := (i + 2)) dL_law_828 ((pf_815 _ (by omega)).trans hs2) rfl (by omega) ?_
  refine T_callV dL_law_829 zkm_20_101 (Or.inl rfl) rfl hM9 ⟨Nat.le_of_ble_eq_true rfl, rfl⟩ rfl (Nat.le_of_ble_eq_true rfl) ?_
  refine m_X10_basisCorner  hP hL hI hO hV (by omega) hrf2 (fun hh829 pr_829 pf_829 => ?_)
  refine T_icmp_eq dL_law_832 (t := 1531) rfl (fun _ => ?_) (fun hc => absurd rfl hc)
  exact J1531 _ _ _   ⟨_, _, _, _, _, _, _, _, _, (pc_815.frame hP (Nat.le_refl _) (fun q hq => pf_829 q (by omega))), pr_829.at, ⟨hP, hL, hI, hO, hV⟩, (by omega), (hpr.frame (fun q hq => ((pf_829 q (by omega)).trans ((pf_815 q (by omega)).trans rfl)))), (hdg.frame (fun q hq => ((pf_829 q (by omega)).trans ((pf_815 q (by omega)).trans rfl)))), hs1, ((pf_829 _ (by omega)).trans ((pf_815 _ (by omega)).trans hs2))⟩
set_option maxHeartbeats 4000000 in
set_option maxRecDepth 100000 in
theorem law_21 {n0 n k : Nat} {g : Nat → zV} {h : zHp} {Q : Option zV → Nat → Nat → zHp → Prop} {B nb vb N i sA len K0 : Nat} {cb : Nat → Nat} {P : pT} {L : lT} {I O : tT} {V : Int × pT} {f : Nat → Int} {r4 : Option Nat} (hg0 : g 0 = .inl 1) (hg4 : g 4 = .inr r4) (hB : n0 ≤ B) (hP : pwf P) (hL : lwf L) (hI : iwf I) (hO : owf O) (hV : vwf V) (hcl : clAt h B (B + 429) n P L I O V nb cb vb N) (hrf : rfAt h (B + 396) P L I O V) (hcn : n ≤ B + 429 + 15 * nb + N ∧ k ≤ K0 + 110 * nb + 3 * N) (hpr : prOk g h B) (hdg : dgOk g h B) (hs1 : sA < B) (hs2 : h sA = some (.inr (.inl (0, len, f)))) (hf : ∀ j, j < len → zR (f j)) (hi : i + 5 ≤ len ∧ len ≤ 2560) (J1531 : ∀ (n' k' : Nat) (h' : zHp), lawI g h' B sA len f n' k' K0 → ZT n0 g mL_law 1531 [some (.inr (some sA)), some (.inr (some B)), some (.inr (some (B + 396))), some (.inl (i : Int))] [] n' k' h' Q) : ZT n0 g mL_law 837 [some (.inr (some sA)), some (.inr (some B)), some (.inr (some (B + 396))), some (.inl (i : Int))] [] n k h Q := by
  have o0 := hcl.1
  obtain ⟨_, _, _, _, _, _, _, _, _, hM9, -⟩ := id hrf
  refine T_aload_n dL_law_837 rfl ?_
  refine T_aload_n dL_law_838 rfl ?_
  refine T_iload_n dL_law_839 rfl ?_
  refine T_iconst dL_law_840 (by decide) ?_
  refine T_iadd dL_law_841 ⟨by omega, by omega⟩ ?_
  refine T_ialoadN (m := (i + 1)) dL_law_842 hs2 rfl (by omega) ?_
  refine T_aload_n dL_law_843 rfl ?_
  refine T_iload_n dL_law_844 rfl ?_
  refine T_iconst dL_law_845 (by decide) ?_
  refine T_iadd dL_law_846 ⟨by omega, by omega⟩ ?_
  refine T_ialoadN (m := (i + 2)) dL_law_847 hs2 rfl (by omega) ?_
  refine T_aload_n dL_law_848 rfl ?_
  refine T_iload_n dL_law_849 rfl ?_
  refine T_iconst dL_law_850 (by decide) ?_
  refine T_iadd dL_law_851 ⟨by omega, by omega⟩ ?_
  refine T_ialoadN (m := (i + 3)) dL_law_852 hs2 rfl (by omega) ?_
  refine T_aload_n dL_law_853 rfl ?_
  refine T_iload_n dL_law_854 rfl ?_
  refine T_iconst dL_law_855 (by decide) ?_
  refine T_iadd dL_law_856 ⟨by omega, by omega⟩ ?_
  refine T_ialoadN (m := (i + 4)) dL_law_857 hs2 rfl (by omega) ?_
  refine T_callV dL_law_858 zkm_20_102 (Or.inl rfl) rfl o0 ⟨Nat.le_of_ble_eq_true rfl, rfl⟩ rfl (Nat.le_of_ble_eq_true rfl) ?_
  refine m_X9_basisCoefficient  hP hL hI hO hV hB hcl (fun nb'858 cb'858 n'858 k'858 hh858 k858a k858b k858c k858d pc_858 pf_858 => ?_)
  have hrf2 := hrf.frame (fun q a1 a2 => pf_858 q (by omega))
  obtain ⟨_, _, _, _, _, _, _, _, _, hM9, -⟩ := id hrf2
  refine T_aload_n dL_law_861 rfl ?_
  refine T_aload_n dL_law_862 rfl ?_
  refine T_iload_n dL_law_863 rfl ?_
  refine T_iconst dL_law_864 (by decide) ?_
  refine T_iadd dL_law_865 ⟨by omega, by omega⟩ ?_
  refine T_ialoadN (m := (i + 1)) dL_law_866 ((pf_858 _ (by omega)).trans hs2) rfl (by omega) ?_
  refine T_aload_n dL_law_867 rfl ?_
  refine T_iload_n dL_law_868 rfl ?_
  refine T_iconst dL_law_869 (by decide) ?_
  refine T_iadd dL_law_870 ⟨by omega, by omega⟩ ?_
  refine T_ialoadN (m := (i + 2)) dL_law_871 ((pf_858 _ (by omega)).trans hs2) rfl (by omega) ?_
  refine T_aload_n dL_law_872 rfl ?_
  refine T_iload_n dL_law_873 rfl ?_
  refine T_iconst dL_law_874 (by decide) ?_
  refine T_iadd dL_law_875 ⟨by omega, by omega⟩ ?_
  refine T_ialoadN (m := (i + 3)) dL_law_876 ((pf_858 _ (by omega)).trans hs2) rfl (by omega) ?_
  refine T_aload_n dL_law_877 rfl ?_
  refine T_iload_n dL_law_878 rfl ?_
  refine T_iconst dL_law_879 (by decide) ?_
  refine T_iadd dL_law_880 ⟨by omega, by omega⟩ ?_
  refine T_ialoadN (m := (i + 4)) dL_law_881 ((pf_858 _ (by omega)).trans hs2) rfl (by omega) ?_
  refine T_callV dL_law_882 zkm_20_105 (Or.inl rfl) rfl hM9 ⟨Nat.le_of_ble_eq_true rfl, rfl⟩ rfl (Nat.le_of_ble_eq_true rfl) ?_
  refine m_X10_basisCoefficient  hP hL hI hO hV (by omega) hrf2 (fun hh882 pr_882 pf_882 => ?_)
  refine T_icmp_eq dL_law_885 (t := 1531) rfl (fun _ => ?_) (fun hc => absurd rfl hc)
  exact J1531 _ _ _   ⟨_, _, _, _, _, _, _, _, _, (pc_858.frame hP (Nat.le_refl _) (fun q hq => pf_882 q (by omega))), pr_882.at, ⟨hP, hL, hI, hO, hV⟩, (by omega), (hpr.frame (fun q hq => ((pf_882 q (by omega)).trans ((pf_858 q (by omega)).trans rfl)))), (hdg.frame (fun q hq => ((pf_882 q (by omega)).trans ((pf_858 q (by omega)).trans rfl)))), hs1, ((pf_882 _ (by omega)).trans ((pf_858 _ (by omega)).trans hs2))⟩
set_option maxHeartbeats 4000000 in
set_option maxRecDepth 100000 in
theorem law_22 {n0 n k : Nat} {g : Nat → zV} {h : zHp} {Q : Option zV → Nat → Nat → zHp → Prop} {B nb vb N i sA len K0 : Nat} {cb : Nat → Nat} {P : pT} {L : lT} {I O : tT} {V : Int × pT} {f : Nat → Int} {r4 : Option Nat} (hg0 : g 0 = .inl 1) (hg4 : g 4 = .inr r4) (hB : n0 ≤ B) (hP : pwf P) (hL : lwf L) (hI : iwf I) (hO : owf O) (hV : vwf V) (hcl : clAt h B (B + 429) n P L I O V nb cb vb N) (hrf : rfAt h (B + 396) P L I O V) (hcn : n ≤ B + 429 + 15 * nb + N ∧ k ≤ K0 + 110 * nb + 3 * N) (hpr : prOk g h B) (hdg : dgOk g h B) (hs1 : sA < B) (hs2 : h sA = some (.inr (.inl (0, len, f)))) (hf : ∀ j, j < len → zR (f j)) (hi : i + 5 ≤ len ∧ len ≤ 2560) (J1531 : ∀ (n' k' : Nat) (h' : zHp), lawI g h' B sA len f n' k' K0 → ZT n0 g mL_law 1531 [some (.inr (some sA)), some (.inr (some B)), some (.inr (some (B + 396))), some (.inl (i : Int))] [] n' k' h' Q) : ZT n0 g mL_law 890 [some (.inr (some sA)), some (.inr (some B)), some (.inr (some (B + 396))), some (.inl (i : Int))] [] n k h Q := by
  have o0 := hcl.1
  obtain ⟨_, _, _, _, _, _, _, _, _, hM9, -⟩ := id hrf
  refine T_aload_n dL_law_890 rfl ?_
  refine T_aload_n dL_law_891 rfl ?_
  refine T_iload_n dL_law_892 rfl ?_
  refine T_iconst dL_law_893 (by decide) ?_
  refine T_iadd dL_law_894 ⟨by omega, by omega⟩ ?_
  refine T_ialoadN (m := (i + 1)) dL_law_895 hs2 rfl (by omega) ?_
  refine T_callV dL_law_896 zkm_20_106 (Or.inl rfl) rfl o0 ⟨Nat.le_of_ble_eq_true rfl, rfl⟩ rfl (Nat.le_of_ble_eq_true rfl) ?_
  refine m_X9_changedCorners  hP hL hI hO hV hB hcl (fun nb'896 cb'896 n'896 k'896 hh896 k896a k896b k896c k896d pc_896 pf_896 => ?_)
  have hrf2 := hrf.frame (fun q a1 a2 => pf_896 q (by omega))
  obtain ⟨_, _, _, _, _, _, _, _, _, hM9, -⟩ := id hrf2
  refine T_aload_n dL_law_899 rfl ?_
  refine T_aload_n dL_law_900 rfl ?_
  refine T_iload_n dL_law_901 rfl ?_
  refine T_iconst dL_law_902 (by decide) ?_
  refine T_iadd dL_law_903 ⟨by omega, by omega⟩ ?_
  refine T_ialoadN (m := (i + 1)) dL_law_904 ((pf_896 _ (by omega)).trans hs2) rfl (by omega) ?_
  refine T_callV dL_law_905 zkm_20_109 (Or.inl rfl) rfl hM9 ⟨Nat.le_of_ble_eq_true rfl, rfl⟩ rfl (Nat.le_of_ble_eq_true rfl) ?_
  refine m_X10_changedCorners  hP hL hI hO hV (by omega) hrf2 (fun hh905 pr_905 pf_905 => ?_)
  refine T_icmp_eq dL_law_908 (t := 1531) rfl (fun _ => ?_) (fun hc => absurd rfl hc)
  exact J1531 _ _ _   ⟨_, _, _, _, _, _, _, _, _, (pc_896.frame hP (Nat.le_refl _) (fun q hq => pf_905 q (by omega))), pr_905, ⟨hP, hL, hI, hO, hV⟩, (by omega), (hpr.frame (fun q hq => ((pf_905 q (by omega)).trans ((pf_896 q (by omega)).trans rfl)))), (hdg.frame (fun q hq => ((pf_905 q (by omega)).trans ((pf_896 q (by omega)).trans rfl)))), hs1, ((pf_905 _ (by omega)).trans ((pf_896 _ (by omega)).trans hs2))⟩
set_option maxHeartbeats 4000000 in
set_option maxRecDepth 100000 in
theorem law_23 {n0 n k : Nat} {g : Nat → zV} {h : zHp} {Q : Option zV → Nat → Nat → zHp → Prop} {B nb vb N i sA len K0 : Nat} {cb : Nat → Nat} {P : pT} {L : lT} {I O : tT} {V : Int × pT} {f : Nat → Int} {r4 : Option Nat} (hg0 : g 0 = .inl 1) (hg4 : g 4 = .inr r4) (hB : n0 ≤ B) (hP : pwf P) (hL : lwf L) (hI : iwf I) (hO : owf O) (hV : vwf V) (hcl : clAt h B (B + 429) n P L I O V nb cb vb N) (hrf : rfAt h (B + 396) P L I O V) (hcn : n ≤ B + 429 + 15 * nb + N ∧ k ≤ K0 + 110 * nb + 3 * N) (hpr : prOk g h B) (hdg : dgOk g h B) (hs1 : sA < B) (hs2 : h sA = some (.inr (.inl (0, len, f)))) (hf : ∀ j, j < len → zR (f j)) (hi : i + 5 ≤ len ∧ len ≤ 2560) (J1531 : ∀ (n' k' : Nat) (h' : zHp), lawI g h' B sA len f n' k' K0 → ZT n0 g mL_law 1531 [some (.inr (some sA)), some (.inr (some B)), some (.inr (some (B + 396))), some (.inl (i : Int))] [] n' k' h' Q) : ZT n0 g mL_law 913 [some (.inr (some sA)), some (.inr (some B)), some (.inr (some (B + 396))), some (.inl (i : Int))] [] n k h Q := by
  have o0 := hcl.1
  obtain ⟨_, _, _, _, _, _, _, _, _, hM9, -⟩ := id hrf
  refine T_aload_n dL_law_913 rfl ?_
  refine T_callV dL_law_914 zkm_20_110 (Or.inl rfl) rfl o0 ⟨Nat.le_of_ble_eq_true rfl, rfl⟩ rfl (Nat.le_of_ble_eq_true rfl) ?_
  refine m_X9_universalSize  hP hL hI hO hV hB hcl (fun nb'914 cb'914 n'914 k'914 hh914 k914a k914b k914c k914d pc_914 pf_914 => ?_)
  have hrf2 := hrf.frame (fun q a1 a2 => pf_914 q (by omega))
  obtain ⟨_, _, _, _, _, _, _, _, _, hM9, -⟩ := id hrf2
  refine T_aload_n dL_law_917 rfl ?_
  refine T_callV dL_law_918 zkm_20_113 (Or.inl rfl) rfl hM9 ⟨Nat.le_of_ble_eq_true rfl, rfl⟩ rfl (Nat.le_of_ble_eq_true rfl) ?_
  refine m_X10_universalSize  hP hL hI hO hV (by omega) hrf2 (fun hh918 pr_918 pf_918 => ?_)
  refine T_icmp_eq dL_law_921 (t := 1531) rfl (fun _ => ?_) (fun hc => absurd rfl hc)
  exact J1531 _ _ _   ⟨_, _, _, _, _, _, _, _, _, (pc_914.frame hP (Nat.le_refl _) (fun q hq => pf_918 q (by omega))), pr_918, ⟨hP, hL, hI, hO, hV⟩, (by omega), (hpr.frame (fun q hq => ((pf_918 q (by omega)).trans ((pf_914 q (by omega)).trans rfl)))), (hdg.frame (fun q hq => ((pf_918 q (by omega)).trans ((pf_914 q (by omega)).trans rfl)))), hs1, ((pf_918 _ (by omega)).trans ((pf_914 _ (by omega)).trans hs2))⟩
set_option maxHeartbeats 4000000 in
set_option maxRecDepth 100000 in
theorem law_24 {n0 n k : Nat} {g : Nat → zV} {h : zHp} {Q : Option zV → Nat → Nat → zHp → Prop} {B nb vb N i sA len K0 : Nat} {cb : Nat → Nat} {P : pT} {L : lT} {I O : tT} {V : Int × pT} {f : Nat → Int} {r4 : Option Nat} (hg0 : g 0 = .inl 1) (hg4 : g 4 = .inr r4) (hB : n0 ≤ B) (hP : pwf P) (hL : lwf L) (hI : iwf I) (hO : owf O) (hV : vwf V) (hcl : clAt h B (B + 429) n P L I O V nb cb vb N) (hrf : rfAt h (B + 396) P L I O V) (hcn : n ≤ B + 429 + 15 * nb + N ∧ k ≤ K0 + 110 * nb + 3 * N) (hpr : prOk g h B) (hdg : dgOk g h B) (hs1 : sA < B) (hs2 : h sA = some (.inr (.inl (0, len, f)))) (hf : ∀ j, j < len → zR (f j)) (hi : i + 5 ≤ len ∧ len ≤ 2560) (J1531 : ∀ (n' k' : Nat) (h' : zHp), lawI g h' B sA len f n' k' K0 → ZT n0 g mL_law 1531 [some (.inr (some sA)), some (.inr (some B)), some (.inr (some (B + 396))), some (.inl (i : Int))] [] n' k' h' Q) : ZT n0 g mL_law 926 [some (.inr (some sA)), some (.inr (some B)), some (.inr (some (B + 396))), some (.inl (i : Int))] [] n k h Q := by
  have o0 := hcl.1
  obtain ⟨_, _, _, _, _, _, _, _, _, hM9, -⟩ := id hrf
  refine T_aload_n dL_law_926 rfl ?_
  refine T_callV dL_law_927 zkm_20_114 (Or.inl rfl) rfl o0 ⟨Nat.le_of_ble_eq_true rfl, rfl⟩ rfl (Nat.le_of_ble_eq_true rfl) ?_
  refine m_X9_universalDegree  hP hL hI hO hV hB hcl (fun nb'927 cb'927 n'927 k'927 hh927 k927a k927b k927c k927d pc_927 pf_927 => ?_)
  have hrf2 := hrf.frame (fun q a1 a2 => pf_927 q (by omega))
  obtain ⟨_, _, _, _, _, _, _, _, _, hM9, -⟩ := id hrf2
  refine T_aload_n dL_law_930 rfl ?_
  refine T_callV dL_law_931 zkm_20_117 (Or.inl rfl) rfl hM9 ⟨Nat.le_of_ble_eq_true rfl, rfl⟩ rfl (Nat.le_of_ble_eq_true rfl) ?_
  refine m_X10_universalDegree  hP hL hI hO hV (by omega) hrf2 (fun hh931 pr_931 pf_931 => ?_)
  refine T_icmp_eq dL_law_934 (t := 1531) rfl (fun _ => ?_) (fun hc => absurd rfl hc)
  exact J1531 _ _ _   ⟨_, _, _, _, _, _, _, _, _, (pc_927.frame hP (Nat.le_refl _) (fun q hq => pf_931 q (by omega))), pr_931, ⟨hP, hL, hI, hO, hV⟩, (by omega), (hpr.frame (fun q hq => ((pf_931 q (by omega)).trans ((pf_927 q (by omega)).trans rfl)))), (hdg.frame (fun q hq => ((pf_931 q (by omega)).trans ((pf_927 q (by omega)).trans rfl)))), hs1, ((pf_931 _ (by omega)).trans ((pf_927 _ (by omega)).trans hs2))⟩
set_option maxHeartbeats 4000000 in
set_option maxRecDepth 100000 in
theorem law_25 {n0 n k : Nat} {g : Nat → zV} {h : zHp} {Q : Option zV → Nat → Nat → zHp → Prop} {B nb vb N i sA len K0 : Nat} {cb : Nat → Nat} {P : pT} {L : lT} {I O : tT} {V : Int × pT} {f : Nat → Int} {r4 : Option Nat} (hg0 : g 0 = .inl 1) (hg4 : g 4 = .inr r4) (hB : n0 ≤ B) (hP : pwf P) (hL : lwf L) (hI : iwf I) (hO : owf O) (hV : vwf V) (hcl : clAt h B (B + 429) n P L I O V nb cb vb N) (hrf : rfAt h (B + 396) P L I O V) (hcn : n ≤ B + 429 + 15 * nb + N ∧ k ≤ K0 + 110 * nb + 3 * N) (hpr : prOk g h B) (hdg : dgOk g h B) (hs1 : sA < B) (hs2 : h sA = some (.inr (.inl (0, len, f)))) (hf : ∀ j, j < len → zR (f j)) (hi : i + 5 ≤ len ∧ len ≤ 2560) (J1531 : ∀ (n' k' : Nat) (h' : zHp), lawI g h' B sA len f n' k' K0 → ZT n0 g mL_law 1531 [some (.inr (some sA)), some (.inr (some B)), some (.inr (some (B + 396))), some (.inl (i : Int))] [] n' k' h' Q) : ZT n0 g mL_law 939 [some (.inr (some sA)), some (.inr (some B)), some (.inr (some (B + 396))), some (.inl (i : Int))] [] n k h Q := by
  have o0 := hcl.1
  obtain ⟨_, _, _, _, _, _, _, _, _, hM9, -⟩ := id hrf
  refine T_aload_n dL_law_939 rfl ?_
  refine T_aload_n dL_law_940 rfl ?_
  refine T_iload_n dL_law_941 rfl ?_
  refine T_iconst dL_law_942 (by decide) ?_
  refine T_iadd dL_law_943 ⟨by omega, by omega⟩ ?_
  refine T_ialoadN (m := (i + 1)) dL_law_944 hs2 rfl (by omega) ?_
  refine T_callV dL_law_945 zkm_20_118 (Or.inl rfl) rfl o0 ⟨Nat.le_of_ble_eq_true rfl, rfl⟩ rfl (Nat.le_of_ble_eq_true rfl) ?_
  refine m_X9_mirroredCone  hP hL hI hO hV hB hcl (fun nb'945 cb'945 n'945 k'945 hh945 k945a k945b k945c k945d pc_945 pf_945 => ?_)
  have hrf2 := hrf.frame (fun q a1 a2 => pf_945 q (by omega))
  obtain ⟨_, _, _, _, _, _, _, _, _, hM9, -⟩ := id hrf2
  refine T_aload_n dL_law_948 rfl ?_
  refine T_aload_n dL_law_949 rfl ?_
  refine T_iload_n dL_law_950 rfl ?_
  refine T_iconst dL_law_951 (by decide) ?_
  refine T_iadd dL_law_952 ⟨by omega, by omega⟩ ?_
  refine T_ialoadN (m := (i + 1)) dL_law_953 ((pf_945 _ (by omega)).trans hs2) rfl (by omega) ?_
  refine T_callV dL_law_954 zkm_20_121 (Or.inl rfl) rfl hM9 ⟨Nat.le_of_ble_eq_true rfl, rfl⟩ rfl (Nat.le_of_ble_eq_true rfl) ?_
  refine m_X10_mirroredCone  hP hL hI hO hV (by omega) hrf2 (fun hh954 pr_954 pf_954 => ?_)
  refine T_icmp_eq dL_law_957 (t := 1531) rfl (fun _ => ?_) (fun hc => absurd rfl hc)
  exact J1531 _ _ _   ⟨_, _, _, _, _, _, _, _, _, (pc_945.frame hP (Nat.le_refl _) (fun q hq => pf_954 q (by omega))), pr_954, ⟨hP, hL, hI, hO, hV⟩, (by omega), (hpr.frame (fun q hq => ((pf_954 q (by omega)).trans ((pf_945 q (by omega)).trans rfl)))), (hdg.frame (fun q hq => ((pf_954 q (by omega)).trans ((pf_945 q (by omega)).trans rfl)))), hs1, ((pf_954 _ (by omega)).trans ((pf_945 _ (by omega)).trans hs2))⟩
set_option maxHeartbeats 4000000 in
set_option maxRecDepth 100000 in
theorem law_26 {n0 n k : Nat} {g : Nat → zV} {h : zHp} {Q : Option zV → Nat → Nat → zHp → Prop} {B nb vb N i sA len K0 : Nat} {cb : Nat → Nat} {P : pT} {L : lT} {I O : tT} {V : Int × pT} {f : Nat → Int} {r4 : Option Nat} (hg0 : g 0 = .inl 1) (hg4 : g 4 = .inr r4) (hB : n0 ≤ B) (hP : pwf P) (hL : lwf L) (hI : iwf I) (hO : owf O) (hV : vwf V) (hcl : clAt h B (B + 429) n P L I O V nb cb vb N) (hrf : rfAt h (B + 396) P L I O V) (hcn : n ≤ B + 429 + 15 * nb + N ∧ k ≤ K0 + 110 * nb + 3 * N) (hpr : prOk g h B) (hdg : dgOk g h B) (hs1 : sA < B) (hs2 : h sA = some (.inr (.inl (0, len, f)))) (hf : ∀ j, j < len → zR (f j)) (hi : i + 5 ≤ len ∧ len ≤ 2560) (J1531 : ∀ (n' k' : Nat) (h' : zHp), lawI g h' B sA len f n' k' K0 → ZT n0 g mL_law 1531 [some (.inr (some sA)), some (.inr (some B)), some (.inr (some (B + 396))), some (.inl (i : Int))] [] n' k' h' Q) : ZT n0 g mL_law 962 [some (.inr (some sA)), some (.inr (some B)), some (.inr (some (B + 396))), some (.inl (i : Int))] [] n k h Q := by
  have o0 := hcl.1
  obtain ⟨_, _, _, _, _, _, _, _, _, hM9, -⟩ := id hrf
  refine T_aload_n dL_law_962 rfl ?_
  refine T_callV dL_law_963 zkm_20_122 (Or.inl rfl) rfl o0 ⟨Nat.le_of_ble_eq_true rfl, rfl⟩ rfl (Nat.le_of_ble_eq_true rfl) ?_
  refine m_X9_flattestCone  hP hL hI hO hV hB hcl (fun nb'963 cb'963 n'963 k'963 hh963 k963a k963b k963c k963d pc_963 pf_963 => ?_)
  have hrf2 := hrf.frame (fun q a1 a2 => pf_963 q (by omega))
  obtain ⟨_, _, _, _, _, _, _, _, _, hM9, -⟩ := id hrf2
  refine T_aload_n dL_law_966 rfl ?_
  refine T_callV dL_law_967 zkm_20_125 (Or.inl rfl) rfl hM9 ⟨Nat.le_of_ble_eq_true rfl, rfl⟩ rfl (Nat.le_of_ble_eq_true rfl) ?_
  refine m_X10_flattestCone  hP hL hI hO hV (by omega) hrf2 (fun hh967 pr_967 pf_967 => ?_)
  refine T_icmp_eq dL_law_970 (t := 1531) rfl (fun _ => ?_) (fun hc => absurd rfl hc)
  exact J1531 _ _ _   ⟨_, _, _, _, _, _, _, _, _, (pc_963.frame hP (Nat.le_refl _) (fun q hq => pf_967 q (by omega))), pr_967, ⟨hP, hL, hI, hO, hV⟩, (by omega), (hpr.frame (fun q hq => ((pf_967 q (by omega)).trans ((pf_963 q (by omega)).trans rfl)))), (hdg.frame (fun q hq => ((pf_967 q (by omega)).trans ((pf_963 q (by omega)).trans rfl)))), hs1, ((pf_967 _ (by omega)).trans ((pf_963 _ (by omega)).trans hs2))⟩
set_option maxHeartbeats 4000000 in
set_option maxRecDepth 100000 in
theorem law_27 {n0 n k : Nat} {g : Nat → zV} {h : zHp} {Q : Option zV → Nat → Nat → zHp → Prop} {B nb vb N i sA len K0 : Nat} {cb : Nat → Nat} {P : pT} {L : lT} {I O : tT} {V : Int × pT} {f : Nat → Int} {r4 : Option Nat} (hg0 : g 0 = .inl 1) (hg4 : g 4 = .inr r4) (hB : n0 ≤ B) (hP : pwf P) (hL : lwf L) (hI : iwf I) (hO : owf O) (hV : vwf V) (hcl : clAt h B (B + 429) n P L I O V nb cb vb N) (hrf : rfAt h (B + 396) P L I O V) (hcn : n ≤ B + 429 + 15 * nb + N ∧ k ≤ K0 + 110 * nb + 3 * N) (hpr : prOk g h B) (hdg : dgOk g h B) (hs1 : sA < B) (hs2 : h sA = some (.inr (.inl (0, len, f)))) (hf : ∀ j, j < len → zR (f j)) (hi : i + 5 ≤ len ∧ len ≤ 2560) (J1531 : ∀ (n' k' : Nat) (h' : zHp), lawI g h' B sA len f n' k' K0 → ZT n0 g mL_law 1531 [some (.inr (some sA)), some (.inr (some B)), some (.inr (some (B + 396))), some (.inl (i : Int))] [] n' k' h' Q) : ZT n0 g mL_law 975 [some (.inr (some sA)), some (.inr (some B)), some (.inr (some (B + 396))), some (.inl (i : Int))] [] n k h Q := by
  have o0 := hcl.1
  obtain ⟨_, _, _, _, _, _, _, _, _, hM9, -⟩ := id hrf
  refine T_aload_n dL_law_975 rfl ?_
  refine T_aload_n dL_law_976 rfl ?_
  refine T_iload_n dL_law_977 rfl ?_
  refine T_iconst dL_law_978 (by decide) ?_
  refine T_iadd dL_law_979 ⟨by omega, by omega⟩ ?_
  refine T_ialoadN (m := (i + 1)) dL_law_980 hs2 rfl (by omega) ?_
  refine T_aload_n dL_law_981 rfl ?_
  refine T_iload_n dL_law_982 rfl ?_
  refine T_iconst dL_law_983 (by decide) ?_
  refine T_iadd dL_law_984 ⟨by omega, by omega⟩ ?_
  refine T_ialoadN (m := (i + 2)) dL_law_985 hs2 rfl (by omega) ?_
  refine T_aload_n dL_law_986 rfl ?_
  refine T_iload_n dL_law_987 rfl ?_
  refine T_iconst dL_law_988 (by decide) ?_
  refine T_iadd dL_law_989 ⟨by omega, by omega⟩ ?_
  refine T_ialoadN (m := (i + 3)) dL_law_990 hs2 rfl (by omega) ?_
  refine T_callV dL_law_991 zkm_20_126 (Or.inl rfl) rfl o0 ⟨Nat.le_of_ble_eq_true rfl, rfl⟩ rfl (Nat.le_of_ble_eq_true rfl) ?_
  refine m_X9_setCoefficient  hP hL hI hO hV hB hcl (hf _ (by omega)) (fun hh991 pc_991 pf_991 => ?_)
  have hrf2 := hrf.frame (fun q a1 a2 => pf_991 q (by omega))
  obtain ⟨_, _, _, _, _, _, _, _, _, hM9, -⟩ := id hrf2
  refine T_aload_n dL_law_994 rfl ?_
  refine T_aload_n dL_law_995 rfl ?_
  refine T_iload_n dL_law_996 rfl ?_
  refine T_iconst dL_law_997 (by decide) ?_
  refine T_iadd dL_law_998 ⟨by omega, by omega⟩ ?_
  refine T_ialoadN (m := (i + 1)) dL_law_999 ((pf_991 _ (by omega)).trans hs2) rfl (by omega) ?_
  refine T_aload_n dL_law_1000 rfl ?_
  refine T_iload_n dL_law_1001 rfl ?_
  refine T_iconst dL_law_1002 (by decide) ?_
  refine T_iadd dL_law_1003 ⟨by omega, by omega⟩ ?_
  refine T_ialoadN (m := (i + 2)) dL_law_1004 ((pf_991 _ (by omega)).trans hs2) rfl (by omega) ?_
  refine T_aload_n dL_law_1005 rfl ?_
  refine T_iload_n dL_law_1006 rfl ?_
  refine T_iconst dL_law_1007 (by decide) ?_
  refine T_iadd dL_law_1008 ⟨by omega, by omega⟩ ?_
  refine T_ialoadN (m := (i + 3)) dL_law_1009 ((pf_991 _ (by omega)).trans hs2) rfl (by omega) ?_
  refine T_callV dL_law_1010 zkm_20_129 (Or.inl rfl) rfl hM9 ⟨Nat.le_of_ble_eq_true rfl, rfl⟩ rfl (Nat.le_of_ble_eq_true rfl) ?_
  refine m_X10_setCoefficient  hP hL hI hO hV (by omega) hrf2 (hf _ (by omega)) (fun hh1010 pr_1010 pf_1010 => ?_)
  refine T_icmp_eq dL_law_1013 (t := 1531) rfl (fun _ => ?_) (fun hc => absurd rfl hc)
  exact J1531 _ _ _   ⟨_, _, _, _, _, _, _, _, _, (pc_991.frame (wf_set hP _ _ _) (Nat.le_refl _) (fun q hq => pf_1010 q (by omega))), pr_1010, ⟨(wf_set hP _ _ _), hL, hI, hO, hV⟩, (by omega), (hpr.frame (fun q hq => ((pf_1010 q (by omega)).trans ((pf_991 q (by omega)).trans rfl)))), (hdg.frame (fun q hq => ((pf_1010 q (by omega)).trans ((pf_991 q (by omega)).trans rfl)))), hs1, ((pf_1010 _ (by omega)).trans ((pf_991 _ (by omega)).trans hs2))⟩
set_option maxHeartbeats 4000000 in
set_option maxRecDepth 100000 in
theorem law_28 {n0 n k : Nat} {g : Nat → zV} {h : zHp} {Q : Option zV → Nat → Nat → zHp → Prop} {B nb vb N i sA len K0 : Nat} {cb : Nat → Nat} {P : pT} {L : lT} {I O : tT} {V : Int × pT} {f : Nat → Int} {r4 : Option Nat} (hg0 : g 0 = .inl 1) (hg4 : g 4 = .inr r4) (hB : n0 ≤ B) (hP : pwf P) (hL : lwf L) (hI : iwf I) (hO : owf O) (hV : vwf V) (hcl : clAt h B (B + 429) n P L I O V nb cb vb N) (hrf : rfAt h (B + 396) P L I O V) (hcn : n ≤ B + 429 + 15 * nb + N ∧ k ≤ K0 + 110 * nb + 3 * N) (hpr : prOk g h B) (hdg : dgOk g h B) (hs1 : sA < B) (hs2 : h sA = some (.inr (.inl (0, len, f)))) (hf : ∀ j, j < len → zR (f j)) (hi : i + 5 ≤ len ∧ len ≤ 2560) (J1531 : ∀ (n' k' : Nat) (h' : zHp), lawI g h' B sA len f n' k' K0 → ZT n0 g mL_law 1531 [some (.inr (some sA)), some (.inr (some B)), some (.inr (some (B + 396))), some (.inl (i : Int))] [] n' k' h' Q) : ZT n0 g mL_law 1018 [some (.inr (some sA)), some (.inr (some B)), some (.inr (some (B + 396))), some (.inl (i : Int))] [] n k h Q := by
  have o0 := hcl.1
  obtain ⟨_, _, _, _, _, _, _, _, _, hM9, -⟩ := id hrf
  refine T_aload_n dL_law_1018 rfl ?_
  refine T_aload_n dL_law_1019 rfl ?_
  refine T_iload_n dL_law_1020 rfl ?_
  refine T_iconst dL_law_1021 (by decide) ?_
  refine T_iadd dL_law_1022 ⟨by omega, by omega⟩ ?_
  refine T_ialoadN (m := (i + 1)) dL_law_1023 hs2 rfl (by omega) ?_
  refine T_aload_n dL_law_1024 rfl ?_
  refine T_iload_n dL_law_1025 rfl ?_
  refine T_iconst dL_law_1026 (by decide) ?_
  refine T_iadd dL_law_1027 ⟨by omega, by omega⟩ ?_
  refine T_ialoadN (m := (i + 2)) dL_law_1028 hs2 rfl (by omega) ?_
  refine T_callV dL_law_1029 zkm_20_130 (Or.inl rfl) rfl o0 ⟨Nat.le_of_ble_eq_true rfl, rfl⟩ rfl (Nat.le_of_ble_eq_true rfl) ?_
  refine m_X9_coefficient  hP hL hI hO hV hB hcl ?_
  refine T_aload_n dL_law_1032 rfl ?_
  refine T_aload_n dL_law_1033 rfl ?_
  refine T_iload_n dL_law_1034 rfl ?_
  refine T_iconst dL_law_1035 (by decide) ?_
  refine T_iadd dL_law_1036 ⟨by omega, by omega⟩ ?_
  refine T_ialoadN (m := (i + 1)) dL_law_1037 hs2 rfl (by omega) ?_
  refine T_aload_n dL_law_1038 rfl ?_
  refine T_iload_n dL_law_1039 rfl ?_
  refine T_iconst dL_law_1040 (by decide) ?_
  refine T_iadd dL_law_1041 ⟨by omega, by omega⟩ ?_
  refine T_ialoadN (m := (i + 2)) dL_law_1042 hs2 rfl (by omega) ?_
  refine T_callV dL_law_1043 zkm_20_133 (Or.inl rfl) rfl hM9 ⟨Nat.le_of_ble_eq_true rfl, rfl⟩ rfl (Nat.le_of_ble_eq_true rfl) ?_
  refine m_X10_coefficient  hP hL hI hO hV (by omega) hrf ?_
  refine T_icmp_eq dL_law_1046 (t := 1531) rfl (fun _ => ?_) (fun hc => absurd rfl hc)
  exact J1531 _ _ _   ⟨_, _, _, _, _, _, _, _, _, hcl, hrf, ⟨hP, hL, hI, hO, hV⟩, (by omega), hpr, hdg, hs1, hs2⟩
set_option maxHeartbeats 4000000 in
set_option maxRecDepth 100000 in
theorem law_29 {n0 n k : Nat} {g : Nat → zV} {h : zHp} {Q : Option zV → Nat → Nat → zHp → Prop} {B nb vb N i sA len K0 : Nat} {cb : Nat → Nat} {P : pT} {L : lT} {I O : tT} {V : Int × pT} {f : Nat → Int} {r4 : Option Nat} (hg0 : g 0 = .inl 1) (hg4 : g 4 = .inr r4) (hB : n0 ≤ B) (hP : pwf P) (hL : lwf L) (hI : iwf I) (hO : owf O) (hV : vwf V) (hcl : clAt h B (B + 429) n P L I O V nb cb vb N) (hrf : rfAt h (B + 396) P L I O V) (hcn : n ≤ B + 429 + 15 * nb + N ∧ k ≤ K0 + 110 * nb + 3 * N) (hpr : prOk g h B) (hdg : dgOk g h B) (hs1 : sA < B) (hs2 : h sA = some (.inr (.inl (0, len, f)))) (hf : ∀ j, j < len → zR (f j)) (hi : i + 5 ≤ len ∧ len ≤ 2560) (J1531 : ∀ (n' k' : Nat) (h' : zHp), lawI g h' B sA len f n' k' K0 → ZT n0 g mL_law 1531 [some (.inr (some sA)), some (.inr (some B)), some (.inr (some (B + 396))), some (.inl (i : Int))] [] n' k' h' Q) : ZT n0 g mL_law 1051 [some (.inr (some sA)), some (.inr (some B)), some (.inr (some (B + 396))), some (.inl (i : Int))] [] n k h Q := by
  have o0 := hcl.1
  obtain ⟨_, _, _, _, _, _, _, _, _, hM9, -⟩ := id hrf
  refine T_aload_n dL_law_1051 rfl ?_
  refine T_callV dL_law_1052 zkm_20_134 (Or.inl rfl) rfl o0 ⟨Nat.le_of_ble_eq_true rfl, rfl⟩ rfl (Nat.le_of_ble_eq_true rfl) ?_
  refine m_X9_termCount  hP hL hI hO hV hB hcl ?_
  refine T_aload_n dL_law_1055 rfl ?_
  refine T_callV dL_law_1056 zkm_20_137 (Or.inl rfl) rfl hM9 ⟨Nat.le_of_ble_eq_true rfl, rfl⟩ rfl (Nat.le_of_ble_eq_true rfl) ?_
  refine m_X10_termCount  hP hL hI hO hV (by omega) hrf ?_
  refine T_icmp_eq dL_law_1059 (t := 1531) rfl (fun _ => ?_) (fun hc => absurd rfl hc)
  exact J1531 _ _ _   ⟨_, _, _, _, _, _, _, _, _, hcl, hrf, ⟨hP, hL, hI, hO, hV⟩, (by omega), hpr, hdg, hs1, hs2⟩
set_option maxHeartbeats 4000000 in
set_option maxRecDepth 100000 in
theorem law_30 {n0 n k : Nat} {g : Nat → zV} {h : zHp} {Q : Option zV → Nat → Nat → zHp → Prop} {B nb vb N i sA len K0 : Nat} {cb : Nat → Nat} {P : pT} {L : lT} {I O : tT} {V : Int × pT} {f : Nat → Int} {r4 : Option Nat} (hg0 : g 0 = .inl 1) (hg4 : g 4 = .inr r4) (hB : n0 ≤ B) (hP : pwf P) (hL : lwf L) (hI : iwf I) (hO : owf O) (hV : vwf V) (hcl : clAt h B (B + 429) n P L I O V nb cb vb N) (hrf : rfAt h (B + 396) P L I O V) (hcn : n ≤ B + 429 + 15 * nb + N ∧ k ≤ K0 + 110 * nb + 3 * N) (hpr : prOk g h B) (hdg : dgOk g h B) (hs1 : sA < B) (hs2 : h sA = some (.inr (.inl (0, len, f)))) (hf : ∀ j, j < len → zR (f j)) (hi : i + 5 ≤ len ∧ len ≤ 2560) (J1531 : ∀ (n' k' : Nat) (h' : zHp), lawI g h' B sA len f n' k' K0 → ZT n0 g mL_law 1531 [some (.inr (some sA)), some (.inr (some B)), some (.inr (some (B + 396))), some (.inl (i : Int))] [] n' k' h' Q) : ZT n0 g mL_law 1064 [some (.inr (some sA)), some (.inr (some B)), some (.inr (some (B + 396))), some (.inl (i : Int))] [] n k h Q := by
  have o0 := hcl.1
  obtain ⟨_, _, _, _, _, _, _, _, _, hM9, -⟩ := id hrf
  refine T_aload_n dL_law_1064 rfl ?_
  refine T_aload_n dL_law_1065 rfl ?_
  refine T_iload_n dL_law_1066 rfl ?_
  refine T_iconst dL_law_1067 (by decide) ?_
  refine T_iadd dL_law_1068 ⟨by omega, by omega⟩ ?_
  refine T_ialoadN (m := (i + 1)) dL_law_1069 hs2 rfl (by omega) ?_
  refine T_callV dL_law_1070 zkm_20_138 (Or.inl rfl) rfl o0 ⟨Nat.le_of_ble_eq_true rfl, rfl⟩ rfl (Nat.le_of_ble_eq_true rfl) ?_
  refine m_X9_evaluate  hP hL hI hO hV hB hcl ?_
  refine T_aload_n dL_law_1073 rfl ?_
  refine T_aload_n dL_law_1074 rfl ?_
  refine T_iload_n dL_law_1075 rfl ?_
  refine T_iconst dL_law_1076 (by decide) ?_
  refine T_iadd dL_law_1077 ⟨by omega, by omega⟩ ?_
  refine T_ialoadN (m := (i + 1)) dL_law_1078 hs2 rfl (by omega) ?_
  refine T_callV dL_law_1079 zkm_20_141 (Or.inl rfl) rfl hM9 ⟨Nat.le_of_ble_eq_true rfl, rfl⟩ rfl (Nat.le_of_ble_eq_true rfl) ?_
  refine m_X10_evaluate  hP hL hI hO hV (by omega) hrf ?_
  refine T_icmp_eq dL_law_1082 (t := 1531) rfl (fun _ => ?_) (fun hc => absurd rfl hc)
  exact J1531 _ _ _   ⟨_, _, _, _, _, _, _, _, _, hcl, hrf, ⟨hP, hL, hI, hO, hV⟩, (by omega), hpr, hdg, hs1, hs2⟩
set_option maxHeartbeats 4000000 in
set_option maxRecDepth 100000 in
theorem law_31 {n0 n k : Nat} {g : Nat → zV} {h : zHp} {Q : Option zV → Nat → Nat → zHp → Prop} {B nb vb N i sA len K0 : Nat} {cb : Nat → Nat} {P : pT} {L : lT} {I O : tT} {V : Int × pT} {f : Nat → Int} {r4 : Option Nat} (hg0 : g 0 = .inl 1) (hg4 : g 4 = .inr r4) (hB : n0 ≤ B) (hP : pwf P) (hL : lwf L) (hI : iwf I) (hO : owf O) (hV : vwf V) (hcl : clAt h B (B + 429) n P L I O V nb cb vb N) (hrf : rfAt h (B + 396) P L I O V) (hcn : n ≤ B + 429 + 15 * nb + N ∧ k ≤ K0 + 110 * nb + 3 * N) (hpr : prOk g h B) (hdg : dgOk g h B) (hs1 : sA < B) (hs2 : h sA = some (.inr (.inl (0, len, f)))) (hf : ∀ j, j < len → zR (f j)) (hi : i + 5 ≤ len ∧ len ≤ 2560) (J1531 : ∀ (n' k' : Nat) (h' : zHp), lawI g h' B sA len f n' k' K0 → ZT n0 g mL_law 1531 [some (.inr (some sA)), some (.inr (some B)), some (.inr (some (B + 396))), some (.inl (i : Int))] [] n' k' h' Q) : ZT n0 g mL_law 1087 [some (.inr (some sA)), some (.inr (some B)), some (.inr (some (B + 396))), some (.inl (i : Int))] [] n k h Q := by
  have o0 := hcl.1
  obtain ⟨_, _, _, _, _, _, _, _, _, hM9, -⟩ := id hrf
  refine T_aload_n dL_law_1087 rfl ?_
  refine T_callV dL_law_1088 zkm_20_142 (Or.inl rfl) rfl o0 ⟨Nat.le_of_ble_eq_true rfl, rfl⟩ rfl (Nat.le_of_ble_eq_true rfl) ?_
  refine m_X9_isVanishing  hP hL hI hO hV hB hcl ?_
  refine T_aload_n dL_law_1091 rfl ?_
  refine T_callV dL_law_1092 zkm_20_145 (Or.inl rfl) rfl hM9 ⟨Nat.le_of_ble_eq_true rfl, rfl⟩ rfl (Nat.le_of_ble_eq_true rfl) ?_
  refine m_X10_isVanishing  hP hL hI hO hV (by omega) hrf ?_
  refine T_icmp_eq dL_law_1095 (t := 1531) rfl (fun _ => ?_) (fun hc => absurd rfl hc)
  exact J1531 _ _ _   ⟨_, _, _, _, _, _, _, _, _, hcl, hrf, ⟨hP, hL, hI, hO, hV⟩, (by omega), hpr, hdg, hs1, hs2⟩
set_option maxHeartbeats 4000000 in
set_option maxRecDepth 100000 in
theorem law_32 {n0 n k : Nat} {g : Nat → zV} {h : zHp} {Q : Option zV → Nat → Nat → zHp → Prop} {B nb vb N i sA len K0 : Nat} {cb : Nat → Nat} {P : pT} {L : lT} {I O : tT} {V : Int × pT} {f : Nat → Int} {r4 : Option Nat} (hg0 : g 0 = .inl 1) (hg4 : g 4 = .inr r4) (hB : n0 ≤ B) (hP : pwf P) (hL : lwf L) (hI : iwf I) (hO : owf O) (hV : vwf V) (hcl : clAt h B (B + 429) n P L I O V nb cb vb N) (hrf : rfAt h (B + 396) P L I O V) (hcn : n ≤ B + 429 + 15 * nb + N ∧ k ≤ K0 + 110 * nb + 3 * N) (hpr : prOk g h B) (hdg : dgOk g h B) (hs1 : sA < B) (hs2 : h sA = some (.inr (.inl (0, len, f)))) (hf : ∀ j, j < len → zR (f j)) (hi : i + 5 ≤ len ∧ len ≤ 2560) (J1531 : ∀ (n' k' : Nat) (h' : zHp), lawI g h' B sA len f n' k' K0 → ZT n0 g mL_law 1531 [some (.inr (some sA)), some (.inr (some B)), some (.inr (some (B + 396))), some (.inl (i : Int))] [] n' k' h' Q) : ZT n0 g mL_law 1100 [some (.inr (some sA)), some (.inr (some B)), some (.inr (some (B + 396))), some (.inl (i : Int))] [] n k h Q := by
  have o0 := hcl.1
  obtain ⟨_, _, _, _, _, _, _, _, _, hM9, -⟩ := id hrf
  refine T_aload_n dL_law_1100 rfl ?_
  refine T_aload_n dL_law_1101 rfl ?_
  refine T_iload_n dL_law_1102 rfl ?_
  refine T_iconst dL_law_1103 (by decide) ?_
  refine T_iadd dL_law_1104 ⟨by omega, by omega⟩ ?_
  refine T_ialoadN (m := (i + 1)) dL_law_1105 hs2 rfl (by omega) ?_
  refine T_callV dL_law_1106 zkm_20_146 (Or.inl rfl) rfl o0 ⟨Nat.le_of_ble_eq_true rfl, rfl⟩ rfl (Nat.le_of_ble_eq_true rfl) ?_
  refine m_X9_reduceToNormalForm  hP hL hI hO hV hB hcl (fun nb'1106 cb'1106 n'1106 k'1106 hh1106 k1106a k1106b k1106c k1106d k1106e pc_1106 pf_1106 => ?_)
  have hrf2 := hrf.frame (fun q a1 a2 => pf_1106 q (by omega))
  obtain ⟨_, _, _, _, _, _, _, _, _, hM9, -⟩ := id hrf2
  refine T_aload_n dL_law_1109 rfl ?_
  refine T_aload_n dL_law_1110 rfl ?_
  refine T_iload_n dL_law_1111 rfl ?_
  refine T_iconst dL_law_1112 (by decide) ?_
  refine T_iadd dL_law_1113 ⟨by omega, by omega⟩ ?_
  refine T_ialoadN (m := (i + 1)) dL_law_1114 ((pf_1106 _ (by omega)).trans hs2) rfl (by omega) ?_
  refine T_callV dL_law_1115 zkm_20_149 (Or.inl rfl) rfl hM9 ⟨Nat.le_of_ble_eq_true rfl, rfl⟩ rfl (Nat.le_of_ble_eq_true rfl) ?_
  refine m_X10_reduceToNormalForm  hP hL hI hO hV (by omega) hrf2 (fun hh1115 pr_1115 pf_1115 => ?_)
  refine T_icmp_eq dL_law_1118 (t := 1531) rfl (fun _ => ?_) (fun hc => absurd rfl hc)
  exact J1531 _ _ _   ⟨_, _, _, _, _, _, _, _, _, (pc_1106.frame k1106a (Nat.le_refl _) (fun q hq => pf_1115 q (by omega))), pr_1115, ⟨k1106a, hL, hI, hO, hV⟩, (by omega), (hpr.frame (fun q hq => ((pf_1115 q (by omega)).trans ((pf_1106 q (by omega)).trans rfl)))), (hdg.frame (fun q hq => ((pf_1115 q (by omega)).trans ((pf_1106 q (by omega)).trans rfl)))), hs1, ((pf_1115 _ (by omega)).trans ((pf_1106 _ (by omega)).trans hs2))⟩
set_option maxHeartbeats 4000000 in
set_option maxRecDepth 100000 in
theorem law_33 {n0 n k : Nat} {g : Nat → zV} {h : zHp} {Q : Option zV → Nat → Nat → zHp → Prop} {B nb vb N i sA len K0 : Nat} {cb : Nat → Nat} {P : pT} {L : lT} {I O : tT} {V : Int × pT} {f : Nat → Int} {r4 : Option Nat} (hg0 : g 0 = .inl 1) (hg4 : g 4 = .inr r4) (hB : n0 ≤ B) (hP : pwf P) (hL : lwf L) (hI : iwf I) (hO : owf O) (hV : vwf V) (hcl : clAt h B (B + 429) n P L I O V nb cb vb N) (hrf : rfAt h (B + 396) P L I O V) (hcn : n ≤ B + 429 + 15 * nb + N ∧ k ≤ K0 + 110 * nb + 3 * N) (hpr : prOk g h B) (hdg : dgOk g h B) (hs1 : sA < B) (hs2 : h sA = some (.inr (.inl (0, len, f)))) (hf : ∀ j, j < len → zR (f j)) (hi : i + 5 ≤ len ∧ len ≤ 2560) (J1531 : ∀ (n' k' : Nat) (h' : zHp), lawI g h' B sA len f n' k' K0 → ZT n0 g mL_law 1531 [some (.inr (some sA)), some (.inr (some B)), some (.inr (some (B + 396))), some (.inl (i : Int))] [] n' k' h' Q) : ZT n0 g mL_law 1123 [some (.inr (some sA)), some (.inr (some B)), some (.inr (some (B + 396))), some (.inl (i : Int))] [] n k h Q := by
  have o0 := hcl.1
  obtain ⟨_, _, _, _, _, _, _, _, _, hM9, -⟩ := id hrf
  refine T_aload_n dL_law_1123 rfl ?_
  refine T_aload_n dL_law_1124 rfl ?_
  refine T_iload_n dL_law_1125 rfl ?_
  refine T_iconst dL_law_1126 (by decide) ?_
  refine T_iadd dL_law_1127 ⟨by omega, by omega⟩ ?_
  refine T_ialoadN (m := (i + 1)) dL_law_1128 hs2 rfl (by omega) ?_
  refine T_aload_n dL_law_1129 rfl ?_
  refine T_iload_n dL_law_1130 rfl ?_
  refine T_iconst dL_law_1131 (by decide) ?_
  refine T_iadd dL_law_1132 ⟨by omega, by omega⟩ ?_
  refine T_ialoadN (m := (i + 2)) dL_law_1133 hs2 rfl (by omega) ?_
  refine T_callV dL_law_1134 zkm_20_150 (Or.inl rfl) rfl o0 ⟨Nat.le_of_ble_eq_true rfl, rfl⟩ rfl (Nat.le_of_ble_eq_true rfl) ?_
  refine m_X9_interpolate  hP hL hI hO hV hB hcl (fun nb'1134 cb'1134 n'1134 k'1134 hh1134 k1134a k1134b k1134c k1134d k1134e pc_1134 pf_1134 => ?_)
  have hrf2 := hrf.frame (fun q a1 a2 => pf_1134 q (by omega))
  obtain ⟨_, _, _, _, _, _, _, _, _, hM9, -⟩ := id hrf2
  refine T_aload_n dL_law_1137 rfl ?_
  refine T_aload_n dL_law_1138 rfl ?_
  refine T_iload_n dL_law_1139 rfl ?_
  refine T_iconst dL_law_1140 (by decide) ?_
  refine T_iadd dL_law_1141 ⟨by omega, by omega⟩ ?_
  refine T_ialoadN (m := (i + 1)) dL_law_1142 ((pf_1134 _ (by omega)).trans hs2) rfl (by omega) ?_
  refine T_aload_n dL_law_1143 rfl ?_
  refine T_iload_n dL_law_1144 rfl ?_
  refine T_iconst dL_law_1145 (by decide) ?_
  refine T_iadd dL_law_1146 ⟨by omega, by omega⟩ ?_
  refine T_ialoadN (m := (i + 2)) dL_law_1147 ((pf_1134 _ (by omega)).trans hs2) rfl (by omega) ?_
  refine T_callV dL_law_1148 zkm_20_153 (Or.inl rfl) rfl hM9 ⟨Nat.le_of_ble_eq_true rfl, rfl⟩ rfl (Nat.le_of_ble_eq_true rfl) ?_
  refine m_X10_interpolate  hP hL hI hO hV (by omega) hrf2 (fun hh1148 pr_1148 pf_1148 => ?_)
  refine T_icmp_eq dL_law_1151 (t := 1531) rfl (fun _ => ?_) (fun hc => absurd rfl hc)
  exact J1531 _ _ _   ⟨_, _, _, _, _, _, _, _, _, (pc_1134.frame k1134a (Nat.le_refl _) (fun q hq => pf_1148 q (by omega))), pr_1148, ⟨k1134a, hL, hI, hO, hV⟩, (by omega), (hpr.frame (fun q hq => ((pf_1148 q (by omega)).trans ((pf_1134 q (by omega)).trans rfl)))), (hdg.frame (fun q hq => ((pf_1148 q (by omega)).trans ((pf_1134 q (by omega)).trans rfl)))), hs1, ((pf_1148 _ (by omega)).trans ((pf_1134 _ (by omega)).trans hs2))⟩
set_option maxHeartbeats 4000000 in
set_option maxRecDepth 100000 in
theorem law_34 {n0 n k : Nat} {g : Nat → zV} {h : zHp} {Q : Option zV → Nat → Nat → zHp → Prop} {B nb vb N i sA len K0 : Nat} {cb : Nat → Nat} {P : pT} {L : lT} {I O : tT} {V : Int × pT} {f : Nat → Int} {r4 : Option Nat} (hg0 : g 0 = .inl 1) (hg4 : g 4 = .inr r4) (hB : n0 ≤ B) (hP : pwf P) (hL : lwf L) (hI : iwf I) (hO : owf O) (hV : vwf V) (hcl : clAt h B (B + 429) n P L I O V nb cb vb N) (hrf : rfAt h (B + 396) P L I O V) (hcn : n ≤ B + 429 + 15 * nb + N ∧ k ≤ K0 + 110 * nb + 3 * N) (hpr : prOk g h B) (hdg : dgOk g h B) (hs1 : sA < B) (hs2 : h sA = some (.inr (.inl (0, len, f)))) (hf : ∀ j, j < len → zR (f j)) (hi : i + 5 ≤ len ∧ len ≤ 2560) (J1531 : ∀ (n' k' : Nat) (h' : zHp), lawI g h' B sA len f n' k' K0 → ZT n0 g mL_law 1531 [some (.inr (some sA)), some (.inr (some B)), some (.inr (some (B + 396))), some (.inl (i : Int))] [] n' k' h' Q) : ZT n0 g mL_law 1156 [some (.inr (some sA)), some (.inr (some B)), some (.inr (some (B + 396))), some (.inl (i : Int))] [] n k h Q := by
  have o0 := hcl.1
  obtain ⟨_, _, _, _, _, _, _, _, _, hM9, -⟩ := id hrf
  refine T_aload_n dL_law_1156 rfl ?_
  refine T_aload_n dL_law_1157 rfl ?_
  refine T_iload_n dL_law_1158 rfl ?_
  refine T_iconst dL_law_1159 (by decide) ?_
  refine T_iadd dL_law_1160 ⟨by omega, by omega⟩ ?_
  refine T_ialoadN (m := (i + 1)) dL_law_1161 hs2 rfl (by omega) ?_
  refine T_aload_n dL_law_1162 rfl ?_
  refine T_iload_n dL_law_1163 rfl ?_
  refine T_iconst dL_law_1164 (by decide) ?_
  refine T_iadd dL_law_1165 ⟨by omega, by omega⟩ ?_
  refine T_ialoadN (m := (i + 2)) dL_law_1166 hs2 rfl (by omega) ?_
  refine T_callV dL_law_1167 zkm_20_154 (Or.inl rfl) rfl o0 ⟨Nat.le_of_ble_eq_true rfl, rfl⟩ rfl (Nat.le_of_ble_eq_true rfl) ?_
  refine m_X9_loadBasisPolynomial  hP hL hI hO hV hB hcl (fun nb'1167 cb'1167 n'1167 k'1167 hh1167 k1167a k1167b k1167c k1167d pc_1167 pf_1167 => ?_)
  have hrf2 := hrf.frame (fun q a1 a2 => pf_1167 q (by omega))
  obtain ⟨_, _, _, _, _, _, _, _, _, hM9, -⟩ := id hrf2
  refine T_aload_n dL_law_1170 rfl ?_
  refine T_aload_n dL_law_1171 rfl ?_
  refine T_iload_n dL_law_1172 rfl ?_
  refine T_iconst dL_law_1173 (by decide) ?_
  refine T_iadd dL_law_1174 ⟨by omega, by omega⟩ ?_
  refine T_ialoadN (m := (i + 1)) dL_law_1175 ((pf_1167 _ (by omega)).trans hs2) rfl (by omega) ?_
  refine T_aload_n dL_law_1176 rfl ?_
  refine T_iload_n dL_law_1177 rfl ?_
  refine T_iconst dL_law_1178 (by decide) ?_
  refine T_iadd dL_law_1179 ⟨by omega, by omega⟩ ?_
  refine T_ialoadN (m := (i + 2)) dL_law_1180 ((pf_1167 _ (by omega)).trans hs2) rfl (by omega) ?_
  refine T_callV dL_law_1181 zkm_20_157 (Or.inl rfl) rfl hM9 ⟨Nat.le_of_ble_eq_true rfl, rfl⟩ rfl (Nat.le_of_ble_eq_true rfl) ?_
  refine m_X10_loadBasisPolynomial  hP hL hI hO hV (by omega) hrf2 (fun hh1181 pr_1181 pf_1181 => ?_)
  refine T_icmp_eq dL_law_1184 (t := 1531) rfl (fun _ => ?_) (fun hc => absurd rfl hc)
  exact J1531 _ _ _   ⟨_, _, _, _, _, _, _, _, _, (pc_1167.frame (wf_lb hP _ _) (Nat.le_refl _) (fun q hq => pf_1181 q (by omega))), pr_1181, ⟨(wf_lb hP _ _), hL, hI, hO, hV⟩, (by omega), (hpr.frame (fun q hq => ((pf_1181 q (by omega)).trans ((pf_1167 q (by omega)).trans rfl)))), (hdg.frame (fun q hq => ((pf_1181 q (by omega)).trans ((pf_1167 q (by omega)).trans rfl)))), hs1, ((pf_1181 _ (by omega)).trans ((pf_1167 _ (by omega)).trans hs2))⟩
set_option maxHeartbeats 4000000 in
set_option maxRecDepth 100000 in
theorem law_35 {n0 n k : Nat} {g : Nat → zV} {h : zHp} {Q : Option zV → Nat → Nat → zHp → Prop} {B nb vb N i sA len K0 : Nat} {cb : Nat → Nat} {P : pT} {L : lT} {I O : tT} {V : Int × pT} {f : Nat → Int} {r4 : Option Nat} (hg0 : g 0 = .inl 1) (hg4 : g 4 = .inr r4) (hB : n0 ≤ B) (hP : pwf P) (hL : lwf L) (hI : iwf I) (hO : owf O) (hV : vwf V) (hcl : clAt h B (B + 429) n P L I O V nb cb vb N) (hrf : rfAt h (B + 396) P L I O V) (hcn : n ≤ B + 429 + 15 * nb + N ∧ k ≤ K0 + 110 * nb + 3 * N) (hpr : prOk g h B) (hdg : dgOk g h B) (hs1 : sA < B) (hs2 : h sA = some (.inr (.inl (0, len, f)))) (hf : ∀ j, j < len → zR (f j)) (hi : i + 5 ≤ len ∧ len ≤ 2560) (J1531 : ∀ (n' k' : Nat) (h' : zHp), lawI g h' B sA len f n' k' K0 → ZT n0 g mL_law 1531 [some (.inr (some sA)), some (.inr (some B)), some (.inr (some (B + 396))), some (.inl (i : Int))] [] n' k' h' Q) : ZT n0 g mL_law 1189 [some (.inr (some sA)), some (.inr (some B)), some (.inr (some (B + 396))), some (.inl (i : Int))] [] n k h Q := by
  have o0 := hcl.1
  obtain ⟨_, _, _, _, _, _, _, _, _, hM9, -⟩ := id hrf
  refine T_aload_n dL_law_1189 rfl ?_
  refine T_aload_n dL_law_1190 rfl ?_
  refine T_iload_n dL_law_1191 rfl ?_
  refine T_iconst dL_law_1192 (by decide) ?_
  refine T_iadd dL_law_1193 ⟨by omega, by omega⟩ ?_
  refine T_ialoadN (m := (i + 1)) dL_law_1194 hs2 rfl (by omega) ?_
  refine T_callV dL_law_1195 zkm_20_158 (Or.inl rfl) rfl o0 ⟨Nat.le_of_ble_eq_true rfl, rfl⟩ rfl (Nat.le_of_ble_eq_true rfl) ?_
  refine m_X9_appendInput  hP hL hI hO hV hB hcl (fun hh1195 pc_1195 pf_1195 => ?_)
  have hrf2 := hrf.frame (fun q a1 a2 => pf_1195 q (by omega))
  obtain ⟨_, _, _, _, _, _, _, _, _, hM9, -⟩ := id hrf2
  refine T_aload_n dL_law_1198 rfl ?_
  refine T_aload_n dL_law_1199 rfl ?_
  refine T_iload_n dL_law_1200 rfl ?_
  refine T_iconst dL_law_1201 (by decide) ?_
  refine T_iadd dL_law_1202 ⟨by omega, by omega⟩ ?_
  refine T_ialoadN (m := (i + 1)) dL_law_1203 ((pf_1195 _ (by omega)).trans hs2) rfl (by omega) ?_
  refine T_callV dL_law_1204 zkm_20_161 (Or.inl rfl) rfl hM9 ⟨Nat.le_of_ble_eq_true rfl, rfl⟩ rfl (Nat.le_of_ble_eq_true rfl) ?_
  refine m_X10_appendInput  hP hL hI hO hV (by omega) hrf2 (fun hh1204 pr_1204 pf_1204 => ?_)
  refine T_icmp_eq dL_law_1207 (t := 1531) rfl (fun _ => ?_) (fun hc => absurd rfl hc)
  exact J1531 _ _ _   ⟨_, _, _, _, _, _, _, _, _, (pc_1195.frame hP (Nat.le_refl _) (fun q hq => pf_1204 q (by omega))), pr_1204, ⟨hP, hL, (wf_ai hI _), hO, hV⟩, (by omega), (hpr.frame (fun q hq => ((pf_1204 q (by omega)).trans ((pf_1195 q (by omega)).trans rfl)))), (hdg.frame (fun q hq => ((pf_1204 q (by omega)).trans ((pf_1195 q (by omega)).trans rfl)))), hs1, ((pf_1204 _ (by omega)).trans ((pf_1195 _ (by omega)).trans hs2))⟩
set_option maxHeartbeats 4000000 in
set_option maxRecDepth 100000 in
theorem law_36 {n0 n k : Nat} {g : Nat → zV} {h : zHp} {Q : Option zV → Nat → Nat → zHp → Prop} {B nb vb N i sA len K0 : Nat} {cb : Nat → Nat} {P : pT} {L : lT} {I O : tT} {V : Int × pT} {f : Nat → Int} {r4 : Option Nat} (hg0 : g 0 = .inl 1) (hg4 : g 4 = .inr r4) (hB : n0 ≤ B) (hP : pwf P) (hL : lwf L) (hI : iwf I) (hO : owf O) (hV : vwf V) (hcl : clAt h B (B + 429) n P L I O V nb cb vb N) (hrf : rfAt h (B + 396) P L I O V) (hcn : n ≤ B + 429 + 15 * nb + N ∧ k ≤ K0 + 110 * nb + 3 * N) (hpr : prOk g h B) (hdg : dgOk g h B) (hs1 : sA < B) (hs2 : h sA = some (.inr (.inl (0, len, f)))) (hf : ∀ j, j < len → zR (f j)) (hi : i + 5 ≤ len ∧ len ≤ 2560) (J1531 : ∀ (n' k' : Nat) (h' : zHp), lawI g h' B sA len f n' k' K0 → ZT n0 g mL_law 1531 [some (.inr (some sA)), some (.inr (some B)), some (.inr (some (B + 396))), some (.inl (i : Int))] [] n' k' h' Q) : ZT n0 g mL_law 1212 [some (.inr (some sA)), some (.inr (some B)), some (.inr (some (B + 396))), some (.inl (i : Int))] [] n k h Q := by
  have o0 := hcl.1
  obtain ⟨_, _, _, _, _, _, _, _, _, hM9, -⟩ := id hrf
  refine T_aload_n dL_law_1212 rfl ?_
  refine T_callV dL_law_1213 zkm_20_162 (Or.inl rfl) rfl o0 ⟨Nat.le_of_ble_eq_true rfl, rfl⟩ rfl (Nat.le_of_ble_eq_true rfl) ?_
  refine m_X9_inputLength  hP hL hI hO hV hB hcl ?_
  refine T_aload_n dL_law_1216 rfl ?_
  refine T_callV dL_law_1217 zkm_20_165 (Or.inl rfl) rfl hM9 ⟨Nat.le_of_ble_eq_true rfl, rfl⟩ rfl (Nat.le_of_ble_eq_true rfl) ?_
  refine m_X10_inputLength  hP hL hI hO hV (by omega) hrf ?_
  refine T_icmp_eq dL_law_1220 (t := 1531) rfl (fun _ => ?_) (fun hc => absurd rfl hc)
  exact J1531 _ _ _   ⟨_, _, _, _, _, _, _, _, _, hcl, hrf, ⟨hP, hL, hI, hO, hV⟩, (by omega), hpr, hdg, hs1, hs2⟩
set_option maxHeartbeats 4000000 in
set_option maxRecDepth 100000 in
theorem law_37 {n0 n k : Nat} {g : Nat → zV} {h : zHp} {Q : Option zV → Nat → Nat → zHp → Prop} {B nb vb N i sA len K0 : Nat} {cb : Nat → Nat} {P : pT} {L : lT} {I O : tT} {V : Int × pT} {f : Nat → Int} {r4 : Option Nat} (hg0 : g 0 = .inl 1) (hg4 : g 4 = .inr r4) (hB : n0 ≤ B) (hP : pwf P) (hL : lwf L) (hI : iwf I) (hO : owf O) (hV : vwf V) (hcl : clAt h B (B + 429) n P L I O V nb cb vb N) (hrf : rfAt h (B + 396) P L I O V) (hcn : n ≤ B + 429 + 15 * nb + N ∧ k ≤ K0 + 110 * nb + 3 * N) (hpr : prOk g h B) (hdg : dgOk g h B) (hs1 : sA < B) (hs2 : h sA = some (.inr (.inl (0, len, f)))) (hf : ∀ j, j < len → zR (f j)) (hi : i + 5 ≤ len ∧ len ≤ 2560) (J1531 : ∀ (n' k' : Nat) (h' : zHp), lawI g h' B sA len f n' k' K0 → ZT n0 g mL_law 1531 [some (.inr (some sA)), some (.inr (some B)), some (.inr (some (B + 396))), some (.inl (i : Int))] [] n' k' h' Q) : ZT n0 g mL_law 1225 [some (.inr (some sA)), some (.inr (some B)), some (.inr (some (B + 396))), some (.inl (i : Int))] [] n k h Q := by
  have o0 := hcl.1
  obtain ⟨_, _, _, _, _, _, _, _, _, hM9, -⟩ := id hrf
  refine T_aload_n dL_law_1225 rfl ?_
  refine T_callV dL_law_1226 zkm_20_166 (Or.inl rfl) rfl o0 ⟨Nat.le_of_ble_eq_true rfl, rfl⟩ rfl (Nat.le_of_ble_eq_true rfl) ?_
  refine m_X9_parsePoints  hP hL hI hO hV hB hcl (fun hh1226 pc_1226 pf_1226 => ?_)
  have hrf2 := hrf.frame (fun q a1 a2 => pf_1226 q (by omega))
  obtain ⟨_, _, _, _, _, _, _, _, _, hM9, -⟩ := id hrf2
  refine T_aload_n dL_law_1229 rfl ?_
  refine T_callV dL_law_1230 zkm_20_169 (Or.inl rfl) rfl hM9 ⟨Nat.le_of_ble_eq_true rfl, rfl⟩ rfl (Nat.le_of_ble_eq_true rfl) ?_
  refine m_X10_parsePoints  hP hL hI hO hV (by omega) hrf2 (fun hh1230 pr_1230 pf_1230 => ?_)
  refine T_icmp_eq dL_law_1233 (t := 1531) rfl (fun _ => ?_) (fun hc => absurd rfl hc)
  exact J1531 _ _ _   ⟨_, _, _, _, _, _, _, _, _, (pc_1226.frame (wf_pp hP _) (Nat.le_refl _) (fun q hq => pf_1230 q (by omega))), pr_1230, ⟨(wf_pp hP _), hL, ⟨Nat.zero_le _, fun i hi => absurd hi (Nat.not_lt_zero i)⟩, hO, hV⟩, (by omega), (hpr.frame (fun q hq => ((pf_1230 q (by omega)).trans ((pf_1226 q (by omega)).trans rfl)))), (hdg.frame (fun q hq => ((pf_1230 q (by omega)).trans ((pf_1226 q (by omega)).trans rfl)))), hs1, ((pf_1230 _ (by omega)).trans ((pf_1226 _ (by omega)).trans hs2))⟩
set_option maxHeartbeats 4000000 in
set_option maxRecDepth 100000 in
theorem law_38 {n0 n k : Nat} {g : Nat → zV} {h : zHp} {Q : Option zV → Nat → Nat → zHp → Prop} {B nb vb N i sA len K0 : Nat} {cb : Nat → Nat} {P : pT} {L : lT} {I O : tT} {V : Int × pT} {f : Nat → Int} {r4 : Option Nat} (hg0 : g 0 = .inl 1) (hg4 : g 4 = .inr r4) (hB : n0 ≤ B) (hP : pwf P) (hL : lwf L) (hI : iwf I) (hO : owf O) (hV : vwf V) (hcl : clAt h B (B + 429) n P L I O V nb cb vb N) (hrf : rfAt h (B + 396) P L I O V) (hcn : n ≤ B + 429 + 15 * nb + N ∧ k ≤ K0 + 110 * nb + 3 * N) (hpr : prOk g h B) (hdg : dgOk g h B) (hs1 : sA < B) (hs2 : h sA = some (.inr (.inl (0, len, f)))) (hf : ∀ j, j < len → zR (f j)) (hi : i + 5 ≤ len ∧ len ≤ 2560) (J1531 : ∀ (n' k' : Nat) (h' : zHp), lawI g h' B sA len f n' k' K0 → ZT n0 g mL_law 1531 [some (.inr (some sA)), some (.inr (some B)), some (.inr (some (B + 396))), some (.inl (i : Int))] [] n' k' h' Q) : ZT n0 g mL_law 1238 [some (.inr (some sA)), some (.inr (some B)), some (.inr (some (B + 396))), some (.inl (i : Int))] [] n k h Q := by
  have o0 := hcl.1
  obtain ⟨_, _, _, _, _, _, _, _, _, hM9, -⟩ := id hrf
  refine T_aload_n dL_law_1238 rfl ?_
  refine T_aload_n dL_law_1239 rfl ?_
  refine T_iload_n dL_law_1240 rfl ?_
  refine T_iconst dL_law_1241 (by decide) ?_
  refine T_iadd dL_law_1242 ⟨by omega, by omega⟩ ?_
  refine T_ialoadN (m := (i + 1)) dL_law_1243 hs2 rfl (by omega) ?_
  refine T_aload_n dL_law_1244 rfl ?_
  refine T_iload_n dL_law_1245 rfl ?_
  refine T_iconst dL_law_1246 (by decide) ?_
  refine T_iadd dL_law_1247 ⟨by omega, by omega⟩ ?_
  refine T_ialoadN (m := (i + 2)) dL_law_1248 hs2 rfl (by omega) ?_
  refine T_callV dL_law_1249 zkm_20_170 (Or.inl rfl) rfl o0 ⟨Nat.le_of_ble_eq_true rfl, rfl⟩ rfl (Nat.le_of_ble_eq_true rfl) ?_
  refine m_X9_format  hP hL hI hO hV hB hcl hg0 hdg (by omega) (fun vb'1249 N'1249 nb'1249 cb'1249 n'1249 k'1249 hh1249 k1249a k1249b k1249c k1249d k1249e pc_1249 pf_1249 => ?_)
  have hrf2 := hrf.frame (fun q a1 a2 => pf_1249 q (by omega))
  obtain ⟨_, _, _, _, _, _, _, _, _, hM9, -⟩ := id hrf2
  refine T_aload_n dL_law_1252 rfl ?_
  refine T_aload_n dL_law_1253 rfl ?_
  refine T_iload_n dL_law_1254 rfl ?_
  refine T_iconst dL_law_1255 (by decide) ?_
  refine T_iadd dL_law_1256 ⟨by omega, by omega⟩ ?_
  refine T_ialoadN (m := (i + 1)) dL_law_1257 ((pf_1249 _ (by omega)).trans hs2) rfl (by omega) ?_
  refine T_aload_n dL_law_1258 rfl ?_
  refine T_iload_n dL_law_1259 rfl ?_
  refine T_iconst dL_law_1260 (by decide) ?_
  refine T_iadd dL_law_1261 ⟨by omega, by omega⟩ ?_
  refine T_ialoadN (m := (i + 2)) dL_law_1262 ((pf_1249 _ (by omega)).trans hs2) rfl (by omega) ?_
  refine T_callV dL_law_1263 zkm_20_173 (Or.inl rfl) rfl hM9 ⟨Nat.le_of_ble_eq_true rfl, rfl⟩ rfl (Nat.le_of_ble_eq_true rfl) ?_
  refine m_X10_format  hP hL hI hO hV (by omega) hrf2 k1249a.1 (fun hh1263 pr_1263 pf_1263 => ?_)
  refine T_icmp_eq dL_law_1266 (t := 1531) rfl (fun _ => ?_) (fun hc => absurd rfl hc)
  exact J1531 _ _ _   ⟨_, _, _, _, _, _, _, _, _, (pc_1249.frame hP (Nat.le_refl _) (fun q hq => pf_1263 q (by omega))), pr_1263, ⟨hP, hL, hI, k1249a, hV⟩, (by omega), (hpr.frame (fun q hq => ((pf_1263 q (by omega)).trans ((pf_1249 q (by omega)).trans rfl)))), (hdg.frame (fun q hq => ((pf_1263 q (by omega)).trans ((pf_1249 q (by omega)).trans rfl)))), hs1, ((pf_1263 _ (by omega)).trans ((pf_1249 _ (by omega)).trans hs2))⟩
set_option maxHeartbeats 4000000 in
set_option maxRecDepth 100000 in
theorem law_39 {n0 n k : Nat} {g : Nat → zV} {h : zHp} {Q : Option zV → Nat → Nat → zHp → Prop} {B nb vb N i sA len K0 : Nat} {cb : Nat → Nat} {P : pT} {L : lT} {I O : tT} {V : Int × pT} {f : Nat → Int} {r4 : Option Nat} (hg0 : g 0 = .inl 1) (hg4 : g 4 = .inr r4) (hB : n0 ≤ B) (hP : pwf P) (hL : lwf L) (hI : iwf I) (hO : owf O) (hV : vwf V) (hcl : clAt h B (B + 429) n P L I O V nb cb vb N) (hrf : rfAt h (B + 396) P L I O V) (hcn : n ≤ B + 429 + 15 * nb + N ∧ k ≤ K0 + 110 * nb + 3 * N) (hpr : prOk g h B) (hdg : dgOk g h B) (hs1 : sA < B) (hs2 : h sA = some (.inr (.inl (0, len, f)))) (hf : ∀ j, j < len → zR (f j)) (hi : i + 5 ≤ len ∧ len ≤ 2560) (J1531 : ∀ (n' k' : Nat) (h' : zHp), lawI g h' B sA len f n' k' K0 → ZT n0 g mL_law 1531 [some (.inr (some sA)), some (.inr (some B)), some (.inr (some (B + 396))), some (.inl (i : Int))] [] n' k' h' Q) : ZT n0 g mL_law 1271 [some (.inr (some sA)), some (.inr (some B)), some (.inr (some (B + 396))), some (.inl (i : Int))] [] n k h Q := by
  have o0 := hcl.1
  obtain ⟨_, _, _, _, _, _, _, _, _, hM9, -⟩ := id hrf
  refine T_aload_n dL_law_1271 rfl ?_
  refine T_aload_n dL_law_1272 rfl ?_
  refine T_iload_n dL_law_1273 rfl ?_
  refine T_iconst dL_law_1274 (by decide) ?_
  refine T_iadd dL_law_1275 ⟨by omega, by omega⟩ ?_
  refine T_ialoadN (m := (i + 1)) dL_law_1276 hs2 rfl (by omega) ?_
  refine T_callV dL_law_1277 zkm_20_174 (Or.inl rfl) rfl o0 ⟨Nat.le_of_ble_eq_true rfl, rfl⟩ rfl (Nat.le_of_ble_eq_true rfl) ?_
  refine m_X9_outputByte  hP hL hI hO hV hB hcl hg4 ?_
  refine T_aload_n dL_law_1280 rfl ?_
  refine T_aload_n dL_law_1281 rfl ?_
  refine T_iload_n dL_law_1282 rfl ?_
  refine T_iconst dL_law_1283 (by decide) ?_
  refine T_iadd dL_law_1284 ⟨by omega, by omega⟩ ?_
  refine T_ialoadN (m := (i + 1)) dL_law_1285 hs2 rfl (by omega) ?_
  refine T_callV dL_law_1286 zkm_20_177 (Or.inl rfl) rfl hM9 ⟨Nat.le_of_ble_eq_true rfl, rfl⟩ rfl (Nat.le_of_ble_eq_true rfl) ?_
  refine m_X10_outputByte  hP hL hI hO hV (by omega) hrf ?_
  refine T_icmp_eq dL_law_1289 (t := 1531) rfl (fun _ => ?_) (fun hc => absurd rfl hc)
  exact J1531 _ _ _   ⟨_, _, _, _, _, _, _, _, _, hcl, hrf, ⟨hP, hL, hI, hO, hV⟩, (by omega), hpr, hdg, hs1, hs2⟩
set_option maxHeartbeats 4000000 in
set_option maxRecDepth 100000 in
theorem law_40 {n0 n k : Nat} {g : Nat → zV} {h : zHp} {Q : Option zV → Nat → Nat → zHp → Prop} {B nb vb N i sA len K0 : Nat} {cb : Nat → Nat} {P : pT} {L : lT} {I O : tT} {V : Int × pT} {f : Nat → Int} {r4 : Option Nat} (hg0 : g 0 = .inl 1) (hg4 : g 4 = .inr r4) (hB : n0 ≤ B) (hP : pwf P) (hL : lwf L) (hI : iwf I) (hO : owf O) (hV : vwf V) (hcl : clAt h B (B + 429) n P L I O V nb cb vb N) (hrf : rfAt h (B + 396) P L I O V) (hcn : n ≤ B + 429 + 15 * nb + N ∧ k ≤ K0 + 110 * nb + 3 * N) (hpr : prOk g h B) (hdg : dgOk g h B) (hs1 : sA < B) (hs2 : h sA = some (.inr (.inl (0, len, f)))) (hf : ∀ j, j < len → zR (f j)) (hi : i + 5 ≤ len ∧ len ≤ 2560) (J1531 : ∀ (n' k' : Nat) (h' : zHp), lawI g h' B sA len f n' k' K0 → ZT n0 g mL_law 1531 [some (.inr (some sA)), some (.inr (some B)), some (.inr (some (B + 396))), some (.inl (i : Int))] [] n' k' h' Q) : ZT n0 g mL_law 1294 [some (.inr (some sA)), some (.inr (some B)), some (.inr (some (B + 396))), some (.inl (i : Int))] [] n k h Q := by
  have o0 := hcl.1
  obtain ⟨_, _, _, _, _, _, _, _, _, hM9, -⟩ := id hrf
  refine T_aload_n dL_law_1294 rfl ?_
  refine T_aload_n dL_law_1295 rfl ?_
  refine T_iload_n dL_law_1296 rfl ?_
  refine T_iconst dL_law_1297 (by decide) ?_
  refine T_iadd dL_law_1298 ⟨by omega, by omega⟩ ?_
  refine T_ialoadN (m := (i + 1)) dL_law_1299 hs2 rfl (by omega) ?_
  refine T_aload_n dL_law_1300 rfl ?_
  refine T_iload_n dL_law_1301 rfl ?_
  refine T_iconst dL_law_1302 (by decide) ?_
  refine T_iadd dL_law_1303 ⟨by omega, by omega⟩ ?_
  refine T_ialoadN (m := (i + 2)) dL_law_1304 hs2 rfl (by omega) ?_
  refine T_callV dL_law_1305 zkm_20_178 (Or.inl rfl) rfl o0 ⟨Nat.le_of_ble_eq_true rfl, rfl⟩ rfl (Nat.le_of_ble_eq_true rfl) ?_
  refine m_X9_newArray  hP hL hI hO hV hB hcl (fun hh1305 pc_1305 pf_1305 => ?_)
  have hrf2 := hrf.frame (fun q a1 a2 => pf_1305 q (by omega))
  obtain ⟨_, _, _, _, _, _, _, _, _, hM9, -⟩ := id hrf2
  refine T_aload_n dL_law_1308 rfl ?_
  refine T_aload_n dL_law_1309 rfl ?_
  refine T_iload_n dL_law_1310 rfl ?_
  refine T_iconst dL_law_1311 (by decide) ?_
  refine T_iadd dL_law_1312 ⟨by omega, by omega⟩ ?_
  refine T_ialoadN (m := (i + 1)) dL_law_1313 ((pf_1305 _ (by omega)).trans hs2) rfl (by omega) ?_
  refine T_aload_n dL_law_1314 rfl ?_
  refine T_iload_n dL_law_1315 rfl ?_
  refine T_iconst dL_law_1316 (by decide) ?_
  refine T_iadd dL_law_1317 ⟨by omega, by omega⟩ ?_
  refine T_ialoadN (m := (i + 2)) dL_law_1318 ((pf_1305 _ (by omega)).trans hs2) rfl (by omega) ?_
  refine T_callV dL_law_1319 zkm_20_181 (Or.inl rfl) rfl hM9 ⟨Nat.le_of_ble_eq_true rfl, rfl⟩ rfl (Nat.le_of_ble_eq_true rfl) ?_
  refine m_X10_newArray  hP hL hI hO hV (by omega) hrf2 (fun hh1319 pr_1319 pf_1319 => ?_)
  refine T_icmp_eq dL_law_1322 (t := 1531) rfl (fun _ => ?_) (fun hc => absurd rfl hc)
  exact J1531 _ _ _   ⟨_, _, _, _, _, _, _, _, _, (pc_1305.frame hP (Nat.le_refl _) (fun q hq => pf_1319 q (by omega))), pr_1319, ⟨hP, (lw_na hL _ _), hI, hO, hV⟩, (by omega), (hpr.frame (fun q hq => ((pf_1319 q (by omega)).trans ((pf_1305 q (by omega)).trans rfl)))), (hdg.frame (fun q hq => ((pf_1319 q (by omega)).trans ((pf_1305 q (by omega)).trans rfl)))), hs1, ((pf_1319 _ (by omega)).trans ((pf_1305 _ (by omega)).trans hs2))⟩
set_option maxHeartbeats 4000000 in
set_option maxRecDepth 100000 in
theorem law_41 {n0 n k : Nat} {g : Nat → zV} {h : zHp} {Q : Option zV → Nat → Nat → zHp → Prop} {B nb vb N i sA len K0 : Nat} {cb : Nat → Nat} {P : pT} {L : lT} {I O : tT} {V : Int × pT} {f : Nat → Int} {r4 : Option Nat} (hg0 : g 0 = .inl 1) (hg4 : g 4 = .inr r4) (hB : n0 ≤ B) (hP : pwf P) (hL : lwf L) (hI : iwf I) (hO : owf O) (hV : vwf V) (hcl : clAt h B (B + 429) n P L I O V nb cb vb N) (hrf : rfAt h (B + 396) P L I O V) (hcn : n ≤ B + 429 + 15 * nb + N ∧ k ≤ K0 + 110 * nb + 3 * N) (hpr : prOk g h B) (hdg : dgOk g h B) (hs1 : sA < B) (hs2 : h sA = some (.inr (.inl (0, len, f)))) (hf : ∀ j, j < len → zR (f j)) (hi : i + 5 ≤ len ∧ len ≤ 2560) (J1531 : ∀ (n' k' : Nat) (h' : zHp), lawI g h' B sA len f n' k' K0 → ZT n0 g mL_law 1531 [some (.inr (some sA)), some (.inr (some B)), some (.inr (some (B + 396))), some (.inl (i : Int))] [] n' k' h' Q) : ZT n0 g mL_law 1327 [some (.inr (some sA)), some (.inr (some B)), some (.inr (some (B + 396))), some (.inl (i : Int))] [] n k h Q := by
  have o0 := hcl.1
  obtain ⟨_, _, _, _, _, _, _, _, _, hM9, -⟩ := id hrf
  refine T_aload_n dL_law_1327 rfl ?_
  refine T_aload_n dL_law_1328 rfl ?_
  refine T_iload_n dL_law_1329 rfl ?_
  refine T_iconst dL_law_1330 (by decide) ?_
  refine T_iadd dL_law_1331 ⟨by omega, by omega⟩ ?_
  refine T_ialoadN (m := (i + 1)) dL_law_1332 hs2 rfl (by omega) ?_
  refine T_aload_n dL_law_1333 rfl ?_
  refine T_iload_n dL_law_1334 rfl ?_
  refine T_iconst dL_law_1335 (by decide) ?_
  refine T_iadd dL_law_1336 ⟨by omega, by omega⟩ ?_
  refine T_ialoadN (m := (i + 2)) dL_law_1337 hs2 rfl (by omega) ?_
  refine T_aload_n dL_law_1338 rfl ?_
  refine T_iload_n dL_law_1339 rfl ?_
  refine T_iconst dL_law_1340 (by decide) ?_
  refine T_iadd dL_law_1341 ⟨by omega, by omega⟩ ?_
  refine T_ialoadN (m := (i + 3)) dL_law_1342 hs2 rfl (by omega) ?_
  refine T_callV dL_law_1343 zkm_20_182 (Or.inl rfl) rfl o0 ⟨Nat.le_of_ble_eq_true rfl, rfl⟩ rfl (Nat.le_of_ble_eq_true rfl) ?_
  refine m_X9_setElement  hP hL hI hO hV hB hcl (fun hh1343 pc_1343 pf_1343 => ?_)
  have hrf2 := hrf.frame (fun q a1 a2 => pf_1343 q (by omega))
  obtain ⟨_, _, _, _, _, _, _, _, _, hM9, -⟩ := id hrf2
  refine T_aload_n dL_law_1346 rfl ?_
  refine T_aload_n dL_law_1347 rfl ?_
  refine T_iload_n dL_law_1348 rfl ?_
  refine T_iconst dL_law_1349 (by decide) ?_
  refine T_iadd dL_law_1350 ⟨by omega, by omega⟩ ?_
  refine T_ialoadN (m := (i + 1)) dL_law_1351 ((pf_1343 _ (by omega)).trans hs2) rfl (by omega) ?_
  refine T_aload_n dL_law_1352 rfl ?_
  refine T_iload_n dL_law_1353 rfl ?_
  refine T_iconst dL_law_1354 (by decide) ?_
  refine T_iadd dL_law_1355 ⟨by omega, by omega⟩ ?_
  refine T_ialoadN (m := (i + 2)) dL_law_1356 ((pf_1343 _ (by omega)).trans hs2) rfl (by omega) ?_
  refine T_aload_n dL_law_1357 rfl ?_
  refine T_iload_n dL_law_1358 rfl ?_
  refine T_iconst dL_law_1359 (by decide) ?_
  refine T_iadd dL_law_1360 ⟨by omega, by omega⟩ ?_
  refine T_ialoadN (m := (i + 3)) dL_law_1361 ((pf_1343 _ (by omega)).trans hs2) rfl (by omega) ?_
  refine T_callV dL_law_1362 zkm_20_185 (Or.inl rfl) rfl hM9 ⟨Nat.le_of_ble_eq_true rfl, rfl⟩ rfl (Nat.le_of_ble_eq_true rfl) ?_
  refine m_X10_setElement  hP hL hI hO hV (by omega) hrf2 (fun hh1362 pr_1362 pf_1362 => ?_)
  refine T_icmp_eq dL_law_1365 (t := 1531) rfl (fun _ => ?_) (fun hc => absurd rfl hc)
  exact J1531 _ _ _   ⟨_, _, _, _, _, _, _, _, _, (pc_1343.frame hP (Nat.le_refl _) (fun q hq => pf_1362 q (by omega))), pr_1362, ⟨hP, (lw_se hL _ _ _), hI, hO, hV⟩, (by omega), (hpr.frame (fun q hq => ((pf_1362 q (by omega)).trans ((pf_1343 q (by omega)).trans rfl)))), (hdg.frame (fun q hq => ((pf_1362 q (by omega)).trans ((pf_1343 q (by omega)).trans rfl)))), hs1, ((pf_1362 _ (by omega)).trans ((pf_1343 _ (by omega)).trans hs2))⟩
set_option maxHeartbeats 4000000 in
set_option maxRecDepth 100000 in
theorem law_42 {n0 n k : Nat} {g : Nat → zV} {h : zHp} {Q : Option zV → Nat → Nat → zHp → Prop} {B nb vb N i sA len K0 : Nat} {cb : Nat → Nat} {P : pT} {L : lT} {I O : tT} {V : Int × pT} {f : Nat → Int} {r4 : Option Nat} (hg0 : g 0 = .inl 1) (hg4 : g 4 = .inr r4) (hB : n0 ≤ B) (hP : pwf P) (hL : lwf L) (hI : iwf I) (hO : owf O) (hV : vwf V) (hcl : clAt h B (B + 429) n P L I O V nb cb vb N) (hrf : rfAt h (B + 396) P L I O V) (hcn : n ≤ B + 429 + 15 * nb + N ∧ k ≤ K0 + 110 * nb + 3 * N) (hpr : prOk g h B) (hdg : dgOk g h B) (hs1 : sA < B) (hs2 : h sA = some (.inr (.inl (0, len, f)))) (hf : ∀ j, j < len → zR (f j)) (hi : i + 5 ≤ len ∧ len ≤ 2560) (J1531 : ∀ (n' k' : Nat) (h' : zHp), lawI g h' B sA len f n' k' K0 → ZT n0 g mL_law 1531 [some (.inr (some sA)), some (.inr (some B)), some (.inr (some (B + 396))), some (.inl (i : Int))] [] n' k' h' Q) : ZT n0 g mL_law 1370 [some (.inr (some sA)), some (.inr (some B)), some (.inr (some (B + 396))), some (.inl (i : Int))] [] n k h Q := by
  have o0 := hcl.1
  obtain ⟨_, _, _, _, _, _, _, _, _, hM9, -⟩ := id hrf
  refine T_aload_n dL_law_1370 rfl ?_
  refine T_aload_n dL_law_1371 rfl ?_
  refine T_iload_n dL_law_1372 rfl ?_
  refine T_iconst dL_law_1373 (by decide) ?_
  refine T_iadd dL_law_1374 ⟨by omega, by omega⟩ ?_
  refine T_ialoadN (m := (i + 1)) dL_law_1375 hs2 rfl (by omega) ?_
  refine T_aload_n dL_law_1376 rfl ?_
  refine T_iload_n dL_law_1377 rfl ?_
  refine T_iconst dL_law_1378 (by decide) ?_
  refine T_iadd dL_law_1379 ⟨by omega, by omega⟩ ?_
  refine T_ialoadN (m := (i + 2)) dL_law_1380 hs2 rfl (by omega) ?_
  refine T_callV dL_law_1381 zkm_20_186 (Or.inl rfl) rfl o0 ⟨Nat.le_of_ble_eq_true rfl, rfl⟩ rfl (Nat.le_of_ble_eq_true rfl) ?_
  refine m_X9_element  hP hL hI hO hV hB hcl ?_
  refine T_aload_n dL_law_1384 rfl ?_
  refine T_aload_n dL_law_1385 rfl ?_
  refine T_iload_n dL_law_1386 rfl ?_
  refine T_iconst dL_law_1387 (by decide) ?_
  refine T_iadd dL_law_1388 ⟨by omega, by omega⟩ ?_
  refine T_ialoadN (m := (i + 1)) dL_law_1389 hs2 rfl (by omega) ?_
  refine T_aload_n dL_law_1390 rfl ?_
  refine T_iload_n dL_law_1391 rfl ?_
  refine T_iconst dL_law_1392 (by decide) ?_
  refine T_iadd dL_law_1393 ⟨by omega, by omega⟩ ?_
  refine T_ialoadN (m := (i + 2)) dL_law_1394 hs2 rfl (by omega) ?_
  refine T_callV dL_law_1395 zkm_20_189 (Or.inl rfl) rfl hM9 ⟨Nat.le_of_ble_eq_true rfl, rfl⟩ rfl (Nat.le_of_ble_eq_true rfl) ?_
  refine m_X10_element  hP hL hI hO hV (by omega) hrf ?_
  refine T_icmp_eq dL_law_1398 (t := 1531) rfl (fun _ => ?_) (fun hc => absurd rfl hc)
  exact J1531 _ _ _   ⟨_, _, _, _, _, _, _, _, _, hcl, hrf, ⟨hP, hL, hI, hO, hV⟩, (by omega), hpr, hdg, hs1, hs2⟩
set_option maxHeartbeats 4000000 in
set_option maxRecDepth 100000 in
theorem law_43 {n0 n k : Nat} {g : Nat → zV} {h : zHp} {Q : Option zV → Nat → Nat → zHp → Prop} {B nb vb N i sA len K0 : Nat} {cb : Nat → Nat} {P : pT} {L : lT} {I O : tT} {V : Int × pT} {f : Nat → Int} {r4 : Option Nat} (hg0 : g 0 = .inl 1) (hg4 : g 4 = .inr r4) (hB : n0 ≤ B) (hP : pwf P) (hL : lwf L) (hI : iwf I) (hO : owf O) (hV : vwf V) (hcl : clAt h B (B + 429) n P L I O V nb cb vb N) (hrf : rfAt h (B + 396) P L I O V) (hcn : n ≤ B + 429 + 15 * nb + N ∧ k ≤ K0 + 110 * nb + 3 * N) (hpr : prOk g h B) (hdg : dgOk g h B) (hs1 : sA < B) (hs2 : h sA = some (.inr (.inl (0, len, f)))) (hf : ∀ j, j < len → zR (f j)) (hi : i + 5 ≤ len ∧ len ≤ 2560) (J1531 : ∀ (n' k' : Nat) (h' : zHp), lawI g h' B sA len f n' k' K0 → ZT n0 g mL_law 1531 [some (.inr (some sA)), some (.inr (some B)), some (.inr (some (B + 396))), some (.inl (i : Int))] [] n' k' h' Q) : ZT n0 g mL_law 1403 [some (.inr (some sA)), some (.inr (some B)), some (.inr (some (B + 396))), some (.inl (i : Int))] [] n k h Q := by
  have o0 := hcl.1
  obtain ⟨_, _, _, _, _, _, _, _, _, hM9, -⟩ := id hrf
  refine T_aload_n dL_law_1403 rfl ?_
  refine T_aload_n dL_law_1404 rfl ?_
  refine T_iload_n dL_law_1405 rfl ?_
  refine T_iconst dL_law_1406 (by decide) ?_
  refine T_iadd dL_law_1407 ⟨by omega, by omega⟩ ?_
  refine T_ialoadN (m := (i + 1)) dL_law_1408 hs2 rfl (by omega) ?_
  refine T_callV dL_law_1409 zkm_20_190 (Or.inl rfl) rfl o0 ⟨Nat.le_of_ble_eq_true rfl, rfl⟩ rfl (Nat.le_of_ble_eq_true rfl) ?_
  refine m_X9_storePolynomial  hP hL hI hO hV hB hcl (fun hh1409 pc_1409 pf_1409 => ?_)
  have hrf2 := hrf.frame (fun q a1 a2 => pf_1409 q (by omega))
  obtain ⟨_, _, _, _, _, _, _, _, _, hM9, -⟩ := id hrf2
  refine T_aload_n dL_law_1412 rfl ?_
  refine T_aload_n dL_law_1413 rfl ?_
  refine T_iload_n dL_law_1414 rfl ?_
  refine T_iconst dL_law_1415 (by decide) ?_
  refine T_iadd dL_law_1416 ⟨by omega, by omega⟩ ?_
  refine T_ialoadN (m := (i + 1)) dL_law_1417 ((pf_1409 _ (by omega)).trans hs2) rfl (by omega) ?_
  refine T_callV dL_law_1418 zkm_20_193 (Or.inl rfl) rfl hM9 ⟨Nat.le_of_ble_eq_true rfl, rfl⟩ rfl (Nat.le_of_ble_eq_true rfl) ?_
  refine m_X10_storePolynomial  hP hL hI hO hV (by omega) hrf2 (fun hh1418 pr_1418 pf_1418 => ?_)
  refine T_icmp_eq dL_law_1421 (t := 1531) rfl (fun _ => ?_) (fun hc => absurd rfl hc)
  exact J1531 _ _ _   ⟨_, _, _, _, _, _, _, _, _, (pc_1409.frame hP (Nat.le_refl _) (fun q hq => pf_1418 q (by omega))), pr_1418, ⟨hP, (lw_sp hP hL _), hI, hO, hV⟩, (by omega), (hpr.frame (fun q hq => ((pf_1418 q (by omega)).trans ((pf_1409 q (by omega)).trans rfl)))), (hdg.frame (fun q hq => ((pf_1418 q (by omega)).trans ((pf_1409 q (by omega)).trans rfl)))), hs1, ((pf_1418 _ (by omega)).trans ((pf_1409 _ (by omega)).trans hs2))⟩
set_option maxHeartbeats 4000000 in
set_option maxRecDepth 100000 in
theorem law_44 {n0 n k : Nat} {g : Nat → zV} {h : zHp} {Q : Option zV → Nat → Nat → zHp → Prop} {B nb vb N i sA len K0 : Nat} {cb : Nat → Nat} {P : pT} {L : lT} {I O : tT} {V : Int × pT} {f : Nat → Int} {r4 : Option Nat} (hg0 : g 0 = .inl 1) (hg4 : g 4 = .inr r4) (hB : n0 ≤ B) (hP : pwf P) (hL : lwf L) (hI : iwf I) (hO : owf O) (hV : vwf V) (hcl : clAt h B (B + 429) n P L I O V nb cb vb N) (hrf : rfAt h (B + 396) P L I O V) (hcn : n ≤ B + 429 + 15 * nb + N ∧ k ≤ K0 + 110 * nb + 3 * N) (hpr : prOk g h B) (hdg : dgOk g h B) (hs1 : sA < B) (hs2 : h sA = some (.inr (.inl (0, len, f)))) (hf : ∀ j, j < len → zR (f j)) (hi : i + 5 ≤ len ∧ len ≤ 2560) (J1531 : ∀ (n' k' : Nat) (h' : zHp), lawI g h' B sA len f n' k' K0 → ZT n0 g mL_law 1531 [some (.inr (some sA)), some (.inr (some B)), some (.inr (some (B + 396))), some (.inl (i : Int))] [] n' k' h' Q) : ZT n0 g mL_law 1426 [some (.inr (some sA)), some (.inr (some B)), some (.inr (some (B + 396))), some (.inl (i : Int))] [] n k h Q := by
  have o0 := hcl.1
  obtain ⟨_, _, _, _, _, _, _, _, _, hM9, -⟩ := id hrf
  refine T_aload_n dL_law_1426 rfl ?_
  refine T_aload_n dL_law_1427 rfl ?_
  refine T_iload_n dL_law_1428 rfl ?_
  refine T_iconst dL_law_1429 (by decide) ?_
  refine T_iadd dL_law_1430 ⟨by omega, by omega⟩ ?_
  refine T_ialoadN (m := (i + 1)) dL_law_1431 hs2 rfl (by omega) ?_
  refine T_callV dL_law_1432 zkm_20_194 (Or.inl rfl) rfl o0 ⟨Nat.le_of_ble_eq_true rfl, rfl⟩ rfl (Nat.le_of_ble_eq_true rfl) ?_
  refine m_X9_loadPolynomial  hP hL hI hO hV hB hcl (fun hh1432 pc_1432 pf_1432 => ?_)
  have hrf2 := hrf.frame (fun q a1 a2 => pf_1432 q (by omega))
  obtain ⟨_, _, _, _, _, _, _, _, _, hM9, -⟩ := id hrf2
  refine T_aload_n dL_law_1435 rfl ?_
  refine T_aload_n dL_law_1436 rfl ?_
  refine T_iload_n dL_law_1437 rfl ?_
  refine T_iconst dL_law_1438 (by decide) ?_
  refine T_iadd dL_law_1439 ⟨by omega, by omega⟩ ?_
  refine T_ialoadN (m := (i + 1)) dL_law_1440 ((pf_1432 _ (by omega)).trans hs2) rfl (by omega) ?_
  refine T_callV dL_law_1441 zkm_20_197 (Or.inl rfl) rfl hM9 ⟨Nat.le_of_ble_eq_true rfl, rfl⟩ rfl (Nat.le_of_ble_eq_true rfl) ?_
  refine m_X10_loadPolynomial  hP hL hI hO hV (by omega) hrf2 (fun hh1441 pr_1441 pf_1441 => ?_)
  refine T_icmp_eq dL_law_1444 (t := 1531) rfl (fun _ => ?_) (fun hc => absurd rfl hc)
  exact J1531 _ _ _   ⟨_, _, _, _, _, _, _, _, _, (pc_1432.frame (wf_lp hP _ _) (Nat.le_refl _) (fun q hq => pf_1441 q (by omega))), pr_1441, ⟨(wf_lp hP _ _), hL, hI, hO, hV⟩, (by omega), (hpr.frame (fun q hq => ((pf_1441 q (by omega)).trans ((pf_1432 q (by omega)).trans rfl)))), (hdg.frame (fun q hq => ((pf_1441 q (by omega)).trans ((pf_1432 q (by omega)).trans rfl)))), hs1, ((pf_1441 _ (by omega)).trans ((pf_1432 _ (by omega)).trans hs2))⟩
set_option maxHeartbeats 4000000 in
set_option maxRecDepth 100000 in
theorem law_45 {n0 n k : Nat} {g : Nat → zV} {h : zHp} {Q : Option zV → Nat → Nat → zHp → Prop} {B nb vb N i sA len K0 : Nat} {cb : Nat → Nat} {P : pT} {L : lT} {I O : tT} {V : Int × pT} {f : Nat → Int} {r4 : Option Nat} (hg0 : g 0 = .inl 1) (hg4 : g 4 = .inr r4) (hB : n0 ≤ B) (hP : pwf P) (hL : lwf L) (hI : iwf I) (hO : owf O) (hV : vwf V) (hcl : clAt h B (B + 429) n P L I O V nb cb vb N) (hrf : rfAt h (B + 396) P L I O V) (hcn : n ≤ B + 429 + 15 * nb + N ∧ k ≤ K0 + 110 * nb + 3 * N) (hpr : prOk g h B) (hdg : dgOk g h B) (hs1 : sA < B) (hs2 : h sA = some (.inr (.inl (0, len, f)))) (hf : ∀ j, j < len → zR (f j)) (hi : i + 5 ≤ len ∧ len ≤ 2560) (J1531 : ∀ (n' k' : Nat) (h' : zHp), lawI g h' B sA len f n' k' K0 → ZT n0 g mL_law 1531 [some (.inr (some sA)), some (.inr (some B)), some (.inr (some (B + 396))), some (.inl (i : Int))] [] n' k' h' Q) : ZT n0 g mL_law 1449 [some (.inr (some sA)), some (.inr (some B)), some (.inr (some (B + 396))), some (.inl (i : Int))] [] n k h Q := by
  have o0 := hcl.1
  obtain ⟨_, _, _, _, _, _, _, _, _, hM9, -⟩ := id hrf
  refine T_aload_n dL_law_1449 rfl ?_
  refine T_aload_n dL_law_1450 rfl ?_
  refine T_iload_n dL_law_1451 rfl ?_
  refine T_iconst dL_law_1452 (by decide) ?_
  refine T_iadd dL_law_1453 ⟨by omega, by omega⟩ ?_
  refine T_ialoadN (m := (i + 1)) dL_law_1454 hs2 rfl (by omega) ?_
  refine T_callV dL_law_1455 zkm_20_198 (Or.inl rfl) rfl o0 ⟨Nat.le_of_ble_eq_true rfl, rfl⟩ rfl (Nat.le_of_ble_eq_true rfl) ?_
  refine m_X9_clearSlot  hP hL hI hO hV hB hcl (fun hh1455 pc_1455 pf_1455 => ?_)
  have hrf2 := hrf.frame (fun q a1 a2 => pf_1455 q (by omega))
  obtain ⟨_, _, _, _, _, _, _, _, _, hM9, -⟩ := id hrf2
  refine T_aload_n dL_law_1458 rfl ?_
  refine T_aload_n dL_law_1459 rfl ?_
  refine T_iload_n dL_law_1460 rfl ?_
  refine T_iconst dL_law_1461 (by decide) ?_
  refine T_iadd dL_law_1462 ⟨by omega, by omega⟩ ?_
  refine T_ialoadN (m := (i + 1)) dL_law_1463 ((pf_1455 _ (by omega)).trans hs2) rfl (by omega) ?_
  refine T_callV dL_law_1464 zkm_20_201 (Or.inl rfl) rfl hM9 ⟨Nat.le_of_ble_eq_true rfl, rfl⟩ rfl (Nat.le_of_ble_eq_true rfl) ?_
  refine m_X10_clearSlot  hP hL hI hO hV (by omega) hrf2 (fun hh1464 pr_1464 pf_1464 => ?_)
  refine T_icmp_eq dL_law_1467 (t := 1531) rfl (fun _ => ?_) (fun hc => absurd rfl hc)
  exact J1531 _ _ _   ⟨_, _, _, _, _, _, _, _, _, (pc_1455.frame hP (Nat.le_refl _) (fun q hq => pf_1464 q (by omega))), pr_1464, ⟨hP, (lw_cs hL _), hI, hO, hV⟩, (by omega), (hpr.frame (fun q hq => ((pf_1464 q (by omega)).trans ((pf_1455 q (by omega)).trans rfl)))), (hdg.frame (fun q hq => ((pf_1464 q (by omega)).trans ((pf_1455 q (by omega)).trans rfl)))), hs1, ((pf_1464 _ (by omega)).trans ((pf_1455 _ (by omega)).trans hs2))⟩
set_option maxHeartbeats 4000000 in
set_option maxRecDepth 100000 in
theorem law_46 {n0 n k : Nat} {g : Nat → zV} {h : zHp} {Q : Option zV → Nat → Nat → zHp → Prop} {B nb vb N i sA len K0 : Nat} {cb : Nat → Nat} {P : pT} {L : lT} {I O : tT} {V : Int × pT} {f : Nat → Int} {r4 : Option Nat} (hg0 : g 0 = .inl 1) (hg4 : g 4 = .inr r4) (hB : n0 ≤ B) (hP : pwf P) (hL : lwf L) (hI : iwf I) (hO : owf O) (hV : vwf V) (hcl : clAt h B (B + 429) n P L I O V nb cb vb N) (hrf : rfAt h (B + 396) P L I O V) (hcn : n ≤ B + 429 + 15 * nb + N ∧ k ≤ K0 + 110 * nb + 3 * N) (hpr : prOk g h B) (hdg : dgOk g h B) (hs1 : sA < B) (hs2 : h sA = some (.inr (.inl (0, len, f)))) (hf : ∀ j, j < len → zR (f j)) (hi : i + 5 ≤ len ∧ len ≤ 2560) (J1531 : ∀ (n' k' : Nat) (h' : zHp), lawI g h' B sA len f n' k' K0 → ZT n0 g mL_law 1531 [some (.inr (some sA)), some (.inr (some B)), some (.inr (some (B + 396))), some (.inl (i : Int))] [] n' k' h' Q) : ZT n0 g mL_law 1472 [some (.inr (some sA)), some (.inr (some B)), some (.inr (some (B + 396))), some (.inl (i : Int))] [] n k h Q := by
  have o0 := hcl.1
  obtain ⟨_, _, _, _, _, _, _, _, _, hM9, -⟩ := id hrf
  refine T_aload_n dL_law_1472 rfl ?_
  refine T_aload_n dL_law_1473 rfl ?_
  refine T_iload_n dL_law_1474 rfl ?_
  refine T_iconst dL_law_1475 (by decide) ?_
  refine T_iadd dL_law_1476 ⟨by omega, by omega⟩ ?_
  refine T_ialoadN (m := (i + 1)) dL_law_1477 hs2 rfl (by omega) ?_
  refine T_aload_n dL_law_1478 rfl ?_
  refine T_iload_n dL_law_1479 rfl ?_
  refine T_iconst dL_law_1480 (by decide) ?_
  refine T_iadd dL_law_1481 ⟨by omega, by omega⟩ ?_
  refine T_ialoadN (m := (i + 2)) dL_law_1482 hs2 rfl (by omega) ?_
  refine T_callV dL_law_1483 zkm_20_202 (Or.inl rfl) rfl o0 ⟨Nat.le_of_ble_eq_true rfl, rfl⟩ rfl (Nat.le_of_ble_eq_true rfl) ?_
  refine m_X9_firstDifference  hP hL hI hO hV hB hcl (fun nb'1483 cb'1483 n'1483 k'1483 hh1483 k1483a k1483b k1483c k1483d pc_1483 pf_1483 => ?_)
  have hrf2 := hrf.frame (fun q a1 a2 => pf_1483 q (by omega))
  obtain ⟨_, _, _, _, _, _, _, _, _, hM9, -⟩ := id hrf2
  refine T_aload_n dL_law_1486 rfl ?_
  refine T_aload_n dL_law_1487 rfl ?_
  refine T_iload_n dL_law_1488 rfl ?_
  refine T_iconst dL_law_1489 (by decide) ?_
  refine T_iadd dL_law_1490 ⟨by omega, by omega⟩ ?_
  refine T_ialoadN (m := (i + 1)) dL_law_1491 ((pf_1483 _ (by omega)).trans hs2) rfl (by omega) ?_
  refine T_aload_n dL_law_1492 rfl ?_
  refine T_iload_n dL_law_1493 rfl ?_
  refine T_iconst dL_law_1494 (by decide) ?_
  refine T_iadd dL_law_1495 ⟨by omega, by omega⟩ ?_
  refine T_ialoadN (m := (i + 2)) dL_law_1496 ((pf_1483 _ (by omega)).trans hs2) rfl (by omega) ?_
  refine T_callV dL_law_1497 zkm_20_205 (Or.inl rfl) rfl hM9 ⟨Nat.le_of_ble_eq_true rfl, rfl⟩ rfl (Nat.le_of_ble_eq_true rfl) ?_
  refine m_X10_firstDifference  hP hL hI hO hV (by omega) hrf2 (fun hh1497 pr_1497 pf_1497 => ?_)
  refine T_icmp_eq dL_law_1500 (t := 1531) rfl (fun _ => ?_) (fun hc => absurd rfl hc)
  exact J1531 _ _ _   ⟨_, _, _, _, _, _, _, _, _, (pc_1483.frame hP (Nat.le_refl _) (fun q hq => pf_1497 q (by omega))), pr_1497, ⟨hP, hL, hI, hO, hV⟩, (by omega), (hpr.frame (fun q hq => ((pf_1497 q (by omega)).trans ((pf_1483 q (by omega)).trans rfl)))), (hdg.frame (fun q hq => ((pf_1497 q (by omega)).trans ((pf_1483 q (by omega)).trans rfl)))), hs1, ((pf_1497 _ (by omega)).trans ((pf_1483 _ (by omega)).trans hs2))⟩
set_option maxHeartbeats 4000000 in
set_option maxRecDepth 100000 in
theorem law_47 {n0 n k : Nat} {g : Nat → zV} {h : zHp} {Q : Option zV → Nat → Nat → zHp → Prop} {B nb vb N i sA len K0 : Nat} {cb : Nat → Nat} {P : pT} {L : lT} {I O : tT} {V : Int × pT} {f : Nat → Int} {r4 : Option Nat} (hg0 : g 0 = .inl 1) (hg4 : g 4 = .inr r4) (hB : n0 ≤ B) (hP : pwf P) (hL : lwf L) (hI : iwf I) (hO : owf O) (hV : vwf V) (hcl : clAt h B (B + 429) n P L I O V nb cb vb N) (hrf : rfAt h (B + 396) P L I O V) (hcn : n ≤ B + 429 + 15 * nb + N ∧ k ≤ K0 + 110 * nb + 3 * N) (hpr : prOk g h B) (hdg : dgOk g h B) (hs1 : sA < B) (hs2 : h sA = some (.inr (.inl (0, len, f)))) (hf : ∀ j, j < len → zR (f j)) (hi : i + 5 ≤ len ∧ len ≤ 2560) (J1531 : ∀ (n' k' : Nat) (h' : zHp), lawI g h' B sA len f n' k' K0 → ZT n0 g mL_law 1531 [some (.inr (some sA)), some (.inr (some B)), some (.inr (some (B + 396))), some (.inl (i : Int))] [] n' k' h' Q) : ZT n0 g mL_law 1505 [some (.inr (some sA)), some (.inr (some B)), some (.inr (some (B + 396))), some (.inl (i : Int))] [] n k h Q := by
  have o0 := hcl.1
  obtain ⟨_, _, _, _, _, _, _, _, _, hM9, -⟩ := id hrf
  refine T_aload_n dL_law_1505 rfl ?_
  refine T_callV dL_law_1506 zkm_20_206 (Or.inl rfl) rfl o0 ⟨Nat.le_of_ble_eq_true rfl, rfl⟩ rfl (Nat.le_of_ble_eq_true rfl) ?_
  refine m_X9_saveSnapshot  hP hL hI hO hV hB hcl (fun hh1506 pc_1506 pf_1506 => ?_)
  have hrf2 := hrf.frame (fun q a1 a2 => pf_1506 q (by omega))
  obtain ⟨_, _, _, _, _, _, _, _, _, hM9, -⟩ := id hrf2
  refine T_aload_n dL_law_1509 rfl ?_
  refine T_callV dL_law_1510 zkm_20_209 (Or.inl rfl) rfl hM9 ⟨Nat.le_of_ble_eq_true rfl, rfl⟩ rfl (Nat.le_of_ble_eq_true rfl) ?_
  refine m_X10_saveSnapshot  hP hL hI hO hV (by omega) hrf2 (fun hh1510 pr_1510 pf_1510 => ?_)
  refine T_icmp_eq dL_law_1513 (t := 1531) rfl (fun _ => ?_) (fun hc => absurd rfl hc)
  exact J1531 _ _ _   ⟨_, _, _, _, _, _, _, _, _, (pc_1506.frame hP (Nat.le_refl _) (fun q hq => pf_1510 q (by omega))), pr_1510, ⟨hP, hL, hI, hO, ⟨Or.inr rfl, fun _ => hP⟩⟩, (by omega), (hpr.frame (fun q hq => ((pf_1510 q (by omega)).trans ((pf_1506 q (by omega)).trans rfl)))), (hdg.frame (fun q hq => ((pf_1510 q (by omega)).trans ((pf_1506 q (by omega)).trans rfl)))), hs1, ((pf_1510 _ (by omega)).trans ((pf_1506 _ (by omega)).trans hs2))⟩
set_option maxHeartbeats 4000000 in
set_option maxRecDepth 100000 in
theorem law_48 {n0 n k : Nat} {g : Nat → zV} {h : zHp} {Q : Option zV → Nat → Nat → zHp → Prop} {B nb vb N i sA len K0 : Nat} {cb : Nat → Nat} {P : pT} {L : lT} {I O : tT} {V : Int × pT} {f : Nat → Int} {r4 : Option Nat} (hg0 : g 0 = .inl 1) (hg4 : g 4 = .inr r4) (hB : n0 ≤ B) (hP : pwf P) (hL : lwf L) (hI : iwf I) (hO : owf O) (hV : vwf V) (hcl : clAt h B (B + 429) n P L I O V nb cb vb N) (hrf : rfAt h (B + 396) P L I O V) (hcn : n ≤ B + 429 + 15 * nb + N ∧ k ≤ K0 + 110 * nb + 3 * N) (hpr : prOk g h B) (hdg : dgOk g h B) (hs1 : sA < B) (hs2 : h sA = some (.inr (.inl (0, len, f)))) (hf : ∀ j, j < len → zR (f j)) (hi : i + 5 ≤ len ∧ len ≤ 2560) (J1531 : ∀ (n' k' : Nat) (h' : zHp), lawI g h' B sA len f n' k' K0 → ZT n0 g mL_law 1531 [some (.inr (some sA)), some (.inr (some B)), some (.inr (some (B + 396))), some (.inl (i : Int))] [] n' k' h' Q) : ZT n0 g mL_law 1518 [some (.inr (some sA)), some (.inr (some B)), some (.inr (some (B + 396))), some (.inl (i : Int))] [] n k h Q := by
  have o0 := hcl.1
  obtain ⟨_, _, _, _, _, _, _, _, _, hM9, -⟩ := id hrf
  refine T_aload_n dL_law_1518 rfl ?_
  refine T_callV dL_law_1519 zkm_20_210 (Or.inl rfl) rfl o0 ⟨Nat.le_of_ble_eq_true rfl, rfl⟩ rfl (Nat.le_of_ble_eq_true rfl) ?_
  refine m_X9_restoreSnapshot  hP hL hI hO hV hB hcl (fun hh1519 pc_1519 pf_1519 => ?_)
  have hrf2 := hrf.frame (fun q a1 a2 => pf_1519 q (by omega))
  obtain ⟨_, _, _, _, _, _, _, _, _, hM9, -⟩ := id hrf2
  refine T_aload_n dL_law_1522 rfl ?_
  refine T_callV dL_law_1523 zkm_20_213 (Or.inl rfl) rfl hM9 ⟨Nat.le_of_ble_eq_true rfl, rfl⟩ rfl (Nat.le_of_ble_eq_true rfl) ?_
  refine m_X10_restoreSnapshot  hP hL hI hO hV (by omega) hrf2 (fun hh1523 pr_1523 pf_1523 => ?_)
  refine T_icmp_eq dL_law_1526 (t := 1531) rfl (fun _ => ?_) (fun hc => absurd rfl hc)
  exact J1531 _ _ _   ⟨_, _, _, _, _, _, _, _, _, (pc_1519.frame (wf_rs hP hV) (Nat.le_refl _) (fun q hq => pf_1523 q (by omega))), pr_1523, ⟨(wf_rs hP hV), hL, hI, hO, hV⟩, (by omega), (hpr.frame (fun q hq => ((pf_1523 q (by omega)).trans ((pf_1519 q (by omega)).trans rfl)))), (hdg.frame (fun q hq => ((pf_1523 q (by omega)).trans ((pf_1519 q (by omega)).trans rfl)))), hs1, ((pf_1523 _ (by omega)).trans ((pf_1519 _ (by omega)).trans hs2))⟩
