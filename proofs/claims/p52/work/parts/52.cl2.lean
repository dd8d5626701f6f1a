/-! ===== GroebnerFan: orders and the fan: printed by wip/whole/gen/s_cl2.py ===== -/
set_option maxHeartbeats 4000000 in
set_option maxRecDepth 100000 in
theorem m_X9_computeOrder {n0 n k : Nat} {g : Nat → zV} {h : zHp} {Q : Option zV → Nat → Nat → zHp → Prop} {B lo : Nat} {P : pT} {L : lT} {I O : tT} {V : Int × pT} {nb vb N : Nat} {cb : Nat → Nat} {u v t : Int} (hP : pwf P) (hL : lwf L) (hI : iwf I) (hO : owf O) (hV : vwf V) (hB : n0 ≤ B) (hcl : clAt h B lo n P L I O V nb cb vb N) (ho : sOrd u v t) (hQ : ∀ (w : Nat × Nat) (h' : zHp), (clAt h' B lo n P L I O V nb cb vb N) → (baAt h' (B + 35) (pZ P u v t).1 (pZ P u v t).2.1 (pZ P u v t).2.2.1 (pZ P u v t).2.2.2 (w.1 : Int) (w.2 : Int)) → (∀ q : Nat, (q < B ∨ (B + 396 ≤ q ∧ q < lo)) → h' q = h q) → Q none n k h') : ZT n0 g mX9_computeOrder 0 (zloc mX9_computeOrder [.inr (some B), .inl u, .inl v, .inl t]) [] n k h Q := by
  show ZT n0 g mX9_computeOrder 0 [some (.inr (some B)), some (.inl u), some (.inl v), some (.inl t)] [] n k h Q
  obtain ⟨o0, gp, gc, gsp, gsc, gw, gf, gi, go, gl, gsep, hlo⟩ := id hcl
  have hpb := hP.bd
  have gvb := go.vb
  have gcb := gf.co.2.2.1
  obtain ⟨xs, ys, p0, p1, p2, p3⟩ := id gp
  obtain ⟨⟨s0, E0, w1⟩, ⟨u0, v0, t0, w2⟩, H0, c0, cm0, ce0, wt0, wb0, w3, w4⟩ := id gw
  obtain ⟨bhf, brf, bpi, w5, -⟩ := id w4
  refine T_aload_n dX9_computeOrder_0 rfl ?_
  refine T_getfield dX9_computeOrder_1 zkf_10_45 o0 rfl ?_
  refine T_iload_n dX9_computeOrder_4 rfl ?_
  refine T_iload_n dX9_computeOrder_5 rfl ?_
  refine T_iload_n dX9_computeOrder_6 rfl ?_
  refine T_callV dX9_computeOrder_7 zkm_10_309 (Or.inl rfl) rfl w2 ⟨Nat.le_of_ble_eq_true rfl, rfl⟩ rfl (Nat.le_of_ble_eq_true rfl) ?_
  refine m_X4_choose w2 (by omega) (fun hh7 f7a fr7 => ?_)
  refine T_aload_n dX9_computeOrder_10 rfl ?_
  refine T_getfield dX9_computeOrder_11 zkf_10_52 ((fr7 _ (by omega)).trans o0) rfl ?_
  refine T_aload_n dX9_computeOrder_14 rfl ?_
  refine T_getfield dX9_computeOrder_15 zkf_10_45 ((fr7 _ (by omega)).trans o0) rfl ?_
  refine T_aload_n dX9_computeOrder_18 rfl ?_
  refine T_getfield dX9_computeOrder_19 zkf_10_38 ((fr7 _ (by omega)).trans o0) rfl ?_
  refine T_callV dX9_computeOrder_22 zkm_10_312 (Or.inl rfl) rfl ((fr7 _ (by omega)).trans w5) ⟨Nat.le_of_ble_eq_true rfl, rfl⟩ rfl (Nat.le_of_ble_eq_true rfl) ?_
  refine m_X7_compute (X := P.2.2.1) (Y := P.2.2.2.1) ((fr7 _ (by omega)).trans p0) ((fr7 _ (by omega)).trans p1) ((fr7 _ (by omega)).trans p2) f7a hP.2.1 hP.1 (fun k hk => p3 k hk) (fun k hk => hP.2.2.1 k hk) ho.1.1 (by omega) (by omega) (w1.frame (fun q a1 a2 => ((fr7 _ (by omega)).trans (rfl)))) (w4.frame w3 (fun q a1 a2 => ((fr7 _ (by omega)).trans (rfl)))) (fun w22 E'22 hh22 k22a pb_22 pe_22 pf_22 => ?_)
  have fr22 : ∀ q, (q < B + 11 ∨ B + 50 ≤ q) → hh22 q = h q := fun q hq => (pf_22 q (by omega) (by omega)).trans ((fr7 _ (by omega)).trans (rfl))
  refine T_vret dX9_computeOrder_25 rfl ?_
  exact hQ w22 hh22 ⟨((fr22 B (by omega)).trans o0), (gp.frame (fun q a1 a2 => fr22 q (by omega))), (gc.frame (fun q a1 a2 => fr22 q (by omega))), (gsp.frame (fun q a1 a2 => fr22 q (by omega))), (gsc.frame (fun q a1 a2 => fr22 q (by omega))), ⟨⟨P.2.1, E'22, pe_22⟩, ⟨u, v, t, (pf_22 (B + 34) (by omega) (by omega)).trans f7a⟩, _, _, _, _, _, _, (zbas_facts hP.1 hP.2.1 ho.1.1.1 ho.1.1.2.2.1).1, pb_22⟩, (gf.frame hP (Nat.le_refl _) (fun q a1 a2 => fr22 q (by omega)) (fun i hi q a1 a2 => by have := gcb i hi; exact fr22 q (by omega))), (gi.frame (fun q a1 a2 => fr22 q (by omega))), (go.frame (Nat.le_refl _) (fr22 _ (by omega)) (fr22 _ (by omega))), (gl.frame (fun q a1 a2 => fr22 q (by omega))), gsep, hlo⟩ pb_22 (fun q a1 => fr22 q (by omega))
set_option maxHeartbeats 4000000 in
set_option maxRecDepth 100000 in
theorem m_X2_refresh {n0 n k : Nat} {g : Nat → zV} {h : zHp} {Q : Option zV → Nat → Nat → zHp → Prop} {B lo : Nat} {P : pT} {L : lT} {I O : tT} {V : Int × pT} {nb vb N : Nat} {cb : Nat → Nat} (hP : pwf P) (hL : lwf L) (hI : iwf I) (hO : owf O) (hV : vwf V) (hB : n0 ≤ B) (hcl : clAt h B lo n P L I O V nb cb vb N) (hQ : ∀ (nb' : Nat) (cb' : Nat → Nat) (n' k' : Nat) (h' : zHp), (nb ≤ nb') → (n ≤ n' ∧ n' ≤ n + 15 * (nb' - nb)) → (k' ≤ k + 110 * (nb' - nb)) → (∀ i, i < nb → cb' i = cb i) → (clAt h' B lo n' P L I O V nb' cb' vb N) → (h' (B + 50) = some (.inl (3, [.inl (pN P : Int), .inr (some (B + 51))])) ∧ pN P ≤ nb' ∧ ∀ i, i < pN P → bsAt h' (cb' i) (pB P i) (pW P i)) → (∀ q : Nat, (q < B ∨ (B + 396 ≤ q ∧ q < lo)) → h' q = h q) → Q none n' k' h') : ZT n0 g mX2_refresh 0 (zloc mX2_refresh [.inr (some (B + 50)), .inr (some (B + 34)), .inr (some (B + 11))]) [] n k h Q := by
  obtain ⟨o0, gp, gc, gsp, gsc, gw, gf, gi, go, gl, gsep, hlo⟩ := id hcl
  have hpb := hP.bd
  have gvb := go.vb
  have gcb := gf.co.2.2.1
  obtain ⟨xs, ys, p0, p1, p2, p3⟩ := id gp
  obtain ⟨sz, f0, f1, f2⟩ := id gf
  obtain ⟨⟨s0, E0, w1⟩, ⟨u0, v0, t0, w2⟩, H0, c0, cm0, ce0, wt0, wb0, w3, w4⟩ := id gw
  by_cases hz : sz = 0
  · refine m_X2_refresh0 (X := P.2.2.1) (Y := P.2.2.2.1) (lo := lo) (nb := nb) (cb := cb) p0 p1 p2 w2 f0 hP.2.1 hP.1 (fun k hk => p3 k hk) (fun k hk => hP.2.2.1 k hk) (by omega) (by omega) (by omega) w1 f1 (by omega) (fun E'22 hh22 pf_22 pc_22 pk_22 pe_22 po_22 pr_22 => ?_)
    have hNb : pN P ≤ nb := by have q1 := (pN_is hP).2.1; have q2 := f1.1; omega
    have fr22 : ∀ q, q ≠ B + 50 → q ≠ B + 51 → (q < B + 11 ∨ B + 35 ≤ q) → (q < B + 52 ∨ B + 382 ≤ q) → hh22 q = h q := fun q h2 h3 h4 h5 => pr_22 q h2 h3 (by omega) (by omega) (fun i hi => by have := gcb i hi; omega)
    obtain ⟨u9, v9, t9, po9⟩ := po_22
    exact hQ nb cb n k hh22 (Nat.le_refl _) ⟨Nat.le_refl _, by omega⟩ (by omega) (fun _ _ => rfl) ⟨((fr22 B (by omega) (by omega) (by omega) (by omega)).trans o0), (gp.frame (fun q a1 a2 => fr22 q (by omega) (by omega) (by omega) (by omega))), (gc.frame (fun q a1 a2 => fr22 q (by omega) (by omega) (by omega) (by omega))), (gsp.frame (fun q a1 a2 => fr22 q (by omega) (by omega) (by omega) (by omega))), (gsc.frame (fun q a1 a2 => fr22 q (by omega) (by omega) (by omega) (by omega))), ⟨⟨P.2.1, E'22, pe_22⟩, ⟨u9, v9, t9, po9⟩, H0, c0, cm0, ce0, wt0, wb0, w3, w4.frame w3 (fun q a1 a2 => fr22 q (by omega) (by omega) (by omega) (by omega))⟩, ⟨pN P, pf_22, pc_22, Or.inr ⟨rfl, hNb, pk_22⟩⟩, (gi.frame (fun q a1 a2 => fr22 q (by omega) (by omega) (by omega) (by omega))), (go.frame (Nat.le_refl _) (fr22 _ (by omega) (by omega) (by omega) (by omega)) (fr22 _ (by omega) (by omega) (by omega) (by omega))), (gl.frame (fun q a1 a2 => fr22 q (by omega) (by omega) (by omega) (by omega))), gsep, hlo⟩ ⟨pf_22, hNb, pk_22⟩ (fun q a1 => fr22 q (by omega) (by omega) (by omega) (by omega))
  · show ZT n0 g mX2_refresh 0 [some (.inr (some (B + 50))), some (.inr (some (B + 34))), some (.inr (some (B + 11))), none, none] [] n k h Q
    refine T_aload_n dX2_refresh_0 rfl ?_
    refine T_getfield dX2_refresh_1 zkf_3_9 f0 rfl ?_
    refine T_if_le dX2_refresh_4 (t := 8) rfl (fun hc => absurd hc (by omega)) (fun _ => ?_)
    refine T_vret dX2_refresh_7 rfl ?_
    obtain ⟨e1, e2, e3⟩ := f2.resolve_left hz
    exact hQ nb cb n k h (Nat.le_refl _) ⟨Nat.le_refl _, by omega⟩ (by omega) (fun _ _ => rfl) hcl ⟨by rw [← e1]; exact f0, e2, e3⟩ (fun _ _ => rfl)
set_option maxHeartbeats 4000000 in
set_option maxRecDepth 100000 in
theorem m_X9_findCone {n0 n k : Nat} {g : Nat → zV} {h : zHp} {Q : Option zV → Nat → Nat → zHp → Prop} {B lo : Nat} {P : pT} {L : lT} {I O : tT} {V : Int × pT} {nb vb N : Nat} {cb : Nat → Nat} {i : Int} (hP : pwf P) (hL : lwf L) (hI : iwf I) (hO : owf O) (hV : vwf V) (hB : n0 ≤ B) (hcl : clAt h B lo n P L I O V nb cb vb N) (hT : ∀ (j : Nat) (nb' : Nat) (cb' : Nat → Nat) (n' k' : Nat) (h' : zHp), (j < pN P) → (i = (j : Int)) → (nb ≤ nb') → (n ≤ n' ∧ n' ≤ n + 15 * (nb' - nb)) → (k' ≤ k + 110 * (nb' - nb)) → (∀ i, i < nb → cb' i = cb i) → (clAt h' B lo n' P L I O V nb' cb' vb N) → (h' (B + 50) = some (.inl (3, [.inl (pN P : Int), .inr (some (B + 51))])) ∧ pN P ≤ nb' ∧ ∀ i, i < pN P → bsAt h' (cb' i) (pB P i) (pW P i)) → (∀ q : Nat, (q < B ∨ (B + 396 ≤ q ∧ q < lo)) → h' q = h q) → Q (some (.inr (some (cb' j)))) n' k' h') (hF : ∀ (nb' : Nat) (cb' : Nat → Nat) (n' k' : Nat) (h' : zHp), (¬ (0 ≤ i ∧ i < (pN P : Int))) → (nb ≤ nb') → (n ≤ n' ∧ n' ≤ n + 15 * (nb' - nb)) → (k' ≤ k + 110 * (nb' - nb)) → (∀ i, i < nb → cb' i = cb i) → (clAt h' B lo n' P L I O V nb' cb' vb N) → (h' (B + 50) = some (.inl (3, [.inl (pN P : Int), .inr (some (B + 51))])) ∧ pN P ≤ nb' ∧ ∀ i, i < pN P → bsAt h' (cb' i) (pB P i) (pW P i)) → (∀ q : Nat, (q < B ∨ (B + 396 ≤ q ∧ q < lo)) → h' q = h q) → Q (some (.inr none)) n' k' h') : ZT n0 g mX9_findCone 0 (zloc mX9_findCone [.inr (some B), .inl i]) [] n k h Q := by
  show ZT n0 g mX9_findCone 0 [some (.inr (some B)), some (.inl i)] [] n k h Q
  obtain ⟨o0, gp, gc, gsp, gsc, gw, gf, gi, go, gl, gsep, hlo⟩ := id hcl
  have hpb := hP.bd
  have gvb := go.vb
  have gcb := gf.co.2.2.1
  obtain ⟨sz, f0, f1, f2⟩ := id gf
  refine T_aload_n dX9_findCone_0 rfl ?_
  refine T_getfield dX9_findCone_1 zkf_10_59 o0 rfl ?_
  refine T_aload_n dX9_findCone_4 rfl ?_
  refine T_getfield dX9_findCone_5 zkf_10_45 o0 rfl ?_
  refine T_aload_n dX9_findCone_8 rfl ?_
  refine T_getfield dX9_findCone_9 zkf_10_38 o0 rfl ?_
  refine T_callV dX9_findCone_12 zkm_10_168 (Or.inl rfl) rfl f0 ⟨Nat.le_of_ble_eq_true rfl, rfl⟩ rfl (Nat.le_of_ble_eq_true rfl) ?_
  refine m_X2_refresh  hP hL hI hO hV hB hcl (fun nb'12 cb'12 n'12 k'12 hh12 k12a k12b k12c k12d pc_12 kn_12 pf_12 => ?_)
  obtain ⟨ke1, ke2, ke3⟩ := id kn_12
  obtain ⟨o0, -, -, -, -, -, gf9, -⟩ := id pc_12
  obtain ⟨cN44, ⟨cf, cf1, cf2⟩, -⟩ := gf9.co
  have hcf : ∀ i, i < pN P → cf i = some (cb'12 i) := fun i hi => cf2 i (by omega)
  have hNi := pN_is hP
  have hN1 := hNi.1
  have hN23 := hNi.2.1
  refine T_aload_n dX9_findCone_15 rfl ?_
  refine T_getfield dX9_findCone_16 zkf_10_59 o0 rfl ?_
  refine T_iload_n dX9_findCone_19 rfl ?_
  refine T_callV dX9_findCone_20 zkm_10_193 (Or.inl rfl) rfl ke1 ⟨Nat.le_of_ble_eq_true rfl, rfl⟩ rfl (Nat.le_of_ble_eq_true rfl) ?_
  refine m_X2_find ke1 cf1 (by omega) hcf (fun j20 k20a k20b => ?_) (fun k20a_2 => ?_)
  · refine T_aret dX9_findCone_23 rfl ?_
    exact hT j20 nb'12 cb'12 n'12 k'12 hh12 k20a k20b k12a k12b k12c k12d pc_12 kn_12 pf_12
  · refine T_aret dX9_findCone_23 rfl ?_
    exact hF  nb'12 cb'12 n'12 k'12 hh12 k20a_2 k12a k12b k12c k12d pc_12 kn_12 pf_12
set_option maxHeartbeats 4000000 in
set_option maxRecDepth 100000 in
theorem m_X9_findBasisPolynomial {n0 n k : Nat} {g : Nat → zV} {h : zHp} {Q : Option zV → Nat → Nat → zHp → Prop} {B lo : Nat} {P : pT} {L : lT} {I O : tT} {V : Int × pT} {nb vb N : Nat} {cb : Nat → Nat} {i x : Int} (hP : pwf P) (hL : lwf L) (hI : iwf I) (hO : owf O) (hV : vwf V) (hB : n0 ≤ B) (hcl : clAt h B lo n P L I O V nb cb vb N) (hT : ∀ (j q ad t : Nat) (mo fa : Nat → Int) (nb' : Nat) (cb' : Nat → Nat) (n' k' : Nat) (h' : zHp), (j < pN P) → (i = (j : Int)) → (q < (pB P j).2.1) → (x = (q : Int)) → (nb ≤ nb') → (n ≤ n' ∧ n' ≤ n + 15 * (nb' - nb)) → (k' ≤ k + 110 * (nb' - nb)) → (∀ i, i < nb → cb' i = cb i) → (clAt h' B lo n' P L I O V nb' cb' vb N) → (h' (B + 50) = some (.inl (3, [.inl (pN P : Int), .inr (some (B + 51))])) ∧ pN P ≤ nb' ∧ ∀ i, i < pN P → bsAt h' (cb' i) (pB P i) (pW P i)) → (∀ q : Nat, (q < B ∨ (B + 396 ≤ q ∧ q < lo)) → h' q = h q) → (poAt h' ad ((pB P j).2.2.1 q) t mo fa ∧ zRep t mo fa ((pB P j).2.2.2 q)) → (B + 52 ≤ ad) → Q (some (.inr (some ad))) n' k' h') (hF : ∀ (nb' : Nat) (cb' : Nat → Nat) (n' k' : Nat) (h' : zHp), (¬ sBas P i x) → (nb ≤ nb') → (n ≤ n' ∧ n' ≤ n + 15 * (nb' - nb)) → (k' ≤ k + 110 * (nb' - nb)) → (∀ i, i < nb → cb' i = cb i) → (clAt h' B lo n' P L I O V nb' cb' vb N) → (h' (B + 50) = some (.inl (3, [.inl (pN P : Int), .inr (some (B + 51))])) ∧ pN P ≤ nb' ∧ ∀ i, i < pN P → bsAt h' (cb' i) (pB P i) (pW P i)) → (∀ q : Nat, (q < B ∨ (B + 396 ≤ q ∧ q < lo)) → h' q = h q) → Q (some (.inr none)) n' k' h') : ZT n0 g mX9_findBasisPolynomial 0 (zloc mX9_findBasisPolynomial [.inr (some B), .inl i, .inl x]) [] n k h Q := by
  show ZT n0 g mX9_findBasisPolynomial 0 [some (.inr (some B)), some (.inl i), some (.inl x), none] [] n k h Q
  obtain ⟨o0, gp, gc, gsp, gsc, gw, gf, gi, go, gl, gsep, hlo⟩ := id hcl
  have hpb := hP.bd
  have gvb := go.vb
  have gcb := gf.co.2.2.1
  refine T_aload_n dX9_findBasisPolynomial_0 rfl ?_
  refine T_iload_n dX9_findBasisPolynomial_1 rfl ?_
  refine T_callV dX9_findBasisPolynomial_2 zkm_10_173 (Or.inl rfl) rfl o0 ⟨Nat.le_of_ble_eq_true rfl, rfl⟩ rfl (Nat.le_of_ble_eq_true rfl) ?_
  refine m_X9_findCone  hP hL hI hO hV hB hcl (fun j2 nb'2 cb'2 n'2 k'2 hh2 k2a k2b k2c k2d k2e k2f pc_2 kn_2 pf_2 => ?_) (fun nb'2_2 cb'2_2 n'2_2 k'2_2 hh2 k2a_2 k2b_2 k2c_2 k2d_2 k2e_2 pc_2_2 kn_2_2 pf_2_2 => ?_)
  · obtain ⟨ke1, ke2, ke3⟩ := id kn_2
    obtain ⟨o0, -, -, -, -, -, gf9, -⟩ := id pc_2
    obtain ⟨cN44, ⟨cf, cf1, cf2⟩, -⟩ := gf9.co
    have hcf : ∀ i, i < pN P → cf i = some (cb'2 i) := fun i hi => cf2 i (by omega)
    have hNi := pN_is hP
    have hN1 := hNi.1
    have hN23 := hNi.2.1
    obtain ⟨hf, rf, pi, t, mo, fa, d0, d1, d2, d3, d4, d5, d6, d7⟩ := (ke3 j2 k2a).open4
    have dB := pB_facts hP j2
    refine T_astore_n dX9_findBasisPolynomial_5 (Nat.le_of_ble_eq_true rfl) ?_
    refine T_aload_n dX9_findBasisPolynomial_6 rfl ?_
    refine T_ifnonnull dX9_findBasisPolynomial_7 (t := 14) rfl (fun _ _ => ?_) (fun hc => by cases hc)
    refine T_aload_n dX9_findBasisPolynomial_14 rfl ?_
    refine T_iload_n dX9_findBasisPolynomial_15 rfl ?_
    refine T_callV dX9_findBasisPolynomial_16 zkm_10_155 (Or.inl rfl) rfl d0 ⟨Nat.le_of_ble_eq_true rfl, rfl⟩ rfl (Nat.le_of_ble_eq_true rfl) ?_
    refine m_X7_find d0 d2 dB.1 d4 (fun j16 k16a k16b => ?_) (fun k16a_2 => ?_)
    · refine T_aret dX9_findBasisPolynomial_19 rfl ?_
      exact hT j2 j16 (cb'2 j2 + 3 * pi j16 + 3) (t j16) (mo j16) (fa j16) nb'2 cb'2 n'2 k'2 hh2 k2a k2b k16a k16b k2c k2d k2e k2f pc_2 kn_2 pf_2 ⟨⟨d5 j16 k16a, (d6 j16 k16a).1, (d6 j16 k16a).2.1, (d6 j16 k16a).2.2⟩, d7 j16 k16a⟩ (by
        obtain ⟨-, -, -, -, -, -, gf8, -, -, -, -, hlo8⟩ := id pc_2
        have q8 := (gf8.co.2.2.1 j2 (by omega)).1
        omega)
    · refine T_aret dX9_findBasisPolynomial_19 rfl ?_
      exact hF  nb'2 cb'2 n'2 k'2 hh2 (fun q => by
        have e9 : i.toNat = j2 := by omega
        rw [sBas, e9] at q
        exact k16a_2 q.2) k2c k2d k2e k2f pc_2 kn_2 pf_2
  · obtain ⟨ke1, ke2, ke3⟩ := id kn_2_2
    obtain ⟨o0, -, -, -, -, -, gf9, -⟩ := id pc_2_2
    obtain ⟨cN44, ⟨cf, cf1, cf2⟩, -⟩ := gf9.co
    have hcf : ∀ i, i < pN P → cf i = some (cb'2_2 i) := fun i hi => cf2 i (by omega)
    have hNi := pN_is hP
    have hN1 := hNi.1
    have hN23 := hNi.2.1
    refine T_astore_n dX9_findBasisPolynomial_5 (Nat.le_of_ble_eq_true rfl) ?_
    refine T_aload_n dX9_findBasisPolynomial_6 rfl ?_
    refine T_ifnonnull dX9_findBasisPolynomial_7 (t := 14) rfl (fun _ hc => by cases hc) (fun _ => ?_)
    refine T_null dX9_findBasisPolynomial_10 ?_
    refine T_goto dX9_findBasisPolynomial_11 (t := 19) rfl ?_
    refine T_aret dX9_findBasisPolynomial_19 rfl ?_
    exact hF  nb'2_2 cb'2_2 n'2_2 k'2_2 hh2 (fun q => k2a_2 q.1) k2b_2 k2c_2 k2d_2 k2e_2 pc_2_2 kn_2_2 pf_2_2
set_option maxHeartbeats 4000000 in
set_option maxRecDepth 100000 in
theorem m_X9_columnHeight {n0 n k : Nat} {g : Nat → zV} {h : zHp} {Q : Option zV → Nat → Nat → zHp → Prop} {B lo : Nat} {P : pT} {L : lT} {I O : tT} {V : Int × pT} {nb vb N : Nat} {cb : Nat → Nat} {u v t c : Int} (hP : pwf P) (hL : lwf L) (hI : iwf I) (hO : owf O) (hV : vwf V) (hB : n0 ≤ B) (hcl : clAt h B lo n P L I O V nb cb vb N) (hQ : ∀  (h' : zHp), (clAt h' B lo n P L I O V nb cb vb N) → (∀ q : Nat, (q < B ∨ (B + 396 ≤ q ∧ q < lo)) → h' q = h q) → Q (some (.inl (s_ch P u v t c))) n k h') : ZT n0 g mX9_columnHeight 0 (zloc mX9_columnHeight [.inr (some B), .inl u, .inl v, .inl t, .inl c]) [] n k h Q := by
  show ZT n0 g mX9_columnHeight 0 [some (.inr (some B)), some (.inl u), some (.inl v), some (.inl t), some (.inl c)] [] n k h Q
  obtain ⟨o0, gp, gc, gsp, gsc, gw, gf, gi, go, gl, gsep, hlo⟩ := id hcl
  have hpb := hP.bd
  have gvb := go.vb
  have gcb := gf.co.2.2.1
  refine T_iload dX9_columnHeight_0 rfl ?_
  refine T_callS dX9_columnHeight_2 zkm_10_140 ⟨Nat.le_of_ble_eq_true rfl, Nat.le_of_ble_eq_true rfl, rfl⟩ rfl (Nat.le_of_ble_eq_true rfl) ?_
  refine m_X9_isExponent   (fun k2a => ?_) (fun k2a_2 => ?_)
  · refine T_if_ne dX9_columnHeight_5 (t := 10) rfl (fun _ => ?_) (fun hc => absurd hc (by decide))
    refine T_iload_n dX9_columnHeight_10 rfl ?_
    refine T_iload_n dX9_columnHeight_11 rfl ?_
    refine T_iload_n dX9_columnHeight_12 rfl ?_
    refine T_callS dX9_columnHeight_13 zkm_10_143 ⟨Nat.le_of_ble_eq_true rfl, Nat.le_of_ble_eq_true rfl, rfl⟩ rfl (Nat.le_of_ble_eq_true rfl) ?_
    refine m_X9_isOrder   (fun k13a => ?_) (fun k13a_2 => ?_)
    · refine T_if_ne dX9_columnHeight_16 (t := 22) rfl (fun _ => ?_) (fun hc => absurd hc (by decide))
      refine T_aload_n dX9_columnHeight_22 rfl ?_
      refine T_iload_n dX9_columnHeight_23 rfl ?_
      refine T_iload_n dX9_columnHeight_24 rfl ?_
      refine T_iload_n dX9_columnHeight_25 rfl ?_
      have hor := k13a
      refine T_callV dX9_columnHeight_26 zkm_10_147 (Or.inl rfl) rfl o0 ⟨Nat.le_of_ble_eq_true rfl, rfl⟩ rfl (Nat.le_of_ble_eq_true rfl) ?_
      refine m_X9_computeOrder  hP hL hI hO hV hB hcl k13a (fun w26 hh26 pc_26 pb_26 pf_26 => ?_)
      obtain ⟨chf, crf, pi, ct, cmo, cfa, x0, x1, x2, x3, x4, x5, x6, x7⟩ := pb_26.open4
      have zf := zbas_facts (xs := P.2.2.1) (ys := P.2.2.2.1) (tie := t) hP.1 hP.2.1 hor.1.1.1 hor.1.1.2.2.1
      obtain ⟨o0, -⟩ := id pc_26
      refine T_aload_n dX9_columnHeight_29 rfl ?_
      refine T_getfield dX9_columnHeight_30 zkf_10_52 o0 rfl ?_
      refine T_getfield dX9_columnHeight_33 zkf_10_151 x0 rfl ?_
      obtain ⟨j, rfl⟩ := Int.eq_ofNat_of_zero_le k2a.1
      refine T_iload dX9_columnHeight_36 rfl ?_
      refine T_ialoadN (m := j) dX9_columnHeight_38 x1 rfl (by omega) ?_
      refine T_iret dX9_columnHeight_39 rfl ?_
      have e : s_ch P u v t (j : Int) = chf j := by unfold s_ch; rw [if_pos k2a, if_pos k13a, Int.toNat_natCast]; exact (x3 j (by omega)).symm
      rw [e] at hQ
      exact hQ hh26 pc_26 pf_26
    · refine T_if_ne dX9_columnHeight_16 (t := 22) rfl (fun hc => absurd hc (by decide)) (fun _ => ?_)
      refine T_bipush dX9_columnHeight_19 (by decide) ?_
      refine T_iret dX9_columnHeight_21 rfl ?_
      have e : s_ch P u v t c = -2 := by unfold s_ch; rw [if_pos k2a, if_neg k13a_2]
      rw [e] at hQ
      exact hQ h hcl (fun _ _ => rfl)
  · refine T_if_ne dX9_columnHeight_5 (t := 10) rfl (fun hc => absurd hc (by decide)) (fun _ => ?_)
    refine T_iconst dX9_columnHeight_8 (by decide) ?_
    refine T_iret dX9_columnHeight_9 rfl ?_
    have e : s_ch P u v t c = -1 := if_neg k2a_2
    rw [e] at hQ
    exact hQ h hcl (fun _ _ => rfl)
set_option maxHeartbeats 4000000 in
set_option maxRecDepth 100000 in
theorem m_X9_cornerCount {n0 n k : Nat} {g : Nat → zV} {h : zHp} {Q : Option zV → Nat → Nat → zHp → Prop} {B lo : Nat} {P : pT} {L : lT} {I O : tT} {V : Int × pT} {nb vb N : Nat} {cb : Nat → Nat} {u v t : Int} (hP : pwf P) (hL : lwf L) (hI : iwf I) (hO : owf O) (hV : vwf V) (hB : n0 ≤ B) (hcl : clAt h B lo n P L I O V nb cb vb N) (hQ : ∀  (h' : zHp), (clAt h' B lo n P L I O V nb cb vb N) → (∀ q : Nat, (q < B ∨ (B + 396 ≤ q ∧ q < lo)) → h' q = h q) → Q (some (.inl (s_cc P u v t))) n k h') : ZT n0 g mX9_cornerCount 0 (zloc mX9_cornerCount [.inr (some B), .inl u, .inl v, .inl t]) [] n k h Q := by
  show ZT n0 g mX9_cornerCount 0 [some (.inr (some B)), some (.inl u), some (.inl v), some (.inl t)] [] n k h Q
  obtain ⟨o0, gp, gc, gsp, gsc, gw, gf, gi, go, gl, gsep, hlo⟩ := id hcl
  have hpb := hP.bd
  have gvb := go.vb
  have gcb := gf.co.2.2.1
  refine T_iload_n dX9_cornerCount_0 rfl ?_
  refine T_iload_n dX9_cornerCount_1 rfl ?_
  refine T_iload_n dX9_cornerCount_2 rfl ?_
  refine T_callS dX9_cornerCount_3 zkm_10_143 ⟨Nat.le_of_ble_eq_true rfl, Nat.le_of_ble_eq_true rfl, rfl⟩ rfl (Nat.le_of_ble_eq_true rfl) ?_
  refine m_X9_isOrder   (fun k3a => ?_) (fun k3a_2 => ?_)
  · refine T_if_ne dX9_cornerCount_6 (t := 12) rfl (fun _ => ?_) (fun hc => absurd hc (by decide))
    refine T_aload_n dX9_cornerCount_12 rfl ?_
    refine T_iload_n dX9_cornerCount_13 rfl ?_
    refine T_iload_n dX9_cornerCount_14 rfl ?_
    refine T_iload_n dX9_cornerCount_15 rfl ?_
    have hor := k3a
    refine T_callV dX9_cornerCount_16 zkm_10_147 (Or.inl rfl) rfl o0 ⟨Nat.le_of_ble_eq_true rfl, rfl⟩ rfl (Nat.le_of_ble_eq_true rfl) ?_
    refine m_X9_computeOrder  hP hL hI hO hV hB hcl k3a (fun w16 hh16 pc_16 pb_16 pf_16 => ?_)
    obtain ⟨chf, crf, pi, ct, cmo, cfa, x0, x1, x2, x3, x4, x5, x6, x7⟩ := pb_16.open4
    have zf := zbas_facts (xs := P.2.2.1) (ys := P.2.2.2.1) (tie := t) hP.1 hP.2.1 hor.1.1.1 hor.1.1.2.2.1
    obtain ⟨o0, -⟩ := id pc_16
    refine T_aload_n dX9_cornerCount_19 rfl ?_
    refine T_getfield dX9_cornerCount_20 zkf_10_52 o0 rfl ?_
    refine T_getfield dX9_cornerCount_23 zkf_10_154 x0 rfl ?_
    refine T_iret dX9_cornerCount_26 rfl ?_
    have e : s_cc P u v t = ((pZ P u v t).2.1 : Int) := if_pos k3a
    rw [e] at hQ
    exact hQ hh16 pc_16 pf_16
  · refine T_if_ne dX9_cornerCount_6 (t := 12) rfl (fun hc => absurd hc (by decide)) (fun _ => ?_)
    refine T_bipush dX9_cornerCount_9 (by decide) ?_
    refine T_iret dX9_cornerCount_11 rfl ?_
    have e : s_cc P u v t = -2 := if_neg k3a_2
    rw [e] at hQ
    exact hQ h hcl (fun _ _ => rfl)
set_option maxHeartbeats 4000000 in
set_option maxRecDepth 100000 in
theorem m_X9_corner {n0 n k : Nat} {g : Nat → zV} {h : zHp} {Q : Option zV → Nat → Nat → zHp → Prop} {B lo : Nat} {P : pT} {L : lT} {I O : tT} {V : Int × pT} {nb vb N : Nat} {cb : Nat → Nat} {u v t i : Int} (hP : pwf P) (hL : lwf L) (hI : iwf I) (hO : owf O) (hV : vwf V) (hB : n0 ≤ B) (hcl : clAt h B lo n P L I O V nb cb vb N) (hQ : ∀  (h' : zHp), (clAt h' B lo n P L I O V nb cb vb N) → (∀ q : Nat, (q < B ∨ (B + 396 ≤ q ∧ q < lo)) → h' q = h q) → Q (some (.inl (s_co P u v t i))) n k h') : ZT n0 g mX9_corner 0 (zloc mX9_corner [.inr (some B), .inl u, .inl v, .inl t, .inl i]) [] n k h Q := by
  show ZT n0 g mX9_corner 0 [some (.inr (some B)), some (.inl u), some (.inl v), some (.inl t), some (.inl i), none] [] n k h Q
  obtain ⟨o0, gp, gc, gsp, gsc, gw, gf, gi, go, gl, gsep, hlo⟩ := id hcl
  have hpb := hP.bd
  have gvb := go.vb
  have gcb := gf.co.2.2.1
  refine T_iload_n dX9_corner_0 rfl ?_
  refine T_iload_n dX9_corner_1 rfl ?_
  refine T_iload_n dX9_corner_2 rfl ?_
  refine T_callS dX9_corner_3 zkm_10_143 ⟨Nat.le_of_ble_eq_true rfl, Nat.le_of_ble_eq_true rfl, rfl⟩ rfl (Nat.le_of_ble_eq_true rfl) ?_
  refine m_X9_isOrder   (fun k3a => ?_) (fun k3a_2 => ?_)
  · refine T_if_ne dX9_corner_6 (t := 12) rfl (fun _ => ?_) (fun hc => absurd hc (by decide))
    refine T_aload_n dX9_corner_12 rfl ?_
    refine T_iload_n dX9_corner_13 rfl ?_
    refine T_iload_n dX9_corner_14 rfl ?_
    refine T_iload_n dX9_corner_15 rfl ?_
    have hor := k3a
    refine T_callV dX9_corner_16 zkm_10_147 (Or.inl rfl) rfl o0 ⟨Nat.le_of_ble_eq_true rfl, rfl⟩ rfl (Nat.le_of_ble_eq_true rfl) ?_
    refine m_X9_computeOrder  hP hL hI hO hV hB hcl k3a (fun w16 hh16 pc_16 pb_16 pf_16 => ?_)
    obtain ⟨chf, crf, pi, ct, cmo, cfa, x0, x1, x2, x3, x4, x5, x6, x7⟩ := pb_16.open4
    have zf := zbas_facts (xs := P.2.2.1) (ys := P.2.2.2.1) (tie := t) hP.1 hP.2.1 hor.1.1.1 hor.1.1.2.2.1
    obtain ⟨o0, -⟩ := id pc_16
    refine T_aload_n dX9_corner_19 rfl ?_
    refine T_getfield dX9_corner_20 zkf_10_52 o0 rfl ?_
    refine T_iload dX9_corner_23 rfl ?_
    refine T_callV dX9_corner_25 zkm_10_155 (Or.inl rfl) rfl x0 ⟨Nat.le_of_ble_eq_true rfl, rfl⟩ rfl (Nat.le_of_ble_eq_true rfl) ?_
    refine m_X7_find x0 x2 zf.1 x4 (fun j25 k25a k25b => ?_) (fun k25a_2 => ?_)
    · refine T_astore dX9_corner_28 (Nat.le_of_ble_eq_true rfl) ?_
      refine T_aload dX9_corner_30 rfl ?_
      refine T_ifnonnull dX9_corner_32 (t := 39) rfl (fun _ _ => ?_) (fun hc => by cases hc)
      refine T_aload dX9_corner_39 rfl ?_
      have x9 := x5 j25 k25a
      refine T_getfield dX9_corner_41 zkf_10_159 x9 rfl ?_
      refine T_callS dX9_corner_44 zkm_10_164 ⟨Nat.le_of_ble_eq_true rfl, Nat.le_of_ble_eq_true rfl, rfl⟩ rfl (Nat.le_of_ble_eq_true rfl) ?_
      refine m_X9_decimalExponents (m := ((pZ P u v t).2.2.1 j25))  (zf.2.2.2 j25 k25a).1 ?_
      refine T_iret dX9_corner_47 rfl ?_
      have e : s_co P u v t i = zdec ((pZ P u v t).2.2.1 j25) := by unfold s_co; rw [if_pos k3a, if_pos (by omega), show i.toNat = j25 by omega]
      rw [e] at hQ
      exact hQ hh16 pc_16 pf_16
    · refine T_astore dX9_corner_28 (Nat.le_of_ble_eq_true rfl) ?_
      refine T_aload dX9_corner_30 rfl ?_
      refine T_ifnonnull dX9_corner_32 (t := 39) rfl (fun _ hc => by cases hc) (fun _ => ?_)
      refine T_iconst dX9_corner_35 (by decide) ?_
      refine T_goto dX9_corner_36 (t := 47) rfl ?_
      refine T_iret dX9_corner_47 rfl ?_
      have e : s_co P u v t i = -1 := by unfold s_co; rw [if_pos k3a, if_neg k25a_2]
      rw [e] at hQ
      exact hQ hh16 pc_16 pf_16
  · refine T_if_ne dX9_corner_6 (t := 12) rfl (fun hc => absurd hc (by decide)) (fun _ => ?_)
    refine T_bipush dX9_corner_9 (by decide) ?_
    refine T_iret dX9_corner_11 rfl ?_
    have e : s_co P u v t i = -2 := if_neg k3a_2
    rw [e] at hQ
    exact hQ h hcl (fun _ _ => rfl)
set_option maxHeartbeats 4000000 in
set_option maxRecDepth 100000 in
theorem m_X9_coneCount {n0 n k : Nat} {g : Nat → zV} {h : zHp} {Q : Option zV → Nat → Nat → zHp → Prop} {B lo : Nat} {P : pT} {L : lT} {I O : tT} {V : Int × pT} {nb vb N : Nat} {cb : Nat → Nat} (hP : pwf P) (hL : lwf L) (hI : iwf I) (hO : owf O) (hV : vwf V) (hB : n0 ≤ B) (hcl : clAt h B lo n P L I O V nb cb vb N) (hQ : ∀ (nb' : Nat) (cb' : Nat → Nat) (n' k' : Nat) (h' : zHp), (nb ≤ nb') → (n ≤ n' ∧ n' ≤ n + 15 * (nb' - nb)) → (k' ≤ k + 110 * (nb' - nb)) → (∀ i, i < nb → cb' i = cb i) → (clAt h' B lo n' P L I O V nb' cb' vb N) → (∀ q : Nat, (q < B ∨ (B + 396 ≤ q ∧ q < lo)) → h' q = h q) → Q (some (.inl (pN P : Int))) n' k' h') : ZT n0 g mX9_coneCount 0 (zloc mX9_coneCount [.inr (some B)]) [] n k h Q := by
  show ZT n0 g mX9_coneCount 0 [some (.inr (some B))] [] n k h Q
  obtain ⟨o0, gp, gc, gsp, gsc, gw, gf, gi, go, gl, gsep, hlo⟩ := id hcl
  have hpb := hP.bd
  have gvb := go.vb
  have gcb := gf.co.2.2.1
  obtain ⟨sz, f0, f1, f2⟩ := id gf
  refine T_aload_n dX9_coneCount_0 rfl ?_
  refine T_getfield dX9_coneCount_1 zkf_10_59 o0 rfl ?_
  refine T_aload_n dX9_coneCount_4 rfl ?_
  refine T_getfield dX9_coneCount_5 zkf_10_45 o0 rfl ?_
  refine T_aload_n dX9_coneCount_8 rfl ?_
  refine T_getfield dX9_coneCount_9 zkf_10_38 o0 rfl ?_
  refine T_callV dX9_coneCount_12 zkm_10_168 (Or.inl rfl) rfl f0 ⟨Nat.le_of_ble_eq_true rfl, rfl⟩ rfl (Nat.le_of_ble_eq_true rfl) ?_
  refine m_X2_refresh  hP hL hI hO hV hB hcl (fun nb'12 cb'12 n'12 k'12 hh12 k12a k12b k12c k12d pc_12 kn_12 pf_12 => ?_)
  obtain ⟨ke1, ke2, ke3⟩ := id kn_12
  obtain ⟨o0, -, -, -, -, -, gf9, -⟩ := id pc_12
  obtain ⟨cN44, ⟨cf, cf1, cf2⟩, -⟩ := gf9.co
  have hcf : ∀ i, i < pN P → cf i = some (cb'12 i) := fun i hi => cf2 i (by omega)
  have hNi := pN_is hP
  have hN1 := hNi.1
  have hN23 := hNi.2.1
  refine T_aload_n dX9_coneCount_15 rfl ?_
  refine T_getfield dX9_coneCount_16 zkf_10_59 o0 rfl ?_
  refine T_getfield dX9_coneCount_19 zkf_10_172 ke1 rfl ?_
  refine T_iret dX9_coneCount_22 rfl ?_
  exact hQ nb'12 cb'12 n'12 k'12 hh12 k12a k12b k12c k12d pc_12 pf_12
set_option maxHeartbeats 4000000 in
set_option maxRecDepth 100000 in
theorem m_X9_universalSize {n0 n k : Nat} {g : Nat → zV} {h : zHp} {Q : Option zV → Nat → Nat → zHp → Prop} {B lo : Nat} {P : pT} {L : lT} {I O : tT} {V : Int × pT} {nb vb N : Nat} {cb : Nat → Nat} (hP : pwf P) (hL : lwf L) (hI : iwf I) (hO : owf O) (hV : vwf V) (hB : n0 ≤ B) (hcl : clAt h B lo n P L I O V nb cb vb N) (hQ : ∀ (nb' : Nat) (cb' : Nat → Nat) (n' k' : Nat) (h' : zHp), (nb ≤ nb') → (n ≤ n' ∧ n' ≤ n + 15 * (nb' - nb)) → (k' ≤ k + 110 * (nb' - nb)) → (∀ i, i < nb → cb' i = cb i) → (clAt h' B lo n' P L I O V nb' cb' vb N) → (∀ q : Nat, (q < B ∨ (B + 396 ≤ q ∧ q < lo)) → h' q = h q) → Q (some (.inl (s_us P))) n' k' h') : ZT n0 g mX9_universalSize 0 (zloc mX9_universalSize [.inr (some B)]) [] n k h Q := by
  show ZT n0 g mX9_universalSize 0 [some (.inr (some B))] [] n k h Q
  obtain ⟨o0, gp, gc, gsp, gsc, gw, gf, gi, go, gl, gsep, hlo⟩ := id hcl
  have hpb := hP.bd
  have gvb := go.vb
  have gcb := gf.co.2.2.1
  obtain ⟨sz, f0, f1, f2⟩ := id gf
  refine T_aload_n dX9_universalSize_0 rfl ?_
  refine T_getfield dX9_universalSize_1 zkf_10_59 o0 rfl ?_
  refine T_aload_n dX9_universalSize_4 rfl ?_
  refine T_getfield dX9_universalSize_5 zkf_10_45 o0 rfl ?_
  refine T_aload_n dX9_universalSize_8 rfl ?_
  refine T_getfield dX9_universalSize_9 zkf_10_38 o0 rfl ?_
  refine T_callV dX9_universalSize_12 zkm_10_168 (Or.inl rfl) rfl f0 ⟨Nat.le_of_ble_eq_true rfl, rfl⟩ rfl (Nat.le_of_ble_eq_true rfl) ?_
  refine m_X2_refresh  hP hL hI hO hV hB hcl (fun nb'12 cb'12 n'12 k'12 hh12 k12a k12b k12c k12d pc_12 kn_12 pf_12 => ?_)
  obtain ⟨ke1, ke2, ke3⟩ := id kn_12
  obtain ⟨o0, -, -, -, -, -, gf9, -⟩ := id pc_12
  obtain ⟨cN44, ⟨cf, cf1, cf2⟩, -⟩ := gf9.co
  have hcf : ∀ i, i < pN P → cf i = some (cb'12 i) := fun i hi => cf2 i (by omega)
  have hNi := pN_is hP
  have hN1 := hNi.1
  have hN23 := hNi.2.1
  refine T_aload_n dX9_universalSize_15 rfl ?_
  refine T_getfield dX9_universalSize_16 zkf_10_59 o0 rfl ?_
  refine T_callV dX9_universalSize_19 zkm_10_209 (Or.inl rfl) rfl ke1 ⟨Nat.le_of_ble_eq_true rfl, rfl⟩ rfl (Nat.le_of_ble_eq_true rfl) ?_
  refine m_X2_countDistinctPolynomials (B := pB P) (W := pW P) ke1 cf1 (by omega) hcf ke3 (fun i _ => pB_facts hP i) ?_
  refine T_iret dX9_universalSize_22 rfl ?_
  exact hQ nb'12 cb'12 n'12 k'12 hh12 k12a k12b k12c k12d pc_12 pf_12
set_option maxHeartbeats 4000000 in
set_option maxRecDepth 100000 in
theorem m_X9_universalDegree {n0 n k : Nat} {g : Nat → zV} {h : zHp} {Q : Option zV → Nat → Nat → zHp → Prop} {B lo : Nat} {P : pT} {L : lT} {I O : tT} {V : Int × pT} {nb vb N : Nat} {cb : Nat → Nat} (hP : pwf P) (hL : lwf L) (hI : iwf I) (hO : owf O) (hV : vwf V) (hB : n0 ≤ B) (hcl : clAt h B lo n P L I O V nb cb vb N) (hQ : ∀ (nb' : Nat) (cb' : Nat → Nat) (n' k' : Nat) (h' : zHp), (nb ≤ nb') → (n ≤ n' ∧ n' ≤ n + 15 * (nb' - nb)) → (k' ≤ k + 110 * (nb' - nb)) → (∀ i, i < nb → cb' i = cb i) → (clAt h' B lo n' P L I O V nb' cb' vb N) → (∀ q : Nat, (q < B ∨ (B + 396 ≤ q ∧ q < lo)) → h' q = h q) → Q (some (.inl (s_ud P))) n' k' h') : ZT n0 g mX9_universalDegree 0 (zloc mX9_universalDegree [.inr (some B)]) [] n k h Q := by
  show ZT n0 g mX9_universalDegree 0 [some (.inr (some B))] [] n k h Q
  obtain ⟨o0, gp, gc, gsp, gsc, gw, gf, gi, go, gl, gsep, hlo⟩ := id hcl
  have hpb := hP.bd
  have gvb := go.vb
  have gcb := gf.co.2.2.1
  obtain ⟨sz, f0, f1, f2⟩ := id gf
  refine T_aload_n dX9_universalDegree_0 rfl ?_
  refine T_getfield dX9_universalDegree_1 zkf_10_59 o0 rfl ?_
  refine T_aload_n dX9_universalDegree_4 rfl ?_
  refine T_getfield dX9_universalDegree_5 zkf_10_45 o0 rfl ?_
  refine T_aload_n dX9_universalDegree_8 rfl ?_
  refine T_getfield dX9_universalDegree_9 zkf_10_38 o0 rfl ?_
  refine T_callV dX9_universalDegree_12 zkm_10_168 (Or.inl rfl) rfl f0 ⟨Nat.le_of_ble_eq_true rfl, rfl⟩ rfl (Nat.le_of_ble_eq_true rfl) ?_
  refine m_X2_refresh  hP hL hI hO hV hB hcl (fun nb'12 cb'12 n'12 k'12 hh12 k12a k12b k12c k12d pc_12 kn_12 pf_12 => ?_)
  obtain ⟨ke1, ke2, ke3⟩ := id kn_12
  obtain ⟨o0, -, -, -, -, -, gf9, -⟩ := id pc_12
  obtain ⟨cN44, ⟨cf, cf1, cf2⟩, -⟩ := gf9.co
  have hcf : ∀ i, i < pN P → cf i = some (cb'12 i) := fun i hi => cf2 i (by omega)
  have hNi := pN_is hP
  have hN1 := hNi.1
  have hN23 := hNi.2.1
  refine T_aload_n dX9_universalDegree_15 rfl ?_
  refine T_getfield dX9_universalDegree_16 zkf_10_59 o0 rfl ?_
  refine T_callV dX9_universalDegree_19 zkm_10_213 (Or.inl rfl) rfl ke1 ⟨Nat.le_of_ble_eq_true rfl, rfl⟩ rfl (Nat.le_of_ble_eq_true rfl) ?_
  refine m_X2_greatestDegree (B := pB P) (W := pW P) ke1 cf1 (by omega) hcf ke3 (fun i _ => pB_facts hP i) (fun g19 k19a => ?_)
  refine T_iret dX9_universalDegree_22 rfl ?_
  rw [← s_ud_eq k19a] at hQ
  exact hQ nb'12 cb'12 n'12 k'12 hh12 k12a k12b k12c k12d pc_12 pf_12
set_option maxHeartbeats 4000000 in
set_option maxRecDepth 100000 in
theorem m_X9_firstConeContaining {n0 n k : Nat} {g : Nat → zV} {h : zHp} {Q : Option zV → Nat → Nat → zHp → Prop} {B lo : Nat} {P : pT} {L : lT} {I O : tT} {V : Int × pT} {nb vb N : Nat} {cb : Nat → Nat} {u v : Int} (hP : pwf P) (hL : lwf L) (hI : iwf I) (hO : owf O) (hV : vwf V) (hB : n0 ≤ B) (hcl : clAt h B lo n P L I O V nb cb vb N) (hQ : ∀ (nb' : Nat) (cb' : Nat → Nat) (n' k' : Nat) (h' : zHp), (nb ≤ nb') → (n ≤ n' ∧ n' ≤ n + 15 * (nb' - nb)) → (k' ≤ k + 110 * (nb' - nb)) → (∀ i, i < nb → cb' i = cb i) → (clAt h' B lo n' P L I O V nb' cb' vb N) → (∀ q : Nat, (q < B ∨ (B + 396 ≤ q ∧ q < lo)) → h' q = h q) → Q (some (.inl (s_fi P u v))) n' k' h') : ZT n0 g mX9_firstConeContaining 0 (zloc mX9_firstConeContaining [.inr (some B), .inl u, .inl v]) [] n k h Q := by
  show ZT n0 g mX9_firstConeContaining 0 [some (.inr (some B)), some (.inl u), some (.inl v)] [] n k h Q
  obtain ⟨o0, gp, gc, gsp, gsc, gw, gf, gi, go, gl, gsep, hlo⟩ := id hcl
  have hpb := hP.bd
  have gvb := go.vb
  have gcb := gf.co.2.2.1
  obtain ⟨sz, f0, f1, f2⟩ := id gf
  refine T_iload_n dX9_firstConeContaining_0 rfl ?_
  refine T_iload_n dX9_firstConeContaining_1 rfl ?_
  refine T_callS dX9_firstConeContaining_2 zkm_10_186 ⟨Nat.le_of_ble_eq_true rfl, Nat.le_of_ble_eq_true rfl, rfl⟩ rfl (Nat.le_of_ble_eq_true rfl) ?_
  refine m_X9_isWeight   (fun k2a => ?_) (fun k2a_2 => ?_)
  · refine T_if_ne dX9_firstConeContaining_5 (t := 11) rfl (fun _ => ?_) (fun hc => absurd hc (by decide))
    refine T_aload_n dX9_firstConeContaining_11 rfl ?_
    refine T_getfield dX9_firstConeContaining_12 zkf_10_59 o0 rfl ?_
    refine T_aload_n dX9_firstConeContaining_15 rfl ?_
    refine T_getfield dX9_firstConeContaining_16 zkf_10_45 o0 rfl ?_
    refine T_aload_n dX9_firstConeContaining_19 rfl ?_
    refine T_getfield dX9_firstConeContaining_20 zkf_10_38 o0 rfl ?_
    refine T_callV dX9_firstConeContaining_23 zkm_10_168 (Or.inl rfl) rfl f0 ⟨Nat.le_of_ble_eq_true rfl, rfl⟩ rfl (Nat.le_of_ble_eq_true rfl) ?_
    refine m_X2_refresh  hP hL hI hO hV hB hcl (fun nb'23 cb'23 n'23 k'23 hh23 k23a k23b k23c k23d pc_23 kn_23 pf_23 => ?_)
    obtain ⟨ke1, ke2, ke3⟩ := id kn_23
    obtain ⟨o0, -, -, -, -, -, gf9, -⟩ := id pc_23
    obtain ⟨cN44, ⟨cf, cf1, cf2⟩, -⟩ := gf9.co
    have hcf : ∀ i, i < pN P → cf i = some (cb'23 i) := fun i hi => cf2 i (by omega)
    have hNi := pN_is hP
    have hN1 := hNi.1
    have hN23 := hNi.2.1
    refine T_aload_n dX9_firstConeContaining_26 rfl ?_
    refine T_getfield dX9_firstConeContaining_27 zkf_10_59 o0 rfl ?_
    refine T_iload_n dX9_firstConeContaining_30 rfl ?_
    refine T_iload_n dX9_firstConeContaining_31 rfl ?_
    refine T_callV dX9_firstConeContaining_32 zkm_10_189 (Or.inl rfl) rfl ke1 ⟨Nat.le_of_ble_eq_true rfl, rfl⟩ rfl (Nat.le_of_ble_eq_true rfl) ?_
    refine m_X2_firstWithin (B := pB P) (W := pW P) ke1 cf1 (by omega) hcf ke3 (fun i _ => pB_facts hP i) (fun i _ => pW_facts hP i) k2a.1 ⟨hN1, hNi.2.2.2⟩ (fun q32 k32a k32b k32c => ?_)
    refine T_iret dX9_firstConeContaining_35 rfl ?_
    have e9 : zfiw P u v = q32 := zfst_eq k32a (by rw [if_neg k32b]; decide) (fun i hi => if_pos (k32c i hi))
    have e : s_fi P u v = (q32 : Int) := by unfold s_fi; rw [if_pos k2a, e9]
    rw [e] at hQ
    exact hQ nb'23 cb'23 n'23 k'23 hh23 k23a k23b k23c k23d pc_23 pf_23
  · refine T_if_ne dX9_firstConeContaining_5 (t := 11) rfl (fun hc => absurd hc (by decide)) (fun _ => ?_)
    refine T_bipush dX9_firstConeContaining_8 (by decide) ?_
    refine T_iret dX9_firstConeContaining_10 rfl ?_
    have e : s_fi P u v = -2 := if_neg k2a_2
    rw [e] at hQ
    exact hQ nb cb n k h (Nat.le_refl _) ⟨Nat.le_refl _, by omega⟩ (by omega) (fun _ _ => rfl) hcl (fun _ _ => rfl)
set_option maxHeartbeats 4000000 in
set_option maxRecDepth 100000 in
theorem m_X9_wallNumerator {n0 n k : Nat} {g : Nat → zV} {h : zHp} {Q : Option zV → Nat → Nat → zHp → Prop} {B lo : Nat} {P : pT} {L : lT} {I O : tT} {V : Int × pT} {nb vb N : Nat} {cb : Nat → Nat} {i : Int} (hP : pwf P) (hL : lwf L) (hI : iwf I) (hO : owf O) (hV : vwf V) (hB : n0 ≤ B) (hcl : clAt h B lo n P L I O V nb cb vb N) (hQ : ∀ (nb' : Nat) (cb' : Nat → Nat) (n' k' : Nat) (h' : zHp), (nb ≤ nb') → (n ≤ n' ∧ n' ≤ n + 15 * (nb' - nb)) → (k' ≤ k + 110 * (nb' - nb)) → (∀ i, i < nb → cb' i = cb i) → (clAt h' B lo n' P L I O V nb' cb' vb N) → (∀ q : Nat, (q < B ∨ (B + 396 ≤ q ∧ q < lo)) → h' q = h q) → Q (some (.inl (s_w P Prod.fst i))) n' k' h') : ZT n0 g mX9_wallNumerator 0 (zloc mX9_wallNumerator [.inr (some B), .inl i]) [] n k h Q := by
  show ZT n0 g mX9_wallNumerator 0 [some (.inr (some B)), some (.inl i), none] [] n k h Q
  obtain ⟨o0, gp, gc, gsp, gsc, gw, gf, gi, go, gl, gsep, hlo⟩ := id hcl
  have hpb := hP.bd
  have gvb := go.vb
  have gcb := gf.co.2.2.1
  refine T_aload_n dX9_wallNumerator_0 rfl ?_
  refine T_iload_n dX9_wallNumerator_1 rfl ?_
  refine T_callV dX9_wallNumerator_2 zkm_10_173 (Or.inl rfl) rfl o0 ⟨Nat.le_of_ble_eq_true rfl, rfl⟩ rfl (Nat.le_of_ble_eq_true rfl) ?_
  refine m_X9_findCone  hP hL hI hO hV hB hcl (fun j2 nb'2 cb'2 n'2 k'2 hh2 k2a k2b k2c k2d k2e k2f pc_2 kn_2 pf_2 => ?_) (fun nb'2_2 cb'2_2 n'2_2 k'2_2 hh2 k2a_2 k2b_2 k2c_2 k2d_2 k2e_2 pc_2_2 kn_2_2 pf_2_2 => ?_)
  · obtain ⟨ke1, ke2, ke3⟩ := id kn_2
    obtain ⟨o0, -, -, -, -, -, gf9, -⟩ := id pc_2
    obtain ⟨cN44, ⟨cf, cf1, cf2⟩, -⟩ := gf9.co
    have hcf : ∀ i, i < pN P → cf i = some (cb'2 i) := fun i hi => cf2 i (by omega)
    have hNi := pN_is hP
    have hN1 := hNi.1
    have hN23 := hNi.2.1
    obtain ⟨hf, rf, pi, t, mo, fa, d0, d1, d2, d3, d4, d5, d6, d7⟩ := (ke3 j2 k2a).open4
    have dB := pB_facts hP j2
    refine T_astore_n dX9_wallNumerator_5 (Nat.le_of_ble_eq_true rfl) ?_
    refine T_aload_n dX9_wallNumerator_6 rfl ?_
    refine T_ifnonnull dX9_wallNumerator_7 (t := 12) rfl (fun _ _ => ?_) (fun hc => by cases hc)
    refine T_aload_n dX9_wallNumerator_12 rfl ?_
    refine T_callV dX9_wallNumerator_13 zkm_10_177 (Or.inl rfl) rfl d0 ⟨Nat.le_of_ble_eq_true rfl, rfl⟩ rfl (Nat.le_of_ble_eq_true rfl) ?_
    refine m_X7_hasWall d0  (fun k13a => ?_) (fun k13a_2 => ?_)
    · refine T_if_eq dX9_wallNumerator_16 (t := 26) rfl (fun hc => absurd hc (by decide)) (fun _ => ?_)
      refine T_aload_n dX9_wallNumerator_19 rfl ?_
      refine T_getfield dX9_wallNumerator_20 zkf_10_180 d0 rfl ?_
      refine T_goto dX9_wallNumerator_23 (t := 28) rfl ?_
      refine T_iret dX9_wallNumerator_28 rfl ?_
      have e : s_w P Prod.fst i = ((pW P j2).1 : Int) := by unfold s_w; rw [if_pos (by omega), show i.toNat = j2 by omega, if_neg (by omega)]
      rw [e] at hQ
      exact hQ nb'2 cb'2 n'2 k'2 hh2 k2c k2d k2e k2f pc_2 pf_2
    · refine T_if_eq dX9_wallNumerator_16 (t := 26) rfl (fun _ => ?_) (fun hc => absurd hc (by decide))
      refine T_bipush dX9_wallNumerator_26 (by decide) ?_
      refine T_iret dX9_wallNumerator_28 rfl ?_
      have e : s_w P Prod.fst i = -5 := by unfold s_w; rw [if_pos (by omega), show i.toNat = j2 by omega, if_pos (by omega)]
      rw [e] at hQ
      exact hQ nb'2 cb'2 n'2 k'2 hh2 k2c k2d k2e k2f pc_2 pf_2
  · obtain ⟨ke1, ke2, ke3⟩ := id kn_2_2
    obtain ⟨o0, -, -, -, -, -, gf9, -⟩ := id pc_2_2
    obtain ⟨cN44, ⟨cf, cf1, cf2⟩, -⟩ := gf9.co
    have hcf : ∀ i, i < pN P → cf i = some (cb'2_2 i) := fun i hi => cf2 i (by omega)
    have hNi := pN_is hP
    have hN1 := hNi.1
    have hN23 := hNi.2.1
    refine T_astore_n dX9_wallNumerator_5 (Nat.le_of_ble_eq_true rfl) ?_
    refine T_aload_n dX9_wallNumerator_6 rfl ?_
    refine T_ifnonnull dX9_wallNumerator_7 (t := 12) rfl (fun _ hc => by cases hc) (fun _ => ?_)
    refine T_iconst dX9_wallNumerator_10 (by decide) ?_
    refine T_iret dX9_wallNumerator_11 rfl ?_
    have e : s_w P Prod.fst i = -1 := if_neg k2a_2
    rw [e] at hQ
    exact hQ nb'2_2 cb'2_2 n'2_2 k'2_2 hh2 k2b_2 k2c_2 k2d_2 k2e_2 pc_2_2 pf_2_2
set_option maxHeartbeats 4000000 in
set_option maxRecDepth 100000 in
theorem m_X9_wallDenominator {n0 n k : Nat} {g : Nat → zV} {h : zHp} {Q : Option zV → Nat → Nat → zHp → Prop} {B lo : Nat} {P : pT} {L : lT} {I O : tT} {V : Int × pT} {nb vb N : Nat} {cb : Nat → Nat} {i : Int} (hP : pwf P) (hL : lwf L) (hI : iwf I) (hO : owf O) (hV : vwf V) (hB : n0 ≤ B) (hcl : clAt h B lo n P L I O V nb cb vb N) (hQ : ∀ (nb' : Nat) (cb' : Nat → Nat) (n' k' : Nat) (h' : zHp), (nb ≤ nb') → (n ≤ n' ∧ n' ≤ n + 15 * (nb' - nb)) → (k' ≤ k + 110 * (nb' - nb)) → (∀ i, i < nb → cb' i = cb i) → (clAt h' B lo n' P L I O V nb' cb' vb N) → (∀ q : Nat, (q < B ∨ (B + 396 ≤ q ∧ q < lo)) → h' q = h q) → Q (some (.inl (s_w P Prod.snd i))) n' k' h') : ZT n0 g mX9_wallDenominator 0 (zloc mX9_wallDenominator [.inr (some B), .inl i]) [] n k h Q := by
  show ZT n0 g mX9_wallDenominator 0 [some (.inr (some B)), some (.inl i), none] [] n k h Q
  obtain ⟨o0, gp, gc, gsp, gsc, gw, gf, gi, go, gl, gsep, hlo⟩ := id hcl
  have hpb := hP.bd
  have gvb := go.vb
  have gcb := gf.co.2.2.1
  refine T_aload_n dX9_wallDenominator_0 rfl ?_
  refine T_iload_n dX9_wallDenominator_1 rfl ?_
  refine T_callV dX9_wallDenominator_2 zkm_10_173 (Or.inl rfl) rfl o0 ⟨Nat.le_of_ble_eq_true rfl, rfl⟩ rfl (Nat.le_of_ble_eq_true rfl) ?_
  refine m_X9_findCone  hP hL hI hO hV hB hcl (fun j2 nb'2 cb'2 n'2 k'2 hh2 k2a k2b k2c k2d k2e k2f pc_2 kn_2 pf_2 => ?_) (fun nb'2_2 cb'2_2 n'2_2 k'2_2 hh2 k2a_2 k2b_2 k2c_2 k2d_2 k2e_2 pc_2_2 kn_2_2 pf_2_2 => ?_)
  · obtain ⟨ke1, ke2, ke3⟩ := id kn_2
    obtain ⟨o0, -, -, -, -, -, gf9, -⟩ := id pc_2
    obtain ⟨cN44, ⟨cf, cf1, cf2⟩, -⟩ := gf9.co
    have hcf : ∀ i, i < pN P → cf i = some (cb'2 i) := fun i hi => cf2 i (by omega)
    have hNi := pN_is hP
    have hN1 := hNi.1
    have hN23 := hNi.2.1
    obtain ⟨hf, rf, pi, t, mo, fa, d0, d1, d2, d3, d4, d5, d6, d7⟩ := (ke3 j2 k2a).open4
    have dB := pB_facts hP j2
    refine T_astore_n dX9_wallDenominator_5 (Nat.le_of_ble_eq_true rfl) ?_
    refine T_aload_n dX9_wallDenominator_6 rfl ?_
    refine T_ifnonnull dX9_wallDenominator_7 (t := 12) rfl (fun _ _ => ?_) (fun hc => by cases hc)
    refine T_aload_n dX9_wallDenominator_12 rfl ?_
    refine T_callV dX9_wallDenominator_13 zkm_10_177 (Or.inl rfl) rfl d0 ⟨Nat.le_of_ble_eq_true rfl, rfl⟩ rfl (Nat.le_of_ble_eq_true rfl) ?_
    refine m_X7_hasWall d0  (fun k13a => ?_) (fun k13a_2 => ?_)
    · refine T_if_eq dX9_wallDenominator_16 (t := 26) rfl (fun hc => absurd hc (by decide)) (fun _ => ?_)
      refine T_aload_n dX9_wallDenominator_19 rfl ?_
      refine T_getfield dX9_wallDenominator_20 zkf_10_183 d0 rfl ?_
      refine T_goto dX9_wallDenominator_23 (t := 28) rfl ?_
      refine T_iret dX9_wallDenominator_28 rfl ?_
      have e : s_w P Prod.snd i = ((pW P j2).2 : Int) := by unfold s_w; rw [if_pos (by omega), show i.toNat = j2 by omega, if_neg (by omega)]
      rw [e] at hQ
      exact hQ nb'2 cb'2 n'2 k'2 hh2 k2c k2d k2e k2f pc_2 pf_2
    · refine T_if_eq dX9_wallDenominator_16 (t := 26) rfl (fun _ => ?_) (fun hc => absurd hc (by decide))
      refine T_bipush dX9_wallDenominator_26 (by decide) ?_
      refine T_iret dX9_wallDenominator_28 rfl ?_
      have e : s_w P Prod.snd i = -5 := by unfold s_w; rw [if_pos (by omega), show i.toNat = j2 by omega, if_pos (by omega)]
      rw [e] at hQ
      exact hQ nb'2 cb'2 n'2 k'2 hh2 k2c k2d k2e k2f pc_2 pf_2
  · obtain ⟨ke1, ke2, ke3⟩ := id kn_2_2
    obtain ⟨o0, -, -, -, -, -, gf9, -⟩ := id pc_2_2
    obtain ⟨cN44, ⟨cf, cf1, cf2⟩, -⟩ := gf9.co
    have hcf : ∀ i, i < pN P → cf i = some (cb'2_2 i) := fun i hi => cf2 i (by omega)
    have hNi := pN_is hP
    have hN1 := hNi.1
    have hN23 := hNi.2.1
    refine T_astore_n dX9_wallDenominator_5 (Nat.le_of_ble_eq_true rfl) ?_
    refine T_aload_n dX9_wallDenominator_6 rfl ?_
    refine T_ifnonnull dX9_wallDenominator_7 (t := 12) rfl (fun _ hc => by cases hc) (fun _ => ?_)
    refine T_iconst dX9_wallDenominator_10 (by decide) ?_
    refine T_iret dX9_wallDenominator_11 rfl ?_
    have e : s_w P Prod.snd i = -1 := if_neg k2a_2
    rw [e] at hQ
    exact hQ nb'2_2 cb'2_2 n'2_2 k'2_2 hh2 k2b_2 k2c_2 k2d_2 k2e_2 pc_2_2 pf_2_2
set_option maxHeartbeats 4000000 in
set_option maxRecDepth 100000 in
theorem m_X9_basisSize {n0 n k : Nat} {g : Nat → zV} {h : zHp} {Q : Option zV → Nat → Nat → zHp → Prop} {B lo : Nat} {P : pT} {L : lT} {I O : tT} {V : Int × pT} {nb vb N : Nat} {cb : Nat → Nat} {i : Int} (hP : pwf P) (hL : lwf L) (hI : iwf I) (hO : owf O) (hV : vwf V) (hB : n0 ≤ B) (hcl : clAt h B lo n P L I O V nb cb vb N) (hQ : ∀ (nb' : Nat) (cb' : Nat → Nat) (n' k' : Nat) (h' : zHp), (nb ≤ nb') → (n ≤ n' ∧ n' ≤ n + 15 * (nb' - nb)) → (k' ≤ k + 110 * (nb' - nb)) → (∀ i, i < nb → cb' i = cb i) → (clAt h' B lo n' P L I O V nb' cb' vb N) → (∀ q : Nat, (q < B ∨ (B + 396 ≤ q ∧ q < lo)) → h' q = h q) → Q (some (.inl (s_bs P i))) n' k' h') : ZT n0 g mX9_basisSize 0 (zloc mX9_basisSize [.inr (some B), .inl i]) [] n k h Q := by
  show ZT n0 g mX9_basisSize 0 [some (.inr (some B)), some (.inl i), none] [] n k h Q
  obtain ⟨o0, gp, gc, gsp, gsc, gw, gf, gi, go, gl, gsep, hlo⟩ := id hcl
  have hpb := hP.bd
  have gvb := go.vb
  have gcb := gf.co.2.2.1
  refine T_aload_n dX9_basisSize_0 rfl ?_
  refine T_iload_n dX9_basisSize_1 rfl ?_
  refine T_callV dX9_basisSize_2 zkm_10_173 (Or.inl rfl) rfl o0 ⟨Nat.le_of_ble_eq_true rfl, rfl⟩ rfl (Nat.le_of_ble_eq_true rfl) ?_
  refine m_X9_findCone  hP hL hI hO hV hB hcl (fun j2 nb'2 cb'2 n'2 k'2 hh2 k2a k2b k2c k2d k2e k2f pc_2 kn_2 pf_2 => ?_) (fun nb'2_2 cb'2_2 n'2_2 k'2_2 hh2 k2a_2 k2b_2 k2c_2 k2d_2 k2e_2 pc_2_2 kn_2_2 pf_2_2 => ?_)
  · obtain ⟨ke1, ke2, ke3⟩ := id kn_2
    obtain ⟨o0, -, -, -, -, -, gf9, -⟩ := id pc_2
    obtain ⟨cN44, ⟨cf, cf1, cf2⟩, -⟩ := gf9.co
    have hcf : ∀ i, i < pN P → cf i = some (cb'2 i) := fun i hi => cf2 i (by omega)
    have hNi := pN_is hP
    have hN1 := hNi.1
    have hN23 := hNi.2.1
    obtain ⟨hf, rf, pi, t, mo, fa, d0, d1, d2, d3, d4, d5, d6, d7⟩ := (ke3 j2 k2a).open4
    have dB := pB_facts hP j2
    refine T_astore_n dX9_basisSize_5 (Nat.le_of_ble_eq_true rfl) ?_
    refine T_aload_n dX9_basisSize_6 rfl ?_
    refine T_ifnonnull dX9_basisSize_7 (t := 14) rfl (fun _ _ => ?_) (fun hc => by cases hc)
    refine T_aload_n dX9_basisSize_14 rfl ?_
    refine T_getfield dX9_basisSize_15 zkf_10_154 d0 rfl ?_
    refine T_iret dX9_basisSize_18 rfl ?_
    have e : s_bs P i = ((pB P j2).2.1 : Int) := by unfold s_bs; rw [if_pos (by omega), show i.toNat = j2 by omega]
    rw [e] at hQ
    exact hQ nb'2 cb'2 n'2 k'2 hh2 k2c k2d k2e k2f pc_2 pf_2
  · obtain ⟨ke1, ke2, ke3⟩ := id kn_2_2
    obtain ⟨o0, -, -, -, -, -, gf9, -⟩ := id pc_2_2
    obtain ⟨cN44, ⟨cf, cf1, cf2⟩, -⟩ := gf9.co
    have hcf : ∀ i, i < pN P → cf i = some (cb'2_2 i) := fun i hi => cf2 i (by omega)
    have hNi := pN_is hP
    have hN1 := hNi.1
    have hN23 := hNi.2.1
    refine T_astore_n dX9_basisSize_5 (Nat.le_of_ble_eq_true rfl) ?_
    refine T_aload_n dX9_basisSize_6 rfl ?_
    refine T_ifnonnull dX9_basisSize_7 (t := 14) rfl (fun _ hc => by cases hc) (fun _ => ?_)
    refine T_iconst dX9_basisSize_10 (by decide) ?_
    refine T_goto dX9_basisSize_11 (t := 18) rfl ?_
    refine T_iret dX9_basisSize_18 rfl ?_
    have e : s_bs P i = -1 := if_neg k2a_2
    rw [e] at hQ
    exact hQ nb'2_2 cb'2_2 n'2_2 k'2_2 hh2 k2b_2 k2c_2 k2d_2 k2e_2 pc_2_2 pf_2_2
set_option maxHeartbeats 4000000 in
set_option maxRecDepth 100000 in
theorem m_X9_coneHeight {n0 n k : Nat} {g : Nat → zV} {h : zHp} {Q : Option zV → Nat → Nat → zHp → Prop} {B lo : Nat} {P : pT} {L : lT} {I O : tT} {V : Int × pT} {nb vb N : Nat} {cb : Nat → Nat} {i c : Int} (hP : pwf P) (hL : lwf L) (hI : iwf I) (hO : owf O) (hV : vwf V) (hB : n0 ≤ B) (hcl : clAt h B lo n P L I O V nb cb vb N) (hQ : ∀ (nb' : Nat) (cb' : Nat → Nat) (n' k' : Nat) (h' : zHp), (nb ≤ nb') → (n ≤ n' ∧ n' ≤ n + 15 * (nb' - nb)) → (k' ≤ k + 110 * (nb' - nb)) → (∀ i, i < nb → cb' i = cb i) → (clAt h' B lo n' P L I O V nb' cb' vb N) → (∀ q : Nat, (q < B ∨ (B + 396 ≤ q ∧ q < lo)) → h' q = h q) → Q (some (.inl (s_ht P i c))) n' k' h') : ZT n0 g mX9_coneHeight 0 (zloc mX9_coneHeight [.inr (some B), .inl i, .inl c]) [] n k h Q := by
  show ZT n0 g mX9_coneHeight 0 [some (.inr (some B)), some (.inl i), some (.inl c), none] [] n k h Q
  obtain ⟨o0, gp, gc, gsp, gsc, gw, gf, gi, go, gl, gsep, hlo⟩ := id hcl
  have hpb := hP.bd
  have gvb := go.vb
  have gcb := gf.co.2.2.1
  refine T_aload_n dX9_coneHeight_0 rfl ?_
  refine T_iload_n dX9_coneHeight_1 rfl ?_
  refine T_callV dX9_coneHeight_2 zkm_10_173 (Or.inl rfl) rfl o0 ⟨Nat.le_of_ble_eq_true rfl, rfl⟩ rfl (Nat.le_of_ble_eq_true rfl) ?_
  refine m_X9_findCone  hP hL hI hO hV hB hcl (fun j2 nb'2 cb'2 n'2 k'2 hh2 k2a k2b k2c k2d k2e k2f pc_2 kn_2 pf_2 => ?_) (fun nb'2_2 cb'2_2 n'2_2 k'2_2 hh2 k2a_2 k2b_2 k2c_2 k2d_2 k2e_2 pc_2_2 kn_2_2 pf_2_2 => ?_)
  · obtain ⟨ke1, ke2, ke3⟩ := id kn_2
    obtain ⟨o0, -, -, -, -, -, gf9, -⟩ := id pc_2
    obtain ⟨cN44, ⟨cf, cf1, cf2⟩, -⟩ := gf9.co
    have hcf : ∀ i, i < pN P → cf i = some (cb'2 i) := fun i hi => cf2 i (by omega)
    have hNi := pN_is hP
    have hN1 := hNi.1
    have hN23 := hNi.2.1
    obtain ⟨hf, rf, pi, t, mo, fa, d0, d1, d2, d3, d4, d5, d6, d7⟩ := (ke3 j2 k2a).open4
    have dB := pB_facts hP j2
    refine T_astore_n dX9_coneHeight_5 (Nat.le_of_ble_eq_true rfl) ?_
    refine T_aload_n dX9_coneHeight_6 rfl ?_
    refine T_ifnull dX9_coneHeight_7 (t := 17) rfl (fun hc => by cases hc) (fun _ _ => ?_)
    refine T_iload_n dX9_coneHeight_10 rfl ?_
    refine T_callS dX9_coneHeight_11 zkm_10_140 ⟨Nat.le_of_ble_eq_true rfl, Nat.le_of_ble_eq_true rfl, rfl⟩ rfl (Nat.le_of_ble_eq_true rfl) ?_
    refine m_X9_isExponent   (fun k11a => ?_) (fun k11a_2 => ?_)
    · refine T_if_ne dX9_coneHeight_14 (t := 19) rfl (fun _ => ?_) (fun hc => absurd hc (by decide))
      refine T_aload_n dX9_coneHeight_19 rfl ?_
      refine T_getfield dX9_coneHeight_20 zkf_10_151 d0 rfl ?_
      obtain ⟨y, rfl⟩ := Int.eq_ofNat_of_zero_le k11a.1
      refine T_iload_n dX9_coneHeight_23 rfl ?_
      refine T_ialoadN (m := y) dX9_coneHeight_24 d1 rfl (by omega) ?_
      refine T_iret dX9_coneHeight_25 rfl ?_
      have e : s_ht P i (y : Int) = hf y := by unfold s_ht; rw [if_pos ⟨by omega, k11a⟩, show i.toNat = j2 by omega, Int.toNat_natCast]; exact (d3 y (by omega)).symm
      rw [e] at hQ
      exact hQ nb'2 cb'2 n'2 k'2 hh2 k2c k2d k2e k2f pc_2 pf_2
    · refine T_if_ne dX9_coneHeight_14 (t := 19) rfl (fun hc => absurd hc (by decide)) (fun _ => ?_)
      refine T_iconst dX9_coneHeight_17 (by decide) ?_
      refine T_iret dX9_coneHeight_18 rfl ?_
      have e : s_ht P i c = -1 := if_neg (fun q => k11a_2 q.2)
      rw [e] at hQ
      exact hQ nb'2 cb'2 n'2 k'2 hh2 k2c k2d k2e k2f pc_2 pf_2
  · obtain ⟨ke1, ke2, ke3⟩ := id kn_2_2
    obtain ⟨o0, -, -, -, -, -, gf9, -⟩ := id pc_2_2
    obtain ⟨cN44, ⟨cf, cf1, cf2⟩, -⟩ := gf9.co
    have hcf : ∀ i, i < pN P → cf i = some (cb'2_2 i) := fun i hi => cf2 i (by omega)
    have hNi := pN_is hP
    have hN1 := hNi.1
    have hN23 := hNi.2.1
    refine T_astore_n dX9_coneHeight_5 (Nat.le_of_ble_eq_true rfl) ?_
    refine T_aload_n dX9_coneHeight_6 rfl ?_
    refine T_ifnull dX9_coneHeight_7 (t := 17) rfl (fun _ => ?_) (fun _ hc => by cases hc)
    refine T_iconst dX9_coneHeight_17 (by decide) ?_
    refine T_iret dX9_coneHeight_18 rfl ?_
    have e : s_ht P i c = -1 := if_neg (fun q => k2a_2 q.1)
    rw [e] at hQ
    exact hQ nb'2_2 cb'2_2 n'2_2 k'2_2 hh2 k2b_2 k2c_2 k2d_2 k2e_2 pc_2_2 pf_2_2
set_option maxHeartbeats 4000000 in
set_option maxRecDepth 100000 in
theorem m_X9_conesContaining {n0 n k : Nat} {g : Nat → zV} {h : zHp} {Q : Option zV → Nat → Nat → zHp → Prop} {B lo : Nat} {P : pT} {L : lT} {I O : tT} {V : Int × pT} {nb vb N : Nat} {cb : Nat → Nat} {u v : Int} (hP : pwf P) (hL : lwf L) (hI : iwf I) (hO : owf O) (hV : vwf V) (hB : n0 ≤ B) (hcl : clAt h B lo n P L I O V nb cb vb N) (hQ : ∀ (nb' : Nat) (cb' : Nat → Nat) (n' k' : Nat) (h' : zHp), (nb ≤ nb') → (n ≤ n' ∧ n' ≤ n + 15 * (nb' - nb)) → (k' ≤ k + 110 * (nb' - nb)) → (∀ i, i < nb → cb' i = cb i) → (clAt h' B lo n' P L I O V nb' cb' vb N) → (∀ q : Nat, (q < B ∨ (B + 396 ≤ q ∧ q < lo)) → h' q = h q) → Q (some (.inl (s_mn P u v))) n' k' h') : ZT n0 g mX9_conesContaining 0 (zloc mX9_conesContaining [.inr (some B), .inl u, .inl v]) [] n k h Q := by
  show ZT n0 g mX9_conesContaining 0 [some (.inr (some B)), some (.inl u), some (.inl v), none] [] n k h Q
  obtain ⟨o0, gp, gc, gsp, gsc, gw, gf, gi, go, gl, gsep, hlo⟩ := id hcl
  have hpb := hP.bd
  have gvb := go.vb
  have gcb := gf.co.2.2.1
  obtain ⟨sz, f0, f1, f2⟩ := id gf
  refine T_iload_n dX9_conesContaining_0 rfl ?_
  refine T_iload_n dX9_conesContaining_1 rfl ?_
  refine T_callS dX9_conesContaining_2 zkm_10_186 ⟨Nat.le_of_ble_eq_true rfl, Nat.le_of_ble_eq_true rfl, rfl⟩ rfl (Nat.le_of_ble_eq_true rfl) ?_
  refine m_X9_isWeight   (fun k2a => ?_) (fun k2a_2 => ?_)
  · refine T_if_ne dX9_conesContaining_5 (t := 11) rfl (fun _ => ?_) (fun hc => absurd hc (by decide))
    refine T_aload_n dX9_conesContaining_11 rfl ?_
    refine T_getfield dX9_conesContaining_12 zkf_10_59 o0 rfl ?_
    refine T_aload_n dX9_conesContaining_15 rfl ?_
    refine T_getfield dX9_conesContaining_16 zkf_10_45 o0 rfl ?_
    refine T_aload_n dX9_conesContaining_19 rfl ?_
    refine T_getfield dX9_conesContaining_20 zkf_10_38 o0 rfl ?_
    refine T_callV dX9_conesContaining_23 zkm_10_168 (Or.inl rfl) rfl f0 ⟨Nat.le_of_ble_eq_true rfl, rfl⟩ rfl (Nat.le_of_ble_eq_true rfl) ?_
    refine m_X2_refresh  hP hL hI hO hV hB hcl (fun nb'23 cb'23 n'23 k'23 hh23 k23a k23b k23c k23d pc_23 kn_23 pf_23 => ?_)
    obtain ⟨ke1, ke2, ke3⟩ := id kn_23
    obtain ⟨o0, -, -, -, -, -, gf9, -⟩ := id pc_23
    obtain ⟨cN44, ⟨cf, cf1, cf2⟩, -⟩ := gf9.co
    have hcf : ∀ i, i < pN P → cf i = some (cb'23 i) := fun i hi => cf2 i (by omega)
    have hNi := pN_is hP
    have hN1 := hNi.1
    have hN23 := hNi.2.1
    refine T_aload_n dX9_conesContaining_26 rfl ?_
    refine T_getfield dX9_conesContaining_27 zkf_10_59 o0 rfl ?_
    refine T_aload_n dX9_conesContaining_30 rfl ?_
    refine T_getfield dX9_conesContaining_31 zkf_10_59 o0 rfl ?_
    refine T_iload_n dX9_conesContaining_34 rfl ?_
    refine T_iload_n dX9_conesContaining_35 rfl ?_
    refine T_callV dX9_conesContaining_36 zkm_10_189 (Or.inl rfl) rfl ke1 ⟨Nat.le_of_ble_eq_true rfl, rfl⟩ rfl (Nat.le_of_ble_eq_true rfl) ?_
    refine m_X2_firstWithin (B := pB P) (W := pW P) ke1 cf1 (by omega) hcf ke3 (fun i _ => pB_facts hP i) (fun i _ => pW_facts hP i) k2a.1 ⟨hN1, hNi.2.2.2⟩ (fun q36 k36a k36b k36c => ?_)
    have e9 : zfiw P u v = q36 := zfst_eq k36a (by rw [if_neg k36b]; decide) (fun i hi => if_pos (k36c i hi))
    refine T_callV dX9_conesContaining_39 zkm_10_193 (Or.inl rfl) rfl ke1 ⟨Nat.le_of_ble_eq_true rfl, rfl⟩ rfl (Nat.le_of_ble_eq_true rfl) ?_
    refine m_X2_find (cb := cb'23) ke1 cf1 (by omega) hcf (fun j39 k39a k39b => ?_) (fun k39a_2 => absurd (by omega : 0 ≤ (q36 : Int) ∧ (q36 : Int) < (pN P : Int)) k39a_2)
    obtain ⟨hf, rf, pi, t, mo, fa, d0, d1, d2, d3, d4, d5, d6, d7⟩ := (ke3 j39 k39a).open4
    have dB := pB_facts hP j39
    refine T_astore_n dX9_conesContaining_42 (Nat.le_of_ble_eq_true rfl) ?_
    refine T_aload_n dX9_conesContaining_43 rfl ?_
    refine T_ifnull dX9_conesContaining_44 (t := 60) rfl (fun hc => by cases hc) (fun _ _ => ?_)
    refine T_aload_n dX9_conesContaining_47 rfl ?_
    refine T_iload_n dX9_conesContaining_48 rfl ?_
    refine T_iload_n dX9_conesContaining_49 rfl ?_
    refine T_callV dX9_conesContaining_50 zkm_10_195 (Or.inl rfl) rfl d0 ⟨Nat.le_of_ble_eq_true rfl, rfl⟩ rfl (Nat.le_of_ble_eq_true rfl) ?_
    refine m_X7_hasOnWall d0 (by have := pW_facts hP j39; omega) k2a.1 (fun k50a => ?_) (fun k50a_2 => ?_)
    · refine T_if_eq dX9_conesContaining_53 (t := 60) rfl (fun hc => absurd hc (by decide)) (fun _ => ?_)
      refine T_iconst dX9_conesContaining_56 (by decide) ?_
      refine T_goto dX9_conesContaining_57 (t := 61) rfl ?_
      refine T_iret dX9_conesContaining_61 rfl ?_
      have ej : j39 = q36 := by omega
      subst ej
      have e : s_mn P u v = 2 := by unfold s_mn; rw [if_pos k2a, e9, if_pos ⟨fun q => k50a.1 (by rw [q]; rfl), k50a.2⟩]
      rw [e] at hQ
      exact hQ nb'23 cb'23 n'23 k'23 hh23 k23a k23b k23c k23d pc_23 pf_23
    · refine T_if_eq dX9_conesContaining_53 (t := 60) rfl (fun _ => ?_) (fun hc => absurd hc (by decide))
      refine T_iconst dX9_conesContaining_60 (by decide) ?_
      refine T_iret dX9_conesContaining_61 rfl ?_
      have ej : j39 = q36 := by omega
      subst ej
      have e : s_mn P u v = 1 := by unfold s_mn; rw [if_pos k2a, e9, if_neg (fun q => k50a_2 ⟨fun r => q.1 (by omega), q.2⟩)]
      rw [e] at hQ
      exact hQ nb'23 cb'23 n'23 k'23 hh23 k23a k23b k23c k23d pc_23 pf_23
  · refine T_if_ne dX9_conesContaining_5 (t := 11) rfl (fun hc => absurd hc (by decide)) (fun _ => ?_)
    refine T_bipush dX9_conesContaining_8 (by decide) ?_
    refine T_iret dX9_conesContaining_10 rfl ?_
    have e : s_mn P u v = -2 := if_neg k2a_2
    rw [e] at hQ
    exact hQ nb cb n k h (Nat.le_refl _) ⟨Nat.le_refl _, by omega⟩ (by omega) (fun _ _ => rfl) hcl (fun _ _ => rfl)
set_option maxHeartbeats 4000000 in
set_option maxRecDepth 100000 in
theorem m_X9_basisCorner {n0 n k : Nat} {g : Nat → zV} {h : zHp} {Q : Option zV → Nat → Nat → zHp → Prop} {B lo : Nat} {P : pT} {L : lT} {I O : tT} {V : Int × pT} {nb vb N : Nat} {cb : Nat → Nat} {i x : Int} (hP : pwf P) (hL : lwf L) (hI : iwf I) (hO : owf O) (hV : vwf V) (hB : n0 ≤ B) (hcl : clAt h B lo n P L I O V nb cb vb N) (hQ : ∀ (nb' : Nat) (cb' : Nat → Nat) (n' k' : Nat) (h' : zHp), (nb ≤ nb') → (n ≤ n' ∧ n' ≤ n + 15 * (nb' - nb)) → (k' ≤ k + 110 * (nb' - nb)) → (∀ i, i < nb → cb' i = cb i) → (clAt h' B lo n' P L I O V nb' cb' vb N) → (∀ q : Nat, (q < B ∨ (B + 396 ≤ q ∧ q < lo)) → h' q = h q) → Q (some (.inl (s_bc P i x))) n' k' h') : ZT n0 g mX9_basisCorner 0 (zloc mX9_basisCorner [.inr (some B), .inl i, .inl x]) [] n k h Q := by
  show ZT n0 g mX9_basisCorner 0 [some (.inr (some B)), some (.inl i), some (.inl x), none] [] n k h Q
  obtain ⟨o0, gp, gc, gsp, gsc, gw, gf, gi, go, gl, gsep, hlo⟩ := id hcl
  have hpb := hP.bd
  have gvb := go.vb
  have gcb := gf.co.2.2.1
  refine T_aload_n dX9_basisCorner_0 rfl ?_
  refine T_iload_n dX9_basisCorner_1 rfl ?_
  refine T_iload_n dX9_basisCorner_2 rfl ?_
  refine T_callV dX9_basisCorner_3 zkm_10_198 (Or.inl rfl) rfl o0 ⟨Nat.le_of_ble_eq_true rfl, rfl⟩ rfl (Nat.le_of_ble_eq_true rfl) ?_
  refine m_X9_findBasisPolynomial  hP hL hI hO hV hB hcl (fun j3 q3 ad3 t3 mo3 fa3 nb'3 cb'3 n'3 k'3 hh3 k3a k3b k3c k3d k3e k3f k3g k3h pc_3 kn_3 pf_3 po_3 adok_3 => ?_) (fun nb'3_2 cb'3_2 n'3_2 k'3_2 hh3 k3a_2 k3b_2 k3c_2 k3d_2 k3e_2 pc_3_2 kn_3_2 pf_3_2 => ?_)
  · obtain ⟨⟨r0, r1, r2, r3⟩, r4⟩ := po_3
    have dB := pB_facts hP j3
    refine T_astore_n dX9_basisCorner_6 (Nat.le_of_ble_eq_true rfl) ?_
    refine T_aload_n dX9_basisCorner_7 rfl ?_
    refine T_ifnonnull dX9_basisCorner_8 (t := 15) rfl (fun _ _ => ?_) (fun hc => by cases hc)
    refine T_aload_n dX9_basisCorner_15 rfl ?_
    refine T_getfield dX9_basisCorner_16 zkf_10_159 r0 rfl ?_
    refine T_callS dX9_basisCorner_19 zkm_10_164 ⟨Nat.le_of_ble_eq_true rfl, Nat.le_of_ble_eq_true rfl, rfl⟩ rfl (Nat.le_of_ble_eq_true rfl) ?_
    refine m_X9_decimalExponents (m := ((pB P j3).2.2.1 q3))  (dB.2.2 q3 k3c) ?_
    refine T_iret dX9_basisCorner_22 rfl ?_
    have e : s_bc P i x = zdec ((pB P j3).2.2.1 q3) := by
      have e9 : i.toNat = j3 := by omega
      have e8 : x.toNat = q3 := by omega
      unfold s_bc; rw [if_pos (by rw [sBas, e9]; omega), e9, e8]
    rw [e] at hQ
    exact hQ nb'3 cb'3 n'3 k'3 hh3 k3e k3f k3g k3h pc_3 pf_3
  · refine T_astore_n dX9_basisCorner_6 (Nat.le_of_ble_eq_true rfl) ?_
    refine T_aload_n dX9_basisCorner_7 rfl ?_
    refine T_ifnonnull dX9_basisCorner_8 (t := 15) rfl (fun _ hc => by cases hc) (fun _ => ?_)
    refine T_iconst dX9_basisCorner_11 (by decide) ?_
    refine T_goto dX9_basisCorner_12 (t := 22) rfl ?_
    refine T_iret dX9_basisCorner_22 rfl ?_
    have e : s_bc P i x = -1 := if_neg k3a_2
    rw [e] at hQ
    exact hQ nb'3_2 cb'3_2 n'3_2 k'3_2 hh3 k3b_2 k3c_2 k3d_2 k3e_2 pc_3_2 pf_3_2
set_option maxHeartbeats 4000000 in
set_option maxRecDepth 100000 in
theorem m_X9_basisCoefficient {n0 n k : Nat} {g : Nat → zV} {h : zHp} {Q : Option zV → Nat → Nat → zHp → Prop} {B lo : Nat} {P : pT} {L : lT} {I O : tT} {V : Int × pT} {nb vb N : Nat} {cb : Nat → Nat} {i x a c : Int} (hP : pwf P) (hL : lwf L) (hI : iwf I) (hO : owf O) (hV : vwf V) (hB : n0 ≤ B) (hcl : clAt h B lo n P L I O V nb cb vb N) (hQ : ∀ (nb' : Nat) (cb' : Nat → Nat) (n' k' : Nat) (h' : zHp), (nb ≤ nb') → (n ≤ n' ∧ n' ≤ n + 15 * (nb' - nb)) → (k' ≤ k + 110 * (nb' - nb)) → (∀ i, i < nb → cb' i = cb i) → (clAt h' B lo n' P L I O V nb' cb' vb N) → (∀ q : Nat, (q < B ∨ (B + 396 ≤ q ∧ q < lo)) → h' q = h q) → Q (some (.inl (s_bf P i x a c))) n' k' h') : ZT n0 g mX9_basisCoefficient 0 (zloc mX9_basisCoefficient [.inr (some B), .inl i, .inl x, .inl a, .inl c]) [] n k h Q := by
  show ZT n0 g mX9_basisCoefficient 0 [some (.inr (some B)), some (.inl i), some (.inl x), some (.inl a), some (.inl c), none] [] n k h Q
  obtain ⟨o0, gp, gc, gsp, gsc, gw, gf, gi, go, gl, gsep, hlo⟩ := id hcl
  have hpb := hP.bd
  have gvb := go.vb
  have gcb := gf.co.2.2.1
  refine T_aload_n dX9_basisCoefficient_0 rfl ?_
  refine T_iload_n dX9_basisCoefficient_1 rfl ?_
  refine T_iload_n dX9_basisCoefficient_2 rfl ?_
  refine T_callV dX9_basisCoefficient_3 zkm_10_198 (Or.inl rfl) rfl o0 ⟨Nat.le_of_ble_eq_true rfl, rfl⟩ rfl (Nat.le_of_ble_eq_true rfl) ?_
  refine m_X9_findBasisPolynomial  hP hL hI hO hV hB hcl (fun j3 q3 ad3 t3 mo3 fa3 nb'3 cb'3 n'3 k'3 hh3 k3a k3b k3c k3d k3e k3f k3g k3h pc_3 kn_3 pf_3 po_3 adok_3 => ?_) (fun nb'3_2 cb'3_2 n'3_2 k'3_2 hh3 k3a_2 k3b_2 k3c_2 k3d_2 k3e_2 pc_3_2 kn_3_2 pf_3_2 => ?_)
  · obtain ⟨⟨r0, r1, r2, r3⟩, r4⟩ := po_3
    have dB := pB_facts hP j3
    refine T_astore dX9_basisCoefficient_6 (Nat.le_of_ble_eq_true rfl) ?_
    refine T_aload dX9_basisCoefficient_8 rfl ?_
    refine T_ifnull dX9_basisCoefficient_10 (t := 28) rfl (fun hc => by cases hc) (fun _ _ => ?_)
    refine T_iload_n dX9_basisCoefficient_13 rfl ?_
    refine T_callS dX9_basisCoefficient_14 zkm_10_140 ⟨Nat.le_of_ble_eq_true rfl, Nat.le_of_ble_eq_true rfl, rfl⟩ rfl (Nat.le_of_ble_eq_true rfl) ?_
    refine m_X9_isExponent   (fun k14a => ?_) (fun k14a_2 => ?_)
    · refine T_if_eq dX9_basisCoefficient_17 (t := 28) rfl (fun hc => absurd hc (by decide)) (fun _ => ?_)
      refine T_iload dX9_basisCoefficient_20 rfl ?_
      refine T_callS dX9_basisCoefficient_22 zkm_10_140 ⟨Nat.le_of_ble_eq_true rfl, Nat.le_of_ble_eq_true rfl, rfl⟩ rfl (Nat.le_of_ble_eq_true rfl) ?_
      refine m_X9_isExponent   (fun k22a => ?_) (fun k22a_2 => ?_)
      · refine T_if_ne dX9_basisCoefficient_25 (t := 30) rfl (fun _ => ?_) (fun hc => absurd hc (by decide))
        refine T_aload dX9_basisCoefficient_30 rfl ?_
        refine T_bipush dX9_basisCoefficient_32 (by decide) ?_
        obtain ⟨a9, rfl⟩ := Int.eq_ofNat_of_zero_le k14a.1
        obtain ⟨c9, rfl⟩ := Int.eq_ofNat_of_zero_le k22a.1
        have e9 : i.toNat = j3 := by omega
        have e8 : x.toNat = q3 := by omega
        have eb : s_bf P i x (a9 : Int) (c9 : Int) = (pB P j3).2.2.2 q3 (9 * a9 + c9) := by unfold s_bf; rw [if_pos ⟨by rw [sBas, e9]; omega, k14a, k22a⟩, e9, e8, Int.toNat_natCast, Int.toNat_natCast]
        refine T_iload_n dX9_basisCoefficient_34 rfl ?_
        refine T_imul dX9_basisCoefficient_35 ⟨by omega, by omega⟩ ?_
        refine T_iload dX9_basisCoefficient_36 rfl ?_
        refine T_iadd dX9_basisCoefficient_38 ⟨by omega, by omega⟩ ?_
        refine T_callV dX9_basisCoefficient_39 zkm_10_202 (Or.inl rfl) rfl r0 ⟨Nat.le_of_ble_eq_true rfl, rfl⟩ rfl (Nat.le_of_ble_eq_true rfl) ?_
        refine m_X0_factorOf (m := ((9 * a9) + c9)) r0 r1 r2 (by omega) (fun j39 k39a => ?_) (fun k39a_2 => ?_)
        · refine T_iret dX9_basisCoefficient_42 rfl ?_
          have e7 := (r4.1 j39 k39a.1).2.2.2
          rw [k39a.2, Int.toNat_natCast] at e7
          rw [eb, e7] at hQ
          exact hQ nb'3 cb'3 n'3 k'3 hh3 k3e k3f k3g k3h pc_3 pf_3
        · refine T_iret dX9_basisCoefficient_42 rfl ?_
          have e7 : (pB P j3).2.2.2 q3 (9 * a9 + c9) = 0 := by
            refine Classical.byContradiction fun h0 => ?_
            obtain ⟨jj, hj, ej⟩ := r4.2.2 _ h0
            exact k39a_2 jj hj ej
          rw [eb, e7] at hQ
          exact hQ nb'3 cb'3 n'3 k'3 hh3 k3e k3f k3g k3h pc_3 pf_3
      · refine T_if_ne dX9_basisCoefficient_25 (t := 30) rfl (fun hc => absurd hc (by decide)) (fun _ => ?_)
        refine T_iconst dX9_basisCoefficient_28 (by decide) ?_
        refine T_iret dX9_basisCoefficient_29 rfl ?_
        have e : s_bf P i x a c = -1 := if_neg (fun q => k22a_2 q.2.2)
        rw [e] at hQ
        exact hQ nb'3 cb'3 n'3 k'3 hh3 k3e k3f k3g k3h pc_3 pf_3
    · refine T_if_eq dX9_basisCoefficient_17 (t := 28) rfl (fun _ => ?_) (fun hc => absurd hc (by decide))
      refine T_iconst dX9_basisCoefficient_28 (by decide) ?_
      refine T_iret dX9_basisCoefficient_29 rfl ?_
      have e : s_bf P i x a c = -1 := if_neg (fun q => k14a_2 q.2.1)
      rw [e] at hQ
      exact hQ nb'3 cb'3 n'3 k'3 hh3 k3e k3f k3g k3h pc_3 pf_3
  · refine T_astore dX9_basisCoefficient_6 (Nat.le_of_ble_eq_true rfl) ?_
    refine T_aload dX9_basisCoefficient_8 rfl ?_
    refine T_ifnull dX9_basisCoefficient_10 (t := 28) rfl (fun _ => ?_) (fun _ hc => by cases hc)
    refine T_iconst dX9_basisCoefficient_28 (by decide) ?_
    refine T_iret dX9_basisCoefficient_29 rfl ?_
    have e : s_bf P i x a c = -1 := if_neg (fun q => k3a_2 q.1)
    rw [e] at hQ
    exact hQ nb'3_2 cb'3_2 n'3_2 k'3_2 hh3 k3b_2 k3c_2 k3d_2 k3e_2 pc_3_2 pf_3_2
set_option maxHeartbeats 4000000 in
set_option maxRecDepth 100000 in
theorem m_X9_changedCorners {n0 n k : Nat} {g : Nat → zV} {h : zHp} {Q : Option zV → Nat → Nat → zHp → Prop} {B lo : Nat} {P : pT} {L : lT} {I O : tT} {V : Int × pT} {nb vb N : Nat} {cb : Nat → Nat} {i : Int} (hP : pwf P) (hL : lwf L) (hI : iwf I) (hO : owf O) (hV : vwf V) (hB : n0 ≤ B) (hcl : clAt h B lo n P L I O V nb cb vb N) (hQ : ∀ (nb' : Nat) (cb' : Nat → Nat) (n' k' : Nat) (h' : zHp), (nb ≤ nb') → (n ≤ n' ∧ n' ≤ n + 15 * (nb' - nb)) → (k' ≤ k + 110 * (nb' - nb)) → (∀ i, i < nb → cb' i = cb i) → (clAt h' B lo n' P L I O V nb' cb' vb N) → (∀ q : Nat, (q < B ∨ (B + 396 ≤ q ∧ q < lo)) → h' q = h q) → Q (some (.inl (s_chg P i))) n' k' h') : ZT n0 g mX9_changedCorners 0 (zloc mX9_changedCorners [.inr (some B), .inl i]) [] n k h Q := by
  show ZT n0 g mX9_changedCorners 0 [some (.inr (some B)), some (.inl i), none, none] [] n k h Q
  obtain ⟨o0, gp, gc, gsp, gsc, gw, gf, gi, go, gl, gsep, hlo⟩ := id hcl
  have hpb := hP.bd
  have gvb := go.vb
  have gcb := gf.co.2.2.1
  refine T_aload_n dX9_changedCorners_0 rfl ?_
  refine T_iload_n dX9_changedCorners_1 rfl ?_
  refine T_callV dX9_changedCorners_2 zkm_10_173 (Or.inl rfl) rfl o0 ⟨Nat.le_of_ble_eq_true rfl, rfl⟩ rfl (Nat.le_of_ble_eq_true rfl) ?_
  refine m_X9_findCone  hP hL hI hO hV hB hcl (fun j2 nb'2 cb'2 n'2 k'2 hh2 k2a k2b k2c k2d k2e k2f pc_2 kn_2 pf_2 => ?_) (fun nb'2_2 cb'2_2 n'2_2 k'2_2 hh2 k2a_2 k2b_2 k2c_2 k2d_2 k2e_2 pc_2_2 kn_2_2 pf_2_2 => ?_)
  · obtain ⟨ke1, ke2, ke3⟩ := id kn_2
    obtain ⟨o0, -, -, -, -, -, gf9, -⟩ := id pc_2
    obtain ⟨cN44, ⟨cf, cf1, cf2⟩, -⟩ := gf9.co
    have hcf : ∀ i, i < pN P → cf i = some (cb'2 i) := fun i hi => cf2 i (by omega)
    have hNi := pN_is hP
    have hN1 := hNi.1
    have hN23 := hNi.2.1
    obtain ⟨hf, rf, pi, t, mo, fa, d0, d1, d2, d3, d4, d5, d6, d7⟩ := (ke3 j2 k2a).open4
    have dB := pB_facts hP j2
    refine T_astore_n dX9_changedCorners_5 (Nat.le_of_ble_eq_true rfl) ?_
    refine T_aload_n dX9_changedCorners_6 rfl ?_
    refine T_ifnonnull dX9_changedCorners_7 (t := 12) rfl (fun _ _ => ?_) (fun hc => by cases hc)
    refine T_aload_n dX9_changedCorners_12 rfl ?_
    refine T_iload_n dX9_changedCorners_13 rfl ?_
    refine T_iconst dX9_changedCorners_14 (by decide) ?_
    refine T_iadd dX9_changedCorners_15 ⟨by omega, by omega⟩ ?_
    refine T_callV dX9_changedCorners_16 zkm_10_173 (Or.inl rfl) rfl o0 ⟨Nat.le_of_ble_eq_true rfl, rfl⟩ rfl (Nat.le_of_ble_eq_true rfl) ?_
    refine m_X9_findCone (i := i + 1)  hP hL hI hO hV hB pc_2 (fun j16 nb'16 cb'16 n'16 k'16 hh16 k16a k16b k16c k16d k16e k16f pc_16 kn_16 pf_16 => ?_) (fun nb'16_2 cb'16_2 n'16_2 k'16_2 hh16 k16a_2 k16b_2 k16c_2 k16d_2 k16e_2 pc_16_2 kn_16_2 pf_16_2 => ?_)
    · obtain ⟨ke1, ke2, ke3⟩ := id kn_16
      obtain ⟨o0, -, -, -, -, -, gf9, -⟩ := id pc_16
      obtain ⟨cN44, ⟨cf, cf1, cf2⟩, -⟩ := gf9.co
      have hcf : ∀ i, i < pN P → cf i = some (cb'16 i) := fun i hi => cf2 i (by omega)
      have hNi := pN_is hP
      have hN1 := hNi.1
      have hN23 := hNi.2.1
      obtain ⟨hf, rf, pi, t, mo, fa, d0, d1, d2, d3, d4, d5, d6, d7⟩ := (ke3 j2 k2a).open4
      have dB := pB_facts hP j2
      obtain ⟨hf8, rf8, pi8, t8, mo8, fa8, d08, d18, d28, d38, d48, d58, d68, d78⟩ := (ke3 j16 k16a).open4
      have dB8 := pB_facts hP j16
      have e22 : cb'16 j2 = cb'2 j2 := k16f j2 (by omega)
      rw [← e22] at *
      refine T_astore_n dX9_changedCorners_19 (Nat.le_of_ble_eq_true rfl) ?_
      refine T_aload_n dX9_changedCorners_20 rfl ?_
      refine T_ifnonnull dX9_changedCorners_21 (t := 29) rfl (fun _ _ => ?_) (fun hc => by cases hc)
      refine T_aload_n dX9_changedCorners_29 rfl ?_
      refine T_aload_n dX9_changedCorners_30 rfl ?_
      refine T_callV dX9_changedCorners_31 zkm_10_205 (Or.inl rfl) rfl d0 ⟨Nat.le_of_ble_eq_true rfl, rfl⟩ rfl (Nat.le_of_ble_eq_true rfl) ?_
      refine m_X7_countCornersOutside (cm := (pB P j2).2.2.1) (cm2 := (pB P j16).2.2.1) (t := t) (t2 := t8) d0 d2 d08 d28 dB.1 d4 d5 dB.2.2 dB8.1 d48 d58 dB8.2.2 ?_
      refine T_iret dX9_changedCorners_34 rfl ?_
      have ej : j16 = j2 + 1 := by omega
      subst ej
      have e : s_chg P i = ((zcnt (fun a => !(List.range (pB P (j2 + 1)).2.1).any (fun q => (pB P (j2 + 1)).2.2.1 q == (pB P j2).2.2.1 a)) (pB P j2).2.1 : Nat) : Int) := by unfold s_chg; rw [if_pos (by omega), show i.toNat = j2 by omega, if_neg (fun q => by have := (pW_last hP k2a).mp q; omega)]
      rw [e] at hQ
      exact hQ nb'16 cb'16 n'16 k'16 hh16 (by omega) (by omega) (by omega) (fun i hi => (k16f i (by omega)).trans (k2f i hi)) pc_16 (fun q hq => (pf_16 q hq).trans (pf_2 q hq))
    · obtain ⟨ke1, ke2, ke3⟩ := id kn_16_2
      obtain ⟨o0, -, -, -, -, -, gf9, -⟩ := id pc_16_2
      obtain ⟨cN44, ⟨cf, cf1, cf2⟩, -⟩ := gf9.co
      have hcf : ∀ i, i < pN P → cf i = some (cb'16_2 i) := fun i hi => cf2 i (by omega)
      have hNi := pN_is hP
      have hN1 := hNi.1
      have hN23 := hNi.2.1
      refine T_astore_n dX9_changedCorners_19 (Nat.le_of_ble_eq_true rfl) ?_
      refine T_aload_n dX9_changedCorners_20 rfl ?_
      refine T_ifnonnull dX9_changedCorners_21 (t := 29) rfl (fun _ hc => by cases hc) (fun _ => ?_)
      refine T_bipush dX9_changedCorners_24 (by decide) ?_
      refine T_goto dX9_changedCorners_26 (t := 34) rfl ?_
      refine T_iret dX9_changedCorners_34 rfl ?_
      have e : s_chg P i = -5 := by unfold s_chg; rw [if_pos (by omega), show i.toNat = j2 by omega, if_pos ((pW_last hP k2a).mpr (by omega))]
      rw [e] at hQ
      exact hQ nb'16_2 cb'16_2 n'16_2 k'16_2 hh16 (by omega) (by omega) (by omega) (fun i hi => (k16e_2 i (by omega)).trans (k2f i hi)) pc_16_2 (fun q hq => (pf_16_2 q hq).trans (pf_2 q hq))
  · obtain ⟨ke1, ke2, ke3⟩ := id kn_2_2
    obtain ⟨o0, -, -, -, -, -, gf9, -⟩ := id pc_2_2
    obtain ⟨cN44, ⟨cf, cf1, cf2⟩, -⟩ := gf9.co
    have hcf : ∀ i, i < pN P → cf i = some (cb'2_2 i) := fun i hi => cf2 i (by omega)
    have hNi := pN_is hP
    have hN1 := hNi.1
    have hN23 := hNi.2.1
    refine T_astore_n dX9_changedCorners_5 (Nat.le_of_ble_eq_true rfl) ?_
    refine T_aload_n dX9_changedCorners_6 rfl ?_
    refine T_ifnonnull dX9_changedCorners_7 (t := 12) rfl (fun _ hc => by cases hc) (fun _ => ?_)
    refine T_iconst dX9_changedCorners_10 (by decide) ?_
    refine T_iret dX9_changedCorners_11 rfl ?_
    have e : s_chg P i = -1 := if_neg k2a_2
    rw [e] at hQ
    exact hQ nb'2_2 cb'2_2 n'2_2 k'2_2 hh2 k2b_2 k2c_2 k2d_2 k2e_2 pc_2_2 pf_2_2
