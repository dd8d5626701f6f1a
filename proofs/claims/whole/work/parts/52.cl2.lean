/-! ===== GroebnerFan: orders and the fan: printed by wip/whole/gen/s_cl2.py ===== -/
set_option maxHeartbeats 4000000 in
set_option maxRecDepth 100000 in
theorem m_X9_computeOrder {n0 n k : Nat} {g : Nat → zV} {h : zHp} {Q : Option zV → Nat → Nat → zHp → Prop} {B lo : Nat} {P : pT} {L : lT} {I O : tT} {V : Int × pT} {nb vb N : Nat} {cb : Nat → Nat} {u v t : Int} (hP : pwf P) (hL : lwf L) (hI : iwf I) (hO : owf O) (hV : vwf V) (hB : n0 ≤ B) (hcl : clAt h B lo n P L I O V nb cb vb N) (ho : sOrd u v t) (hQ : ∀ (w : Nat × Nat) (h' : zHp), (clAt h' B lo n P L I O V nb cb vb N) → (baAt h' (B + 35) (pZ P u v t).1 (pZ P u v t).2.1 (pZ P u v t).2.2.1 (pZ P u v t).2.2.2 (w.1 : Int) (w.2 : Int)) → (∀ q : Nat, (q < B ∨ (B + 66 ≤ q ∧ q < lo)) → h' q = h q) → Q none n k h') : ZT n0 g mX9_computeOrder 0 (zloc mX9_computeOrder [.inr (some B), .inl u, .inl v, .inl t]) [] n k h Q := by
  show ZT n0 g mX9_computeOrder 0 [some (.inr (some B)), some (.inl u), some (.inl v), some (.inl t)] [] n k h Q
  obtain ⟨o0, gp, gc, gsp, gsc, gw, gf, gi, go, gl, gsep, hlo⟩ := id hcl
  have hpb := hP.bd
  have gvb := go.vb
  have gcb := gf.co.2.2.1
  obtain ⟨xs, ys, p0, p1, p2, p3⟩ := id gp
  obtain ⟨⟨s0, E0, w1⟩, ⟨u0, v0, t0, w2⟩, H0, c0, cm0, ce0, wt0, wb0, w3, w4⟩ := id gw
  obtain ⟨bhf, brf, bpi, w5, -⟩ := id w4
  refine T_aload_n dX9_computeOrder_0 rfl ?_
  refine T_getfield dX9_computeOrder_1 zkf_10_45 o0 rfl ?_
  refine T_iload_n dX9_computeOrder_4 rfl ?_
  refine T_iload_n dX9_computeOrder_5 rfl ?_
  refine T_iload_n dX9_computeOrder_6 rfl ?_
  refine T_callV dX9_computeOrder_7 zkm_10_308 (Or.inl rfl) rfl w2 ⟨Nat.le_of_ble_eq_true rfl, rfl⟩ rfl (Nat.le_of_ble_eq_true rfl) ?_
  refine m_X4_choose w2 (by omega) (fun hh7 f7a fr7 => ?_)
  refine T_aload_n dX9_computeOrder_10 rfl ?_
  refine T_getfield dX9_computeOrder_11 zkf_10_52 ((fr7 _ (by omega)).trans o0) rfl ?_
  refine T_aload_n dX9_computeOrder_14 rfl ?_
  refine T_getfield dX9_computeOrder_15 zkf_10_45 ((fr7 _ (by omega)).trans o0) rfl ?_
  refine T_aload_n dX9_computeOrder_18 rfl ?_
  refine T_getfield dX9_computeOrder_19 zkf_10_38 ((fr7 _ (by omega)).trans o0) rfl ?_
  refine T_callV dX9_computeOrder_22 zkm_10_311 (Or.inl rfl) rfl ((fr7 _ (by omega)).trans w5) ⟨Nat.le_of_ble_eq_true rfl, rfl⟩ rfl (Nat.le_of_ble_eq_true rfl) ?_
  refine m_X7_compute (X := P.2.2.1) (Y := P.2.2.2.1) ((fr7 _ (by omega)).trans p0) ((fr7 _ (by omega)).trans p1) ((fr7 _ (by omega)).trans p2) f7a hP.2.1 hP.1 (fun k hk => p3 k hk) (fun k hk => hP.2.2.1 k hk) ho.1.1 (by omega) (by omega) (w1.frame (fun q a1 a2 => ((fr7 _ (by omega)).trans (rfl)))) (w4.frame w3 (fun q a1 a2 => ((fr7 _ (by omega)).trans (rfl)))) (fun w22 E'22 hh22 k22a pb_22 pe_22 pf_22 => ?_)
  have fr22 : ∀ q, (q < B + 11 ∨ B + 50 ≤ q) → hh22 q = h q := fun q hq => (pf_22 q (by omega) (by omega)).trans ((fr7 _ (by omega)).trans (rfl))
  refine T_vret dX9_computeOrder_25 rfl ?_
  exact hQ w22 hh22 ⟨((fr22 B (by omega)).trans o0), (gp.frame (fun q a1 a2 => fr22 q (by omega))), (gc.frame (fun q a1 a2 => fr22 q (by omega))), (gsp.frame (fun q a1 a2 => fr22 q (by omega))), (gsc.frame (fun q a1 a2 => fr22 q (by omega))), ⟨⟨P.2.1, E'22, pe_22⟩, ⟨u, v, t, (pf_22 (B + 34) (by omega) (by omega)).trans f7a⟩, _, _, _, _, _, _, (zbas_facts hP.1 hP.2.1 ho.1.1.1 ho.1.1.2.2.1).1, pb_22⟩, (gf.frame hP (Nat.le_refl _) (fun q a1 a2 => fr22 q (by omega)) (fun i hi q a1 a2 => by have := gcb i hi; exact fr22 q (by omega))), (gi.frame (fun q a1 a2 => fr22 q (by omega))), (go.frame (Nat.le_refl _) (fr22 _ (by omega)) (fr22 _ (by omega))), (gl.frame (fun q a1 a2 => fr22 q (by omega))), gsep, hlo⟩ pb_22 (fun q a1 => fr22 q (by omega))
set_option maxHeartbeats 4000000 in
set_option maxRecDepth 100000 in
theorem m_X9_refreshFan {n0 n k : Nat} {g : Nat → zV} {h : zHp} {Q : Option zV → Nat → Nat → zHp → Prop} {B lo : Nat} {P : pT} {L : lT} {I O : tT} {V : Int × pT} {nb vb N : Nat} {cb : Nat → Nat} (hP : pwf P) (hL : lwf L) (hI : iwf I) (hO : owf O) (hV : vwf V) (hB : n0 ≤ B) (hcl : clAt h B lo n P L I O V nb cb vb N) (hQ : ∀ (nb' : Nat) (cb' : Nat → Nat) (n' k' : Nat) (h' : zHp), (nb ≤ nb') → (n ≤ n' ∧ n' ≤ n + 15 * (nb' - nb)) → (k' ≤ k + 110 * (nb' - nb)) → (clAt h' B lo n' P L I O V nb' cb' vb N) → (h' (B + 50) = some (.inl (3, [.inl (pN P : Int), .inr (some (B + 51))])) ∧ pN P ≤ nb' ∧ ∀ i, i < pN P → bsAt h' (cb' i) (pB P i) (pW P i)) → (∀ q : Nat, (q < B ∨ (B + 66 ≤ q ∧ q < lo)) → h' q = h q) → Q none n' k' h') : ZT n0 g mX9_refreshFan 0 (zloc mX9_refreshFan [.inr (some B)]) [] n k h Q := by
  show ZT n0 g mX9_refreshFan 0 [some (.inr (some B))] [] n k h Q
  obtain ⟨o0, gp, gc, gsp, gsc, gw, gf, gi, go, gl, gsep, hlo⟩ := id hcl
  have hpb := hP.bd
  have gvb := go.vb
  have gcb := gf.co.2.2.1
  obtain ⟨xs, ys, p0, p1, p2, p3⟩ := id gp
  obtain ⟨sz, f0, f1, f2⟩ := id gf
  obtain ⟨⟨s0, E0, w1⟩, ⟨u0, v0, t0, w2⟩, H0, c0, cm0, ce0, wt0, wb0, w3, w4⟩ := id gw
  refine T_aload_n dX9_refreshFan_0 rfl ?_
  refine T_getfield dX9_refreshFan_1 zkf_10_59 o0 rfl ?_
  refine T_getfield dX9_refreshFan_4 zkf_10_171 f0 rfl ?_
  refine T_if_ne dX9_refreshFan_7 (t := 25) rfl (fun c7 => ?_) (fun c7 => ?_)
  · refine T_vret dX9_refreshFan_25 rfl ?_
    obtain ⟨e1, e2, e3⟩ := f2.resolve_left (by omega)
    exact hQ nb cb n k h (Nat.le_refl _) ⟨Nat.le_refl _, by omega⟩ (by omega) hcl ⟨by rw [← e1]; exact f0, e2, e3⟩ (fun _ _ => rfl)
  · refine T_aload_n dX9_refreshFan_10 rfl ?_
    refine T_getfield dX9_refreshFan_11 zkf_10_59 o0 rfl ?_
    refine T_aload_n dX9_refreshFan_14 rfl ?_
    refine T_getfield dX9_refreshFan_15 zkf_10_45 o0 rfl ?_
    refine T_aload_n dX9_refreshFan_18 rfl ?_
    refine T_getfield dX9_refreshFan_19 zkf_10_38 o0 rfl ?_
    refine T_callV dX9_refreshFan_22 zkm_10_315 (Or.inl rfl) rfl f0 ⟨Nat.le_of_ble_eq_true rfl, rfl⟩ rfl (Nat.le_of_ble_eq_true rfl) ?_
    refine m_X2_build (X := P.2.2.1) (Y := P.2.2.2.1) (lo := lo) (nb := nb) (cb := cb) p0 p1 p2 w2 f0 hP.2.1 hP.1 (fun k hk => p3 k hk) (fun k hk => hP.2.2.1 k hk) (by omega) (by omega) (by omega) w1 f1 (fun nb'22 cb'22 n'22 k'22 E'22 hh22 k22a k22b k22c k22d k22e pf_22 pc_22 pk_22 pe_22 po_22 pr_22 => ?_)
    have fr22 : ∀ q, q < lo → q ≠ B + 50 → q ≠ B + 51 → (q < B + 11 ∨ B + 35 ≤ q) → hh22 q = h q := fun q h1 h2 h3 h4 => pr_22 q (by omega) h2 h3 (by omega) (by omega) (fun i hi => by have := gcb i hi; omega)
    obtain ⟨u9, v9, t9, po9⟩ := po_22
    refine T_vret dX9_refreshFan_25 rfl ?_
    exact hQ nb'22 cb'22 n'22 k'22 hh22 k22a.1 k22c k22d ⟨((fr22 B (by omega) (by omega) (by omega) (by omega)).trans o0), (gp.frame (fun q a1 a2 => fr22 q (by omega) (by omega) (by omega) (by omega))), (gc.frame (fun q a1 a2 => fr22 q (by omega) (by omega) (by omega) (by omega))), (gsp.frame (fun q a1 a2 => fr22 q (by omega) (by omega) (by omega) (by omega))), (gsc.frame (fun q a1 a2 => fr22 q (by omega) (by omega) (by omega) (by omega))), ⟨⟨P.2.1, E'22, pe_22⟩, ⟨u9, v9, t9, po9⟩, H0, c0, cm0, ce0, wt0, wb0, w3, w4.frame w3 (fun q a1 a2 => fr22 q (by omega) (by omega) (by omega) (by omega))⟩, ⟨pN P, pf_22, pc_22, Or.inr ⟨rfl, k22a.2, pk_22⟩⟩, (gi.frame (fun q a1 a2 => fr22 q (by omega) (by omega) (by omega) (by omega))), (go.frame k22c.1 (fr22 _ (by omega) (by omega) (by omega) (by omega)) (pr_22 _ (by omega) (by omega) (by omega) (by omega) (by omega) gsep)), (gl.frame (fun q a1 a2 => fr22 q (by omega) (by omega) (by omega) (by omega))), (fun i hi => by
      by_cases e9 : i < nb
      · rw [k22b i e9]; exact gsep i e9
      · have := k22e i (by omega) hi; omega), ⟨hlo.1, by omega⟩⟩ ⟨pf_22, k22a.2, pk_22⟩ (fun q a1 => fr22 q (by omega) (by omega) (by omega) (by omega))
