/-! ===== GroebnerFan: polynomials, slots, snapshots: printed by wip/whole/gen/s_cl3.py ===== -/
set_option maxHeartbeats 4000000 in
set_option maxRecDepth 100000 in
theorem m_X9_termCount {n0 n k : Nat} {g : Nat → zV} {h : zHp} {Q : Option zV → Nat → Nat → zHp → Prop} {B lo : Nat} {P : pT} {L : lT} {I O : tT} {V : Int × pT} {nb vb N : Nat} {cb : Nat → Nat} (hP : pwf P) (hL : lwf L) (hI : iwf I) (hO : owf O) (hV : vwf V) (hB : n0 ≤ B) (hcl : clAt h B lo n P L I O V nb cb vb N) (hQ : Q (some (.inl (s_tc P))) n k h) : ZT n0 g mX9_termCount 0 (zloc mX9_termCount [.inr (some B)]) [] n k h Q := by
  show ZT n0 g mX9_termCount 0 [some (.inr (some B))] [] n k h Q
  obtain ⟨o0, gp, gc, gsp, gsc, gw, gf, gi, go, gl, gsep, hlo⟩ := id hcl
  have hpb := hP.bd
  have gvb := go.vb
  have gcb := gf.co.2.2.1
  obtain ⟨cu, c0, c1, c2⟩ := id gc
  refine T_aload_n dX9_termCount_0 rfl ?_
  refine T_getfield dX9_termCount_1 zkf_10_19 o0 rfl ?_
  refine T_callV dX9_termCount_4 zkm_10_228 (Or.inl rfl) rfl c0 ⟨Nat.le_of_ble_eq_true rfl, rfl⟩ rfl (Nat.le_of_ble_eq_true rfl) ?_
  refine m_X6_countTerms c0 c1  ?_
  refine T_iret dX9_termCount_7 rfl ?_
  rw [s_tc, ← znz_ext c2] at hQ
  exact hQ
set_option maxHeartbeats 4000000 in
set_option maxRecDepth 100000 in
theorem i_X9_isVanishing_2 {n0 n k : Nat} {g : Nat → zV} {h : zHp} {Q : Option zV → Nat → Nat → zHp → Prop} {B : Nat} {P : pT} {V : Int × pT} {xs ys cu : Nat → Int} (o0 : h B = some (.inl (10, [.inr (some (B + 1)), .inr (some (B + 4)), .inr (some (B + 6)), .inr (some (B + 9)), .inl V.1, .inr (some (B + 11)), .inr (some (B + 34)), .inr (some (B + 35)), .inr (some (B + 50)), .inr (some (B + 382)), .inr (some (B + 385)), .inr (some (B + 387))]))) (p0 : h (B + 1) = some (.inl (6, [.inl P.1, .inl (P.2.1 : Int), .inr (some (B + 2)), .inr (some (B + 3))]))) (p1 : h (B + 2) = some (.inr (.inl (0, 8, xs)))) (p2 : h (B + 3) = some (.inr (.inl (0, 8, ys)))) (c0 : h (B + 4) = some (.inl (7, [.inr (some (B + 5))]))) (c1 : h (B + 5) = some (.inr (.inl (0, 81, cu)))) (hP : pwf P) (p3 : ∀ k, k < P.2.1 → xs k = P.2.2.1 k ∧ ys k = P.2.2.2.1 k) (c2 : ∀ m, m < 81 → cu m = P.2.2.2.2 m) (hT : (zvan P = true) → Q (some (.inl 1)) n k h) (hF : (¬ zvan P = true) → Q (some (.inl 0)) n k h) : ∀ (d : Nat) (j : Nat), P.2.1 - j = d → (j ≤ P.2.1) → (∀ k, k < j → zval P.1 (P.2.2.1 k) (P.2.2.2.1 k) P.2.2.2.2 = 0) → ZT n0 g mX9_isVanishing 2 [some (.inr (some B)), some (.inl (j : Int))] [] n k h Q := by
  intro d
  induction d using Nat.strongRecOn with | _ d ih => ?_
  intro j hd0 hj hn
  subst hd0
  have hpb := hP.bd
  have hs8 := hP.2.1
  refine T_iload_n dX9_isVanishing_2 rfl ?_
  refine T_aload_n dX9_isVanishing_3 rfl ?_
  refine T_getfield dX9_isVanishing_4 zkf_10_12 o0 rfl ?_
  refine T_getfield dX9_isVanishing_7 zkf_10_109 p0 rfl ?_
  refine T_icmp_ge dX9_isVanishing_10 (t := 36) rfl (fun c10 => ?_) (fun c10 => ?_)
  · refine T_iconst dX9_isVanishing_36 (by decide) ?_
    refine T_iret dX9_isVanishing_37 rfl ?_
    exact hT (zvan_iff.mpr (fun k hk => hn k (by omega)))
  · refine T_aload_n dX9_isVanishing_13 rfl ?_
    refine T_getfield dX9_isVanishing_14 zkf_10_19 o0 rfl ?_
    refine T_aload_n dX9_isVanishing_17 rfl ?_
    refine T_getfield dX9_isVanishing_18 zkf_10_12 o0 rfl ?_
    refine T_iload_n dX9_isVanishing_21 rfl ?_
    have pj := p3 j (by omega)
    have wj := hP.2.2.1 j (by omega)
    have ev : hval P.1 (xs j) (ys j) cu 9 = zval P.1 (P.2.2.1 j) (P.2.2.2.1 j) P.2.2.2.2 := by rw [hval_eq hpb.1, pj.1, pj.2]; exact zval_ext c2
    refine T_callV dX9_isVanishing_22 zkm_10_231 (Or.inl rfl) rfl c0 ⟨Nat.le_of_ble_eq_true rfl, rfl⟩ rfl (Nat.le_of_ble_eq_true rfl) ?_
    refine m_X6_valueAt c0 c1 p0 p1 p2 hpb (by rw [pj.1]; exact wj.1) (by rw [pj.2]; exact wj.2) (fun m hm => by rw [c2 m hm]; have := hP.2.2.2.2 m hm; omega) (by omega) ?_
    refine T_if_eq dX9_isVanishing_25 (t := 30) rfl (fun c25 => ?_) (fun c25 => ?_)
    · refine T_iinc dX9_isVanishing_30 rfl ⟨by omega, by omega⟩ ?_
      refine T_goto dX9_isVanishing_33 (t := 2) rfl ?_
      exact ih _ (by omega) (j + 1) rfl  (by omega) (fun i hi => by
            by_cases e : i = j
            · subst e; omega
            · exact hn i (by omega)) 
    · refine T_iconst dX9_isVanishing_28 (by decide) ?_
      refine T_iret dX9_isVanishing_29 rfl ?_
      exact hF (fun q => by have := zvan_iff.mp q j (by omega); omega)
set_option maxHeartbeats 4000000 in
set_option maxRecDepth 100000 in
theorem i_X9_isVanishing {n0 n k : Nat} {g : Nat → zV} {h : zHp} {Q : Option zV → Nat → Nat → zHp → Prop} {B : Nat} {P : pT} {V : Int × pT} {xs ys cu : Nat → Int} (o0 : h B = some (.inl (10, [.inr (some (B + 1)), .inr (some (B + 4)), .inr (some (B + 6)), .inr (some (B + 9)), .inl V.1, .inr (some (B + 11)), .inr (some (B + 34)), .inr (some (B + 35)), .inr (some (B + 50)), .inr (some (B + 382)), .inr (some (B + 385)), .inr (some (B + 387))]))) (p0 : h (B + 1) = some (.inl (6, [.inl P.1, .inl (P.2.1 : Int), .inr (some (B + 2)), .inr (some (B + 3))]))) (p1 : h (B + 2) = some (.inr (.inl (0, 8, xs)))) (p2 : h (B + 3) = some (.inr (.inl (0, 8, ys)))) (c0 : h (B + 4) = some (.inl (7, [.inr (some (B + 5))]))) (c1 : h (B + 5) = some (.inr (.inl (0, 81, cu)))) (hP : pwf P) (p3 : ∀ k, k < P.2.1 → xs k = P.2.2.1 k ∧ ys k = P.2.2.2.1 k) (c2 : ∀ m, m < 81 → cu m = P.2.2.2.2 m) (hT : (zvan P = true) → Q (some (.inl 1)) n k h) (hF : (¬ zvan P = true) → Q (some (.inl 0)) n k h) : ZT n0 g mX9_isVanishing 0 (zloc mX9_isVanishing [.inr (some B)]) [] n k h Q := by
  show ZT n0 g mX9_isVanishing 0 [some (.inr (some B)), none] [] n k h Q
  refine T_iconst dX9_isVanishing_0 (by decide) ?_
  refine T_istore_n dX9_isVanishing_1 (Nat.le_of_ble_eq_true rfl) ?_
  exact i_X9_isVanishing_2 o0 p0 p1 p2 c0 c1 hP p3 c2 hT hF _ 0 rfl  (by omega) (fun i hi => absurd hi (Nat.not_lt_zero i)) 
set_option maxHeartbeats 4000000 in
set_option maxRecDepth 100000 in
theorem m_X9_isVanishing {n0 n k : Nat} {g : Nat → zV} {h : zHp} {Q : Option zV → Nat → Nat → zHp → Prop} {B lo : Nat} {P : pT} {L : lT} {I O : tT} {V : Int × pT} {nb vb N : Nat} {cb : Nat → Nat} (hP : pwf P) (hL : lwf L) (hI : iwf I) (hO : owf O) (hV : vwf V) (hB : n0 ≤ B) (hcl : clAt h B lo n P L I O V nb cb vb N) (hQ : Q (some (.inl (s_van P))) n k h) : ZT n0 g mX9_isVanishing 0 (zloc mX9_isVanishing [.inr (some B)]) [] n k h Q := by
  obtain ⟨o0, gp, gc, gsp, gsc, gw, gf, gi, go, gl, gsep, hlo⟩ := id hcl
  have hpb := hP.bd
  have gvb := go.vb
  have gcb := gf.co.2.2.1
  obtain ⟨xs, ys, p0, p1, p2, p3⟩ := id gp
  obtain ⟨cu, c0, c1, c2⟩ := id gc
  exact i_X9_isVanishing o0 p0 p1 p2 c0 c1 hP p3 c2 (fun e => by rw [s_van, if_pos e] at hQ; exact hQ) (fun e => by rw [s_van, if_neg e] at hQ; exact hQ)
set_option maxHeartbeats 4000000 in
set_option maxRecDepth 100000 in
theorem m_X9_loadBasisPolynomial_23 {n0 n k : Nat} {g : Nat → zV} {h : zHp} {Q : Option zV → Nat → Nat → zHp → Prop} {B lo : Nat} {P : pT} {L : lT} {I O : tT} {V : Int × pT} {nb vb N : Nat} {cb : Nat → Nat} {i x : Int} (hP : pwf P) (hL : lwf L) (hI : iwf I) (hO : owf O) (hV : vwf V) (hB : n0 ≤ B) (hcl : clAt h B lo n P L I O V nb cb vb N) (hQ : ∀ (nb' : Nat) (cb' : Nat → Nat) (n' k' : Nat) (h' : zHp), (nb ≤ nb') → (n ≤ n' ∧ n' ≤ n + 15 * (nb' - nb)) → (k' ≤ k + 110 * (nb' - nb)) → (∀ i, i < nb → cb' i = cb i) → (clAt h' B lo n' (s_lb P i x).2 L I O V nb' cb' vb N) → (∀ q : Nat, (q < B ∨ (B + 396 ≤ q ∧ q < lo)) → h' q = h q) → Q (some (.inl ((s_lb P i x).1))) n' k' h') : ∀ (d : Nat) (h9 : zHp) (n9 : Nat) (k9 : Nat) (nb9 : Nat) (cb9 : Nat → Nat) (ad : Nat) (m : Nat) (t : Nat) (mo : Nat → Int) (fa : Nat → Int) (C : Nat → Int) (j : Nat) (u : Nat → Int), t - j = d → ∀ h1 : zHp, (zar h1 (B + 5) 81 u) → (∀ q : Nat, q ≠ B + 5 → h1 q = h9 q) → (h1 ad = some (.inl (1, [.inl (m : Int), .inl (t : Int), .inr (some (ad + 1)), .inr (some (ad + 2))])) ∧ zar h1 (ad + 1) 9 mo ∧ zar h1 (ad + 2) 9 fa) → (clAt h9 B lo n9 P L I O V nb9 cb9 vb N) → (∀ q : Nat, (q < B ∨ (B + 396 ≤ q ∧ q < lo)) → h9 q = h q) → (nb ≤ nb9) → (n ≤ n9 ∧ n9 ≤ n + 15 * (nb9 - nb)) → (k9 ≤ k + 110 * (nb9 - nb)) → (∀ i, i < nb → cb9 i = cb i) → (t ≤ 9 ∧ j ≤ t) → (B + 52 ≤ ad) → (zRep t mo fa C) → (s_lb P i x = ((znz C 81 : Int), pC P C)) → (∀ q, q < j → u (mo q).toNat = C (mo q).toNat) → (∀ y : Nat, y < 81 → (∀ q, q < j → mo q ≠ (y : Int)) → u y = 0) → ZT n0 g mX9_loadBasisPolynomial 23 [some (.inr (some B)), some (.inl i), some (.inl x), some (.inr (some ad)), some (.inl (j : Int))] [] n9 k9 h1 Q := by
  intro d
  induction d using Nat.strongRecOn with | _ d ih => ?_
  intro h9 n9 k9 nb9 cb9 ad m t mo fa C j u hd0 h1 j5 jfr jpo cl9 hfr9 hc1 hc2 hc3 hc4 ht had hz hC hu1 hu2
  subst hd0
  obtain ⟨o0, gp, gc, gsp, gsc, gw, gf, gi, go, gl, gsep, hlo⟩ := id cl9
  have hpb := hP.bd
  have gvb := go.vb
  have gcb := gf.co.2.2.1
  obtain ⟨cu, c0, c1, c2⟩ := id gc
  obtain ⟨r0, r1, r2⟩ := jpo
  refine T_iload dX9_loadBasisPolynomial_23 rfl ?_
  refine T_aload_n dX9_loadBasisPolynomial_25 rfl ?_
  refine T_getfield dX9_loadBasisPolynomial_26 zkf_10_261 r0 rfl ?_
  refine T_icmp_ge dX9_loadBasisPolynomial_29 (t := 60) rfl (fun c29 => ?_) (fun c29 => ?_)
  · refine T_aload_n dX9_loadBasisPolynomial_60 rfl ?_
    have huC : ∀ y, y < 81 → u y = C y := fun y hy => by
      by_cases hx : ∃ q, q < j ∧ mo q = (y : Int)
      · obtain ⟨q, hq, eq⟩ := hx
        have := hu1 q hq
        rwa [eq, Int.toNat_natCast] at this
      · rw [hu2 y hy (fun q hq e9 => hx ⟨q, hq, e9⟩)]
        refine (Classical.byContradiction fun h0 => ?_)
        obtain ⟨q, hq, eq⟩ := hz.2.2 y (fun e9 => h0 e9.symm)
        exact hx ⟨q, by omega, eq⟩
    refine T_getfield dX9_loadBasisPolynomial_61 zkf_10_19 ((jfr _ (by omega)).trans o0) rfl ?_
    refine T_callV dX9_loadBasisPolynomial_64 zkm_10_228 (Or.inl rfl) rfl ((jfr _ (by omega)).trans c0) ⟨Nat.le_of_ble_eq_true rfl, rfl⟩ rfl (Nat.le_of_ble_eq_true rfl) ?_
    refine m_X6_countTerms ((jfr _ (by omega)).trans c0) j5  ?_
    refine T_iret dX9_loadBasisPolynomial_67 rfl ?_
    rw [hC] at hQ
    have ez := znz_ext huC
    rw [← ez] at hQ
    exact hQ nb9 cb9 n9 k9 _ hc1 hc2 hc3 hc4 ⟨((jfr _ (by omega)).trans o0), (gp.frame (fun q a1 a2 => jfr q (by omega))), ⟨u, (jfr _ (by omega)).trans c0, j5, huC⟩, (gsp.frame (fun q a1 a2 => jfr q (by omega))), (gsc.frame (fun q a1 a2 => jfr q (by omega))), (gw.frame (fun q a1 a2 => jfr q (by omega))), (gFan.cur _ (gf.frame hP (Nat.le_refl _) ((fun q a1 a2 => jfr q (by omega))) (fun i hi q a1 a2 => by have := gcb i hi; exact jfr q (by omega)))), (gi.frame (fun q a1 a2 => jfr q (by omega))), (go.frame (Nat.le_refl _) (jfr _ (by omega)) (jfr _ (by omega))), (gl.frame (fun q a1 a2 => jfr q (by omega))), gsep, hlo⟩ (fun q hq => (jfr q (by omega)).trans (hfr9 q hq))
  · refine T_aload_n dX9_loadBasisPolynomial_32 rfl ?_
    refine T_getfield dX9_loadBasisPolynomial_33 zkf_10_19 ((jfr _ (by omega)).trans o0) rfl ?_
    refine T_getfield dX9_loadBasisPolynomial_36 zkf_10_222 ((jfr _ (by omega)).trans c0) rfl ?_
    refine T_aload_n dX9_loadBasisPolynomial_39 rfl ?_
    refine T_getfield dX9_loadBasisPolynomial_40 zkf_10_262 r0 rfl ?_
    refine T_iload dX9_loadBasisPolynomial_43 rfl ?_
    refine T_ialoadN (m := j) dX9_loadBasisPolynomial_45 r1 rfl (by omega) ?_
    refine T_aload_n dX9_loadBasisPolynomial_46 rfl ?_
    refine T_getfield dX9_loadBasisPolynomial_47 zkf_10_265 r0 rfl ?_
    refine T_iload dX9_loadBasisPolynomial_50 rfl ?_
    refine T_ialoadN (m := j) dX9_loadBasisPolynomial_52 r2 rfl (by omega) ?_
    obtain ⟨y1, y2, y3, y4⟩ := hz.1 j (by omega)
    refine T_iastoreN (m := ((mo j).toNat)) dX9_loadBasisPolynomial_53 j5 (Int.toNat_of_nonneg y1).symm (by omega) (by omega) ?_
    refine T_iinc dX9_loadBasisPolynomial_54 rfl ⟨by omega, by omega⟩ ?_
    refine T_goto dX9_loadBasisPolynomial_57 (t := 23) rfl ?_
    exact ih _ (by omega) h9 _ _ nb9 cb9 _ _ _ _ _ _ (j + 1) _ rfl _ zup_self (fun q q1 => ((zup_nf (by omega)).trans (jfr q q1))) ⟨(zup_ne (by omega) r0), (zup_ne (by omega) r1), (zup_ne (by omega) r2)⟩ cl9 hfr9 hc1 hc2 hc3 hc4 (by omega) had hz hC (fun q hq => by
          by_cases e9 : q = j
          · rw [e9, zfu_self]; exact y4.symm
          · have z1 := hz.1 q (by omega)
            have z2 := hz.2.1 q j (by omega) (by omega)
            rw [zfu_ne (by omega)]; exact hu1 q (by omega)) (fun y hy hn => by
          have z1 := hn j (by omega)
          rw [zfu_ne (by omega)]; exact hu2 y hy (fun q hq => hn q (by omega))) 
set_option maxHeartbeats 4000000 in
set_option maxRecDepth 100000 in
theorem m_X9_loadBasisPolynomial {n0 n k : Nat} {g : Nat → zV} {h : zHp} {Q : Option zV → Nat → Nat → zHp → Prop} {B lo : Nat} {P : pT} {L : lT} {I O : tT} {V : Int × pT} {nb vb N : Nat} {cb : Nat → Nat} {i x : Int} (hP : pwf P) (hL : lwf L) (hI : iwf I) (hO : owf O) (hV : vwf V) (hB : n0 ≤ B) (hcl : clAt h B lo n P L I O V nb cb vb N) (hQ : ∀ (nb' : Nat) (cb' : Nat → Nat) (n' k' : Nat) (h' : zHp), (nb ≤ nb') → (n ≤ n' ∧ n' ≤ n + 15 * (nb' - nb)) → (k' ≤ k + 110 * (nb' - nb)) → (∀ i, i < nb → cb' i = cb i) → (clAt h' B lo n' (s_lb P i x).2 L I O V nb' cb' vb N) → (∀ q : Nat, (q < B ∨ (B + 396 ≤ q ∧ q < lo)) → h' q = h q) → Q (some (.inl ((s_lb P i x).1))) n' k' h') : ZT n0 g mX9_loadBasisPolynomial 0 (zloc mX9_loadBasisPolynomial [.inr (some B), .inl i, .inl x]) [] n k h Q := by
  show ZT n0 g mX9_loadBasisPolynomial 0 [some (.inr (some B)), some (.inl i), some (.inl x), none, none] [] n k h Q
  obtain ⟨o0, gp, gc, gsp, gsc, gw, gf, gi, go, gl, gsep, hlo⟩ := id hcl
  have hpb := hP.bd
  have gvb := go.vb
  have gcb := gf.co.2.2.1
  refine T_aload_n dX9_loadBasisPolynomial_0 rfl ?_
  refine T_iload_n dX9_loadBasisPolynomial_1 rfl ?_
  refine T_iload_n dX9_loadBasisPolynomial_2 rfl ?_
  refine T_callV dX9_loadBasisPolynomial_3 zkm_10_198 (Or.inl rfl) rfl o0 ⟨Nat.le_of_ble_eq_true rfl, rfl⟩ rfl (Nat.le_of_ble_eq_true rfl) ?_
  refine m_X9_findBasisPolynomial  hP hL hI hO hV hB hcl (fun j3 q3 ad3 t3 mo3 fa3 nb'3 cb'3 n'3 k'3 hh3 k3a k3b k3c k3d k3e k3f k3g k3h pc_3 kn_3 pf_3 po_3 adok_3 => ?_) (fun nb'3_2 cb'3_2 n'3_2 k'3_2 hh3 k3a_2 k3b_2 k3c_2 k3d_2 k3e_2 pc_3_2 kn_3_2 pf_3_2 => ?_)
  · obtain ⟨⟨r0, r1, r2, r3⟩, r4⟩ := po_3
    obtain ⟨o0, gp, gc, -⟩ := id pc_3
    obtain ⟨cu, c0, c1, c2⟩ := id gc
    have had : B + 52 ≤ ad3 := adok_3
    refine T_astore_n dX9_loadBasisPolynomial_6 (Nat.le_of_ble_eq_true rfl) ?_
    refine T_aload_n dX9_loadBasisPolynomial_7 rfl ?_
    refine T_ifnonnull dX9_loadBasisPolynomial_8 (t := 13) rfl (fun _ _ => ?_) (fun hc => by cases hc)
    refine T_aload_n dX9_loadBasisPolynomial_13 rfl ?_
    refine T_getfield dX9_loadBasisPolynomial_14 zkf_10_19 o0 rfl ?_
    refine T_callV dX9_loadBasisPolynomial_17 zkm_10_96 (Or.inl rfl) rfl c0 ⟨Nat.le_of_ble_eq_true rfl, rfl⟩ rfl (Nat.le_of_ble_eq_true rfl) ?_
    refine m_X6_clear c0 c1 (by omega) (fun f'17 hh17 k17a f17a fr17 => ?_)
    refine T_iconst dX9_loadBasisPolynomial_20 (by decide) ?_
    refine T_istore dX9_loadBasisPolynomial_21 (Nat.le_of_ble_eq_true rfl) ?_
    exact m_X9_loadBasisPolynomial_23 hP hL hI hO hV hB hcl hQ _ hh3 n'3 k'3 nb'3 cb'3 ad3 _ _ _ _ ((pB P j3).2.2.2 q3) 0 _ rfl _ f17a (fun q q1 => ((fr17 _ (by omega)).trans (rfl))) ⟨((fr17 _ (by omega)).trans r0), ((fr17 _ (by omega)).trans r1), ((fr17 _ (by omega)).trans r2)⟩ pc_3 pf_3 k3e k3f k3g k3h ⟨r3, Nat.zero_le _⟩ had r4 (by
          have e9 : i.toNat = j3 := by omega
          have e8 : x.toNat = q3 := by omega
          unfold s_lb; rw [if_pos (by rw [sBas, e9]; omega), e9, e8]) (fun i hi => absurd hi (Nat.not_lt_zero i)) (fun y hy _ => k17a y hy) 
  · refine T_astore_n dX9_loadBasisPolynomial_6 (Nat.le_of_ble_eq_true rfl) ?_
    refine T_aload_n dX9_loadBasisPolynomial_7 rfl ?_
    refine T_ifnonnull dX9_loadBasisPolynomial_8 (t := 13) rfl (fun _ hc => by cases hc) (fun _ => ?_)
    refine T_iconst dX9_loadBasisPolynomial_11 (by decide) ?_
    refine T_iret dX9_loadBasisPolynomial_12 rfl ?_
    have e : s_lb P i x = (-1, P) := if_neg k3a_2
    rw [e] at hQ
    exact hQ nb'3_2 cb'3_2 n'3_2 k'3_2 hh3 k3b_2 k3c_2 k3d_2 k3e_2 pc_3_2 pf_3_2
