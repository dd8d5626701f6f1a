/-! ===== GroebnerFan: text: printed by wip/whole/gen/s_cl6.py ===== -/
theorem zdig1 {O : tT} {c : Int} (h : 0 ≤ c ∧ c ≤ 9) : zdig O c = zput O (48 + c) := by
  unfold zdig
  rw [if_neg (by omega), show c % 10 = c by omega]
theorem baAt.pi4 {h : zHp} {b c : Nat} {H cm : Nat → Nat} {ce : Nat → Nat → Int} {wt wb : Int} (hb : baAt h b H c cm ce wt wb) {rf : Nat → Option Nat} (h2 : h (b + 2) = some (.inr (.inr (1, 4, rf)))) {i x : Nat} (hi : i < 4) (hr : rf i = some (b + 3 * x + 3)) : x < 4 := by
  obtain ⟨hf, rf', pi, _, _, z3, _, z4, z5, _⟩ := hb
  rw [h2] at z3
  cases z3
  have e := z4 i hi
  rw [hr] at e
  have e2 := z5.1 i hi
  have e3 : b + 3 * x + 3 = b + 3 * pi i + 3 := Option.some.inj e
  omega
theorem gOut.sb {h : zHp} {B lo n vb N : Nat} {O : tT} (g : gOut h B lo n O vb N) : sbA h (B + 385) O vb N := by
  obtain ⟨b, ml, a0, a1, a2, a3, a4, a5⟩ := g
  exact ⟨b, ml, a0, a1, a2, a3, a4⟩
theorem gOut.of {h : zHp} {B lo n vb N : Nat} {O : tT} (g : sbA h (B + 385) O vb N) (p : vb = B + 386 ∨ (lo ≤ vb ∧ vb < n)) : gOut h B lo n O vb N := by
  obtain ⟨b, ml, a0, a1, a2, a3, a4⟩ := g
  exact ⟨b, ml, a0, a1, a2, a3, a4, p⟩
theorem dgOk.frame {g : Nat → zV} {h h' : zHp} {lo : Nat} (d : dgOk g h lo) (f : ∀ q, q < lo → h' q = h q) : dgOk g h' lo := by
  obtain ⟨e2, e3, f2, f3, a1, a2, a3, a4, a5, a6, a7⟩ := d
  exact ⟨e2, e3, f2, f3, a1, a2, a3, a4, (f _ a3).trans a5, (f _ a4).trans a6, a7⟩
set_option maxHeartbeats 4000000 in
set_option maxRecDepth 100000 in
theorem m_X3_append {n0 n k : Nat} {g : Nat → zV} {h : zHp} {Q : Option zV → Nat → Nat → zHp → Prop} {e l : Nat} {nc : Int} {iby : Nat → Int} {x : Int} (i0 : h e = some (.inl (4, [.inl (l : Int), .inr (some (e + 1)), .inl nc, .inr (some (e + 2))]))) (i1 : h (e + 1) = some (.inr (.inl (1, 60, iby)))) (hl : l < 60) (hx : 1 ≤ x ∧ x ≤ 127) (hw : n0 ≤ e) (hQ : ∀  (h' : zHp), h' e = some (.inl (4, [.inl ((l : Int) + 1), .inr (some (e + 1)), .inl nc, .inr (some (e + 2))])) → h' (e + 1) = some (.inr (.inl (1, 60, (zfu iby l x)))) → (∀ q : Nat, q ≠ e → q ≠ (e + 1) → h' q = h q) → Q none n k h') : ZT n0 g mX3_append 0 (zloc mX3_append [.inr (some e), .inl x]) [] n k h Q := by
  show ZT n0 g mX3_append 0 [some (.inr (some e)), some (.inl x)] [] n k h Q
  refine T_aload_n dX3_append_0 rfl ?_
  refine T_getfield dX3_append_1 zkf_4_9 i0 rfl ?_
  refine T_bipush dX3_append_4 (by decide) ?_
  refine T_icmp_ge dX3_append_6 (t := 30) rfl (fun hc => absurd hc (by omega)) (fun _ => ?_)
  refine T_aload_n dX3_append_9 rfl ?_
  refine T_getfield dX3_append_10 zkf_4_15 i0 rfl ?_
  refine T_aload_n dX3_append_13 rfl ?_
  refine T_getfield dX3_append_14 zkf_4_9 i0 rfl ?_
  refine T_iload_n dX3_append_17 rfl ?_
  refine T_i2b dX3_append_18 ⟨by omega, by omega⟩ ?_
  refine T_bastoreN (m := l) dX3_append_19 i1 (by decide) rfl (by omega) (by omega) (zfitB (by omega)) ?_
  refine T_aload_n dX3_append_20 rfl ?_
  refine T_dup dX3_append_21 ?_
  refine T_getfield dX3_append_22 zkf_4_9 (zup_ne (by omega) i0) rfl ?_
  refine T_iconst dX3_append_25 (by decide) ?_
  refine T_iadd dX3_append_26 ⟨by omega, by omega⟩ ?_
  refine T_putfield dX3_append_27 zkf_4_9 (zup_ne (by omega) i0) (Nat.le_of_ble_eq_true rfl) (by omega) rfl (fun hf => absurd hf (by decide)) rfl ?_
  refine T_vret dX3_append_30 rfl ?_
  exact hQ _ zup_self (zup_ne (by omega) zup_self) (fun q q0 q1 => ((zup_nf q0).trans ((zup_nf q1).trans rfl)))
set_option maxHeartbeats 4000000 in
set_option maxRecDepth 100000 in
theorem m_X9_inputLength {n0 n k : Nat} {g : Nat → zV} {h : zHp} {Q : Option zV → Nat → Nat → zHp → Prop} {B lo : Nat} {P : pT} {L : lT} {I O : tT} {V : Int × pT} {nb vb N : Nat} {cb : Nat → Nat} (hP : pwf P) (hL : lwf L) (hI : iwf I) (hO : owf O) (hV : vwf V) (hB : n0 ≤ B) (hcl : clAt h B lo n P L I O V nb cb vb N) (hQ : Q (some (.inl (I.1 : Int))) n k h) : ZT n0 g mX9_inputLength 0 (zloc mX9_inputLength [.inr (some B)]) [] n k h Q := by
  show ZT n0 g mX9_inputLength 0 [some (.inr (some B))] [] n k h Q
  obtain ⟨o0, gp, gc, gsp, gsc, gw, gf, gi, go, gl, gsep, hlo⟩ := id hcl
  have hpb := hP.bd
  have gvb := go.vb
  have gcb := gf.co.2.2.1
  obtain ⟨iby, inu, inc, i0, i1, i2, i3⟩ := id gi
  refine T_aload_n dX9_inputLength_0 rfl ?_
  refine T_getfield dX9_inputLength_1 zkf_10_66 o0 rfl ?_
  refine T_getfield dX9_inputLength_4 zkf_10_266 i0 rfl ?_
  refine T_iret dX9_inputLength_7 rfl ?_
  exact hQ
set_option maxHeartbeats 4000000 in
set_option maxRecDepth 100000 in
theorem m_X9_appendInput {n0 n k : Nat} {g : Nat → zV} {h : zHp} {Q : Option zV → Nat → Nat → zHp → Prop} {B lo : Nat} {P : pT} {L : lT} {I O : tT} {V : Int × pT} {nb vb N : Nat} {cb : Nat → Nat} {x : Int} (hP : pwf P) (hL : lwf L) (hI : iwf I) (hO : owf O) (hV : vwf V) (hB : n0 ≤ B) (hcl : clAt h B lo n P L I O V nb cb vb N) (hQ : ∀  (h' : zHp), (clAt h' B lo n P L (s_ai I x).2 O V nb cb vb N) → (∀ q : Nat, (q < B ∨ (B + 396 ≤ q ∧ q < lo)) → h' q = h q) → Q (some (.inl ((s_ai I x).1))) n k h') : ZT n0 g mX9_appendInput 0 (zloc mX9_appendInput [.inr (some B), .inl x]) [] n k h Q := by
  show ZT n0 g mX9_appendInput 0 [some (.inr (some B)), some (.inl x)] [] n k h Q
  obtain ⟨o0, gp, gc, gsp, gsc, gw, gf, gi, go, gl, gsep, hlo⟩ := id hcl
  have hpb := hP.bd
  have gvb := go.vb
  have gcb := gf.co.2.2.1
  obtain ⟨iby, inu, inc, i0, i1, i2, i3⟩ := id gi
  refine T_iload_n dX9_appendInput_0 rfl ?_
  refine T_iconst dX9_appendInput_1 (by decide) ?_
  refine T_icmp_lt dX9_appendInput_2 (t := 11) rfl (fun c2 => ?_) (fun c2 => ?_)
  · refine T_bipush dX9_appendInput_11 (by decide) ?_
    refine T_iret dX9_appendInput_13 rfl ?_
    have e : s_ai I x = (-2, I) := by exact if_neg (by omega)
    rw [e] at hQ
    exact hQ h hcl (fun _ _ => rfl)
  · refine T_iload_n dX9_appendInput_5 rfl ?_
    refine T_bipush dX9_appendInput_6 (by decide) ?_
    refine T_icmp_le dX9_appendInput_8 (t := 14) rfl (fun c8 => ?_) (fun c8 => ?_)
    · refine T_aload_n dX9_appendInput_14 rfl ?_
      refine T_getfield dX9_appendInput_15 zkf_10_66 o0 rfl ?_
      refine T_getfield dX9_appendInput_18 zkf_10_266 i0 rfl ?_
      refine T_bipush dX9_appendInput_21 (by decide) ?_
      refine T_icmp_lt dX9_appendInput_23 (t := 29) rfl (fun c23 => ?_) (fun c23 => ?_)
      · refine T_aload_n dX9_appendInput_29 rfl ?_
        refine T_getfield dX9_appendInput_30 zkf_10_66 o0 rfl ?_
        refine T_iload_n dX9_appendInput_33 rfl ?_
        refine T_callV dX9_appendInput_34 zkm_10_267 (Or.inl rfl) rfl i0 ⟨Nat.le_of_ble_eq_true rfl, rfl⟩ rfl (Nat.le_of_ble_eq_true rfl) ?_
        refine m_X3_append i0 i1 (by omega) (by omega) (by omega) (fun hh34 f34a f34b fr34 => ?_)
        refine T_aload_n dX9_appendInput_37 rfl ?_
        refine T_getfield dX9_appendInput_38 zkf_10_66 ((fr34 _ (by omega) (by omega)).trans o0) rfl ?_
        refine T_getfield dX9_appendInput_41 zkf_10_266 f34a rfl ?_
        refine T_iret dX9_appendInput_44 rfl ?_
        have e : s_ai I x = ((I.1 : Int) + 1, zput I x) := by unfold s_ai; rw [if_pos (by omega), if_pos (by omega)]
        rw [e] at hQ
        exact hQ _ ⟨((fr34 _ (by omega) (by omega)).trans o0), (gp.frame (fun q a1 a2 => ((fr34 _ (by omega) (by omega)).trans (rfl)))), (gc.frame (fun q a1 a2 => ((fr34 _ (by omega) (by omega)).trans (rfl)))), (gsp.frame (fun q a1 a2 => ((fr34 _ (by omega) (by omega)).trans (rfl)))), (gsc.frame (fun q a1 a2 => ((fr34 _ (by omega) (by omega)).trans (rfl)))), (gw.frame (fun q a1 a2 => ((fr34 _ (by omega) (by omega)).trans (rfl)))), (gf.frame hP (Nat.le_refl _) (fun q a1 a2 => ((fr34 _ (by omega) (by omega)).trans (rfl))) (fun i hi q a1 a2 => by have := gcb i hi; exact ((fr34 _ (by omega) (by omega)).trans (rfl)))), ⟨_, inu, inc, f34a, f34b, ((fr34 _ (by omega) (by omega)).trans i2), fun i hi => by
          have hi : i < I.1 + 1 := hi
          by_cases e9 : i = I.1
          · rw [e9]; exact zfu_self.trans zfu_self.symm
          · exact (zfu_ne e9).trans ((i3 i (by omega)).trans (zfu_ne e9).symm)⟩, (go.frame (Nat.le_refl _) (by exact ((fr34 _ (by omega) (by omega)).trans (rfl))) (by exact ((fr34 _ (by omega) (by omega)).trans (rfl)))), (gl.frame (fun q a1 a2 => ((fr34 _ (by omega) (by omega)).trans (rfl)))), gsep, hlo⟩ (fun q a1 => ((fr34 _ (by omega) (by omega)).trans (rfl)))
      · refine T_bipush dX9_appendInput_26 (by decide) ?_
        refine T_iret dX9_appendInput_28 rfl ?_
        have e : s_ai I x = (-4, I) := by unfold s_ai; rw [if_pos (by omega), if_neg (by omega)]
        rw [e] at hQ
        exact hQ h hcl (fun _ _ => rfl)
    · refine T_bipush dX9_appendInput_11 (by decide) ?_
      refine T_iret dX9_appendInput_13 rfl ?_
      have e : s_ai I x = (-2, I) := by exact if_neg (by omega)
      rw [e] at hQ
      exact hQ h hcl (fun _ _ => rfl)
set_option maxHeartbeats 4000000 in
set_option maxRecDepth 100000 in
theorem m_X9_outputByte {n0 n k : Nat} {g : Nat → zV} {h : zHp} {Q : Option zV → Nat → Nat → zHp → Prop} {B lo : Nat} {P : pT} {L : lT} {I O : tT} {V : Int × pT} {nb vb N : Nat} {cb : Nat → Nat} {i : Int} {r4 : Option Nat} (hP : pwf P) (hL : lwf L) (hI : iwf I) (hO : owf O) (hV : vwf V) (hB : n0 ≤ B) (hcl : clAt h B lo n P L I O V nb cb vb N) (hg4 : g 4 = .inr r4) (hQ : Q (some (.inl (s_ob O i))) n k h) : ZT n0 g mX9_outputByte 0 (zloc mX9_outputByte [.inr (some B), .inl i]) [] n k h Q := by
  show ZT n0 g mX9_outputByte 0 [some (.inr (some B)), some (.inl i)] [] n k h Q
  obtain ⟨o0, gp, gc, gsp, gsc, gw, gf, gi, go, gl, gsep, hlo⟩ := id hcl
  have hpb := hP.bd
  have gvb := go.vb
  have gcb := gf.co.2.2.1
  obtain ⟨oby, oml, q0, q1, q2, q3, q4, q5⟩ := id go
  refine T_iload_n dX9_outputByte_0 rfl ?_
  refine T_if_lt dX9_outputByte_1 (t := 15) rfl (fun c1 => ?_) (fun c1 => ?_)
  · refine T_iconst dX9_outputByte_15 (by decide) ?_
    refine T_iret dX9_outputByte_16 rfl ?_
    have e : s_ob O i = -1 := if_neg (by omega)
    rw [e] at hQ
    exact hQ
  · refine T_iload_n dX9_outputByte_4 rfl ?_
    refine T_aload_n dX9_outputByte_5 rfl ?_
    refine T_getfield dX9_outputByte_6 zkf_10_73 o0 rfl ?_
    refine T_callV dX9_outputByte_9 zkm_10_288 (Or.inl rfl) rfl q0 ⟨Nat.le_of_ble_eq_true rfl, rfl⟩ rfl (Nat.le_of_ble_eq_true rfl) ?_
    refine m_J4_length_8abf5 q0  ?_
    refine T_icmp_lt dX9_outputByte_12 (t := 17) rfl (fun c12 => ?_) (fun c12 => ?_)
    · refine T_aload_n dX9_outputByte_17 rfl ?_
      refine T_getfield dX9_outputByte_18 zkf_10_73 o0 rfl ?_
      refine T_iload_n dX9_outputByte_21 rfl ?_
      obtain ⟨j, rfl⟩ := Int.eq_ofNat_of_zero_le (show 0 ≤ i by omega)
      have hj : j < O.1 := by omega
      have oj := hO.2 j hj
      have qj := q4 j hj
      refine T_callV dX9_outputByte_22 zkm_10_290 (Or.inl rfl) rfl q0 ⟨Nat.le_of_ble_eq_true rfl, rfl⟩ rfl (Nat.le_of_ble_eq_true rfl) ?_
      refine m_J4_charAt_5068e q0 q1 hg4 (by omega) (by omega) ?_
      refine T_iret dX9_outputByte_25 rfl ?_
      have e : s_ob O (j : Int) = oby j := by unfold s_ob; rw [if_pos (by omega), Int.toNat_natCast, qj]
      rw [e] at hQ
      exact hQ
    · refine T_iconst dX9_outputByte_15 (by decide) ?_
      refine T_iret dX9_outputByte_16 rfl ?_
      have e : s_ob O i = -1 := if_neg (by omega)
      rw [e] at hQ
      exact hQ
set_option maxHeartbeats 4000000 in
set_option maxRecDepth 100000 in
theorem m_X9_writeTerm {n0 n k : Nat} {g : Nat → zV} {h : zHp} {Q : Option zV → Nat → Nat → zHp → Prop} {B vb N : Nat} {V : Int × pT} {O : tT} {lo0 m x : Nat} (o0 : h B = some (.inl (10, [.inr (some (B + 1)), .inr (some (B + 4)), .inr (some (B + 6)), .inr (some (B + 9)), .inl V.1, .inr (some (B + 11)), .inr (some (B + 34)), .inr (some (B + 35)), .inr (some (B + 50)), .inr (some (B + 382)), .inr (some (B + 385)), .inr (some (B + 387))]))) (hg0 : g 0 = .inl 1) (hsb : sbA h (B + 385) O vb N) (hw : n0 ≤ B ∧ n0 ≤ vb ∧ n0 ≤ n) (hd : B + 385 ≠ vb ∧ B ≠ vb ∧ B + 385 < n ∧ vb < n) (hdg : dgOk g h lo0) (hlo0 : lo0 ≤ B ∧ lo0 ≤ vb ∧ lo0 ≤ n) (hO : ovf O ∧ O.1 ≤ 80) (hx : x ≤ 99 ∧ m < 81) (hQ : ∀ (vb' N' n' k' : Nat) (h' : zHp), (N ≤ N' ∧ n ≤ n' ∧ n' ≤ n + (N' - N) ∧ k ≤ k' ∧ k' ≤ k + 3 * (N' - N)) → ((vb' = vb ∧ n' = n) ∨ (n ≤ vb' ∧ vb' < n')) → (sbA h' (B + 385) (zterm O (x : Int) m) vb' N') → (∀ q : Nat, q ≠ B + 385 → q ≠ vb → q < n → h' q = h q) → Q none n' k' h') : ZT n0 g mX9_writeTerm 0 (zloc mX9_writeTerm [.inr (some B), .inl (m : Int), .inl (x : Int)]) [] n k h Q := by
  show ZT n0 g mX9_writeTerm 0 [some (.inr (some B)), some (.inl (m : Int)), some (.inl (x : Int)), none, none] [] n k h Q
  obtain ⟨by0, ml0, sb0, -, -, -, -⟩ := id hsb
  have oD := zdig_le hO.1 (c := (x : Int)) (by omega)
  have eX : (zput (zdig O (x : Int)) 120).1 = (zdig O (x : Int)).1 + 1 := rfl
  have J38 : ∀ (vb2 : Nat) (N2 : Nat) (n2 : Nat) (k2 : Nat) (h2 : zHp), (sbA h2 (B + 385) (zvar (zdig O (x : Int)) 120 (m / 9)) vb2 N2) → (∀ q : Nat, q ≠ B + 385 → q ≠ vb → q < n → h2 q = h q) → (N ≤ N2 ∧ n ≤ n2 ∧ n2 ≤ n + (N2 - N) ∧ k ≤ k2 ∧ k2 ≤ k + 3 * (N2 - N)) → ((vb2 = vb ∧ n2 = n) ∨ (n ≤ vb2 ∧ vb2 < n2)) → ZT n0 g mX9_writeTerm 38 [some (.inr (some B)), some (.inl (m : Int)), some (.inl (x : Int)), some (.inl ((m / 9) : Int)), some (.inl ((m % 9) : Int))] [] n2 k2 h2 Q := by
    intro vb2 N2 n2 k2 h2 sb2 jf c1 c2
    obtain ⟨by2, ml2, sb3, -, -, -, -⟩ := id sb2
    have oV := zvar_le (O := zdig O (x : Int)) (b := 120) (e := m / 9) oD.1 (by decide) (by omega)
    have eY : (zput (zvar (zdig O (x : Int)) 120 (m / 9)) 121).1 = (zvar (zdig O (x : Int)) 120 (m / 9)).1 + 1 := rfl
    
    refine T_iload dX9_writeTerm_38 rfl ?_
    refine T_if_eq dX9_writeTerm_40 (t := 58) rfl (fun c40 => ?_) (fun c40 => ?_)
    · refine T_vret dX9_writeTerm_58 rfl ?_
      have ez : zterm O (x : Int) m = zvar (zdig O (x : Int)) 120 (m / 9) := if_neg (by omega)
      rw [ez] at hQ
      exact hQ vb2 N2 n2 k2 h2 (by omega) (by omega) sb2 jf
    · refine T_aload_n dX9_writeTerm_43 rfl ?_
      refine T_getfield dX9_writeTerm_44 zkf_10_73 ((jf _ (by omega) (by omega) (by omega)).trans o0) rfl ?_
      refine T_bipush dX9_writeTerm_47 (by decide) ?_
      refine T_callV dX9_writeTerm_49 zkm_10_285 (Or.inl rfl) rfl sb3 ⟨Nat.le_of_ble_eq_true rfl, rfl⟩ rfl (Nat.le_of_ble_eq_true rfl) ?_
      refine m_J4_append_cf468 (N := N2) (O := zvar (zdig O (x : Int)) 120 (m / 9))  hg0 sb2 (by omega) (by omega) (by omega) (by omega) (fun vb'49 N'49 n'49 k'49 hh49 k49a k49b sb_49 pf_49 => ?_)
      obtain ⟨by49, ml49, sb49, -, -, -, -⟩ := id sb_49
      refine T_iload dX9_writeTerm_52 rfl ?_
      refine T_callV dX9_writeTerm_54 zkm_10_323 (Or.inl rfl) rfl sb49 ⟨Nat.le_of_ble_eq_true rfl, rfl⟩ rfl (Nat.le_of_ble_eq_true rfl) ?_
      refine m_J4_append_bf812 (x := (m % 9)) (N := N'49) (O := zput (zvar (zdig O (x : Int)) 120 (m / 9)) 121)  hg0 sb_49 (by omega) (by omega) (hdg.frame (fun q hq => ((pf_49 q (by omega) (by omega) (by omega)).trans (jf q (by omega) (by omega) (by omega))))) (by omega) (by omega) (by omega) (fun vb'54 N'54 n'54 k'54 hh54 k54a k54b sb_54 pf_54 => ?_)
      obtain ⟨by54, ml54, sb54, -, -, -, -⟩ := id sb_54
      refine T_pop dX9_writeTerm_57 ?_
      refine T_vret dX9_writeTerm_58 rfl ?_
      have ez : zterm O (x : Int) m = zput (zput (zvar (zdig O (x : Int)) 120 (m / 9)) 121) (48 + ((m % 9 : Nat) : Int)) := if_pos (by omega)
      rw [ez, ← zdig1 (by omega)] at hQ
      exact hQ vb'54 N'54 n'54 k'54 hh54 (by omega) (by omega) sb_54 (fun q a1 a2 a3 => ((pf_54 q (by omega) (by omega) (by omega)).trans ((pf_49 q (by omega) (by omega) (by omega)).trans (jf q (by omega) (by omega) (by omega)))))
  refine T_aload_n dX9_writeTerm_0 rfl ?_
  refine T_getfield dX9_writeTerm_1 zkf_10_73 o0 rfl ?_
  refine T_iload_n dX9_writeTerm_4 rfl ?_
  refine T_callV dX9_writeTerm_5 zkm_10_323 (Or.inl rfl) rfl sb0 ⟨Nat.le_of_ble_eq_true rfl, rfl⟩ rfl (Nat.le_of_ble_eq_true rfl) ?_
  refine m_J4_append_bf812 (N := N) (O := O)  hg0 hsb (by omega) (by omega) hdg (by omega) (by omega) (by omega) (fun vb'5 N'5 n'5 k'5 hh5 k5a k5b sb_5 pf_5 => ?_)
  obtain ⟨by5, ml5, sb5, -, -, -, -⟩ := id sb_5
  refine T_pop dX9_writeTerm_8 ?_
  refine T_iload_n dX9_writeTerm_9 rfl ?_
  refine T_bipush dX9_writeTerm_10 (by decide) ?_
  refine T_idivN dX9_writeTerm_12 ⟨by omega, by omega⟩ (by omega) ?_
  refine T_istore_n dX9_writeTerm_13 (Nat.le_of_ble_eq_true rfl) ?_
  refine T_iload_n dX9_writeTerm_14 rfl ?_
  refine T_bipush dX9_writeTerm_15 (by decide) ?_
  refine T_iremN dX9_writeTerm_17 ⟨by omega, by omega⟩ (by omega) ?_
  refine T_istore dX9_writeTerm_18 (Nat.le_of_ble_eq_true rfl) ?_
  refine T_iload_n dX9_writeTerm_20 rfl ?_
  refine T_if_eq dX9_writeTerm_21 (t := 38) rfl (fun c21 => ?_) (fun c21 => ?_)
  · exact J38 vb'5 N'5 n'5 k'5 _ (by rw [show zvar (zdig O (x : Int)) 120 (m / 9) = zdig O (x : Int) from if_neg (by omega)]; exact sb_5) (fun q a1 a2 a3 => (pf_5 q (by omega) (by omega) (by omega))) (by omega) (by omega)
  · refine T_aload_n dX9_writeTerm_24 rfl ?_
    refine T_getfield dX9_writeTerm_25 zkf_10_73 ((pf_5 _ (by omega) (by omega) (by omega)).trans o0) rfl ?_
    refine T_bipush dX9_writeTerm_28 (by decide) ?_
    refine T_callV dX9_writeTerm_30 zkm_10_285 (Or.inl rfl) rfl sb5 ⟨Nat.le_of_ble_eq_true rfl, rfl⟩ rfl (Nat.le_of_ble_eq_true rfl) ?_
    refine m_J4_append_cf468 (N := N'5) (O := zdig O (x : Int))  hg0 sb_5 (by omega) (by omega) (by omega) (by omega) (fun vb'30 N'30 n'30 k'30 hh30 k30a k30b sb_30 pf_30 => ?_)
    obtain ⟨by30, ml30, sb30, -, -, -, -⟩ := id sb_30
    refine T_iload_n dX9_writeTerm_33 rfl ?_
    refine T_callV dX9_writeTerm_34 zkm_10_323 (Or.inl rfl) rfl sb30 ⟨Nat.le_of_ble_eq_true rfl, rfl⟩ rfl (Nat.le_of_ble_eq_true rfl) ?_
    refine m_J4_append_bf812 (x := (m / 9)) (N := N'30) (O := zput (zdig O (x : Int)) 120)  hg0 sb_30 (by omega) (by omega) (hdg.frame (fun q hq => ((pf_30 q (by omega) (by omega) (by omega)).trans (pf_5 q (by omega) (by omega) (by omega))))) (by omega) (by omega) (by omega) (fun vb'34 N'34 n'34 k'34 hh34 k34a k34b sb_34 pf_34 => ?_)
    obtain ⟨by34, ml34, sb34, -, -, -, -⟩ := id sb_34
    refine T_pop dX9_writeTerm_37 ?_
    exact J38 vb'34 N'34 n'34 k'34 _ (by rw [show zvar (zdig O (x : Int)) 120 (m / 9) = zput (zput (zdig O (x : Int)) 120) (48 + ((m / 9 : Nat) : Int)) from if_pos (by omega), ← zdig1 (by omega)]; exact sb_34) (fun q a1 a2 a3 => ((pf_34 q (by omega) (by omega) (by omega)).trans ((pf_30 q (by omega) (by omega) (by omega)).trans (pf_5 q (by omega) (by omega) (by omega))))) (by omega) (by omega)
set_option maxHeartbeats 4000000 in
set_option maxRecDepth 100000 in
theorem f2_findBasisPolynomial {n0 n k : Nat} {g : Nat → zV} {h : zHp} {Q : Option zV → Nat → Nat → zHp → Prop} {B lo : Nat} {P : pT} {L : lT} {I O : tT} {V : Int × pT} {nb vb N : Nat} {cb : Nat → Nat} {i x : Int} (hP : pwf P) (hL : lwf L) (hI : iwf I) (hO : owf O) (hV : vwf V) (hB : n0 ≤ B) (hcl : clAt h B lo n P L I O V nb cb vb N) (hT : ∀ (j q ad t : Nat) (mo fa : Nat → Int) (nb' : Nat) (cb' : Nat → Nat) (n' k' : Nat) (h' : zHp), (j < pN P) → (i = (j : Int)) → (q < (pB P j).2.1) → (x = (q : Int)) → (nb ≤ nb') → (n ≤ n' ∧ n' ≤ n + 15 * (nb' - nb)) → (k' ≤ k + 110 * (nb' - nb)) → (∀ i, i < nb → cb' i = cb i) → (clAt h' B lo n' P L I O V nb' cb' vb N) → (h' (B + 50) = some (.inl (3, [.inl (pN P : Int), .inr (some (B + 51))])) ∧ pN P ≤ nb' ∧ ∀ i, i < pN P → bsAt h' (cb' i) (pB P i) (pW P i)) → (∀ q : Nat, (q < B ∨ (B + 396 ≤ q ∧ q < lo)) → h' q = h q) → (poAt h' ad ((pB P j).2.2.1 q) t mo fa ∧ zRep t mo fa ((pB P j).2.2.2 q)) → (B + 52 ≤ ad) → (B + 52 ≤ ad ∧ ad + 3 ≤ B + 382 ∧ (vb < ad ∨ ad + 3 ≤ vb)) → Q (some (.inr (some ad))) n' k' h') (hF : ∀ (nb' : Nat) (cb' : Nat → Nat) (n' k' : Nat) (h' : zHp), (¬ sBas P i x) → (nb ≤ nb') → (n ≤ n' ∧ n' ≤ n + 15 * (nb' - nb)) → (k' ≤ k + 110 * (nb' - nb)) → (∀ i, i < nb → cb' i = cb i) → (clAt h' B lo n' P L I O V nb' cb' vb N) → (h' (B + 50) = some (.inl (3, [.inl (pN P : Int), .inr (some (B + 51))])) ∧ pN P ≤ nb' ∧ ∀ i, i < pN P → bsAt h' (cb' i) (pB P i) (pW P i)) → (∀ q : Nat, (q < B ∨ (B + 396 ≤ q ∧ q < lo)) → h' q = h q) → Q (some (.inr none)) n' k' h') : ZT n0 g mX9_findBasisPolynomial 0 (zloc mX9_findBasisPolynomial [.inr (some B), .inl i, .inl x]) [] n k h Q := by
  show ZT n0 g mX9_findBasisPolynomial 0 [some (.inr (some B)), some (.inl i), some (.inl x), none] [] n k h Q
  obtain ⟨o0, gp, gc, gsp, gsc, gw, gf, gi, go, gl, gsep, hlo⟩ := id hcl
  have hpb := hP.bd
  have gvb := go.vb
  have gcb := gf.co.2.2.1
  refine T_aload_n dX9_findBasisPolynomial_0 rfl ?_
  refine T_iload_n dX9_findBasisPolynomial_1 rfl ?_
  refine T_callV dX9_findBasisPolynomial_2 zkm_10_173 (Or.inl rfl) rfl o0 ⟨Nat.le_of_ble_eq_true rfl, rfl⟩ rfl (Nat.le_of_ble_eq_true rfl) ?_
  refine m_X9_findCone  hP hL hI hO hV hB hcl (fun j2 nb'2 cb'2 n'2 k'2 hh2 k2a k2b k2c k2d k2e k2f pc_2 kn_2 pf_2 => ?_) (fun nb'2_2 cb'2_2 n'2_2 k'2_2 hh2 k2a_2 k2b_2 k2c_2 k2d_2 k2e_2 pc_2_2 kn_2_2 pf_2_2 => ?_)
  · obtain ⟨ke1, ke2, ke3⟩ := id kn_2
    obtain ⟨o0, -, -, -, -, -, gf9, -⟩ := id pc_2
    obtain ⟨cN44, ⟨cf, cf1, cf2⟩, -⟩ := gf9.co
    have hcf : ∀ i, i < pN P → cf i = some (cb'2 i) := fun i hi => cf2 i (by omega)
    have hNi := pN_is hP
    have hN1 := hNi.1
    have hN23 := hNi.2.1
    obtain ⟨hf, rf, pi, t, mo, fa, d0, d1, d2, d3, d4, d5, d6, d7⟩ := (ke3 j2 k2a).open4
    have dB := pB_facts hP j2
    refine T_astore_n dX9_findBasisPolynomial_5 (Nat.le_of_ble_eq_true rfl) ?_
    refine T_aload_n dX9_findBasisPolynomial_6 rfl ?_
    refine T_ifnonnull dX9_findBasisPolynomial_7 (t := 14) rfl (fun _ _ => ?_) (fun hc => by cases hc)
    refine T_aload_n dX9_findBasisPolynomial_14 rfl ?_
    refine T_iload_n dX9_findBasisPolynomial_15 rfl ?_
    refine T_callV dX9_findBasisPolynomial_16 zkm_10_155 (Or.inl rfl) rfl d0 ⟨Nat.le_of_ble_eq_true rfl, rfl⟩ rfl (Nat.le_of_ble_eq_true rfl) ?_
    refine m_X7_find d0 d2 dB.1 d4 (fun j16 k16a k16b => ?_) (fun k16a_2 => ?_)
    · refine T_aret dX9_findBasisPolynomial_19 rfl ?_
      exact hT j2 j16 (cb'2 j2 + 3 * pi j16 + 3) (t j16) (mo j16) (fa j16) nb'2 cb'2 n'2 k'2 hh2 k2a k2b k16a k16b k2c k2d k2e k2f pc_2 kn_2 pf_2 ⟨⟨d5 j16 k16a, (d6 j16 k16a).1, (d6 j16 k16a).2.1, (d6 j16 k16a).2.2⟩, d7 j16 k16a⟩ (by
        obtain ⟨-, -, -, -, -, -, gf8, -, -, -, -, hlo8⟩ := id pc_2
        have q8 := (gf8.co.2.2.1 j2 (by omega)).1
        omega) (by
        obtain ⟨-, -, -, -, -, -, gf8, -, -, -, gsep8, hlo8⟩ := id pc_2
        have q8 := gf8.co.2.2.1 j2 (by omega)
        have q7 := gsep8 j2 (by omega)
        have q6 := baAt.pi4 (ke3 j2 k2a) d2 (show j16 < 4 by have := dB.1; omega) (d4 j16 (by have := dB.1; omega))
        omega)
    · refine T_aret dX9_findBasisPolynomial_19 rfl ?_
      exact hF  nb'2 cb'2 n'2 k'2 hh2 (fun q => by
        have e9 : i.toNat = j2 := by omega
        rw [sBas, e9] at q
        exact k16a_2 q.2) k2c k2d k2e k2f pc_2 kn_2 pf_2
  · obtain ⟨ke1, ke2, ke3⟩ := id kn_2_2
    obtain ⟨o0, -, -, -, -, -, gf9, -⟩ := id pc_2_2
    obtain ⟨cN44, ⟨cf, cf1, cf2⟩, -⟩ := gf9.co
    have hcf : ∀ i, i < pN P → cf i = some (cb'2_2 i) := fun i hi => cf2 i (by omega)
    have hNi := pN_is hP
    have hN1 := hNi.1
    have hN23 := hNi.2.1
    refine T_astore_n dX9_findBasisPolynomial_5 (Nat.le_of_ble_eq_true rfl) ?_
    refine T_aload_n dX9_findBasisPolynomial_6 rfl ?_
    refine T_ifnonnull dX9_findBasisPolynomial_7 (t := 14) rfl (fun _ hc => by cases hc) (fun _ => ?_)
    refine T_null dX9_findBasisPolynomial_10 ?_
    refine T_goto dX9_findBasisPolynomial_11 (t := 19) rfl ?_
    refine T_aret dX9_findBasisPolynomial_19 rfl ?_
    exact hF  nb'2_2 cb'2_2 n'2_2 k'2_2 hh2 (fun q => k2a_2 q.1) k2b_2 k2c_2 k2d_2 k2e_2 pc_2_2 kn_2_2 pf_2_2
set_option maxHeartbeats 4000000 in
set_option maxRecDepth 100000 in
theorem m_X9_format_33 {n0 n k : Nat} {g : Nat → zV} {h : zHp} {Q : Option zV → Nat → Nat → zHp → Prop} {B lo : Nat} {P : pT} {L : lT} {I O : tT} {V : Int × pT} {nb vb N : Nat} {cb : Nat → Nat} {i x : Int} (hP : pwf P) (hL : lwf L) (hI : iwf I) (hO : owf O) (hV : vwf V) (hB : n0 ≤ B) (hcl : clAt h B lo n P L I O V nb cb vb N) (hg0 : g 0 = .inl 1) (hdg : dgOk g h B) (hn0 : n0 ≤ lo) (hQ : ∀ (vb' N' nb' : Nat) (cb' : Nat → Nat) (n' k' : Nat) (h' : zHp), (owf (s_fm P O i x).2) → (nb ≤ nb' ∧ N ≤ N') → (n ≤ n' ∧ n' ≤ n + 15 * (nb' - nb) + (N' - N)) → (k' ≤ k + 110 * (nb' - nb) + 3 * (N' - N)) → (∀ i, i < nb → cb' i = cb i) → (clAt h' B lo n' P L I (s_fm P O i x).2 V nb' cb' vb' N') → (∀ q : Nat, (q < B ∨ (B + 396 ≤ q ∧ q < lo)) → h' q = h q) → Q (some (.inl ((s_fm P O i x).1))) n' k' h') : ∀ (d : Nat) (h9 : zHp) (n9 : Nat) (k9 : Nat) (nb9 : Nat) (cb9 : Nat → Nat) (ad : Nat) (cm : Nat) (t : Nat) (mo : Nat → Int) (fa : Nat → Int) (C : Nat → Int) (y : Nat) (w : Nat) (O2 : tT) (vb2 : Nat) (N2 : Nat) (n2 : Nat) (k2 : Nat), t - y = d → ∀ h1 : zHp, (sbA h1 (B + 385) O2 vb2 N2) → (∀ q : Nat, q ≠ B + 385 → q ≠ vb → q < n9 → h1 q = h9 q) → (clAt h9 B lo n9 P L I O V nb9 cb9 vb N) → (∀ q : Nat, (q < B ∨ (B + 396 ≤ q ∧ q < lo)) → h9 q = h q) → (nb ≤ nb9) → (n ≤ n9 ∧ n9 ≤ n + 15 * (nb9 - nb)) → (k9 ≤ k + 110 * (nb9 - nb)) → (∀ i, i < nb → cb9 i = cb i) → (h9 ad = some (.inl (1, [.inl (cm : Int), .inl (t : Int), .inr (some (ad + 1)), .inr (some (ad + 2))])) ∧ zar h9 (ad + 1) 9 mo ∧ zar h9 (ad + 2) 9 fa) → (B + 52 ≤ ad ∧ ad + 3 ≤ B + 382 ∧ (vb < ad ∨ ad + 3 ≤ vb)) → (t ≤ 9 ∧ y ≤ t) → (zRep t mo fa C) → (∀ q, 0 ≤ C q ∧ C q < 32) → (s_fm P O i x = (((zfmt C cm (zterm oNil 1 cm) 81).1 : Int), zfmt C cm (zterm oNil 1 cm) 81)) → (O2 = zfmt C cm (zterm oNil 1 cm) w ∧ w ≤ 81) → (∀ q, q < y → 81 ≤ (mo q).toNat + w) → (∀ q, y ≤ q → q < t → (mo q).toNat + w < 81) → (ovf O2 ∧ O2.1 ≤ 6 + 7 * y) → (N ≤ N2 ∧ n9 ≤ n2 ∧ n2 ≤ n9 + (N2 - N) ∧ k9 ≤ k2 ∧ k2 ≤ k9 + 3 * (N2 - N)) → ((vb2 = vb ∧ n2 = n9) ∨ (vb2 = vb ∧ n9 ≤ n2) ∨ (n9 ≤ vb2 ∧ vb2 < n2)) → ZT n0 g mX9_format 33 [some (.inr (some B)), some (.inl i), some (.inl x), some (.inr (some ad)), some (.inl (y : Int))] [] n2 k2 h1 Q := by
  intro d
  induction d using Nat.strongRecOn with | _ d ih => ?_
  intro h9 n9 k9 nb9 cb9 ad cm t mo fa C y w O2 vb2 N2 n2 k2 hd0 h1 sb2 jfr cl9 hfr9 hc1 hc2 hc3 hc4 hpo had ht hz hcb hfm hO2 hw1 hw2 hov c1 c2
  subst hd0
  obtain ⟨o0, gp, gc, gsp, gsc, gw, gf, gi, go, gl, gsep, hlo⟩ := id cl9
  have hpb := hP.bd
  have gvb := go.vb
  have gcb := gf.co.2.2.1
  obtain ⟨r0, r1, r2⟩ := id hpo
  obtain ⟨by2, ml2, sb0, -, -, -, -⟩ := id sb2
  obtain ⟨oby, oml, q0, q1, q2, q3, q4, q5⟩ := id go
  refine T_iload dX9_format_33 rfl ?_
  refine T_aload_n dX9_format_35 rfl ?_
  refine T_getfield dX9_format_36 zkf_10_261 ((jfr _ (by omega) (by omega) (by omega)).trans r0) rfl ?_
  refine T_icmp_ge dX9_format_39 (t := 90) rfl (fun c39 => ?_) (fun c39 => ?_)
  · refine T_aload_n dX9_format_90 rfl ?_
    refine T_getfield dX9_format_91 zkf_10_73 ((jfr _ (by omega) (by omega) (by omega)).trans o0) rfl ?_
    refine T_callV dX9_format_94 zkm_10_288 (Or.inl rfl) rfl sb0 ⟨Nat.le_of_ble_eq_true rfl, rfl⟩ rfl (Nat.le_of_ble_eq_true rfl) ?_
    refine m_J4_length_8abf5 sb0  ?_
    refine T_iret dX9_format_97 rfl ?_
    have ew : zfmt C cm (zterm oNil 1 cm) 81 = O2 := by
      rw [hO2.1, show 81 = w + (81 - w) by omega]
      refine zfmt_skip fun q a1 a2 => ?_
      refine Classical.byContradiction fun h0 => ?_
      obtain ⟨v, v1, v2⟩ := hz.2.2 (80 - q) (fun e => h0 (Or.inr e))
      have := hw1 v (by omega)
      omega
    rw [hfm, ew] at hQ
    exact hQ vb2 N2 nb9 cb9 n2 k2 h1 ⟨(show O2.1 ≤ 90 by omega), hov.1⟩ ⟨hc1, c1.1⟩ (by omega) (by omega) hc4 ⟨((jfr _ (by omega) (by omega) (by omega)).trans o0), (gp.frame (fun q a1 a2 => jfr q (by omega) (by omega) (by omega))), (gc.frame (fun q a1 a2 => jfr q (by omega) (by omega) (by omega))), (gsp.frame (fun q a1 a2 => jfr q (by omega) (by omega) (by omega))), (gsc.frame (fun q a1 a2 => jfr q (by omega) (by omega) (by omega))), (gw.frame (fun q a1 a2 => jfr q (by omega) (by omega) (by omega))), (gf.frame hP c1.2.1 (fun q a1 a2 => jfr q (by omega) (by omega) (by omega)) (fun v hv q a1 a2 => by have := gcb v hv; have := gsep v hv; exact jfr q (by omega) (by omega) (by omega))), (gi.frame (fun q a1 a2 => jfr q (by omega) (by omega) (by omega))), (gOut.of sb2 (by omega)), (gl.frame (fun q a1 a2 => jfr q (by omega) (by omega) (by omega))), (fun v hv => by have := gcb v hv; have := gsep v hv; omega), (by omega)⟩ (fun q hq => (jfr q (by omega) (by omega) (by omega)).trans (hfr9 q hq))
  · refine T_aload_n dX9_format_42 rfl ?_
    refine T_getfield dX9_format_43 zkf_10_262 ((jfr _ (by omega) (by omega) (by omega)).trans r0) rfl ?_
    obtain ⟨y1, y2, y3, y4⟩ := hz.1 y (by omega)
    have y5 := hcb (mo y).toNat
    rw [y4] at y5
    have hwy := hw2 y (Nat.le_refl _) (by omega)
    obtain ⟨m9, em9⟩ := Int.eq_ofNat_of_zero_le y1
    obtain ⟨f9, ef9⟩ := Int.eq_ofNat_of_zero_le y5.1
    have em8 : (mo y).toNat = m9 := by omega
    have gap : ∀ q : Nat, m9 < q → q + w < 81 → C q = 0 := fun q a1 a2 => by
      refine Classical.byContradiction fun h0 => ?_
      obtain ⟨v, v1, v2⟩ := hz.2.2 q h0
      by_cases c1 : v < y
      · have := hw1 v c1; omega
      · by_cases c3 : v = y
        · rw [c3] at v2; omega
        · have := hz.2.1 y v (by omega) v1; omega
    refine T_iload dX9_format_46 rfl ?_
    refine T_ialoadN (m := y) dX9_format_48 ((jfr _ (by omega) (by omega) (by omega)).trans r1) rfl (by omega) ?_
    refine T_aload_n dX9_format_49 rfl ?_
    refine T_getfield dX9_format_50 zkf_10_159 ((jfr _ (by omega) (by omega) (by omega)).trans r0) rfl ?_
    refine T_icmp_eq dX9_format_53 (t := 84) rfl (fun c53 => ?_) (fun c53 => ?_)
    · refine T_iinc dX9_format_84 rfl ⟨by omega, by omega⟩ ?_
      refine T_goto dX9_format_87 (t := 33) rfl ?_
      exact ih _ (by omega) h9 _ _ nb9 cb9 _ cm _ _ _ C (y + 1) (81 - m9) O2 vb2 N2 n2 k2 rfl _ sb2 jfr cl9 hfr9 hc1 hc2 hc3 hc4 hpo had (by omega) hz hcb hfm ⟨by
            rw [hO2.1, show 81 - m9 = w + (81 - m9 - w) by omega]
            refine (zfmt_skip fun q a1 a2 => ?_).symm
            by_cases c1 : q = 80 - m9
            · exact Or.inl (by omega)
            · exact Or.inr (gap (80 - q) (by omega) (by omega)), by omega⟩ (fun q hq => by
            by_cases c1 : q = y
            · rw [c1]; omega
            · have := hz.2.1 q y (by omega) (by omega); have := (hz.1 q (by omega)).1; omega) (fun q a1 a2 => by have := hz.2.1 y q (by omega) a2; have := (hz.1 q a2).1; omega) ⟨hov.1, by omega⟩ c1 c2 
    · refine T_aload_n dX9_format_56 rfl ?_
      refine T_getfield dX9_format_57 zkf_10_73 ((jfr _ (by omega) (by omega) (by omega)).trans o0) rfl ?_
      refine T_bipush dX9_format_60 (by decide) ?_
      refine T_callV dX9_format_62 zkm_10_285 (Or.inl rfl) rfl sb0 ⟨Nat.le_of_ble_eq_true rfl, rfl⟩ rfl (Nat.le_of_ble_eq_true rfl) ?_
      refine m_J4_append_cf468 (N := N2) (O := O2) (vb := vb2)  hg0 sb2 (by omega) (by omega) (by omega) (by decide) (fun vb'62 N'62 n'62 k'62 hh62 k62a k62b sb_62 pf_62 => ?_)
      obtain ⟨by62, ml62, sb62, -, -, -, -⟩ := id sb_62
      refine T_pop dX9_format_65 ?_
      refine T_aload_n dX9_format_66 rfl ?_
      refine T_aload_n dX9_format_67 rfl ?_
      refine T_getfield dX9_format_68 zkf_10_262 ((pf_62 _ (by omega) (by omega) (by omega)).trans ((jfr _ (by omega) (by omega) (by omega)).trans r0)) rfl ?_
      refine T_iload dX9_format_71 rfl ?_
      refine T_ialoadN (m := y) dX9_format_73 ((pf_62 _ (by omega) (by omega) (by omega)).trans ((jfr _ (by omega) (by omega) (by omega)).trans r1)) rfl (by omega) ?_
      rw [em9]
      refine T_aload_n dX9_format_74 rfl ?_
      refine T_getfield dX9_format_75 zkf_10_265 ((pf_62 _ (by omega) (by omega) (by omega)).trans ((jfr _ (by omega) (by omega) (by omega)).trans r0)) rfl ?_
      refine T_iload dX9_format_78 rfl ?_
      refine T_ialoadN (m := y) dX9_format_80 ((pf_62 _ (by omega) (by omega) (by omega)).trans ((jfr _ (by omega) (by omega) (by omega)).trans r2)) rfl (by omega) ?_
      rw [ef9]
      have oP : (zput O2 43).1 = O2.1 + 1 := rfl
      refine T_callV dX9_format_81 zkm_10_282 (Or.inl rfl) rfl ((pf_62 _ (by omega) (by omega) (by omega)).trans ((jfr _ (by omega) (by omega) (by omega)).trans o0)) ⟨Nat.le_of_ble_eq_true rfl, rfl⟩ rfl (Nat.le_of_ble_eq_true rfl) ?_
      refine m_X9_writeTerm (N := N'62) (O := zput O2 43) (vb := vb'62) (lo0 := B) ((pf_62 _ (by omega) (by omega) (by omega)).trans ((jfr _ (by omega) (by omega) (by omega)).trans o0)) hg0 sb_62 (by omega) (by omega) (hdg.frame (fun q hq => (pf_62 q (by omega) (by omega) (by omega)).trans ((jfr q (by omega) (by omega) (by omega)).trans (hfr9 q (Or.inl hq))))) (by omega) ⟨hov.1.put (by decide), by omega⟩ (by omega) (fun vb'81 N'81 n'81 k'81 hh81 k81a k81b sb_81 pf_81 => ?_)
      have oT := zterm_le (O := zput O2 43) (c := (f9 : Int)) (m := m9) (hov.1.put (by decide)) (by omega) (by omega)
      refine T_iinc dX9_format_84 rfl ⟨by omega, by omega⟩ ?_
      refine T_goto dX9_format_87 (t := 33) rfl ?_
      exact ih _ (by omega) h9 _ _ nb9 cb9 _ cm _ _ _ C (y + 1) (81 - m9) (zterm (zput O2 43) (f9 : Int) m9) vb'81 N'81 n'81 k'81 rfl _ sb_81 (fun q a1 a2 a3 => (pf_81 q a1 (by omega) (by omega)).trans ((pf_62 q a1 (by omega) (by omega)).trans (jfr q a1 a2 a3))) cl9 hfr9 hc1 hc2 hc3 hc4 hpo had (by omega) hz hcb hfm ⟨by
            have e1 : O2 = zfmt C cm (zterm oNil 1 cm) (80 - m9) := by
              rw [hO2.1, show 80 - m9 = w + (80 - m9 - w) by omega]
              exact (zfmt_skip fun q a1 a2 => Or.inr (gap (80 - q) (by omega) (by omega))).symm
            rw [show 81 - m9 = (80 - m9) + 1 by omega, zfmt, if_pos ⟨by omega, by rw [show 80 - (80 - m9) = m9 by omega, ← em8, y4]; exact y3⟩, ← e1, show 80 - (80 - m9) = m9 by omega]
            have e2 : C m9 = (f9 : Int) := by rw [← em8, y4, ef9]
            rw [e2], by omega⟩ (fun q hq => by
            by_cases c1 : q = y
            · rw [c1]; omega
            · have := hz.2.1 q y (by omega) (by omega); have := (hz.1 q (by omega)).1; omega) (fun q a1 a2 => by have := hz.2.1 y q (by omega) a2; have := (hz.1 q a2).1; omega) ⟨oT.1, by omega⟩ (by omega) (by omega) 
set_option maxHeartbeats 4000000 in
set_option maxRecDepth 100000 in
theorem m_X9_format {n0 n k : Nat} {g : Nat → zV} {h : zHp} {Q : Option zV → Nat → Nat → zHp → Prop} {B lo : Nat} {P : pT} {L : lT} {I O : tT} {V : Int × pT} {nb vb N : Nat} {cb : Nat → Nat} {i x : Int} (hP : pwf P) (hL : lwf L) (hI : iwf I) (hO : owf O) (hV : vwf V) (hB : n0 ≤ B) (hcl : clAt h B lo n P L I O V nb cb vb N) (hg0 : g 0 = .inl 1) (hdg : dgOk g h B) (hn0 : n0 ≤ lo) (hQ : ∀ (vb' N' nb' : Nat) (cb' : Nat → Nat) (n' k' : Nat) (h' : zHp), (owf (s_fm P O i x).2) → (nb ≤ nb' ∧ N ≤ N') → (n ≤ n' ∧ n' ≤ n + 15 * (nb' - nb) + (N' - N)) → (k' ≤ k + 110 * (nb' - nb) + 3 * (N' - N)) → (∀ i, i < nb → cb' i = cb i) → (clAt h' B lo n' P L I (s_fm P O i x).2 V nb' cb' vb' N') → (∀ q : Nat, (q < B ∨ (B + 396 ≤ q ∧ q < lo)) → h' q = h q) → Q (some (.inl ((s_fm P O i x).1))) n' k' h') : ZT n0 g mX9_format 0 (zloc mX9_format [.inr (some B), .inl i, .inl x]) [] n k h Q := by
  show ZT n0 g mX9_format 0 [some (.inr (some B)), some (.inl i), some (.inl x), none, none] [] n k h Q
  obtain ⟨o0, gp, gc, gsp, gsc, gw, gf, gi, go, gl, gsep, hlo⟩ := id hcl
  have hpb := hP.bd
  have gvb := go.vb
  have gcb := gf.co.2.2.1
  refine T_aload_n dX9_format_0 rfl ?_
  refine T_iload_n dX9_format_1 rfl ?_
  refine T_iload_n dX9_format_2 rfl ?_
  refine T_callV dX9_format_3 zkm_10_198 (Or.inl rfl) rfl o0 ⟨Nat.le_of_ble_eq_true rfl, rfl⟩ rfl (Nat.le_of_ble_eq_true rfl) ?_
  refine f2_findBasisPolynomial  hP hL hI hO hV hB hcl (fun j3 q3 ad3 t3 mo3 fa3 nb'3 cb'3 n'3 k'3 hh3 k3a k3b k3c k3d k3e k3f k3g k3h pc_3 kn_3 pf_3 po_3 adok_3 ad2_3 => ?_) (fun nb'3_2 cb'3_2 n'3_2 k'3_2 hh3 k3a_2 k3b_2 k3c_2 k3d_2 k3e_2 pc_3_2 kn_3_2 pf_3_2 => ?_)
  · obtain ⟨⟨r0, r1, r2, r3⟩, r4⟩ := po_3
    obtain ⟨o0, -, -, -, -, -, -, -, go, -, -, hlo3⟩ := id pc_3
    have hsb3 := go.sb
    obtain ⟨oby, oml, qq0, qq1, qq2, qq3, qq4, qq5⟩ := id go
    refine T_astore_n dX9_format_6 (Nat.le_of_ble_eq_true rfl) ?_
    refine T_aload_n dX9_format_7 rfl ?_
    refine T_ifnonnull dX9_format_8 (t := 13) rfl (fun _ _ => ?_) (fun hc => by cases hc)
    refine T_aload_n dX9_format_13 rfl ?_
    refine T_getfield dX9_format_14 zkf_10_73 o0 rfl ?_
    refine T_iconst dX9_format_17 (by decide) ?_
    refine T_callV dX9_format_18 zkm_10_279 (Or.inl rfl) rfl qq0 ⟨Nat.le_of_ble_eq_true rfl, rfl⟩ rfl (Nat.le_of_ble_eq_true rfl) ?_
    refine m_J4_setLength_d00df (N := N) (O := O) (vb := vb)  hg0 hsb3 (by omega) (by omega) (fun hh18 sb_18 pf_18 => ?_)
    obtain ⟨by18, ml18, sb18, -, -, -, -⟩ := id sb_18
    have dB9 := pB_facts hP j3
    refine T_aload_n dX9_format_21 rfl ?_
    refine T_aload_n dX9_format_22 rfl ?_
    refine T_getfield dX9_format_23 zkf_10_159 ((pf_18 _ (by omega)).trans r0) rfl ?_
    refine T_iconst dX9_format_26 (by decide) ?_
    refine T_callV dX9_format_27 zkm_10_282 (Or.inl rfl) rfl ((pf_18 _ (by omega)).trans o0) ⟨Nat.le_of_ble_eq_true rfl, rfl⟩ rfl (Nat.le_of_ble_eq_true rfl) ?_
    refine m_X9_writeTerm (m := ((pB P j3).2.2.1 q3)) (N := N) (O := oNil) (vb := vb) (x := 1) (lo0 := B) ((pf_18 _ (by omega)).trans o0) hg0 sb_18 (by omega) (by omega) ((hdg.frame (fun q hq => pf_3 q (Or.inl hq))).frame (fun q hq => pf_18 q (by omega))) (by omega) ⟨fun i hi => absurd hi (Nat.not_lt_zero i), by decide⟩ ⟨by decide, dB9.2.2 q3 k3c⟩ (fun vb'27 N'27 n'27 k'27 hh27 k27a k27b sb_27 pf_27 => ?_)
    obtain ⟨by27, ml27, sb27, -, -, -, -⟩ := id sb_27
    have oT := zterm_le (O := oNil) (c := 1) (m := (pB P j3).2.2.1 q3) (fun i hi => absurd hi (Nat.not_lt_zero i)) (by decide) (dB9.2.2 q3 k3c)
    refine T_iconst dX9_format_30 (by decide) ?_
    refine T_istore dX9_format_31 (Nat.le_of_ble_eq_true rfl) ?_
    exact m_X9_format_33 hP hL hI hO hV hB hcl hg0 hdg hn0 hQ _ hh3 n'3 k'3 nb'3 cb'3 ad3 ((pB P j3).2.2.1 q3) _ _ _ ((pB P j3).2.2.2 q3) 0 0 (zterm oNil 1 ((pB P j3).2.2.1 q3)) vb'27 N'27 n'27 k'27 rfl _ sb_27 (fun q a1 a2 a3 => (pf_27 q a1 a2 a3).trans (pf_18 q a1)) pc_3 pf_3 k3e k3f k3g k3h ⟨r0, r1, r2⟩ ad2_3 ⟨r3, Nat.zero_le _⟩ r4 (fun q => by
          have a := (pB_cells hP j3 k3c).2 q
          have b := hpb.2
          omega) (by
          have e9 : i.toNat = j3 := by omega
          have e8 : x.toNat = q3 := by omega
          unfold s_fm; rw [if_pos (by rw [sBas, e9]; omega), e9, e8]) ⟨rfl, by decide⟩ (fun i hi => absurd hi (Nat.not_lt_zero i)) (fun q _ hq => by have := r4.1 q hq; omega) ⟨oT.1, by have e : (oNil.1 : Nat) = 0 := rfl; omega⟩ (by omega) (by omega) 
  · refine T_astore_n dX9_format_6 (Nat.le_of_ble_eq_true rfl) ?_
    refine T_aload_n dX9_format_7 rfl ?_
    refine T_ifnonnull dX9_format_8 (t := 13) rfl (fun _ hc => by cases hc) (fun _ => ?_)
    refine T_iconst dX9_format_11 (by decide) ?_
    refine T_iret dX9_format_12 rfl ?_
    have e : s_fm P O i x = (-1, O) := if_neg k3a_2
    rw [e] at hQ
    exact hQ vb N nb'3_2 cb'3_2 n'3_2 k'3_2 hh3 hO ⟨k3b_2, Nat.le_refl _⟩ (by omega) (by omega) k3e_2 pc_3_2 pf_3_2
