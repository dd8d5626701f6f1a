/-! ===== GroebnerFan: text: printed by wip/whole/gen/s_cl6.py ===== -/
theorem zdig1 {O : tT} {c : Int} (h : 0 ≤ c ∧ c ≤ 9) : zdig O c = zput O (48 + c) := by
  unfold zdig
  rw [if_neg (by omega), show c % 10 = c by omega]
theorem dgOk.frame {g : Nat → zV} {h h' : zHp} {lo : Nat} (d : dgOk g h lo) (f : ∀ q, q < lo → h' q = h q) : dgOk g h' lo := by
  obtain ⟨e2, e3, f2, f3, a1, a2, a3, a4, a5, a6, a7⟩ := d
  exact ⟨e2, e3, f2, f3, a1, a2, a3, a4, (f _ a3).trans a5, (f _ a4).trans a6, a7⟩
set_option maxHeartbeats 4000000 in
set_option maxRecDepth 100000 in
theorem m_X3_append {n0 n k : Nat} {g : Nat → zV} {h : zHp} {Q : Option zV → Nat → Nat → zHp → Prop} {e l : Nat} {nc : Int} {iby : Nat → Int} {x : Int} (i0 : h e = some (.inl (4, [.inl (l : Int), .inr (some (e + 1)), .inl nc, .inr (some (e + 2))]))) (i1 : h (e + 1) = some (.inr (.inl (1, 60, iby)))) (hl : l < 60) (hx : 1 ≤ x ∧ x ≤ 127) (hw : n0 ≤ e) (hQ : ∀  (h' : zHp), h' e = some (.inl (4, [.inl ((l : Int) + 1), .inr (some (e + 1)), .inl nc, .inr (some (e + 2))])) → h' (e + 1) = some (.inr (.inl (1, 60, (zfu iby l x)))) → (∀ q : Nat, q ≠ e → q ≠ (e + 1) → h' q = h q) → Q none n k h') : ZT n0 g mX3_append 0 (zloc mX3_append [.inr (some e), .inl x]) [] n k h Q := by
  show ZT n0 g mX3_append 0 [some (.inr (some e)), some (.inl x)] [] n k h Q
  refine T_aload_n dX3_append_0 rfl ?_
  refine T_getfield dX3_append_1 zkf_4_9 i0 rfl ?_
  refine T_bipush dX3_append_4 (by decide) ?_
  refine T_icmp_ge dX3_append_6 (t := 30) rfl (fun hc => absurd hc (by omega)) (fun _ => ?_)
  refine T_aload_n dX3_append_9 rfl ?_
  refine T_getfield dX3_append_10 zkf_4_15 i0 rfl ?_
  refine T_aload_n dX3_append_13 rfl ?_
  refine T_getfield dX3_append_14 zkf_4_9 i0 rfl ?_
  refine T_iload_n dX3_append_17 rfl ?_
  refine T_i2b dX3_append_18 ⟨by omega, by omega⟩ ?_
  refine T_bastoreN (m := l) dX3_append_19 i1 (by decide) rfl (by omega) (by omega) (zfitB (by omega)) ?_
  refine T_aload_n dX3_append_20 rfl ?_
  refine T_dup dX3_append_21 ?_
  refine T_getfield dX3_append_22 zkf_4_9 (zup_ne (by omega) i0) rfl ?_
  refine T_iconst dX3_append_25 (by decide) ?_
  refine T_iadd dX3_append_26 ⟨by omega, by omega⟩ ?_
  refine T_putfield dX3_append_27 zkf_4_9 (zup_ne (by omega) i0) (Nat.le_of_ble_eq_true rfl) (by omega) rfl (fun hf => absurd hf (by decide)) rfl ?_
  refine T_vret dX3_append_30 rfl ?_
  exact hQ _ zup_self (zup_ne (by omega) zup_self) (fun q q0 q1 => ((zup_nf q0).trans ((zup_nf q1).trans rfl)))
set_option maxHeartbeats 4000000 in
set_option maxRecDepth 100000 in
theorem m_X9_inputLength {n0 n k : Nat} {g : Nat → zV} {h : zHp} {Q : Option zV → Nat → Nat → zHp → Prop} {B lo : Nat} {P : pT} {L : lT} {I O : tT} {V : Int × pT} {nb vb N : Nat} {cb : Nat → Nat} (hP : pwf P) (hL : lwf L) (hI : iwf I) (hO : owf O) (hV : vwf V) (hB : n0 ≤ B) (hcl : clAt h B lo n P L I O V nb cb vb N) (hQ : Q (some (.inl (I.1 : Int))) n k h) : ZT n0 g mX9_inputLength 0 (zloc mX9_inputLength [.inr (some B)]) [] n k h Q := by
  show ZT n0 g mX9_inputLength 0 [some (.inr (some B))] [] n k h Q
  obtain ⟨o0, gp, gc, gsp, gsc, gw, gf, gi, go, gl, gsep, hlo⟩ := id hcl
  have hpb := hP.bd
  have gvb := go.vb
  have gcb := gf.co.2.2.1
  obtain ⟨iby, inu, inc, i0, i1, i2, i3⟩ := id gi
  refine T_aload_n dX9_inputLength_0 rfl ?_
  refine T_getfield dX9_inputLength_1 zkf_10_66 o0 rfl ?_
  refine T_getfield dX9_inputLength_4 zkf_10_265 i0 rfl ?_
  refine T_iret dX9_inputLength_7 rfl ?_
  exact hQ
set_option maxHeartbeats 4000000 in
set_option maxRecDepth 100000 in
theorem m_X9_appendInput {n0 n k : Nat} {g : Nat → zV} {h : zHp} {Q : Option zV → Nat → Nat → zHp → Prop} {B lo : Nat} {P : pT} {L : lT} {I O : tT} {V : Int × pT} {nb vb N : Nat} {cb : Nat → Nat} {x : Int} (hP : pwf P) (hL : lwf L) (hI : iwf I) (hO : owf O) (hV : vwf V) (hB : n0 ≤ B) (hcl : clAt h B lo n P L I O V nb cb vb N) (hQ : ∀  (h' : zHp), (clAt h' B lo n P L (s_ai I x).2 O V nb cb vb N) → (∀ q : Nat, (q < B ∨ (B + 66 ≤ q ∧ q < lo)) → h' q = h q) → Q (some (.inl ((s_ai I x).1))) n k h') : ZT n0 g mX9_appendInput 0 (zloc mX9_appendInput [.inr (some B), .inl x]) [] n k h Q := by
  show ZT n0 g mX9_appendInput 0 [some (.inr (some B)), some (.inl x)] [] n k h Q
  obtain ⟨o0, gp, gc, gsp, gsc, gw, gf, gi, go, gl, gsep, hlo⟩ := id hcl
  have hpb := hP.bd
  have gvb := go.vb
  have gcb := gf.co.2.2.1
  obtain ⟨iby, inu, inc, i0, i1, i2, i3⟩ := id gi
  refine T_iload_n dX9_appendInput_0 rfl ?_
  refine T_iconst dX9_appendInput_1 (by decide) ?_
  refine T_icmp_lt dX9_appendInput_2 (t := 11) rfl (fun c2 => ?_) (fun c2 => ?_)
  · refine T_bipush dX9_appendInput_11 (by decide) ?_
    refine T_iret dX9_appendInput_13 rfl ?_
    have e : s_ai I x = (-2, I) := by exact if_neg (by omega)
    rw [e] at hQ
    exact hQ h hcl (fun _ _ => rfl)
  · refine T_iload_n dX9_appendInput_5 rfl ?_
    refine T_bipush dX9_appendInput_6 (by decide) ?_
    refine T_icmp_le dX9_appendInput_8 (t := 14) rfl (fun c8 => ?_) (fun c8 => ?_)
    · refine T_aload_n dX9_appendInput_14 rfl ?_
      refine T_getfield dX9_appendInput_15 zkf_10_66 o0 rfl ?_
      refine T_getfield dX9_appendInput_18 zkf_10_265 i0 rfl ?_
      refine T_bipush dX9_appendInput_21 (by decide) ?_
      refine T_icmp_lt dX9_appendInput_23 (t := 29) rfl (fun c23 => ?_) (fun c23 => ?_)
      · refine T_aload_n dX9_appendInput_29 rfl ?_
        refine T_getfield dX9_appendInput_30 zkf_10_66 o0 rfl ?_
        refine T_iload_n dX9_appendInput_33 rfl ?_
        refine T_callV dX9_appendInput_34 zkm_10_266 (Or.inl rfl) rfl i0 ⟨Nat.le_of_ble_eq_true rfl, rfl⟩ rfl (Nat.le_of_ble_eq_true rfl) ?_
        refine m_X3_append i0 i1 (by omega) (by omega) (by omega) (fun hh34 f34a f34b fr34 => ?_)
        refine T_aload_n dX9_appendInput_37 rfl ?_
        refine T_getfield dX9_appendInput_38 zkf_10_66 ((fr34 _ (by omega) (by omega)).trans o0) rfl ?_
        refine T_getfield dX9_appendInput_41 zkf_10_265 f34a rfl ?_
        refine T_iret dX9_appendInput_44 rfl ?_
        have e : s_ai I x = ((I.1 : Int) + 1, zput I x) := by unfold s_ai; rw [if_pos (by omega), if_pos (by omega)]
        rw [e] at hQ
        exact hQ _ ⟨((fr34 _ (by omega) (by omega)).trans o0), (gp.frame (fun q a1 a2 => ((fr34 _ (by omega) (by omega)).trans (rfl)))), (gc.frame (fun q a1 a2 => ((fr34 _ (by omega) (by omega)).trans (rfl)))), (gsp.frame (fun q a1 a2 => ((fr34 _ (by omega) (by omega)).trans (rfl)))), (gsc.frame (fun q a1 a2 => ((fr34 _ (by omega) (by omega)).trans (rfl)))), (gw.frame (fun q a1 a2 => ((fr34 _ (by omega) (by omega)).trans (rfl)))), (gf.frame hP (Nat.le_refl _) (fun q a1 a2 => ((fr34 _ (by omega) (by omega)).trans (rfl))) (fun i hi q a1 a2 => by have := gcb i hi; exact ((fr34 _ (by omega) (by omega)).trans (rfl)))), ⟨_, inu, inc, f34a, f34b, ((fr34 _ (by omega) (by omega)).trans i2), fun i hi => by
          have hi : i < I.1 + 1 := hi
          by_cases e9 : i = I.1
          · rw [e9]; exact zfu_self.trans zfu_self.symm
          · exact (zfu_ne e9).trans ((i3 i (by omega)).trans (zfu_ne e9).symm)⟩, (go.frame (Nat.le_refl _) (by exact ((fr34 _ (by omega) (by omega)).trans (rfl))) (by exact ((fr34 _ (by omega) (by omega)).trans (rfl)))), (gl.frame (fun q a1 a2 => ((fr34 _ (by omega) (by omega)).trans (rfl)))), gsep, hlo⟩ (fun q a1 => ((fr34 _ (by omega) (by omega)).trans (rfl)))
      · refine T_bipush dX9_appendInput_26 (by decide) ?_
        refine T_iret dX9_appendInput_28 rfl ?_
        have e : s_ai I x = (-4, I) := by unfold s_ai; rw [if_pos (by omega), if_neg (by omega)]
        rw [e] at hQ
        exact hQ h hcl (fun _ _ => rfl)
    · refine T_bipush dX9_appendInput_11 (by decide) ?_
      refine T_iret dX9_appendInput_13 rfl ?_
      have e : s_ai I x = (-2, I) := by exact if_neg (by omega)
      rw [e] at hQ
      exact hQ h hcl (fun _ _ => rfl)
set_option maxHeartbeats 4000000 in
set_option maxRecDepth 100000 in
theorem m_X9_outputByte {n0 n k : Nat} {g : Nat → zV} {h : zHp} {Q : Option zV → Nat → Nat → zHp → Prop} {B lo : Nat} {P : pT} {L : lT} {I O : tT} {V : Int × pT} {nb vb N : Nat} {cb : Nat → Nat} {i : Int} {r4 : Option Nat} (hP : pwf P) (hL : lwf L) (hI : iwf I) (hO : owf O) (hV : vwf V) (hB : n0 ≤ B) (hcl : clAt h B lo n P L I O V nb cb vb N) (hg4 : g 4 = .inr r4) (hQ : Q (some (.inl (s_ob O i))) n k h) : ZT n0 g mX9_outputByte 0 (zloc mX9_outputByte [.inr (some B), .inl i]) [] n k h Q := by
  show ZT n0 g mX9_outputByte 0 [some (.inr (some B)), some (.inl i)] [] n k h Q
  obtain ⟨o0, gp, gc, gsp, gsc, gw, gf, gi, go, gl, gsep, hlo⟩ := id hcl
  have hpb := hP.bd
  have gvb := go.vb
  have gcb := gf.co.2.2.1
  obtain ⟨oby, oml, q0, q1, q2, q3, q4, q5⟩ := id go
  refine T_iload_n dX9_outputByte_0 rfl ?_
  refine T_if_lt dX9_outputByte_1 (t := 15) rfl (fun c1 => ?_) (fun c1 => ?_)
  · refine T_iconst dX9_outputByte_15 (by decide) ?_
    refine T_iret dX9_outputByte_16 rfl ?_
    have e : s_ob O i = -1 := if_neg (by omega)
    rw [e] at hQ
    exact hQ
  · refine T_iload_n dX9_outputByte_4 rfl ?_
    refine T_aload_n dX9_outputByte_5 rfl ?_
    refine T_getfield dX9_outputByte_6 zkf_10_73 o0 rfl ?_
    refine T_callV dX9_outputByte_9 zkm_10_287 (Or.inl rfl) rfl q0 ⟨Nat.le_of_ble_eq_true rfl, rfl⟩ rfl (Nat.le_of_ble_eq_true rfl) ?_
    refine m_J4_length_8abf5 q0  ?_
    refine T_icmp_lt dX9_outputByte_12 (t := 17) rfl (fun c12 => ?_) (fun c12 => ?_)
    · refine T_aload_n dX9_outputByte_17 rfl ?_
      refine T_getfield dX9_outputByte_18 zkf_10_73 o0 rfl ?_
      refine T_iload_n dX9_outputByte_21 rfl ?_
      obtain ⟨j, rfl⟩ := Int.eq_ofNat_of_zero_le (show 0 ≤ i by omega)
      have hj : j < O.1 := by omega
      have oj := hO.2 j hj
      have qj := q4 j hj
      refine T_callV dX9_outputByte_22 zkm_10_289 (Or.inl rfl) rfl q0 ⟨Nat.le_of_ble_eq_true rfl, rfl⟩ rfl (Nat.le_of_ble_eq_true rfl) ?_
      refine m_J4_charAt_5068e q0 q1 hg4 (by omega) (by omega) ?_
      refine T_iret dX9_outputByte_25 rfl ?_
      have e : s_ob O (j : Int) = oby j := by unfold s_ob; rw [if_pos (by omega), Int.toNat_natCast, qj]
      rw [e] at hQ
      exact hQ
    · refine T_iconst dX9_outputByte_15 (by decide) ?_
      refine T_iret dX9_outputByte_16 rfl ?_
      have e : s_ob O i = -1 := if_neg (by omega)
      rw [e] at hQ
      exact hQ
set_option maxHeartbeats 4000000 in
set_option maxRecDepth 100000 in
theorem m_X9_writeTerm {n0 n k : Nat} {g : Nat → zV} {h : zHp} {Q : Option zV → Nat → Nat → zHp → Prop} {B vb N : Nat} {V : Int × pT} {O : tT} {lo0 m x : Nat} (o0 : h B = some (.inl (10, [.inr (some (B + 1)), .inr (some (B + 4)), .inr (some (B + 6)), .inr (some (B + 9)), .inl V.1, .inr (some (B + 11)), .inr (some (B + 34)), .inr (some (B + 35)), .inr (some (B + 50)), .inr (some (B + 52)), .inr (some (B + 55)), .inr (some (B + 57))]))) (hg0 : g 0 = .inl 1) (hsb : sbA h (B + 55) O vb N) (hw : n0 ≤ B ∧ n0 ≤ vb ∧ n0 ≤ n) (hd : B + 55 ≠ vb ∧ B ≠ vb ∧ B + 55 < n ∧ vb < n) (hdg : dgOk g h lo0) (hlo0 : lo0 ≤ B ∧ lo0 ≤ vb ∧ lo0 ≤ n) (hO : ovf O ∧ O.1 ≤ 80) (hx : x ≤ 99 ∧ m < 81) (hQ : ∀ (vb' N' n' k' : Nat) (h' : zHp), (N ≤ N' ∧ n ≤ n' ∧ n' ≤ n + (N' - N) ∧ k ≤ k' ∧ k' ≤ k + 3 * (N' - N)) → ((vb' = vb ∧ n' = n) ∨ (n ≤ vb' ∧ vb' < n')) → (sbA h' (B + 55) (zterm O (x : Int) m) vb' N') → (∀ q : Nat, q ≠ B + 55 → q ≠ vb → q < n → h' q = h q) → Q none n' k' h') : ZT n0 g mX9_writeTerm 0 (zloc mX9_writeTerm [.inr (some B), .inl (m : Int), .inl (x : Int)]) [] n k h Q := by
  show ZT n0 g mX9_writeTerm 0 [some (.inr (some B)), some (.inl (m : Int)), some (.inl (x : Int)), none, none] [] n k h Q
  obtain ⟨by0, ml0, sb0, -, -, -, -⟩ := id hsb
  have oD := zdig_le hO.1 (c := (x : Int)) (by omega)
  have eX : (zput (zdig O (x : Int)) 120).1 = (zdig O (x : Int)).1 + 1 := rfl
  have J38 : ∀ (vb2 : Nat) (N2 : Nat) (n2 : Nat) (k2 : Nat) (h2 : zHp), (sbA h2 (B + 55) (zvar (zdig O (x : Int)) 120 (m / 9)) vb2 N2) → (∀ q : Nat, q ≠ B + 55 → q ≠ vb → q < n → h2 q = h q) → (N ≤ N2 ∧ n ≤ n2 ∧ n2 ≤ n + (N2 - N) ∧ k ≤ k2 ∧ k2 ≤ k + 3 * (N2 - N)) → ((vb2 = vb ∧ n2 = n) ∨ (n ≤ vb2 ∧ vb2 < n2)) → ZT n0 g mX9_writeTerm 38 [some (.inr (some B)), some (.inl (m : Int)), some (.inl (x : Int)), some (.inl ((m / 9) : Int)), some (.inl ((m % 9) : Int))] [] n2 k2 h2 Q := by
    intro vb2 N2 n2 k2 h2 sb2 jf c1 c2
    obtain ⟨by2, ml2, sb3, -, -, -, -⟩ := id sb2
    have oV := zvar_le (O := zdig O (x : Int)) (b := 120) (e := m / 9) oD.1 (by decide) (by omega)
    have eY : (zput (zvar (zdig O (x : Int)) 120 (m / 9)) 121).1 = (zvar (zdig O (x : Int)) 120 (m / 9)).1 + 1 := rfl
    
    refine T_iload dX9_writeTerm_38 rfl ?_
    refine T_if_eq dX9_writeTerm_40 (t := 58) rfl (fun c40 => ?_) (fun c40 => ?_)
    · refine T_vret dX9_writeTerm_58 rfl ?_
      have ez : zterm O (x : Int) m = zvar (zdig O (x : Int)) 120 (m / 9) := if_neg (by omega)
      rw [ez] at hQ
      exact hQ vb2 N2 n2 k2 h2 (by omega) (by omega) sb2 jf
    · refine T_aload_n dX9_writeTerm_43 rfl ?_
      refine T_getfield dX9_writeTerm_44 zkf_10_73 ((jf _ (by omega) (by omega) (by omega)).trans o0) rfl ?_
      refine T_bipush dX9_writeTerm_47 (by decide) ?_
      refine T_callV dX9_writeTerm_49 zkm_10_284 (Or.inl rfl) rfl sb3 ⟨Nat.le_of_ble_eq_true rfl, rfl⟩ rfl (Nat.le_of_ble_eq_true rfl) ?_
      refine m_J4_append_cf468 (N := N2) (O := zvar (zdig O (x : Int)) 120 (m / 9))  hg0 sb2 (by omega) (by omega) (by omega) (by omega) (fun vb'49 N'49 n'49 k'49 hh49 k49a k49b sb_49 pf_49 => ?_)
      obtain ⟨by49, ml49, sb49, -, -, -, -⟩ := id sb_49
      refine T_iload dX9_writeTerm_52 rfl ?_
      refine T_callV dX9_writeTerm_54 zkm_10_326 (Or.inl rfl) rfl sb49 ⟨Nat.le_of_ble_eq_true rfl, rfl⟩ rfl (Nat.le_of_ble_eq_true rfl) ?_
      refine m_J4_append_bf812 (x := (m % 9)) (N := N'49) (O := zput (zvar (zdig O (x : Int)) 120 (m / 9)) 121)  hg0 sb_49 (by omega) (by omega) (hdg.frame (fun q hq => ((pf_49 q (by omega) (by omega) (by omega)).trans (jf q (by omega) (by omega) (by omega))))) (by omega) (by omega) (by omega) (fun vb'54 N'54 n'54 k'54 hh54 k54a k54b sb_54 pf_54 => ?_)
      obtain ⟨by54, ml54, sb54, -, -, -, -⟩ := id sb_54
      refine T_pop dX9_writeTerm_57 ?_
      refine T_vret dX9_writeTerm_58 rfl ?_
      have ez : zterm O (x : Int) m = zput (zput (zvar (zdig O (x : Int)) 120 (m / 9)) 121) (48 + ((m % 9 : Nat) : Int)) := if_pos (by omega)
      rw [ez, ← zdig1 (by omega)] at hQ
      exact hQ vb'54 N'54 n'54 k'54 hh54 (by omega) (by omega) sb_54 (fun q a1 a2 a3 => ((pf_54 q (by omega) (by omega) (by omega)).trans ((pf_49 q (by omega) (by omega) (by omega)).trans (jf q (by omega) (by omega) (by omega)))))
  refine T_aload_n dX9_writeTerm_0 rfl ?_
  refine T_getfield dX9_writeTerm_1 zkf_10_73 o0 rfl ?_
  refine T_iload_n dX9_writeTerm_4 rfl ?_
  refine T_callV dX9_writeTerm_5 zkm_10_326 (Or.inl rfl) rfl sb0 ⟨Nat.le_of_ble_eq_true rfl, rfl⟩ rfl (Nat.le_of_ble_eq_true rfl) ?_
  refine m_J4_append_bf812 (N := N) (O := O)  hg0 hsb (by omega) (by omega) hdg (by omega) (by omega) (by omega) (fun vb'5 N'5 n'5 k'5 hh5 k5a k5b sb_5 pf_5 => ?_)
  obtain ⟨by5, ml5, sb5, -, -, -, -⟩ := id sb_5
  refine T_pop dX9_writeTerm_8 ?_
  refine T_iload_n dX9_writeTerm_9 rfl ?_
  refine T_bipush dX9_writeTerm_10 (by decide) ?_
  refine T_idivN dX9_writeTerm_12 ⟨by omega, by omega⟩ (by omega) ?_
  refine T_istore_n dX9_writeTerm_13 (Nat.le_of_ble_eq_true rfl) ?_
  refine T_iload_n dX9_writeTerm_14 rfl ?_
  refine T_bipush dX9_writeTerm_15 (by decide) ?_
  refine T_iremN dX9_writeTerm_17 ⟨by omega, by omega⟩ (by omega) ?_
  refine T_istore dX9_writeTerm_18 (Nat.le_of_ble_eq_true rfl) ?_
  refine T_iload_n dX9_writeTerm_20 rfl ?_
  refine T_if_eq dX9_writeTerm_21 (t := 38) rfl (fun c21 => ?_) (fun c21 => ?_)
  · exact J38 vb'5 N'5 n'5 k'5 _ (by rw [show zvar (zdig O (x : Int)) 120 (m / 9) = zdig O (x : Int) from if_neg (by omega)]; exact sb_5) (fun q a1 a2 a3 => (pf_5 q (by omega) (by omega) (by omega))) (by omega) (by omega)
  · refine T_aload_n dX9_writeTerm_24 rfl ?_
    refine T_getfield dX9_writeTerm_25 zkf_10_73 ((pf_5 _ (by omega) (by omega) (by omega)).trans o0) rfl ?_
    refine T_bipush dX9_writeTerm_28 (by decide) ?_
    refine T_callV dX9_writeTerm_30 zkm_10_284 (Or.inl rfl) rfl sb5 ⟨Nat.le_of_ble_eq_true rfl, rfl⟩ rfl (Nat.le_of_ble_eq_true rfl) ?_
    refine m_J4_append_cf468 (N := N'5) (O := zdig O (x : Int))  hg0 sb_5 (by omega) (by omega) (by omega) (by omega) (fun vb'30 N'30 n'30 k'30 hh30 k30a k30b sb_30 pf_30 => ?_)
    obtain ⟨by30, ml30, sb30, -, -, -, -⟩ := id sb_30
    refine T_iload_n dX9_writeTerm_33 rfl ?_
    refine T_callV dX9_writeTerm_34 zkm_10_326 (Or.inl rfl) rfl sb30 ⟨Nat.le_of_ble_eq_true rfl, rfl⟩ rfl (Nat.le_of_ble_eq_true rfl) ?_
    refine m_J4_append_bf812 (x := (m / 9)) (N := N'30) (O := zput (zdig O (x : Int)) 120)  hg0 sb_30 (by omega) (by omega) (hdg.frame (fun q hq => ((pf_30 q (by omega) (by omega) (by omega)).trans (pf_5 q (by omega) (by omega) (by omega))))) (by omega) (by omega) (by omega) (fun vb'34 N'34 n'34 k'34 hh34 k34a k34b sb_34 pf_34 => ?_)
    obtain ⟨by34, ml34, sb34, -, -, -, -⟩ := id sb_34
    refine T_pop dX9_writeTerm_37 ?_
    exact J38 vb'34 N'34 n'34 k'34 _ (by rw [show zvar (zdig O (x : Int)) 120 (m / 9) = zput (zput (zdig O (x : Int)) 120) (48 + ((m / 9 : Nat) : Int)) from if_pos (by omega), ← zdig1 (by omega)]; exact sb_34) (fun q a1 a2 a3 => ((pf_34 q (by omega) (by omega) (by omega)).trans ((pf_30 q (by omega) (by omega) (by omega)).trans (pf_5 q (by omega) (by omega) (by omega))))) (by omega) (by omega)
