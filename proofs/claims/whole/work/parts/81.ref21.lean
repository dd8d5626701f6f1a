/-! ===== the reference: text: printed by wip/whole/gen/s_ref21.py ===== -/
/-- the reference at work on the bytes by2, e of them, at place a -/
def rfX (e a : Nat) (h : zHp) (m : Nat) (P : pT) (L : lT) (by2 : Nat → Int) (O : tT) (V : Int × pT) : Prop := a ≤ e ∧ ∃ (fk : Int) (z c : Nat) (cn nu sp ss : Int) (iby : Nat → Int), rfO fk z c cn (e : Int) (a : Int) nu sp ss h m P L (0, by2) O V ∧ zar h (m + 24) 60 iby ∧ ∀ i, i < e → iby i = by2 i
def rfY (e : Nat) (h : zHp) (m : Nat) (P : pT) (L : lT) (by2 : Nat → Int) (O : tT) (V : Int × pT) : Prop := ∃ (ax fk : Int) (z c : Nat) (cn nu sp ss : Int) (iby : Nat → Int), rfO fk z c cn (e : Int) ax nu sp ss h m P L (0, by2) O V ∧ zar h (m + 24) 60 iby ∧ ∀ i, i < e → iby i = by2 i
theorem rfX.y {e a : Nat} {h : zHp} {m : Nat} {P : pT} {L : lT} {by2 : Nat → Int} {O : tT} {V : Int × pT} (g : rfX e a h m P L by2 O V) : rfY e h m P L by2 O V := by
  obtain ⟨_, fk, z, c, cn, nu, sp, ss, iby, r, i0, i1⟩ := g
  exact ⟨a, fk, z, c, cn, nu, sp, ss, iby, r, i0, i1⟩
theorem rfX.at {e a : Nat} {h : zHp} {m : Nat} {P : pT} {L : lT} {by2 : Nat → Int} {O : tT} {V : Int × pT} (g : rfX e a h m P L by2 O V) : rfAt h m P L (0, by2) O V := by
  obtain ⟨_, fk, z, c, cn, nu, sp, ss, iby, r, i0, i1⟩ := g
  exact ⟨fk, z, c, cn, e, a, nu, sp, ss, r⟩
theorem zerr_no {by2 : Nat → Int} {e a : Nat} {Sf : rdT} (h : zrd by2 e = some Sf) (hd : zdone Sf = true) (he : (a < e ∧ ∃ S', zrd by2 a = some S' ∧ zstp S' (by2 a) = none) ∨ (a = e ∧ ∃ S', zrd by2 e = some S' ∧ zdone S' = false)) : False := by
  rcases he with ⟨h1, S', h2, h3⟩ | ⟨h1, S', h2, h3⟩
  · rw [(zbad_eq h2 h3 h1).1] at h; cases h
  · rw [h] at h2; cases h2; rw [hd] at h3; cases h3
theorem sadd_cnt (P : pT) (x y : Int) : ((s_add P x y).2.2.1 : Int) = (P.2.1 : Int) + if 0 < (s_add P x y).1 then 1 else 0 := by
  unfold s_add
  split
  · cases zhas P x y with
    | true => simp
    | false =>
      simp only [cond_false]
      split
      · simp
      · rw [if_pos (show (0 : Int) < (P.2.1 : Int) + 1 by omega)]; rfl
  · simp
theorem zadds_step {P : pT} {nu : Nat → Int} {c : Nat} (hc : c % 2 = 0) {x y : Int} : zadds P (zfu (zfu nu c x) (c + 1) y) ((c + 1 + 1) / 2) = (s_add (zadds P nu (c / 2)) x y).2 := by
  rw [show (c + 1 + 1) / 2 = c / 2 + 1 by omega, zadds, show 2 * (c / 2) = c by omega, zfu_self, zfu_ne (by omega), zfu_self]
  rw [zadds_ext (nu' := nu) (t := c / 2) (fun i hi => by rw [zfu_ne (by omega), zfu_ne (by omega)])]
set_option maxHeartbeats 4000000 in
set_option maxRecDepth 100000 in
theorem m_X10_inputLength {n0 n k : Nat} {g : Nat → zV} {h : zHp} {Q : Option zV → Nat → Nat → zHp → Prop} {m : Nat} {P : pT} {L : lT} {I O : tT} {V : Int × pT} (hP : pwf P) (hL : lwf L) (hI : iwf I) (hO : owf O) (hV : vwf V) (hB : n0 ≤ m) (hrf : rfAt h m P L I O V) (hQ : Q (some (.inl (I.1 : Int))) n k h) : ZT n0 g mX10_inputLength 0 (zloc mX10_inputLength [.inr (some m)]) [] n k h Q := by
  show ZT n0 g mX10_inputLength 0 [some (.inr (some m))] [] n k h Q
  obtain ⟨fk, z, c, cn, en, ax, nu, sp, ss, hM, rp, rc, rk, rf, ry, ri, ro, rl, rv⟩ := id hrf
  have hpb := hP.bd
  have hs8 := hP.2.1
  refine T_aload_n dX10_inputLength_0 rfl ?_
  refine T_getfield dX10_inputLength_1 zkf_11_252 hM rfl ?_
  refine T_iret dX10_inputLength_4 rfl ?_
  exact hQ
set_option maxHeartbeats 4000000 in
set_option maxRecDepth 100000 in
theorem m_X10_appendInput {n0 n k : Nat} {g : Nat → zV} {h : zHp} {Q : Option zV → Nat → Nat → zHp → Prop} {m : Nat} {P : pT} {L : lT} {I O : tT} {V : Int × pT} {x : Int} (hP : pwf P) (hL : lwf L) (hI : iwf I) (hO : owf O) (hV : vwf V) (hB : n0 ≤ m) (hrf : rfAt h m P L I O V) (hQ : ∀  (h' : zHp), (rfAt h' m P L (s_ai I x).2 O V) → (∀ q : Nat, (q < m ∨ m + 33 ≤ q) → h' q = h q) → Q (some (.inl ((s_ai I x).1))) n k h') : ZT n0 g mX10_appendInput 0 (zloc mX10_appendInput [.inr (some m), .inl x]) [] n k h Q := by
  show ZT n0 g mX10_appendInput 0 [some (.inr (some m)), some (.inl x)] [] n k h Q
  obtain ⟨fk, z, c, cn, en, ax, nu, sp, ss, hM, rp, rc, rk, rf, ry, ri, ro, rl, rv⟩ := id hrf
  have hpb := hP.bd
  have hs8 := hP.2.1
  obtain ⟨iby, i0, i1⟩ := id ri
  refine T_iload_n dX10_appendInput_0 rfl ?_
  refine T_iconst dX10_appendInput_1 (by decide) ?_
  refine T_bipush dX10_appendInput_2 (by decide) ?_
  refine T_callS dX10_appendInput_4 zkm_11_114 ⟨Nat.le_of_ble_eq_true rfl, Nat.le_of_ble_eq_true rfl, rfl⟩ rfl (Nat.le_of_ble_eq_true rfl) ?_
  refine m_X10_isIn   (fun k4a => ?_) (fun k4a_2 => ?_)
  · refine T_if_ne dX10_appendInput_7 (t := 13) rfl (fun _ => ?_) (fun hc => absurd hc (by decide))
    have hI6 := hI.1
    refine T_aload_n dX10_appendInput_13 rfl ?_
    refine T_getfield dX10_appendInput_14 zkf_11_252 hM rfl ?_
    refine T_bipush dX10_appendInput_17 (by decide) ?_
    refine T_icmp_ne dX10_appendInput_19 (t := 25) rfl (fun c19 => ?_) (fun c19 => ?_)
    · refine T_aload_n dX10_appendInput_25 rfl ?_
      refine T_getfield dX10_appendInput_26 zkf_11_84 hM rfl ?_
      refine T_aload_n dX10_appendInput_29 rfl ?_
      refine T_getfield dX10_appendInput_30 zkf_11_252 hM rfl ?_
      refine T_iload_n dX10_appendInput_33 rfl ?_
      refine T_iastoreN (m := I.1) dX10_appendInput_34 i0 rfl (by omega) (by omega) ?_
      refine T_aload_n dX10_appendInput_35 rfl ?_
      refine T_dup dX10_appendInput_36 ?_
      refine T_getfield dX10_appendInput_37 zkf_11_252 (zup_ne (by omega) hM) rfl ?_
      refine T_iconst dX10_appendInput_40 (by decide) ?_
      refine T_iadd dX10_appendInput_41 ⟨by omega, by omega⟩ ?_
      refine T_putfield dX10_appendInput_42 zkf_11_252 (zup_ne (by omega) hM) (Nat.le_of_ble_eq_true rfl) (by omega) rfl (fun hf => absurd hf (by decide)) rfl ?_
      refine T_aload_n dX10_appendInput_45 rfl ?_
      refine T_getfield dX10_appendInput_46 zkf_11_252 zup_self rfl ?_
      refine T_iret dX10_appendInput_49 rfl ?_
      have e : s_ai I x = ((I.1 : Int) + 1, zput I x) := by unfold s_ai; rw [if_pos (by omega), if_pos (by omega)]
      rw [e] at hQ
      exact hQ _ ⟨fk, z, c, cn, en, ax, nu, sp, ss, zup_self, (rp.frame (fun q a1 a2 => ((zup_nf (by omega)).trans (((zup_nf (by omega)).trans (rfl)))))), (rc.frame (fun q a1 a2 => ((zup_nf (by omega)).trans (((zup_nf (by omega)).trans (rfl)))))), (rk.frame (fun q a1 a2 => ((zup_nf (by omega)).trans (((zup_nf (by omega)).trans (rfl)))))), (rf.frame (fun q a1 a2 => ((zup_nf (by omega)).trans (((zup_nf (by omega)).trans (rfl)))))), (ry.frame (fun q a1 a2 => ((zup_nf (by omega)).trans (((zup_nf (by omega)).trans (rfl)))))), ⟨_, (zup_ne (by omega) zup_self), fun i hi => by
        have hi : i < I.1 + 1 := hi
        by_cases e9 : i = I.1
        · rw [e9]; exact zfu_self.trans zfu_self.symm
        · exact (zfu_ne e9).trans ((i1 i (by omega)).trans (zfu_ne e9).symm)⟩, (ro.frame (fun q a1 a2 => ((zup_nf (by omega)).trans (((zup_nf (by omega)).trans (rfl)))))), (rl.frame (fun q a1 a2 => ((zup_nf (by omega)).trans (((zup_nf (by omega)).trans (rfl)))))), (rv.frame (fun q a1 a2 => ((zup_nf (by omega)).trans (((zup_nf (by omega)).trans (rfl))))))⟩ (fun q a1 => ((zup_nf (by omega)).trans (((zup_nf (by omega)).trans (rfl)))))
    · refine T_bipush dX10_appendInput_22 (by decide) ?_
      refine T_iret dX10_appendInput_24 rfl ?_
      have e : s_ai I x = (-4, I) := by unfold s_ai; rw [if_pos (by omega), if_neg (by omega)]
      rw [e] at hQ
      exact hQ h hrf (fun _ _ => rfl)
  · refine T_if_ne dX10_appendInput_7 (t := 13) rfl (fun hc => absurd hc (by decide)) (fun _ => ?_)
    refine T_bipush dX10_appendInput_10 (by decide) ?_
    refine T_iret dX10_appendInput_12 rfl ?_
    have e : s_ai I x = (-2, I) := by exact if_neg (by omega)
    rw [e] at hQ
    exact hQ h hrf (fun _ _ => rfl)
set_option maxHeartbeats 4000000 in
set_option maxRecDepth 100000 in
theorem m_X10_outputByte {n0 n k : Nat} {g : Nat → zV} {h : zHp} {Q : Option zV → Nat → Nat → zHp → Prop} {m : Nat} {P : pT} {L : lT} {I O : tT} {V : Int × pT} {i : Int} (hP : pwf P) (hL : lwf L) (hI : iwf I) (hO : owf O) (hV : vwf V) (hB : n0 ≤ m) (hrf : rfAt h m P L I O V) (hQ : Q (some (.inl (s_ob O i))) n k h) : ZT n0 g mX10_outputByte 0 (zloc mX10_outputByte [.inr (some m), .inl i]) [] n k h Q := by
  show ZT n0 g mX10_outputByte 0 [some (.inr (some m)), some (.inl i)] [] n k h Q
  obtain ⟨fk, z, c, cn, en, ax, nu, sp, ss, hM, rp, rc, rk, rf, ry, ri, ro, rl, rv⟩ := id hrf
  have hpb := hP.bd
  have hs8 := hP.2.1
  obtain ⟨oby, q0, q1⟩ := id ro
  refine T_iload_n dX10_outputByte_0 rfl ?_
  refine T_iconst dX10_outputByte_1 (by decide) ?_
  refine T_aload_n dX10_outputByte_2 rfl ?_
  refine T_getfield dX10_outputByte_3 zkf_11_281 hM rfl ?_
  refine T_iconst dX10_outputByte_6 (by decide) ?_
  have hO9 := hO.1
  refine T_isub dX10_outputByte_7 ⟨by omega, by omega⟩ ?_
  refine T_callS dX10_outputByte_8 zkm_11_114 ⟨Nat.le_of_ble_eq_true rfl, Nat.le_of_ble_eq_true rfl, rfl⟩ rfl (Nat.le_of_ble_eq_true rfl) ?_
  refine m_X10_isIn   (fun k8a => ?_) (fun k8a_2 => ?_)
  · refine T_if_eq dX10_outputByte_11 (t := 23) rfl (fun hc => absurd hc (by decide)) (fun _ => ?_)
    refine T_aload_n dX10_outputByte_14 rfl ?_
    refine T_getfield dX10_outputByte_15 zkf_11_87 hM rfl ?_
    refine T_iload_n dX10_outputByte_18 rfl ?_
    obtain ⟨j, rfl⟩ := Int.eq_ofNat_of_zero_le k8a.1
    have hj : j < O.1 := by omega
    have qj := q1 j hj
    refine T_ialoadN (m := j) dX10_outputByte_19 q0 rfl (by omega) ?_
    refine T_goto dX10_outputByte_20 (t := 24) rfl ?_
    refine T_iret dX10_outputByte_24 rfl ?_
    have e : s_ob O (j : Int) = oby j := by unfold s_ob; rw [if_pos (by omega), Int.toNat_natCast, qj]
    rw [e] at hQ
    exact hQ
  · refine T_if_eq dX10_outputByte_11 (t := 23) rfl (fun _ => ?_) (fun hc => absurd hc (by decide))
    refine T_iconst dX10_outputByte_23 (by decide) ?_
    refine T_iret dX10_outputByte_24 rfl ?_
    have e : s_ob O i = -1 := if_neg (by omega)
    rw [e] at hQ
    exact hQ
set_option maxHeartbeats 4000000 in
set_option maxRecDepth 100000 in
theorem m_X10_isAt {n0 n k : Nat} {g : Nat → zV} {h : zHp} {Q : Option zV → Nat → Nat → zHp → Prop} {m s z c en ax : Nat} {p fk cn ln nu wr sv sp ss : Int} {iby : Nat → Int} {x y : Int} (hM : h m = some (.inl (11, mOb m p (s : Int) fk (z : Int) (c : Int) cn ln (en : Int) (ax : Int) nu wr sv sp ss))) (i0 : h (m + 24) = some (.inr (.inl (0, 60, iby)))) (he : en ≤ 60) (hT : (ax < en ∧ x ≤ iby ax ∧ iby ax ≤ y) → Q (some (.inl 1)) n k h) (hF : (¬ (ax < en ∧ x ≤ iby ax ∧ iby ax ≤ y)) → Q (some (.inl 0)) n k h) : ZT n0 g mX10_isAt 0 (zloc mX10_isAt [.inr (some m), .inl x, .inl y]) [] n k h Q := by
  show ZT n0 g mX10_isAt 0 [some (.inr (some m)), some (.inl x), some (.inl y)] [] n k h Q
  refine T_aload_n dX10_isAt_0 rfl ?_
  refine T_getfield dX10_isAt_1 zkf_11_255 hM rfl ?_
  refine T_aload_n dX10_isAt_4 rfl ?_
  refine T_getfield dX10_isAt_5 zkf_11_258 hM rfl ?_
  refine T_icmp_ge dX10_isAt_8 (t := 32) rfl (fun c8 => ?_) (fun c8 => ?_)
  · refine T_iconst dX10_isAt_32 (by decide) ?_
    refine T_iret dX10_isAt_33 rfl ?_
    exact hF (by omega)
  · refine T_aload_n dX10_isAt_11 rfl ?_
    refine T_getfield dX10_isAt_12 zkf_11_84 hM rfl ?_
    refine T_aload_n dX10_isAt_15 rfl ?_
    refine T_getfield dX10_isAt_16 zkf_11_255 hM rfl ?_
    refine T_ialoadN (m := ax) dX10_isAt_19 i0 rfl (by omega) ?_
    refine T_iload_n dX10_isAt_20 rfl ?_
    refine T_iload_n dX10_isAt_21 rfl ?_
    refine T_callS dX10_isAt_22 zkm_11_114 ⟨Nat.le_of_ble_eq_true rfl, Nat.le_of_ble_eq_true rfl, rfl⟩ rfl (Nat.le_of_ble_eq_true rfl) ?_
    refine m_X10_isIn   (fun k22a => ?_) (fun k22a_2 => ?_)
    · refine T_if_eq dX10_isAt_25 (t := 32) rfl (fun hc => absurd hc (by decide)) (fun _ => ?_)
      refine T_iconst dX10_isAt_28 (by decide) ?_
      refine T_goto dX10_isAt_29 (t := 33) rfl ?_
      refine T_iret dX10_isAt_33 rfl ?_
      exact hT (by omega)
    · refine T_if_eq dX10_isAt_25 (t := 32) rfl (fun _ => ?_) (fun hc => absurd hc (by decide))
      refine T_iconst dX10_isAt_32 (by decide) ?_
      refine T_iret dX10_isAt_33 rfl ?_
      exact hF (by omega)
set_option maxHeartbeats 4000000 in
set_option maxRecDepth 100000 in
theorem m_X10_takesNumber {n0 n k : Nat} {g : Nat → zV} {h : zHp} {Q : Option zV → Nat → Nat → zHp → Prop} {m s z c en ax : Nat} {p fk cn ln nu wr sv sp ss : Int} {iby : Nat → Int} {by2 : Nat → Int} {S : rdT} (hM : h m = some (.inl (11, mOb m p (s : Int) fk (z : Int) (c : Int) cn ln (en : Int) (ax : Int) nu wr sv sp ss))) (i0 : h (m + 24) = some (.inr (.inl (0, 60, iby)))) (he : en ≤ 60) (hw : n0 ≤ m) (hS : zrd by2 ax = some S) (hS0 : S.2.2.1 = 0 ∧ S.2.1 = 0) (hib : ∀ i, i < en → iby i = by2 i) (hby : ∀ i, i < en → 1 ≤ by2 i ∧ by2 i ≤ 127) (hF : (¬ (ax < en ∧ 48 ≤ by2 (ax) ∧ by2 (ax) ≤ 57)) → Q (some (.inl 0)) n k h) (hT : ∀ (d : Nat) (v : Int) (h' : zHp), (zrd by2 (ax + d) = some (S.1, v, d, S.2.2.2)) → ((d = 1 ∨ d = 2) ∧ ax + d ≤ en) → (d = 2 ∨ ¬ (ax + d < en ∧ 48 ≤ by2 (ax + d) ∧ by2 (ax + d) ≤ 57)) → h' m = some (.inl (11, mOb m p (s : Int) fk (z : Int) (c : Int) cn ln (en : Int) ((ax + d) : Int) v wr sv sp ss)) → (∀ q : Nat, q ≠ m → h' q = h q) → Q (some (.inl 1)) n k h') : ZT n0 g mX10_takesNumber 0 (zloc mX10_takesNumber [.inr (some m)]) [] n k h Q := by
  show ZT n0 g mX10_takesNumber 0 [some (.inr (some m))] [] n k h Q
  refine T_aload_n dX10_takesNumber_0 rfl ?_
  refine T_bipush dX10_takesNumber_1 (by decide) ?_
  refine T_bipush dX10_takesNumber_3 (by decide) ?_
  refine T_callV dX10_takesNumber_5 zkm_11_261 (Or.inl rfl) rfl hM ⟨Nat.le_of_ble_eq_true rfl, rfl⟩ rfl (Nat.le_of_ble_eq_true rfl) ?_
  refine m_X10_isAt hM i0 (by omega) (fun k5a => ?_) (fun k5a_2 => ?_)
  · refine T_if_ne dX10_takesNumber_8 (t := 13) rfl (fun _ => ?_) (fun hc => absurd hc (by decide))
    have e1 := hib ax k5a.1
    have b1 := hby ax k5a.1
    have s1 : zrd by2 (ax + 1) = some (S.1, by2 ax - 48, 1, S.2.2.2) := (by
      show (zrd by2 ax).bind _ = _
      rw [hS]
      show zstp _ (by2 ax) = _
      unfold zstp
      rw [if_pos ⟨by omega, by omega⟩, hS0.1, hS0.2, show (10 * 0 + by2 ax - 48 : Int) = by2 ax - 48 by omega])
    refine T_aload_n dX10_takesNumber_13 rfl ?_
    refine T_aload_n dX10_takesNumber_14 rfl ?_
    refine T_getfield dX10_takesNumber_15 zkf_11_84 hM rfl ?_
    refine T_aload_n dX10_takesNumber_18 rfl ?_
    refine T_getfield dX10_takesNumber_19 zkf_11_255 hM rfl ?_
    refine T_ialoadN (m := ax) dX10_takesNumber_22 i0 rfl (by omega) ?_
    refine T_bipush dX10_takesNumber_23 (by decide) ?_
    rw [e1]
    refine T_isub dX10_takesNumber_25 ⟨by omega, by omega⟩ ?_
    refine T_putfield dX10_takesNumber_26 zkf_11_264 hM (Nat.le_of_ble_eq_true rfl) (by omega) rfl (fun hf => absurd hf (by decide)) rfl ?_
    refine T_aload_n dX10_takesNumber_29 rfl ?_
    refine T_dup dX10_takesNumber_30 ?_
    refine T_getfield dX10_takesNumber_31 zkf_11_255 zup_self rfl ?_
    refine T_iconst dX10_takesNumber_34 (by decide) ?_
    refine T_iadd dX10_takesNumber_35 ⟨by omega, by omega⟩ ?_
    refine T_putfield dX10_takesNumber_36 zkf_11_255 zup_self (Nat.le_of_ble_eq_true rfl) (by omega) rfl (fun hf => absurd hf (by decide)) rfl ?_
    refine T_aload_n dX10_takesNumber_39 rfl ?_
    refine T_bipush dX10_takesNumber_40 (by decide) ?_
    refine T_bipush dX10_takesNumber_42 (by decide) ?_
    refine T_callV dX10_takesNumber_44 zkm_11_261 (Or.inl rfl) rfl zup_self ⟨Nat.le_of_ble_eq_true rfl, rfl⟩ rfl (Nat.le_of_ble_eq_true rfl) ?_
    refine m_X10_isAt (ax := ax + 1) zup_self (zup_ne (by omega) (zup_ne (by omega) i0)) (by omega) (fun k44a => ?_) (fun k44a_2 => ?_)
    · refine T_if_eq dX10_takesNumber_47 (t := 84) rfl (fun hc => absurd hc (by decide)) (fun _ => ?_)
      have e2 := hib (ax + 1) k44a.1
      have b2 := hby (ax + 1) k44a.1
      have s2 : zrd by2 (ax + 2) = some (S.1, 10 * (by2 ax - 48) + by2 (ax + 1) - 48, 2, S.2.2.2) := (by
        show (zrd by2 (ax + 1)).bind _ = _
        rw [s1]
        show zstp _ (by2 (ax + 1)) = _
        unfold zstp
        rw [if_pos ⟨by omega, by show (1 : Nat) < 2; decide⟩])
      refine T_aload_n dX10_takesNumber_50 rfl ?_
      refine T_bipush dX10_takesNumber_51 (by decide) ?_
      refine T_aload_n dX10_takesNumber_53 rfl ?_
      refine T_getfield dX10_takesNumber_54 zkf_11_264 zup_self rfl ?_
      refine T_imul dX10_takesNumber_57 ⟨by omega, by omega⟩ ?_
      refine T_aload_n dX10_takesNumber_58 rfl ?_
      refine T_getfield dX10_takesNumber_59 zkf_11_84 zup_self rfl ?_
      refine T_aload_n dX10_takesNumber_62 rfl ?_
      refine T_getfield dX10_takesNumber_63 zkf_11_255 zup_self rfl ?_
      refine T_ialoadN (m := (ax + 1)) dX10_takesNumber_66 (zup_ne (by omega) (zup_ne (by omega) i0)) rfl (by omega) ?_
      rw [e2]
      refine T_iadd dX10_takesNumber_67 ⟨by omega, by omega⟩ ?_
      refine T_bipush dX10_takesNumber_68 (by decide) ?_
      refine T_isub dX10_takesNumber_70 ⟨by omega, by omega⟩ ?_
      refine T_putfield dX10_takesNumber_71 zkf_11_264 zup_self (Nat.le_of_ble_eq_true rfl) (by omega) rfl (fun hf => absurd hf (by decide)) rfl ?_
      refine T_aload_n dX10_takesNumber_74 rfl ?_
      refine T_dup dX10_takesNumber_75 ?_
      refine T_getfield dX10_takesNumber_76 zkf_11_255 zup_self rfl ?_
      refine T_iconst dX10_takesNumber_79 (by decide) ?_
      refine T_iadd dX10_takesNumber_80 ⟨by omega, by omega⟩ ?_
      refine T_putfield dX10_takesNumber_81 zkf_11_255 zup_self (Nat.le_of_ble_eq_true rfl) (by omega) rfl (fun hf => absurd hf (by decide)) rfl ?_
      refine T_iconst dX10_takesNumber_84 (by decide) ?_
      refine T_iret dX10_takesNumber_85 rfl ?_
      exact hT 2 _ _ s2 (by omega) (Or.inl rfl) zup_self (fun q q1 => ((zup_nf (by omega)).trans (((zup_nf (by omega)).trans (((zup_nf (by omega)).trans (((zup_nf (by omega)).trans (rfl)))))))))
    · refine T_if_eq dX10_takesNumber_47 (t := 84) rfl (fun _ => ?_) (fun hc => absurd hc (by decide))
      refine T_iconst dX10_takesNumber_84 (by decide) ?_
      refine T_iret dX10_takesNumber_85 rfl ?_
      exact hT 1 _ _ s1 (by omega) (Or.inr (fun q => k44a_2 (by have := hib (ax + 1) q.1; omega))) zup_self (fun q q1 => ((zup_nf (by omega)).trans (((zup_nf (by omega)).trans (rfl)))))
  · refine T_if_ne dX10_takesNumber_8 (t := 13) rfl (fun hc => absurd hc (by decide)) (fun _ => ?_)
    refine T_iconst dX10_takesNumber_11 (by decide) ?_
    refine T_iret dX10_takesNumber_12 rfl ?_
    exact hF (fun q => k5a_2 (by have := hib ax q.1; omega))
set_option maxHeartbeats 4000000 in
set_option maxRecDepth 100000 in
theorem f2_raddPoint_33 {n0 n k : Nat} {g : Nat → zV} {h : zHp} {Q : Option zV → Nat → Nat → zHp → Prop} {m : Nat} {P : pT} {L : lT} {I O : tT} {V : Int × pT} {fk : Int} {z c : Nat} {cn en ax nu sp ss : Int} {x y : Int} (hP : pwf P) (hL : lwf L) (hI : iwf I) (hO : owf O) (hV : vwf V) (hB : n0 ≤ m) (hrf : rfO fk z c cn en ax nu sp ss h m P L I O V) (hQ : ∀  (h' : zHp), (∃ (fk' : Int) (z' c' : Nat) (cn' : Int), rfO fk' z' c' cn' en ax nu sp ss h' m (s_add P x y).2 L I O V) → (∀ q : Nat, (q < m ∨ m + 33 ≤ q) → h' q = h q) → (h' (m + 24) = h (m + 24)) → Q (some (.inl ((s_add P x y).1))) n k h') : ∀ (d : Nat) (j : Nat), P.2.1 - j = d → (j ≤ P.2.1) → ((0 ≤ x ∧ x < P.1) ∧ (0 ≤ y ∧ y < P.1)) → (∀ i, i < j → ¬ (P.2.2.1 i = x ∧ P.2.2.2.1 i = y)) → ZT n0 g mX10_addPoint 33 [some (.inr (some m)), some (.inl x), some (.inl y), some (.inl (j : Int))] [] n k h Q := by
  intro d
  induction d using Nat.strongRecOn with | _ d ih => ?_
  intro j hd0 hj hb hn
  subst hd0
  obtain ⟨hM, rp, rc, rk, rf, ry, ri, ro, rl, rv⟩ := id hrf
  have hpb := hP.bd
  have hs8 := hP.2.1
  obtain ⟨xs, ys, p0, p1, p2⟩ := id rp
  refine T_iload_n dX10_addPoint_33 rfl ?_
  refine T_aload_n dX10_addPoint_34 rfl ?_
  refine T_getfield dX10_addPoint_35 zkf_11_111 hM rfl ?_
  refine T_icmp_ge dX10_addPoint_38 (t := 70) rfl (fun c38 => ?_) (fun c38 => ?_)
  · refine T_aload_n dX10_addPoint_70 rfl ?_
    refine T_getfield dX10_addPoint_71 zkf_11_111 hM rfl ?_
    refine T_bipush dX10_addPoint_74 (by decide) ?_
    refine T_icmp_ne dX10_addPoint_76 (t := 82) rfl (fun c76 => ?_) (fun c76 => ?_)
    · refine T_aload_n dX10_addPoint_82 rfl ?_
      refine T_getfield dX10_addPoint_83 zkf_11_13 hM rfl ?_
      refine T_aload_n dX10_addPoint_86 rfl ?_
      refine T_getfield dX10_addPoint_87 zkf_11_111 hM rfl ?_
      refine T_iload_n dX10_addPoint_90 rfl ?_
      refine T_iastoreN (m := P.2.1) dX10_addPoint_91 p0 rfl (by omega) (by omega) ?_
      refine T_aload_n dX10_addPoint_92 rfl ?_
      refine T_getfield dX10_addPoint_93 zkf_11_17 (zup_ne (by omega) hM) rfl ?_
      refine T_aload_n dX10_addPoint_96 rfl ?_
      refine T_getfield dX10_addPoint_97 zkf_11_111 (zup_ne (by omega) hM) rfl ?_
      refine T_iload_n dX10_addPoint_100 rfl ?_
      refine T_iastoreN (m := P.2.1) dX10_addPoint_101 (zup_ne (by omega) p1) rfl (by omega) (by omega) ?_
      refine T_aload_n dX10_addPoint_102 rfl ?_
      refine T_dup dX10_addPoint_103 ?_
      refine T_getfield dX10_addPoint_104 zkf_11_111 (zup_ne (by omega) (zup_ne (by omega) hM)) rfl ?_
      refine T_iconst dX10_addPoint_107 (by decide) ?_
      refine T_iadd dX10_addPoint_108 ⟨by omega, by omega⟩ ?_
      refine T_putfield dX10_addPoint_109 zkf_11_111 (zup_ne (by omega) (zup_ne (by omega) hM)) (Nat.le_of_ble_eq_true rfl) (by omega) rfl (fun hf => absurd hf (by decide)) rfl ?_
      refine T_aload_n dX10_addPoint_112 rfl ?_
      refine T_iconst dX10_addPoint_113 (by decide) ?_
      refine T_putfield dX10_addPoint_114 zkf_11_122 zup_self (Nat.le_of_ble_eq_true rfl) (by omega) rfl (fun hf => absurd hf (by decide)) rfl ?_
      refine T_aload_n dX10_addPoint_117 rfl ?_
      refine T_getfield dX10_addPoint_118 zkf_11_111 zup_self rfl ?_
      refine T_iret dX10_addPoint_121 rfl ?_
      have hh : zhas P x y = false := zhas_f (fun i hi => hn i (by omega))
      have e : s_add P x y = ((P.2.1 : Int) + 1, (P.1, P.2.1 + 1, zfu P.2.2.1 P.2.1 x, zfu P.2.2.2.1 P.2.1 y, P.2.2.2.2)) := by unfold s_add; rw [if_pos hb, hh, cond_false, if_neg (by omega)]
      rw [e] at hQ
      exact hQ _ ⟨0, z, c, cn, zup_self, ⟨_, _, (zup_ne (by omega) (zup_ne (by omega) (zup_ne (by omega) zup_self))), (zup_ne (by omega) (zup_ne (by omega) zup_self)), fun k hk => ⟨by
        by_cases e9 : k = P.2.1
        · rw [e9, zfu_self]; exact zfu_self.symm
        · rw [zfu_ne e9]; exact (p2 k (by have : k < P.2.1 + 1 := hk; omega)).1.trans (zfu_ne e9).symm, by
        by_cases e9 : k = P.2.1
        · rw [e9, zfu_self]; exact zfu_self.symm
        · rw [zfu_ne e9]; exact (p2 k (by have : k < P.2.1 + 1 := hk; omega)).2.trans (zfu_ne e9).symm⟩⟩, (rc.frame (fun q a1 a2 => ((zup_nf (by omega)).trans (((zup_nf (by omega)).trans (((zup_nf (by omega)).trans (((zup_nf (by omega)).trans (rfl)))))))))), (rk.frame (fun q a1 a2 => ((zup_nf (by omega)).trans (((zup_nf (by omega)).trans (((zup_nf (by omega)).trans (((zup_nf (by omega)).trans (rfl)))))))))), (rf.frame (fun q a1 a2 => ((zup_nf (by omega)).trans (((zup_nf (by omega)).trans (((zup_nf (by omega)).trans (((zup_nf (by omega)).trans (rfl)))))))))).forget, (ry.frame (fun q a1 a2 => ((zup_nf (by omega)).trans (((zup_nf (by omega)).trans (((zup_nf (by omega)).trans (((zup_nf (by omega)).trans (rfl)))))))))), (ri.frame (fun q a1 a2 => ((zup_nf (by omega)).trans (((zup_nf (by omega)).trans (((zup_nf (by omega)).trans (((zup_nf (by omega)).trans (rfl)))))))))), (ro.frame (fun q a1 a2 => ((zup_nf (by omega)).trans (((zup_nf (by omega)).trans (((zup_nf (by omega)).trans (((zup_nf (by omega)).trans (rfl)))))))))), (rl.frame (fun q a1 a2 => ((zup_nf (by omega)).trans (((zup_nf (by omega)).trans (((zup_nf (by omega)).trans (((zup_nf (by omega)).trans (rfl)))))))))), (rv.frame (fun q a1 a2 => ((zup_nf (by omega)).trans (((zup_nf (by omega)).trans (((zup_nf (by omega)).trans (((zup_nf (by omega)).trans (rfl))))))))))⟩ (fun q a1 => ((zup_nf (by omega)).trans (((zup_nf (by omega)).trans (((zup_nf (by omega)).trans (((zup_nf (by omega)).trans (rfl))))))))) ((zup_nf (by omega)).trans (((zup_nf (by omega)).trans (((zup_nf (by omega)).trans (((zup_nf (by omega)).trans (rfl))))))))
    · refine T_bipush dX10_addPoint_79 (by decide) ?_
      refine T_iret dX10_addPoint_81 rfl ?_
      have hh : zhas P x y = false := zhas_f (fun i hi => hn i (by omega))
      have e : s_add P x y = (-4, P) := by unfold s_add; rw [if_pos hb, hh, cond_false, if_pos (by omega)]
      rw [e] at hQ
      exact hQ h ⟨_, _, _, _, hrf⟩ (fun _ _ => rfl) rfl
  · have pj := p2 j (by omega)
    refine T_aload_n dX10_addPoint_41 rfl ?_
    refine T_getfield dX10_addPoint_42 zkf_11_13 hM rfl ?_
    refine T_iload_n dX10_addPoint_45 rfl ?_
    refine T_ialoadN (m := j) dX10_addPoint_46 p0 rfl (by omega) ?_
    refine T_iload_n dX10_addPoint_47 rfl ?_
    refine T_icmp_ne dX10_addPoint_48 (t := 64) rfl (fun c48 => ?_) (fun c48 => ?_)
    · refine T_iinc dX10_addPoint_64 rfl ⟨by omega, by omega⟩ ?_
      refine T_goto dX10_addPoint_67 (t := 33) rfl ?_
      exact ih _ (by omega) (j + 1) rfl  (by omega) (by omega) (fun i hi => by
            by_cases e : i = j
            · subst e; omega
            · exact hn i (by omega)) 
    · refine T_aload_n dX10_addPoint_51 rfl ?_
      refine T_getfield dX10_addPoint_52 zkf_11_17 hM rfl ?_
      refine T_iload_n dX10_addPoint_55 rfl ?_
      refine T_ialoadN (m := j) dX10_addPoint_56 p1 rfl (by omega) ?_
      refine T_iload_n dX10_addPoint_57 rfl ?_
      refine T_icmp_ne dX10_addPoint_58 (t := 64) rfl (fun c58 => ?_) (fun c58 => ?_)
      · refine T_iinc dX10_addPoint_64 rfl ⟨by omega, by omega⟩ ?_
        refine T_goto dX10_addPoint_67 (t := 33) rfl ?_
        exact ih _ (by omega) (j + 1) rfl  (by omega) (by omega) (fun i hi => by
              by_cases e : i = j
              · subst e; omega
              · exact hn i (by omega)) 
      · refine T_bipush dX10_addPoint_61 (by decide) ?_
        refine T_iret dX10_addPoint_63 rfl ?_
        have hh : zhas P x y = true := zhas_iff.mpr ⟨j, by omega, by rw [← (p2 j (by omega)).1]; omega, by rw [← (p2 j (by omega)).2]; omega⟩
        have e : s_add P x y = (-3, P) := by unfold s_add; rw [if_pos hb, hh]; rfl
        rw [e] at hQ
        exact hQ h ⟨_, _, _, _, hrf⟩ (fun _ _ => rfl) rfl
set_option maxHeartbeats 4000000 in
set_option maxRecDepth 100000 in
theorem f2_raddPoint {n0 n k : Nat} {g : Nat → zV} {h : zHp} {Q : Option zV → Nat → Nat → zHp → Prop} {m : Nat} {P : pT} {L : lT} {I O : tT} {V : Int × pT} {fk : Int} {z c : Nat} {cn en ax nu sp ss : Int} {x y : Int} (hP : pwf P) (hL : lwf L) (hI : iwf I) (hO : owf O) (hV : vwf V) (hB : n0 ≤ m) (hrf : rfO fk z c cn en ax nu sp ss h m P L I O V) (hQ : ∀  (h' : zHp), (∃ (fk' : Int) (z' c' : Nat) (cn' : Int), rfO fk' z' c' cn' en ax nu sp ss h' m (s_add P x y).2 L I O V) → (∀ q : Nat, (q < m ∨ m + 33 ≤ q) → h' q = h q) → (h' (m + 24) = h (m + 24)) → Q (some (.inl ((s_add P x y).1))) n k h') : ZT n0 g mX10_addPoint 0 (zloc mX10_addPoint [.inr (some m), .inl x, .inl y]) [] n k h Q := by
  show ZT n0 g mX10_addPoint 0 [some (.inr (some m)), some (.inl x), some (.inl y), none] [] n k h Q
  obtain ⟨hM, rp, rc, rk, rf, ry, ri, ro, rl, rv⟩ := id hrf
  have hpb := hP.bd
  have hs8 := hP.2.1
  obtain ⟨xs, ys, p0, p1, p2⟩ := id rp
  refine T_iload_n dX10_addPoint_0 rfl ?_
  refine T_iconst dX10_addPoint_1 (by decide) ?_
  refine T_aload_n dX10_addPoint_2 rfl ?_
  refine T_getfield dX10_addPoint_3 zkf_11_7 hM rfl ?_
  refine T_iconst dX10_addPoint_6 (by decide) ?_
  refine T_isub dX10_addPoint_7 ⟨by omega, by omega⟩ ?_
  refine T_callS dX10_addPoint_8 zkm_11_114 ⟨Nat.le_of_ble_eq_true rfl, Nat.le_of_ble_eq_true rfl, rfl⟩ rfl (Nat.le_of_ble_eq_true rfl) ?_
  refine m_X10_isIn   (fun k8a => ?_) (fun k8a_2 => ?_)
  · refine T_if_eq dX10_addPoint_11 (t := 28) rfl (fun hc => absurd hc (by decide)) (fun _ => ?_)
    refine T_iload_n dX10_addPoint_14 rfl ?_
    refine T_iconst dX10_addPoint_15 (by decide) ?_
    refine T_aload_n dX10_addPoint_16 rfl ?_
    refine T_getfield dX10_addPoint_17 zkf_11_7 hM rfl ?_
    refine T_iconst dX10_addPoint_20 (by decide) ?_
    refine T_isub dX10_addPoint_21 ⟨by omega, by omega⟩ ?_
    refine T_callS dX10_addPoint_22 zkm_11_114 ⟨Nat.le_of_ble_eq_true rfl, Nat.le_of_ble_eq_true rfl, rfl⟩ rfl (Nat.le_of_ble_eq_true rfl) ?_
    refine m_X10_isIn   (fun k22a => ?_) (fun k22a_2 => ?_)
    · refine T_if_ne dX10_addPoint_25 (t := 31) rfl (fun _ => ?_) (fun hc => absurd hc (by decide))
      refine T_iconst dX10_addPoint_31 (by decide) ?_
      refine T_istore_n dX10_addPoint_32 (Nat.le_of_ble_eq_true rfl) ?_
      exact f2_raddPoint_33 hP hL hI hO hV hB hrf hQ _ 0 rfl  (by omega) (by omega) (fun i hi => absurd hi (Nat.not_lt_zero i)) 
    · refine T_if_ne dX10_addPoint_25 (t := 31) rfl (fun hc => absurd hc (by decide)) (fun _ => ?_)
      refine T_bipush dX10_addPoint_28 (by decide) ?_
      refine T_iret dX10_addPoint_30 rfl ?_
      have e : s_add P x y = (-2, P) := by unfold s_add; rw [if_neg (by omega)]
      rw [e] at hQ
      exact hQ h ⟨_, _, _, _, hrf⟩ (fun _ _ => rfl) rfl
  · refine T_if_eq dX10_addPoint_11 (t := 28) rfl (fun _ => ?_) (fun hc => absurd hc (by decide))
    refine T_bipush dX10_addPoint_28 (by decide) ?_
    refine T_iret dX10_addPoint_30 rfl ?_
    have e : s_add P x y = (-2, P) := by unfold s_add; rw [if_neg (by omega)]
    rw [e] at hQ
    exact hQ h ⟨_, _, _, _, hrf⟩ (fun _ _ => rfl) rfl
set_option maxHeartbeats 4000000 in
set_option maxRecDepth 100000 in
theorem c_takesPoint0 {n0 n k : Nat} {g : Nat → zV} {h : zHp} {Q : Option zV → Nat → Nat → zHp → Prop} {m e a : Nat} {P : pT} {L : lT} {O : tT} {V : Int × pT} {by2 : Nat → Int} {S : rdT} (hP : pwf P) (hL : lwf L) (hO : owf O) (hV : vwf V) (hB : n0 ≤ m) (he : e ≤ 60) (hby : ∀ i, i < e → 1 ≤ by2 i ∧ by2 i ≤ 127) (hx : rfX e (a) h m P L by2 O V) (hS : zrd by2 a = some S) (hS0 : S.2.2.1 = 0 ∧ S.2.1 = 0 ∧ S.1 % 2 = 0) (hE : ∀ (a' : Nat) (h' : zHp), ((a' < e ∧ ∃ S', zrd by2 a' = some S' ∧ zstp S' (by2 a') = none) ∨ (a' = e ∧ ∃ S', zrd by2 e = some S' ∧ zdone S' = false)) → (rfX e (a') h' m P L by2 O V) → (∀ q : Nat, (q < m ∨ m + 33 ≤ q) → h' q = h q) → Q (some (.inl (-1))) n k h') (hT : ∀ (a' : Nat) (S' : rdT) (x : Int) (h' : zHp), (zrd by2 a' = some S') → (S'.1 = S.1 + 1 ∧ 0 < S'.2.2.1 ∧ S'.2.2.2 = zfu S.2.2.2 S.1 x ∧ a < a' ∧ a' ≤ e) → (S'.2.2.1 = 2 ∨ ¬ (a' < e ∧ 48 ≤ by2 (a') ∧ by2 (a') ≤ 57)) → (rfX e (a') h' m P L by2 O V) → (∀ q : Nat, (q < m ∨ m + 33 ≤ q) → h' q = h q) → Q (some (.inl 0)) n k h') : ZT n0 g mX10_takesPoint 0 (zloc mX10_takesPoint [.inr (some m), .inl 0]) [] n k h Q := by
  show ZT n0 g mX10_takesPoint 0 [some (.inr (some m)), some (.inl 0), none] [] n k h Q
  obtain ⟨hae, fk, z, c, cn, nu, sp, ss, iby, ⟨hM, rp, rc, rk, rf, ry, ri, ro, rl, rv⟩, i0, i1⟩ := id hx
  have hpb := hP.bd
  refine T_aload_n dX10_takesPoint_0 rfl ?_
  refine T_callV dX10_takesPoint_1 zkm_11_267 (Or.inl rfl) rfl hM ⟨Nat.le_of_ble_eq_true rfl, rfl⟩ rfl (Nat.le_of_ble_eq_true rfl) ?_
  refine m_X10_takesNumber (by2 := by2) (S := S) hM i0 (by omega) (by omega) hS ⟨hS0.1, hS0.2.1⟩ i1 hby (fun k1a => ?_) (fun d1 v1 hh1 k1a_2 k1b k1c f1a fr1 => ?_)
  · refine T_if_ne dX10_takesPoint_4 (t := 9) rfl (fun hc => absurd hc (by decide)) (fun _ => ?_)
    refine T_iconst dX10_takesPoint_7 (by decide) ?_
    refine T_iret dX10_takesPoint_8 rfl ?_
    exact hE a _ (by
      by_cases c9 : a < e
      · exact Or.inl ⟨c9, S, hS, by unfold zstp; rw [if_neg (by omega), if_neg (by omega)]⟩
      · have ea : a = e := by omega
        subst ea
        exact Or.inr ⟨rfl, S, hS, decide_eq_false (by omega)⟩) hx (fun _ _ => rfl)
  · refine T_if_ne dX10_takesPoint_4 (t := 9) rfl (fun _ => ?_) (fun hc => absurd hc (by decide))
    refine T_aload_n dX10_takesPoint_9 rfl ?_
    refine T_getfield dX10_takesPoint_10 zkf_11_264 f1a rfl ?_
    refine T_istore_n dX10_takesPoint_13 (Nat.le_of_ble_eq_true rfl) ?_
    have sg1 : zsig S.1 = 44 := if_pos (by omega)
    have dv := k1b
    refine T_aload_n dX10_takesPoint_14 rfl ?_
    refine T_bipush dX10_takesPoint_15 (by decide) ?_
    refine T_bipush dX10_takesPoint_17 (by decide) ?_
    refine T_callV dX10_takesPoint_19 zkm_11_261 (Or.inl rfl) rfl f1a ⟨Nat.le_of_ble_eq_true rfl, rfl⟩ rfl (Nat.le_of_ble_eq_true rfl) ?_
    refine m_X10_isAt f1a ((fr1 _ (by omega)).trans i0) he (fun k19a => ?_) (fun k19a_2 => ?_)
    · refine T_if_ne dX10_takesPoint_22 (t := 27) rfl (fun _ => ?_) (fun hc => absurd hc (by decide))
      refine T_aload_n dX10_takesPoint_27 rfl ?_
      refine T_dup dX10_takesPoint_28 ?_
      refine T_getfield dX10_takesPoint_29 zkf_11_255 f1a rfl ?_
      refine T_iconst dX10_takesPoint_32 (by decide) ?_
      refine T_iadd dX10_takesPoint_33 ⟨by omega, by omega⟩ ?_
      refine T_putfield dX10_takesPoint_34 zkf_11_255 f1a (Nat.le_of_ble_eq_true rfl) (by omega) rfl (fun hf => absurd hf (by decide)) rfl ?_
      have i9 := i1 (a + d1) k19a.1
      have s2 : zrd by2 (a + d1 + 1) = some (S.1 + 1, 0, 0, zfu S.2.2.2 S.1 v1) := (by
        show (zrd by2 (a + d1)).bind _ = _
        rw [k1a_2]
        show zstp _ (by2 (a + d1)) = _
        unfold zstp
        rw [if_neg (by dsimp only; omega), if_pos ⟨by dsimp only; omega, by dsimp only; omega⟩])
      have sg2 : zsig (S.1 + 1) = 59 := if_neg (by omega)
      refine T_aload_n dX10_takesPoint_37 rfl ?_
      refine T_callV dX10_takesPoint_38 zkm_11_267 (Or.inl rfl) rfl zup_self ⟨Nat.le_of_ble_eq_true rfl, rfl⟩ rfl (Nat.le_of_ble_eq_true rfl) ?_
      refine m_X10_takesNumber (by2 := by2) (S := (S.1 + 1, 0, 0, zfu S.2.2.2 S.1 v1)) (ax := a + d1 + 1) zup_self (zup_ne (by omega) ((fr1 _ (by omega)).trans i0)) (by omega) (by omega) s2 ⟨rfl, rfl⟩ i1 hby (fun k38a => ?_) (fun d38 v38 hh38 k38a_2 k38b k38c f38a fr38 => ?_)
      · refine T_if_ne dX10_takesPoint_41 (t := 46) rfl (fun hc => absurd hc (by decide)) (fun _ => ?_)
        refine T_iconst dX10_takesPoint_44 (by decide) ?_
        refine T_iret dX10_takesPoint_45 rfl ?_
        exact hE (a + d1 + 1) _ (by
          by_cases c9 : a + d1 + 1 < e
          · exact Or.inl ⟨c9, _, s2, by unfold zstp; rw [if_neg (by dsimp only; omega), if_neg (by dsimp only; omega)]⟩
          · have ea : a + d1 + 1 = e := by omega
            exact Or.inr ⟨ea, _, by rw [← ea]; exact s2, decide_eq_false (by dsimp only; omega)⟩) ⟨by omega, fk, z, c, cn, _, sp, ss, iby, ⟨zup_self, (rp.frame (fun q a1 a2 => ((zup_nf (by omega)).trans (((fr1 _ (by omega)).trans (rfl)))))), (rc.frame (fun q a1 a2 => ((zup_nf (by omega)).trans (((fr1 _ (by omega)).trans (rfl)))))), (rk.frame (fun q a1 a2 => ((zup_nf (by omega)).trans (((fr1 _ (by omega)).trans (rfl)))))), (rf.frame (fun q a1 a2 => ((zup_nf (by omega)).trans (((fr1 _ (by omega)).trans (rfl)))))), (ry.frame (fun q a1 a2 => ((zup_nf (by omega)).trans (((fr1 _ (by omega)).trans (rfl)))))), (ri.frame (fun q a1 a2 => ((zup_nf (by omega)).trans (((fr1 _ (by omega)).trans (rfl)))))), (ro.frame (fun q a1 a2 => ((zup_nf (by omega)).trans (((fr1 _ (by omega)).trans (rfl)))))), (rl.frame (fun q a1 a2 => ((zup_nf (by omega)).trans (((fr1 _ (by omega)).trans (rfl)))))), (rv.frame (fun q a1 a2 => ((zup_nf (by omega)).trans (((fr1 _ (by omega)).trans (rfl))))))⟩, (zup_ne (by omega) ((fr1 _ (by omega)).trans i0)), i1⟩ (fun q a1 => ((zup_nf (by omega)).trans (((fr1 _ (by omega)).trans (rfl)))))
      · refine T_if_ne dX10_takesPoint_41 (t := 46) rfl (fun _ => ?_) (fun hc => absurd hc (by decide))
        refine T_iload_n dX10_takesPoint_46 rfl ?_
        refine T_if_eq dX10_takesPoint_47 (t := 66) rfl (fun _ => ?_) (fun hc => absurd hc (by decide))
        refine T_iconst dX10_takesPoint_66 (by decide) ?_
        refine T_iret dX10_takesPoint_67 rfl ?_
        exact hT (a + d1 + 1 + d38) _ v1 _ k38a_2 ⟨rfl, by have := k38b; dsimp only; omega, rfl, by omega, by omega⟩ k38c ⟨by omega, fk, z, c, cn, _, sp, ss, iby, ⟨f38a, (rp.frame (fun q a1 a2 => ((fr38 _ (by omega)).trans (((zup_nf (by omega)).trans (((fr1 _ (by omega)).trans (rfl)))))))), (rc.frame (fun q a1 a2 => ((fr38 _ (by omega)).trans (((zup_nf (by omega)).trans (((fr1 _ (by omega)).trans (rfl)))))))), (rk.frame (fun q a1 a2 => ((fr38 _ (by omega)).trans (((zup_nf (by omega)).trans (((fr1 _ (by omega)).trans (rfl)))))))), (rf.frame (fun q a1 a2 => ((fr38 _ (by omega)).trans (((zup_nf (by omega)).trans (((fr1 _ (by omega)).trans (rfl)))))))), (ry.frame (fun q a1 a2 => ((fr38 _ (by omega)).trans (((zup_nf (by omega)).trans (((fr1 _ (by omega)).trans (rfl)))))))), (ri.frame (fun q a1 a2 => ((fr38 _ (by omega)).trans (((zup_nf (by omega)).trans (((fr1 _ (by omega)).trans (rfl)))))))), (ro.frame (fun q a1 a2 => ((fr38 _ (by omega)).trans (((zup_nf (by omega)).trans (((fr1 _ (by omega)).trans (rfl)))))))), (rl.frame (fun q a1 a2 => ((fr38 _ (by omega)).trans (((zup_nf (by omega)).trans (((fr1 _ (by omega)).trans (rfl)))))))), (rv.frame (fun q a1 a2 => ((fr38 _ (by omega)).trans (((zup_nf (by omega)).trans (((fr1 _ (by omega)).trans (rfl))))))))⟩, ((fr38 _ (by omega)).trans (zup_ne (by omega) ((fr1 _ (by omega)).trans i0))), i1⟩ (fun q a1 => ((fr38 _ (by omega)).trans (((zup_nf (by omega)).trans (((fr1 _ (by omega)).trans (rfl)))))))
    · refine T_if_ne dX10_takesPoint_22 (t := 27) rfl (fun hc => absurd hc (by decide)) (fun _ => ?_)
      refine T_iconst dX10_takesPoint_25 (by decide) ?_
      refine T_iret dX10_takesPoint_26 rfl ?_
      exact hE (a + d1) _ (by
        by_cases c9 : a + d1 < e
        · have i9 := i1 (a + d1) c9
          exact Or.inl ⟨c9, _, k1a_2, by unfold zstp; rw [if_neg (by dsimp only; omega), if_neg (by dsimp only; omega)]⟩
        · have ea : a + d1 = e := by omega
          exact Or.inr ⟨ea, _, by rw [← ea]; exact k1a_2, decide_eq_false (by dsimp only; omega)⟩) ⟨by omega, fk, z, c, cn, _, sp, ss, iby, ⟨f1a, (rp.frame (fun q a1 a2 => ((fr1 _ (by omega)).trans (rfl)))), (rc.frame (fun q a1 a2 => ((fr1 _ (by omega)).trans (rfl)))), (rk.frame (fun q a1 a2 => ((fr1 _ (by omega)).trans (rfl)))), (rf.frame (fun q a1 a2 => ((fr1 _ (by omega)).trans (rfl)))), (ry.frame (fun q a1 a2 => ((fr1 _ (by omega)).trans (rfl)))), (ri.frame (fun q a1 a2 => ((fr1 _ (by omega)).trans (rfl)))), (ro.frame (fun q a1 a2 => ((fr1 _ (by omega)).trans (rfl)))), (rl.frame (fun q a1 a2 => ((fr1 _ (by omega)).trans (rfl)))), (rv.frame (fun q a1 a2 => ((fr1 _ (by omega)).trans (rfl))))⟩, ((fr1 _ (by omega)).trans i0), i1⟩ (fun q a1 => ((fr1 _ (by omega)).trans (rfl)))
set_option maxHeartbeats 4000000 in
set_option maxRecDepth 100000 in
theorem c_takesPoint1 {n0 n k : Nat} {g : Nat → zV} {h : zHp} {Q : Option zV → Nat → Nat → zHp → Prop} {m e a : Nat} {P : pT} {L : lT} {O : tT} {V : Int × pT} {by2 : Nat → Int} {S : rdT} (hP : pwf P) (hL : lwf L) (hO : owf O) (hV : vwf V) (hB : n0 ≤ m) (he : e ≤ 60) (hby : ∀ i, i < e → 1 ≤ by2 i ∧ by2 i ≤ 127) (hx : rfX e (a) h m P L by2 O V) (hS : zrd by2 a = some S) (hS0 : S.2.2.1 = 0 ∧ S.2.1 = 0 ∧ S.1 % 2 = 0) (hE : ∀ (a' : Nat) (h' : zHp), ((a' < e ∧ ∃ S', zrd by2 a' = some S' ∧ zstp S' (by2 a') = none) ∨ (a' = e ∧ ∃ S', zrd by2 e = some S' ∧ zdone S' = false)) → (rfX e (a') h' m P L by2 O V) → (∀ q : Nat, (q < m ∨ m + 33 ≤ q) → h' q = h q) → Q (some (.inl (-1))) n k h') (hT : ∀ (a' : Nat) (S' : rdT) (x : Int) (h' : zHp), (zrd by2 a' = some S') → (S'.1 = S.1 + 1 ∧ 0 < S'.2.2.1 ∧ S'.2.2.2 = zfu S.2.2.2 S.1 x ∧ a < a' ∧ a' ≤ e) → (S'.2.2.1 = 2 ∨ ¬ (a' < e ∧ 48 ≤ by2 (a') ∧ by2 (a') ≤ 57)) → (rfX e (a') h' m (s_add P x S'.2.1).2 L by2 O V) → (∀ q : Nat, (q < m ∨ m + 33 ≤ q) → h' q = h q) → Q (some (.inl (if 0 < (s_add P x S'.2.1).1 then 1 else 0))) n k h') : ZT n0 g mX10_takesPoint 0 (zloc mX10_takesPoint [.inr (some m), .inl 1]) [] n k h Q := by
  show ZT n0 g mX10_takesPoint 0 [some (.inr (some m)), some (.inl 1), none] [] n k h Q
  obtain ⟨hae, fk, z, c, cn, nu, sp, ss, iby, ⟨hM, rp, rc, rk, rf, ry, ri, ro, rl, rv⟩, i0, i1⟩ := id hx
  have hpb := hP.bd
  refine T_aload_n dX10_takesPoint_0 rfl ?_
  refine T_callV dX10_takesPoint_1 zkm_11_267 (Or.inl rfl) rfl hM ⟨Nat.le_of_ble_eq_true rfl, rfl⟩ rfl (Nat.le_of_ble_eq_true rfl) ?_
  refine m_X10_takesNumber (by2 := by2) (S := S) hM i0 (by omega) (by omega) hS ⟨hS0.1, hS0.2.1⟩ i1 hby (fun k1a => ?_) (fun d1 v1 hh1 k1a_2 k1b k1c f1a fr1 => ?_)
  · refine T_if_ne dX10_takesPoint_4 (t := 9) rfl (fun hc => absurd hc (by decide)) (fun _ => ?_)
    refine T_iconst dX10_takesPoint_7 (by decide) ?_
    refine T_iret dX10_takesPoint_8 rfl ?_
    exact hE a _ (by
      by_cases c9 : a < e
      · exact Or.inl ⟨c9, S, hS, by unfold zstp; rw [if_neg (by omega), if_neg (by omega)]⟩
      · have ea : a = e := by omega
        subst ea
        exact Or.inr ⟨rfl, S, hS, decide_eq_false (by omega)⟩) hx (fun _ _ => rfl)
  · refine T_if_ne dX10_takesPoint_4 (t := 9) rfl (fun _ => ?_) (fun hc => absurd hc (by decide))
    refine T_aload_n dX10_takesPoint_9 rfl ?_
    refine T_getfield dX10_takesPoint_10 zkf_11_264 f1a rfl ?_
    refine T_istore_n dX10_takesPoint_13 (Nat.le_of_ble_eq_true rfl) ?_
    have sg1 : zsig S.1 = 44 := if_pos (by omega)
    have dv := k1b
    refine T_aload_n dX10_takesPoint_14 rfl ?_
    refine T_bipush dX10_takesPoint_15 (by decide) ?_
    refine T_bipush dX10_takesPoint_17 (by decide) ?_
    refine T_callV dX10_takesPoint_19 zkm_11_261 (Or.inl rfl) rfl f1a ⟨Nat.le_of_ble_eq_true rfl, rfl⟩ rfl (Nat.le_of_ble_eq_true rfl) ?_
    refine m_X10_isAt f1a ((fr1 _ (by omega)).trans i0) he (fun k19a => ?_) (fun k19a_2 => ?_)
    · refine T_if_ne dX10_takesPoint_22 (t := 27) rfl (fun _ => ?_) (fun hc => absurd hc (by decide))
      refine T_aload_n dX10_takesPoint_27 rfl ?_
      refine T_dup dX10_takesPoint_28 ?_
      refine T_getfield dX10_takesPoint_29 zkf_11_255 f1a rfl ?_
      refine T_iconst dX10_takesPoint_32 (by decide) ?_
      refine T_iadd dX10_takesPoint_33 ⟨by omega, by omega⟩ ?_
      refine T_putfield dX10_takesPoint_34 zkf_11_255 f1a (Nat.le_of_ble_eq_true rfl) (by omega) rfl (fun hf => absurd hf (by decide)) rfl ?_
      have i9 := i1 (a + d1) k19a.1
      have s2 : zrd by2 (a + d1 + 1) = some (S.1 + 1, 0, 0, zfu S.2.2.2 S.1 v1) := (by
        show (zrd by2 (a + d1)).bind _ = _
        rw [k1a_2]
        show zstp _ (by2 (a + d1)) = _
        unfold zstp
        rw [if_neg (by dsimp only; omega), if_pos ⟨by dsimp only; omega, by dsimp only; omega⟩])
      have sg2 : zsig (S.1 + 1) = 59 := if_neg (by omega)
      refine T_aload_n dX10_takesPoint_37 rfl ?_
      refine T_callV dX10_takesPoint_38 zkm_11_267 (Or.inl rfl) rfl zup_self ⟨Nat.le_of_ble_eq_true rfl, rfl⟩ rfl (Nat.le_of_ble_eq_true rfl) ?_
      refine m_X10_takesNumber (by2 := by2) (S := (S.1 + 1, 0, 0, zfu S.2.2.2 S.1 v1)) (ax := a + d1 + 1) zup_self (zup_ne (by omega) ((fr1 _ (by omega)).trans i0)) (by omega) (by omega) s2 ⟨rfl, rfl⟩ i1 hby (fun k38a => ?_) (fun d38 v38 hh38 k38a_2 k38b k38c f38a fr38 => ?_)
      · refine T_if_ne dX10_takesPoint_41 (t := 46) rfl (fun hc => absurd hc (by decide)) (fun _ => ?_)
        refine T_iconst dX10_takesPoint_44 (by decide) ?_
        refine T_iret dX10_takesPoint_45 rfl ?_
        exact hE (a + d1 + 1) _ (by
          by_cases c9 : a + d1 + 1 < e
          · exact Or.inl ⟨c9, _, s2, by unfold zstp; rw [if_neg (by dsimp only; omega), if_neg (by dsimp only; omega)]⟩
          · have ea : a + d1 + 1 = e := by omega
            exact Or.inr ⟨ea, _, by rw [← ea]; exact s2, decide_eq_false (by dsimp only; omega)⟩) ⟨by omega, fk, z, c, cn, _, sp, ss, iby, ⟨zup_self, (rp.frame (fun q a1 a2 => ((zup_nf (by omega)).trans (((fr1 _ (by omega)).trans (rfl)))))), (rc.frame (fun q a1 a2 => ((zup_nf (by omega)).trans (((fr1 _ (by omega)).trans (rfl)))))), (rk.frame (fun q a1 a2 => ((zup_nf (by omega)).trans (((fr1 _ (by omega)).trans (rfl)))))), (rf.frame (fun q a1 a2 => ((zup_nf (by omega)).trans (((fr1 _ (by omega)).trans (rfl)))))), (ry.frame (fun q a1 a2 => ((zup_nf (by omega)).trans (((fr1 _ (by omega)).trans (rfl)))))), (ri.frame (fun q a1 a2 => ((zup_nf (by omega)).trans (((fr1 _ (by omega)).trans (rfl)))))), (ro.frame (fun q a1 a2 => ((zup_nf (by omega)).trans (((fr1 _ (by omega)).trans (rfl)))))), (rl.frame (fun q a1 a2 => ((zup_nf (by omega)).trans (((fr1 _ (by omega)).trans (rfl)))))), (rv.frame (fun q a1 a2 => ((zup_nf (by omega)).trans (((fr1 _ (by omega)).trans (rfl))))))⟩, (zup_ne (by omega) ((fr1 _ (by omega)).trans i0)), i1⟩ (fun q a1 => ((zup_nf (by omega)).trans (((fr1 _ (by omega)).trans (rfl)))))
      · refine T_if_ne dX10_takesPoint_41 (t := 46) rfl (fun _ => ?_) (fun hc => absurd hc (by decide))
        refine T_iload_n dX10_takesPoint_46 rfl ?_
        refine T_if_eq dX10_takesPoint_47 (t := 66) rfl (fun hc => absurd hc (by decide)) (fun _ => ?_)
        refine T_aload_n dX10_takesPoint_50 rfl ?_
        refine T_iload_n dX10_takesPoint_51 rfl ?_
        refine T_aload_n dX10_takesPoint_52 rfl ?_
        refine T_getfield dX10_takesPoint_53 zkf_11_264 f38a rfl ?_
        refine T_callV dX10_takesPoint_56 zkm_11_271 (Or.inl rfl) rfl f38a ⟨Nat.le_of_ble_eq_true rfl, rfl⟩ rfl (Nat.le_of_ble_eq_true rfl) ?_
        refine f2_raddPoint (L := L) (I := (0, by2)) (O := O) (V := V)  hP hL ⟨Nat.zero_le _, fun i hi => absurd hi (Nat.not_lt_zero i)⟩ hO hV hB ⟨f38a, (rp.frame (fun q a1 a2 => ((fr38 _ (by omega)).trans (((zup_nf (by omega)).trans (((fr1 _ (by omega)).trans (rfl)))))))), (rc.frame (fun q a1 a2 => ((fr38 _ (by omega)).trans (((zup_nf (by omega)).trans (((fr1 _ (by omega)).trans (rfl)))))))), (rk.frame (fun q a1 a2 => ((fr38 _ (by omega)).trans (((zup_nf (by omega)).trans (((fr1 _ (by omega)).trans (rfl)))))))), (rf.frame (fun q a1 a2 => ((fr38 _ (by omega)).trans (((zup_nf (by omega)).trans (((fr1 _ (by omega)).trans (rfl)))))))), (ry.frame (fun q a1 a2 => ((fr38 _ (by omega)).trans (((zup_nf (by omega)).trans (((fr1 _ (by omega)).trans (rfl)))))))), (ri.frame (fun q a1 a2 => ((fr38 _ (by omega)).trans (((zup_nf (by omega)).trans (((fr1 _ (by omega)).trans (rfl)))))))), (ro.frame (fun q a1 a2 => ((fr38 _ (by omega)).trans (((zup_nf (by omega)).trans (((fr1 _ (by omega)).trans (rfl)))))))), (rl.frame (fun q a1 a2 => ((fr38 _ (by omega)).trans (((zup_nf (by omega)).trans (((fr1 _ (by omega)).trans (rfl)))))))), (rv.frame (fun q a1 a2 => ((fr38 _ (by omega)).trans (((zup_nf (by omega)).trans (((fr1 _ (by omega)).trans (rfl))))))))⟩ (fun hh56 pr_56 pf_56 p24_56 => ?_)
        obtain ⟨fk', z', c', cn', rr⟩ := pr_56
        refine T_if_le dX10_takesPoint_59 (t := 66) rfl (fun c59 => ?_) (fun c59 => ?_)
        · refine T_iconst dX10_takesPoint_66 (by decide) ?_
          refine T_iret dX10_takesPoint_67 rfl ?_
          have er : (if 0 < (s_add P v1 v38).1 then (1 : Int) else 0) = 0 := if_neg (by omega)
          have h9 := hT (a + d1 + 1 + d38) (S.1 + 2 - 1, v38, d38, zfu S.2.2.2 S.1 v1) v1
          dsimp only at h9
          rw [er] at h9
          exact h9 _ k38a_2 ⟨rfl, by have := k38b; omega, rfl, by omega, by omega⟩ k38c ⟨by omega, fk', z', c', cn', _, sp, ss, iby, rr, p24_56.trans ((fr38 _ (by omega)).trans (((zup_nf (by omega)).trans (((fr1 _ (by omega)).trans (i0)))))), i1⟩ (fun q a1 => (pf_56 q a1).trans ((fr38 _ (by omega)).trans (((zup_nf (by omega)).trans (((fr1 _ (by omega)).trans (rfl)))))))
        · refine T_iconst dX10_takesPoint_62 (by decide) ?_
          refine T_goto dX10_takesPoint_63 (t := 67) rfl ?_
          refine T_iret dX10_takesPoint_67 rfl ?_
          have er : (if 0 < (s_add P v1 v38).1 then (1 : Int) else 0) = 1 := if_pos (by omega)
          have h9 := hT (a + d1 + 1 + d38) (S.1 + 2 - 1, v38, d38, zfu S.2.2.2 S.1 v1) v1
          dsimp only at h9
          rw [er] at h9
          exact h9 _ k38a_2 ⟨rfl, by have := k38b; omega, rfl, by omega, by omega⟩ k38c ⟨by omega, fk', z', c', cn', _, sp, ss, iby, rr, p24_56.trans ((fr38 _ (by omega)).trans (((zup_nf (by omega)).trans (((fr1 _ (by omega)).trans (i0)))))), i1⟩ (fun q a1 => (pf_56 q a1).trans ((fr38 _ (by omega)).trans (((zup_nf (by omega)).trans (((fr1 _ (by omega)).trans (rfl)))))))
    · refine T_if_ne dX10_takesPoint_22 (t := 27) rfl (fun hc => absurd hc (by decide)) (fun _ => ?_)
      refine T_iconst dX10_takesPoint_25 (by decide) ?_
      refine T_iret dX10_takesPoint_26 rfl ?_
      exact hE (a + d1) _ (by
        by_cases c9 : a + d1 < e
        · have i9 := i1 (a + d1) c9
          exact Or.inl ⟨c9, _, k1a_2, by unfold zstp; rw [if_neg (by dsimp only; omega), if_neg (by dsimp only; omega)]⟩
        · have ea : a + d1 = e := by omega
          exact Or.inr ⟨ea, _, by rw [← ea]; exact k1a_2, decide_eq_false (by dsimp only; omega)⟩) ⟨by omega, fk, z, c, cn, _, sp, ss, iby, ⟨f1a, (rp.frame (fun q a1 a2 => ((fr1 _ (by omega)).trans (rfl)))), (rc.frame (fun q a1 a2 => ((fr1 _ (by omega)).trans (rfl)))), (rk.frame (fun q a1 a2 => ((fr1 _ (by omega)).trans (rfl)))), (rf.frame (fun q a1 a2 => ((fr1 _ (by omega)).trans (rfl)))), (ry.frame (fun q a1 a2 => ((fr1 _ (by omega)).trans (rfl)))), (ri.frame (fun q a1 a2 => ((fr1 _ (by omega)).trans (rfl)))), (ro.frame (fun q a1 a2 => ((fr1 _ (by omega)).trans (rfl)))), (rl.frame (fun q a1 a2 => ((fr1 _ (by omega)).trans (rfl)))), (rv.frame (fun q a1 a2 => ((fr1 _ (by omega)).trans (rfl))))⟩, ((fr1 _ (by omega)).trans i0), i1⟩ (fun q a1 => ((fr1 _ (by omega)).trans (rfl)))
set_option maxHeartbeats 4000000 in
set_option maxRecDepth 100000 in
theorem c_takesList0_13 {n0 n k : Nat} {g : Nat → zV} {h : zHp} {Q : Option zV → Nat → Nat → zHp → Prop} {m e : Nat} {P : pT} {L : lT} {O : tT} {V : Int × pT} {by2 : Nat → Int} (hP : pwf P) (hL : lwf L) (hO : owf O) (hV : vwf V) (hB : n0 ≤ m) (he : e ≤ 60) (hby : ∀ i, i < e → 1 ≤ by2 i ∧ by2 i ≤ 127) (hy0 : rfY e h m P L by2 O V) (hE : ∀ (a' : Nat) (h' : zHp), ((a' < e ∧ ∃ S', zrd by2 a' = some S' ∧ zstp S' (by2 a') = none) ∨ (a' = e ∧ ∃ S', zrd by2 e = some S' ∧ zdone S' = false)) → (rfX e (a') h' m P L by2 O V) → (∀ q : Nat, (q < m ∨ m + 33 ≤ q) → h' q = h q) → Q (some (.inl (-1))) n k h') (hT : ∀ (S : rdT) (h' : zHp), (zrd by2 e = some S) → (zdone S = true) → (rfX e (e) h' m P L by2 O V) → (∀ q : Nat, (q < m ∨ m + 33 ≤ q) → h' q = h q) → Q (some (.inl 0)) n k h') : ∀ (d : Nat) (a : Nat) (S : rdT) (w : Int) (L4 : Option zV), e - a = d → ∀ h1 : zHp, (rfX e (a) h1 m P L by2 O V) → (∀ q : Nat, (q < m ∨ m + 33 ≤ q) → h1 q = h q) → (zrd by2 a = some S) → (S.2.2.1 = 0 ∧ S.2.1 = 0 ∧ S.1 % 2 = 0) → (w = 0) → ZT n0 g mX10_takesList 13 [some (.inr (some m)), some (.inl 0), some (.inl w), some (.inl 1), L4] [] n k h1 Q := by
  intro d
  induction d using Nat.strongRecOn with | _ d ih => ?_
  intro a S w L4 hd0 h1 px pf hS hS0 hw
  subst hd0
  obtain ⟨hae, fk, z, c, cn, nu, sp, ss, iby, ⟨hM, rp, rc, rk, rf, ry, ri, ro, rl, rv⟩, i0, i1⟩ := id px
  refine T_aload_n dX10_takesList_13 rfl ?_
  refine T_iload_n dX10_takesList_14 rfl ?_
  refine T_callV dX10_takesList_15 zkm_11_274 (Or.inl rfl) rfl hM ⟨Nat.le_of_ble_eq_true rfl, rfl⟩ rfl (Nat.le_of_ble_eq_true rfl) ?_
  refine c_takesPoint0  hP hL hO hV hB he hby px hS hS0 (fun a'15 hh15 k15a px_15 pf_15 => ?_) (fun a'15_2 S'15 x15 hh15 k15a_2 k15b k15c px_15_2 pf_15_2 => ?_)
  · refine T_istore dX10_takesList_18 (Nat.le_of_ble_eq_true rfl) ?_
    refine T_iload dX10_takesList_20 rfl ?_
    refine T_if_ge dX10_takesList_22 (t := 27) rfl (fun hc => absurd hc (by decide)) (fun _ => ?_)
    refine T_iconst dX10_takesList_25 (by decide) ?_
    refine T_iret dX10_takesList_26 rfl ?_
    exact hE a'15 hh15 k15a px_15 (fun q a1 => (pf_15 q a1).trans (pf q a1))
  · obtain ⟨hae2, fk, z, c, cn, nu, sp, ss, iby, ⟨hM, rp, rc, rk, rf, ry, ri, ro, rl, rv⟩, i0, i1⟩ := id px_15_2
    have e51 := k15b.1
    have sgS : zsig S'15.1 = 59 := if_neg (by omega)
    refine T_istore dX10_takesList_18 (Nat.le_of_ble_eq_true rfl) ?_
    refine T_iload dX10_takesList_20 rfl ?_
    refine T_if_ge dX10_takesList_22 (t := 27) rfl (fun _ => ?_) (fun hc => absurd hc (by decide))
    refine T_iload_n dX10_takesList_27 rfl ?_
    refine T_iload dX10_takesList_28 rfl ?_
    refine T_iadd dX10_takesList_30 ⟨by omega, by omega⟩ ?_
    refine T_istore_n dX10_takesList_31 (Nat.le_of_ble_eq_true rfl) ?_
    refine T_aload_n dX10_takesList_32 rfl ?_
    refine T_bipush dX10_takesList_33 (by decide) ?_
    refine T_bipush dX10_takesList_35 (by decide) ?_
    refine T_callV dX10_takesList_37 zkm_11_261 (Or.inl rfl) rfl hM ⟨Nat.le_of_ble_eq_true rfl, rfl⟩ rfl (Nat.le_of_ble_eq_true rfl) ?_
    refine m_X10_isAt hM i0 he (fun k37a => ?_) (fun k37a_2 => ?_)
    · refine T_istore_n dX10_takesList_40 (Nat.le_of_ble_eq_true rfl) ?_
      refine T_aload_n dX10_takesList_41 rfl ?_
      refine T_dup dX10_takesList_42 ?_
      refine T_getfield dX10_takesList_43 zkf_11_255 hM rfl ?_
      refine T_iload_n dX10_takesList_46 rfl ?_
      refine T_if_eq dX10_takesList_47 (t := 54) rfl (fun hc => absurd hc (by decide)) (fun _ => ?_)
      refine T_iconst dX10_takesList_50 (by decide) ?_
      refine T_goto dX10_takesList_51 (t := 55) rfl ?_
      refine T_iadd dX10_takesList_55 ⟨by omega, by omega⟩ ?_
      refine T_putfield dX10_takesList_56 zkf_11_255 hM (Nat.le_of_ble_eq_true rfl) (by omega) rfl (fun hf => absurd hf (by decide)) rfl ?_
      refine T_goto dX10_takesList_59 (t := 9) rfl ?_
      refine T_iload_n dX10_takesList_9 rfl ?_
      refine T_if_eq dX10_takesList_10 (t := 62) rfl (fun hc => absurd hc (by decide)) (fun _ => ?_)
      exact ih _ (by omega) (a'15_2 + 1) (S'15.1 + 1, 0, 0, zfu S'15.2.2.2 S'15.1 S'15.2.1) (w + 0) _ rfl _ ⟨by omega, fk, z, c, cn, nu, sp, ss, iby, ⟨zup_self, (rp.frame (fun q a1 a2 => ((zup_nf (by omega)).trans (rfl)))), (rc.frame (fun q a1 a2 => ((zup_nf (by omega)).trans (rfl)))), (rk.frame (fun q a1 a2 => ((zup_nf (by omega)).trans (rfl)))), (rf.frame (fun q a1 a2 => ((zup_nf (by omega)).trans (rfl)))), (ry.frame (fun q a1 a2 => ((zup_nf (by omega)).trans (rfl)))), (ri.frame (fun q a1 a2 => ((zup_nf (by omega)).trans (rfl)))), (ro.frame (fun q a1 a2 => ((zup_nf (by omega)).trans (rfl)))), (rl.frame (fun q a1 a2 => ((zup_nf (by omega)).trans (rfl)))), (rv.frame (fun q a1 a2 => ((zup_nf (by omega)).trans (rfl))))⟩, (zup_ne (by omega) i0), i1⟩ (fun q a1 => ((zup_nf (by omega)).trans ((pf_15_2 q a1).trans (pf q a1)))) (by
            show (zrd by2 a'15_2).bind _ = _
            rw [k15a_2]
            show zstp _ (by2 a'15_2) = _
            unfold zstp
            have i9 := i1 _ k37a.1
            rw [if_neg (by omega), if_pos ⟨by omega, by omega⟩]) ⟨rfl, rfl, by show (S'15.1 + 1) % 2 = 0; omega⟩ (by omega) 
    · refine T_istore_n dX10_takesList_40 (Nat.le_of_ble_eq_true rfl) ?_
      refine T_aload_n dX10_takesList_41 rfl ?_
      refine T_dup dX10_takesList_42 ?_
      refine T_getfield dX10_takesList_43 zkf_11_255 hM rfl ?_
      refine T_iload_n dX10_takesList_46 rfl ?_
      refine T_if_eq dX10_takesList_47 (t := 54) rfl (fun _ => ?_) (fun hc => absurd hc (by decide))
      refine T_iconst dX10_takesList_54 (by decide) ?_
      refine T_iadd dX10_takesList_55 ⟨by omega, by omega⟩ ?_
      refine T_putfield dX10_takesList_56 zkf_11_255 hM (Nat.le_of_ble_eq_true rfl) (by omega) rfl (fun hf => absurd hf (by decide)) rfl ?_
      refine T_goto dX10_takesList_59 (t := 9) rfl ?_
      refine T_iload_n dX10_takesList_9 rfl ?_
      refine T_if_eq dX10_takesList_10 (t := 62) rfl (fun _ => ?_) (fun hc => absurd hc (by decide))
      refine T_aload_n dX10_takesList_62 rfl ?_
      refine T_getfield dX10_takesList_63 zkf_11_255 zup_self rfl ?_
      refine T_aload_n dX10_takesList_66 rfl ?_
      refine T_getfield dX10_takesList_67 zkf_11_258 zup_self rfl ?_
      refine T_icmp_ne dX10_takesList_70 (t := 77) rfl (fun c70 => ?_) (fun c70 => ?_)
      · refine T_iconst dX10_takesList_77 (by decide) ?_
        refine T_iret dX10_takesList_78 rfl ?_
        exact hE a'15_2 _ (Or.inl ⟨by omega, _, k15a_2, by
          have i9 := i1 a'15_2 (by omega)
          unfold zstp; rw [if_neg (by omega), if_neg (by omega)]⟩) ⟨by omega, fk, z, c, cn, nu, sp, ss, iby, ⟨zup_self, (rp.frame (fun q a1 a2 => ((zup_nf (by omega)).trans (rfl)))), (rc.frame (fun q a1 a2 => ((zup_nf (by omega)).trans (rfl)))), (rk.frame (fun q a1 a2 => ((zup_nf (by omega)).trans (rfl)))), (rf.frame (fun q a1 a2 => ((zup_nf (by omega)).trans (rfl)))), (ry.frame (fun q a1 a2 => ((zup_nf (by omega)).trans (rfl)))), (ri.frame (fun q a1 a2 => ((zup_nf (by omega)).trans (rfl)))), (ro.frame (fun q a1 a2 => ((zup_nf (by omega)).trans (rfl)))), (rl.frame (fun q a1 a2 => ((zup_nf (by omega)).trans (rfl)))), (rv.frame (fun q a1 a2 => ((zup_nf (by omega)).trans (rfl))))⟩, (zup_ne (by omega) i0), i1⟩ (fun q a1 => ((zup_nf (by omega)).trans ((pf_15_2 q a1).trans (pf q a1))))
      · refine T_iload_n dX10_takesList_73 rfl ?_
        refine T_goto dX10_takesList_74 (t := 78) rfl ?_
        refine T_iret dX10_takesList_78 rfl ?_
        have ea : a'15_2 = e := by omega
        subst ea
        rw [show w + 0 = 0 by omega]
        exact hT S'15 _ k15a_2 (decide_eq_true (by omega)) ⟨by omega, fk, z, c, cn, nu, sp, ss, iby, ⟨zup_self, (rp.frame (fun q a1 a2 => ((zup_nf (by omega)).trans (rfl)))), (rc.frame (fun q a1 a2 => ((zup_nf (by omega)).trans (rfl)))), (rk.frame (fun q a1 a2 => ((zup_nf (by omega)).trans (rfl)))), (rf.frame (fun q a1 a2 => ((zup_nf (by omega)).trans (rfl)))), (ry.frame (fun q a1 a2 => ((zup_nf (by omega)).trans (rfl)))), (ri.frame (fun q a1 a2 => ((zup_nf (by omega)).trans (rfl)))), (ro.frame (fun q a1 a2 => ((zup_nf (by omega)).trans (rfl)))), (rl.frame (fun q a1 a2 => ((zup_nf (by omega)).trans (rfl)))), (rv.frame (fun q a1 a2 => ((zup_nf (by omega)).trans (rfl))))⟩, (zup_ne (by omega) i0), i1⟩ (fun q a1 => ((zup_nf (by omega)).trans ((pf_15_2 q a1).trans (pf q a1))))
set_option maxHeartbeats 4000000 in
set_option maxRecDepth 100000 in
theorem c_takesList0 {n0 n k : Nat} {g : Nat → zV} {h : zHp} {Q : Option zV → Nat → Nat → zHp → Prop} {m e : Nat} {P : pT} {L : lT} {O : tT} {V : Int × pT} {by2 : Nat → Int} (hP : pwf P) (hL : lwf L) (hO : owf O) (hV : vwf V) (hB : n0 ≤ m) (he : e ≤ 60) (hby : ∀ i, i < e → 1 ≤ by2 i ∧ by2 i ≤ 127) (hy0 : rfY e h m P L by2 O V) (hE : ∀ (a' : Nat) (h' : zHp), ((a' < e ∧ ∃ S', zrd by2 a' = some S' ∧ zstp S' (by2 a') = none) ∨ (a' = e ∧ ∃ S', zrd by2 e = some S' ∧ zdone S' = false)) → (rfX e (a') h' m P L by2 O V) → (∀ q : Nat, (q < m ∨ m + 33 ≤ q) → h' q = h q) → Q (some (.inl (-1))) n k h') (hT : ∀ (S : rdT) (h' : zHp), (zrd by2 e = some S) → (zdone S = true) → (rfX e (e) h' m P L by2 O V) → (∀ q : Nat, (q < m ∨ m + 33 ≤ q) → h' q = h q) → Q (some (.inl 0)) n k h') : ZT n0 g mX10_takesList 0 (zloc mX10_takesList [.inr (some m), .inl 0]) [] n k h Q := by
  show ZT n0 g mX10_takesList 0 [some (.inr (some m)), some (.inl 0), none, none, none] [] n k h Q
  obtain ⟨ax, fk, z, c, cn, nu, sp, ss, iby, ⟨hM, rp, rc, rk, rf, ry, ri, ro, rl, rv⟩, i0, i1⟩ := id hy0
  have hpb := hP.bd
  refine T_aload_n dX10_takesList_0 rfl ?_
  refine T_iconst dX10_takesList_1 (by decide) ?_
  refine T_putfield dX10_takesList_2 zkf_11_255 hM (Nat.le_of_ble_eq_true rfl) (by omega) rfl (fun hf => absurd hf (by decide)) rfl ?_
  refine T_iconst dX10_takesList_5 (by decide) ?_
  refine T_istore_n dX10_takesList_6 (Nat.le_of_ble_eq_true rfl) ?_
  refine T_iconst dX10_takesList_7 (by decide) ?_
  refine T_istore_n dX10_takesList_8 (Nat.le_of_ble_eq_true rfl) ?_
  refine T_iload_n dX10_takesList_9 rfl ?_
  refine T_if_eq dX10_takesList_10 (t := 62) rfl (fun hc => absurd hc (by decide)) (fun _ => ?_)
  exact c_takesList0_13 hP hL hO hV hB he hby hy0 hE hT _ 0 (0, 0, 0, fun _ => 0) 0 _ rfl _ ⟨Nat.zero_le _, fk, z, c, cn, nu, sp, ss, iby, ⟨zup_self, (rp.frame (fun q a1 a2 => ((zup_nf (by omega)).trans (rfl)))), (rc.frame (fun q a1 a2 => ((zup_nf (by omega)).trans (rfl)))), (rk.frame (fun q a1 a2 => ((zup_nf (by omega)).trans (rfl)))), (rf.frame (fun q a1 a2 => ((zup_nf (by omega)).trans (rfl)))), (ry.frame (fun q a1 a2 => ((zup_nf (by omega)).trans (rfl)))), (ri.frame (fun q a1 a2 => ((zup_nf (by omega)).trans (rfl)))), (ro.frame (fun q a1 a2 => ((zup_nf (by omega)).trans (rfl)))), (rl.frame (fun q a1 a2 => ((zup_nf (by omega)).trans (rfl)))), (rv.frame (fun q a1 a2 => ((zup_nf (by omega)).trans (rfl))))⟩, (zup_ne (by omega) i0), i1⟩ (fun q a1 => ((zup_nf (by omega)).trans (rfl))) rfl ⟨rfl, rfl, rfl⟩ rfl 
set_option maxHeartbeats 4000000 in
set_option maxRecDepth 100000 in
theorem c_takesList1_13 {n0 n k : Nat} {g : Nat → zV} {h : zHp} {Q : Option zV → Nat → Nat → zHp → Prop} {m e : Nat} {P : pT} {L : lT} {O : tT} {V : Int × pT} {by2 : Nat → Int} {Sf : rdT} (hP : pwf P) (hL : lwf L) (hO : owf O) (hV : vwf V) (hB : n0 ≤ m) (he : e ≤ 60) (hby : ∀ i, i < e → 1 ≤ by2 i ∧ by2 i ≤ 127) (hSf : zrd by2 e = some Sf) (hdn : zdone Sf = true) (hy0 : rfY e h m P L by2 O V) (hT : ∀  (h' : zHp), (rfX e (e) h' m (zadds P (zfu Sf.2.2.2 Sf.1 Sf.2.1) ((Sf.1 + 1) / 2)) L by2 O V) → (∀ q : Nat, (q < m ∨ m + 33 ≤ q) → h' q = h q) → Q (some (.inl (((zadds P (zfu Sf.2.2.2 Sf.1 Sf.2.1) ((Sf.1 + 1) / 2)).2.1 : Int) - (P.2.1 : Int)))) n k h') : ∀ (d : Nat) (a : Nat) (S : rdT) (w : Int) (L4 : Option zV), e - a = d → ∀ h1 : zHp, (rfX e (a) h1 m (zadds P S.2.2.2 (S.1 / 2)) L by2 O V) → (∀ q : Nat, (q < m ∨ m + 33 ≤ q) → h1 q = h q) → (zrd by2 a = some S) → (S.2.2.1 = 0 ∧ S.2.1 = 0 ∧ S.1 % 2 = 0) → (w = ((zadds P S.2.2.2 (S.1 / 2)).2.1 : Int) - (P.2.1 : Int) ∧ 0 ≤ w ∧ w ≤ 8) → ZT n0 g mX10_takesList 13 [some (.inr (some m)), some (.inl 1), some (.inl w), some (.inl 1), L4] [] n k h1 Q := by
  intro d
  induction d using Nat.strongRecOn with | _ d ih => ?_
  intro a S w L4 hd0 h1 px pf hS hS0 hw
  subst hd0
  obtain ⟨hae, fk, z, c, cn, nu, sp, ss, iby, ⟨hM, rp, rc, rk, rf, ry, ri, ro, rl, rv⟩, i0, i1⟩ := id px
  have hPt := wf_adds hP S.2.2.2 (S.1 / 2)
  refine T_aload_n dX10_takesList_13 rfl ?_
  refine T_iload_n dX10_takesList_14 rfl ?_
  refine T_callV dX10_takesList_15 zkm_11_274 (Or.inl rfl) rfl hM ⟨Nat.le_of_ble_eq_true rfl, rfl⟩ rfl (Nat.le_of_ble_eq_true rfl) ?_
  refine c_takesPoint1  hPt hL hO hV hB he hby px hS hS0 (fun a'15 hh15 k15a px_15 pf_15 => (zerr_no hSf hdn k15a).elim) (fun a'15_2 S'15 x15 hh15 k15a_2 k15b k15c px_15_2 pf_15_2 => ?_)
  obtain ⟨hae2, fk, z, c, cn, nu, sp, ss, iby, ⟨hM, rp, rc, rk, rf, ry, ri, ro, rl, rv⟩, i0, i1⟩ := id px_15_2
  have e51 := k15b.1
  have sgS : zsig S'15.1 = 59 := if_neg (by omega)
  have hr9 : 0 ≤ (if 0 < (s_add (zadds P S.2.2.2 (S.1 / 2)) x15 S'15.2.1).1 then (1 : Int) else 0) ∧ (if 0 < (s_add (zadds P S.2.2.2 (S.1 / 2)) x15 S'15.2.1).1 then (1 : Int) else 0) ≤ 1 := by split <;> decide
  have hcn := sadd_cnt (zadds P S.2.2.2 (S.1 / 2)) x15 S'15.2.1
  have hst9 := zadds_step (P := P) (nu := S.2.2.2) (c := S.1) (x := x15) (y := S'15.2.1) hS0.2.2
  refine T_istore dX10_takesList_18 (Nat.le_of_ble_eq_true rfl) ?_
  refine T_iload dX10_takesList_20 rfl ?_
  refine T_if_ge dX10_takesList_22 (t := 27) rfl (fun _ => ?_) (fun hc => absurd hc (by omega))
  refine T_iload_n dX10_takesList_27 rfl ?_
  refine T_iload dX10_takesList_28 rfl ?_
  refine T_iadd dX10_takesList_30 ⟨by omega, by omega⟩ ?_
  refine T_istore_n dX10_takesList_31 (Nat.le_of_ble_eq_true rfl) ?_
  refine T_aload_n dX10_takesList_32 rfl ?_
  refine T_bipush dX10_takesList_33 (by decide) ?_
  refine T_bipush dX10_takesList_35 (by decide) ?_
  refine T_callV dX10_takesList_37 zkm_11_261 (Or.inl rfl) rfl hM ⟨Nat.le_of_ble_eq_true rfl, rfl⟩ rfl (Nat.le_of_ble_eq_true rfl) ?_
  refine m_X10_isAt hM i0 he (fun k37a => ?_) (fun k37a_2 => ?_)
  · refine T_istore_n dX10_takesList_40 (Nat.le_of_ble_eq_true rfl) ?_
    refine T_aload_n dX10_takesList_41 rfl ?_
    refine T_dup dX10_takesList_42 ?_
    refine T_getfield dX10_takesList_43 zkf_11_255 hM rfl ?_
    refine T_iload_n dX10_takesList_46 rfl ?_
    refine T_if_eq dX10_takesList_47 (t := 54) rfl (fun hc => absurd hc (by decide)) (fun _ => ?_)
    refine T_iconst dX10_takesList_50 (by decide) ?_
    refine T_goto dX10_takesList_51 (t := 55) rfl ?_
    refine T_iadd dX10_takesList_55 ⟨by omega, by omega⟩ ?_
    refine T_putfield dX10_takesList_56 zkf_11_255 hM (Nat.le_of_ble_eq_true rfl) (by omega) rfl (fun hf => absurd hf (by decide)) rfl ?_
    refine T_goto dX10_takesList_59 (t := 9) rfl ?_
    refine T_iload_n dX10_takesList_9 rfl ?_
    refine T_if_eq dX10_takesList_10 (t := 62) rfl (fun hc => absurd hc (by decide)) (fun _ => ?_)
    have en9 : zadds P (zfu S'15.2.2.2 S'15.1 S'15.2.1) ((S'15.1 + 1) / 2) = (s_add (zadds P S.2.2.2 (S.1 / 2)) x15 S'15.2.1).2 := by rw [k15b.2.2.1, e51, ← hst9]
    have hp9 := (wf_adds hP (zfu S'15.2.2.2 S'15.1 S'15.2.1) ((S'15.1 + 1) / 2)).2.1
    exact ih _ (by omega) (a'15_2 + 1) (S'15.1 + 1, 0, 0, zfu S'15.2.2.2 S'15.1 S'15.2.1) (w + (if 0 < (s_add (zadds P S.2.2.2 (S.1 / 2)) x15 S'15.2.1).1 then 1 else 0)) _ rfl _ (by
          show rfX e (a'15_2 + 1) _ m (zadds P (zfu S'15.2.2.2 S'15.1 S'15.2.1) ((S'15.1 + 1) / 2)) L by2 O V
          rw [en9]
          exact ⟨by omega, fk, z, c, cn, nu, sp, ss, iby, ⟨zup_self, (rp.frame (fun q a1 a2 => ((zup_nf (by omega)).trans (rfl)))), (rc.frame (fun q a1 a2 => ((zup_nf (by omega)).trans (rfl)))), (rk.frame (fun q a1 a2 => ((zup_nf (by omega)).trans (rfl)))), (rf.frame (fun q a1 a2 => ((zup_nf (by omega)).trans (rfl)))), (ry.frame (fun q a1 a2 => ((zup_nf (by omega)).trans (rfl)))), (ri.frame (fun q a1 a2 => ((zup_nf (by omega)).trans (rfl)))), (ro.frame (fun q a1 a2 => ((zup_nf (by omega)).trans (rfl)))), (rl.frame (fun q a1 a2 => ((zup_nf (by omega)).trans (rfl)))), (rv.frame (fun q a1 a2 => ((zup_nf (by omega)).trans (rfl))))⟩, (zup_ne (by omega) i0), i1⟩) (fun q a1 => ((zup_nf (by omega)).trans ((pf_15_2 q a1).trans (pf q a1)))) (by
          show (zrd by2 a'15_2).bind _ = _
          rw [k15a_2]
          show zstp _ (by2 a'15_2) = _
          unfold zstp
          have i9 := i1 _ k37a.1
          rw [if_neg (by omega), if_pos ⟨by omega, by omega⟩]) ⟨rfl, rfl, by show (S'15.1 + 1) % 2 = 0; omega⟩ (by
          show _ = ((zadds P (zfu S'15.2.2.2 S'15.1 S'15.2.1) ((S'15.1 + 1) / 2)).2.1 : Int) - _ ∧ _
          rw [en9] at hp9 ⊢
          have := hw; omega) 
  · refine T_istore_n dX10_takesList_40 (Nat.le_of_ble_eq_true rfl) ?_
    refine T_aload_n dX10_takesList_41 rfl ?_
    refine T_dup dX10_takesList_42 ?_
    refine T_getfield dX10_takesList_43 zkf_11_255 hM rfl ?_
    refine T_iload_n dX10_takesList_46 rfl ?_
    refine T_if_eq dX10_takesList_47 (t := 54) rfl (fun _ => ?_) (fun hc => absurd hc (by decide))
    refine T_iconst dX10_takesList_54 (by decide) ?_
    refine T_iadd dX10_takesList_55 ⟨by omega, by omega⟩ ?_
    refine T_putfield dX10_takesList_56 zkf_11_255 hM (Nat.le_of_ble_eq_true rfl) (by omega) rfl (fun hf => absurd hf (by decide)) rfl ?_
    refine T_goto dX10_takesList_59 (t := 9) rfl ?_
    refine T_iload_n dX10_takesList_9 rfl ?_
    refine T_if_eq dX10_takesList_10 (t := 62) rfl (fun _ => ?_) (fun hc => absurd hc (by decide))
    refine T_aload_n dX10_takesList_62 rfl ?_
    refine T_getfield dX10_takesList_63 zkf_11_255 zup_self rfl ?_
    refine T_aload_n dX10_takesList_66 rfl ?_
    refine T_getfield dX10_takesList_67 zkf_11_258 zup_self rfl ?_
    refine T_icmp_ne dX10_takesList_70 (t := 77) rfl (fun c70 => ?_) (fun c70 => ?_)
    · refine T_iconst dX10_takesList_77 (by decide) ?_
      refine T_iret dX10_takesList_78 rfl ?_
      exact (zerr_no hSf hdn (Or.inl ⟨show a'15_2 < e by omega, _, k15a_2, by
        have i9 := i1 a'15_2 (by omega)
        unfold zstp; rw [if_neg (by omega), if_neg (by omega)]⟩)).elim
    · refine T_iload_n dX10_takesList_73 rfl ?_
      refine T_goto dX10_takesList_74 (t := 78) rfl ?_
      refine T_iret dX10_takesList_78 rfl ?_
      have ea : a'15_2 = e := by omega
      subst ea
      have eS : Sf = S'15 := by rw [k15a_2] at hSf; exact (Option.some.inj hSf).symm
      subst eS
      have en9 : zadds P (zfu Sf.2.2.2 Sf.1 Sf.2.1) ((Sf.1 + 1) / 2) = (s_add (zadds P S.2.2.2 (S.1 / 2)) x15 Sf.2.1).2 := by rw [k15b.2.2.1, e51, ← hst9]
      rw [en9] at hT
      rw [show w + (if 0 < (s_add (zadds P S.2.2.2 (S.1 / 2)) x15 Sf.2.1).1 then (1 : Int) else 0) = ((s_add (zadds P S.2.2.2 (S.1 / 2)) x15 Sf.2.1).2.2.1 : Int) - (P.2.1 : Int) by have := hw; omega]
      exact hT _ ⟨by omega, fk, z, c, cn, nu, sp, ss, iby, ⟨zup_self, (rp.frame (fun q a1 a2 => ((zup_nf (by omega)).trans (rfl)))), (rc.frame (fun q a1 a2 => ((zup_nf (by omega)).trans (rfl)))), (rk.frame (fun q a1 a2 => ((zup_nf (by omega)).trans (rfl)))), (rf.frame (fun q a1 a2 => ((zup_nf (by omega)).trans (rfl)))), (ry.frame (fun q a1 a2 => ((zup_nf (by omega)).trans (rfl)))), (ri.frame (fun q a1 a2 => ((zup_nf (by omega)).trans (rfl)))), (ro.frame (fun q a1 a2 => ((zup_nf (by omega)).trans (rfl)))), (rl.frame (fun q a1 a2 => ((zup_nf (by omega)).trans (rfl)))), (rv.frame (fun q a1 a2 => ((zup_nf (by omega)).trans (rfl))))⟩, (zup_ne (by omega) i0), i1⟩ (fun q a1 => ((zup_nf (by omega)).trans ((pf_15_2 q a1).trans (pf q a1))))
set_option maxHeartbeats 4000000 in
set_option maxRecDepth 100000 in
theorem c_takesList1 {n0 n k : Nat} {g : Nat → zV} {h : zHp} {Q : Option zV → Nat → Nat → zHp → Prop} {m e : Nat} {P : pT} {L : lT} {O : tT} {V : Int × pT} {by2 : Nat → Int} {Sf : rdT} (hP : pwf P) (hL : lwf L) (hO : owf O) (hV : vwf V) (hB : n0 ≤ m) (he : e ≤ 60) (hby : ∀ i, i < e → 1 ≤ by2 i ∧ by2 i ≤ 127) (hSf : zrd by2 e = some Sf) (hdn : zdone Sf = true) (hy0 : rfY e h m P L by2 O V) (hT : ∀  (h' : zHp), (rfX e (e) h' m (zadds P (zfu Sf.2.2.2 Sf.1 Sf.2.1) ((Sf.1 + 1) / 2)) L by2 O V) → (∀ q : Nat, (q < m ∨ m + 33 ≤ q) → h' q = h q) → Q (some (.inl (((zadds P (zfu Sf.2.2.2 Sf.1 Sf.2.1) ((Sf.1 + 1) / 2)).2.1 : Int) - (P.2.1 : Int)))) n k h') : ZT n0 g mX10_takesList 0 (zloc mX10_takesList [.inr (some m), .inl 1]) [] n k h Q := by
  show ZT n0 g mX10_takesList 0 [some (.inr (some m)), some (.inl 1), none, none, none] [] n k h Q
  obtain ⟨ax, fk, z, c, cn, nu, sp, ss, iby, ⟨hM, rp, rc, rk, rf, ry, ri, ro, rl, rv⟩, i0, i1⟩ := id hy0
  have hpb := hP.bd
  refine T_aload_n dX10_takesList_0 rfl ?_
  refine T_iconst dX10_takesList_1 (by decide) ?_
  refine T_putfield dX10_takesList_2 zkf_11_255 hM (Nat.le_of_ble_eq_true rfl) (by omega) rfl (fun hf => absurd hf (by decide)) rfl ?_
  refine T_iconst dX10_takesList_5 (by decide) ?_
  refine T_istore_n dX10_takesList_6 (Nat.le_of_ble_eq_true rfl) ?_
  refine T_iconst dX10_takesList_7 (by decide) ?_
  refine T_istore_n dX10_takesList_8 (Nat.le_of_ble_eq_true rfl) ?_
  refine T_iload_n dX10_takesList_9 rfl ?_
  refine T_if_eq dX10_takesList_10 (t := 62) rfl (fun hc => absurd hc (by decide)) (fun _ => ?_)
  exact c_takesList1_13 hP hL hO hV hB he hby hSf hdn hy0 hT _ 0 (0, 0, 0, fun _ => 0) 0 _ rfl _ ⟨Nat.zero_le _, fk, z, c, cn, nu, sp, ss, iby, ⟨zup_self, (rp.frame (fun q a1 a2 => ((zup_nf (by omega)).trans (rfl)))), (rc.frame (fun q a1 a2 => ((zup_nf (by omega)).trans (rfl)))), (rk.frame (fun q a1 a2 => ((zup_nf (by omega)).trans (rfl)))), (rf.frame (fun q a1 a2 => ((zup_nf (by omega)).trans (rfl)))), (ry.frame (fun q a1 a2 => ((zup_nf (by omega)).trans (rfl)))), (ri.frame (fun q a1 a2 => ((zup_nf (by omega)).trans (rfl)))), (ro.frame (fun q a1 a2 => ((zup_nf (by omega)).trans (rfl)))), (rl.frame (fun q a1 a2 => ((zup_nf (by omega)).trans (rfl)))), (rv.frame (fun q a1 a2 => ((zup_nf (by omega)).trans (rfl))))⟩, (zup_ne (by omega) i0), i1⟩ (fun q a1 => ((zup_nf (by omega)).trans (rfl))) rfl ⟨rfl, rfl, rfl⟩ ⟨by show (0 : Int) = (P.2.1 : Int) - P.2.1; omega, by decide, by decide⟩ 
set_option maxHeartbeats 4000000 in
set_option maxRecDepth 100000 in
theorem m_X10_parsePoints {n0 n k : Nat} {g : Nat → zV} {h : zHp} {Q : Option zV → Nat → Nat → zHp → Prop} {m : Nat} {P : pT} {L : lT} {I O : tT} {V : Int × pT} (hP : pwf P) (hL : lwf L) (hI : iwf I) (hO : owf O) (hV : vwf V) (hB : n0 ≤ m) (hrf : rfAt h m P L I O V) (hQ : ∀  (h' : zHp), (rfAt h' m (s_pp P I).2 L (0, I.2) O V) → (∀ q : Nat, (q < m ∨ m + 33 ≤ q) → h' q = h q) → Q (some (.inl ((s_pp P I).1))) n k h') : ZT n0 g mX10_parsePoints 0 (zloc mX10_parsePoints [.inr (some m)]) [] n k h Q := by
  show ZT n0 g mX10_parsePoints 0 [some (.inr (some m))] [] n k h Q
  obtain ⟨fk, z, c, cn, en, ax, nu, sp, ss, hM, rp, rc, rk, rf, ry, ri, ro, rl, rv⟩ := id hrf
  have hpb := hP.bd
  have hs8 := hP.2.1
  obtain ⟨iby, i0, i1⟩ := id ri
  refine T_aload_n dX10_parsePoints_0 rfl ?_
  refine T_aload_n dX10_parsePoints_1 rfl ?_
  refine T_getfield dX10_parsePoints_2 zkf_11_252 hM rfl ?_
  refine T_putfield dX10_parsePoints_5 zkf_11_258 hM (Nat.le_of_ble_eq_true rfl) (by omega) rfl (fun hf => absurd hf (by decide)) rfl ?_
  refine T_aload_n dX10_parsePoints_8 rfl ?_
  refine T_iconst dX10_parsePoints_9 (by decide) ?_
  refine T_putfield dX10_parsePoints_10 zkf_11_252 zup_self (Nat.le_of_ble_eq_true rfl) (by omega) rfl (fun hf => absurd hf (by decide)) rfl ?_
  refine T_aload_n dX10_parsePoints_13 rfl ?_
  refine T_iconst dX10_parsePoints_14 (by decide) ?_
  refine T_callV dX10_parsePoints_15 zkm_11_278 (Or.inl rfl) rfl zup_self ⟨Nat.le_of_ble_eq_true rfl, rfl⟩ rfl (Nat.le_of_ble_eq_true rfl) ?_
  refine c_takesList0 (e := I.1) (by2 := I.2) (P := P) (L := L) (O := O) (V := V)  hP hL hO hV hB hI.1 hI.2 ⟨ax, fk, z, c, cn, nu, sp, ss, iby, ⟨zup_self, (rp.frame (fun q a1 a2 => ((zup_nf (by omega)).trans (((zup_nf (by omega)).trans (rfl)))))), (rc.frame (fun q a1 a2 => ((zup_nf (by omega)).trans (((zup_nf (by omega)).trans (rfl)))))), (rk.frame (fun q a1 a2 => ((zup_nf (by omega)).trans (((zup_nf (by omega)).trans (rfl)))))), (rf.frame (fun q a1 a2 => ((zup_nf (by omega)).trans (((zup_nf (by omega)).trans (rfl)))))), (ry.frame (fun q a1 a2 => ((zup_nf (by omega)).trans (((zup_nf (by omega)).trans (rfl)))))), ⟨_, (zup_ne (by omega) (zup_ne (by omega) i0)), fun i hi => absurd hi (Nat.not_lt_zero i)⟩, (ro.frame (fun q a1 a2 => ((zup_nf (by omega)).trans (((zup_nf (by omega)).trans (rfl)))))), (rl.frame (fun q a1 a2 => ((zup_nf (by omega)).trans (((zup_nf (by omega)).trans (rfl)))))), (rv.frame (fun q a1 a2 => ((zup_nf (by omega)).trans (((zup_nf (by omega)).trans (rfl))))))⟩, (zup_ne (by omega) (zup_ne (by omega) i0)), i1⟩ (fun a'15 hh15 k15a px_15 pf_15 => ?_) (fun S15 hh15 k15a_2 k15b px_15_2 pf_15_2 => ?_)
  · obtain ⟨hae, fk, z, c, cn, nu, sp, ss, iby2, ⟨hM, rp, rc, rk, rf, ry, ri, ro, rl, rv⟩, j0, j1⟩ := id px_15
    have hI6 := hI.1
    refine T_if_ge dX10_parsePoints_18 (t := 31) rfl (fun hc => absurd hc (by decide)) (fun _ => ?_)
    refine T_bipush dX10_parsePoints_21 (by decide) ?_
    refine T_aload_n dX10_parsePoints_23 rfl ?_
    refine T_getfield dX10_parsePoints_24 zkf_11_255 hM rfl ?_
    refine T_isub dX10_parsePoints_27 ⟨by omega, by omega⟩ ?_
    refine T_goto dX10_parsePoints_28 (t := 36) rfl ?_
    refine T_iret dX10_parsePoints_36 rfl ?_
    have e : s_pp P I = (-100 - (a'15 : Int), P) := by
      unfold s_pp
      rcases k15a with ⟨e1, S', e2, e3⟩ | ⟨e1, S', e2, e3⟩
      · obtain ⟨z1, z2⟩ := zbad_eq e2 e3 e1
        rw [z1, z2]
      · rw [e2]
        dsimp only
        rw [e3, e1]; rfl
    rw [e] at hQ
    exact hQ _ px_15.at (fun q a1 => (pf_15 q a1).trans ((zup_nf (by omega)).trans (((zup_nf (by omega)).trans (rfl)))))
  · obtain ⟨hae, fk, z, c, cn, nu, sp, ss, iby2, ⟨hM, rp, rc, rk, rf, ry, ri, ro, rl, rv⟩, j0, j1⟩ := id px_15_2
    refine T_if_ge dX10_parsePoints_18 (t := 31) rfl (fun _ => ?_) (fun hc => absurd hc (by decide))
    refine T_aload_n dX10_parsePoints_31 rfl ?_
    refine T_iconst dX10_parsePoints_32 (by decide) ?_
    refine T_callV dX10_parsePoints_33 zkm_11_278 (Or.inl rfl) rfl hM ⟨Nat.le_of_ble_eq_true rfl, rfl⟩ rfl (Nat.le_of_ble_eq_true rfl) ?_
    refine c_takesList1 (e := I.1) (by2 := I.2) (P := P) (L := L) (O := O) (V := V) (Sf := S15)  hP hL hO hV hB hI.1 hI.2 k15a_2 k15b px_15_2.y (fun hh33 px_33 pf_33 => ?_)
    refine T_iret dX10_parsePoints_36 rfl ?_
    have e : s_pp P I = (((zadds P (zfu S15.2.2.2 S15.1 S15.2.1) ((S15.1 + 1) / 2)).2.1 : Int) - (P.2.1 : Int), zadds P (zfu S15.2.2.2 S15.1 S15.2.1) ((S15.1 + 1) / 2)) := by
      unfold s_pp; rw [k15a_2]; dsimp only; rw [k15b]; rfl
    rw [e] at hQ
    exact hQ _ px_33.at (fun q a1 => (pf_33 q a1).trans ((pf_15_2 q a1).trans (by simp only [zup]; rw [if_neg (by omega), if_neg (by omega)])))
