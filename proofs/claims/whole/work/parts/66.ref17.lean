/-! ===== the reference: comparisons of cones (2): printed by wip/whole/gen/s_ref17.py ===== -/
set_option maxHeartbeats 4000000 in
set_option maxRecDepth 100000 in
theorem m_X10_isSame_6 {n0 n k : Nat} {g : Nat → zV} {h : zHp} {Q : Option zV → Nat → Nat → zHp → Prop} {m : Nat} {P : pT} {L : lT} {I O : tT} {V : Int × pT} {j a i b : Nat} (hP : pwf P) (hL : lwf L) (hI : iwf I) (hO : owf O) (hV : vwf V) (hB : n0 ≤ m) (hrf : rfF 1 h m P L I O V) (hj : j < pN P ∧ a < (pB P j).2.1) (hi : i < pN P ∧ b < (pB P i).2.1) (hT : (∀ x, x < 81 → (pB P j).2.2.2 a x = (pB P i).2.2.2 b x) → Q (some (.inl 1)) n k h) (hF : (¬ (∀ x, x < 81 → (pB P j).2.2.2 a x = (pB P i).2.2.2 b x)) → Q (some (.inl 0)) n k h) : ∀ (d : Nat) (w : Int) (x : Nat), 81 - x = d → (x ≤ 81) → ((w = 1 ∧ ∀ y, y < x → (pB P j).2.2.2 a y = (pB P i).2.2.2 b y) ∨ (w = 0 ∧ ∃ y, y < x ∧ (pB P j).2.2.2 a y ≠ (pB P i).2.2.2 b y)) → ZT n0 g mX10_isSame 6 [some (.inr (some m)), some (.inl (j : Int)), some (.inl (a : Int)), some (.inl (i : Int)), some (.inl (b : Int)), some (.inl w), some (.inl (x : Int))] [] n k h Q := by
  intro d
  induction d using Nat.strongRecOn with | _ d ih => ?_
  intro w x hd0 hx hw
  subst hd0
  obtain ⟨z, c, cn, en, ax, nu, sp, ss, hM, rp, rc, rk, rf, ry, ri, ro, rl, rv⟩ := id hrf
  have hpb := hP.bd
  have hs8 := hP.2.1
  obtain ⟨tp, bt, sz, ch, cc, cl, ftp, fbt, fsz, fch, fcc, fcl, fkn⟩ := id rf
  obtain ⟨-, rfl, krf⟩ := fkn.resolve_left (by decide)
  have hNi := pN_is hP
  have hN1 := hNi.1
  have hN23 := hNi.2.1
  refine T_iload dX10_isSame_6 rfl ?_
  refine T_bipush dX10_isSame_8 (by decide) ?_
  refine T_icmp_ge dX10_isSame_10 (t := 51) rfl (fun c10 => ?_) (fun c10 => ?_)
  · refine T_iload dX10_isSame_51 rfl ?_
    refine T_iret dX10_isSame_53 (by rcases hw with ⟨rfl, _⟩ | ⟨rfl, _⟩ <;> rfl) ?_
    rcases hw with ⟨rfl, q⟩ | ⟨rfl, q⟩
    · exact hT (fun y hy => q y (by omega))
    · exact hF (fun q2 => by obtain ⟨y, a1, a2⟩ := q; exact a2 (q2 y (by omega)))
  · refine T_iload dX10_isSame_13 rfl ?_
    refine T_if_eq dX10_isSame_15 (t := 42) rfl (fun c15 => ?_) (fun c15 => ?_)
    · refine T_iconst dX10_isSame_42 (by decide) ?_
      refine T_istore dX10_isSame_43 (Nat.le_of_ble_eq_true rfl) ?_
      refine T_iinc dX10_isSame_45 rfl ⟨by omega, by omega⟩ ?_
      refine T_goto dX10_isSame_48 (t := 6) rfl ?_
      exact ih _ (by omega) 0 (x + 1) rfl  (by omega) (Or.inr ⟨rfl, by
            obtain ⟨y, a1, a2⟩ := (hw.resolve_left (fun q => by omega)).2
            exact ⟨y, by omega, a2⟩⟩) 
    · refine T_aload_n dX10_isSame_18 rfl ?_
      refine T_iload_n dX10_isSame_19 rfl ?_
      refine T_iload_n dX10_isSame_20 rfl ?_
      refine T_iload dX10_isSame_21 rfl ?_
      refine T_callV dX10_isSame_23 zkm_11_213 (Or.inl rfl) rfl hM ⟨Nat.le_of_ble_eq_true rfl, rfl⟩ rfl (Nat.le_of_ble_eq_true rfl) ?_
      refine m_X10_cell  hP hL hI hO hV hB hrf (by omega) (by omega) (by omega) ?_
      refine T_aload_n dX10_isSame_26 rfl ?_
      refine T_iload_n dX10_isSame_27 rfl ?_
      refine T_iload dX10_isSame_28 rfl ?_
      refine T_iload dX10_isSame_30 rfl ?_
      refine T_callV dX10_isSame_32 zkm_11_213 (Or.inl rfl) rfl hM ⟨Nat.le_of_ble_eq_true rfl, rfl⟩ rfl (Nat.le_of_ble_eq_true rfl) ?_
      refine m_X10_cell  hP hL hI hO hV hB hrf (by omega) (by omega) (by omega) ?_
      refine T_icmp_ne dX10_isSame_35 (t := 42) rfl (fun c35 => ?_) (fun c35 => ?_)
      · refine T_iconst dX10_isSame_42 (by decide) ?_
        refine T_istore dX10_isSame_43 (Nat.le_of_ble_eq_true rfl) ?_
        refine T_iinc dX10_isSame_45 rfl ⟨by omega, by omega⟩ ?_
        refine T_goto dX10_isSame_48 (t := 6) rfl ?_
        exact ih _ (by omega) 0 (x + 1) rfl  (by omega) (Or.inr ⟨rfl, x, by omega, c35⟩) 
      · refine T_iconst dX10_isSame_38 (by decide) ?_
        refine T_goto dX10_isSame_39 (t := 43) rfl ?_
        refine T_istore dX10_isSame_43 (Nat.le_of_ble_eq_true rfl) ?_
        refine T_iinc dX10_isSame_45 rfl ⟨by omega, by omega⟩ ?_
        refine T_goto dX10_isSame_48 (t := 6) rfl ?_
        exact ih _ (by omega) 1 (x + 1) rfl  (by omega) (Or.inl ⟨rfl, fun y hy => by
              by_cases e : y = x
              · rw [e]; omega
              · exact (hw.resolve_right (fun q => by omega)).2 y (by omega)⟩) 
set_option maxHeartbeats 4000000 in
set_option maxRecDepth 100000 in
theorem m_X10_isSame {n0 n k : Nat} {g : Nat → zV} {h : zHp} {Q : Option zV → Nat → Nat → zHp → Prop} {m : Nat} {P : pT} {L : lT} {I O : tT} {V : Int × pT} {j a i b : Nat} (hP : pwf P) (hL : lwf L) (hI : iwf I) (hO : owf O) (hV : vwf V) (hB : n0 ≤ m) (hrf : rfF 1 h m P L I O V) (hj : j < pN P ∧ a < (pB P j).2.1) (hi : i < pN P ∧ b < (pB P i).2.1) (hT : (∀ x, x < 81 → (pB P j).2.2.2 a x = (pB P i).2.2.2 b x) → Q (some (.inl 1)) n k h) (hF : (¬ (∀ x, x < 81 → (pB P j).2.2.2 a x = (pB P i).2.2.2 b x)) → Q (some (.inl 0)) n k h) : ZT n0 g mX10_isSame 0 (zloc mX10_isSame [.inr (some m), .inl (j : Int), .inl (a : Int), .inl (i : Int), .inl (b : Int)]) [] n k h Q := by
  show ZT n0 g mX10_isSame 0 [some (.inr (some m)), some (.inl (j : Int)), some (.inl (a : Int)), some (.inl (i : Int)), some (.inl (b : Int)), none, none] [] n k h Q
  obtain ⟨z, c, cn, en, ax, nu, sp, ss, hM, rp, rc, rk, rf, ry, ri, ro, rl, rv⟩ := id hrf
  have hpb := hP.bd
  have hs8 := hP.2.1
  obtain ⟨tp, bt, sz, ch, cc, cl, ftp, fbt, fsz, fch, fcc, fcl, fkn⟩ := id rf
  obtain ⟨-, rfl, krf⟩ := fkn.resolve_left (by decide)
  have hNi := pN_is hP
  have hN1 := hNi.1
  have hN23 := hNi.2.1
  refine T_iconst dX10_isSame_0 (by decide) ?_
  refine T_istore dX10_isSame_1 (Nat.le_of_ble_eq_true rfl) ?_
  refine T_iconst dX10_isSame_3 (by decide) ?_
  refine T_istore dX10_isSame_4 (Nat.le_of_ble_eq_true rfl) ?_
  exact m_X10_isSame_6 hP hL hI hO hV hB hrf hj hi hT hF _ 1 0 rfl  (by omega) (Or.inl ⟨rfl, fun y hy => absurd hy (Nat.not_lt_zero y)⟩) 
set_option maxHeartbeats 4000000 in
set_option maxRecDepth 100000 in
theorem m_X10_isNew_14 {n0 n k : Nat} {g : Nat → zV} {h : zHp} {Q : Option zV → Nat → Nat → zHp → Prop} {m : Nat} {P : pT} {L : lT} {I O : tT} {V : Int × pT} {j a : Nat} (hP : pwf P) (hL : lwf L) (hI : iwf I) (hO : owf O) (hV : vwf V) (hB : n0 ≤ m) (hrf : rfF 1 h m P L I O V) (hj : j < pN P ∧ a < (pB P j).2.1)  : ∀ (d : Nat) (w : Int) (i : Nat) (b : Nat), (pB P i).2.1 - b = d → (i < j) → (b ≤ (pB P i).2.1) → ((w = 1 ∧ (∀ i2, i2 < i → ∀ b2, b2 < (pB P i2).2.1 → ¬ (∀ x, x < 81 → (pB P j).2.2.2 a x = (pB P i2).2.2.2 b2 x)) ∧ (∀ b2, b2 < b → ¬ (∀ x, x < 81 → (pB P j).2.2.2 a x = (pB P i).2.2.2 b2 x))) ∨ (w = 0 ∧ ((∃ i2, i2 < i ∧ ∃ b2, b2 < (pB P i2).2.1 ∧ (∀ x, x < 81 → (pB P j).2.2.2 a x = (pB P i2).2.2.2 b2 x)) ∨ (∃ b2, b2 < b ∧ (∀ x, x < 81 → (pB P j).2.2.2 a x = (pB P i).2.2.2 b2 x))))) → (∀ (w : Int) (b : Nat) , ((w = 1 ∧ (∀ i2, i2 < i + 1 → ∀ b2, b2 < (pB P i2).2.1 → ¬ (∀ x, x < 81 → (pB P j).2.2.2 a x = (pB P i2).2.2.2 b2 x))) ∨ (w = 0 ∧ (∃ i2, i2 < i + 1 ∧ ∃ b2, b2 < (pB P i2).2.1 ∧ (∀ x, x < 81 → (pB P j).2.2.2 a x = (pB P i2).2.2.2 b2 x)))) → ZT n0 g mX10_isNew 55 [some (.inr (some m)), some (.inl (j : Int)), some (.inl (a : Int)), some (.inl w), some (.inl (i : Int)), some (.inl (b : Int))] [] n k h Q) → ZT n0 g mX10_isNew 14 [some (.inr (some m)), some (.inl (j : Int)), some (.inl (a : Int)), some (.inl w), some (.inl (i : Int)), some (.inl (b : Int))] [] n k h Q := by
  intro d
  induction d using Nat.strongRecOn with | _ d ih => ?_
  intro w i b hd0 hi hb hw kk55
  subst hd0
  obtain ⟨z, c, cn, en, ax, nu, sp, ss, hM, rp, rc, rk, rf, ry, ri, ro, rl, rv⟩ := id hrf
  have hpb := hP.bd
  have hs8 := hP.2.1
  obtain ⟨tp, bt, sz, ch, cc, cl, ftp, fbt, fsz, fch, fcc, fcl, fkn⟩ := id rf
  obtain ⟨-, rfl, krf⟩ := fkn.resolve_left (by decide)
  have hNi := pN_is hP
  have hN1 := hNi.1
  have hN23 := hNi.2.1
  obtain ⟨r0, r1, r2, r3, r4⟩ := krf i (by omega)
  have dB := pB_facts hP i
  refine T_iload dX10_isNew_14 rfl ?_
  refine T_aload_n dX10_isNew_16 rfl ?_
  refine T_getfield dX10_isNew_17 zkf_11_63 hM rfl ?_
  refine T_iload dX10_isNew_20 rfl ?_
  refine T_ialoadN (m := i) dX10_isNew_22 fsz rfl (by omega) ?_
  refine T_icmp_ge dX10_isNew_23 (t := 55) rfl (fun c23 => ?_) (fun c23 => ?_)
  · exact kk55 w b (hw.imp (fun q => ⟨q.1, fun i2 h2 b2 hb2 => by
          by_cases e : i2 = i
          · subst e; exact q.2.2 b2 (by omega)
          · exact q.2.1 i2 (by omega) b2 hb2⟩) (fun q => ⟨q.1, q.2.elim (fun ⟨i2, q1, q2⟩ => ⟨i2, by omega, q2⟩) (fun ⟨b2, q1, q2⟩ => ⟨i, by omega, b2, by omega, q2⟩)⟩))
  · refine T_iload_n dX10_isNew_26 rfl ?_
    refine T_if_eq dX10_isNew_27 (t := 47) rfl (fun c27 => ?_) (fun c27 => ?_)
    · refine T_iconst dX10_isNew_47 (by decide) ?_
      refine T_istore_n dX10_isNew_48 (Nat.le_of_ble_eq_true rfl) ?_
      refine T_iinc dX10_isNew_49 rfl ⟨by omega, by omega⟩ ?_
      refine T_goto dX10_isNew_52 (t := 14) rfl ?_
      exact ih _ (by omega) 0 i (b + 1) rfl  (by omega) (by omega) (Or.inr ⟨rfl, (hw.resolve_left (fun q => by omega)).2.imp id (fun ⟨b2, q1, q2⟩ => ⟨b2, by omega, q2⟩)⟩) kk55
    · refine T_aload_n dX10_isNew_30 rfl ?_
      refine T_iload_n dX10_isNew_31 rfl ?_
      refine T_iload_n dX10_isNew_32 rfl ?_
      refine T_iload dX10_isNew_33 rfl ?_
      refine T_iload dX10_isNew_35 rfl ?_
      refine T_callV dX10_isNew_37 zkm_11_217 (Or.inl rfl) rfl hM ⟨Nat.le_of_ble_eq_true rfl, rfl⟩ rfl (Nat.le_of_ble_eq_true rfl) ?_
      refine m_X10_isSame  hP hL hI hO hV hB hrf (by omega) (by omega) (fun k37a => ?_) (fun k37a_2 => ?_)
      · refine T_if_ne dX10_isNew_40 (t := 47) rfl (fun _ => ?_) (fun hc => absurd hc (by decide))
        refine T_iconst dX10_isNew_47 (by decide) ?_
        refine T_istore_n dX10_isNew_48 (Nat.le_of_ble_eq_true rfl) ?_
        refine T_iinc dX10_isNew_49 rfl ⟨by omega, by omega⟩ ?_
        refine T_goto dX10_isNew_52 (t := 14) rfl ?_
        exact ih _ (by omega) 0 i (b + 1) rfl  (by omega) (by omega) (Or.inr ⟨rfl, Or.inr ⟨b, by omega, k37a⟩⟩) kk55
      · refine T_if_ne dX10_isNew_40 (t := 47) rfl (fun hc => absurd hc (by decide)) (fun _ => ?_)
        refine T_iconst dX10_isNew_43 (by decide) ?_
        refine T_goto dX10_isNew_44 (t := 48) rfl ?_
        refine T_istore_n dX10_isNew_48 (Nat.le_of_ble_eq_true rfl) ?_
        refine T_iinc dX10_isNew_49 rfl ⟨by omega, by omega⟩ ?_
        refine T_goto dX10_isNew_52 (t := 14) rfl ?_
        exact ih _ (by omega) 1 i (b + 1) rfl  (by omega) (by omega) (Or.inl ⟨rfl, (hw.resolve_right (fun q => by omega)).2.1, fun b2 hb2 => by
              by_cases e : b2 = b
              · rw [e]; exact k37a_2
              · exact (hw.resolve_right (fun q => by omega)).2.2 b2 (by omega)⟩) kk55
set_option maxHeartbeats 4000000 in
set_option maxRecDepth 100000 in
theorem m_X10_isNew_5 {n0 n k : Nat} {g : Nat → zV} {h : zHp} {Q : Option zV → Nat → Nat → zHp → Prop} {m : Nat} {P : pT} {L : lT} {I O : tT} {V : Int × pT} {j a : Nat} (hP : pwf P) (hL : lwf L) (hI : iwf I) (hO : owf O) (hV : vwf V) (hB : n0 ≤ m) (hrf : rfF 1 h m P L I O V) (hj : j < pN P ∧ a < (pB P j).2.1) (hT : (znew (pB P) ((pB P j).2.2.2 a) j = true) → Q (some (.inl 1)) n k h) (hF : (znew (pB P) ((pB P j).2.2.2 a) j = false) → Q (some (.inl 0)) n k h) : ∀ (d : Nat) (w : Int) (i : Nat) (L5 : Option zV), j - i = d → (i ≤ j) → ((w = 1 ∧ (∀ i2, i2 < i → ∀ b2, b2 < (pB P i2).2.1 → ¬ (∀ x, x < 81 → (pB P j).2.2.2 a x = (pB P i2).2.2.2 b2 x))) ∨ (w = 0 ∧ (∃ i2, i2 < i ∧ ∃ b2, b2 < (pB P i2).2.1 ∧ (∀ x, x < 81 → (pB P j).2.2.2 a x = (pB P i2).2.2.2 b2 x)))) → ZT n0 g mX10_isNew 5 [some (.inr (some m)), some (.inl (j : Int)), some (.inl (a : Int)), some (.inl w), some (.inl (i : Int)), L5] [] n k h Q := by
  intro d
  induction d using Nat.strongRecOn with | _ d ih => ?_
  intro w i L5 hd0 hi hw
  subst hd0
  obtain ⟨z, c, cn, en, ax, nu, sp, ss, hM, rp, rc, rk, rf, ry, ri, ro, rl, rv⟩ := id hrf
  have hpb := hP.bd
  have hs8 := hP.2.1
  obtain ⟨tp, bt, sz, ch, cc, cl, ftp, fbt, fsz, fch, fcc, fcl, fkn⟩ := id rf
  obtain ⟨-, rfl, krf⟩ := fkn.resolve_left (by decide)
  have hNi := pN_is hP
  have hN1 := hNi.1
  have hN23 := hNi.2.1
  refine T_iload dX10_isNew_5 rfl ?_
  refine T_iload_n dX10_isNew_7 rfl ?_
  refine T_icmp_ge dX10_isNew_8 (t := 61) rfl (fun c8 => ?_) (fun c8 => ?_)
  · refine T_iload_n dX10_isNew_61 rfl ?_
    refine T_iret dX10_isNew_62 (by rcases hw with ⟨rfl, _⟩ | ⟨rfl, _⟩ <;> rfl) ?_
    rcases hw with ⟨rfl, q⟩ | ⟨rfl, q⟩
    · exact hT (znew_iff.mpr (fun i2 h2 => q i2 (by omega)))
    · exact hF (Bool.eq_false_iff.mpr (fun y => by
        obtain ⟨i2, h2, b2, h3, h4⟩ := q
        exact znew_iff.mp y i2 (by omega) b2 h3 h4))
  · refine T_iconst dX10_isNew_11 (by decide) ?_
    refine T_istore dX10_isNew_12 (Nat.le_of_ble_eq_true rfl) ?_
    refine m_X10_isNew_14 hP hL hI hO hV hB hrf hj _ w i 0 rfl  (by omega) (by omega) (hw.imp (fun q => ⟨q.1, q.2, fun b2 h => absurd h (Nat.not_lt_zero b2)⟩) (fun q => ⟨q.1, Or.inl q.2⟩)) (fun w55 b55 xw_55 => ?_)
    refine T_iinc dX10_isNew_55 rfl ⟨by omega, by omega⟩ ?_
    refine T_goto dX10_isNew_58 (t := 5) rfl ?_
    exact ih _ (by omega) w55 (i + 1) _ rfl  (by omega) xw_55 
set_option maxHeartbeats 4000000 in
set_option maxRecDepth 100000 in
theorem m_X10_isNew {n0 n k : Nat} {g : Nat → zV} {h : zHp} {Q : Option zV → Nat → Nat → zHp → Prop} {m : Nat} {P : pT} {L : lT} {I O : tT} {V : Int × pT} {j a : Nat} (hP : pwf P) (hL : lwf L) (hI : iwf I) (hO : owf O) (hV : vwf V) (hB : n0 ≤ m) (hrf : rfF 1 h m P L I O V) (hj : j < pN P ∧ a < (pB P j).2.1) (hT : (znew (pB P) ((pB P j).2.2.2 a) j = true) → Q (some (.inl 1)) n k h) (hF : (znew (pB P) ((pB P j).2.2.2 a) j = false) → Q (some (.inl 0)) n k h) : ZT n0 g mX10_isNew 0 (zloc mX10_isNew [.inr (some m), .inl (j : Int), .inl (a : Int)]) [] n k h Q := by
  show ZT n0 g mX10_isNew 0 [some (.inr (some m)), some (.inl (j : Int)), some (.inl (a : Int)), none, none, none] [] n k h Q
  obtain ⟨z, c, cn, en, ax, nu, sp, ss, hM, rp, rc, rk, rf, ry, ri, ro, rl, rv⟩ := id hrf
  have hpb := hP.bd
  have hs8 := hP.2.1
  obtain ⟨tp, bt, sz, ch, cc, cl, ftp, fbt, fsz, fch, fcc, fcl, fkn⟩ := id rf
  obtain ⟨-, rfl, krf⟩ := fkn.resolve_left (by decide)
  have hNi := pN_is hP
  have hN1 := hNi.1
  have hN23 := hNi.2.1
  refine T_iconst dX10_isNew_0 (by decide) ?_
  refine T_istore_n dX10_isNew_1 (Nat.le_of_ble_eq_true rfl) ?_
  refine T_iconst dX10_isNew_2 (by decide) ?_
  refine T_istore dX10_isNew_3 (Nat.le_of_ble_eq_true rfl) ?_
  exact m_X10_isNew_5 hP hL hI hO hV hB hrf hj hT hF _ 1 0 _ rfl  (by omega) (Or.inl ⟨rfl, fun i2 h => absurd h (Nat.not_lt_zero i2)⟩) 
set_option maxHeartbeats 4000000 in
set_option maxRecDepth 100000 in
theorem m_X10_universalSize_18 {n0 n k : Nat} {g : Nat → zV} {h : zHp} {Q : Option zV → Nat → Nat → zHp → Prop} {m : Nat} {P : pT} {L : lT} {I O : tT} {V : Int × pT} (hP : pwf P) (hL : lwf L) (hI : iwf I) (hO : owf O) (hV : vwf V) (hB : n0 ≤ m) (hrf : rfAt h m P L I O V)  : ∀ (d : Nat) (w : Nat) (j : Nat) (a : Nat), (pB P j).2.1 - a = d → ∀ h1 : zHp, (rfF 1 h1 m P L I O V) → (∀ q : Nat, (q < m ∨ m + 33 ≤ q) → h1 q = h q) → (j < pN P) → (a ≤ (pB P j).2.1) → (w = zuc (pB P) j + zcnt (fun a => znew (pB P) ((pB P j).2.2.2 a) j) a) → (∀ (w : Nat) (a : Nat) , (w = zuc (pB P) (j + 1)) → ZT n0 g mX10_universalSize 51 [some (.inr (some m)), some (.inl (w : Int)), some (.inl (j : Int)), some (.inl (a : Int))] [] n k h1 Q) → ZT n0 g mX10_universalSize 18 [some (.inr (some m)), some (.inl (w : Int)), some (.inl (j : Int)), some (.inl (a : Int))] [] n k h1 Q := by
  intro d
  induction d using Nat.strongRecOn with | _ d ih => ?_
  intro w j a hd0 h1 pr9 pf9 hj ha hw kk51
  subst hd0
  obtain ⟨z, c, cn, en, ax, nu, sp, ss, hM, rp, rc, rk, rf, ry, ri, ro, rl, rv⟩ := id pr9
  have hpb := hP.bd
  have hs8 := hP.2.1
  obtain ⟨tp, bt, sz, ch, cc, cl, ftp, fbt, fsz, fch, fcc, fcl, fkn⟩ := id rf
  obtain ⟨-, rfl, krf⟩ := fkn.resolve_left (by decide)
  have hNi := pN_is hP
  have hN1 := hNi.1
  have hN23 := hNi.2.1
  obtain ⟨r0, r1, r2, r3, r4⟩ := krf j (by omega)
  have dB := pB_facts hP j
  have hz1 := zuc_le (B := pB P) (N := pN P) (fun i _ => (pB_facts hP i).1) j (by omega)
  have hz2 := zcnt_le (fun a => znew (pB P) ((pB P j).2.2.2 a) j) a
  refine T_iload_n dX10_universalSize_18 rfl ?_
  refine T_aload_n dX10_universalSize_19 rfl ?_
  refine T_getfield dX10_universalSize_20 zkf_11_63 hM rfl ?_
  refine T_iload_n dX10_universalSize_23 rfl ?_
  refine T_ialoadN (m := j) dX10_universalSize_24 fsz rfl (by omega) ?_
  refine T_icmp_ge dX10_universalSize_25 (t := 51) rfl (fun c25 => ?_) (fun c25 => ?_)
  · exact kk51 w a (by rw [hw, show a = (pB P j).2.1 by omega]; rfl)
  · refine T_iload_n dX10_universalSize_28 rfl ?_
    refine T_aload_n dX10_universalSize_29 rfl ?_
    refine T_iload_n dX10_universalSize_30 rfl ?_
    refine T_iload_n dX10_universalSize_31 rfl ?_
    refine T_callV dX10_universalSize_32 zkm_11_221 (Or.inl rfl) rfl hM ⟨Nat.le_of_ble_eq_true rfl, rfl⟩ rfl (Nat.le_of_ble_eq_true rfl) ?_
    refine m_X10_isNew  hP hL hI hO hV hB pr9 (by omega) (fun k32a => ?_) (fun k32a_2 => ?_)
    · refine T_if_eq dX10_universalSize_35 (t := 42) rfl (fun hc => absurd hc (by decide)) (fun _ => ?_)
      refine T_iconst dX10_universalSize_38 (by decide) ?_
      refine T_goto dX10_universalSize_39 (t := 43) rfl ?_
      refine T_iadd dX10_universalSize_43 ⟨by omega, by omega⟩ ?_
      refine T_istore_n dX10_universalSize_44 (Nat.le_of_ble_eq_true rfl) ?_
      refine T_iinc dX10_universalSize_45 rfl ⟨by omega, by omega⟩ ?_
      refine T_goto dX10_universalSize_48 (t := 18) rfl ?_
      exact ih _ (by omega) (w + 1) j (a + 1) rfl _ pr9 pf9 (by omega) (by omega) (by simp only [hw, zcnt, k32a]; rfl) kk51
    · refine T_if_eq dX10_universalSize_35 (t := 42) rfl (fun _ => ?_) (fun hc => absurd hc (by decide))
      refine T_iconst dX10_universalSize_42 (by decide) ?_
      refine T_iadd dX10_universalSize_43 ⟨by omega, by omega⟩ ?_
      refine T_istore_n dX10_universalSize_44 (Nat.le_of_ble_eq_true rfl) ?_
      refine T_iinc dX10_universalSize_45 rfl ⟨by omega, by omega⟩ ?_
      refine T_goto dX10_universalSize_48 (t := 18) rfl ?_
      exact ih _ (by omega) (w + 0) j (a + 1) rfl _ pr9 pf9 (by omega) (by omega) (by simp only [hw, zcnt, k32a_2]; rfl) kk51
set_option maxHeartbeats 4000000 in
set_option maxRecDepth 100000 in
theorem m_X10_universalSize_8 {n0 n k : Nat} {g : Nat → zV} {h : zHp} {Q : Option zV → Nat → Nat → zHp → Prop} {m : Nat} {P : pT} {L : lT} {I O : tT} {V : Int × pT} (hP : pwf P) (hL : lwf L) (hI : iwf I) (hO : owf O) (hV : vwf V) (hB : n0 ≤ m) (hrf : rfAt h m P L I O V) (hQ : ∀  (h' : zHp), (rfAt h' m P L I O V) → (∀ q : Nat, (q < m ∨ m + 33 ≤ q) → h' q = h q) → Q (some (.inl (s_us P))) n k h') : ∀ (d : Nat) (w : Nat) (j : Nat) (L3 : Option zV), pN P - j = d → ∀ h1 : zHp, (rfF 1 h1 m P L I O V) → (∀ q : Nat, (q < m ∨ m + 33 ≤ q) → h1 q = h q) → (j ≤ pN P) → (w = zuc (pB P) j) → ZT n0 g mX10_universalSize 8 [some (.inr (some m)), some (.inl (w : Int)), some (.inl (j : Int)), L3] [] n k h1 Q := by
  intro d
  induction d using Nat.strongRecOn with | _ d ih => ?_
  intro w j L3 hd0 h1 pr9 pf9 hj hw
  subst hd0
  obtain ⟨z, c, cn, en, ax, nu, sp, ss, hM, rp, rc, rk, rf, ry, ri, ro, rl, rv⟩ := id pr9
  have hpb := hP.bd
  have hs8 := hP.2.1
  obtain ⟨tp, bt, sz, ch, cc, cl, ftp, fbt, fsz, fch, fcc, fcl, fkn⟩ := id rf
  obtain ⟨-, rfl, krf⟩ := fkn.resolve_left (by decide)
  have hNi := pN_is hP
  have hN1 := hNi.1
  have hN23 := hNi.2.1
  refine T_iload_n dX10_universalSize_8 rfl ?_
  refine T_aload_n dX10_universalSize_9 rfl ?_
  refine T_getfield dX10_universalSize_10 zkf_11_195 hM rfl ?_
  refine T_icmp_ge dX10_universalSize_13 (t := 57) rfl (fun c13 => ?_) (fun c13 => ?_)
  · refine T_iload_n dX10_universalSize_57 rfl ?_
    refine T_iret dX10_universalSize_58 rfl ?_
    have e : s_us P = (w : Int) := by rw [hw, show j = pN P by omega]; rfl
    rw [e] at hQ
    exact hQ _ pr9.at pf9
  · refine T_iconst dX10_universalSize_16 (by decide) ?_
    refine T_istore_n dX10_universalSize_17 (Nat.le_of_ble_eq_true rfl) ?_
    refine m_X10_universalSize_18 hP hL hI hO hV hB hrf _ w j 0 rfl _ pr9 pf9 (by omega) (by omega) (by rw [hw]; rfl) (fun w51 a51 xw_51 => ?_)
    refine T_iinc dX10_universalSize_51 rfl ⟨by omega, by omega⟩ ?_
    refine T_goto dX10_universalSize_54 (t := 8) rfl ?_
    exact ih _ (by omega) w51 (j + 1) _ rfl _ pr9 pf9 (by omega) xw_51 
set_option maxHeartbeats 4000000 in
set_option maxRecDepth 100000 in
theorem m_X10_universalSize {n0 n k : Nat} {g : Nat → zV} {h : zHp} {Q : Option zV → Nat → Nat → zHp → Prop} {m : Nat} {P : pT} {L : lT} {I O : tT} {V : Int × pT} (hP : pwf P) (hL : lwf L) (hI : iwf I) (hO : owf O) (hV : vwf V) (hB : n0 ≤ m) (hrf : rfAt h m P L I O V) (hQ : ∀  (h' : zHp), (rfAt h' m P L I O V) → (∀ q : Nat, (q < m ∨ m + 33 ≤ q) → h' q = h q) → Q (some (.inl (s_us P))) n k h') : ZT n0 g mX10_universalSize 0 (zloc mX10_universalSize [.inr (some m)]) [] n k h Q := by
  show ZT n0 g mX10_universalSize 0 [some (.inr (some m)), none, none, none] [] n k h Q
  obtain ⟨fk, z, c, cn, en, ax, nu, sp, ss, hM, rp, rc, rk, rf, ry, ri, ro, rl, rv⟩ := id hrf
  have hpb := hP.bd
  have hs8 := hP.2.1
  refine T_aload_n dX10_universalSize_0 rfl ?_
  refine T_callV dX10_universalSize_1 zkm_11_201 (Or.inl rfl) rfl hM ⟨Nat.le_of_ble_eq_true rfl, rfl⟩ rfl (Nat.le_of_ble_eq_true rfl) ?_
  refine r_fan  hP hL hI hO hV hB hrf (fun hh1 pr_1 pf_1 => ?_)
  obtain ⟨z, c, cn, en, ax, nu, sp, ss, hM, rp, rc, rk, rf, ry, ri, ro, rl, rv⟩ := id pr_1
  have hpb := hP.bd
  have hs8 := hP.2.1
  obtain ⟨tp, bt, sz, ch, cc, cl, ftp, fbt, fsz, fch, fcc, fcl, fkn⟩ := id rf
  obtain ⟨-, rfl, krf⟩ := fkn.resolve_left (by decide)
  have hNi := pN_is hP
  have hN1 := hNi.1
  have hN23 := hNi.2.1
  refine T_iconst dX10_universalSize_4 (by decide) ?_
  refine T_istore_n dX10_universalSize_5 (Nat.le_of_ble_eq_true rfl) ?_
  refine T_iconst dX10_universalSize_6 (by decide) ?_
  refine T_istore_n dX10_universalSize_7 (Nat.le_of_ble_eq_true rfl) ?_
  exact m_X10_universalSize_8 hP hL hI hO hV hB hrf hQ _ 0 0 _ rfl _ pr_1 pf_1 (by omega) rfl 
set_option maxHeartbeats 4000000 in
set_option maxRecDepth 100000 in
theorem m_X10_firstDifference_33 {n0 n k : Nat} {g : Nat → zV} {h : zHp} {Q : Option zV → Nat → Nat → zHp → Prop} {m : Nat} {P : pT} {L : lT} {I O : tT} {V : Int × pT} {i x : Int} (hP : pwf P) (hL : lwf L) (hI : iwf I) (hO : owf O) (hV : vwf V) (hB : n0 ≤ m) (hrf : rfAt h m P L I O V) (hQ : ∀  (h' : zHp), (rfAt h' m P L I O V) → (∀ q : Nat, (q < m ∨ m + 33 ≤ q) → h' q = h q) → Q (some (.inl (s_fd P L i x))) n k h') : ∀ (d : Nat) (j : Nat) (b : Nat) (L3 : Option zV) (q : Nat), L.2.1 j - q = d → ∀ h1 : zHp, (rfF 1 h1 m P L I O V) → (∀ q : Nat, (q < m ∨ m + 33 ≤ q) → h1 q = h q) → (i = (j : Int) ∧ x = (b : Int) ∧ j < 4 ∧ b < pN P ∧ zami L j 1 = 0) → (∀ y, y < q → (if 9 ≤ y ∨ L.2.2.1 j y ≠ ((pB P b).1 y : Int) then (1 : Int) else 0) = 0) → ZT n0 g mX10_firstDifference 33 [some (.inr (some m)), some (.inl (j : Int)), some (.inl (b : Int)), L3, some (.inl (q : Int))] [] n k h1 Q := by
  intro d
  induction d using Nat.strongRecOn with | _ d ih => ?_
  intro j b L3 q hd0 h1 pr9 pf9 hi hn
  subst hd0
  obtain ⟨z, c, cn, en, ax, nu, sp, ss, hM, rp, rc, rk, rf, ry, ri, ro, rl, rv⟩ := id pr9
  have hpb := hP.bd
  have hs8 := hP.2.1
  obtain ⟨tp, bt, sz, ch, cc, cl, ftp, fbt, fsz, fch, fcc, fcl, fkn⟩ := id rf
  obtain ⟨-, rfl, krf⟩ := fkn.resolve_left (by decide)
  have hNi := pN_is hP
  have hN1 := hNi.1
  have hN23 := hNi.2.1
  obtain ⟨ki, le, el, sto, l0, l1, l2, l3, l4⟩ := id rl
  obtain ⟨hi1, hi2, hj, hb, hz⟩ := id hi
  have hk1 := zami_is hz
  obtain ⟨lj, lj1, lj2⟩ := l4 j hj
  obtain ⟨lq1, lq2⟩ := lj1 hk1
  have w20 := ((hL j hj).2.1 hk1).1
  obtain ⟨r0, r1, r2, r3, r4⟩ := krf b hb
  have hsl : sSl (j : Int) := ⟨by omega, by omega⟩
  refine T_iload dX10_firstDifference_33 rfl ?_
  refine T_aload_n dX10_firstDifference_35 rfl ?_
  refine T_getfield dX10_firstDifference_36 zkf_11_93 hM rfl ?_
  refine T_iload_n dX10_firstDifference_39 rfl ?_
  refine T_ialoadN (m := j) dX10_firstDifference_40 l1 rfl (by omega) ?_
  refine T_icmp_ge dX10_firstDifference_41 (t := 87) rfl (fun c41 => ?_) (fun c41 => ?_)
  · refine T_bipush dX10_firstDifference_87 (by decide) ?_
    refine T_iret dX10_firstDifference_89 rfl ?_
    have e : s_fd P L (j : Int) (b : Int) = -5 := by unfold s_fd; rw [if_pos ⟨hsl, by omega⟩, Int.toNat_natCast, Int.toNat_natCast, if_pos hz, if_neg (show ¬ zdif (pB P b).1 (L.2.2.1 j) (L.2.1 j) < L.2.1 j from zfst_end (fun y hy => hn y (by omega)))]
    subst hi1 hi2
    rw [e] at hQ
    exact hQ _ pr9.at pf9
  · refine T_iload dX10_firstDifference_44 rfl ?_
    refine T_bipush dX10_firstDifference_46 (by decide) ?_
    refine T_icmp_ge dX10_firstDifference_48 (t := 78) rfl (fun c48 => ?_) (fun c48 => ?_)
    · refine T_iload dX10_firstDifference_78 rfl ?_
      refine T_iret dX10_firstDifference_80 rfl ?_
      have ez : zdif (pB P b).1 (L.2.2.1 j) (L.2.1 j) = q := zfst_eq (by omega) (by rw [if_pos (Or.inl (by omega))]; decide) hn
      have e : s_fd P L (j : Int) (b : Int) = (q : Int) := by unfold s_fd; rw [if_pos ⟨hsl, by omega⟩, Int.toNat_natCast, Int.toNat_natCast, if_pos hz, ez, if_pos (by omega)]
      subst hi1 hi2
      rw [e] at hQ
      exact hQ _ pr9.at pf9
    · refine T_aload_n dX10_firstDifference_51 rfl ?_
      refine T_getfield dX10_firstDifference_52 zkf_11_96 hM rfl ?_
      refine T_bipush dX10_firstDifference_55 (by decide) ?_
      refine T_iload_n dX10_firstDifference_57 rfl ?_
      refine T_imul dX10_firstDifference_58 ⟨by omega, by omega⟩ ?_
      refine T_iload dX10_firstDifference_59 rfl ?_
      refine T_iadd dX10_firstDifference_61 ⟨by omega, by omega⟩ ?_
      refine T_ialoadN (m := (20 * j + q)) dX10_firstDifference_62 l2 (by omega) (by omega) ?_
      refine T_aload_n dX10_firstDifference_63 rfl ?_
      refine T_getfield dX10_firstDifference_64 zkf_11_66 hM rfl ?_
      refine T_bipush dX10_firstDifference_67 (by decide) ?_
      refine T_iload_n dX10_firstDifference_69 rfl ?_
      refine T_imul dX10_firstDifference_70 ⟨by omega, by omega⟩ ?_
      refine T_iload dX10_firstDifference_71 rfl ?_
      refine T_iadd dX10_firstDifference_73 ⟨by omega, by omega⟩ ?_
      refine T_ialoadN (m := (9 * b + q)) dX10_firstDifference_74 fch (by omega) (by omega) ?_
      refine T_icmp_eq dX10_firstDifference_75 (t := 81) rfl (fun c75 => ?_) (fun c75 => ?_)
      · refine T_iinc dX10_firstDifference_81 rfl ⟨by omega, by omega⟩ ?_
        refine T_goto dX10_firstDifference_84 (t := 33) rfl ?_
        exact ih _ (by omega) j b _ (q + 1) rfl _ pr9 pf9 hi (fun y hy => by
              by_cases e9 : y = q
              · rw [e9]; rw [lq2 q (by omega), r1 q (by omega)] at c75; exact if_neg (by omega)
              · exact hn y (by omega)) 
      · refine T_iload dX10_firstDifference_78 rfl ?_
        refine T_iret dX10_firstDifference_80 rfl ?_
        have ez : zdif (pB P b).1 (L.2.2.1 j) (L.2.1 j) = q := zfst_eq (by omega) (by rw [if_pos (Or.inr (by rw [← lq2 q (by omega), ← r1 q (by omega)]; omega))]; decide) hn
        have e : s_fd P L (j : Int) (b : Int) = (q : Int) := by unfold s_fd; rw [if_pos ⟨hsl, by omega⟩, Int.toNat_natCast, Int.toNat_natCast, if_pos hz, ez, if_pos (by omega)]
        subst hi1 hi2
        rw [e] at hQ
        exact hQ _ pr9.at pf9
set_option maxHeartbeats 4000000 in
set_option maxRecDepth 100000 in
theorem m_X10_firstDifference {n0 n k : Nat} {g : Nat → zV} {h : zHp} {Q : Option zV → Nat → Nat → zHp → Prop} {m : Nat} {P : pT} {L : lT} {I O : tT} {V : Int × pT} {i x : Int} (hP : pwf P) (hL : lwf L) (hI : iwf I) (hO : owf O) (hV : vwf V) (hB : n0 ≤ m) (hrf : rfAt h m P L I O V) (hQ : ∀  (h' : zHp), (rfAt h' m P L I O V) → (∀ q : Nat, (q < m ∨ m + 33 ≤ q) → h' q = h q) → Q (some (.inl (s_fd P L i x))) n k h') : ZT n0 g mX10_firstDifference 0 (zloc mX10_firstDifference [.inr (some m), .inl i, .inl x]) [] n k h Q := by
  show ZT n0 g mX10_firstDifference 0 [some (.inr (some m)), some (.inl i), some (.inl x), none, none] [] n k h Q
  obtain ⟨fk, z, c, cn, en, ax, nu, sp, ss, hM, rp, rc, rk, rf, ry, ri, ro, rl, rv⟩ := id hrf
  have hpb := hP.bd
  have hs8 := hP.2.1
  obtain ⟨ki, le, el, sto, l0, l1, l2, l3, l4⟩ := id rl
  refine T_iload_n dX10_firstDifference_0 rfl ?_
  refine T_callS dX10_firstDifference_1 zkm_11_249 ⟨Nat.le_of_ble_eq_true rfl, Nat.le_of_ble_eq_true rfl, rfl⟩ rfl (Nat.le_of_ble_eq_true rfl) ?_
  refine m_X10_isSlot   (fun k1a => ?_) (fun k1a_2 => ?_)
  · refine T_if_eq dX10_firstDifference_4 (t := 15) rfl (fun hc => absurd hc (by decide)) (fun _ => ?_)
    refine T_aload_n dX10_firstDifference_7 rfl ?_
    refine T_iload_n dX10_firstDifference_8 rfl ?_
    refine T_callV dX10_firstDifference_9 zkm_11_204 (Or.inl rfl) rfl hM ⟨Nat.le_of_ble_eq_true rfl, rfl⟩ rfl (Nat.le_of_ble_eq_true rfl) ?_
    refine m_X10_isCone  hP hL hI hO hV hB hrf (fun hh9 k9a pr_9 pf_9 => ?_) (fun hh9 k9a_2 pr_9_2 pf_9_2 => ?_)
    · obtain ⟨z, c, cn, en, ax, nu, sp, ss, hM, rp, rc, rk, rf, ry, ri, ro, rl, rv⟩ := id pr_9
      have hpb := hP.bd
      have hs8 := hP.2.1
      obtain ⟨tp, bt, sz, ch, cc, cl, ftp, fbt, fsz, fch, fcc, fcl, fkn⟩ := id rf
      obtain ⟨-, rfl, krf⟩ := fkn.resolve_left (by decide)
      have hNi := pN_is hP
      have hN1 := hNi.1
      have hN23 := hNi.2.1
      obtain ⟨ki, le, el, sto, l0, l1, l2, l3, l4⟩ := id rl
      obtain ⟨j, rfl⟩ := Int.eq_ofNat_of_zero_le k1a.1
      have hj : j < 4 := by omega
      have hsl : sSl (j : Int) := ⟨by omega, by omega⟩
      obtain ⟨lj, lj1, lj2⟩ := l4 j hj
      obtain ⟨w1, w2, w3⟩ := hL j hj
      obtain ⟨b, rfl⟩ := Int.eq_ofNat_of_zero_le k9a.1
      refine T_if_ne dX10_firstDifference_12 (t := 17) rfl (fun _ => ?_) (fun hc => absurd hc (by decide))
      refine T_aload_n dX10_firstDifference_17 rfl ?_
      refine T_iload_n dX10_firstDifference_18 rfl ?_
      refine T_iconst dX10_firstDifference_19 (by decide) ?_
      refine T_callV dX10_firstDifference_20 zkm_11_293 (Or.inl rfl) rfl hM ⟨Nat.le_of_ble_eq_true rfl, rfl⟩ rfl (Nat.le_of_ble_eq_true rfl) ?_
      refine m_X10_amiss  hP hL hI hO hV hB pr_9.at hj ?_
      refine T_istore_n dX10_firstDifference_23 (Nat.le_of_ble_eq_true rfl) ?_
      refine T_iload_n dX10_firstDifference_24 rfl ?_
      refine T_if_eq dX10_firstDifference_25 (t := 30) rfl (fun c25 => ?_) (fun c25 => ?_)
      · refine T_iconst dX10_firstDifference_30 (by decide) ?_
        refine T_istore dX10_firstDifference_31 (Nat.le_of_ble_eq_true rfl) ?_
        exact m_X10_firstDifference_33 hP hL hI hO hV hB hrf hQ _ j b _ 0 rfl _ pr_9 pf_9 ⟨rfl, rfl, hj, by omega, by omega⟩ (fun i hi => absurd hi (Nat.not_lt_zero i)) 
      · refine T_iload_n dX10_firstDifference_28 rfl ?_
        refine T_iret dX10_firstDifference_29 rfl ?_
        have e : s_fd P L (j : Int) (b : Int) = zami L j 1 := by unfold s_fd; rw [if_pos ⟨hsl, by omega⟩, Int.toNat_natCast, if_neg (by omega)]
        rw [e] at hQ
        exact hQ _ pr_9.at pf_9
    · refine T_if_ne dX10_firstDifference_12 (t := 17) rfl (fun hc => absurd hc (by decide)) (fun _ => ?_)
      refine T_iconst dX10_firstDifference_15 (by decide) ?_
      refine T_iret dX10_firstDifference_16 rfl ?_
      have e : s_fd P L i x = -1 := if_neg (fun q => k9a_2 q.2)
      rw [e] at hQ
      exact hQ _ pr_9_2.at pf_9_2
  · refine T_if_eq dX10_firstDifference_4 (t := 15) rfl (fun _ => ?_) (fun hc => absurd hc (by decide))
    refine T_iconst dX10_firstDifference_15 (by decide) ?_
    refine T_iret dX10_firstDifference_16 rfl ?_
    have e : s_fd P L i x = -1 := if_neg (fun q => k1a_2 q.1)
    rw [e] at hQ
    exact hQ h hrf (fun _ _ => rfl)
