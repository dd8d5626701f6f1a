/-! ===== the reference: comparisons of cones: printed by wip/whole/gen/s_ref16.py ===== -/
noncomputable def zchf (P : pT) (j a : Nat) : Bool := !(List.range (pB P (j + 1)).2.1).any (fun q => (pB P (j + 1)).2.2.1 q == (pB P j).2.2.1 a)
theorem zchf_f {P : pT} {j a : Nat} (h : ∃ l, l < (pB P (j + 1)).2.1 ∧ (pB P (j + 1)).2.2.1 l = (pB P j).2.2.1 a) : zchf P j a = false := by
  obtain ⟨l, h1, h2⟩ := h
  unfold zchf
  rw [List.any_eq_true.mpr ⟨l, List.mem_range.mpr h1, by simp [h2]⟩]; rfl
theorem zchf_t {P : pT} {j a : Nat} (h : ∀ l, l < (pB P (j + 1)).2.1 → (pB P (j + 1)).2.2.1 l ≠ (pB P j).2.2.1 a) : zchf P j a = true := by
  unfold zchf
  have e : (List.range (pB P (j + 1)).2.1).any (fun q => (pB P (j + 1)).2.2.1 q == (pB P j).2.2.1 a) = false := Bool.eq_false_iff.mpr (fun q => by
    obtain ⟨l, h1, h2⟩ := List.any_eq_true.mp q
    exact h l (List.mem_range.mp h1) (by simpa using h2))
  rw [e]; rfl
set_option maxHeartbeats 4000000 in
set_option maxRecDepth 100000 in
theorem m_X10_changedCorners_42 {n0 n k : Nat} {g : Nat → zV} {h : zHp} {Q : Option zV → Nat → Nat → zHp → Prop} {m : Nat} {P : pT} {L : lT} {I O : tT} {V : Int × pT} {i : Int} (hP : pwf P) (hL : lwf L) (hI : iwf I) (hO : owf O) (hV : vwf V) (hB : n0 ≤ m) (hrf : rfAt h m P L I O V)  : ∀ (d : Nat) (j : Nat) (w : Nat) (a : Nat) (t : Int) (b : Nat), (pB P (j + 1)).2.1 - b = d → ∀ h1 : zHp, (rfF 1 h1 m P L I O V) → (∀ q : Nat, (q < m ∨ m + 33 ≤ q) → h1 q = h q) → (i = (j : Int) ∧ j + 1 < pN P) → (a < (pB P j).2.1) → (b ≤ (pB P (j + 1)).2.1) → ((t = 1 ∧ ∃ l, l < b ∧ (pB P (j + 1)).2.2.1 l = (pB P j).2.2.1 a) ∨ (t = 0 ∧ ∀ l, l < b → (pB P (j + 1)).2.2.1 l ≠ (pB P j).2.2.1 a)) → (∀ (t : Int) (b : Nat) , ((t = 1 ∧ zchf P j a = false) ∨ (t = 0 ∧ zchf P j a = true)) → ZT n0 g mX10_changedCorners 101 [some (.inr (some m)), some (.inl (j : Int)), some (.inl (w : Int)), some (.inl (a : Int)), some (.inl t), some (.inl (b : Int))] [] n k h1 Q) → ZT n0 g mX10_changedCorners 42 [some (.inr (some m)), some (.inl (j : Int)), some (.inl (w : Int)), some (.inl (a : Int)), some (.inl t), some (.inl (b : Int))] [] n k h1 Q := by
  intro d
  induction d using Nat.strongRecOn with | _ d ih => ?_
  intro j w a t b hd0 h1 pr9 pf9 hi ha hb ht kk101
  subst hd0
  obtain ⟨z, c, cn, en, ax, nu, sp, ss, hM, rp, rc, rk, rf, ry, ri, ro, rl, rv⟩ := id pr9
  have hpb := hP.bd
  have hs8 := hP.2.1
  obtain ⟨tp, bt, sz, ch, cc, cl, ftp, fbt, fsz, fch, fcc, fcl, fkn⟩ := id rf
  obtain ⟨-, rfl, krf⟩ := fkn.resolve_left (by decide)
  have hNi := pN_is hP
  have hN1 := hNi.1
  have hN23 := hNi.2.1
  obtain ⟨r0, r1, r2, r3, r4⟩ := krf j (by omega)
  obtain ⟨x0, x1, x2, x3, x4⟩ := krf (j + 1) (by omega)
  have dB := pB_facts hP j
  have dB2 := pB_facts hP (j + 1)
  refine T_iload dX10_changedCorners_42 rfl ?_
  refine T_aload_n dX10_changedCorners_44 rfl ?_
  refine T_getfield dX10_changedCorners_45 zkf_11_63 hM rfl ?_
  refine T_iload_n dX10_changedCorners_48 rfl ?_
  refine T_iconst dX10_changedCorners_49 (by decide) ?_
  refine T_iadd dX10_changedCorners_50 ⟨by omega, by omega⟩ ?_
  refine T_ialoadN (m := (j + 1)) dX10_changedCorners_51 fsz rfl (by omega) ?_
  refine T_icmp_ge dX10_changedCorners_52 (t := 101) rfl (fun c52 => ?_) (fun c52 => ?_)
  · exact kk101 t b (ht.imp (fun x => ⟨x.1, zchf_f (by obtain ⟨l, y1, y2⟩ := x.2; exact ⟨l, by omega, y2⟩)⟩) (fun x => ⟨x.1, zchf_t (fun l hl => x.2 l (by omega))⟩))
  · refine T_iload dX10_changedCorners_55 rfl ?_
    refine T_if_ne dX10_changedCorners_57 (t := 88) rfl (fun c57 => ?_) (fun c57 => ?_)
    · refine T_iconst dX10_changedCorners_88 (by decide) ?_
      refine T_goto dX10_changedCorners_89 (t := 93) rfl ?_
      refine T_istore dX10_changedCorners_93 (Nat.le_of_ble_eq_true rfl) ?_
      refine T_iinc dX10_changedCorners_95 rfl ⟨by omega, by omega⟩ ?_
      refine T_goto dX10_changedCorners_98 (t := 42) rfl ?_
      exact ih _ (by omega) j w a 1 (b + 1) rfl _ pr9 pf9 hi (by omega) (by omega) (Or.inl ⟨rfl, by
            obtain ⟨l, y1, y2⟩ := (ht.resolve_right (fun x => c57 x.1)).2
            exact ⟨l, by omega, y2⟩⟩) kk101
    · refine T_aload_n dX10_changedCorners_60 rfl ?_
      refine T_getfield dX10_changedCorners_61 zkf_11_69 hM rfl ?_
      refine T_bipush dX10_changedCorners_64 (by decide) ?_
      refine T_iload_n dX10_changedCorners_66 rfl ?_
      refine T_imul dX10_changedCorners_67 ⟨by omega, by omega⟩ ?_
      refine T_iload_n dX10_changedCorners_68 rfl ?_
      refine T_iadd dX10_changedCorners_69 ⟨by omega, by omega⟩ ?_
      refine T_ialoadN (m := ((9 * j) + a)) dX10_changedCorners_70 fcc rfl (by omega) ?_
      rw [(r2 a (by omega)).1]
      refine T_aload_n dX10_changedCorners_71 rfl ?_
      refine T_getfield dX10_changedCorners_72 zkf_11_69 hM rfl ?_
      refine T_bipush dX10_changedCorners_75 (by decide) ?_
      refine T_iload_n dX10_changedCorners_77 rfl ?_
      refine T_iconst dX10_changedCorners_78 (by decide) ?_
      refine T_iadd dX10_changedCorners_79 ⟨by omega, by omega⟩ ?_
      refine T_imul dX10_changedCorners_80 ⟨by omega, by omega⟩ ?_
      refine T_iload dX10_changedCorners_81 rfl ?_
      refine T_iadd dX10_changedCorners_83 ⟨by omega, by omega⟩ ?_
      refine T_ialoadN (m := ((9 * (j + 1)) + b)) dX10_changedCorners_84 fcc rfl (by omega) ?_
      rw [(x2 b (by omega)).1]
      refine T_icmp_ne dX10_changedCorners_85 (t := 92) rfl (fun c85 => ?_) (fun c85 => ?_)
      · refine T_iconst dX10_changedCorners_92 (by decide) ?_
        refine T_istore dX10_changedCorners_93 (Nat.le_of_ble_eq_true rfl) ?_
        refine T_iinc dX10_changedCorners_95 rfl ⟨by omega, by omega⟩ ?_
        refine T_goto dX10_changedCorners_98 (t := 42) rfl ?_
        exact ih _ (by omega) j w a 0 (b + 1) rfl _ pr9 pf9 hi (by omega) (by omega) (Or.inr ⟨rfl, fun l hl x => by
              by_cases e : l = b
              · rw [e] at x; omega
              · exact (ht.resolve_left (fun y => by omega)).2 l (by omega) x⟩) kk101
      · refine T_iconst dX10_changedCorners_88 (by decide) ?_
        refine T_goto dX10_changedCorners_89 (t := 93) rfl ?_
        refine T_istore dX10_changedCorners_93 (Nat.le_of_ble_eq_true rfl) ?_
        refine T_iinc dX10_changedCorners_95 rfl ⟨by omega, by omega⟩ ?_
        refine T_goto dX10_changedCorners_98 (t := 42) rfl ?_
        exact ih _ (by omega) j w a 1 (b + 1) rfl _ pr9 pf9 hi (by omega) (by omega) (Or.inl ⟨rfl, b, by omega, by omega⟩) kk101
set_option maxHeartbeats 4000000 in
set_option maxRecDepth 100000 in
theorem m_X10_changedCorners_26 {n0 n k : Nat} {g : Nat → zV} {h : zHp} {Q : Option zV → Nat → Nat → zHp → Prop} {m : Nat} {P : pT} {L : lT} {I O : tT} {V : Int × pT} {i : Int} (hP : pwf P) (hL : lwf L) (hI : iwf I) (hO : owf O) (hV : vwf V) (hB : n0 ≤ m) (hrf : rfAt h m P L I O V) (hQ : ∀  (h' : zHp), (rfAt h' m P L I O V) → (∀ q : Nat, (q < m ∨ m + 33 ≤ q) → h' q = h q) → Q (some (.inl (s_chg P i))) n k h') : ∀ (d : Nat) (j : Nat) (w : Nat) (a : Nat) (L4 : Option zV) (L5 : Option zV), (pB P j).2.1 - a = d → ∀ h1 : zHp, (rfF 1 h1 m P L I O V) → (∀ q : Nat, (q < m ∨ m + 33 ≤ q) → h1 q = h q) → (i = (j : Int) ∧ j + 1 < pN P) → (a ≤ (pB P j).2.1) → (w = zcnt (zchf P j) a) → ZT n0 g mX10_changedCorners 26 [some (.inr (some m)), some (.inl (j : Int)), some (.inl (w : Int)), some (.inl (a : Int)), L4, L5] [] n k h1 Q := by
  intro d
  induction d using Nat.strongRecOn with | _ d ih => ?_
  intro j w a L4 L5 hd0 h1 pr9 pf9 hi ha hw
  subst hd0
  obtain ⟨z, c, cn, en, ax, nu, sp, ss, hM, rp, rc, rk, rf, ry, ri, ro, rl, rv⟩ := id pr9
  have hpb := hP.bd
  have hs8 := hP.2.1
  obtain ⟨tp, bt, sz, ch, cc, cl, ftp, fbt, fsz, fch, fcc, fcl, fkn⟩ := id rf
  obtain ⟨-, rfl, krf⟩ := fkn.resolve_left (by decide)
  have hNi := pN_is hP
  have hN1 := hNi.1
  have hN23 := hNi.2.1
  obtain ⟨r0, r1, r2, r3, r4⟩ := krf j (by omega)
  obtain ⟨x0, x1, x2, x3, x4⟩ := krf (j + 1) (by omega)
  have dB := pB_facts hP j
  have dB2 := pB_facts hP (j + 1)
  have hwl := zcnt_le (zchf P j) a
  refine T_iload_n dX10_changedCorners_26 rfl ?_
  refine T_aload_n dX10_changedCorners_27 rfl ?_
  refine T_getfield dX10_changedCorners_28 zkf_11_63 hM rfl ?_
  refine T_iload_n dX10_changedCorners_31 rfl ?_
  refine T_ialoadN (m := j) dX10_changedCorners_32 fsz rfl (by omega) ?_
  refine T_icmp_ge dX10_changedCorners_33 (t := 120) rfl (fun c33 => ?_) (fun c33 => ?_)
  · refine T_iload_n dX10_changedCorners_120 rfl ?_
    refine T_iret dX10_changedCorners_121 rfl ?_
    obtain ⟨rfl, hj⟩ := hi
    have e : s_chg P (j : Int) = (w : Int) := by
      have q := pW_last hP (show j < pN P by omega)
      unfold s_chg; rw [if_pos (by omega), Int.toNat_natCast, if_neg (fun y => by have := q.mp y; omega), hw, show a = (pB P j).2.1 by omega]; rfl
    rw [e] at hQ
    exact hQ _ pr9.at pf9
  · refine T_iconst dX10_changedCorners_36 (by decide) ?_
    refine T_istore dX10_changedCorners_37 (Nat.le_of_ble_eq_true rfl) ?_
    refine T_iconst dX10_changedCorners_39 (by decide) ?_
    refine T_istore dX10_changedCorners_40 (Nat.le_of_ble_eq_true rfl) ?_
    refine m_X10_changedCorners_42 hP hL hI hO hV hB hrf _ j w a 0 0 rfl _ pr9 pf9 hi (by omega) (by omega) (Or.inr ⟨rfl, fun l hl => absurd hl (Nat.not_lt_zero l)⟩) (fun t101 b101 xt_101 => ?_)
    refine T_iload_n dX10_changedCorners_101 rfl ?_
    refine T_iload dX10_changedCorners_102 rfl ?_
    refine T_if_eq dX10_changedCorners_104 (t := 111) rfl (fun c104 => ?_) (fun c104 => ?_)
    · refine T_iconst dX10_changedCorners_111 (by decide) ?_
      refine T_iadd dX10_changedCorners_112 ⟨by omega, by omega⟩ ?_
      refine T_istore_n dX10_changedCorners_113 (Nat.le_of_ble_eq_true rfl) ?_
      refine T_iinc dX10_changedCorners_114 rfl ⟨by omega, by omega⟩ ?_
      refine T_goto dX10_changedCorners_117 (t := 26) rfl ?_
      exact ih _ (by omega) j (w + 1) (a + 1) _ _ rfl _ pr9 pf9 hi (by omega) (by rw [zcnt, (xt_101.resolve_left (fun x => by omega)).2, hw]; rfl) 
    · refine T_iconst dX10_changedCorners_107 (by decide) ?_
      refine T_goto dX10_changedCorners_108 (t := 112) rfl ?_
      refine T_iadd dX10_changedCorners_112 ⟨by omega, by omega⟩ ?_
      refine T_istore_n dX10_changedCorners_113 (Nat.le_of_ble_eq_true rfl) ?_
      refine T_iinc dX10_changedCorners_114 rfl ⟨by omega, by omega⟩ ?_
      refine T_goto dX10_changedCorners_117 (t := 26) rfl ?_
      exact ih _ (by omega) j (w + 0) (a + 1) _ _ rfl _ pr9 pf9 hi (by omega) (by rw [zcnt, (xt_101.resolve_right (fun x => by omega)).2, hw]; rfl) 
set_option maxHeartbeats 4000000 in
set_option maxRecDepth 100000 in
theorem m_X10_changedCorners {n0 n k : Nat} {g : Nat → zV} {h : zHp} {Q : Option zV → Nat → Nat → zHp → Prop} {m : Nat} {P : pT} {L : lT} {I O : tT} {V : Int × pT} {i : Int} (hP : pwf P) (hL : lwf L) (hI : iwf I) (hO : owf O) (hV : vwf V) (hB : n0 ≤ m) (hrf : rfAt h m P L I O V) (hQ : ∀  (h' : zHp), (rfAt h' m P L I O V) → (∀ q : Nat, (q < m ∨ m + 33 ≤ q) → h' q = h q) → Q (some (.inl (s_chg P i))) n k h') : ZT n0 g mX10_changedCorners 0 (zloc mX10_changedCorners [.inr (some m), .inl i]) [] n k h Q := by
  show ZT n0 g mX10_changedCorners 0 [some (.inr (some m)), some (.inl i), none, none, none, none] [] n k h Q
  obtain ⟨fk, z, c, cn, en, ax, nu, sp, ss, hM, rp, rc, rk, rf, ry, ri, ro, rl, rv⟩ := id hrf
  have hpb := hP.bd
  have hs8 := hP.2.1
  refine T_aload_n dX10_changedCorners_0 rfl ?_
  refine T_iload_n dX10_changedCorners_1 rfl ?_
  refine T_callV dX10_changedCorners_2 zkm_11_204 (Or.inl rfl) rfl hM ⟨Nat.le_of_ble_eq_true rfl, rfl⟩ rfl (Nat.le_of_ble_eq_true rfl) ?_
  refine m_X10_isCone  hP hL hI hO hV hB hrf (fun hh2 k2a pr_2 pf_2 => ?_) (fun hh2 k2a_2 pr_2_2 pf_2_2 => ?_)
  · obtain ⟨z, c, cn, en, ax, nu, sp, ss, hM, rp, rc, rk, rf, ry, ri, ro, rl, rv⟩ := id pr_2
    have hpb := hP.bd
    have hs8 := hP.2.1
    obtain ⟨tp, bt, sz, ch, cc, cl, ftp, fbt, fsz, fch, fcc, fcl, fkn⟩ := id rf
    obtain ⟨-, rfl, krf⟩ := fkn.resolve_left (by decide)
    have hNi := pN_is hP
    have hN1 := hNi.1
    have hN23 := hNi.2.1
    obtain ⟨j, rfl⟩ := Int.eq_ofNat_of_zero_le k2a.1
    have hj : j < pN P := by omega
    obtain ⟨r0, r1, r2, r3, r4⟩ := krf j hj
    have dB := pB_facts hP j
    have dW := pW_facts hP j
    refine T_if_ne dX10_changedCorners_5 (t := 10) rfl (fun _ => ?_) (fun hc => absurd hc (by decide))
    refine T_aload_n dX10_changedCorners_10 rfl ?_
    refine T_getfield dX10_changedCorners_11 zkf_11_60 hM rfl ?_
    refine T_iload_n dX10_changedCorners_14 rfl ?_
    refine T_ialoadN (m := j) dX10_changedCorners_15 fbt rfl (by omega) ?_
    refine T_if_ne dX10_changedCorners_16 (t := 22) rfl (fun c16 => ?_) (fun c16 => ?_)
    · refine T_iconst dX10_changedCorners_22 (by decide) ?_
      refine T_istore_n dX10_changedCorners_23 (Nat.le_of_ble_eq_true rfl) ?_
      refine T_iconst dX10_changedCorners_24 (by decide) ?_
      refine T_istore_n dX10_changedCorners_25 (Nat.le_of_ble_eq_true rfl) ?_
      exact m_X10_changedCorners_26 hP hL hI hO hV hB hrf hQ _ j 0 0 _ _ rfl _ pr_2 pf_2 ⟨rfl, by
            have q := pW_last hP hj
            have : j + 1 ≠ pN P := fun y => by have := q.mpr y; omega
            omega⟩ (by omega) rfl 
    · refine T_bipush dX10_changedCorners_19 (by decide) ?_
      refine T_iret dX10_changedCorners_21 rfl ?_
      have e : s_chg P (j : Int) = -5 := by unfold s_chg; rw [if_pos (by omega), Int.toNat_natCast, if_pos (by omega)]
      rw [e] at hQ
      exact hQ _ pr_2.at pf_2
  · obtain ⟨z, c, cn, en, ax, nu, sp, ss, hM, rp, rc, rk, rf, ry, ri, ro, rl, rv⟩ := id pr_2_2
    have hpb := hP.bd
    have hs8 := hP.2.1
    obtain ⟨tp, bt, sz, ch, cc, cl, ftp, fbt, fsz, fch, fcc, fcl, fkn⟩ := id rf
    obtain ⟨-, rfl, krf⟩ := fkn.resolve_left (by decide)
    have hNi := pN_is hP
    have hN1 := hNi.1
    have hN23 := hNi.2.1
    refine T_if_ne dX10_changedCorners_5 (t := 10) rfl (fun hc => absurd hc (by decide)) (fun _ => ?_)
    refine T_iconst dX10_changedCorners_8 (by decide) ?_
    refine T_iret dX10_changedCorners_9 rfl ?_
    have e : s_chg P i = -1 := if_neg (by exact k2a_2)
    rw [e] at hQ
    exact hQ _ pr_2_2.at pf_2_2
