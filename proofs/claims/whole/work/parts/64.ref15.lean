/-! ===== the reference: cones that contain a weight (2): printed by wip/whole/gen/s_ref15.py ===== -/
theorem zfiw_lt {P : pT} {u v : Int} (hP : pwf P) : zfiw P u v < pN P := by
  have hN := pN_is hP
  refine Classical.byContradiction fun hn => ?_
  have h9 := zfst_all (v := fun q => if zabv (pW P) u v q then 0 else 1) hn (pN P - 1) (by have := hN.1; omega)
  have h8 : ¬ zabv (pW P) u v (pN P - 1) := fun q => q.1 hN.2.2.2
  rw [if_neg h8] at h9
  exact absurd h9 (by decide)
theorem zfiw_ab {P : pT} {u v : Int} {i : Nat} (h : i < zfiw P u v) : zabv (pW P) u v i := by
  have h9 : (if zabv (pW P) u v i then (0 : Int) else 1) = 0 := zfst_below (fun q => if zabv (pW P) u v q then 0 else 1) _ i h
  refine Classical.byContradiction fun hn => ?_
  rw [if_neg hn] at h9
  exact absurd h9 (by decide)
theorem zfiw_no {P : pT} {u v : Int} (hP : pwf P) : ¬ zabv (pW P) u v (zfiw P u v) := fun q => by
  have h9 : (if zabv (pW P) u v (zfiw P u v) then (0 : Int) else 1) ≠ 0 := zfst_ne (fun q => if zabv (pW P) u v q then 0 else 1) _ (zfiw_lt hP)
  exact h9 (if_pos q)
theorem zct_no {P : pT} {u v : Int} {i : Nat} (h : i < zfiw P u v) : ¬ zct P u v i := fun q => by
  have := zfiw_ab h
  obtain ⟨a, b⟩ := this
  rcases q.2 with x | x
  · exact a (by omega)
  · omega
theorem zpos_mul {a b : Int} (h : 0 < a) (h2 : 0 < b) : 0 < a * b := Int.mul_pos h h2
theorem zno_u {P : pT} {u v : Int} (hw : sWt u v) {k : Nat} (h : ¬ zabv (pW P) u v k) (hb : (pW P k).2 ≠ 0) : 0 < u ∧ v * (((pW P k).2 : Nat) : Int) ≤ (((pW P k).1 : Nat) : Int) * u := by
  have h2 : v * (((pW P k).2 : Nat) : Int) ≤ (((pW P k).1 : Nat) : Int) * u := Int.not_lt.mp (fun q => h ⟨hb, q⟩)
  refine ⟨?_, h2⟩
  obtain ⟨⟨u0, _, v0, _⟩, h3⟩ := hw
  by_cases e : u = 0
  · subst e
    have := zpos_mul (show 0 < v by omega) (show (0 : Int) < (((pW P k).2 : Nat) : Int) by omega)
    rw [Int.mul_zero] at h2
    omega
  · omega
theorem zct_fi {P : pT} {u v : Int} (hP : pwf P) (hw : sWt u v) : zct P u v (zfiw P u v) := by
  refine ⟨?_, ?_⟩
  · by_cases e : zfiw P u v = 0
    · exact Or.inl e
    · have := (zfiw_ab (P := P) (u := u) (v := v) (i := zfiw P u v - 1) (by omega)).2
      exact Or.inr (Or.inr (by omega))
  · by_cases e : (pW P (zfiw P u v)).2 = 0
    · exact Or.inl (by omega)
    · exact Or.inr (zno_u hw (zfiw_no hP) e)
theorem zslope {v u t b t' b' : Int} (hb : 0 < b) (hb' : 0 < b') (hu : 0 < u) (h : v * b ≤ t * u) (hi : t * b' < t' * b) : v * b' < t' * u := by
  have h1 := Int.mul_le_mul_of_nonneg_right h (Int.le_of_lt hb')
  have h2 := Int.mul_lt_mul_of_pos_right hi hu
  have e1 : v * b' * b = v * b * b' := by grind
  have e2 : t * u * b' = t * b' * u := by grind
  have e3 : t' * b * u = t' * u * b := by grind
  have h3 : v * b' * b < t' * u * b := by rw [e1, ← e3]; rw [e2] at h1; exact Int.lt_of_le_of_lt h1 h2
  exact Int.lt_of_mul_lt_mul_right h3 (Int.le_of_lt hb)
theorem zsl_k {P : pT} {u v : Int} (hP : pwf P) (hw : sWt u v) : ∀ i, zfiw P u v + i + 1 < pN P → 0 < u ∧ v * (((pW P (zfiw P u v + i)).2 : Nat) : Int) ≤ (((pW P (zfiw P u v + i)).1 : Nat) : Int) * u ∧ (0 < i → v * (((pW P (zfiw P u v + i)).2 : Nat) : Int) < (((pW P (zfiw P u v + i)).1 : Nat) : Int) * u)
  | 0, h => by
    have hN := (pN_is hP).2.2.1 (zfiw P u v) h
    have h9 : 0 < (pW P (zfiw P u v)).2 := hN
    have := zno_u hw (zfiw_no hP) (by omega)
    exact ⟨this.1, this.2, fun q => absurd q (Nat.lt_irrefl 0)⟩
  | i + 1, h => by
    obtain ⟨a, b, _⟩ := zsl_k hP hw i (by omega)
    have h1 : 0 < (pW P (zfiw P u v + i)).2 := (pN_is hP).2.2.1 (zfiw P u v + i) (by omega)
    have h2 : 0 < (pW P (zfiw P u v + i + 1)).2 := (pN_is hP).2.2.1 (zfiw P u v + i + 1) h
    have h3 : (pW P (zfiw P u v + i)).1 * (pW P (zfiw P u v + i + 1)).2 < (pW P (zfiw P u v + i + 1)).1 * (pW P (zfiw P u v + i)).2 := zfl_inc hP.1 hP.2.1 (zfiw P u v + i) h2
    have h4 := zslope (t' := (((pW P (zfiw P u v + i + 1)).1 : Nat) : Int)) (b' := (((pW P (zfiw P u v + i + 1)).2 : Nat) : Int)) (by omega) (by omega) a b (by exact_mod_cast h3)
    exact ⟨a, Int.le_of_lt h4, fun _ => h4⟩
theorem zct_iff {P : pT} {u v : Int} (hP : pwf P) (hw : sWt u v) {i : Nat} (hi : i < pN P) : zct P u v i ↔ i = zfiw P u v ∨ (i = zfiw P u v + 1 ∧ (pW P (zfiw P u v)).2 ≠ 0 ∧ v * (((pW P (zfiw P u v)).2 : Nat) : Int) = (((pW P (zfiw P u v)).1 : Nat) : Int) * u) := by
  constructor
  · intro h
    by_cases c : i < zfiw P u v
    · exact absurd h (zct_no c)
    · by_cases c2 : i = zfiw P u v
      · exact Or.inl c2
      · obtain ⟨e, he⟩ : ∃ e, i = zfiw P u v + e + 1 := ⟨i - zfiw P u v - 1, by omega⟩
        subst he
        obtain ⟨a, b, d⟩ := zsl_k hP hw e (by omega)
        rcases h.1 with x | x | x
        · omega
        · omega
        · rw [Nat.add_sub_cancel] at x
          by_cases z : e = 0
          · subst z
            have h1 : 0 < (pW P (zfiw P u v)).2 := (pN_is hP).2.2.1 (zfiw P u v) (by omega)
            rw [Nat.add_zero] at *
            exact Or.inr ⟨rfl, by omega, by omega⟩
          · have := d (by omega)
            omega
  · rintro (h | ⟨h, h1, h2⟩)
    · rw [h]; exact zct_fi hP hw
    · subst h
      have h3 := (zno_u hw (zfiw_no hP) h1).1
      refine ⟨Or.inr (Or.inr (by rw [Nat.add_sub_cancel]; omega)), ?_⟩
      by_cases e : (pW P (zfiw P u v + 1)).2 = 0
      · exact Or.inl (by omega)
      · refine Or.inr ⟨h3, ?_⟩
        have h4 : (pW P (zfiw P u v)).1 * (pW P (zfiw P u v + 1)).2 < (pW P (zfiw P u v + 1)).1 * (pW P (zfiw P u v)).2 := zfl_inc hP.1 hP.2.1 (zfiw P u v) (by show 0 < (pW P (zfiw P u v + 1)).2; omega)
        exact Int.le_of_lt (zslope (by omega) (by omega) h3 (Int.le_of_eq h2) (by exact_mod_cast h4))
set_option maxHeartbeats 4000000 in
set_option maxRecDepth 100000 in
theorem m_X10_firstConeContaining_17 {n0 n k : Nat} {g : Nat → zV} {h : zHp} {Q : Option zV → Nat → Nat → zHp → Prop} {m : Nat} {P : pT} {L : lT} {I O : tT} {V : Int × pT} {u v : Int} (hP : pwf P) (hL : lwf L) (hI : iwf I) (hO : owf O) (hV : vwf V) (hB : n0 ≤ m) (hrf : rfAt h m P L I O V) (hQ : ∀  (h' : zHp), (rfAt h' m P L I O V) → (∀ q : Nat, (q < m ∨ m + 33 ≤ q) → h' q = h q) → Q (some (.inl (s_fi P u v))) n k h') : ∀ (d : Nat) (j : Nat), zfiw P u v - j = d → ∀ h1 : zHp, (rfF 1 h1 m P L I O V) → (∀ q : Nat, (q < m ∨ m + 33 ≤ q) → h1 q = h q) → (sWt u v) → (j ≤ zfiw P u v) → ZT n0 g mX10_firstConeContaining 17 [some (.inr (some m)), some (.inl u), some (.inl v), some (.inl (j : Int))] [] n k h1 Q := by
  intro d
  induction d using Nat.strongRecOn with | _ d ih => ?_
  intro j hd0 h1 pr9 pf9 hw hj
  subst hd0
  obtain ⟨z, c, cn, en, ax, nu, sp, ss, hM, rp, rc, rk, rf, ry, ri, ro, rl, rv⟩ := id pr9
  have hpb := hP.bd
  have hs8 := hP.2.1
  obtain ⟨tp, bt, sz, ch, cc, cl, ftp, fbt, fsz, fch, fcc, fcl, fkn⟩ := id rf
  obtain ⟨-, rfl, krf⟩ := fkn.resolve_left (by decide)
  have hNi := pN_is hP
  have hN1 := hNi.1
  have hN23 := hNi.2.1
  have hlt := zfiw_lt (u := u) (v := v) hP
  
  refine T_aload_n dX10_firstConeContaining_17 rfl ?_
  refine T_iload_n dX10_firstConeContaining_18 rfl ?_
  refine T_iload_n dX10_firstConeContaining_19 rfl ?_
  refine T_iload_n dX10_firstConeContaining_20 rfl ?_
  refine T_callV dX10_firstConeContaining_21 zkm_11_207 (Or.inl rfl) rfl hM ⟨Nat.le_of_ble_eq_true rfl, rfl⟩ rfl (Nat.le_of_ble_eq_true rfl) ?_
  refine m_X10_contains  hP hL hI hO hV hB pr9 (by omega) hw (fun k21a => ?_) (fun k21a_2 => ?_)
  · refine T_if_ne dX10_firstConeContaining_24 (t := 33) rfl (fun _ => ?_) (fun hc => absurd hc (by decide))
    refine T_iload_n dX10_firstConeContaining_33 rfl ?_
    refine T_iret dX10_firstConeContaining_34 rfl ?_
    have ej : j = zfiw P u v := by
      by_cases e9 : j < zfiw P u v
      · exact absurd k21a (zct_no e9)
      · omega
    have e : s_fi P u v = (j : Int) := by unfold s_fi; rw [if_pos hw, ej]
    rw [e] at hQ
    exact hQ _ pr9.at pf9
  · refine T_if_ne dX10_firstConeContaining_24 (t := 33) rfl (fun hc => absurd hc (by decide)) (fun _ => ?_)
    refine T_iinc dX10_firstConeContaining_27 rfl ⟨by omega, by omega⟩ ?_
    refine T_goto dX10_firstConeContaining_30 (t := 17) rfl ?_
    exact ih _ (by
          have : j ≠ zfiw P u v := fun e9 => by rw [e9] at k21a_2; exact k21a_2 (zct_fi hP hw)
          omega) (j + 1) rfl _ pr9 pf9 hw (by
          by_cases e9 : j = zfiw P u v
          · rw [e9] at k21a_2; exact absurd (zct_fi hP hw) k21a_2
          · omega) 
set_option maxHeartbeats 4000000 in
set_option maxRecDepth 100000 in
theorem m_X10_firstConeContaining {n0 n k : Nat} {g : Nat → zV} {h : zHp} {Q : Option zV → Nat → Nat → zHp → Prop} {m : Nat} {P : pT} {L : lT} {I O : tT} {V : Int × pT} {u v : Int} (hP : pwf P) (hL : lwf L) (hI : iwf I) (hO : owf O) (hV : vwf V) (hB : n0 ≤ m) (hrf : rfAt h m P L I O V) (hQ : ∀  (h' : zHp), (rfAt h' m P L I O V) → (∀ q : Nat, (q < m ∨ m + 33 ≤ q) → h' q = h q) → Q (some (.inl (s_fi P u v))) n k h') : ZT n0 g mX10_firstConeContaining 0 (zloc mX10_firstConeContaining [.inr (some m), .inl u, .inl v]) [] n k h Q := by
  show ZT n0 g mX10_firstConeContaining 0 [some (.inr (some m)), some (.inl u), some (.inl v), none] [] n k h Q
  obtain ⟨fk, z, c, cn, en, ax, nu, sp, ss, hM, rp, rc, rk, rf, ry, ri, ro, rl, rv⟩ := id hrf
  have hpb := hP.bd
  have hs8 := hP.2.1
  refine T_iload_n dX10_firstConeContaining_0 rfl ?_
  refine T_iload_n dX10_firstConeContaining_1 rfl ?_
  refine T_callS dX10_firstConeContaining_2 zkm_11_179 ⟨Nat.le_of_ble_eq_true rfl, Nat.le_of_ble_eq_true rfl, rfl⟩ rfl (Nat.le_of_ble_eq_true rfl) ?_
  refine m_X10_isWeight   (fun k2a => ?_) (fun k2a_2 => ?_)
  · refine T_if_ne dX10_firstConeContaining_5 (t := 11) rfl (fun _ => ?_) (fun hc => absurd hc (by decide))
    refine T_aload_n dX10_firstConeContaining_11 rfl ?_
    refine T_callV dX10_firstConeContaining_12 zkm_11_201 (Or.inl rfl) rfl hM ⟨Nat.le_of_ble_eq_true rfl, rfl⟩ rfl (Nat.le_of_ble_eq_true rfl) ?_
    refine r_fan  hP hL hI hO hV hB hrf (fun hh12 pr_12 pf_12 => ?_)
    obtain ⟨z, c, cn, en, ax, nu, sp, ss, hM, rp, rc, rk, rf, ry, ri, ro, rl, rv⟩ := id pr_12
    have hpb := hP.bd
    have hs8 := hP.2.1
    obtain ⟨tp, bt, sz, ch, cc, cl, ftp, fbt, fsz, fch, fcc, fcl, fkn⟩ := id rf
    obtain ⟨-, rfl, krf⟩ := fkn.resolve_left (by decide)
    have hNi := pN_is hP
    have hN1 := hNi.1
    have hN23 := hNi.2.1
    refine T_iconst dX10_firstConeContaining_15 (by decide) ?_
    refine T_istore_n dX10_firstConeContaining_16 (Nat.le_of_ble_eq_true rfl) ?_
    exact m_X10_firstConeContaining_17 hP hL hI hO hV hB hrf hQ _ 0 rfl _ pr_12 pf_12 k2a (by omega) 
  · refine T_if_ne dX10_firstConeContaining_5 (t := 11) rfl (fun hc => absurd hc (by decide)) (fun _ => ?_)
    refine T_bipush dX10_firstConeContaining_8 (by decide) ?_
    refine T_iret dX10_firstConeContaining_10 rfl ?_
    have e : s_fi P u v = -2 := if_neg (by exact k2a_2)
    rw [e] at hQ
    exact hQ h hrf (fun _ _ => rfl)
set_option maxHeartbeats 4000000 in
set_option maxRecDepth 100000 in
theorem m_X10_conesContaining_20 {n0 n k : Nat} {g : Nat → zV} {h : zHp} {Q : Option zV → Nat → Nat → zHp → Prop} {m : Nat} {P : pT} {L : lT} {I O : tT} {V : Int × pT} {u v : Int} (hP : pwf P) (hL : lwf L) (hI : iwf I) (hO : owf O) (hV : vwf V) (hB : n0 ≤ m) (hrf : rfAt h m P L I O V) (hQ : ∀  (h' : zHp), (rfAt h' m P L I O V) → (∀ q : Nat, (q < m ∨ m + 33 ≤ q) → h' q = h q) → Q (some (.inl (s_mn P u v))) n k h') : ∀ (d : Nat) (j : Nat) (w : Nat), pN P - j = d → ∀ h1 : zHp, (rfF 1 h1 m P L I O V) → (∀ q : Nat, (q < m ∨ m + 33 ≤ q) → h1 q = h q) → (sWt u v) → (j ≤ pN P) → (w = (if zfiw P u v < j then 1 else 0) + (if ((pW P (zfiw P u v)).2 ≠ 0 ∧ v * (((pW P (zfiw P u v)).2 : Nat) : Int) = (((pW P (zfiw P u v)).1 : Nat) : Int) * u) ∧ zfiw P u v + 1 < j then 1 else 0)) → ZT n0 g mX10_conesContaining 20 [some (.inr (some m)), some (.inl u), some (.inl v), some (.inl (w : Int)), some (.inl (j : Int))] [] n k h1 Q := by
  intro d
  induction d using Nat.strongRecOn with | _ d ih => ?_
  intro j w hd0 h1 pr9 pf9 hw hj hc
  subst hd0
  obtain ⟨z, c, cn, en, ax, nu, sp, ss, hM, rp, rc, rk, rf, ry, ri, ro, rl, rv⟩ := id pr9
  have hpb := hP.bd
  have hs8 := hP.2.1
  obtain ⟨tp, bt, sz, ch, cc, cl, ftp, fbt, fsz, fch, fcc, fcl, fkn⟩ := id rf
  obtain ⟨-, rfl, krf⟩ := fkn.resolve_left (by decide)
  have hNi := pN_is hP
  have hN1 := hNi.1
  have hN23 := hNi.2.1
  have hlt := zfiw_lt (u := u) (v := v) hP
  have hw2 : w ≤ 2 := by rw [hc]; split <;> split <;> omega
  refine T_iload dX10_conesContaining_20 rfl ?_
  refine T_aload_n dX10_conesContaining_22 rfl ?_
  refine T_getfield dX10_conesContaining_23 zkf_11_195 hM rfl ?_
  refine T_icmp_ge dX10_conesContaining_26 (t := 54) rfl (fun c26 => ?_) (fun c26 => ?_)
  · refine T_iload_n dX10_conesContaining_54 rfl ?_
    refine T_iret dX10_conesContaining_55 rfl ?_
    have e : s_mn P u v = (w : Int) := by
      unfold s_mn
      rw [if_pos hw, hc]
      by_cases y : ((pW P (zfiw P u v)).2 ≠ 0 ∧ v * (((pW P (zfiw P u v)).2 : Nat) : Int) = (((pW P (zfiw P u v)).1 : Nat) : Int) * u)
      · have z : zfiw P u v + 1 ≠ pN P := fun q => y.1 ((pW_last hP hlt).mpr q)
        rw [if_pos y, if_pos (show zfiw P u v < j by omega), if_pos ⟨y, by omega⟩]; rfl
      · rw [if_neg y, if_pos (show zfiw P u v < j by omega), if_neg (fun q => y q.1)]; rfl
    rw [e] at hQ
    exact hQ _ pr9.at pf9
  · refine T_iload_n dX10_conesContaining_29 rfl ?_
    refine T_aload_n dX10_conesContaining_30 rfl ?_
    refine T_iload dX10_conesContaining_31 rfl ?_
    refine T_iload_n dX10_conesContaining_33 rfl ?_
    refine T_iload_n dX10_conesContaining_34 rfl ?_
    refine T_callV dX10_conesContaining_35 zkm_11_207 (Or.inl rfl) rfl hM ⟨Nat.le_of_ble_eq_true rfl, rfl⟩ rfl (Nat.le_of_ble_eq_true rfl) ?_
    refine m_X10_contains  hP hL hI hO hV hB pr9 (by omega) hw (fun k35a => ?_) (fun k35a_2 => ?_)
    · refine T_if_eq dX10_conesContaining_38 (t := 45) rfl (fun hc => absurd hc (by decide)) (fun _ => ?_)
      refine T_iconst dX10_conesContaining_41 (by decide) ?_
      refine T_goto dX10_conesContaining_42 (t := 46) rfl ?_
      refine T_iadd dX10_conesContaining_46 ⟨by omega, by omega⟩ ?_
      refine T_istore_n dX10_conesContaining_47 (Nat.le_of_ble_eq_true rfl) ?_
      refine T_iinc dX10_conesContaining_48 rfl ⟨by omega, by omega⟩ ?_
      refine T_goto dX10_conesContaining_51 (t := 20) rfl ?_
      exact ih _ (by omega) (j + 1) (w + 1) rfl _ pr9 pf9 hw (by omega) (by
            rcases (zct_iff hP hw (by omega)).mp k35a with x | ⟨x, y⟩
            · rw [hc, if_neg (show ¬ zfiw P u v < j by omega), if_neg (fun q => by have := q.2; omega), if_pos (show zfiw P u v < j + 1 by omega), if_neg (fun q => by have := q.2; omega)]
            · rw [hc, if_pos (show zfiw P u v < j by omega), if_neg (fun q => by have := q.2; omega), if_pos (show zfiw P u v < j + 1 by omega), if_pos ⟨y, by omega⟩]) 
    · refine T_if_eq dX10_conesContaining_38 (t := 45) rfl (fun _ => ?_) (fun hc => absurd hc (by decide))
      refine T_iconst dX10_conesContaining_45 (by decide) ?_
      refine T_iadd dX10_conesContaining_46 ⟨by omega, by omega⟩ ?_
      refine T_istore_n dX10_conesContaining_47 (Nat.le_of_ble_eq_true rfl) ?_
      refine T_iinc dX10_conesContaining_48 rfl ⟨by omega, by omega⟩ ?_
      refine T_goto dX10_conesContaining_51 (t := 20) rfl ?_
      exact ih _ (by omega) (j + 1) (w + 0) rfl _ pr9 pf9 hw (by omega) (by
            have x := fun q => k35a_2 ((zct_iff hP hw (by omega)).mpr q)
            have x1 : j ≠ zfiw P u v := fun q => x (Or.inl q)
            rw [hc]
            by_cases y : ((pW P (zfiw P u v)).2 ≠ 0 ∧ v * (((pW P (zfiw P u v)).2 : Nat) : Int) = (((pW P (zfiw P u v)).1 : Nat) : Int) * u)
            · have x2 : j ≠ zfiw P u v + 1 := fun q => x (Or.inr ⟨q, y⟩)
              by_cases z1 : zfiw P u v < j
              · rw [if_pos z1, if_pos ⟨y, by omega⟩, if_pos (show zfiw P u v < j + 1 by omega), if_pos ⟨y, by omega⟩]
              · rw [if_neg z1, if_neg (fun q => by have := q.2; omega), if_neg (show ¬ zfiw P u v < j + 1 by omega), if_neg (fun q => by have := q.2; omega)]
            · by_cases z1 : zfiw P u v < j
              · rw [if_pos z1, if_neg (fun q => y q.1), if_pos (show zfiw P u v < j + 1 by omega), if_neg (fun q => y q.1)]
              · rw [if_neg z1, if_neg (fun q => y q.1), if_neg (show ¬ zfiw P u v < j + 1 by omega), if_neg (fun q => y q.1)]) 
set_option maxHeartbeats 4000000 in
set_option maxRecDepth 100000 in
theorem m_X10_conesContaining {n0 n k : Nat} {g : Nat → zV} {h : zHp} {Q : Option zV → Nat → Nat → zHp → Prop} {m : Nat} {P : pT} {L : lT} {I O : tT} {V : Int × pT} {u v : Int} (hP : pwf P) (hL : lwf L) (hI : iwf I) (hO : owf O) (hV : vwf V) (hB : n0 ≤ m) (hrf : rfAt h m P L I O V) (hQ : ∀  (h' : zHp), (rfAt h' m P L I O V) → (∀ q : Nat, (q < m ∨ m + 33 ≤ q) → h' q = h q) → Q (some (.inl (s_mn P u v))) n k h') : ZT n0 g mX10_conesContaining 0 (zloc mX10_conesContaining [.inr (some m), .inl u, .inl v]) [] n k h Q := by
  show ZT n0 g mX10_conesContaining 0 [some (.inr (some m)), some (.inl u), some (.inl v), none, none] [] n k h Q
  obtain ⟨fk, z, c, cn, en, ax, nu, sp, ss, hM, rp, rc, rk, rf, ry, ri, ro, rl, rv⟩ := id hrf
  have hpb := hP.bd
  have hs8 := hP.2.1
  refine T_iload_n dX10_conesContaining_0 rfl ?_
  refine T_iload_n dX10_conesContaining_1 rfl ?_
  refine T_callS dX10_conesContaining_2 zkm_11_179 ⟨Nat.le_of_ble_eq_true rfl, Nat.le_of_ble_eq_true rfl, rfl⟩ rfl (Nat.le_of_ble_eq_true rfl) ?_
  refine m_X10_isWeight   (fun k2a => ?_) (fun k2a_2 => ?_)
  · refine T_if_ne dX10_conesContaining_5 (t := 11) rfl (fun _ => ?_) (fun hc => absurd hc (by decide))
    refine T_aload_n dX10_conesContaining_11 rfl ?_
    refine T_callV dX10_conesContaining_12 zkm_11_201 (Or.inl rfl) rfl hM ⟨Nat.le_of_ble_eq_true rfl, rfl⟩ rfl (Nat.le_of_ble_eq_true rfl) ?_
    refine r_fan  hP hL hI hO hV hB hrf (fun hh12 pr_12 pf_12 => ?_)
    obtain ⟨z, c, cn, en, ax, nu, sp, ss, hM, rp, rc, rk, rf, ry, ri, ro, rl, rv⟩ := id pr_12
    have hpb := hP.bd
    have hs8 := hP.2.1
    obtain ⟨tp, bt, sz, ch, cc, cl, ftp, fbt, fsz, fch, fcc, fcl, fkn⟩ := id rf
    obtain ⟨-, rfl, krf⟩ := fkn.resolve_left (by decide)
    have hNi := pN_is hP
    have hN1 := hNi.1
    have hN23 := hNi.2.1
    refine T_iconst dX10_conesContaining_15 (by decide) ?_
    refine T_istore_n dX10_conesContaining_16 (Nat.le_of_ble_eq_true rfl) ?_
    refine T_iconst dX10_conesContaining_17 (by decide) ?_
    refine T_istore dX10_conesContaining_18 (Nat.le_of_ble_eq_true rfl) ?_
    exact m_X10_conesContaining_20 hP hL hI hO hV hB hrf hQ _ 0 0 rfl _ pr_12 pf_12 k2a (by omega) (by rw [if_neg (Nat.not_lt_zero _), if_neg (fun q => absurd q.2 (Nat.not_lt_zero _))]) 
  · refine T_if_ne dX10_conesContaining_5 (t := 11) rfl (fun hc => absurd hc (by decide)) (fun _ => ?_)
    refine T_bipush dX10_conesContaining_8 (by decide) ?_
    refine T_iret dX10_conesContaining_10 rfl ?_
    have e : s_mn P u v = -2 := if_neg (by exact k2a_2)
    rw [e] at hQ
    exact hQ h hrf (fun _ _ => rfl)
