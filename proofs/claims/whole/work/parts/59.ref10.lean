/-! ===== the reference: slots: printed by wip/whole/gen/s_ref10.py ===== -/
theorem zami_is {L : lT} {k w : Nat} (h : zami L k w = 0) : L.1 k = w := by
  unfold zami at h
  by_cases a : L.1 k = 0
  · rw [if_pos a] at h; omega
  · rw [if_neg a] at h
    by_cases b : L.1 k = w
    · exact b
    · rw [if_neg b] at h; omega
theorem zami_neg (L : lT) (k w : Nat) : zami L k w ≤ 0 := by
  unfold zami
  split
  · omega
  · split <;> omega
theorem s_el_pos {L : lT} {k i : Int} (h : ¬ s_el L k i < 0) : zami L k.toNat 1 = 0 ∧ 0 ≤ i ∧ i < (L.2.1 k.toNat : Int) := by
  unfold s_el at h
  by_cases a : sSl k
  · rw [if_pos a] at h
    by_cases b : zami L k.toNat 1 = 0
    · rw [if_pos b] at h
      by_cases c : 0 ≤ i ∧ i < (L.2.1 k.toNat : Int)
      · exact ⟨b, c⟩
      · rw [if_neg c] at h; omega
    · rw [if_neg b] at h
      have := zami_neg L k.toNat 1
      omega
  · rw [if_neg a] at h; omega
theorem s_se_neg {L : lT} {k i v : Int} (hL : lwf L) (hk : sSl k) (hv : 0 ≤ v ∧ v ≤ 9999) (h : s_el L k i < 0) : s_se L k i v = (s_el L k i, L) := by
  unfold s_se
  unfold s_el at *
  rw [if_pos hk] at h
  rw [if_pos hk, if_pos hk, if_pos hv]
  by_cases b : zami L k.toNat 1 = 0
  · rw [if_pos b] at h
    rw [if_pos b, if_pos b]
    by_cases c : 0 ≤ i ∧ i < (L.2.1 k.toNat : Int)
    · rw [if_pos c] at h
      have h4 := (hL k.toNat (by have := hk.1; have := hk.2; omega)).2.1 (zami_is b)
      have := h4.2 i.toNat (by omega)
      omega
    · rw [if_neg c, if_neg c]
  · rw [if_neg b, if_neg b]
set_option maxHeartbeats 4000000 in
set_option maxRecDepth 100000 in
theorem m_X10_isSlot {n0 n k : Nat} {g : Nat → zV} {h : zHp} {Q : Option zV → Nat → Nat → zHp → Prop} {v : Int}  (hT : (sSl v) → Q (some (.inl 1)) n k h) (hF : (¬ sSl v) → Q (some (.inl 0)) n k h) : ZT n0 g mX10_isSlot 0 (zloc mX10_isSlot [.inl v]) [] n k h Q := by
  show ZT n0 g mX10_isSlot 0 [some (.inl v)] [] n k h Q
  refine T_iload_n dX10_isSlot_0 rfl ?_
  refine T_iconst dX10_isSlot_1 (by decide) ?_
  refine T_iconst dX10_isSlot_2 (by decide) ?_
  refine T_callS dX10_isSlot_3 zkm_11_114 ⟨Nat.le_of_ble_eq_true rfl, Nat.le_of_ble_eq_true rfl, rfl⟩ rfl (Nat.le_of_ble_eq_true rfl) ?_
  refine m_X10_isIn   (fun k3a => ?_) (fun k3a_2 => ?_)
  · refine T_iret dX10_isSlot_6 rfl ?_
    exact hT ⟨by omega, by omega⟩
  · refine T_iret dX10_isSlot_6 rfl ?_
    exact hF (fun q => k3a_2 ⟨by omega, by omega⟩)
set_option maxHeartbeats 4000000 in
set_option maxRecDepth 100000 in
theorem m_X10_amiss {n0 n k : Nat} {g : Nat → zV} {h : zHp} {Q : Option zV → Nat → Nat → zHp → Prop} {m : Nat} {P : pT} {L : lT} {I O : tT} {V : Int × pT} {j w : Nat} (hP : pwf P) (hL : lwf L) (hI : iwf I) (hO : owf O) (hV : vwf V) (hB : n0 ≤ m) (hrf : rfAt h m P L I O V) (hj : j < 4) (hQ : Q (some (.inl (zami L j w))) n k h) : ZT n0 g mX10_amiss 0 (zloc mX10_amiss [.inr (some m), .inl (j : Int), .inl (w : Int)]) [] n k h Q := by
  show ZT n0 g mX10_amiss 0 [some (.inr (some m)), some (.inl (j : Int)), some (.inl (w : Int))] [] n k h Q
  obtain ⟨fk, z, c, cn, en, ax, nu, sp, ss, hM, rp, rc, rk, rf, ry, ri, ro, rl, rv⟩ := id hrf
  have hpb := hP.bd
  have hs8 := hP.2.1
  obtain ⟨ki, le, el, sto, l0, l1, l2, l3, l4⟩ := id rl
  have lj := (l4 j hj).1
  refine T_aload_n dX10_amiss_0 rfl ?_
  refine T_getfield dX10_amiss_1 zkf_11_90 hM rfl ?_
  refine T_iload_n dX10_amiss_4 rfl ?_
  refine T_ialoadN (m := j) dX10_amiss_5 l0 rfl (by omega) ?_
  refine T_if_ne dX10_amiss_6 (t := 14) rfl (fun c6 => ?_) (fun c6 => ?_)
  · refine T_aload_n dX10_amiss_14 rfl ?_
    refine T_getfield dX10_amiss_15 zkf_11_90 hM rfl ?_
    refine T_iload_n dX10_amiss_18 rfl ?_
    refine T_ialoadN (m := j) dX10_amiss_19 l0 rfl (by omega) ?_
    refine T_iload_n dX10_amiss_20 rfl ?_
    refine T_icmp_ne dX10_amiss_21 (t := 28) rfl (fun c21 => ?_) (fun c21 => ?_)
    · refine T_bipush dX10_amiss_28 (by decide) ?_
      refine T_iret dX10_amiss_30 rfl ?_
      have hz : zami L j w = -7 := by unfold zami; rw [if_neg (by omega), if_neg (by omega)]
      rw [hz] at hQ
      exact hQ
    · refine T_iconst dX10_amiss_24 (by decide) ?_
      refine T_goto dX10_amiss_25 (t := 30) rfl ?_
      refine T_iret dX10_amiss_30 rfl ?_
      have hz : zami L j w = 0 := by unfold zami; rw [if_neg (by omega), if_pos (by omega)]
      rw [hz] at hQ
      exact hQ
  · refine T_bipush dX10_amiss_9 (by decide) ?_
    refine T_goto dX10_amiss_11 (t := 30) rfl ?_
    refine T_iret dX10_amiss_30 rfl ?_
    have hz : zami L j w = -6 := if_pos (by omega)
    rw [hz] at hQ
    exact hQ
set_option maxHeartbeats 4000000 in
set_option maxRecDepth 100000 in
theorem m_X10_newArray_41 {n0 n k : Nat} {g : Nat → zV} {h : zHp} {Q : Option zV → Nat → Nat → zHp → Prop} {m : Nat} {P : pT} {L : lT} {I O : tT} {V : Int × pT} {i v : Int} (hP : pwf P) (hL : lwf L) (hI : iwf I) (hO : owf O) (hV : vwf V) (hB : n0 ≤ m) (hrf : rfAt h m P L I O V) (hQ : ∀  (h' : zHp), (rfAt h' m P (s_na L i v).2 I O V) → (∀ q : Nat, (q < m ∨ m + 33 ≤ q) → h' q = h q) → Q (some (.inl ((s_na L i v).1))) n k h') : ∀ (d : Nat) (j : Nat) (w : Nat) (q : Nat) (ki9 : Nat → Int) (le9 : Nat → Int) (el9 : Nat → Int), 20 - q = d → ∀ h1 : zHp, h1 (m + 26) = some (.inr (.inl (0, 4, ki9))) → h1 (m + 27) = some (.inr (.inl (0, 4, le9))) → h1 (m + 28) = some (.inr (.inl (0, 80, el9))) → (∀ q : Nat, q ≠ (m + 26) → q ≠ (m + 27) → q ≠ (m + 28) → h1 q = h q) → (i = (j : Int) ∧ j < 4 ∧ v = (w : Int) ∧ w ≤ 20) → (q ≤ 20) → (∀ a, a < q → el9 (20 * j + a) = 0) → (∀ b i, b < 4 → b ≠ j → L.1 b = 1 → i < L.2.1 b → el9 (20 * b + i) = L.2.2.1 b i) → (∀ b, b < 4 → ki9 b = ((zfu L.1 j 1 b : Nat) : Int) ∧ (L.1 b = 1 ∨ b = j → le9 b = ((zfu L.2.1 j w b : Nat) : Int))) → ZT n0 g mX10_newArray 41 [some (.inr (some m)), some (.inl i), some (.inl v), some (.inl (q : Int))] [] n k h1 Q := by
  intro d
  induction d using Nat.strongRecOn with | _ d ih => ?_
  intro j w q ki9 le9 el9 hd0 h1 mk ml me hfr hi hq hu hv hk
  subst hd0
  obtain ⟨fk, z, c, cn, en, ax, nu, sp, ss, hM, rp, rc, rk, rf, ry, ri, ro, rl, rv⟩ := id hrf
  have hpb := hP.bd
  have hs8 := hP.2.1
  obtain ⟨ki, le, el, sto, l0, l1, l2, l3, l4⟩ := id rl
  refine T_iload_n dX10_newArray_41 rfl ?_
  refine T_bipush dX10_newArray_42 (by decide) ?_
  refine T_icmp_ge dX10_newArray_44 (t := 65) rfl (fun c44 => ?_) (fun c44 => ?_)
  · refine T_iconst dX10_newArray_65 (by decide) ?_
    refine T_iret dX10_newArray_66 rfl ?_
    obtain ⟨rfl, hj, rfl, hw⟩ := hi
    have hsl : sSl (j : Int) := ⟨by omega, by omega⟩
    have e : s_na L (j : Int) (w : Int) = (1, (zfu L.1 j 1, zfu L.2.1 j w, zfu L.2.2.1 j (fun _ => 0), L.2.2.2)) := by unfold s_na; rw [if_pos hsl, if_neg (by omega), if_neg (by omega), Int.toNat_natCast, Int.toNat_natCast]
    rw [e] at hQ
    exact hQ _ ⟨fk, z, c, cn, en, ax, nu, sp, ss, ((hfr _ (by omega) (by omega) (by omega)).trans hM), (rp.frame (fun q a1 a2 => ((hfr _ (by omega) (by omega) (by omega)).trans (rfl)))), (rc.frame (fun q a1 a2 => ((hfr _ (by omega) (by omega) (by omega)).trans (rfl)))), (rk.frame (fun q a1 a2 => ((hfr _ (by omega) (by omega) (by omega)).trans (rfl)))), (rf.frame (fun q a1 a2 => ((hfr _ (by omega) (by omega) (by omega)).trans (rfl)))), (ry.frame (fun q a1 a2 => ((hfr _ (by omega) (by omega) (by omega)).trans (rfl)))), (ri.frame (fun q a1 a2 => ((hfr _ (by omega) (by omega) (by omega)).trans (rfl)))), (ro.frame (fun q a1 a2 => ((hfr _ (by omega) (by omega) (by omega)).trans (rfl)))), ⟨_, _, _, _, mk, ml, me, ((hfr _ (by omega) (by omega) (by omega)).trans (l3)), fun a ha => by
      obtain ⟨k1, k2⟩ := hk a ha
      refine ⟨k1, fun x => ?_, fun x => ?_⟩
      · by_cases e9 : a = j
        · subst e9
          refine ⟨k2 (Or.inr rfl), fun i hi => ?_⟩
          have hi2 : i < zfu L.2.1 a w a := hi
          rw [zfu_self] at hi2
          show _ = zfu L.2.2.1 a (fun _ => 0) a i
          rw [zfu_self]; exact hu i (by omega)
        · have x2 : L.1 a = 1 := by have y : zfu L.1 j 1 a = 1 := x; rwa [zfu_ne e9] at y
          refine ⟨k2 (Or.inl x2), fun i hi => ?_⟩
          have hi2 : i < zfu L.2.1 j w a := hi
          rw [zfu_ne e9] at hi2
          show _ = zfu L.2.2.1 j (fun _ => 0) a i
          rw [zfu_ne e9]; exact hv a i ha e9 x2 hi2
      · have y : zfu L.1 j 1 a = 2 := x
        by_cases e9 : a = j
        · rw [e9, zfu_self] at y; omega
        · rw [zfu_ne e9] at y; exact (l4 a ha).2.2 y⟩, (rv.frame (fun q a1 a2 => ((hfr _ (by omega) (by omega) (by omega)).trans (rfl))))⟩ (fun q a1 => ((hfr _ (by omega) (by omega) (by omega)).trans (rfl)))
  · refine T_aload_n dX10_newArray_47 rfl ?_
    refine T_getfield dX10_newArray_48 zkf_11_96 ((hfr _ (by omega) (by omega) (by omega)).trans hM) rfl ?_
    refine T_bipush dX10_newArray_51 (by decide) ?_
    refine T_iload_n dX10_newArray_53 rfl ?_
    refine T_imul dX10_newArray_54 ⟨by omega, by omega⟩ ?_
    refine T_iload_n dX10_newArray_55 rfl ?_
    refine T_iadd dX10_newArray_56 ⟨by omega, by omega⟩ ?_
    refine T_iconst dX10_newArray_57 (by decide) ?_
    refine T_iastoreN (m := (20 * j + q)) dX10_newArray_58 me (by omega) (by omega) (by omega) ?_
    refine T_iinc dX10_newArray_59 rfl ⟨by omega, by omega⟩ ?_
    refine T_goto dX10_newArray_62 (t := 41) rfl ?_
    exact ih _ (by omega) j w (q + 1) _ _ _ rfl _ (zup_ne (by omega) mk) (zup_ne (by omega) ml) zup_self (fun q q0 q1 q2 => ((zup_nf q2).trans ((hfr _ q0 q1 q2).trans rfl))) hi (by omega) (fun a ha => by
          by_cases e : a = q
          · rw [e, zfu_self]
          · rw [zfu_ne (by omega)]; exact hu a (by omega)) (fun b i hb hne h1 hi => by
          have := ((hL b hb).2.1 h1).1
          rw [zfu_ne (by omega)]; exact hv b i hb hne h1 hi) hk 
set_option maxHeartbeats 4000000 in
set_option maxRecDepth 100000 in
theorem m_X10_newArray {n0 n k : Nat} {g : Nat → zV} {h : zHp} {Q : Option zV → Nat → Nat → zHp → Prop} {m : Nat} {P : pT} {L : lT} {I O : tT} {V : Int × pT} {i v : Int} (hP : pwf P) (hL : lwf L) (hI : iwf I) (hO : owf O) (hV : vwf V) (hB : n0 ≤ m) (hrf : rfAt h m P L I O V) (hQ : ∀  (h' : zHp), (rfAt h' m P (s_na L i v).2 I O V) → (∀ q : Nat, (q < m ∨ m + 33 ≤ q) → h' q = h q) → Q (some (.inl ((s_na L i v).1))) n k h') : ZT n0 g mX10_newArray 0 (zloc mX10_newArray [.inr (some m), .inl i, .inl v]) [] n k h Q := by
  show ZT n0 g mX10_newArray 0 [some (.inr (some m)), some (.inl i), some (.inl v), none] [] n k h Q
  obtain ⟨fk, z, c, cn, en, ax, nu, sp, ss, hM, rp, rc, rk, rf, ry, ri, ro, rl, rv⟩ := id hrf
  have hpb := hP.bd
  have hs8 := hP.2.1
  obtain ⟨ki, le, el, sto, l0, l1, l2, l3, l4⟩ := id rl
  refine T_iload_n dX10_newArray_0 rfl ?_
  refine T_callS dX10_newArray_1 zkm_11_249 ⟨Nat.le_of_ble_eq_true rfl, Nat.le_of_ble_eq_true rfl, rfl⟩ rfl (Nat.le_of_ble_eq_true rfl) ?_
  refine m_X10_isSlot   (fun k1a => ?_) (fun k1a_2 => ?_)
  · refine T_if_ne dX10_newArray_4 (t := 9) rfl (fun _ => ?_) (fun hc => absurd hc (by decide))
    obtain ⟨j, rfl⟩ := Int.eq_ofNat_of_zero_le k1a.1
    have hj : j < 4 := by omega
    have hsl : sSl (j : Int) := ⟨by omega, by omega⟩
    obtain ⟨lj, lj1, lj2⟩ := l4 j hj
    obtain ⟨w1, w2, w3⟩ := hL j hj
    refine T_iload_n dX10_newArray_9 rfl ?_
    refine T_bipush dX10_newArray_10 (by decide) ?_
    refine T_icmp_le dX10_newArray_12 (t := 18) rfl (fun c12 => ?_) (fun c12 => ?_)
    · refine T_iload_n dX10_newArray_18 rfl ?_
      refine T_if_ge dX10_newArray_19 (t := 25) rfl (fun c19 => ?_) (fun c19 => ?_)
      · obtain ⟨w, rfl⟩ := Int.eq_ofNat_of_zero_le (show 0 ≤ v by omega)
        refine T_aload_n dX10_newArray_25 rfl ?_
        refine T_getfield dX10_newArray_26 zkf_11_90 hM rfl ?_
        refine T_iload_n dX10_newArray_29 rfl ?_
        refine T_iconst dX10_newArray_30 (by decide) ?_
        refine T_iastoreN (m := j) dX10_newArray_31 l0 rfl (by omega) (by omega) ?_
        refine T_aload_n dX10_newArray_32 rfl ?_
        refine T_getfield dX10_newArray_33 zkf_11_93 (zup_ne (by omega) hM) rfl ?_
        refine T_iload_n dX10_newArray_36 rfl ?_
        refine T_iload_n dX10_newArray_37 rfl ?_
        refine T_iastoreN (m := j) dX10_newArray_38 (zup_ne (by omega) l1) rfl (by omega) (by omega) ?_
        refine T_iconst dX10_newArray_39 (by decide) ?_
        refine T_istore_n dX10_newArray_40 (Nat.le_of_ble_eq_true rfl) ?_
        exact m_X10_newArray_41 hP hL hI hO hV hB hrf hQ _ j w 0 _ _ _ rfl _ (zup_ne (by omega) zup_self) zup_self (zup_ne (by omega) (zup_ne (by omega) l2)) (fun q q0 q1 q2 => ((zup_nf q1).trans ((zup_nf q0).trans rfl))) ⟨rfl, hj, rfl, by omega⟩ (by omega) (fun i hi => absurd hi (Nat.not_lt_zero i)) (fun b i hb hne h1 hi => ((l4 b hb).2.1 h1).2 i hi) (fun b hb => by
              by_cases e : b = j
              · rw [e, zfu_self, zfu_self, zfu_self, zfu_self]; exact ⟨rfl, fun _ => rfl⟩
              · rw [zfu_ne e, zfu_ne e, zfu_ne e, zfu_ne e]; exact ⟨(l4 b hb).1, fun x => ((l4 b hb).2.1 (x.resolve_right e)).1⟩) 
      · refine T_bipush dX10_newArray_22 (by decide) ?_
        refine T_iret dX10_newArray_24 rfl ?_
        have e : s_na L (j : Int) v = (-8, L) := by unfold s_na; rw [if_pos hsl, if_neg (by omega), if_pos (by omega)]
        rw [e] at hQ
        exact hQ h hrf (fun _ _ => rfl)
    · refine T_bipush dX10_newArray_15 (by decide) ?_
      refine T_iret dX10_newArray_17 rfl ?_
      have e : s_na L (j : Int) v = (-2, L) := by unfold s_na; rw [if_pos hsl, if_pos (by omega)]
      rw [e] at hQ
      exact hQ h hrf (fun _ _ => rfl)
  · refine T_if_ne dX10_newArray_4 (t := 9) rfl (fun hc => absurd hc (by decide)) (fun _ => ?_)
    refine T_iconst dX10_newArray_7 (by decide) ?_
    refine T_iret dX10_newArray_8 rfl ?_
    have e : s_na L i v = (-1, L) := by exact if_neg (by exact k1a_2)
    rw [e] at hQ
    exact hQ h hrf (fun _ _ => rfl)
set_option maxHeartbeats 4000000 in
set_option maxRecDepth 100000 in
theorem m_X10_element {n0 n k : Nat} {g : Nat → zV} {h : zHp} {Q : Option zV → Nat → Nat → zHp → Prop} {m : Nat} {P : pT} {L : lT} {I O : tT} {V : Int × pT} {i x : Int} (hP : pwf P) (hL : lwf L) (hI : iwf I) (hO : owf O) (hV : vwf V) (hB : n0 ≤ m) (hrf : rfAt h m P L I O V) (hQ : Q (some (.inl (s_el L i x))) n k h) : ZT n0 g mX10_element 0 (zloc mX10_element [.inr (some m), .inl i, .inl x]) [] n k h Q := by
  show ZT n0 g mX10_element 0 [some (.inr (some m)), some (.inl i), some (.inl x), none] [] n k h Q
  obtain ⟨fk, z, c, cn, en, ax, nu, sp, ss, hM, rp, rc, rk, rf, ry, ri, ro, rl, rv⟩ := id hrf
  have hpb := hP.bd
  have hs8 := hP.2.1
  obtain ⟨ki, le, el, sto, l0, l1, l2, l3, l4⟩ := id rl
  refine T_iload_n dX10_element_0 rfl ?_
  refine T_callS dX10_element_1 zkm_11_249 ⟨Nat.le_of_ble_eq_true rfl, Nat.le_of_ble_eq_true rfl, rfl⟩ rfl (Nat.le_of_ble_eq_true rfl) ?_
  refine m_X10_isSlot   (fun k1a => ?_) (fun k1a_2 => ?_)
  · refine T_if_ne dX10_element_4 (t := 9) rfl (fun _ => ?_) (fun hc => absurd hc (by decide))
    obtain ⟨j, rfl⟩ := Int.eq_ofNat_of_zero_le k1a.1
    have hj : j < 4 := by omega
    have hsl : sSl (j : Int) := ⟨by omega, by omega⟩
    obtain ⟨lj, lj1, lj2⟩ := l4 j hj
    obtain ⟨w1, w2, w3⟩ := hL j hj
    refine T_aload_n dX10_element_9 rfl ?_
    refine T_iload_n dX10_element_10 rfl ?_
    refine T_iconst dX10_element_11 (by decide) ?_
    refine T_callV dX10_element_12 zkm_11_293 (Or.inl rfl) rfl hM ⟨Nat.le_of_ble_eq_true rfl, rfl⟩ rfl (Nat.le_of_ble_eq_true rfl) ?_
    refine m_X10_amiss  hP hL hI hO hV hB hrf hj ?_
    refine T_istore_n dX10_element_15 (Nat.le_of_ble_eq_true rfl) ?_
    refine T_iload_n dX10_element_16 rfl ?_
    refine T_if_eq dX10_element_17 (t := 22) rfl (fun c17 => ?_) (fun c17 => ?_)
    · have hz : zami L j 1 = 0 := by omega
      have hk1 := zami_is hz
      obtain ⟨lj3, lj4⟩ := lj1 hk1
      have w20 := (w2 hk1).1
      refine T_iload_n dX10_element_22 rfl ?_
      refine T_iconst dX10_element_23 (by decide) ?_
      refine T_aload_n dX10_element_24 rfl ?_
      refine T_getfield dX10_element_25 zkf_11_93 hM rfl ?_
      refine T_iload_n dX10_element_28 rfl ?_
      refine T_ialoadN (m := j) dX10_element_29 l1 rfl (by omega) ?_
      refine T_iconst dX10_element_30 (by decide) ?_
      refine T_isub dX10_element_31 ⟨by omega, by omega⟩ ?_
      refine T_callS dX10_element_32 zkm_11_114 ⟨Nat.le_of_ble_eq_true rfl, Nat.le_of_ble_eq_true rfl, rfl⟩ rfl (Nat.le_of_ble_eq_true rfl) ?_
      refine m_X10_isIn   (fun k32a => ?_) (fun k32a_2 => ?_)
      · refine T_if_eq dX10_element_35 (t := 52) rfl (fun hc => absurd hc (by decide)) (fun _ => ?_)
        obtain ⟨d, rfl⟩ := Int.eq_ofNat_of_zero_le k32a.1
        refine T_aload_n dX10_element_38 rfl ?_
        refine T_getfield dX10_element_39 zkf_11_96 hM rfl ?_
        refine T_bipush dX10_element_42 (by decide) ?_
        refine T_iload_n dX10_element_44 rfl ?_
        refine T_imul dX10_element_45 ⟨by omega, by omega⟩ ?_
        refine T_iload_n dX10_element_46 rfl ?_
        refine T_iadd dX10_element_47 ⟨by omega, by omega⟩ ?_
        refine T_ialoadN (m := ((20 * j) + d)) dX10_element_48 l2 rfl (by omega) ?_
        refine T_goto dX10_element_49 (t := 53) rfl ?_
        refine T_iret dX10_element_53 rfl ?_
        have e : s_el L (j : Int) (d : Int) = el (20 * j + d) := by unfold s_el; rw [if_pos hsl, Int.toNat_natCast, if_pos hz, if_pos (by omega), Int.toNat_natCast, lj4 d (by omega)]
        rw [e] at hQ
        exact hQ
      · refine T_if_eq dX10_element_35 (t := 52) rfl (fun _ => ?_) (fun hc => absurd hc (by decide))
        refine T_iconst dX10_element_52 (by decide) ?_
        refine T_iret dX10_element_53 rfl ?_
        have e : s_el L (j : Int) x = -1 := by unfold s_el; rw [if_pos hsl, Int.toNat_natCast, if_pos hz, if_neg (by omega)]
        rw [e] at hQ
        exact hQ
    · refine T_iload_n dX10_element_20 rfl ?_
      refine T_iret dX10_element_21 rfl ?_
      have e : s_el L (j : Int) x = zami L j 1 := by unfold s_el; rw [if_pos hsl, Int.toNat_natCast, if_neg (by omega)]
      rw [e] at hQ
      exact hQ
  · refine T_if_ne dX10_element_4 (t := 9) rfl (fun hc => absurd hc (by decide)) (fun _ => ?_)
    refine T_iconst dX10_element_7 (by decide) ?_
    refine T_iret dX10_element_8 rfl ?_
    have e : s_el L i x = -1 := by exact if_neg (by exact k1a_2)
    rw [e] at hQ
    exact hQ
set_option maxHeartbeats 4000000 in
set_option maxRecDepth 100000 in
theorem m_X10_setElement {n0 n k : Nat} {g : Nat → zV} {h : zHp} {Q : Option zV → Nat → Nat → zHp → Prop} {m : Nat} {P : pT} {L : lT} {I O : tT} {V : Int × pT} {i x v : Int} (hP : pwf P) (hL : lwf L) (hI : iwf I) (hO : owf O) (hV : vwf V) (hB : n0 ≤ m) (hrf : rfAt h m P L I O V) (hQ : ∀  (h' : zHp), (rfAt h' m P (s_se L i x v).2 I O V) → (∀ q : Nat, (q < m ∨ m + 33 ≤ q) → h' q = h q) → Q (some (.inl ((s_se L i x v).1))) n k h') : ZT n0 g mX10_setElement 0 (zloc mX10_setElement [.inr (some m), .inl i, .inl x, .inl v]) [] n k h Q := by
  show ZT n0 g mX10_setElement 0 [some (.inr (some m)), some (.inl i), some (.inl x), some (.inl v), none] [] n k h Q
  obtain ⟨fk, z, c, cn, en, ax, nu, sp, ss, hM, rp, rc, rk, rf, ry, ri, ro, rl, rv⟩ := id hrf
  have hpb := hP.bd
  have hs8 := hP.2.1
  obtain ⟨ki, le, el, sto, l0, l1, l2, l3, l4⟩ := id rl
  refine T_iload_n dX10_setElement_0 rfl ?_
  refine T_callS dX10_setElement_1 zkm_11_249 ⟨Nat.le_of_ble_eq_true rfl, Nat.le_of_ble_eq_true rfl, rfl⟩ rfl (Nat.le_of_ble_eq_true rfl) ?_
  refine m_X10_isSlot   (fun k1a => ?_) (fun k1a_2 => ?_)
  · refine T_if_ne dX10_setElement_4 (t := 9) rfl (fun _ => ?_) (fun hc => absurd hc (by decide))
    obtain ⟨j, rfl⟩ := Int.eq_ofNat_of_zero_le k1a.1
    have hj : j < 4 := by omega
    have hsl : sSl (j : Int) := ⟨by omega, by omega⟩
    obtain ⟨lj, lj1, lj2⟩ := l4 j hj
    obtain ⟨w1, w2, w3⟩ := hL j hj
    refine T_iload_n dX10_setElement_9 rfl ?_
    refine T_iconst dX10_setElement_10 (by decide) ?_
    refine T_sipush dX10_setElement_11 (by decide) ?_
    refine T_callS dX10_setElement_14 zkm_11_114 ⟨Nat.le_of_ble_eq_true rfl, Nat.le_of_ble_eq_true rfl, rfl⟩ rfl (Nat.le_of_ble_eq_true rfl) ?_
    refine m_X10_isIn   (fun k14a => ?_) (fun k14a_2 => ?_)
    · refine T_if_ne dX10_setElement_17 (t := 23) rfl (fun _ => ?_) (fun hc => absurd hc (by decide))
      refine T_aload_n dX10_setElement_23 rfl ?_
      refine T_iload_n dX10_setElement_24 rfl ?_
      refine T_iload_n dX10_setElement_25 rfl ?_
      refine T_callV dX10_setElement_26 zkm_11_290 (Or.inl rfl) rfl hM ⟨Nat.le_of_ble_eq_true rfl, rfl⟩ rfl (Nat.le_of_ble_eq_true rfl) ?_
      refine m_X10_element  hP hL hI hO hV hB hrf ?_
      refine T_istore dX10_setElement_29 (Nat.le_of_ble_eq_true rfl) ?_
      refine T_iload dX10_setElement_31 rfl ?_
      refine T_if_lt dX10_setElement_33 (t := 48) rfl (fun c33 => ?_) (fun c33 => ?_)
      · refine T_iload dX10_setElement_48 rfl ?_
        refine T_iret dX10_setElement_50 rfl ?_
        have e : s_se L (j : Int) x v = (s_el L (j : Int) x, L) := by exact s_se_neg hL hsl k14a c33
        rw [e] at hQ
        exact hQ h hrf (fun _ _ => rfl)
      · obtain ⟨hz, hc⟩ := s_el_pos (L := L) (k := (j : Int)) (i := x) (by omega)
        obtain ⟨d, rfl⟩ := Int.eq_ofNat_of_zero_le hc.1
        rw [Int.toNat_natCast] at hz hc
        have hk1 := zami_is hz
        obtain ⟨lj3, lj4⟩ := lj1 hk1
        have w20 := (w2 hk1).1
        refine T_aload_n dX10_setElement_36 rfl ?_
        refine T_getfield dX10_setElement_37 zkf_11_96 hM rfl ?_
        refine T_bipush dX10_setElement_40 (by decide) ?_
        refine T_iload_n dX10_setElement_42 rfl ?_
        refine T_imul dX10_setElement_43 ⟨by omega, by omega⟩ ?_
        refine T_iload_n dX10_setElement_44 rfl ?_
        refine T_iadd dX10_setElement_45 ⟨by omega, by omega⟩ ?_
        refine T_iload_n dX10_setElement_46 rfl ?_
        refine T_iastoreN (m := ((20 * j) + d)) dX10_setElement_47 l2 rfl (by omega) (by omega) ?_
        refine T_iload dX10_setElement_48 rfl ?_
        refine T_iret dX10_setElement_50 rfl ?_
        have e : s_se L (j : Int) (d : Int) v = (s_el L (j : Int) (d : Int), (L.1, L.2.1, zfu L.2.2.1 j (zfu (L.2.2.1 j) d v), L.2.2.2)) := by unfold s_se s_el; rw [if_pos hsl, if_pos k14a, if_pos hsl, Int.toNat_natCast, if_pos hz, if_pos hz, if_pos hc, if_pos hc, Int.toNat_natCast]
        rw [e] at hQ
        exact hQ _ ⟨fk, z, c, cn, en, ax, nu, sp, ss, (zup_ne (by omega) hM), (rp.frame (fun q a1 a2 => ((zup_nf (by omega)).trans (rfl)))), (rc.frame (fun q a1 a2 => ((zup_nf (by omega)).trans (rfl)))), (rk.frame (fun q a1 a2 => ((zup_nf (by omega)).trans (rfl)))), (rf.frame (fun q a1 a2 => ((zup_nf (by omega)).trans (rfl)))), (ry.frame (fun q a1 a2 => ((zup_nf (by omega)).trans (rfl)))), (ri.frame (fun q a1 a2 => ((zup_nf (by omega)).trans (rfl)))), (ro.frame (fun q a1 a2 => ((zup_nf (by omega)).trans (rfl)))), ⟨_, _, _, _, (zup_ne (by omega) l0), (zup_ne (by omega) l1), zup_self, (zup_ne (by omega) l3), fun a ha => by
          obtain ⟨x1, x2, x3⟩ := l4 a ha
          refine ⟨x1, fun x => ⟨(x2 x).1, fun i hi => ?_⟩, x3⟩
          have hi20 : i < 20 := Nat.lt_of_lt_of_le hi ((hL a ha).2.1 x).1
          by_cases e9 : a = j
          · subst e9
            show _ = zfu L.2.2.1 a (zfu (L.2.2.1 a) d v) a i
            rw [zfu_self]
            by_cases e8 : i = d
            · rw [e8, zfu_self, zfu_self]
            · rw [zfu_ne (by omega), zfu_ne e8]; exact (x2 x).2 i hi
          · show _ = zfu L.2.2.1 j (zfu (L.2.2.1 j) d v) a i
            rw [zfu_ne e9, zfu_ne (by omega)]; exact (x2 x).2 i hi⟩, (rv.frame (fun q a1 a2 => ((zup_nf (by omega)).trans (rfl))))⟩ (fun q a1 => ((zup_nf (by omega)).trans (rfl)))
    · refine T_if_ne dX10_setElement_17 (t := 23) rfl (fun hc => absurd hc (by decide)) (fun _ => ?_)
      refine T_bipush dX10_setElement_20 (by decide) ?_
      refine T_iret dX10_setElement_22 rfl ?_
      have e : s_se L (j : Int) x v = (-2, L) := by unfold s_se; rw [if_pos hsl, if_neg (by exact k14a_2)]
      rw [e] at hQ
      exact hQ h hrf (fun _ _ => rfl)
  · refine T_if_ne dX10_setElement_4 (t := 9) rfl (fun hc => absurd hc (by decide)) (fun _ => ?_)
    refine T_iconst dX10_setElement_7 (by decide) ?_
    refine T_iret dX10_setElement_8 rfl ?_
    have e : s_se L i x v = (-1, L) := by exact if_neg (by exact k1a_2)
    rw [e] at hQ
    exact hQ h hrf (fun _ _ => rfl)
set_option maxHeartbeats 4000000 in
set_option maxRecDepth 100000 in
theorem m_X10_clearSlot {n0 n k : Nat} {g : Nat → zV} {h : zHp} {Q : Option zV → Nat → Nat → zHp → Prop} {m : Nat} {P : pT} {L : lT} {I O : tT} {V : Int × pT} {i : Int} (hP : pwf P) (hL : lwf L) (hI : iwf I) (hO : owf O) (hV : vwf V) (hB : n0 ≤ m) (hrf : rfAt h m P L I O V) (hQ : ∀  (h' : zHp), (rfAt h' m P (s_cs L i).2 I O V) → (∀ q : Nat, (q < m ∨ m + 33 ≤ q) → h' q = h q) → Q (some (.inl ((s_cs L i).1))) n k h') : ZT n0 g mX10_clearSlot 0 (zloc mX10_clearSlot [.inr (some m), .inl i]) [] n k h Q := by
  show ZT n0 g mX10_clearSlot 0 [some (.inr (some m)), some (.inl i), none] [] n k h Q
  obtain ⟨fk, z, c, cn, en, ax, nu, sp, ss, hM, rp, rc, rk, rf, ry, ri, ro, rl, rv⟩ := id hrf
  have hpb := hP.bd
  have hs8 := hP.2.1
  obtain ⟨ki, le, el, sto, l0, l1, l2, l3, l4⟩ := id rl
  refine T_iload_n dX10_clearSlot_0 rfl ?_
  refine T_callS dX10_clearSlot_1 zkm_11_249 ⟨Nat.le_of_ble_eq_true rfl, Nat.le_of_ble_eq_true rfl, rfl⟩ rfl (Nat.le_of_ble_eq_true rfl) ?_
  refine m_X10_isSlot   (fun k1a => ?_) (fun k1a_2 => ?_)
  · refine T_if_ne dX10_clearSlot_4 (t := 9) rfl (fun _ => ?_) (fun hc => absurd hc (by decide))
    obtain ⟨j, rfl⟩ := Int.eq_ofNat_of_zero_le k1a.1
    have hj : j < 4 := by omega
    have hsl : sSl (j : Int) := ⟨by omega, by omega⟩
    obtain ⟨lj, lj1, lj2⟩ := l4 j hj
    obtain ⟨w1, w2, w3⟩ := hL j hj
    refine T_aload_n dX10_clearSlot_9 rfl ?_
    refine T_getfield dX10_clearSlot_10 zkf_11_90 hM rfl ?_
    refine T_iload_n dX10_clearSlot_13 rfl ?_
    refine T_ialoadN (m := j) dX10_clearSlot_14 l0 rfl (by omega) ?_
    refine T_istore_n dX10_clearSlot_15 (Nat.le_of_ble_eq_true rfl) ?_
    refine T_aload_n dX10_clearSlot_16 rfl ?_
    refine T_getfield dX10_clearSlot_17 zkf_11_90 hM rfl ?_
    refine T_iload_n dX10_clearSlot_20 rfl ?_
    refine T_iconst dX10_clearSlot_21 (by decide) ?_
    refine T_iastoreN (m := j) dX10_clearSlot_22 l0 rfl (by omega) (by omega) ?_
    refine T_iload_n dX10_clearSlot_23 rfl ?_
    refine T_iret dX10_clearSlot_24 rfl ?_
    have e : s_cs L (j : Int) = (ki j, (zfu L.1 j 0, L.2)) := by unfold s_cs; rw [if_pos hsl, Int.toNat_natCast, lj]
    rw [e] at hQ
    exact hQ _ ⟨fk, z, c, cn, en, ax, nu, sp, ss, (zup_ne (by omega) hM), (rp.frame (fun q a1 a2 => ((zup_nf (by omega)).trans (rfl)))), (rc.frame (fun q a1 a2 => ((zup_nf (by omega)).trans (rfl)))), (rk.frame (fun q a1 a2 => ((zup_nf (by omega)).trans (rfl)))), (rf.frame (fun q a1 a2 => ((zup_nf (by omega)).trans (rfl)))), (ry.frame (fun q a1 a2 => ((zup_nf (by omega)).trans (rfl)))), (ri.frame (fun q a1 a2 => ((zup_nf (by omega)).trans (rfl)))), (ro.frame (fun q a1 a2 => ((zup_nf (by omega)).trans (rfl)))), ⟨_, _, _, _, zup_self, (zup_ne (by omega) l1), (zup_ne (by omega) l2), (zup_ne (by omega) l3), fun a ha => by
      obtain ⟨x1, x2, x3⟩ := l4 a ha
      show _ = ((zfu L.1 j 0 a : Nat) : Int) ∧ (zfu L.1 j 0 a = 1 → _) ∧ (zfu L.1 j 0 a = 2 → _)
      by_cases e9 : a = j
      · subst e9
        rw [zfu_self, zfu_self]
        exact ⟨rfl, fun x => by omega, fun x => by omega⟩
      · rw [zfu_ne e9, zfu_ne e9]
        exact ⟨x1, x2, x3⟩⟩, (rv.frame (fun q a1 a2 => ((zup_nf (by omega)).trans (rfl))))⟩ (fun q a1 => ((zup_nf (by omega)).trans (rfl)))
  · refine T_if_ne dX10_clearSlot_4 (t := 9) rfl (fun hc => absurd hc (by decide)) (fun _ => ?_)
    refine T_iconst dX10_clearSlot_7 (by decide) ?_
    refine T_iret dX10_clearSlot_8 rfl ?_
    have e : s_cs L i = (-1, L) := by exact if_neg (by exact k1a_2)
    rw [e] at hQ
    exact hQ h hrf (fun _ _ => rfl)
