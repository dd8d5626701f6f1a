/-! ===== GroebnerFan: slots, snapshots: printed by wip/whole/gen/s_cl4.py ===== -/
theorem gSlt.put {h h' : zHp} {B j : Nat} {L L' : lT} {le : Int} {nu : Nat → Int} (g : gSlt h B L) (hj : j < 4) (o : h' (B + 2 * j + 58) = some (.inl (9, [.inl (L'.1 j : Int), .inl le, .inr (some (B + 2 * j + 59))]))) (a : zar h' (B + 2 * j + 59) 81 nu)
    (c1 : L'.1 j = 1 → le = (L'.2.1 j : Int) ∧ ∀ i, i < L'.2.1 j → nu i = L'.2.2.1 j i) (c2 : L'.1 j = 2 → ∀ m, m < 81 → nu m = L'.2.2.2 j m)
    (f : ∀ q, B + 57 ≤ q → q < B + 66 → q ≠ B + 2 * j + 58 → q ≠ B + 2 * j + 59 → h' q = h q) (e : ∀ k, k ≠ j → L'.1 k = L.1 k ∧ L'.2.1 k = L.2.1 k ∧ L'.2.2.1 k = L.2.2.1 k ∧ L'.2.2.2 k = L.2.2.2 k) : gSlt h' B L' := by
  obtain ⟨⟨rf, l0, l1⟩, l2⟩ := g
  refine ⟨⟨rf, (f _ (by omega) (by omega) (by omega) (by omega)).trans l0, l1⟩, fun k hk => ?_⟩
  by_cases ek : k = j
  · subst ek; exact ⟨le, nu, o, a, c1, c2⟩
  · obtain ⟨e1, e2, e3, e4⟩ := e k ek
    rw [e1, e2, e3, e4]
    obtain ⟨le', nu', x0, x1, x2, x3⟩ := l2 k hk
    exact ⟨le', nu', (f _ (by omega) (by omega) (by omega) (by omega)).trans x0, (f _ (by omega) (by omega) (by omega) (by omega)).trans x1, x2, x3⟩
set_option maxHeartbeats 4000000 in
set_option maxRecDepth 100000 in
theorem m_X9_newArray {n0 n k : Nat} {g : Nat → zV} {h : zHp} {Q : Option zV → Nat → Nat → zHp → Prop} {B lo : Nat} {P : pT} {L : lT} {I O : tT} {V : Int × pT} {nb vb N : Nat} {cb : Nat → Nat} {i v : Int} (hP : pwf P) (hL : lwf L) (hI : iwf I) (hO : owf O) (hV : vwf V) (hB : n0 ≤ B) (hcl : clAt h B lo n P L I O V nb cb vb N) (hQ : ∀  (h' : zHp), (clAt h' B lo n P (s_na L i v).2 I O V nb cb vb N) → (∀ q : Nat, (q < B ∨ (B + 66 ≤ q ∧ q < lo)) → h' q = h q) → Q (some (.inl ((s_na L i v).1))) n k h') : ZT n0 g mX9_newArray 0 (zloc mX9_newArray [.inr (some B), .inl i, .inl v]) [] n k h Q := by
  show ZT n0 g mX9_newArray 0 [some (.inr (some B)), some (.inl i), some (.inl v), none] [] n k h Q
  obtain ⟨o0, gp, gc, gsp, gsc, gw, gf, gi, go, gl, gsep, hlo⟩ := id hcl
  have hpb := hP.bd
  have gvb := go.vb
  have gcb := gf.co.2.2.1
  obtain ⟨⟨rf, l0, l1⟩, l2⟩ := id gl
  refine T_aload_n dX9_newArray_0 rfl ?_
  refine T_iload_n dX9_newArray_1 rfl ?_
  refine T_callV dX9_newArray_2 zkm_10_244 (Or.inl rfl) rfl o0 ⟨Nat.le_of_ble_eq_true rfl, rfl⟩ rfl (Nat.le_of_ble_eq_true rfl) ?_
  refine m_X9_findSlot o0 l0 l1 (fun j2 k2a k2b => ?_) (fun k2a_2 => ?_)
  · obtain ⟨le, nu, s0, s1, s2, s3⟩ := l2 j2 k2a
    obtain ⟨w1, w2, w3⟩ := hL j2 k2a
    subst k2b
    have hsl : sSl (j2 : Int) := ⟨by omega, by omega⟩
    refine T_astore_n dX9_newArray_5 (Nat.le_of_ble_eq_true rfl) ?_
    refine T_aload_n dX9_newArray_6 rfl ?_
    refine T_ifnonnull dX9_newArray_7 (t := 12) rfl (fun _ _ => ?_) (fun hc => by cases hc)
    refine T_iload_n dX9_newArray_12 rfl ?_
    refine T_bipush dX9_newArray_13 (by decide) ?_
    refine T_icmp_le dX9_newArray_15 (t := 21) rfl (fun c15 => ?_) (fun c15 => ?_)
    · refine T_iload_n dX9_newArray_21 rfl ?_
      refine T_if_ge dX9_newArray_22 (t := 28) rfl (fun c22 => ?_) (fun c22 => ?_)
      · refine T_aload_n dX9_newArray_28 rfl ?_
        refine T_iload_n dX9_newArray_29 rfl ?_
        refine T_callV dX9_newArray_30 zkm_10_293 (Or.inl rfl) rfl s0 ⟨Nat.le_of_ble_eq_true rfl, rfl⟩ rfl (Nat.le_of_ble_eq_true rfl) ?_
        refine m_X8_holdZeros s0 s1 (by omega) (fun nu'30 hh30 k30a f30a f30b fr30 => ?_)
        refine T_iconst dX9_newArray_33 (by decide) ?_
        refine T_iret dX9_newArray_34 rfl ?_
        have e : s_na L (j2 : Int) v = (1, (zfu L.1 j2 1, zfu L.2.1 j2 v.toNat, zfu L.2.2.1 j2 (fun _ => 0), L.2.2.2)) := by unfold s_na; rw [if_pos hsl, if_neg (by omega), if_neg (by omega), Int.toNat_natCast]
        rw [e] at hQ
        exact hQ _ ⟨((fr30 _ (by omega) (by omega)).trans o0), (gp.frame (fun q a1 a2 => ((fr30 _ (by omega) (by omega)).trans (rfl)))), (gc.frame (fun q a1 a2 => ((fr30 _ (by omega) (by omega)).trans (rfl)))), (gsp.frame (fun q a1 a2 => ((fr30 _ (by omega) (by omega)).trans (rfl)))), (gsc.frame (fun q a1 a2 => ((fr30 _ (by omega) (by omega)).trans (rfl)))), (gw.frame (fun q a1 a2 => ((fr30 _ (by omega) (by omega)).trans (rfl)))), (gf.frame hP (Nat.le_refl _) (fun q a1 a2 => ((fr30 _ (by omega) (by omega)).trans (rfl))) (fun i hi q a1 a2 => by have := gcb i hi; exact ((fr30 _ (by omega) (by omega)).trans (rfl)))), (gi.frame (fun q a1 a2 => ((fr30 _ (by omega) (by omega)).trans (rfl)))), (go.frame (Nat.le_refl _) (by exact ((fr30 _ (by omega) (by omega)).trans (rfl))) (by exact ((fr30 _ (by omega) (by omega)).trans (rfl)))), (gl.put (L' := (zfu L.1 j2 1, zfu L.2.1 j2 v.toNat, zfu L.2.2.1 j2 (fun _ => 0), L.2.2.2)) (le := v) (nu := nu'30) k2a (by simpa [zfu_self] using f30a) f30b (fun _ => ⟨by simp [zfu_self]; omega, fun i hi => by rw [k30a i (by simp [zfu_self] at hi; omega)]; simp [zfu_self]⟩) (fun q => by simp [zfu_self] at q) (fun q a1 a2 a3 a4 => ((fr30 _ (by omega) (by omega)).trans (rfl))) (fun q b1 => ⟨by simp [zfu, b1], by simp [zfu, b1], by simp [zfu, b1], by simp [zfu, b1]⟩)), gsep, hlo⟩ (fun q a1 => ((fr30 _ (by omega) (by omega)).trans (rfl)))
      · refine T_bipush dX9_newArray_25 (by decide) ?_
        refine T_iret dX9_newArray_27 rfl ?_
        have e : s_na L (j2 : Int) v = (-8, L) := by unfold s_na; rw [if_pos hsl, if_neg (by omega), if_pos (by omega)]
        rw [e] at hQ
        exact hQ h hcl (fun _ _ => rfl)
    · refine T_bipush dX9_newArray_18 (by decide) ?_
      refine T_iret dX9_newArray_20 rfl ?_
      have e : s_na L (j2 : Int) v = (-2, L) := by unfold s_na; rw [if_pos hsl, if_pos (by omega)]
      rw [e] at hQ
      exact hQ h hcl (fun _ _ => rfl)
  · refine T_astore_n dX9_newArray_5 (Nat.le_of_ble_eq_true rfl) ?_
    refine T_aload_n dX9_newArray_6 rfl ?_
    refine T_ifnonnull dX9_newArray_7 (t := 12) rfl (fun _ hc => by cases hc) (fun _ => ?_)
    refine T_iconst dX9_newArray_10 (by decide) ?_
    refine T_iret dX9_newArray_11 rfl ?_
    have e : s_na L i v = (-1, L) := by exact if_neg (by exact k2a_2)
    rw [e] at hQ
    exact hQ h hcl (fun _ _ => rfl)
set_option maxHeartbeats 4000000 in
set_option maxRecDepth 100000 in
theorem m_X9_element {n0 n k : Nat} {g : Nat → zV} {h : zHp} {Q : Option zV → Nat → Nat → zHp → Prop} {B lo : Nat} {P : pT} {L : lT} {I O : tT} {V : Int × pT} {nb vb N : Nat} {cb : Nat → Nat} {i c : Int} (hP : pwf P) (hL : lwf L) (hI : iwf I) (hO : owf O) (hV : vwf V) (hB : n0 ≤ B) (hcl : clAt h B lo n P L I O V nb cb vb N) (hQ : Q (some (.inl (s_el L i c))) n k h) : ZT n0 g mX9_element 0 (zloc mX9_element [.inr (some B), .inl i, .inl c]) [] n k h Q := by
  show ZT n0 g mX9_element 0 [some (.inr (some B)), some (.inl i), some (.inl c), none] [] n k h Q
  obtain ⟨o0, gp, gc, gsp, gsc, gw, gf, gi, go, gl, gsep, hlo⟩ := id hcl
  have hpb := hP.bd
  have gvb := go.vb
  have gcb := gf.co.2.2.1
  obtain ⟨⟨rf, l0, l1⟩, l2⟩ := id gl
  refine T_aload_n dX9_element_0 rfl ?_
  refine T_iload_n dX9_element_1 rfl ?_
  refine T_callV dX9_element_2 zkm_10_244 (Or.inl rfl) rfl o0 ⟨Nat.le_of_ble_eq_true rfl, rfl⟩ rfl (Nat.le_of_ble_eq_true rfl) ?_
  refine m_X9_findSlot o0 l0 l1 (fun j2 k2a k2b => ?_) (fun k2a_2 => ?_)
  · obtain ⟨le, nu, s0, s1, s2, s3⟩ := l2 j2 k2a
    obtain ⟨w1, w2, w3⟩ := hL j2 k2a
    subst k2b
    have hsl : sSl (j2 : Int) := ⟨by omega, by omega⟩
    refine T_astore_n dX9_element_5 (Nat.le_of_ble_eq_true rfl) ?_
    refine T_aload_n dX9_element_6 rfl ?_
    refine T_ifnonnull dX9_element_7 (t := 12) rfl (fun _ _ => ?_) (fun hc => by cases hc)
    refine T_aload_n dX9_element_12 rfl ?_
    refine T_getfield dX9_element_13 zkf_10_248 s0 rfl ?_
    refine T_iconst dX9_element_16 (by decide) ?_
    refine T_icmp_eq dX9_element_17 (t := 25) rfl (fun c17 => ?_) (fun c17 => ?_)
    · obtain ⟨t1, t2⟩ := s2 (by omega)
      have hz : zami L j2 1 = 0 := by unfold zami; rw [if_neg (by omega), if_pos (by omega)]
      have t3 := (w2 (by omega)).1
      refine T_iload_n dX9_element_25 rfl ?_
      refine T_if_lt dX9_element_26 (t := 37) rfl (fun c26 => ?_) (fun c26 => ?_)
      · refine T_iconst dX9_element_37 (by decide) ?_
        refine T_iret dX9_element_38 rfl ?_
        have e : s_el L (j2 : Int) c = -1 := by unfold s_el; rw [if_pos hsl, Int.toNat_natCast, if_pos hz, if_neg (by omega)]
        rw [e] at hQ
        exact hQ
      · refine T_iload_n dX9_element_29 rfl ?_
        refine T_aload_n dX9_element_30 rfl ?_
        refine T_getfield dX9_element_31 zkf_10_254 s0 rfl ?_
        refine T_icmp_lt dX9_element_34 (t := 39) rfl (fun c34 => ?_) (fun c34 => ?_)
        · obtain ⟨a, rfl⟩ := Int.eq_ofNat_of_zero_le (show 0 ≤ c by omega)
          refine T_aload_n dX9_element_39 rfl ?_
          refine T_getfield dX9_element_40 zkf_10_257 s0 rfl ?_
          refine T_iload_n dX9_element_43 rfl ?_
          refine T_ialoadN (m := a) dX9_element_44 s1 rfl (by omega) ?_
          refine T_iret dX9_element_45 rfl ?_
          have e : s_el L (j2 : Int) (a : Int) = nu a := by unfold s_el; rw [if_pos hsl, Int.toNat_natCast, if_pos hz, if_pos (by omega), Int.toNat_natCast, t2 a (by omega)]
          rw [e] at hQ
          exact hQ
        · refine T_iconst dX9_element_37 (by decide) ?_
          refine T_iret dX9_element_38 rfl ?_
          have e : s_el L (j2 : Int) c = -1 := by unfold s_el; rw [if_pos hsl, Int.toNat_natCast, if_pos hz, if_neg (by omega)]
          rw [e] at hQ
          exact hQ
    · refine T_aload_n dX9_element_20 rfl ?_
      refine T_callV dX9_element_21 zkm_10_251 (Or.inl rfl) rfl s0 ⟨Nat.le_of_ble_eq_true rfl, rfl⟩ rfl (Nat.le_of_ble_eq_true rfl) ?_
      refine m_X8_errorForArrays s0  (fun k21a => ?_) (fun k21a_2 => ?_)
      · refine T_iret dX9_element_24 rfl ?_
        have hz : zami L j2 1 = -6 := if_pos (by omega)
        have e : s_el L (j2 : Int) c = -6 := by unfold s_el; rw [if_pos hsl, Int.toNat_natCast, if_neg (by rw [hz]; decide), hz]
        rw [e] at hQ
        exact hQ
      · refine T_iret dX9_element_24 rfl ?_
        have hz : zami L j2 1 = -7 := by unfold zami; rw [if_neg (by omega), if_neg (by omega)]
        have e : s_el L (j2 : Int) c = -7 := by unfold s_el; rw [if_pos hsl, Int.toNat_natCast, if_neg (by rw [hz]; decide), hz]
        rw [e] at hQ
        exact hQ
  · refine T_astore_n dX9_element_5 (Nat.le_of_ble_eq_true rfl) ?_
    refine T_aload_n dX9_element_6 rfl ?_
    refine T_ifnonnull dX9_element_7 (t := 12) rfl (fun _ hc => by cases hc) (fun _ => ?_)
    refine T_iconst dX9_element_10 (by decide) ?_
    refine T_iret dX9_element_11 rfl ?_
    have e : s_el L i c = -1 := by exact if_neg (by exact k2a_2)
    rw [e] at hQ
    exact hQ
set_option maxHeartbeats 4000000 in
set_option maxRecDepth 100000 in
theorem m_X9_setElement {n0 n k : Nat} {g : Nat → zV} {h : zHp} {Q : Option zV → Nat → Nat → zHp → Prop} {B lo : Nat} {P : pT} {L : lT} {I O : tT} {V : Int × pT} {nb vb N : Nat} {cb : Nat → Nat} {i c v : Int} (hP : pwf P) (hL : lwf L) (hI : iwf I) (hO : owf O) (hV : vwf V) (hB : n0 ≤ B) (hcl : clAt h B lo n P L I O V nb cb vb N) (hQ : ∀  (h' : zHp), (clAt h' B lo n P (s_se L i c v).2 I O V nb cb vb N) → (∀ q : Nat, (q < B ∨ (B + 66 ≤ q ∧ q < lo)) → h' q = h q) → Q (some (.inl ((s_se L i c v).1))) n k h') : ZT n0 g mX9_setElement 0 (zloc mX9_setElement [.inr (some B), .inl i, .inl c, .inl v]) [] n k h Q := by
  show ZT n0 g mX9_setElement 0 [some (.inr (some B)), some (.inl i), some (.inl c), some (.inl v), none, none] [] n k h Q
  obtain ⟨o0, gp, gc, gsp, gsc, gw, gf, gi, go, gl, gsep, hlo⟩ := id hcl
  have hpb := hP.bd
  have gvb := go.vb
  have gcb := gf.co.2.2.1
  obtain ⟨⟨rf, l0, l1⟩, l2⟩ := id gl
  refine T_aload_n dX9_setElement_0 rfl ?_
  refine T_iload_n dX9_setElement_1 rfl ?_
  refine T_callV dX9_setElement_2 zkm_10_244 (Or.inl rfl) rfl o0 ⟨Nat.le_of_ble_eq_true rfl, rfl⟩ rfl (Nat.le_of_ble_eq_true rfl) ?_
  refine m_X9_findSlot o0 l0 l1 (fun j2 k2a k2b => ?_) (fun k2a_2 => ?_)
  · obtain ⟨le, nu, s0, s1, s2, s3⟩ := l2 j2 k2a
    obtain ⟨w1, w2, w3⟩ := hL j2 k2a
    subst k2b
    have hsl : sSl (j2 : Int) := ⟨by omega, by omega⟩
    refine T_astore dX9_setElement_5 (Nat.le_of_ble_eq_true rfl) ?_
    refine T_aload dX9_setElement_7 rfl ?_
    refine T_ifnonnull dX9_setElement_9 (t := 14) rfl (fun _ _ => ?_) (fun hc => by cases hc)
    refine T_iload_n dX9_setElement_14 rfl ?_
    refine T_if_lt dX9_setElement_15 (t := 25) rfl (fun c15 => ?_) (fun c15 => ?_)
    · refine T_bipush dX9_setElement_25 (by decide) ?_
      refine T_iret dX9_setElement_27 rfl ?_
      have e : s_se L (j2 : Int) c v = (-2, L) := by unfold s_se; rw [if_pos hsl, if_neg (by omega)]
      rw [e] at hQ
      exact hQ h hcl (fun _ _ => rfl)
    · refine T_iload_n dX9_setElement_18 rfl ?_
      refine T_sipush dX9_setElement_19 (by decide) ?_
      refine T_icmp_le dX9_setElement_22 (t := 28) rfl (fun c22 => ?_) (fun c22 => ?_)
      · refine T_aload dX9_setElement_28 rfl ?_
        refine T_getfield dX9_setElement_30 zkf_10_248 s0 rfl ?_
        refine T_iconst dX9_setElement_33 (by decide) ?_
        refine T_icmp_eq dX9_setElement_34 (t := 43) rfl (fun c34 => ?_) (fun c34 => ?_)
        · obtain ⟨t1, t2⟩ := s2 (by omega)
          have hz : zami L j2 1 = 0 := by unfold zami; rw [if_neg (by omega), if_pos (by omega)]
          have t3 := (w2 (by omega)).1
          refine T_iload_n dX9_setElement_43 rfl ?_
          refine T_if_lt dX9_setElement_44 (t := 56) rfl (fun c44 => ?_) (fun c44 => ?_)
          · refine T_iconst dX9_setElement_56 (by decide) ?_
            refine T_iret dX9_setElement_57 rfl ?_
            have e : s_se L (j2 : Int) c v = (-1, L) := by unfold s_se; rw [if_pos hsl, if_pos (by omega), Int.toNat_natCast, if_pos hz, if_neg (by omega)]
            rw [e] at hQ
            exact hQ h hcl (fun _ _ => rfl)
          · refine T_iload_n dX9_setElement_47 rfl ?_
            refine T_aload dX9_setElement_48 rfl ?_
            refine T_getfield dX9_setElement_50 zkf_10_254 s0 rfl ?_
            refine T_icmp_lt dX9_setElement_53 (t := 58) rfl (fun c53 => ?_) (fun c53 => ?_)
            · obtain ⟨a, rfl⟩ := Int.eq_ofNat_of_zero_le (show 0 ≤ c by omega)
              refine T_aload dX9_setElement_58 rfl ?_
              refine T_getfield dX9_setElement_60 zkf_10_257 s0 rfl ?_
              refine T_iload_n dX9_setElement_63 rfl ?_
              refine T_ialoadN (m := a) dX9_setElement_64 s1 rfl (by omega) ?_
              refine T_istore dX9_setElement_65 (Nat.le_of_ble_eq_true rfl) ?_
              refine T_aload dX9_setElement_67 rfl ?_
              refine T_getfield dX9_setElement_69 zkf_10_257 s0 rfl ?_
              refine T_iload_n dX9_setElement_72 rfl ?_
              refine T_iload_n dX9_setElement_73 rfl ?_
              refine T_iastoreN (m := a) dX9_setElement_74 s1 rfl (by omega) (by omega) ?_
              refine T_iload dX9_setElement_75 rfl ?_
              refine T_iret dX9_setElement_77 rfl ?_
              have e : s_se L (j2 : Int) (a : Int) v = (nu a, (L.1, L.2.1, zfu L.2.2.1 j2 (zfu (L.2.2.1 j2) a v), L.2.2.2)) := by unfold s_se; rw [if_pos hsl, if_pos (by omega), Int.toNat_natCast, if_pos hz, if_pos (by omega), Int.toNat_natCast, t2 a (by omega)]
              rw [e] at hQ
              exact hQ _ ⟨(zup_ne (by omega) o0), (gp.frame (fun q a1 a2 => ((zup_nf (by omega)).trans (rfl)))), (gc.frame (fun q a1 a2 => ((zup_nf (by omega)).trans (rfl)))), (gsp.frame (fun q a1 a2 => ((zup_nf (by omega)).trans (rfl)))), (gsc.frame (fun q a1 a2 => ((zup_nf (by omega)).trans (rfl)))), (gw.frame (fun q a1 a2 => ((zup_nf (by omega)).trans (rfl)))), (gf.frame hP (Nat.le_refl _) (fun q a1 a2 => ((zup_nf (by omega)).trans (rfl))) (fun i hi q a1 a2 => by have := gcb i hi; exact ((zup_nf (by omega)).trans (rfl)))), (gi.frame (fun q a1 a2 => ((zup_nf (by omega)).trans (rfl)))), (go.frame (Nat.le_refl _) (by exact ((zup_nf (by omega)).trans (rfl))) (by exact ((zup_nf (by omega)).trans (rfl)))), (gl.put (L' := (L.1, L.2.1, zfu L.2.2.1 j2 (zfu (L.2.2.1 j2) a v), L.2.2.2)) (le := le) (nu := _) k2a (zup_ne (by omega) s0) zup_self (fun _ => ⟨t1, fun q hq => by
                show zfu nu a v q = zfu L.2.2.1 j2 (zfu (L.2.2.1 j2) a v) j2 q
                rw [zfu_self]
                by_cases e9 : q = a
                · rw [e9, zfu_self, zfu_self]
                · rw [zfu_ne e9, zfu_ne e9]; exact t2 q hq⟩) (fun q => by have q9 : L.1 j2 = 2 := q; omega) (fun q a1 a2 a3 a4 => ((zup_nf (by omega)).trans (rfl))) (fun q b1 => ⟨by simp [zfu, b1], by simp [zfu, b1], by simp [zfu, b1], by simp [zfu, b1]⟩)), gsep, hlo⟩ (fun q a1 => ((zup_nf (by omega)).trans (rfl)))
            · refine T_iconst dX9_setElement_56 (by decide) ?_
              refine T_iret dX9_setElement_57 rfl ?_
              have e : s_se L (j2 : Int) c v = (-1, L) := by unfold s_se; rw [if_pos hsl, if_pos (by omega), Int.toNat_natCast, if_pos hz, if_neg (by omega)]
              rw [e] at hQ
              exact hQ h hcl (fun _ _ => rfl)
        · refine T_aload dX9_setElement_37 rfl ?_
          refine T_callV dX9_setElement_39 zkm_10_251 (Or.inl rfl) rfl s0 ⟨Nat.le_of_ble_eq_true rfl, rfl⟩ rfl (Nat.le_of_ble_eq_true rfl) ?_
          refine m_X8_errorForArrays s0  (fun k39a => ?_) (fun k39a_2 => ?_)
          · refine T_iret dX9_setElement_42 rfl ?_
            have hz : zami L j2 1 = -6 := if_pos (by omega)
            have e : s_se L (j2 : Int) c v = (-6, L) := by unfold s_se; rw [if_pos hsl, if_pos (by omega), Int.toNat_natCast, if_neg (by rw [hz]; decide), hz]
            rw [e] at hQ
            exact hQ h hcl (fun _ _ => rfl)
          · refine T_iret dX9_setElement_42 rfl ?_
            have hz : zami L j2 1 = -7 := by unfold zami; rw [if_neg (by omega), if_neg (by omega)]
            have e : s_se L (j2 : Int) c v = (-7, L) := by unfold s_se; rw [if_pos hsl, if_pos (by omega), Int.toNat_natCast, if_neg (by rw [hz]; decide), hz]
            rw [e] at hQ
            exact hQ h hcl (fun _ _ => rfl)
      · refine T_bipush dX9_setElement_25 (by decide) ?_
        refine T_iret dX9_setElement_27 rfl ?_
        have e : s_se L (j2 : Int) c v = (-2, L) := by unfold s_se; rw [if_pos hsl, if_neg (by omega)]
        rw [e] at hQ
        exact hQ h hcl (fun _ _ => rfl)
  · refine T_astore dX9_setElement_5 (Nat.le_of_ble_eq_true rfl) ?_
    refine T_aload dX9_setElement_7 rfl ?_
    refine T_ifnonnull dX9_setElement_9 (t := 14) rfl (fun _ hc => by cases hc) (fun _ => ?_)
    refine T_iconst dX9_setElement_12 (by decide) ?_
    refine T_iret dX9_setElement_13 rfl ?_
    have e : s_se L i c v = (-1, L) := by exact if_neg (by exact k2a_2)
    rw [e] at hQ
    exact hQ h hcl (fun _ _ => rfl)
set_option maxHeartbeats 4000000 in
set_option maxRecDepth 100000 in
theorem m_X9_storePolynomial {n0 n k : Nat} {g : Nat → zV} {h : zHp} {Q : Option zV → Nat → Nat → zHp → Prop} {B lo : Nat} {P : pT} {L : lT} {I O : tT} {V : Int × pT} {nb vb N : Nat} {cb : Nat → Nat} {i : Int} (hP : pwf P) (hL : lwf L) (hI : iwf I) (hO : owf O) (hV : vwf V) (hB : n0 ≤ B) (hcl : clAt h B lo n P L I O V nb cb vb N) (hQ : ∀  (h' : zHp), (clAt h' B lo n P (s_sp P L i).2 I O V nb cb vb N) → (∀ q : Nat, (q < B ∨ (B + 66 ≤ q ∧ q < lo)) → h' q = h q) → Q (some (.inl ((s_sp P L i).1))) n k h') : ZT n0 g mX9_storePolynomial 0 (zloc mX9_storePolynomial [.inr (some B), .inl i]) [] n k h Q := by
  show ZT n0 g mX9_storePolynomial 0 [some (.inr (some B)), some (.inl i), none] [] n k h Q
  obtain ⟨o0, gp, gc, gsp, gsc, gw, gf, gi, go, gl, gsep, hlo⟩ := id hcl
  have hpb := hP.bd
  have gvb := go.vb
  have gcb := gf.co.2.2.1
  obtain ⟨cu, c0, c1, c2⟩ := id gc
  obtain ⟨⟨rf, l0, l1⟩, l2⟩ := id gl
  refine T_aload_n dX9_storePolynomial_0 rfl ?_
  refine T_iload_n dX9_storePolynomial_1 rfl ?_
  refine T_callV dX9_storePolynomial_2 zkm_10_244 (Or.inl rfl) rfl o0 ⟨Nat.le_of_ble_eq_true rfl, rfl⟩ rfl (Nat.le_of_ble_eq_true rfl) ?_
  refine m_X9_findSlot o0 l0 l1 (fun j2 k2a k2b => ?_) (fun k2a_2 => ?_)
  · obtain ⟨le, nu, s0, s1, s2, s3⟩ := l2 j2 k2a
    obtain ⟨w1, w2, w3⟩ := hL j2 k2a
    subst k2b
    have hsl : sSl (j2 : Int) := ⟨by omega, by omega⟩
    refine T_astore_n dX9_storePolynomial_5 (Nat.le_of_ble_eq_true rfl) ?_
    refine T_aload_n dX9_storePolynomial_6 rfl ?_
    refine T_ifnonnull dX9_storePolynomial_7 (t := 12) rfl (fun _ _ => ?_) (fun hc => by cases hc)
    refine T_aload_n dX9_storePolynomial_12 rfl ?_
    refine T_aload_n dX9_storePolynomial_13 rfl ?_
    refine T_getfield dX9_storePolynomial_14 zkf_10_19 o0 rfl ?_
    refine T_callV dX9_storePolynomial_17 zkm_10_296 (Or.inl rfl) rfl s0 ⟨Nat.le_of_ble_eq_true rfl, rfl⟩ rfl (Nat.le_of_ble_eq_true rfl) ?_
    refine m_X8_holdPolynomial s0 s1 c0 c1 (by omega) (by omega) (fun nu'17 hh17 k17a f17a f17b fr17 => ?_)
    refine T_aload_n dX9_storePolynomial_20 rfl ?_
    refine T_getfield dX9_storePolynomial_21 zkf_10_19 ((fr17 _ (by omega) (by omega)).trans o0) rfl ?_
    refine T_callV dX9_storePolynomial_24 zkm_10_227 (Or.inl rfl) rfl ((fr17 _ (by omega) (by omega)).trans c0) ⟨Nat.le_of_ble_eq_true rfl, rfl⟩ rfl (Nat.le_of_ble_eq_true rfl) ?_
    refine m_X6_countTerms ((fr17 _ (by omega) (by omega)).trans c0) ((fr17 _ (by omega) (by omega)).trans c1)  ?_
    refine T_iret dX9_storePolynomial_27 rfl ?_
    have e : s_sp P L (j2 : Int) = ((znz cu 81 : Int), (zfu L.1 j2 2, L.2.1, L.2.2.1, zfu L.2.2.2 j2 P.2.2.2.2)) := by unfold s_sp; rw [if_pos hsl, Int.toNat_natCast, znz_ext c2]
    rw [e] at hQ
    exact hQ _ ⟨((fr17 _ (by omega) (by omega)).trans o0), (gp.frame (fun q a1 a2 => ((fr17 _ (by omega) (by omega)).trans (rfl)))), (gc.frame (fun q a1 a2 => ((fr17 _ (by omega) (by omega)).trans (rfl)))), (gsp.frame (fun q a1 a2 => ((fr17 _ (by omega) (by omega)).trans (rfl)))), (gsc.frame (fun q a1 a2 => ((fr17 _ (by omega) (by omega)).trans (rfl)))), (gw.frame (fun q a1 a2 => ((fr17 _ (by omega) (by omega)).trans (rfl)))), (gf.frame hP (Nat.le_refl _) (fun q a1 a2 => ((fr17 _ (by omega) (by omega)).trans (rfl))) (fun i hi q a1 a2 => by have := gcb i hi; exact ((fr17 _ (by omega) (by omega)).trans (rfl)))), (gi.frame (fun q a1 a2 => ((fr17 _ (by omega) (by omega)).trans (rfl)))), (go.frame (Nat.le_refl _) (by exact ((fr17 _ (by omega) (by omega)).trans (rfl))) (by exact ((fr17 _ (by omega) (by omega)).trans (rfl)))), (gl.put (L' := (zfu L.1 j2 2, L.2.1, L.2.2.1, zfu L.2.2.2 j2 P.2.2.2.2)) (le := 81) (nu := nu'17) k2a (by simpa [zfu_self] using f17a) f17b (fun q => by simp [zfu_self] at q) (fun _ m hm => by rw [k17a m hm, c2 m hm]; simp [zfu_self]) (fun q a1 a2 a3 a4 => ((fr17 _ (by omega) (by omega)).trans (rfl))) (fun q b1 => ⟨by simp [zfu, b1], by simp [zfu, b1], by simp [zfu, b1], by simp [zfu, b1]⟩)), gsep, hlo⟩ (fun q a1 => ((fr17 _ (by omega) (by omega)).trans (rfl)))
  · refine T_astore_n dX9_storePolynomial_5 (Nat.le_of_ble_eq_true rfl) ?_
    refine T_aload_n dX9_storePolynomial_6 rfl ?_
    refine T_ifnonnull dX9_storePolynomial_7 (t := 12) rfl (fun _ hc => by cases hc) (fun _ => ?_)
    refine T_iconst dX9_storePolynomial_10 (by decide) ?_
    refine T_iret dX9_storePolynomial_11 rfl ?_
    have e : s_sp P L i = (-1, L) := by exact if_neg (by exact k2a_2)
    rw [e] at hQ
    exact hQ h hcl (fun _ _ => rfl)
set_option maxHeartbeats 4000000 in
set_option maxRecDepth 100000 in
theorem m_X9_clearSlot {n0 n k : Nat} {g : Nat → zV} {h : zHp} {Q : Option zV → Nat → Nat → zHp → Prop} {B lo : Nat} {P : pT} {L : lT} {I O : tT} {V : Int × pT} {nb vb N : Nat} {cb : Nat → Nat} {i : Int} (hP : pwf P) (hL : lwf L) (hI : iwf I) (hO : owf O) (hV : vwf V) (hB : n0 ≤ B) (hcl : clAt h B lo n P L I O V nb cb vb N) (hQ : ∀  (h' : zHp), (clAt h' B lo n P (s_cs L i).2 I O V nb cb vb N) → (∀ q : Nat, (q < B ∨ (B + 66 ≤ q ∧ q < lo)) → h' q = h q) → Q (some (.inl ((s_cs L i).1))) n k h') : ZT n0 g mX9_clearSlot 0 (zloc mX9_clearSlot [.inr (some B), .inl i]) [] n k h Q := by
  show ZT n0 g mX9_clearSlot 0 [some (.inr (some B)), some (.inl i), none, none] [] n k h Q
  obtain ⟨o0, gp, gc, gsp, gsc, gw, gf, gi, go, gl, gsep, hlo⟩ := id hcl
  have hpb := hP.bd
  have gvb := go.vb
  have gcb := gf.co.2.2.1
  obtain ⟨⟨rf, l0, l1⟩, l2⟩ := id gl
  refine T_aload_n dX9_clearSlot_0 rfl ?_
  refine T_iload_n dX9_clearSlot_1 rfl ?_
  refine T_callV dX9_clearSlot_2 zkm_10_244 (Or.inl rfl) rfl o0 ⟨Nat.le_of_ble_eq_true rfl, rfl⟩ rfl (Nat.le_of_ble_eq_true rfl) ?_
  refine m_X9_findSlot o0 l0 l1 (fun j2 k2a k2b => ?_) (fun k2a_2 => ?_)
  · obtain ⟨le, nu, s0, s1, s2, s3⟩ := l2 j2 k2a
    obtain ⟨w1, w2, w3⟩ := hL j2 k2a
    subst k2b
    have hsl : sSl (j2 : Int) := ⟨by omega, by omega⟩
    refine T_astore_n dX9_clearSlot_5 (Nat.le_of_ble_eq_true rfl) ?_
    refine T_aload_n dX9_clearSlot_6 rfl ?_
    refine T_ifnonnull dX9_clearSlot_7 (t := 12) rfl (fun _ _ => ?_) (fun hc => by cases hc)
    refine T_aload_n dX9_clearSlot_12 rfl ?_
    refine T_getfield dX9_clearSlot_13 zkf_10_248 s0 rfl ?_
    refine T_istore_n dX9_clearSlot_16 (Nat.le_of_ble_eq_true rfl) ?_
    refine T_aload_n dX9_clearSlot_17 rfl ?_
    refine T_iconst dX9_clearSlot_18 (by decide) ?_
    refine T_putfield dX9_clearSlot_19 zkf_10_248 s0 (Nat.le_of_ble_eq_true rfl) (by omega) rfl (fun hf => absurd hf (by decide)) rfl ?_
    refine T_iload_n dX9_clearSlot_22 rfl ?_
    refine T_iret dX9_clearSlot_23 rfl ?_
    have e : s_cs L (j2 : Int) = ((L.1 j2 : Int), (zfu L.1 j2 0, L.2)) := by unfold s_cs; rw [if_pos hsl, Int.toNat_natCast]
    rw [e] at hQ
    exact hQ _ ⟨(zup_ne (by omega) o0), (gp.frame (fun q a1 a2 => ((zup_nf (by omega)).trans (rfl)))), (gc.frame (fun q a1 a2 => ((zup_nf (by omega)).trans (rfl)))), (gsp.frame (fun q a1 a2 => ((zup_nf (by omega)).trans (rfl)))), (gsc.frame (fun q a1 a2 => ((zup_nf (by omega)).trans (rfl)))), (gw.frame (fun q a1 a2 => ((zup_nf (by omega)).trans (rfl)))), (gf.frame hP (Nat.le_refl _) (fun q a1 a2 => ((zup_nf (by omega)).trans (rfl))) (fun i hi q a1 a2 => by have := gcb i hi; exact ((zup_nf (by omega)).trans (rfl)))), (gi.frame (fun q a1 a2 => ((zup_nf (by omega)).trans (rfl)))), (go.frame (Nat.le_refl _) (by exact ((zup_nf (by omega)).trans (rfl))) (by exact ((zup_nf (by omega)).trans (rfl)))), (gl.put (L' := (zfu L.1 j2 0, L.2)) (le := le) (nu := nu) k2a (by simpa [zfu_self] using zup_self) (zup_ne (by omega) s1) (fun q => by simp [zfu_self] at q) (fun q => by simp [zfu_self] at q) (fun q a1 a2 a3 a4 => ((zup_nf (by omega)).trans (rfl))) (fun q b1 => ⟨by simp [zfu, b1], by simp [zfu, b1], by simp [zfu, b1], by simp [zfu, b1]⟩)), gsep, hlo⟩ (fun q a1 => ((zup_nf (by omega)).trans (rfl)))
  · refine T_astore_n dX9_clearSlot_5 (Nat.le_of_ble_eq_true rfl) ?_
    refine T_aload_n dX9_clearSlot_6 rfl ?_
    refine T_ifnonnull dX9_clearSlot_7 (t := 12) rfl (fun _ hc => by cases hc) (fun _ => ?_)
    refine T_iconst dX9_clearSlot_10 (by decide) ?_
    refine T_iret dX9_clearSlot_11 rfl ?_
    have e : s_cs L i = (-1, L) := by exact if_neg (by exact k2a_2)
    rw [e] at hQ
    exact hQ h hcl (fun _ _ => rfl)
set_option maxHeartbeats 4000000 in
set_option maxRecDepth 100000 in
theorem m_X9_loadPolynomial_35 {n0 n k : Nat} {g : Nat → zV} {h : zHp} {Q : Option zV → Nat → Nat → zHp → Prop} {B lo : Nat} {P : pT} {L : lT} {I O : tT} {V : Int × pT} {nb vb N : Nat} {cb : Nat → Nat} {i : Int} (hP : pwf P) (hL : lwf L) (hI : iwf I) (hO : owf O) (hV : vwf V) (hB : n0 ≤ B) (hcl : clAt h B lo n P L I O V nb cb vb N) (hQ : ∀  (h' : zHp), (clAt h' B lo n (s_lp P L i).2 L I O V nb cb vb N) → (∀ q : Nat, (q < B ∨ (B + 66 ≤ q ∧ q < lo)) → h' q = h q) → Q (some (.inl ((s_lp P L i).1))) n k h') : ∀ (d : Nat) (j : Nat) (q : Nat) (u : Nat → Int), 81 - q = d → ∀ h1 : zHp, h1 (B + 5) = some (.inr (.inl (0, 81, u))) → (∀ q : Nat, q ≠ (B + 5) → h1 q = h q) → (j < 4 ∧ i = (j : Int) ∧ L.1 j = 2) → (q ≤ 81) → (∀ m, m < q → u m = L.2.2.2 j m % P.1) → ZT n0 g mX9_loadPolynomial 35 [some (.inr (some B)), some (.inl i), some (.inr (some (B + 2 * j + 58))), some (.inl (q : Int))] [] n k h1 Q := by
  intro d
  induction d using Nat.strongRecOn with | _ d ih => ?_
  intro j q u hd0 h1 m1 hfr hj hq hu
  subst hd0
  obtain ⟨o0, gp, gc, gsp, gsc, gw, gf, gi, go, gl, gsep, hlo⟩ := id hcl
  have hpb := hP.bd
  have gvb := go.vb
  have gcb := gf.co.2.2.1
  obtain ⟨xs, ys, p0, p1, p2, p3⟩ := id gp
  obtain ⟨cu, c0, c1, c2⟩ := id gc
  obtain ⟨⟨rf, l0, l1⟩, l2⟩ := id gl
  obtain ⟨le, nu, s0, s1, s2, s3⟩ := l2 j hj.1
  obtain ⟨w1, w2, w3⟩ := hL j hj.1
  refine T_iload_n dX9_loadPolynomial_35 rfl ?_
  refine T_bipush dX9_loadPolynomial_36 (by decide) ?_
  refine T_icmp_ge dX9_loadPolynomial_38 (t := 69) rfl (fun c38 => ?_) (fun c38 => ?_)
  · refine T_aload_n dX9_loadPolynomial_69 rfl ?_
    refine T_getfield dX9_loadPolynomial_70 zkf_10_19 ((hfr _ (by omega)).trans o0) rfl ?_
    refine T_callV dX9_loadPolynomial_73 zkm_10_227 (Or.inl rfl) rfl ((hfr _ (by omega)).trans c0) ⟨Nat.le_of_ble_eq_true rfl, rfl⟩ rfl (Nat.le_of_ble_eq_true rfl) ?_
    refine m_X6_countTerms ((hfr _ (by omega)).trans c0) m1  ?_
    refine T_iret dX9_loadPolynomial_76 rfl ?_
    obtain ⟨hj1, hj2, hj3⟩ := hj
    subst hj2
    have hsl : sSl (j : Int) := ⟨by omega, by omega⟩
    have hz : zami L j 2 = 0 := by unfold zami; rw [if_neg (by omega), if_pos (by omega)]
    have hu9 : ∀ m, m < 81 → u m = L.2.2.2 j m % P.1 := fun m hm => hu m (by omega)
    have e : s_lp P L (j : Int) = ((znz u 81 : Int), pC P (fun m => L.2.2.2 j m % P.1)) := by unfold s_lp; rw [if_pos hsl, Int.toNat_natCast, if_pos hz, znz_ext hu9]
    rw [e] at hQ
    exact hQ _ ⟨((hfr _ (by omega)).trans o0), (gp.frame (fun q a1 a2 => ((hfr _ (by omega)).trans (rfl)))), ⟨_, ((hfr _ (by omega)).trans c0), m1, hu9⟩, (gsp.frame (fun q a1 a2 => ((hfr _ (by omega)).trans (rfl)))), (gsc.frame (fun q a1 a2 => ((hfr _ (by omega)).trans (rfl)))), (gw.frame (fun q a1 a2 => ((hfr _ (by omega)).trans (rfl)))), (gFan.cur _ (gf.frame hP (Nat.le_refl _) (fun q a1 a2 => ((hfr _ (by omega)).trans (rfl))) (fun i hi q a1 a2 => by have := gcb i hi; exact ((hfr _ (by omega)).trans (rfl))))), (gi.frame (fun q a1 a2 => ((hfr _ (by omega)).trans (rfl)))), (go.frame (Nat.le_refl _) (by exact ((hfr _ (by omega)).trans (rfl))) (by exact ((hfr _ (by omega)).trans (rfl)))), (gl.frame (fun q a1 a2 => ((hfr _ (by omega)).trans (rfl)))), gsep, hlo⟩ (fun q a1 => ((hfr _ (by omega)).trans (rfl)))
  · refine T_aload_n dX9_loadPolynomial_41 rfl ?_
    refine T_getfield dX9_loadPolynomial_42 zkf_10_19 ((hfr _ (by omega)).trans o0) rfl ?_
    refine T_getfield dX9_loadPolynomial_45 zkf_10_221 ((hfr _ (by omega)).trans c0) rfl ?_
    refine T_iload_n dX9_loadPolynomial_48 rfl ?_
    refine T_aload_n dX9_loadPolynomial_49 rfl ?_
    refine T_getfield dX9_loadPolynomial_50 zkf_10_12 ((hfr _ (by omega)).trans o0) rfl ?_
    refine T_aload_n dX9_loadPolynomial_53 rfl ?_
    refine T_getfield dX9_loadPolynomial_54 zkf_10_257 ((hfr _ (by omega)).trans s0) rfl ?_
    refine T_iload_n dX9_loadPolynomial_57 rfl ?_
    refine T_ialoadN (m := q) dX9_loadPolynomial_58 ((hfr _ (by omega)).trans s1) rfl (by omega) ?_
    refine T_callV dX9_loadPolynomial_59 zkm_10_224 (Or.inl rfl) rfl ((hfr _ (by omega)).trans p0) ⟨Nat.le_of_ble_eq_true rfl, rfl⟩ rfl (Nat.le_of_ble_eq_true rfl) ?_
    refine m_X5_residue ((hfr _ (by omega)).trans p0) hpb (by rw [s3 hj.2.2 q (by omega)]; have := w3 hj.2.2 q (by omega); exact ⟨by omega, by omega⟩) ?_
    refine T_iastoreN (m := q) dX9_loadPolynomial_62 m1 rfl (by omega) (by omega) ?_
    refine T_iinc dX9_loadPolynomial_63 rfl ⟨by omega, by omega⟩ ?_
    refine T_goto dX9_loadPolynomial_66 (t := 35) rfl ?_
    exact ih _ (by omega) _ (q + 1) _ rfl _ zup_self (fun q q0 => ((zup_nf q0).trans ((hfr _ q0).trans rfl))) (by omega) (by omega) (fun y hy => by
          by_cases e9 : y = q
          · rw [e9, zfu_self, s3 hj.2.2 q (by omega)]
          · rw [zfu_ne e9]; exact hu y (by omega)) 
set_option maxHeartbeats 4000000 in
set_option maxRecDepth 100000 in
theorem m_X9_loadPolynomial {n0 n k : Nat} {g : Nat → zV} {h : zHp} {Q : Option zV → Nat → Nat → zHp → Prop} {B lo : Nat} {P : pT} {L : lT} {I O : tT} {V : Int × pT} {nb vb N : Nat} {cb : Nat → Nat} {i : Int} (hP : pwf P) (hL : lwf L) (hI : iwf I) (hO : owf O) (hV : vwf V) (hB : n0 ≤ B) (hcl : clAt h B lo n P L I O V nb cb vb N) (hQ : ∀  (h' : zHp), (clAt h' B lo n (s_lp P L i).2 L I O V nb cb vb N) → (∀ q : Nat, (q < B ∨ (B + 66 ≤ q ∧ q < lo)) → h' q = h q) → Q (some (.inl ((s_lp P L i).1))) n k h') : ZT n0 g mX9_loadPolynomial 0 (zloc mX9_loadPolynomial [.inr (some B), .inl i]) [] n k h Q := by
  show ZT n0 g mX9_loadPolynomial 0 [some (.inr (some B)), some (.inl i), none, none] [] n k h Q
  obtain ⟨o0, gp, gc, gsp, gsc, gw, gf, gi, go, gl, gsep, hlo⟩ := id hcl
  have hpb := hP.bd
  have gvb := go.vb
  have gcb := gf.co.2.2.1
  obtain ⟨xs, ys, p0, p1, p2, p3⟩ := id gp
  obtain ⟨cu, c0, c1, c2⟩ := id gc
  obtain ⟨⟨rf, l0, l1⟩, l2⟩ := id gl
  refine T_aload_n dX9_loadPolynomial_0 rfl ?_
  refine T_iload_n dX9_loadPolynomial_1 rfl ?_
  refine T_callV dX9_loadPolynomial_2 zkm_10_244 (Or.inl rfl) rfl o0 ⟨Nat.le_of_ble_eq_true rfl, rfl⟩ rfl (Nat.le_of_ble_eq_true rfl) ?_
  refine m_X9_findSlot o0 l0 l1 (fun j2 k2a k2b => ?_) (fun k2a_2 => ?_)
  · obtain ⟨le, nu, s0, s1, s2, s3⟩ := l2 j2 k2a
    obtain ⟨w1, w2, w3⟩ := hL j2 k2a
    subst k2b
    have hsl : sSl (j2 : Int) := ⟨by omega, by omega⟩
    refine T_astore_n dX9_loadPolynomial_5 (Nat.le_of_ble_eq_true rfl) ?_
    refine T_aload_n dX9_loadPolynomial_6 rfl ?_
    refine T_ifnonnull dX9_loadPolynomial_7 (t := 12) rfl (fun _ _ => ?_) (fun hc => by cases hc)
    refine T_aload_n dX9_loadPolynomial_12 rfl ?_
    refine T_getfield dX9_loadPolynomial_13 zkf_10_248 s0 rfl ?_
    refine T_if_ne dX9_loadPolynomial_16 (t := 22) rfl (fun c16 => ?_) (fun c16 => ?_)
    · refine T_aload_n dX9_loadPolynomial_22 rfl ?_
      refine T_getfield dX9_loadPolynomial_23 zkf_10_248 s0 rfl ?_
      refine T_iconst dX9_loadPolynomial_26 (by decide) ?_
      refine T_icmp_eq dX9_loadPolynomial_27 (t := 33) rfl (fun c27 => ?_) (fun c27 => ?_)
      · refine T_iconst dX9_loadPolynomial_33 (by decide) ?_
        refine T_istore_n dX9_loadPolynomial_34 (Nat.le_of_ble_eq_true rfl) ?_
        exact m_X9_loadPolynomial_35 hP hL hI hO hV hB hcl hQ _ j2 0 cu rfl _ c1 (fun q q0 => rfl) ⟨k2a, rfl, by omega⟩ (by omega) (fun i hi => absurd hi (Nat.not_lt_zero i)) 
      · refine T_bipush dX9_loadPolynomial_30 (by decide) ?_
        refine T_iret dX9_loadPolynomial_32 rfl ?_
        have hz : zami L j2 2 = -7 := by unfold zami; rw [if_neg (by omega), if_neg (by omega)]
        have e : s_lp P L (j2 : Int) = (-7, P) := by unfold s_lp; rw [if_pos hsl, Int.toNat_natCast, if_neg (by rw [hz]; decide), hz]
        rw [e] at hQ
        exact hQ h hcl (fun _ _ => rfl)
    · refine T_bipush dX9_loadPolynomial_19 (by decide) ?_
      refine T_iret dX9_loadPolynomial_21 rfl ?_
      have hz : zami L j2 2 = -6 := if_pos (by omega)
      have e : s_lp P L (j2 : Int) = (-6, P) := by unfold s_lp; rw [if_pos hsl, Int.toNat_natCast, if_neg (by rw [hz]; decide), hz]
      rw [e] at hQ
      exact hQ h hcl (fun _ _ => rfl)
  · refine T_astore_n dX9_loadPolynomial_5 (Nat.le_of_ble_eq_true rfl) ?_
    refine T_aload_n dX9_loadPolynomial_6 rfl ?_
    refine T_ifnonnull dX9_loadPolynomial_7 (t := 12) rfl (fun _ hc => by cases hc) (fun _ => ?_)
    refine T_iconst dX9_loadPolynomial_10 (by decide) ?_
    refine T_iret dX9_loadPolynomial_11 rfl ?_
    have e : s_lp P L i = (-1, P) := by exact if_neg (by exact k2a_2)
    rw [e] at hQ
    exact hQ h hcl (fun _ _ => rfl)
