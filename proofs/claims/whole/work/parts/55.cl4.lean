/-! ===== GroebnerFan: slots, snapshots: printed by wip/whole/gen/s_cl4.py ===== -/
theorem gSlt.put {h h' : zHp} {B j : Nat} {L L' : lT} {le : Int} {nu : Nat → Int} (g : gSlt h B L) (hj : j < 4) (o : h' (B + 2 * j + 388) = some (.inl (9, [.inl (L'.1 j : Int), .inl le, .inr (some (B + 2 * j + 389))]))) (a : zar h' (B + 2 * j + 389) 81 nu)
    (c1 : L'.1 j = 1 → le = (L'.2.1 j : Int) ∧ ∀ i, i < L'.2.1 j → nu i = L'.2.2.1 j i) (c2 : L'.1 j = 2 → ∀ m, m < 81 → nu m = L'.2.2.2 j m)
    (f : ∀ q, B + 387 ≤ q → q < B + 396 → q ≠ B + 2 * j + 388 → q ≠ B + 2 * j + 389 → h' q = h q) (e : ∀ k, k ≠ j → L'.1 k = L.1 k ∧ L'.2.1 k = L.2.1 k ∧ L'.2.2.1 k = L.2.2.1 k ∧ L'.2.2.2 k = L.2.2.2 k) : gSlt h' B L' := by
  obtain ⟨⟨rf, l0, l1⟩, l2⟩ := g
  refine ⟨⟨rf, (f _ (by omega) (by omega) (by omega) (by omega)).trans l0, l1⟩, fun k hk => ?_⟩
  by_cases ek : k = j
  · subst ek; exact ⟨le, nu, o, a, c1, c2⟩
  · obtain ⟨e1, e2, e3, e4⟩ := e k ek
    rw [e1, e2, e3, e4]
    obtain ⟨le', nu', x0, x1, x2, x3⟩ := l2 k hk
    exact ⟨le', nu', (f _ (by omega) (by omega) (by omega) (by omega)).trans x0, (f _ (by omega) (by omega) (by omega) (by omega)).trans x1, x2, x3⟩
set_option maxHeartbeats 4000000 in
set_option maxRecDepth 100000 in
theorem m_X9_newArray {n0 n k : Nat} {g : Nat → zV} {h : zHp} {Q : Option zV → Nat → Nat → zHp → Prop} {B lo : Nat} {P : pT} {L : lT} {I O : tT} {V : Int × pT} {nb vb N : Nat} {cb : Nat → Nat} {i v : Int} (hP : pwf P) (hL : lwf L) (hI : iwf I) (hO : owf O) (hV : vwf V) (hB : n0 ≤ B) (hcl : clAt h B lo n P L I O V nb cb vb N) (hQ : ∀  (h' : zHp), (clAt h' B lo n P (s_na L i v).2 I O V nb cb vb N) → (∀ q : Nat, (q < B ∨ (B + 396 ≤ q ∧ q < lo)) → h' q = h q) → Q (some (.inl ((s_na L i v).1))) n k h') : ZT n0 g mX9_newArray 0 (zloc mX9_newArray [.inr (some B), .inl i, .inl v]) [] n k h Q := by
  show ZT n0 g mX9_newArray 0 [some (.inr (some B)), some (.inl i), some (.inl v), none] [] n k h Q
  obtain ⟨o0, gp, gc, gsp, gsc, gw, gf, gi, go, gl, gsep, hlo⟩ := id hcl
  have hpb := hP.bd
  have gvb := go.vb
  have gcb := gf.co.2.2.1
  obtain ⟨⟨rf, l0, l1⟩, l2⟩ := id gl
  refine T_aload_n dX9_newArray_0 rfl ?_
  refine T_iload_n dX9_newArray_1 rfl ?_
  refine T_callV dX9_newArray_2 zkm_10_245 (Or.inl rfl) rfl o0 ⟨Nat.le_of_ble_eq_true rfl, rfl⟩ rfl (Nat.le_of_ble_eq_true rfl) ?_
  refine m_X9_findSlot o0 l0 l1 (fun j2 k2a k2b => ?_) (fun k2a_2 => ?_)
  · obtain ⟨le, nu, s0, s1, s2, s3⟩ := l2 j2 k2a
    obtain ⟨w1, w2, w3⟩ := hL j2 k2a
    subst k2b
    have hsl : sSl (j2 : Int) := ⟨by omega, by omega⟩
    refine T_astore_n dX9_newArray_5 (Nat.le_of_ble_eq_true rfl) ?_
    refine T_aload_n dX9_newArray_6 rfl ?_
    refine T_ifnonnull dX9_newArray_7 (t := 12) rfl (fun _ _ => ?_) (fun hc => by cases hc)
    refine T_iload_n dX9_newArray_12 rfl ?_
    refine T_bipush dX9_newArray_13 (by decide) ?_
    refine T_icmp_le dX9_newArray_15 (t := 21) rfl (fun c15 => ?_) (fun c15 => ?_)
    · refine T_iload_n dX9_newArray_21 rfl ?_
      refine T_if_ge dX9_newArray_22 (t := 28) rfl (fun c22 => ?_) (fun c22 => ?_)
      · refine T_aload_n dX9_newArray_28 rfl ?_
        refine T_iload_n dX9_newArray_29 rfl ?_
        refine T_callV dX9_newArray_30 zkm_10_294 (Or.inl rfl) rfl s0 ⟨Nat.le_of_ble_eq_true rfl, rfl⟩ rfl (Nat.le_of_ble_eq_true rfl) ?_
        refine m_X8_holdZeros s0 s1 (by omega) (fun nu'30 hh30 k30a f30a f30b fr30 => ?_)
        refine T_iconst dX9_newArray_33 (by decide) ?_
        refine T_iret dX9_newArray_34 rfl ?_
        have e : s_na L (j2 : Int) v = (1, (zfu L.1 j2 1, zfu L.2.1 j2 v.toNat, zfu L.2.2.1 j2 (fun _ => 0), L.2.2.2)) := by unfold s_na; rw [if_pos hsl, if_neg (by omega), if_neg (by omega), Int.toNat_natCast]
        rw [e] at hQ
        exact hQ _ ⟨((fr30 _ (by omega) (by omega)).trans o0), (gp.frame (fun q a1 a2 => ((fr30 _ (by omega) (by omega)).trans (rfl)))), (gc.frame (fun q a1 a2 => ((fr30 _ (by omega) (by omega)).trans (rfl)))), (gsp.frame (fun q a1 a2 => ((fr30 _ (by omega) (by omega)).trans (rfl)))), (gsc.frame (fun q a1 a2 => ((fr30 _ (by omega) (by omega)).trans (rfl)))), (gw.frame (fun q a1 a2 => ((fr30 _ (by omega) (by omega)).trans (rfl)))), (gf.frame hP (Nat.le_refl _) (fun q a1 a2 => ((fr30 _ (by omega) (by omega)).trans (rfl))) (fun i hi q a1 a2 => by have := gcb i hi; exact ((fr30 _ (by omega) (by omega)).trans (rfl)))), (gi.frame (fun q a1 a2 => ((fr30 _ (by omega) (by omega)).trans (rfl)))), (go.frame (Nat.le_refl _) (by exact ((fr30 _ (by omega) (by omega)).trans (rfl))) (by exact ((fr30 _ (by omega) (by omega)).trans (rfl)))), (gl.put (L' := (zfu L.1 j2 1, zfu L.2.1 j2 v.toNat, zfu L.2.2.1 j2 (fun _ => 0), L.2.2.2)) (le := v) (nu := nu'30) k2a (by simpa [zfu_self] using f30a) f30b (fun _ => ⟨by simp [zfu_self]; omega, fun i hi => by rw [k30a i (by simp [zfu_self] at hi; omega)]; simp [zfu_self]⟩) (fun q => by simp [zfu_self] at q) (fun q a1 a2 a3 a4 => ((fr30 _ (by omega) (by omega)).trans (rfl))) (fun q b1 => ⟨by simp [zfu, b1], by simp [zfu, b1], by simp [zfu, b1], by simp [zfu, b1]⟩)), gsep, hlo⟩ (fun q a1 => ((fr30 _ (by omega) (by omega)).trans (rfl)))
      · refine T_bipush dX9_newArray_25 (by decide) ?_
        refine T_iret dX9_newArray_27 rfl ?_
        have e : s_na L (j2 : Int) v = (-8, L) := by unfold s_na; rw [if_pos hsl, if_neg (by omega), if_pos (by omega)]
        rw [e] at hQ
        exact hQ h hcl (fun _ _ => rfl)
    · refine T_bipush dX9_newArray_18 (by decide) ?_
      refine T_iret dX9_newArray_20 rfl ?_
      have e : s_na L (j2 : Int) v = (-2, L) := by unfold s_na; rw [if_pos hsl, if_pos (by omega)]
      rw [e] at hQ
      exact hQ h hcl (fun _ _ => rfl)
  · refine T_astore_n dX9_newArray_5 (Nat.le_of_ble_eq_true rfl) ?_
    refine T_aload_n dX9_newArray_6 rfl ?_
    refine T_ifnonnull dX9_newArray_7 (t := 12) rfl (fun _ hc => by cases hc) (fun _ => ?_)
    refine T_iconst dX9_newArray_10 (by decide) ?_
    refine T_iret dX9_newArray_11 rfl ?_
    have e : s_na L i v = (-1, L) := by exact if_neg (by exact k2a_2)
    rw [e] at hQ
    exact hQ h hcl (fun _ _ => rfl)
set_option maxHeartbeats 4000000 in
set_option maxRecDepth 100000 in
theorem m_X9_element {n0 n k : Nat} {g : Nat → zV} {h : zHp} {Q : Option zV → Nat → Nat → zHp → Prop} {B lo : Nat} {P : pT} {L : lT} {I O : tT} {V : Int × pT} {nb vb N : Nat} {cb : Nat → Nat} {i c : Int} (hP : pwf P) (hL : lwf L) (hI : iwf I) (hO : owf O) (hV : vwf V) (hB : n0 ≤ B) (hcl : clAt h B lo n P L I O V nb cb vb N) (hQ : Q (some (.inl (s_el L i c))) n k h) : ZT n0 g mX9_element 0 (zloc mX9_element [.inr (some B), .inl i, .inl c]) [] n k h Q := by
  show ZT n0 g mX9_element 0 [some (.inr (some B)), some (.inl i), some (.inl c), none] [] n k h Q
  obtain ⟨o0, gp, gc, gsp, gsc, gw, gf, gi, go, gl, gsep, hlo⟩ := id hcl
  have hpb := hP.bd
  have gvb := go.vb
  have gcb := gf.co.2.2.1
  obtain ⟨⟨rf, l0, l1⟩, l2⟩ := id gl
  refine T_aload_n dX9_element_0 rfl ?_
  refine T_iload_n dX9_element_1 rfl ?_
  refine T_callV dX9_element_2 zkm_10_245 (Or.inl rfl) rfl o0 ⟨Nat.le_of_ble_eq_true rfl, rfl⟩ rfl (Nat.le_of_ble_eq_true rfl) ?_
  refine m_X9_findSlot o0 l0 l1 (fun j2 k2a k2b => ?_) (fun k2a_2 => ?_)
  · obtain ⟨le, nu, s0, s1, s2, s3⟩ := l2 j2 k2a
    obtain ⟨w1, w2, w3⟩ := hL j2 k2a
    subst k2b
    have hsl : sSl (j2 : Int) := ⟨by omega, by omega⟩
    refine T_astore_n dX9_element_5 (Nat.le_of_ble_eq_true rfl) ?_
    refine T_aload_n dX9_element_6 rfl ?_
    refine T_ifnonnull dX9_element_7 (t := 12) rfl (fun _ _ => ?_) (fun hc => by cases hc)
    refine T_aload_n dX9_element_12 rfl ?_
    refine T_getfield dX9_element_13 zkf_10_249 s0 rfl ?_
    refine T_iconst dX9_element_16 (by decide) ?_
    refine T_icmp_eq dX9_element_17 (t := 25) rfl (fun c17 => ?_) (fun c17 => ?_)
    · obtain ⟨t1, t2⟩ := s2 (by omega)
      have hz : zami L j2 1 = 0 := by unfold zami; rw [if_neg (by omega), if_pos (by omega)]
      have t3 := (w2 (by omega)).1
      refine T_iload_n dX9_element_25 rfl ?_
      refine T_if_lt dX9_element_26 (t := 37) rfl (fun c26 => ?_) (fun c26 => ?_)
      · refine T_iconst dX9_element_37 (by decide) ?_
        refine T_iret dX9_element_38 rfl ?_
        have e : s_el L (j2 : Int) c = -1 := by unfold s_el; rw [if_pos hsl, Int.toNat_natCast, if_pos hz, if_neg (by omega)]
        rw [e] at hQ
        exact hQ
      · refine T_iload_n dX9_element_29 rfl ?_
        refine T_aload_n dX9_element_30 rfl ?_
        refine T_getfield dX9_element_31 zkf_10_255 s0 rfl ?_
        refine T_icmp_lt dX9_element_34 (t := 39) rfl (fun c34 => ?_) (fun c34 => ?_)
        · obtain ⟨a, rfl⟩ := Int.eq_ofNat_of_zero_le (show 0 ≤ c by omega)
          refine T_aload_n dX9_element_39 rfl ?_
          refine T_getfield dX9_element_40 zkf_10_258 s0 rfl ?_
          refine T_iload_n dX9_element_43 rfl ?_
          refine T_ialoadN (m := a) dX9_element_44 s1 rfl (by omega) ?_
          refine T_iret dX9_element_45 rfl ?_
          have e : s_el L (j2 : Int) (a : Int) = nu a := by unfold s_el; rw [if_pos hsl, Int.toNat_natCast, if_pos hz, if_pos (by omega), Int.toNat_natCast, t2 a (by omega)]
          rw [e] at hQ
          exact hQ
        · refine T_iconst dX9_element_37 (by decide) ?_
          refine T_iret dX9_element_38 rfl ?_
          have e : s_el L (j2 : Int) c = -1 := by unfold s_el; rw [if_pos hsl, Int.toNat_natCast, if_pos hz, if_neg (by omega)]
          rw [e] at hQ
          exact hQ
    · refine T_aload_n dX9_element_20 rfl ?_
      refine T_callV dX9_element_21 zkm_10_252 (Or.inl rfl) rfl s0 ⟨Nat.le_of_ble_eq_true rfl, rfl⟩ rfl (Nat.le_of_ble_eq_true rfl) ?_
      refine m_X8_errorForArrays s0  (fun k21a => ?_) (fun k21a_2 => ?_)
      · refine T_iret dX9_element_24 rfl ?_
        have hz : zami L j2 1 = -6 := if_pos (by omega)
        have e : s_el L (j2 : Int) c = -6 := by unfold s_el; rw [if_pos hsl, Int.toNat_natCast, if_neg (by rw [hz]; decide), hz]
        rw [e] at hQ
        exact hQ
      · refine T_iret dX9_element_24 rfl ?_
        have hz : zami L j2 1 = -7 := by unfold zami; rw [if_neg (by omega), if_neg (by omega)]
        have e : s_el L (j2 : Int) c = -7 := by unfold s_el; rw [if_pos hsl, Int.toNat_natCast, if_neg (by rw [hz]; decide), hz]
        rw [e] at hQ
        exact hQ
  · refine T_astore_n dX9_element_5 (Nat.le_of_ble_eq_true rfl) ?_
    refine T_aload_n dX9_element_6 rfl ?_
    refine T_ifnonnull dX9_element_7 (t := 12) rfl (fun _ hc => by cases hc) (fun _ => ?_)
    refine T_iconst dX9_element_10 (by decide) ?_
    refine T_iret dX9_element_11 rfl ?_
    have e : s_el L i c = -1 := by exact if_neg (by exact k2a_2)
    rw [e] at hQ
    exact hQ
set_option maxHeartbeats 4000000 in
set_option maxRecDepth 100000 in
theorem m_X9_setElement {n0 n k : Nat} {g : Nat → zV} {h : zHp} {Q : Option zV → Nat → Nat → zHp → Prop} {B lo : Nat} {P : pT} {L : lT} {I O : tT} {V : Int × pT} {nb vb N : Nat} {cb : Nat → Nat} {i c v : Int} (hP : pwf P) (hL : lwf L) (hI : iwf I) (hO : owf O) (hV : vwf V) (hB : n0 ≤ B) (hcl : clAt h B lo n P L I O V nb cb vb N) (hQ : ∀  (h' : zHp), (clAt h' B lo n P (s_se L i c v).2 I O V nb cb vb N) → (∀ q : Nat, (q < B ∨ (B + 396 ≤ q ∧ q < lo)) → h' q = h q) → Q (some (.inl ((s_se L i c v).1))) n k h') : ZT n0 g mX9_setElement 0 (zloc mX9_setElement [.inr (some B), .inl i, .inl c, .inl v]) [] n k h Q := by
  show ZT n0 g mX9_setElement 0 [some (.inr (some B)), some (.inl i), some (.inl c), some (.inl v), none, none] [] n k h Q
  obtain ⟨o0, gp, gc, gsp, gsc, gw, gf, gi, go, gl, gsep, hlo⟩ := id hcl
  have hpb := hP.bd
  have gvb := go.vb
  have gcb := gf.co.2.2.1
  obtain ⟨⟨rf, l0, l1⟩, l2⟩ := id gl
  refine T_aload_n dX9_setElement_0 rfl ?_
  refine T_iload_n dX9_setElement_1 rfl ?_
  refine T_callV dX9_setElement_2 zkm_10_245 (Or.inl rfl) rfl o0 ⟨Nat.le_of_ble_eq_true rfl, rfl⟩ rfl (Nat.le_of_ble_eq_true rfl) ?_
  refine m_X9_findSlot o0 l0 l1 (fun j2 k2a k2b => ?_) (fun k2a_2 => ?_)
  · obtain ⟨le, nu, s0, s1, s2, s3⟩ := l2 j2 k2a
    obtain ⟨w1, w2, w3⟩ := hL j2 k2a
    subst k2b
    have hsl : sSl (j2 : Int) := ⟨by omega, by omega⟩
    refine T_astore dX9_setElement_5 (Nat.le_of_ble_eq_true rfl) ?_
    refine T_aload dX9_setElement_7 rfl ?_
    refine T_ifnonnull dX9_setElement_9 (t := 14) rfl (fun _ _ => ?_) (fun hc => by cases hc)
    refine T_iload_n dX9_setElement_14 rfl ?_
    refine T_if_lt dX9_setElement_15 (t := 25) rfl (fun c15 => ?_) (fun c15 => ?_)
    · refine T_bipush dX9_setElement_25 (by decide) ?_
      refine T_iret dX9_setElement_27 rfl ?_
      have e : s_se L (j2 : Int) c v = (-2, L) := by unfold s_se; rw [if_pos hsl, if_neg (by omega)]
      rw [e] at hQ
      exact hQ h hcl (fun _ _ => rfl)
    · refine T_iload_n dX9_setElement_18 rfl ?_
      refine T_sipush dX9_setElement_19 (by decide) ?_
      refine T_icmp_le dX9_setElement_22 (t := 28) rfl (fun c22 => ?_) (fun c22 => ?_)
      · refine T_aload dX9_setElement_28 rfl ?_
        refine T_getfield dX9_setElement_30 zkf_10_249 s0 rfl ?_
        refine T_iconst dX9_setElement_33 (by decide) ?_
        refine T_icmp_eq dX9_setElement_34 (t := 43) rfl (fun c34 => ?_) (fun c34 => ?_)
        · obtain ⟨t1, t2⟩ := s2 (by omega)
          have hz : zami L j2 1 = 0 := by unfold zami; rw [if_neg (by omega), if_pos (by omega)]
          have t3 := (w2 (by omega)).1
          refine T_iload_n dX9_setElement_43 rfl ?_
          refine T_if_lt dX9_setElement_44 (t := 56) rfl (fun c44 => ?_) (fun c44 => ?_)
          · refine T_iconst dX9_setElement_56 (by decide) ?_
            refine T_iret dX9_setElement_57 rfl ?_
            have e : s_se L (j2 : Int) c v = (-1, L) := by unfold s_se; rw [if_pos hsl, if_pos (by omega), Int.toNat_natCast, if_pos hz, if_neg (by omega)]
            rw [e] at hQ
            exact hQ h hcl (fun _ _ => rfl)
          · refine T_iload_n dX9_setElement_47 rfl ?_
            refine T_aload dX9_setElement_48 rfl ?_
            refine T_getfield dX9_setElement_50 zkf_10_255 s0 rfl ?_
            refine T_icmp_lt dX9_setElement_53 (t := 58) rfl (fun c53 => ?_) (fun c53 => ?_)
            · obtain ⟨a, rfl⟩ := Int.eq_ofNat_of_zero_le (show 0 ≤ c by omega)
              refine T_aload dX9_setElement_58 rfl ?_
              refine T_getfield dX9_setElement_60 zkf_10_258 s0 rfl ?_
              refine T_iload_n dX9_setElement_63 rfl ?_
              refine T_ialoadN (m := a) dX9_setElement_64 s1 rfl (by omega) ?_
              refine T_istore dX9_setElement_65 (Nat.le_of_ble_eq_true rfl) ?_
              refine T_aload dX9_setElement_67 rfl ?_
              refine T_getfield dX9_setElement_69 zkf_10_258 s0 rfl ?_
              refine T_iload_n dX9_setElement_72 rfl ?_
              refine T_iload_n dX9_setElement_73 rfl ?_
              refine T_iastoreN (m := a) dX9_setElement_74 s1 rfl (by omega) (by omega) ?_
              refine T_iload dX9_setElement_75 rfl ?_
              refine T_iret dX9_setElement_77 rfl ?_
              have e : s_se L (j2 : Int) (a : Int) v = (nu a, (L.1, L.2.1, zfu L.2.2.1 j2 (zfu (L.2.2.1 j2) a v), L.2.2.2)) := by unfold s_se; rw [if_pos hsl, if_pos (by omega), Int.toNat_natCast, if_pos hz, if_pos (by omega), Int.toNat_natCast, t2 a (by omega)]
              rw [e] at hQ
              exact hQ _ ⟨(zup_ne (by omega) o0), (gp.frame (fun q a1 a2 => ((zup_nf (by omega)).trans (rfl)))), (gc.frame (fun q a1 a2 => ((zup_nf (by omega)).trans (rfl)))), (gsp.frame (fun q a1 a2 => ((zup_nf (by omega)).trans (rfl)))), (gsc.frame (fun q a1 a2 => ((zup_nf (by omega)).trans (rfl)))), (gw.frame (fun q a1 a2 => ((zup_nf (by omega)).trans (rfl)))), (gf.frame hP (Nat.le_refl _) (fun q a1 a2 => ((zup_nf (by omega)).trans (rfl))) (fun i hi q a1 a2 => by have := gcb i hi; exact ((zup_nf (by omega)).trans (rfl)))), (gi.frame (fun q a1 a2 => ((zup_nf (by omega)).trans (rfl)))), (go.frame (Nat.le_refl _) (by exact ((zup_nf (by omega)).trans (rfl))) (by exact ((zup_nf (by omega)).trans (rfl)))), (gl.put (L' := (L.1, L.2.1, zfu L.2.2.1 j2 (zfu (L.2.2.1 j2) a v), L.2.2.2)) (le := le) (nu := _) k2a (zup_ne (by omega) s0) zup_self (fun _ => ⟨t1, fun q hq => by
                show zfu nu a v q = zfu L.2.2.1 j2 (zfu (L.2.2.1 j2) a v) j2 q
                rw [zfu_self]
                by_cases e9 : q = a
                · rw [e9, zfu_self, zfu_self]
                · rw [zfu_ne e9, zfu_ne e9]; exact t2 q hq⟩) (fun q => by have q9 : L.1 j2 = 2 := q; omega) (fun q a1 a2 a3 a4 => ((zup_nf (by omega)).trans (rfl))) (fun q b1 => ⟨by simp [zfu, b1], by simp [zfu, b1], by simp [zfu, b1], by simp [zfu, b1]⟩)), gsep, hlo⟩ (fun q a1 => ((zup_nf (by omega)).trans (rfl)))
            · refine T_iconst dX9_setElement_56 (by decide) ?_
              refine T_iret dX9_setElement_57 rfl ?_
              have e : s_se L (j2 : Int) c v = (-1, L) := by unfold s_se; rw [if_pos hsl, if_pos (by omega), Int.toNat_natCast, if_pos hz, if_neg (by omega)]
              rw [e] at hQ
              exact hQ h hcl (fun _ _ => rfl)
        · refine T_aload dX9_setElement_37 rfl ?_
          refine T_callV dX9_setElement_39 zkm_10_252 (Or.inl rfl) rfl s0 ⟨Nat.le_of_ble_eq_true rfl, rfl⟩ rfl (Nat.le_of_ble_eq_true rfl) ?_
          refine m_X8_errorForArrays s0  (fun k39a => ?_) (fun k39a_2 => ?_)
          · refine T_iret dX9_setElement_42 rfl ?_
            have hz : zami L j2 1 = -6 := if_pos (by omega)
            have e : s_se L (j2 : Int) c v = (-6, L) := by unfold s_se; rw [if_pos hsl, if_pos (by omega), Int.toNat_natCast, if_neg (by rw [hz]; decide), hz]
            rw [e] at hQ
            exact hQ h hcl (fun _ _ => rfl)
          · refine T_iret dX9_setElement_42 rfl ?_
            have hz : zami L j2 1 = -7 := by unfold zami; rw [if_neg (by omega), if_neg (by omega)]
            have e : s_se L (j2 : Int) c v = (-7, L) := by unfold s_se; rw [if_pos hsl, if_pos (by omega), Int.toNat_natCast, if_neg (by rw [hz]; decide), hz]
            rw [e] at hQ
            exact hQ h hcl (fun _ _ => rfl)
      · refine T_bipush dX9_setElement_25 (by decide) ?_
        refine T_iret dX9_setElement_27 rfl ?_
        have e : s_se L (j2 : Int) c v = (-2, L) := by unfold s_se; rw [if_pos hsl, if_neg (by omega)]
        rw [e] at hQ
        exact hQ h hcl (fun _ _ => rfl)
  · refine T_astore dX9_setElement_5 (Nat.le_of_ble_eq_true rfl) ?_
    refine T_aload dX9_setElement_7 rfl ?_
    refine T_ifnonnull dX9_setElement_9 (t := 14) rfl (fun _ hc => by cases hc) (fun _ => ?_)
    refine T_iconst dX9_setElement_12 (by decide) ?_
    refine T_iret dX9_setElement_13 rfl ?_
    have e : s_se L i c v = (-1, L) := by exact if_neg (by exact k2a_2)
    rw [e] at hQ
    exact hQ h hcl (fun _ _ => rfl)
set_option maxHeartbeats 4000000 in
set_option maxRecDepth 100000 in
theorem m_X9_storePolynomial {n0 n k : Nat} {g : Nat → zV} {h : zHp} {Q : Option zV → Nat → Nat → zHp → Prop} {B lo : Nat} {P : pT} {L : lT} {I O : tT} {V : Int × pT} {nb vb N : Nat} {cb : Nat → Nat} {i : Int} (hP : pwf P) (hL : lwf L) (hI : iwf I) (hO : owf O) (hV : vwf V) (hB : n0 ≤ B) (hcl : clAt h B lo n P L I O V nb cb vb N) (hQ : ∀  (h' : zHp), (clAt h' B lo n P (s_sp P L i).2 I O V nb cb vb N) → (∀ q : Nat, (q < B ∨ (B + 396 ≤ q ∧ q < lo)) → h' q = h q) → Q (some (.inl ((s_sp P L i).1))) n k h') : ZT n0 g mX9_storePolynomial 0 (zloc mX9_storePolynomial [.inr (some B), .inl i]) [] n k h Q := by
  show ZT n0 g mX9_storePolynomial 0 [some (.inr (some B)), some (.inl i), none] [] n k h Q
  obtain ⟨o0, gp, gc, gsp, gsc, gw, gf, gi, go, gl, gsep, hlo⟩ := id hcl
  have hpb := hP.bd
  have gvb := go.vb
  have gcb := gf.co.2.2.1
  obtain ⟨cu, c0, c1, c2⟩ := id gc
  obtain ⟨⟨rf, l0, l1⟩, l2⟩ := id gl
  refine T_aload_n dX9_storePolynomial_0 rfl ?_
  refine T_iload_n dX9_storePolynomial_1 rfl ?_
  refine T_callV dX9_storePolynomial_2 zkm_10_245 (Or.inl rfl) rfl o0 ⟨Nat.le_of_ble_eq_true rfl, rfl⟩ rfl (Nat.le_of_ble_eq_true rfl) ?_
  refine m_X9_findSlot o0 l0 l1 (fun j2 k2a k2b => ?_) (fun k2a_2 => ?_)
  · obtain ⟨le, nu, s0, s1, s2, s3⟩ := l2 j2 k2a
    obtain ⟨w1, w2, w3⟩ := hL j2 k2a
    subst k2b
    have hsl : sSl (j2 : Int) := ⟨by omega, by omega⟩
    refine T_astore_n dX9_storePolynomial_5 (Nat.le_of_ble_eq_true rfl) ?_
    refine T_aload_n dX9_storePolynomial_6 rfl ?_
    refine T_ifnonnull dX9_storePolynomial_7 (t := 12) rfl (fun _ _ => ?_) (fun hc => by cases hc)
    refine T_aload_n dX9_storePolynomial_12 rfl ?_
    refine T_aload_n dX9_storePolynomial_13 rfl ?_
    refine T_getfield dX9_storePolynomial_14 zkf_10_19 o0 rfl ?_
    refine T_callV dX9_storePolynomial_17 zkm_10_297 (Or.inl rfl) rfl s0 ⟨Nat.le_of_ble_eq_true rfl, rfl⟩ rfl (Nat.le_of_ble_eq_true rfl) ?_
    refine m_X8_holdPolynomial s0 s1 c0 c1 (by omega) (by omega) (fun nu'17 hh17 k17a f17a f17b fr17 => ?_)
    refine T_aload_n dX9_storePolynomial_20 rfl ?_
    refine T_getfield dX9_storePolynomial_21 zkf_10_19 ((fr17 _ (by omega) (by omega)).trans o0) rfl ?_
    refine T_callV dX9_storePolynomial_24 zkm_10_228 (Or.inl rfl) rfl ((fr17 _ (by omega) (by omega)).trans c0) ⟨Nat.le_of_ble_eq_true rfl, rfl⟩ rfl (Nat.le_of_ble_eq_true rfl) ?_
    refine m_X6_countTerms ((fr17 _ (by omega) (by omega)).trans c0) ((fr17 _ (by omega) (by omega)).trans c1)  ?_
    refine T_iret dX9_storePolynomial_27 rfl ?_
    have e : s_sp P L (j2 : Int) = ((znz cu 81 : Int), (zfu L.1 j2 2, L.2.1, L.2.2.1, zfu L.2.2.2 j2 P.2.2.2.2)) := by unfold s_sp; rw [if_pos hsl, Int.toNat_natCast, znz_ext c2]
    rw [e] at hQ
    exact hQ _ ⟨((fr17 _ (by omega) (by omega)).trans o0), (gp.frame (fun q a1 a2 => ((fr17 _ (by omega) (by omega)).trans (rfl)))), (gc.frame (fun q a1 a2 => ((fr17 _ (by omega) (by omega)).trans (rfl)))), (gsp.frame (fun q a1 a2 => ((fr17 _ (by omega) (by omega)).trans (rfl)))), (gsc.frame (fun q a1 a2 => ((fr17 _ (by omega) (by omega)).trans (rfl)))), (gw.frame (fun q a1 a2 => ((fr17 _ (by omega) (by omega)).trans (rfl)))), (gf.frame hP (Nat.le_refl _) (fun q a1 a2 => ((fr17 _ (by omega) (by omega)).trans (rfl))) (fun i hi q a1 a2 => by have := gcb i hi; exact ((fr17 _ (by omega) (by omega)).trans (rfl)))), (gi.frame (fun q a1 a2 => ((fr17 _ (by omega) (by omega)).trans (rfl)))), (go.frame (Nat.le_refl _) (by exact ((fr17 _ (by omega) (by omega)).trans (rfl))) (by exact ((fr17 _ (by omega) (by omega)).trans (rfl)))), (gl.put (L' := (zfu L.1 j2 2, L.2.1, L.2.2.1, zfu L.2.2.2 j2 P.2.2.2.2)) (le := 81) (nu := nu'17) k2a (by simpa [zfu_self] using f17a) f17b (fun q => by simp [zfu_self] at q) (fun _ m hm => by rw [k17a m hm, c2 m hm]; simp [zfu_self]) (fun q a1 a2 a3 a4 => ((fr17 _ (by omega) (by omega)).trans (rfl))) (fun q b1 => ⟨by simp [zfu, b1], by simp [zfu, b1], by simp [zfu, b1], by simp [zfu, b1]⟩)), gsep, hlo⟩ (fun q a1 => ((fr17 _ (by omega) (by omega)).trans (rfl)))
  · refine T_astore_n dX9_storePolynomial_5 (Nat.le_of_ble_eq_true rfl) ?_
    refine T_aload_n dX9_storePolynomial_6 rfl ?_
    refine T_ifnonnull dX9_storePolynomial_7 (t := 12) rfl (fun _ hc => by cases hc) (fun _ => ?_)
    refine T_iconst dX9_storePolynomial_10 (by decide) ?_
    refine T_iret dX9_storePolynomial_11 rfl ?_
    have e : s_sp P L i = (-1, L) := by exact if_neg (by exact k2a_2)
    rw [e] at hQ
    exact hQ h hcl (fun _ _ => rfl)
set_option maxHeartbeats 4000000 in
set_option maxRecDepth 100000 in
theorem m_X9_clearSlot {n0 n k : Nat} {g : Nat → zV} {h : zHp} {Q : Option zV → Nat → Nat → zHp → Prop} {B lo : Nat} {P : pT} {L : lT} {I O : tT} {V : Int × pT} {nb vb N : Nat} {cb : Nat → Nat} {i : Int} (hP : pwf P) (hL : lwf L) (hI : iwf I) (hO : owf O) (hV : vwf V) (hB : n0 ≤ B) (hcl : clAt h B lo n P L I O V nb cb vb N) (hQ : ∀  (h' : zHp), (clAt h' B lo n P (s_cs L i).2 I O V nb cb vb N) → (∀ q : Nat, (q < B ∨ (B + 396 ≤ q ∧ q < lo)) → h' q = h q) → Q (some (.inl ((s_cs L i).1))) n k h') : ZT n0 g mX9_clearSlot 0 (zloc mX9_clearSlot [.inr (some B), .inl i]) [] n k h Q := by
  show ZT n0 g mX9_clearSlot 0 [some (.inr (some B)), some (.inl i), none, none] [] n k h Q
  obtain ⟨o0, gp, gc, gsp, gsc, gw, gf, gi, go, gl, gsep, hlo⟩ := id hcl
  have hpb := hP.bd
  have gvb := go.vb
  have gcb := gf.co.2.2.1
  obtain ⟨⟨rf, l0, l1⟩, l2⟩ := id gl
  refine T_aload_n dX9_clearSlot_0 rfl ?_
  refine T_iload_n dX9_clearSlot_1 rfl ?_
  refine T_callV dX9_clearSlot_2 zkm_10_245 (Or.inl rfl) rfl o0 ⟨Nat.le_of_ble_eq_true rfl, rfl⟩ rfl (Nat.le_of_ble_eq_true rfl) ?_
  refine m_X9_findSlot o0 l0 l1 (fun j2 k2a k2b => ?_) (fun k2a_2 => ?_)
  · obtain ⟨le, nu, s0, s1, s2, s3⟩ := l2 j2 k2a
    obtain ⟨w1, w2, w3⟩ := hL j2 k2a
    subst k2b
    have hsl : sSl (j2 : Int) := ⟨by omega, by omega⟩
    refine T_astore_n dX9_clearSlot_5 (Nat.le_of_ble_eq_true rfl) ?_
    refine T_aload_n dX9_clearSlot_6 rfl ?_
    refine T_ifnonnull dX9_clearSlot_7 (t := 12) rfl (fun _ _ => ?_) (fun hc => by cases hc)
    refine T_aload_n dX9_clearSlot_12 rfl ?_
    refine T_getfield dX9_clearSlot_13 zkf_10_249 s0 rfl ?_
    refine T_istore_n dX9_clearSlot_16 (Nat.le_of_ble_eq_true rfl) ?_
    refine T_aload_n dX9_clearSlot_17 rfl ?_
    refine T_iconst dX9_clearSlot_18 (by decide) ?_
    refine T_putfield dX9_clearSlot_19 zkf_10_249 s0 (Nat.le_of_ble_eq_true rfl) (by omega) rfl (fun hf => absurd hf (by decide)) rfl ?_
    refine T_iload_n dX9_clearSlot_22 rfl ?_
    refine T_iret dX9_clearSlot_23 rfl ?_
    have e : s_cs L (j2 : Int) = ((L.1 j2 : Int), (zfu L.1 j2 0, L.2)) := by unfold s_cs; rw [if_pos hsl, Int.toNat_natCast]
    rw [e] at hQ
    exact hQ _ ⟨(zup_ne (by omega) o0), (gp.frame (fun q a1 a2 => ((zup_nf (by omega)).trans (rfl)))), (gc.frame (fun q a1 a2 => ((zup_nf (by omega)).trans (rfl)))), (gsp.frame (fun q a1 a2 => ((zup_nf (by omega)).trans (rfl)))), (gsc.frame (fun q a1 a2 => ((zup_nf (by omega)).trans (rfl)))), (gw.frame (fun q a1 a2 => ((zup_nf (by omega)).trans (rfl)))), (gf.frame hP (Nat.le_refl _) (fun q a1 a2 => ((zup_nf (by omega)).trans (rfl))) (fun i hi q a1 a2 => by have := gcb i hi; exact ((zup_nf (by omega)).trans (rfl)))), (gi.frame (fun q a1 a2 => ((zup_nf (by omega)).trans (rfl)))), (go.frame (Nat.le_refl _) (by exact ((zup_nf (by omega)).trans (rfl))) (by exact ((zup_nf (by omega)).trans (rfl)))), (gl.put (L' := (zfu L.1 j2 0, L.2)) (le := le) (nu := nu) k2a (by simpa [zfu_self] using zup_self) (zup_ne (by omega) s1) (fun q => by simp [zfu_self] at q) (fun q => by simp [zfu_self] at q) (fun q a1 a2 a3 a4 => ((zup_nf (by omega)).trans (rfl))) (fun q b1 => ⟨by simp [zfu, b1], by simp [zfu, b1], by simp [zfu, b1], by simp [zfu, b1]⟩)), gsep, hlo⟩ (fun q a1 => ((zup_nf (by omega)).trans (rfl)))
  · refine T_astore_n dX9_clearSlot_5 (Nat.le_of_ble_eq_true rfl) ?_
    refine T_aload_n dX9_clearSlot_6 rfl ?_
    refine T_ifnonnull dX9_clearSlot_7 (t := 12) rfl (fun _ hc => by cases hc) (fun _ => ?_)
    refine T_iconst dX9_clearSlot_10 (by decide) ?_
    refine T_iret dX9_clearSlot_11 rfl ?_
    have e : s_cs L i = (-1, L) := by exact if_neg (by exact k2a_2)
    rw [e] at hQ
    exact hQ h hcl (fun _ _ => rfl)
set_option maxHeartbeats 4000000 in
set_option maxRecDepth 100000 in
theorem m_X9_loadPolynomial_35 {n0 n k : Nat} {g : Nat → zV} {h : zHp} {Q : Option zV → Nat → Nat → zHp → Prop} {B lo : Nat} {P : pT} {L : lT} {I O : tT} {V : Int × pT} {nb vb N : Nat} {cb : Nat → Nat} {i : Int} (hP : pwf P) (hL : lwf L) (hI : iwf I) (hO : owf O) (hV : vwf V) (hB : n0 ≤ B) (hcl : clAt h B lo n P L I O V nb cb vb N) (hQ : ∀  (h' : zHp), (clAt h' B lo n (s_lp P L i).2 L I O V nb cb vb N) → (∀ q : Nat, (q < B ∨ (B + 396 ≤ q ∧ q < lo)) → h' q = h q) → Q (some (.inl ((s_lp P L i).1))) n k h') : ∀ (d : Nat) (j : Nat) (q : Nat) (u : Nat → Int), 81 - q = d → ∀ h1 : zHp, h1 (B + 5) = some (.inr (.inl (0, 81, u))) → (∀ q : Nat, q ≠ (B + 5) → h1 q = h q) → (j < 4 ∧ i = (j : Int) ∧ L.1 j = 2) → (q ≤ 81) → (∀ m, m < q → u m = L.2.2.2 j m % P.1) → ZT n0 g mX9_loadPolynomial 35 [some (.inr (some B)), some (.inl i), some (.inr (some (B + 2 * j + 388))), some (.inl (q : Int))] [] n k h1 Q := by
  intro d
  induction d using Nat.strongRecOn with | _ d ih => ?_
  intro j q u hd0 h1 m1 hfr hj hq hu
  subst hd0
  obtain ⟨o0, gp, gc, gsp, gsc, gw, gf, gi, go, gl, gsep, hlo⟩ := id hcl
  have hpb := hP.bd
  have gvb := go.vb
  have gcb := gf.co.2.2.1
  obtain ⟨xs, ys, p0, p1, p2, p3⟩ := id gp
  obtain ⟨cu, c0, c1, c2⟩ := id gc
  obtain ⟨⟨rf, l0, l1⟩, l2⟩ := id gl
  obtain ⟨le, nu, s0, s1, s2, s3⟩ := l2 j hj.1
  obtain ⟨w1, w2, w3⟩ := hL j hj.1
  refine T_iload_n dX9_loadPolynomial_35 rfl ?_
  refine T_bipush dX9_loadPolynomial_36 (by decide) ?_
  refine T_icmp_ge dX9_loadPolynomial_38 (t := 69) rfl (fun c38 => ?_) (fun c38 => ?_)
  · refine T_aload_n dX9_loadPolynomial_69 rfl ?_
    refine T_getfield dX9_loadPolynomial_70 zkf_10_19 ((hfr _ (by omega)).trans o0) rfl ?_
    refine T_callV dX9_loadPolynomial_73 zkm_10_228 (Or.inl rfl) rfl ((hfr _ (by omega)).trans c0) ⟨Nat.le_of_ble_eq_true rfl, rfl⟩ rfl (Nat.le_of_ble_eq_true rfl) ?_
    refine m_X6_countTerms ((hfr _ (by omega)).trans c0) m1  ?_
    refine T_iret dX9_loadPolynomial_76 rfl ?_
    obtain ⟨hj1, hj2, hj3⟩ := hj
    subst hj2
    have hsl : sSl (j : Int) := ⟨by omega, by omega⟩
    have hz : zami L j 2 = 0 := by unfold zami; rw [if_neg (by omega), if_pos (by omega)]
    have hu9 : ∀ m, m < 81 → u m = L.2.2.2 j m % P.1 := fun m hm => hu m (by omega)
    have e : s_lp P L (j : Int) = ((znz u 81 : Int), pC P (fun m => L.2.2.2 j m % P.1)) := by unfold s_lp; rw [if_pos hsl, Int.toNat_natCast, if_pos hz, znz_ext hu9]
    rw [e] at hQ
    exact hQ _ ⟨((hfr _ (by omega)).trans o0), (gp.frame (fun q a1 a2 => ((hfr _ (by omega)).trans (rfl)))), ⟨_, ((hfr _ (by omega)).trans c0), m1, hu9⟩, (gsp.frame (fun q a1 a2 => ((hfr _ (by omega)).trans (rfl)))), (gsc.frame (fun q a1 a2 => ((hfr _ (by omega)).trans (rfl)))), (gw.frame (fun q a1 a2 => ((hfr _ (by omega)).trans (rfl)))), (gFan.cur _ (gf.frame hP (Nat.le_refl _) (fun q a1 a2 => ((hfr _ (by omega)).trans (rfl))) (fun i hi q a1 a2 => by have := gcb i hi; exact ((hfr _ (by omega)).trans (rfl))))), (gi.frame (fun q a1 a2 => ((hfr _ (by omega)).trans (rfl)))), (go.frame (Nat.le_refl _) (by exact ((hfr _ (by omega)).trans (rfl))) (by exact ((hfr _ (by omega)).trans (rfl)))), (gl.frame (fun q a1 a2 => ((hfr _ (by omega)).trans (rfl)))), gsep, hlo⟩ (fun q a1 => ((hfr _ (by omega)).trans (rfl)))
  · refine T_aload_n dX9_loadPolynomial_41 rfl ?_
    refine T_getfield dX9_loadPolynomial_42 zkf_10_19 ((hfr _ (by omega)).trans o0) rfl ?_
    refine T_getfield dX9_loadPolynomial_45 zkf_10_222 ((hfr _ (by omega)).trans c0) rfl ?_
    refine T_iload_n dX9_loadPolynomial_48 rfl ?_
    refine T_aload_n dX9_loadPolynomial_49 rfl ?_
    refine T_getfield dX9_loadPolynomial_50 zkf_10_12 ((hfr _ (by omega)).trans o0) rfl ?_
    refine T_aload_n dX9_loadPolynomial_53 rfl ?_
    refine T_getfield dX9_loadPolynomial_54 zkf_10_258 ((hfr _ (by omega)).trans s0) rfl ?_
    refine T_iload_n dX9_loadPolynomial_57 rfl ?_
    refine T_ialoadN (m := q) dX9_loadPolynomial_58 ((hfr _ (by omega)).trans s1) rfl (by omega) ?_
    refine T_callV dX9_loadPolynomial_59 zkm_10_225 (Or.inl rfl) rfl ((hfr _ (by omega)).trans p0) ⟨Nat.le_of_ble_eq_true rfl, rfl⟩ rfl (Nat.le_of_ble_eq_true rfl) ?_
    refine m_X5_residue ((hfr _ (by omega)).trans p0) hpb (by rw [s3 hj.2.2 q (by omega)]; have := w3 hj.2.2 q (by omega); exact ⟨by omega, by omega⟩) ?_
    refine T_iastoreN (m := q) dX9_loadPolynomial_62 m1 rfl (by omega) (by omega) ?_
    refine T_iinc dX9_loadPolynomial_63 rfl ⟨by omega, by omega⟩ ?_
    refine T_goto dX9_loadPolynomial_66 (t := 35) rfl ?_
    exact ih _ (by omega) _ (q + 1) _ rfl _ zup_self (fun q q0 => ((zup_nf q0).trans ((hfr _ q0).trans rfl))) (by omega) (by omega) (fun y hy => by
          by_cases e9 : y = q
          · rw [e9, zfu_self, s3 hj.2.2 q (by omega)]
          · rw [zfu_ne e9]; exact hu y (by omega)) 
set_option maxHeartbeats 4000000 in
set_option maxRecDepth 100000 in
theorem m_X9_loadPolynomial {n0 n k : Nat} {g : Nat → zV} {h : zHp} {Q : Option zV → Nat → Nat → zHp → Prop} {B lo : Nat} {P : pT} {L : lT} {I O : tT} {V : Int × pT} {nb vb N : Nat} {cb : Nat → Nat} {i : Int} (hP : pwf P) (hL : lwf L) (hI : iwf I) (hO : owf O) (hV : vwf V) (hB : n0 ≤ B) (hcl : clAt h B lo n P L I O V nb cb vb N) (hQ : ∀  (h' : zHp), (clAt h' B lo n (s_lp P L i).2 L I O V nb cb vb N) → (∀ q : Nat, (q < B ∨ (B + 396 ≤ q ∧ q < lo)) → h' q = h q) → Q (some (.inl ((s_lp P L i).1))) n k h') : ZT n0 g mX9_loadPolynomial 0 (zloc mX9_loadPolynomial [.inr (some B), .inl i]) [] n k h Q := by
  show ZT n0 g mX9_loadPolynomial 0 [some (.inr (some B)), some (.inl i), none, none] [] n k h Q
  obtain ⟨o0, gp, gc, gsp, gsc, gw, gf, gi, go, gl, gsep, hlo⟩ := id hcl
  have hpb := hP.bd
  have gvb := go.vb
  have gcb := gf.co.2.2.1
  obtain ⟨xs, ys, p0, p1, p2, p3⟩ := id gp
  obtain ⟨cu, c0, c1, c2⟩ := id gc
  obtain ⟨⟨rf, l0, l1⟩, l2⟩ := id gl
  refine T_aload_n dX9_loadPolynomial_0 rfl ?_
  refine T_iload_n dX9_loadPolynomial_1 rfl ?_
  refine T_callV dX9_loadPolynomial_2 zkm_10_245 (Or.inl rfl) rfl o0 ⟨Nat.le_of_ble_eq_true rfl, rfl⟩ rfl (Nat.le_of_ble_eq_true rfl) ?_
  refine m_X9_findSlot o0 l0 l1 (fun j2 k2a k2b => ?_) (fun k2a_2 => ?_)
  · obtain ⟨le, nu, s0, s1, s2, s3⟩ := l2 j2 k2a
    obtain ⟨w1, w2, w3⟩ := hL j2 k2a
    subst k2b
    have hsl : sSl (j2 : Int) := ⟨by omega, by omega⟩
    refine T_astore_n dX9_loadPolynomial_5 (Nat.le_of_ble_eq_true rfl) ?_
    refine T_aload_n dX9_loadPolynomial_6 rfl ?_
    refine T_ifnonnull dX9_loadPolynomial_7 (t := 12) rfl (fun _ _ => ?_) (fun hc => by cases hc)
    refine T_aload_n dX9_loadPolynomial_12 rfl ?_
    refine T_getfield dX9_loadPolynomial_13 zkf_10_249 s0 rfl ?_
    refine T_if_ne dX9_loadPolynomial_16 (t := 22) rfl (fun c16 => ?_) (fun c16 => ?_)
    · refine T_aload_n dX9_loadPolynomial_22 rfl ?_
      refine T_getfield dX9_loadPolynomial_23 zkf_10_249 s0 rfl ?_
      refine T_iconst dX9_loadPolynomial_26 (by decide) ?_
      refine T_icmp_eq dX9_loadPolynomial_27 (t := 33) rfl (fun c27 => ?_) (fun c27 => ?_)
      · refine T_iconst dX9_loadPolynomial_33 (by decide) ?_
        refine T_istore_n dX9_loadPolynomial_34 (Nat.le_of_ble_eq_true rfl) ?_
        exact m_X9_loadPolynomial_35 hP hL hI hO hV hB hcl hQ _ j2 0 cu rfl _ c1 (fun q q0 => rfl) ⟨k2a, rfl, by omega⟩ (by omega) (fun i hi => absurd hi (Nat.not_lt_zero i)) 
      · refine T_bipush dX9_loadPolynomial_30 (by decide) ?_
        refine T_iret dX9_loadPolynomial_32 rfl ?_
        have hz : zami L j2 2 = -7 := by unfold zami; rw [if_neg (by omega), if_neg (by omega)]
        have e : s_lp P L (j2 : Int) = (-7, P) := by unfold s_lp; rw [if_pos hsl, Int.toNat_natCast, if_neg (by rw [hz]; decide), hz]
        rw [e] at hQ
        exact hQ h hcl (fun _ _ => rfl)
    · refine T_bipush dX9_loadPolynomial_19 (by decide) ?_
      refine T_iret dX9_loadPolynomial_21 rfl ?_
      have hz : zami L j2 2 = -6 := if_pos (by omega)
      have e : s_lp P L (j2 : Int) = (-6, P) := by unfold s_lp; rw [if_pos hsl, Int.toNat_natCast, if_neg (by rw [hz]; decide), hz]
      rw [e] at hQ
      exact hQ h hcl (fun _ _ => rfl)
  · refine T_astore_n dX9_loadPolynomial_5 (Nat.le_of_ble_eq_true rfl) ?_
    refine T_aload_n dX9_loadPolynomial_6 rfl ?_
    refine T_ifnonnull dX9_loadPolynomial_7 (t := 12) rfl (fun _ hc => by cases hc) (fun _ => ?_)
    refine T_iconst dX9_loadPolynomial_10 (by decide) ?_
    refine T_iret dX9_loadPolynomial_11 rfl ?_
    have e : s_lp P L i = (-1, P) := by exact if_neg (by exact k2a_2)
    rw [e] at hQ
    exact hQ h hcl (fun _ _ => rfl)
set_option maxHeartbeats 4000000 in
set_option maxRecDepth 100000 in
theorem m_X9_firstDifference_40 {n0 n k : Nat} {g : Nat → zV} {h : zHp} {Q : Option zV → Nat → Nat → zHp → Prop} {B lo : Nat} {P : pT} {L : lT} {I O : tT} {V : Int × pT} {nb vb N : Nat} {cb : Nat → Nat} {i x : Int} (hP : pwf P) (hL : lwf L) (hI : iwf I) (hO : owf O) (hV : vwf V) (hB : n0 ≤ B) (hcl : clAt h B lo n P L I O V nb cb vb N) (hQ : ∀ (nb' : Nat) (cb' : Nat → Nat) (n' k' : Nat) (h' : zHp), (nb ≤ nb') → (n ≤ n' ∧ n' ≤ n + 15 * (nb' - nb)) → (k' ≤ k + 110 * (nb' - nb)) → (∀ i, i < nb → cb' i = cb i) → (clAt h' B lo n' P L I O V nb' cb' vb N) → (∀ q : Nat, (q < B ∨ (B + 396 ≤ q ∧ q < lo)) → h' q = h q) → Q (some (.inl (s_fd P L i x))) n' k' h') : ∀ (d : Nat) (n9 : Nat) (k9 : Nat) (nb9 : Nat) (cb9 : Nat → Nat) (j : Nat) (c : Nat) (q : Nat), L.2.1 j - q = d → ∀ h1 : zHp, (clAt h1 B lo n9 P L I O V nb9 cb9 vb N) → (∀ q : Nat, (q < B ∨ (B + 396 ≤ q ∧ q < lo)) → h1 q = h q) → (bsAt h1 (cb9 c) (pB P c) (pW P c)) → (nb ≤ nb9) → (n ≤ n9 ∧ n9 ≤ n + 15 * (nb9 - nb)) → (k9 ≤ k + 110 * (nb9 - nb)) → (∀ i, i < nb → cb9 i = cb i) → (j < 4 ∧ i = (j : Int) ∧ L.1 j = 1) → (c < pN P ∧ x = (c : Int)) → (∀ y, y < q → (if 9 ≤ y ∨ L.2.2.1 j y ≠ ((pB P c).1 y : Int) then (1 : Int) else 0) = 0) → ZT n0 g mX9_firstDifference 40 [some (.inr (some B)), some (.inl i), some (.inl x), some (.inr (some (B + 2 * j + 388))), some (.inr (some (cb9 c))), some (.inl (q : Int))] [] n9 k9 h1 Q := by
  intro d
  induction d using Nat.strongRecOn with | _ d ih => ?_
  intro n9 k9 nb9 cb9 j c q hd0 h1 cl9 fr9 kc hc1 hc2 hc3 hc4 hj hx hn
  subst hd0
  obtain ⟨hj1, rfl, hj3⟩ := id hj
  obtain ⟨hx1, rfl⟩ := id hx
  obtain ⟨o9, gp9, gc9, gsp9, gsc9, gw9, gf9, gi9, go9, gl9, gsep9, hlo9⟩ := id cl9
  obtain ⟨-, l29⟩ := id gl9
  obtain ⟨le, nu, s0, s1, s2, s3⟩ := l29 j hj1
  obtain ⟨w1, w2, w3⟩ := hL j hj1
  obtain ⟨s21, s22⟩ := s2 hj3
  have w20 := (w2 hj3).1
  have hsl : sSl (j : Int) := ⟨by omega, by omega⟩
  obtain ⟨hf, rf9, pi, t, mo, fa, d0, d1, d2, d3, d4, d5, d6, d7⟩ := kc.open4
  have dB := pB_facts hP c
  refine T_iload dX9_firstDifference_40 rfl ?_
  refine T_aload_n dX9_firstDifference_42 rfl ?_
  refine T_getfield dX9_firstDifference_43 zkf_10_255 s0 rfl ?_
  refine T_icmp_ge dX9_firstDifference_46 (t := 83) rfl (fun c46 => ?_) (fun c46 => ?_)
  · refine T_bipush dX9_firstDifference_83 (by decide) ?_
    refine T_iret dX9_firstDifference_85 rfl ?_
    have hz : zami L j 1 = 0 := by unfold zami; rw [if_neg (by omega), if_pos (by omega)]
    have e : s_fd P L (j : Int) (c : Int) = -5 := by unfold s_fd; rw [if_pos ⟨hsl, by omega⟩, Int.toNat_natCast, Int.toNat_natCast, if_pos hz, if_neg (show ¬ zdif (pB P c).1 (L.2.2.1 j) (L.2.1 j) < L.2.1 j from zfst_end (fun y hy => hn y (by omega)))]
    rw [e] at hQ
    exact hQ nb9 cb9 n9 k9 _ hc1 hc2 hc3 hc4 cl9 fr9
  · refine T_iload dX9_firstDifference_49 rfl ?_
    refine T_bipush dX9_firstDifference_51 (by decide) ?_
    refine T_icmp_ge dX9_firstDifference_53 (t := 74) rfl (fun c53 => ?_) (fun c53 => ?_)
    · refine T_iload dX9_firstDifference_74 rfl ?_
      refine T_iret dX9_firstDifference_76 rfl ?_
      have hz : zami L j 1 = 0 := by unfold zami; rw [if_neg (by omega), if_pos (by omega)]
      have ez : zdif (pB P c).1 (L.2.2.1 j) (L.2.1 j) = q := zfst_eq (by omega) (by rw [if_pos (Or.inl (by omega))]; decide) hn
      have e : s_fd P L (j : Int) (c : Int) = (q : Int) := by unfold s_fd; rw [if_pos ⟨hsl, by omega⟩, Int.toNat_natCast, Int.toNat_natCast, if_pos hz, ez, if_pos (by omega)]
      rw [e] at hQ
      exact hQ nb9 cb9 n9 k9 _ hc1 hc2 hc3 hc4 cl9 fr9
    · refine T_aload_n dX9_firstDifference_56 rfl ?_
      refine T_getfield dX9_firstDifference_57 zkf_10_258 s0 rfl ?_
      refine T_iload dX9_firstDifference_60 rfl ?_
      refine T_ialoadN (m := q) dX9_firstDifference_62 s1 rfl (by omega) ?_
      refine T_aload dX9_firstDifference_63 rfl ?_
      refine T_getfield dX9_firstDifference_65 zkf_10_151 d0 rfl ?_
      refine T_iload dX9_firstDifference_68 rfl ?_
      refine T_ialoadN (m := q) dX9_firstDifference_70 d1 rfl (by omega) ?_
      refine T_icmp_eq dX9_firstDifference_71 (t := 77) rfl (fun c71 => ?_) (fun c71 => ?_)
      · refine T_iinc dX9_firstDifference_77 rfl ⟨by omega, by omega⟩ ?_
        refine T_goto dX9_firstDifference_80 (t := 40) rfl ?_
        exact ih _ (by omega) n9 k9 nb9 cb9 j c (q + 1) rfl _ cl9 fr9 kc hc1 hc2 hc3 hc4 hj hx (fun y hy => by
              by_cases e9 : y = q
              · rw [e9]; rw [s22 q (by omega), d3 q (by omega)] at c71; exact if_neg (by omega)
              · exact hn y (by omega)) 
      · refine T_iload dX9_firstDifference_74 rfl ?_
        refine T_iret dX9_firstDifference_76 rfl ?_
        have hz : zami L j 1 = 0 := by unfold zami; rw [if_neg (by omega), if_pos (by omega)]
        have ez : zdif (pB P c).1 (L.2.2.1 j) (L.2.1 j) = q := zfst_eq (by omega) (by rw [if_pos (Or.inr (by rw [← s22 q (by omega), ← d3 q (by omega)]; omega))]; decide) hn
        have e : s_fd P L (j : Int) (c : Int) = (q : Int) := by unfold s_fd; rw [if_pos ⟨hsl, by omega⟩, Int.toNat_natCast, Int.toNat_natCast, if_pos hz, ez, if_pos (by omega)]
        rw [e] at hQ
        exact hQ nb9 cb9 n9 k9 _ hc1 hc2 hc3 hc4 cl9 fr9
set_option maxHeartbeats 4000000 in
set_option maxRecDepth 100000 in
theorem m_X9_firstDifference {n0 n k : Nat} {g : Nat → zV} {h : zHp} {Q : Option zV → Nat → Nat → zHp → Prop} {B lo : Nat} {P : pT} {L : lT} {I O : tT} {V : Int × pT} {nb vb N : Nat} {cb : Nat → Nat} {i x : Int} (hP : pwf P) (hL : lwf L) (hI : iwf I) (hO : owf O) (hV : vwf V) (hB : n0 ≤ B) (hcl : clAt h B lo n P L I O V nb cb vb N) (hQ : ∀ (nb' : Nat) (cb' : Nat → Nat) (n' k' : Nat) (h' : zHp), (nb ≤ nb') → (n ≤ n' ∧ n' ≤ n + 15 * (nb' - nb)) → (k' ≤ k + 110 * (nb' - nb)) → (∀ i, i < nb → cb' i = cb i) → (clAt h' B lo n' P L I O V nb' cb' vb N) → (∀ q : Nat, (q < B ∨ (B + 396 ≤ q ∧ q < lo)) → h' q = h q) → Q (some (.inl (s_fd P L i x))) n' k' h') : ZT n0 g mX9_firstDifference 0 (zloc mX9_firstDifference [.inr (some B), .inl i, .inl x]) [] n k h Q := by
  show ZT n0 g mX9_firstDifference 0 [some (.inr (some B)), some (.inl i), some (.inl x), none, none, none] [] n k h Q
  obtain ⟨o0, gp, gc, gsp, gsc, gw, gf, gi, go, gl, gsep, hlo⟩ := id hcl
  have hpb := hP.bd
  have gvb := go.vb
  have gcb := gf.co.2.2.1
  obtain ⟨⟨rf, l0, l1⟩, l2⟩ := id gl
  refine T_aload_n dX9_firstDifference_0 rfl ?_
  refine T_iload_n dX9_firstDifference_1 rfl ?_
  refine T_callV dX9_firstDifference_2 zkm_10_245 (Or.inl rfl) rfl o0 ⟨Nat.le_of_ble_eq_true rfl, rfl⟩ rfl (Nat.le_of_ble_eq_true rfl) ?_
  refine m_X9_findSlot o0 l0 l1 (fun j2 k2a k2b => ?_) (fun k2a_2 => ?_)
  · subst k2b
    have hsl : sSl (j2 : Int) := ⟨by omega, by omega⟩
    refine T_astore_n dX9_firstDifference_5 (Nat.le_of_ble_eq_true rfl) ?_
    refine T_aload_n dX9_firstDifference_6 rfl ?_
    refine T_iload_n dX9_firstDifference_7 rfl ?_
    refine T_callV dX9_firstDifference_8 zkm_10_173 (Or.inl rfl) rfl o0 ⟨Nat.le_of_ble_eq_true rfl, rfl⟩ rfl (Nat.le_of_ble_eq_true rfl) ?_
    refine m_X9_findCone  hP hL hI hO hV hB hcl (fun j8 nb'8 cb'8 n'8 k'8 hh8 k8a k8b k8c k8d k8e k8f pc_8 kn_8 pf_8 => ?_) (fun nb'8_2 cb'8_2 n'8_2 k'8_2 hh8 k8a_2 k8b_2 k8c_2 k8d_2 k8e_2 pc_8_2 kn_8_2 pf_8_2 => ?_)
    · refine T_astore dX9_firstDifference_11 (Nat.le_of_ble_eq_true rfl) ?_
      refine T_aload_n dX9_firstDifference_13 rfl ?_
      refine T_ifnull dX9_firstDifference_14 (t := 22) rfl (fun hc => by cases hc) (fun _ _ => ?_)
      refine T_aload dX9_firstDifference_17 rfl ?_
      refine T_ifnonnull dX9_firstDifference_19 (t := 24) rfl (fun _ _ => ?_) (fun hc => by cases hc)
      obtain ⟨o9, gp9, gc9, gsp9, gsc9, gw9, gf9, gi9, go9, gl9, gsep9, hlo9⟩ := id pc_8
      obtain ⟨-, l29⟩ := id gl9
      obtain ⟨le, nu, s0, s1, s2, s3⟩ := l29 j2 k2a
      obtain ⟨w1, w2, w3⟩ := hL j2 k2a
      obtain ⟨ke1, ke2, ke3⟩ := id kn_8
      subst k8b
      refine T_aload_n dX9_firstDifference_24 rfl ?_
      refine T_getfield dX9_firstDifference_25 zkf_10_249 s0 rfl ?_
      refine T_iconst dX9_firstDifference_28 (by decide) ?_
      refine T_icmp_eq dX9_firstDifference_29 (t := 37) rfl (fun c29 => ?_) (fun c29 => ?_)
      · refine T_iconst dX9_firstDifference_37 (by decide) ?_
        refine T_istore dX9_firstDifference_38 (Nat.le_of_ble_eq_true rfl) ?_
        exact m_X9_firstDifference_40 hP hL hI hO hV hB hcl hQ _ n'8 k'8 nb'8 cb'8 j2 j8 0 rfl _ pc_8 pf_8 (ke3 j8 (by omega)) k8c k8d k8e k8f ⟨k2a, rfl, by omega⟩ ⟨by omega, rfl⟩ (fun i hi => absurd hi (Nat.not_lt_zero i)) 
      · refine T_aload_n dX9_firstDifference_32 rfl ?_
        refine T_callV dX9_firstDifference_33 zkm_10_252 (Or.inl rfl) rfl s0 ⟨Nat.le_of_ble_eq_true rfl, rfl⟩ rfl (Nat.le_of_ble_eq_true rfl) ?_
        refine m_X8_errorForArrays s0  (fun k33a => ?_) (fun k33a_2 => ?_)
        · refine T_iret dX9_firstDifference_36 rfl ?_
          have hz : zami L j2 1 = -6 := if_pos (by omega)
          have e : s_fd P L (j2 : Int) (j8 : Int) = -6 := by unfold s_fd; rw [if_pos ⟨hsl, by omega⟩, Int.toNat_natCast, if_neg (by rw [hz]; decide), hz]
          rw [e] at hQ
          exact hQ nb'8 cb'8 n'8 k'8 hh8 k8c k8d k8e k8f pc_8 pf_8
        · refine T_iret dX9_firstDifference_36 rfl ?_
          have hz : zami L j2 1 = -7 := by unfold zami; rw [if_neg (by omega), if_neg (by omega)]
          have e : s_fd P L (j2 : Int) (j8 : Int) = -7 := by unfold s_fd; rw [if_pos ⟨hsl, by omega⟩, Int.toNat_natCast, if_neg (by rw [hz]; decide), hz]
          rw [e] at hQ
          exact hQ nb'8 cb'8 n'8 k'8 hh8 k8c k8d k8e k8f pc_8 pf_8
    · refine T_astore dX9_firstDifference_11 (Nat.le_of_ble_eq_true rfl) ?_
      refine T_aload_n dX9_firstDifference_13 rfl ?_
      refine T_ifnull dX9_firstDifference_14 (t := 22) rfl (fun hc => by cases hc) (fun _ _ => ?_)
      refine T_aload dX9_firstDifference_17 rfl ?_
      refine T_ifnonnull dX9_firstDifference_19 (t := 24) rfl (fun _ hc => by cases hc) (fun _ => ?_)
      refine T_iconst dX9_firstDifference_22 (by decide) ?_
      refine T_iret dX9_firstDifference_23 rfl ?_
      have e : s_fd P L (j2 : Int) x = -1 := if_neg (fun q => k8a_2 q.2)
      rw [e] at hQ
      exact hQ nb'8_2 cb'8_2 n'8_2 k'8_2 hh8 k8b_2 k8c_2 k8d_2 k8e_2 pc_8_2 pf_8_2
  · refine T_astore_n dX9_firstDifference_5 (Nat.le_of_ble_eq_true rfl) ?_
    refine T_aload_n dX9_firstDifference_6 rfl ?_
    refine T_iload_n dX9_firstDifference_7 rfl ?_
    refine T_callV dX9_firstDifference_8 zkm_10_173 (Or.inl rfl) rfl o0 ⟨Nat.le_of_ble_eq_true rfl, rfl⟩ rfl (Nat.le_of_ble_eq_true rfl) ?_
    refine m_X9_findCone  hP hL hI hO hV hB hcl (fun j8 nb'8 cb'8 n'8 k'8 hh8 k8a k8b k8c k8d k8e k8f pc_8 kn_8 pf_8 => ?_) (fun nb'8_2 cb'8_2 n'8_2 k'8_2 hh8 k8a_2 k8b_2 k8c_2 k8d_2 k8e_2 pc_8_2 kn_8_2 pf_8_2 => ?_)
    · refine T_astore dX9_firstDifference_11 (Nat.le_of_ble_eq_true rfl) ?_
      refine T_aload_n dX9_firstDifference_13 rfl ?_
      refine T_ifnull dX9_firstDifference_14 (t := 22) rfl (fun _ => ?_) (fun _ hc => by cases hc)
      refine T_iconst dX9_firstDifference_22 (by decide) ?_
      refine T_iret dX9_firstDifference_23 rfl ?_
      have e : s_fd P L i x = -1 := if_neg (fun q => k2a_2 q.1)
      rw [e] at hQ
      exact hQ nb'8 cb'8 n'8 k'8 hh8 k8c k8d k8e k8f pc_8 pf_8
    · refine T_astore dX9_firstDifference_11 (Nat.le_of_ble_eq_true rfl) ?_
      refine T_aload_n dX9_firstDifference_13 rfl ?_
      refine T_ifnull dX9_firstDifference_14 (t := 22) rfl (fun _ => ?_) (fun _ hc => by cases hc)
      refine T_iconst dX9_firstDifference_22 (by decide) ?_
      refine T_iret dX9_firstDifference_23 rfl ?_
      have e : s_fd P L i x = -1 := if_neg (fun q => k2a_2 q.1)
      rw [e] at hQ
      exact hQ nb'8_2 cb'8_2 n'8_2 k'8_2 hh8 k8b_2 k8c_2 k8d_2 k8e_2 pc_8_2 pf_8_2
set_option maxHeartbeats 4000000 in
set_option maxRecDepth 100000 in
theorem m_X9_saveSnapshot {n0 n k : Nat} {g : Nat → zV} {h : zHp} {Q : Option zV → Nat → Nat → zHp → Prop} {B lo : Nat} {P : pT} {L : lT} {I O : tT} {V : Int × pT} {nb vb N : Nat} {cb : Nat → Nat} (hP : pwf P) (hL : lwf L) (hI : iwf I) (hO : owf O) (hV : vwf V) (hB : n0 ≤ B) (hcl : clAt h B lo n P L I O V nb cb vb N) (hQ : ∀  (h' : zHp), (clAt h' B lo n P L I O (1, P) nb cb vb N) → (∀ q : Nat, (q < B ∨ (B + 396 ≤ q ∧ q < lo)) → h' q = h q) → Q (some (.inl (P.2.1 : Int))) n k h') : ZT n0 g mX9_saveSnapshot 0 (zloc mX9_saveSnapshot [.inr (some B)]) [] n k h Q := by
  show ZT n0 g mX9_saveSnapshot 0 [some (.inr (some B))] [] n k h Q
  obtain ⟨o0, gp, gc, gsp, gsc, gw, gf, gi, go, gl, gsep, hlo⟩ := id hcl
  have hpb := hP.bd
  have gvb := go.vb
  have gcb := gf.co.2.2.1
  obtain ⟨xs, ys, p0, p1, p2, p3⟩ := id gp
  obtain ⟨cu, c0, c1, c2⟩ := id gc
  obtain ⟨sxs, sys, sp0, sp1, sp2, sp3⟩ := id gsp
  obtain ⟨scu, sc0, sc1, sc2⟩ := id gsc
  refine T_aload_n dX9_saveSnapshot_0 rfl ?_
  refine T_getfield dX9_saveSnapshot_1 zkf_10_23 o0 rfl ?_
  refine T_aload_n dX9_saveSnapshot_4 rfl ?_
  refine T_getfield dX9_saveSnapshot_5 zkf_10_12 o0 rfl ?_
  refine T_callV dX9_saveSnapshot_8 zkm_10_301 (Or.inl rfl) rfl sp0 ⟨Nat.le_of_ble_eq_true rfl, rfl⟩ rfl (Nat.le_of_ble_eq_true rfl) ?_
  refine m_X5_copyFrom sp0 sp1 sp2 p0 p1 p2 (by omega) (by omega) (fun hh8 f8a f8b f8c fr8 => ?_)
  refine T_aload_n dX9_saveSnapshot_11 rfl ?_
  refine T_getfield dX9_saveSnapshot_12 zkf_10_26 ((fr8 _ (by omega) (by omega) (by omega)).trans o0) rfl ?_
  refine T_aload_n dX9_saveSnapshot_15 rfl ?_
  refine T_getfield dX9_saveSnapshot_16 zkf_10_19 ((fr8 _ (by omega) (by omega) (by omega)).trans o0) rfl ?_
  refine T_callV dX9_saveSnapshot_19 zkm_10_304 (Or.inl rfl) rfl ((fr8 _ (by omega) (by omega) (by omega)).trans sc0) ⟨Nat.le_of_ble_eq_true rfl, rfl⟩ rfl (Nat.le_of_ble_eq_true rfl) ?_
  refine m_X6_copyFrom ((fr8 _ (by omega) (by omega) (by omega)).trans sc0) ((fr8 _ (by omega) (by omega) (by omega)).trans sc1) ((fr8 _ (by omega) (by omega) (by omega)).trans c0) ((fr8 _ (by omega) (by omega) (by omega)).trans c1) (by omega) (by omega) (fun hh19 f19a fr19 => ?_)
  refine T_aload_n dX9_saveSnapshot_22 rfl ?_
  refine T_iconst dX9_saveSnapshot_23 (by decide) ?_
  refine T_putfield dX9_saveSnapshot_24 zkf_10_29 ((fr19 _ (by omega)).trans ((fr8 _ (by omega) (by omega) (by omega)).trans o0)) (Nat.le_of_ble_eq_true rfl) (by omega) rfl (fun hf => absurd hf (by decide)) rfl ?_
  refine T_aload_n dX9_saveSnapshot_27 rfl ?_
  refine T_getfield dX9_saveSnapshot_28 zkf_10_12 zup_self rfl ?_
  refine T_getfield dX9_saveSnapshot_31 zkf_10_109 (zup_ne (by omega) ((fr19 _ (by omega)).trans ((fr8 _ (by omega) (by omega) (by omega)).trans p0))) rfl ?_
  refine T_iret dX9_saveSnapshot_34 rfl ?_
  exact hQ _ ⟨zup_self, (gp.frame (fun q a1 a2 => ((zup_nf (by omega)).trans (((fr19 _ (by omega)).trans (((fr8 _ (by omega) (by omega) (by omega)).trans (rfl)))))))), (gc.frame (fun q a1 a2 => ((zup_nf (by omega)).trans (((fr19 _ (by omega)).trans (((fr8 _ (by omega) (by omega) (by omega)).trans (rfl)))))))), ⟨_, _, (zup_ne (by omega) ((fr19 _ (by omega)).trans f8a)), (zup_ne (by omega) ((fr19 _ (by omega)).trans f8b)), (zup_ne (by omega) ((fr19 _ (by omega)).trans f8c)), fun k hk => by
    have hk8 : k < 8 := Nat.lt_of_lt_of_le hk hP.2.1
    unfold zcp; rw [if_pos ⟨by omega, by omega⟩, if_pos ⟨by omega, by omega⟩]; simpa using p3 k hk⟩, ⟨_, (zup_ne (by omega) ((fr19 _ (by omega)).trans ((fr8 _ (by omega) (by omega) (by omega)).trans sc0))), (zup_ne (by omega) f19a), fun m hm => by unfold zcp; rw [if_pos ⟨by omega, by omega⟩]; simpa using c2 m hm⟩, (gw.frame (fun q a1 a2 => ((zup_nf (by omega)).trans (((fr19 _ (by omega)).trans (((fr8 _ (by omega) (by omega) (by omega)).trans (rfl)))))))), (gf.frame hP (Nat.le_refl _) (fun q a1 a2 => ((zup_nf (by omega)).trans (((fr19 _ (by omega)).trans (((fr8 _ (by omega) (by omega) (by omega)).trans (rfl))))))) (fun i hi q a1 a2 => by have := gcb i hi; exact ((zup_nf (by omega)).trans (((fr19 _ (by omega)).trans (((fr8 _ (by omega) (by omega) (by omega)).trans (rfl)))))))), (gi.frame (fun q a1 a2 => ((zup_nf (by omega)).trans (((fr19 _ (by omega)).trans (((fr8 _ (by omega) (by omega) (by omega)).trans (rfl)))))))), (go.frame (Nat.le_refl _) (by exact ((zup_nf (by omega)).trans (((fr19 _ (by omega)).trans (((fr8 _ (by omega) (by omega) (by omega)).trans (rfl))))))) (by exact ((zup_nf (by omega)).trans (((fr19 _ (by omega)).trans (((fr8 _ (by omega) (by omega) (by omega)).trans (rfl)))))))), (gl.frame (fun q a1 a2 => ((zup_nf (by omega)).trans (((fr19 _ (by omega)).trans (((fr8 _ (by omega) (by omega) (by omega)).trans (rfl)))))))), gsep, hlo⟩ (fun q a1 => ((zup_nf (by omega)).trans (((fr19 _ (by omega)).trans (((fr8 _ (by omega) (by omega) (by omega)).trans (rfl)))))))
set_option maxHeartbeats 4000000 in
set_option maxRecDepth 100000 in
theorem m_X9_restoreSnapshot {n0 n k : Nat} {g : Nat → zV} {h : zHp} {Q : Option zV → Nat → Nat → zHp → Prop} {B lo : Nat} {P : pT} {L : lT} {I O : tT} {V : Int × pT} {nb vb N : Nat} {cb : Nat → Nat} (hP : pwf P) (hL : lwf L) (hI : iwf I) (hO : owf O) (hV : vwf V) (hB : n0 ≤ B) (hcl : clAt h B lo n P L I O V nb cb vb N) (hQ : ∀  (h' : zHp), (clAt h' B lo n (s_rs P V).2 L I O V nb cb vb N) → (∀ q : Nat, (q < B ∨ (B + 396 ≤ q ∧ q < lo)) → h' q = h q) → Q (some (.inl ((s_rs P V).1))) n k h') : ZT n0 g mX9_restoreSnapshot 0 (zloc mX9_restoreSnapshot [.inr (some B)]) [] n k h Q := by
  show ZT n0 g mX9_restoreSnapshot 0 [some (.inr (some B))] [] n k h Q
  obtain ⟨o0, gp, gc, gsp, gsc, gw, gf, gi, go, gl, gsep, hlo⟩ := id hcl
  have hpb := hP.bd
  have gvb := go.vb
  have gcb := gf.co.2.2.1
  obtain ⟨xs, ys, p0, p1, p2, p3⟩ := id gp
  obtain ⟨cu, c0, c1, c2⟩ := id gc
  obtain ⟨sxs, sys, sp0, sp1, sp2, sp3⟩ := id gsp
  obtain ⟨scu, sc0, sc1, sc2⟩ := id gsc
  obtain ⟨sz, f0, f1, f2⟩ := id gf
  refine T_aload_n dX9_restoreSnapshot_0 rfl ?_
  refine T_getfield dX9_restoreSnapshot_1 zkf_10_29 o0 rfl ?_
  refine T_if_ne dX9_restoreSnapshot_4 (t := 10) rfl (fun c4 => ?_) (fun c4 => ?_)
  · refine T_aload_n dX9_restoreSnapshot_10 rfl ?_
    refine T_getfield dX9_restoreSnapshot_11 zkf_10_12 o0 rfl ?_
    refine T_aload_n dX9_restoreSnapshot_14 rfl ?_
    refine T_getfield dX9_restoreSnapshot_15 zkf_10_23 o0 rfl ?_
    refine T_callV dX9_restoreSnapshot_18 zkm_10_301 (Or.inl rfl) rfl p0 ⟨Nat.le_of_ble_eq_true rfl, rfl⟩ rfl (Nat.le_of_ble_eq_true rfl) ?_
    refine m_X5_copyFrom p0 p1 p2 sp0 sp1 sp2 (by omega) (by omega) (fun hh18 f18a f18b f18c fr18 => ?_)
    refine T_aload_n dX9_restoreSnapshot_21 rfl ?_
    refine T_getfield dX9_restoreSnapshot_22 zkf_10_19 ((fr18 _ (by omega) (by omega) (by omega)).trans o0) rfl ?_
    refine T_aload_n dX9_restoreSnapshot_25 rfl ?_
    refine T_getfield dX9_restoreSnapshot_26 zkf_10_26 ((fr18 _ (by omega) (by omega) (by omega)).trans o0) rfl ?_
    refine T_callV dX9_restoreSnapshot_29 zkm_10_304 (Or.inl rfl) rfl ((fr18 _ (by omega) (by omega) (by omega)).trans c0) ⟨Nat.le_of_ble_eq_true rfl, rfl⟩ rfl (Nat.le_of_ble_eq_true rfl) ?_
    refine m_X6_copyFrom ((fr18 _ (by omega) (by omega) (by omega)).trans c0) ((fr18 _ (by omega) (by omega) (by omega)).trans c1) ((fr18 _ (by omega) (by omega) (by omega)).trans sc0) ((fr18 _ (by omega) (by omega) (by omega)).trans sc1) (by omega) (by omega) (fun hh29 f29a fr29 => ?_)
    refine T_aload_n dX9_restoreSnapshot_32 rfl ?_
    refine T_getfield dX9_restoreSnapshot_33 zkf_10_59 ((fr29 _ (by omega)).trans ((fr18 _ (by omega) (by omega) (by omega)).trans o0)) rfl ?_
    refine T_callV dX9_restoreSnapshot_36 zkm_10_99 (Or.inl rfl) rfl ((fr29 _ (by omega)).trans ((fr18 _ (by omega) (by omega) (by omega)).trans f0)) ⟨Nat.le_of_ble_eq_true rfl, rfl⟩ rfl (Nat.le_of_ble_eq_true rfl) ?_
    refine m_X2_forget ((fr29 _ (by omega)).trans ((fr18 _ (by omega) (by omega) (by omega)).trans f0)) (by omega) (fun hh36 f36a fr36 => ?_)
    refine T_aload_n dX9_restoreSnapshot_39 rfl ?_
    refine T_getfield dX9_restoreSnapshot_40 zkf_10_12 ((fr36 _ (by omega)).trans ((fr29 _ (by omega)).trans ((fr18 _ (by omega) (by omega) (by omega)).trans o0))) rfl ?_
    refine T_getfield dX9_restoreSnapshot_43 zkf_10_109 ((fr36 _ (by omega)).trans ((fr29 _ (by omega)).trans f18a)) rfl ?_
    refine T_iret dX9_restoreSnapshot_46 rfl ?_
    have e : s_rs P V = ((V.2.2.1 : Int), V.2) := if_neg (by omega)
    have hV2 := hV.2 (by rcases hV.1 with x | x; exact absurd x (by omega); exact x)
    rw [e] at hQ
    exact hQ _ ⟨((fr36 _ (by omega)).trans ((fr29 _ (by omega)).trans ((fr18 _ (by omega) (by omega) (by omega)).trans o0))), ⟨_, _, ((fr36 _ (by omega)).trans ((fr29 _ (by omega)).trans f18a)), ((fr36 _ (by omega)).trans ((fr29 _ (by omega)).trans f18b)), ((fr36 _ (by omega)).trans ((fr29 _ (by omega)).trans f18c)), fun k hk => by
      have hk8 : k < 8 := Nat.lt_of_lt_of_le hk hV2.2.1
      unfold zcp; rw [if_pos ⟨by omega, by omega⟩, if_pos ⟨by omega, by omega⟩]; simpa using sp3 k hk⟩, ⟨_, ((fr36 _ (by omega)).trans ((fr29 _ (by omega)).trans ((fr18 _ (by omega) (by omega) (by omega)).trans c0))), ((fr36 _ (by omega)).trans f29a), fun m hm => by unfold zcp; rw [if_pos ⟨by omega, by omega⟩]; simpa using sc2 m hm⟩, (gsp.frame (fun q a1 a2 => ((fr36 _ (by omega)).trans (((fr29 _ (by omega)).trans (((fr18 _ (by omega) (by omega) (by omega)).trans (rfl)))))))), (gsc.frame (fun q a1 a2 => ((fr36 _ (by omega)).trans (((fr29 _ (by omega)).trans (((fr18 _ (by omega) (by omega) (by omega)).trans (rfl)))))))), (gw.frame (fun q a1 a2 => ((fr36 _ (by omega)).trans (((fr29 _ (by omega)).trans (((fr18 _ (by omega) (by omega) (by omega)).trans (rfl)))))))), (gFan.fresh f36a (gf.co.frame (Nat.le_refl _) (by exact ((fr36 _ (by omega)).trans (((fr29 _ (by omega)).trans (((fr18 _ (by omega) (by omega) (by omega)).trans (rfl))))))) (fun i hi q a1 a2 => by have := gcb i hi; exact ((fr36 _ (by omega)).trans (((fr29 _ (by omega)).trans (((fr18 _ (by omega) (by omega) (by omega)).trans (rfl))))))))), (gi.frame (fun q a1 a2 => ((fr36 _ (by omega)).trans (((fr29 _ (by omega)).trans (((fr18 _ (by omega) (by omega) (by omega)).trans (rfl)))))))), (go.frame (Nat.le_refl _) (by exact ((fr36 _ (by omega)).trans (((fr29 _ (by omega)).trans (((fr18 _ (by omega) (by omega) (by omega)).trans (rfl))))))) (by exact ((fr36 _ (by omega)).trans (((fr29 _ (by omega)).trans (((fr18 _ (by omega) (by omega) (by omega)).trans (rfl)))))))), (gl.frame (fun q a1 a2 => ((fr36 _ (by omega)).trans (((fr29 _ (by omega)).trans (((fr18 _ (by omega) (by omega) (by omega)).trans (rfl)))))))), gsep, hlo⟩ (fun q a1 => ((fr36 _ (by omega)).trans (((fr29 _ (by omega)).trans (((fr18 _ (by omega) (by omega) (by omega)).trans (rfl)))))))
  · refine T_bipush dX9_restoreSnapshot_7 (by decide) ?_
    refine T_iret dX9_restoreSnapshot_9 rfl ?_
    have e : s_rs P V = (-5, P) := if_pos (by omega)
    rw [e] at hQ
    exact hQ h hcl (fun _ _ => rfl)
