/-! ===== the reference: degrees: printed by wip/whole/gen/s_ref19.py ===== -/
theorem zbas_H0 {p : Int} {s : Nat} {xs ys : Nat → Int} {u v tie : Int} (hp : zprime p) (hs : s ≤ 8) (hu : 0 ≤ u) (hv : 0 ≤ v) : (s = 0 → ∀ i, i < 9 → (zbas p s xs ys u v tie).1 i = 0) ∧ (0 < s → 0 < (zbas p s xs ys u v tie).1 0) := by
  have hI := zbas_is (xs := xs) (ys := ys) (tie := tie) hp hs hu hv
  obtain ⟨h1, h2, h3, -⟩ := gfin_RI (xs := xs) (ys := ys) (tie := tie) hp hs hu hv
  constructor
  · intro h0 i hi
    refine Classical.byContradiction fun hn => ?_
    have hb := (hI.1.2 i 0 hi (by omega)).mpr (by omega)
    obtain ⟨t, ht, _⟩ := stdB_iff.mp hb
    have := h1.le
    omega
  · intro h0
    refine Classical.byContradiction fun hn => ?_
    have hb : stdB (gfin p s xs ys u v tie).1 0 = false := Bool.eq_false_iff.mpr fun q => hn ((hI.1.2 0 0 (by omega) (by omega)).mp q)
    obtain ⟨k, hk, ek⟩ := (zord_is u v tie).2.1 0 (by omega)
    obtain ⟨n, c, hn1, hlt, hz⟩ := h3 k hk (by rw [ek]; exact hb)
    have n0 : n = 0 := by
      refine Classical.byContradiction fun hne => ?_
      have h9 := hlt 0 (by omega)
      rw [ek] at h9
      have m1 := Int.mul_nonneg hu (Int.natCast_nonneg ((eM (gfin p s xs ys u v tie).1 0) / 9))
      have m2 := Int.mul_nonneg hv (Int.natCast_nonneg ((eM (gfin p s xs ys u v tie).1 0) % 9))
      have m3 : zwt u v 0 = 0 := by unfold zwt; simp
      have m4 : 0 ≤ zwt u v (eM (gfin p s xs ys u v tie).1 0) := by unfold zwt; omega
      unfold zlt at h9
      rw [m3] at h9
      omega
    subst n0
    have h9 := hz 0 h0
    rw [ek] at h9
    have hpb := hp.bd
    have e1 : zvec p xs ys 0 0 = 1 := by
      show zpow p (xs 0) (0 / 9) * zpow p (ys 0) (0 % 9) % p = 1
      show (1 : Int) * 1 % p = 1
      rw [Int.mul_one]
      exact Int.emod_eq_of_lt (by omega) hpb.1
    rw [e1] at h9
    have h8 : zc p 1 0 := h9
    have := h8.eq ⟨by omega, hpb.1⟩ ⟨by omega, by omega⟩
    omega
theorem pB_H0 {P : pT} (hP : pwf P) (k : Nat) : (P.2.1 = 0 → ∀ i, i < 9 → (pB P k).1 i = 0) ∧ (0 < P.2.1 → 0 < (pB P k).1 0) := by
  have hw := zfw_bd (xs := P.2.2.1) (ys := P.2.2.2.1) hP.1 hP.2.1 k
  exact zbas_H0 (xs := P.2.2.1) (ys := P.2.2.2.1) (tie := 1) hP.1 hP.2.1 hw.1 hw.2.2.1
theorem zsd_sign {P : pT} (hP : pwf P) (k : Nat) : (P.2.1 = 0 → zsd (pB P k).1 9 = -1) ∧ (0 < P.2.1 → 0 ≤ zsd (pB P k).1 9) := by
  obtain ⟨a, b⟩ := pB_H0 hP k
  obtain ⟨c, d, e⟩ := zsd_props (pB P k).1 (pB_facts hP k).2.1 9 (Nat.le_refl 9)
  refine ⟨fun h => ?_, fun h => ?_⟩
  · rcases e with e | ⟨i, hi, h1, _⟩
    · exact e
    · have := a h i hi; omega
  · have := d 0 (by omega) (b h)
    have := b h
    omega
def zin (j a x i b y : Nat) : Prop := i < j ∨ (i = j ∧ (b < a ∨ (b = a ∧ y < x)))
def zgq (P : pT) (j a x : Nat) (w : Int) : Prop := (0 ≤ w ∧ w ≤ 16) ∧ (∀ i b y : Nat, b < (pB P i).2.1 → zin j a x i b y → (pB P i).2.2.2 b y ≠ 0 → (y : Int) / 9 + (y : Int) % 9 ≤ w) ∧ (w = 0 ∨ ∃ i b y : Nat, b < (pB P i).2.1 ∧ zin j a x i b y ∧ (pB P i).2.2.2 b y ≠ 0 ∧ w = (y : Int) / 9 + (y : Int) % 9)
theorem zgq.bd {P : pT} {j a x : Nat} {w : Int} (h : zgq P j a x w) : 0 ≤ w ∧ w ≤ 16 := h.1
theorem zgq.zero {P : pT} : zgq P 0 0 0 0 := ⟨⟨by omega, by omega⟩, fun i b y _ h => by unfold zin at h; omega, Or.inl rfl⟩
theorem zgq.to {P : pT} {j a x j' a' x' : Nat} {w : Int} (h : zgq P j a x w) (h1 : ∀ i b y : Nat, b < (pB P i).2.1 → (pB P i).2.2.2 b y ≠ 0 → (zin j' a' x' i b y ↔ zin j a x i b y)) : zgq P j' a' x' w :=
  ⟨h.1, fun i b y hb hz hc => h.2.1 i b y hb ((h1 i b y hb hc).mp hz) hc, h.2.2.imp id fun ⟨i, b, y, hb, hz, hc, e⟩ => ⟨i, b, y, hb, (h1 i b y hb hc).mpr hz, hc, e⟩⟩
theorem zgq.x0 {P : pT} {j a x : Nat} {w : Int} (h : zgq P j a x w) (h0 : (pB P j).2.2.2 a x = 0) : zgq P j a (x + 1) w := h.to fun i b y hb hc => by
  have : ¬ (i = j ∧ b = a ∧ y = x) := fun ⟨e1, e2, e3⟩ => by subst e1 e2 e3; exact hc h0
  unfold zin; omega
theorem zgq.x1 {P : pT} {j a x : Nat} {w : Int} (h : zgq P j a x w) (hx : x < 81) (ha : a < (pB P j).2.1) (h0 : ¬ (pB P j).2.2.2 a x = 0) : zgq P j a (x + 1) (max w ((x : Int) / 9 + (x : Int) % 9)) := by
  obtain ⟨h1, h2, h3⟩ := h
  refine ⟨by omega, fun i b y hb hz hc => ?_, ?_⟩
  · by_cases e : i = j ∧ b = a ∧ y = x
    · rw [e.2.2]; omega
    · have := h2 i b y hb (by unfold zin at *; omega) hc
      omega
  · by_cases c : w ≤ (x : Int) / 9 + (x : Int) % 9
    · exact Or.inr ⟨j, a, x, ha, by unfold zin; omega, h0, by omega⟩
    · rcases h3 with e | ⟨i, b, y, hb, hz, hc, e⟩
      · omega
      · exact Or.inr ⟨i, b, y, hb, by unfold zin at *; omega, hc, by omega⟩
theorem pB_81 {P : pT} (hP : pwf P) {j a x : Nat} (ha : a < (pB P j).2.1) (h : (pB P j).2.2.2 a x ≠ 0) : x < 81 := by
  have hw := zfw_bd (xs := P.2.2.1) (ys := P.2.2.2.1) hP.1 hP.2.1 j
  have hf := (zbas_facts (xs := P.2.2.1) (ys := P.2.2.2.1) (tie := 1) hP.1 hP.2.1 hw.1 hw.2.2.1).2.2.2 a ha
  rcases (hf.2.2.2.2 x).2.2 h with e | e
  · rw [e]; exact hf.1
  · exact e.1
theorem zgq.a {P : pT} {j a : Nat} {w : Int} (hP : pwf P) (h : zgq P j a 81 w) : zgq P j (a + 1) 0 w := h.to fun i b y hb hc => by
  have := pB_81 hP hb hc
  unfold zin; omega
theorem zgq.j {P : pT} {j : Nat} {w : Int} (h : zgq P j (pB P j).2.1 0 w) : zgq P (j + 1) 0 0 w := h.to fun i b y hb hc => by
  by_cases e : i = j
  · subst e; unfold zin; omega
  · unfold zin; omega
theorem zgq.fin {P : pT} {w : Int} (h : zgq P (pN P) 0 0 w) : zgd (pB P) (pN P) w := ⟨h.1.1, h.1.2, fun i hi a ha x hx => h.2.1 i a x ha (Or.inl hi) hx, h.2.2.imp id fun ⟨i, b, y, hb, hz, hc, e⟩ => ⟨i, by unfold zin at hz; omega, b, hb, y, hc, e⟩⟩
set_option maxHeartbeats 4000000 in
set_option maxRecDepth 100000 in
theorem m_X10_steepness_4 {n0 n k : Nat} {g : Nat → zV} {h : zHp} {Q : Option zV → Nat → Nat → zHp → Prop} {m : Nat} {P : pT} {L : lT} {I O : tT} {V : Int × pT} {j : Nat} (hP : pwf P) (hL : lwf L) (hI : iwf I) (hO : owf O) (hV : vwf V) (hB : n0 ≤ m) (hrf : rfF 1 h m P L I O V) (hj : j < pN P) (hQ : Q (some (.inl (max 0 (zsd (pB P j).1 9)))) n k h) : ∀ (d : Nat) (w : Int) (x : Nat) (L4 : Option zV), 9 - x = d → (x ≤ 9) → (w = max 0 (zsd (pB P j).1 x)) → ZT n0 g mX10_steepness 4 [some (.inr (some m)), some (.inl (j : Int)), some (.inl w), some (.inl (x : Int)), L4] [] n k h Q := by
  intro d
  induction d using Nat.strongRecOn with | _ d ih => ?_
  intro w x L4 hd0 hx hw
  subst hd0
  obtain ⟨z, c, cn, en, ax, nu, sp, ss, hM, rp, rc, rk, rf, ry, ri, ro, rl, rv⟩ := id hrf
  have hpb := hP.bd
  have hs8 := hP.2.1
  obtain ⟨tp, bt, sz, ch, cc, cl, ftp, fbt, fsz, fch, fcc, fcl, fkn⟩ := id rf
  obtain ⟨-, rfl, krf⟩ := fkn.resolve_left (by decide)
  have hNi := pN_is hP
  have hN1 := hNi.1
  have hN23 := hNi.2.1
  obtain ⟨r0, r1, r2, r3, r4⟩ := krf j hj
  have dB := pB_facts hP j
  have hz := (zsd_props (pB P j).1 dB.2.1 x (by omega)).1
  refine T_iload_n dX10_steepness_4 rfl ?_
  refine T_bipush dX10_steepness_5 (by decide) ?_
  refine T_icmp_ge dX10_steepness_7 (t := 49) rfl (fun c7 => ?_) (fun c7 => ?_)
  · refine T_iload_n dX10_steepness_49 rfl ?_
    refine T_iret dX10_steepness_50 rfl ?_
    rw [show w = max 0 (zsd (pB P j).1 9) by rw [hw, show x = 9 by omega]]
    exact hQ
  · refine T_aload_n dX10_steepness_10 rfl ?_
    refine T_getfield dX10_steepness_11 zkf_11_66 hM rfl ?_
    refine T_bipush dX10_steepness_14 (by decide) ?_
    refine T_iload_n dX10_steepness_16 rfl ?_
    refine T_imul dX10_steepness_17 ⟨by omega, by omega⟩ ?_
    refine T_iload_n dX10_steepness_18 rfl ?_
    refine T_iadd dX10_steepness_19 ⟨by omega, by omega⟩ ?_
    refine T_ialoadN (m := (9 * j + x)) dX10_steepness_20 fch (by omega) (by omega) ?_
    have rx := r1 x (by omega)
    have bx := dB.2.1 x (by omega)
    rw [rx]
    refine T_istore dX10_steepness_21 (Nat.le_of_ble_eq_true rfl) ?_
    refine T_iload dX10_steepness_23 rfl ?_
    refine T_if_le dX10_steepness_25 (t := 41) rfl (fun c25 => ?_) (fun c25 => ?_)
    · refine T_iload_n dX10_steepness_41 rfl ?_
      refine T_istore_n dX10_steepness_42 (Nat.le_of_ble_eq_true rfl) ?_
      refine T_iinc dX10_steepness_43 rfl ⟨by omega, by omega⟩ ?_
      refine T_goto dX10_steepness_46 (t := 4) rfl ?_
      exact ih _ (by omega) w (x + 1) _ rfl  (by omega) (by rw [zsd, if_neg (by omega)]; exact hw) 
    · refine T_iload_n dX10_steepness_28 rfl ?_
      refine T_iload_n dX10_steepness_29 rfl ?_
      refine T_iload dX10_steepness_30 rfl ?_
      refine T_iadd dX10_steepness_32 ⟨by omega, by omega⟩ ?_
      refine T_iconst dX10_steepness_33 (by decide) ?_
      refine T_isub dX10_steepness_34 ⟨by omega, by omega⟩ ?_
      refine T_callS dX10_steepness_35 zkm_11_224 ⟨Nat.le_of_ble_eq_true rfl, Nat.le_of_ble_eq_true rfl, rfl⟩ rfl (Nat.le_of_ble_eq_true rfl) ?_
      refine m_Jmax   ?_
      refine T_goto dX10_steepness_38 (t := 42) rfl ?_
      refine T_istore_n dX10_steepness_42 (Nat.le_of_ble_eq_true rfl) ?_
      refine T_iinc dX10_steepness_43 rfl ⟨by omega, by omega⟩ ?_
      refine T_goto dX10_steepness_46 (t := 4) rfl ?_
      exact ih _ (by omega) (max w (((x : Int) + (((pB P j).1 x) : Int)) - 1)) (x + 1) _ rfl  (by omega) (by rw [zsd, if_pos (by omega)]; omega) 
set_option maxHeartbeats 4000000 in
set_option maxRecDepth 100000 in
theorem m_X10_steepness {n0 n k : Nat} {g : Nat → zV} {h : zHp} {Q : Option zV → Nat → Nat → zHp → Prop} {m : Nat} {P : pT} {L : lT} {I O : tT} {V : Int × pT} {j : Nat} (hP : pwf P) (hL : lwf L) (hI : iwf I) (hO : owf O) (hV : vwf V) (hB : n0 ≤ m) (hrf : rfF 1 h m P L I O V) (hj : j < pN P) (hQ : Q (some (.inl (max 0 (zsd (pB P j).1 9)))) n k h) : ZT n0 g mX10_steepness 0 (zloc mX10_steepness [.inr (some m), .inl (j : Int)]) [] n k h Q := by
  show ZT n0 g mX10_steepness 0 [some (.inr (some m)), some (.inl (j : Int)), none, none, none] [] n k h Q
  obtain ⟨z, c, cn, en, ax, nu, sp, ss, hM, rp, rc, rk, rf, ry, ri, ro, rl, rv⟩ := id hrf
  have hpb := hP.bd
  have hs8 := hP.2.1
  obtain ⟨tp, bt, sz, ch, cc, cl, ftp, fbt, fsz, fch, fcc, fcl, fkn⟩ := id rf
  obtain ⟨-, rfl, krf⟩ := fkn.resolve_left (by decide)
  have hNi := pN_is hP
  have hN1 := hNi.1
  have hN23 := hNi.2.1
  refine T_iconst dX10_steepness_0 (by decide) ?_
  refine T_istore_n dX10_steepness_1 (Nat.le_of_ble_eq_true rfl) ?_
  refine T_iconst dX10_steepness_2 (by decide) ?_
  refine T_istore_n dX10_steepness_3 (Nat.le_of_ble_eq_true rfl) ?_
  exact m_X10_steepness_4 hP hL hI hO hV hB hrf hj hQ _ 0 0 _ rfl  (by omega) rfl 
set_option maxHeartbeats 4000000 in
set_option maxRecDepth 100000 in
theorem m_X10_flattestCone_8 {n0 n k : Nat} {g : Nat → zV} {h : zHp} {Q : Option zV → Nat → Nat → zHp → Prop} {m : Nat} {P : pT} {L : lT} {I O : tT} {V : Int × pT} (hP : pwf P) (hL : lwf L) (hI : iwf I) (hO : owf O) (hV : vwf V) (hB : n0 ≤ m) (hrf : rfAt h m P L I O V) (hQ : ∀  (h' : zHp), (rfAt h' m P L I O V) → (∀ q : Nat, (q < m ∨ m + 33 ≤ q) → h' q = h q) → Q (some (.inl (s_fl P))) n k h') : ∀ (d : Nat) (b : Nat) (q : Nat), pN P - q = d → ∀ h1 : zHp, (rfF 1 h1 m P L I O V) → (∀ q : Nat, (q < m ∨ m + 33 ≤ q) → h1 q = h q) → (1 ≤ q ∧ q ≤ pN P) → (b = zfm (fun k => zsd (pB P k).1 9) (q - 1)) → ZT n0 g mX10_flattestCone 8 [some (.inr (some m)), some (.inl (b : Int)), some (.inl (q : Int))] [] n k h1 Q := by
  intro d
  induction d using Nat.strongRecOn with | _ d ih => ?_
  intro b q hd0 h1 pr9 pf9 hq hb
  subst hd0
  obtain ⟨z, c, cn, en, ax, nu, sp, ss, hM, rp, rc, rk, rf, ry, ri, ro, rl, rv⟩ := id pr9
  have hpb := hP.bd
  have hs8 := hP.2.1
  obtain ⟨tp, bt, sz, ch, cc, cl, ftp, fbt, fsz, fch, fcc, fcl, fkn⟩ := id rf
  obtain ⟨-, rfl, krf⟩ := fkn.resolve_left (by decide)
  have hNi := pN_is hP
  have hN1 := hNi.1
  have hN23 := hNi.2.1
  have hbl := zfm_le (fun k => zsd (pB P k).1 9) (q - 1)
  have hs1 := zsd_sign hP q
  have hs2 := zsd_sign hP b
  have hb1 := (zsd_props (pB P q).1 (pB_facts hP q).2.1 9 (Nat.le_refl 9)).1
  have hb2 := (zsd_props (pB P b).1 (pB_facts hP b).2.1 9 (Nat.le_refl 9)).1
  refine T_iload_n dX10_flattestCone_8 rfl ?_
  refine T_aload_n dX10_flattestCone_9 rfl ?_
  refine T_getfield dX10_flattestCone_10 zkf_11_195 hM rfl ?_
  refine T_icmp_ge dX10_flattestCone_13 (t := 41) rfl (fun c13 => ?_) (fun c13 => ?_)
  · refine T_iload_n dX10_flattestCone_41 rfl ?_
    refine T_iret dX10_flattestCone_42 rfl ?_
    have e : s_fl P = (b : Int) := by rw [hb, show q = pN P by omega]; rfl
    rw [e] at hQ
    exact hQ _ pr9.at pf9
  · refine T_aload_n dX10_flattestCone_16 rfl ?_
    refine T_iload_n dX10_flattestCone_17 rfl ?_
    refine T_callV dX10_flattestCone_18 zkm_11_230 (Or.inl rfl) rfl hM ⟨Nat.le_of_ble_eq_true rfl, rfl⟩ rfl (Nat.le_of_ble_eq_true rfl) ?_
    refine m_X10_steepness  hP hL hI hO hV hB pr9 (by omega) ?_
    refine T_aload_n dX10_flattestCone_21 rfl ?_
    refine T_iload_n dX10_flattestCone_22 rfl ?_
    refine T_callV dX10_flattestCone_23 zkm_11_230 (Or.inl rfl) rfl hM ⟨Nat.le_of_ble_eq_true rfl, rfl⟩ rfl (Nat.le_of_ble_eq_true rfl) ?_
    refine m_X10_steepness  hP hL hI hO hV hB pr9 (by omega) ?_
    refine T_icmp_ge dX10_flattestCone_26 (t := 33) rfl (fun c26 => ?_) (fun c26 => ?_)
    · refine T_iload_n dX10_flattestCone_33 rfl ?_
      refine T_istore_n dX10_flattestCone_34 (Nat.le_of_ble_eq_true rfl) ?_
      refine T_iinc dX10_flattestCone_35 rfl ⟨by omega, by omega⟩ ?_
      refine T_goto dX10_flattestCone_38 (t := 8) rfl ?_
      exact ih _ (by omega) b (q + 1) rfl _ pr9 pf9 (by omega) (by
            obtain ⟨r, rfl⟩ : ∃ r, q = r + 1 := ⟨q - 1, by omega⟩
            rw [Nat.add_sub_cancel] at hb
            show _ = zfm (fun k => zsd (pB P k).1 9) (r + 1)
            rw [zfm, ← hb]
            exact (if_neg (by omega)).symm) 
    · refine T_iload_n dX10_flattestCone_29 rfl ?_
      refine T_goto dX10_flattestCone_30 (t := 34) rfl ?_
      refine T_istore_n dX10_flattestCone_34 (Nat.le_of_ble_eq_true rfl) ?_
      refine T_iinc dX10_flattestCone_35 rfl ⟨by omega, by omega⟩ ?_
      refine T_goto dX10_flattestCone_38 (t := 8) rfl ?_
      exact ih _ (by omega) q (q + 1) rfl _ pr9 pf9 (by omega) (by
            obtain ⟨r, rfl⟩ : ∃ r, q = r + 1 := ⟨q - 1, by omega⟩
            rw [Nat.add_sub_cancel] at hb
            show _ = zfm (fun k => zsd (pB P k).1 9) (r + 1)
            rw [zfm, ← hb]
            exact (if_pos (by omega)).symm) 
set_option maxHeartbeats 4000000 in
set_option maxRecDepth 100000 in
theorem m_X10_flattestCone {n0 n k : Nat} {g : Nat → zV} {h : zHp} {Q : Option zV → Nat → Nat → zHp → Prop} {m : Nat} {P : pT} {L : lT} {I O : tT} {V : Int × pT} (hP : pwf P) (hL : lwf L) (hI : iwf I) (hO : owf O) (hV : vwf V) (hB : n0 ≤ m) (hrf : rfAt h m P L I O V) (hQ : ∀  (h' : zHp), (rfAt h' m P L I O V) → (∀ q : Nat, (q < m ∨ m + 33 ≤ q) → h' q = h q) → Q (some (.inl (s_fl P))) n k h') : ZT n0 g mX10_flattestCone 0 (zloc mX10_flattestCone [.inr (some m)]) [] n k h Q := by
  show ZT n0 g mX10_flattestCone 0 [some (.inr (some m)), none, none] [] n k h Q
  obtain ⟨fk, z, c, cn, en, ax, nu, sp, ss, hM, rp, rc, rk, rf, ry, ri, ro, rl, rv⟩ := id hrf
  have hpb := hP.bd
  have hs8 := hP.2.1
  refine T_aload_n dX10_flattestCone_0 rfl ?_
  refine T_callV dX10_flattestCone_1 zkm_11_201 (Or.inl rfl) rfl hM ⟨Nat.le_of_ble_eq_true rfl, rfl⟩ rfl (Nat.le_of_ble_eq_true rfl) ?_
  refine r_fan  hP hL hI hO hV hB hrf (fun hh1 pr_1 pf_1 => ?_)
  obtain ⟨z, c, cn, en, ax, nu, sp, ss, hM, rp, rc, rk, rf, ry, ri, ro, rl, rv⟩ := id pr_1
  have hpb := hP.bd
  have hs8 := hP.2.1
  obtain ⟨tp, bt, sz, ch, cc, cl, ftp, fbt, fsz, fch, fcc, fcl, fkn⟩ := id rf
  obtain ⟨-, rfl, krf⟩ := fkn.resolve_left (by decide)
  have hNi := pN_is hP
  have hN1 := hNi.1
  have hN23 := hNi.2.1
  refine T_iconst dX10_flattestCone_4 (by decide) ?_
  refine T_istore_n dX10_flattestCone_5 (Nat.le_of_ble_eq_true rfl) ?_
  refine T_iconst dX10_flattestCone_6 (by decide) ?_
  refine T_istore_n dX10_flattestCone_7 (Nat.le_of_ble_eq_true rfl) ?_
  exact m_X10_flattestCone_8 hP hL hI hO hV hB hrf hQ _ 0 1 rfl _ pr_1 pf_1 (by omega) rfl 
set_option maxHeartbeats 4000000 in
set_option maxRecDepth 100000 in
theorem m_X10_universalDegree_31 {n0 n k : Nat} {g : Nat → zV} {h : zHp} {Q : Option zV → Nat → Nat → zHp → Prop} {m : Nat} {P : pT} {L : lT} {I O : tT} {V : Int × pT} (hP : pwf P) (hL : lwf L) (hI : iwf I) (hO : owf O) (hV : vwf V) (hB : n0 ≤ m) (hrf : rfAt h m P L I O V)  : ∀ (d : Nat) (w : Int) (j : Nat) (a : Nat) (x : Nat), 81 - x = d → ∀ h1 : zHp, (rfF 1 h1 m P L I O V) → (∀ q : Nat, (q < m ∨ m + 33 ≤ q) → h1 q = h q) → (j < pN P) → (a < (pB P j).2.1) → (x ≤ 81) → (zgq P j a x w) → (∀ (w : Int) (x : Nat) , (zgq P j (a + 1) 0 w) → ZT n0 g mX10_universalDegree 75 [some (.inr (some m)), some (.inl w), some (.inl (j : Int)), some (.inl (a : Int)), some (.inl (x : Int))] [] n k h1 Q) → ZT n0 g mX10_universalDegree 31 [some (.inr (some m)), some (.inl w), some (.inl (j : Int)), some (.inl (a : Int)), some (.inl (x : Int))] [] n k h1 Q := by
  intro d
  induction d using Nat.strongRecOn with | _ d ih => ?_
  intro w j a x hd0 h1 pr9 pf9 hj ha hx hw kk75
  subst hd0
  obtain ⟨z, c, cn, en, ax, nu, sp, ss, hM, rp, rc, rk, rf, ry, ri, ro, rl, rv⟩ := id pr9
  have hpb := hP.bd
  have hs8 := hP.2.1
  obtain ⟨tp, bt, sz, ch, cc, cl, ftp, fbt, fsz, fch, fcc, fcl, fkn⟩ := id rf
  obtain ⟨-, rfl, krf⟩ := fkn.resolve_left (by decide)
  have hNi := pN_is hP
  have hN1 := hNi.1
  have hN23 := hNi.2.1
  have dB := pB_facts hP j
  have hwb := hw.bd
  refine T_iload dX10_universalDegree_31 rfl ?_
  refine T_bipush dX10_universalDegree_33 (by decide) ?_
  refine T_icmp_ge dX10_universalDegree_35 (t := 75) rfl (fun c35 => ?_) (fun c35 => ?_)
  · exact kk75 w x (by have q := hw; rw [show x = 81 by omega] at q; exact q.a hP)
  · refine T_aload_n dX10_universalDegree_38 rfl ?_
    refine T_iload_n dX10_universalDegree_39 rfl ?_
    refine T_iload_n dX10_universalDegree_40 rfl ?_
    refine T_iload dX10_universalDegree_41 rfl ?_
    refine T_callV dX10_universalDegree_43 zkm_11_213 (Or.inl rfl) rfl hM ⟨Nat.le_of_ble_eq_true rfl, rfl⟩ rfl (Nat.le_of_ble_eq_true rfl) ?_
    refine m_X10_cell  hP hL hI hO hV hB pr9 (by omega) (by omega) (by omega) ?_
    refine T_if_eq dX10_universalDegree_46 (t := 67) rfl (fun c46 => ?_) (fun c46 => ?_)
    · refine T_iload_n dX10_universalDegree_67 rfl ?_
      refine T_istore_n dX10_universalDegree_68 (Nat.le_of_ble_eq_true rfl) ?_
      refine T_iinc dX10_universalDegree_69 rfl ⟨by omega, by omega⟩ ?_
      refine T_goto dX10_universalDegree_72 (t := 31) rfl ?_
      exact ih _ (by omega) w j a (x + 1) rfl _ pr9 pf9 (by omega) (by omega) (by omega) (hw.x0 c46) kk75
    · refine T_iload_n dX10_universalDegree_49 rfl ?_
      refine T_iload dX10_universalDegree_50 rfl ?_
      refine T_bipush dX10_universalDegree_52 (by decide) ?_
      refine T_idivN dX10_universalDegree_54 ⟨by omega, by omega⟩ (by omega) ?_
      refine T_iload dX10_universalDegree_55 rfl ?_
      refine T_bipush dX10_universalDegree_57 (by decide) ?_
      refine T_iremN dX10_universalDegree_59 ⟨by omega, by omega⟩ (by omega) ?_
      refine T_iadd dX10_universalDegree_60 ⟨by omega, by omega⟩ ?_
      refine T_callS dX10_universalDegree_61 zkm_11_224 ⟨Nat.le_of_ble_eq_true rfl, Nat.le_of_ble_eq_true rfl, rfl⟩ rfl (Nat.le_of_ble_eq_true rfl) ?_
      refine m_Jmax   ?_
      refine T_goto dX10_universalDegree_64 (t := 68) rfl ?_
      refine T_istore_n dX10_universalDegree_68 (Nat.le_of_ble_eq_true rfl) ?_
      refine T_iinc dX10_universalDegree_69 rfl ⟨by omega, by omega⟩ ?_
      refine T_goto dX10_universalDegree_72 (t := 31) rfl ?_
      exact ih _ (by omega) (max w (((x : Int) / 9) + ((x : Int) % 9))) j a (x + 1) rfl _ pr9 pf9 (by omega) (by omega) (by omega) (hw.x1 (by omega) ha c46) kk75
set_option maxHeartbeats 4000000 in
set_option maxRecDepth 100000 in
theorem m_X10_universalDegree_18 {n0 n k : Nat} {g : Nat → zV} {h : zHp} {Q : Option zV → Nat → Nat → zHp → Prop} {m : Nat} {P : pT} {L : lT} {I O : tT} {V : Int × pT} (hP : pwf P) (hL : lwf L) (hI : iwf I) (hO : owf O) (hV : vwf V) (hB : n0 ≤ m) (hrf : rfAt h m P L I O V)  : ∀ (d : Nat) (w : Int) (j : Nat) (a : Nat) (L4 : Option zV), (pB P j).2.1 - a = d → ∀ h1 : zHp, (rfF 1 h1 m P L I O V) → (∀ q : Nat, (q < m ∨ m + 33 ≤ q) → h1 q = h q) → (j < pN P) → (a ≤ (pB P j).2.1) → (zgq P j a 0 w) → (∀ (w : Int) (a : Nat) (L4 : Option zV) , (zgq P (j + 1) 0 0 w) → ZT n0 g mX10_universalDegree 81 [some (.inr (some m)), some (.inl w), some (.inl (j : Int)), some (.inl (a : Int)), L4] [] n k h1 Q) → ZT n0 g mX10_universalDegree 18 [some (.inr (some m)), some (.inl w), some (.inl (j : Int)), some (.inl (a : Int)), L4] [] n k h1 Q := by
  intro d
  induction d using Nat.strongRecOn with | _ d ih => ?_
  intro w j a L4 hd0 h1 pr9 pf9 hj ha hw kk81
  subst hd0
  obtain ⟨z, c, cn, en, ax, nu, sp, ss, hM, rp, rc, rk, rf, ry, ri, ro, rl, rv⟩ := id pr9
  have hpb := hP.bd
  have hs8 := hP.2.1
  obtain ⟨tp, bt, sz, ch, cc, cl, ftp, fbt, fsz, fch, fcc, fcl, fkn⟩ := id rf
  obtain ⟨-, rfl, krf⟩ := fkn.resolve_left (by decide)
  have hNi := pN_is hP
  have hN1 := hNi.1
  have hN23 := hNi.2.1
  obtain ⟨r0, r1, r2, r3, r4⟩ := krf j hj
  have dB := pB_facts hP j
  refine T_iload_n dX10_universalDegree_18 rfl ?_
  refine T_aload_n dX10_universalDegree_19 rfl ?_
  refine T_getfield dX10_universalDegree_20 zkf_11_63 hM rfl ?_
  refine T_iload_n dX10_universalDegree_23 rfl ?_
  refine T_ialoadN (m := j) dX10_universalDegree_24 fsz rfl (by omega) ?_
  refine T_icmp_ge dX10_universalDegree_25 (t := 81) rfl (fun c25 => ?_) (fun c25 => ?_)
  · exact kk81 w a _ (by have q := hw; rw [show a = (pB P j).2.1 by omega] at q; exact q.j)
  · refine T_iconst dX10_universalDegree_28 (by decide) ?_
    refine T_istore dX10_universalDegree_29 (Nat.le_of_ble_eq_true rfl) ?_
    refine m_X10_universalDegree_31 hP hL hI hO hV hB hrf _ w j a 0 rfl _ pr9 pf9 (by omega) (by omega) (by omega) hw (fun w75 x75 xw_75 => ?_)
    refine T_iinc dX10_universalDegree_75 rfl ⟨by omega, by omega⟩ ?_
    refine T_goto dX10_universalDegree_78 (t := 18) rfl ?_
    exact ih _ (by omega) w75 j (a + 1) _ rfl _ pr9 pf9 (by omega) (by omega) xw_75 kk81
set_option maxHeartbeats 4000000 in
set_option maxRecDepth 100000 in
theorem m_X10_universalDegree_8 {n0 n k : Nat} {g : Nat → zV} {h : zHp} {Q : Option zV → Nat → Nat → zHp → Prop} {m : Nat} {P : pT} {L : lT} {I O : tT} {V : Int × pT} (hP : pwf P) (hL : lwf L) (hI : iwf I) (hO : owf O) (hV : vwf V) (hB : n0 ≤ m) (hrf : rfAt h m P L I O V) (hQ : ∀  (h' : zHp), (rfAt h' m P L I O V) → (∀ q : Nat, (q < m ∨ m + 33 ≤ q) → h' q = h q) → Q (some (.inl (s_ud P))) n k h') : ∀ (d : Nat) (w : Int) (j : Nat) (L3 : Option zV) (L4 : Option zV), pN P - j = d → ∀ h1 : zHp, (rfF 1 h1 m P L I O V) → (∀ q : Nat, (q < m ∨ m + 33 ≤ q) → h1 q = h q) → (j ≤ pN P) → (zgq P j 0 0 w) → ZT n0 g mX10_universalDegree 8 [some (.inr (some m)), some (.inl w), some (.inl (j : Int)), L3, L4] [] n k h1 Q := by
  intro d
  induction d using Nat.strongRecOn with | _ d ih => ?_
  intro w j L3 L4 hd0 h1 pr9 pf9 hj hw
  subst hd0
  obtain ⟨z, c, cn, en, ax, nu, sp, ss, hM, rp, rc, rk, rf, ry, ri, ro, rl, rv⟩ := id pr9
  have hpb := hP.bd
  have hs8 := hP.2.1
  obtain ⟨tp, bt, sz, ch, cc, cl, ftp, fbt, fsz, fch, fcc, fcl, fkn⟩ := id rf
  obtain ⟨-, rfl, krf⟩ := fkn.resolve_left (by decide)
  have hNi := pN_is hP
  have hN1 := hNi.1
  have hN23 := hNi.2.1
  refine T_iload_n dX10_universalDegree_8 rfl ?_
  refine T_aload_n dX10_universalDegree_9 rfl ?_
  refine T_getfield dX10_universalDegree_10 zkf_11_195 hM rfl ?_
  refine T_icmp_ge dX10_universalDegree_13 (t := 87) rfl (fun c13 => ?_) (fun c13 => ?_)
  · refine T_iload_n dX10_universalDegree_87 rfl ?_
    refine T_iret dX10_universalDegree_88 rfl ?_
    rw [← s_ud_eq (by have q := hw; rw [show j = pN P by omega] at q; exact q.fin)] at hQ
    exact hQ _ pr9.at pf9
  · refine T_iconst dX10_universalDegree_16 (by decide) ?_
    refine T_istore_n dX10_universalDegree_17 (Nat.le_of_ble_eq_true rfl) ?_
    refine m_X10_universalDegree_18 hP hL hI hO hV hB hrf _ w j 0 _ rfl _ pr9 pf9 (by omega) (by omega) hw (fun w81 a81 L481 xv_81 => ?_)
    refine T_iinc dX10_universalDegree_81 rfl ⟨by omega, by omega⟩ ?_
    refine T_goto dX10_universalDegree_84 (t := 8) rfl ?_
    exact ih _ (by omega) w81 (j + 1) _ _ rfl _ pr9 pf9 (by omega) xv_81 
set_option maxHeartbeats 4000000 in
set_option maxRecDepth 100000 in
theorem m_X10_universalDegree {n0 n k : Nat} {g : Nat → zV} {h : zHp} {Q : Option zV → Nat → Nat → zHp → Prop} {m : Nat} {P : pT} {L : lT} {I O : tT} {V : Int × pT} (hP : pwf P) (hL : lwf L) (hI : iwf I) (hO : owf O) (hV : vwf V) (hB : n0 ≤ m) (hrf : rfAt h m P L I O V) (hQ : ∀  (h' : zHp), (rfAt h' m P L I O V) → (∀ q : Nat, (q < m ∨ m + 33 ≤ q) → h' q = h q) → Q (some (.inl (s_ud P))) n k h') : ZT n0 g mX10_universalDegree 0 (zloc mX10_universalDegree [.inr (some m)]) [] n k h Q := by
  show ZT n0 g mX10_universalDegree 0 [some (.inr (some m)), none, none, none, none] [] n k h Q
  obtain ⟨fk, z, c, cn, en, ax, nu, sp, ss, hM, rp, rc, rk, rf, ry, ri, ro, rl, rv⟩ := id hrf
  have hpb := hP.bd
  have hs8 := hP.2.1
  refine T_aload_n dX10_universalDegree_0 rfl ?_
  refine T_callV dX10_universalDegree_1 zkm_11_201 (Or.inl rfl) rfl hM ⟨Nat.le_of_ble_eq_true rfl, rfl⟩ rfl (Nat.le_of_ble_eq_true rfl) ?_
  refine r_fan  hP hL hI hO hV hB hrf (fun hh1 pr_1 pf_1 => ?_)
  obtain ⟨z, c, cn, en, ax, nu, sp, ss, hM, rp, rc, rk, rf, ry, ri, ro, rl, rv⟩ := id pr_1
  have hpb := hP.bd
  have hs8 := hP.2.1
  obtain ⟨tp, bt, sz, ch, cc, cl, ftp, fbt, fsz, fch, fcc, fcl, fkn⟩ := id rf
  obtain ⟨-, rfl, krf⟩ := fkn.resolve_left (by decide)
  have hNi := pN_is hP
  have hN1 := hNi.1
  have hN23 := hNi.2.1
  refine T_iconst dX10_universalDegree_4 (by decide) ?_
  refine T_istore_n dX10_universalDegree_5 (Nat.le_of_ble_eq_true rfl) ?_
  refine T_iconst dX10_universalDegree_6 (by decide) ?_
  refine T_istore_n dX10_universalDegree_7 (Nat.le_of_ble_eq_true rfl) ?_
  exact m_X10_universalDegree_8 hP hL hI hO hV hB hrf hQ _ 0 0 _ _ rfl _ pr_1 pf_1 (by omega) zgq.zero 
