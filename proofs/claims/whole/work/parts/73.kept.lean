/-! ===== the standard monomials kept by the elimination; the answer that it gives ===== -/
/-- z terms laid out over the monomials -/
def zsc (mon : Nat → Nat) (cb : Nat → Int) : Nat → Nat → Int
  | 0 => fun _ => 0
  | t + 1 => zfu (zsc mon cb t) (mon t) (cb t)
theorem zsc_off {mon : Nat → Nat} {cb : Nat → Int} : ∀ {z x : Nat}, (∀ t, t < z → mon t ≠ x) → zsc mon cb z x = 0
  | 0, _, _ => rfl
  | z + 1, x, h => by
    unfold zsc
    rw [zfu_ne (fun e => h z (by omega) e.symm)]
    exact zsc_off fun t ht => h t (by omega)
theorem zsc_at {mon : Nat → Nat} {cb : Nat → Int} : ∀ {z : Nat}, (∀ t u, t < u → u < z → mon t ≠ mon u) → ∀ t, t < z → zsc mon cb z (mon t) = cb t
  | 0, _, t, h => absurd h (Nat.not_lt_zero t)
  | z + 1, hi, t, h => by
    unfold zsc
    by_cases e : t = z
    · rw [e, zfu_self]
    · rw [zfu_ne (hi t z (by omega) (by omega))]
      exact zsc_at (fun a b h1 h2 => hi a b h1 (by omega)) t (by omega)
theorem zsc_ext {mon mon' : Nat → Nat} {cb cb' : Nat → Int} : ∀ {z : Nat}, (∀ t, t < z → mon t = mon' t ∧ cb t = cb' t) → zsc mon cb z = zsc mon' cb' z
  | 0, _ => rfl
  | z + 1, h => by
    unfold zsc
    rw [zsc_ext (fun t ht => h t (by omega)), (h z (by omega)).1, (h z (by omega)).2]
theorem zsc_ne {mon : Nat → Nat} {cb : Nat → Int} {z x : Nat} (h : zsc mon cb z x ≠ 0) : ∃ t, t < z ∧ mon t = x := Classical.byContradiction fun hn => h (zsc_off fun t ht e => hn ⟨t, ht, e⟩)
theorem zsc_sum {mon : Nat → Nat} {cb g : Nat → Int} {z N : Nat} (hm : ∀ t, t < z → mon t < N) (hi : ∀ t u, t < u → u < z → mon t ≠ mon u) :
    zsum (fun x => zsc mon cb z x * g x) N = zsum (fun t => cb t * g (mon t)) z := by
  rw [zsum_supp (g := g) hm hi (fun m _ hne => zsc_ne hne)]
  exact zsum_ext fun t ht => by rw [zsc_at hi t ht]
theorem zsc_bd {p : Int} {mon : Nat → Nat} {cb : Nat → Int} (hp : 1 < p) : ∀ {z : Nat}, (∀ t, t < z → 0 ≤ cb t ∧ cb t < p) → ∀ x, 0 ≤ zsc mon cb z x ∧ zsc mon cb z x < p
  | 0, _, _ => ⟨Int.le_refl _, by show (0 : Int) < p; omega⟩
  | z + 1, h, x => by
    unfold zsc
    by_cases e : x = mon z
    · rw [e, zfu_self]; exact h z (by omega)
    · rw [zfu_ne e]; exact zsc_bd hp (fun t ht => h t (by omega)) x
section KEPT
variable {P : pT} {k : Nat} {E : eT}
/-- no polynomial on the standard monomials but 0 has the values 0 -/
theorem zind (hP : pwf P) {D : Nat → Int} (hD : ∀ m, m < 81 → D m ≠ 0 → m % 9 < (pB P k).1 (m / 9)) (h0 : ∀ q, q < P.2.1 → zc P.1 (zsum (fun m => D m * zvec P.1 P.2.2.1 P.2.2.2.1 m q) 81) 0) : ∀ m, m < 81 → zc P.1 (D m) 0 := by
  obtain ⟨u, v, o, ho, hR, hH⟩ := pS_RI hP k
  have hn := pS_n hP k
  obtain ⟨_, _, _, _, _, _, _, _, hm81, hinj⟩ := id hR.1
  have hstd : ∀ m, m < 81 → D m ≠ 0 → ∃ t, t < P.2.1 ∧ eM (pS P k).1 t = m := fun m hm hne => by
    have h1 := hD m hm hne
    have h2 := (hH.2 (m / 9) (m % 9) (by omega) (by omega)).mpr h1
    rw [show 9 * (m / 9) + m % 9 = m by omega] at h2
    obtain ⟨t, ht, e⟩ := stdB_iff.mp h2
    exact ⟨t, by omega, e⟩
  have hz : ∀ t, t < P.2.1 → zc P.1 (D (eM (pS P k).1 t)) 0 := fun t ht =>
    zindep hP.1 hP.2.1 hP.2.2.1 hP.dist hR ho (c := fun t => D (eM (pS P k).1 t)) (fun q hq => by
      have h1 := h0 q hq
      rwa [zsum_supp (g := fun m => zvec P.1 P.2.2.1 P.2.2.2.1 m q) (fun t ht => hm81 t (by omega)) (fun t t' a b => hinj t t' a (by omega)) hstd] at h1) ht
  intro m hm
  by_cases e : D m = 0
  · exact zc.of_eq e
  · obtain ⟨t, ht, e2⟩ := hstd m hm e
    rw [← e2]; exact hz t ht
/-- a standard monomial beside kept standard ones has a new value vector -/
theorem zkeep_new (hP : pwf P) (hE : EInv P.1 P.2.1 P.2.2.1 P.2.2.2.1 E) (hs : ∀ t, t < E.1 → eM E t % 9 < (pB P k).1 (eM E t / 9)) {m : Nat} (hm : m < 81) (hm2 : m % 9 < (pB P k).1 (m / 9)) (hne : ∀ t, t < E.1 → eM E t ≠ m)
    (h0 : ∀ q, q < P.2.1 → erd P.1 E (zvec P.1 P.2.2.1 P.2.2.2.1 m) q = 0) : False := by
  obtain ⟨_, _, _, _, _, _, _, _, hm81, hinj⟩ := id hE
  have h1 := zind hP (k := k) (D := fun x => (if x = m then 1 else 0) - zsc (eM E) (ecb P.1 E (zvec P.1 P.2.2.1 P.2.2.2.1 m)) E.1 x) (fun x hx hD => by
    by_cases e : x = m
    · rw [e]; exact hm2
    · rw [if_neg e] at hD
      obtain ⟨t, ht, e2⟩ := zsc_ne (fun q => hD (by rw [q]; rfl))
      rw [← e2]; exact hs t ht) (fun q hq => by
    have r := hE.r1 (zvec P.1 P.2.2.1 P.2.2.2.1 m) E.1 (Nat.le_refl _) q hq
    rw [show zrv P.1 (eR E) (eP E) (zvec P.1 P.2.2.1 P.2.2.2.1 m) E.1 q = 0 from h0 q hq, Int.zero_add] at r
    have e1 := zsc_sum (cb := ecb P.1 E (zvec P.1 P.2.2.1 P.2.2.2.1 m)) (g := fun x => zvec P.1 P.2.2.1 P.2.2.2.1 x q) hm81 hinj
    have e2 : zsum (fun x => (if x = m then (1 : Int) else 0) * zvec P.1 P.2.2.1 P.2.2.2.1 x q) 81 = zvec P.1 P.2.2.1 P.2.2.2.1 m q := by
      rw [zsum_pick hm (fun x _ hx => by rw [if_neg hx, Int.zero_mul]), if_pos rfl, Int.one_mul]
    have e3 : zsum (fun x => ((if x = m then (1 : Int) else 0) - zsc (eM E) (ecb P.1 E (zvec P.1 P.2.2.1 P.2.2.2.1 m)) E.1 x) * zvec P.1 P.2.2.1 P.2.2.2.1 x q) 81 = zvec P.1 P.2.2.1 P.2.2.2.1 m q + (-1) * zsum (fun t => ecb P.1 E (zvec P.1 P.2.2.1 P.2.2.2.1 m) t * zvec P.1 P.2.2.1 P.2.2.2.1 (eM E t) q) E.1 := by
      rw [← e1, ← e2, ← zsum_mul, ← zsum_add]
      exact zsum_ext fun x _ => by grind
    rw [e3]
    refine ((r.add (zc.rf _))).tr (zc.of_eq ?_)
    exact (fun a => by omega : ∀ a : Int, a + -1 * a = 0) _) m hm
  rw [if_pos rfl, zsc_off hne] at h1
  exact zc_one hP.1 h1
/-- all kept: as many as points -/
theorem zkept_n (hP : pwf P) (hE : EInv P.1 P.2.1 P.2.2.1 P.2.2.2.1 E) (ha : ∀ m, m < 81 → m % 9 < (pB P k).1 (m / 9) → stdB E m = true) : E.1 = P.2.1 := by
  obtain ⟨u, v, o, ho, hR, hH⟩ := pS_RI hP k
  have hn := pS_n hP k
  obtain ⟨_, _, _, _, _, _, _, _, hm81, hinj⟩ := id hR.1
  have h1 := hE.le
  have h2 : ∀ t, ∃ r, t < P.2.1 → r < E.1 ∧ eM E r = eM (pS P k).1 t := fun t => by
    by_cases ht : t < P.2.1
    · have h3 := hm81 t (by omega)
      have h4 := (hH.2 (eM (pS P k).1 t / 9) (eM (pS P k).1 t % 9) (by omega) (by omega)).mp (by
        rw [show 9 * (eM (pS P k).1 t / 9) + eM (pS P k).1 t % 9 = eM (pS P k).1 t by omega]
        exact stdB_iff.mpr ⟨t, by omega, rfl⟩)
      obtain ⟨r, hr, e⟩ := stdB_iff.mp (ha _ h3 h4)
      exact ⟨r, fun _ => ⟨hr, e⟩⟩
    · exact ⟨0, fun h => absurd h ht⟩
  have hf := fun t => Classical.choose_spec (h2 t)
  have h3 := zphp E.1 P.2.1 (fun t => Classical.choose (h2 t)) (fun t ht => (hf t ht).1) (fun a b hab hb e => by
    have e1 := (hf a (by omega)).2
    have e2 := (hf b hb).2
    rw [show Classical.choose (h2 a) = Classical.choose (h2 b) from e, e2] at e1
    exact hinj a b hab (by omega) e1.symm)
  omega
/-- the polynomial that the elimination gives -/
theorem zint_E (hP : pwf P) (hE : EInv P.1 P.2.1 P.2.2.1 P.2.2.2.1 E) (hn : E.1 = P.2.1) (hs : ∀ t, t < E.1 → eM E t % 9 < (pB P k).1 (eM E t / 9)) {w : Nat → Int} (hw : ∀ q, q < P.2.1 → 0 ≤ w q ∧ w q < P.1) :
    zint P (pB P k).1 w (zsc (eM E) (ecb P.1 E w) P.2.1) := by
  have hpb := hP.bd
  obtain ⟨_, _, _, _, _, _, _, _, hm81, hinj⟩ := id hE
  refine ⟨fun m => zsc_bd hpb.1 (fun t _ => zrc_bd hpb.1 E.1) m, fun m hm => ?_, fun q hq => ?_⟩
  · obtain ⟨t, ht, e⟩ := zsc_ne hm
    rw [← e]; exact ⟨hm81 t (by omega), hs t (by omega)⟩
  · have h0 : erd P.1 E w q = 0 := Classical.byContradiction fun hne => by have := hE.lt hq hne; omega
    have r := hE.r1 w E.1 (Nat.le_refl _) q hq
    rw [show zrv P.1 (eR E) (eP E) w E.1 q = 0 from h0, Int.zero_add] at r
    have e1 := zsc_sum (cb := ecb P.1 E w) (g := fun x => zvec P.1 P.2.2.1 P.2.2.2.1 x q) hm81 hinj
    unfold zval
    rw [← hn]
    rw [show (fun m => zsc (eM E) (ecb P.1 E w) E.1 m * zmon P.1 (P.2.2.1 q) (P.2.2.2.1 q) m) = fun x => zsc (eM E) (ecb P.1 E w) E.1 x * zvec P.1 P.2.2.1 P.2.2.2.1 x q from rfl, e1]
    exact ((zc.md _).tr r.sy).eq (zmod_bd _ _ (by omega)) (hw q hq)
end KEPT
