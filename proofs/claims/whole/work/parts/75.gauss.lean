/-! ===== Gauss and Jordan over the residues ===== -/
def zker (p : Int) (s : Nat) (A F : Nat → Int) : Prop := ∀ r, r < s → zc p (zsum (fun c => A (9 * r + c) * F c) (s + 1)) 0
def GJ (p : Int) (s c : Nat) (A0 A : Nat → Int) : Prop := (∀ r, r < s → ∀ k, k ≤ s → 0 ≤ A (9 * r + k) ∧ A (9 * r + k) < p) ∧ (∀ c', c' < c → ∀ r, r < s → A (9 * r + c') = if r = c' then 1 else 0) ∧ ∀ F, zker p s A F → zker p s A0 F
section GAUSS
variable {p : Int} {s c r : Nat} {A0 A A1 A2 A3 : Nat → Int}
theorem GJ.init (hb : ∀ r, r < s → ∀ k, k ≤ s → 0 ≤ A (9 * r + k) ∧ A (9 * r + k) < p) : GJ p s 0 A A := ⟨hb, fun c' h => absurd h (Nat.not_lt_zero c'), fun F h => h⟩
theorem GJ.pivot (hp : zprime p) (h : GJ p s c A0 A) (hk : ∀ F, zker p s A0 F → F s = 0 → ∀ t, t < s → zc p (F t) 0) (hc : c < s) : ∃ q, c ≤ q ∧ q < s ∧ A (9 * q + c) ≠ 0 := by
  refine Classical.byContradiction fun hn => ?_
  have hz : ∀ q, c ≤ q → q < s → A (9 * q + c) = 0 := fun q a b => Classical.byContradiction fun x => hn ⟨q, a, b, x⟩
  have h1 := hk (fun t => if t = c then 1 else if t < c then -A (9 * t + c) else 0) (h.2.2 _ (fun r hr => by
    refine zc.of_eq ?_
    by_cases hrc : r < c
    · have e : zsum (fun k => A (9 * r + k) * (if k = c then 1 else if k < c then -A (9 * k + c) else 0)) (s + 1) = zsum (fun k => A (9 * r + c) * (if k = c then 1 else 0)) (s + 1) + zsum (fun k => -A (9 * r + c) * (if k = r then 1 else 0)) (s + 1) := by
        rw [← zsum_add]
        refine zsum_ext fun k hk => ?_
        by_cases e1 : k = c
        · rw [e1, if_pos rfl, if_pos rfl, if_neg (by omega)]; omega
        · rw [if_neg e1, if_neg e1]
          by_cases e2 : k < c
          · rw [if_pos e2, h.2.1 k e2 r hr]
            by_cases e3 : k = r
            · rw [if_pos e3.symm, if_pos e3, e3]; omega
            · rw [if_neg (fun x => e3 x.symm), if_neg e3]; omega
          · rw [if_neg e2, if_neg (by omega)]; omega
      rw [e, zsum_pick (r := c) (by omega) (fun k _ hk => by rw [if_neg hk]; omega), zsum_pick (r := r) (by omega) (fun k _ hk => by rw [if_neg hk]; omega), if_pos rfl, if_pos rfl]
      omega
    · rw [zsum_ext (f' := fun _ => 0) fun k hk => by
        by_cases e1 : k = c
        · rw [e1, hz r (by omega) hr]; omega
        · rw [if_neg e1]
          by_cases e2 : k < c
          · rw [if_pos e2, h.2.1 k e2 r hr, if_neg (by omega)]; omega
          · rw [if_neg e2]; omega, zsum_0])) (by rw [if_neg (by omega), if_neg (by omega)]) c hc
  rw [if_pos rfl] at h1
  exact zc_one hp h1
theorem zker.elim (hc : c < s) (h3 : ∀ i, i < s → ∀ k, k ≤ s → A3 (9 * i + k) = if i = c then A2 (9 * c + k) else (A2 (9 * i + k) - A2 (9 * i + c) * A2 (9 * c + k)) % p) {F : Nat → Int} (h : zker p s A3 F) : zker p s A2 F := by
  have hrow : zc p (zsum (fun k => A2 (9 * c + k) * F k) (s + 1)) 0 := by
    have := h c hc
    rwa [zsum_ext (f' := fun k => A2 (9 * c + k) * F k) fun k hk => by rw [h3 c hc k (by omega), if_pos rfl]] at this
  intro i hi
  by_cases e : i = c
  · rw [e]; exact hrow
  · have h1 : zc p (zsum (fun k => A2 (9 * i + k) * F k) (s + 1)) (zsum (fun k => A3 (9 * i + k) * F k + A2 (9 * i + c) * (A2 (9 * c + k) * F k)) (s + 1)) := zc.sum fun k hk => by
      rw [h3 i hi k (by omega), if_neg e]
      refine zc.sy ((((zc.md _).mul (zc.rf _)).add (zc.rf _)).tr (zc.of_eq ?_))
      grind
    refine h1.tr ?_
    rw [zsum_add, zsum_mul]
    exact ((h i hi).add ((zc.rf _).mul hrow)).tr (zc.of_eq (by omega))
theorem zker.scale (hc : c < s) {u v : Int} (huv : zc p (u * v) 1) (h2 : ∀ k, k ≤ s → A2 (9 * c + k) = A1 (9 * c + k) * u % p) (h2' : ∀ i, i < s → i ≠ c → ∀ k, k ≤ s → A2 (9 * i + k) = A1 (9 * i + k)) {F : Nat → Int} (h : zker p s A2 F) : zker p s A1 F := by
  intro i hi
  have hh := h i hi
  by_cases e : i = c
  · subst e
    have h1 : zc p (zsum (fun k => A1 (9 * i + k) * F k) (s + 1)) (zsum (fun k => v * (A2 (9 * i + k) * F k)) (s + 1)) := zc.sum fun k hk => by
      rw [h2 k (by omega)]
      have a : zc p (v * (A1 (9 * i + k) * u % p * F k)) (v * (A1 (9 * i + k) * u * F k)) := (zc.rf v).mul ((zc.md _).mul (zc.rf _))
      have b : zc p (v * (A1 (9 * i + k) * u * F k)) (A1 (9 * i + k) * F k) := by
        obtain ⟨d, hd⟩ := huv
        exact ⟨A1 (9 * i + k) * F k * d, by grind⟩
      exact (a.tr b).sy
    refine h1.tr ?_
    rw [zsum_mul]
    exact ((zc.rf v).mul hh).tr (zc.of_eq (by omega))
  · rwa [zsum_ext (f' := fun k => A1 (9 * i + k) * F k) fun k hk => by rw [h2' i hi e k (by omega)]] at hh
theorem zker.swap (hc : c < s) (hr : r < s) (h1 : ∀ k, k ≤ s → A1 (9 * r + k) = A (9 * c + k) ∧ A1 (9 * c + k) = A (9 * r + k)) (h1' : ∀ i, i < s → i ≠ r → i ≠ c → ∀ k, k ≤ s → A1 (9 * i + k) = A (9 * i + k)) {F : Nat → Int} (h : zker p s A1 F) : zker p s A F := by
  intro i hi
  by_cases e : i = c
  · have hh := h r hr
    rw [e]
    rwa [zsum_ext (f' := fun k => A (9 * c + k) * F k) fun k hk => by rw [(h1 k (by omega)).1]] at hh
  · by_cases e2 : i = r
    · have hh := h c hc
      rw [e2]
      rwa [zsum_ext (f' := fun k => A (9 * r + k) * F k) fun k hk => by rw [(h1 k (by omega)).2]] at hh
    · have hh := h i hi
      rwa [zsum_ext (f' := fun k => A (9 * i + k) * F k) fun k hk => by rw [h1' i hi e2 e k (by omega)]] at hh
theorem GJ.step (hp : zprime p) (h : GJ p s c A0 A) (hc : c < s) (hr : c ≤ r ∧ r < s) (hne : A (9 * r + c) ≠ 0)
    (h1 : ∀ k, k ≤ s → A1 (9 * r + k) = A (9 * c + k) ∧ A1 (9 * c + k) = A (9 * r + k)) (h1' : ∀ i, i < s → i ≠ r → i ≠ c → ∀ k, k ≤ s → A1 (9 * i + k) = A (9 * i + k))
    (h2 : ∀ k, k ≤ s → A2 (9 * c + k) = A1 (9 * c + k) * zinv p (A1 (9 * c + c)) % p) (h2' : ∀ i, i < s → i ≠ c → ∀ k, k ≤ s → A2 (9 * i + k) = A1 (9 * i + k))
    (h3 : ∀ i, i < s → ∀ k, k ≤ s → A3 (9 * i + k) = if i = c then A2 (9 * c + k) else (A2 (9 * i + k) - A2 (9 * i + c) * A2 (9 * c + k)) % p) : GJ p s (c + 1) A0 A3 := by
  have hpb := hp.bd
  have hpv := h.1 r hr.2 c (by omega)
  have ea : A1 (9 * c + c) = A (9 * r + c) := (h1 c (by omega)).2
  obtain ⟨z1, z2, z3⟩ := zinv_spec hp (show 0 < A1 (9 * c + c) by rw [ea]; omega) (by rw [ea]; exact hpv.2)
  have one : A2 (9 * c + c) = 1 := by
    rw [h2 c (by omega), Int.mul_comm]; exact z3
  refine ⟨fun i hi k hk => ?_, fun c' hc' i hi => ?_, fun F hF => h.2.2 F (zker.swap hc hr.2 h1 h1' (zker.scale hc (u := zinv p (A1 (9 * c + c))) (v := A1 (9 * c + c)) ((zc.md _).sy.tr (zc.of_eq z3)) h2 h2' (zker.elim hc h3 hF)))⟩
  · rw [h3 i hi k hk]
    split
    · rw [h2 k hk]; exact zmod_bd _ _ (by omega)
    · exact zmod_bd _ _ (by omega)
  · rw [h3 i hi c' (by omega)]
    by_cases e : c' = c
    · rw [e]
      by_cases e2 : i = c
      · rw [if_pos e2, if_pos e2, one]
      · rw [if_neg e2, if_neg e2, one, Int.mul_one, Int.sub_self, Int.zero_emod]
    · have row0 : A2 (9 * c + c') = 0 := by
        rw [h2 c' (by omega), (h1 c' (by omega)).2, h.2.1 c' (by omega) r hr.2, if_neg (by omega), Int.zero_mul, Int.zero_emod]
      by_cases e2 : i = c
      · rw [if_pos e2, row0, if_neg (by omega)]
      · rw [if_neg e2, row0, Int.mul_zero, Int.sub_zero, h2' i hi e2 c' (by omega)]
        by_cases e3 : i = r
        · rw [e3, (h1 c' (by omega)).1, h.2.1 c' (by omega) c hc, if_neg (by omega), if_neg (by omega), Int.zero_emod]
        · rw [h1' i hi e3 e2 c' (by omega), h.2.1 c' (by omega) i hi]
          split
          · exact Int.emod_eq_of_lt (by omega) (by omega)
          · exact Int.zero_emod _
theorem GJ.done (h : GJ p s s A0 A) : zker p s A0 (fun t => if t < s then A (9 * t + s) else -1) := by
  refine h.2.2 _ fun r hr => zc.of_eq ?_
  rw [zsum]
  have e : zsum (fun k => A (9 * r + k) * (if k < s then A (9 * k + s) else -1)) s = A (9 * r + s) := by
    rw [zsum_pick (r := r) hr (fun k hk hne => by rw [h.2.1 k hk r hr, if_neg (fun x => hne x.symm), Int.zero_mul]), h.2.1 r hr r hr, if_pos rfl, if_pos hr, Int.one_mul]
  rw [e, if_neg (by omega)]
  omega
end GAUSS
section SYST
variable {P : pT} {k : Nat} {un : Nat → Nat}
/-- a list of different standard monomials -/
def zls (P : pT) (k : Nat) (n : Nat) (un : Nat → Nat) : Prop := (∀ t, t < n → un t < 81 ∧ un t % 9 < (pB P k).1 (un t / 9)) ∧ ∀ t u, t < u → u < n → un t ≠ un u
theorem zls.le (hP : pwf P) {n : Nat} (h : zls P k n un) : n ≤ P.2.1 := by
  obtain ⟨u, v, o, ho, hR, hH⟩ := pS_RI hP k
  have hn := pS_n hP k
  have h2 : ∀ t, ∃ r, t < n → r < P.2.1 ∧ eM (pS P k).1 r = un t := fun t => by
    by_cases ht : t < n
    · have h4 := (hH.2 (un t / 9) (un t % 9) (by have := (h.1 t ht).1; omega) (by omega)).mpr (h.1 t ht).2
      rw [show 9 * (un t / 9) + un t % 9 = un t by omega] at h4
      obtain ⟨r, hr, e⟩ := stdB_iff.mp h4
      exact ⟨r, fun _ => ⟨by omega, e⟩⟩
    · exact ⟨0, fun x => absurd x ht⟩
  have hf := fun t => Classical.choose_spec (h2 t)
  exact zphp P.2.1 n (fun t => Classical.choose (h2 t)) (fun t ht => (hf t ht).1) (fun a b hab hb e => by
    have e1 := (hf a (by omega)).2
    have e2 := (hf b hb).2
    rw [show Classical.choose (h2 a) = Classical.choose (h2 b) from e, e2] at e1
    exact h.2 a b hab hb e1.symm)
theorem zls.full (hP : pwf P) {n : Nat} (h : zls P k n un) (ha : ∀ m, m < 81 → m % 9 < (pB P k).1 (m / 9) → ∃ t, t < n ∧ un t = m) : n = P.2.1 := by
  have h1 := h.le hP
  obtain ⟨u, v, o, ho, hR, hH⟩ := pS_RI hP k
  have hn := pS_n hP k
  obtain ⟨_, _, _, _, _, _, _, _, hm81, hinj⟩ := id hR.1
  have h2 : ∀ t, ∃ r, t < P.2.1 → r < n ∧ un r = eM (pS P k).1 t := fun t => by
    by_cases ht : t < P.2.1
    · have h3 := hm81 t (by omega)
      have h4 := (hH.2 (eM (pS P k).1 t / 9) (eM (pS P k).1 t % 9) (by omega) (by omega)).mp (by
        rw [show 9 * (eM (pS P k).1 t / 9) + eM (pS P k).1 t % 9 = eM (pS P k).1 t by omega]
        exact stdB_iff.mpr ⟨t, by omega, rfl⟩)
      obtain ⟨r, hr, e⟩ := ha _ h3 h4
      exact ⟨r, fun _ => ⟨hr, e⟩⟩
    · exact ⟨0, fun h => absurd h ht⟩
  have hf := fun t => Classical.choose_spec (h2 t)
  have h3 := zphp n P.2.1 (fun t => Classical.choose (h2 t)) (fun t ht => (hf t ht).1) (fun a b hab hb e => by
    have e1 := (hf a (by omega)).2
    have e2 := (hf b hb).2
    rw [show Classical.choose (h2 a) = Classical.choose (h2 b) from e, e2] at e1
    exact hinj a b hab (by omega) e1.symm)
  omega
/-- a solution of the system is the polynomial -/
theorem zls.int (hP : pwf P) (h : zls P k P.2.1 un) {b w : Nat → Int} (hb : ∀ t, t < P.2.1 → 0 ≤ b t ∧ b t < P.1) (hw : ∀ q, q < P.2.1 → 0 ≤ w q ∧ w q < P.1)
    (he : ∀ q, q < P.2.1 → zc P.1 (zsum (fun t => b t * zvec P.1 P.2.2.1 P.2.2.2.1 (un t) q) P.2.1) (w q)) : zint P (pB P k).1 w (zsc un b P.2.1) := by
  have hpb := hP.bd
  refine ⟨fun m => zsc_bd hpb.1 hb m, fun m hm => ?_, fun q hq => ?_⟩
  · obtain ⟨t, ht, e⟩ := zsc_ne hm
    rw [← e]; exact h.1 t ht
  · have e1 := zsc_sum (cb := b) (g := fun x => zvec P.1 P.2.2.1 P.2.2.2.1 x q) (fun t ht => (h.1 t ht).1) h.2
    unfold zval
    rw [show (fun m => zsc un b P.2.1 m * zmon P.1 (P.2.2.1 q) (P.2.2.2.1 q) m) = fun x => zsc un b P.2.1 x * zvec P.1 P.2.2.1 P.2.2.2.1 x q from rfl, e1]
    exact ((zc.md _).tr (he q hq)).eq (zmod_bd _ _ (by omega)) (hw q hq)
/-- the system of the standard monomials has the kernel 0 -/
theorem zls.ker (hP : pwf P) (h : zls P k P.2.1 un) {A : Nat → Int} (hA : ∀ q, q < P.2.1 → ∀ t, t < P.2.1 → A (9 * q + t) = zvec P.1 P.2.2.1 P.2.2.2.1 (un t) q) : ∀ F, zker P.1 P.2.1 A F → F P.2.1 = 0 → ∀ t, t < P.2.1 → zc P.1 (F t) 0 := by
  intro F hF h0 t ht
  have h1 := zind hP (k := k) (D := zsc un F P.2.1) (fun m hm hD => by
    obtain ⟨t, ht, e⟩ := zsc_ne hD
    rw [← e]; exact (h.1 t ht).2) (fun q hq => by
    rw [zsc_sum (g := fun x => zvec P.1 P.2.2.1 P.2.2.2.1 x q) (fun t ht => (h.1 t ht).1) h.2]
    have := hF q hq
    rw [zsum, h0, Int.mul_zero, Int.add_zero] at this
    rwa [zsum_ext (f' := fun t => F t * zvec P.1 P.2.2.1 P.2.2.2.1 (un t) q) fun t ht => by rw [hA q hq t ht, Int.mul_comm]] at this) (un t) (h.1 t ht).1
  rwa [zsc_at h.2 t ht] at h1
/-- the solved system gives the polynomial -/
theorem zls.sol (hP : pwf P) (h : zls P k P.2.1 un) {A0 A w : Nat → Int} (hA : ∀ q, q < P.2.1 → ∀ t, t < P.2.1 → A0 (9 * q + t) = zvec P.1 P.2.2.1 P.2.2.2.1 (un t) q) (hW : ∀ q, q < P.2.1 → A0 (9 * q + P.2.1) = w q)
    (hw : ∀ q, q < P.2.1 → 0 ≤ w q ∧ w q < P.1) (hG : GJ P.1 P.2.1 P.2.1 A0 A) : zint P (pB P k).1 w (zsc un (fun t => A (9 * t + P.2.1)) P.2.1) :=
  h.int hP (fun t ht => hG.1 t ht P.2.1 (Nat.le_refl _)) hw fun q hq => by
    have this : zc P.1 (zsum (fun c => A0 (9 * q + c) * (if c < P.2.1 then A (9 * c + P.2.1) else -1)) P.2.1 + A0 (9 * q + P.2.1) * (if P.2.1 < P.2.1 then A (9 * P.2.1 + P.2.1) else -1)) 0 := hG.done q hq
    rw [if_neg (show ¬ P.2.1 < P.2.1 by omega), hW q hq] at this
    rw [zsum_ext (f' := fun t => A (9 * t + P.2.1) * zvec P.1 P.2.2.1 P.2.2.2.1 (un t) q) fun t ht => by rw [hA q hq t ht, if_pos ht, Int.mul_comm]] at this
    obtain ⟨d, hd⟩ := this
    exact ⟨d, by omega⟩
end SYST
