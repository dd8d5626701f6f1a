/-! ===== p52, pure: each corner's polynomial vanishes; one standard set for many orders ===== -/
theorem zsum_fu0 {f g : Nat → Int} {k : Nat} {v : Int} : ∀ N, N ≤ k → zsum (fun x => zfu f k v x * g x) N = zsum (fun x => f x * g x) N := fun N hN => zsum_ext fun j hj => by rw [zfu_ne (by omega)]
theorem zsum_fu {f g : Nat → Int} {k : Nat} {v : Int} : ∀ N, k < N → zsum (fun x => zfu f k v x * g x) N = zsum (fun x => f x * g x) N + (v - f k) * g k
  | 0, h => absurd h (Nat.not_lt_zero _)
  | N + 1, h => by
    rw [zsum, zsum]
    by_cases e : k = N
    · subst e
      rw [zsum_fu0 k (Nat.le_refl k), zfu_self]; grind
    · rw [zsum_fu N (by omega), zfu_ne (show N ≠ k by omega)]; grind
theorem zcel_sum {p : Int} {m : Nat} {cb g : Nat → Int} {mon : Nat → Nat} (hm : m < 81) : ∀ z, (∀ t, t < z → mon t < 81) → (∀ t, t < z → mon t ≠ m) → (∀ t u, t < u → u < z → mon t ≠ mon u) → zc p (zsum (fun x => zcel p m cb mon z x * g x) 81) (g m - zsum (fun t => cb t * g (mon t)) z)
  | 0, _, _, _ => by
    refine zc.of_eq ?_
    rw [zsum_pick (f := fun x => zcel p m cb mon 0 x * g x) hm (fun k _ hk => by show (if k = m then (1 : Int) else 0) * g k = 0; rw [if_neg hk]; exact Int.zero_mul _)]
    show (if m = m then (1 : Int) else 0) * g m = g m - 0
    rw [if_pos rfl]; omega
  | z + 1, h1, h2, h3 => by
    have ih := zcel_sum (p := p) (cb := cb) (g := g) hm z (fun t ht => h1 t (by omega)) (fun t ht => h2 t (by omega)) (fun t u a b => h3 t u a (by omega))
    have e0 : zcel p m cb mon z (mon z) = 0 := by rw [zcel_at (fun t ht => h3 t z ht (by omega)), if_neg (h2 z (by omega))]
    rw [show (fun x => zcel p m cb mon (z + 1) x * g x) = (fun x => zfu (zcel p m cb mon z) (mon z) (-cb z % p) x * g x) from rfl, zsum_fu 81 (h1 z (by omega)), e0, zsum]
    have e1 : zc p ((-cb z % p - 0) * g (mon z)) (-cb z * g (mon z)) := by rw [Int.sub_zero]; exact (zc.md _).mul (zc.rf _)
    have alg : ∀ a b c d : Int, a - b + -c * d = a - (b + c * d) := fun a b c d => by rw [Int.neg_mul]; omega
    exact (ih.add e1).tr (zc.of_eq (alg _ _ _ _))
section GF
variable {p : Int} {s : Nat} {xs ys : Nat → Int} {u v tie : Int}
/-- the cells of each corner are 0 at each point -/
def zVan (p : Int) (s : Nat) (xs ys : Nat → Int) (S : gS) : Prop := ∀ b, b < S.2.1 → ∀ q, q < s → zc p (zsum (fun m => S.2.2.2 b m * zvec p xs ys m q) 81) 0
theorem zVan.run {o : Nat → Nat} (hp : zprime p) (ho : IsOrd u v tie 81 o) (hs : s ≤ 8) (hu : 0 ≤ u) (hv : 0 ≤ v) : ∀ k, k ≤ 81 → zVan p s xs ys (rrun p s xs ys o k)
  | 0, _ => fun b hb => absurd hb (Nat.not_lt_zero b)
  | k + 1, hk => by
    have ih := zVan.run hp ho hs hu hv k (by omega)
    have hR := RI.run (xs := xs) (ys := ys) hp ho hs hu hv k (by omega)
    have hfr := hR.fresh ho (by omega) (Nat.le_refl k) (by omega)
    have hm := ho.1 k (by omega)
    show zVan p s xs ys (rstep p s xs ys (rrun p s xs ys o k) (o k))
    generalize rrun p s xs ys o k = S at *
    cases hn : enew p s xs ys S.1 (o k) with
    | true => rw [rstep_std hn]; exact ih
    | false =>
      cases hc : corB S.1 (o k) with
      | false => rw [rstep_none hn hc]; exact ih
      | true =>
        rw [rstep_cor hn hc]
        intro b hb q hq
        show zc p (zsum (fun m => zfu S.2.2.2 S.2.1 (zcel p (o k) (ecb p S.1 (zvec p xs ys (o k))) (eM S.1) S.1.1) b m * zvec p xs ys m q) 81) 0
        have hb' : b < S.2.1 + 1 := hb
        by_cases e : b = S.2.1
        · subst e
          rw [zfu_self]
          have hne : ∀ t, t < S.1.1 → eM S.1 t ≠ o k := fun t ht e => by rw [stdB_iff.mpr ⟨t, ht, e⟩] at hfr; cases hfr
          obtain ⟨-, -, -, -, -, -, -, -, h81, hin⟩ := id hR.1
          have h1 := zcel_sum (p := p) (cb := ecb p S.1 (zvec p xs ys (o k))) (g := fun m => zvec p xs ys m q) hm S.1.1 h81 hne hin
          have h2 := hR.1.r1 (zvec p xs ys (o k)) S.1.1 (Nat.le_refl _) q hq
          rw [show zrv p (eR S.1) (eP S.1) (zvec p xs ys (o k)) S.1.1 q = 0 from zfst_all (of_decide_eq_false hn) q hq, Int.zero_add] at h2
          exact h1.tr ((h2.sub (zc.rf _)).tr (zc.of_eq (Int.sub_self _)))
        · rw [zfu_ne e]; exact ih b (by omega) q hq
/-- what a basis's cells have: 0 at the points -/
theorem zbas_van (hp : zprime p) (hs : s ≤ 8) (hu : 0 ≤ u) (hv : 0 ≤ v) {a : Nat} (ha : a < (zbas p s xs ys u v tie).2.1) {q : Nat} (hq : q < s) : zc p (zsum (fun m => (zbas p s xs ys u v tie).2.2.2 a m * zvec p xs ys m q) 81) 0 := by
  obtain ⟨-, he, hso⟩ := zbas_is (xs := xs) (ys := ys) (tie := tie) hp hs hu hv
  have hV := zVan.run (xs := xs) (ys := ys) (s := s) hp (zord_is u v tie) hs hu hv 81 (Nat.le_refl _)
  rw [he] at ha
  obtain ⟨b, hb, -, e2⟩ := hso.1 a ha
  rw [e2]; exact hV b hb q hq
/-- w is a combination of the values of the standard monomials below m, by another order -/
def zSp (p : Int) (s : Nat) (xs ys : Nat → Int) (E : eT) (u v tie : Int) (m : Nat) (w : Nat → Int) : Prop := ∃ c : Nat → Int, (∀ t, t < E.1 → c t ≠ 0 → zlt u v tie (eM E t) m) ∧ ∀ q, q < s → zc p (w q) (zsum (fun t => c t * zvec p xs ys (eM E t) q) E.1)
variable {E : eT} {m : Nat}
theorem zSp.congr {w w' : Nat → Int} (h : zSp p s xs ys E u v tie m w) (e : ∀ q, q < s → zc p (w' q) (w q)) : zSp p s xs ys E u v tie m w' := by
  obtain ⟨c, c1, c2⟩ := h
  exact ⟨c, c1, fun q hq => (e q hq).tr (c2 q hq)⟩
theorem zSp.zero : zSp p s xs ys E u v tie m (fun _ => 0) := ⟨fun _ => 0, fun t _ h => absurd rfl h, fun q _ => zc.of_eq (by rw [zsum_ext (f' := fun _ => 0) fun t _ => Int.zero_mul _, zsum_0])⟩
theorem zSp.add {w w' : Nat → Int} (h : zSp p s xs ys E u v tie m w) (h' : zSp p s xs ys E u v tie m w') : zSp p s xs ys E u v tie m (fun q => w q + w' q) := by
  obtain ⟨c, c1, c2⟩ := h
  obtain ⟨d, d1, d2⟩ := h'
  refine ⟨fun t => c t + d t, fun t ht hn => ?_, fun q hq => ((c2 q hq).add (d2 q hq)).tr (zc.of_eq ?_)⟩
  · by_cases e : c t = 0
    · exact d1 t ht (fun e2 => hn (by show c t + d t = 0; rw [e, e2]; rfl))
    · exact c1 t ht e
  · rw [← zsum_add]; exact zsum_ext fun t _ => by grind
theorem zSp.mul {w : Nat → Int} (x : Int) (h : zSp p s xs ys E u v tie m w) : zSp p s xs ys E u v tie m (fun q => x * w q) := by
  obtain ⟨c, c1, c2⟩ := h
  refine ⟨fun t => x * c t, fun t ht hn => c1 t ht (fun e => hn (by show x * c t = 0; rw [e]; exact Int.mul_zero _)), fun q hq => ((zc.rf x).mul (c2 q hq)).tr (zc.of_eq ?_)⟩
  rw [← zsum_mul]; exact zsum_ext fun t _ => by grind
theorem zSp.comb {V : Nat → Nat → Int} {c : Nat → Int} : ∀ n, (∀ t, t < n → c t ≠ 0 → zSp p s xs ys E u v tie m (V t)) → zSp p s xs ys E u v tie m (fun q => zsum (fun t => c t * V t q) n)
  | 0, _ => zSp.zero
  | n + 1, h => by
    have ih := zSp.comb (V := V) (c := c) n (fun t ht => h t (by omega))
    by_cases e : c n = 0
    · refine ih.congr fun q _ => zc.of_eq ?_
      rw [zsum, e]; omega
    · exact ih.add ((h n (by omega) e).mul (c n))
theorem zSp.mono {m' : Nat} {w : Nat → Int} (h : zSp p s xs ys E u v tie m w) (hl : zlt u v tie m m') : zSp p s xs ys E u v tie m' w := by
  obtain ⟨c, c1, c2⟩ := h
  exact ⟨c, fun t ht hn => zlt_tr (c1 t ht hn) hl, c2⟩
theorem zSp.unit {t : Nat} (ht : t < E.1) (hl : zlt u v tie (eM E t) m) : zSp p s xs ys E u v tie m (zvec p xs ys (eM E t)) := by
  refine ⟨fun r => if r = t then 1 else 0, fun r hr hn => ?_, fun q _ => zc.of_eq ?_⟩
  · by_cases e : r = t
    · rw [e]; exact hl
    · exact absurd (if_neg e) hn
  · rw [zsum_pick (f := fun r => (if r = t then (1 : Int) else 0) * zvec p xs ys (eM E r) q) ht (fun k _ hk => by rw [if_neg hk]; exact Int.zero_mul _), if_pos rfl, Int.one_mul]
theorem zSp.std {x : Nat} (h : stdB E x = true) (hl : zlt u v tie x m) : zSp p s xs ys E u v tie m (zvec p xs ys x) := by
  obtain ⟨t, ht, e⟩ := stdB_iff.mp h
  rw [← e]; rw [← e] at hl; exact zSp.unit ht hl
end GF
section GF2
variable {p : Int} {s : Nat} {xs ys : Nat → Int} {u v tie u' v' t' : Int} {o : Nat → Nat} {S S' : gS}
/-- a value vector times a coordinate -/
theorem zSp.sx {o' : Nat → Nat} {i m : Nat} (hR : RI p s xs ys u v tie o 81 S) (ho' : IsOrd u' v' t' 81 o') (hs : s ≤ 8) (hm : m + 9 < 81) (hi : i < 81) (ei : o' i = m + 9) (hu' : 0 ≤ u') (hv' : 0 ≤ v')
    (ih : ∀ j, j < i → stdB S.1 (o' j) = false → zSp p s xs ys S.1 u' v' t' (o' j) (zvec p xs ys (o' j))) (h : zSp p s xs ys S.1 u' v' t' m (zvec p xs ys m)) : zSp p s xs ys S.1 u' v' t' (m + 9) (zvec p xs ys (m + 9)) := by
  obtain ⟨c, c1, c2⟩ := h
  refine (zSp.comb (V := fun t => zvec p xs ys (eM S.1 t + 9)) (c := c) S.1.1 fun t ht hn => ?_).congr fun q hq => ?_
  · have hl := zlt_mx (c1 t ht hn)
    have h7 := hR.small hs (stdB_iff.mpr ⟨t, ht, rfl⟩)
    cases hb : stdB S.1 (eM S.1 t + 9) with
    | true => exact zSp.std hb hl
    | false =>
      obtain ⟨j, hj, ej⟩ := ho'.2.1 (eM S.1 t + 9) (by omega)
      have hji : j < i := (ho'.lt_iff hj hi).mp (by rw [ej, ei]; exact hl)
      have := ih j hji (by rw [ej]; exact hb)
      rw [ej] at this
      exact this.mono hl
  · refine (zmon_x (p := p) (x := xs q) (y := ys q) m).tr (((zc.rf (xs q)).mul (c2 q hq)).tr ?_)
    rw [← zsum_mul]
    refine zc.sum fun t _ => ?_
    have e3 := (zc.rf (p := p) (c t)).mul (zmon_x (p := p) (x := xs q) (y := ys q) (eM S.1 t))
    exact (zc.of_eq (by show xs q * (c t * zmon p (xs q) (ys q) (eM S.1 t)) = c t * (xs q * zmon p (xs q) (ys q) (eM S.1 t)); grind)).tr e3.sy
theorem zSp.sy {o' : Nat → Nat} {i m : Nat} (hR : RI p s xs ys u v tie o 81 S) (ho' : IsOrd u' v' t' 81 o') (hs : s ≤ 8) (hm : m + 1 < 81) (hm8 : m % 9 < 8) (hi : i < 81) (ei : o' i = m + 1) (hu' : 0 ≤ u') (hv' : 0 ≤ v')
    (ih : ∀ j, j < i → stdB S.1 (o' j) = false → zSp p s xs ys S.1 u' v' t' (o' j) (zvec p xs ys (o' j))) (h : zSp p s xs ys S.1 u' v' t' m (zvec p xs ys m)) : zSp p s xs ys S.1 u' v' t' (m + 1) (zvec p xs ys (m + 1)) := by
  obtain ⟨c, c1, c2⟩ := h
  refine (zSp.comb (V := fun t => zvec p xs ys (eM S.1 t + 1)) (c := c) S.1.1 fun t ht hn => ?_).congr fun q hq => ?_
  · have h7 := hR.small hs (stdB_iff.mpr ⟨t, ht, rfl⟩)
    have hl := zlt_my (by omega) hm8 (c1 t ht hn)
    cases hb : stdB S.1 (eM S.1 t + 1) with
    | true => exact zSp.std hb hl
    | false =>
      obtain ⟨j, hj, ej⟩ := ho'.2.1 (eM S.1 t + 1) (by omega)
      have hji : j < i := (ho'.lt_iff hj hi).mp (by rw [ej, ei]; exact hl)
      have := ih j hji (by rw [ej]; exact hb)
      rw [ej] at this
      exact this.mono hl
  · refine (zmon_y (p := p) (x := xs q) (y := ys q) m hm8).tr (((zc.rf (ys q)).mul (c2 q hq)).tr ?_)
    rw [← zsum_mul]
    refine zc.sum fun t ht => ?_
    have h7 := hR.small hs (stdB_iff.mpr ⟨t, ht, rfl⟩)
    have e3 := (zc.rf (p := p) (c t)).mul (zmon_y (p := p) (x := xs q) (y := ys q) (eM S.1 t) (by omega))
    exact (zc.of_eq (by show ys q * (c t * zmon p (xs q) (ys q) (eM S.1 t)) = c t * (ys q * zmon p (xs q) (ys q) (eM S.1 t)); grind)).tr e3.sy
/-- by any order that keeps each corner above its polynomial's other monomials: what isn't standard is a combination of smaller standard ones -/
theorem zspan (hp : zprime p) (hR : RI p s xs ys u v tie o 81 S) (ho : IsOrd u v tie 81 o) (hV : zVan p s xs ys S) (hs : s ≤ 8) (hu' : 0 ≤ u') (hv' : 0 ≤ v')
    (hc : ∀ b, b < S.2.1 → ∀ x, S.2.2.2 b x ≠ 0 → x ≠ S.2.2.1 b → zlt u' v' t' x (S.2.2.1 b)) : ∀ m, m < 81 → stdB S.1 m = false → zSp p s xs ys S.1 u' v' t' m (zvec p xs ys m) := by
  obtain ⟨o', ho'⟩ := IsOrd.ex u' v' t' 81
  have key : ∀ i, i < 81 → stdB S.1 (o' i) = false → zSp p s xs ys S.1 u' v' t' (o' i) (zvec p xs ys (o' i)) := by
    intro i
    induction i using Nat.strongRecOn with | _ i ih => ?_
    intro hi h0
    have ih' : ∀ j, j < i → stdB S.1 (o' j) = false → zSp p s xs ys S.1 u' v' t' (o' j) (zvec p xs ys (o' j)) := fun j hj q => ih j hj (by omega) q
    have hm := ho'.1 i hi
    obtain ⟨j, hj, ej⟩ := ho.2.1 (o' i) hm
    obtain ⟨b, hb, hd⟩ := hR.2.2.2.2.1 j hj (by rw [ej]; exact h0)
    rw [ej] at hd
    obtain ⟨b1, b2, b3, -⟩ := hR.2.2.2.1 b hb
    obtain ⟨w1, w2⟩ := hR.2.2.2.2.2.2 b hb
    by_cases e : S.2.2.1 b = o' i
    · obtain ⟨-, -, -, -, -, -, -, -, h81, hin⟩ := id hR.1
      refine ⟨fun t => -(S.2.2.2 b (eM S.1 t)), fun t ht hn => ?_, fun q hq => ?_⟩
      · rw [← e]
        refine hc b hb _ (fun q => hn (by show -(S.2.2.2 b (eM S.1 t)) = 0; rw [q]; rfl)) (fun q => ?_)
        rw [← q, stdB_iff.mpr ⟨t, ht, rfl⟩] at b2; cases b2
      · have h1 := hV b hb q hq
        have h2 := zsum_fu (f := S.2.2.2 b) (g := fun m => zvec p xs ys m q) (k := o' i) (v := 0) 81 hm
        rw [show S.2.2.2 b (o' i) = 1 by rw [← e]; exact w1] at h2
        have h3 := zsum_supp (c := zfu (S.2.2.2 b) (o' i) 0) (g := fun m => zvec p xs ys m q) h81 hin (fun m hm hne => by
          by_cases e1 : m = o' i
          · rw [e1, zfu_self] at hne; exact absurd rfl hne
          · rw [zfu_ne e1] at hne
            rcases ((w2 m).2.2 hne) with q | q
            · exact absurd (q.trans e) e1
            · exact stdB_iff.mp q.1)
        have h4 : zsum (fun t => zfu (S.2.2.2 b) (o' i) 0 (eM S.1 t) * zvec p xs ys (eM S.1 t) q) S.1.1 = zsum (fun t => S.2.2.2 b (eM S.1 t) * zvec p xs ys (eM S.1 t) q) S.1.1 := zsum_ext fun t ht => by
          rw [zfu_ne (fun e1 => by rw [← e1, stdB_iff.mpr ⟨t, ht, rfl⟩] at h0; cases h0)]
        have h5 : zsum (fun t => -(S.2.2.2 b (eM S.1 t)) * zvec p xs ys (eM S.1 t) q) S.1.1 = (-1) * zsum (fun t => S.2.2.2 b (eM S.1 t) * zvec p xs ys (eM S.1 t) q) S.1.1 := by
          rw [← zsum_mul]; exact zsum_ext fun t _ => by grind
        show zc p (zvec p xs ys (o' i) q) (zsum (fun t => -(S.2.2.2 b (eM S.1 t)) * zvec p xs ys (eM S.1 t) q) S.1.1)
        rw [h5, ← h4, ← h3, h2]
        obtain ⟨d, hd⟩ := h1
        exact ⟨d, by rw [hd]; grind⟩
    · have hnd : ∀ x, zdv (S.2.2.1 b) x → stdB S.1 x = false := fun x hx => by
        cases hb2 : stdB S.1 x with
        | false => rfl
        | true => rw [hR.dv hb2 hx] at b2; cases b2
      obtain ⟨d1, d2⟩ := hd
      by_cases c9 : S.2.2.1 b / 9 < o' i / 9
      · obtain ⟨m, em⟩ : ∃ m, o' i = m + 9 := ⟨o' i - 9, by omega⟩
        obtain ⟨j2, hj2, ej2⟩ := ho'.2.1 m (by omega)
        have hl : zlt u' v' t' m (o' i) := zlt_dv hu' hv' ⟨by omega, by omega⟩ (by omega)
        have := ih' j2 ((ho'.lt_iff hj2 hi).mp (by rw [ej2]; exact hl)) (by rw [ej2]; exact hnd m ⟨by omega, by omega⟩)
        rw [ej2] at this
        rw [em]
        exact this.sx hR ho' hs (by omega) hi em hu' hv' ih'
      · have c1 : S.2.2.1 b % 9 < o' i % 9 := by omega
        obtain ⟨m, em⟩ : ∃ m, o' i = m + 1 := ⟨o' i - 1, by omega⟩
        obtain ⟨j2, hj2, ej2⟩ := ho'.2.1 m (by omega)
        have hl : zlt u' v' t' m (o' i) := zlt_dv hu' hv' ⟨by omega, by omega⟩ (by omega)
        have := ih' j2 ((ho'.lt_iff hj2 hi).mp (by rw [ej2]; exact hl)) (by rw [ej2]; exact hnd m ⟨by omega, by omega⟩)
        rw [ej2] at this
        rw [em]
        exact this.sy hR ho' hs (by omega) (by omega) hi em hu' hv' ih'
  intro m hm h0
  obtain ⟨i, hi, ei⟩ := ho'.2.1 m hm
  have := key i hi (by rw [ei]; exact h0)
  rwa [ei] at this
abbrev ptOK (p : Int) (s : Nat) (xs ys : Nat → Int) : Prop := zprime p ∧ s ≤ 8 ∧ (∀ k, k < s → (0 ≤ xs k ∧ xs k < p) ∧ (0 ≤ ys k ∧ ys k < p)) ∧ ∀ i j, i < s → j < s → i ≠ j → ¬ (xs i = xs j ∧ ys i = ys j)
/-- then its standard monomials are that order's too -/
theorem zsame1 {o' : Nat → Nat} (hO : ptOK p s xs ys) (hR : RI p s xs ys u v tie o 81 S) (ho : IsOrd u v tie 81 o) (hV : zVan p s xs ys S) (hu' : 0 ≤ u') (hv' : 0 ≤ v') (hR' : RI p s xs ys u' v' t' o' 81 S') (ho' : IsOrd u' v' t' 81 o')
    (hc : ∀ b, b < S.2.1 → ∀ x, S.2.2.2 b x ≠ 0 → x ≠ S.2.2.1 b → zlt u' v' t' x (S.2.2.1 b)) : ∀ x, stdB S'.1 x = true → stdB S.1 x = true := by
  obtain ⟨hp, hs, hb, hd⟩ := hO
  intro x hx
  have hn := zfull hp hs hb hd hR ho
  have hn' := zfull hp hs hb hd hR' ho'
  cases h0 : stdB S.1 x with
  | true => rfl
  | false =>
    exfalso
    have hx81 := (hR'.2.1 x hx).1
    obtain ⟨c, c1, c2⟩ := zspan hp hR ho hV hs hu' hv' hc x hx81 h0
    have h1 : zSp p s xs ys S'.1 u' v' t' x (zvec p xs ys x) := (zSp.comb (V := fun t => zvec p xs ys (eM S.1 t)) (c := c) S.1.1 (fun t ht hn => by
      have hl := c1 t ht hn
      have hy := (hR.2.1 _ (stdB_iff.mpr ⟨t, ht, rfl⟩)).1
      cases hb2 : stdB S'.1 (eM S.1 t) with
      | true => exact zSp.std hb2 hl
      | false =>
        obtain ⟨i, hi, ei⟩ := ho'.2.1 (eM S.1 t) hy
        obtain ⟨n, d, d1, d2, d3⟩ := hR'.2.2.1 i hi (by rw [ei]; exact hb2)
        rw [ei] at d2 d3
        exact (zSp.comb (V := fun r => zvec p xs ys (eM S'.1 r)) (c := d) n (fun r hr _ => zSp.unit (by omega) (zlt_tr (d2 r hr) hl))).congr fun q hq => d3 q hq)).congr fun q hq => c2 q hq
    obtain ⟨d, d1, d2⟩ := h1
    obtain ⟨T, hT, eT⟩ := stdB_iff.mp hx
    have hdT : d T = 0 := Classical.byContradiction fun q => by
      have := d1 T hT q
      rw [eT] at this; exact zlt_irr this
    have h2 := zindep hp hs hb hd hR' ho' (c := fun r => d r + (if r = T then -1 else 0)) (fun q hq => by
      have e1 : zsum (fun r => (d r + (if r = T then -1 else 0)) * zvec p xs ys (eM S'.1 r) q) s = zsum (fun r => d r * zvec p xs ys (eM S'.1 r) q) s + zsum (fun r => (if r = T then (-1 : Int) else 0) * zvec p xs ys (eM S'.1 r) q) s := by
        rw [← zsum_add]; exact zsum_ext fun r _ => by grind
      have e2 : zsum (fun r => (if r = T then (-1 : Int) else 0) * zvec p xs ys (eM S'.1 r) q) s = -1 * zvec p xs ys x q := by
        rw [zsum_pick (f := fun r => (if r = T then (-1 : Int) else 0) * zvec p xs ys (eM S'.1 r) q) (show T < s by omega) (fun k _ hk => by rw [if_neg hk]; exact Int.zero_mul _), if_pos rfl, eT]
      show zc p (zsum (fun r => (d r + (if r = T then -1 else 0)) * zvec p xs ys (eM S'.1 r) q) s) 0
      rw [e1, e2]
      have := (d2 q hq).sy
      rw [hn'] at this
      exact (this.add (zc.rf _)).tr (zc.of_eq (by omega))) (show T < s by omega)
    rw [hdT, if_pos rfl] at h2
    obtain ⟨k, hk⟩ := h2
    exact zc_one hp ⟨-k, by grind⟩
/-- a set of standard monomials within another one is that one -/
theorem zsame2 {o' : Nat → Nat} (hO : ptOK p s xs ys) (hR : RI p s xs ys u v tie o 81 S) (ho : IsOrd u v tie 81 o) (hR' : RI p s xs ys u' v' t' o' 81 S') (ho' : IsOrd u' v' t' 81 o') (h : ∀ x, stdB S'.1 x = true → stdB S.1 x = true) : ∀ x, stdB S'.1 x = stdB S.1 x := by
  obtain ⟨hp, hs, hb, hd⟩ := hO
  have hn := zfull hp hs hb hd hR ho
  have hn' := zfull hp hs hb hd hR' ho'
  intro x
  cases h0 : stdB S.1 x with
  | false =>
    cases h1 : stdB S'.1 x with
    | false => rfl
    | true => rw [h x h1] at h0; cases h0
  | true =>
    cases h1 : stdB S'.1 x with
    | true => rfl
    | false =>
      exfalso
      obtain ⟨-, -, -, -, -, -, -, -, h81, hin⟩ := id hR'.1
      have := hR.count (n := S'.1.1 + 1) (fun r => if r < S'.1.1 then eM S'.1 r else x) (fun r hr => by
        try dsimp only
        split
        · rename_i c; exact h _ (stdB_iff.mpr ⟨r, c, rfl⟩)
        · exact h0) (fun q r hq hr => by
        try dsimp only
        rw [if_pos (show q < S'.1.1 by omega)]
        split
        · rename_i c; exact hin q r hq c
        · intro e
          rw [← e, stdB_iff.mpr ⟨q, by omega, rfl⟩] at h1; cases h1)
      omega
/-- with the same standard monomials the corners are the same -/
theorem zsamec {o' : Nat → Nat} (hR : RI p s xs ys u v tie o 81 S) (ho : IsOrd u v tie 81 o) (hR' : RI p s xs ys u' v' t' o' 81 S') (ho' : IsOrd u' v' t' 81 o') (h : ∀ x, stdB S'.1 x = stdB S.1 x) : ∀ b, b < S.2.1 → ∃ d, d < S'.2.1 ∧ S'.2.2.1 d = S.2.2.1 b := by
  intro b hb
  obtain ⟨b1, b2, b3, -⟩ := hR.2.2.2.1 b hb
  obtain ⟨i, hi, ei⟩ := ho'.2.1 _ b1
  obtain ⟨d, hd, hdv⟩ := hR'.2.2.2.2.1 i hi (by rw [ei, h]; exact b2)
  rw [ei] at hdv
  obtain ⟨d1, d2, d3, -⟩ := hR'.2.2.2.1 d hd
  rw [h] at d2
  refine ⟨d, hd, Classical.byContradiction fun hne => ?_⟩
  rw [corB_iff] at b3
  obtain ⟨v1, v2⟩ := hdv
  by_cases c : S'.2.2.1 d / 9 < S.2.2.1 b / 9
  · rw [hR.dv (b3.1.resolve_left (by omega)) (y := S'.2.2.1 d) ⟨by omega, by omega⟩] at d2; cases d2
  · rw [hR.dv (b3.2.resolve_left (by omega)) (y := S'.2.2.1 d) ⟨by omega, by omega⟩] at d2; cases d2
/-- cells on the standard monomials and a corner are known by their values -/
theorem zuni (hO : ptOK p s xs ys) (hR : RI p s xs ys u v tie o 81 S) (ho : IsOrd u v tie 81 o) {C D : Nat → Int} (hC : ∀ x, 0 ≤ C x ∧ C x < p) (hD : ∀ x, 0 ≤ D x ∧ D x < p) (hne : ∀ x, C x ≠ D x → stdB S.1 x = true)
    (hv : ∀ q, q < s → zc p (zsum (fun m => C m * zvec p xs ys m q) 81) (zsum (fun m => D m * zvec p xs ys m q) 81)) : ∀ x, C x = D x := by
  obtain ⟨hp, hs, hb, hd⟩ := hO
  have hn := zfull hp hs hb hd hR ho
  obtain ⟨-, -, -, -, -, -, -, -, h81, hin⟩ := id hR.1
  have hz : ∀ t, t < s → zc p (C (eM S.1 t) + -1 * D (eM S.1 t)) 0 := fun t ht =>
    zindep hp hs hb hd hR ho (c := fun t => C (eM S.1 t) + -1 * D (eM S.1 t)) (fun q hq => by
      have e1 := zsum_supp (c := fun m => C m + -1 * D m) (g := fun m => zvec p xs ys m q) (e := eM S.1) (n := S.1.1) (N := 81) h81 hin (fun m _ hm => stdB_iff.mp (hne m fun q => hm (by show C m + -1 * D m = 0; rw [q]; omega)))
      rw [hn] at e1
      show zc p (zsum (fun t => (C (eM S.1 t) + -1 * D (eM S.1 t)) * zvec p xs ys (eM S.1 t) q) s) 0
      rw [← e1]
      have e2 : zsum (fun m => (C m + -1 * D m) * zvec p xs ys m q) 81 = zsum (fun m => C m * zvec p xs ys m q) 81 + -1 * zsum (fun m => D m * zvec p xs ys m q) 81 := by
        rw [← zsum_mul, ← zsum_add]; exact zsum_ext fun m _ => by grind
      rw [e2]
      obtain ⟨k, hk⟩ := hv q hq
      exact ⟨k, by rw [hk]; grind⟩) ht
  intro x
  by_cases e : C x = D x
  · exact e
  · obtain ⟨t, ht, et⟩ := stdB_iff.mp (hne x e)
    have h3 := hz t (by omega)
    rw [et] at h3
    exact zc.eq (by obtain ⟨k, hk⟩ := h3; exact ⟨k, by omega⟩) (hC x) (hD x)
end GF2
section GF3
variable {p : Int} {s : Nat} {xs ys : Nat → Int} {u v tie u' v' t' : Int}
/-- one basis for two orders -/
theorem zbas_same (hO : ptOK p s xs ys) (hu : 0 ≤ u) (hv : 0 ≤ v) (hu' : 0 ≤ u') (hv' : 0 ≤ v')
    (hc : ∀ a, a < (zbas p s xs ys u v tie).2.1 → ∀ x, (zbas p s xs ys u v tie).2.2.2 a x ≠ 0 → x ≠ (zbas p s xs ys u v tie).2.2.1 a → zlt u' v' t' x ((zbas p s xs ys u v tie).2.2.1 a)) :
    (∀ i, i < 9 → (zbas p s xs ys u' v' t').1 i = (zbas p s xs ys u v tie).1 i) ∧ (zbas p s xs ys u' v' t').2.1 = (zbas p s xs ys u v tie).2.1 ∧ ∀ a, a < (zbas p s xs ys u v tie).2.1 → (zbas p s xs ys u' v' t').2.2.1 a = (zbas p s xs ys u v tie).2.2.1 a := by
  have hp := hO.1
  have hs := hO.2.1
  obtain ⟨b1, b2, b3⟩ := zbas_is (xs := xs) (ys := ys) (tie := tie) hp hs hu hv
  obtain ⟨d1, d2, d3⟩ := zbas_is (xs := xs) (ys := ys) (tie := t') hp hs hu' hv'
  have hR := gfin_RI (xs := xs) (ys := ys) (tie := tie) hp hs hu hv
  have hR' := gfin_RI (xs := xs) (ys := ys) (tie := t') hp hs hu' hv'
  have hV : zVan p s xs ys (gfin p s xs ys u v tie) := zVan.run hp (zord_is u v tie) hs hu hv 81 (Nat.le_refl _)
  have ho := zord_is u v tie
  have ho' := zord_is u' v' t'
  generalize zbas p s xs ys u v tie = D at *
  generalize zbas p s xs ys u' v' t' = D' at *
  generalize gfin p s xs ys u v tie = S at *
  generalize gfin p s xs ys u' v' t' = S' at *
  have hst := zsame2 hO hR ho hR' ho' (zsame1 hO hR ho hV hu' hv' hR' ho' fun b hb x hx hne => by
    obtain ⟨a, ha, ea⟩ := b3.2.1 b hb
    obtain ⟨b', hb', e1, e2⟩ := b3.1 a ha
    have ebb : b' = b := Classical.byContradiction fun q => by
      have := ea.symm.trans e1
      by_cases c : b < b'
      · exact hR.2.2.2.2.2.1 b b' c hb' this
      · exact hR.2.2.2.2.2.1 b' b (by omega) hb this.symm
    subst ebb
    have := hc a (by omega) x (by rw [e2]; exact hx) (by rw [e1]; exact hne)
    rwa [e1] at this)
  have hH : ∀ i, i < 9 → D'.1 i = D.1 i := fun i hi => by
    have hx : ColH S.1 D'.1 := ⟨d1.1, fun i j hi hj => by rw [← hst]; exact d1.2 i j hi hj⟩
    exact hx.uniq b1 i hi
  have hcS := zsamec hR ho hR' ho' hst
  have hcS' := zsamec hR' ho' hR ho (fun x => (hst x).symm)
  have hcnt : S'.2.1 = S.2.1 := by
    have le : ∀ {S S' : gS}, (∀ b d, b < d → d < S.2.1 → S.2.2.1 b ≠ S.2.2.1 d) → (∀ b, b < S.2.1 → ∃ d, d < S'.2.1 ∧ S'.2.2.1 d = S.2.2.1 b) → S.2.1 ≤ S'.2.1 := fun {S S'} h1 h2 => by
      have ch : ∀ b, ∃ d, b < S.2.1 → d < S'.2.1 ∧ S'.2.2.1 d = S.2.2.1 b := fun b => by
        by_cases c : b < S.2.1
        · obtain ⟨d, hd⟩ := h2 b c; exact ⟨d, fun _ => hd⟩
        · exact ⟨0, fun q => absurd q c⟩
      exact zphp S'.2.1 S.2.1 (fun b => (ch b).choose) (fun r hr => ((ch r).choose_spec hr).1) (fun q r hq hr e => by
        have a1 := ((ch q).choose_spec (by omega)).2
        have a2 := ((ch r).choose_spec hr).2
        try dsimp only at e
        rw [e, a2] at a1
        exact h1 q r hq hr a1.symm)
    have := le hR.2.2.2.2.2.1 hcS
    have := le hR'.2.2.2.2.2.1 hcS'
    omega
  have hN : D'.2.1 = D.2.1 := by omega
  refine ⟨hH, hN, zsorted_uniq (fun i j hij hj => d3.2.2 i j hij (by omega)) (fun i j hij hj => b3.2.2 i j hij (by omega)) (fun i hi => ?_) (fun i hi => ?_)⟩
  · obtain ⟨b, hb, e, -⟩ := d3.1 i (by omega)
    obtain ⟨d, hd, e2⟩ := hcS' b hb
    obtain ⟨a, ha, e3⟩ := b3.2.1 d hd
    exact ⟨a, by omega, by rw [e3, e2, e]⟩
  · obtain ⟨b, hb, e, -⟩ := b3.1 i (by omega)
    obtain ⟨d, hd, e2⟩ := hcS b hb
    obtain ⟨a, ha, e3⟩ := d3.2.1 d hd
    exact ⟨a, by omega, by rw [e3, e2, e]⟩
/-- a steeper weight keeps a term below its corner that lies in no higher row -/
theorem zkeep_low {wu wv : Int} {x c : Nat} (hw : 0 ≤ wu ∧ 0 ≤ wv) (hu : 0 ≤ u) (hv : 0 ≤ v) (hl : zlt wu wv 1 x c) (hst : wv * u < wu * v) (hj : x % 9 ≤ c % 9) : zlt u v tie x c := by
  have hwu : 0 < wu := by
    by_cases e : wu = 0
    · have := Int.mul_nonneg hw.2 hu; rw [e, Int.zero_mul] at hst; omega
    · omega
  have hv0 : 0 < v := by
    by_cases e : v = 0
    · have := Int.mul_nonneg hw.2 hu; rw [e, Int.mul_zero] at hst; omega
    · omega
  have hne : x ≠ c := fun e => by rw [e] at hl; exact zlt_irr hl
  obtain ⟨dj, hdj⟩ : ∃ dj : Nat, c % 9 = x % 9 + dj := ⟨c % 9 - x % 9, by omega⟩
  by_cases hi : x / 9 ≤ c / 9
  · exact zlt_dv hu hv ⟨hi, hj⟩ hne
  · obtain ⟨di, hdi⟩ : ∃ di : Nat, x / 9 = c / 9 + di := ⟨x / 9 - c / 9, by omega⟩
    have e1 : wu * di ≤ wv * dj := by
      unfold zlt zwt at hl
      rw [hdi, hdj] at hl
      push_cast at hl
      rw [Int.mul_add, Int.mul_add] at hl
      omega
    have hdip : 0 < (di : Int) := by omega
    have h3 : 0 < wu * di := Int.mul_pos hwu hdip
    have hdjp : 0 < (dj : Int) := by
      by_cases e : (dj : Int) = 0
      · rw [e, Int.mul_zero] at e1; omega
      · omega
    have h4 : u * di < v * dj := by
      have a1 : u * (wu * di) ≤ u * (wv * dj) := Int.mul_le_mul_of_nonneg_left e1 hu
      have a2 : wv * u * dj < wu * v * dj := Int.mul_lt_mul_of_pos_right hst hdjp
      have a3 : wu * (u * di) < wu * (v * dj) := by
        have b1 : wu * (u * di) = u * (wu * di) := by grind
        have b2 : u * (wv * dj) = wv * u * dj := by grind
        have b3 : wu * (v * dj) = wu * v * dj := by grind
        omega
      exact Int.lt_of_mul_lt_mul_left a3 (by omega)
    unfold zlt zwt
    rw [hdi, hdj]
    push_cast
    rw [Int.mul_add, Int.mul_add]
    omega
/-- a weight below a pair keeps its term below the corner -/
theorem zkeep_high {x c : Nat} (h : v * ((x : Int) % 9 - (c : Int) % 9) < u * ((c : Int) / 9 - (x : Int) / 9) ∨ (v * ((x : Int) % 9 - (c : Int) % 9) = u * ((c : Int) / 9 - (x : Int) / 9) ∧ tie ≠ 1 ∧ x / 9 < c / 9)) : zlt u v tie x c := by
  unfold zlt zwt
  rw [Int.mul_sub, Int.mul_sub] at h
  push_cast
  omega
end GF3
