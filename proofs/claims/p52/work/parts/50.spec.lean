/-! ===== what each call answers, and the points after it ===== -/
def zprB (q : Int) : Bool := decide (q = 2 ∨ q = 3 ∨ q = 5 ∨ q = 7 ∨ q = 11 ∨ q = 13 ∨ q = 17 ∨ q = 19 ∨ q = 23 ∨ q = 29 ∨ q = 31)
theorem zprB_iff {q : Int} : zprB q = true ↔ zprime q := by unfold zprB zprime; exact decide_eq_true_iff
def zhas (P : pT) (x y : Int) : Bool := (List.range P.2.1).any (fun j => P.2.2.1 j == x && P.2.2.2.1 j == y)
theorem zhas_iff {P : pT} {x y : Int} : zhas P x y = true ↔ ∃ j, j < P.2.1 ∧ P.2.2.1 j = x ∧ P.2.2.2.1 j = y := by
  unfold zhas
  simp [List.any_eq_true]
theorem zhas_f {P : pT} {x y : Int} (h : ∀ j, j < P.2.1 → ¬ (P.2.2.1 j = x ∧ P.2.2.2.1 j = y)) : zhas P x y = false := Bool.eq_false_iff.mpr fun q => by
  obtain ⟨j, hj, e⟩ := zhas_iff.mp q
  exact h j hj e
def zsym (P : pT) : Bool := (List.range P.2.1).all (fun i => zhas P (P.2.2.2.1 i) (P.2.2.1 i))
theorem zsym_iff {P : pT} : zsym P = true ↔ ∀ i, i < P.2.1 → zhas P (P.2.2.2.1 i) (P.2.2.1 i) = true := by
  unfold zsym
  simp [List.all_eq_true]
def s_prime (P : pT) (q : Int) : Int × pT := bif zprB q then (P.1, (q, 0, P.2.2.1, P.2.2.2.1, fun _ => 0)) else (-2, P)
def s_add (P : pT) (x y : Int) : Int × pT := if (0 ≤ x ∧ x < P.1) ∧ (0 ≤ y ∧ y < P.1) then (bif zhas P x y then (-3, P) else if 8 ≤ P.2.1 then (-4, P) else ((P.2.1 : Int) + 1, (P.1, P.2.1 + 1, zfu P.2.2.1 P.2.1 x, zfu P.2.2.2.1 P.2.1 y, P.2.2.2.2))) else (-2, P)
def s_rem (P : pT) (i : Int) : Int × pT := if 0 ≤ i ∧ i < (P.2.1 : Int) then ((P.2.1 : Int) - 1, (P.1, P.2.1 - 1, (fun k => if k < i.toNat then P.2.2.1 k else P.2.2.1 (k + 1)), (fun k => if k < i.toNat then P.2.2.2.1 k else P.2.2.2.1 (k + 1)), P.2.2.2.2)) else (-1, P)
def s_px (P : pT) (X : Nat → Int) (i : Int) : Int := if 0 ≤ i ∧ i < (P.2.1 : Int) then X i.toNat else -1
def s_swap (P : pT) : Int × pT := (if zsym P = true then 1 else 0, (P.1, P.2.1, P.2.2.2.1, P.2.2.1, P.2.2.2.2))
def s_map (P : pT) (fx dx fy dy : Int) : pT := (P.1, P.2.1, (fun k => (fx * P.2.2.1 k + dx) % P.1), (fun k => (fy * P.2.2.2.1 k + dy) % P.1), P.2.2.2.2)
def s_tr (P : pT) (dx dy : Int) : Int × pT := if (0 ≤ dx ∧ dx < P.1) ∧ (0 ≤ dy ∧ dy < P.1) then ((P.2.1 : Int), s_map P 1 dx 1 dy) else (-2, P)
def s_sc (P : pT) (fx fy : Int) : Int × pT := if (1 ≤ fx ∧ fx < P.1) ∧ (1 ≤ fy ∧ fy < P.1) then ((P.2.1 : Int), s_map P fx 0 fy 0) else (-2, P)
theorem pwf.bd {P : pT} (h : pwf P) : 1 < P.1 ∧ P.1 < 32 := h.1.bd
theorem wf_prime {P : pT} (h : pwf P) (q : Int) : pwf (s_prime P q).2 := by
  unfold s_prime
  cases hb : zprB q with
  | false => exact h
  | true =>
    have hq := zprB_iff.mp hb
    have := hq.bd
    refine ⟨hq, Nat.zero_le 8, fun k hk => absurd hk (Nat.not_lt_zero k), fun i j _ hj => absurd hj (Nat.not_lt_zero j), fun m _ => ⟨Int.le_refl 0, ?_⟩⟩
    show 0 < q
    omega
theorem wf_add {P : pT} (h : pwf P) (x y : Int) : pwf (s_add P x y).2 := by
  unfold s_add
  by_cases c : (0 ≤ x ∧ x < P.1) ∧ (0 ≤ y ∧ y < P.1)
  · rw [if_pos c]
    cases hb : zhas P x y with
    | true => exact h
    | false =>
      rw [cond_false]
      by_cases c8 : 8 ≤ P.2.1
      · rw [if_pos c8]; exact h
      · rw [if_neg c8]
        obtain ⟨h1, h2, h3, h4, h5⟩ := h
        refine ⟨h1, by show P.2.1 + 1 ≤ 8; omega, fun k hk => ?_, fun i j hij hj => ?_, h5⟩
        · have hk' : k < P.2.1 + 1 := hk
          show (0 ≤ zfu P.2.2.1 P.2.1 x k ∧ zfu P.2.2.1 P.2.1 x k < P.1) ∧ (0 ≤ zfu P.2.2.2.1 P.2.1 y k ∧ zfu P.2.2.2.1 P.2.1 y k < P.1)
          by_cases e : k = P.2.1
          · subst e; rw [zfu_self, zfu_self]; exact c
          · rw [zfu_ne e, zfu_ne e]; exact h3 k (by omega)
        · have hj' : j < P.2.1 + 1 := hj
          show ¬ (zfu P.2.2.1 P.2.1 x i = zfu P.2.2.1 P.2.1 x j ∧ zfu P.2.2.2.1 P.2.1 y i = zfu P.2.2.2.1 P.2.1 y j)
          rw [zfu_ne (show i ≠ P.2.1 by omega), zfu_ne (show i ≠ P.2.1 by omega)]
          by_cases e : j = P.2.1
          · subst e; rw [zfu_self, zfu_self]
            intro q
            rw [zhas_iff.mpr ⟨i, by omega, q⟩] at hb
            cases hb
          · rw [zfu_ne e, zfu_ne e]; exact h4 i j hij (by omega)
  · rw [if_neg c]; exact h
theorem wf_rem {P : pT} (h : pwf P) (i : Int) : pwf (s_rem P i).2 := by
  unfold s_rem
  by_cases c : 0 ≤ i ∧ i < (P.2.1 : Int)
  · rw [if_pos c]
    obtain ⟨h1, h2, h3, h4, h5⟩ := h
    refine ⟨h1, by show P.2.1 - 1 ≤ 8; omega, fun k hk => ?_, fun a b hab hb => ?_, h5⟩
    · have hk' : k < P.2.1 - 1 := hk
      show (0 ≤ (if k < i.toNat then P.2.2.1 k else P.2.2.1 (k + 1)) ∧ (if k < i.toNat then P.2.2.1 k else P.2.2.1 (k + 1)) < P.1) ∧ (0 ≤ (if k < i.toNat then P.2.2.2.1 k else P.2.2.2.1 (k + 1)) ∧ (if k < i.toNat then P.2.2.2.1 k else P.2.2.2.1 (k + 1)) < P.1)
      split
      · exact h3 k (by omega)
      · exact h3 (k + 1) (by omega)
    · have hb' : b < P.2.1 - 1 := hb
      show ¬ ((if a < i.toNat then P.2.2.1 a else P.2.2.1 (a + 1)) = (if b < i.toNat then P.2.2.1 b else P.2.2.1 (b + 1)) ∧ (if a < i.toNat then P.2.2.2.1 a else P.2.2.2.1 (a + 1)) = (if b < i.toNat then P.2.2.2.1 b else P.2.2.2.1 (b + 1)))
      by_cases c1 : b < i.toNat
      · rw [if_pos c1, if_pos c1, if_pos (by omega), if_pos (by omega)]; exact h4 a b hab (by omega)
      · rw [if_neg c1, if_neg c1]
        by_cases c2 : a < i.toNat
        · rw [if_pos c2, if_pos c2]; exact h4 a (b + 1) (by omega) (by omega)
        · rw [if_neg c2, if_neg c2]; exact h4 (a + 1) (b + 1) (by omega) (by omega)
  · rw [if_neg c]; exact h
theorem wf_swap {P : pT} (h : pwf P) : pwf (s_swap P).2 := by
  obtain ⟨h1, h2, h3, h4, h5⟩ := h
  exact ⟨h1, h2, fun k hk => ⟨(h3 k hk).2, (h3 k hk).1⟩, fun i j hij hj q => h4 i j hij hj ⟨q.2, q.1⟩, h5⟩
theorem zmap_inj {p f d x y : Int} (hp : zprime p) (hf : 0 < f ∧ f < p) (hx : 0 ≤ x ∧ x < p) (hy : 0 ≤ y ∧ y < p) (h : (f * x + d) % p = (f * y + d) % p) : x = y := by
  obtain ⟨z1, z2, z3⟩ := zinv_spec hp hf.1 hf.2
  have e1 : zc p (f * x + d) (f * y + d) := zc.of_emod h
  have e2 : zc p (zinv p f * f) 1 := (zc.md _).sy.tr (zc.of_eq z3)
  have e3 := (zc.rf (p := p) (zinv p f)).mul e1
  have a1 := (e2.mul (zc.rf x))
  have a2 := (e2.mul (zc.rf y))
  have e4 : zc p x y := by
    obtain ⟨c1, q1⟩ := e3
    obtain ⟨c2, q2⟩ := a1
    obtain ⟨c3, q3⟩ := a2
    exact ⟨c1 - c2 + c3, by grind⟩
  exact e4.eq hx hy
theorem wf_map {P : pT} (h : pwf P) {fx dx fy dy : Int} (h1 : 0 < fx ∧ fx < P.1) (h2 : 0 < fy ∧ fy < P.1) : pwf (s_map P fx dx fy dy) := by
  obtain ⟨a1, a2, a3, a4, a5⟩ := h
  have hb := a1.bd
  refine ⟨a1, a2, fun k hk => ⟨zmod_bd _ _ (by show 0 < P.1; omega), zmod_bd _ _ (by show 0 < P.1; omega)⟩, fun i j hij hj q => ?_, a5⟩
  have hj' : j < P.2.1 := hj
  exact a4 i j hij hj ⟨zmap_inj a1 h1 (a3 i (by omega)).1 (a3 j hj).1 q.1, zmap_inj a1 h2 (a3 i (by omega)).2 (a3 j hj).2 q.2⟩
theorem wf_tr {P : pT} (h : pwf P) (dx dy : Int) : pwf (s_tr P dx dy).2 := by
  have := h.bd
  unfold s_tr
  split
  · exact wf_map h ⟨by omega, by omega⟩ ⟨by omega, by omega⟩
  · exact h
theorem wf_sc {P : pT} (h : pwf P) (fx fy : Int) : pwf (s_sc P fx fy).2 := by
  unfold s_sc
  split
  · rename_i c; exact wf_map h ⟨by omega, c.1.2⟩ ⟨by omega, c.2.2⟩
  · exact h
/-! ===== orders and the fan ===== -/
abbrev sWt (u v : Int) : Prop := (0 ≤ u ∧ u ≤ 99 ∧ 0 ≤ v ∧ v ≤ 99) ∧ (u ≠ 0 ∨ v ≠ 0)
abbrev sOrd (u v t : Int) : Prop := sWt u v ∧ (t = 0 ∨ t = 1)
noncomputable abbrev pZ (P : pT) (u v t : Int) : bT := zbas P.1 P.2.1 P.2.2.1 P.2.2.2.1 u v t
def zdec (m : Nat) : Int := ((10 * (m / 9) + m % 9 : Nat) : Int)
noncomputable def s_ch (P : pT) (u v t c : Int) : Int := if 0 ≤ c ∧ c < 9 then (if sOrd u v t then ((pZ P u v t).1 c.toNat : Int) else -2) else -1
noncomputable def s_cc (P : pT) (u v t : Int) : Int := if sOrd u v t then ((pZ P u v t).2.1 : Int) else -2
noncomputable def s_co (P : pT) (u v t i : Int) : Int := if sOrd u v t then (if 0 ≤ i ∧ i < ((pZ P u v t).2.1 : Int) then zdec ((pZ P u v t).2.2.1 i.toNat) else -1) else -2
noncomputable def s_w (P : pT) (f : Nat × Nat → Nat) (i : Int) : Int := if 0 ≤ i ∧ i < (pN P : Int) then (if (pW P i.toNat).2 = 0 then -5 else (f (pW P i.toNat) : Int)) else -1
abbrev zabv (W : Nat → Nat × Nat) (u v : Int) (q : Nat) : Prop := (W q).2 ≠ 0 ∧ v * ((W q).2 : Int) > ((W q).1 : Int) * u
noncomputable def zfiw (P : pT) (u v : Int) : Nat := zfst (fun q => if zabv (pW P) u v q then 0 else 1) (pN P)
noncomputable def s_fi (P : pT) (u v : Int) : Int := if sWt u v then (zfiw P u v : Int) else -2
noncomputable def s_mn (P : pT) (u v : Int) : Int := if sWt u v then (if (pW P (zfiw P u v)).2 ≠ 0 ∧ v * ((pW P (zfiw P u v)).2 : Int) = ((pW P (zfiw P u v)).1 : Int) * u then 2 else 1) else -2
noncomputable def s_ht (P : pT) (i c : Int) : Int := if (0 ≤ i ∧ i < (pN P : Int)) ∧ (0 ≤ c ∧ c < 9) then ((pB P i.toNat).1 c.toNat : Int) else -1
noncomputable def s_bs (P : pT) (i : Int) : Int := if 0 ≤ i ∧ i < (pN P : Int) then ((pB P i.toNat).2.1 : Int) else -1
abbrev sBas (P : pT) (i q : Int) : Prop := (0 ≤ i ∧ i < (pN P : Int)) ∧ (0 ≤ q ∧ q < ((pB P i.toNat).2.1 : Int))
noncomputable def s_bc (P : pT) (i q : Int) : Int := if sBas P i q then zdec ((pB P i.toNat).2.2.1 q.toNat) else -1
noncomputable def s_bf (P : pT) (i q a b : Int) : Int := if sBas P i q ∧ (0 ≤ a ∧ a < 9) ∧ (0 ≤ b ∧ b < 9) then (pB P i.toNat).2.2.2 q.toNat (9 * a.toNat + b.toNat) else -1
noncomputable def s_chg (P : pT) (i : Int) : Int := if 0 ≤ i ∧ i < (pN P : Int) then (if (pW P i.toNat).2 = 0 then -5 else (zcnt (fun a => !(List.range (pB P (i.toNat + 1)).2.1).any (fun q => (pB P (i.toNat + 1)).2.2.1 q == (pB P i.toNat).2.2.1 a)) (pB P i.toNat).2.1 : Int)) else -1
noncomputable def s_us (P : pT) : Int := (zuc (pB P) (pN P) : Int)
noncomputable def s_ud (P : pT) : Int := Classical.epsilon (zgd (pB P) (pN P))
theorem s_ud_eq {P : pT} {g : Int} (h : zgd (pB P) (pN P) g) : g = s_ud P := h.uniq (Classical.epsilon_spec ⟨g, h⟩)
def zmir (H H2 : Nat → Nat) : Bool := (List.range 9).all (fun y => H y == zcnt (fun i => decide (y < H2 i)) 9)
theorem zmir_iff {H H2 : Nat → Nat} : zmir H H2 = true ↔ ∀ y, y < 9 → H y = zcnt (fun i => decide (y < H2 i)) 9 := by
  unfold zmir
  simp [List.all_eq_true]
noncomputable def zmrf (P : pT) (k : Nat) : Nat := zfst (fun q => if zmir (pB P q).1 (pB P k).1 = true then 1 else 0) (pN P)
noncomputable def s_mir (P : pT) (i : Int) : Int := if 0 ≤ i ∧ i < (pN P : Int) then (if zmrf P i.toNat < pN P then (zmrf P i.toNat : Int) else -5) else -1
noncomputable def s_fl (P : pT) : Int := (zfm (fun k => zsd (pB P k).1 9) (pN P - 1) : Int)
theorem pN_is {P : pT} (h : pwf P) : IsN P.1 P.2.1 P.2.2.1 P.2.2.2.1 (pN P) := zfN_is h.1 h.2.1
theorem pB_facts {P : pT} (h : pwf P) (i : Nat) : (pB P i).2.1 ≤ 4 ∧ (∀ j, j < 9 → (pB P i).1 j ≤ 8) ∧ ∀ a, a < (pB P i).2.1 → (pB P i).2.2.1 a < 81 := by
  have hw := zfw_bd (xs := P.2.2.1) (ys := P.2.2.2.1) h.1 h.2.1 i
  obtain ⟨a, b, c, d⟩ := zbas_facts (xs := P.2.2.1) (ys := P.2.2.2.1) (tie := 1) h.1 h.2.1 hw.1 hw.2.2.1
  exact ⟨a, b, fun x hx => (d x hx).1⟩
theorem pW_facts {P : pT} (h : pwf P) (i : Nat) : (pW P i).1 ≤ 8 ∧ (pW P i).2 ≤ 8 := ⟨(zfl_facts h.1 h.2.1 i).1, (zfl_facts h.1 h.2.1 i).2.1⟩
theorem pW_last {P : pT} (h : pwf P) {i : Nat} (hi : i < pN P) : (pW P i).2 = 0 ↔ i + 1 = pN P := by
  have hN := pN_is h
  constructor
  · intro e
    by_cases c : i + 1 < pN P
    · have h9 : 0 < (pW P i).2 := hN.2.2.1 i c; omega
    · omega
  · intro e
    have := hN.2.2.2
    rw [← e, Nat.add_sub_cancel] at this
    exact this
