/-! ===== text: the reading of points, the writing of a polynomial ===== -/
/-- the reader: numbers read, the number at hand, its digits, the numbers -/
abbrev rdT : Type := Nat × Int × Nat × (Nat → Int)
def zsig (c : Nat) : Int := if c % 2 = 0 then 44 else 59
def zstp (S : rdT) (b : Int) : Option rdT :=
  if (48 ≤ b ∧ b ≤ 57) ∧ S.2.2.1 < 2 then some (S.1, 10 * S.2.1 + b - 48, S.2.2.1 + 1, S.2.2.2)
  else if 0 < S.2.2.1 ∧ b = zsig S.1 then some (S.1 + 1, 0, 0, zfu S.2.2.2 S.1 S.2.1) else none
def zrd (by' : Nat → Int) : Nat → Option rdT
  | 0 => some (0, 0, 0, fun _ => 0)
  | k + 1 => (zrd by' k).bind (fun S => zstp S (by' k))
def zbad (by' : Nat → Int) (k : Nat) : Int := if (zrd by' (k + 1)).isNone then 1 else 0
def zadds (P : pT) (nu : Nat → Int) : Nat → pT
  | 0 => P
  | t + 1 => (s_add (zadds P nu t) (nu (2 * t)) (nu (2 * t + 1))).2
/-- may a reading end so -/
def zdone (S : rdT) : Bool := decide (0 < S.2.2.1 ∧ S.1 % 2 = 1)
def s_pp (P : pT) (I : tT) : Int × pT :=
  match zrd I.2 I.1 with
  | some S => bif zdone S then (((zadds P (zfu S.2.2.2 S.1 S.2.1) ((S.1 + 1) / 2)).2.1 : Int) - (P.2.1 : Int), zadds P (zfu S.2.2.2 S.1 S.2.1) ((S.1 + 1) / 2)) else (-100 - (I.1 : Int), P)
  | none => (-100 - (zfst (zbad I.2) I.1 : Int), P)
theorem wf_adds {P : pT} (h : pwf P) (nu : Nat → Int) : ∀ t, pwf (zadds P nu t)
  | 0 => h
  | t + 1 => wf_add (wf_adds h nu t) _ _
theorem wf_pp {P : pT} (h : pwf P) (I : tT) : pwf (s_pp P I).2 := by
  unfold s_pp
  split
  · cases zdone _ with
    | true => exact wf_adds h _ _
    | false => exact h
  · exact h
theorem zadds_ext {P : pT} {nu nu' : Nat → Int} : ∀ {t : Nat}, (∀ i, i < 2 * t → nu i = nu' i) → zadds P nu t = zadds P nu' t
  | 0, _ => rfl
  | t + 1, h => by
    unfold zadds
    rw [zadds_ext (t := t) (fun i hi => h i (by omega)), h (2 * t) (by omega), h (2 * t + 1) (by omega)]
theorem zrd_none {by' : Nat → Int} {k : Nat} (h : zrd by' k = none) : ∀ d, zrd by' (k + d) = none
  | 0 => h
  | d + 1 => by
    show (zrd by' (k + d)).bind _ = none
    rw [zrd_none h d]; rfl
theorem zrd_low {by' : Nat → Int} {k i : Nat} {S : rdT} (h : zrd by' k = some S) (hi : i ≤ k) : ∃ S', zrd by' i = some S' := by
  cases hc : zrd by' i with
  | some S' => exact ⟨S', rfl⟩
  | none =>
    have := zrd_none hc (k - i)
    rw [show i + (k - i) = k by omega, h] at this
    cases this
theorem zrd_ext {by' by2 : Nat → Int} : ∀ {k : Nat}, (∀ i, i < k → by' i = by2 i) → zrd by' k = zrd by2 k
  | 0, _ => rfl
  | k + 1, h => by
    show (zrd by' k).bind _ = (zrd by2 k).bind _
    rw [zrd_ext (k := k) (fun i hi => h i (by omega)), h k (by omega)]
/-- the first place where the reader is stuck -/
theorem zbad_eq {by' : Nat → Int} {k n : Nat} {S : rdT} (h : zrd by' k = some S) (hs : zstp S (by' k) = none) (hk : k < n) : zrd by' n = none ∧ zfst (zbad by') n = k := by
  have e : zrd by' (k + 1) = none := by
    show (zrd by' k).bind _ = none
    rw [h]; exact hs
  refine ⟨?_, zfst_eq hk ?_ (fun i hi => ?_)⟩
  · have := zrd_none e (n - (k + 1))
    rwa [show k + 1 + (n - (k + 1)) = n by omega] at this
  · unfold zbad; rw [e]; decide
  · obtain ⟨S', e'⟩ := zrd_low h (show i + 1 ≤ k by omega)
    unfold zbad; rw [e']; rfl
/-- what holds of the reader -/
theorem zrd_inv {by' : Nat → Int} : ∀ {k : Nat} {S : rdT}, zrd by' k = some S → S.2.2.1 ≤ 2 ∧ 2 * S.1 + S.2.2.1 ≤ k ∧ 0 ≤ S.2.1 ∧ (S.2.2.1 = 0 → S.2.1 = 0) ∧ (S.2.2.1 = 1 → S.2.1 ≤ 9) ∧ S.2.1 ≤ 99 ∧ ∀ i, i < S.1 → 0 ≤ S.2.2.2 i ∧ S.2.2.2 i ≤ 99
  | 0, S, h => by
    cases h
    exact ⟨Nat.zero_le _, Nat.le_refl _, Int.le_refl _, fun _ => rfl, fun h => absurd h (by decide), by decide, fun i hi => absurd hi (Nat.not_lt_zero i)⟩
  | k + 1, S, h => by
    obtain ⟨S0, h0⟩ := zrd_low h (show k ≤ k + 1 by omega)
    have h' : (zrd by' k).bind (fun S => zstp S (by' k)) = some S := h
    rw [h0] at h'
    have h'' : zstp S0 (by' k) = some S := h'
    obtain ⟨i1, i2, i3, i4, i5, i6, i7⟩ := zrd_inv h0
    unfold zstp at h''
    by_cases c1 : (48 ≤ by' k ∧ by' k ≤ 57) ∧ S0.2.2.1 < 2
    · rw [if_pos c1] at h''
      cases h''
      refine ⟨?_, ?_, ?_, ?_, ?_, ?_, i7⟩ <;> dsimp only <;> omega
    · rw [if_neg c1] at h''
      by_cases c2 : 0 < S0.2.2.1 ∧ by' k = zsig S0.1
      · rw [if_pos c2] at h''
        cases h''
        refine ⟨Nat.zero_le _, by dsimp only; omega, Int.le_refl _, fun _ => rfl, fun h => by dsimp only at h; omega, by dsimp only; omega, fun i hi => ?_⟩
        by_cases e : i = S0.1
        · subst e
          show 0 ≤ zfu S0.2.2.2 S0.1 S0.2.1 S0.1 ∧ zfu S0.2.2.2 S0.1 S0.2.1 S0.1 ≤ 99
          rw [zfu_self]; exact ⟨i3, i6⟩
        · show 0 ≤ zfu S0.2.2.2 S0.1 S0.2.1 i ∧ zfu S0.2.2.2 S0.1 S0.2.1 i ≤ 99
          rw [zfu_ne e]; exact i7 i (by have : i < S0.1 + 1 := hi; omega)
      · rw [if_neg c2] at h''; cases h''
/-! writing -/
def zput (O : tT) (b : Int) : tT := (O.1 + 1, zfu O.2 O.1 b)
def zdig (O : tT) (c : Int) : tT := if 9 < c then zput (zput O (48 + c / 10)) (48 + c % 10) else zput O (48 + c % 10)
def zvar (O : tT) (b : Int) (e : Nat) : tT := if 0 < e then zput (zput O b) (48 + (e : Int)) else O
def zterm (O : tT) (c : Int) (m : Nat) : tT := zvar (zvar (zdig O c) 120 (m / 9)) 121 (m % 9)
def zfmt (C : Nat → Int) (cm : Nat) (O : tT) : Nat → tT
  | 0 => O
  | t + 1 => if 80 - t ≠ cm ∧ C (80 - t) ≠ 0 then zterm (zput (zfmt C cm O t) 43) (C (80 - t)) (80 - t) else zfmt C cm O t
def oNil : tT := (0, fun _ => 0)
noncomputable def s_fm (P : pT) (O : tT) (i q : Int) : Int × tT :=
  if sBas P i q then (((zfmt ((pB P i.toNat).2.2.2 q.toNat) ((pB P i.toNat).2.2.1 q.toNat) (zterm oNil 1 ((pB P i.toNat).2.2.1 q.toNat)) 81).1 : Int), zfmt ((pB P i.toNat).2.2.2 q.toNat) ((pB P i.toNat).2.2.1 q.toNat) (zterm oNil 1 ((pB P i.toNat).2.2.1 q.toNat)) 81) else (-1, O)
def s_ob (O : tT) (i : Int) : Int := if 0 ≤ i ∧ i < (O.1 : Int) then O.2 i.toNat else -1
def s_ai (I : tT) (b : Int) : Int × tT := if 1 ≤ b ∧ b ≤ 127 then (if I.1 < 60 then ((I.1 : Int) + 1, zput I b) else (-4, I)) else (-2, I)
theorem wf_ai {I : tT} (h : iwf I) (b : Int) : iwf (s_ai I b).2 := by
  unfold s_ai
  split
  · rename_i hb
    split
    · rename_i hl
      refine ⟨by show I.1 + 1 ≤ 60; omega, fun i hi => ?_⟩
      show 1 ≤ zfu I.2 I.1 b i ∧ zfu I.2 I.1 b i ≤ 127
      by_cases e : i = I.1
      · rw [e, zfu_self]; exact hb
      · rw [zfu_ne e]; exact h.2 i (by have : i < I.1 + 1 := hi; omega)
    · exact h
  · exact h
/-- all bytes so far are bytes of text -/
def ovf (O : tT) : Prop := ∀ i, i < O.1 → 0 ≤ O.2 i ∧ O.2 i ≤ 127
theorem ovf.put {O : tT} (h : ovf O) {b : Int} (hb : 0 ≤ b ∧ b ≤ 127) : ovf (zput O b) := fun i hi => by
  show 0 ≤ zfu O.2 O.1 b i ∧ zfu O.2 O.1 b i ≤ 127
  by_cases e : i = O.1
  · rw [e, zfu_self]; exact hb
  · rw [zfu_ne e]; exact h i (by have : i < O.1 + 1 := hi; omega)
theorem zdig_le {O : tT} {c : Int} (h : ovf O) (hc : 0 ≤ c ∧ c ≤ 99) : ovf (zdig O c) ∧ O.1 + 1 ≤ (zdig O c).1 ∧ (zdig O c).1 ≤ O.1 + 2 := by
  unfold zdig
  split
  · exact ⟨(h.put (by omega)).put (by omega), by show O.1 + 1 ≤ O.1 + 1 + 1; omega, by show O.1 + 1 + 1 ≤ O.1 + 2; omega⟩
  · exact ⟨h.put (by omega), by show O.1 + 1 ≤ O.1 + 1; omega, by show O.1 + 1 ≤ O.1 + 2; omega⟩
theorem zvar_le {O : tT} {b : Int} {e : Nat} (h : ovf O) (hb : 0 ≤ b ∧ b ≤ 127) (he : e ≤ 9) : ovf (zvar O b e) ∧ O.1 ≤ (zvar O b e).1 ∧ (zvar O b e).1 ≤ O.1 + 2 := by
  unfold zvar
  split
  · exact ⟨(h.put hb).put (by omega), by show O.1 ≤ O.1 + 1 + 1; omega, by show O.1 + 1 + 1 ≤ O.1 + 2; omega⟩
  · exact ⟨h, Nat.le_refl _, by omega⟩
theorem zterm_le {O : tT} {c : Int} {m : Nat} (h : ovf O) (hc : 0 ≤ c ∧ c ≤ 99) (hm : m < 81) : ovf (zterm O c m) ∧ O.1 + 1 ≤ (zterm O c m).1 ∧ (zterm O c m).1 ≤ O.1 + 6 := by
  obtain ⟨a1, a2, a3⟩ := zdig_le h hc
  obtain ⟨b1, b2, b3⟩ := zvar_le (b := 120) (e := m / 9) a1 (by decide) (by omega)
  obtain ⟨c1, c2, c3⟩ := zvar_le (b := 121) (e := m % 9) b1 (by decide) (by omega)
  exact ⟨c1, by unfold zterm; omega, by unfold zterm; omega⟩
theorem zfmt_mono {C : Nat → Int} {cm : Nat} {O : tT} (hO : ovf O) (hC : ∀ m, 0 ≤ C m ∧ C m ≤ 99) : ∀ t, ovf (zfmt C cm O t) ∧ ∀ d, (zfmt C cm O t).1 ≤ (zfmt C cm O (t + d)).1 := by
  have h1 : ∀ t, ovf (zfmt C cm O t) := fun t => by
    induction t with
    | zero => exact hO
    | succ t ih =>
      unfold zfmt
      split
      · exact (zterm_le (ih.put (by decide)) (hC _) (by omega)).1
      · exact ih
  refine fun t => ⟨h1 t, fun d => ?_⟩
  induction d with
  | zero => exact Nat.le_refl _
  | succ d ih =>
    refine Nat.le_trans ih ?_
    show (zfmt C cm O (t + d)).1 ≤ (zfmt C cm O ((t + d) + 1)).1
    rw [zfmt]
    split
    · have := (zterm_le (m := 80 - (t + d)) ((h1 (t + d)).put (b := 43) (by decide)) (hC (80 - (t + d))) (by omega)).2.1
      have e : (zput (zfmt C cm O (t + d)) 43).1 = (zfmt C cm O (t + d)).1 + 1 := rfl
      omega
    · exact Nat.le_refl _
/-- nothing between: nothing is written -/
theorem zfmt_skip {C : Nat → Int} {cm : Nat} {O : tT} {t : Nat} : ∀ {d : Nat}, (∀ i, t ≤ i → i < t + d → 80 - i = cm ∨ C (80 - i) = 0) → zfmt C cm O (t + d) = zfmt C cm O t
  | 0, _ => rfl
  | d + 1, h => by
    show zfmt C cm O ((t + d) + 1) = _
    rw [zfmt, if_neg (fun q => (h (t + d) (by omega) (by omega)).elim q.1 q.2)]
    exact zfmt_skip fun i a b => h i a (by omega)
theorem pB_cells {P : pT} (h : pwf P) (i : Nat) {a : Nat} (ha : a < (pB P i).2.1) : (pB P i).2.2.2 a ((pB P i).2.2.1 a) = 1 ∧ ∀ x, 0 ≤ (pB P i).2.2.2 a x ∧ (pB P i).2.2.2 a x < P.1 := by
  have hw := zfw_bd (xs := P.2.2.1) (ys := P.2.2.2.1) h.1 h.2.1 i
  obtain ⟨_, _, _, d⟩ := zbas_facts (xs := P.2.2.1) (ys := P.2.2.2.1) (tie := 1) h.1 h.2.1 hw.1 hw.2.2.1
  exact ⟨(d a ha).2.2.1, fun x => ⟨((d a ha).2.2.2.2 x).1, ((d a ha).2.2.2.2 x).2.1⟩⟩
