/-! ===== Horner; polynomials, slots, snapshots ===== -/
theorem zsum_front (f : Nat → Int) : ∀ n, zsum f (n + 1) = f 0 + zsum (fun r => f (r + 1)) n
  | 0 => by simp [zsum]
  | n + 1 => by
    rw [zsum, zsum_front f n, zsum]
    omega
def hor (p x : Int) (a : Nat → Int) : Nat → Int
  | 0 => 0
  | t + 1 => (hor p x a t * x + a t) % p
theorem hor_sum (p x : Int) (a : Nat → Int) : ∀ t, zc p (hor p x a t) (zsum (fun r => a (t - 1 - r) * x ^ r) t)
  | 0 => zc.rf _
  | t + 1 => by
    have ih := hor_sum p x a t
    rw [zsum_front]
    have e : zsum (fun r => a (t + 1 - 1 - (r + 1)) * x ^ (r + 1)) t = zsum (fun r => x * (a (t - 1 - r) * x ^ r)) t := zsum_ext fun r hr => by
      rw [show t + 1 - 1 - (r + 1) = t - 1 - r by omega, Int.pow_succ]
      grind
    rw [e, zsum_mul]
    show zc p ((hor p x a t * x + a t) % p) _
    refine (zc.md _).tr ?_
    have := ih.mul (zc.rf x)
    obtain ⟨c, hc⟩ := this
    refine ⟨c, ?_⟩
    rw [show t + 1 - 1 - 0 = t by omega, Int.pow_zero]
    grind
theorem zpow_c (p b : Int) : ∀ e, zc p (zpow p b e) (b ^ e)
  | 0 => by unfold zpow; rw [Int.pow_zero]; exact zc.rf _
  | e + 1 => by
    unfold zpow
    rw [Int.pow_succ]
    exact (zc.md _).tr ((zpow_c p b e).mul (zc.rf b))
theorem zsum_nine (f : Nat → Int) : ∀ n, zsum f (9 * n) = zsum (fun i => zsum (fun j => f (9 * i + j)) 9) n
  | 0 => rfl
  | n + 1 => by
    rw [zsum, ← zsum_nine f n, show 9 * (n + 1) = 9 * n + 9 by omega]
    simp only [zsum]
    simp only [Nat.add_assoc, Nat.add_zero]
    omega
theorem hcol_hor (p y : Int) (c : Nat → Int) (i : Nat) : ∀ t, hcol p y c i t = hor p y (fun r => c (9 * i + (8 - r))) t
  | 0 => rfl
  | t + 1 => by unfold hcol hor; rw [hcol_hor p y c i t]
theorem hval_hor (p x y : Int) (c : Nat → Int) : ∀ t, hval p x y c t = hor p x (fun r => hcol p y c (8 - r) 9) t
  | 0 => rfl
  | t + 1 => by unfold hval hor; rw [hval_hor p x y c t]
theorem hval_eq {p x y : Int} (hp : 1 < p) (c : Nat → Int) : hval p x y c 9 = zval p x y c := by
  have h1 : zc p (hval p x y c 9) (zval p x y c) := by
    rw [hval_hor]
    refine (hor_sum p x _ 9).tr ?_
    unfold zval
    refine zc.tr ?_ (zc.md _).sy
    rw [show (81 : Nat) = 9 * 9 from rfl, zsum_nine]
    refine zc.sum fun i hi => ?_
    show zc p (hcol p y c (8 - (9 - 1 - i)) 9 * x ^ i) _
    rw [show 8 - (9 - 1 - i) = i by omega, hcol_hor]
    have a := (hor_sum p y (fun r => c (9 * i + (8 - r))) 9).mul (zc.rf (x ^ i))
    refine a.tr ?_
    rw [Int.mul_comm, ← zsum_mul]
    refine zc.sum fun j hj => ?_
    show zc p (x ^ i * (c (9 * i + (8 - (9 - 1 - j))) * y ^ j)) (c (9 * i + j) * zmon p x y (9 * i + j))
    rw [show 8 - (9 - 1 - j) = j by omega]
    unfold zmon
    rw [show (9 * i + j) / 9 = i by omega, show (9 * i + j) % 9 = j by omega]
    have b := (zc.rf (p := p) (c (9 * i + j))).mul ((zc.md (p := p) (zpow p x i * zpow p y j)).tr ((zpow_c p x i).mul (zpow_c p y j)))
    refine zc.tr (zc.of_eq ?_) b.sy
    grind
  exact h1.eq (hval_bd hp 9) (zval_bd hp)
theorem zval_ext {p x y : Int} {c c' : Nat → Int} (h : ∀ m, m < 81 → c m = c' m) : zval p x y c = zval p x y c' := by
  unfold zval
  rw [zsum_ext fun m hm => by rw [h m hm]]
abbrev sEx (i : Int) : Prop := 0 ≤ i ∧ i < 9
abbrev pC (P : pT) (C : Nat → Int) : pT := (P.1, P.2.1, P.2.2.1, P.2.2.2.1, C)
def s_set (P : pT) (i j v : Int) : Int × pT := if sEx i ∧ sEx j then (P.2.2.2.2 (9 * i.toNat + j.toNat), pC P (zfu P.2.2.2.2 (9 * i.toNat + j.toNat) (v % P.1))) else (-1, P)
def s_get (P : pT) (i j : Int) : Int := if sEx i ∧ sEx j then P.2.2.2.2 (9 * i.toNat + j.toNat) else -1
def s_tc (P : pT) : Int := (znz P.2.2.2.2 81 : Int)
def s_ev (P : pT) (i : Int) : Int := if 0 ≤ i ∧ i < (P.2.1 : Int) then zval P.1 (P.2.2.1 i.toNat) (P.2.2.2.1 i.toNat) P.2.2.2.2 else -1
def zvan (P : pT) : Bool := (List.range P.2.1).all (fun k => zval P.1 (P.2.2.1 k) (P.2.2.2.1 k) P.2.2.2.2 == 0)
theorem zvan_iff {P : pT} : zvan P = true ↔ ∀ k, k < P.2.1 → zval P.1 (P.2.2.1 k) (P.2.2.2.1 k) P.2.2.2.2 = 0 := by
  unfold zvan
  simp [List.all_eq_true]
def s_van (P : pT) : Int := if zvan P = true then 1 else 0
noncomputable def s_lb (P : pT) (i q : Int) : Int × pT := if sBas P i q then ((znz ((pB P i.toNat).2.2.2 q.toNat) 81 : Int), pC P ((pB P i.toNat).2.2.2 q.toNat)) else (-1, P)
theorem gFan.cur {h : zHp} {B lo n nb : Nat} {P : pT} {cb : Nat → Nat} (C : Nat → Int) (g : gFan h B lo n P nb cb) : gFan h B lo n (pC P C) nb cb := g
theorem wf_cur {P : pT} (h : pwf P) {C : Nat → Int} (hC : ∀ m, m < 81 → 0 ≤ C m ∧ C m < P.1) : pwf (pC P C) := ⟨h.1, h.2.1, h.2.2.1, h.2.2.2.1, hC⟩
theorem wf_set {P : pT} (h : pwf P) (i j v : Int) : pwf (s_set P i j v).2 := by
  have := h.bd
  unfold s_set
  split
  · refine wf_cur h fun m hm => ?_
    by_cases e : m = 9 * i.toNat + j.toNat
    · subst e; rw [zfu_self]; exact zmod_bd _ _ (by omega)
    · rw [zfu_ne e]; exact h.2.2.2.2 m hm
  · exact h
theorem wf_lb {P : pT} (h : pwf P) (i q : Int) : pwf (s_lb P i q).2 := by
  unfold s_lb
  split
  · rename_i c
    have hw := zfw_bd (xs := P.2.2.1) (ys := P.2.2.2.1) h.1 h.2.1 i.toNat
    have hf := zbas_facts (xs := P.2.2.1) (ys := P.2.2.2.1) (tie := 1) h.1 h.2.1 hw.1 hw.2.2.1
    refine wf_cur h fun m _ => ?_
    have hq : q.toNat < (pB P i.toNat).2.1 := by have := c.2; omega
    have := (hf.2.2.2 q.toNat hq).2.2.2.2 m
    exact ⟨this.1, this.2.1⟩
  · exact h
/-! ===== slots ===== -/
abbrev sSl (k : Int) : Prop := 0 ≤ k ∧ k < 4
def s_na (L : lT) (k n : Int) : Int × lT := if sSl k then (if 20 < n then (-2, L) else if n < 0 then (-8, L) else (1, (zfu L.1 k.toNat 1, zfu L.2.1 k.toNat n.toNat, zfu L.2.2.1 k.toNat (fun _ => 0), L.2.2.2))) else (-1, L)
/-- what a slot that must hold an array (1) or a polynomial (2) answers if it doesn't; else 0 -/
def zami (L : lT) (k w : Nat) : Int := if L.1 k = 0 then -6 else if L.1 k = w then 0 else -7
def s_el (L : lT) (k i : Int) : Int := if sSl k then (if zami L k.toNat 1 = 0 then (if 0 ≤ i ∧ i < (L.2.1 k.toNat : Int) then L.2.2.1 k.toNat i.toNat else -1) else zami L k.toNat 1) else -1
def s_se (L : lT) (k i v : Int) : Int × lT := if sSl k then (if 0 ≤ v ∧ v ≤ 9999 then (if zami L k.toNat 1 = 0 then (if 0 ≤ i ∧ i < (L.2.1 k.toNat : Int) then (L.2.2.1 k.toNat i.toNat, (L.1, L.2.1, zfu L.2.2.1 k.toNat (zfu (L.2.2.1 k.toNat) i.toNat v), L.2.2.2)) else (-1, L)) else (zami L k.toNat 1, L)) else (-2, L)) else (-1, L)
def s_sp (P : pT) (L : lT) (k : Int) : Int × lT := if sSl k then ((znz P.2.2.2.2 81 : Int), (zfu L.1 k.toNat 2, L.2.1, L.2.2.1, zfu L.2.2.2 k.toNat P.2.2.2.2)) else (-1, L)
def s_lp (P : pT) (L : lT) (k : Int) : Int × pT := if sSl k then (if zami L k.toNat 2 = 0 then ((znz (fun m => L.2.2.2 k.toNat m % P.1) 81 : Int), pC P (fun m => L.2.2.2 k.toNat m % P.1)) else (zami L k.toNat 2, P)) else (-1, P)
def s_cs (L : lT) (k : Int) : Int × lT := if sSl k then ((L.1 k.toNat : Int), (zfu L.1 k.toNat 0, L.2)) else (-1, L)
/-- the first element that differs from the heights -/
def zdif (H : Nat → Nat) (E : Nat → Int) (n : Nat) : Nat := zfst (fun i => if 9 ≤ i ∨ E i ≠ (H i : Int) then 1 else 0) n
noncomputable def s_fd (P : pT) (L : lT) (k i : Int) : Int := if sSl k ∧ (0 ≤ i ∧ i < (pN P : Int)) then (if zami L k.toNat 1 = 0 then (if zdif (pB P i.toNat).1 (L.2.2.1 k.toNat) (L.2.1 k.toNat) < L.2.1 k.toNat then (zdif (pB P i.toNat).1 (L.2.2.1 k.toNat) (L.2.1 k.toNat) : Int) else -5) else zami L k.toNat 1) else -1
theorem lw_na {L : lT} (h : lwf L) (k n : Int) : lwf (s_na L k n).2 := by
  unfold s_na
  split
  · split
    · exact h
    · split
      · exact h
      · intro q hq
        show zfu L.1 k.toNat 1 q ≤ 2 ∧ (zfu L.1 k.toNat 1 q = 1 → zfu L.2.1 k.toNat n.toNat q ≤ 20 ∧ ∀ i, i < zfu L.2.1 k.toNat n.toNat q → 0 ≤ zfu L.2.2.1 k.toNat (fun _ => 0) q i ∧ zfu L.2.2.1 k.toNat (fun _ => 0) q i ≤ 9999) ∧ (zfu L.1 k.toNat 1 q = 2 → ∀ m, m < 81 → 0 ≤ L.2.2.2 q m ∧ L.2.2.2 q m < 32)
        by_cases e : q = k.toNat
        · subst e
          rw [zfu_self, zfu_self, zfu_self]
          exact ⟨by omega, fun _ => ⟨by omega, fun i _ => ⟨by omega, by omega⟩⟩, fun q => by omega⟩
        · rw [zfu_ne e, zfu_ne e, zfu_ne e]; exact h q hq
  · exact h
theorem lw_se {L : lT} (h : lwf L) (k i v : Int) : lwf (s_se L k i v).2 := by
  unfold s_se
  split
  · split
    · rename_i hv
      split
      · split
        · intro q hq
          show L.1 q ≤ 2 ∧ (L.1 q = 1 → L.2.1 q ≤ 20 ∧ ∀ a, a < L.2.1 q → 0 ≤ zfu L.2.2.1 k.toNat (zfu (L.2.2.1 k.toNat) i.toNat v) q a ∧ zfu L.2.2.1 k.toNat (zfu (L.2.2.1 k.toNat) i.toNat v) q a ≤ 9999) ∧ (L.1 q = 2 → ∀ m, m < 81 → 0 ≤ L.2.2.2 q m ∧ L.2.2.2 q m < 32)
          obtain ⟨a1, a2, a3⟩ := h q hq
          refine ⟨a1, fun e1 => ⟨(a2 e1).1, fun a ha => ?_⟩, a3⟩
          by_cases e : q = k.toNat
          · subst e; rw [zfu_self]
            by_cases e2 : a = i.toNat
            · subst e2; rw [zfu_self]; exact hv
            · rw [zfu_ne e2]; exact (a2 e1).2 a ha
          · rw [zfu_ne e]; exact (a2 e1).2 a ha
        · exact h
      · exact h
    · exact h
  · exact h
theorem lw_sp {P : pT} {L : lT} (hP : pwf P) (h : lwf L) (k : Int) : lwf (s_sp P L k).2 := by
  have := hP.bd
  unfold s_sp
  split
  · intro q hq
    show zfu L.1 k.toNat 2 q ≤ 2 ∧ (zfu L.1 k.toNat 2 q = 1 → L.2.1 q ≤ 20 ∧ ∀ i, i < L.2.1 q → 0 ≤ L.2.2.1 q i ∧ L.2.2.1 q i ≤ 9999) ∧ (zfu L.1 k.toNat 2 q = 2 → ∀ m, m < 81 → 0 ≤ zfu L.2.2.2 k.toNat P.2.2.2.2 q m ∧ zfu L.2.2.2 k.toNat P.2.2.2.2 q m < 32)
    by_cases e : q = k.toNat
    · subst e
      rw [zfu_self, zfu_self]
      exact ⟨by omega, fun q => by omega, fun _ m hm => by have := hP.2.2.2.2 m hm; omega⟩
    · rw [zfu_ne e, zfu_ne e]; exact h q hq
  · exact h
theorem lw_cs {L : lT} (h : lwf L) (k : Int) : lwf (s_cs L k).2 := by
  unfold s_cs
  split
  · intro q hq
    show zfu L.1 k.toNat 0 q ≤ 2 ∧ (zfu L.1 k.toNat 0 q = 1 → L.2.1 q ≤ 20 ∧ ∀ i, i < L.2.1 q → 0 ≤ L.2.2.1 q i ∧ L.2.2.1 q i ≤ 9999) ∧ (zfu L.1 k.toNat 0 q = 2 → ∀ m, m < 81 → 0 ≤ L.2.2.2 q m ∧ L.2.2.2 q m < 32)
    by_cases e : q = k.toNat
    · subst e; rw [zfu_self]; exact ⟨by omega, fun q => by omega, fun q => by omega⟩
    · rw [zfu_ne e]; exact h q hq
  · exact h
theorem wf_lp {P : pT} (hP : pwf P) (L : lT) (k : Int) : pwf (s_lp P L k).2 := by
  have := hP.bd
  unfold s_lp
  split
  · split
    · exact wf_cur hP fun m _ => zmod_bd _ _ (by omega)
    · exact hP
  · exact hP
/-! ===== snapshots ===== -/
def s_rs (P : pT) (V : Int × pT) : Int × pT := if V.1 = 0 then (-5, P) else ((V.2.2.1 : Int), V.2)
theorem wf_rs {P : pT} {V : Int × pT} (hP : pwf P) (hV : vwf V) : pwf (s_rs P V).2 := by
  unfold s_rs
  split
  · exact hP
  · rename_i c
    exact hV.2 (hV.1.resolve_left c)
