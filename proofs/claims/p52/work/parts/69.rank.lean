/-! ===== full rank; a system with fewer equations than unknowns ===== -/
theorem zcu {p a : Int} (hp : zprime p) (h : ¬ zc p a 0) : ∃ b, zc p (b * a) 1 := by
  have hb := hp.bd
  have h1 := zmod_bd a p (by omega)
  have h2 : a % p ≠ 0 := fun e => h ((zc.md a).sy.tr (zc.of_eq e))
  obtain ⟨_, _, h3⟩ := zinv_spec hp (v := a % p) (by omega) h1.2
  refine ⟨zinv p (a % p), ?_⟩
  exact (((zc.rf _).mul (zc.md a).sy).tr (zc.md _).sy).tr (zc.of_eq h3)
theorem zno_zero {p a b : Int} (hp : zprime p) (ha : ¬ zc p a 0) (hb : ¬ zc p b 0) : ¬ zc p (a * b) 0 := fun h => by
  obtain ⟨c, hc⟩ := zcu hp ha
  exact hb ((((hc.mul (zc.rf b)).tr (zc.of_eq (Int.one_mul b))).sy).tr ((zc.of_eq (Int.mul_assoc c a b)).tr (((zc.rf c).mul h).tr (zc.of_eq (Int.mul_zero c)))))
theorem zc_one {p : Int} (hp : zprime p) : ¬ zc p 1 0 := fun h => by
  have hb := hp.bd
  have := h.eq ⟨by omega, hb.1⟩ ⟨by omega, by omega⟩
  omega
theorem zhom {p : Int} (hp : zprime p) : ∀ (n m : Nat) (a : Nat → Nat → Int), m < n → ∃ f : Nat → Int, (∃ k, k < n ∧ ¬ zc p (f k) 0) ∧ ∀ i, i < m → zc p (zsum (fun k => f k * a i k) n) 0
  | 0, m, a, h => absurd h (Nat.not_lt_zero m)
  | n + 1, m, a, h => by
    by_cases hz : ∀ i, i < m → zc p (a i n) 0
    · refine ⟨fun k => if k = n then 1 else 0, ⟨n, by omega, ?_⟩, fun i hi => ?_⟩
      · show ¬ zc p (if n = n then 1 else 0) 0
        rw [if_pos rfl]; exact zc_one hp
      · refine (zsum_one (r := n) (by omega) (fun k hk hne => ?_)).tr ?_
        · show zc p ((if k = n then 1 else 0) * a i k) 0
          rw [if_neg hne, Int.zero_mul]; exact zc.rf 0
        · show zc p ((if n = n then 1 else 0) * a i n) 0
          rw [if_pos rfl, Int.one_mul]; exact hz i hi
    · obtain ⟨i0, hi0, hn0⟩ : ∃ i0, i0 < m ∧ ¬ zc p (a i0 n) 0 := Classical.byContradiction fun q => hz fun i hi => Classical.byContradiction fun z => q ⟨i, hi, z⟩
      obtain ⟨w, hw⟩ := zcu hp hn0
      obtain ⟨m1, rfl⟩ : ∃ m1, m = m1 + 1 := ⟨m - 1, by omega⟩
      obtain ⟨f, ⟨k, hk, hf⟩, he⟩ := zhom hp n m1 (fun i k => a (if i = i0 then m1 else i) k - a (if i = i0 then m1 else i) n * w * a i0 k) (by omega)
      have hs : ∀ b : Nat → Int, zsum (fun k => (if k = n then -(w * zsum (fun k => f k * a i0 k) n) else f k) * b k) (n + 1) = zsum (fun k => f k * b k) n + -(w * zsum (fun k => f k * a i0 k) n) * b n := fun b => by
        rw [zsum, zsum_ext (f' := fun k => f k * b k) fun j hj => by rw [if_neg (by omega)], if_pos rfl]
      refine ⟨fun k => if k = n then -(w * zsum (fun k => f k * a i0 k) n) else f k, ⟨k, by omega, ?_⟩, fun i hi => ?_⟩
      · show ¬ zc p (if k = n then _ else f k) 0
        rw [if_neg (by omega)]; exact hf
      · show zc p (zsum (fun k => (if k = n then -(w * zsum (fun k => f k * a i0 k) n) else f k) * a i k) (n + 1)) 0
        rw [hs]
        by_cases e : i = i0
        · rw [e]
          obtain ⟨c, hc⟩ := hw
          exact ⟨-(zsum (fun k => f k * a i0 k) n * c), by grind⟩
        · obtain ⟨i', hi', eg⟩ : ∃ i', i' < m1 ∧ (if i' = i0 then m1 else i') = i := by
            by_cases e1 : i = m1
            · exact ⟨i0, by omega, by rw [if_pos rfl, e1]⟩
            · exact ⟨i, by omega, by rw [if_neg e]⟩
          have h9 := he i' hi'
          rw [eg] at h9
          have e2 : zsum (fun k => f k * (a i k - a i n * w * a i0 k)) n = zsum (fun k => f k * a i k) n + -(a i n * w) * zsum (fun k => f k * a i0 k) n := by
            rw [← zsum_mul, ← zsum_add]
            exact zsum_ext fun j _ => by grind
          rw [e2] at h9
          exact (zc.of_eq (by grind)).tr h9
/-- what is closed as the value vectors of polynomials of degree at most n are -/
def PVc (p : Int) (xs ys : Nat → Int) (R : Nat → (Nat → Int) → Prop) : Prop :=
  (∀ n a b : Nat, a + b ≤ n → R n (fun k => xs k ^ a * ys k ^ b)) ∧ (∀ (n : Nat) (v w : Nat → Int), R n v → R n w → R n (fun k => v k + w k)) ∧
  (∀ (n : Nat) (c : Int) (v : Nat → Int), R n v → R n (fun k => c * v k)) ∧ ∀ (n : Nat) (v w : Nat → Int), R n v → (∀ k, zc p (w k) (v k)) → R n w
def PV (p : Int) (xs ys : Nat → Int) (n : Nat) (v : Nat → Int) : Prop := ∀ R, PVc p xs ys R → R n v
theorem PV.c {p : Int} {xs ys : Nat → Int} : PVc p xs ys (PV p xs ys) :=
  ⟨fun n a b h R hR => hR.1 n a b h, fun n v w h1 h2 R hR => hR.2.1 n v w (h1 R hR) (h2 R hR), fun n c v h R hR => hR.2.2.1 n c v (h R hR), fun n v w h e R hR => hR.2.2.2 n v w (h R hR) e⟩
theorem PV.up {p : Int} {xs ys : Nat → Int} {n : Nat} {v : Nat → Int} (h : PV p xs ys n v) : PV p xs ys (n + 1) v := fun R hR =>
  h (fun n v => R (n + 1) v) ⟨fun n a b h => hR.1 (n + 1) a b (by omega), fun n => hR.2.1 (n + 1), fun n => hR.2.2.1 (n + 1), fun n => hR.2.2.2 (n + 1)⟩
theorem PV.x {p : Int} {xs ys : Nat → Int} {n : Nat} {v : Nat → Int} (h : PV p xs ys n v) : PV p xs ys (n + 1) (fun k => xs k * v k) := by
  obtain ⟨c1, c2, c3, c4⟩ := PV.c (p := p) (xs := xs) (ys := ys)
  refine h (fun n v => PV p xs ys (n + 1) (fun k => xs k * v k)) ⟨fun n a b h => ?_, fun n v w h1 h2 => ?_, fun n c v h => ?_, fun n v w h e => ?_⟩
  · exact c4 _ _ _ (c1 (n + 1) (a + 1) b (by omega)) fun k => zc.of_eq (by rw [Int.pow_succ]; grind)
  · exact c4 _ _ _ (c2 _ _ _ h1 h2) fun k => zc.of_eq (Int.mul_add _ _ _)
  · exact c4 _ _ _ (c3 _ c _ h) fun k => zc.of_eq (by grind)
  · exact c4 _ _ _ h fun k => (zc.rf _).mul (e k)
theorem PV.y {p : Int} {xs ys : Nat → Int} {n : Nat} {v : Nat → Int} (h : PV p xs ys n v) : PV p xs ys (n + 1) (fun k => ys k * v k) := by
  obtain ⟨c1, c2, c3, c4⟩ := PV.c (p := p) (xs := xs) (ys := ys)
  refine h (fun n v => PV p xs ys (n + 1) (fun k => ys k * v k)) ⟨fun n a b h => ?_, fun n v w h1 h2 => ?_, fun n c v h => ?_, fun n v w h e => ?_⟩
  · exact c4 _ _ _ (c1 (n + 1) a (b + 1) (by omega)) fun k => zc.of_eq (by rw [Int.pow_succ]; grind)
  · exact c4 _ _ _ (c2 _ _ _ h1 h2) fun k => zc.of_eq (Int.mul_add _ _ _)
  · exact c4 _ _ _ (c3 _ c _ h) fun k => zc.of_eq (by grind)
  · exact c4 _ _ _ h fun k => (zc.rf _).mul (e k)
theorem PV.lin {p : Int} {xs ys z : Nat → Int} {n : Nat} {v : Nat → Int} (c : Int) (h : PV p xs ys n v) (hz : PV p xs ys (n + 1) (fun k => z k * v k)) : PV p xs ys (n + 1) (fun k => (z k - c) * v k) := by
  obtain ⟨c1, c2, c3, c4⟩ := PV.c (p := p) (xs := xs) (ys := ys)
  exact c4 _ _ _ (c2 _ _ _ hz (c3 _ (-c) _ h.up)) fun k => zc.of_eq (by grind)
/-- a polynomial that is not 0 at one point and is 0 at the others -/
theorem zlag {p : Int} {s : Nat} {xs ys : Nat → Int} (hp : zprime p) (hb : ∀ k, k < s → (0 ≤ xs k ∧ xs k < p) ∧ (0 ≤ ys k ∧ ys k < p)) (hd : ∀ i j, i < s → j < s → i ≠ j → ¬ (xs i = xs j ∧ ys i = ys j)) {k : Nat} (hk : k < s) :
    ∀ t, t ≤ s → ∃ v, PV p xs ys t v ∧ ¬ zc p (v k) 0 ∧ ∀ q, q < t → q ≠ k → zc p (v q) 0
  | 0, _ => ⟨fun j => xs j ^ 0 * ys j ^ 0, PV.c.1 0 0 0 (by omega), by
      show ¬ zc p (xs k ^ 0 * ys k ^ 0) 0
      rw [Int.pow_zero, Int.pow_zero, Int.mul_one]; exact zc_one hp, fun q hq => absurd hq (Nat.not_lt_zero q)⟩
  | t + 1, ht => by
    obtain ⟨v, h1, h2, h3⟩ := zlag hp hb hd hk t (by omega)
    have ne : ∀ {x y : Int}, (0 ≤ x ∧ x < p) → (0 ≤ y ∧ y < p) → x ≠ y → ¬ zc p (x - y) 0 := fun {x y} hx hy hne h => hne (zc.eq (by obtain ⟨c, hc⟩ := h; exact ⟨c, by omega⟩) hx hy)
    by_cases e : t = k
    · exact ⟨v, h1.up, h2, fun q hq hne => h3 q (by omega) hne⟩
    · by_cases ex : xs k = xs t
      · have ey : ys k ≠ ys t := fun q => hd k t hk (by omega) (fun z => e z.symm) ⟨ex, q⟩
        refine ⟨fun j => (ys j - ys t) * v j, PV.lin (ys t) h1 h1.y, zno_zero hp (ne (hb k hk).2 (hb t (by omega)).2 ey) h2, fun q hq hne => ?_⟩
        by_cases z : q = t
        · subst z; exact zc.of_eq (by show (ys q - ys q) * v q = 0; rw [Int.sub_self, Int.zero_mul])
        · exact ((zc.rf _).mul (h3 q (by omega) hne)).tr (zc.of_eq (Int.mul_zero _))
      · refine ⟨fun j => (xs j - xs t) * v j, PV.lin (xs t) h1 h1.x, zno_zero hp (ne (hb k hk).1 (hb t (by omega)).1 ex) h2, fun q hq hne => ?_⟩
        by_cases z : q = t
        · subst z; exact zc.of_eq (by show (xs q - xs q) * v q = 0; rw [Int.sub_self, Int.zero_mul])
        · exact ((zc.rf _).mul (h3 q (by omega) hne)).tr (zc.of_eq (Int.mul_zero _))
/-- what vanishes on every monomial's values is 0 -/
theorem zdual {p : Int} {s : Nat} {xs ys : Nat → Int} (hp : zprime p) (hs : s ≤ 8) (hb : ∀ k, k < s → (0 ≤ xs k ∧ xs k < p) ∧ (0 ≤ ys k ∧ ys k < p)) (hd : ∀ i j, i < s → j < s → i ≠ j → ¬ (xs i = xs j ∧ ys i = ys j))
    {f : Nat → Int} (hf : ∀ m, m < 81 → zc p (zsum (fun k => f k * zvec p xs ys m k) s) 0) {k : Nat} (hk : k < s) : zc p (f k) 0 := by
  obtain ⟨v, h1, h2, h3⟩ := zlag hp hb hd hk s (Nat.le_refl s)
  have h4 : s ≤ 8 → zc p (zsum (fun k => f k * v k) s) 0 := h1 (fun n v => n ≤ 8 → zc p (zsum (fun k => f k * v k) s) 0) ⟨fun n a b h hn => by
      have h9 := hf (9 * a + b) (by omega)
      refine zc.tr (zc.sum fun j hj => (zc.rf (f j)).mul ?_) h9
      show zc p (xs j ^ a * ys j ^ b) (zpow p (xs j) ((9 * a + b) / 9) * zpow p (ys j) ((9 * a + b) % 9) % p)
      rw [show (9 * a + b) / 9 = a by omega, show (9 * a + b) % 9 = b by omega]
      exact (((zc.md _).tr ((zpow_c p _ a).mul (zpow_c p _ b)))).sy,
    fun n v w a b hn => by
      refine (zc.of_eq ?_).tr ((a hn).add (b hn))
      rw [← zsum_add]; exact zsum_ext fun j _ => Int.mul_add _ _ _,
    fun n c v a hn => by
      refine (zc.of_eq ?_).tr (((zc.rf c).mul (a hn)).tr (zc.of_eq (Int.mul_zero c)))
      rw [← zsum_mul]; exact zsum_ext fun j _ => by grind,
    fun n v w a e hn => (zc.sum fun j hj => (zc.rf (f j)).mul (e j)).tr (a hn)⟩
  have h5 := h4 hs
  have h6 : zc p (f k * v k) 0 := (zsum_one (p := p) (f := fun k => f k * v k) (r := k) hk (fun q hq hne => ((zc.rf _).mul (h3 q hq hne)).tr (zc.of_eq (Int.mul_zero _)))).sy.tr h5
  exact Classical.byContradiction fun hn => zno_zero hp hn h2 h6
