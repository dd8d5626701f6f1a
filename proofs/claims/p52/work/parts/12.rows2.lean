/-! ===== more rows: arrays by a natural index, division and remainder of numbers that aren't negative ===== -/
theorem zup_nf {h : zHp} {a q : Nat} {e : zC} (hq : q ≠ a) : zup h a e q = h q := by simp [zup, hq]
theorem zmulR {x y : Int} (h1 : 0 ≤ x) (h2 : x ≤ 40000) (h3 : 0 ≤ y) (h4 : y ≤ 40000) : zR (x * y) := by
  have a : 0 ≤ x * y := Int.mul_nonneg h1 h3
  have b : x * y ≤ 40000 * 40000 := Int.mul_le_mul h2 h4 h3 (by decide)
  exact ⟨by omega, by omega⟩
theorem zmul_le {x y a b : Int} (h1 : 0 ≤ x) (h2 : x ≤ a) (h3 : 0 ≤ y) (h4 : y ≤ b) : 0 ≤ x * y ∧ x * y ≤ a * b :=
  ⟨Int.mul_nonneg h1 h3, Int.mul_le_mul h2 h4 h3 (by omega)⟩
theorem zmod_bd (x y : Int) (hy : 0 < y) : 0 ≤ x % y ∧ x % y < y := ⟨Int.emod_nonneg _ (by omega), Int.emod_lt_of_pos _ hy⟩
section ZTR2
variable {n0 : Nat} {g : Nat → zV} {M M' : zM} {pc : Nat} {L : List (Option zV)} {st : List zV} {n k : Nat} {h : zHp} {Q : Option zV → Nat → Nat → zHp → Prop}
theorem T_ialoadN {a N m : Nat} {f : Nat → Int} {i : Int} (hd : decode M.1 pc = .ok (.iaload, 1)) (ha : h a = some (.inr (.inl (0, N, f)))) (hi : i = (m : Int)) (hm : m < N) (kk : ZT n0 g M (pc + 1) L (.inl (f m) :: st) n k h Q) : ZT n0 g M pc L (.inl i :: .inr (some a) :: st) n k h Q := by
  subst hi
  exact T_iaload hd ha ⟨by omega, by omega⟩ (by rw [Int.toNat_natCast]; exact kk)
theorem T_baloadN {a t N m : Nat} {f : Nat → Int} {i : Int} (hd : decode M.1 pc = .ok (.baload, 1)) (ha : h a = some (.inr (.inl (t, N, f)))) (ht : t = 1 ∨ t = 2) (hi : i = (m : Int)) (hm : m < N) (kk : ZT n0 g M (pc + 1) L (.inl (f m) :: st) n k h Q) : ZT n0 g M pc L (.inl i :: .inr (some a) :: st) n k h Q := by
  subst hi
  exact T_baload hd ha ht ⟨by omega, by omega⟩ (by rw [Int.toNat_natCast]; exact kk)
theorem T_aaloadN {a t N m : Nat} {f : Nat → Option Nat} {r : Option Nat} {i : Int} (hd : decode M.1 pc = .ok (.aaload, 1)) (ha : h a = some (.inr (.inr (t, N, f)))) (hi : i = (m : Int)) (hm : m < N) (hv : f m = r) (kk : ZT n0 g M (pc + 1) L (.inr r :: st) n k h Q) : ZT n0 g M pc L (.inl i :: .inr (some a) :: st) n k h Q := by
  subst hi; subst hv
  exact T_aaload hd ha ⟨by omega, by omega⟩ (by rw [Int.toNat_natCast]; exact kk)
theorem T_iastoreN {a N m : Nat} {f : Nat → Int} {i x : Int} (hd : decode M.1 pc = .ok (.iastore, 1)) (ha : h a = some (.inr (.inl (0, N, f)))) (hi : i = (m : Int)) (hm : m < N) (hn : n0 ≤ a) (kk : ZT n0 g M (pc + 1) L st n k (zup h a (.inr (.inl (0, N, zfu f m x)))) Q) : ZT n0 g M pc L (.inl x :: .inl i :: .inr (some a) :: st) n k h Q := by
  subst hi
  exact T_iastore hd ha ⟨by omega, by omega⟩ hn (by rw [Int.toNat_natCast]; exact kk)
theorem T_bastoreN {a t N m : Nat} {f : Nat → Int} {i x : Int} (hd : decode M.1 pc = .ok (.bastore, 1)) (ha : h a = some (.inr (.inl (t, N, f)))) (ht : t = 1 ∨ t = 2) (hi : i = (m : Int)) (hm : m < N) (hn : n0 ≤ a) (hf : zfit (zty t) (.inl x) = true) (kk : ZT n0 g M (pc + 1) L st n k (zup h a (.inr (.inl (t, N, zfu f m x)))) Q) : ZT n0 g M pc L (.inl x :: .inl i :: .inr (some a) :: st) n k h Q := by
  subst hi
  exact T_bastore hd ha ht ⟨by omega, by omega⟩ hn hf (by rw [Int.toNat_natCast]; exact kk)
theorem T_aastoreN {a b t N m : Nat} {fs : List zV} {f : Nat → Option Nat} {i : Int} (hd : decode M.1 pc = .ok (.aastore, 1)) (ha : h a = some (.inr (.inr (t, N, f)))) (hb : h b = some (.inl (t, fs))) (ht : t < 11) (hi : i = (m : Int)) (hm : m < N) (hn : n0 ≤ a) (kk : ZT n0 g M (pc + 1) L st n k (zup h a (.inr (.inr (t, N, zfu f m (some b))))) Q) : ZT n0 g M pc L (.inr (some b) :: .inl i :: .inr (some a) :: st) n k h Q := by
  subst hi
  exact T_aastore hd ha hb ht ⟨by omega, by omega⟩ hn (by rw [Int.toNat_natCast]; exact kk)
theorem ztdiv_nn {x y : Int} (hx : 0 ≤ x ∧ x ≤ 2147483647) (hy : 0 < y) : x.tdiv y = x / y ∧ zR (x.tdiv y) ∧ x.tmod y = x % y := by
  have e1 : x.tdiv y = x / y := Int.tdiv_eq_ediv_of_nonneg hx.1
  have e2 : x.tmod y = x % y := Int.tmod_eq_emod_of_nonneg hx.1
  refine ⟨e1, ?_, e2⟩
  rw [e1]
  have a : 0 ≤ x / y := Int.ediv_nonneg hx.1 (by omega)
  have b : x / y ≤ x := Int.ediv_le_self _ hx.1
  exact ⟨by omega, by omega⟩
theorem T_idivN {x y : Int} (hd : decode M.1 pc = .ok (.idiv, 1)) (hx : 0 ≤ x ∧ x ≤ 2147483647) (hy : 0 < y) (kk : ZT n0 g M (pc + 1) L (.inl (x / y) :: st) n k h Q) : ZT n0 g M pc L (.inl y :: .inl x :: st) n k h Q := by
  obtain ⟨e1, e2, e3⟩ := ztdiv_nn hx hy
  exact T_idiv hd ⟨by omega, e2⟩ (by rw [e1]; exact kk)
theorem T_iremN {x y : Int} (hd : decode M.1 pc = .ok (.irem, 1)) (hx : 0 ≤ x ∧ x ≤ 2147483647) (hy : 0 < y) (kk : ZT n0 g M (pc + 1) L (.inl (x % y) :: st) n k h Q) : ZT n0 g M pc L (.inl y :: .inl x :: st) n k h Q := by
  obtain ⟨e1, e2, e3⟩ := ztdiv_nn hx hy
  exact T_irem hd ⟨by omega, e2⟩ (by rw [e3]; exact kk)
end ZTR2
theorem zfu_below {f s : Nat → Int} {k : Nat} {v : Int} (h : ∀ j, j < k → f j = s j) (hv : v = s k) : ∀ j, j < k + 1 → zfu f k v j = s j := by
  intro j hj
  by_cases e : j = k
  · subst e; rw [zfu_self, hv]
  · rw [zfu_ne e]; exact h j (by omega)
