/-! ===== methods of the JDK: printed by wip/whole/gen/s_jdk.py ===== -/
theorem dJmax_0 : decode Lib.Math.max.code 0 = .ok (.iload_n 0, 1) := by decide +kernel
theorem dJmax_1 : decode Lib.Math.max.code 1 = .ok (.iload_n 1, 1) := by decide +kernel
theorem dJmax_2 : decode Lib.Math.max.code 2 = .ok (.if_icmp .lt 7, 3) := by decide +kernel
theorem dJmax_5 : decode Lib.Math.max.code 5 = .ok (.iload_n 0, 1) := by decide +kernel
theorem dJmax_6 : decode Lib.Math.max.code 6 = .ok (.goto 4, 3) := by decide +kernel
theorem dJmax_9 : decode Lib.Math.max.code 9 = .ok (.iload_n 1, 1) := by decide +kernel
theorem dJmax_10 : decode Lib.Math.max.code 10 = .ok (.ireturn, 1) := by decide +kernel
theorem dJmin_0 : decode Lib.Math.min.code 0 = .ok (.iload_n 0, 1) := by decide +kernel
theorem dJmin_1 : decode Lib.Math.min.code 1 = .ok (.iload_n 1, 1) := by decide +kernel
theorem dJmin_2 : decode Lib.Math.min.code 2 = .ok (.if_icmp .gt 7, 3) := by decide +kernel
theorem dJmin_5 : decode Lib.Math.min.code 5 = .ok (.iload_n 0, 1) := by decide +kernel
theorem dJmin_6 : decode Lib.Math.min.code 6 = .ok (.goto 4, 3) := by decide +kernel
theorem dJmin_9 : decode Lib.Math.min.code 9 = .ok (.iload_n 1, 1) := by decide +kernel
theorem dJmin_10 : decode Lib.Math.min.code 10 = .ok (.ireturn, 1) := by decide +kernel
theorem zxor_neg {x y : Int} (hx : zR x) (hy : zR y) (h0 : 0 < y) : 0 ≤ zbit (fun a b => a ^^^ b) x y ↔ 0 ≤ x := by
  have sg : ∀ a : Int32, (a.toBitVec.msb = true ↔ a.toInt < 0) := fun a => by
    rw [BitVec.msb_eq_toInt, decide_eq_true_iff]
    exact Iff.rfl
  have e1 := sg (Int32.ofInt x)
  have e2 := sg (Int32.ofInt y)
  have e3 := sg (Int32.ofInt x ^^^ Int32.ofInt y)
  rw [zI_toInt hx] at e1
  rw [zI_toInt hy] at e2
  rw [Int32.toBitVec_xor, BitVec.msb_xor] at e3
  show 0 ≤ (Int32.ofInt x ^^^ Int32.ofInt y).toInt ↔ 0 ≤ x
  have f2 : (Int32.ofInt y).toBitVec.msb = false := by
    cases hb : (Int32.ofInt y).toBitVec.msb with
    | false => rfl
    | true => have := e2.mp hb; omega
  rw [f2, Bool.xor_false] at e3
  have e4 := e1.symm.trans e3
  omega
theorem zfloor {x y : Int} (hx : zR x) (hy : 0 < y) : zR (x.tdiv y) ∧ (0 ≤ x → x.tmod y = x % y) ∧ (x < 0 → (x.tmod y = 0 → x % y = 0) ∧ (x.tmod y ≠ 0 → x.tmod y + y = x % y)) ∧ -y < x.tmod y ∧ x.tmod y < y := by
  have hb := zmod_bd x y hy
  have e := Int.tmod_eq_emod (a := x) (b := y)
  refine ⟨?_, fun h => Int.tmod_eq_emod_of_nonneg h, fun h => ?_, ?_, ?_⟩
  · by_cases h0 : 0 ≤ x
    · exact (ztdiv_nn ⟨h0, hx.2⟩ hy).2.1
    · have e1 : x.tdiv y = -((-x) / y) := by
        rw [← Int.tdiv_eq_ediv_of_nonneg (show 0 ≤ -x by omega), Int.neg_tdiv]; omega
      rw [e1]
      have a : 0 ≤ (-x) / y := Int.ediv_nonneg (by omega) (by omega)
      have b : (-x) / y ≤ -x := Int.ediv_le_self _ (by omega)
      have := hx.1
      exact ⟨by omega, by omega⟩
  · by_cases hd : y ∣ x
    · have : x % y = 0 := Int.emod_eq_zero_of_dvd hd
      rw [if_pos (Or.inr hd)] at e
      exact ⟨fun _ => this, fun h1 => by omega⟩
    · rw [if_neg (by omega)] at e
      have : x % y ≠ 0 := fun h1 => hd (Int.dvd_of_emod_eq_zero h1)
      have hn : (y.natAbs : Int) = y := by omega
      exact ⟨fun h1 => by omega, fun h1 => by omega⟩
  · split at e <;> omega
  · split at e <;> omega
set_option maxHeartbeats 4000000 in
set_option maxRecDepth 100000 in
theorem m_Jmax {n0 n k : Nat} {g : Nat → zV} {h : zHp} {Q : Option zV → Nat → Nat → zHp → Prop} {x y : Int}  (hQ : Q (some (.inl (max x y))) n k h) : ZT n0 g mJmax 0 (zloc mJmax [.inl x, .inl y]) [] n k h Q := by
  show ZT n0 g mJmax 0 [some (.inl x), some (.inl y)] [] n k h Q
  refine T_iload_n dJmax_0 rfl ?_
  refine T_iload_n dJmax_1 rfl ?_
  refine T_icmp_lt dJmax_2 (t := 9) rfl (fun c2 => ?_) (fun c2 => ?_)
  · refine T_iload_n dJmax_9 rfl ?_
    refine T_iret dJmax_10 rfl ?_
    rw [Int.max_def] at hQ
    rw [if_pos (by omega)] at hQ
    exact hQ
  · refine T_iload_n dJmax_5 rfl ?_
    refine T_goto dJmax_6 (t := 10) rfl ?_
    refine T_iret dJmax_10 rfl ?_
    rw [Int.max_def] at hQ
    by_cases e : x ≤ y
    · rw [if_pos e] at hQ
      rw [show x = y by omega]; exact hQ
    · rw [if_neg e] at hQ; exact hQ
set_option maxHeartbeats 4000000 in
set_option maxRecDepth 100000 in
theorem m_J7_fill_53178_5 {n0 n k : Nat} {g : Nat → zV} {h : zHp} {Q : Option zV → Nat → Nat → zHp → Prop} {a N : Nat} {f : Nat → Int} {v : Int} (hA : h a = some (.inr (.inl (0, N, f)))) (hN : N ≤ 2000000) (hw : n0 ≤ a) (hQ : ∀ (f' : Nat → Int) (h' : zHp), (∀ j, j < N → f' j = v) → h' a = some (.inr (.inl (0, N, f'))) → (∀ q : Nat, q ≠ a → h' q = h q) → Q none n k h') : ∀ (d : Nat) (j : Nat) (u : Nat → Int), N - j = d → ∀ h1 : zHp, h1 a = some (.inr (.inl (0, N, u))) → (∀ q : Nat, q ≠ a → h1 q = h q) → (j ≤ N) → (∀ i, i < j → u i = v) → ZT n0 g mJ7_fill_53178 5 [some (.inr (some a)), some (.inl v), some (.inl (j : Int)), some (.inl (N : Int))] [] n k h1 Q := by
  intro d
  induction d using Nat.strongRecOn with | _ d ih => ?_
  intro j u hd0 h1 h1 hfr hj hu
  subst hd0
  refine T_iload_n dJ7_fill_53178_5 rfl ?_
  refine T_iload_n dJ7_fill_53178_6 rfl ?_
  refine T_icmp_ge dJ7_fill_53178_7 (t := 20) rfl (fun c7 => ?_) (fun c7 => ?_)
  · refine T_vret dJ7_fill_53178_20 rfl ?_
    exact hQ _ _ (fun i hi => hu i (by omega)) h1 (fun q q0 => ((hfr _ q0).trans rfl))
  · refine T_aload_n dJ7_fill_53178_10 rfl ?_
    refine T_iload_n dJ7_fill_53178_11 rfl ?_
    refine T_iload_n dJ7_fill_53178_12 rfl ?_
    refine T_iastoreN (m := j) dJ7_fill_53178_13 h1 rfl (by omega) (by omega) ?_
    refine T_iinc dJ7_fill_53178_14 rfl ⟨by omega, by omega⟩ ?_
    refine T_goto dJ7_fill_53178_17 (t := 5) rfl ?_
    exact ih _ (by omega) (j + 1) _ rfl _ zup_self (fun q q0 => ((zup_nf q0).trans ((hfr _ q0).trans rfl))) (by omega) (zfu_below (s := fun _ => v) hu rfl) 
set_option maxHeartbeats 4000000 in
set_option maxRecDepth 100000 in
theorem m_J7_fill_53178 {n0 n k : Nat} {g : Nat → zV} {h : zHp} {Q : Option zV → Nat → Nat → zHp → Prop} {a N : Nat} {f : Nat → Int} {v : Int} (hA : h a = some (.inr (.inl (0, N, f)))) (hN : N ≤ 2000000) (hw : n0 ≤ a) (hQ : ∀ (f' : Nat → Int) (h' : zHp), (∀ j, j < N → f' j = v) → h' a = some (.inr (.inl (0, N, f'))) → (∀ q : Nat, q ≠ a → h' q = h q) → Q none n k h') : ZT n0 g mJ7_fill_53178 0 (zloc mJ7_fill_53178 [.inr (some a), .inl v]) [] n k h Q := by
  show ZT n0 g mJ7_fill_53178 0 [some (.inr (some a)), some (.inl v), none, none] [] n k h Q
  refine T_iconst dJ7_fill_53178_0 (by decide) ?_
  refine T_istore_n dJ7_fill_53178_1 (Nat.le_of_ble_eq_true rfl) ?_
  refine T_aload_n dJ7_fill_53178_2 rfl ?_
  refine T_arraylength dJ7_fill_53178_3 hA ?_
  refine T_istore_n dJ7_fill_53178_4 (Nat.le_of_ble_eq_true rfl) ?_
  exact m_J7_fill_53178_5 hA hN hw hQ _ 0 _ rfl _ hA (fun q q0 => rfl) (by omega) (fun i hi => absurd hi (Nat.not_lt_zero i)) 
