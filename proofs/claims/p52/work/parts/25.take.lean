/-! ===== BasisPolynomial.take: printed by wip/whole/gen/s_take.py ===== -/
set_option maxHeartbeats 4000000 in
set_option maxRecDepth 100000 in
theorem m_X0_take_18 {n0 n k : Nat} {g : Nat → zV} {h : zHp} {Q : Option zV → Nat → Nat → zHp → Prop} {a b e s z m : Nat} {p c0 t0 : Int} {mo fa em cb : Nat → Int} {mon : Nat → Nat} (hA0 : h a = some (.inl (1, [.inl c0, .inl t0, .inr (some (a + 1)), .inr (some (a + 2))]))) (hA1 : h (a + 1) = some (.inr (.inl (0, 9, mo)))) (hA2 : h (a + 2) = some (.inr (.inl (0, 9, fa)))) (hE : h e = some (.inl (2, [.inr (some b), .inr (some (e + 1)), .inr (some (e + 10)), .inr (some (e + 19)), .inl (z : Int), .inr (some (e + 20)), .inr (some (e + 21)), .inr (some (e + 22))]))) (hP0 : h b = some (.inl (6, [.inl p, .inl (s : Int), .inr (some (b + 1)), .inr (some (b + 2))]))) (hMo : h (e + 20) = some (.inr (.inl (0, 8, em)))) (hCo : h (e + 22) = some (.inr (.inl (0, 8, cb)))) (hp : 1 < p ∧ p < 32) (hz : z ≤ 8) (hm : m < 81) (hw : n0 ≤ a) (hd : (a + 3 ≤ e ∨ e + 23 ≤ a) ∧ (a + 3 ≤ b ∨ b + 3 ≤ a)) (hem : ∀ r, r < z → em r = (mon r : Int) ∧ mon r < 81 ∧ mon r ≠ m) (hdi : ∀ q r, q < r → r < z → mon q ≠ mon r) (hcb : ∀ r, r < z → 0 ≤ cb r ∧ cb r < p) (hQ : ∀ (t' : Nat) (mo' fa' : Nat → Int) (h' : zHp), (t' ≤ z + 1) → (zRep t' mo' fa' (zcel p m cb mon z)) → h' a = some (.inl (1, [.inl (m : Int), .inl (t' : Int), .inr (some (a + 1)), .inr (some (a + 2))])) → h' (a + 1) = some (.inr (.inl (0, 9, mo'))) → h' (a + 2) = some (.inr (.inl (0, 9, fa'))) → (∀ q : Nat, q ≠ a → q ≠ (a + 1) → q ≠ (a + 2) → h' q = h q) → Q none n k h') : ∀ (d : Nat) (j : Nat) (t : Nat) (u1 : Nat → Int) (u2 : Nat → Int) (L4 : Option zV), z - j = d → ∀ h1 : zHp, h1 a = some (.inl (1, [.inl (m : Int), .inl (t : Int), .inr (some (a + 1)), .inr (some (a + 2))])) → h1 (a + 1) = some (.inr (.inl (0, 9, u1))) → h1 (a + 2) = some (.inr (.inl (0, 9, u2))) → (∀ q : Nat, q ≠ a → q ≠ (a + 1) → q ≠ (a + 2) → h1 q = h q) → (j ≤ z) → (t ≤ j + 1) → (zRep t u1 u2 (zcel p m cb mon j)) → ZT n0 g mX0_take 18 [some (.inr (some a)), some (.inl (m : Int)), some (.inr (some e)), some (.inl (j : Int)), L4] [] n k h1 Q := by
  intro d
  induction d using Nat.strongRecOn with | _ d ih => ?_
  intro j t u1 u2 L4 hd0 h1 g0 g1 g2 hfr hj ht hrep
  subst hd0
  refine T_iload_n dX0_take_18 rfl ?_
  refine T_aload_n dX0_take_19 rfl ?_
  refine T_getfield dX0_take_20 zkf_1_29 ((hfr _ (by omega) (by omega) (by omega)).trans hE) rfl ?_
  refine T_icmp_ge dX0_take_23 (t := 65) rfl (fun c23 => ?_) (fun c23 => ?_)
  · refine T_vret dX0_take_65 rfl ?_
    exact hQ t _ _ _ (by omega) (by rw [show z = j by omega]; exact hrep) g0 g1 g2 (fun q q0 q1 q2 => ((hfr _ q0 q1 q2).trans rfl))
  · refine T_aload_n dX0_take_26 rfl ?_
    refine T_getfield dX0_take_27 zkf_1_32 ((hfr _ (by omega) (by omega) (by omega)).trans hE) rfl ?_
    refine T_iload_n dX0_take_30 rfl ?_
    refine T_ialoadN (m := j) dX0_take_31 ((hfr _ (by omega) (by omega) (by omega)).trans hCo) rfl (by omega) ?_
    refine T_istore dX0_take_32 (Nat.le_of_ble_eq_true rfl) ?_
    have cbj := hcb j (by omega)
    have moff : zcel p m cb mon j (mon j) = 0 := by rw [zcel_at (fun t ht => hdi t j ht (by omega)), if_neg (hem j (by omega)).2.2]
    refine T_iload dX0_take_34 rfl ?_
    refine T_if_eq dX0_take_36 (t := 59) rfl (fun c36 => ?_) (fun c36 => ?_)
    · refine T_iinc dX0_take_59 rfl ⟨by omega, by omega⟩ ?_
      refine T_goto dX0_take_62 (t := 18) rfl ?_
      exact ih _ (by omega) (j + 1) t _ _ _ rfl _ g0 g1 g2 (fun q q0 q1 q2 => ((hfr _ q0 q1 q2).trans rfl)) (by omega) (by omega) (by rw [zcel_skip c36 (hem j (by omega)).2.2 (fun t ht => hdi t j ht (by omega))]; exact hrep) 
    · refine T_aload_n dX0_take_39 rfl ?_
      refine T_aload_n dX0_take_40 rfl ?_
      refine T_getfield dX0_take_41 zkf_1_35 ((hfr _ (by omega) (by omega) (by omega)).trans hE) rfl ?_
      refine T_iload_n dX0_take_44 rfl ?_
      refine T_ialoadN (m := j) dX0_take_45 ((hfr _ (by omega) (by omega) (by omega)).trans hMo) rfl (by omega) ?_
      rw [(hem j (by omega)).1]
      refine T_aload_n dX0_take_46 rfl ?_
      refine T_getfield dX0_take_47 zkf_1_36 ((hfr _ (by omega) (by omega) (by omega)).trans hE) rfl ?_
      refine T_getfield dX0_take_50 zkf_1_40 ((hfr _ (by omega) (by omega) (by omega)).trans hP0) rfl ?_
      refine T_iload dX0_take_53 rfl ?_
      refine T_isub dX0_take_55 ⟨by omega, by omega⟩ ?_
      refine T_callV dX0_take_56 zkm_1_25 (Or.inl rfl) rfl g0 ⟨Nat.le_of_ble_eq_true rfl, rfl⟩ rfl (Nat.le_of_ble_eq_true rfl) ?_
      refine m_X0_insertTerm (m := (mon j)) g0 g1 g2 (by omega) (by omega) (fun q56 mo'56 fa'56 hh56 k56a k56b k56c k56d k56e f56a f56b f56c fr56 => ?_)
      refine T_iinc dX0_take_59 rfl ⟨by omega, by omega⟩ ?_
      refine T_goto dX0_take_62 (t := 18) rfl ?_
      exact ih _ (by omega) (j + 1) (t + 1) _ _ _ rfl _ f56a f56b f56c (fun q q0 q1 q2 => ((fr56 _ q0 q1 q2).trans ((hfr _ q0 q1 q2).trans rfl))) (by omega) (by omega) (by
            have e9 : zcel p m cb mon (j + 1) = zfu (zcel p m cb mon j) (mon j) (p - cb j) := by rw [zcel, zneg_mod (by omega) cbj.2]
            rw [e9]
            exact hrep.put (hem j (by omega)).2.1 (by omega) moff k56a k56b k56c k56d k56e) 
set_option maxHeartbeats 4000000 in
set_option maxRecDepth 100000 in
theorem m_X0_take {n0 n k : Nat} {g : Nat → zV} {h : zHp} {Q : Option zV → Nat → Nat → zHp → Prop} {a b e s z m : Nat} {p c0 t0 : Int} {mo fa em cb : Nat → Int} {mon : Nat → Nat} (hA0 : h a = some (.inl (1, [.inl c0, .inl t0, .inr (some (a + 1)), .inr (some (a + 2))]))) (hA1 : h (a + 1) = some (.inr (.inl (0, 9, mo)))) (hA2 : h (a + 2) = some (.inr (.inl (0, 9, fa)))) (hE : h e = some (.inl (2, [.inr (some b), .inr (some (e + 1)), .inr (some (e + 10)), .inr (some (e + 19)), .inl (z : Int), .inr (some (e + 20)), .inr (some (e + 21)), .inr (some (e + 22))]))) (hP0 : h b = some (.inl (6, [.inl p, .inl (s : Int), .inr (some (b + 1)), .inr (some (b + 2))]))) (hMo : h (e + 20) = some (.inr (.inl (0, 8, em)))) (hCo : h (e + 22) = some (.inr (.inl (0, 8, cb)))) (hp : 1 < p ∧ p < 32) (hz : z ≤ 8) (hm : m < 81) (hw : n0 ≤ a) (hd : (a + 3 ≤ e ∨ e + 23 ≤ a) ∧ (a + 3 ≤ b ∨ b + 3 ≤ a)) (hem : ∀ r, r < z → em r = (mon r : Int) ∧ mon r < 81 ∧ mon r ≠ m) (hdi : ∀ q r, q < r → r < z → mon q ≠ mon r) (hcb : ∀ r, r < z → 0 ≤ cb r ∧ cb r < p) (hQ : ∀ (t' : Nat) (mo' fa' : Nat → Int) (h' : zHp), (t' ≤ z + 1) → (zRep t' mo' fa' (zcel p m cb mon z)) → h' a = some (.inl (1, [.inl (m : Int), .inl (t' : Int), .inr (some (a + 1)), .inr (some (a + 2))])) → h' (a + 1) = some (.inr (.inl (0, 9, mo'))) → h' (a + 2) = some (.inr (.inl (0, 9, fa'))) → (∀ q : Nat, q ≠ a → q ≠ (a + 1) → q ≠ (a + 2) → h' q = h q) → Q none n k h') : ZT n0 g mX0_take 0 (zloc mX0_take [.inr (some a), .inl (m : Int), .inr (some e)]) [] n k h Q := by
  show ZT n0 g mX0_take 0 [some (.inr (some a)), some (.inl (m : Int)), some (.inr (some e)), none, none] [] n k h Q
  refine T_aload_n dX0_take_0 rfl ?_
  refine T_iload_n dX0_take_1 rfl ?_
  refine T_putfield dX0_take_2 zkf_1_9 hA0 (Nat.le_of_ble_eq_true rfl) (by omega) rfl (fun hf => absurd hf (by decide)) rfl ?_
  refine T_aload_n dX0_take_5 rfl ?_
  refine T_iconst dX0_take_6 (by decide) ?_
  refine T_putfield dX0_take_7 zkf_1_15 zup_self (Nat.le_of_ble_eq_true rfl) (by omega) rfl (fun hf => absurd hf (by decide)) rfl ?_
  refine T_aload_n dX0_take_10 rfl ?_
  refine T_iload_n dX0_take_11 rfl ?_
  refine T_iconst dX0_take_12 (by decide) ?_
  refine T_callV dX0_take_13 zkm_1_25 (Or.inl rfl) rfl zup_self ⟨Nat.le_of_ble_eq_true rfl, rfl⟩ rfl (Nat.le_of_ble_eq_true rfl) ?_
  refine m_X0_insertTerm (t := 0) zup_self (zup_ne (by omega) (zup_ne (by omega) hA1)) (zup_ne (by omega) (zup_ne (by omega) hA2)) (by decide) (by omega) (fun q13 mo'13 fa'13 hh13 k13a k13b k13c k13d k13e f13a f13b f13c fr13 => ?_)
  refine T_iconst dX0_take_16 (by decide) ?_
  refine T_istore_n dX0_take_17 (Nat.le_of_ble_eq_true rfl) ?_
  exact m_X0_take_18 hA0 hA1 hA2 hE hP0 hMo hCo hp hz hm hw hd hem hdi hcb hQ _ 0 1 mo'13 fa'13 _ rfl _ f13a f13b f13c (fun q q0 q1 q2 => ((fr13 _ q0 q1 q2).trans ((zup_nf q0).trans ((zup_nf q0).trans rfl)))) (by omega) (by omega) ((zRep.nil (c := fun _ => 0) (mo := mo) (fa := fa) (fun _ => rfl)).put hm (by decide) rfl k13a k13b k13c k13d k13e) 
