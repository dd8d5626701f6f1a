/-! ===== ReducedBasis (writes): printed by wip/whole/gen/s_comp.py ===== -/
set_option maxHeartbeats 4000000 in
set_option maxRecDepth 100000 in
theorem m_X7_insertCorner_33 {n0 n k : Nat} {g : Nat → zV} {h : zHp} {Q : Option zV → Nat → Nat → zHp → Prop} {b c : Nat} {wt wb : Int} {rf : Nat → Option Nat} {pi cm t : Nat → Nat} {e pb s z m : Nat} {p x0 x1 : Int} {mo0 fa0 em cb : Nat → Int} {mon : Nat → Nat} (h0 : h b = some (.inl (8, [.inr (some (b + 1)), .inl (c : Int), .inr (some (b + 2)), .inl wt, .inl wb]))) (h2 : h (b + 2) = some (.inr (.inr (1, 4, rf)))) (hA0 : h (b + 3 * pi c + 3) = some (.inl (1, [.inl x0, .inl x1, .inr (some (b + 3 * pi c + 4)), .inr (some (b + 3 * pi c + 5))]))) (hA1 : h (b + 3 * pi c + 4) = some (.inr (.inl (0, 9, mo0)))) (hA2 : h (b + 3 * pi c + 5) = some (.inr (.inl (0, 9, fa0)))) (hE : h e = some (.inl (2, [.inr (some pb), .inr (some (e + 1)), .inr (some (e + 10)), .inr (some (e + 19)), .inl (z : Int), .inr (some (e + 20)), .inr (some (e + 21)), .inr (some (e + 22))]))) (hP0 : h pb = some (.inl (6, [.inl p, .inl (s : Int), .inr (some (pb + 1)), .inr (some (pb + 2))]))) (hMo : h (e + 20) = some (.inr (.inl (0, 8, em)))) (hCo : h (e + 22) = some (.inr (.inl (0, 8, cb)))) (hc : c < 4) (hrf : ∀ i, i < 4 → rf i = some (b + 3 * pi i + 3)) (hpo : ∀ a, a < c → h (b + 3 * pi a + 3) = some (.inl (1, [.inl (cm a : Int), .inl (t a : Int), .inr (some (b + 3 * pi a + 4)), .inr (some (b + 3 * pi a + 5))]))) (hcm : ∀ a, a < c → cm a < 81) (hpi : (∀ i, i < 4 → pi i < 4) ∧ ∀ i j, i < j → j < 4 → pi i ≠ pi j) (hd : (b + 15 ≤ e ∨ e + 23 ≤ b) ∧ (b + 15 ≤ pb ∨ pb + 3 ≤ b)) (hp : 1 < p ∧ p < 32) (hz : z ≤ 8) (hm : m < 81) (hem : ∀ r, r < z → em r = (mon r : Int) ∧ mon r < 81 ∧ mon r ≠ m) (hdi : ∀ q r, q < r → r < z → mon q ≠ mon r) (hcb : ∀ r, r < z → 0 ≤ cb r ∧ cb r < p) (hw : n0 ≤ b) (hne : ∀ a, a < c → cm a ≠ m) (hso : ∀ a d, a < d → d < c → cm a < cm d) (hQ : ∀ (q t' : Nat) (rf' : Nat → Option Nat) (mo' fa' : Nat → Int) (h' : zHp), (q ≤ c) → (∀ a, a < q → cm a < m) → (∀ a, q ≤ a → a < c → m < cm a) → (∀ j, j < 4 → rf' j = (if j < q then rf j else if j = q then rf c else if j ≤ c then rf (j - 1) else rf j)) → (t' ≤ z + 1) → (zRep t' mo' fa' (zcel p m cb mon z)) → h' b = some (.inl (8, [.inr (some (b + 1)), .inl ((c : Int) + 1), .inr (some (b + 2)), .inl wt, .inl wb])) → h' (b + 2) = some (.inr (.inr (1, 4, rf'))) → h' (b + 3 * pi c + 3) = some (.inl (1, [.inl (m : Int), .inl (t' : Int), .inr (some (b + 3 * pi c + 4)), .inr (some (b + 3 * pi c + 5))])) → h' (b + 3 * pi c + 4) = some (.inr (.inl (0, 9, mo'))) → h' (b + 3 * pi c + 5) = some (.inr (.inl (0, 9, fa'))) → (∀ q : Nat, q ≠ b → q ≠ (b + 2) → q ≠ (b + 3 * pi c + 3) → q ≠ (b + 3 * pi c + 4) → q ≠ (b + 3 * pi c + 5) → h' q = h q) → Q none n k h') : ∀ (d : Nat) (q : Nat) (rg : Nat → Option Nat), q = d → ∀ h1 : zHp, h1 (b + 2) = some (.inr (.inr (1, 4, rg))) → (∀ q : Nat, q ≠ (b + 2) → h1 q = h q) → (q ≤ c) → (∀ a, q ≤ a → a < c → m < cm a) → (∀ j, j < 4 → ((j < q ∨ c < j) → rg j = rf j) ∧ (q < j → j ≤ c → rg j = rf (j - 1))) → ZT n0 g mX7_insertCorner 33 [some (.inr (some b)), some (.inl (m : Int)), some (.inr (some e)), some (.inr (some (b + 3 * pi c + 3))), some (.inl (q : Int)), some (.inl ((q : Int) - 1))] [] n k h1 Q := by
  intro d
  induction d using Nat.strongRecOn with | _ d ih => ?_
  intro q rg hd0 h1 g2 hfr hq hlt hrg
  subst hd0
  have hpc := hpi.1 c hc
  refine T_iload dX7_insertCorner_33 rfl ?_
  refine T_if_lt dX7_insertCorner_35 (t := 78) rfl (fun c35 => ?_) (fun c35 => ?_)
  · refine T_aload_n dX7_insertCorner_78 rfl ?_
    refine T_getfield dX7_insertCorner_79 zkf_8_21 ((hfr _ (by omega)).trans h0) rfl ?_
    refine T_iload dX7_insertCorner_82 rfl ?_
    refine T_aload_n dX7_insertCorner_84 rfl ?_
    refine T_aastoreN (m := q) dX7_insertCorner_85 g2 ((hfr _ (by omega)).trans hA0) (Nat.le_of_ble_eq_true rfl) rfl (by omega) (by omega) ?_
    refine T_aload_n dX7_insertCorner_86 rfl ?_
    refine T_iload_n dX7_insertCorner_87 rfl ?_
    refine T_aload_n dX7_insertCorner_88 rfl ?_
    refine T_callV dX7_insertCorner_89 zkm_8_74 (Or.inl rfl) rfl (zup_ne (by omega) ((hfr _ (by omega)).trans hA0)) ⟨Nat.le_of_ble_eq_true rfl, rfl⟩ rfl (Nat.le_of_ble_eq_true rfl) ?_
    refine m_X0_take (zup_ne (by omega) ((hfr _ (by omega)).trans hA0)) (zup_ne (by omega) ((hfr _ (by omega)).trans hA1)) (zup_ne (by omega) ((hfr _ (by omega)).trans hA2)) (zup_ne (by omega) ((hfr _ (by omega)).trans hE)) (zup_ne (by omega) ((hfr _ (by omega)).trans hP0)) (zup_ne (by omega) ((hfr _ (by omega)).trans hMo)) (zup_ne (by omega) ((hfr _ (by omega)).trans hCo)) (by omega) (by omega) (by omega) (by omega) ⟨by omega, by omega⟩ hem hdi hcb (fun t'89 mo'89 fa'89 hh89 k89a k89b f89a f89b f89c fr89 => ?_)
    refine T_aload_n dX7_insertCorner_92 rfl ?_
    refine T_dup dX7_insertCorner_93 ?_
    refine T_getfield dX7_insertCorner_94 zkf_8_15 ((fr89 _ (by omega) (by omega) (by omega)).trans (zup_ne (by omega) ((hfr _ (by omega)).trans h0))) rfl ?_
    refine T_iconst dX7_insertCorner_97 (by decide) ?_
    refine T_iadd dX7_insertCorner_98 ⟨by omega, by omega⟩ ?_
    refine T_putfield dX7_insertCorner_99 zkf_8_15 ((fr89 _ (by omega) (by omega) (by omega)).trans (zup_ne (by omega) ((hfr _ (by omega)).trans h0))) (Nat.le_of_ble_eq_true rfl) (by omega) rfl (fun hf => absurd hf (by decide)) rfl ?_
    refine T_vret dX7_insertCorner_102 rfl ?_
    exact hQ q _ _ _ _ _ hq (fun a ha => by omega) hlt (fun j hj => by
          by_cases e : j = q
          · rw [e, zfu_self, if_neg (by omega), if_pos rfl, hrf c hc]
          · rw [zfu_ne e]
            by_cases e2 : j < q
            · rw [if_pos e2]; exact (hrg j hj).1 (Or.inl e2)
            · rw [if_neg e2, if_neg e]
              by_cases e3 : j ≤ c
              · rw [if_pos e3]; exact (hrg j hj).2 (by omega) e3
              · rw [if_neg e3]; exact (hrg j hj).1 (by omega)) k89a k89b zup_self (zup_ne (by omega) ((fr89 _ (by omega) (by omega) (by omega)).trans zup_self)) (zup_ne (by omega) f89a) (zup_ne (by omega) f89b) (zup_ne (by omega) f89c) (fun q q0 q1 q2 q3 q4 => ((zup_nf q0).trans ((fr89 _ q2 q3 q4).trans ((zup_nf q1).trans ((hfr _ q1).trans rfl)))))
  · obtain ⟨r, hr⟩ : ∃ r, q = r + 1 := ⟨q - 1, by omega⟩
    have hpr := hpi.1 r (by omega)
    refine T_aload_n dX7_insertCorner_38 rfl ?_
    refine T_getfield dX7_insertCorner_39 zkf_8_21 ((hfr _ (by omega)).trans h0) rfl ?_
    refine T_iload dX7_insertCorner_42 rfl ?_
    refine T_aaloadN (m := r) (r := some (b + 3 * pi r + 3)) dX7_insertCorner_44 g2 (by omega) (by omega) (((hrg r (by omega)).1 (by omega)).trans (hrf r (by omega))) ?_
    refine T_getfield dX7_insertCorner_45 zkf_8_71 ((hfr _ (by omega)).trans (hpo r (by omega))) rfl ?_
    refine T_iload_n dX7_insertCorner_48 rfl ?_
    refine T_icmp_le dX7_insertCorner_49 (t := 78) rfl (fun c49 => ?_) (fun c49 => ?_)
    · refine T_aload_n dX7_insertCorner_78 rfl ?_
      refine T_getfield dX7_insertCorner_79 zkf_8_21 ((hfr _ (by omega)).trans h0) rfl ?_
      refine T_iload dX7_insertCorner_82 rfl ?_
      refine T_aload_n dX7_insertCorner_84 rfl ?_
      refine T_aastoreN (m := q) dX7_insertCorner_85 g2 ((hfr _ (by omega)).trans hA0) (Nat.le_of_ble_eq_true rfl) rfl (by omega) (by omega) ?_
      refine T_aload_n dX7_insertCorner_86 rfl ?_
      refine T_iload_n dX7_insertCorner_87 rfl ?_
      refine T_aload_n dX7_insertCorner_88 rfl ?_
      refine T_callV dX7_insertCorner_89 zkm_8_74 (Or.inl rfl) rfl (zup_ne (by omega) ((hfr _ (by omega)).trans hA0)) ⟨Nat.le_of_ble_eq_true rfl, rfl⟩ rfl (Nat.le_of_ble_eq_true rfl) ?_
      refine m_X0_take (zup_ne (by omega) ((hfr _ (by omega)).trans hA0)) (zup_ne (by omega) ((hfr _ (by omega)).trans hA1)) (zup_ne (by omega) ((hfr _ (by omega)).trans hA2)) (zup_ne (by omega) ((hfr _ (by omega)).trans hE)) (zup_ne (by omega) ((hfr _ (by omega)).trans hP0)) (zup_ne (by omega) ((hfr _ (by omega)).trans hMo)) (zup_ne (by omega) ((hfr _ (by omega)).trans hCo)) (by omega) (by omega) (by omega) (by omega) ⟨by omega, by omega⟩ hem hdi hcb (fun t'89 mo'89 fa'89 hh89 k89a k89b f89a f89b f89c fr89 => ?_)
      refine T_aload_n dX7_insertCorner_92 rfl ?_
      refine T_dup dX7_insertCorner_93 ?_
      refine T_getfield dX7_insertCorner_94 zkf_8_15 ((fr89 _ (by omega) (by omega) (by omega)).trans (zup_ne (by omega) ((hfr _ (by omega)).trans h0))) rfl ?_
      refine T_iconst dX7_insertCorner_97 (by decide) ?_
      refine T_iadd dX7_insertCorner_98 ⟨by omega, by omega⟩ ?_
      refine T_putfield dX7_insertCorner_99 zkf_8_15 ((fr89 _ (by omega) (by omega) (by omega)).trans (zup_ne (by omega) ((hfr _ (by omega)).trans h0))) (Nat.le_of_ble_eq_true rfl) (by omega) rfl (fun hf => absurd hf (by decide)) rfl ?_
      refine T_vret dX7_insertCorner_102 rfl ?_
      exact hQ q _ _ _ _ _ hq (fun a ha => by
            have h1 := hne r (by omega)
            by_cases e : a = r
            · subst e; omega
            · have := hso a r (by omega) (by omega); omega) hlt (fun j hj => by
            by_cases e : j = q
            · rw [e, zfu_self, if_neg (by omega), if_pos rfl, hrf c hc]
            · rw [zfu_ne e]
              by_cases e2 : j < q
              · rw [if_pos e2]; exact (hrg j hj).1 (Or.inl e2)
              · rw [if_neg e2, if_neg e]
                by_cases e3 : j ≤ c
                · rw [if_pos e3]; exact (hrg j hj).2 (by omega) e3
                · rw [if_neg e3]; exact (hrg j hj).1 (by omega)) k89a k89b zup_self (zup_ne (by omega) ((fr89 _ (by omega) (by omega) (by omega)).trans zup_self)) (zup_ne (by omega) f89a) (zup_ne (by omega) f89b) (zup_ne (by omega) f89c) (fun q q0 q1 q2 q3 q4 => ((zup_nf q0).trans ((fr89 _ q2 q3 q4).trans ((zup_nf q1).trans ((hfr _ q1).trans rfl)))))
    · refine T_aload_n dX7_insertCorner_52 rfl ?_
      refine T_getfield dX7_insertCorner_53 zkf_8_21 ((hfr _ (by omega)).trans h0) rfl ?_
      refine T_iload dX7_insertCorner_56 rfl ?_
      refine T_iconst dX7_insertCorner_58 (by decide) ?_
      refine T_iadd dX7_insertCorner_59 ⟨by omega, by omega⟩ ?_
      refine T_aload_n dX7_insertCorner_60 rfl ?_
      refine T_getfield dX7_insertCorner_61 zkf_8_21 ((hfr _ (by omega)).trans h0) rfl ?_
      refine T_iload dX7_insertCorner_64 rfl ?_
      refine T_aaloadN (m := r) (r := some (b + 3 * pi r + 3)) dX7_insertCorner_66 g2 (by omega) (by omega) (((hrg r (by omega)).1 (by omega)).trans (hrf r (by omega))) ?_
      refine T_aastoreN (m := q) dX7_insertCorner_67 g2 ((hfr _ (by omega)).trans (hpo r (by omega))) (Nat.le_of_ble_eq_true rfl) (by omega) (by omega) (by omega) ?_
      refine T_iload dX7_insertCorner_68 rfl ?_
      refine T_istore dX7_insertCorner_70 (Nat.le_of_ble_eq_true rfl) ?_
      refine T_iinc dX7_insertCorner_72 rfl ⟨by omega, by omega⟩ ?_
      refine T_goto dX7_insertCorner_75 (t := 33) rfl ?_
      rw [show (q : Int) - 1 + -1 = (r : Int) - 1 by omega, show (q : Int) - 1 = (r : Int) by omega]
      exact ih _ (by omega) r _ rfl _ zup_self (fun q q0 => ((zup_nf q0).trans ((hfr _ q0).trans rfl))) (by omega) (fun a h1 h2 => by
            by_cases e : a = r
            · subst e; omega
            · exact hlt a (by omega) h2) (fun j hj => ⟨fun h1 => by rw [zfu_ne (by omega)]; exact (hrg j hj).1 (by omega), fun h1 h2 => by
            by_cases e : j = q
            · rw [e, zfu_self, show q - 1 = r by omega, hrf r (by omega)]
            · rw [zfu_ne e]; exact (hrg j hj).2 (by omega) h2⟩) 
set_option maxHeartbeats 4000000 in
set_option maxRecDepth 100000 in
theorem m_X7_insertCorner {n0 n k : Nat} {g : Nat → zV} {h : zHp} {Q : Option zV → Nat → Nat → zHp → Prop} {b c : Nat} {wt wb : Int} {rf : Nat → Option Nat} {pi cm t : Nat → Nat} {e pb s z m : Nat} {p x0 x1 : Int} {mo0 fa0 em cb : Nat → Int} {mon : Nat → Nat} (h0 : h b = some (.inl (8, [.inr (some (b + 1)), .inl (c : Int), .inr (some (b + 2)), .inl wt, .inl wb]))) (h2 : h (b + 2) = some (.inr (.inr (1, 4, rf)))) (hA0 : h (b + 3 * pi c + 3) = some (.inl (1, [.inl x0, .inl x1, .inr (some (b + 3 * pi c + 4)), .inr (some (b + 3 * pi c + 5))]))) (hA1 : h (b + 3 * pi c + 4) = some (.inr (.inl (0, 9, mo0)))) (hA2 : h (b + 3 * pi c + 5) = some (.inr (.inl (0, 9, fa0)))) (hE : h e = some (.inl (2, [.inr (some pb), .inr (some (e + 1)), .inr (some (e + 10)), .inr (some (e + 19)), .inl (z : Int), .inr (some (e + 20)), .inr (some (e + 21)), .inr (some (e + 22))]))) (hP0 : h pb = some (.inl (6, [.inl p, .inl (s : Int), .inr (some (pb + 1)), .inr (some (pb + 2))]))) (hMo : h (e + 20) = some (.inr (.inl (0, 8, em)))) (hCo : h (e + 22) = some (.inr (.inl (0, 8, cb)))) (hc : c < 4) (hrf : ∀ i, i < 4 → rf i = some (b + 3 * pi i + 3)) (hpo : ∀ a, a < c → h (b + 3 * pi a + 3) = some (.inl (1, [.inl (cm a : Int), .inl (t a : Int), .inr (some (b + 3 * pi a + 4)), .inr (some (b + 3 * pi a + 5))]))) (hcm : ∀ a, a < c → cm a < 81) (hpi : (∀ i, i < 4 → pi i < 4) ∧ ∀ i j, i < j → j < 4 → pi i ≠ pi j) (hd : (b + 15 ≤ e ∨ e + 23 ≤ b) ∧ (b + 15 ≤ pb ∨ pb + 3 ≤ b)) (hp : 1 < p ∧ p < 32) (hz : z ≤ 8) (hm : m < 81) (hem : ∀ r, r < z → em r = (mon r : Int) ∧ mon r < 81 ∧ mon r ≠ m) (hdi : ∀ q r, q < r → r < z → mon q ≠ mon r) (hcb : ∀ r, r < z → 0 ≤ cb r ∧ cb r < p) (hw : n0 ≤ b) (hne : ∀ a, a < c → cm a ≠ m) (hso : ∀ a d, a < d → d < c → cm a < cm d) (hQ : ∀ (q t' : Nat) (rf' : Nat → Option Nat) (mo' fa' : Nat → Int) (h' : zHp), (q ≤ c) → (∀ a, a < q → cm a < m) → (∀ a, q ≤ a → a < c → m < cm a) → (∀ j, j < 4 → rf' j = (if j < q then rf j else if j = q then rf c else if j ≤ c then rf (j - 1) else rf j)) → (t' ≤ z + 1) → (zRep t' mo' fa' (zcel p m cb mon z)) → h' b = some (.inl (8, [.inr (some (b + 1)), .inl ((c : Int) + 1), .inr (some (b + 2)), .inl wt, .inl wb])) → h' (b + 2) = some (.inr (.inr (1, 4, rf'))) → h' (b + 3 * pi c + 3) = some (.inl (1, [.inl (m : Int), .inl (t' : Int), .inr (some (b + 3 * pi c + 4)), .inr (some (b + 3 * pi c + 5))])) → h' (b + 3 * pi c + 4) = some (.inr (.inl (0, 9, mo'))) → h' (b + 3 * pi c + 5) = some (.inr (.inl (0, 9, fa'))) → (∀ q : Nat, q ≠ b → q ≠ (b + 2) → q ≠ (b + 3 * pi c + 3) → q ≠ (b + 3 * pi c + 4) → q ≠ (b + 3 * pi c + 5) → h' q = h q) → Q none n k h') : ZT n0 g mX7_insertCorner 0 (zloc mX7_insertCorner [.inr (some b), .inl (m : Int), .inr (some e)]) [] n k h Q := by
  show ZT n0 g mX7_insertCorner 0 [some (.inr (some b)), some (.inl (m : Int)), some (.inr (some e)), none, none, none] [] n k h Q
  have hpc := hpi.1 c hc
  refine T_aload_n dX7_insertCorner_0 rfl ?_
  refine T_getfield dX7_insertCorner_1 zkf_8_15 h0 rfl ?_
  refine T_iconst dX7_insertCorner_4 (by decide) ?_
  refine T_icmp_lt dX7_insertCorner_5 (t := 9) rfl (fun _ => ?_) (fun hc => absurd hc (by omega))
  refine T_aload_n dX7_insertCorner_9 rfl ?_
  refine T_getfield dX7_insertCorner_10 zkf_8_21 h0 rfl ?_
  refine T_aload_n dX7_insertCorner_13 rfl ?_
  refine T_getfield dX7_insertCorner_14 zkf_8_15 h0 rfl ?_
  refine T_aaloadN (m := c) (r := some (b + 3 * pi c + 3)) dX7_insertCorner_17 h2 rfl (by omega) (hrf c (by omega)) ?_
  refine T_astore_n dX7_insertCorner_18 (Nat.le_of_ble_eq_true rfl) ?_
  refine T_aload_n dX7_insertCorner_19 rfl ?_
  refine T_getfield dX7_insertCorner_20 zkf_8_15 h0 rfl ?_
  refine T_istore dX7_insertCorner_23 (Nat.le_of_ble_eq_true rfl) ?_
  refine T_aload_n dX7_insertCorner_25 rfl ?_
  refine T_getfield dX7_insertCorner_26 zkf_8_15 h0 rfl ?_
  refine T_iconst dX7_insertCorner_29 (by decide) ?_
  refine T_isub dX7_insertCorner_30 ⟨by omega, by omega⟩ ?_
  refine T_istore dX7_insertCorner_31 (Nat.le_of_ble_eq_true rfl) ?_
  exact m_X7_insertCorner_33 h0 h2 hA0 hA1 hA2 hE hP0 hMo hCo hc hrf hpo hcm hpi hd hp hz hm hem hdi hcb hw hne hso hQ _ c rf rfl _ h2 (fun q q0 => rfl) (by omega) (fun a h1 h2 => by omega) (fun j hj => ⟨fun _ => rfl, fun h1 h2 => by omega⟩) 
set_option maxHeartbeats 4000000 in
set_option maxRecDepth 100000 in
theorem m_X7_lowerWall_7 {n0 n k : Nat} {g : Nat → zV} {h : zHp} {Q : Option zV → Nat → Nat → zHp → Prop} {b c a m t : Nat} {wt wb : Int} {mo : Nat → Int} {P : Int → Int → Prop} (h0 : h b = some (.inl (8, [.inr (some (b + 1)), .inl (c : Int), .inr (some (b + 2)), .inl wt, .inl wb]))) (hA0 : h a = some (.inl (1, [.inl (m : Int), .inl (t : Int), .inr (some (a + 1)), .inr (some (a + 2))]))) (hA1 : h (a + 1) = some (.inr (.inl (0, 9, mo)))) (ht : t ≤ 9) (hm : m < 81) (hmo : ∀ i, i < t → 0 ≤ mo i ∧ mo i < 81 ∧ (mo i % 9 - (m : Int) % 9 > 0 → (m : Int) / 9 - mo i / 9 > 0)) (hP : ∀ x y, P x y → 0 < y) (hmin : zMin P wt wb) (hwb : 0 ≤ wb ∧ wb ≤ 8 ∧ 0 ≤ wt ∧ wt ≤ 8 ∧ (0 < wb → 0 < wt)) (hw : n0 ≤ b) (hd : a ≠ b ∧ a + 1 ≠ b) (hQ : ∀ (wt' wb' : Int) (h' : zHp), (zMin (fun x y => P x y ∨ zprT m mo t x y) wt' wb') → (0 ≤ wb' ∧ wb' ≤ 8 ∧ 0 ≤ wt' ∧ wt' ≤ 8 ∧ (0 < wb' → 0 < wt')) → h' b = some (.inl (8, [.inr (some (b + 1)), .inl (c : Int), .inr (some (b + 2)), .inl wt', .inl wb'])) → (∀ q : Nat, q ≠ b → h' q = h q) → Q none n k h') : ∀ (d : Nat) (j : Nat) (w1 : Int) (w2 : Int) (L4 : Option zV) (L5 : Option zV) (L6 : Option zV), t - j = d → ∀ h1 : zHp, h1 b = some (.inl (8, [.inr (some (b + 1)), .inl (c : Int), .inr (some (b + 2)), .inl w1, .inl w2])) → (∀ q : Nat, q ≠ b → h1 q = h q) → (j ≤ t) → (zMin (fun x y => P x y ∨ zprT m mo j x y) w1 w2) → (0 ≤ w2 ∧ w2 ≤ 8 ∧ 0 ≤ w1 ∧ w1 ≤ 8 ∧ (0 < w2 → 0 < w1)) → ZT n0 g mX7_lowerWall 7 [some (.inr (some b)), some (.inr (some a)), some (.inl (m : Int)), some (.inl (j : Int)), L4, L5, L6] [] n k h1 Q := by
  intro d
  induction d using Nat.strongRecOn with | _ d ih => ?_
  intro j w1 w2 L4 L5 L6 hd0 h1 g0 hfr hj hmj hwj
  subst hd0
  have hPj : ∀ x y, (P x y ∨ zprT m mo j x y) → 0 < y := fun x y q => q.elim (hP x y) (fun ⟨_, _, q, _⟩ => q)
  have suc : ∀ x y, 0 < (mo j % 9 - (m : Int) % 9) → ((P x y ∨ zprT m mo j x y) ∨ (x = (m : Int) / 9 - mo j / 9 ∧ y = mo j % 9 - (m : Int) % 9) ↔ (P x y ∨ zprT m mo (j + 1) x y)) := fun x y h0 => by
    constructor
    · rintro ((q | ⟨i, q1, q2⟩) | ⟨q1, q2⟩)
      · exact Or.inl q
      · exact Or.inr ⟨i, by omega, q2⟩
      · exact Or.inr ⟨j, by omega, by omega, q2, q1⟩
    · rintro (q | ⟨i, q1, q2, q3, q4⟩)
      · exact Or.inl (Or.inl q)
      · by_cases e : i = j
        · subst e; exact Or.inr ⟨q4, q3⟩
        · exact Or.inl (Or.inr ⟨i, by omega, q2, q3, q4⟩)
  have suc0 : ∀ x y, ¬ 0 < (mo j % 9 - (m : Int) % 9) → ((P x y ∨ zprT m mo j x y) ↔ (P x y ∨ zprT m mo (j + 1) x y)) := fun x y h0 => by
    constructor
    · rintro (q | ⟨i, q1, q2⟩)
      · exact Or.inl q
      · exact Or.inr ⟨i, by omega, q2⟩
    · rintro (q | ⟨i, q1, q2, q3, q4⟩)
      · exact Or.inl q
      · by_cases e : i = j
        · subst e; omega
        · exact Or.inr ⟨i, by omega, q2, q3, q4⟩
  refine T_iload_n dX7_lowerWall_7 rfl ?_
  refine T_aload_n dX7_lowerWall_8 rfl ?_
  refine T_getfield dX7_lowerWall_9 zkf_8_81 ((hfr _ (by omega)).trans hA0) rfl ?_
  refine T_icmp_ge dX7_lowerWall_12 (t := 94) rfl (fun c12 => ?_) (fun c12 => ?_)
  · refine T_vret dX7_lowerWall_94 rfl ?_
    exact hQ _ _ _ (by rw [show t = j by omega]; exact hmj) hwj g0 (fun q q0 => ((hfr _ q0).trans rfl))
  · refine T_aload_n dX7_lowerWall_15 rfl ?_
    refine T_getfield dX7_lowerWall_16 zkf_8_82 ((hfr _ (by omega)).trans hA0) rfl ?_
    refine T_iload_n dX7_lowerWall_19 rfl ?_
    refine T_ialoadN (m := j) dX7_lowerWall_20 ((hfr _ (by omega)).trans hA1) rfl (by omega) ?_
    have mb := hmo j (by omega)
    refine T_istore dX7_lowerWall_21 (Nat.le_of_ble_eq_true rfl) ?_
    refine T_iload_n dX7_lowerWall_23 rfl ?_
    refine T_bipush dX7_lowerWall_24 (by decide) ?_
    refine T_idivN dX7_lowerWall_26 ⟨by omega, by omega⟩ (by omega) ?_
    refine T_iload dX7_lowerWall_27 rfl ?_
    refine T_bipush dX7_lowerWall_29 (by decide) ?_
    refine T_idivN dX7_lowerWall_31 ⟨by omega, by omega⟩ (by omega) ?_
    refine T_isub dX7_lowerWall_32 ⟨by omega, by omega⟩ ?_
    refine T_istore dX7_lowerWall_33 (Nat.le_of_ble_eq_true rfl) ?_
    refine T_iload dX7_lowerWall_35 rfl ?_
    refine T_bipush dX7_lowerWall_37 (by decide) ?_
    refine T_iremN dX7_lowerWall_39 ⟨by omega, by omega⟩ (by omega) ?_
    refine T_iload_n dX7_lowerWall_40 rfl ?_
    refine T_bipush dX7_lowerWall_41 (by decide) ?_
    refine T_iremN dX7_lowerWall_43 ⟨by omega, by omega⟩ (by omega) ?_
    refine T_isub dX7_lowerWall_44 ⟨by omega, by omega⟩ ?_
    refine T_istore dX7_lowerWall_45 (Nat.le_of_ble_eq_true rfl) ?_
    refine T_iload dX7_lowerWall_47 rfl ?_
    refine T_if_le dX7_lowerWall_49 (t := 88) rfl (fun c49 => ?_) (fun c49 => ?_)
    · refine T_iinc dX7_lowerWall_88 rfl ⟨by omega, by omega⟩ ?_
      refine T_goto dX7_lowerWall_91 (t := 7) rfl ?_
      exact ih _ (by omega) (j + 1) w1 w2 _ _ _ rfl _ g0 (fun q q0 => ((hfr _ q0).trans rfl)) (by omega) (hmj.ext fun x y => suc0 x y (by omega)) (by omega) 
    · refine T_aload_n dX7_lowerWall_52 rfl ?_
      refine T_callV dX7_lowerWall_53 zkm_8_85 (Or.inl rfl) rfl g0 ⟨Nat.le_of_ble_eq_true rfl, rfl⟩ rfl (Nat.le_of_ble_eq_true rfl) ?_
      refine m_X7_hasWall g0  (fun k53a => ?_) (fun k53a_2 => ?_)
      · refine T_if_eq dX7_lowerWall_56 (t := 76) rfl (fun hc => absurd hc (by decide)) (fun _ => ?_)
        refine T_iload dX7_lowerWall_59 rfl ?_
        refine T_aload_n dX7_lowerWall_61 rfl ?_
        refine T_getfield dX7_lowerWall_62 zkf_8_28 g0 rfl ?_
        have n1 := zmul_le (show (0 : Int) ≤ (m : Int) / 9 - mo j / 9 by have := mb.2.2 (by omega); omega) (show (m : Int) / 9 - mo j / 9 ≤ 8 by omega) hwj.1 hwj.2.1
        refine T_imul dX7_lowerWall_65 ⟨by omega, by omega⟩ ?_
        refine T_aload_n dX7_lowerWall_66 rfl ?_
        refine T_getfield dX7_lowerWall_67 zkf_8_25 g0 rfl ?_
        refine T_iload dX7_lowerWall_70 rfl ?_
        have n2 := zmul_le hwj.2.2.1 hwj.2.2.2.1 (show (0 : Int) ≤ mo j % 9 - (m : Int) % 9 by omega) (show mo j % 9 - (m : Int) % 9 ≤ 8 by omega)
        refine T_imul dX7_lowerWall_72 ⟨by omega, by omega⟩ ?_
        refine T_icmp_ge dX7_lowerWall_73 (t := 88) rfl (fun c73 => ?_) (fun c73 => ?_)
        · refine T_iinc dX7_lowerWall_88 rfl ⟨by omega, by omega⟩ ?_
          refine T_goto dX7_lowerWall_91 (t := 7) rfl ?_
          exact ih _ (by omega) (j + 1) w1 w2 _ _ _ rfl _ g0 (fun q q0 => ((hfr _ q0).trans rfl)) (by omega) ((hmj.keep k53a (by omega)).ext fun x y => suc x y (by omega)) (by omega) 
        · refine T_aload_n dX7_lowerWall_76 rfl ?_
          refine T_iload dX7_lowerWall_77 rfl ?_
          refine T_putfield dX7_lowerWall_79 zkf_8_25 g0 (Nat.le_of_ble_eq_true rfl) (by omega) rfl (fun hf => absurd hf (by decide)) rfl ?_
          refine T_aload_n dX7_lowerWall_82 rfl ?_
          refine T_iload dX7_lowerWall_83 rfl ?_
          refine T_putfield dX7_lowerWall_85 zkf_8_28 zup_self (Nat.le_of_ble_eq_true rfl) (by omega) rfl (fun hf => absurd hf (by decide)) rfl ?_
          refine T_iinc dX7_lowerWall_88 rfl ⟨by omega, by omega⟩ ?_
          refine T_goto dX7_lowerWall_91 (t := 7) rfl ?_
          exact ih _ (by omega) (j + 1) _ _ _ _ _ rfl _ zup_self (fun q q0 => ((zup_nf q0).trans ((zup_nf q0).trans ((hfr _ q0).trans rfl)))) (by omega) ((hmj.better hPj (by omega) (Or.inr (by omega))).ext fun x y => suc x y (by omega)) (by have := mb.2.2 (by omega); omega) 
      · refine T_if_eq dX7_lowerWall_56 (t := 76) rfl (fun _ => ?_) (fun hc => absurd hc (by decide))
        refine T_aload_n dX7_lowerWall_76 rfl ?_
        refine T_iload dX7_lowerWall_77 rfl ?_
        refine T_putfield dX7_lowerWall_79 zkf_8_25 g0 (Nat.le_of_ble_eq_true rfl) (by omega) rfl (fun hf => absurd hf (by decide)) rfl ?_
        refine T_aload_n dX7_lowerWall_82 rfl ?_
        refine T_iload dX7_lowerWall_83 rfl ?_
        refine T_putfield dX7_lowerWall_85 zkf_8_28 zup_self (Nat.le_of_ble_eq_true rfl) (by omega) rfl (fun hf => absurd hf (by decide)) rfl ?_
        refine T_iinc dX7_lowerWall_88 rfl ⟨by omega, by omega⟩ ?_
        refine T_goto dX7_lowerWall_91 (t := 7) rfl ?_
        exact ih _ (by omega) (j + 1) _ _ _ _ _ rfl _ zup_self (fun q q0 => ((zup_nf q0).trans ((zup_nf q0).trans ((hfr _ q0).trans rfl)))) (by omega) ((hmj.better hPj (by omega) (Or.inl k53a_2)).ext fun x y => suc x y (by omega)) (by have := mb.2.2 (by omega); omega) 
set_option maxHeartbeats 4000000 in
set_option maxRecDepth 100000 in
theorem m_X7_lowerWall {n0 n k : Nat} {g : Nat → zV} {h : zHp} {Q : Option zV → Nat → Nat → zHp → Prop} {b c a m t : Nat} {wt wb : Int} {mo : Nat → Int} {P : Int → Int → Prop} (h0 : h b = some (.inl (8, [.inr (some (b + 1)), .inl (c : Int), .inr (some (b + 2)), .inl wt, .inl wb]))) (hA0 : h a = some (.inl (1, [.inl (m : Int), .inl (t : Int), .inr (some (a + 1)), .inr (some (a + 2))]))) (hA1 : h (a + 1) = some (.inr (.inl (0, 9, mo)))) (ht : t ≤ 9) (hm : m < 81) (hmo : ∀ i, i < t → 0 ≤ mo i ∧ mo i < 81 ∧ (mo i % 9 - (m : Int) % 9 > 0 → (m : Int) / 9 - mo i / 9 > 0)) (hP : ∀ x y, P x y → 0 < y) (hmin : zMin P wt wb) (hwb : 0 ≤ wb ∧ wb ≤ 8 ∧ 0 ≤ wt ∧ wt ≤ 8 ∧ (0 < wb → 0 < wt)) (hw : n0 ≤ b) (hd : a ≠ b ∧ a + 1 ≠ b) (hQ : ∀ (wt' wb' : Int) (h' : zHp), (zMin (fun x y => P x y ∨ zprT m mo t x y) wt' wb') → (0 ≤ wb' ∧ wb' ≤ 8 ∧ 0 ≤ wt' ∧ wt' ≤ 8 ∧ (0 < wb' → 0 < wt')) → h' b = some (.inl (8, [.inr (some (b + 1)), .inl (c : Int), .inr (some (b + 2)), .inl wt', .inl wb'])) → (∀ q : Nat, q ≠ b → h' q = h q) → Q none n k h') : ZT n0 g mX7_lowerWall 0 (zloc mX7_lowerWall [.inr (some b), .inr (some a)]) [] n k h Q := by
  show ZT n0 g mX7_lowerWall 0 [some (.inr (some b)), some (.inr (some a)), none, none, none, none, none] [] n k h Q
  refine T_aload_n dX7_lowerWall_0 rfl ?_
  refine T_getfield dX7_lowerWall_1 zkf_8_71 hA0 rfl ?_
  refine T_istore_n dX7_lowerWall_4 (Nat.le_of_ble_eq_true rfl) ?_
  refine T_iconst dX7_lowerWall_5 (by decide) ?_
  refine T_istore_n dX7_lowerWall_6 (Nat.le_of_ble_eq_true rfl) ?_
  exact m_X7_lowerWall_7 h0 hA0 hA1 ht hm hmo hP hmin hwb hw hd hQ _ 0 wt wb _ _ _ rfl _ h0 (fun q q0 => rfl) (by omega) (hmin.ext (fun x y => ⟨Or.inl, fun q => q.elim id (fun ⟨i, hi, _⟩ => absurd hi (Nat.not_lt_zero i))⟩)) (by omega) 
