/-! ===== GroebnerFan$Elimination: printed by wip/whole/gen/s_elim.py ===== -/
set_option maxHeartbeats 4000000 in
set_option maxRecDepth 100000 in
theorem m_X1_restart {n0 n k : Nat} {g : Nat → zV} {h : zHp} {Q : Option zV → Nat → Nat → zHp → Prop} {b e z : Nat} (hE : h e = some (.inl (2, [.inr (some b), .inr (some (e + 1)), .inr (some (e + 10)), .inr (some (e + 19)), .inl (z : Int), .inr (some (e + 20)), .inr (some (e + 21)), .inr (some (e + 22))]))) (hw : n0 ≤ e) (hQ : ∀  (h' : zHp), h' e = some (.inl (2, [.inr (some b), .inr (some (e + 1)), .inr (some (e + 10)), .inr (some (e + 19)), .inl 0, .inr (some (e + 20)), .inr (some (e + 21)), .inr (some (e + 22))])) → (∀ q : Nat, q ≠ e → h' q = h q) → Q none n k h') : ZT n0 g mX1_restart 0 (zloc mX1_restart [.inr (some e)]) [] n k h Q := by
  show ZT n0 g mX1_restart 0 [some (.inr (some e))] [] n k h Q
  refine T_aload_n dX1_restart_0 rfl ?_
  refine T_iconst dX1_restart_1 (by decide) ?_
  refine T_putfield dX1_restart_2 zkf_2_23 hE (Nat.le_of_ble_eq_true rfl) (by omega) rfl (fun hf => absurd hf (by decide)) rfl ?_
  refine T_vret dX1_restart_5 rfl ?_
  exact hQ _ zup_self (fun q q0 => ((zup_nf q0).trans rfl))
set_option maxHeartbeats 4000000 in
set_option maxRecDepth 100000 in
theorem m_X1_firstNonzeroValue_2 {n0 n k : Nat} {g : Nat → zV} {h : zHp} {Q : Option zV → Nat → Nat → zHp → Prop} {b e s z : Nat} {p : Int} {v : Nat → Int} (hE : h e = some (.inl (2, [.inr (some b), .inr (some (e + 1)), .inr (some (e + 10)), .inr (some (e + 19)), .inl (z : Int), .inr (some (e + 20)), .inr (some (e + 21)), .inr (some (e + 22))]))) (hP0 : h b = some (.inl (6, [.inl p, .inl (s : Int), .inr (some (b + 1)), .inr (some (b + 2))]))) (hVa : h (e + 21) = some (.inr (.inl (0, 8, v)))) (hs : s ≤ 8) (hT : ∀ (q : Nat), (q < s) → (v q ≠ 0) → (∀ i, i < q → v i = 0) → Q (some (.inl (q : Int))) n k h) (hF : (∀ i, i < s → v i = 0) → Q (some (.inl (-1))) n k h) : ∀ (d : Nat) (j : Nat), s - j = d → (j ≤ s) → (∀ i, i < j → v i = 0) → ZT n0 g mX1_firstNonzeroValue 2 [some (.inr (some e)), some (.inl (j : Int))] [] n k h Q := by
  intro d
  induction d using Nat.strongRecOn with | _ d ih => ?_
  intro j hd0 hj hn
  subst hd0
  refine T_iload_n dX1_firstNonzeroValue_2 rfl ?_
  refine T_aload_n dX1_firstNonzeroValue_3 rfl ?_
  refine T_getfield dX1_firstNonzeroValue_4 zkf_2_36 hE rfl ?_
  refine T_getfield dX1_firstNonzeroValue_7 zkf_2_52 hP0 rfl ?_
  refine T_icmp_ge dX1_firstNonzeroValue_10 (t := 30) rfl (fun c10 => ?_) (fun c10 => ?_)
  · refine T_iconst dX1_firstNonzeroValue_30 (by decide) ?_
    refine T_iret dX1_firstNonzeroValue_31 rfl ?_
    exact hF (fun i hi => hn i (by omega))
  · refine T_aload_n dX1_firstNonzeroValue_13 rfl ?_
    refine T_getfield dX1_firstNonzeroValue_14 zkf_2_30 hE rfl ?_
    refine T_iload_n dX1_firstNonzeroValue_17 rfl ?_
    refine T_ialoadN (m := j) dX1_firstNonzeroValue_18 hVa rfl (by omega) ?_
    refine T_if_eq dX1_firstNonzeroValue_19 (t := 24) rfl (fun c19 => ?_) (fun c19 => ?_)
    · refine T_iinc dX1_firstNonzeroValue_24 rfl ⟨by omega, by omega⟩ ?_
      refine T_goto dX1_firstNonzeroValue_27 (t := 2) rfl ?_
      exact ih _ (by omega) (j + 1) rfl  (by omega) (fun i hi => by
            by_cases e : i = j
            · subst e; omega
            · exact hn i (by omega)) 
    · refine T_iload_n dX1_firstNonzeroValue_22 rfl ?_
      refine T_iret dX1_firstNonzeroValue_23 rfl ?_
      exact hT j (by omega) (by omega) hn
set_option maxHeartbeats 4000000 in
set_option maxRecDepth 100000 in
theorem m_X1_firstNonzeroValue {n0 n k : Nat} {g : Nat → zV} {h : zHp} {Q : Option zV → Nat → Nat → zHp → Prop} {b e s z : Nat} {p : Int} {v : Nat → Int} (hE : h e = some (.inl (2, [.inr (some b), .inr (some (e + 1)), .inr (some (e + 10)), .inr (some (e + 19)), .inl (z : Int), .inr (some (e + 20)), .inr (some (e + 21)), .inr (some (e + 22))]))) (hP0 : h b = some (.inl (6, [.inl p, .inl (s : Int), .inr (some (b + 1)), .inr (some (b + 2))]))) (hVa : h (e + 21) = some (.inr (.inl (0, 8, v)))) (hs : s ≤ 8) (hT : ∀ (q : Nat), (q < s) → (v q ≠ 0) → (∀ i, i < q → v i = 0) → Q (some (.inl (q : Int))) n k h) (hF : (∀ i, i < s → v i = 0) → Q (some (.inl (-1))) n k h) : ZT n0 g mX1_firstNonzeroValue 0 (zloc mX1_firstNonzeroValue [.inr (some e)]) [] n k h Q := by
  show ZT n0 g mX1_firstNonzeroValue 0 [some (.inr (some e)), none] [] n k h Q
  refine T_iconst dX1_firstNonzeroValue_0 (by decide) ?_
  refine T_istore_n dX1_firstNonzeroValue_1 (Nat.le_of_ble_eq_true rfl) ?_
  exact m_X1_firstNonzeroValue_2 hE hP0 hVa hs hT hF _ 0 rfl  (by omega) (fun i hi => absurd hi (Nat.not_lt_zero i)) 
set_option maxHeartbeats 4000000 in
set_option maxRecDepth 100000 in
theorem m_X1_addMultiple_3 {n0 n k : Nat} {g : Nat → zV} {h : zHp} {Q : Option zV → Nat → Nat → zHp → Prop} {b e s z : Nat} {p : Int} {ta ra : Nat} {t r : Nat → Int} {f : Int} (hE : h e = some (.inl (2, [.inr (some b), .inr (some (e + 1)), .inr (some (e + 10)), .inr (some (e + 19)), .inl (z : Int), .inr (some (e + 20)), .inr (some (e + 21)), .inr (some (e + 22))]))) (hP0 : h b = some (.inl (6, [.inl p, .inl (s : Int), .inr (some (b + 1)), .inr (some (b + 2))]))) (hT : h ta = some (.inr (.inl (0, 8, t)))) (hRr : h ra = some (.inr (.inl (0, 8, r)))) (hs : s ≤ 8) (hp : 1 < p ∧ p < 32) (hf : 0 ≤ f ∧ f ≤ p) (ht : ∀ k, k < s → 0 ≤ t k ∧ t k < p) (hr : ∀ k, k < s → 0 ≤ r k ∧ r k < p) (hw : n0 ≤ ta) (hne : ta ≠ ra ∧ ta ≠ e ∧ ta ≠ b) (hQ : ∀ (t' : Nat → Int) (h' : zHp), (∀ k, k < s → t' k = (t k + f * r k) % p) → (∀ k, s ≤ k → t' k = t k) → h' ta = some (.inr (.inl (0, 8, t'))) → (∀ q : Nat, q ≠ ta → h' q = h q) → Q none n k h') : ∀ (d : Nat) (j : Nat) (u : Nat → Int), s - j = d → ∀ h1 : zHp, h1 ta = some (.inr (.inl (0, 8, u))) → (∀ q : Nat, q ≠ ta → h1 q = h q) → (j ≤ s) → (∀ q, u q = (if q < j then (t q + f * r q) % p else t q)) → ZT n0 g mX1_addMultiple 3 [some (.inr (some e)), some (.inr (some ta)), some (.inr (some ra)), some (.inl f), some (.inl (j : Int))] [] n k h1 Q := by
  intro d
  induction d using Nat.strongRecOn with | _ d ih => ?_
  intro j u hd0 h1 h1 hfr hj hu
  subst hd0
  refine T_iload dX1_addMultiple_3 rfl ?_
  refine T_aload_n dX1_addMultiple_5 rfl ?_
  refine T_getfield dX1_addMultiple_6 zkf_2_36 ((hfr _ (by omega)).trans hE) rfl ?_
  refine T_getfield dX1_addMultiple_9 zkf_2_52 ((hfr _ (by omega)).trans hP0) rfl ?_
  refine T_icmp_ge dX1_addMultiple_12 (t := 44) rfl (fun c12 => ?_) (fun c12 => ?_)
  · refine T_vret dX1_addMultiple_44 rfl ?_
    exact hQ _ _ (fun q hq => by rw [hu, if_pos (by omega)]) (fun q hq => by rw [hu, if_neg (by omega)]) h1 (fun q q0 => ((hfr _ q0).trans rfl))
  · refine T_aload_n dX1_addMultiple_15 rfl ?_
    refine T_iload dX1_addMultiple_16 rfl ?_
    refine T_aload_n dX1_addMultiple_18 rfl ?_
    refine T_iload dX1_addMultiple_19 rfl ?_
    refine T_ialoadN (m := j) dX1_addMultiple_21 h1 rfl (by omega) ?_
    refine T_iload_n dX1_addMultiple_22 rfl ?_
    refine T_aload_n dX1_addMultiple_23 rfl ?_
    refine T_iload dX1_addMultiple_24 rfl ?_
    refine T_ialoadN (m := j) dX1_addMultiple_26 ((hfr _ (by omega)).trans hRr) rfl (by omega) ?_
    have eu : u j = t j := by rw [hu, if_neg (by omega)]
    have b1 := ht j (by omega)
    have b2 := hr j (by omega)
    have m1 := zmul_le hf.1 (show f ≤ 32 by omega) b2.1 (show r j ≤ 32 by omega)
    refine T_imul dX1_addMultiple_27 (zmulR (by omega) (by omega) (by omega) (by omega)) ?_
    refine T_iadd dX1_addMultiple_28 ⟨by omega, by omega⟩ ?_
    refine T_aload_n dX1_addMultiple_29 rfl ?_
    refine T_getfield dX1_addMultiple_30 zkf_2_36 ((hfr _ (by omega)).trans hE) rfl ?_
    refine T_getfield dX1_addMultiple_33 zkf_2_76 ((hfr _ (by omega)).trans hP0) rfl ?_
    refine T_iremN dX1_addMultiple_36 ⟨by omega, by omega⟩ (by omega) ?_
    have r36 := zmod_bd ((u j) + (f * (r j))) p (by omega)
    refine T_iastoreN (m := j) dX1_addMultiple_37 h1 rfl (by omega) (by omega) ?_
    refine T_iinc dX1_addMultiple_38 rfl ⟨by omega, by omega⟩ ?_
    refine T_goto dX1_addMultiple_41 (t := 3) rfl ?_
    exact ih _ (by omega) (j + 1) _ rfl _ zup_self (fun q q0 => ((zup_nf q0).trans ((hfr _ q0).trans rfl))) (by omega) (fun q => by
          by_cases c : q = j
          · subst c; rw [zfu_self, if_pos (by omega), eu]
          · rw [zfu_ne c, hu]; split <;> split <;> first | rfl | omega) 
set_option maxHeartbeats 4000000 in
set_option maxRecDepth 100000 in
theorem m_X1_addMultiple {n0 n k : Nat} {g : Nat → zV} {h : zHp} {Q : Option zV → Nat → Nat → zHp → Prop} {b e s z : Nat} {p : Int} {ta ra : Nat} {t r : Nat → Int} {f : Int} (hE : h e = some (.inl (2, [.inr (some b), .inr (some (e + 1)), .inr (some (e + 10)), .inr (some (e + 19)), .inl (z : Int), .inr (some (e + 20)), .inr (some (e + 21)), .inr (some (e + 22))]))) (hP0 : h b = some (.inl (6, [.inl p, .inl (s : Int), .inr (some (b + 1)), .inr (some (b + 2))]))) (hT : h ta = some (.inr (.inl (0, 8, t)))) (hRr : h ra = some (.inr (.inl (0, 8, r)))) (hs : s ≤ 8) (hp : 1 < p ∧ p < 32) (hf : 0 ≤ f ∧ f ≤ p) (ht : ∀ k, k < s → 0 ≤ t k ∧ t k < p) (hr : ∀ k, k < s → 0 ≤ r k ∧ r k < p) (hw : n0 ≤ ta) (hne : ta ≠ ra ∧ ta ≠ e ∧ ta ≠ b) (hQ : ∀ (t' : Nat → Int) (h' : zHp), (∀ k, k < s → t' k = (t k + f * r k) % p) → (∀ k, s ≤ k → t' k = t k) → h' ta = some (.inr (.inl (0, 8, t'))) → (∀ q : Nat, q ≠ ta → h' q = h q) → Q none n k h') : ZT n0 g mX1_addMultiple 0 (zloc mX1_addMultiple [.inr (some e), .inr (some ta), .inr (some ra), .inl f]) [] n k h Q := by
  show ZT n0 g mX1_addMultiple 0 [some (.inr (some e)), some (.inr (some ta)), some (.inr (some ra)), some (.inl f), none] [] n k h Q
  refine T_iconst dX1_addMultiple_0 (by decide) ?_
  refine T_istore dX1_addMultiple_1 (Nat.le_of_ble_eq_true rfl) ?_
  exact m_X1_addMultiple_3 hE hP0 hT hRr hs hp hf ht hr hw hne hQ _ 0 t rfl _ hT (fun q q0 => rfl) (by omega) (fun q => by simp) 
set_option maxHeartbeats 4000000 in
set_option maxRecDepth 100000 in
theorem m_X1_reduceValues_10 {n0 n k : Nat} {g : Nat → zV} {h : zHp} {Q : Option zV → Nat → Nat → zHp → Prop} {b e s z : Nat} {p : Int} {v cb pv : Nat → Int} {piv : Nat → Nat} {RR OO : Nat → Nat → Int} (hE : h e = some (.inl (2, [.inr (some b), .inr (some (e + 1)), .inr (some (e + 10)), .inr (some (e + 19)), .inl (z : Int), .inr (some (e + 20)), .inr (some (e + 21)), .inr (some (e + 22))]))) (hP0 : h b = some (.inl (6, [.inl p, .inl (s : Int), .inr (some (b + 1)), .inr (some (b + 2))]))) (hR : h (e + 1) = some (.inr (.inr (99, 8, (fun i => if i < 8 then some (e + 1 + 1 + i) else none))))) (hO : h (e + 10) = some (.inr (.inr (99, 8, (fun i => if i < 8 then some (e + 10 + 1 + i) else none))))) (hPv : h (e + 19) = some (.inr (.inl (0, 8, pv)))) (hVa : h (e + 21) = some (.inr (.inl (0, 8, v)))) (hCo : h (e + 22) = some (.inr (.inl (0, 8, cb)))) (hs : s ≤ 8) (hp : 1 < p ∧ p < 32) (hd : b + 3 ≤ e ∨ e + 23 ≤ b) (hw : n0 ≤ e) (hz : z ≤ 8) (hRR : ∀ r, r < 8 → h (e + r + 2) = some (.inr (.inl (0, 8, RR r)))) (hOO : ∀ r, r < 8 → h (e + r + 11) = some (.inr (.inl (0, 8, OO r)))) (hRb : ∀ r, r < z → ∀ k, k < s → 0 ≤ RR r k ∧ RR r k < p) (hOb : ∀ r, r < z → ∀ k, k < s → 0 ≤ OO r k ∧ OO r k < p) (hpv : ∀ r, r < z → pv r = (piv r : Int) ∧ piv r < s) (hvb : ∀ k, k < s → 0 ≤ v k ∧ v k < p) (hQ : ∀ (v' cb' : Nat → Int) (h' : zHp), (∀ k, k < s → v' k = zrv p RR piv v z k) → (∀ k, k < s → cb' k = zrc p RR OO piv v z k) → (∀ k, s ≤ k → k < 8 → cb' k = 0) → h' (e + 21) = some (.inr (.inl (0, 8, v'))) → h' (e + 22) = some (.inr (.inl (0, 8, cb'))) → (∀ q : Nat, q ≠ (e + 21) → q ≠ (e + 22) → h' q = h q) → Q none n k h') : ∀ (d : Nat) (j : Nat) (u : Nat → Int) (d1 : Nat → Int) (L2 : Option zV), z - j = d → ∀ h1 : zHp, h1 (e + 21) = some (.inr (.inl (0, 8, u))) → h1 (e + 22) = some (.inr (.inl (0, 8, d1))) → (∀ q : Nat, q ≠ (e + 21) → q ≠ (e + 22) → h1 q = h q) → (j ≤ z) → (∀ k, k < s → u k = zrv p RR piv v j k) → (∀ k, k < s → d1 k = zrc p RR OO piv v j k) → (∀ k, s ≤ k → k < 8 → d1 k = 0) → ZT n0 g mX1_reduceValues 10 [some (.inr (some e)), some (.inl (j : Int)), L2] [] n k h1 Q := by
  intro d
  induction d using Nat.strongRecOn with | _ d ih => ?_
  intro j u d1 L2 hd0 h1 h1 h2 hfr hj hu hd1 hdz
  subst hd0
  refine T_iload_n dX1_reduceValues_10 rfl ?_
  refine T_aload_n dX1_reduceValues_11 rfl ?_
  refine T_getfield dX1_reduceValues_12 zkf_2_23 ((hfr _ (by omega) (by omega)).trans hE) rfl ?_
  refine T_icmp_ge dX1_reduceValues_15 (t := 74) rfl (fun c15 => ?_) (fun c15 => ?_)
  · refine T_vret dX1_reduceValues_74 rfl ?_
    exact hQ u d1 _ (fun k hk => by rw [hu k hk, show j = z by omega]) (fun k hk => by rw [hd1 k hk, show j = z by omega]) hdz h1 h2 hfr
  · refine T_aload_n dX1_reduceValues_18 rfl ?_
    refine T_getfield dX1_reduceValues_19 zkf_2_30 ((hfr _ (by omega) (by omega)).trans hE) rfl ?_
    refine T_aload_n dX1_reduceValues_22 rfl ?_
    refine T_getfield dX1_reduceValues_23 zkf_2_19 ((hfr _ (by omega) (by omega)).trans hE) rfl ?_
    refine T_iload_n dX1_reduceValues_26 rfl ?_
    refine T_ialoadN (m := j) dX1_reduceValues_27 ((hfr _ (by omega) (by omega)).trans hPv) rfl (by omega) ?_
    have bp := (hpv j (by omega)).2
    have bu : 0 ≤ u (piv j) ∧ u (piv j) < p := by rw [hu _ bp]; exact zrv_bd hp.1 (hvb _ bp) j
    refine T_ialoadN (m := (piv j)) dX1_reduceValues_28 h1 (hpv j (by omega)).1 (by have := (hpv j (by omega)).2; omega) ?_
    refine T_istore_n dX1_reduceValues_29 (Nat.le_of_ble_eq_true rfl) ?_
    refine T_aload_n dX1_reduceValues_30 rfl ?_
    refine T_aload_n dX1_reduceValues_31 rfl ?_
    refine T_getfield dX1_reduceValues_32 zkf_2_30 ((hfr _ (by omega) (by omega)).trans hE) rfl ?_
    refine T_aload_n dX1_reduceValues_35 rfl ?_
    refine T_getfield dX1_reduceValues_36 zkf_2_11 ((hfr _ (by omega) (by omega)).trans hE) rfl ?_
    refine T_iload_n dX1_reduceValues_39 rfl ?_
    refine T_aaloadN (m := j) (r := some (e + j + 2)) dX1_reduceValues_40 ((hfr _ (by omega) (by omega)).trans hR) rfl (by omega) (by rw [if_pos (by omega)]; congr 1; omega) ?_
    refine T_aload_n dX1_reduceValues_41 rfl ?_
    refine T_getfield dX1_reduceValues_42 zkf_2_36 ((hfr _ (by omega) (by omega)).trans hE) rfl ?_
    refine T_getfield dX1_reduceValues_45 zkf_2_76 ((hfr _ (by omega) (by omega)).trans hP0) rfl ?_
    refine T_iload_n dX1_reduceValues_48 rfl ?_
    refine T_isub dX1_reduceValues_49 ⟨by omega, by omega⟩ ?_
    refine T_callV dX1_reduceValues_50 zkm_2_79 (Or.inl rfl) rfl ((hfr _ (by omega) (by omega)).trans hE) ⟨Nat.le_of_ble_eq_true rfl, rfl⟩ rfl (Nat.le_of_ble_eq_true rfl) ?_
    refine m_X1_addMultiple ((hfr _ (by omega) (by omega)).trans hE) ((hfr _ (by omega) (by omega)).trans hP0) h1 ((hfr _ (by omega) (by omega)).trans (hRR j (by omega))) (by omega) (by omega) (by omega) (fun k hk => by rw [hu k hk]; exact zrv_bd hp.1 (hvb k hk) j) (fun k hk => hRb j (by omega) k hk) (by omega) (by omega) (fun t'50 hh50 k50a k50b f50a fr50 => ?_)
    refine T_aload_n dX1_reduceValues_53 rfl ?_
    refine T_aload_n dX1_reduceValues_54 rfl ?_
    refine T_getfield dX1_reduceValues_55 zkf_2_33 ((fr50 _ (by omega)).trans ((hfr _ (by omega) (by omega)).trans hE)) rfl ?_
    refine T_aload_n dX1_reduceValues_58 rfl ?_
    refine T_getfield dX1_reduceValues_59 zkf_2_16 ((fr50 _ (by omega)).trans ((hfr _ (by omega) (by omega)).trans hE)) rfl ?_
    refine T_iload_n dX1_reduceValues_62 rfl ?_
    refine T_aaloadN (m := j) (r := some (e + j + 11)) dX1_reduceValues_63 ((fr50 _ (by omega)).trans ((hfr _ (by omega) (by omega)).trans hO)) rfl (by omega) (by rw [if_pos (by omega)]; congr 1; omega) ?_
    refine T_iload_n dX1_reduceValues_64 rfl ?_
    refine T_callV dX1_reduceValues_65 zkm_2_79 (Or.inl rfl) rfl ((fr50 _ (by omega)).trans ((hfr _ (by omega) (by omega)).trans hE)) ⟨Nat.le_of_ble_eq_true rfl, rfl⟩ rfl (Nat.le_of_ble_eq_true rfl) ?_
    refine m_X1_addMultiple ((fr50 _ (by omega)).trans ((hfr _ (by omega) (by omega)).trans hE)) ((fr50 _ (by omega)).trans ((hfr _ (by omega) (by omega)).trans hP0)) ((fr50 _ (by omega)).trans h2) ((fr50 _ (by omega)).trans ((hfr _ (by omega) (by omega)).trans (hOO j (by omega)))) (by omega) (by omega) (by omega) (fun k hk => by rw [hd1 k hk]; exact zrc_bd hp.1 j) (fun k hk => hOb j (by omega) k hk) (by omega) (by omega) (fun t'65 hh65 k65a k65b f65a fr65 => ?_)
    refine T_iinc dX1_reduceValues_68 rfl ⟨by omega, by omega⟩ ?_
    refine T_goto dX1_reduceValues_71 (t := 10) rfl ?_
    exact ih _ (by omega) (j + 1) _ _ _ rfl _ ((fr65 _ (by omega)).trans f50a) f65a (fun q q0 q1 => ((fr65 _ q1).trans ((fr50 _ q0).trans ((hfr _ q0 q1).trans rfl)))) (by omega) (fun k hk => by rw [k50a k hk, hu k hk, hu _ bp]; rfl) (fun k hk => by rw [k65a k hk, hd1 k hk, hu _ bp]; rfl) (fun k h1 h2 => by rw [k65b k h1]; exact hdz k h1 h2) 
set_option maxHeartbeats 4000000 in
set_option maxRecDepth 100000 in
theorem m_X1_reduceValues {n0 n k : Nat} {g : Nat → zV} {h : zHp} {Q : Option zV → Nat → Nat → zHp → Prop} {b e s z : Nat} {p : Int} {v cb pv : Nat → Int} {piv : Nat → Nat} {RR OO : Nat → Nat → Int} (hE : h e = some (.inl (2, [.inr (some b), .inr (some (e + 1)), .inr (some (e + 10)), .inr (some (e + 19)), .inl (z : Int), .inr (some (e + 20)), .inr (some (e + 21)), .inr (some (e + 22))]))) (hP0 : h b = some (.inl (6, [.inl p, .inl (s : Int), .inr (some (b + 1)), .inr (some (b + 2))]))) (hR : h (e + 1) = some (.inr (.inr (99, 8, (fun i => if i < 8 then some (e + 1 + 1 + i) else none))))) (hO : h (e + 10) = some (.inr (.inr (99, 8, (fun i => if i < 8 then some (e + 10 + 1 + i) else none))))) (hPv : h (e + 19) = some (.inr (.inl (0, 8, pv)))) (hVa : h (e + 21) = some (.inr (.inl (0, 8, v)))) (hCo : h (e + 22) = some (.inr (.inl (0, 8, cb)))) (hs : s ≤ 8) (hp : 1 < p ∧ p < 32) (hd : b + 3 ≤ e ∨ e + 23 ≤ b) (hw : n0 ≤ e) (hz : z ≤ 8) (hRR : ∀ r, r < 8 → h (e + r + 2) = some (.inr (.inl (0, 8, RR r)))) (hOO : ∀ r, r < 8 → h (e + r + 11) = some (.inr (.inl (0, 8, OO r)))) (hRb : ∀ r, r < z → ∀ k, k < s → 0 ≤ RR r k ∧ RR r k < p) (hOb : ∀ r, r < z → ∀ k, k < s → 0 ≤ OO r k ∧ OO r k < p) (hpv : ∀ r, r < z → pv r = (piv r : Int) ∧ piv r < s) (hvb : ∀ k, k < s → 0 ≤ v k ∧ v k < p) (hQ : ∀ (v' cb' : Nat → Int) (h' : zHp), (∀ k, k < s → v' k = zrv p RR piv v z k) → (∀ k, k < s → cb' k = zrc p RR OO piv v z k) → (∀ k, s ≤ k → k < 8 → cb' k = 0) → h' (e + 21) = some (.inr (.inl (0, 8, v'))) → h' (e + 22) = some (.inr (.inl (0, 8, cb'))) → (∀ q : Nat, q ≠ (e + 21) → q ≠ (e + 22) → h' q = h q) → Q none n k h') : ZT n0 g mX1_reduceValues 0 (zloc mX1_reduceValues [.inr (some e)]) [] n k h Q := by
  show ZT n0 g mX1_reduceValues 0 [some (.inr (some e)), none, none] [] n k h Q
  refine T_aload_n dX1_reduceValues_0 rfl ?_
  refine T_getfield dX1_reduceValues_1 zkf_2_33 hE rfl ?_
  refine T_iconst dX1_reduceValues_4 (by decide) ?_
  refine T_callS dX1_reduceValues_5 zkm_2_70 ⟨Nat.le_of_ble_eq_true rfl, Nat.le_of_ble_eq_true rfl, rfl⟩ rfl (Nat.le_of_ble_eq_true rfl) ?_
  refine m_J7_fill_53178 hCo (by omega) (by omega) (fun f'5 hh5 k5a f5a fr5 => ?_)
  refine T_iconst dX1_reduceValues_8 (by decide) ?_
  refine T_istore_n dX1_reduceValues_9 (Nat.le_of_ble_eq_true rfl) ?_
  exact m_X1_reduceValues_10 hE hP0 hR hO hPv hVa hCo hs hp hd hw hz hRR hOO hRb hOb hpv hvb hQ _ 0 v f'5 _ rfl _ ((fr5 _ (by omega)).trans hVa) f5a (fun q q0 q1 => ((fr5 _ q1).trans rfl)) (by omega) (fun i _ => rfl) (fun i hi => k5a i (by omega)) (fun i _ hi => k5a i hi) 
set_option maxHeartbeats 4000000 in
set_option maxRecDepth 100000 in
theorem m_X1_keepValues_28 {n0 n k : Nat} {g : Nat → zV} {h : zHp} {Q : Option zV → Nat → Nat → zHp → Prop} {b e s z : Nat} {p : Int} {m q : Nat} {v cb pv mo R0 O0 : Nat → Int} (hE : h e = some (.inl (2, [.inr (some b), .inr (some (e + 1)), .inr (some (e + 10)), .inr (some (e + 19)), .inl (z : Int), .inr (some (e + 20)), .inr (some (e + 21)), .inr (some (e + 22))]))) (hP0 : h b = some (.inl (6, [.inl p, .inl (s : Int), .inr (some (b + 1)), .inr (some (b + 2))]))) (hR : h (e + 1) = some (.inr (.inr (99, 8, (fun i => if i < 8 then some (e + 1 + 1 + i) else none))))) (hO : h (e + 10) = some (.inr (.inr (99, 8, (fun i => if i < 8 then some (e + 10 + 1 + i) else none))))) (hPv : h (e + 19) = some (.inr (.inl (0, 8, pv)))) (hMo : h (e + 20) = some (.inr (.inl (0, 8, mo)))) (hVa : h (e + 21) = some (.inr (.inl (0, 8, v)))) (hCo : h (e + 22) = some (.inr (.inl (0, 8, cb)))) (hR0 : h (e + z + 2) = some (.inr (.inl (0, 8, R0)))) (hO0 : h (e + z + 11) = some (.inr (.inl (0, 8, O0)))) (hs : s ≤ 8) (hp : zprime p) (hd : b + 3 ≤ e ∨ e + 23 ≤ b) (hw : n0 ≤ e) (hz : z < 8) (hq : q < s) (hv0 : v q ≠ 0) (hvb : ∀ k, k < s → 0 ≤ v k ∧ v k < p) (hcb : ∀ k, k < s → 0 ≤ cb k ∧ cb k < p) (hQ : ∀ (R' O' : Nat → Int) (h' : zHp), (∀ k, k < s → R' k = zinv p (v q) * v k % p) → (∀ k, k < s → k ≠ z → O' k = (p - zinv p (v q)) * cb k % p) → (O' z = zinv p (v q)) → h' e = some (.inl (2, [.inr (some b), .inr (some (e + 1)), .inr (some (e + 10)), .inr (some (e + 19)), .inl ((z : Int) + 1), .inr (some (e + 20)), .inr (some (e + 21)), .inr (some (e + 22))])) → h' (e + 19) = some (.inr (.inl (0, 8, (zfu pv z (q : Int))))) → h' (e + 20) = some (.inr (.inl (0, 8, (zfu mo z (m : Int))))) → h' (e + z + 2) = some (.inr (.inl (0, 8, R'))) → h' (e + z + 11) = some (.inr (.inl (0, 8, O'))) → (∀ q : Nat, q ≠ e → q ≠ (e + 19) → q ≠ (e + 20) → q ≠ (e + z + 2) → q ≠ (e + z + 11) → h' q = h q) → Q none n k h') : ∀ (d : Nat) (j : Nat) (u : Nat → Int) (d1 : Nat → Int), s - j = d → ∀ h1 : zHp, h1 (e + z + 2) = some (.inr (.inl (0, 8, u))) → h1 (e + z + 11) = some (.inr (.inl (0, 8, d1))) → (∀ q : Nat, q ≠ (e + z + 2) → q ≠ (e + z + 11) → h1 q = h q) → (j ≤ s) → (∀ k, k < j → u k = zinv p (v q) * v k % p) → (∀ k, k < j → d1 k = (p - zinv p (v q)) * cb k % p) → ZT n0 g mX1_keepValues 28 [some (.inr (some e)), some (.inl (m : Int)), some (.inl (q : Int)), some (.inl (zinv p (v q))), some (.inl (p - zinv p (v q))), some (.inl (j : Int))] [] n k h1 Q := by
  intro d
  induction d using Nat.strongRecOn with | _ d ih => ?_
  intro j u d1 hd0 h1 h1 h2 hfr hj hu hd1
  subst hd0
  have hpb := hp.bd
  have hqb := hvb q hq
  have hz3 := zinv_spec (v := v q) hp (by omega) hqb.2
  refine T_iload dX1_keepValues_28 rfl ?_
  refine T_aload_n dX1_keepValues_30 rfl ?_
  refine T_getfield dX1_keepValues_31 zkf_2_36 ((hfr _ (by omega) (by omega)).trans hE) rfl ?_
  refine T_getfield dX1_keepValues_34 zkf_2_52 ((hfr _ (by omega) (by omega)).trans hP0) rfl ?_
  refine T_icmp_ge dX1_keepValues_37 (t := 105) rfl (fun c37 => ?_) (fun c37 => ?_)
  · refine T_aload_n dX1_keepValues_105 rfl ?_
    refine T_getfield dX1_keepValues_106 zkf_2_16 ((hfr _ (by omega) (by omega)).trans hE) rfl ?_
    refine T_aload_n dX1_keepValues_109 rfl ?_
    refine T_getfield dX1_keepValues_110 zkf_2_23 ((hfr _ (by omega) (by omega)).trans hE) rfl ?_
    refine T_aaloadN (m := z) (r := some (e + z + 11)) dX1_keepValues_113 ((hfr _ (by omega) (by omega)).trans hO) rfl (by omega) (by rw [if_pos (by omega)]; congr 1; omega) ?_
    refine T_aload_n dX1_keepValues_114 rfl ?_
    refine T_getfield dX1_keepValues_115 zkf_2_23 ((hfr _ (by omega) (by omega)).trans hE) rfl ?_
    refine T_iload_n dX1_keepValues_118 rfl ?_
    refine T_iastoreN (m := z) dX1_keepValues_119 h2 rfl (by omega) (by omega) ?_
    refine T_aload_n dX1_keepValues_120 rfl ?_
    refine T_getfield dX1_keepValues_121 zkf_2_19 (zup_ne (by omega) ((hfr _ (by omega) (by omega)).trans hE)) rfl ?_
    refine T_aload_n dX1_keepValues_124 rfl ?_
    refine T_getfield dX1_keepValues_125 zkf_2_23 (zup_ne (by omega) ((hfr _ (by omega) (by omega)).trans hE)) rfl ?_
    refine T_iload_n dX1_keepValues_128 rfl ?_
    refine T_iastoreN (m := z) dX1_keepValues_129 (zup_ne (by omega) ((hfr _ (by omega) (by omega)).trans hPv)) rfl (by omega) (by omega) ?_
    refine T_aload_n dX1_keepValues_130 rfl ?_
    refine T_getfield dX1_keepValues_131 zkf_2_27 (zup_ne (by omega) (zup_ne (by omega) ((hfr _ (by omega) (by omega)).trans hE))) rfl ?_
    refine T_aload_n dX1_keepValues_134 rfl ?_
    refine T_getfield dX1_keepValues_135 zkf_2_23 (zup_ne (by omega) (zup_ne (by omega) ((hfr _ (by omega) (by omega)).trans hE))) rfl ?_
    refine T_iload_n dX1_keepValues_138 rfl ?_
    refine T_iastoreN (m := z) dX1_keepValues_139 (zup_ne (by omega) (zup_ne (by omega) ((hfr _ (by omega) (by omega)).trans hMo))) rfl (by omega) (by omega) ?_
    refine T_aload_n dX1_keepValues_140 rfl ?_
    refine T_dup dX1_keepValues_141 ?_
    refine T_getfield dX1_keepValues_142 zkf_2_23 (zup_ne (by omega) (zup_ne (by omega) (zup_ne (by omega) ((hfr _ (by omega) (by omega)).trans hE)))) rfl ?_
    refine T_iconst dX1_keepValues_145 (by decide) ?_
    refine T_iadd dX1_keepValues_146 ⟨by omega, by omega⟩ ?_
    refine T_putfield dX1_keepValues_147 zkf_2_23 (zup_ne (by omega) (zup_ne (by omega) (zup_ne (by omega) ((hfr _ (by omega) (by omega)).trans hE)))) (Nat.le_of_ble_eq_true rfl) (by omega) rfl (fun hf => absurd hf (by decide)) rfl ?_
    refine T_vret dX1_keepValues_150 rfl ?_
    exact hQ _ _ _ (fun k hk => hu k (by omega)) (fun k hk hkz => by rw [zfu_ne hkz]; exact hd1 k (by omega)) zfu_self zup_self (zup_ne (by omega) (zup_ne (by omega) zup_self)) (zup_ne (by omega) zup_self) (zup_ne (by omega) (zup_ne (by omega) (zup_ne (by omega) (zup_ne (by omega) h1)))) (zup_ne (by omega) (zup_ne (by omega) (zup_ne (by omega) zup_self))) (fun q q0 q1 q2 q3 q4 => ((zup_nf q0).trans ((zup_nf q2).trans ((zup_nf q1).trans ((zup_nf q4).trans ((hfr _ q3 q4).trans rfl))))))
  · refine T_aload_n dX1_keepValues_40 rfl ?_
    refine T_getfield dX1_keepValues_41 zkf_2_11 ((hfr _ (by omega) (by omega)).trans hE) rfl ?_
    refine T_aload_n dX1_keepValues_44 rfl ?_
    refine T_getfield dX1_keepValues_45 zkf_2_23 ((hfr _ (by omega) (by omega)).trans hE) rfl ?_
    refine T_aaloadN (m := z) (r := some (e + z + 2)) dX1_keepValues_48 ((hfr _ (by omega) (by omega)).trans hR) rfl (by omega) (by rw [if_pos (by omega)]; congr 1; omega) ?_
    refine T_iload dX1_keepValues_49 rfl ?_
    refine T_iload_n dX1_keepValues_51 rfl ?_
    refine T_aload_n dX1_keepValues_52 rfl ?_
    refine T_getfield dX1_keepValues_53 zkf_2_30 ((hfr _ (by omega) (by omega)).trans hE) rfl ?_
    refine T_iload dX1_keepValues_56 rfl ?_
    refine T_ialoadN (m := j) dX1_keepValues_58 ((hfr _ (by omega) (by omega)).trans hVa) rfl (by omega) ?_
    have bv := hvb j (by omega)
    have m1 := zmul_le (show 0 ≤ zinv p (v q) by omega) (show zinv p (v q) ≤ 32 by omega) bv.1 (show v j ≤ 32 by omega)
    refine T_imul dX1_keepValues_59 (zmulR (by omega) (by omega) (by omega) (by omega)) ?_
    refine T_aload_n dX1_keepValues_60 rfl ?_
    refine T_getfield dX1_keepValues_61 zkf_2_36 ((hfr _ (by omega) (by omega)).trans hE) rfl ?_
    refine T_getfield dX1_keepValues_64 zkf_2_76 ((hfr _ (by omega) (by omega)).trans hP0) rfl ?_
    refine T_iremN dX1_keepValues_67 ⟨by omega, by omega⟩ (by omega) ?_
    have r67 := zmod_bd ((zinv p (v q)) * (v j)) p (by omega)
    refine T_iastoreN (m := j) dX1_keepValues_68 h1 rfl (by omega) (by omega) ?_
    refine T_aload_n dX1_keepValues_69 rfl ?_
    refine T_getfield dX1_keepValues_70 zkf_2_16 (zup_ne (by omega) ((hfr _ (by omega) (by omega)).trans hE)) rfl ?_
    refine T_aload_n dX1_keepValues_73 rfl ?_
    refine T_getfield dX1_keepValues_74 zkf_2_23 (zup_ne (by omega) ((hfr _ (by omega) (by omega)).trans hE)) rfl ?_
    refine T_aaloadN (m := z) (r := some (e + z + 11)) dX1_keepValues_77 (zup_ne (by omega) ((hfr _ (by omega) (by omega)).trans hO)) rfl (by omega) (by rw [if_pos (by omega)]; congr 1; omega) ?_
    refine T_iload dX1_keepValues_78 rfl ?_
    refine T_iload dX1_keepValues_80 rfl ?_
    refine T_aload_n dX1_keepValues_82 rfl ?_
    refine T_getfield dX1_keepValues_83 zkf_2_33 (zup_ne (by omega) ((hfr _ (by omega) (by omega)).trans hE)) rfl ?_
    refine T_iload dX1_keepValues_86 rfl ?_
    refine T_ialoadN (m := j) dX1_keepValues_88 (zup_ne (by omega) ((hfr _ (by omega) (by omega)).trans hCo)) rfl (by omega) ?_
    have bc := hcb j (by omega)
    have m2 := zmul_le (show 0 ≤ p - zinv p (v q) by omega) (show p - zinv p (v q) ≤ 32 by omega) bc.1 (show cb j ≤ 32 by omega)
    refine T_imul dX1_keepValues_89 (zmulR (by omega) (by omega) (by omega) (by omega)) ?_
    refine T_aload_n dX1_keepValues_90 rfl ?_
    refine T_getfield dX1_keepValues_91 zkf_2_36 (zup_ne (by omega) ((hfr _ (by omega) (by omega)).trans hE)) rfl ?_
    refine T_getfield dX1_keepValues_94 zkf_2_76 (zup_ne (by omega) ((hfr _ (by omega) (by omega)).trans hP0)) rfl ?_
    refine T_iremN dX1_keepValues_97 ⟨by omega, by omega⟩ (by omega) ?_
    have r97 := zmod_bd ((p - zinv p (v q)) * (cb j)) p (by omega)
    refine T_iastoreN (m := j) dX1_keepValues_98 (zup_ne (by omega) h2) rfl (by omega) (by omega) ?_
    refine T_iinc dX1_keepValues_99 rfl ⟨by omega, by omega⟩ ?_
    refine T_goto dX1_keepValues_102 (t := 28) rfl ?_
    exact ih _ (by omega) (j + 1) _ _ rfl _ (zup_ne (by omega) zup_self) zup_self (fun q q0 q1 => ((zup_nf q1).trans ((zup_nf q0).trans ((hfr _ q0 q1).trans rfl)))) (by omega) (zfu_below (s := fun k => zinv p (v q) * v k % p) hu rfl) (zfu_below (s := fun k => (p - zinv p (v q)) * cb k % p) hd1 rfl) 
set_option maxHeartbeats 4000000 in
set_option maxRecDepth 100000 in
theorem m_X1_keepValues {n0 n k : Nat} {g : Nat → zV} {h : zHp} {Q : Option zV → Nat → Nat → zHp → Prop} {b e s z : Nat} {p : Int} {m q : Nat} {v cb pv mo R0 O0 : Nat → Int} (hE : h e = some (.inl (2, [.inr (some b), .inr (some (e + 1)), .inr (some (e + 10)), .inr (some (e + 19)), .inl (z : Int), .inr (some (e + 20)), .inr (some (e + 21)), .inr (some (e + 22))]))) (hP0 : h b = some (.inl (6, [.inl p, .inl (s : Int), .inr (some (b + 1)), .inr (some (b + 2))]))) (hR : h (e + 1) = some (.inr (.inr (99, 8, (fun i => if i < 8 then some (e + 1 + 1 + i) else none))))) (hO : h (e + 10) = some (.inr (.inr (99, 8, (fun i => if i < 8 then some (e + 10 + 1 + i) else none))))) (hPv : h (e + 19) = some (.inr (.inl (0, 8, pv)))) (hMo : h (e + 20) = some (.inr (.inl (0, 8, mo)))) (hVa : h (e + 21) = some (.inr (.inl (0, 8, v)))) (hCo : h (e + 22) = some (.inr (.inl (0, 8, cb)))) (hR0 : h (e + z + 2) = some (.inr (.inl (0, 8, R0)))) (hO0 : h (e + z + 11) = some (.inr (.inl (0, 8, O0)))) (hs : s ≤ 8) (hp : zprime p) (hd : b + 3 ≤ e ∨ e + 23 ≤ b) (hw : n0 ≤ e) (hz : z < 8) (hq : q < s) (hv0 : v q ≠ 0) (hvb : ∀ k, k < s → 0 ≤ v k ∧ v k < p) (hcb : ∀ k, k < s → 0 ≤ cb k ∧ cb k < p) (hQ : ∀ (R' O' : Nat → Int) (h' : zHp), (∀ k, k < s → R' k = zinv p (v q) * v k % p) → (∀ k, k < s → k ≠ z → O' k = (p - zinv p (v q)) * cb k % p) → (O' z = zinv p (v q)) → h' e = some (.inl (2, [.inr (some b), .inr (some (e + 1)), .inr (some (e + 10)), .inr (some (e + 19)), .inl ((z : Int) + 1), .inr (some (e + 20)), .inr (some (e + 21)), .inr (some (e + 22))])) → h' (e + 19) = some (.inr (.inl (0, 8, (zfu pv z (q : Int))))) → h' (e + 20) = some (.inr (.inl (0, 8, (zfu mo z (m : Int))))) → h' (e + z + 2) = some (.inr (.inl (0, 8, R'))) → h' (e + z + 11) = some (.inr (.inl (0, 8, O'))) → (∀ q : Nat, q ≠ e → q ≠ (e + 19) → q ≠ (e + 20) → q ≠ (e + z + 2) → q ≠ (e + z + 11) → h' q = h q) → Q none n k h') : ZT n0 g mX1_keepValues 0 (zloc mX1_keepValues [.inr (some e), .inl (m : Int), .inl (q : Int)]) [] n k h Q := by
  show ZT n0 g mX1_keepValues 0 [some (.inr (some e)), some (.inl (m : Int)), some (.inl (q : Int)), none, none, none] [] n k h Q
  have hpb := hp.bd
  have hqb := hvb q hq
  have hz3 := zinv_spec (v := v q) hp (by omega) hqb.2
  refine T_aload_n dX1_keepValues_0 rfl ?_
  refine T_getfield dX1_keepValues_1 zkf_2_36 hE rfl ?_
  refine T_aload_n dX1_keepValues_4 rfl ?_
  refine T_getfield dX1_keepValues_5 zkf_2_30 hE rfl ?_
  refine T_iload_n dX1_keepValues_8 rfl ?_
  refine T_ialoadN (m := q) dX1_keepValues_9 hVa rfl (by omega) ?_
  refine T_callV dX1_keepValues_10 zkm_2_83 (Or.inl rfl) rfl hP0 ⟨Nat.le_of_ble_eq_true rfl, rfl⟩ rfl (Nat.le_of_ble_eq_true rfl) ?_
  refine m_X5_inverse hP0 hp (by omega) ?_
  refine T_istore_n dX1_keepValues_13 (Nat.le_of_ble_eq_true rfl) ?_
  refine T_aload_n dX1_keepValues_14 rfl ?_
  refine T_getfield dX1_keepValues_15 zkf_2_36 hE rfl ?_
  refine T_getfield dX1_keepValues_18 zkf_2_76 hP0 rfl ?_
  refine T_iload_n dX1_keepValues_21 rfl ?_
  refine T_isub dX1_keepValues_22 ⟨by omega, by omega⟩ ?_
  refine T_istore dX1_keepValues_23 (Nat.le_of_ble_eq_true rfl) ?_
  refine T_iconst dX1_keepValues_25 (by decide) ?_
  refine T_istore dX1_keepValues_26 (Nat.le_of_ble_eq_true rfl) ?_
  exact m_X1_keepValues_28 hE hP0 hR hO hPv hMo hVa hCo hR0 hO0 hs hp hd hw hz hq hv0 hvb hcb hQ _ 0 R0 O0 rfl _ hR0 hO0 (fun q q0 q1 => rfl) (by omega) (fun i hi => absurd hi (Nat.not_lt_zero i)) (fun i hi => absurd hi (Nat.not_lt_zero i)) 
set_option maxHeartbeats 4000000 in
set_option maxRecDepth 100000 in
theorem m_X1_keepIfIndependent_2 {n0 n k : Nat} {g : Nat → zV} {h : zHp} {Q : Option zV → Nat → Nat → zHp → Prop} {b e s z : Nat} {p : Int} {m : Nat} {v cb pv : Nat → Int} {piv : Nat → Nat} {RR OO : Nat → Nat → Int} {mo xs ys : Nat → Int} (hE : h e = some (.inl (2, [.inr (some b), .inr (some (e + 1)), .inr (some (e + 10)), .inr (some (e + 19)), .inl (z : Int), .inr (some (e + 20)), .inr (some (e + 21)), .inr (some (e + 22))]))) (hP0 : h b = some (.inl (6, [.inl p, .inl (s : Int), .inr (some (b + 1)), .inr (some (b + 2))]))) (hP1 : h (b + 1) = some (.inr (.inl (0, 8, xs)))) (hP2 : h (b + 2) = some (.inr (.inl (0, 8, ys)))) (hR : h (e + 1) = some (.inr (.inr (99, 8, (fun i => if i < 8 then some (e + 1 + 1 + i) else none))))) (hO : h (e + 10) = some (.inr (.inr (99, 8, (fun i => if i < 8 then some (e + 10 + 1 + i) else none))))) (hPv : h (e + 19) = some (.inr (.inl (0, 8, pv)))) (hMo : h (e + 20) = some (.inr (.inl (0, 8, mo)))) (hVa : h (e + 21) = some (.inr (.inl (0, 8, v)))) (hCo : h (e + 22) = some (.inr (.inl (0, 8, cb)))) (hs : s ≤ 8) (hp : zprime p) (hxs : ∀ j, j < s → 0 ≤ xs j ∧ xs j < p) (hys : ∀ j, j < s → 0 ≤ ys j ∧ ys j < p) (hd : b + 3 ≤ e ∨ e + 23 ≤ b) (hw : n0 ≤ e) (hz : z ≤ 8) (hm : m < 81) (hRR : ∀ r, r < 8 → h (e + r + 2) = some (.inr (.inl (0, 8, RR r)))) (hOO : ∀ r, r < 8 → h (e + r + 11) = some (.inr (.inl (0, 8, OO r)))) (hRb : ∀ r, r < z → ∀ k, k < s → 0 ≤ RR r k ∧ RR r k < p) (hOb : ∀ r, r < z → ∀ k, k < s → 0 ≤ OO r k ∧ OO r k < p) (hpv : ∀ r, r < z → pv r = (piv r : Int) ∧ piv r < s) (hfull : ∀ q, q < s → (zrv p RR piv (fun k => zmon p (xs k) (ys k) m) z) q ≠ 0 → z < 8) (hF : ∀ (v' cb' : Nat → Int) (h' : zHp), (∀ k, k < s → (zrv p RR piv (fun k => zmon p (xs k) (ys k) m) z) k = 0) → (∀ k, k < s → cb' k = (zrc p RR OO piv (fun k => zmon p (xs k) (ys k) m) z) k) → h' (e + 21) = some (.inr (.inl (0, 8, v'))) → h' (e + 22) = some (.inr (.inl (0, 8, cb'))) → (∀ q : Nat, q ≠ (e + 21) → q ≠ (e + 22) → h' q = h q) → Q (some (.inl 0)) n k h') (hT : ∀ (q : Nat) (v' cb' R' O' : Nat → Int) (h' : zHp), (q < s ∧ (zrv p RR piv (fun k => zmon p (xs k) (ys k) m) z) q ≠ 0 ∧ ∀ i, i < q → (zrv p RR piv (fun k => zmon p (xs k) (ys k) m) z) i = 0) → (∀ k, k < s → R' k = zinv p ((zrv p RR piv (fun k => zmon p (xs k) (ys k) m) z) q) * (zrv p RR piv (fun k => zmon p (xs k) (ys k) m) z) k % p) → (∀ k, k < s → k ≠ z → O' k = (p - zinv p ((zrv p RR piv (fun k => zmon p (xs k) (ys k) m) z) q)) * (zrc p RR OO piv (fun k => zmon p (xs k) (ys k) m) z) k % p) → (O' z = zinv p ((zrv p RR piv (fun k => zmon p (xs k) (ys k) m) z) q)) → h' e = some (.inl (2, [.inr (some b), .inr (some (e + 1)), .inr (some (e + 10)), .inr (some (e + 19)), .inl ((z : Int) + 1), .inr (some (e + 20)), .inr (some (e + 21)), .inr (some (e + 22))])) → h' (e + 19) = some (.inr (.inl (0, 8, (zfu pv z (q : Int))))) → h' (e + 20) = some (.inr (.inl (0, 8, (zfu mo z (m : Int))))) → h' (e + z + 2) = some (.inr (.inl (0, 8, R'))) → h' (e + z + 11) = some (.inr (.inl (0, 8, O'))) → h' (e + 21) = some (.inr (.inl (0, 8, v'))) → h' (e + 22) = some (.inr (.inl (0, 8, cb'))) → (∀ q : Nat, q ≠ e → q ≠ (e + 19) → q ≠ (e + 20) → q ≠ (e + z + 2) → q ≠ (e + z + 11) → q ≠ (e + 21) → q ≠ (e + 22) → h' q = h q) → Q (some (.inl 1)) n k h') : ∀ (d : Nat) (j : Nat) (u : Nat → Int), s - j = d → ∀ h1 : zHp, h1 (e + 21) = some (.inr (.inl (0, 8, u))) → (∀ q : Nat, q ≠ (e + 21) → h1 q = h q) → (j ≤ s) → (∀ k, k < j → u k = zmon p (xs k) (ys k) m) → ZT n0 g mX1_keepIfIndependent 2 [some (.inr (some e)), some (.inl (m : Int)), some (.inl (j : Int))] [] n k h1 Q := by
  intro d
  induction d using Nat.strongRecOn with | _ d ih => ?_
  intro j u hd0 h1 h1 hfr hj hu
  subst hd0
  have hpb := hp.bd
  refine T_iload_n dX1_keepIfIndependent_2 rfl ?_
  refine T_aload_n dX1_keepIfIndependent_3 rfl ?_
  refine T_getfield dX1_keepIfIndependent_4 zkf_2_36 ((hfr _ (by omega)).trans hE) rfl ?_
  refine T_getfield dX1_keepIfIndependent_7 zkf_2_52 ((hfr _ (by omega)).trans hP0) rfl ?_
  refine T_icmp_ge dX1_keepIfIndependent_10 (t := 34) rfl (fun c10 => ?_) (fun c10 => ?_)
  · have hu : ∀ k, k < s → u k = zmon p (xs k) (ys k) m := fun k hk => hu k (by omega)
    have hub : ∀ k, k < s → 0 ≤ u k ∧ u k < p := fun k hk => by rw [hu k hk]; exact zmon_bd hpb.1 m
    have ext1 : ∀ k, k < s → zrv p RR piv u z k = (zrv p RR piv (fun k => zmon p (xs k) (ys k) m) z) k := zrv_ext hu z (fun r hr => ⟨rfl, (hpv r hr).2⟩) (fun r hr k hk => rfl)
    have ext2 : ∀ k, k < s → zrc p RR OO piv u z k = (zrc p RR OO piv (fun k => zmon p (xs k) (ys k) m) z) k := zrc_ext hu z (fun r hr => ⟨rfl, (hpv r hr).2⟩) (fun r hr k hk => rfl) (fun r hr k hk => rfl)
    refine T_aload_n dX1_keepIfIndependent_34 rfl ?_
    refine T_callV dX1_keepIfIndependent_35 zkm_2_59 (Or.inl rfl) rfl ((hfr _ (by omega)).trans hE) ⟨Nat.le_of_ble_eq_true rfl, rfl⟩ rfl (Nat.le_of_ble_eq_true rfl) ?_
    refine m_X1_reduceValues ((hfr _ (by omega)).trans hE) ((hfr _ (by omega)).trans hP0) ((hfr _ (by omega)).trans hR) ((hfr _ (by omega)).trans hO) ((hfr _ (by omega)).trans hPv) h1 ((hfr _ (by omega)).trans hCo) (by omega) (by omega) (by omega) (by omega) (by omega) (fun r hr => (hfr _ (by omega)).trans (hRR r hr)) (fun r hr => (hfr _ (by omega)).trans (hOO r hr)) hRb hOb hpv hub (fun v'35 cb'35 hh35 k35a k35b k35c f35a f35b fr35 => ?_)
    have w1 : ∀ k, k < s → v'35 k = (zrv p RR piv (fun k => zmon p (xs k) (ys k) m) z) k := fun k hk => by rw [k35a k hk, ext1 k hk]
    have w2 : ∀ k, k < s → cb'35 k = (zrc p RR OO piv (fun k => zmon p (xs k) (ys k) m) z) k := fun k hk => by rw [k35b k hk, ext2 k hk]
    refine T_aload_n dX1_keepIfIndependent_38 rfl ?_
    refine T_callV dX1_keepIfIndependent_39 zkm_2_62 (Or.inl rfl) rfl ((fr35 _ (by omega) (by omega)).trans ((hfr _ (by omega)).trans hE)) ⟨Nat.le_of_ble_eq_true rfl, rfl⟩ rfl (Nat.le_of_ble_eq_true rfl) ?_
    refine m_X1_firstNonzeroValue ((fr35 _ (by omega) (by omega)).trans ((hfr _ (by omega)).trans hE)) ((fr35 _ (by omega) (by omega)).trans ((hfr _ (by omega)).trans hP0)) f35a (by omega) (fun q39 k39a k39b k39c => ?_) (fun k39a_2 => ?_)
    · refine T_istore_n dX1_keepIfIndependent_42 (Nat.le_of_ble_eq_true rfl) ?_
      refine T_iload_n dX1_keepIfIndependent_43 rfl ?_
      refine T_iconst dX1_keepIfIndependent_44 (by decide) ?_
      refine T_icmp_eq dX1_keepIfIndependent_45 (t := 57) rfl (fun hc => absurd hc (by omega)) (fun _ => ?_)
      have q2 : (zrv p RR piv (fun k => zmon p (xs k) (ys k) m) z) q39 ≠ 0 := by rw [← w1 q39 k39a]; exact k39b
      have hz9 : z < 8 := hfull q39 k39a q2
      refine T_aload_n dX1_keepIfIndependent_48 rfl ?_
      refine T_getfield dX1_keepIfIndependent_49 zkf_2_23 ((fr35 _ (by omega) (by omega)).trans ((hfr _ (by omega)).trans hE)) rfl ?_
      refine T_bipush dX1_keepIfIndependent_52 (by decide) ?_
      refine T_icmp_lt dX1_keepIfIndependent_54 (t := 59) rfl (fun _ => ?_) (fun hc => absurd hc (by omega))
      refine T_aload_n dX1_keepIfIndependent_59 rfl ?_
      refine T_iload_n dX1_keepIfIndependent_60 rfl ?_
      refine T_iload_n dX1_keepIfIndependent_61 rfl ?_
      refine T_callV dX1_keepIfIndependent_62 zkm_2_66 (Or.inl rfl) rfl ((fr35 _ (by omega) (by omega)).trans ((hfr _ (by omega)).trans hE)) ⟨Nat.le_of_ble_eq_true rfl, rfl⟩ rfl (Nat.le_of_ble_eq_true rfl) ?_
      refine m_X1_keepValues ((fr35 _ (by omega) (by omega)).trans ((hfr _ (by omega)).trans hE)) ((fr35 _ (by omega) (by omega)).trans ((hfr _ (by omega)).trans hP0)) ((fr35 _ (by omega) (by omega)).trans ((hfr _ (by omega)).trans hR)) ((fr35 _ (by omega) (by omega)).trans ((hfr _ (by omega)).trans hO)) ((fr35 _ (by omega) (by omega)).trans ((hfr _ (by omega)).trans hPv)) ((fr35 _ (by omega) (by omega)).trans ((hfr _ (by omega)).trans hMo)) f35a f35b ((fr35 _ (by omega) (by omega)).trans ((hfr _ (by omega)).trans (hRR z (by omega)))) ((fr35 _ (by omega) (by omega)).trans ((hfr _ (by omega)).trans (hOO z (by omega)))) (by omega) hp (by omega) (by omega) (by omega) (by omega) k39b (fun k hk => by rw [k35a k hk]; exact zrv_bd hpb.1 (hub k hk) z) (fun k hk => by rw [k35b k hk]; exact zrc_bd hpb.1 z) (fun R'62 O'62 hh62 k62a k62b k62c f62a f62b f62c f62d f62e fr62 => ?_)
      refine T_iconst dX1_keepIfIndependent_65 (by decide) ?_
      refine T_iret dX1_keepIfIndependent_66 rfl ?_
      exact hT q39 _ _ _ _ _ ⟨k39a, q2, fun i hi => by rw [← w1 i (by omega)]; exact k39c i hi⟩ (fun k hk => by rw [k62a k hk, w1 _ k39a, w1 k hk]) (fun k hk hkz => by rw [k62b k hk hkz, w1 _ k39a, w2 k hk]) (by rw [k62c, w1 _ k39a]) f62a f62b f62c f62d f62e ((fr62 _ (by omega) (by omega) (by omega) (by omega) (by omega)).trans f35a) ((fr62 _ (by omega) (by omega) (by omega) (by omega) (by omega)).trans f35b) (fun q q0 q1 q2 q3 q4 q5 q6 => ((fr62 _ q0 q1 q2 q3 q4).trans ((fr35 _ q5 q6).trans ((hfr _ q5).trans rfl))))
    · refine T_istore_n dX1_keepIfIndependent_42 (Nat.le_of_ble_eq_true rfl) ?_
      refine T_iload_n dX1_keepIfIndependent_43 rfl ?_
      refine T_iconst dX1_keepIfIndependent_44 (by decide) ?_
      refine T_icmp_eq dX1_keepIfIndependent_45 (t := 57) rfl (fun _ => ?_) (fun hc => absurd hc (by decide))
      refine T_iconst dX1_keepIfIndependent_57 (by decide) ?_
      refine T_iret dX1_keepIfIndependent_58 rfl ?_
      exact hF _ _ _ (fun k hk => by rw [← w1 k hk]; exact k39a_2 k hk) w2 f35a f35b (fun q q0 q1 => ((fr35 _ q0 q1).trans ((hfr _ q0).trans rfl)))
  · refine T_aload_n dX1_keepIfIndependent_13 rfl ?_
    refine T_getfield dX1_keepIfIndependent_14 zkf_2_30 ((hfr _ (by omega)).trans hE) rfl ?_
    refine T_iload_n dX1_keepIfIndependent_17 rfl ?_
    refine T_aload_n dX1_keepIfIndependent_18 rfl ?_
    refine T_getfield dX1_keepIfIndependent_19 zkf_2_36 ((hfr _ (by omega)).trans hE) rfl ?_
    refine T_iload_n dX1_keepIfIndependent_22 rfl ?_
    refine T_iload_n dX1_keepIfIndependent_23 rfl ?_
    refine T_callV dX1_keepIfIndependent_24 zkm_2_55 (Or.inl rfl) rfl ((hfr _ (by omega)).trans hP0) ⟨Nat.le_of_ble_eq_true rfl, rfl⟩ rfl (Nat.le_of_ble_eq_true rfl) ?_
    refine m_X5_monomialAt ((hfr _ (by omega)).trans hP0) ((hfr _ (by omega)).trans hP1) ((hfr _ (by omega)).trans hP2) (by omega) (by omega) hxs hys (by omega) (by omega) ?_
    refine T_iastoreN (m := j) dX1_keepIfIndependent_27 h1 rfl (by omega) (by omega) ?_
    refine T_iinc dX1_keepIfIndependent_28 rfl ⟨by omega, by omega⟩ ?_
    refine T_goto dX1_keepIfIndependent_31 (t := 2) rfl ?_
    exact ih _ (by omega) (j + 1) _ rfl _ zup_self (fun q q0 => ((zup_nf q0).trans ((hfr _ q0).trans rfl))) (by omega) (zfu_below (s := fun k => zmon p (xs k) (ys k) m) hu rfl) 
set_option maxHeartbeats 4000000 in
set_option maxRecDepth 100000 in
theorem m_X1_keepIfIndependent {n0 n k : Nat} {g : Nat → zV} {h : zHp} {Q : Option zV → Nat → Nat → zHp → Prop} {b e s z : Nat} {p : Int} {m : Nat} {v cb pv : Nat → Int} {piv : Nat → Nat} {RR OO : Nat → Nat → Int} {mo xs ys : Nat → Int} (hE : h e = some (.inl (2, [.inr (some b), .inr (some (e + 1)), .inr (some (e + 10)), .inr (some (e + 19)), .inl (z : Int), .inr (some (e + 20)), .inr (some (e + 21)), .inr (some (e + 22))]))) (hP0 : h b = some (.inl (6, [.inl p, .inl (s : Int), .inr (some (b + 1)), .inr (some (b + 2))]))) (hP1 : h (b + 1) = some (.inr (.inl (0, 8, xs)))) (hP2 : h (b + 2) = some (.inr (.inl (0, 8, ys)))) (hR : h (e + 1) = some (.inr (.inr (99, 8, (fun i => if i < 8 then some (e + 1 + 1 + i) else none))))) (hO : h (e + 10) = some (.inr (.inr (99, 8, (fun i => if i < 8 then some (e + 10 + 1 + i) else none))))) (hPv : h (e + 19) = some (.inr (.inl (0, 8, pv)))) (hMo : h (e + 20) = some (.inr (.inl (0, 8, mo)))) (hVa : h (e + 21) = some (.inr (.inl (0, 8, v)))) (hCo : h (e + 22) = some (.inr (.inl (0, 8, cb)))) (hs : s ≤ 8) (hp : zprime p) (hxs : ∀ j, j < s → 0 ≤ xs j ∧ xs j < p) (hys : ∀ j, j < s → 0 ≤ ys j ∧ ys j < p) (hd : b + 3 ≤ e ∨ e + 23 ≤ b) (hw : n0 ≤ e) (hz : z ≤ 8) (hm : m < 81) (hRR : ∀ r, r < 8 → h (e + r + 2) = some (.inr (.inl (0, 8, RR r)))) (hOO : ∀ r, r < 8 → h (e + r + 11) = some (.inr (.inl (0, 8, OO r)))) (hRb : ∀ r, r < z → ∀ k, k < s → 0 ≤ RR r k ∧ RR r k < p) (hOb : ∀ r, r < z → ∀ k, k < s → 0 ≤ OO r k ∧ OO r k < p) (hpv : ∀ r, r < z → pv r = (piv r : Int) ∧ piv r < s) (hfull : ∀ q, q < s → (zrv p RR piv (fun k => zmon p (xs k) (ys k) m) z) q ≠ 0 → z < 8) (hF : ∀ (v' cb' : Nat → Int) (h' : zHp), (∀ k, k < s → (zrv p RR piv (fun k => zmon p (xs k) (ys k) m) z) k = 0) → (∀ k, k < s → cb' k = (zrc p RR OO piv (fun k => zmon p (xs k) (ys k) m) z) k) → h' (e + 21) = some (.inr (.inl (0, 8, v'))) → h' (e + 22) = some (.inr (.inl (0, 8, cb'))) → (∀ q : Nat, q ≠ (e + 21) → q ≠ (e + 22) → h' q = h q) → Q (some (.inl 0)) n k h') (hT : ∀ (q : Nat) (v' cb' R' O' : Nat → Int) (h' : zHp), (q < s ∧ (zrv p RR piv (fun k => zmon p (xs k) (ys k) m) z) q ≠ 0 ∧ ∀ i, i < q → (zrv p RR piv (fun k => zmon p (xs k) (ys k) m) z) i = 0) → (∀ k, k < s → R' k = zinv p ((zrv p RR piv (fun k => zmon p (xs k) (ys k) m) z) q) * (zrv p RR piv (fun k => zmon p (xs k) (ys k) m) z) k % p) → (∀ k, k < s → k ≠ z → O' k = (p - zinv p ((zrv p RR piv (fun k => zmon p (xs k) (ys k) m) z) q)) * (zrc p RR OO piv (fun k => zmon p (xs k) (ys k) m) z) k % p) → (O' z = zinv p ((zrv p RR piv (fun k => zmon p (xs k) (ys k) m) z) q)) → h' e = some (.inl (2, [.inr (some b), .inr (some (e + 1)), .inr (some (e + 10)), .inr (some (e + 19)), .inl ((z : Int) + 1), .inr (some (e + 20)), .inr (some (e + 21)), .inr (some (e + 22))])) → h' (e + 19) = some (.inr (.inl (0, 8, (zfu pv z (q : Int))))) → h' (e + 20) = some (.inr (.inl (0, 8, (zfu mo z (m : Int))))) → h' (e + z + 2) = some (.inr (.inl (0, 8, R'))) → h' (e + z + 11) = some (.inr (.inl (0, 8, O'))) → h' (e + 21) = some (.inr (.inl (0, 8, v'))) → h' (e + 22) = some (.inr (.inl (0, 8, cb'))) → (∀ q : Nat, q ≠ e → q ≠ (e + 19) → q ≠ (e + 20) → q ≠ (e + z + 2) → q ≠ (e + z + 11) → q ≠ (e + 21) → q ≠ (e + 22) → h' q = h q) → Q (some (.inl 1)) n k h') : ZT n0 g mX1_keepIfIndependent 0 (zloc mX1_keepIfIndependent [.inr (some e), .inl (m : Int)]) [] n k h Q := by
  show ZT n0 g mX1_keepIfIndependent 0 [some (.inr (some e)), some (.inl (m : Int)), none] [] n k h Q
  have hpb := hp.bd
  refine T_iconst dX1_keepIfIndependent_0 (by decide) ?_
  refine T_istore_n dX1_keepIfIndependent_1 (Nat.le_of_ble_eq_true rfl) ?_
  exact m_X1_keepIfIndependent_2 hE hP0 hP1 hP2 hR hO hPv hMo hVa hCo hs hp hxs hys hd hw hz hm hRR hOO hRb hOb hpv hfull hF hT _ 0 v rfl _ hVa (fun q q0 => rfl) (by omega) (fun i hi => absurd hi (Nat.not_lt_zero i)) 
