/-! ===== GroebnerFan$Polynomial: printed by wip/whole/gen/s_poly.py ===== -/
set_option maxHeartbeats 4000000 in
set_option maxRecDepth 100000 in
theorem m_X6_clear {n0 n k : Nat} {g : Nat → zV} {h : zHp} {Q : Option zV → Nat → Nat → zHp → Prop} {c : Nat} {f : Nat → Int} (hC0 : h c = some (.inl (7, [.inr (some (c + 1))]))) (hC1 : h (c + 1) = some (.inr (.inl (0, 81, f)))) (hw : n0 ≤ c) (hQ : ∀ (f' : Nat → Int) (h' : zHp), (∀ j, j < 81 → f' j = 0) → h' (c + 1) = some (.inr (.inl (0, 81, f'))) → (∀ q : Nat, q ≠ (c + 1) → h' q = h q) → Q none n k h') : ZT n0 g mX6_clear 0 (zloc mX6_clear [.inr (some c)]) [] n k h Q := by
  show ZT n0 g mX6_clear 0 [some (.inr (some c))] [] n k h Q
  refine T_aload_n dX6_clear_0 rfl ?_
  refine T_getfield dX6_clear_1 zkf_7_9 hC0 rfl ?_
  refine T_iconst dX6_clear_4 (by decide) ?_
  refine T_callS dX6_clear_5 zkm_7_15 ⟨Nat.le_of_ble_eq_true rfl, Nat.le_of_ble_eq_true rfl, rfl⟩ rfl (Nat.le_of_ble_eq_true rfl) ?_
  refine m_J7_fill_53178 hC1 (by omega) (by omega) (fun f'5 hh5 k5a f5a fr5 => ?_)
  refine T_vret dX6_clear_8 rfl ?_
  exact hQ _ _ k5a f5a (fun q q0 => ((fr5 _ q0).trans rfl))
set_option maxHeartbeats 4000000 in
set_option maxRecDepth 100000 in
theorem m_X6_countTerms_13 {n0 n k : Nat} {g : Nat → zV} {h : zHp} {Q : Option zV → Nat → Nat → zHp → Prop} {c : Nat} {f : Nat → Int} (hC0 : h c = some (.inl (7, [.inr (some (c + 1))]))) (hC1 : h (c + 1) = some (.inr (.inl (0, 81, f)))) (hQ : Q (some (.inl ((znz f 81) : Int))) n k h) : ∀ (d : Nat) (j : Nat) (v : Nat) (L5 : Option zV), 81 - j = d → (j ≤ 81) → (v = znz f j) → ZT n0 g mX6_countTerms 13 [some (.inr (some c)), some (.inl (v : Int)), some (.inr (some (c + 1))), some (.inl 81), some (.inl (j : Int)), L5] [] n k h Q := by
  intro d
  induction d using Nat.strongRecOn with | _ d ih => ?_
  intro j v L5 hd0 hj hv
  subst hd0
  have hb := zcnt_le (fun m => decide (f m ≠ 0)) j
  have hb : znz f j ≤ j := hb
  refine T_iload dX6_countTerms_13 rfl ?_
  refine T_iload_n dX6_countTerms_15 rfl ?_
  refine T_icmp_ge dX6_countTerms_16 (t := 39) rfl (fun c16 => ?_) (fun c16 => ?_)
  · refine T_iload_n dX6_countTerms_39 rfl ?_
    refine T_iret dX6_countTerms_40 rfl ?_
    rw [show v = znz f 81 by rw [hv, show j = 81 by omega]]
    exact hQ
  · refine T_aload_n dX6_countTerms_19 rfl ?_
    refine T_iload dX6_countTerms_20 rfl ?_
    refine T_ialoadN (m := j) dX6_countTerms_22 hC1 rfl (by omega) ?_
    refine T_istore dX6_countTerms_23 (Nat.le_of_ble_eq_true rfl) ?_
    refine T_iload dX6_countTerms_25 rfl ?_
    refine T_if_eq dX6_countTerms_27 (t := 33) rfl (fun c27 => ?_) (fun c27 => ?_)
    · refine T_iinc dX6_countTerms_33 rfl ⟨by omega, by omega⟩ ?_
      refine T_goto dX6_countTerms_36 (t := 13) rfl ?_
      exact ih _ (by omega) (j + 1) v _ rfl  (by omega) (by simp only [hv, znz, zcnt] at *; simp [*]) 
    · refine T_iinc dX6_countTerms_30 rfl ⟨by omega, by omega⟩ ?_
      refine T_iinc dX6_countTerms_33 rfl ⟨by omega, by omega⟩ ?_
      refine T_goto dX6_countTerms_36 (t := 13) rfl ?_
      exact ih _ (by omega) (j + 1) (v + 1) _ rfl  (by omega) (by simp only [hv, znz, zcnt] at *; simp [*]) 
set_option maxHeartbeats 4000000 in
set_option maxRecDepth 100000 in
theorem m_X6_countTerms {n0 n k : Nat} {g : Nat → zV} {h : zHp} {Q : Option zV → Nat → Nat → zHp → Prop} {c : Nat} {f : Nat → Int} (hC0 : h c = some (.inl (7, [.inr (some (c + 1))]))) (hC1 : h (c + 1) = some (.inr (.inl (0, 81, f)))) (hQ : Q (some (.inl ((znz f 81) : Int))) n k h) : ZT n0 g mX6_countTerms 0 (zloc mX6_countTerms [.inr (some c)]) [] n k h Q := by
  show ZT n0 g mX6_countTerms 0 [some (.inr (some c)), none, none, none, none, none] [] n k h Q
  refine T_iconst dX6_countTerms_0 (by decide) ?_
  refine T_istore_n dX6_countTerms_1 (Nat.le_of_ble_eq_true rfl) ?_
  refine T_aload_n dX6_countTerms_2 rfl ?_
  refine T_getfield dX6_countTerms_3 zkf_7_9 hC0 rfl ?_
  refine T_astore_n dX6_countTerms_6 (Nat.le_of_ble_eq_true rfl) ?_
  refine T_aload_n dX6_countTerms_7 rfl ?_
  refine T_arraylength dX6_countTerms_8 hC1 ?_
  refine T_istore_n dX6_countTerms_9 (Nat.le_of_ble_eq_true rfl) ?_
  refine T_iconst dX6_countTerms_10 (by decide) ?_
  refine T_istore dX6_countTerms_11 (Nat.le_of_ble_eq_true rfl) ?_
  exact m_X6_countTerms_13 hC0 hC1 hQ _ 0 0 _ rfl  (by omega) rfl 
set_option maxHeartbeats 4000000 in
set_option maxRecDepth 100000 in
theorem m_X6_valueAt_18 {n0 n k : Nat} {g : Nat → zV} {h : zHp} {Q : Option zV → Nat → Nat → zHp → Prop} {c : Nat} {f : Nat → Int} {b s i : Nat} {p : Int} {xs ys : Nat → Int} (hC0 : h c = some (.inl (7, [.inr (some (c + 1))]))) (hC1 : h (c + 1) = some (.inr (.inl (0, 81, f)))) (hP0 : h b = some (.inl (6, [.inl p, .inl (s : Int), .inr (some (b + 1)), .inr (some (b + 2))]))) (hP1 : h (b + 1) = some (.inr (.inl (0, 8, xs)))) (hP2 : h (b + 2) = some (.inr (.inl (0, 8, ys)))) (hp : 1 < p ∧ p < 32) (hx : 0 ≤ xs i ∧ xs i < p) (hy : 0 ≤ ys i ∧ ys i < p) (hf : ∀ m, m < 81 → 0 ≤ f m ∧ f m < 32) (hi : i < s ∧ s ≤ 8)  : ∀ (d : Nat) (u : Nat) (v : Int) (t : Nat) (w : Int), 9 - t = d → (u ≤ 8) → (v = hval p (xs i) (ys i) f u) → (t ≤ 9) → (w = hcol p (ys i) f (8 - u) t) → (∀ (w : Int) (t : Nat) , (w = hcol p (ys i) f (8 - u) 9) → ZT n0 g mX6_valueAt 59 [some (.inr (some c)), some (.inr (some b)), some (.inl (i : Int)), some (.inl v), some (.inl (8 - (u : Int))), some (.inl w), some (.inl (8 - (t : Int)))] [] n k h Q) → ZT n0 g mX6_valueAt 18 [some (.inr (some c)), some (.inr (some b)), some (.inl (i : Int)), some (.inl v), some (.inl (8 - (u : Int))), some (.inl w), some (.inl (8 - (t : Int)))] [] n k h Q := by
  intro d
  induction d using Nat.strongRecOn with | _ d ih => ?_
  intro u v t w hd0 hu hv ht hw kk59
  subst hd0
  have wb := hcol_bd (p := p) (y := ys i) (c := f) (i := 8 - u) hp.1 t
  rw [← hw] at wb
  refine T_iload dX6_valueAt_18 rfl ?_
  refine T_if_lt dX6_valueAt_20 (t := 59) rfl (fun c20 => ?_) (fun c20 => ?_)
  · exact kk59 w t (by rw [hw, show t = 9 by omega])
  · refine T_iload dX6_valueAt_23 rfl ?_
    refine T_aload_n dX6_valueAt_25 rfl ?_
    refine T_getfield dX6_valueAt_26 zkf_7_27 hP0 rfl ?_
    refine T_iload_n dX6_valueAt_29 rfl ?_
    refine T_ialoadN (m := i) dX6_valueAt_30 hP2 rfl (by omega) ?_
    have mb := zmul_le wb.1 (show w ≤ 32 by omega) hy.1 (show ys i ≤ 32 by omega)
    have fb := hf (9 * (8 - u) + (8 - t)) (by omega)
    refine T_imul dX6_valueAt_31 (zmulR (by omega) (by omega) (by omega) (by omega)) ?_
    refine T_aload_n dX6_valueAt_32 rfl ?_
    refine T_getfield dX6_valueAt_33 zkf_7_9 hC0 rfl ?_
    refine T_bipush dX6_valueAt_36 (by decide) ?_
    refine T_iload dX6_valueAt_38 rfl ?_
    refine T_imul dX6_valueAt_40 ⟨by omega, by omega⟩ ?_
    refine T_iload dX6_valueAt_41 rfl ?_
    refine T_iadd dX6_valueAt_43 ⟨by omega, by omega⟩ ?_
    refine T_ialoadN (m := (9 * (8 - u) + (8 - t))) dX6_valueAt_44 hC1 (by omega) (by omega) ?_
    refine T_iadd dX6_valueAt_45 ⟨by omega, by omega⟩ ?_
    refine T_aload_n dX6_valueAt_46 rfl ?_
    refine T_getfield dX6_valueAt_47 zkf_7_32 hP0 rfl ?_
    refine T_iremN dX6_valueAt_50 ⟨by omega, by omega⟩ (by omega) ?_
    have r50 := zmod_bd ((w * (ys i)) + (f (9 * (8 - u) + (8 - t)))) p (by omega)
    refine T_istore dX6_valueAt_51 (Nat.le_of_ble_eq_true rfl) ?_
    refine T_iinc dX6_valueAt_53 rfl ⟨by omega, by omega⟩ ?_
    refine T_goto dX6_valueAt_56 (t := 18) rfl ?_
    rw [show (8 - (t : Int) + -1) = 8 - ((t + 1 : Nat) : Int) by omega]
    exact ih _ (by omega) u v (t + 1) (((w * (ys i)) + (f (9 * (8 - u) + (8 - t)))) % p) rfl  (by omega) (by omega) (by omega) (by rw [hw]; rfl) kk59
set_option maxHeartbeats 4000000 in
set_option maxRecDepth 100000 in
theorem m_X6_valueAt_6 {n0 n k : Nat} {g : Nat → zV} {h : zHp} {Q : Option zV → Nat → Nat → zHp → Prop} {c : Nat} {f : Nat → Int} {b s i : Nat} {p : Int} {xs ys : Nat → Int} (hC0 : h c = some (.inl (7, [.inr (some (c + 1))]))) (hC1 : h (c + 1) = some (.inr (.inl (0, 81, f)))) (hP0 : h b = some (.inl (6, [.inl p, .inl (s : Int), .inr (some (b + 1)), .inr (some (b + 2))]))) (hP1 : h (b + 1) = some (.inr (.inl (0, 8, xs)))) (hP2 : h (b + 2) = some (.inr (.inl (0, 8, ys)))) (hp : 1 < p ∧ p < 32) (hx : 0 ≤ xs i ∧ xs i < p) (hy : 0 ≤ ys i ∧ ys i < p) (hf : ∀ m, m < 81 → 0 ≤ f m ∧ f m < 32) (hi : i < s ∧ s ≤ 8) (hQ : Q (some (.inl (hval p (xs i) (ys i) f 9))) n k h) : ∀ (d : Nat) (u : Nat) (v : Int) (L5 : Option zV) (L6 : Option zV), 9 - u = d → (u ≤ 9) → (v = hval p (xs i) (ys i) f u) → ZT n0 g mX6_valueAt 6 [some (.inr (some c)), some (.inr (some b)), some (.inl (i : Int)), some (.inl v), some (.inl (8 - (u : Int))), L5, L6] [] n k h Q := by
  intro d
  induction d using Nat.strongRecOn with | _ d ih => ?_
  intro u v L5 L6 hd0 hu hv
  subst hd0
  refine T_iload dX6_valueAt_6 rfl ?_
  refine T_if_lt dX6_valueAt_8 (t := 82) rfl (fun c8 => ?_) (fun c8 => ?_)
  · refine T_iload_n dX6_valueAt_82 rfl ?_
    refine T_iret dX6_valueAt_83 rfl ?_
    rw [hv, show u = 9 by omega]
    exact hQ
  · refine T_iconst dX6_valueAt_11 (by decide) ?_
    refine T_istore dX6_valueAt_12 (Nat.le_of_ble_eq_true rfl) ?_
    refine T_bipush dX6_valueAt_14 (by decide) ?_
    refine T_istore dX6_valueAt_16 (Nat.le_of_ble_eq_true rfl) ?_
    refine m_X6_valueAt_18 hC0 hC1 hP0 hP1 hP2 hp hx hy hf hi _ u v 0 0 rfl  (by omega) (by omega) (by omega) rfl (fun w59 t59 hw_59 => ?_)
    have wb := hcol_bd (p := p) (y := ys i) (c := f) (i := 8 - u) hp.1 9
    have vb := hval_bd (p := p) (x := xs i) (y := ys i) (c := f) hp.1 u
    rw [← hw_59] at wb
    rw [← hv] at vb
    refine T_iload_n dX6_valueAt_59 rfl ?_
    refine T_aload_n dX6_valueAt_60 rfl ?_
    refine T_getfield dX6_valueAt_61 zkf_7_36 hP0 rfl ?_
    refine T_iload_n dX6_valueAt_64 rfl ?_
    refine T_ialoadN (m := i) dX6_valueAt_65 hP1 rfl (by omega) ?_
    have mb := zmul_le vb.1 (show v ≤ 32 by omega) hx.1 (show xs i ≤ 32 by omega)
    refine T_imul dX6_valueAt_66 (zmulR (by omega) (by omega) (by omega) (by omega)) ?_
    refine T_iload dX6_valueAt_67 rfl ?_
    refine T_iadd dX6_valueAt_69 ⟨by omega, by omega⟩ ?_
    refine T_aload_n dX6_valueAt_70 rfl ?_
    refine T_getfield dX6_valueAt_71 zkf_7_32 hP0 rfl ?_
    refine T_iremN dX6_valueAt_74 ⟨by omega, by omega⟩ (by omega) ?_
    have r74 := zmod_bd ((v * (xs i)) + w59) p (by omega)
    refine T_istore_n dX6_valueAt_75 (Nat.le_of_ble_eq_true rfl) ?_
    refine T_iinc dX6_valueAt_76 rfl ⟨by omega, by omega⟩ ?_
    refine T_goto dX6_valueAt_79 (t := 6) rfl ?_
    rw [show (8 - (u : Int) + -1) = 8 - ((u + 1 : Nat) : Int) by omega]
    exact ih _ (by omega) (u + 1) (((v * (xs i)) + w59) % p) _ _ rfl  (by omega) (by rw [hv, hw_59]; rfl) 
set_option maxHeartbeats 4000000 in
set_option maxRecDepth 100000 in
theorem m_X6_valueAt {n0 n k : Nat} {g : Nat → zV} {h : zHp} {Q : Option zV → Nat → Nat → zHp → Prop} {c : Nat} {f : Nat → Int} {b s i : Nat} {p : Int} {xs ys : Nat → Int} (hC0 : h c = some (.inl (7, [.inr (some (c + 1))]))) (hC1 : h (c + 1) = some (.inr (.inl (0, 81, f)))) (hP0 : h b = some (.inl (6, [.inl p, .inl (s : Int), .inr (some (b + 1)), .inr (some (b + 2))]))) (hP1 : h (b + 1) = some (.inr (.inl (0, 8, xs)))) (hP2 : h (b + 2) = some (.inr (.inl (0, 8, ys)))) (hp : 1 < p ∧ p < 32) (hx : 0 ≤ xs i ∧ xs i < p) (hy : 0 ≤ ys i ∧ ys i < p) (hf : ∀ m, m < 81 → 0 ≤ f m ∧ f m < 32) (hi : i < s ∧ s ≤ 8) (hQ : Q (some (.inl (hval p (xs i) (ys i) f 9))) n k h) : ZT n0 g mX6_valueAt 0 (zloc mX6_valueAt [.inr (some c), .inr (some b), .inl (i : Int)]) [] n k h Q := by
  show ZT n0 g mX6_valueAt 0 [some (.inr (some c)), some (.inr (some b)), some (.inl (i : Int)), none, none, none, none] [] n k h Q
  refine T_iconst dX6_valueAt_0 (by decide) ?_
  refine T_istore_n dX6_valueAt_1 (Nat.le_of_ble_eq_true rfl) ?_
  refine T_bipush dX6_valueAt_2 (by decide) ?_
  refine T_istore dX6_valueAt_4 (Nat.le_of_ble_eq_true rfl) ?_
  exact m_X6_valueAt_6 hC0 hC1 hP0 hP1 hP2 hp hx hy hf hi hQ _ 0 0 _ _ rfl  (by omega) rfl 
