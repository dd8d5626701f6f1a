/-! ===== the reference: standard monomials and corners: printed by wip/whole/gen/s_ref3.py ===== -/
set_option maxHeartbeats 4000000 in
set_option maxRecDepth 100000 in
theorem m_X10_becomesStandard_119 {n0 n k : Nat} {g : Nat → zV} {h : zHp} {Q : Option zV → Nat → Nat → zHp → Prop} {m s z c : Nat} {p fk cn ln en ax nu wr sv sp ss : Int} {q0 q : Nat} {iS sd re cb pv ve fa : Nat → Int} (hM : h m = some (.inl (11, mOb m p (s : Int) fk (z : Int) (c : Int) cn ln en ax nu wr sv sp ss))) (hA5 : h (m + 5) = some (.inr (.inl (2, 81, iS)))) (hA6 : h (m + 6) = some (.inr (.inl (0, 8, sd)))) (hA7 : h (m + 7) = some (.inr (.inl (0, 64, re)))) (hA8 : h (m + 8) = some (.inr (.inl (0, 64, cb)))) (hA9 : h (m + 9) = some (.inr (.inl (0, 8, pv)))) (hA10 : h (m + 10) = some (.inr (.inl (0, 8, ve)))) (hA11 : h (m + 11) = some (.inr (.inl (0, 8, fa)))) (hs : s ≤ 8 ∧ z < s) (hp : zprime p) (hq : q < s ∧ q0 < 81) (hv : ∀ k, k < s → 0 ≤ ve k ∧ ve k < p) (hn : ve q ≠ 0) (hf : ∀ t, t < z → 0 ≤ fa t ∧ fa t < p) (hw : n0 ≤ m) (hQ : ∀ (re' cb' : Nat → Int) (h' : zHp), (∀ k, k < s → re' (8 * z + k) = zinv p (ve q) * ve k % p) → (∀ i, i < 8 * z → re' i = re i) → (∀ t, t < s → cb' (8 * z + t) = zrow p (zinv p (ve q)) z fa t) → (∀ r, r < z → cb' (8 * r + z) = 0) → (∀ r t, r < z → t < z → cb' (8 * r + t) = cb (8 * r + t)) → h' m = some (.inl (11, mOb m p (s : Int) fk ((z : Int) + 1) (c : Int) cn ln en ax nu wr sv sp ss)) → h' (m + 5) = some (.inr (.inl (2, 81, (zfu iS q0 1)))) → h' (m + 6) = some (.inr (.inl (0, 8, (zfu sd z (q0 : Int))))) → h' (m + 7) = some (.inr (.inl (0, 64, re'))) → h' (m + 8) = some (.inr (.inl (0, 64, cb'))) → h' (m + 9) = some (.inr (.inl (0, 8, (zfu pv z (q : Int))))) → (∀ q : Nat, q ≠ m → q ≠ (m + 5) → q ≠ (m + 6) → q ≠ (m + 7) → q ≠ (m + 8) → q ≠ (m + 9) → h' q = h q) → Q none n k h') : ∀ (d : Nat) (j : Nat) (re1 : Nat → Int) (cb1 : Nat → Int), z - j = d → ∀ h1 : zHp, h1 (m + 7) = some (.inr (.inl (0, 64, re1))) → h1 (m + 8) = some (.inr (.inl (0, 64, cb1))) → (∀ q : Nat, q ≠ (m + 7) → q ≠ (m + 8) → h1 q = h q) → (j ≤ z) → (∀ k, k < s → re1 (8 * z + k) = zinv p (ve q) * ve k % p) → (∀ i, i < 8 * z → re1 i = re i) → (∀ t, t < s → cb1 (8 * z + t) = zrow p (zinv p (ve q)) z fa t) → (∀ r t, r < z → t < z → cb1 (8 * r + t) = cb (8 * r + t)) → (∀ r, r < j → cb1 (8 * r + z) = 0) → ZT n0 g mX10_becomesStandard 119 [some (.inr (some m)), some (.inl (q0 : Int)), some (.inl (q : Int)), some (.inl (zinv p (ve q))), some (.inl (j : Int))] [] n k h1 Q := by
  intro d
  induction d using Nat.strongRecOn with | _ d ih => ?_
  intro j re1 cb1 hd0 h1 g7 g8 hfr hj h1 h2 h3 h4 h5
  subst hd0
  have hpb := hp.bd
  have hqb := hv q hq.1
  have hz3 := zinv_spec (v := ve q) hp (by omega) hqb.2
  refine T_iload dX10_becomesStandard_119 rfl ?_
  refine T_aload_n dX10_becomesStandard_121 rfl ?_
  refine T_getfield dX10_becomesStandard_122 zkf_11_140 ((hfr _ (by omega) (by omega)).trans hM) rfl ?_
  refine T_icmp_ge dX10_becomesStandard_125 (t := 150) rfl (fun c125 => ?_) (fun c125 => ?_)
  · refine T_aload_n dX10_becomesStandard_150 rfl ?_
    refine T_getfield dX10_becomesStandard_151 zkf_11_39 ((hfr _ (by omega) (by omega)).trans hM) rfl ?_
    refine T_aload_n dX10_becomesStandard_154 rfl ?_
    refine T_getfield dX10_becomesStandard_155 zkf_11_140 ((hfr _ (by omega) (by omega)).trans hM) rfl ?_
    refine T_iload_n dX10_becomesStandard_158 rfl ?_
    refine T_iastoreN (m := z) dX10_becomesStandard_159 ((hfr _ (by omega) (by omega)).trans hA9) rfl (by omega) (by omega) ?_
    refine T_aload_n dX10_becomesStandard_160 rfl ?_
    refine T_getfield dX10_becomesStandard_161 zkf_11_30 (zup_ne (by omega) ((hfr _ (by omega) (by omega)).trans hM)) rfl ?_
    refine T_aload_n dX10_becomesStandard_164 rfl ?_
    refine T_getfield dX10_becomesStandard_165 zkf_11_140 (zup_ne (by omega) ((hfr _ (by omega) (by omega)).trans hM)) rfl ?_
    refine T_iload_n dX10_becomesStandard_168 rfl ?_
    refine T_iastoreN (m := z) dX10_becomesStandard_169 (zup_ne (by omega) ((hfr _ (by omega) (by omega)).trans hA6)) rfl (by omega) (by omega) ?_
    refine T_aload_n dX10_becomesStandard_170 rfl ?_
    refine T_getfield dX10_becomesStandard_171 zkf_11_26 (zup_ne (by omega) (zup_ne (by omega) ((hfr _ (by omega) (by omega)).trans hM))) rfl ?_
    refine T_iload_n dX10_becomesStandard_174 rfl ?_
    refine T_iconst dX10_becomesStandard_175 (by decide) ?_
    refine T_bastoreN (m := q0) dX10_becomesStandard_176 (zup_ne (by omega) (zup_ne (by omega) ((hfr _ (by omega) (by omega)).trans hA5))) (by decide) rfl (by omega) (by omega) rfl ?_
    refine T_aload_n dX10_becomesStandard_177 rfl ?_
    refine T_dup dX10_becomesStandard_178 ?_
    refine T_getfield dX10_becomesStandard_179 zkf_11_140 (zup_ne (by omega) (zup_ne (by omega) (zup_ne (by omega) ((hfr _ (by omega) (by omega)).trans hM)))) rfl ?_
    refine T_iconst dX10_becomesStandard_182 (by decide) ?_
    refine T_iadd dX10_becomesStandard_183 ⟨by omega, by omega⟩ ?_
    refine T_putfield dX10_becomesStandard_184 zkf_11_140 (zup_ne (by omega) (zup_ne (by omega) (zup_ne (by omega) ((hfr _ (by omega) (by omega)).trans hM)))) (Nat.le_of_ble_eq_true rfl) (by omega) rfl (fun hf => absurd hf (by decide)) rfl ?_
    refine T_vret dX10_becomesStandard_187 rfl ?_
    exact hQ _ _ _ h1 h2 h3 (fun r hr => h5 r (by omega)) h4 zup_self (zup_ne (by omega) zup_self) (zup_ne (by omega) (zup_ne (by omega) zup_self)) (zup_ne (by omega) (zup_ne (by omega) (zup_ne (by omega) (zup_ne (by omega) g7)))) (zup_ne (by omega) (zup_ne (by omega) (zup_ne (by omega) (zup_ne (by omega) g8)))) (zup_ne (by omega) (zup_ne (by omega) (zup_ne (by omega) zup_self))) (fun q q0 q1 q2 q3 q4 q5 => ((zup_nf q0).trans ((zup_nf q1).trans ((zup_nf q2).trans ((zup_nf q5).trans ((hfr _ q3 q4).trans rfl))))))
  · refine T_aload_n dX10_becomesStandard_128 rfl ?_
    refine T_getfield dX10_becomesStandard_129 zkf_11_36 ((hfr _ (by omega) (by omega)).trans hM) rfl ?_
    refine T_bipush dX10_becomesStandard_132 (by decide) ?_
    refine T_iload dX10_becomesStandard_134 rfl ?_
    refine T_imul dX10_becomesStandard_136 ⟨by omega, by omega⟩ ?_
    refine T_aload_n dX10_becomesStandard_137 rfl ?_
    refine T_getfield dX10_becomesStandard_138 zkf_11_140 ((hfr _ (by omega) (by omega)).trans hM) rfl ?_
    refine T_iadd dX10_becomesStandard_141 ⟨by omega, by omega⟩ ?_
    refine T_iconst dX10_becomesStandard_142 (by decide) ?_
    refine T_iastoreN (m := ((8 * j) + z)) dX10_becomesStandard_143 g8 rfl (by omega) (by omega) ?_
    refine T_iinc dX10_becomesStandard_144 rfl ⟨by omega, by omega⟩ ?_
    refine T_goto dX10_becomesStandard_147 (t := 119) rfl ?_
    exact ih _ (by omega) (j + 1) _ _ rfl _ (zup_ne (by omega) g7) zup_self (fun q q0 q1 => ((zup_nf q1).trans ((hfr _ q0 q1).trans rfl))) (by omega) h1 h2 (fun t ht => by rw [zfu_ne (by omega)]; exact h3 t ht) (fun r t hr ht => by rw [zfu_ne (by omega)]; exact h4 r t hr ht) (fun r hr => by
          by_cases e : r = j
          · subst e; rw [zfu_self]
          · rw [zfu_ne (by omega)]; exact h5 r (by omega)) 
set_option maxHeartbeats 4000000 in
set_option maxRecDepth 100000 in
theorem m_X10_becomesStandard_14 {n0 n k : Nat} {g : Nat → zV} {h : zHp} {Q : Option zV → Nat → Nat → zHp → Prop} {m s z c : Nat} {p fk cn ln en ax nu wr sv sp ss : Int} {q0 q : Nat} {iS sd re cb pv ve fa : Nat → Int} (hM : h m = some (.inl (11, mOb m p (s : Int) fk (z : Int) (c : Int) cn ln en ax nu wr sv sp ss))) (hA5 : h (m + 5) = some (.inr (.inl (2, 81, iS)))) (hA6 : h (m + 6) = some (.inr (.inl (0, 8, sd)))) (hA7 : h (m + 7) = some (.inr (.inl (0, 64, re)))) (hA8 : h (m + 8) = some (.inr (.inl (0, 64, cb)))) (hA9 : h (m + 9) = some (.inr (.inl (0, 8, pv)))) (hA10 : h (m + 10) = some (.inr (.inl (0, 8, ve)))) (hA11 : h (m + 11) = some (.inr (.inl (0, 8, fa)))) (hs : s ≤ 8 ∧ z < s) (hp : zprime p) (hq : q < s ∧ q0 < 81) (hv : ∀ k, k < s → 0 ≤ ve k ∧ ve k < p) (hn : ve q ≠ 0) (hf : ∀ t, t < z → 0 ≤ fa t ∧ fa t < p) (hw : n0 ≤ m) (hQ : ∀ (re' cb' : Nat → Int) (h' : zHp), (∀ k, k < s → re' (8 * z + k) = zinv p (ve q) * ve k % p) → (∀ i, i < 8 * z → re' i = re i) → (∀ t, t < s → cb' (8 * z + t) = zrow p (zinv p (ve q)) z fa t) → (∀ r, r < z → cb' (8 * r + z) = 0) → (∀ r t, r < z → t < z → cb' (8 * r + t) = cb (8 * r + t)) → h' m = some (.inl (11, mOb m p (s : Int) fk ((z : Int) + 1) (c : Int) cn ln en ax nu wr sv sp ss)) → h' (m + 5) = some (.inr (.inl (2, 81, (zfu iS q0 1)))) → h' (m + 6) = some (.inr (.inl (0, 8, (zfu sd z (q0 : Int))))) → h' (m + 7) = some (.inr (.inl (0, 64, re'))) → h' (m + 8) = some (.inr (.inl (0, 64, cb'))) → h' (m + 9) = some (.inr (.inl (0, 8, (zfu pv z (q : Int))))) → (∀ q : Nat, q ≠ m → q ≠ (m + 5) → q ≠ (m + 6) → q ≠ (m + 7) → q ≠ (m + 8) → q ≠ (m + 9) → h' q = h q) → Q none n k h') : ∀ (d : Nat) (j : Nat) (re1 : Nat → Int) (cb1 : Nat → Int), s - j = d → ∀ h1 : zHp, h1 (m + 7) = some (.inr (.inl (0, 64, re1))) → h1 (m + 8) = some (.inr (.inl (0, 64, cb1))) → (∀ q : Nat, q ≠ (m + 7) → q ≠ (m + 8) → h1 q = h q) → (j ≤ s) → (∀ k, k < j → re1 (8 * z + k) = zinv p (ve q) * ve k % p) → (∀ i, i < 8 * z → re1 i = re i) → (∀ t, t < j → cb1 (8 * z + t) = zrow p (zinv p (ve q)) z fa t) → (∀ i, i < 8 * z → cb1 i = cb i) → ZT n0 g mX10_becomesStandard 14 [some (.inr (some m)), some (.inl (q0 : Int)), some (.inl (q : Int)), some (.inl (zinv p (ve q))), some (.inl (j : Int))] [] n k h1 Q := by
  intro d
  induction d using Nat.strongRecOn with | _ d ih => ?_
  intro j re1 cb1 hd0 h1 g7 g8 hfr hj h1 h2 h3 h4
  subst hd0
  have hpb := hp.bd
  have hqb := hv q hq.1
  have hz3 := zinv_spec (v := ve q) hp (by omega) hqb.2
  refine T_iload dX10_becomesStandard_14 rfl ?_
  refine T_aload_n dX10_becomesStandard_16 rfl ?_
  refine T_getfield dX10_becomesStandard_17 zkf_11_111 ((hfr _ (by omega) (by omega)).trans hM) rfl ?_
  refine T_icmp_ge dX10_becomesStandard_20 (t := 116) rfl (fun c20 => ?_) (fun c20 => ?_)
  · refine T_iconst dX10_becomesStandard_116 (by decide) ?_
    refine T_istore dX10_becomesStandard_117 (Nat.le_of_ble_eq_true rfl) ?_
    exact m_X10_becomesStandard_119 hM hA5 hA6 hA7 hA8 hA9 hA10 hA11 hs hp hq hv hn hf hw hQ _ 0 _ _ rfl _ g7 g8 (fun q q0 q1 => ((hfr _ q0 q1).trans rfl)) (by omega) (fun k hk => h1 k (by omega)) h2 (fun t ht => h3 t (by omega)) (fun r t hr ht => h4 _ (by omega)) (fun i hi => absurd hi (Nat.not_lt_zero i)) 
  · refine T_aload_n dX10_becomesStandard_23 rfl ?_
    refine T_getfield dX10_becomesStandard_24 zkf_11_33 ((hfr _ (by omega) (by omega)).trans hM) rfl ?_
    refine T_bipush dX10_becomesStandard_27 (by decide) ?_
    refine T_aload_n dX10_becomesStandard_29 rfl ?_
    refine T_getfield dX10_becomesStandard_30 zkf_11_140 ((hfr _ (by omega) (by omega)).trans hM) rfl ?_
    refine T_imul dX10_becomesStandard_33 ⟨by omega, by omega⟩ ?_
    refine T_iload dX10_becomesStandard_34 rfl ?_
    refine T_iadd dX10_becomesStandard_36 ⟨by omega, by omega⟩ ?_
    refine T_aload_n dX10_becomesStandard_37 rfl ?_
    refine T_getfield dX10_becomesStandard_38 zkf_11_42 ((hfr _ (by omega) (by omega)).trans hM) rfl ?_
    refine T_iload dX10_becomesStandard_41 rfl ?_
    refine T_ialoadN (m := j) dX10_becomesStandard_43 ((hfr _ (by omega) (by omega)).trans hA10) rfl (by omega) ?_
    refine T_iload_n dX10_becomesStandard_44 rfl ?_
    have bv := hv j (by omega)
    have m1 := zmul_le bv.1 (show ve j ≤ 32 by omega) (show 0 ≤ zinv p (ve q) by omega) (show zinv p (ve q) ≤ 32 by omega)
    refine T_imul dX10_becomesStandard_45 (zmulR (by omega) (by omega) (by omega) (by omega)) ?_
    refine T_aload_n dX10_becomesStandard_46 rfl ?_
    refine T_getfield dX10_becomesStandard_47 zkf_11_7 ((hfr _ (by omega) (by omega)).trans hM) rfl ?_
    refine T_iremN dX10_becomesStandard_50 ⟨by omega, by omega⟩ (by omega) ?_
    have r50 := zmod_bd ((ve j) * (zinv p (ve q))) p (by omega)
    refine T_iastoreN (m := ((8 * z) + j)) dX10_becomesStandard_51 g7 rfl (by omega) (by omega) ?_
    refine T_aload_n dX10_becomesStandard_52 rfl ?_
    refine T_getfield dX10_becomesStandard_53 zkf_11_36 (zup_ne (by omega) ((hfr _ (by omega) (by omega)).trans hM)) rfl ?_
    refine T_bipush dX10_becomesStandard_56 (by decide) ?_
    refine T_aload_n dX10_becomesStandard_58 rfl ?_
    refine T_getfield dX10_becomesStandard_59 zkf_11_140 (zup_ne (by omega) ((hfr _ (by omega) (by omega)).trans hM)) rfl ?_
    refine T_imul dX10_becomesStandard_62 ⟨by omega, by omega⟩ ?_
    refine T_iload dX10_becomesStandard_63 rfl ?_
    refine T_iadd dX10_becomesStandard_65 ⟨by omega, by omega⟩ ?_
    refine T_iload dX10_becomesStandard_66 rfl ?_
    refine T_aload_n dX10_becomesStandard_68 rfl ?_
    refine T_getfield dX10_becomesStandard_69 zkf_11_140 (zup_ne (by omega) ((hfr _ (by omega) (by omega)).trans hM)) rfl ?_
    refine T_icmp_ge dX10_becomesStandard_72 (t := 95) rfl (fun c72 => ?_) (fun c72 => ?_)
    · refine T_iload dX10_becomesStandard_95 rfl ?_
      refine T_aload_n dX10_becomesStandard_97 rfl ?_
      refine T_getfield dX10_becomesStandard_98 zkf_11_140 (zup_ne (by omega) ((hfr _ (by omega) (by omega)).trans hM)) rfl ?_
      refine T_icmp_ne dX10_becomesStandard_101 (t := 108) rfl (fun c101 => ?_) (fun c101 => ?_)
      · refine T_iconst dX10_becomesStandard_108 (by decide) ?_
        refine T_iastoreN (m := ((8 * z) + j)) dX10_becomesStandard_109 (zup_ne (by omega) g8) rfl (by omega) (by omega) ?_
        refine T_iinc dX10_becomesStandard_110 rfl ⟨by omega, by omega⟩ ?_
        refine T_goto dX10_becomesStandard_113 (t := 14) rfl ?_
        exact ih _ (by omega) (j + 1) _ _ rfl _ (zup_ne (by omega) zup_self) zup_self (fun q q0 q1 => ((zup_nf q1).trans ((zup_nf q0).trans ((hfr _ q0 q1).trans rfl)))) (by omega) (fun k hk => by
              by_cases e : k = j
              · subst e; rw [zfu_self, Int.mul_comm]
              · rw [zfu_ne (by omega)]; exact h1 k (by omega)) (fun i hi => by rw [zfu_ne (by omega)]; exact h2 i hi) (fun t ht => by
              by_cases e : t = j
              · subst e; rw [zfu_self, zrow]
                first | rw [if_pos (by omega), zneg_unit] | rw [if_neg (by omega), if_neg (by omega)] | rw [if_neg (by omega), if_pos (by omega)]
              · rw [zfu_ne (by omega)]; exact h3 t (by omega)) (fun i hi => by rw [zfu_ne (by omega)]; exact h4 i hi) 
      · refine T_iload_n dX10_becomesStandard_104 rfl ?_
        refine T_goto dX10_becomesStandard_105 (t := 109) rfl ?_
        refine T_iastoreN (m := ((8 * z) + j)) dX10_becomesStandard_109 (zup_ne (by omega) g8) rfl (by omega) (by omega) ?_
        refine T_iinc dX10_becomesStandard_110 rfl ⟨by omega, by omega⟩ ?_
        refine T_goto dX10_becomesStandard_113 (t := 14) rfl ?_
        exact ih _ (by omega) (j + 1) _ _ rfl _ (zup_ne (by omega) zup_self) zup_self (fun q q0 q1 => ((zup_nf q1).trans ((zup_nf q0).trans ((hfr _ q0 q1).trans rfl)))) (by omega) (fun k hk => by
              by_cases e : k = j
              · subst e; rw [zfu_self, Int.mul_comm]
              · rw [zfu_ne (by omega)]; exact h1 k (by omega)) (fun i hi => by rw [zfu_ne (by omega)]; exact h2 i hi) (fun t ht => by
              by_cases e : t = j
              · subst e; rw [zfu_self, zrow]
                first | rw [if_pos (by omega), zneg_unit] | rw [if_neg (by omega), if_neg (by omega)] | rw [if_neg (by omega), if_pos (by omega)]
              · rw [zfu_ne (by omega)]; exact h3 t (by omega)) (fun i hi => by rw [zfu_ne (by omega)]; exact h4 i hi) 
    · refine T_aload_n dX10_becomesStandard_75 rfl ?_
      refine T_getfield dX10_becomesStandard_76 zkf_11_45 (zup_ne (by omega) ((hfr _ (by omega) (by omega)).trans hM)) rfl ?_
      refine T_iload dX10_becomesStandard_79 rfl ?_
      refine T_ialoadN (m := j) dX10_becomesStandard_81 (zup_ne (by omega) ((hfr _ (by omega) (by omega)).trans hA11)) rfl (by omega) ?_
      have bf := hf j (by omega)
      have m2 := zmul_le bf.1 (show fa j ≤ 32 by omega) (show 0 ≤ zinv p (ve q) by omega) (show zinv p (ve q) ≤ 32 by omega)
      have m3 := Int.neg_mul (fa j) (zinv p (ve q))
      refine T_ineg dX10_becomesStandard_82 ⟨by omega, by omega⟩ ?_
      refine T_iload_n dX10_becomesStandard_83 rfl ?_
      refine T_imul dX10_becomesStandard_84 (by rw [m3]; exact ⟨by omega, by omega⟩) ?_
      refine T_aload_n dX10_becomesStandard_85 rfl ?_
      refine T_getfield dX10_becomesStandard_86 zkf_11_7 (zup_ne (by omega) ((hfr _ (by omega) (by omega)).trans hM)) rfl ?_
      refine T_callS dX10_becomesStandard_89 zkm_11_143 ⟨Nat.le_of_ble_eq_true rfl, Nat.le_of_ble_eq_true rfl, rfl⟩ rfl (Nat.le_of_ble_eq_true rfl) ?_
      refine m_J9_floorMod_7cf53  (by rw [m3]; exact ⟨by omega, by omega⟩) (by omega) ?_
      refine T_goto dX10_becomesStandard_92 (t := 109) rfl ?_
      refine T_iastoreN (m := ((8 * z) + j)) dX10_becomesStandard_109 (zup_ne (by omega) g8) rfl (by omega) (by omega) ?_
      refine T_iinc dX10_becomesStandard_110 rfl ⟨by omega, by omega⟩ ?_
      refine T_goto dX10_becomesStandard_113 (t := 14) rfl ?_
      exact ih _ (by omega) (j + 1) _ _ rfl _ (zup_ne (by omega) zup_self) zup_self (fun q q0 q1 => ((zup_nf q1).trans ((zup_nf q0).trans ((hfr _ q0 q1).trans rfl)))) (by omega) (fun k hk => by
            by_cases e : k = j
            · subst e; rw [zfu_self, Int.mul_comm]
            · rw [zfu_ne (by omega)]; exact h1 k (by omega)) (fun i hi => by rw [zfu_ne (by omega)]; exact h2 i hi) (fun t ht => by
            by_cases e : t = j
            · subst e; rw [zfu_self, zrow]
              first | rw [if_pos (by omega), zneg_unit] | rw [if_neg (by omega), if_neg (by omega)] | rw [if_neg (by omega), if_pos (by omega)]
            · rw [zfu_ne (by omega)]; exact h3 t (by omega)) (fun i hi => by rw [zfu_ne (by omega)]; exact h4 i hi) 
set_option maxHeartbeats 4000000 in
set_option maxRecDepth 100000 in
theorem m_X10_becomesStandard {n0 n k : Nat} {g : Nat → zV} {h : zHp} {Q : Option zV → Nat → Nat → zHp → Prop} {m s z c : Nat} {p fk cn ln en ax nu wr sv sp ss : Int} {q0 q : Nat} {iS sd re cb pv ve fa : Nat → Int} (hM : h m = some (.inl (11, mOb m p (s : Int) fk (z : Int) (c : Int) cn ln en ax nu wr sv sp ss))) (hA5 : h (m + 5) = some (.inr (.inl (2, 81, iS)))) (hA6 : h (m + 6) = some (.inr (.inl (0, 8, sd)))) (hA7 : h (m + 7) = some (.inr (.inl (0, 64, re)))) (hA8 : h (m + 8) = some (.inr (.inl (0, 64, cb)))) (hA9 : h (m + 9) = some (.inr (.inl (0, 8, pv)))) (hA10 : h (m + 10) = some (.inr (.inl (0, 8, ve)))) (hA11 : h (m + 11) = some (.inr (.inl (0, 8, fa)))) (hs : s ≤ 8 ∧ z < s) (hp : zprime p) (hq : q < s ∧ q0 < 81) (hv : ∀ k, k < s → 0 ≤ ve k ∧ ve k < p) (hn : ve q ≠ 0) (hf : ∀ t, t < z → 0 ≤ fa t ∧ fa t < p) (hw : n0 ≤ m) (hQ : ∀ (re' cb' : Nat → Int) (h' : zHp), (∀ k, k < s → re' (8 * z + k) = zinv p (ve q) * ve k % p) → (∀ i, i < 8 * z → re' i = re i) → (∀ t, t < s → cb' (8 * z + t) = zrow p (zinv p (ve q)) z fa t) → (∀ r, r < z → cb' (8 * r + z) = 0) → (∀ r t, r < z → t < z → cb' (8 * r + t) = cb (8 * r + t)) → h' m = some (.inl (11, mOb m p (s : Int) fk ((z : Int) + 1) (c : Int) cn ln en ax nu wr sv sp ss)) → h' (m + 5) = some (.inr (.inl (2, 81, (zfu iS q0 1)))) → h' (m + 6) = some (.inr (.inl (0, 8, (zfu sd z (q0 : Int))))) → h' (m + 7) = some (.inr (.inl (0, 64, re'))) → h' (m + 8) = some (.inr (.inl (0, 64, cb'))) → h' (m + 9) = some (.inr (.inl (0, 8, (zfu pv z (q : Int))))) → (∀ q : Nat, q ≠ m → q ≠ (m + 5) → q ≠ (m + 6) → q ≠ (m + 7) → q ≠ (m + 8) → q ≠ (m + 9) → h' q = h q) → Q none n k h') : ZT n0 g mX10_becomesStandard 0 (zloc mX10_becomesStandard [.inr (some m), .inl (q0 : Int), .inl (q : Int)]) [] n k h Q := by
  show ZT n0 g mX10_becomesStandard 0 [some (.inr (some m)), some (.inl (q0 : Int)), some (.inl (q : Int)), none, none] [] n k h Q
  have hpb := hp.bd
  have hqb := hv q hq.1
  have hz3 := zinv_spec (v := ve q) hp (by omega) hqb.2
  refine T_aload_n dX10_becomesStandard_0 rfl ?_
  refine T_aload_n dX10_becomesStandard_1 rfl ?_
  refine T_getfield dX10_becomesStandard_2 zkf_11_42 hM rfl ?_
  refine T_iload_n dX10_becomesStandard_5 rfl ?_
  refine T_ialoadN (m := q) dX10_becomesStandard_6 hA10 rfl (by omega) ?_
  refine T_callV dX10_becomesStandard_7 zkm_11_148 (Or.inl rfl) rfl hM ⟨Nat.le_of_ble_eq_true rfl, rfl⟩ rfl (Nat.le_of_ble_eq_true rfl) ?_
  refine m_X10_inverse hM hp (by omega) ?_
  refine T_istore_n dX10_becomesStandard_10 (Nat.le_of_ble_eq_true rfl) ?_
  refine T_iconst dX10_becomesStandard_11 (by decide) ?_
  refine T_istore dX10_becomesStandard_12 (Nat.le_of_ble_eq_true rfl) ?_
  exact m_X10_becomesStandard_14 hM hA5 hA6 hA7 hA8 hA9 hA10 hA11 hs hp hq hv hn hf hw hQ _ 0 re cb rfl _ hA7 hA8 (fun q q0 q1 => rfl) (by omega) (fun i hi => absurd hi (Nat.not_lt_zero i)) (fun _ _ => rfl) (fun i hi => absurd hi (Nat.not_lt_zero i)) (fun _ _ => rfl) 
set_option maxHeartbeats 4000000 in
set_option maxRecDepth 100000 in
theorem m_X10_becomesCorner_55 {n0 n k : Nat} {g : Nat → zV} {h : zHp} {Q : Option zV → Nat → Nat → zHp → Prop} {m s z c : Nat} {p fk cn ln en ax nu wr sv sp ss : Int} {q0 : Nat} {sd fa co po : Nat → Int} {mon : Nat → Nat} (hM : h m = some (.inl (11, mOb m p (s : Int) fk (z : Int) (c : Int) cn ln en ax nu wr sv sp ss))) (hA6 : h (m + 6) = some (.inr (.inl (0, 8, sd)))) (hA11 : h (m + 11) = some (.inr (.inl (0, 8, fa)))) (hA13 : h (m + 13) = some (.inr (.inl (0, 9, co)))) (hA14 : h (m + 14) = some (.inr (.inl (0, 729, po)))) (hz : z ≤ 8 ∧ c < 9) (hp : 1 < p ∧ p < 32) (hq0 : q0 < 81) (hsd : ∀ r, r < z → sd r = (mon r : Int) ∧ mon r < 81) (hf : ∀ t, t < z → 0 ≤ fa t ∧ fa t < p) (hw : n0 ≤ m) (hQ : ∀ (po' : Nat → Int) (h' : zHp), (∀ x, x < 81 → po' (81 * c + x) = zcel p q0 fa mon z x) → (∀ i, i < 81 * c → po' i = po i) → h' m = some (.inl (11, mOb m p (s : Int) fk (z : Int) ((c : Int) + 1) cn ln en ax nu wr sv sp ss)) → h' (m + 13) = some (.inr (.inl (0, 9, (zfu co c (q0 : Int))))) → h' (m + 14) = some (.inr (.inl (0, 729, po'))) → (∀ q : Nat, q ≠ m → q ≠ (m + 13) → q ≠ (m + 14) → h' q = h q) → Q none n k h') : ∀ (d : Nat) (j : Nat) (po1 : Nat → Int), z - j = d → ∀ h1 : zHp, h1 (m + 13) = some (.inr (.inl (0, 9, (zfu co c (q0 : Int))))) → h1 (m + 14) = some (.inr (.inl (0, 729, po1))) → (∀ q : Nat, q ≠ (m + 13) → q ≠ (m + 14) → h1 q = h q) → (j ≤ z) → (∀ x, x < 81 → po1 (81 * c + x) = zcel p q0 fa mon j x) → (∀ i, i < 81 * c → po1 i = po i) → ZT n0 g mX10_becomesCorner 55 [some (.inr (some m)), some (.inl (q0 : Int)), some (.inl (j : Int))] [] n k h1 Q := by
  intro d
  induction d using Nat.strongRecOn with | _ d ih => ?_
  intro j po1 hd0 h1 g13 g14 hfr hj h1 h2
  subst hd0
  refine T_iload_n dX10_becomesCorner_55 rfl ?_
  refine T_aload_n dX10_becomesCorner_56 rfl ?_
  refine T_getfield dX10_becomesCorner_57 zkf_11_140 ((hfr _ (by omega) (by omega)).trans hM) rfl ?_
  refine T_icmp_ge dX10_becomesCorner_60 (t := 102) rfl (fun c60 => ?_) (fun c60 => ?_)
  · refine T_aload_n dX10_becomesCorner_102 rfl ?_
    refine T_dup dX10_becomesCorner_103 ?_
    refine T_getfield dX10_becomesCorner_104 zkf_11_152 ((hfr _ (by omega) (by omega)).trans hM) rfl ?_
    refine T_iconst dX10_becomesCorner_107 (by decide) ?_
    refine T_iadd dX10_becomesCorner_108 ⟨by omega, by omega⟩ ?_
    refine T_putfield dX10_becomesCorner_109 zkf_11_152 ((hfr _ (by omega) (by omega)).trans hM) (Nat.le_of_ble_eq_true rfl) (by omega) rfl (fun hf => absurd hf (by decide)) rfl ?_
    refine T_vret dX10_becomesCorner_112 rfl ?_
    exact hQ _ _ (fun x hx => by rw [h1 x hx, show z = j by omega]) h2 zup_self (zup_ne (by omega) g13) (zup_ne (by omega) g14) (fun q q0 q1 q2 => ((zup_nf q0).trans ((hfr _ q1 q2).trans rfl)))
  · refine T_aload_n dX10_becomesCorner_63 rfl ?_
    refine T_getfield dX10_becomesCorner_64 zkf_11_54 ((hfr _ (by omega) (by omega)).trans hM) rfl ?_
    refine T_bipush dX10_becomesCorner_67 (by decide) ?_
    refine T_aload_n dX10_becomesCorner_69 rfl ?_
    refine T_getfield dX10_becomesCorner_70 zkf_11_152 ((hfr _ (by omega) (by omega)).trans hM) rfl ?_
    refine T_imul dX10_becomesCorner_73 ⟨by omega, by omega⟩ ?_
    refine T_aload_n dX10_becomesCorner_74 rfl ?_
    refine T_getfield dX10_becomesCorner_75 zkf_11_30 ((hfr _ (by omega) (by omega)).trans hM) rfl ?_
    refine T_iload_n dX10_becomesCorner_78 rfl ?_
    refine T_ialoadN (m := j) dX10_becomesCorner_79 ((hfr _ (by omega) (by omega)).trans hA6) rfl (by omega) ?_
    rw [(hsd j (by omega)).1]
    have b80 := (hsd j (by omega)).2
    have b81 := hf j (by omega)
    refine T_iadd dX10_becomesCorner_80 ⟨by omega, by omega⟩ ?_
    refine T_aload_n dX10_becomesCorner_81 rfl ?_
    refine T_getfield dX10_becomesCorner_82 zkf_11_45 ((hfr _ (by omega) (by omega)).trans hM) rfl ?_
    refine T_iload_n dX10_becomesCorner_85 rfl ?_
    refine T_ialoadN (m := j) dX10_becomesCorner_86 ((hfr _ (by omega) (by omega)).trans hA11) rfl (by omega) ?_
    refine T_ineg dX10_becomesCorner_87 ⟨by omega, by omega⟩ ?_
    refine T_aload_n dX10_becomesCorner_88 rfl ?_
    refine T_getfield dX10_becomesCorner_89 zkf_11_7 ((hfr _ (by omega) (by omega)).trans hM) rfl ?_
    refine T_callS dX10_becomesCorner_92 zkm_11_143 ⟨Nat.le_of_ble_eq_true rfl, Nat.le_of_ble_eq_true rfl, rfl⟩ rfl (Nat.le_of_ble_eq_true rfl) ?_
    refine m_J9_floorMod_7cf53  ⟨by omega, by omega⟩ (by omega) ?_
    refine T_iastoreN (m := ((81 * c) + (mon j))) dX10_becomesCorner_95 g14 rfl (by omega) (by omega) ?_
    refine T_iinc dX10_becomesCorner_96 rfl ⟨by omega, by omega⟩ ?_
    refine T_goto dX10_becomesCorner_99 (t := 55) rfl ?_
    exact ih _ (by omega) (j + 1) _ rfl _ (zup_ne (by omega) g13) zup_self (fun q q0 q1 => ((zup_nf q1).trans ((hfr _ q0 q1).trans rfl))) (by omega) (fun x hx => by
          rw [zcel]
          by_cases e : x = mon j
          · rw [e, zfu_self, zfu_self]
          · rw [zfu_ne e, zfu_ne (by omega)]; exact h1 x hx) (fun i hi => by rw [zfu_ne (by omega)]; exact h2 i hi) 
set_option maxHeartbeats 4000000 in
set_option maxRecDepth 100000 in
theorem m_X10_becomesCorner_12 {n0 n k : Nat} {g : Nat → zV} {h : zHp} {Q : Option zV → Nat → Nat → zHp → Prop} {m s z c : Nat} {p fk cn ln en ax nu wr sv sp ss : Int} {q0 : Nat} {sd fa co po : Nat → Int} {mon : Nat → Nat} (hM : h m = some (.inl (11, mOb m p (s : Int) fk (z : Int) (c : Int) cn ln en ax nu wr sv sp ss))) (hA6 : h (m + 6) = some (.inr (.inl (0, 8, sd)))) (hA11 : h (m + 11) = some (.inr (.inl (0, 8, fa)))) (hA13 : h (m + 13) = some (.inr (.inl (0, 9, co)))) (hA14 : h (m + 14) = some (.inr (.inl (0, 729, po)))) (hz : z ≤ 8 ∧ c < 9) (hp : 1 < p ∧ p < 32) (hq0 : q0 < 81) (hsd : ∀ r, r < z → sd r = (mon r : Int) ∧ mon r < 81) (hf : ∀ t, t < z → 0 ≤ fa t ∧ fa t < p) (hw : n0 ≤ m) (hQ : ∀ (po' : Nat → Int) (h' : zHp), (∀ x, x < 81 → po' (81 * c + x) = zcel p q0 fa mon z x) → (∀ i, i < 81 * c → po' i = po i) → h' m = some (.inl (11, mOb m p (s : Int) fk (z : Int) ((c : Int) + 1) cn ln en ax nu wr sv sp ss)) → h' (m + 13) = some (.inr (.inl (0, 9, (zfu co c (q0 : Int))))) → h' (m + 14) = some (.inr (.inl (0, 729, po'))) → (∀ q : Nat, q ≠ m → q ≠ (m + 13) → q ≠ (m + 14) → h' q = h q) → Q none n k h') : ∀ (d : Nat) (j : Nat) (po1 : Nat → Int), 81 - j = d → ∀ h1 : zHp, h1 (m + 13) = some (.inr (.inl (0, 9, (zfu co c (q0 : Int))))) → h1 (m + 14) = some (.inr (.inl (0, 729, po1))) → (∀ q : Nat, q ≠ (m + 13) → q ≠ (m + 14) → h1 q = h q) → (j ≤ 81) → (∀ x, x < j → po1 (81 * c + x) = (if x = q0 then 1 else 0)) → (∀ i, i < 81 * c → po1 i = po i) → ZT n0 g mX10_becomesCorner 12 [some (.inr (some m)), some (.inl (q0 : Int)), some (.inl (j : Int))] [] n k h1 Q := by
  intro d
  induction d using Nat.strongRecOn with | _ d ih => ?_
  intro j po1 hd0 h1 g13 g14 hfr hj h1 h2
  subst hd0
  refine T_iload_n dX10_becomesCorner_12 rfl ?_
  refine T_bipush dX10_becomesCorner_13 (by decide) ?_
  refine T_icmp_ge dX10_becomesCorner_15 (t := 53) rfl (fun c15 => ?_) (fun c15 => ?_)
  · refine T_iconst dX10_becomesCorner_53 (by decide) ?_
    refine T_istore_n dX10_becomesCorner_54 (Nat.le_of_ble_eq_true rfl) ?_
    exact m_X10_becomesCorner_55 hM hA6 hA11 hA13 hA14 hz hp hq0 hsd hf hw hQ _ 0 _ rfl _ g13 g14 (fun q q0 q1 => ((hfr _ q0 q1).trans rfl)) (by omega) (fun x hx => by rw [h1 x (by omega)]; rfl) h2 
  · refine T_aload_n dX10_becomesCorner_18 rfl ?_
    refine T_getfield dX10_becomesCorner_19 zkf_11_54 ((hfr _ (by omega) (by omega)).trans hM) rfl ?_
    refine T_bipush dX10_becomesCorner_22 (by decide) ?_
    refine T_aload_n dX10_becomesCorner_24 rfl ?_
    refine T_getfield dX10_becomesCorner_25 zkf_11_152 ((hfr _ (by omega) (by omega)).trans hM) rfl ?_
    refine T_imul dX10_becomesCorner_28 ⟨by omega, by omega⟩ ?_
    refine T_iload_n dX10_becomesCorner_29 rfl ?_
    refine T_iadd dX10_becomesCorner_30 ⟨by omega, by omega⟩ ?_
    refine T_iload_n dX10_becomesCorner_31 rfl ?_
    refine T_iload_n dX10_becomesCorner_32 rfl ?_
    refine T_icmp_ne dX10_becomesCorner_33 (t := 45) rfl (fun c33 => ?_) (fun c33 => ?_)
    · refine T_iconst dX10_becomesCorner_45 (by decide) ?_
      refine T_iastoreN (m := ((81 * c) + j)) dX10_becomesCorner_46 g14 rfl (by omega) (by omega) ?_
      refine T_iinc dX10_becomesCorner_47 rfl ⟨by omega, by omega⟩ ?_
      refine T_goto dX10_becomesCorner_50 (t := 12) rfl ?_
      exact ih _ (by omega) (j + 1) _ rfl _ (zup_ne (by omega) g13) zup_self (fun q q0 q1 => ((zup_nf q1).trans ((hfr _ q0 q1).trans rfl))) (by omega) (fun x hx => by
            by_cases e : x = j
            · subst e; rw [zfu_self]
              first | rw [if_neg (by omega)] | rw [if_pos (by omega), zone_mod hp.1]
            · rw [zfu_ne (by omega)]; exact h1 x (by omega)) (fun i hi => by rw [zfu_ne (by omega)]; exact h2 i hi) 
    · refine T_iconst dX10_becomesCorner_36 (by decide) ?_
      refine T_aload_n dX10_becomesCorner_37 rfl ?_
      refine T_getfield dX10_becomesCorner_38 zkf_11_7 ((hfr _ (by omega) (by omega)).trans hM) rfl ?_
      refine T_iremN dX10_becomesCorner_41 ⟨by omega, by omega⟩ (by omega) ?_
      have r41 := zmod_bd 1 p (by omega)
      refine T_goto dX10_becomesCorner_42 (t := 46) rfl ?_
      refine T_iastoreN (m := ((81 * c) + j)) dX10_becomesCorner_46 g14 rfl (by omega) (by omega) ?_
      refine T_iinc dX10_becomesCorner_47 rfl ⟨by omega, by omega⟩ ?_
      refine T_goto dX10_becomesCorner_50 (t := 12) rfl ?_
      exact ih _ (by omega) (j + 1) _ rfl _ (zup_ne (by omega) g13) zup_self (fun q q0 q1 => ((zup_nf q1).trans ((hfr _ q0 q1).trans rfl))) (by omega) (fun x hx => by
            by_cases e : x = j
            · subst e; rw [zfu_self]
              first | rw [if_neg (by omega)] | rw [if_pos (by omega), zone_mod hp.1]
            · rw [zfu_ne (by omega)]; exact h1 x (by omega)) (fun i hi => by rw [zfu_ne (by omega)]; exact h2 i hi) 
set_option maxHeartbeats 4000000 in
set_option maxRecDepth 100000 in
theorem m_X10_becomesCorner {n0 n k : Nat} {g : Nat → zV} {h : zHp} {Q : Option zV → Nat → Nat → zHp → Prop} {m s z c : Nat} {p fk cn ln en ax nu wr sv sp ss : Int} {q0 : Nat} {sd fa co po : Nat → Int} {mon : Nat → Nat} (hM : h m = some (.inl (11, mOb m p (s : Int) fk (z : Int) (c : Int) cn ln en ax nu wr sv sp ss))) (hA6 : h (m + 6) = some (.inr (.inl (0, 8, sd)))) (hA11 : h (m + 11) = some (.inr (.inl (0, 8, fa)))) (hA13 : h (m + 13) = some (.inr (.inl (0, 9, co)))) (hA14 : h (m + 14) = some (.inr (.inl (0, 729, po)))) (hz : z ≤ 8 ∧ c < 9) (hp : 1 < p ∧ p < 32) (hq0 : q0 < 81) (hsd : ∀ r, r < z → sd r = (mon r : Int) ∧ mon r < 81) (hf : ∀ t, t < z → 0 ≤ fa t ∧ fa t < p) (hw : n0 ≤ m) (hQ : ∀ (po' : Nat → Int) (h' : zHp), (∀ x, x < 81 → po' (81 * c + x) = zcel p q0 fa mon z x) → (∀ i, i < 81 * c → po' i = po i) → h' m = some (.inl (11, mOb m p (s : Int) fk (z : Int) ((c : Int) + 1) cn ln en ax nu wr sv sp ss)) → h' (m + 13) = some (.inr (.inl (0, 9, (zfu co c (q0 : Int))))) → h' (m + 14) = some (.inr (.inl (0, 729, po'))) → (∀ q : Nat, q ≠ m → q ≠ (m + 13) → q ≠ (m + 14) → h' q = h q) → Q none n k h') : ZT n0 g mX10_becomesCorner 0 (zloc mX10_becomesCorner [.inr (some m), .inl (q0 : Int)]) [] n k h Q := by
  show ZT n0 g mX10_becomesCorner 0 [some (.inr (some m)), some (.inl (q0 : Int)), none] [] n k h Q
  refine T_aload_n dX10_becomesCorner_0 rfl ?_
  refine T_getfield dX10_becomesCorner_1 zkf_11_51 hM rfl ?_
  refine T_aload_n dX10_becomesCorner_4 rfl ?_
  refine T_getfield dX10_becomesCorner_5 zkf_11_152 hM rfl ?_
  refine T_iload_n dX10_becomesCorner_8 rfl ?_
  refine T_iastoreN (m := c) dX10_becomesCorner_9 hA13 rfl (by omega) (by omega) ?_
  refine T_iconst dX10_becomesCorner_10 (by decide) ?_
  refine T_istore_n dX10_becomesCorner_11 (Nat.le_of_ble_eq_true rfl) ?_
  exact m_X10_becomesCorner_12 hM hA6 hA11 hA13 hA14 hz hp hq0 hsd hf hw hQ _ 0 po rfl _ zup_self (zup_ne (by omega) hA14) (fun q q0 q1 => ((zup_nf q0).trans rfl)) (by omega) (fun i hi => absurd hi (Nat.not_lt_zero i)) (fun _ _ => rfl) 
set_option maxHeartbeats 4000000 in
set_option maxRecDepth 100000 in
theorem m_X10_isCorner {n0 n k : Nat} {g : Nat → zV} {h : zHp} {Q : Option zV → Nat → Nat → zHp → Prop} {m s z c : Nat} {p fk cn ln en ax nu wr sv sp ss : Int} {q0 : Nat} {iS : Nat → Int} {E : eT} (hM : h m = some (.inl (11, mOb m p (s : Int) fk (z : Int) (c : Int) cn ln en ax nu wr sv sp ss))) (hA5 : h (m + 5) = some (.inr (.inl (2, 81, iS)))) (hq0 : q0 < 81) (his : ∀ x, x < 81 → iS x = (if stdB E x = true then 1 else 0)) (hT : (corB E q0 = true) → Q (some (.inl 1)) n k h) (hF : (corB E q0 = false) → Q (some (.inl 0)) n k h) : ZT n0 g mX10_isCorner 0 (zloc mX10_isCorner [.inr (some m), .inl (q0 : Int)]) [] n k h Q := by
  show ZT n0 g mX10_isCorner 0 [some (.inr (some m)), some (.inl (q0 : Int))] [] n k h Q
  have b9 : ∀ x, x < 81 → (stdB E x = true ↔ iS x ≠ 0) := fun x hx => by
    rw [his x hx]; cases stdB E x <;> simp
  refine T_iload_n dX10_isCorner_0 rfl ?_
  refine T_bipush dX10_isCorner_1 (by decide) ?_
  refine T_idivN dX10_isCorner_3 ⟨by omega, by omega⟩ (by omega) ?_
  refine T_if_eq dX10_isCorner_4 (t := 19) rfl (fun c4 => ?_) (fun c4 => ?_)
  · refine T_iload_n dX10_isCorner_19 rfl ?_
    refine T_bipush dX10_isCorner_20 (by decide) ?_
    refine T_iremN dX10_isCorner_22 ⟨by omega, by omega⟩ (by omega) ?_
    refine T_if_eq dX10_isCorner_23 (t := 37) rfl (fun c23 => ?_) (fun c23 => ?_)
    · refine T_iconst dX10_isCorner_37 (by decide) ?_
      refine T_goto dX10_isCorner_38 (t := 42) rfl ?_
      refine T_iret dX10_isCorner_42 rfl ?_
      exact hT (corB_iff.mpr ⟨by first | exact Or.inl (by omega) | exact Or.inr ((b9 _ (by omega)).mpr (by omega)), by first | exact Or.inl (by omega) | exact Or.inr ((b9 _ (by omega)).mpr (by omega))⟩)
    · refine T_aload_n dX10_isCorner_26 rfl ?_
      refine T_getfield dX10_isCorner_27 zkf_11_26 hM rfl ?_
      refine T_iload_n dX10_isCorner_30 rfl ?_
      refine T_iconst dX10_isCorner_31 (by decide) ?_
      refine T_isub dX10_isCorner_32 ⟨by omega, by omega⟩ ?_
      refine T_baloadN (m := (q0 - 1)) dX10_isCorner_33 hA5 (by decide) (by omega) (by omega) ?_
      refine T_if_eq dX10_isCorner_34 (t := 41) rfl (fun c34 => ?_) (fun c34 => ?_)
      · refine T_iconst dX10_isCorner_41 (by decide) ?_
        refine T_iret dX10_isCorner_42 rfl ?_
        exact hF (Bool.eq_false_iff.mpr (fun q => by
              have q2 := corB_iff.mp q
              have b1 := b9 (q0 - 9) (by omega)
              have b2 := b9 (q0 - 1) (by omega)
              rcases q2 with ⟨q3 | q3, q4 | q4⟩
              · omega
              · have := b2.mp q4; omega
              · have := b1.mp q3; omega
              · have := b1.mp q3; have := b2.mp q4; omega))
      · refine T_iconst dX10_isCorner_37 (by decide) ?_
        refine T_goto dX10_isCorner_38 (t := 42) rfl ?_
        refine T_iret dX10_isCorner_42 rfl ?_
        exact hT (corB_iff.mpr ⟨by first | exact Or.inl (by omega) | exact Or.inr ((b9 _ (by omega)).mpr (by omega)), by first | exact Or.inl (by omega) | exact Or.inr ((b9 _ (by omega)).mpr (by omega))⟩)
  · refine T_aload_n dX10_isCorner_7 rfl ?_
    refine T_getfield dX10_isCorner_8 zkf_11_26 hM rfl ?_
    refine T_iload_n dX10_isCorner_11 rfl ?_
    refine T_bipush dX10_isCorner_12 (by decide) ?_
    refine T_isub dX10_isCorner_14 ⟨by omega, by omega⟩ ?_
    refine T_baloadN (m := (q0 - 9)) dX10_isCorner_15 hA5 (by decide) (by omega) (by omega) ?_
    refine T_if_eq dX10_isCorner_16 (t := 41) rfl (fun c16 => ?_) (fun c16 => ?_)
    · refine T_iconst dX10_isCorner_41 (by decide) ?_
      refine T_iret dX10_isCorner_42 rfl ?_
      exact hF (Bool.eq_false_iff.mpr (fun q => by
            have q2 := corB_iff.mp q
            have b1 := b9 (q0 - 9) (by omega)
            have b2 := b9 (q0 - 1) (by omega)
            rcases q2 with ⟨q3 | q3, q4 | q4⟩
            · omega
            · have := b2.mp q4; omega
            · have := b1.mp q3; omega
            · have := b1.mp q3; have := b2.mp q4; omega))
    · refine T_iload_n dX10_isCorner_19 rfl ?_
      refine T_bipush dX10_isCorner_20 (by decide) ?_
      refine T_iremN dX10_isCorner_22 ⟨by omega, by omega⟩ (by omega) ?_
      refine T_if_eq dX10_isCorner_23 (t := 37) rfl (fun c23 => ?_) (fun c23 => ?_)
      · refine T_iconst dX10_isCorner_37 (by decide) ?_
        refine T_goto dX10_isCorner_38 (t := 42) rfl ?_
        refine T_iret dX10_isCorner_42 rfl ?_
        exact hT (corB_iff.mpr ⟨by first | exact Or.inl (by omega) | exact Or.inr ((b9 _ (by omega)).mpr (by omega)), by first | exact Or.inl (by omega) | exact Or.inr ((b9 _ (by omega)).mpr (by omega))⟩)
      · refine T_aload_n dX10_isCorner_26 rfl ?_
        refine T_getfield dX10_isCorner_27 zkf_11_26 hM rfl ?_
        refine T_iload_n dX10_isCorner_30 rfl ?_
        refine T_iconst dX10_isCorner_31 (by decide) ?_
        refine T_isub dX10_isCorner_32 ⟨by omega, by omega⟩ ?_
        refine T_baloadN (m := (q0 - 1)) dX10_isCorner_33 hA5 (by decide) (by omega) (by omega) ?_
        refine T_if_eq dX10_isCorner_34 (t := 41) rfl (fun c34 => ?_) (fun c34 => ?_)
        · refine T_iconst dX10_isCorner_41 (by decide) ?_
          refine T_iret dX10_isCorner_42 rfl ?_
          exact hF (Bool.eq_false_iff.mpr (fun q => by
                have q2 := corB_iff.mp q
                have b1 := b9 (q0 - 9) (by omega)
                have b2 := b9 (q0 - 1) (by omega)
                rcases q2 with ⟨q3 | q3, q4 | q4⟩
                · omega
                · have := b2.mp q4; omega
                · have := b1.mp q3; omega
                · have := b1.mp q3; have := b2.mp q4; omega))
        · refine T_iconst dX10_isCorner_37 (by decide) ?_
          refine T_goto dX10_isCorner_38 (t := 42) rfl ?_
          refine T_iret dX10_isCorner_42 rfl ?_
          exact hT (corB_iff.mpr ⟨by first | exact Or.inl (by omega) | exact Or.inr ((b9 _ (by omega)).mpr (by omega)), by first | exact Or.inl (by omega) | exact Or.inr ((b9 _ (by omega)).mpr (by omega))⟩)
set_option maxHeartbeats 4000000 in
set_option maxRecDepth 100000 in
theorem m_X10_sortCorners_72 {n0 n k : Nat} {g : Nat → zV} {h : zHp} {Q : Option zV → Nat → Nat → zHp → Prop} {m s z c : Nat} {p fk cn ln en ax nu wr sv sp ss : Int} {co po : Nat → Int} {cmR : Nat → Nat} {ceR : Nat → Nat → Int} (hM : h m = some (.inl (11, mOb m p (s : Int) fk (z : Int) (c : Int) cn ln en ax nu wr sv sp ss))) (hA13 : h (m + 13) = some (.inr (.inl (0, 9, co)))) (hA14 : h (m + 14) = some (.inr (.inl (0, 729, po)))) (hc : c ≤ 4) (hcr : ∀ b, b < c → cmR b < 81) (han : ∀ b d, b < c → d < c → b ≠ d → cmR b / 9 ≠ cmR d / 9) (hag : ∀ a, a < c → co a = (cmR a : Int) ∧ ∀ x, x < 81 → po (81 * a + x) = ceR a x) (hw : n0 ≤ m)  : ∀ (d : Nat) (k1 : Nat) (l : Nat) (w3 : Int) (j : Nat) (co1 : Nat → Int) (po2 : Nat → Int) (po1 : Nat → Int) (L5 : Option zV), 81 - j = d → ∀ h1 : zHp, h1 (m + 13) = some (.inr (.inl (0, 9, co1))) → h1 (m + 14) = some (.inr (.inl (0, 729, po1))) → (∀ q : Nat, q ≠ (m + 13) → q ≠ (m + 14) → h1 q = h q) → (1 ≤ l ∧ l < c ∧ l ≤ k1) → (j ≤ 81) → (∀ i, po1 i = (if 81 * l ≤ i ∧ i < 81 * l + j then po2 (i - 81) else if 81 * (l - 1) ≤ i ∧ i < 81 * (l - 1) + j then po2 (i + 81) else po2 i)) → (∀ (j : Nat) (po1 : Nat → Int) (L5 : Option zV) (h' : zHp), (∀ i, po1 i = (if 81 * l ≤ i ∧ i < 81 * l + 81 then po2 (i - 81) else if 81 * (l - 1) ≤ i ∧ i < 81 * (l - 1) + 81 then po2 (i + 81) else po2 i)) → h' (m + 13) = some (.inr (.inl (0, 9, co1))) → h' (m + 14) = some (.inr (.inl (0, 729, po1))) → (∀ q : Nat, q ≠ (m + 13) → q ≠ (m + 14) → h' q = h q) → ZT n0 g mX10_sortCorners 141 [some (.inr (some m)), some (.inl (k1 : Int)), some (.inl (l : Int)), some (.inl w3), some (.inl (j : Int)), L5] [] n k h' Q) → ZT n0 g mX10_sortCorners 72 [some (.inr (some m)), some (.inl (k1 : Int)), some (.inl (l : Int)), some (.inl w3), some (.inl (j : Int)), L5] [] n k h1 Q := by
  intro d
  induction d using Nat.strongRecOn with | _ d ih => ?_
  intro k1 l w3 j co1 po2 po1 L5 hd0 h1 g13 g14 hfr hl hj hP kk141
  subst hd0
  refine T_iload dX10_sortCorners_72 rfl ?_
  refine T_bipush dX10_sortCorners_74 (by decide) ?_
  refine T_icmp_ge dX10_sortCorners_76 (t := 141) rfl (fun c76 => ?_) (fun c76 => ?_)
  · exact kk141 j _ _ _ (by
          have ej : j = 81 := by omega
          subst ej
          exact hP) g13 g14 (fun q q0 q1 => ((hfr _ q0 q1).trans rfl))
  · refine T_aload_n dX10_sortCorners_79 rfl ?_
    refine T_getfield dX10_sortCorners_80 zkf_11_54 ((hfr _ (by omega) (by omega)).trans hM) rfl ?_
    refine T_bipush dX10_sortCorners_83 (by decide) ?_
    refine T_iload_n dX10_sortCorners_85 rfl ?_
    refine T_imul dX10_sortCorners_86 ⟨by omega, by omega⟩ ?_
    refine T_iload dX10_sortCorners_87 rfl ?_
    refine T_iadd dX10_sortCorners_89 ⟨by omega, by omega⟩ ?_
    refine T_ialoadN (m := (81 * l + j)) dX10_sortCorners_90 g14 (by omega) (by omega) ?_
    refine T_istore dX10_sortCorners_91 (Nat.le_of_ble_eq_true rfl) ?_
    refine T_aload_n dX10_sortCorners_93 rfl ?_
    refine T_getfield dX10_sortCorners_94 zkf_11_54 ((hfr _ (by omega) (by omega)).trans hM) rfl ?_
    refine T_bipush dX10_sortCorners_97 (by decide) ?_
    refine T_iload_n dX10_sortCorners_99 rfl ?_
    refine T_imul dX10_sortCorners_100 ⟨by omega, by omega⟩ ?_
    refine T_iload dX10_sortCorners_101 rfl ?_
    refine T_iadd dX10_sortCorners_103 ⟨by omega, by omega⟩ ?_
    refine T_aload_n dX10_sortCorners_104 rfl ?_
    refine T_getfield dX10_sortCorners_105 zkf_11_54 ((hfr _ (by omega) (by omega)).trans hM) rfl ?_
    refine T_bipush dX10_sortCorners_108 (by decide) ?_
    refine T_iload_n dX10_sortCorners_110 rfl ?_
    refine T_iconst dX10_sortCorners_111 (by decide) ?_
    refine T_isub dX10_sortCorners_112 ⟨by omega, by omega⟩ ?_
    refine T_imul dX10_sortCorners_113 ⟨by omega, by omega⟩ ?_
    refine T_iload dX10_sortCorners_114 rfl ?_
    refine T_iadd dX10_sortCorners_116 ⟨by omega, by omega⟩ ?_
    refine T_ialoadN (m := (81 * (l - 1) + j)) dX10_sortCorners_117 g14 (by omega) (by omega) ?_
    refine T_iastoreN (m := (81 * l + j)) dX10_sortCorners_118 g14 (by omega) (by omega) (by omega) ?_
    refine T_aload_n dX10_sortCorners_119 rfl ?_
    refine T_getfield dX10_sortCorners_120 zkf_11_54 (zup_ne (by omega) ((hfr _ (by omega) (by omega)).trans hM)) rfl ?_
    refine T_bipush dX10_sortCorners_123 (by decide) ?_
    refine T_iload_n dX10_sortCorners_125 rfl ?_
    refine T_iconst dX10_sortCorners_126 (by decide) ?_
    refine T_isub dX10_sortCorners_127 ⟨by omega, by omega⟩ ?_
    refine T_imul dX10_sortCorners_128 ⟨by omega, by omega⟩ ?_
    refine T_iload dX10_sortCorners_129 rfl ?_
    refine T_iadd dX10_sortCorners_131 ⟨by omega, by omega⟩ ?_
    refine T_iload dX10_sortCorners_132 rfl ?_
    refine T_iastoreN (m := (81 * (l - 1) + j)) dX10_sortCorners_134 zup_self (by omega) (by omega) (by omega) ?_
    refine T_iinc dX10_sortCorners_135 rfl ⟨by omega, by omega⟩ ?_
    refine T_goto dX10_sortCorners_138 (t := 72) rfl ?_
    exact ih _ (by omega) k1 l w3 (j + 1) co1 po2 _ _ rfl _ (zup_ne (by omega) (zup_ne (by omega) g13)) zup_self (fun q q0 q1 => ((zup_nf q1).trans ((zup_nf q1).trans ((hfr _ q0 q1).trans rfl)))) (by omega) (by omega) (fun i => by
          have p1 := hP (81 * l + j)
          have p2 := hP (81 * (l - 1) + j)
          rw [if_neg (by omega), if_neg (by omega)] at p1
          rw [if_neg (by omega), if_neg (by omega)] at p2
          by_cases e1 : i = 81 * (l - 1) + j
          · rw [e1, zfu_self, if_neg (by omega), if_pos (by omega), p1]; congr 1; omega
          · rw [zfu_ne e1]
            by_cases e2 : i = 81 * l + j
            · rw [e2, zfu_self, if_pos (by omega), p2]; congr 1; omega
            · rw [zfu_ne e2, hP i]
              repeat' split
              all_goals first | rfl | (exfalso; omega)) kk141
set_option maxHeartbeats 4000000 in
set_option maxRecDepth 100000 in
theorem m_X10_sortCorners_12 {n0 n k : Nat} {g : Nat → zV} {h : zHp} {Q : Option zV → Nat → Nat → zHp → Prop} {m s z c : Nat} {p fk cn ln en ax nu wr sv sp ss : Int} {co po : Nat → Int} {cmR : Nat → Nat} {ceR : Nat → Nat → Int} (hM : h m = some (.inl (11, mOb m p (s : Int) fk (z : Int) (c : Int) cn ln en ax nu wr sv sp ss))) (hA13 : h (m + 13) = some (.inr (.inl (0, 9, co)))) (hA14 : h (m + 14) = some (.inr (.inl (0, 729, po)))) (hc : c ≤ 4) (hcr : ∀ b, b < c → cmR b < 81) (han : ∀ b d, b < c → d < c → b ≠ d → cmR b / 9 ≠ cmR d / 9) (hag : ∀ a, a < c → co a = (cmR a : Int) ∧ ∀ x, x < 81 → po (81 * a + x) = ceR a x) (hw : n0 ≤ m)  : ∀ (d : Nat) (k1 : Nat) (l : Nat) (pi : Nat → Nat) (co1 : Nat → Int) (po1 : Nat → Int) (L3 : Option zV) (L4 : Option zV) (L5 : Option zV), l = d → ∀ h1 : zHp, h1 (m + 13) = some (.inr (.inl (0, 9, co1))) → h1 (m + 14) = some (.inr (.inl (0, 729, po1))) → (∀ q : Nat, q ≠ (m + 13) → q ≠ (m + 14) → h1 q = h q) → (k1 < c ∧ l ≤ k1) → ((∀ a, a < c → pi a < c) ∧ ∀ d, d < c → ∃ a, a < c ∧ pi a = d) → (∀ a, a < c → co1 a = (cmR (pi a) : Int) ∧ ∀ x, x < 81 → po1 (81 * a + x) = ceR (pi a) x) → (∀ a d, a < d → d ≤ k1 → d ≠ l → cmR (pi a) < cmR (pi d)) → (∀ (l : Nat) (pi : Nat → Nat) (co1 : Nat → Int) (po1 : Nat → Int) (L3 : Option zV) (L4 : Option zV) (L5 : Option zV) (h' : zHp), ((∀ a, a < c → pi a < c) ∧ ∀ d, d < c → ∃ a, a < c ∧ pi a = d) → (∀ a, a < c → co1 a = (cmR (pi a) : Int) ∧ ∀ x, x < 81 → po1 (81 * a + x) = ceR (pi a) x) → (∀ a d, a < d → d ≤ k1 → cmR (pi a) < cmR (pi d)) → h' (m + 13) = some (.inr (.inl (0, 9, co1))) → h' (m + 14) = some (.inr (.inl (0, 729, po1))) → (∀ q : Nat, q ≠ (m + 13) → q ≠ (m + 14) → h' q = h q) → ZT n0 g mX10_sortCorners 147 [some (.inr (some m)), some (.inl (k1 : Int)), some (.inl (l : Int)), L3, L4, L5] [] n k h' Q) → ZT n0 g mX10_sortCorners 12 [some (.inr (some m)), some (.inl (k1 : Int)), some (.inl (l : Int)), L3, L4, L5] [] n k h1 Q := by
  intro d
  induction d using Nat.strongRecOn with | _ d ih => ?_
  intro k1 l pi co1 po1 L3 L4 L5 hd0 h1 g13 g14 hfr hk hpi hG hso kk147
  subst hd0
  have inj : ∀ a d, a < c → d < c → a ≠ d → pi a ≠ pi d := zinj hpi.1 hpi.2
  have dst : ∀ a d, a < c → d < c → a ≠ d → cmR (pi a) / 9 ≠ cmR (pi d) / 9 := fun a d ha hd hne => han _ _ (hpi.1 a ha) (hpi.1 d hd) (inj a d ha hd hne)
  refine T_iload_n dX10_sortCorners_12 rfl ?_
  refine T_if_le dX10_sortCorners_13 (t := 147) rfl (fun c13 => ?_) (fun c13 => ?_)
  · exact kk147 l _ _ _ _ _ _ _ hpi hG (fun a d h1 h2 => hso a d h1 h2 (by omega)) g13 g14 (fun q q0 q1 => ((hfr _ q0 q1).trans rfl))
  · refine T_aload_n dX10_sortCorners_16 rfl ?_
    refine T_getfield dX10_sortCorners_17 zkf_11_51 ((hfr _ (by omega) (by omega)).trans hM) rfl ?_
    refine T_iload_n dX10_sortCorners_20 rfl ?_
    refine T_ialoadN (m := l) dX10_sortCorners_21 g13 rfl (by omega) ?_
    rw [(hG l (by omega)).1]
    have b22 := hcr _ (hpi.1 l (by omega))
    refine T_bipush dX10_sortCorners_22 (by decide) ?_
    refine T_idivN dX10_sortCorners_24 ⟨by omega, by omega⟩ (by omega) ?_
    refine T_aload_n dX10_sortCorners_25 rfl ?_
    refine T_getfield dX10_sortCorners_26 zkf_11_51 ((hfr _ (by omega) (by omega)).trans hM) rfl ?_
    refine T_iload_n dX10_sortCorners_29 rfl ?_
    refine T_iconst dX10_sortCorners_30 (by decide) ?_
    refine T_isub dX10_sortCorners_31 ⟨by omega, by omega⟩ ?_
    refine T_ialoadN (m := (l - 1)) dX10_sortCorners_32 g13 (by omega) (by omega) ?_
    rw [(hG (l - 1) (by omega)).1]
    have b33 := hcr _ (hpi.1 (l - 1) (by omega))
    refine T_bipush dX10_sortCorners_33 (by decide) ?_
    refine T_idivN dX10_sortCorners_35 ⟨by omega, by omega⟩ (by omega) ?_
    refine T_icmp_ge dX10_sortCorners_36 (t := 147) rfl (fun c36 => ?_) (fun c36 => ?_)
    · exact kk147 l _ _ _ _ _ _ _ hpi hG (fun a d h1 h2 => by
            by_cases e : d = l
            · subst e
              have q1 := dst d (d - 1) (by omega) (by omega) (by omega)
              by_cases e2 : a = d - 1
              · subst e2; omega
              · have := hso a (d - 1) (by omega) (by omega) (by omega); omega
            · exact hso a d h1 h2 e) g13 g14 (fun q q0 q1 => ((hfr _ q0 q1).trans rfl))
    · refine T_aload_n dX10_sortCorners_39 rfl ?_
      refine T_getfield dX10_sortCorners_40 zkf_11_51 ((hfr _ (by omega) (by omega)).trans hM) rfl ?_
      refine T_iload_n dX10_sortCorners_43 rfl ?_
      refine T_ialoadN (m := l) dX10_sortCorners_44 g13 rfl (by omega) ?_
      refine T_istore_n dX10_sortCorners_45 (Nat.le_of_ble_eq_true rfl) ?_
      refine T_aload_n dX10_sortCorners_46 rfl ?_
      refine T_getfield dX10_sortCorners_47 zkf_11_51 ((hfr _ (by omega) (by omega)).trans hM) rfl ?_
      refine T_iload_n dX10_sortCorners_50 rfl ?_
      refine T_aload_n dX10_sortCorners_51 rfl ?_
      refine T_getfield dX10_sortCorners_52 zkf_11_51 ((hfr _ (by omega) (by omega)).trans hM) rfl ?_
      refine T_iload_n dX10_sortCorners_55 rfl ?_
      refine T_iconst dX10_sortCorners_56 (by decide) ?_
      refine T_isub dX10_sortCorners_57 ⟨by omega, by omega⟩ ?_
      refine T_ialoadN (m := (l - 1)) dX10_sortCorners_58 g13 (by omega) (by omega) ?_
      refine T_iastoreN (m := l) dX10_sortCorners_59 g13 rfl (by omega) (by omega) ?_
      refine T_aload_n dX10_sortCorners_60 rfl ?_
      refine T_getfield dX10_sortCorners_61 zkf_11_51 (zup_ne (by omega) ((hfr _ (by omega) (by omega)).trans hM)) rfl ?_
      refine T_iload_n dX10_sortCorners_64 rfl ?_
      refine T_iconst dX10_sortCorners_65 (by decide) ?_
      refine T_isub dX10_sortCorners_66 ⟨by omega, by omega⟩ ?_
      refine T_iload_n dX10_sortCorners_67 rfl ?_
      refine T_iastoreN (m := (l - 1)) dX10_sortCorners_68 zup_self (by omega) (by omega) (by omega) ?_
      refine T_iconst dX10_sortCorners_69 (by decide) ?_
      refine T_istore dX10_sortCorners_70 (Nat.le_of_ble_eq_true rfl) ?_
      refine m_X10_sortCorners_72 hM hA13 hA14 hc hcr han hag hw _ k1 l (co1 l) 0 _ po1 _ _ rfl _ zup_self (zup_ne (by omega) (zup_ne (by omega) g14)) (fun q q0 q1 => ((zup_nf q0).trans ((zup_nf q0).trans ((hfr _ q0 q1).trans rfl)))) (by omega) (by omega) (fun i => by rw [if_neg (by omega), if_neg (by omega)]) (fun j141 po1141 L5141 hh141 yP_141 g13_141 g14_141 fr_141 => ?_)
      refine T_iinc dX10_sortCorners_141 rfl ⟨by omega, by omega⟩ ?_
      refine T_goto dX10_sortCorners_144 (t := 12) rfl ?_
      rw [show ((l : Int) + -1) = ((l - 1 : Nat) : Int) by omega]
      exact ih _ (by omega) k1 (l - 1) (fun a => if a = l then pi (l - 1) else if a = l - 1 then pi l else pi a) _ _ _ _ _ rfl _ g13_141 g14_141 (fun q q0 q1 => ((fr_141 _ q0 q1).trans rfl)) (by omega) (zswap_per (by omega) (by omega) hpi) (fun a ha => by
            have q1 := hG l (by omega)
            have q2 := hG (l - 1) (by omega)
            by_cases e1 : a = l
            · rw [e1]
              simp only [if_true]
              refine ⟨by rw [zfu_ne (by omega), zfu_self]; exact q2.1, fun x hx => ?_⟩
              rw [yP_141, if_pos (by omega), show 81 * l + x - 81 = 81 * (l - 1) + x by omega]; exact q2.2 x hx
            · simp only [if_neg e1]
              by_cases e2 : a = l - 1
              · rw [e2]
                simp only [if_true]
                refine ⟨by rw [zfu_self]; exact q1.1, fun x hx => ?_⟩
                rw [yP_141, if_neg (by omega), if_pos (by omega), show 81 * (l - 1) + x + 81 = 81 * l + x by omega]; exact q1.2 x hx
              · simp only [if_neg e2]
                have q3 := hG a ha
                refine ⟨by rw [zfu_ne e2, zfu_ne e1]; exact q3.1, fun x hx => ?_⟩
                rw [yP_141, if_neg (by omega), if_neg (by omega)]; exact q3.2 x hx) (zswap_so (by omega) hso (by omega)) kk147
set_option maxHeartbeats 4000000 in
set_option maxRecDepth 100000 in
theorem m_X10_sortCorners_2 {n0 n k : Nat} {g : Nat → zV} {h : zHp} {Q : Option zV → Nat → Nat → zHp → Prop} {m s z c : Nat} {p fk cn ln en ax nu wr sv sp ss : Int} {co po : Nat → Int} {cmR : Nat → Nat} {ceR : Nat → Nat → Int} (hM : h m = some (.inl (11, mOb m p (s : Int) fk (z : Int) (c : Int) cn ln en ax nu wr sv sp ss))) (hA13 : h (m + 13) = some (.inr (.inl (0, 9, co)))) (hA14 : h (m + 14) = some (.inr (.inl (0, 729, po)))) (hc : c ≤ 4) (hcr : ∀ b, b < c → cmR b < 81) (han : ∀ b d, b < c → d < c → b ≠ d → cmR b / 9 ≠ cmR d / 9) (hag : ∀ a, a < c → co a = (cmR a : Int) ∧ ∀ x, x < 81 → po (81 * a + x) = ceR a x) (hw : n0 ≤ m) (hQ : ∀ (pi : Nat → Nat) (co1 po1 : Nat → Int) (h' : zHp), ((∀ a, a < c → pi a < c) ∧ ∀ d, d < c → ∃ a, a < c ∧ pi a = d) → (∀ a, a < c → co1 a = (cmR (pi a) : Int) ∧ ∀ x, x < 81 → po1 (81 * a + x) = ceR (pi a) x) → (∀ a d, a < d → d < c → cmR (pi a) < cmR (pi d)) → h' (m + 13) = some (.inr (.inl (0, 9, co1))) → h' (m + 14) = some (.inr (.inl (0, 729, po1))) → (∀ q : Nat, q ≠ (m + 13) → q ≠ (m + 14) → h' q = h q) → Q none n k h') : ∀ (d : Nat) (k1 : Nat) (pi : Nat → Nat) (co1 : Nat → Int) (po1 : Nat → Int) (L2 : Option zV) (L3 : Option zV) (L4 : Option zV) (L5 : Option zV), c - k1 = d → ∀ h1 : zHp, h1 (m + 13) = some (.inr (.inl (0, 9, co1))) → h1 (m + 14) = some (.inr (.inl (0, 729, po1))) → (∀ q : Nat, q ≠ (m + 13) → q ≠ (m + 14) → h1 q = h q) → (1 ≤ k1 ∧ (k1 ≤ c ∨ c = 0)) → ((∀ a, a < c → pi a < c) ∧ ∀ d, d < c → ∃ a, a < c ∧ pi a = d) → (∀ a, a < c → co1 a = (cmR (pi a) : Int) ∧ ∀ x, x < 81 → po1 (81 * a + x) = ceR (pi a) x) → (∀ a d, a < d → d < k1 → d < c → cmR (pi a) < cmR (pi d)) → ZT n0 g mX10_sortCorners 2 [some (.inr (some m)), some (.inl (k1 : Int)), L2, L3, L4, L5] [] n k h1 Q := by
  intro d
  induction d using Nat.strongRecOn with | _ d ih => ?_
  intro k1 pi co1 po1 L2 L3 L4 L5 hd0 h1 g13 g14 hfr hk hpi hG hso
  subst hd0
  refine T_iload_n dX10_sortCorners_2 rfl ?_
  refine T_aload_n dX10_sortCorners_3 rfl ?_
  refine T_getfield dX10_sortCorners_4 zkf_11_152 ((hfr _ (by omega) (by omega)).trans hM) rfl ?_
  refine T_icmp_ge dX10_sortCorners_7 (t := 153) rfl (fun c7 => ?_) (fun c7 => ?_)
  · refine T_vret dX10_sortCorners_153 rfl ?_
    exact hQ pi _ _ _ hpi hG (fun a d h1 h2 => hso a d h1 (by omega) h2) g13 g14 (fun q q0 q1 => ((hfr _ q0 q1).trans rfl))
  · refine T_iload_n dX10_sortCorners_10 rfl ?_
    refine T_istore_n dX10_sortCorners_11 (Nat.le_of_ble_eq_true rfl) ?_
    refine m_X10_sortCorners_12 hM hA13 hA14 hc hcr han hag hw _ k1 k1 pi _ _ _ _ _ rfl _ g13 g14 (fun q q0 q1 => ((hfr _ q0 q1).trans rfl)) (by omega) hpi hG (fun a d h1 h2 h3 => hso a d h1 (by omega) (by omega)) (fun l147 pi147 co1147 po1147 L3147 L4147 L5147 hh147 ypi_147 yG_147 yso_147 g13_147 g14_147 fr_147 => ?_)
    refine T_iinc dX10_sortCorners_147 rfl ⟨by omega, by omega⟩ ?_
    refine T_goto dX10_sortCorners_150 (t := 2) rfl ?_
    exact ih _ (by omega) (k1 + 1) pi147 _ _ _ _ _ _ rfl _ g13_147 g14_147 (fun q q0 q1 => ((fr_147 _ q0 q1).trans rfl)) (by omega) ypi_147 yG_147 (fun a d h1 h2 h3 => yso_147 a d h1 (by omega)) 
set_option maxHeartbeats 4000000 in
set_option maxRecDepth 100000 in
theorem m_X10_sortCorners {n0 n k : Nat} {g : Nat → zV} {h : zHp} {Q : Option zV → Nat → Nat → zHp → Prop} {m s z c : Nat} {p fk cn ln en ax nu wr sv sp ss : Int} {co po : Nat → Int} {cmR : Nat → Nat} {ceR : Nat → Nat → Int} (hM : h m = some (.inl (11, mOb m p (s : Int) fk (z : Int) (c : Int) cn ln en ax nu wr sv sp ss))) (hA13 : h (m + 13) = some (.inr (.inl (0, 9, co)))) (hA14 : h (m + 14) = some (.inr (.inl (0, 729, po)))) (hc : c ≤ 4) (hcr : ∀ b, b < c → cmR b < 81) (han : ∀ b d, b < c → d < c → b ≠ d → cmR b / 9 ≠ cmR d / 9) (hag : ∀ a, a < c → co a = (cmR a : Int) ∧ ∀ x, x < 81 → po (81 * a + x) = ceR a x) (hw : n0 ≤ m) (hQ : ∀ (pi : Nat → Nat) (co1 po1 : Nat → Int) (h' : zHp), ((∀ a, a < c → pi a < c) ∧ ∀ d, d < c → ∃ a, a < c ∧ pi a = d) → (∀ a, a < c → co1 a = (cmR (pi a) : Int) ∧ ∀ x, x < 81 → po1 (81 * a + x) = ceR (pi a) x) → (∀ a d, a < d → d < c → cmR (pi a) < cmR (pi d)) → h' (m + 13) = some (.inr (.inl (0, 9, co1))) → h' (m + 14) = some (.inr (.inl (0, 729, po1))) → (∀ q : Nat, q ≠ (m + 13) → q ≠ (m + 14) → h' q = h q) → Q none n k h') : ZT n0 g mX10_sortCorners 0 (zloc mX10_sortCorners [.inr (some m)]) [] n k h Q := by
  show ZT n0 g mX10_sortCorners 0 [some (.inr (some m)), none, none, none, none, none] [] n k h Q
  refine T_iconst dX10_sortCorners_0 (by decide) ?_
  refine T_istore_n dX10_sortCorners_1 (Nat.le_of_ble_eq_true rfl) ?_
  exact m_X10_sortCorners_2 hM hA13 hA14 hc hcr han hag hw hQ _ 1 (fun a => a) co po _ _ _ _ rfl _ hA13 hA14 (fun q q0 q1 => rfl) (by omega) ⟨fun a ha => ha, fun d hd => ⟨d, hd, rfl⟩⟩ hag (fun a d h1 h2 h3 => by omega) 
