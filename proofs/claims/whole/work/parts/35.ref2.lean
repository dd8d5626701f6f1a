/-! ===== the reference: reduce: printed by wip/whole/gen/s_ref2.py ===== -/
set_option maxHeartbeats 4000000 in
set_option maxRecDepth 100000 in
theorem m_X10_reduce_199 {n0 n k : Nat} {g : Nat → zV} {h : zHp} {Q : Option zV → Nat → Nat → zHp → Prop} {m s z c : Nat} {p fk cn ln en ax nu wr sv sp ss : Int} {q0 : Nat} {xs ys ve0 fa0 re cb pv : Nat → Int} {RR OO : Nat → Nat → Int} {piv : Nat → Nat} (hM : h m = some (.inl (11, mOb m p (s : Int) fk (z : Int) (c : Int) cn ln en ax nu wr sv sp ss))) (hX1 : h (m + 1) = some (.inr (.inl (0, 8, xs)))) (hX2 : h (m + 2) = some (.inr (.inl (0, 8, ys)))) (hA7 : h (m + 7) = some (.inr (.inl (0, 64, re)))) (hA8 : h (m + 8) = some (.inr (.inl (0, 64, cb)))) (hA9 : h (m + 9) = some (.inr (.inl (0, 8, pv)))) (hA10 : h (m + 10) = some (.inr (.inl (0, 8, ve0)))) (hA11 : h (m + 11) = some (.inr (.inl (0, 8, fa0)))) (hs : s ≤ 8 ∧ z ≤ s) (hp : 1 < p ∧ p < 32) (hxs : ∀ k, k < s → 0 ≤ xs k ∧ xs k < p) (hys : ∀ k, k < s → 0 ≤ ys k ∧ ys k < p) (hq0 : q0 < 81) (hw : n0 ≤ m) (hre : ∀ r, r < z → ∀ k, k < s → re (8 * r + k) = RR r k ∧ 0 ≤ RR r k ∧ RR r k < p) (hcb : ∀ r, r < z → ∀ t, t < z → cb (8 * r + t) = OO r t ∧ 0 ≤ OO r t ∧ OO r t < p) (hpv : ∀ r, r < z → pv r = (piv r : Int) ∧ piv r < s) (hF : ∀ (ve' fa' : Nat → Int) (h' : zHp), (∀ k, k < s → zrv p RR piv (fun k => zmon p (xs k) (ys k) q0) z k = 0) → (∀ k, k < s → ve' k = zrv p RR piv (fun k => zmon p (xs k) (ys k) q0) z k) → (∀ t, t < z → fa' t = zrc p RR OO piv (fun k => zmon p (xs k) (ys k) q0) z t) → h' (m + 10) = some (.inr (.inl (0, 8, ve'))) → h' (m + 11) = some (.inr (.inl (0, 8, fa'))) → (∀ q : Nat, q ≠ (m + 10) → q ≠ (m + 11) → h' q = h q) → Q (some (.inl (s : Int))) n k h') (hT : ∀ (q : Nat) (ve' fa' : Nat → Int) (h' : zHp), (q < s ∧ zrv p RR piv (fun k => zmon p (xs k) (ys k) q0) z q ≠ 0 ∧ ∀ i, i < q → zrv p RR piv (fun k => zmon p (xs k) (ys k) q0) z i = 0) → (∀ k, k < s → ve' k = zrv p RR piv (fun k => zmon p (xs k) (ys k) q0) z k) → (∀ t, t < z → fa' t = zrc p RR OO piv (fun k => zmon p (xs k) (ys k) q0) z t) → h' (m + 10) = some (.inr (.inl (0, 8, ve'))) → h' (m + 11) = some (.inr (.inl (0, 8, fa'))) → (∀ q : Nat, q ≠ (m + 10) → q ≠ (m + 11) → h' q = h q) → Q (some (.inl (q : Int))) n k h') : ∀ (d : Nat) (j : Nat) (ve : Nat → Int) (fa : Nat → Int) (L3 : Option zV) (L4 : Option zV), s - j = d → ∀ h1 : zHp, h1 (m + 10) = some (.inr (.inl (0, 8, ve))) → h1 (m + 11) = some (.inr (.inl (0, 8, fa))) → (∀ q : Nat, q ≠ (m + 10) → q ≠ (m + 11) → h1 q = h q) → (j ≤ s) → (∀ k, k < s → ve k = zrv p RR piv (fun k => zmon p (xs k) (ys k) q0) z k) → (∀ t, t < z → fa t = zrc p RR OO piv (fun k => zmon p (xs k) (ys k) q0) z t) → (∀ i, i < j → ve i = 0) → ZT n0 g mX10_reduce 199 [some (.inr (some m)), some (.inl (q0 : Int)), some (.inl (j : Int)), L3, L4] [] n k h1 Q := by
  intro d
  induction d using Nat.strongRecOn with | _ d ih => ?_
  intro j ve fa L3 L4 hd0 h1 g10 g11 hfr hj hv hf h0
  subst hd0
  have vb : ∀ r k, k < s → 0 ≤ zrv p RR piv (fun k => zmon p (xs k) (ys k) q0) r k ∧ zrv p RR piv (fun k => zmon p (xs k) (ys k) q0) r k < p := fun r k hk => zrv_bd (v := fun k => zmon p (xs k) (ys k) q0) hp.1 (zmon_bd hp.1 q0) r
  have cbd : ∀ r k, 0 ≤ zrc p RR OO piv (fun k => zmon p (xs k) (ys k) q0) r k ∧ zrc p RR OO piv (fun k => zmon p (xs k) (ys k) q0) r k < p := fun r k => zrc_bd hp.1 r
  refine T_iload_n dX10_reduce_199 rfl ?_
  refine T_aload_n dX10_reduce_200 rfl ?_
  refine T_getfield dX10_reduce_201 zkf_11_111 ((hfr _ (by omega) (by omega)).trans hM) rfl ?_
  refine T_icmp_ge dX10_reduce_204 (t := 222) rfl (fun c204 => ?_) (fun c204 => ?_)
  · refine T_iload_n dX10_reduce_222 rfl ?_
    refine T_iret dX10_reduce_223 rfl ?_
    have ej : j = s := by omega
    rw [ej]
    exact hF ve fa _ (fun k hk => by rw [← hv k hk]; exact h0 k (by omega)) hv hf g10 g11 hfr
  · refine T_aload_n dX10_reduce_207 rfl ?_
    refine T_getfield dX10_reduce_208 zkf_11_42 ((hfr _ (by omega) (by omega)).trans hM) rfl ?_
    refine T_iload_n dX10_reduce_211 rfl ?_
    refine T_ialoadN (m := j) dX10_reduce_212 g10 rfl (by omega) ?_
    refine T_if_ne dX10_reduce_213 (t := 222) rfl (fun c213 => ?_) (fun c213 => ?_)
    · refine T_iload_n dX10_reduce_222 rfl ?_
      refine T_iret dX10_reduce_223 rfl ?_
      exact hT j ve fa _ ⟨by omega, by rw [← hv j (by omega)]; omega, fun i hi => by rw [← hv i (by omega)]; exact h0 i hi⟩ hv hf g10 g11 hfr
    · refine T_iinc dX10_reduce_216 rfl ⟨by omega, by omega⟩ ?_
      refine T_goto dX10_reduce_219 (t := 199) rfl ?_
      exact ih _ (by omega) (j + 1) _ _ _ _ rfl _ g10 g11 (fun q q0 q1 => ((hfr _ q0 q1).trans rfl)) (by omega) hv hf (fun i hi => by
            by_cases e : i = j
            · subst e; omega
            · exact h0 i (by omega)) 
set_option maxHeartbeats 4000000 in
set_option maxRecDepth 100000 in
theorem m_X10_reduce_142 {n0 n k : Nat} {g : Nat → zV} {h : zHp} {Q : Option zV → Nat → Nat → zHp → Prop} {m s z c : Nat} {p fk cn ln en ax nu wr sv sp ss : Int} {q0 : Nat} {xs ys ve0 fa0 re cb pv : Nat → Int} {RR OO : Nat → Nat → Int} {piv : Nat → Nat} (hM : h m = some (.inl (11, mOb m p (s : Int) fk (z : Int) (c : Int) cn ln en ax nu wr sv sp ss))) (hX1 : h (m + 1) = some (.inr (.inl (0, 8, xs)))) (hX2 : h (m + 2) = some (.inr (.inl (0, 8, ys)))) (hA7 : h (m + 7) = some (.inr (.inl (0, 64, re)))) (hA8 : h (m + 8) = some (.inr (.inl (0, 64, cb)))) (hA9 : h (m + 9) = some (.inr (.inl (0, 8, pv)))) (hA10 : h (m + 10) = some (.inr (.inl (0, 8, ve0)))) (hA11 : h (m + 11) = some (.inr (.inl (0, 8, fa0)))) (hs : s ≤ 8 ∧ z ≤ s) (hp : 1 < p ∧ p < 32) (hxs : ∀ k, k < s → 0 ≤ xs k ∧ xs k < p) (hys : ∀ k, k < s → 0 ≤ ys k ∧ ys k < p) (hq0 : q0 < 81) (hw : n0 ≤ m) (hre : ∀ r, r < z → ∀ k, k < s → re (8 * r + k) = RR r k ∧ 0 ≤ RR r k ∧ RR r k < p) (hcb : ∀ r, r < z → ∀ t, t < z → cb (8 * r + t) = OO r t ∧ 0 ≤ OO r t ∧ OO r t < p) (hpv : ∀ r, r < z → pv r = (piv r : Int) ∧ piv r < s)  : ∀ (d : Nat) (r : Nat) (f : Int) (j : Nat) (ve : Nat → Int) (fa : Nat → Int), z - j = d → ∀ h1 : zHp, h1 (m + 10) = some (.inr (.inl (0, 8, ve))) → h1 (m + 11) = some (.inr (.inl (0, 8, fa))) → (∀ q : Nat, q ≠ (m + 10) → q ≠ (m + 11) → h1 q = h q) → (r < z) → (f = zrv p RR piv (fun k => zmon p (xs k) (ys k) q0) r (piv r)) → (j ≤ z) → (∀ t, t < j → fa t = zrc p RR OO piv (fun k => zmon p (xs k) (ys k) q0) (r + 1) t) → (∀ t, j ≤ t → t < z → fa t = zrc p RR OO piv (fun k => zmon p (xs k) (ys k) q0) r t) → (∀ (j : Nat) (fa : Nat → Int) (h' : zHp), (∀ t, t < z → fa t = zrc p RR OO piv (fun k => zmon p (xs k) (ys k) q0) (r + 1) t) → h' (m + 10) = some (.inr (.inl (0, 8, ve))) → h' (m + 11) = some (.inr (.inl (0, 8, fa))) → (∀ q : Nat, q ≠ (m + 10) → q ≠ (m + 11) → h' q = h q) → ZT n0 g mX10_reduce 191 [some (.inr (some m)), some (.inl (q0 : Int)), some (.inl (r : Int)), some (.inl f), some (.inl (j : Int))] [] n k h' Q) → ZT n0 g mX10_reduce 142 [some (.inr (some m)), some (.inl (q0 : Int)), some (.inl (r : Int)), some (.inl f), some (.inl (j : Int))] [] n k h1 Q := by
  intro d
  induction d using Nat.strongRecOn with | _ d ih => ?_
  intro r f j ve fa hd0 h1 g10 g11 hfr hr hff hj hl hg kk191
  subst hd0
  have vb : ∀ r k, k < s → 0 ≤ zrv p RR piv (fun k => zmon p (xs k) (ys k) q0) r k ∧ zrv p RR piv (fun k => zmon p (xs k) (ys k) q0) r k < p := fun r k hk => zrv_bd (v := fun k => zmon p (xs k) (ys k) q0) hp.1 (zmon_bd hp.1 q0) r
  have cbd : ∀ r k, 0 ≤ zrc p RR OO piv (fun k => zmon p (xs k) (ys k) q0) r k ∧ zrc p RR OO piv (fun k => zmon p (xs k) (ys k) q0) r k < p := fun r k => zrc_bd hp.1 r
  refine T_iload dX10_reduce_142 rfl ?_
  refine T_aload_n dX10_reduce_144 rfl ?_
  refine T_getfield dX10_reduce_145 zkf_11_140 ((hfr _ (by omega) (by omega)).trans hM) rfl ?_
  refine T_icmp_ge dX10_reduce_148 (t := 191) rfl (fun c148 => ?_) (fun c148 => ?_)
  · exact kk191 j _ _ (fun k hk => hl k (by omega)) g10 g11 (fun q q0 q1 => ((hfr _ q0 q1).trans rfl))
  · refine T_aload_n dX10_reduce_151 rfl ?_
    refine T_getfield dX10_reduce_152 zkf_11_45 ((hfr _ (by omega) (by omega)).trans hM) rfl ?_
    refine T_iload dX10_reduce_155 rfl ?_
    refine T_aload_n dX10_reduce_157 rfl ?_
    refine T_getfield dX10_reduce_158 zkf_11_45 ((hfr _ (by omega) (by omega)).trans hM) rfl ?_
    refine T_iload dX10_reduce_161 rfl ?_
    refine T_ialoadN (m := j) dX10_reduce_163 g11 rfl (by omega) ?_
    refine T_iload_n dX10_reduce_164 rfl ?_
    refine T_aload_n dX10_reduce_165 rfl ?_
    refine T_getfield dX10_reduce_166 zkf_11_36 ((hfr _ (by omega) (by omega)).trans hM) rfl ?_
    refine T_bipush dX10_reduce_169 (by decide) ?_
    refine T_iload_n dX10_reduce_171 rfl ?_
    refine T_imul dX10_reduce_172 ⟨by omega, by omega⟩ ?_
    refine T_iload dX10_reduce_173 rfl ?_
    refine T_iadd dX10_reduce_175 ⟨by omega, by omega⟩ ?_
    refine T_ialoadN (m := ((8 * r) + j)) dX10_reduce_176 ((hfr _ (by omega) (by omega)).trans hA8) rfl (by omega) ?_
    have bv := cbd r j
    have bf := vb r (piv r) (hpv r (by omega)).2
    rw [← hff] at bf
    rw [← hg j (Nat.le_refl j) (by omega)] at bv
    have br := hcb r hr j (by omega)
    have m1 := zmul_le bf.1 (show f ≤ 32 by omega) (show 0 ≤ cb (8 * r + j) by omega) (show cb (8 * r + j) ≤ 32 by omega)
    refine T_imul dX10_reduce_177 ⟨by omega, by omega⟩ ?_
    refine T_iadd dX10_reduce_178 ⟨by omega, by omega⟩ ?_
    refine T_aload_n dX10_reduce_179 rfl ?_
    refine T_getfield dX10_reduce_180 zkf_11_7 ((hfr _ (by omega) (by omega)).trans hM) rfl ?_
    refine T_iremN dX10_reduce_183 ⟨by omega, by omega⟩ (by omega) ?_
    have r183 := zmod_bd ((fa j) + (f * (cb ((8 * r) + j)))) p (by omega)
    refine T_iastoreN (m := j) dX10_reduce_184 g11 rfl (by omega) (by omega) ?_
    refine T_iinc dX10_reduce_185 rfl ⟨by omega, by omega⟩ ?_
    refine T_goto dX10_reduce_188 (t := 142) rfl ?_
    exact ih _ (by omega) r f (j + 1) _ _ rfl _ (zup_ne (by omega) g10) zup_self (fun q q0 q1 => ((zup_nf q1).trans ((hfr _ q0 q1).trans rfl))) (by omega) hff (by omega) (zfu_below (s := fun k => zrc p RR OO piv (fun k => zmon p (xs k) (ys k) q0) (r + 1) k) hl (by
          show _ = (zrc p RR OO piv (fun k => zmon p (xs k) (ys k) q0) r j + zrv p RR piv (fun k => zmon p (xs k) (ys k) q0) r (piv r) * OO r j) % p
          rw [hg j (Nat.le_refl j) (by omega), br.1, hff])) (fun k h1 h2 => by rw [zfu_ne (by omega)]; exact hg k (by omega) h2) kk191
set_option maxHeartbeats 4000000 in
set_option maxRecDepth 100000 in
theorem m_X10_reduce_88 {n0 n k : Nat} {g : Nat → zV} {h : zHp} {Q : Option zV → Nat → Nat → zHp → Prop} {m s z c : Nat} {p fk cn ln en ax nu wr sv sp ss : Int} {q0 : Nat} {xs ys ve0 fa0 re cb pv : Nat → Int} {RR OO : Nat → Nat → Int} {piv : Nat → Nat} (hM : h m = some (.inl (11, mOb m p (s : Int) fk (z : Int) (c : Int) cn ln en ax nu wr sv sp ss))) (hX1 : h (m + 1) = some (.inr (.inl (0, 8, xs)))) (hX2 : h (m + 2) = some (.inr (.inl (0, 8, ys)))) (hA7 : h (m + 7) = some (.inr (.inl (0, 64, re)))) (hA8 : h (m + 8) = some (.inr (.inl (0, 64, cb)))) (hA9 : h (m + 9) = some (.inr (.inl (0, 8, pv)))) (hA10 : h (m + 10) = some (.inr (.inl (0, 8, ve0)))) (hA11 : h (m + 11) = some (.inr (.inl (0, 8, fa0)))) (hs : s ≤ 8 ∧ z ≤ s) (hp : 1 < p ∧ p < 32) (hxs : ∀ k, k < s → 0 ≤ xs k ∧ xs k < p) (hys : ∀ k, k < s → 0 ≤ ys k ∧ ys k < p) (hq0 : q0 < 81) (hw : n0 ≤ m) (hre : ∀ r, r < z → ∀ k, k < s → re (8 * r + k) = RR r k ∧ 0 ≤ RR r k ∧ RR r k < p) (hcb : ∀ r, r < z → ∀ t, t < z → cb (8 * r + t) = OO r t ∧ 0 ≤ OO r t ∧ OO r t < p) (hpv : ∀ r, r < z → pv r = (piv r : Int) ∧ piv r < s)  : ∀ (d : Nat) (r : Nat) (f : Int) (j : Nat) (ve : Nat → Int) (fa : Nat → Int), s - j = d → ∀ h1 : zHp, h1 (m + 10) = some (.inr (.inl (0, 8, ve))) → h1 (m + 11) = some (.inr (.inl (0, 8, fa))) → (∀ q : Nat, q ≠ (m + 10) → q ≠ (m + 11) → h1 q = h q) → (r < z) → (f = zrv p RR piv (fun k => zmon p (xs k) (ys k) q0) r (piv r)) → (j ≤ s) → (∀ k, k < j → ve k = zrv p RR piv (fun k => zmon p (xs k) (ys k) q0) (r + 1) k) → (∀ k, j ≤ k → k < s → ve k = zrv p RR piv (fun k => zmon p (xs k) (ys k) q0) r k) → (∀ (j : Nat) (ve : Nat → Int) (h' : zHp), (∀ k, k < s → ve k = zrv p RR piv (fun k => zmon p (xs k) (ys k) q0) (r + 1) k) → h' (m + 10) = some (.inr (.inl (0, 8, ve))) → h' (m + 11) = some (.inr (.inl (0, 8, fa))) → (∀ q : Nat, q ≠ (m + 10) → q ≠ (m + 11) → h' q = h q) → ZT n0 g mX10_reduce 139 [some (.inr (some m)), some (.inl (q0 : Int)), some (.inl (r : Int)), some (.inl f), some (.inl (j : Int))] [] n k h' Q) → ZT n0 g mX10_reduce 88 [some (.inr (some m)), some (.inl (q0 : Int)), some (.inl (r : Int)), some (.inl f), some (.inl (j : Int))] [] n k h1 Q := by
  intro d
  induction d using Nat.strongRecOn with | _ d ih => ?_
  intro r f j ve fa hd0 h1 g10 g11 hfr hr hff hj hl hg kk139
  subst hd0
  have vb : ∀ r k, k < s → 0 ≤ zrv p RR piv (fun k => zmon p (xs k) (ys k) q0) r k ∧ zrv p RR piv (fun k => zmon p (xs k) (ys k) q0) r k < p := fun r k hk => zrv_bd (v := fun k => zmon p (xs k) (ys k) q0) hp.1 (zmon_bd hp.1 q0) r
  have cbd : ∀ r k, 0 ≤ zrc p RR OO piv (fun k => zmon p (xs k) (ys k) q0) r k ∧ zrc p RR OO piv (fun k => zmon p (xs k) (ys k) q0) r k < p := fun r k => zrc_bd hp.1 r
  refine T_iload dX10_reduce_88 rfl ?_
  refine T_aload_n dX10_reduce_90 rfl ?_
  refine T_getfield dX10_reduce_91 zkf_11_111 ((hfr _ (by omega) (by omega)).trans hM) rfl ?_
  refine T_icmp_ge dX10_reduce_94 (t := 139) rfl (fun c94 => ?_) (fun c94 => ?_)
  · exact kk139 j _ _ (fun k hk => hl k (by omega)) g10 g11 (fun q q0 q1 => ((hfr _ q0 q1).trans rfl))
  · refine T_aload_n dX10_reduce_97 rfl ?_
    refine T_getfield dX10_reduce_98 zkf_11_42 ((hfr _ (by omega) (by omega)).trans hM) rfl ?_
    refine T_iload dX10_reduce_101 rfl ?_
    refine T_aload_n dX10_reduce_103 rfl ?_
    refine T_getfield dX10_reduce_104 zkf_11_42 ((hfr _ (by omega) (by omega)).trans hM) rfl ?_
    refine T_iload dX10_reduce_107 rfl ?_
    refine T_ialoadN (m := j) dX10_reduce_109 g10 rfl (by omega) ?_
    refine T_iload_n dX10_reduce_110 rfl ?_
    refine T_aload_n dX10_reduce_111 rfl ?_
    refine T_getfield dX10_reduce_112 zkf_11_33 ((hfr _ (by omega) (by omega)).trans hM) rfl ?_
    refine T_bipush dX10_reduce_115 (by decide) ?_
    refine T_iload_n dX10_reduce_117 rfl ?_
    refine T_imul dX10_reduce_118 ⟨by omega, by omega⟩ ?_
    refine T_iload dX10_reduce_119 rfl ?_
    refine T_iadd dX10_reduce_121 ⟨by omega, by omega⟩ ?_
    refine T_ialoadN (m := ((8 * r) + j)) dX10_reduce_122 ((hfr _ (by omega) (by omega)).trans hA7) rfl (by omega) ?_
    have bv := vb r j (by omega)
    have bf := vb r (piv r) (hpv r (by omega)).2
    rw [← hff] at bf
    rw [← hg j (Nat.le_refl j) (by omega)] at bv
    have br := hre r hr j (by omega)
    have m1 := zmul_le bf.1 (show f ≤ 32 by omega) (show 0 ≤ re (8 * r + j) by omega) (show re (8 * r + j) ≤ 32 by omega)
    refine T_imul dX10_reduce_123 ⟨by omega, by omega⟩ ?_
    refine T_isub dX10_reduce_124 ⟨by omega, by omega⟩ ?_
    refine T_aload_n dX10_reduce_125 rfl ?_
    refine T_getfield dX10_reduce_126 zkf_11_7 ((hfr _ (by omega) (by omega)).trans hM) rfl ?_
    refine T_callS dX10_reduce_129 zkm_11_143 ⟨Nat.le_of_ble_eq_true rfl, Nat.le_of_ble_eq_true rfl, rfl⟩ rfl (Nat.le_of_ble_eq_true rfl) ?_
    refine m_J9_floorMod_7cf53  ⟨by omega, by omega⟩ (by omega) ?_
    refine T_iastoreN (m := j) dX10_reduce_132 g10 rfl (by omega) (by omega) ?_
    refine T_iinc dX10_reduce_133 rfl ⟨by omega, by omega⟩ ?_
    refine T_goto dX10_reduce_136 (t := 88) rfl ?_
    exact ih _ (by omega) r f (j + 1) _ _ rfl _ zup_self (zup_ne (by omega) g11) (fun q q0 q1 => ((zup_nf q0).trans ((hfr _ q0 q1).trans rfl))) (by omega) hff (by omega) (zfu_below (s := fun k => zrv p RR piv (fun k => zmon p (xs k) (ys k) q0) (r + 1) k) hl (by
          show _ = (zrv p RR piv (fun k => zmon p (xs k) (ys k) q0) r j + (p - zrv p RR piv (fun k => zmon p (xs k) (ys k) q0) r (piv r)) * RR r j) % p
          rw [zsub_mod, hg j (Nat.le_refl j) (by omega), br.1, hff])) (fun k h1 h2 => by rw [zfu_ne (by omega)]; exact hg k (by omega) h2) kk139
set_option maxHeartbeats 4000000 in
set_option maxRecDepth 100000 in
theorem m_X10_reduce_65 {n0 n k : Nat} {g : Nat → zV} {h : zHp} {Q : Option zV → Nat → Nat → zHp → Prop} {m s z c : Nat} {p fk cn ln en ax nu wr sv sp ss : Int} {q0 : Nat} {xs ys ve0 fa0 re cb pv : Nat → Int} {RR OO : Nat → Nat → Int} {piv : Nat → Nat} (hM : h m = some (.inl (11, mOb m p (s : Int) fk (z : Int) (c : Int) cn ln en ax nu wr sv sp ss))) (hX1 : h (m + 1) = some (.inr (.inl (0, 8, xs)))) (hX2 : h (m + 2) = some (.inr (.inl (0, 8, ys)))) (hA7 : h (m + 7) = some (.inr (.inl (0, 64, re)))) (hA8 : h (m + 8) = some (.inr (.inl (0, 64, cb)))) (hA9 : h (m + 9) = some (.inr (.inl (0, 8, pv)))) (hA10 : h (m + 10) = some (.inr (.inl (0, 8, ve0)))) (hA11 : h (m + 11) = some (.inr (.inl (0, 8, fa0)))) (hs : s ≤ 8 ∧ z ≤ s) (hp : 1 < p ∧ p < 32) (hxs : ∀ k, k < s → 0 ≤ xs k ∧ xs k < p) (hys : ∀ k, k < s → 0 ≤ ys k ∧ ys k < p) (hq0 : q0 < 81) (hw : n0 ≤ m) (hre : ∀ r, r < z → ∀ k, k < s → re (8 * r + k) = RR r k ∧ 0 ≤ RR r k ∧ RR r k < p) (hcb : ∀ r, r < z → ∀ t, t < z → cb (8 * r + t) = OO r t ∧ 0 ≤ OO r t ∧ OO r t < p) (hpv : ∀ r, r < z → pv r = (piv r : Int) ∧ piv r < s) (hF : ∀ (ve' fa' : Nat → Int) (h' : zHp), (∀ k, k < s → zrv p RR piv (fun k => zmon p (xs k) (ys k) q0) z k = 0) → (∀ k, k < s → ve' k = zrv p RR piv (fun k => zmon p (xs k) (ys k) q0) z k) → (∀ t, t < z → fa' t = zrc p RR OO piv (fun k => zmon p (xs k) (ys k) q0) z t) → h' (m + 10) = some (.inr (.inl (0, 8, ve'))) → h' (m + 11) = some (.inr (.inl (0, 8, fa'))) → (∀ q : Nat, q ≠ (m + 10) → q ≠ (m + 11) → h' q = h q) → Q (some (.inl (s : Int))) n k h') (hT : ∀ (q : Nat) (ve' fa' : Nat → Int) (h' : zHp), (q < s ∧ zrv p RR piv (fun k => zmon p (xs k) (ys k) q0) z q ≠ 0 ∧ ∀ i, i < q → zrv p RR piv (fun k => zmon p (xs k) (ys k) q0) z i = 0) → (∀ k, k < s → ve' k = zrv p RR piv (fun k => zmon p (xs k) (ys k) q0) z k) → (∀ t, t < z → fa' t = zrc p RR OO piv (fun k => zmon p (xs k) (ys k) q0) z t) → h' (m + 10) = some (.inr (.inl (0, 8, ve'))) → h' (m + 11) = some (.inr (.inl (0, 8, fa'))) → (∀ q : Nat, q ≠ (m + 10) → q ≠ (m + 11) → h' q = h q) → Q (some (.inl (q : Int))) n k h') : ∀ (d : Nat) (r : Nat) (ve : Nat → Int) (fa : Nat → Int) (L3 : Option zV) (L4 : Option zV), z - r = d → ∀ h1 : zHp, h1 (m + 10) = some (.inr (.inl (0, 8, ve))) → h1 (m + 11) = some (.inr (.inl (0, 8, fa))) → (∀ q : Nat, q ≠ (m + 10) → q ≠ (m + 11) → h1 q = h q) → (r ≤ z) → (∀ k, k < s → ve k = zrv p RR piv (fun k => zmon p (xs k) (ys k) q0) r k) → (∀ t, t < z → fa t = zrc p RR OO piv (fun k => zmon p (xs k) (ys k) q0) r t) → ZT n0 g mX10_reduce 65 [some (.inr (some m)), some (.inl (q0 : Int)), some (.inl (r : Int)), L3, L4] [] n k h1 Q := by
  intro d
  induction d using Nat.strongRecOn with | _ d ih => ?_
  intro r ve fa L3 L4 hd0 h1 g10 g11 hfr hr hv hf
  subst hd0
  have vb : ∀ r k, k < s → 0 ≤ zrv p RR piv (fun k => zmon p (xs k) (ys k) q0) r k ∧ zrv p RR piv (fun k => zmon p (xs k) (ys k) q0) r k < p := fun r k hk => zrv_bd (v := fun k => zmon p (xs k) (ys k) q0) hp.1 (zmon_bd hp.1 q0) r
  have cbd : ∀ r k, 0 ≤ zrc p RR OO piv (fun k => zmon p (xs k) (ys k) q0) r k ∧ zrc p RR OO piv (fun k => zmon p (xs k) (ys k) q0) r k < p := fun r k => zrc_bd hp.1 r
  refine T_iload_n dX10_reduce_65 rfl ?_
  refine T_aload_n dX10_reduce_66 rfl ?_
  refine T_getfield dX10_reduce_67 zkf_11_140 ((hfr _ (by omega) (by omega)).trans hM) rfl ?_
  refine T_icmp_ge dX10_reduce_70 (t := 197) rfl (fun c70 => ?_) (fun c70 => ?_)
  · refine T_iconst dX10_reduce_197 (by decide) ?_
    refine T_istore_n dX10_reduce_198 (Nat.le_of_ble_eq_true rfl) ?_
    exact m_X10_reduce_199 hM hX1 hX2 hA7 hA8 hA9 hA10 hA11 hs hp hxs hys hq0 hw hre hcb hpv hF hT _ 0 _ _ _ _ rfl _ g10 g11 (fun q q0 q1 => ((hfr _ q0 q1).trans rfl)) (by omega) (by rw [show z = r by omega]; exact hv) (fun t ht => by rw [show z = r by omega]; exact hf t (by omega)) (fun i hi => absurd hi (Nat.not_lt_zero i)) 
  · refine T_aload_n dX10_reduce_73 rfl ?_
    refine T_getfield dX10_reduce_74 zkf_11_42 ((hfr _ (by omega) (by omega)).trans hM) rfl ?_
    refine T_aload_n dX10_reduce_77 rfl ?_
    refine T_getfield dX10_reduce_78 zkf_11_39 ((hfr _ (by omega) (by omega)).trans hM) rfl ?_
    refine T_iload_n dX10_reduce_81 rfl ?_
    refine T_ialoadN (m := r) dX10_reduce_82 ((hfr _ (by omega) (by omega)).trans hA9) rfl (by omega) ?_
    have bp := (hpv r (by omega)).2
    refine T_ialoadN (m := (piv r)) dX10_reduce_83 g10 (hpv r (by omega)).1 (by have := (hpv r (by omega)).2; omega) ?_
    refine T_istore_n dX10_reduce_84 (Nat.le_of_ble_eq_true rfl) ?_
    refine T_iconst dX10_reduce_85 (by decide) ?_
    refine T_istore dX10_reduce_86 (Nat.le_of_ble_eq_true rfl) ?_
    refine m_X10_reduce_88 hM hX1 hX2 hA7 hA8 hA9 hA10 hA11 hs hp hxs hys hq0 hw hre hcb hpv _ r (ve (piv r)) 0 _ _ rfl _ g10 g11 (fun q q0 q1 => ((hfr _ q0 q1).trans rfl)) (by omega) (hv _ bp) (by omega) (fun i hi => absurd hi (Nat.not_lt_zero i)) (fun k _ hk => hv k hk) (fun j139 ve139 hh139 xl_139 g10_139 g11_139 fr_139 => ?_)
    refine T_iconst dX10_reduce_139 (by decide) ?_
    refine T_istore dX10_reduce_140 (Nat.le_of_ble_eq_true rfl) ?_
    refine m_X10_reduce_142 hM hX1 hX2 hA7 hA8 hA9 hA10 hA11 hs hp hxs hys hq0 hw hre hcb hpv _ r _ 0 _ _ rfl _ g10_139 g11_139 (fun q q0 q1 => ((fr_139 _ q0 q1).trans rfl)) (by omega) (hv _ bp) (by omega) (fun i hi => absurd hi (Nat.not_lt_zero i)) (fun k _ hk => hf k hk) (fun j191 fa191 hh191 xl_191 g10_191 g11_191 fr_191 => ?_)
    refine T_iinc dX10_reduce_191 rfl ⟨by omega, by omega⟩ ?_
    refine T_goto dX10_reduce_194 (t := 65) rfl ?_
    exact ih _ (by omega) (r + 1) _ _ _ _ rfl _ g10_191 g11_191 (fun q q0 q1 => ((fr_191 _ q0 q1).trans rfl)) (by omega) xl_139 xl_191 
set_option maxHeartbeats 4000000 in
set_option maxRecDepth 100000 in
theorem m_X10_reduce_2 {n0 n k : Nat} {g : Nat → zV} {h : zHp} {Q : Option zV → Nat → Nat → zHp → Prop} {m s z c : Nat} {p fk cn ln en ax nu wr sv sp ss : Int} {q0 : Nat} {xs ys ve0 fa0 re cb pv : Nat → Int} {RR OO : Nat → Nat → Int} {piv : Nat → Nat} (hM : h m = some (.inl (11, mOb m p (s : Int) fk (z : Int) (c : Int) cn ln en ax nu wr sv sp ss))) (hX1 : h (m + 1) = some (.inr (.inl (0, 8, xs)))) (hX2 : h (m + 2) = some (.inr (.inl (0, 8, ys)))) (hA7 : h (m + 7) = some (.inr (.inl (0, 64, re)))) (hA8 : h (m + 8) = some (.inr (.inl (0, 64, cb)))) (hA9 : h (m + 9) = some (.inr (.inl (0, 8, pv)))) (hA10 : h (m + 10) = some (.inr (.inl (0, 8, ve0)))) (hA11 : h (m + 11) = some (.inr (.inl (0, 8, fa0)))) (hs : s ≤ 8 ∧ z ≤ s) (hp : 1 < p ∧ p < 32) (hxs : ∀ k, k < s → 0 ≤ xs k ∧ xs k < p) (hys : ∀ k, k < s → 0 ≤ ys k ∧ ys k < p) (hq0 : q0 < 81) (hw : n0 ≤ m) (hre : ∀ r, r < z → ∀ k, k < s → re (8 * r + k) = RR r k ∧ 0 ≤ RR r k ∧ RR r k < p) (hcb : ∀ r, r < z → ∀ t, t < z → cb (8 * r + t) = OO r t ∧ 0 ≤ OO r t ∧ OO r t < p) (hpv : ∀ r, r < z → pv r = (piv r : Int) ∧ piv r < s) (hF : ∀ (ve' fa' : Nat → Int) (h' : zHp), (∀ k, k < s → zrv p RR piv (fun k => zmon p (xs k) (ys k) q0) z k = 0) → (∀ k, k < s → ve' k = zrv p RR piv (fun k => zmon p (xs k) (ys k) q0) z k) → (∀ t, t < z → fa' t = zrc p RR OO piv (fun k => zmon p (xs k) (ys k) q0) z t) → h' (m + 10) = some (.inr (.inl (0, 8, ve'))) → h' (m + 11) = some (.inr (.inl (0, 8, fa'))) → (∀ q : Nat, q ≠ (m + 10) → q ≠ (m + 11) → h' q = h q) → Q (some (.inl (s : Int))) n k h') (hT : ∀ (q : Nat) (ve' fa' : Nat → Int) (h' : zHp), (q < s ∧ zrv p RR piv (fun k => zmon p (xs k) (ys k) q0) z q ≠ 0 ∧ ∀ i, i < q → zrv p RR piv (fun k => zmon p (xs k) (ys k) q0) z i = 0) → (∀ k, k < s → ve' k = zrv p RR piv (fun k => zmon p (xs k) (ys k) q0) z k) → (∀ t, t < z → fa' t = zrc p RR OO piv (fun k => zmon p (xs k) (ys k) q0) z t) → h' (m + 10) = some (.inr (.inl (0, 8, ve'))) → h' (m + 11) = some (.inr (.inl (0, 8, fa'))) → (∀ q : Nat, q ≠ (m + 10) → q ≠ (m + 11) → h' q = h q) → Q (some (.inl (q : Int))) n k h') : ∀ (d : Nat) (j : Nat) (ve : Nat → Int) (fa : Nat → Int), s - j = d → ∀ h1 : zHp, h1 (m + 10) = some (.inr (.inl (0, 8, ve))) → h1 (m + 11) = some (.inr (.inl (0, 8, fa))) → (∀ q : Nat, q ≠ (m + 10) → q ≠ (m + 11) → h1 q = h q) → (j ≤ s) → (∀ k, k < j → ve k = zmon p (xs k) (ys k) q0) → (∀ k, k < j → fa k = 0) → ZT n0 g mX10_reduce 2 [some (.inr (some m)), some (.inl (q0 : Int)), some (.inl (j : Int)), none, none] [] n k h1 Q := by
  intro d
  induction d using Nat.strongRecOn with | _ d ih => ?_
  intro j ve fa hd0 h1 g10 g11 hfr hj hv hf
  subst hd0
  have vb : ∀ r k, k < s → 0 ≤ zrv p RR piv (fun k => zmon p (xs k) (ys k) q0) r k ∧ zrv p RR piv (fun k => zmon p (xs k) (ys k) q0) r k < p := fun r k hk => zrv_bd (v := fun k => zmon p (xs k) (ys k) q0) hp.1 (zmon_bd hp.1 q0) r
  have cbd : ∀ r k, 0 ≤ zrc p RR OO piv (fun k => zmon p (xs k) (ys k) q0) r k ∧ zrc p RR OO piv (fun k => zmon p (xs k) (ys k) q0) r k < p := fun r k => zrc_bd hp.1 r
  refine T_iload_n dX10_reduce_2 rfl ?_
  refine T_aload_n dX10_reduce_3 rfl ?_
  refine T_getfield dX10_reduce_4 zkf_11_111 ((hfr _ (by omega) (by omega)).trans hM) rfl ?_
  refine T_icmp_ge dX10_reduce_7 (t := 63) rfl (fun c7 => ?_) (fun c7 => ?_)
  · refine T_iconst dX10_reduce_63 (by decide) ?_
    refine T_istore_n dX10_reduce_64 (Nat.le_of_ble_eq_true rfl) ?_
    exact m_X10_reduce_65 hM hX1 hX2 hA7 hA8 hA9 hA10 hA11 hs hp hxs hys hq0 hw hre hcb hpv hF hT _ 0 _ _ _ _ rfl _ g10 g11 (fun q q0 q1 => ((hfr _ q0 q1).trans rfl)) (by omega) (fun k hk => hv k (by omega)) (fun k hk => hf k (by omega)) 
  · refine T_aload_n dX10_reduce_10 rfl ?_
    refine T_getfield dX10_reduce_11 zkf_11_42 ((hfr _ (by omega) (by omega)).trans hM) rfl ?_
    refine T_iload_n dX10_reduce_14 rfl ?_
    refine T_aload_n dX10_reduce_15 rfl ?_
    refine T_aload_n dX10_reduce_16 rfl ?_
    refine T_getfield dX10_reduce_17 zkf_11_13 ((hfr _ (by omega) (by omega)).trans hM) rfl ?_
    refine T_iload_n dX10_reduce_20 rfl ?_
    refine T_ialoadN (m := j) dX10_reduce_21 ((hfr _ (by omega) (by omega)).trans hX1) rfl (by omega) ?_
    have e21 := hxs j (by omega)
    refine T_iload_n dX10_reduce_22 rfl ?_
    refine T_bipush dX10_reduce_23 (by decide) ?_
    refine T_idivN dX10_reduce_25 ⟨by omega, by omega⟩ (by omega) ?_
    refine T_callV dX10_reduce_26 zkm_11_136 (Or.inl rfl) rfl ((hfr _ (by omega) (by omega)).trans hM) ⟨Nat.le_of_ble_eq_true rfl, rfl⟩ rfl (Nat.le_of_ble_eq_true rfl) ?_
    refine m_X10_power (e := (q0 / 9)) ((hfr _ (by omega) (by omega)).trans hM) (by omega) e21 (by omega) ?_
    refine T_aload_n dX10_reduce_29 rfl ?_
    refine T_aload_n dX10_reduce_30 rfl ?_
    refine T_getfield dX10_reduce_31 zkf_11_17 ((hfr _ (by omega) (by omega)).trans hM) rfl ?_
    refine T_iload_n dX10_reduce_34 rfl ?_
    refine T_ialoadN (m := j) dX10_reduce_35 ((hfr _ (by omega) (by omega)).trans hX2) rfl (by omega) ?_
    have e35 := hys j (by omega)
    refine T_iload_n dX10_reduce_36 rfl ?_
    refine T_bipush dX10_reduce_37 (by decide) ?_
    refine T_iremN dX10_reduce_39 ⟨by omega, by omega⟩ (by omega) ?_
    refine T_callV dX10_reduce_40 zkm_11_136 (Or.inl rfl) rfl ((hfr _ (by omega) (by omega)).trans hM) ⟨Nat.le_of_ble_eq_true rfl, rfl⟩ rfl (Nat.le_of_ble_eq_true rfl) ?_
    refine m_X10_power (e := (q0 % 9)) ((hfr _ (by omega) (by omega)).trans hM) (by omega) e35 (by omega) ?_
    have w1 := zpow_bd (b := xs j) hp.1 (q0 / 9)
    have w2 := zpow_bd (b := ys j) hp.1 (q0 % 9)
    have w3 := zmul_le w1.1 (show _ ≤ (32 : Int) by omega) w2.1 (show _ ≤ (32 : Int) by omega)
    refine T_imul dX10_reduce_43 (zmulR (by omega) (by omega) (by omega) (by omega)) ?_
    refine T_aload_n dX10_reduce_44 rfl ?_
    refine T_getfield dX10_reduce_45 zkf_11_7 ((hfr _ (by omega) (by omega)).trans hM) rfl ?_
    refine T_iremN dX10_reduce_48 ⟨by omega, by omega⟩ (by omega) ?_
    have r48 := zmod_bd ((zpow p (xs j) (q0 / 9)) * (zpow p (ys j) (q0 % 9))) p (by omega)
    refine T_iastoreN (m := j) dX10_reduce_49 g10 rfl (by omega) (by omega) ?_
    refine T_aload_n dX10_reduce_50 rfl ?_
    refine T_getfield dX10_reduce_51 zkf_11_45 (zup_ne (by omega) ((hfr _ (by omega) (by omega)).trans hM)) rfl ?_
    refine T_iload_n dX10_reduce_54 rfl ?_
    refine T_iconst dX10_reduce_55 (by decide) ?_
    refine T_iastoreN (m := j) dX10_reduce_56 (zup_ne (by omega) g11) rfl (by omega) (by omega) ?_
    refine T_iinc dX10_reduce_57 rfl ⟨by omega, by omega⟩ ?_
    refine T_goto dX10_reduce_60 (t := 2) rfl ?_
    exact ih _ (by omega) (j + 1) _ _ rfl _ (zup_ne (by omega) zup_self) zup_self (fun q q0 q1 => ((zup_nf q1).trans ((zup_nf q0).trans ((hfr _ q0 q1).trans rfl)))) (by omega) (zfu_below (s := fun k => zmon p (xs k) (ys k) q0) hv rfl) (zfu_below (s := fun _ => 0) hf rfl) 
set_option maxHeartbeats 4000000 in
set_option maxRecDepth 100000 in
theorem m_X10_reduce {n0 n k : Nat} {g : Nat → zV} {h : zHp} {Q : Option zV → Nat → Nat → zHp → Prop} {m s z c : Nat} {p fk cn ln en ax nu wr sv sp ss : Int} {q0 : Nat} {xs ys ve0 fa0 re cb pv : Nat → Int} {RR OO : Nat → Nat → Int} {piv : Nat → Nat} (hM : h m = some (.inl (11, mOb m p (s : Int) fk (z : Int) (c : Int) cn ln en ax nu wr sv sp ss))) (hX1 : h (m + 1) = some (.inr (.inl (0, 8, xs)))) (hX2 : h (m + 2) = some (.inr (.inl (0, 8, ys)))) (hA7 : h (m + 7) = some (.inr (.inl (0, 64, re)))) (hA8 : h (m + 8) = some (.inr (.inl (0, 64, cb)))) (hA9 : h (m + 9) = some (.inr (.inl (0, 8, pv)))) (hA10 : h (m + 10) = some (.inr (.inl (0, 8, ve0)))) (hA11 : h (m + 11) = some (.inr (.inl (0, 8, fa0)))) (hs : s ≤ 8 ∧ z ≤ s) (hp : 1 < p ∧ p < 32) (hxs : ∀ k, k < s → 0 ≤ xs k ∧ xs k < p) (hys : ∀ k, k < s → 0 ≤ ys k ∧ ys k < p) (hq0 : q0 < 81) (hw : n0 ≤ m) (hre : ∀ r, r < z → ∀ k, k < s → re (8 * r + k) = RR r k ∧ 0 ≤ RR r k ∧ RR r k < p) (hcb : ∀ r, r < z → ∀ t, t < z → cb (8 * r + t) = OO r t ∧ 0 ≤ OO r t ∧ OO r t < p) (hpv : ∀ r, r < z → pv r = (piv r : Int) ∧ piv r < s) (hF : ∀ (ve' fa' : Nat → Int) (h' : zHp), (∀ k, k < s → zrv p RR piv (fun k => zmon p (xs k) (ys k) q0) z k = 0) → (∀ k, k < s → ve' k = zrv p RR piv (fun k => zmon p (xs k) (ys k) q0) z k) → (∀ t, t < z → fa' t = zrc p RR OO piv (fun k => zmon p (xs k) (ys k) q0) z t) → h' (m + 10) = some (.inr (.inl (0, 8, ve'))) → h' (m + 11) = some (.inr (.inl (0, 8, fa'))) → (∀ q : Nat, q ≠ (m + 10) → q ≠ (m + 11) → h' q = h q) → Q (some (.inl (s : Int))) n k h') (hT : ∀ (q : Nat) (ve' fa' : Nat → Int) (h' : zHp), (q < s ∧ zrv p RR piv (fun k => zmon p (xs k) (ys k) q0) z q ≠ 0 ∧ ∀ i, i < q → zrv p RR piv (fun k => zmon p (xs k) (ys k) q0) z i = 0) → (∀ k, k < s → ve' k = zrv p RR piv (fun k => zmon p (xs k) (ys k) q0) z k) → (∀ t, t < z → fa' t = zrc p RR OO piv (fun k => zmon p (xs k) (ys k) q0) z t) → h' (m + 10) = some (.inr (.inl (0, 8, ve'))) → h' (m + 11) = some (.inr (.inl (0, 8, fa'))) → (∀ q : Nat, q ≠ (m + 10) → q ≠ (m + 11) → h' q = h q) → Q (some (.inl (q : Int))) n k h') : ZT n0 g mX10_reduce 0 (zloc mX10_reduce [.inr (some m), .inl (q0 : Int)]) [] n k h Q := by
  show ZT n0 g mX10_reduce 0 [some (.inr (some m)), some (.inl (q0 : Int)), none, none, none] [] n k h Q
  have vb : ∀ r k, k < s → 0 ≤ zrv p RR piv (fun k => zmon p (xs k) (ys k) q0) r k ∧ zrv p RR piv (fun k => zmon p (xs k) (ys k) q0) r k < p := fun r k hk => zrv_bd (v := fun k => zmon p (xs k) (ys k) q0) hp.1 (zmon_bd hp.1 q0) r
  have cbd : ∀ r k, 0 ≤ zrc p RR OO piv (fun k => zmon p (xs k) (ys k) q0) r k ∧ zrc p RR OO piv (fun k => zmon p (xs k) (ys k) q0) r k < p := fun r k => zrc_bd hp.1 r
  refine T_iconst dX10_reduce_0 (by decide) ?_
  refine T_istore_n dX10_reduce_1 (Nat.le_of_ble_eq_true rfl) ?_
  exact m_X10_reduce_2 hM hX1 hX2 hA7 hA8 hA9 hA10 hA11 hs hp hxs hys hq0 hw hre hcb hpv hF hT _ 0 ve0 fa0 rfl _ hA10 hA11 (fun q q0 q1 => rfl) (by omega) (fun i hi => absurd hi (Nat.not_lt_zero i)) (fun i hi => absurd hi (Nat.not_lt_zero i)) 
