/-! ===== the reference: compute: printed by wip/whole/gen/s_ref4.py ===== -/
set_option maxHeartbeats 4000000 in
set_option maxRecDepth 100000 in
theorem m_X10_compute_141 {n0 n k : Nat} {g : Nat → zV} {h : zHp} {Q : Option zV → Nat → Nat → zHp → Prop} {m s z c : Nat} {p fk cn ln en ax nu wr sv sp ss : Int} {u v tie : Int} {xs ys X Y od0 iS0 sd0 re0 cb0 pv0 ve0 fa0 hh0 co0 po0 : Nat → Int} (hM : h m = some (.inl (11, mOb m p (s : Int) fk (z : Int) (c : Int) cn ln en ax nu wr sv sp ss))) (hX1 : h (m + 1) = some (.inr (.inl (0, 8, xs)))) (hX2 : h (m + 2) = some (.inr (.inl (0, 8, ys)))) (hg4 : h (m + 4) = some (.inr (.inl (0, 81, od0)))) (hg5 : h (m + 5) = some (.inr (.inl (2, 81, iS0)))) (hg6 : h (m + 6) = some (.inr (.inl (0, 8, sd0)))) (hg7 : h (m + 7) = some (.inr (.inl (0, 64, re0)))) (hg8 : h (m + 8) = some (.inr (.inl (0, 64, cb0)))) (hg9 : h (m + 9) = some (.inr (.inl (0, 8, pv0)))) (hg10 : h (m + 10) = some (.inr (.inl (0, 8, ve0)))) (hg11 : h (m + 11) = some (.inr (.inl (0, 8, fa0)))) (hg12 : h (m + 12) = some (.inr (.inl (0, 9, hh0)))) (hg13 : h (m + 13) = some (.inr (.inl (0, 9, co0)))) (hg14 : h (m + 14) = some (.inr (.inl (0, 729, po0)))) (hs : s ≤ 8) (hp : zprime p) (hX : ∀ k, k < s → xs k = X k ∧ ys k = Y k) (hXb : ∀ k, k < s → (0 ≤ X k ∧ X k < p) ∧ (0 ≤ Y k ∧ Y k < p)) (huv : 0 ≤ u ∧ u ≤ 99 ∧ 0 ≤ v ∧ v ≤ 99) (ht : tie = 0 ∨ tie = 1) (hw : n0 ≤ m)  : ∀ (d : Nat) (i : Nat) (j : Nat) (S : gS) (o : Nat → Nat) (od1 : Nat → Int) (iS1 : Nat → Int) (sd1 : Nat → Int) (re1 : Nat → Int) (cb1 : Nat → Int) (pv1 : Nat → Int) (ve1 : Nat → Int) (fa1 : Nat → Int) (hh1 : Nat → Int) (co1 : Nat → Int) (po1 : Nat → Int), 9 - j = d → ∀ h1 : zHp, h1 m = some (.inl (11, mOb m p (s : Int) fk (S.1.1 : Int) (S.2.1 : Int) cn ln en ax nu wr sv sp ss)) → h1 (m + 4) = some (.inr (.inl (0, 81, od1))) → h1 (m + 5) = some (.inr (.inl (2, 81, iS1))) → h1 (m + 6) = some (.inr (.inl (0, 8, sd1))) → h1 (m + 7) = some (.inr (.inl (0, 64, re1))) → h1 (m + 8) = some (.inr (.inl (0, 64, cb1))) → h1 (m + 9) = some (.inr (.inl (0, 8, pv1))) → h1 (m + 10) = some (.inr (.inl (0, 8, ve1))) → h1 (m + 11) = some (.inr (.inl (0, 8, fa1))) → h1 (m + 12) = some (.inr (.inl (0, 9, hh1))) → h1 (m + 13) = some (.inr (.inl (0, 9, co1))) → h1 (m + 14) = some (.inr (.inl (0, 729, po1))) → (∀ q : Nat, q ≠ m → q ≠ (m + 4) → q ≠ (m + 5) → q ≠ (m + 6) → q ≠ (m + 7) → q ≠ (m + 8) → q ≠ (m + 9) → q ≠ (m + 10) → q ≠ (m + 11) → q ≠ (m + 12) → q ≠ (m + 13) → q ≠ (m + 14) → h1 q = h q) → (i < 9) → (j ≤ 9) → (∀ x, x < 81 → iS1 x = (if stdB S.1 x = true then 1 else 0)) → (∀ a, a < i → hh1 a = (zhgt S.1 a : Int)) → (hh1 i = (zcnt (fun j => stdB S.1 (9 * i + j)) j : Int)) → (∀ (j : Nat) (hh1 : Nat → Int) (h' : zHp), (∀ a, a < i + 1 → hh1 a = (zhgt S.1 a : Int)) → h' m = some (.inl (11, mOb m p (s : Int) fk (S.1.1 : Int) (S.2.1 : Int) cn ln en ax nu wr sv sp ss)) → h' (m + 4) = some (.inr (.inl (0, 81, od1))) → h' (m + 5) = some (.inr (.inl (2, 81, iS1))) → h' (m + 6) = some (.inr (.inl (0, 8, sd1))) → h' (m + 7) = some (.inr (.inl (0, 64, re1))) → h' (m + 8) = some (.inr (.inl (0, 64, cb1))) → h' (m + 9) = some (.inr (.inl (0, 8, pv1))) → h' (m + 10) = some (.inr (.inl (0, 8, ve1))) → h' (m + 11) = some (.inr (.inl (0, 8, fa1))) → h' (m + 12) = some (.inr (.inl (0, 9, hh1))) → h' (m + 13) = some (.inr (.inl (0, 9, co1))) → h' (m + 14) = some (.inr (.inl (0, 729, po1))) → (∀ q : Nat, q ≠ m → q ≠ (m + 4) → q ≠ (m + 5) → q ≠ (m + 6) → q ≠ (m + 7) → q ≠ (m + 8) → q ≠ (m + 9) → q ≠ (m + 10) → q ≠ (m + 11) → q ≠ (m + 12) → q ≠ (m + 13) → q ≠ (m + 14) → h' q = h q) → ZT n0 g mX10_compute 185 [some (.inr (some m)), some (.inl u), some (.inl v), some (.inl tie), some (.inl (i : Int)), some (.inl (j : Int))] [] n k h' Q) → ZT n0 g mX10_compute 141 [some (.inr (some m)), some (.inl u), some (.inl v), some (.inl tie), some (.inl (i : Int)), some (.inl (j : Int))] [] n k h1 Q := by
  intro d
  induction d using Nat.strongRecOn with | _ d ih => ?_
  intro i j S o od1 iS1 sd1 re1 cb1 pv1 ve1 fa1 hh1 co1 po1 hd0 h1 go g4 g5 g6 g7 g8 g9 g10 g11 g12 g13 g14 hfr hi hj his hh2 hh3 kk185
  subst hd0
  have hb := zcnt_le (fun j => stdB S.1 (9 * i + j)) j
  refine T_iload dX10_compute_141 rfl ?_
  refine T_bipush dX10_compute_143 (by decide) ?_
  refine T_icmp_ge dX10_compute_145 (t := 185) rfl (fun c145 => ?_) (fun c145 => ?_)
  · exact kk185 j _ _ (fun a ha => by
          by_cases e : a = i
          · subst e; rw [hh3, show j = 9 by omega]; rfl
          · exact hh2 a (by omega)) go g4 g5 g6 g7 g8 g9 g10 g11 g12 g13 g14 (fun q q0 q1 q2 q3 q4 q5 q6 q7 q8 q9 q10 q11 => ((hfr _ q0 q1 q2 q3 q4 q5 q6 q7 q8 q9 q10 q11).trans rfl))
  · refine T_aload_n dX10_compute_148 rfl ?_
    refine T_getfield dX10_compute_149 zkf_11_48 go rfl ?_
    refine T_iload dX10_compute_152 rfl ?_
    refine T_dup2 dX10_compute_154 ?_
    refine T_ialoadN (m := i) dX10_compute_155 g12 rfl (by omega) ?_
    rw [hh3]
    refine T_aload_n dX10_compute_156 rfl ?_
    refine T_getfield dX10_compute_157 zkf_11_26 go rfl ?_
    refine T_bipush dX10_compute_160 (by decide) ?_
    refine T_iload dX10_compute_162 rfl ?_
    refine T_imul dX10_compute_164 ⟨by omega, by omega⟩ ?_
    refine T_iload dX10_compute_165 rfl ?_
    refine T_iadd dX10_compute_167 ⟨by omega, by omega⟩ ?_
    refine T_baloadN (m := ((9 * i) + j)) dX10_compute_168 g5 (by decide) rfl (by omega) ?_
    have hb9 := his (9 * i + j) (by omega)
    refine T_if_eq dX10_compute_169 (t := 176) rfl (fun c169 => ?_) (fun c169 => ?_)
    · refine T_iconst dX10_compute_176 (by decide) ?_
      refine T_iadd dX10_compute_177 ⟨by omega, by omega⟩ ?_
      refine T_iastoreN (m := i) dX10_compute_178 g12 rfl (by omega) (by omega) ?_
      refine T_iinc dX10_compute_179 rfl ⟨by omega, by omega⟩ ?_
      refine T_goto dX10_compute_182 (t := 141) rfl ?_
      exact ih _ (by omega) i (j + 1) S o _ _ _ _ _ _ _ _ _ _ _ rfl _ (zup_ne (by omega) go) (zup_ne (by omega) g4) (zup_ne (by omega) g5) (zup_ne (by omega) g6) (zup_ne (by omega) g7) (zup_ne (by omega) g8) (zup_ne (by omega) g9) (zup_ne (by omega) g10) (zup_ne (by omega) g11) zup_self (zup_ne (by omega) g13) (zup_ne (by omega) g14) (fun q q0 q1 q2 q3 q4 q5 q6 q7 q8 q9 q10 q11 => ((zup_nf q9).trans ((hfr _ q0 q1 q2 q3 q4 q5 q6 q7 q8 q9 q10 q11).trans rfl))) (by omega) (by omega) his (fun a ha => by rw [zfu_ne (by omega)]; exact hh2 a ha) (by
            rw [zfu_self, zcnt]
            by_cases c : stdB S.1 (9 * i + j) = true
            · rw [if_pos c] at hb9; omega
            · rw [if_neg c]; rfl) kk185
    · refine T_iconst dX10_compute_172 (by decide) ?_
      refine T_goto dX10_compute_173 (t := 177) rfl ?_
      refine T_iadd dX10_compute_177 ⟨by omega, by omega⟩ ?_
      refine T_iastoreN (m := i) dX10_compute_178 g12 rfl (by omega) (by omega) ?_
      refine T_iinc dX10_compute_179 rfl ⟨by omega, by omega⟩ ?_
      refine T_goto dX10_compute_182 (t := 141) rfl ?_
      exact ih _ (by omega) i (j + 1) S o _ _ _ _ _ _ _ _ _ _ _ rfl _ (zup_ne (by omega) go) (zup_ne (by omega) g4) (zup_ne (by omega) g5) (zup_ne (by omega) g6) (zup_ne (by omega) g7) (zup_ne (by omega) g8) (zup_ne (by omega) g9) (zup_ne (by omega) g10) (zup_ne (by omega) g11) zup_self (zup_ne (by omega) g13) (zup_ne (by omega) g14) (fun q q0 q1 q2 q3 q4 q5 q6 q7 q8 q9 q10 q11 => ((zup_nf q9).trans ((hfr _ q0 q1 q2 q3 q4 q5 q6 q7 q8 q9 q10 q11).trans rfl))) (by omega) (by omega) his (fun a ha => by rw [zfu_ne (by omega)]; exact hh2 a ha) (by
            rw [zfu_self, zcnt]
            by_cases c : stdB S.1 (9 * i + j) = true
            · rw [if_pos c]; rfl
            · rw [if_neg c] at hb9; omega) kk185
set_option maxHeartbeats 4000000 in
set_option maxRecDepth 100000 in
theorem m_X10_compute_123 {n0 n k : Nat} {g : Nat → zV} {h : zHp} {Q : Option zV → Nat → Nat → zHp → Prop} {m s z c : Nat} {p fk cn ln en ax nu wr sv sp ss : Int} {u v tie : Int} {xs ys X Y od0 iS0 sd0 re0 cb0 pv0 ve0 fa0 hh0 co0 po0 : Nat → Int} (hM : h m = some (.inl (11, mOb m p (s : Int) fk (z : Int) (c : Int) cn ln en ax nu wr sv sp ss))) (hX1 : h (m + 1) = some (.inr (.inl (0, 8, xs)))) (hX2 : h (m + 2) = some (.inr (.inl (0, 8, ys)))) (hg4 : h (m + 4) = some (.inr (.inl (0, 81, od0)))) (hg5 : h (m + 5) = some (.inr (.inl (2, 81, iS0)))) (hg6 : h (m + 6) = some (.inr (.inl (0, 8, sd0)))) (hg7 : h (m + 7) = some (.inr (.inl (0, 64, re0)))) (hg8 : h (m + 8) = some (.inr (.inl (0, 64, cb0)))) (hg9 : h (m + 9) = some (.inr (.inl (0, 8, pv0)))) (hg10 : h (m + 10) = some (.inr (.inl (0, 8, ve0)))) (hg11 : h (m + 11) = some (.inr (.inl (0, 8, fa0)))) (hg12 : h (m + 12) = some (.inr (.inl (0, 9, hh0)))) (hg13 : h (m + 13) = some (.inr (.inl (0, 9, co0)))) (hg14 : h (m + 14) = some (.inr (.inl (0, 729, po0)))) (hs : s ≤ 8) (hp : zprime p) (hX : ∀ k, k < s → xs k = X k ∧ ys k = Y k) (hXb : ∀ k, k < s → (0 ≤ X k ∧ X k < p) ∧ (0 ≤ Y k ∧ Y k < p)) (huv : 0 ≤ u ∧ u ≤ 99 ∧ 0 ≤ v ∧ v ≤ 99) (ht : tie = 0 ∨ tie = 1) (hw : n0 ≤ m) (hQ : ∀ (z1 c1 : Nat) (od1 iS1 sd1 re1 cb1 pv1 ve1 fa1 hh1 co1 po1 : Nat → Int) (h' : zHp), (c1 = (zbas p s X Y u v tie).2.1) → (∀ i, i < 9 → hh1 i = ((zbas p s X Y u v tie).1 i : Int)) → (∀ a, a < c1 → co1 a = ((zbas p s X Y u v tie).2.2.1 a : Int) ∧ ∀ x, x < 81 → po1 (81 * a + x) = (zbas p s X Y u v tie).2.2.2 a x) → h' m = some (.inl (11, mOb m p (s : Int) fk (z1 : Int) (c1 : Int) cn ln en ax nu wr sv sp ss)) → h' (m + 4) = some (.inr (.inl (0, 81, od1))) → h' (m + 5) = some (.inr (.inl (2, 81, iS1))) → h' (m + 6) = some (.inr (.inl (0, 8, sd1))) → h' (m + 7) = some (.inr (.inl (0, 64, re1))) → h' (m + 8) = some (.inr (.inl (0, 64, cb1))) → h' (m + 9) = some (.inr (.inl (0, 8, pv1))) → h' (m + 10) = some (.inr (.inl (0, 8, ve1))) → h' (m + 11) = some (.inr (.inl (0, 8, fa1))) → h' (m + 12) = some (.inr (.inl (0, 9, hh1))) → h' (m + 13) = some (.inr (.inl (0, 9, co1))) → h' (m + 14) = some (.inr (.inl (0, 729, po1))) → (∀ q : Nat, q ≠ m → q ≠ (m + 4) → q ≠ (m + 5) → q ≠ (m + 6) → q ≠ (m + 7) → q ≠ (m + 8) → q ≠ (m + 9) → q ≠ (m + 10) → q ≠ (m + 11) → q ≠ (m + 12) → q ≠ (m + 13) → q ≠ (m + 14) → h' q = h q) → Q none n k h') : ∀ (d : Nat) (i : Nat) (S : gS) (o : Nat → Nat) (od1 : Nat → Int) (iS1 : Nat → Int) (sd1 : Nat → Int) (re1 : Nat → Int) (cb1 : Nat → Int) (pv1 : Nat → Int) (ve1 : Nat → Int) (fa1 : Nat → Int) (hh1 : Nat → Int) (co1 : Nat → Int) (po1 : Nat → Int) (L5 : Option zV), 9 - i = d → ∀ h1 : zHp, h1 m = some (.inl (11, mOb m p (s : Int) fk (S.1.1 : Int) (S.2.1 : Int) cn ln en ax nu wr sv sp ss)) → h1 (m + 4) = some (.inr (.inl (0, 81, od1))) → h1 (m + 5) = some (.inr (.inl (2, 81, iS1))) → h1 (m + 6) = some (.inr (.inl (0, 8, sd1))) → h1 (m + 7) = some (.inr (.inl (0, 64, re1))) → h1 (m + 8) = some (.inr (.inl (0, 64, cb1))) → h1 (m + 9) = some (.inr (.inl (0, 8, pv1))) → h1 (m + 10) = some (.inr (.inl (0, 8, ve1))) → h1 (m + 11) = some (.inr (.inl (0, 8, fa1))) → h1 (m + 12) = some (.inr (.inl (0, 9, hh1))) → h1 (m + 13) = some (.inr (.inl (0, 9, co1))) → h1 (m + 14) = some (.inr (.inl (0, 729, po1))) → (∀ q : Nat, q ≠ m → q ≠ (m + 4) → q ≠ (m + 5) → q ≠ (m + 6) → q ≠ (m + 7) → q ≠ (m + 8) → q ≠ (m + 9) → q ≠ (m + 10) → q ≠ (m + 11) → q ≠ (m + 12) → q ≠ (m + 13) → q ≠ (m + 14) → h1 q = h q) → (i ≤ 9) → (S = rrun p s X Y o 81) → (rfOK s S iS1 sd1 re1 cb1 pv1 co1 po1) → (IsOrd u v tie 81 o) → (∀ k, k < 81 → od1 k = (o k : Int)) → (∀ a, a < i → hh1 a = (zhgt S.1 a : Int)) → ZT n0 g mX10_compute 123 [some (.inr (some m)), some (.inl u), some (.inl v), some (.inl tie), some (.inl (i : Int)), L5] [] n k h1 Q := by
  intro d
  induction d using Nat.strongRecOn with | _ d ih => ?_
  intro i S o od1 iS1 sd1 re1 cb1 pv1 ve1 fa1 hh1 co1 po1 L5 hd0 h1 go g4 g5 g6 g7 g8 g9 g10 g11 g12 g13 g14 hfr hi hS hok ho hod hh2
  subst hd0
  have hR : RI p s X Y u v tie o 81 S := by rw [hS]; exact RI.run hp ho hs huv.1 huv.2.2.1 _ (by omega)
  have h4 := hR.four hs
  have hEle := hR.1.le
  have hpb := hp.bd
  refine T_iload dX10_compute_123 rfl ?_
  refine T_bipush dX10_compute_125 (by decide) ?_
  refine T_icmp_ge dX10_compute_127 (t := 191) rfl (fun c127 => ?_) (fun c127 => ?_)
  · refine T_aload_n dX10_compute_191 rfl ?_
    refine T_callV dX10_compute_192 zkm_11_173 (Or.inl rfl) rfl go ⟨Nat.le_of_ble_eq_true rfl, rfl⟩ rfl (Nat.le_of_ble_eq_true rfl) ?_
    refine m_X10_sortCorners (cmR := S.2.2.1) (ceR := S.2.2.2) go g13 g14 (by omega) (fun b hb => (hR.2.2.2.1 b hb).1) (fun b d hb hd hne => by
          have q1 := hR.anti hb hd hne
          have q2 := hR.anti hd hb (Ne.symm hne)
          unfold zdv at q1 q2
          omega) hok.2.2 (by omega) (fun pi192 co1192 po1192 hh192 k192a k192b k192c f192a f192b fr192 => ?_)
    refine T_vret dX10_compute_195 rfl ?_
    have hIs : IsB (gfin p s X Y u v tie) (zhgt S.1, S.2.1, fun a => S.2.2.1 (pi192 a), fun a => S.2.2.2 (pi192 a)) := by
      rw [← gfin_of ho, ← hS]
      exact ⟨hR.colH hs, rfl, fun a ha => ⟨pi192 a, k192a.1 a ha, rfl, rfl⟩, fun b hb => by
        obtain ⟨a, ha, e⟩ := k192a.2 b hb
        exact ⟨a, ha, by show S.2.2.1 (pi192 a) = _; rw [e]⟩, k192c⟩
    obtain ⟨d1, d2, d3⟩ := zbas_eq hp hs huv.1 huv.2.2.1 hIs
    exact hQ S.1.1 S.2.1 _ _ _ _ _ _ _ _ _ _ _ _ d2 (fun i hi => by rw [hh2 i (by omega)]; exact congrArg _ (d1 i hi)) (fun a ha => by
      have q1 := d3 a ha
      have q2 := k192b a ha
      exact ⟨by rw [q2.1]; exact congrArg _ q1.1, fun x hx => by rw [q2.2 x hx]; exact congrFun q1.2 x⟩) ((fr192 _ (by omega) (by omega)).trans go) ((fr192 _ (by omega) (by omega)).trans g4) ((fr192 _ (by omega) (by omega)).trans g5) ((fr192 _ (by omega) (by omega)).trans g6) ((fr192 _ (by omega) (by omega)).trans g7) ((fr192 _ (by omega) (by omega)).trans g8) ((fr192 _ (by omega) (by omega)).trans g9) ((fr192 _ (by omega) (by omega)).trans g10) ((fr192 _ (by omega) (by omega)).trans g11) ((fr192 _ (by omega) (by omega)).trans g12) f192a f192b (fun q q0 q1 q2 q3 q4 q5 q6 q7 q8 q9 q10 q11 => ((fr192 _ (by omega) (by omega)).trans (((hfr _ (by omega) (by omega) (by omega) (by omega) (by omega) (by omega) (by omega) (by omega) (by omega) (by omega) (by omega) (by omega)).trans (rfl)))))
  · refine T_aload_n dX10_compute_130 rfl ?_
    refine T_getfield dX10_compute_131 zkf_11_48 go rfl ?_
    refine T_iload dX10_compute_134 rfl ?_
    refine T_iconst dX10_compute_136 (by decide) ?_
    refine T_iastoreN (m := i) dX10_compute_137 g12 rfl (by omega) (by omega) ?_
    refine T_iconst dX10_compute_138 (by decide) ?_
    refine T_istore dX10_compute_139 (Nat.le_of_ble_eq_true rfl) ?_
    refine m_X10_compute_141 hM hX1 hX2 hg4 hg5 hg6 hg7 hg8 hg9 hg10 hg11 hg12 hg13 hg14 hs hp hX hXb huv ht hw _ i 0 S o _ _ _ _ _ _ _ _ _ _ _ rfl _ (zup_ne (by omega) go) (zup_ne (by omega) g4) (zup_ne (by omega) g5) (zup_ne (by omega) g6) (zup_ne (by omega) g7) (zup_ne (by omega) g8) (zup_ne (by omega) g9) (zup_ne (by omega) g10) (zup_ne (by omega) g11) zup_self (zup_ne (by omega) g13) (zup_ne (by omega) g14) (fun q q0 q1 q2 q3 q4 q5 q6 q7 q8 q9 q10 q11 => ((zup_nf q9).trans ((hfr _ q0 q1 q2 q3 q4 q5 q6 q7 q8 q9 q10 q11).trans rfl))) (by omega) (by omega) hok.1 (fun a ha => by rw [zfu_ne (by omega)]; exact hh2 a ha) zfu_self (fun j185 hh1185 hh185 yh_185 go_185 g4_185 g5_185 g6_185 g7_185 g8_185 g9_185 g10_185 g11_185 g12_185 g13_185 g14_185 fr_185 => ?_)
    refine T_iinc dX10_compute_185 rfl ⟨by omega, by omega⟩ ?_
    refine T_goto dX10_compute_188 (t := 123) rfl ?_
    exact ih _ (by omega) (i + 1) S o _ _ _ _ _ _ _ _ _ _ _ _ rfl _ go_185 g4_185 g5_185 g6_185 g7_185 g8_185 g9_185 g10_185 g11_185 g12_185 g13_185 g14_185 (fun q q0 q1 q2 q3 q4 q5 q6 q7 q8 q9 q10 q11 => ((fr_185 _ q0 q1 q2 q3 q4 q5 q6 q7 q8 q9 q10 q11).trans rfl)) (by omega) hS hok ho hod yh_185 
set_option maxHeartbeats 4000000 in
set_option maxRecDepth 100000 in
theorem m_X10_compute_44 {n0 n k : Nat} {g : Nat → zV} {h : zHp} {Q : Option zV → Nat → Nat → zHp → Prop} {m s z c : Nat} {p fk cn ln en ax nu wr sv sp ss : Int} {u v tie : Int} {xs ys X Y od0 iS0 sd0 re0 cb0 pv0 ve0 fa0 hh0 co0 po0 : Nat → Int} (hM : h m = some (.inl (11, mOb m p (s : Int) fk (z : Int) (c : Int) cn ln en ax nu wr sv sp ss))) (hX1 : h (m + 1) = some (.inr (.inl (0, 8, xs)))) (hX2 : h (m + 2) = some (.inr (.inl (0, 8, ys)))) (hg4 : h (m + 4) = some (.inr (.inl (0, 81, od0)))) (hg5 : h (m + 5) = some (.inr (.inl (2, 81, iS0)))) (hg6 : h (m + 6) = some (.inr (.inl (0, 8, sd0)))) (hg7 : h (m + 7) = some (.inr (.inl (0, 64, re0)))) (hg8 : h (m + 8) = some (.inr (.inl (0, 64, cb0)))) (hg9 : h (m + 9) = some (.inr (.inl (0, 8, pv0)))) (hg10 : h (m + 10) = some (.inr (.inl (0, 8, ve0)))) (hg11 : h (m + 11) = some (.inr (.inl (0, 8, fa0)))) (hg12 : h (m + 12) = some (.inr (.inl (0, 9, hh0)))) (hg13 : h (m + 13) = some (.inr (.inl (0, 9, co0)))) (hg14 : h (m + 14) = some (.inr (.inl (0, 729, po0)))) (hs : s ≤ 8) (hp : zprime p) (hX : ∀ k, k < s → xs k = X k ∧ ys k = Y k) (hXb : ∀ k, k < s → (0 ≤ X k ∧ X k < p) ∧ (0 ≤ Y k ∧ Y k < p)) (huv : 0 ≤ u ∧ u ≤ 99 ∧ 0 ≤ v ∧ v ≤ 99) (ht : tie = 0 ∨ tie = 1) (hw : n0 ≤ m) (hQ : ∀ (z1 c1 : Nat) (od1 iS1 sd1 re1 cb1 pv1 ve1 fa1 hh1 co1 po1 : Nat → Int) (h' : zHp), (c1 = (zbas p s X Y u v tie).2.1) → (∀ i, i < 9 → hh1 i = ((zbas p s X Y u v tie).1 i : Int)) → (∀ a, a < c1 → co1 a = ((zbas p s X Y u v tie).2.2.1 a : Int) ∧ ∀ x, x < 81 → po1 (81 * a + x) = (zbas p s X Y u v tie).2.2.2 a x) → h' m = some (.inl (11, mOb m p (s : Int) fk (z1 : Int) (c1 : Int) cn ln en ax nu wr sv sp ss)) → h' (m + 4) = some (.inr (.inl (0, 81, od1))) → h' (m + 5) = some (.inr (.inl (2, 81, iS1))) → h' (m + 6) = some (.inr (.inl (0, 8, sd1))) → h' (m + 7) = some (.inr (.inl (0, 64, re1))) → h' (m + 8) = some (.inr (.inl (0, 64, cb1))) → h' (m + 9) = some (.inr (.inl (0, 8, pv1))) → h' (m + 10) = some (.inr (.inl (0, 8, ve1))) → h' (m + 11) = some (.inr (.inl (0, 8, fa1))) → h' (m + 12) = some (.inr (.inl (0, 9, hh1))) → h' (m + 13) = some (.inr (.inl (0, 9, co1))) → h' (m + 14) = some (.inr (.inl (0, 729, po1))) → (∀ q : Nat, q ≠ m → q ≠ (m + 4) → q ≠ (m + 5) → q ≠ (m + 6) → q ≠ (m + 7) → q ≠ (m + 8) → q ≠ (m + 9) → q ≠ (m + 10) → q ≠ (m + 11) → q ≠ (m + 12) → q ≠ (m + 13) → q ≠ (m + 14) → h' q = h q) → Q none n k h') : ∀ (d : Nat) (j : Nat) (S : gS) (o : Nat → Nat) (od1 : Nat → Int) (iS1 : Nat → Int) (sd1 : Nat → Int) (re1 : Nat → Int) (cb1 : Nat → Int) (pv1 : Nat → Int) (ve1 : Nat → Int) (fa1 : Nat → Int) (hh1 : Nat → Int) (co1 : Nat → Int) (po1 : Nat → Int) (L5 : Option zV), 81 - j = d → ∀ h1 : zHp, h1 m = some (.inl (11, mOb m p (s : Int) fk (S.1.1 : Int) (S.2.1 : Int) cn ln en ax nu wr sv sp ss)) → h1 (m + 4) = some (.inr (.inl (0, 81, od1))) → h1 (m + 5) = some (.inr (.inl (2, 81, iS1))) → h1 (m + 6) = some (.inr (.inl (0, 8, sd1))) → h1 (m + 7) = some (.inr (.inl (0, 64, re1))) → h1 (m + 8) = some (.inr (.inl (0, 64, cb1))) → h1 (m + 9) = some (.inr (.inl (0, 8, pv1))) → h1 (m + 10) = some (.inr (.inl (0, 8, ve1))) → h1 (m + 11) = some (.inr (.inl (0, 8, fa1))) → h1 (m + 12) = some (.inr (.inl (0, 9, hh1))) → h1 (m + 13) = some (.inr (.inl (0, 9, co1))) → h1 (m + 14) = some (.inr (.inl (0, 729, po1))) → (∀ q : Nat, q ≠ m → q ≠ (m + 4) → q ≠ (m + 5) → q ≠ (m + 6) → q ≠ (m + 7) → q ≠ (m + 8) → q ≠ (m + 9) → q ≠ (m + 10) → q ≠ (m + 11) → q ≠ (m + 12) → q ≠ (m + 13) → q ≠ (m + 14) → h1 q = h q) → (j ≤ 81) → (S = rrun p s X Y o j) → (rfOK s S iS1 sd1 re1 cb1 pv1 co1 po1) → (IsOrd u v tie 81 o) → (∀ k, k < 81 → od1 k = (o k : Int)) → ZT n0 g mX10_compute 44 [some (.inr (some m)), some (.inl u), some (.inl v), some (.inl tie), some (.inl (j : Int)), L5] [] n k h1 Q := by
  intro d
  induction d using Nat.strongRecOn with | _ d ih => ?_
  intro j S o od1 iS1 sd1 re1 cb1 pv1 ve1 fa1 hh1 co1 po1 L5 hd0 h1 go g4 g5 g6 g7 g8 g9 g10 g11 g12 g13 g14 hfr hj hS hok ho hod
  subst hd0
  have hR : RI p s X Y u v tie o j S := by rw [hS]; exact RI.run hp ho hs huv.1 huv.2.2.1 _ (by omega)
  have h4 := hR.four hs
  have hEle := hR.1.le
  have hpb := hp.bd
  refine T_iload dX10_compute_44 rfl ?_
  refine T_bipush dX10_compute_46 (by decide) ?_
  refine T_icmp_ge dX10_compute_48 (t := 120) rfl (fun c48 => ?_) (fun c48 => ?_)
  · refine T_iconst dX10_compute_120 (by decide) ?_
    refine T_istore dX10_compute_121 (Nat.le_of_ble_eq_true rfl) ?_
    exact m_X10_compute_123 hM hX1 hX2 hg4 hg5 hg6 hg7 hg8 hg9 hg10 hg11 hg12 hg13 hg14 hs hp hX hXb huv ht hw hQ _ 0 S o _ _ _ _ _ _ _ _ _ _ _ _ rfl _ go g4 g5 g6 g7 g8 g9 g10 g11 g12 g13 g14 (fun q q0 q1 q2 q3 q4 q5 q6 q7 q8 q9 q10 q11 => ((hfr _ q0 q1 q2 q3 q4 q5 q6 q7 q8 q9 q10 q11).trans rfl)) (by omega) (by rw [hS, show j = 81 by omega]) hok ho hod (fun i hi => absurd hi (Nat.not_lt_zero i)) 
  · refine T_aload_n dX10_compute_51 rfl ?_
    refine T_aload_n dX10_compute_52 rfl ?_
    refine T_getfield dX10_compute_53 zkf_11_23 go rfl ?_
    refine T_iload dX10_compute_56 rfl ?_
    refine T_ialoadN (m := j) dX10_compute_58 g4 rfl (by omega) ?_
    rw [hod j (by omega)]
    have hoj := ho.1 j (by omega)
    have hRn := hR.step hp ho hs huv.1 huv.2.2.1 (by omega)
    have red := elAt.red (p := p) (m := o j) (xs := xs) (ys := ys) (RR := eR S.1) (OO := eO S.1) hX hR.1.1 (fun _ _ _ _ => ⟨rfl, rfl⟩)
    refine T_callV dX10_compute_59 zkm_11_159 (Or.inl rfl) rfl go ⟨Nat.le_of_ble_eq_true rfl, rfl⟩ rfl (Nat.le_of_ble_eq_true rfl) ?_
    refine m_X10_reduce (q0 := (o j)) (piv := eP S.1) (RR := eR S.1) (OO := eO S.1) go ((hfr _ (by omega) (by omega) (by omega) (by omega) (by omega) (by omega) (by omega) (by omega) (by omega) (by omega) (by omega) (by omega)).trans hX1) ((hfr _ (by omega) (by omega) (by omega) (by omega) (by omega) (by omega) (by omega) (by omega) (by omega) (by omega) (by omega) (by omega)).trans hX2) g7 g8 g9 g10 g11 ⟨hs, hEle⟩ (by omega) (fun k hk => by rw [(hX k hk).1]; exact (hXb k hk).1) (fun k hk => by rw [(hX k hk).2]; exact (hXb k hk).2) (by omega) (by omega) (fun r hr k hk => ⟨(hok.2.1 r hr).2.2.1 k hk, hR.1.2.1 r hr k hk⟩) (fun r hr t ht => ⟨(hok.2.1 r hr).2.2.2 t ht, hR.1.2.2.1 r hr t⟩) (fun r hr => ⟨(hok.2.1 r hr).2.1, hR.1.1 r hr⟩) (fun ve'59 fa'59 hh59 k59a k59b k59c f59a f59b fr59 => ?_) (fun q59 ve'59_2 fa'59_2 hh59 k59a_2 k59b_2 k59c_2 f59a_2 f59b_2 fr59_2 => ?_)
    · have hnew : enew p s X Y S.1 (o j) = false := enew_false (fun k hk => by rw [← (red k hk).1]; exact k59a k hk)
      refine T_istore dX10_compute_62 (Nat.le_of_ble_eq_true rfl) ?_
      refine T_iload dX10_compute_64 rfl ?_
      refine T_aload_n dX10_compute_66 rfl ?_
      refine T_getfield dX10_compute_67 zkf_11_111 ((fr59 _ (by omega) (by omega)).trans go) rfl ?_
      refine T_icmp_ge dX10_compute_70 (t := 89) rfl (fun _ => ?_) (fun hc => absurd hc (by omega))
      refine T_aload_n dX10_compute_89 rfl ?_
      refine T_aload_n dX10_compute_90 rfl ?_
      refine T_getfield dX10_compute_91 zkf_11_23 ((fr59 _ (by omega) (by omega)).trans go) rfl ?_
      refine T_iload dX10_compute_94 rfl ?_
      refine T_ialoadN (m := j) dX10_compute_96 ((fr59 _ (by omega) (by omega)).trans g4) rfl (by omega) ?_
      rw [hod j (by omega)]
      refine T_callV dX10_compute_97 zkm_11_166 (Or.inl rfl) rfl ((fr59 _ (by omega) (by omega)).trans go) ⟨Nat.le_of_ble_eq_true rfl, rfl⟩ rfl (Nat.le_of_ble_eq_true rfl) ?_
      refine m_X10_isCorner (q0 := (o j)) (E := S.1) ((fr59 _ (by omega) (by omega)).trans go) ((fr59 _ (by omega) (by omega)).trans g5) (by omega) hok.1 (fun k97a => ?_) (fun k97a_2 => ?_)
      · have hst : rstep p s X Y S (o j) = _ := rstep_cor hnew k97a
        rw [hst] at hRn
        have hc4 : S.2.1 + 1 ≤ 4 := hRn.four hs
        refine T_if_eq dX10_compute_100 (t := 114) rfl (fun hc => absurd hc (by decide)) (fun _ => ?_)
        refine T_aload_n dX10_compute_103 rfl ?_
        refine T_aload_n dX10_compute_104 rfl ?_
        refine T_getfield dX10_compute_105 zkf_11_23 ((fr59 _ (by omega) (by omega)).trans go) rfl ?_
        refine T_iload dX10_compute_108 rfl ?_
        refine T_ialoadN (m := j) dX10_compute_110 ((fr59 _ (by omega) (by omega)).trans g4) rfl (by omega) ?_
        rw [hod j (by omega)]
        refine T_callV dX10_compute_111 zkm_11_169 (Or.inl rfl) rfl ((fr59 _ (by omega) (by omega)).trans go) ⟨Nat.le_of_ble_eq_true rfl, rfl⟩ rfl (Nat.le_of_ble_eq_true rfl) ?_
        refine m_X10_becomesCorner (q0 := (o j)) (mon := eM S.1) ((fr59 _ (by omega) (by omega)).trans go) ((fr59 _ (by omega) (by omega)).trans g6) f59b ((fr59 _ (by omega) (by omega)).trans g13) ((fr59 _ (by omega) (by omega)).trans g14) (by omega) hpb (by omega) (fun r hr => ⟨(hok.2.1 r hr).1, hR.1.2.2.2.2.2.2.2.2.1 r hr⟩) (fun t ht => by rw [k59c t ht]; exact zrc_bd hpb.1 _) (by omega) (fun po'111 hh111 k111a k111b f111a f111b f111c fr111 => ?_)
        refine T_iinc dX10_compute_114 rfl ⟨by omega, by omega⟩ ?_
        refine T_goto dX10_compute_117 (t := 44) rfl ?_
        exact ih _ (by omega) (j + 1) (S.1, S.2.1 + 1, zfu S.2.2.1 S.2.1 (o j), zfu S.2.2.2 S.2.1 (zcel p (o j) (ecb p S.1 (zvec p X Y (o j))) (eM S.1) S.1.1)) o _ _ _ _ _ _ _ _ _ _ _ _ rfl _ f111a ((fr111 _ (by omega) (by omega) (by omega)).trans ((fr59 _ (by omega) (by omega)).trans g4)) ((fr111 _ (by omega) (by omega) (by omega)).trans ((fr59 _ (by omega) (by omega)).trans g5)) ((fr111 _ (by omega) (by omega) (by omega)).trans ((fr59 _ (by omega) (by omega)).trans g6)) ((fr111 _ (by omega) (by omega) (by omega)).trans ((fr59 _ (by omega) (by omega)).trans g7)) ((fr111 _ (by omega) (by omega) (by omega)).trans ((fr59 _ (by omega) (by omega)).trans g8)) ((fr111 _ (by omega) (by omega) (by omega)).trans ((fr59 _ (by omega) (by omega)).trans g9)) ((fr111 _ (by omega) (by omega) (by omega)).trans f59a) ((fr111 _ (by omega) (by omega) (by omega)).trans f59b) ((fr111 _ (by omega) (by omega) (by omega)).trans ((fr59 _ (by omega) (by omega)).trans g12)) f111b f111c (fun q q0 q1 q2 q3 q4 q5 q6 q7 q8 q9 q10 q11 => ((fr111 _ q0 q10 q11).trans ((fr59 _ q7 q8).trans ((hfr _ q0 q1 q2 q3 q4 q5 q6 q7 q8 q9 q10 q11).trans rfl)))) (by omega) (by rw [← hst, hS]; rfl) (hok.cor (fun x hx => by rw [k111a x hx, zcel_ext (fun r hr => ⟨rfl, by rw [k59c r hr, (red r (by omega)).2]⟩)]) k111b) ho hod 
      · have hst : rstep p s X Y S (o j) = S := rstep_none hnew k97a_2
        refine T_if_eq dX10_compute_100 (t := 114) rfl (fun _ => ?_) (fun hc => absurd hc (by decide))
        refine T_iinc dX10_compute_114 rfl ⟨by omega, by omega⟩ ?_
        refine T_goto dX10_compute_117 (t := 44) rfl ?_
        exact ih _ (by omega) (j + 1) S o _ _ _ _ _ _ _ _ _ _ _ _ rfl _ ((fr59 _ (by omega) (by omega)).trans go) ((fr59 _ (by omega) (by omega)).trans g4) ((fr59 _ (by omega) (by omega)).trans g5) ((fr59 _ (by omega) (by omega)).trans g6) ((fr59 _ (by omega) (by omega)).trans g7) ((fr59 _ (by omega) (by omega)).trans g8) ((fr59 _ (by omega) (by omega)).trans g9) f59a f59b ((fr59 _ (by omega) (by omega)).trans g12) ((fr59 _ (by omega) (by omega)).trans g13) ((fr59 _ (by omega) (by omega)).trans g14) (fun q q0 q1 q2 q3 q4 q5 q6 q7 q8 q9 q10 q11 => ((fr59 _ q7 q8).trans ((hfr _ q0 q1 q2 q3 q4 q5 q6 q7 q8 q9 q10 q11).trans rfl))) (by omega) (by rw [← hst, hS]; rfl) hok ho hod 
    · have kq : q59 < s ∧ erd p S.1 (zvec p X Y (o j)) q59 ≠ 0 ∧ ∀ i, i < q59 → erd p S.1 (zvec p X Y (o j)) i = 0 := ⟨k59a_2.1, by rw [← (red _ k59a_2.1).1]; exact k59a_2.2.1, fun i hi => by rw [← (red i (by omega)).1]; exact k59a_2.2.2 i hi⟩
      have hst : rstep p s X Y S (o j) = _ := rstep_std (enew_true kq)
      have hz8 := hR.1.lt kq.1 kq.2.1
      refine T_istore dX10_compute_62 (Nat.le_of_ble_eq_true rfl) ?_
      refine T_iload dX10_compute_64 rfl ?_
      refine T_aload_n dX10_compute_66 rfl ?_
      refine T_getfield dX10_compute_67 zkf_11_111 ((fr59_2 _ (by omega) (by omega)).trans go) rfl ?_
      refine T_icmp_ge dX10_compute_70 (t := 89) rfl (fun hc => absurd hc (by omega)) (fun _ => ?_)
      refine T_aload_n dX10_compute_73 rfl ?_
      refine T_aload_n dX10_compute_74 rfl ?_
      refine T_getfield dX10_compute_75 zkf_11_23 ((fr59_2 _ (by omega) (by omega)).trans go) rfl ?_
      refine T_iload dX10_compute_78 rfl ?_
      refine T_ialoadN (m := j) dX10_compute_80 ((fr59_2 _ (by omega) (by omega)).trans g4) rfl (by omega) ?_
      rw [hod j (by omega)]
      refine T_iload dX10_compute_81 rfl ?_
      refine T_callV dX10_compute_83 zkm_11_162 (Or.inl rfl) rfl ((fr59_2 _ (by omega) (by omega)).trans go) ⟨Nat.le_of_ble_eq_true rfl, rfl⟩ rfl (Nat.le_of_ble_eq_true rfl) ?_
      refine m_X10_becomesStandard (q0 := (o j)) ((fr59_2 _ (by omega) (by omega)).trans go) ((fr59_2 _ (by omega) (by omega)).trans g5) ((fr59_2 _ (by omega) (by omega)).trans g6) ((fr59_2 _ (by omega) (by omega)).trans g7) ((fr59_2 _ (by omega) (by omega)).trans g8) ((fr59_2 _ (by omega) (by omega)).trans g9) f59a_2 f59b_2 ⟨hs, hz8⟩ hp ⟨kq.1, hoj⟩ (fun k hk => by rw [k59b_2 k hk]; exact zrv_bd (v := fun k => zmon p (xs k) (ys k) (o j)) hpb.1 (zmon_bd hpb.1 _) _) (by rw [k59b_2 _ kq.1]; exact k59a_2.2.1) (fun t ht => by rw [k59c_2 t ht]; exact zrc_bd hpb.1 _) (by omega) (fun re'83 cb'83 hh83 k83a k83b k83c k83d k83e f83a f83b f83c f83d f83e f83f fr83 => ?_)
      refine T_goto dX10_compute_86 (t := 114) rfl ?_
      refine T_iinc dX10_compute_114 rfl ⟨by omega, by omega⟩ ?_
      refine T_goto dX10_compute_117 (t := 44) rfl ?_
      exact ih _ (by omega) (j + 1) (eadd p s X Y S.1 (o j), S.2) o _ _ _ _ _ _ _ _ _ _ _ _ rfl _ f83a ((fr83 _ (by omega) (by omega) (by omega) (by omega) (by omega) (by omega)).trans ((fr59_2 _ (by omega) (by omega)).trans g4)) f83b f83c f83d f83e f83f ((fr83 _ (by omega) (by omega) (by omega) (by omega) (by omega) (by omega)).trans f59a_2) ((fr83 _ (by omega) (by omega) (by omega) (by omega) (by omega) (by omega)).trans f59b_2) ((fr83 _ (by omega) (by omega) (by omega) (by omega) (by omega) (by omega)).trans ((fr59_2 _ (by omega) (by omega)).trans g12)) ((fr83 _ (by omega) (by omega) (by omega) (by omega) (by omega) (by omega)).trans ((fr59_2 _ (by omega) (by omega)).trans g13)) ((fr83 _ (by omega) (by omega) (by omega) (by omega) (by omega) (by omega)).trans ((fr59_2 _ (by omega) (by omega)).trans g14)) (fun q q0 q1 q2 q3 q4 q5 q6 q7 q8 q9 q10 q11 => ((fr83 _ q0 q2 q3 q4 q5 q6).trans ((fr59_2 _ q7 q8).trans ((hfr _ q0 q1 q2 q3 q4 q5 q6 q7 q8 q9 q10 q11).trans rfl)))) (by omega) (by rw [← hst, hS]; rfl) (hok.std (xs := xs) (ys := ys) hR.1 hs hz8 hoj kq (fun k hk => by rw [k59b_2 k hk, (red k hk).1]) (fun t ht => by rw [k59c_2 t ht, (red t (by omega)).2]) k83a k83b k83c k83d k83e) ho hod 
set_option maxHeartbeats 4000000 in
set_option maxRecDepth 100000 in
theorem m_X10_compute_20 {n0 n k : Nat} {g : Nat → zV} {h : zHp} {Q : Option zV → Nat → Nat → zHp → Prop} {m s z c : Nat} {p fk cn ln en ax nu wr sv sp ss : Int} {u v tie : Int} {xs ys X Y od0 iS0 sd0 re0 cb0 pv0 ve0 fa0 hh0 co0 po0 : Nat → Int} (hM : h m = some (.inl (11, mOb m p (s : Int) fk (z : Int) (c : Int) cn ln en ax nu wr sv sp ss))) (hX1 : h (m + 1) = some (.inr (.inl (0, 8, xs)))) (hX2 : h (m + 2) = some (.inr (.inl (0, 8, ys)))) (hg4 : h (m + 4) = some (.inr (.inl (0, 81, od0)))) (hg5 : h (m + 5) = some (.inr (.inl (2, 81, iS0)))) (hg6 : h (m + 6) = some (.inr (.inl (0, 8, sd0)))) (hg7 : h (m + 7) = some (.inr (.inl (0, 64, re0)))) (hg8 : h (m + 8) = some (.inr (.inl (0, 64, cb0)))) (hg9 : h (m + 9) = some (.inr (.inl (0, 8, pv0)))) (hg10 : h (m + 10) = some (.inr (.inl (0, 8, ve0)))) (hg11 : h (m + 11) = some (.inr (.inl (0, 8, fa0)))) (hg12 : h (m + 12) = some (.inr (.inl (0, 9, hh0)))) (hg13 : h (m + 13) = some (.inr (.inl (0, 9, co0)))) (hg14 : h (m + 14) = some (.inr (.inl (0, 729, po0)))) (hs : s ≤ 8) (hp : zprime p) (hX : ∀ k, k < s → xs k = X k ∧ ys k = Y k) (hXb : ∀ k, k < s → (0 ≤ X k ∧ X k < p) ∧ (0 ≤ Y k ∧ Y k < p)) (huv : 0 ≤ u ∧ u ≤ 99 ∧ 0 ≤ v ∧ v ≤ 99) (ht : tie = 0 ∨ tie = 1) (hw : n0 ≤ m) (hQ : ∀ (z1 c1 : Nat) (od1 iS1 sd1 re1 cb1 pv1 ve1 fa1 hh1 co1 po1 : Nat → Int) (h' : zHp), (c1 = (zbas p s X Y u v tie).2.1) → (∀ i, i < 9 → hh1 i = ((zbas p s X Y u v tie).1 i : Int)) → (∀ a, a < c1 → co1 a = ((zbas p s X Y u v tie).2.2.1 a : Int) ∧ ∀ x, x < 81 → po1 (81 * a + x) = (zbas p s X Y u v tie).2.2.2 a x) → h' m = some (.inl (11, mOb m p (s : Int) fk (z1 : Int) (c1 : Int) cn ln en ax nu wr sv sp ss)) → h' (m + 4) = some (.inr (.inl (0, 81, od1))) → h' (m + 5) = some (.inr (.inl (2, 81, iS1))) → h' (m + 6) = some (.inr (.inl (0, 8, sd1))) → h' (m + 7) = some (.inr (.inl (0, 64, re1))) → h' (m + 8) = some (.inr (.inl (0, 64, cb1))) → h' (m + 9) = some (.inr (.inl (0, 8, pv1))) → h' (m + 10) = some (.inr (.inl (0, 8, ve1))) → h' (m + 11) = some (.inr (.inl (0, 8, fa1))) → h' (m + 12) = some (.inr (.inl (0, 9, hh1))) → h' (m + 13) = some (.inr (.inl (0, 9, co1))) → h' (m + 14) = some (.inr (.inl (0, 729, po1))) → (∀ q : Nat, q ≠ m → q ≠ (m + 4) → q ≠ (m + 5) → q ≠ (m + 6) → q ≠ (m + 7) → q ≠ (m + 8) → q ≠ (m + 9) → q ≠ (m + 10) → q ≠ (m + 11) → q ≠ (m + 12) → q ≠ (m + 13) → q ≠ (m + 14) → h' q = h q) → Q none n k h') : ∀ (d : Nat) (j : Nat) (o : Nat → Nat) (od1 : Nat → Int) (iS1 : Nat → Int) (sd1 : Nat → Int) (re1 : Nat → Int) (cb1 : Nat → Int) (pv1 : Nat → Int) (ve1 : Nat → Int) (fa1 : Nat → Int) (hh1 : Nat → Int) (co1 : Nat → Int) (po1 : Nat → Int) (L5 : Option zV), 81 - j = d → ∀ h1 : zHp, h1 m = some (.inl (11, mOb m p (s : Int) fk 0 0 cn ln en ax nu wr sv sp ss)) → h1 (m + 4) = some (.inr (.inl (0, 81, od1))) → h1 (m + 5) = some (.inr (.inl (2, 81, iS1))) → h1 (m + 6) = some (.inr (.inl (0, 8, sd1))) → h1 (m + 7) = some (.inr (.inl (0, 64, re1))) → h1 (m + 8) = some (.inr (.inl (0, 64, cb1))) → h1 (m + 9) = some (.inr (.inl (0, 8, pv1))) → h1 (m + 10) = some (.inr (.inl (0, 8, ve1))) → h1 (m + 11) = some (.inr (.inl (0, 8, fa1))) → h1 (m + 12) = some (.inr (.inl (0, 9, hh1))) → h1 (m + 13) = some (.inr (.inl (0, 9, co1))) → h1 (m + 14) = some (.inr (.inl (0, 729, po1))) → (∀ q : Nat, q ≠ m → q ≠ (m + 4) → q ≠ (m + 5) → q ≠ (m + 6) → q ≠ (m + 7) → q ≠ (m + 8) → q ≠ (m + 9) → q ≠ (m + 10) → q ≠ (m + 11) → q ≠ (m + 12) → q ≠ (m + 13) → q ≠ (m + 14) → h1 q = h q) → (j ≤ 81) → (∀ x, x < j → iS1 x = 0) → (IsOrd u v tie 81 o) → (∀ k, k < 81 → od1 k = (o k : Int)) → ZT n0 g mX10_compute 20 [some (.inr (some m)), some (.inl u), some (.inl v), some (.inl tie), some (.inl (j : Int)), L5] [] n k h1 Q := by
  intro d
  induction d using Nat.strongRecOn with | _ d ih => ?_
  intro j o od1 iS1 sd1 re1 cb1 pv1 ve1 fa1 hh1 co1 po1 L5 hd0 h1 go g4 g5 g6 g7 g8 g9 g10 g11 g12 g13 g14 hfr hj hi ho hod
  subst hd0
  refine T_iload dX10_compute_20 rfl ?_
  refine T_bipush dX10_compute_22 (by decide) ?_
  refine T_icmp_ge dX10_compute_24 (t := 41) rfl (fun c24 => ?_) (fun c24 => ?_)
  · refine T_iconst dX10_compute_41 (by decide) ?_
    refine T_istore dX10_compute_42 (Nat.le_of_ble_eq_true rfl) ?_
    exact m_X10_compute_44 hM hX1 hX2 hg4 hg5 hg6 hg7 hg8 hg9 hg10 hg11 hg12 hg13 hg14 hs hp hX hXb huv ht hw hQ _ 0 g0 o _ _ _ _ _ _ _ _ _ _ _ _ rfl _ go g4 g5 g6 g7 g8 g9 g10 g11 g12 g13 g14 (fun q q0 q1 q2 q3 q4 q5 q6 q7 q8 q9 q10 q11 => ((hfr _ q0 q1 q2 q3 q4 q5 q6 q7 q8 q9 q10 q11).trans rfl)) (by omega) rfl (rfOK.start (fun x hx => hi x (by omega))) ho hod 
  · refine T_aload_n dX10_compute_27 rfl ?_
    refine T_getfield dX10_compute_28 zkf_11_26 go rfl ?_
    refine T_iload dX10_compute_31 rfl ?_
    refine T_iconst dX10_compute_33 (by decide) ?_
    refine T_bastoreN (m := j) dX10_compute_34 g5 (by decide) rfl (by omega) (by omega) rfl ?_
    refine T_iinc dX10_compute_35 rfl ⟨by omega, by omega⟩ ?_
    refine T_goto dX10_compute_38 (t := 20) rfl ?_
    exact ih _ (by omega) (j + 1) o _ _ _ _ _ _ _ _ _ _ _ _ rfl _ (zup_ne (by omega) go) (zup_ne (by omega) g4) zup_self (zup_ne (by omega) g6) (zup_ne (by omega) g7) (zup_ne (by omega) g8) (zup_ne (by omega) g9) (zup_ne (by omega) g10) (zup_ne (by omega) g11) (zup_ne (by omega) g12) (zup_ne (by omega) g13) (zup_ne (by omega) g14) (fun q q0 q1 q2 q3 q4 q5 q6 q7 q8 q9 q10 q11 => ((zup_nf q2).trans ((hfr _ q0 q1 q2 q3 q4 q5 q6 q7 q8 q9 q10 q11).trans rfl))) (by omega) (zfu_below (s := fun _ => 0) hi rfl) ho hod 
set_option maxHeartbeats 4000000 in
set_option maxRecDepth 100000 in
theorem m_X10_compute {n0 n k : Nat} {g : Nat → zV} {h : zHp} {Q : Option zV → Nat → Nat → zHp → Prop} {m s z c : Nat} {p fk cn ln en ax nu wr sv sp ss : Int} {u v tie : Int} {xs ys X Y od0 iS0 sd0 re0 cb0 pv0 ve0 fa0 hh0 co0 po0 : Nat → Int} (hM : h m = some (.inl (11, mOb m p (s : Int) fk (z : Int) (c : Int) cn ln en ax nu wr sv sp ss))) (hX1 : h (m + 1) = some (.inr (.inl (0, 8, xs)))) (hX2 : h (m + 2) = some (.inr (.inl (0, 8, ys)))) (hg4 : h (m + 4) = some (.inr (.inl (0, 81, od0)))) (hg5 : h (m + 5) = some (.inr (.inl (2, 81, iS0)))) (hg6 : h (m + 6) = some (.inr (.inl (0, 8, sd0)))) (hg7 : h (m + 7) = some (.inr (.inl (0, 64, re0)))) (hg8 : h (m + 8) = some (.inr (.inl (0, 64, cb0)))) (hg9 : h (m + 9) = some (.inr (.inl (0, 8, pv0)))) (hg10 : h (m + 10) = some (.inr (.inl (0, 8, ve0)))) (hg11 : h (m + 11) = some (.inr (.inl (0, 8, fa0)))) (hg12 : h (m + 12) = some (.inr (.inl (0, 9, hh0)))) (hg13 : h (m + 13) = some (.inr (.inl (0, 9, co0)))) (hg14 : h (m + 14) = some (.inr (.inl (0, 729, po0)))) (hs : s ≤ 8) (hp : zprime p) (hX : ∀ k, k < s → xs k = X k ∧ ys k = Y k) (hXb : ∀ k, k < s → (0 ≤ X k ∧ X k < p) ∧ (0 ≤ Y k ∧ Y k < p)) (huv : 0 ≤ u ∧ u ≤ 99 ∧ 0 ≤ v ∧ v ≤ 99) (ht : tie = 0 ∨ tie = 1) (hw : n0 ≤ m) (hQ : ∀ (z1 c1 : Nat) (od1 iS1 sd1 re1 cb1 pv1 ve1 fa1 hh1 co1 po1 : Nat → Int) (h' : zHp), (c1 = (zbas p s X Y u v tie).2.1) → (∀ i, i < 9 → hh1 i = ((zbas p s X Y u v tie).1 i : Int)) → (∀ a, a < c1 → co1 a = ((zbas p s X Y u v tie).2.2.1 a : Int) ∧ ∀ x, x < 81 → po1 (81 * a + x) = (zbas p s X Y u v tie).2.2.2 a x) → h' m = some (.inl (11, mOb m p (s : Int) fk (z1 : Int) (c1 : Int) cn ln en ax nu wr sv sp ss)) → h' (m + 4) = some (.inr (.inl (0, 81, od1))) → h' (m + 5) = some (.inr (.inl (2, 81, iS1))) → h' (m + 6) = some (.inr (.inl (0, 8, sd1))) → h' (m + 7) = some (.inr (.inl (0, 64, re1))) → h' (m + 8) = some (.inr (.inl (0, 64, cb1))) → h' (m + 9) = some (.inr (.inl (0, 8, pv1))) → h' (m + 10) = some (.inr (.inl (0, 8, ve1))) → h' (m + 11) = some (.inr (.inl (0, 8, fa1))) → h' (m + 12) = some (.inr (.inl (0, 9, hh1))) → h' (m + 13) = some (.inr (.inl (0, 9, co1))) → h' (m + 14) = some (.inr (.inl (0, 729, po1))) → (∀ q : Nat, q ≠ m → q ≠ (m + 4) → q ≠ (m + 5) → q ≠ (m + 6) → q ≠ (m + 7) → q ≠ (m + 8) → q ≠ (m + 9) → q ≠ (m + 10) → q ≠ (m + 11) → q ≠ (m + 12) → q ≠ (m + 13) → q ≠ (m + 14) → h' q = h q) → Q none n k h') : ZT n0 g mX10_compute 0 (zloc mX10_compute [.inr (some m), .inl u, .inl v, .inl tie]) [] n k h Q := by
  show ZT n0 g mX10_compute 0 [some (.inr (some m)), some (.inl u), some (.inl v), some (.inl tie), none, none] [] n k h Q
  refine T_aload_n dX10_compute_0 rfl ?_
  refine T_iload_n dX10_compute_1 rfl ?_
  refine T_iload_n dX10_compute_2 rfl ?_
  refine T_iload_n dX10_compute_3 rfl ?_
  refine T_callV dX10_compute_4 zkm_11_155 (Or.inl rfl) rfl hM ⟨Nat.le_of_ble_eq_true rfl, rfl⟩ rfl (Nat.le_of_ble_eq_true rfl) ?_
  refine m_X10_sort hM hg4 (by omega) (by omega) (by omega) (fun o4 od'4 hh4 k4a k4b f4a fr4 => ?_)
  refine T_aload_n dX10_compute_7 rfl ?_
  refine T_iconst dX10_compute_8 (by decide) ?_
  refine T_putfield dX10_compute_9 zkf_11_140 ((fr4 _ (by omega)).trans hM) (Nat.le_of_ble_eq_true rfl) (by omega) rfl (fun hf => absurd hf (by decide)) rfl ?_
  refine T_aload_n dX10_compute_12 rfl ?_
  refine T_iconst dX10_compute_13 (by decide) ?_
  refine T_putfield dX10_compute_14 zkf_11_152 zup_self (Nat.le_of_ble_eq_true rfl) (by omega) rfl (fun hf => absurd hf (by decide)) rfl ?_
  refine T_iconst dX10_compute_17 (by decide) ?_
  refine T_istore dX10_compute_18 (Nat.le_of_ble_eq_true rfl) ?_
  exact m_X10_compute_20 hM hX1 hX2 hg4 hg5 hg6 hg7 hg8 hg9 hg10 hg11 hg12 hg13 hg14 hs hp hX hXb huv ht hw hQ _ 0 o4 _ _ _ _ _ _ _ _ _ _ _ _ rfl _ zup_self (zup_ne (by omega) (zup_ne (by omega) f4a)) (zup_ne (by omega) (zup_ne (by omega) ((fr4 _ (by omega)).trans hg5))) (zup_ne (by omega) (zup_ne (by omega) ((fr4 _ (by omega)).trans hg6))) (zup_ne (by omega) (zup_ne (by omega) ((fr4 _ (by omega)).trans hg7))) (zup_ne (by omega) (zup_ne (by omega) ((fr4 _ (by omega)).trans hg8))) (zup_ne (by omega) (zup_ne (by omega) ((fr4 _ (by omega)).trans hg9))) (zup_ne (by omega) (zup_ne (by omega) ((fr4 _ (by omega)).trans hg10))) (zup_ne (by omega) (zup_ne (by omega) ((fr4 _ (by omega)).trans hg11))) (zup_ne (by omega) (zup_ne (by omega) ((fr4 _ (by omega)).trans hg12))) (zup_ne (by omega) (zup_ne (by omega) ((fr4 _ (by omega)).trans hg13))) (zup_ne (by omega) (zup_ne (by omega) ((fr4 _ (by omega)).trans hg14))) (fun q q0 q1 q2 q3 q4 q5 q6 q7 q8 q9 q10 q11 => ((zup_nf q0).trans ((zup_nf q0).trans ((fr4 _ q1).trans rfl)))) (by omega) (fun i hi => absurd hi (Nat.not_lt_zero i)) k4a k4b 
