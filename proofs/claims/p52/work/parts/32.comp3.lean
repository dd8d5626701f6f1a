/-! ===== ReducedBasis.compute: printed by wip/whole/gen/s_comp3.py ===== -/
set_option maxHeartbeats 4000000 in
set_option maxRecDepth 100000 in
theorem m_X7_compute_85 {n0 n k : Nat} {g : Nat → zV} {h : zHp} {Q : Option zV → Nat → Nat → zHp → Prop} {b r e pb s s0 c0 : Nat} {p u v tie wt0 wb0 : Int} {xs ys X Y : Nat → Int} {E0 : eT} {H0 cm0 : Nat → Nat} {ce0 : Nat → Nat → Int} (hP0 : h pb = some (.inl (6, [.inl p, .inl (s : Int), .inr (some (pb + 1)), .inr (some (pb + 2))]))) (hP1 : h (pb + 1) = some (.inr (.inl (0, 8, xs)))) (hP2 : h (pb + 2) = some (.inr (.inl (0, 8, ys)))) (hOd : h r = some (.inl (5, [.inl u, .inl v, .inl tie]))) (hs : s ≤ 8) (hp : zprime p) (hX : ∀ k, k < s → xs k = X k ∧ ys k = Y k) (hXb : ∀ k, k < s → (0 ≤ X k ∧ X k < p) ∧ (0 ≤ Y k ∧ Y k < p)) (huv : 0 ≤ u ∧ u ≤ 99 ∧ 0 ≤ v ∧ v ≤ 99) (hw : n0 ≤ b ∧ n0 ≤ e) (hd : (b + 15 ≤ e ∨ e + 23 ≤ b) ∧ (b + 15 ≤ pb ∨ pb + 3 ≤ b) ∧ (pb + 3 ≤ e ∨ e + 23 ≤ pb) ∧ (r < b ∨ b + 15 ≤ r) ∧ (r < e ∨ e + 23 ≤ r)) (hel : elAt h e pb s0 E0) (hba : baAt h b H0 c0 cm0 ce0 wt0 wb0) (hQ : ∀ (w : Nat × Nat) (E' : eT) (h' : zHp), (IsW (zPair (zbas p s X Y u v tie).2.1 (zbas p s X Y u v tie).2.2.1 (zbas p s X Y u v tie).2.2.2) w) → (baAt h' b (zbas p s X Y u v tie).1 (zbas p s X Y u v tie).2.1 (zbas p s X Y u v tie).2.2.1 (zbas p s X Y u v tie).2.2.2 (w.1 : Int) (w.2 : Int)) → (elAt h' e pb s E') → (∀ q : Nat, (q < b ∨ b + 15 ≤ q) → (q < e ∨ e + 23 ≤ q) → h' q = h q) → Q none n k h') : ∀ (d : Nat) (j : Nat) (k0 : Nat) (H : Nat → Nat) (cm : Nat → Nat) (ce : Nat → Nat → Int) (wt : Int) (wb : Int) (S : gS) (L4 : Option zV) (L5 : Option zV), 0 = d → ∀ h1 : zHp, (elAt h1 e pb s S.1) → (baAt h1 b H S.2.1 cm ce wt wb) → (∀ q : Nat, (q < b ∨ b + 15 ≤ q) → (q < e ∨ e + 23 ≤ q) → h1 q = h q) → (j ≤ 12) → (k0 ≤ 81) → (S = rrun p s X Y (zord u v tie) k0) → (S.1.1 + S.2.1 = j) → (ColH S.1 H) → (zSrt S cm ce) → (rrun p s X Y (zord u v tie) 81 = S) → ZT n0 g mX7_compute 85 [some (.inr (some b)), some (.inr (some r)), some (.inr (some e)), some (.inl (j : Int)), L4, L5] [] n k h1 Q := by
  intro d
  induction d using Nat.strongRecOn with | _ d ih => ?_
  intro j k0 H cm ce wt wb S L4 L5 hd0 h1 gel gba gfr hj hk hS hcnt hcol hsr hfin
  subst hd0
  have hR : RI p s X Y u v tie (zord u v tie) k0 S := by rw [hS]; exact RI.run hp (zord_is u v tie) hs huv.1 huv.2.2.1 k0 hk
  have h4 := hR.four hs
  have hEle := hR.1.le
  have gbo := gba
  have gelo := gel
  obtain ⟨pv, em, va, cb, RR, OO, e0, e1, e2, e3, e4, e5, e6, e7, e8, e9⟩ := gel
  obtain ⟨hf, rf, pi, b0, b1, b2, b3, b4, b5, b6, b7⟩ := gba
  obtain ⟨t, mo, fa, hpo⟩ := baAt.polys b6
  have hhf : ∀ i, i < 9 → hf i = (H i : Int) ∧ H i ≤ 8 := fun i hi => ⟨b3 i hi, hcol.1 i hi⟩
  have hcm : ∀ a, a < S.2.1 → cm a < 81 := fun a ha => by
    obtain ⟨b, hb, q1, -⟩ := hsr.1 a ha
    rw [q1]; exact (hR.2.2.2.1 b hb).1
  refine T_aload_n dX7_compute_85 rfl ?_
  refine T_callV dX7_compute_86 zkm_8_59 (Or.inl rfl) rfl b0 ⟨Nat.le_of_ble_eq_true rfl, rfl⟩ rfl (Nat.le_of_ble_eq_true rfl) ?_
  refine m_X7_findWall (cm := cm) (t := t) (mo := mo) (fa := fa) (ce := ce) b0 b2 (by omega) b4 (fun a ha => (hpo a ha).1.1) hcm (fun a ha => ⟨(hpo a ha).1.2.1, (hpo a ha).1.2.2.1, (hpo a ha).1.2.2.2⟩) (fun a ha => (hpo a ha).2) (hR.pos huv.1 huv.2.2.1 hsr) b5 (by omega) (fun w86 hh86 k86a f86a fr86 => ?_)
  refine T_vret dX7_compute_89 rfl ?_
  have hIs : IsB (gfin p s X Y u v tie) (H, S.2.1, cm, ce) := by rw [← gfin_of (zord_is u v tie), hfin]; exact ⟨hcol, rfl, hsr⟩
  obtain ⟨d1, d2, d3⟩ := zbas_eq hp hs huv.1 huv.2.2.1 hIs
  exact hQ w86 S.1 _ (by rw [← d2]; exact zPair.congr d3 k86a) ((gbo.setw h4 f86a (fun q _ _ q3 => fr86 q q3)).congr d1 d2 d3) (gelo.frame (fun q a1 a2 => fr86 q (by omega))) (fun q q1 q2 => (fr86 q (by omega)).trans (gfr q q1 q2))
set_option maxHeartbeats 4000000 in
set_option maxRecDepth 100000 in
theorem m_X7_compute_19 {n0 n k : Nat} {g : Nat → zV} {h : zHp} {Q : Option zV → Nat → Nat → zHp → Prop} {b r e pb s s0 c0 : Nat} {p u v tie wt0 wb0 : Int} {xs ys X Y : Nat → Int} {E0 : eT} {H0 cm0 : Nat → Nat} {ce0 : Nat → Nat → Int} (hP0 : h pb = some (.inl (6, [.inl p, .inl (s : Int), .inr (some (pb + 1)), .inr (some (pb + 2))]))) (hP1 : h (pb + 1) = some (.inr (.inl (0, 8, xs)))) (hP2 : h (pb + 2) = some (.inr (.inl (0, 8, ys)))) (hOd : h r = some (.inl (5, [.inl u, .inl v, .inl tie]))) (hs : s ≤ 8) (hp : zprime p) (hX : ∀ k, k < s → xs k = X k ∧ ys k = Y k) (hXb : ∀ k, k < s → (0 ≤ X k ∧ X k < p) ∧ (0 ≤ Y k ∧ Y k < p)) (huv : 0 ≤ u ∧ u ≤ 99 ∧ 0 ≤ v ∧ v ≤ 99) (hw : n0 ≤ b ∧ n0 ≤ e) (hd : (b + 15 ≤ e ∨ e + 23 ≤ b) ∧ (b + 15 ≤ pb ∨ pb + 3 ≤ b) ∧ (pb + 3 ≤ e ∨ e + 23 ≤ pb) ∧ (r < b ∨ b + 15 ≤ r) ∧ (r < e ∨ e + 23 ≤ r)) (hel : elAt h e pb s0 E0) (hba : baAt h b H0 c0 cm0 ce0 wt0 wb0) (hQ : ∀ (w : Nat × Nat) (E' : eT) (h' : zHp), (IsW (zPair (zbas p s X Y u v tie).2.1 (zbas p s X Y u v tie).2.2.1 (zbas p s X Y u v tie).2.2.2) w) → (baAt h' b (zbas p s X Y u v tie).1 (zbas p s X Y u v tie).2.1 (zbas p s X Y u v tie).2.2.1 (zbas p s X Y u v tie).2.2.2 (w.1 : Int) (w.2 : Int)) → (elAt h' e pb s E') → (∀ q : Nat, (q < b ∨ b + 15 ≤ q) → (q < e ∨ e + 23 ≤ q) → h' q = h q) → Q none n k h') : ∀ (d : Nat) (j : Nat) (k0 : Nat) (H : Nat → Nat) (cm : Nat → Nat) (ce : Nat → Nat → Int) (wt : Int) (wb : Int) (S : gS) (L4 : Option zV) (L5 : Option zV), 12 - j = d → ∀ h1 : zHp, (elAt h1 e pb s S.1) → (baAt h1 b H S.2.1 cm ce wt wb) → (∀ q : Nat, (q < b ∨ b + 15 ≤ q) → (q < e ∨ e + 23 ≤ q) → h1 q = h q) → (j ≤ 12) → (k0 ≤ 81) → (S = rrun p s X Y (zord u v tie) k0) → (S.1.1 + S.2.1 = j) → (ColH S.1 H) → (zSrt S cm ce) → ZT n0 g mX7_compute 19 [some (.inr (some b)), some (.inr (some r)), some (.inr (some e)), some (.inl (j : Int)), L4, L5] [] n k h1 Q := by
  intro d
  induction d using Nat.strongRecOn with | _ d ih => ?_
  intro j k0 H cm ce wt wb S L4 L5 hd0 h1 gel gba gfr hj hk hS hcnt hcol hsr
  subst hd0
  have hR : RI p s X Y u v tie (zord u v tie) k0 S := by rw [hS]; exact RI.run hp (zord_is u v tie) hs huv.1 huv.2.2.1 k0 hk
  have h4 := hR.four hs
  have hEle := hR.1.le
  have gbo := gba
  have gelo := gel
  obtain ⟨pv, em, va, cb, RR, OO, e0, e1, e2, e3, e4, e5, e6, e7, e8, e9⟩ := gel
  obtain ⟨hf, rf, pi, b0, b1, b2, b3, b4, b5, b6, b7⟩ := gba
  obtain ⟨t, mo, fa, hpo⟩ := baAt.polys b6
  have hhf : ∀ i, i < 9 → hf i = (H i : Int) ∧ H i ≤ 8 := fun i hi => ⟨b3 i hi, hcol.1 i hi⟩
  have hcm : ∀ a, a < S.2.1 → cm a < 81 := fun a ha => by
    obtain ⟨b, hb, q1, -⟩ := hsr.1 a ha
    rw [q1]; exact (hR.2.2.2.1 b hb).1
  refine T_iload_n dX7_compute_19 rfl ?_
  refine T_bipush dX7_compute_20 (by decide) ?_
  refine T_icmp_ge dX7_compute_22 (t := 85) rfl (fun c22 => ?_) (fun c22 => ?_)
  · exact m_X7_compute_85 hP0 hP1 hP2 hOd hs hp hX hXb huv hw hd hel hba hQ _ j k0 H cm ce wt wb S _ _ rfl _ ⟨pv, em, va, cb, RR, OO, e0, e1, e2, e3, e4, e5, e6, e7, e8, e9⟩ gbo gfr hj hk hS hcnt hcol hsr (by
          have := RI.full (xs := X) (ys := Y) (k := k0) hp (zord_is u v tie) hs huv.1 huv.2.2.1 (H := H) (by rw [← hS]; exact hcol) hk (by rw [← hS]; omega)
          rw [this, hS]) 
  · refine T_aload_n dX7_compute_25 rfl ?_
    refine T_aload_n dX7_compute_26 rfl ?_
    refine T_callV dX7_compute_27 zkm_8_43 (Or.inl rfl) rfl b0 ⟨Nat.le_of_ble_eq_true rfl, rfl⟩ rfl (Nat.le_of_ble_eq_true rfl) ?_
    refine m_X7_nextColumn (cm := cm) (t := t) b0 b1 b2 ((gfr _ (by omega) (by omega)).trans hOd) (by omega) hhf b4 (fun a ha => (hpo a ha).1.1) hcm huv (fun k27a => ?_) (fun i27 k27a_2 k27b k27c => ?_)
    · refine T_istore dX7_compute_30 (Nat.le_of_ble_eq_true rfl) ?_
      refine T_iload dX7_compute_32 rfl ?_
      refine T_iconst dX7_compute_34 (by decide) ?_
      refine T_icmp_ne dX7_compute_35 (t := 41) rfl (fun hc => absurd hc (by decide)) (fun _ => ?_)
      refine T_goto dX7_compute_38 (t := 85) rfl ?_
      exact m_X7_compute_85 hP0 hP1 hP2 hOd hs hp hX hXb huv hw hd hel hba hQ _ j k0 H cm ce wt wb S _ _ rfl _ ⟨pv, em, va, cb, RR, OO, e0, e1, e2, e3, e4, e5, e6, e7, e8, e9⟩ gbo gfr hj hk hS hcnt hcol hsr (by
            have := RI.done (xs := X) (ys := Y) (k := k0) hp (zord_is u v tie) hs huv.1 huv.2.2.1 hk (H := H) (by rw [← hS]; exact hcol) (fun i hi => by rw [← hS]; exact fun q => k27a i hi (hsr.opn.mpr q))
            rw [this, hS]) 
    · have hop := hsr.opn.mp k27b
      have nx := RI.next (xs := X) (ys := Y) (k := k0) hp (zord_is u v tie) hs huv.1 huv.2.2.1 hk (H := H) (by rw [← hS]; exact hcol) k27a_2 (by rw [← hS]; exact hop) (by rw [← hS]; exact fun j hj hne q => k27c j hj hne (hsr.opn.mpr q))
      rw [← hS] at nx
      obtain ⟨qq, q1, q2, q3, q4, q5⟩ := nx
      have hHi := hcol.1 i27 k27a_2
      have hRq := RI.run (xs := X) (ys := Y) hp (zord_is u v tie) hs huv.1 huv.2.2.1 (qq + 1) (by omega)
      change RI p s X Y u v tie (zord u v tie) (qq + 1) (rstep p s X Y (rrun p s X Y (zord u v tie) qq) (zord u v tie qq)) at hRq
      rw [q4, q3] at hRq
      have hnst : stdB S.1 (9 * i27 + H i27) = false := by
        have := hcol.2 i27 (H i27) k27a_2 (by omega)
        cases hb : stdB S.1 (9 * i27 + H i27) with
        | false => rfl
        | true => have := this.mp hb; omega
      have red := elAt.red (p := p) (m := 9 * i27 + H i27) (xs := xs) (ys := ys) (RR := RR) (OO := OO) hX hR.1.1 (fun r hr => (e9 r hr).2.2)
      refine T_istore dX7_compute_30 (Nat.le_of_ble_eq_true rfl) ?_
      refine T_iload dX7_compute_32 rfl ?_
      refine T_iconst dX7_compute_34 (by decide) ?_
      refine T_icmp_ne dX7_compute_35 (t := 41) rfl (fun _ => ?_) (fun hc => absurd hc (by omega))
      refine T_aload_n dX7_compute_41 rfl ?_
      refine T_iload dX7_compute_42 rfl ?_
      refine T_callV dX7_compute_44 zkm_8_47 (Or.inl rfl) rfl b0 ⟨Nat.le_of_ble_eq_true rfl, rfl⟩ rfl (Nat.le_of_ble_eq_true rfl) ?_
      refine m_X7_topOf b0 b1 hhf (by omega) ?_
      refine T_istore dX7_compute_47 (Nat.le_of_ble_eq_true rfl) ?_
      refine T_aload_n dX7_compute_49 rfl ?_
      refine T_iload dX7_compute_50 rfl ?_
      refine T_callV dX7_compute_52 zkm_8_51 (Or.inl rfl) rfl e0 ⟨Nat.le_of_ble_eq_true rfl, rfl⟩ rfl (Nat.le_of_ble_eq_true rfl) ?_
      refine m_X1_keepIfIndependent (m := (9 * i27 + H i27)) (piv := eP S.1) (RR := RR) (OO := OO) e0 ((gfr _ (by omega) (by omega)).trans hP0) ((gfr _ (by omega) (by omega)).trans hP1) ((gfr _ (by omega) (by omega)).trans hP2) e1 e2 e3 e4 e5 e6 (by omega) hp (fun k hk => by rw [(hX k hk).1]; exact (hXb k hk).1) (fun k hk => by rw [(hX k hk).2]; exact (hXb k hk).2) (by omega) (by omega) (by omega) (by omega) e7 e8 (fun r hr k hk => by rw [((e9 r hr).2.2 k hk).1]; exact hR.1.2.1 r hr k hk) (fun r hr k hk => by rw [((e9 r hr).2.2 k hk).2]; exact hR.1.2.2.1 r hr k) (fun r hr => ⟨(e9 r hr).1, hR.1.1 r hr⟩) (fun q hq hn => by rw [(red q hq).1] at hn; have := hR.1.lt hq hn; omega) (fun v'52 cb'52 hh52 k52a k52b f52a f52b fr52 => ?_) (fun q52 v'52_2 cb'52_2 R'52 O'52 hh52 k52a_2 k52b_2 k52c k52d f52a_2 f52b_2 f52c f52d f52e f52f f52g fr52_2 => ?_)
      · have hnew : enew p s X Y S.1 (9 * i27 + H i27) = false := enew_false (fun k hk => by rw [← (red k hk).1]; exact k52a k hk)
        have hcor := q5 hnew
        have hst : rstep p s X Y S (9 * i27 + H i27) = _ := rstep_cor hnew hcor
        rw [hst] at hRq
        have hc4 : S.2.1 + 1 ≤ 4 := hRq.four hs
        have gb2 := gbo.frame (h' := hh52) h4 (fun q a1 a2 => fr52 q (by omega) (by omega))
        obtain ⟨hf, rf, pi, b0, b1, b2, b3, b4, b5, b6, b7⟩ := gb2
        obtain ⟨t, mo, fa, hpo⟩ := baAt.polys b6
        obtain ⟨x0, x1, mo0, fa0, r0, r1, r2⟩ := b7 (pi S.2.1) (b5.1 _ (by omega))
        have hpc := b5.1 S.2.1 (by omega)
        refine T_if_eq dX7_compute_55 (t := 72) rfl (fun _ => ?_) (fun hc => absurd hc (by decide))
        refine T_aload_n dX7_compute_72 rfl ?_
        refine T_iload dX7_compute_73 rfl ?_
        refine T_aload_n dX7_compute_75 rfl ?_
        refine T_callV dX7_compute_76 zkm_8_55 (Or.inl rfl) rfl b0 ⟨Nat.le_of_ble_eq_true rfl, rfl⟩ rfl (Nat.le_of_ble_eq_true rfl) ?_
        refine m_X7_insertCorner (m := (9 * i27 + H i27)) (mon := eM S.1) (cm := cm) (t := t) b0 b2 r0 r1 r2 ((fr52 _ (by omega) (by omega)).trans e0) ((fr52 _ (by omega) (by omega)).trans ((gfr _ (by omega) (by omega)).trans hP0)) ((fr52 _ (by omega) (by omega)).trans e4) f52b (by omega) b4 (fun a ha => (hpo a ha).1.1) hcm b5 ⟨by omega, by omega⟩ hp.bd (by omega) (by omega) (fun r hr => ⟨(e9 r hr).2.1, hR.1.2.2.2.2.2.2.2.2.1 r hr, fun q => by rw [stdB_iff.mpr ⟨r, hr, q⟩] at hnst; cases hnst⟩) hR.1.2.2.2.2.2.2.2.2.2 (fun r hr => by rw [k52b r (by omega)]; exact zrc_bd hp.bd.1 S.1.1) (by omega) (fun a ha q => k27b a ha (by rw [q]; exact ⟨Nat.le_refl _, Nat.le_refl _⟩)) hsr.2.2 (fun q76 t'76 rf'76 mo'76 fa'76 hh76 k76a k76b k76c k76d k76e k76f f76a f76b f76c f76d f76e fr76 => ?_)
        have eC : zcel p (9 * i27 + H i27) cb'52 (eM S.1) S.1.1 = zcel p (9 * i27 + H i27) (ecb p S.1 (zvec p X Y (9 * i27 + H i27))) (eM S.1) S.1.1 := zcel_ext (fun r hr => ⟨rfl, by rw [k52b r (by omega), (red r (by omega)).2]⟩)
        rw [eC] at k76f
        refine T_iinc dX7_compute_79 rfl ⟨by omega, by omega⟩ ?_
        refine T_goto dX7_compute_82 (t := 19) rfl ?_
        exact ih _ (by omega) (j + 1) (qq + 1) H (fun j => if j < q76 then cm j else if j = q76 then 9 * i27 + H i27 else cm (j - 1)) (fun j => if j < q76 then ce j else if j = q76 then zcel p (9 * i27 + H i27) (ecb p S.1 (zvec p X Y (9 * i27 + H i27))) (eM S.1) S.1.1 else ce (j - 1)) wt wb (S.1, S.2.1 + 1, zfu S.2.2.1 S.2.1 (9 * i27 + H i27), zfu S.2.2.2 S.2.1 (zcel p (9 * i27 + H i27) (ecb p S.1 (zvec p X Y (9 * i27 + H i27))) (eM S.1) S.1.1)) _ _ rfl _ ⟨pv, em, v'52, cb'52, RR, OO, ((fr76 _ (by omega) (by omega) (by omega) (by omega) (by omega)).trans ((fr52 _ (by omega) (by omega)).trans e0)), ((fr76 _ (by omega) (by omega) (by omega) (by omega) (by omega)).trans ((fr52 _ (by omega) (by omega)).trans e1)), ((fr76 _ (by omega) (by omega) (by omega) (by omega) (by omega)).trans ((fr52 _ (by omega) (by omega)).trans e2)), ((fr76 _ (by omega) (by omega) (by omega) (by omega) (by omega)).trans ((fr52 _ (by omega) (by omega)).trans e3)), ((fr76 _ (by omega) (by omega) (by omega) (by omega) (by omega)).trans ((fr52 _ (by omega) (by omega)).trans e4)), ((fr76 _ (by omega) (by omega) (by omega) (by omega) (by omega)).trans f52a), ((fr76 _ (by omega) (by omega) (by omega) (by omega) (by omega)).trans f52b), fun r hr => ((fr76 _ (by omega) (by omega) (by omega) (by omega) (by omega)).trans (((fr52 _ (by omega) (by omega)).trans (e7 r hr)))), fun r hr => ((fr76 _ (by omega) (by omega) (by omega) (by omega) (by omega)).trans (((fr52 _ (by omega) (by omega)).trans (e8 r hr)))), e9⟩ (baAt.ins (h := hh52) (by omega) b1 b3 b4 b5 b6 b7 k76a k76d (by omega) k76f f76a f76b f76c f76d f76e fr76) (fun q q1 q2 => ((fr76 _ (by omega) (by omega) (by omega) (by omega) (by omega)).trans (((fr52 _ (by omega) (by omega)).trans (gfr q q1 q2))))) (by omega) (by omega) (by rw [← hst]; show _ = rstep p s X Y (rrun p s X Y (zord u v tie) qq) (zord u v tie qq); rw [q4, q3]) (by show S.1.1 + (S.2.1 + 1) = j + 1; omega) hcol (hsr.ins k76a k76b k76c (fun j _ => rfl) (fun j _ => rfl)) 
      · have kq : q52 < s ∧ erd p S.1 (zvec p X Y (9 * i27 + H i27)) q52 ≠ 0 ∧ ∀ i, i < q52 → erd p S.1 (zvec p X Y (9 * i27 + H i27)) i = 0 := ⟨k52a_2.1, by rw [← (red _ k52a_2.1).1]; exact k52a_2.2.1, fun i hi => by rw [← (red i (by omega)).1]; exact k52a_2.2.2 i hi⟩
        have hst : rstep p s X Y S (9 * i27 + H i27) = _ := rstep_std (enew_true kq)
        rw [hst] at hRq
        have hz8 := hR.1.lt kq.1 kq.2.1
        have h7 : H i27 ≤ 7 := by
          have := hRq.small hs (x := 9 * i27 + H i27) (stdB_keep.mpr (Or.inr rfl))
          omega
        refine T_if_eq dX7_compute_55 (t := 72) rfl (fun hc => absurd hc (by decide)) (fun _ => ?_)
        refine T_aload_n dX7_compute_58 rfl ?_
        refine T_getfield dX7_compute_59 zkf_8_9 ((fr52_2 _ (by omega) (by omega) (by omega) (by omega) (by omega) (by omega) (by omega)).trans b0) rfl ?_
        refine T_iload dX7_compute_62 rfl ?_
        refine T_dup2 dX7_compute_64 ?_
        have hb9 := hhf i27 (by omega)
        refine T_ialoadN (m := i27) dX7_compute_65 ((fr52_2 _ (by omega) (by omega) (by omega) (by omega) (by omega) (by omega) (by omega)).trans b1) rfl (by omega) ?_
        refine T_iconst dX7_compute_66 (by decide) ?_
        refine T_iadd dX7_compute_67 ⟨by omega, by omega⟩ ?_
        refine T_iastoreN (m := i27) dX7_compute_68 ((fr52_2 _ (by omega) (by omega) (by omega) (by omega) (by omega) (by omega) (by omega)).trans b1) rfl (by omega) (by omega) ?_
        refine T_goto dX7_compute_69 (t := 79) rfl ?_
        refine T_iinc dX7_compute_79 rfl ⟨by omega, by omega⟩ ?_
        refine T_goto dX7_compute_82 (t := 19) rfl ?_
        exact ih _ (by omega) (j + 1) (qq + 1) (zfu H i27 (H i27 + 1)) cm ce wt wb (eadd p s X Y S.1 (9 * i27 + H i27), S.2) _ _ rfl _ (elAt.frame (h := hh52) (h' := zup hh52 (b + 1) (.inr (.inl (0, 9, zfu hf i27 (hf i27 + 1))))) (elAt.keep (h := h1) hs (by omega) hR.1 e1 e2 e7 e8 e9 kq (fun k hk => by rw [k52b_2 k hk, (red _ kq.1).1, (red k hk).1]) (fun k hk hne => by rw [k52c k hk hne, (red _ kq.1).1, (red k hk).2]) (by rw [k52d, (red _ kq.1).1]) f52a_2 f52b_2 f52c f52d f52e f52f f52g fr52_2) (fun q a1 a2 => zup_nf (by omega))) (gbo.seth (h' := zup hh52 (b + 1) (.inr (.inl (0, 9, zfu hf i27 (hf i27 + 1))))) (hf' := zfu hf i27 (hf i27 + 1)) h4 zup_self (fun i hi => by
              by_cases e : i = i27
              · subst e; rw [zfu_self, zfu_self, hb9.1]; rfl
              · rw [zfu_ne e, zfu_ne e]; exact (hhf i hi).1) (fun q a1 a2 a3 => ((zup_nf (by omega)).trans (((fr52_2 _ (by omega) (by omega) (by omega) (by omega) (by omega) (by omega) (by omega)).trans (rfl)))))) (fun q q1 q2 => ((zup_nf (by omega)).trans (((fr52_2 _ (by omega) (by omega) (by omega) (by omega) (by omega) (by omega) (by omega)).trans (gfr q q1 q2))))) (by omega) (by omega) (by rw [← hst]; show _ = rstep p s X Y (rrun p s X Y (zord u v tie) qq) (zord u v tie qq); rw [q4, q3]) (by show S.1.1 + 1 + S.2.1 = j + 1; omega) (ColH.std hcol k27a_2 h7) hsr 
set_option maxHeartbeats 4000000 in
set_option maxRecDepth 100000 in
theorem m_X7_compute {n0 n k : Nat} {g : Nat → zV} {h : zHp} {Q : Option zV → Nat → Nat → zHp → Prop} {b r e pb s s0 c0 : Nat} {p u v tie wt0 wb0 : Int} {xs ys X Y : Nat → Int} {E0 : eT} {H0 cm0 : Nat → Nat} {ce0 : Nat → Nat → Int} (hP0 : h pb = some (.inl (6, [.inl p, .inl (s : Int), .inr (some (pb + 1)), .inr (some (pb + 2))]))) (hP1 : h (pb + 1) = some (.inr (.inl (0, 8, xs)))) (hP2 : h (pb + 2) = some (.inr (.inl (0, 8, ys)))) (hOd : h r = some (.inl (5, [.inl u, .inl v, .inl tie]))) (hs : s ≤ 8) (hp : zprime p) (hX : ∀ k, k < s → xs k = X k ∧ ys k = Y k) (hXb : ∀ k, k < s → (0 ≤ X k ∧ X k < p) ∧ (0 ≤ Y k ∧ Y k < p)) (huv : 0 ≤ u ∧ u ≤ 99 ∧ 0 ≤ v ∧ v ≤ 99) (hw : n0 ≤ b ∧ n0 ≤ e) (hd : (b + 15 ≤ e ∨ e + 23 ≤ b) ∧ (b + 15 ≤ pb ∨ pb + 3 ≤ b) ∧ (pb + 3 ≤ e ∨ e + 23 ≤ pb) ∧ (r < b ∨ b + 15 ≤ r) ∧ (r < e ∨ e + 23 ≤ r)) (hel : elAt h e pb s0 E0) (hba : baAt h b H0 c0 cm0 ce0 wt0 wb0) (hQ : ∀ (w : Nat × Nat) (E' : eT) (h' : zHp), (IsW (zPair (zbas p s X Y u v tie).2.1 (zbas p s X Y u v tie).2.2.1 (zbas p s X Y u v tie).2.2.2) w) → (baAt h' b (zbas p s X Y u v tie).1 (zbas p s X Y u v tie).2.1 (zbas p s X Y u v tie).2.2.1 (zbas p s X Y u v tie).2.2.2 (w.1 : Int) (w.2 : Int)) → (elAt h' e pb s E') → (∀ q : Nat, (q < b ∨ b + 15 ≤ q) → (q < e ∨ e + 23 ≤ q) → h' q = h q) → Q none n k h') : ZT n0 g mX7_compute 0 (zloc mX7_compute [.inr (some b), .inr (some r), .inr (some e)]) [] n k h Q := by
  show ZT n0 g mX7_compute 0 [some (.inr (some b)), some (.inr (some r)), some (.inr (some e)), none, none, none] [] n k h Q
  obtain ⟨pv, em, va, cb, RR, OO, e0, e1, e2, e3, e4, e5, e6, e7, e8, e9⟩ := (id hel)
  obtain ⟨hf, rf, pi, b0, b1, b2, b3, b4, b5, b6, b7⟩ := (id hba)
  refine T_aload_n dX7_compute_0 rfl ?_
  refine T_getfield dX7_compute_1 zkf_8_9 b0 rfl ?_
  refine T_iconst dX7_compute_4 (by decide) ?_
  refine T_callS dX7_compute_5 zkm_8_32 ⟨Nat.le_of_ble_eq_true rfl, Nat.le_of_ble_eq_true rfl, rfl⟩ rfl (Nat.le_of_ble_eq_true rfl) ?_
  refine m_J7_fill_53178 b1 (by omega) (by omega) (fun f'5 hh5 k5a f5a fr5 => ?_)
  refine T_aload_n dX7_compute_8 rfl ?_
  refine T_iconst dX7_compute_9 (by decide) ?_
  refine T_putfield dX7_compute_10 zkf_8_15 ((fr5 _ (by omega)).trans b0) (Nat.le_of_ble_eq_true rfl) (by omega) rfl (fun hf => absurd hf (by decide)) rfl ?_
  refine T_aload_n dX7_compute_13 rfl ?_
  refine T_callV dX7_compute_14 zkm_8_38 (Or.inl rfl) rfl (zup_ne (by omega) ((fr5 _ (by omega)).trans e0)) ⟨Nat.le_of_ble_eq_true rfl, rfl⟩ rfl (Nat.le_of_ble_eq_true rfl) ?_
  refine m_X1_restart (zup_ne (by omega) ((fr5 _ (by omega)).trans e0)) (by omega) (fun hh14 f14a fr14 => ?_)
  refine T_iconst dX7_compute_17 (by decide) ?_
  refine T_istore_n dX7_compute_18 (Nat.le_of_ble_eq_true rfl) ?_
  exact m_X7_compute_19 hP0 hP1 hP2 hOd hs hp hX hXb huv hw hd hel hba hQ _ 0 0 (fun _ => 0) (fun _ => 0) (fun _ _ => 0) wt0 wb0 g0 _ _ rfl _ ⟨pv, em, va, cb, RR, OO, f14a, ((fr14 _ (by omega)).trans (zup_ne (by omega) ((fr5 _ (by omega)).trans e1))), ((fr14 _ (by omega)).trans (zup_ne (by omega) ((fr5 _ (by omega)).trans e2))), ((fr14 _ (by omega)).trans (zup_ne (by omega) ((fr5 _ (by omega)).trans e3))), ((fr14 _ (by omega)).trans (zup_ne (by omega) ((fr5 _ (by omega)).trans e4))), ((fr14 _ (by omega)).trans (zup_ne (by omega) ((fr5 _ (by omega)).trans e5))), ((fr14 _ (by omega)).trans (zup_ne (by omega) ((fr5 _ (by omega)).trans e6))), fun r hr => ((fr14 _ (by omega)).trans (((zup_nf (by omega)).trans (((fr5 _ (by omega)).trans (e7 r hr)))))), fun r hr => ((fr14 _ (by omega)).trans (((zup_nf (by omega)).trans (((fr5 _ (by omega)).trans (e8 r hr)))))), fun r hr => absurd hr (Nat.not_lt_zero r)⟩ ⟨_, rf, pi, ((fr14 _ (by omega)).trans zup_self), ((fr14 _ (by omega)).trans (zup_ne (by omega) f5a)), ((fr14 _ (by omega)).trans (zup_ne (by omega) ((fr5 _ (by omega)).trans b2))), fun i hi => k5a i hi, b4, b5, fun a ha => absurd ha (Nat.not_lt_zero a), fun i hi => (b7 i hi).frame (fun q a1 a2 => ((fr14 _ (by omega)).trans (((zup_nf (by omega)).trans (((fr5 _ (by omega)).trans (rfl)))))))⟩ (fun q q1 q2 => ((fr14 _ (by omega)).trans (((zup_nf (by omega)).trans (((fr5 _ (by omega)).trans (rfl))))))) (by omega) (by omega) rfl rfl ⟨fun i _ => Nat.zero_le 8, fun i j _ _ => by
        constructor
        · intro q; obtain ⟨t, ht, -⟩ := stdB_iff.mp q; exact absurd ht (Nat.not_lt_zero t)
        · intro q; exact absurd q (Nat.not_lt_zero j)⟩ ⟨fun a ha => absurd ha (Nat.not_lt_zero a), fun a ha => absurd ha (Nat.not_lt_zero a), fun a d _ hd => absurd hd (Nat.not_lt_zero d)⟩ 
