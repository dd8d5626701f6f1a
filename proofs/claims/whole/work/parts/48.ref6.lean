/-! ===== the reference: fan: printed by wip/whole/gen/s_ref6.py ===== -/
set_option maxHeartbeats 4000000 in
set_option maxRecDepth 100000 in
theorem m_X10_fan_19 {n0 n k : Nat} {g : Nat → zV} {h : zHp} {Q : Option zV → Nat → Nat → zHp → Prop} {m s z c : Nat} {p fk cn ln en ax nu wr sv sp ss : Int} {xs ys X Y od0 iS0 sd0 re0 cb0 pv0 ve0 fa0 hh0 co0 po0 tp0 bt0 sz0 ch0 cc0 cl0 : Nat → Int} (hM : h m = some (.inl (11, mOb m p (s : Int) fk (z : Int) (c : Int) cn ln en ax nu wr sv sp ss))) (hX1 : h (m + 1) = some (.inr (.inl (0, 8, xs)))) (hX2 : h (m + 2) = some (.inr (.inl (0, 8, ys)))) (hg4 : h (m + 4) = some (.inr (.inl (0, 81, od0)))) (hg5 : h (m + 5) = some (.inr (.inl (2, 81, iS0)))) (hg6 : h (m + 6) = some (.inr (.inl (0, 8, sd0)))) (hg7 : h (m + 7) = some (.inr (.inl (0, 64, re0)))) (hg8 : h (m + 8) = some (.inr (.inl (0, 64, cb0)))) (hg9 : h (m + 9) = some (.inr (.inl (0, 8, pv0)))) (hg10 : h (m + 10) = some (.inr (.inl (0, 8, ve0)))) (hg11 : h (m + 11) = some (.inr (.inl (0, 8, fa0)))) (hg12 : h (m + 12) = some (.inr (.inl (0, 9, hh0)))) (hg13 : h (m + 13) = some (.inr (.inl (0, 9, co0)))) (hg14 : h (m + 14) = some (.inr (.inl (0, 729, po0)))) (hg15 : h (m + 15) = some (.inr (.inl (0, 32, tp0)))) (hg16 : h (m + 16) = some (.inr (.inl (0, 32, bt0)))) (hg17 : h (m + 17) = some (.inr (.inl (0, 32, sz0)))) (hg18 : h (m + 18) = some (.inr (.inl (0, 288, ch0)))) (hg19 : h (m + 19) = some (.inr (.inl (0, 288, cc0)))) (hg20 : h (m + 20) = some (.inr (.inl (0, 23328, cl0)))) (hs : s ≤ 8) (hp : zprime p) (hX : ∀ k, k < s → xs k = X k ∧ ys k = Y k) (hXb : ∀ k, k < s → (0 ≤ X k ∧ X k < p) ∧ (0 ≤ Y k ∧ Y k < p)) (hw : n0 ≤ m) (hfk : fk = 0 ∨ (fk = 1 ∧ cn = (zfN p s X Y : Int) ∧ rfan (zfN p s X Y) (zfb p s X Y) (zfl p s X Y) tp0 bt0 sz0 ch0 cc0 cl0)) (hQ : ∀ (z1 c1 : Nat) (od1 iS1 sd1 re1 cb1 pv1 ve1 fa1 hh1 co1 po1 tp1 bt1 sz1 ch1 cc1 cl1 : Nat → Int) (h' : zHp), (rfan (zfN p s X Y) (zfb p s X Y) (zfl p s X Y) tp1 bt1 sz1 ch1 cc1 cl1) → h' m = some (.inl (11, mOb m p (s : Int) 1 (z1 : Int) (c1 : Int) (zfN p s X Y : Int) ln en ax nu wr sv sp ss)) → h' (m + 4) = some (.inr (.inl (0, 81, od1))) → h' (m + 5) = some (.inr (.inl (2, 81, iS1))) → h' (m + 6) = some (.inr (.inl (0, 8, sd1))) → h' (m + 7) = some (.inr (.inl (0, 64, re1))) → h' (m + 8) = some (.inr (.inl (0, 64, cb1))) → h' (m + 9) = some (.inr (.inl (0, 8, pv1))) → h' (m + 10) = some (.inr (.inl (0, 8, ve1))) → h' (m + 11) = some (.inr (.inl (0, 8, fa1))) → h' (m + 12) = some (.inr (.inl (0, 9, hh1))) → h' (m + 13) = some (.inr (.inl (0, 9, co1))) → h' (m + 14) = some (.inr (.inl (0, 729, po1))) → h' (m + 15) = some (.inr (.inl (0, 32, tp1))) → h' (m + 16) = some (.inr (.inl (0, 32, bt1))) → h' (m + 17) = some (.inr (.inl (0, 32, sz1))) → h' (m + 18) = some (.inr (.inl (0, 288, ch1))) → h' (m + 19) = some (.inr (.inl (0, 288, cc1))) → h' (m + 20) = some (.inr (.inl (0, 23328, cl1))) → (∀ q : Nat, q ≠ m → q ≠ (m + 4) → q ≠ (m + 5) → q ≠ (m + 6) → q ≠ (m + 7) → q ≠ (m + 8) → q ≠ (m + 9) → q ≠ (m + 10) → q ≠ (m + 11) → q ≠ (m + 12) → q ≠ (m + 13) → q ≠ (m + 14) → q ≠ (m + 15) → q ≠ (m + 16) → q ≠ (m + 17) → q ≠ (m + 18) → q ≠ (m + 19) → q ≠ (m + 20) → h' q = h q) → Q none n k h') : ∀ (d : Nat) (k1 : Nat) (u : Int) (v : Int) (w3 : Int) (z1 : Nat) (c1 : Nat) (od1 : Nat → Int) (iS1 : Nat → Int) (sd1 : Nat → Int) (re1 : Nat → Int) (cb1 : Nat → Int) (pv1 : Nat → Int) (ve1 : Nat → Int) (fa1 : Nat → Int) (hh1 : Nat → Int) (co1 : Nat → Int) (po1 : Nat → Int) (tp1 : Nat → Int) (bt1 : Nat → Int) (sz1 : Nat → Int) (ch1 : Nat → Int) (cc1 : Nat → Int) (cl1 : Nat → Int), 50 - k1 = d → ∀ h1 : zHp, h1 m = some (.inl (11, mOb m p (s : Int) 0 (z1 : Int) (c1 : Int) (k1 : Int) ln en ax nu wr sv sp ss)) → h1 (m + 4) = some (.inr (.inl (0, 81, od1))) → h1 (m + 5) = some (.inr (.inl (2, 81, iS1))) → h1 (m + 6) = some (.inr (.inl (0, 8, sd1))) → h1 (m + 7) = some (.inr (.inl (0, 64, re1))) → h1 (m + 8) = some (.inr (.inl (0, 64, cb1))) → h1 (m + 9) = some (.inr (.inl (0, 8, pv1))) → h1 (m + 10) = some (.inr (.inl (0, 8, ve1))) → h1 (m + 11) = some (.inr (.inl (0, 8, fa1))) → h1 (m + 12) = some (.inr (.inl (0, 9, hh1))) → h1 (m + 13) = some (.inr (.inl (0, 9, co1))) → h1 (m + 14) = some (.inr (.inl (0, 729, po1))) → h1 (m + 15) = some (.inr (.inl (0, 32, tp1))) → h1 (m + 16) = some (.inr (.inl (0, 32, bt1))) → h1 (m + 17) = some (.inr (.inl (0, 32, sz1))) → h1 (m + 18) = some (.inr (.inl (0, 288, ch1))) → h1 (m + 19) = some (.inr (.inl (0, 288, cc1))) → h1 (m + 20) = some (.inr (.inl (0, 23328, cl1))) → (∀ q : Nat, q ≠ m → q ≠ (m + 4) → q ≠ (m + 5) → q ≠ (m + 6) → q ≠ (m + 7) → q ≠ (m + 8) → q ≠ (m + 9) → q ≠ (m + 10) → q ≠ (m + 11) → q ≠ (m + 12) → q ≠ (m + 13) → q ≠ (m + 14) → q ≠ (m + 15) → q ≠ (m + 16) → q ≠ (m + 17) → q ≠ (m + 18) → q ≠ (m + 19) → q ≠ (m + 20) → h1 q = h q) → (k1 ≤ zfN p s X Y) → ((w3 = 1 ∧ k1 < zfN p s X Y ∧ u = (zfw p s X Y k1).1 ∧ v = (zfw p s X Y k1).2) ∨ (w3 = 0 ∧ k1 = zfN p s X Y)) → (rfan k1 (zfb p s X Y) (zfl p s X Y) tp1 bt1 sz1 ch1 cc1 cl1) → ZT n0 g mX10_fan 19 [some (.inr (some m)), some (.inl u), some (.inl v), some (.inl w3)] [] n k h1 Q := by
  intro d
  induction d using Nat.strongRecOn with | _ d ih => ?_
  intro k1 u v w3 z1 c1 od1 iS1 sd1 re1 cb1 pv1 ve1 fa1 hh1 co1 po1 tp1 bt1 sz1 ch1 cc1 cl1 hd0 h1 go g4 g5 g6 g7 g8 g9 g10 g11 g12 g13 g14 g15 g16 g17 g18 g19 g20 hfr hk hwk hrf
  subst hd0
  have hN := zfN_is (xs := X) (ys := Y) hp hs
  have hN23 := hN.2.1
  refine T_iload_n dX10_fan_19 rfl ?_
  refine T_if_eq dX10_fan_20 (t := 81) rfl (fun c20 => ?_) (fun c20 => ?_)
  · refine T_aload_n dX10_fan_81 rfl ?_
    refine T_iconst dX10_fan_82 (by decide) ?_
    refine T_putfield dX10_fan_83 zkf_11_122 go (Nat.le_of_ble_eq_true rfl) (by omega) rfl (fun hf => absurd hf (by decide)) rfl ?_
    refine T_vret dX10_fan_86 rfl ?_
    have ek : k1 = zfN p s X Y := by
      rcases hwk with q | q
      · omega
      · exact q.2
    subst ek
    exact hQ z1 c1 _ _ _ _ _ _ _ _ _ _ _ _ _ _ _ _ _ _ hrf zup_self (zup_ne (by omega) g4) (zup_ne (by omega) g5) (zup_ne (by omega) g6) (zup_ne (by omega) g7) (zup_ne (by omega) g8) (zup_ne (by omega) g9) (zup_ne (by omega) g10) (zup_ne (by omega) g11) (zup_ne (by omega) g12) (zup_ne (by omega) g13) (zup_ne (by omega) g14) (zup_ne (by omega) g15) (zup_ne (by omega) g16) (zup_ne (by omega) g17) (zup_ne (by omega) g18) (zup_ne (by omega) g19) (zup_ne (by omega) g20) (fun q q0 q1 q2 q3 q4 q5 q6 q7 q8 q9 q10 q11 q12 q13 q14 q15 q16 q17 => ((zup_nf (by omega)).trans (((hfr _ (by omega) (by omega) (by omega) (by omega) (by omega) (by omega) (by omega) (by omega) (by omega) (by omega) (by omega) (by omega) (by omega) (by omega) (by omega) (by omega) (by omega) (by omega)).trans (rfl)))))
  · obtain ⟨hw1, hkN, hu, hv⟩ := hwk.resolve_right (fun q => c20 q.1)
    have hwd := zfw_bd (xs := X) (ys := Y) hp hs k1
    have hzf := zbas_facts (xs := X) (ys := Y) (tie := 1) hp hs hwd.1 hwd.2.2.1
    have hlf := zfl_facts (xs := X) (ys := Y) hp hs k1
    have eD : zbas p s X Y u v 1 = zfb p s X Y k1 := by rw [hu, hv]; rfl
    change (zfb p s X Y k1).2.1 ≤ 4 ∧ _ at hzf
    refine T_aload_n dX10_fan_23 rfl ?_
    refine T_iload_n dX10_fan_24 rfl ?_
    refine T_iload_n dX10_fan_25 rfl ?_
    refine T_iconst dX10_fan_26 (by decide) ?_
    refine T_callV dX10_fan_27 zkm_11_183 (Or.inl rfl) rfl go ⟨Nat.le_of_ble_eq_true rfl, rfl⟩ rfl (Nat.le_of_ble_eq_true rfl) ?_
    refine m_X10_compute (X := X) (Y := Y) go ((hfr _ (by omega) (by omega) (by omega) (by omega) (by omega) (by omega) (by omega) (by omega) (by omega) (by omega) (by omega) (by omega) (by omega) (by omega) (by omega) (by omega) (by omega) (by omega)).trans hX1) ((hfr _ (by omega) (by omega) (by omega) (by omega) (by omega) (by omega) (by omega) (by omega) (by omega) (by omega) (by omega) (by omega) (by omega) (by omega) (by omega) (by omega) (by omega) (by omega)).trans hX2) g4 g5 g6 g7 g8 g9 g10 g11 g12 g13 g14 hs hp hX hXb (by rw [hu, hv]; omega) (Or.inr rfl) (by omega) (fun z127 c127 od127 iS127 sd127 re127 cb127 pv127 ve127 fa127 hh127 co127 po127 hh27 k27a k27b k27c f27a f27b f27c f27d f27e f27f f27g f27h f27i f27j f27k f27l fr27 => ?_)
    rw [eD] at k27a
    have kc : ∀ a, a < c127 → a < (zfb p s X Y k1).2.1 := fun a ha => by rw [← k27a]; exact ha
    have kH : ∀ i, i < 9 → hh127 i = ((zfb p s X Y k1).1 i : Int) := by rw [← eD]; exact k27b
    have kC : ∀ a, a < c127 → co127 a = ((zfb p s X Y k1).2.2.1 a : Int) ∧ ∀ x, x < 81 → po127 (81 * a + x) = (zfb p s X Y k1).2.2.2 a x := by rw [← eD]; exact k27c
    refine T_aload_n dX10_fan_30 rfl ?_
    refine T_aload_n dX10_fan_31 rfl ?_
    refine T_getfield dX10_fan_32 zkf_11_195 f27a rfl ?_
    refine T_callV dX10_fan_35 zkm_11_198 (Or.inl rfl) rfl f27a ⟨Nat.le_of_ble_eq_true rfl, rfl⟩ rfl (Nat.le_of_ble_eq_true rfl) ?_
    refine m_X10_keep (B := (zfb p s X Y)) (W := (zfl p s X Y)) f27a f27j f27k f27l ((fr27 _ (by omega) (by omega) (by omega) (by omega) (by omega) (by omega) (by omega) (by omega) (by omega) (by omega) (by omega) (by omega)).trans g15) ((fr27 _ (by omega) (by omega) (by omega) (by omega) (by omega) (by omega) (by omega) (by omega) (by omega) (by omega) (by omega) (by omega)).trans g16) ((fr27 _ (by omega) (by omega) (by omega) (by omega) (by omega) (by omega) (by omega) (by omega) (by omega) (by omega) (by omega) (by omega)).trans g17) ((fr27 _ (by omega) (by omega) (by omega) (by omega) (by omega) (by omega) (by omega) (by omega) (by omega) (by omega) (by omega) (by omega)).trans g18) ((fr27 _ (by omega) (by omega) (by omega) (by omega) (by omega) (by omega) (by omega) (by omega) (by omega) (by omega) (by omega) (by omega)).trans g19) ((fr27 _ (by omega) (by omega) (by omega) (by omega) (by omega) (by omega) (by omega) (by omega) (by omega) (by omega) (by omega) (by omega)).trans g20) (by omega) ⟨by rw [k27a]; exact hzf.1, k27a⟩ kH (fun a ha => (hzf.2.2.2 a (kc a ha)).1) kC (fun a ha q hq => by
          have r := (hzf.2.2.2 a (kc a ha)).2.2.2.2 q
          rcases r.2.2 hq with e | e
          · rw [e]; exact (hzf.2.2.2 a (kc a ha)).1
          · exact e.1) (fun a ha q hq h1 => by
          have r := (zpair_facts (xs := X) (ys := Y) (tie := 1) hp hs hwd.1 hwd.2.2.1 (x := ((zfb p s X Y k1).2.2.1 a : Int) / 9 - (q : Int) / 9) (y := (q : Int) % 9 - ((zfb p s X Y k1).2.2.1 a : Int) % 9) ⟨a, kc a ha, q, hq, by omega, rfl, rfl⟩).1
          omega) (fun w hw => zwl_eq hw) hrf (by omega) (fun j hj => (zbas_facts (xs := X) (ys := Y) (tie := 1) hp hs (zfw_bd hp hs j).1 (zfw_bd hp hs j).2.2.1).1) (fun tp135 bt135 sz135 ch135 cc135 cl135 hh35 k35a f35a f35b f35c f35d f35e f35f fr35 => ?_)
    refine T_aload_n dX10_fan_38 rfl ?_
    refine T_getfield dX10_fan_39 zkf_11_60 ((fr35 _ (by omega) (by omega) (by omega) (by omega) (by omega) (by omega)).trans f27a) rfl ?_
    refine T_aload_n dX10_fan_42 rfl ?_
    refine T_getfield dX10_fan_43 zkf_11_195 ((fr35 _ (by omega) (by omega) (by omega) (by omega) (by omega) (by omega)).trans f27a) rfl ?_
    refine T_ialoadN (m := k1) dX10_fan_46 f35b rfl (by omega) ?_
    have rk := (k35a k1 (by omega)).2.2.2
    rw [rk.2]
    refine T_istore_n dX10_fan_47 (Nat.le_of_ble_eq_true rfl) ?_
    refine T_aload_n dX10_fan_48 rfl ?_
    refine T_getfield dX10_fan_49 zkf_11_57 ((fr35 _ (by omega) (by omega) (by omega) (by omega) (by omega) (by omega)).trans f27a) rfl ?_
    refine T_aload_n dX10_fan_52 rfl ?_
    refine T_getfield dX10_fan_53 zkf_11_195 ((fr35 _ (by omega) (by omega) (by omega) (by omega) (by omega) (by omega)).trans f27a) rfl ?_
    refine T_ialoadN (m := k1) dX10_fan_56 f35a rfl (by omega) ?_
    rw [rk.1]
    refine T_istore_n dX10_fan_57 (Nat.le_of_ble_eq_true rfl) ?_
    refine T_iload_n dX10_fan_58 rfl ?_
    refine T_if_le dX10_fan_59 (t := 66) rfl (fun c59 => ?_) (fun c59 => ?_)
    · refine T_iconst dX10_fan_66 (by decide) ?_
      refine T_istore_n dX10_fan_67 (Nat.le_of_ble_eq_true rfl) ?_
      refine T_aload_n dX10_fan_68 rfl ?_
      refine T_dup dX10_fan_69 ?_
      refine T_getfield dX10_fan_70 zkf_11_195 ((fr35 _ (by omega) (by omega) (by omega) (by omega) (by omega) (by omega)).trans f27a) rfl ?_
      refine T_iconst dX10_fan_73 (by decide) ?_
      refine T_iadd dX10_fan_74 ⟨by omega, by omega⟩ ?_
      refine T_putfield dX10_fan_75 zkf_11_195 ((fr35 _ (by omega) (by omega) (by omega) (by omega) (by omega) (by omega)).trans f27a) (Nat.le_of_ble_eq_true rfl) (by omega) rfl (fun hf => absurd hf (by decide)) rfl ?_
      refine T_goto dX10_fan_78 (t := 19) rfl ?_
      exact ih _ (by omega) (k1 + 1) ((zfl p s X Y k1).2 : Int) ((zfl p s X Y k1).1 : Int) 0 _ _ _ _ _ _ _ _ _ _ _ _ _ _ _ _ _ _ _ rfl _ zup_self (zup_ne (by omega) ((fr35 _ (by omega) (by omega) (by omega) (by omega) (by omega) (by omega)).trans f27b)) (zup_ne (by omega) ((fr35 _ (by omega) (by omega) (by omega) (by omega) (by omega) (by omega)).trans f27c)) (zup_ne (by omega) ((fr35 _ (by omega) (by omega) (by omega) (by omega) (by omega) (by omega)).trans f27d)) (zup_ne (by omega) ((fr35 _ (by omega) (by omega) (by omega) (by omega) (by omega) (by omega)).trans f27e)) (zup_ne (by omega) ((fr35 _ (by omega) (by omega) (by omega) (by omega) (by omega) (by omega)).trans f27f)) (zup_ne (by omega) ((fr35 _ (by omega) (by omega) (by omega) (by omega) (by omega) (by omega)).trans f27g)) (zup_ne (by omega) ((fr35 _ (by omega) (by omega) (by omega) (by omega) (by omega) (by omega)).trans f27h)) (zup_ne (by omega) ((fr35 _ (by omega) (by omega) (by omega) (by omega) (by omega) (by omega)).trans f27i)) (zup_ne (by omega) ((fr35 _ (by omega) (by omega) (by omega) (by omega) (by omega) (by omega)).trans f27j)) (zup_ne (by omega) ((fr35 _ (by omega) (by omega) (by omega) (by omega) (by omega) (by omega)).trans f27k)) (zup_ne (by omega) ((fr35 _ (by omega) (by omega) (by omega) (by omega) (by omega) (by omega)).trans f27l)) (zup_ne (by omega) f35a) (zup_ne (by omega) f35b) (zup_ne (by omega) f35c) (zup_ne (by omega) f35d) (zup_ne (by omega) f35e) (zup_ne (by omega) f35f) (fun q q0 q1 q2 q3 q4 q5 q6 q7 q8 q9 q10 q11 q12 q13 q14 q15 q16 q17 => ((zup_nf q0).trans ((fr35 _ q12 q13 q14 q15 q16 q17).trans ((fr27 _ q0 q1 q2 q3 q4 q5 q6 q7 q8 q9 q10 q11).trans ((hfr _ q0 q1 q2 q3 q4 q5 q6 q7 q8 q9 q10 q11 q12 q13 q14 q15 q16 q17).trans rfl))))) (by omega) (Or.inr ⟨rfl, by
            by_cases e : k1 + 1 < zfN p s X Y
            · have := hN.2.2.1 k1 e; omega
            · omega⟩) k35a 
    · refine T_iconst dX10_fan_62 (by decide) ?_
      refine T_goto dX10_fan_63 (t := 67) rfl ?_
      refine T_istore_n dX10_fan_67 (Nat.le_of_ble_eq_true rfl) ?_
      refine T_aload_n dX10_fan_68 rfl ?_
      refine T_dup dX10_fan_69 ?_
      refine T_getfield dX10_fan_70 zkf_11_195 ((fr35 _ (by omega) (by omega) (by omega) (by omega) (by omega) (by omega)).trans f27a) rfl ?_
      refine T_iconst dX10_fan_73 (by decide) ?_
      refine T_iadd dX10_fan_74 ⟨by omega, by omega⟩ ?_
      refine T_putfield dX10_fan_75 zkf_11_195 ((fr35 _ (by omega) (by omega) (by omega) (by omega) (by omega) (by omega)).trans f27a) (Nat.le_of_ble_eq_true rfl) (by omega) rfl (fun hf => absurd hf (by decide)) rfl ?_
      refine T_goto dX10_fan_78 (t := 19) rfl ?_
      exact ih _ (by omega) (k1 + 1) ((zfl p s X Y k1).2 : Int) ((zfl p s X Y k1).1 : Int) 1 _ _ _ _ _ _ _ _ _ _ _ _ _ _ _ _ _ _ _ rfl _ zup_self (zup_ne (by omega) ((fr35 _ (by omega) (by omega) (by omega) (by omega) (by omega) (by omega)).trans f27b)) (zup_ne (by omega) ((fr35 _ (by omega) (by omega) (by omega) (by omega) (by omega) (by omega)).trans f27c)) (zup_ne (by omega) ((fr35 _ (by omega) (by omega) (by omega) (by omega) (by omega) (by omega)).trans f27d)) (zup_ne (by omega) ((fr35 _ (by omega) (by omega) (by omega) (by omega) (by omega) (by omega)).trans f27e)) (zup_ne (by omega) ((fr35 _ (by omega) (by omega) (by omega) (by omega) (by omega) (by omega)).trans f27f)) (zup_ne (by omega) ((fr35 _ (by omega) (by omega) (by omega) (by omega) (by omega) (by omega)).trans f27g)) (zup_ne (by omega) ((fr35 _ (by omega) (by omega) (by omega) (by omega) (by omega) (by omega)).trans f27h)) (zup_ne (by omega) ((fr35 _ (by omega) (by omega) (by omega) (by omega) (by omega) (by omega)).trans f27i)) (zup_ne (by omega) ((fr35 _ (by omega) (by omega) (by omega) (by omega) (by omega) (by omega)).trans f27j)) (zup_ne (by omega) ((fr35 _ (by omega) (by omega) (by omega) (by omega) (by omega) (by omega)).trans f27k)) (zup_ne (by omega) ((fr35 _ (by omega) (by omega) (by omega) (by omega) (by omega) (by omega)).trans f27l)) (zup_ne (by omega) f35a) (zup_ne (by omega) f35b) (zup_ne (by omega) f35c) (zup_ne (by omega) f35d) (zup_ne (by omega) f35e) (zup_ne (by omega) f35f) (fun q q0 q1 q2 q3 q4 q5 q6 q7 q8 q9 q10 q11 q12 q13 q14 q15 q16 q17 => ((zup_nf q0).trans ((fr35 _ q12 q13 q14 q15 q16 q17).trans ((fr27 _ q0 q1 q2 q3 q4 q5 q6 q7 q8 q9 q10 q11).trans ((hfr _ q0 q1 q2 q3 q4 q5 q6 q7 q8 q9 q10 q11 q12 q13 q14 q15 q16 q17).trans rfl))))) (by omega) (Or.inl ⟨rfl, by
            by_cases e : k1 + 1 = zfN p s X Y
            · have := hN.2.2.2; rw [← e, Nat.add_sub_cancel] at this; omega
            · omega, rfl, rfl⟩) k35a 
set_option maxHeartbeats 4000000 in
set_option maxRecDepth 100000 in
theorem m_X10_fan {n0 n k : Nat} {g : Nat → zV} {h : zHp} {Q : Option zV → Nat → Nat → zHp → Prop} {m s z c : Nat} {p fk cn ln en ax nu wr sv sp ss : Int} {xs ys X Y od0 iS0 sd0 re0 cb0 pv0 ve0 fa0 hh0 co0 po0 tp0 bt0 sz0 ch0 cc0 cl0 : Nat → Int} (hM : h m = some (.inl (11, mOb m p (s : Int) fk (z : Int) (c : Int) cn ln en ax nu wr sv sp ss))) (hX1 : h (m + 1) = some (.inr (.inl (0, 8, xs)))) (hX2 : h (m + 2) = some (.inr (.inl (0, 8, ys)))) (hg4 : h (m + 4) = some (.inr (.inl (0, 81, od0)))) (hg5 : h (m + 5) = some (.inr (.inl (2, 81, iS0)))) (hg6 : h (m + 6) = some (.inr (.inl (0, 8, sd0)))) (hg7 : h (m + 7) = some (.inr (.inl (0, 64, re0)))) (hg8 : h (m + 8) = some (.inr (.inl (0, 64, cb0)))) (hg9 : h (m + 9) = some (.inr (.inl (0, 8, pv0)))) (hg10 : h (m + 10) = some (.inr (.inl (0, 8, ve0)))) (hg11 : h (m + 11) = some (.inr (.inl (0, 8, fa0)))) (hg12 : h (m + 12) = some (.inr (.inl (0, 9, hh0)))) (hg13 : h (m + 13) = some (.inr (.inl (0, 9, co0)))) (hg14 : h (m + 14) = some (.inr (.inl (0, 729, po0)))) (hg15 : h (m + 15) = some (.inr (.inl (0, 32, tp0)))) (hg16 : h (m + 16) = some (.inr (.inl (0, 32, bt0)))) (hg17 : h (m + 17) = some (.inr (.inl (0, 32, sz0)))) (hg18 : h (m + 18) = some (.inr (.inl (0, 288, ch0)))) (hg19 : h (m + 19) = some (.inr (.inl (0, 288, cc0)))) (hg20 : h (m + 20) = some (.inr (.inl (0, 23328, cl0)))) (hs : s ≤ 8) (hp : zprime p) (hX : ∀ k, k < s → xs k = X k ∧ ys k = Y k) (hXb : ∀ k, k < s → (0 ≤ X k ∧ X k < p) ∧ (0 ≤ Y k ∧ Y k < p)) (hw : n0 ≤ m) (hfk : fk = 0 ∨ (fk = 1 ∧ cn = (zfN p s X Y : Int) ∧ rfan (zfN p s X Y) (zfb p s X Y) (zfl p s X Y) tp0 bt0 sz0 ch0 cc0 cl0)) (hQ : ∀ (z1 c1 : Nat) (od1 iS1 sd1 re1 cb1 pv1 ve1 fa1 hh1 co1 po1 tp1 bt1 sz1 ch1 cc1 cl1 : Nat → Int) (h' : zHp), (rfan (zfN p s X Y) (zfb p s X Y) (zfl p s X Y) tp1 bt1 sz1 ch1 cc1 cl1) → h' m = some (.inl (11, mOb m p (s : Int) 1 (z1 : Int) (c1 : Int) (zfN p s X Y : Int) ln en ax nu wr sv sp ss)) → h' (m + 4) = some (.inr (.inl (0, 81, od1))) → h' (m + 5) = some (.inr (.inl (2, 81, iS1))) → h' (m + 6) = some (.inr (.inl (0, 8, sd1))) → h' (m + 7) = some (.inr (.inl (0, 64, re1))) → h' (m + 8) = some (.inr (.inl (0, 64, cb1))) → h' (m + 9) = some (.inr (.inl (0, 8, pv1))) → h' (m + 10) = some (.inr (.inl (0, 8, ve1))) → h' (m + 11) = some (.inr (.inl (0, 8, fa1))) → h' (m + 12) = some (.inr (.inl (0, 9, hh1))) → h' (m + 13) = some (.inr (.inl (0, 9, co1))) → h' (m + 14) = some (.inr (.inl (0, 729, po1))) → h' (m + 15) = some (.inr (.inl (0, 32, tp1))) → h' (m + 16) = some (.inr (.inl (0, 32, bt1))) → h' (m + 17) = some (.inr (.inl (0, 32, sz1))) → h' (m + 18) = some (.inr (.inl (0, 288, ch1))) → h' (m + 19) = some (.inr (.inl (0, 288, cc1))) → h' (m + 20) = some (.inr (.inl (0, 23328, cl1))) → (∀ q : Nat, q ≠ m → q ≠ (m + 4) → q ≠ (m + 5) → q ≠ (m + 6) → q ≠ (m + 7) → q ≠ (m + 8) → q ≠ (m + 9) → q ≠ (m + 10) → q ≠ (m + 11) → q ≠ (m + 12) → q ≠ (m + 13) → q ≠ (m + 14) → q ≠ (m + 15) → q ≠ (m + 16) → q ≠ (m + 17) → q ≠ (m + 18) → q ≠ (m + 19) → q ≠ (m + 20) → h' q = h q) → Q none n k h') : ZT n0 g mX10_fan 0 (zloc mX10_fan [.inr (some m)]) [] n k h Q := by
  show ZT n0 g mX10_fan 0 [some (.inr (some m)), none, none, none] [] n k h Q
  refine T_aload_n dX10_fan_0 rfl ?_
  refine T_getfield dX10_fan_1 zkf_11_122 hM rfl ?_
  refine T_if_eq dX10_fan_4 (t := 8) rfl (fun c4 => ?_) (fun c4 => ?_)
  · have fk0 : fk = 0 := by omega
    subst fk0
    refine T_aload_n dX10_fan_8 rfl ?_
    refine T_iconst dX10_fan_9 (by decide) ?_
    refine T_putfield dX10_fan_10 zkf_11_195 hM (Nat.le_of_ble_eq_true rfl) (by omega) rfl (fun hf => absurd hf (by decide)) rfl ?_
    refine T_iconst dX10_fan_13 (by decide) ?_
    refine T_istore_n dX10_fan_14 (Nat.le_of_ble_eq_true rfl) ?_
    refine T_iconst dX10_fan_15 (by decide) ?_
    refine T_istore_n dX10_fan_16 (Nat.le_of_ble_eq_true rfl) ?_
    refine T_iconst dX10_fan_17 (by decide) ?_
    refine T_istore_n dX10_fan_18 (Nat.le_of_ble_eq_true rfl) ?_
    exact m_X10_fan_19 hM hX1 hX2 hg4 hg5 hg6 hg7 hg8 hg9 hg10 hg11 hg12 hg13 hg14 hg15 hg16 hg17 hg18 hg19 hg20 hs hp hX hXb hw hfk hQ _ 0 1 0 1 z c _ _ _ _ _ _ _ _ _ _ _ _ _ _ _ _ _ rfl _ zup_self (zup_ne (by omega) hg4) (zup_ne (by omega) hg5) (zup_ne (by omega) hg6) (zup_ne (by omega) hg7) (zup_ne (by omega) hg8) (zup_ne (by omega) hg9) (zup_ne (by omega) hg10) (zup_ne (by omega) hg11) (zup_ne (by omega) hg12) (zup_ne (by omega) hg13) (zup_ne (by omega) hg14) (zup_ne (by omega) hg15) (zup_ne (by omega) hg16) (zup_ne (by omega) hg17) (zup_ne (by omega) hg18) (zup_ne (by omega) hg19) (zup_ne (by omega) hg20) (fun q q0 q1 q2 q3 q4 q5 q6 q7 q8 q9 q10 q11 q12 q13 q14 q15 q16 q17 => ((zup_nf q0).trans rfl)) (Nat.zero_le _) (Or.inl ⟨rfl, (zfN_is (xs := X) (ys := Y) hp hs).1, rfl, rfl⟩) (fun j hj => absurd hj (Nat.not_lt_zero j)) 
  · refine T_vret dX10_fan_7 rfl ?_
    have hfk1 := hfk.resolve_left c4
    exact hQ z c _ _ _ _ _ _ _ _ _ _ _ _ _ _ _ _ _ _ hfk1.2.2 (by rw [← hfk1.1, ← hfk1.2.1]; exact hM) hg4 hg5 hg6 hg7 hg8 hg9 hg10 hg11 hg12 hg13 hg14 hg15 hg16 hg17 hg18 hg19 hg20 (fun q q0 q1 q2 q3 q4 q5 q6 q7 q8 q9 q10 q11 q12 q13 q14 q15 q16 q17 => rfl)
