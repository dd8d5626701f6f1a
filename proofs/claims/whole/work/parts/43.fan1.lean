/-! ===== Fan.forget, Fan.refresh (a fan that is not there): printed by wip/whole/gen/s_fan1.py ===== -/
set_option maxHeartbeats 4000000 in
set_option maxRecDepth 100000 in
theorem m_X2_forget {n0 n k : Nat} {g : Nat → zV} {h : zHp} {Q : Option zV → Nat → Nat → zHp → Prop} {f : Nat} {sz : Int} (hF0 : h f = some (.inl (3, [.inl sz, .inr (some (f + 1))]))) (hw : n0 ≤ f) (hQ : ∀  (h' : zHp), h' f = some (.inl (3, [.inl 0, .inr (some (f + 1))])) → (∀ q : Nat, q ≠ f → h' q = h q) → Q none n k h') : ZT n0 g mX2_forget 0 (zloc mX2_forget [.inr (some f)]) [] n k h Q := by
  show ZT n0 g mX2_forget 0 [some (.inr (some f))] [] n k h Q
  refine T_aload_n dX2_forget_0 rfl ?_
  refine T_iconst dX2_forget_1 (by decide) ?_
  refine T_putfield dX2_forget_2 zkf_3_9 hF0 (Nat.le_of_ble_eq_true rfl) (by omega) rfl (fun hf => absurd hf (by decide)) rfl ?_
  refine T_vret dX2_forget_5 rfl ?_
  exact hQ _ zup_self (fun q q0 => ((zup_nf q0).trans rfl))
set_option maxHeartbeats 4000000 in
set_option maxRecDepth 100000 in
theorem m_X2_refresh0_17 {n0 n k : Nat} {g : Nat → zV} {h : zHp} {Q : Option zV → Nat → Nat → zHp → Prop} {f r e pb s s0 nb lo : Nat} {cb : Nat → Nat} {p u v tie sz : Int} {xs ys X Y : Nat → Int} {E0 : eT} (hP0 : h pb = some (.inl (6, [.inl p, .inl (s : Int), .inr (some (pb + 1)), .inr (some (pb + 2))]))) (hP1 : h (pb + 1) = some (.inr (.inl (0, 8, xs)))) (hP2 : h (pb + 2) = some (.inr (.inl (0, 8, ys)))) (hOd : h r = some (.inl (5, [.inl u, .inl v, .inl tie]))) (hF0 : h f = some (.inl (3, [.inl sz, .inr (some (f + 1))]))) (hs : s ≤ 8) (hp : zprime p) (hX : ∀ k, k < s → xs k = X k ∧ ys k = Y k) (hXb : ∀ k, k < s → (0 ≤ X k ∧ X k < p) ∧ (0 ≤ Y k ∧ Y k < p)) (hw : n0 ≤ f ∧ n0 ≤ e ∧ n0 ≤ r ∧ n0 ≤ lo) (hst : f + 2 ≤ lo ∧ e + 23 ≤ lo ∧ pb + 3 ≤ lo ∧ r < lo ∧ lo ≤ n) (hd : (f + 2 ≤ e ∨ e + 23 ≤ f) ∧ (f + 2 ≤ pb ∨ pb + 3 ≤ f) ∧ (r < f ∨ f + 2 ≤ r) ∧ (r < e ∨ e + 23 ≤ r) ∧ (r < pb ∨ pb + 3 ≤ r) ∧ (pb + 3 ≤ e ∨ e + 23 ≤ pb)) (hel : elAt h e pb s0 E0) (hco : coAt h f lo n nb cb) (hsz : sz ≤ 0) (hQ : ∀ (nb' : Nat) (cb' : Nat → Nat) (n' k' : Nat) (E' : eT) (h' : zHp), (nb ≤ nb' ∧ zfN p s X Y ≤ nb') → (∀ i, i < nb → cb' i = cb i) → (n ≤ n' ∧ n' ≤ n + 15 * (nb' - nb)) → (k' ≤ k + 110 * (nb' - nb)) → (∀ i, nb ≤ i → i < nb' → n ≤ cb' i) → (h' f = some (.inl (3, [.inl (zfN p s X Y : Int), .inr (some (f + 1))]))) → (coAt h' f lo n' nb' cb') → (∀ i, i < zfN p s X Y → bsAt h' (cb' i) (zfb p s X Y i) (zfl p s X Y i)) → (elAt h' e pb s E') → (∃ u v t : Int, h' r = some (.inl (5, [.inl u, .inl v, .inl t]))) → (∀ q : Nat, q < n → q ≠ f → q ≠ f + 1 → (q < e ∨ e + 23 ≤ q) → q ≠ r → (∀ i, i < nb → q < cb i ∨ cb i + 15 ≤ q) → h' q = h q) → Q none n' k' h') : ∀ (d : Nat) (k1 : Nat) (nb1 : Nat) (cb1 : Nat → Nat) (s1 : Nat) (E1 : eT) (sz1 : Int) (n1 : Nat) (kk1 : Nat) (L4 : Option zV), 44 - k1 = d → ∀ h1 : zHp, (h1 f = some (.inl (3, [.inl sz1, .inr (some (f + 1))]))) → (coAt h1 f lo n1 nb1 cb1) → (elAt h1 e pb s1 E1) → (h1 r = some (.inl (5, [.inl (zfw p s X Y k1).1, .inl (zfw p s X Y k1).2, .inl 1]))) → (∀ i, i < k1 → bsAt h1 (cb1 i) (zfb p s X Y i) (zfl p s X Y i)) → (∀ q : Nat, q < n → q ≠ f → q ≠ f + 1 → (q < e ∨ e + 23 ≤ q) → q ≠ r → (∀ i, i < nb → q < cb i ∨ cb i + 15 ≤ q) → h1 q = h q) → (k1 < zfN p s X Y) → (nb ≤ nb1 ∧ k1 ≤ nb1) → (∀ i, i < nb → cb1 i = cb i) → (n ≤ n1 ∧ n1 ≤ n + 15 * (nb1 - nb)) → (kk1 ≤ k + 110 * (nb1 - nb)) → (∀ i, nb ≤ i → i < nb1 → n ≤ cb1 i) → ZT n0 g mX2_refresh 17 [some (.inr (some f)), some (.inr (some r)), some (.inr (some e)), some (.inl (k1 : Int)), L4] [] n1 kk1 h1 Q := by
  intro d
  induction d using Nat.strongRecOn with | _ d ih => ?_
  intro k1 nb1 cb1 s1 E1 sz1 n1 kk1 L4 hd0 h1 gF0 gco gel god gk gfr hk hnb hcb hn1 hkk hnx
  subst hd0
  have hN := zfN_is (xs := X) (ys := Y) hp hs
  have hN23 := hN.2.1
  have hwd := zfw_bd (xs := X) (ys := Y) hp hs k1
  have hlf := zfl_facts (xs := X) (ys := Y) hp hs k1
  have gco0 := gco
  obtain ⟨c1, ⟨cf, c2, hcf⟩, c3, c4, c5⟩ := gco
  have cold : ∀ i, i < nb → lo ≤ cb i ∧ cb i + 15 ≤ n := hco.2.2.1
  have J45 : ∀ (nb2 : Nat) (cb2 : Nat → Nat) (n2 : Nat) (kk2 : Nat) (h2 : zHp), (h2 f = some (.inl (3, [.inl sz1, .inr (some (f + 1))]))) → (coAt h2 f lo n2 nb2 cb2) → (elAt h2 e pb s1 E1) → (h2 r = some (.inl (5, [.inl (zfw p s X Y k1).1, .inl (zfw p s X Y k1).2, .inl 1]))) → (∀ i, i < k1 → bsAt h2 (cb2 i) (zfb p s X Y i) (zfl p s X Y i)) → (∀ q : Nat, q < n → q ≠ f → q ≠ f + 1 → (q < e ∨ e + 23 ≤ q) → q ≠ r → (∀ i, i < nb → q < cb i ∨ cb i + 15 ≤ q) → h2 q = h q) → (k1 < nb2) → (nb ≤ nb2) → (∀ i, i < nb → cb2 i = cb i) → (n ≤ n2 ∧ n2 ≤ n + 15 * (nb2 - nb)) → (kk2 ≤ k + 110 * (nb2 - nb)) → (∀ q, q < n → nb ≤ k1 → q < cb2 k1) → (∀ i, nb ≤ i → i < nb2 → n ≤ cb2 i) → ZT n0 g mX2_refresh 45 [some (.inr (some f)), some (.inr (some r)), some (.inr (some e)), some (.inl (k1 : Int)), L4] [] n2 kk2 h2 Q := by
    intro nb2 cb2 n2 kk2 h2 jF0 jco jel jod jk jfr hkn jnb jcb jn jkk hnw jnx
    have jco0 := jco
    obtain ⟨c1, ⟨cf, c2, hcf⟩, c3, c4, c5⟩ := jco
    obtain ⟨H0, c0, cm0, ce0, wt0, wb0, hc04, hba0⟩ := c5 k1 hkn
    have hck := c3 k1 hkn
    obtain ⟨hf, rf, pi, b0, -⟩ := id hba0
    refine T_aload_n dX2_refresh_45 rfl ?_
    refine T_getfield dX2_refresh_46 zkf_3_17 jF0 rfl ?_
    refine T_iload_n dX2_refresh_49 rfl ?_
    refine T_aaloadN (m := k1) (r := some (cb2 k1)) dX2_refresh_50 c2 rfl (by omega) (by rw [hcf _ (by omega), if_pos (by omega)]) ?_
    refine T_astore dX2_refresh_51 (Nat.le_of_ble_eq_true rfl) ?_
    refine T_aload dX2_refresh_53 rfl ?_
    refine T_aload_n dX2_refresh_55 rfl ?_
    refine T_aload_n dX2_refresh_56 rfl ?_
    refine T_callV dX2_refresh_57 zkm_3_28 (Or.inl rfl) rfl b0 ⟨Nat.le_of_ble_eq_true rfl, rfl⟩ rfl (Nat.le_of_ble_eq_true rfl) ?_
    refine m_X7_compute (X := X) (Y := Y) ((jfr _ (by omega) (by omega) (by omega) (by omega) (by omega) (fun i hi => by have := cold i hi; omega)).trans hP0) ((jfr _ (by omega) (by omega) (by omega) (by omega) (by omega) (fun i hi => by have := cold i hi; omega)).trans hP1) ((jfr _ (by omega) (by omega) (by omega) (by omega) (by omega) (fun i hi => by have := cold i hi; omega)).trans hP2) jod hs hp hX hXb ⟨by omega, by omega, by omega, by omega⟩ (by omega) (by omega) jel hba0 (fun w57 E'57 hh57 k57a pb_57 pe_57 pf_57 => ?_)
    have ew : w57 = (zfl p s X Y k1) := zwl_eq (D := (zfb p s X Y k1)) k57a
    subst ew
    have pb9 : bsAt hh57 (cb2 k1) (zfb p s X Y k1) (zfl p s X Y k1) := pb_57
    obtain ⟨hf, rf, pi, b0, -⟩ := id pb_57
    have fr9 : ∀ q, q < n2 → (q < cb2 k1 ∨ cb2 k1 + 15 ≤ q) → (q < e ∨ e + 23 ≤ q) → hh57 q = h2 q := fun q _ q2 q3 => pf_57 q q2 q3
    refine T_aload_n dX2_refresh_60 rfl ?_
    refine T_iload_n dX2_refresh_61 rfl ?_
    refine T_iconst dX2_refresh_62 (by decide) ?_
    refine T_iadd dX2_refresh_63 ⟨by omega, by omega⟩ ?_
    refine T_putfield dX2_refresh_64 zkf_3_9 ((fr9 f (by omega) (by omega) (by omega)).trans jF0) (Nat.le_of_ble_eq_true rfl) (by omega) rfl (fun hf => absurd hf (by decide)) rfl ?_
    refine T_aload dX2_refresh_67 rfl ?_
    refine T_callV dX2_refresh_69 zkm_3_32 (Or.inl rfl) rfl (zup_ne (by omega) b0) ⟨Nat.le_of_ble_eq_true rfl, rfl⟩ rfl (Nat.le_of_ble_eq_true rfl) ?_
    refine m_X7_hasWall (wb := ((zfl p s X Y k1).2 : Int)) (wt := ((zfl p s X Y k1).1 : Int)) (c := (zfb p s X Y k1).2.1) (zup_ne (by omega) b0)  (fun k69a => ?_) (fun k69a_2 => ?_)
    · refine T_if_ne dX2_refresh_72 (t := 78) rfl (fun _ => ?_) (fun hc => absurd hc (by decide))
      refine T_aload_n dX2_refresh_78 rfl ?_
      refine T_aload dX2_refresh_79 rfl ?_
      refine T_getfield dX2_refresh_81 zkf_3_36 (zup_ne (by omega) b0) rfl ?_
      refine T_aload dX2_refresh_84 rfl ?_
      refine T_getfield dX2_refresh_86 zkf_3_39 (zup_ne (by omega) b0) rfl ?_
      refine T_iconst dX2_refresh_89 (by decide) ?_
      refine T_callV dX2_refresh_90 zkm_3_21 (Or.inl rfl) rfl (zup_ne (by omega) ((fr9 r (by omega) (by omega) (by omega)).trans jod)) ⟨Nat.le_of_ble_eq_true rfl, rfl⟩ rfl (Nat.le_of_ble_eq_true rfl) ?_
      refine m_X4_choose (zup_ne (by omega) ((fr9 r (by omega) (by omega) (by omega)).trans jod)) (by omega) (fun hh90 f90a fr90 => ?_)
      refine T_iinc dX2_refresh_93 rfl ⟨by omega, by omega⟩ ?_
      refine T_goto dX2_refresh_96 (t := 17) rfl ?_
      exact ih _ (by omega) (k1 + 1) nb2 cb2 s E'57 _ n2 kk2 _ rfl _ ((fr90 _ (by omega)).trans zup_self) (coAt.frame (h := hh57) (jco0.upd (h' := hh57) hst.1 (zbas_facts hp hs hwd.1 hwd.2.2.1).1 pb9 hkn (fun q q1 q2 => fr9 q (by omega) q2 (by omega))) (Nat.le_refl _) (by exact ((fr90 _ (by omega)).trans (((zup_nf (by omega)).trans (rfl))))) (fun i hi q a1 a2 => by have := c3 i hi; exact ((fr90 _ (by omega)).trans (((zup_nf (by omega)).trans (rfl)))))) (elAt.frame (h := hh57) pe_57 (fun q a1 a2 => ((fr90 _ (by omega)).trans (((zup_nf (by omega)).trans (rfl)))))) f90a (fun i hi => by
            have := c3 i (by omega)
            by_cases e9 : i = k1
            · subst e9; exact baAt.frame (h := hh57) pb9 (zbas_facts hp hs hwd.1 hwd.2.2.1).1 (fun q a1 a2 => ((fr90 _ (by omega)).trans (((zup_nf (by omega)).trans (rfl)))))
            · have := c4 i k1 (by omega) hkn
              exact (jk i (by omega)).frame (zbas_facts hp hs (zfw_bd hp hs i).1 (zfw_bd hp hs i).2.2.1).1 (fun q a1 a2 => ((fr90 _ (by omega)).trans (((zup_nf (by omega)).trans (fr9 q (by omega) (by omega) (by omega))))))) (fun q q1 q2 q3 q4 q5 q6 => by
            have hq9 : q < cb2 k1 ∨ cb2 k1 + 15 ≤ q := by
              by_cases e9 : k1 < nb
              · rw [jcb k1 e9]; exact q6 k1 e9
              · exact Or.inl (hnw q q1 (by omega))
            exact ((fr90 _ (by omega)).trans (((zup_nf (by omega)).trans ((fr9 q (by omega) hq9 q4).trans (jfr q q1 q2 q3 q4 q5 q6)))))) (by
            by_cases e9 : k1 + 1 = zfN p s X Y
            · have := hN.2.2.2; rw [← e9, Nat.add_sub_cancel] at this; omega
            · omega) ⟨jnb, hkn⟩ jcb jn jkk jnx 
    · refine T_if_ne dX2_refresh_72 (t := 78) rfl (fun hc => absurd hc (by decide)) (fun _ => ?_)
      refine T_goto dX2_refresh_75 (t := 99) rfl ?_
      refine T_vret dX2_refresh_99 rfl ?_
      have eN : k1 + 1 = zfN p s X Y := by
        by_cases e9 : k1 + 1 < zfN p s X Y
        · have := hN.2.2.1 k1 e9; omega
        · omega
      exact hQ nb2 cb2 n2 kk2 E'57 _ ⟨jnb, by omega⟩ jcb jn jkk jnx (by rw [← eN]; exact zup_self) (coAt.frame (h := hh57) (jco0.upd (h' := hh57) hst.1 (zbas_facts hp hs hwd.1 hwd.2.2.1).1 pb9 hkn (fun q q1 q2 => fr9 q (by omega) q2 (by omega))) (Nat.le_refl _) (by exact ((zup_nf (by omega)).trans (rfl))) (fun i hi q a1 a2 => by have := c3 i hi; exact ((zup_nf (by omega)).trans (rfl)))) (fun i hi => by
        have := c3 i (by omega)
        by_cases e9 : i = k1
        · subst e9; exact baAt.frame (h := hh57) pb9 (zbas_facts hp hs hwd.1 hwd.2.2.1).1 (fun q a1 a2 => ((zup_nf (by omega)).trans (rfl)))
        · have := c4 i k1 (by omega) hkn
          exact (jk i (by omega)).frame (zbas_facts hp hs (zfw_bd hp hs i).1 (zfw_bd hp hs i).2.2.1).1 (fun q a1 a2 => ((zup_nf (by omega)).trans (fr9 q (by omega) (by omega) (by omega))))) (elAt.frame (h := hh57) pe_57 (fun q a1 a2 => ((zup_nf (by omega)).trans (rfl)))) ⟨_, _, _, (zup_ne (by omega) ((fr9 r (by omega) (by omega) (by omega)).trans jod))⟩ (fun q q1 q2 q3 q4 q5 q6 => by
        have hq9 : q < cb2 k1 ∨ cb2 k1 + 15 ≤ q := by
          by_cases e9 : k1 < nb
          · rw [jcb k1 e9]; exact q6 k1 e9
          · exact Or.inl (hnw q q1 (by omega))
        exact ((zup_nf (by omega)).trans ((fr9 q (by omega) hq9 q4).trans (jfr q q1 q2 q3 q4 q5 q6))))
  refine T_iload_n dX2_refresh_17 rfl ?_
  refine T_bipush dX2_refresh_18 (by decide) ?_
  refine T_icmp_ge dX2_refresh_20 (t := 99) rfl (fun hc => absurd hc (by omega)) (fun _ => ?_)
  refine T_aload_n dX2_refresh_23 rfl ?_
  refine T_getfield dX2_refresh_24 zkf_3_17 gF0 rfl ?_
  refine T_iload_n dX2_refresh_27 rfl ?_
  refine T_aaloadN (m := k1) (r := cf k1) dX2_refresh_28 c2 rfl (by omega) rfl ?_
  refine T_ifnonnull dX2_refresh_29 (t := 45) rfl (fun _ o29 => ?_) (fun o29 => ?_)
  · exact J45 nb1 cb1 n1 kk1 _ gF0 gco0 gel god gk gfr (by
          refine Nat.lt_of_not_le fun hx => ?_
          rw [hcf k1 (by omega), if_neg (by omega)] at o29
          cases o29) hnb.1 hcb hn1 hkk (fun q q1 q2 => by
          have hx : k1 < nb1 := by
            refine Nat.lt_of_not_le fun hx => ?_
            rw [hcf k1 (by omega), if_neg (by omega)] at o29
            cases o29
          have := hnx k1 q2 hx; omega) hnx
  · refine T_aload_n dX2_refresh_32 rfl ?_
    refine T_getfield dX2_refresh_33 zkf_3_17 gF0 rfl ?_
    refine T_iload_n dX2_refresh_36 rfl ?_
    refine T_new (sz := 5) (fs := [.inr none, .inl 0, .inr none, .inl 0, .inl 0]) dX2_refresh_37 zkk_3_15 (Nat.le_of_ble_eq_true rfl) rfl rfl ?_
    refine T_dup dX2_refresh_40 ?_
    refine T_callI dX2_refresh_41 zkm_3_27 (Or.inl rfl) rfl ⟨Nat.le_of_ble_eq_true rfl, rfl⟩ rfl (Nat.le_of_ble_eq_true rfl) ?_
    refine m_X7_init zup_self (by omega) (fun hh41 f41a f41b f41c f41d f41e f41f f41g f41h f41i f41j f41k f41l f41m f41n f41o fr41 => ?_)
    refine T_aastoreN (m := k1) dX2_refresh_44 ((fr41 _ (by omega) (by omega) (by omega) (by omega) (by omega) (by omega) (by omega) (by omega) (by omega) (by omega) (by omega) (by omega) (by omega) (by omega) (by omega)).trans (zup_ne (by omega) c2)) f41a (Nat.le_of_ble_eq_true rfl) rfl (by omega) (by omega) ?_
    have ek : k1 = nb1 := by
      refine Classical.byContradiction fun hx => ?_
      rw [hcf k1 (by omega), if_pos (by omega)] at o29
      cases o29
    exact J45 (nb1 + 1) (zfu cb1 nb1 n1) (n1 + 15) _ _ (zup_ne (by omega) ((fr41 _ (by omega) (by omega) (by omega) (by omega) (by omega) (by omega) (by omega) (by omega) (by omega) (by omega) (by omega) (by omega) (by omega) (by omega) (by omega)).trans (zup_ne (by omega) gF0))) (gco0.push (cf := cf) (by omega) (by omega) hst.1 hcf (by rw [← ek]; exact zup_self) (Nat.zero_le 4) (baAt.fresh (zup_ne (by omega) f41a) (zup_ne (by omega) f41b) (fun _ _ => rfl) (zup_ne (by omega) f41c) (fun i hi => by
          rcases (show i = 0 ∨ i = 1 ∨ i = 2 ∨ i = 3 by omega) with rfl | rfl | rfl | rfl <;> rfl) (fun i hi => by
          rcases (show i = 0 ∨ i = 1 ∨ i = 2 ∨ i = 3 by omega) with rfl | rfl | rfl | rfl
          · exact ⟨0, 0, _, _, (zup_ne (by omega) f41d), (zup_ne (by omega) f41e), (zup_ne (by omega) f41f)⟩
          · exact ⟨0, 0, _, _, (zup_ne (by omega) f41g), (zup_ne (by omega) f41h), (zup_ne (by omega) f41i)⟩
          · exact ⟨0, 0, _, _, (zup_ne (by omega) f41j), (zup_ne (by omega) f41k), (zup_ne (by omega) f41l)⟩
          · exact ⟨0, 0, _, _, (zup_ne (by omega) f41m), (zup_ne (by omega) f41n), (zup_ne (by omega) f41o)⟩)) (fun q q1 q2 => ((zup_nf (by omega)).trans (((fr41 _ (by omega) (by omega) (by omega) (by omega) (by omega) (by omega) (by omega) (by omega) (by omega) (by omega) (by omega) (by omega) (by omega) (by omega) (by omega)).trans (((zup_nf (by omega)).trans (rfl)))))))) (gel.frame (fun q a1 a2 => ((zup_nf (by omega)).trans (((fr41 _ (by omega) (by omega) (by omega) (by omega) (by omega) (by omega) (by omega) (by omega) (by omega) (by omega) (by omega) (by omega) (by omega) (by omega) (by omega)).trans (((zup_nf (by omega)).trans (rfl)))))))) (zup_ne (by omega) ((fr41 _ (by omega) (by omega) (by omega) (by omega) (by omega) (by omega) (by omega) (by omega) (by omega) (by omega) (by omega) (by omega) (by omega) (by omega) (by omega)).trans (zup_ne (by omega) god))) (fun i hi => by
          have := c3 i (by omega)
          rw [zfu_ne (show i ≠ nb1 by omega)]
          exact (gk i hi).frame (zbas_facts hp hs (zfw_bd hp hs i).1 (zfw_bd hp hs i).2.2.1).1 (fun q a1 a2 => ((zup_nf (by omega)).trans (((fr41 _ (by omega) (by omega) (by omega) (by omega) (by omega) (by omega) (by omega) (by omega) (by omega) (by omega) (by omega) (by omega) (by omega) (by omega) (by omega)).trans (((zup_nf (by omega)).trans (rfl)))))))) (fun q q1 q2 q3 q4 q5 q6 => ((zup_nf (by omega)).trans (((fr41 _ (by omega) (by omega) (by omega) (by omega) (by omega) (by omega) (by omega) (by omega) (by omega) (by omega) (by omega) (by omega) (by omega) (by omega) (by omega)).trans (((zup_nf (by omega)).trans (gfr q q1 q2 q3 q4 q5 q6))))))) (by omega) (by omega) (fun i hi => by rw [zfu_ne (by omega)]; exact hcb i hi) (by omega) (by omega) (fun q q1 q2 => by rw [ek, zfu_self]; omega) (fun i h1 h2 => by
          by_cases e9 : i = nb1
          · rw [e9, zfu_self]; exact hn1.1
          · rw [zfu_ne e9]; exact hnx i h1 (by omega))
set_option maxHeartbeats 4000000 in
set_option maxRecDepth 100000 in
theorem m_X2_refresh0 {n0 n k : Nat} {g : Nat → zV} {h : zHp} {Q : Option zV → Nat → Nat → zHp → Prop} {f r e pb s s0 nb lo : Nat} {cb : Nat → Nat} {p u v tie sz : Int} {xs ys X Y : Nat → Int} {E0 : eT} (hP0 : h pb = some (.inl (6, [.inl p, .inl (s : Int), .inr (some (pb + 1)), .inr (some (pb + 2))]))) (hP1 : h (pb + 1) = some (.inr (.inl (0, 8, xs)))) (hP2 : h (pb + 2) = some (.inr (.inl (0, 8, ys)))) (hOd : h r = some (.inl (5, [.inl u, .inl v, .inl tie]))) (hF0 : h f = some (.inl (3, [.inl sz, .inr (some (f + 1))]))) (hs : s ≤ 8) (hp : zprime p) (hX : ∀ k, k < s → xs k = X k ∧ ys k = Y k) (hXb : ∀ k, k < s → (0 ≤ X k ∧ X k < p) ∧ (0 ≤ Y k ∧ Y k < p)) (hw : n0 ≤ f ∧ n0 ≤ e ∧ n0 ≤ r ∧ n0 ≤ lo) (hst : f + 2 ≤ lo ∧ e + 23 ≤ lo ∧ pb + 3 ≤ lo ∧ r < lo ∧ lo ≤ n) (hd : (f + 2 ≤ e ∨ e + 23 ≤ f) ∧ (f + 2 ≤ pb ∨ pb + 3 ≤ f) ∧ (r < f ∨ f + 2 ≤ r) ∧ (r < e ∨ e + 23 ≤ r) ∧ (r < pb ∨ pb + 3 ≤ r) ∧ (pb + 3 ≤ e ∨ e + 23 ≤ pb)) (hel : elAt h e pb s0 E0) (hco : coAt h f lo n nb cb) (hsz : sz ≤ 0) (hQ : ∀ (nb' : Nat) (cb' : Nat → Nat) (n' k' : Nat) (E' : eT) (h' : zHp), (nb ≤ nb' ∧ zfN p s X Y ≤ nb') → (∀ i, i < nb → cb' i = cb i) → (n ≤ n' ∧ n' ≤ n + 15 * (nb' - nb)) → (k' ≤ k + 110 * (nb' - nb)) → (∀ i, nb ≤ i → i < nb' → n ≤ cb' i) → (h' f = some (.inl (3, [.inl (zfN p s X Y : Int), .inr (some (f + 1))]))) → (coAt h' f lo n' nb' cb') → (∀ i, i < zfN p s X Y → bsAt h' (cb' i) (zfb p s X Y i) (zfl p s X Y i)) → (elAt h' e pb s E') → (∃ u v t : Int, h' r = some (.inl (5, [.inl u, .inl v, .inl t]))) → (∀ q : Nat, q < n → q ≠ f → q ≠ f + 1 → (q < e ∨ e + 23 ≤ q) → q ≠ r → (∀ i, i < nb → q < cb i ∨ cb i + 15 ≤ q) → h' q = h q) → Q none n' k' h') : ZT n0 g mX2_refresh 0 (zloc mX2_refresh [.inr (some f), .inr (some r), .inr (some e)]) [] n k h Q := by
  show ZT n0 g mX2_refresh 0 [some (.inr (some f)), some (.inr (some r)), some (.inr (some e)), none, none] [] n k h Q
  refine T_aload_n dX2_refresh_0 rfl ?_
  refine T_getfield dX2_refresh_1 zkf_3_9 hF0 rfl ?_
  refine T_if_le dX2_refresh_4 (t := 8) rfl (fun _ => ?_) (fun hc => absurd hc (by omega))
  refine T_aload_n dX2_refresh_8 rfl ?_
  refine T_iconst dX2_refresh_9 (by decide) ?_
  refine T_iconst dX2_refresh_10 (by decide) ?_
  refine T_iconst dX2_refresh_11 (by decide) ?_
  refine T_callV dX2_refresh_12 zkm_3_21 (Or.inl rfl) rfl hOd ⟨Nat.le_of_ble_eq_true rfl, rfl⟩ rfl (Nat.le_of_ble_eq_true rfl) ?_
  refine m_X4_choose hOd (by omega) (fun hh12 f12a fr12 => ?_)
  refine T_iconst dX2_refresh_15 (by decide) ?_
  refine T_istore_n dX2_refresh_16 (Nat.le_of_ble_eq_true rfl) ?_
  exact m_X2_refresh0_17 hP0 hP1 hP2 hOd hF0 hs hp hX hXb hw hst hd hel hco hsz hQ _ 0 nb cb s0 E0 sz n k _ rfl _ ((fr12 _ (by omega)).trans hF0) (hco.frame (Nat.le_refl _) (by exact ((fr12 _ (by omega)).trans (rfl))) (fun i hi q a1 a2 => by have := hco.2.2.1 i hi; exact ((fr12 _ (by omega)).trans (rfl)))) (hel.frame (fun q a1 a2 => ((fr12 _ (by omega)).trans (rfl)))) f12a (fun i hi => absurd hi (Nat.not_lt_zero i)) (fun q q1 q2 q3 q4 q5 q6 => ((fr12 _ (by omega)).trans (rfl))) (zfN_is (xs := X) (ys := Y) hp hs).1 (by omega) (fun _ _ => rfl) (by omega) (by omega) (fun i h1 h2 => by omega) 
