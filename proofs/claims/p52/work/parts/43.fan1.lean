/-! ===== Fan made; Fan.forget; Fan.refresh (a fan that is not there): printed by wip/whole/gen/s_fan1.py ===== -/
set_option maxHeartbeats 4000000 in
set_option maxRecDepth 100000 in
theorem m_X2_init_20 {n0 k : Nat} {g : Nat → zV} {h : zHp} {Q : Option zV → Nat → Nat → zHp → Prop} {f : Nat} (h0 : h f = some (.inl (3, [.inl 0, .inr none]))) (hw : n0 ≤ f) (hQ : ∀  (h' : zHp), (h' f = some (.inl (3, [.inl 0, .inr (some (f + 1))]))) → (∀ lo n' : Nat, coAt h' f lo n' 22 (fun i => f + 2 + 15 * i)) → (∀ q : Nat, q < f → h' q = h q) → Q none (f + 332) (k + 2354) h') : ∀ (d : Nat) (j : Nat) (n1 : Nat) (kk1 : Nat), 22 - j = d → ∀ h1 : zHp, (h1 f = some (.inl (3, [.inl 0, .inr (some (f + 1))]))) → (∃ cf : Nat → Option Nat, h1 (f + 1) = some (.inr (.inr (8, 22, cf))) ∧ ∀ i, i < j → cf i = some (f + 2 + 15 * i)) → (∀ i, i < j → baAt h1 (f + 2 + 15 * i) (fun _ => 0) 0 (fun _ => 0) (fun _ _ => 0) 0 0) → (∀ q : Nat, q < f → h1 q = h q) → (j ≤ 22) → (n1 = f + 2 + 15 * j) → (kk1 = k + 22 + 106 * j) → ZT n0 g mX2_init 20 [some (.inr (some f)), some (.inl (j : Int))] [] n1 kk1 h1 Q := by
  intro d
  induction d using Nat.strongRecOn with | _ d ih => ?_
  intro j n1 kk1 hd0 h1 g0 g1 g2 gfr hj hn1 hk1
  subst hd0
  obtain ⟨cf, g1, hcf⟩ := g1
  refine T_iload_n dX2_init_20 rfl ?_
  refine T_bipush dX2_init_21 (by decide) ?_
  refine T_icmp_ge dX2_init_23 (t := 45) rfl (fun c23 => ?_) (fun c23 => ?_)
  · refine T_vret dX2_init_45 rfl ?_
    have ej : j = 22 := by omega
    subst ej
    have en : n1 = f + 332 := by omega
    have ek : kk1 = k + 2354 := by omega
    rw [en, ek]
    exact hQ h1 g0 (fun lo n' => ⟨rfl, ⟨cf, g1, hcf⟩, fun i hi => ⟨by show f + 2 ≤ f + 2 + 15 * i; omega, by show f + 2 + 15 * i + 15 ≤ f + 332; omega⟩, fun i j hij hj => by show f + 2 + 15 * i + 15 ≤ f + 2 + 15 * j; omega, fun i hi => ⟨_, _, _, _, _, _, Nat.zero_le 4, g2 i hi⟩⟩) gfr
  · refine T_aload_n dX2_init_26 rfl ?_
    refine T_getfield dX2_init_27 zkf_3_17 g0 rfl ?_
    refine T_iload_n dX2_init_30 rfl ?_
    refine T_new (sz := 5) (fs := [.inr none, .inl 0, .inr none, .inl 0, .inl 0]) dX2_init_31 zkk_3_15 (Nat.le_of_ble_eq_true rfl) rfl rfl ?_
    refine T_dup dX2_init_34 ?_
    refine T_callI dX2_init_35 zkm_3_21 (Or.inl rfl) rfl ⟨Nat.le_of_ble_eq_true rfl, rfl⟩ rfl (Nat.le_of_ble_eq_true rfl) ?_
    refine m_X7_init zup_self (by omega) (fun hh35 f35a f35b f35c f35d f35e f35f f35g f35h f35i f35j f35k f35l f35m f35n f35o fr35 => ?_)
    refine T_aastoreN (m := j) dX2_init_38 ((fr35 _ (by omega) (by omega) (by omega) (by omega) (by omega) (by omega) (by omega) (by omega) (by omega) (by omega) (by omega) (by omega) (by omega) (by omega) (by omega)).trans (zup_ne (by omega) g1)) f35a (Nat.le_of_ble_eq_true rfl) rfl (by omega) (by omega) ?_
    refine T_iinc dX2_init_39 rfl ⟨by omega, by omega⟩ ?_
    refine T_goto dX2_init_42 (t := 20) rfl ?_
    exact ih _ (by omega) (j + 1) _ _ rfl _ (zup_ne (by omega) ((fr35 _ (by omega) (by omega) (by omega) (by omega) (by omega) (by omega) (by omega) (by omega) (by omega) (by omega) (by omega) (by omega) (by omega) (by omega) (by omega)).trans (zup_ne (by omega) g0))) ⟨_, zup_self, fun i hi => by
          by_cases e9 : i = j
          · subst e9; rw [zfu_self, hn1]
          · rw [zfu_ne e9]; exact hcf i (by omega)⟩ (fun i hi => by
          by_cases e9 : i = j
          · subst e9; rw [← hn1]; exact (baAt.fresh (zup_ne (by omega) f35a) (zup_ne (by omega) f35b) (fun _ _ => rfl) (zup_ne (by omega) f35c) (fun i hi => by
          rcases (show i = 0 ∨ i = 1 ∨ i = 2 ∨ i = 3 by omega) with rfl | rfl | rfl | rfl <;> rfl) (fun i hi => by
          rcases (show i = 0 ∨ i = 1 ∨ i = 2 ∨ i = 3 by omega) with rfl | rfl | rfl | rfl
          · exact ⟨0, 0, _, _, (zup_ne (by omega) f35d), (zup_ne (by omega) f35e), (zup_ne (by omega) f35f)⟩
          · exact ⟨0, 0, _, _, (zup_ne (by omega) f35g), (zup_ne (by omega) f35h), (zup_ne (by omega) f35i)⟩
          · exact ⟨0, 0, _, _, (zup_ne (by omega) f35j), (zup_ne (by omega) f35k), (zup_ne (by omega) f35l)⟩
          · exact ⟨0, 0, _, _, (zup_ne (by omega) f35m), (zup_ne (by omega) f35n), (zup_ne (by omega) f35o)⟩))
          · exact (g2 i (by omega)).frame (Nat.zero_le 4) (fun q a1 a2 => ((zup_nf (by omega)).trans (((fr35 _ (by omega) (by omega) (by omega) (by omega) (by omega) (by omega) (by omega) (by omega) (by omega) (by omega) (by omega) (by omega) (by omega) (by omega) (by omega)).trans (((zup_nf (by omega)).trans (rfl)))))))) (fun q q1 => ((zup_nf (by omega)).trans (((fr35 _ (by omega) (by omega) (by omega) (by omega) (by omega) (by omega) (by omega) (by omega) (by omega) (by omega) (by omega) (by omega) (by omega) (by omega) (by omega)).trans (((zup_nf (by omega)).trans (gfr q q1))))))) (by omega) (by omega) (by omega) 
set_option maxHeartbeats 4000000 in
set_option maxRecDepth 100000 in
theorem m_X2_init {n0 k : Nat} {g : Nat → zV} {h : zHp} {Q : Option zV → Nat → Nat → zHp → Prop} {f : Nat} (h0 : h f = some (.inl (3, [.inl 0, .inr none]))) (hw : n0 ≤ f) (hQ : ∀  (h' : zHp), (h' f = some (.inl (3, [.inl 0, .inr (some (f + 1))]))) → (∀ lo n' : Nat, coAt h' f lo n' 22 (fun i => f + 2 + 15 * i)) → (∀ q : Nat, q < f → h' q = h q) → Q none (f + 332) (k + 2354) h') : ZT n0 g mX2_init 0 (zloc mX2_init [.inr (some f)]) [] (f + 1) k h Q := by
  show ZT n0 g mX2_init 0 [some (.inr (some f)), none] [] (f + 1) k h Q
  refine T_aload_n dX2_init_0 rfl ?_
  refine T_objinit dX2_init_1 zkm_3_3 ⟨Nat.le_of_ble_eq_true rfl, Nat.le_of_ble_eq_true rfl, Nat.le_of_ble_eq_true rfl⟩ ?_
  refine T_aload_n dX2_init_4 rfl ?_
  refine T_iconst dX2_init_5 (by decide) ?_
  refine T_putfield dX2_init_6 zkf_3_9 h0 (Nat.le_of_ble_eq_true rfl) (by omega) rfl (fun _ => ⟨rfl, rfl⟩) rfl ?_
  refine T_aload_n dX2_init_9 rfl ?_
  refine T_bipush dX2_init_10 (by decide) ?_
  refine T_anewarrayN (m := 22) dX2_init_12 zkk_3_15 (by decide) rfl (Nat.le_of_ble_eq_true rfl) ?_
  refine T_putfield dX2_init_15 zkf_3_17 (zup_ne (by omega) zup_self) (Nat.le_of_ble_eq_true rfl) (by omega) rfl (fun _ => ⟨rfl, rfl⟩) rfl ?_
  refine T_iconst dX2_init_18 (by decide) ?_
  refine T_istore_n dX2_init_19 (Nat.le_of_ble_eq_true rfl) ?_
  exact m_X2_init_20 h0 hw hQ _ 0 _ _ rfl _ zup_self ⟨_, (zup_ne (by omega) zup_self), fun i hi => absurd hi (Nat.not_lt_zero i)⟩ (fun i hi => absurd hi (Nat.not_lt_zero i)) (fun q q1 => ((zup_nf (by omega)).trans (((zup_nf (by omega)).trans (((zup_nf (by omega)).trans (rfl))))))) (Nat.zero_le _) (by omega) (by omega) 
set_option maxHeartbeats 4000000 in
set_option maxRecDepth 100000 in
theorem m_X2_forget {n0 n k : Nat} {g : Nat → zV} {h : zHp} {Q : Option zV → Nat → Nat → zHp → Prop} {f : Nat} {sz : Int} (hF0 : h f = some (.inl (3, [.inl sz, .inr (some (f + 1))]))) (hw : n0 ≤ f) (hQ : ∀  (h' : zHp), h' f = some (.inl (3, [.inl 0, .inr (some (f + 1))])) → (∀ q : Nat, q ≠ f → h' q = h q) → Q none n k h') : ZT n0 g mX2_forget 0 (zloc mX2_forget [.inr (some f)]) [] n k h Q := by
  show ZT n0 g mX2_forget 0 [some (.inr (some f))] [] n k h Q
  refine T_aload_n dX2_forget_0 rfl ?_
  refine T_iconst dX2_forget_1 (by decide) ?_
  refine T_putfield dX2_forget_2 zkf_3_9 hF0 (Nat.le_of_ble_eq_true rfl) (by omega) rfl (fun hf => absurd hf (by decide)) rfl ?_
  refine T_vret dX2_forget_5 rfl ?_
  exact hQ _ zup_self (fun q q0 => ((zup_nf q0).trans rfl))
set_option maxHeartbeats 4000000 in
set_option maxRecDepth 100000 in
theorem m_X2_refresh0_17 {n0 n k : Nat} {g : Nat → zV} {h : zHp} {Q : Option zV → Nat → Nat → zHp → Prop} {f r e pb s s0 nb lo : Nat} {cb : Nat → Nat} {p u v tie sz : Int} {xs ys X Y : Nat → Int} {E0 : eT} (hP0 : h pb = some (.inl (6, [.inl p, .inl (s : Int), .inr (some (pb + 1)), .inr (some (pb + 2))]))) (hP1 : h (pb + 1) = some (.inr (.inl (0, 8, xs)))) (hP2 : h (pb + 2) = some (.inr (.inl (0, 8, ys)))) (hOd : h r = some (.inl (5, [.inl u, .inl v, .inl tie]))) (hF0 : h f = some (.inl (3, [.inl sz, .inr (some (f + 1))]))) (hs : s ≤ 8) (hp : zprime p) (hX : ∀ k, k < s → xs k = X k ∧ ys k = Y k) (hXb : ∀ k, k < s → (0 ≤ X k ∧ X k < p) ∧ (0 ≤ Y k ∧ Y k < p)) (hw : n0 ≤ f ∧ n0 ≤ e ∧ n0 ≤ r) (hst : e + 23 ≤ f ∧ pb + 3 ≤ f ∧ r < f) (hd : (r < e ∨ e + 23 ≤ r) ∧ (r < pb ∨ pb + 3 ≤ r) ∧ (pb + 3 ≤ e ∨ e + 23 ≤ pb)) (hel : elAt h e pb s0 E0) (hco : coAt h f lo n nb cb) (hsz : sz ≤ 0) (hQ : ∀ (E' : eT) (h' : zHp), (h' f = some (.inl (3, [.inl (zfN p s X Y : Int), .inr (some (f + 1))]))) → (coAt h' f lo n nb cb) → (∀ i, i < zfN p s X Y → bsAt h' (cb i) (zfb p s X Y i) (zfl p s X Y i)) → (elAt h' e pb s E') → (∃ u v t : Int, h' r = some (.inl (5, [.inl u, .inl v, .inl t]))) → (∀ q : Nat, q ≠ f → q ≠ f + 1 → (q < e ∨ e + 23 ≤ q) → q ≠ r → (∀ i, i < nb → q < cb i ∨ cb i + 15 ≤ q) → h' q = h q) → Q none n k h') : ∀ (d : Nat) (k1 : Nat) (s1 : Nat) (E1 : eT) (sz1 : Int) (L4 : Option zV), 22 - k1 = d → ∀ h1 : zHp, (h1 f = some (.inl (3, [.inl sz1, .inr (some (f + 1))]))) → (coAt h1 f lo n nb cb) → (elAt h1 e pb s1 E1) → (h1 r = some (.inl (5, [.inl (zfw p s X Y k1).1, .inl (zfw p s X Y k1).2, .inl 1]))) → (∀ i, i < k1 → bsAt h1 (cb i) (zfb p s X Y i) (zfl p s X Y i)) → (∀ q : Nat, q ≠ f → q ≠ f + 1 → (q < e ∨ e + 23 ≤ q) → q ≠ r → (∀ i, i < nb → q < cb i ∨ cb i + 15 ≤ q) → h1 q = h q) → (k1 < zfN p s X Y) → ZT n0 g mX2_refresh 17 [some (.inr (some f)), some (.inr (some r)), some (.inr (some e)), some (.inl (k1 : Int)), L4] [] n k h1 Q := by
  intro d
  induction d using Nat.strongRecOn with | _ d ih => ?_
  intro k1 s1 E1 sz1 L4 hd0 h1 gF0 gco gel god gk gfr hk
  subst hd0
  have hN := zfN_is (xs := X) (ys := Y) hp hs
  have hN23 := hN.2.1
  have hwd := zfw_bd (xs := X) (ys := Y) hp hs k1
  have hlf := zfl_facts (xs := X) (ys := Y) hp hs k1
  have gco0 := gco
  obtain ⟨c1, ⟨cf, c2, hcf⟩, c3, c4, c5⟩ := gco
  obtain ⟨H0, c0, cm0, ce0, wt0, wb0, hc04, hba0⟩ := c5 k1 (by omega)
  have hck := c3 k1 (by omega)
  obtain ⟨hf, rf, pi, b0, -⟩ := id hba0
  refine T_iload_n dX2_refresh_17 rfl ?_
  refine T_bipush dX2_refresh_18 (by decide) ?_
  refine T_icmp_ge dX2_refresh_20 (t := 77) rfl (fun hc => absurd hc (by omega)) (fun _ => ?_)
  refine T_aload_n dX2_refresh_23 rfl ?_
  refine T_getfield dX2_refresh_24 zkf_3_17 gF0 rfl ?_
  refine T_iload_n dX2_refresh_27 rfl ?_
  refine T_aaloadN (m := k1) (r := some (cb k1)) dX2_refresh_28 c2 rfl (by omega) (hcf _ (by omega)) ?_
  refine T_astore dX2_refresh_29 (Nat.le_of_ble_eq_true rfl) ?_
  refine T_aload dX2_refresh_31 rfl ?_
  refine T_aload_n dX2_refresh_33 rfl ?_
  refine T_aload_n dX2_refresh_34 rfl ?_
  refine T_callV dX2_refresh_35 zkm_3_28 (Or.inl rfl) rfl b0 ⟨Nat.le_of_ble_eq_true rfl, rfl⟩ rfl (Nat.le_of_ble_eq_true rfl) ?_
  refine m_X7_compute (X := X) (Y := Y) ((gfr _ (by omega) (by omega) (by omega) (by omega) (fun i hi => by have := c3 i hi; omega)).trans hP0) ((gfr _ (by omega) (by omega) (by omega) (by omega) (fun i hi => by have := c3 i hi; omega)).trans hP1) ((gfr _ (by omega) (by omega) (by omega) (by omega) (fun i hi => by have := c3 i hi; omega)).trans hP2) god hs hp hX hXb ⟨by omega, by omega, by omega, by omega⟩ (by omega) (by omega) gel hba0 (fun w35 E'35 hh35 k35a pb_35 pe_35 pf_35 => ?_)
  have ew : w35 = (zfl p s X Y k1) := zwl_eq (D := (zfb p s X Y k1)) k35a
  subst ew
  have pb9 : bsAt hh35 (cb k1) (zfb p s X Y k1) (zfl p s X Y k1) := pb_35
  obtain ⟨hf, rf, pi, b0, -⟩ := id pb_35
  have fr9 : ∀ q, (q < cb k1 ∨ cb k1 + 15 ≤ q) → (q < e ∨ e + 23 ≤ q) → hh35 q = h1 q := fun q q2 q3 => pf_35 q q2 q3
  refine T_aload_n dX2_refresh_38 rfl ?_
  refine T_iload_n dX2_refresh_39 rfl ?_
  refine T_iconst dX2_refresh_40 (by decide) ?_
  refine T_iadd dX2_refresh_41 ⟨by omega, by omega⟩ ?_
  refine T_putfield dX2_refresh_42 zkf_3_9 ((fr9 f (by omega) (by omega)).trans gF0) (Nat.le_of_ble_eq_true rfl) (by omega) rfl (fun hf => absurd hf (by decide)) rfl ?_
  refine T_aload dX2_refresh_45 rfl ?_
  refine T_callV dX2_refresh_47 zkm_3_32 (Or.inl rfl) rfl (zup_ne (by omega) b0) ⟨Nat.le_of_ble_eq_true rfl, rfl⟩ rfl (Nat.le_of_ble_eq_true rfl) ?_
  refine m_X7_hasWall (wb := ((zfl p s X Y k1).2 : Int)) (wt := ((zfl p s X Y k1).1 : Int)) (c := (zfb p s X Y k1).2.1) (zup_ne (by omega) b0)  (fun k47a => ?_) (fun k47a_2 => ?_)
  · refine T_if_ne dX2_refresh_50 (t := 56) rfl (fun _ => ?_) (fun hc => absurd hc (by decide))
    refine T_aload_n dX2_refresh_56 rfl ?_
    refine T_aload dX2_refresh_57 rfl ?_
    refine T_getfield dX2_refresh_59 zkf_3_36 (zup_ne (by omega) b0) rfl ?_
    refine T_aload dX2_refresh_62 rfl ?_
    refine T_getfield dX2_refresh_64 zkf_3_39 (zup_ne (by omega) b0) rfl ?_
    refine T_iconst dX2_refresh_67 (by decide) ?_
    refine T_callV dX2_refresh_68 zkm_3_22 (Or.inl rfl) rfl (zup_ne (by omega) ((fr9 r (by omega) (by omega)).trans god)) ⟨Nat.le_of_ble_eq_true rfl, rfl⟩ rfl (Nat.le_of_ble_eq_true rfl) ?_
    refine m_X4_choose (zup_ne (by omega) ((fr9 r (by omega) (by omega)).trans god)) (by omega) (fun hh68 f68a fr68 => ?_)
    refine T_iinc dX2_refresh_71 rfl ⟨by omega, by omega⟩ ?_
    refine T_goto dX2_refresh_74 (t := 17) rfl ?_
    exact ih _ (by omega) (k1 + 1) s E'35 _ _ rfl _ ((fr68 _ (by omega)).trans zup_self) (coAt.frame (h := hh35) (gco0.upd (h' := hh35) (zbas_facts hp hs hwd.1 hwd.2.2.1).1 pb9 (by omega) (fun q q1 q2 => fr9 q q2 (by omega))) (Nat.le_refl _) (by exact ((fr68 _ (by omega)).trans (((zup_nf (by omega)).trans (rfl))))) (fun i hi q a1 a2 => by have := c3 i hi; exact ((fr68 _ (by omega)).trans (((zup_nf (by omega)).trans (rfl)))))) (elAt.frame (h := hh35) pe_35 (fun q a1 a2 => ((fr68 _ (by omega)).trans (((zup_nf (by omega)).trans (rfl)))))) f68a (fun i hi => by
          have := c3 i (by omega)
          by_cases e9 : i = k1
          · subst e9; exact baAt.frame (h := hh35) pb9 (zbas_facts hp hs hwd.1 hwd.2.2.1).1 (fun q a1 a2 => ((fr68 _ (by omega)).trans (((zup_nf (by omega)).trans (rfl)))))
          · have := c4 i k1 (by omega) (by omega)
            exact (gk i (by omega)).frame (zbas_facts hp hs (zfw_bd hp hs i).1 (zfw_bd hp hs i).2.2.1).1 (fun q a1 a2 => ((fr68 _ (by omega)).trans (((zup_nf (by omega)).trans (fr9 q (by omega) (by omega))))))) (fun q q1 q2 q3 q4 q5 => by
          have hq9 := q5 k1 (by omega)
          exact ((fr68 _ (by omega)).trans (((zup_nf (by omega)).trans ((fr9 q hq9 q3).trans (gfr q q1 q2 q3 q4 q5)))))) (by
          by_cases e9 : k1 + 1 = zfN p s X Y
          · have := hN.2.2.2; rw [← e9, Nat.add_sub_cancel] at this; omega
          · omega) 
  · refine T_if_ne dX2_refresh_50 (t := 56) rfl (fun hc => absurd hc (by decide)) (fun _ => ?_)
    refine T_goto dX2_refresh_53 (t := 77) rfl ?_
    refine T_vret dX2_refresh_77 rfl ?_
    have eN : k1 + 1 = zfN p s X Y := by
      by_cases e9 : k1 + 1 < zfN p s X Y
      · have := hN.2.2.1 k1 e9; omega
      · omega
    exact hQ E'35 _ (by rw [← eN]; exact zup_self) (coAt.frame (h := hh35) (gco0.upd (h' := hh35) (zbas_facts hp hs hwd.1 hwd.2.2.1).1 pb9 (by omega) (fun q q1 q2 => fr9 q q2 (by omega))) (Nat.le_refl _) (by exact ((zup_nf (by omega)).trans (rfl))) (fun i hi q a1 a2 => by have := c3 i hi; exact ((zup_nf (by omega)).trans (rfl)))) (fun i hi => (show ∀ i, i < k1 + 1 → bsAt _ (cb i) (zfb p s X Y i) (zfl p s X Y i) from fun i hi => by
      have := c3 i (by omega)
      by_cases e9 : i = k1
      · subst e9; exact baAt.frame (h := hh35) pb9 (zbas_facts hp hs hwd.1 hwd.2.2.1).1 (fun q a1 a2 => ((zup_nf (by omega)).trans (rfl)))
      · have := c4 i k1 (by omega) (by omega)
        exact (gk i (by omega)).frame (zbas_facts hp hs (zfw_bd hp hs i).1 (zfw_bd hp hs i).2.2.1).1 (fun q a1 a2 => ((zup_nf (by omega)).trans (fr9 q (by omega) (by omega))))) i (by omega)) (elAt.frame (h := hh35) pe_35 (fun q a1 a2 => ((zup_nf (by omega)).trans (rfl)))) ⟨_, _, _, (zup_ne (by omega) ((fr9 r (by omega) (by omega)).trans god))⟩ (fun q q1 q2 q3 q4 q5 => by
      have hq9 := q5 k1 (by omega)
      exact ((zup_nf (by omega)).trans ((fr9 q hq9 q3).trans (gfr q q1 q2 q3 q4 q5))))
set_option maxHeartbeats 4000000 in
set_option maxRecDepth 100000 in
theorem m_X2_refresh0 {n0 n k : Nat} {g : Nat → zV} {h : zHp} {Q : Option zV → Nat → Nat → zHp → Prop} {f r e pb s s0 nb lo : Nat} {cb : Nat → Nat} {p u v tie sz : Int} {xs ys X Y : Nat → Int} {E0 : eT} (hP0 : h pb = some (.inl (6, [.inl p, .inl (s : Int), .inr (some (pb + 1)), .inr (some (pb + 2))]))) (hP1 : h (pb + 1) = some (.inr (.inl (0, 8, xs)))) (hP2 : h (pb + 2) = some (.inr (.inl (0, 8, ys)))) (hOd : h r = some (.inl (5, [.inl u, .inl v, .inl tie]))) (hF0 : h f = some (.inl (3, [.inl sz, .inr (some (f + 1))]))) (hs : s ≤ 8) (hp : zprime p) (hX : ∀ k, k < s → xs k = X k ∧ ys k = Y k) (hXb : ∀ k, k < s → (0 ≤ X k ∧ X k < p) ∧ (0 ≤ Y k ∧ Y k < p)) (hw : n0 ≤ f ∧ n0 ≤ e ∧ n0 ≤ r) (hst : e + 23 ≤ f ∧ pb + 3 ≤ f ∧ r < f) (hd : (r < e ∨ e + 23 ≤ r) ∧ (r < pb ∨ pb + 3 ≤ r) ∧ (pb + 3 ≤ e ∨ e + 23 ≤ pb)) (hel : elAt h e pb s0 E0) (hco : coAt h f lo n nb cb) (hsz : sz ≤ 0) (hQ : ∀ (E' : eT) (h' : zHp), (h' f = some (.inl (3, [.inl (zfN p s X Y : Int), .inr (some (f + 1))]))) → (coAt h' f lo n nb cb) → (∀ i, i < zfN p s X Y → bsAt h' (cb i) (zfb p s X Y i) (zfl p s X Y i)) → (elAt h' e pb s E') → (∃ u v t : Int, h' r = some (.inl (5, [.inl u, .inl v, .inl t]))) → (∀ q : Nat, q ≠ f → q ≠ f + 1 → (q < e ∨ e + 23 ≤ q) → q ≠ r → (∀ i, i < nb → q < cb i ∨ cb i + 15 ≤ q) → h' q = h q) → Q none n k h') : ZT n0 g mX2_refresh 0 (zloc mX2_refresh [.inr (some f), .inr (some r), .inr (some e)]) [] n k h Q := by
  show ZT n0 g mX2_refresh 0 [some (.inr (some f)), some (.inr (some r)), some (.inr (some e)), none, none] [] n k h Q
  have hc3 := hco.2.2.1
  refine T_aload_n dX2_refresh_0 rfl ?_
  refine T_getfield dX2_refresh_1 zkf_3_9 hF0 rfl ?_
  refine T_if_le dX2_refresh_4 (t := 8) rfl (fun _ => ?_) (fun hc => absurd hc (by omega))
  refine T_aload_n dX2_refresh_8 rfl ?_
  refine T_iconst dX2_refresh_9 (by decide) ?_
  refine T_iconst dX2_refresh_10 (by decide) ?_
  refine T_iconst dX2_refresh_11 (by decide) ?_
  refine T_callV dX2_refresh_12 zkm_3_22 (Or.inl rfl) rfl hOd ⟨Nat.le_of_ble_eq_true rfl, rfl⟩ rfl (Nat.le_of_ble_eq_true rfl) ?_
  refine m_X4_choose hOd (by omega) (fun hh12 f12a fr12 => ?_)
  refine T_iconst dX2_refresh_15 (by decide) ?_
  refine T_istore_n dX2_refresh_16 (Nat.le_of_ble_eq_true rfl) ?_
  exact m_X2_refresh0_17 hP0 hP1 hP2 hOd hF0 hs hp hX hXb hw hst hd hel hco hsz hQ _ 0 s0 E0 sz _ rfl _ ((fr12 _ (by omega)).trans hF0) (hco.frame (Nat.le_refl _) (by exact ((fr12 _ (by omega)).trans (rfl))) (fun i hi q a1 a2 => by have := hc3 i hi; exact ((fr12 _ (by omega)).trans (rfl)))) (hel.frame (fun q a1 a2 => ((fr12 _ (by omega)).trans (rfl)))) f12a (fun i hi => absurd hi (Nat.not_lt_zero i)) (fun q q1 q2 q3 q4 q5 => ((fr12 _ (by omega)).trans (rfl))) (zfN_is (xs := X) (ys := Y) hp hs).1 
